/-! ===== contracts: the class, what was foretold ===== -/
theorem i_div9 {x y : Int} (h1 : -2147483648 ≤ x) (h2 : x < 2147483648) (h3 : -2147483648 ≤ y) (h4 : y < 2147483648) : Int32.ofInt x / Int32.ofInt y = Int32.ofInt (x.tdiv y) := by
  apply Int32.toInt_inj.mp
  rw [Int32.toInt_div, i_t h1 h2, i_t h3 h4, Int32.toInt_ofInt]
theorem g_iremD {V : cg_V} {me : ae_M} {d q : Nat} {Rs : ae_R → Prop} {pc nx i1 i2 i3 pos : Nat} {lo : ae_L} {st : List ae_V} {w : List ae_C} {cs sl : Nat} {x y : Int} (h1 : -2147483648 ≤ x) (h2 : x < 2147483648) (h0 : 0 < y) (h4 : y < 2147483648) (hi : cg_at me pc = some (.irem, nx, i1, i2, i3, pos)) (k : ∀ z : Int, (0 ≤ x ∧ z = x % y) ∨ (x < 0 ∧ z = -((-x) % y)) → cg_G V me d q Rs nx lo (vI z :: st) w cs sl) : cg_G V me d q Rs pc lo (vI y :: vI x :: st) w cs sl := by
  refine cg_step hi ?_
  show cond (decide (nI (ae_c (Int32.ofInt y)) = 0)) none (ae_n (ae_c (nI (ae_c (Int32.ofInt x)) - nI (ae_c (Int32.ofInt x)) / nI (ae_c (Int32.ofInt y)) * nI (ae_c (Int32.ofInt y)))) (fun z => cg_ind (cg_G V me d q Rs) (cg_du me) nx lo (.inl (.inl z) :: st) w cs sl)) = _
  rw [ae_c_eq, ae_c_eq, decide_eq_false (i_ne (by omega) (by omega) h4)]
  rw [cond_false, ae_n_eq, i_div9 h1 h2 (by omega) h4, ← Int32.ofInt_mul, ← Int32.ofInt_sub]
  have e9 : x - x.tdiv y * y = x.tmod y := by rw [Int.mul_comm, Int.tmod_def]
  rw [e9]
  exact cg_pos (k _ (i_tmod h0))
theorem vR_ne (i : Nat) : vR i ≠ vE 0 := by
  intro h
  unfold vR vE at h
  cases h
theorem pth_ne {m : kM} {v : ae_V} (h : pth m v) : v ≠ vE 0 := by
  obtain ⟨i, j, x, n, f, h1, _⟩ := h
  rw [h1]
  exact vR_ne _
def nn (m m' : kM) : Prop := m'.2.2.1 0 = m.2.2.1 0 ∨ m'.2.2.1 0 ≠ vE 0
theorem c_tell5 {V : cg_V} {d q : Nat} (_ : 0 ≤ d) (_ : 0 ≤ q) {m : kM} (_ : kI m) {i : Int} {pi pj pn : Nat} {px : Int} {pf : Int → Int} (g2 : m.2.2.2[pi]? = some (.inr (4, [vI px, vR (76 + pj)]))) (g3 : m.2.2.2[pj]? = some (cI pn pf)) (g4 : pn ≤ 64512) (g5 : -1 ≤ px ∧ px ≤ 64512) (h_i : -2147483648 ≤ i ∧ i ≤ 2147483647) : cg_S V d q mX5_tell [vR (76 + pi), vI i] (kl m) (R_I (fun z m' => m = m' ∧ -2147483648 ≤ z ∧ z < 2147483648)) := by
  exact c_X5t ((kl_T m pi).trans g2) ((kl_T m pj).trans g3) g4 g5 h_i (fun z h1 h2 => ⟨z, m, rfl, rfl, h1, h2⟩)
theorem c_startFrom {V : cg_V} {d q : Nat} (hd : 1 ≤ d) (hq : 23 ≤ q) {m : kM} (hm : kI m) {s : Int} (h_s : 0 ≤ s ∧ s ≤ 524287) (h_kW : kW m) (h_kP : kP m) : cg_S V d q mX1_startFrom [vR 16, vI s] (kl m) (R_V (fun m' => (kI m') ∧ (fq [19] [29, 30] m m') ∧ (kW m') ∧ (kP m') ∧ (m'.2.2.1 0 = vE 0))) := by
  have hf0 : fq [19] [29, 30] m m := fq_rf m
  refine cg_of (List.mem_of_getElem? (show ae_MT[22]? = some mX1_startFrom from rfl)) (Nat.le_of_ble_eq_true rfl) ?_
  show cg_G V mX1_startFrom d q _ 0 [(0, vR 16), (1, vI s)] [] (kl m) 0 0
  refine g_aload_n (n := 0) rfl rfl ?_
  refine g_iload_n (n := 1) rfl rfl ?_
  refine g_putF (m' := (kF m 19 s)) rfl (kl_16 _) rfl rfl rfl rfl (kF_19 _ _) ?_
  have hm1 : kI (kF m 19 s) := kI_F hm 19 (show (0 : Int) ≤ s by omega) (show s ≤ (524287 : Int) by omega)
  have hf2 : fq [19] [29, 30] m (kF m 19 s) := fq_F hf0 19 _ rfl
  refine g_aload_n (n := 0) rfl rfl ?_
  refine g_null rfl ?_
  refine g_putR (m' := (kR (kF m 19 s) 0 (vE 0))) rfl (kl_16 _) rfl rfl rfl rfl (kR_0 _ _) ?_
  have hm3 : kI (kR (kF m 19 s) 0 (vE 0)) := hm1
  have hf4 : fq [19] [29, 30] m (kR (kF m 19 s) 0 (vE 0)) := fq_R hf2 0 _
  have t5 : kP (kR (kF m 19 s) 0 (vE 0)) := ⟨Or.inl rfl, h_kP.2⟩
  refine g_aload_n (n := 0) rfl rfl ?_
  refine g_null rfl ?_
  refine g_putR (m' := (kR (kR (kF m 19 s) 0 (vE 0)) 1 (vE 0))) rfl (kl_16 _) rfl rfl rfl rfl (kR_1 _ _) ?_
  have hm6 : kI (kR (kR (kF m 19 s) 0 (vE 0)) 1 (vE 0)) := hm3
  have hf7 : fq [19] [29, 30] m (kR (kR (kF m 19 s) 0 (vE 0)) 1 (vE 0)) := fq_R hf4 1 _
  have t8 : kP (kR (kR (kF m 19 s) 0 (vE 0)) 1 (vE 0)) := ⟨t5.1, Or.inl rfl⟩
  refine g_aload_n (n := 0) rfl rfl ?_
  refine g_getf (v := vR 29) rfl (kl_16 _) rfl ?_
  refine g_bipush (by decide) rfl ?_
  refine c_sV (ps := [vI (-2), vR 29]) (r := []) (as := [vR 29, vI (-2)]) (cs' := 0) (sl' := 0) rfl rfl rfl rfl rfl rfl (c_fill29 (d := d - 1) (q := q - (4 + 19)) (by omega) (by omega) hm6 (v := (-2)) (show (-2147483648) ≤ (-2) ∧ (-2) ≤ 2147483647 by omega)) (by omega) (show 4 + 19 ≤ q by omega) (Nat.le_of_ble_eq_true rfl) (Nat.le_of_ble_eq_true rfl) rfl rfl rfl ?_
  rintro m10 ⟨hm12, hc13⟩
  have hf14 : fq [19] [29, 30] m m10 := fq_tr hf7 (fq_le (fq_of hc13) rfl rfl)
  have h15 : m10.1 19 = s := hc13.1 19 rfl
  have h16 : 0 ≤ m10.1 19 ∧ m10.1 19 ≤ 524287 := hm12.1 19
  have t17 : kW m10 := kW_fr hc13 rfl rfl h_kW
  have t18 : kP m10 := kP_fr hc13 rfl rfl t8
  refine g_aload_n (n := 0) rfl rfl ?_
  refine g_getf (v := vR 30) rfl (kl_16 _) rfl ?_
  refine g_bipush (by decide) rfl ?_
  refine c_sV (ps := [vI (-2), vR 30]) (r := []) (as := [vR 30, vI (-2)]) (cs' := 0) (sl' := 0) rfl rfl rfl rfl rfl rfl (c_fill30 (d := d - 1) (q := q - (4 + 19)) (by omega) (by omega) hm12 (v := (-2)) (show (-2147483648) ≤ (-2) ∧ (-2) ≤ 2147483647 by omega)) (by omega) (show 4 + 19 ≤ q by omega) (Nat.le_of_ble_eq_true rfl) (Nat.le_of_ble_eq_true rfl) rfl rfl rfl ?_
  rintro m20 ⟨hm22, hc23⟩
  have hf24 : fq [19] [29, 30] m m20 := fq_tr hf14 (fq_le (fq_of hc23) rfl rfl)
  have h25 : m20.1 19 = m10.1 19 := hc23.1 19 rfl
  have h26 : 0 ≤ m20.1 19 ∧ m20.1 19 ≤ 524287 := hm22.1 19
  have t27 : kW m20 := kW_fr hc23 rfl rfl t17
  have t28 : kP m20 := kP_fr hc23 rfl rfl t18
  refine g_vret rfl rfl ?_
  exact ⟨_, rfl, hm22, hf24, t27, t28, by rw [hc23.2.2, hc13.2.2]; rfl⟩
theorem c_rowFor_0 {V : cg_V} {d q : Nat} (hd : 6 ≤ d) (hq : 155 ≤ q) {m : kM} (hm : kI m) (h_kW : kW m) (h_kP : kP m) : cg_S V d q mX1_rowFor [vR 16, vI 0] (kl m) (R_A (fun a m' => (kI m') ∧ (fq [20, 21] [22, 23, 24, 25, 26, 27, 28, 18, 19, 20] m m') ∧ kW m' ∧ kP m' ∧ pth m' (.inr (.inr a)) ∧ m'.2.2.1 0 = .inr (.inr a))) := by
  have hf0 : fq [20, 21] [22, 23, 24, 25, 26, 27, 28, 18, 19, 20] m m := fq_rf m
  refine cg_of (List.mem_of_getElem? (show ae_MT[37]? = some mX1_rowFor from rfl)) (Nat.le_of_ble_eq_true rfl) ?_
  show cg_G V mX1_rowFor d q _ 0 [(0, vR 16), (1, vI 0)] [] (kl m) 0 0
  refine g_iload_n (n := 1) rfl rfl ?_
  refine g_if_ne (by decide) (by decide) rfl ?_ ?_
  · intro kk1
    exfalso; omega
  · intro kk2
    refine g_aload_n (n := 0) rfl rfl ?_
    rcases h_kP.1 with e3 | ⟨p4i, p4j, p4x, p4n, p4f, e3, g5, g6, g7, g8⟩
    · refine g_getf (v := vE 0) rfl (kl_16 _) (congrArg some e3) ?_
      refine g_nn_0 rfl ?_
      refine g_aload_n (n := 0) rfl rfl ?_
      refine g_aload_n (n := 0) rfl rfl ?_
      refine g_getf (v := vR 17) rfl (kl_16 _) rfl ?_
      refine g_aload_n (n := 0) rfl rfl ?_
      have h9 : 0 ≤ m.1 19 ∧ m.1 19 ≤ 524287 := hm.1 19
      refine g_getf (v := vI (m.1 19)) rfl (kl_16 _) rfl ?_
      refine g_iconst rfl ?_
      refine c_vA (i := 17) (ps := [vI 0, vI (m.1 19)]) (r := [vR 16]) (as := [vR 17, vI (m.1 19), vI 0]) (cs' := 2) (sl' := 64514) rfl rfl rfl rfl rfl rfl (kl_17 _) (c_seek (d := d - 1) (q := q - (5 + 19)) (by omega) (by omega) hm (s := m.1 19) (g := 0) (show 0 ≤ m.1 19 ∧ m.1 19 ≤ 524287 by omega) (show (-2147483648) ≤ 0 ∧ 0 ≤ 2147483647 by omega) h_kW) (by omega) (show 5 + 19 ≤ q by omega) (Nat.le_of_ble_eq_true rfl) (Nat.le_of_ble_eq_true rfl) rfl rfl rfl ?_
      rintro a12 m11 ⟨hm13, hc14, t16, hp15⟩
      have hf17 : fq [20, 21] [22, 23, 24, 25, 26, 27, 28, 18, 19, 20] m m11 := fq_tr hf0 (fq_le (fq_os hc14) rfl rfl)
      have h18 : m11.1 19 = m.1 19 := hc14.1 19 rfl
      have h19 : 0 ≤ m11.1 19 ∧ m11.1 19 ≤ 524287 := hm13.1 19
      have t20 : kP m11 := kP_fs hc14 h_kP
      obtain ⟨p21i, p21j, p21x, p21n, p21f, e22, g23, g24, g25, g26⟩ := hp15
      rw [e22]
      refine g_putR (m' := (kR m11 0 (vR (76 + p21i)))) rfl (kl_16 _) rfl rfl rfl rfl (kR_0 _ _) ?_
      have hm27 : kI (kR m11 0 (vR (76 + p21i))) := hm13
      have hf28 : fq [20, 21] [22, 23, 24, 25, 26, 27, 28, 18, 19, 20] m (kR m11 0 (vR (76 + p21i))) := fq_R hf17 0 _
      have t29 : kP (kR m11 0 (vR (76 + p21i))) := ⟨Or.inr ⟨p21i, p21j, p21x, p21n, p21f, rfl, g23, g24, g25, g26⟩, t20.2⟩
      refine g_aload_n (n := 0) rfl rfl ?_
      refine g_getf (v := vR (76 + p21i)) rfl (kl_16 _) (congrArg some rfl) ?_
      refine g_aret rfl rfl ?_
      exact ⟨_, _, rfl, hm27, hf28, t16, t29, ⟨p21i, p21j, p21x, p21n, p21f, rfl, g23, g24, g25, g26⟩, rfl⟩
    · refine g_getf (v := vR (76 + p4i)) rfl (kl_16 _) (congrArg some e3) ?_
      refine g_nn_r rfl ?_
      refine g_aload_n (n := 0) rfl rfl ?_
      refine g_getf (v := vR (76 + p4i)) rfl (kl_16 _) (congrArg some e3) ?_
      refine g_aret rfl rfl ?_
      exact ⟨_, _, rfl, hm, hf0, h_kW, h_kP, ⟨p4i, p4j, p4x, p4n, p4f, rfl, g5, g6, g7, g8⟩, e3⟩
theorem c_rowFor_1 {V : cg_V} {d q : Nat} (hd : 6 ≤ d) (hq : 155 ≤ q) {m : kM} (hm : kI m) (h_kW : kW m) (h_kP : kP m) : cg_S V d q mX1_rowFor [vR 16, vI 1] (kl m) (R_A (fun a m' => (kI m') ∧ (fq [20, 21] [22, 23, 24, 25, 26, 27, 28, 18, 19, 20] m m') ∧ kW m' ∧ kP m' ∧ pth m' (.inr (.inr a)) ∧ m'.2.2.1 1 = .inr (.inr a) ∧ m'.2.2.1 0 = m.2.2.1 0)) := by
  have hf0 : fq [20, 21] [22, 23, 24, 25, 26, 27, 28, 18, 19, 20] m m := fq_rf m
  refine cg_of (List.mem_of_getElem? (show ae_MT[37]? = some mX1_rowFor from rfl)) (Nat.le_of_ble_eq_true rfl) ?_
  show cg_G V mX1_rowFor d q _ 0 [(0, vR 16), (1, vI 1)] [] (kl m) 0 0
  refine g_iload_n (n := 1) rfl rfl ?_
  refine g_if_ne (by decide) (by decide) rfl ?_ ?_
  · intro kk1
    refine g_aload_n (n := 0) rfl rfl ?_
    rcases h_kP.2 with e2 | ⟨p3i, p3j, p3x, p3n, p3f, e2, g4, g5, g6, g7⟩
    · refine g_getf (v := vE 0) rfl (kl_16 _) (congrArg some e2) ?_
      refine g_nn_0 rfl ?_
      refine g_aload_n (n := 0) rfl rfl ?_
      refine g_aload_n (n := 0) rfl rfl ?_
      refine g_getf (v := vR 17) rfl (kl_16 _) rfl ?_
      refine g_aload_n (n := 0) rfl rfl ?_
      have h8 : 0 ≤ m.1 19 ∧ m.1 19 ≤ 524287 := hm.1 19
      refine g_getf (v := vI (m.1 19)) rfl (kl_16 _) rfl ?_
      refine g_iconst rfl ?_
      refine c_vA (i := 17) (ps := [vI 1, vI (m.1 19)]) (r := [vR 16]) (as := [vR 17, vI (m.1 19), vI 1]) (cs' := 2) (sl' := 64514) rfl rfl rfl rfl rfl rfl (kl_17 _) (c_seek (d := d - 1) (q := q - (5 + 19)) (by omega) (by omega) hm (s := m.1 19) (g := 1) (show 0 ≤ m.1 19 ∧ m.1 19 ≤ 524287 by omega) (show (-2147483648) ≤ 1 ∧ 1 ≤ 2147483647 by omega) h_kW) (by omega) (show 5 + 19 ≤ q by omega) (Nat.le_of_ble_eq_true rfl) (Nat.le_of_ble_eq_true rfl) rfl rfl rfl ?_
      rintro a11 m10 ⟨hm12, hc13, t15, hp14⟩
      have hf16 : fq [20, 21] [22, 23, 24, 25, 26, 27, 28, 18, 19, 20] m m10 := fq_tr hf0 (fq_le (fq_os hc13) rfl rfl)
      have h17 : m10.1 19 = m.1 19 := hc13.1 19 rfl
      have h18 : 0 ≤ m10.1 19 ∧ m10.1 19 ≤ 524287 := hm12.1 19
      have t19 : kP m10 := kP_fs hc13 h_kP
      obtain ⟨p20i, p20j, p20x, p20n, p20f, e21, g22, g23, g24, g25⟩ := hp14
      rw [e21]
      refine g_putR (m' := (kR m10 1 (vR (76 + p20i)))) rfl (kl_16 _) rfl rfl rfl rfl (kR_1 _ _) ?_
      have hm26 : kI (kR m10 1 (vR (76 + p20i))) := hm12
      have hf27 : fq [20, 21] [22, 23, 24, 25, 26, 27, 28, 18, 19, 20] m (kR m10 1 (vR (76 + p20i))) := fq_R hf16 1 _
      have t28 : kP (kR m10 1 (vR (76 + p20i))) := ⟨t19.1, Or.inr ⟨p20i, p20j, p20x, p20n, p20f, rfl, g22, g23, g24, g25⟩⟩
      refine g_aload_n (n := 0) rfl rfl ?_
      refine g_getf (v := vR (76 + p20i)) rfl (kl_16 _) (congrArg some rfl) ?_
      refine g_aret rfl rfl ?_
      exact ⟨_, _, rfl, hm26, hf27, t15, t28, ⟨p20i, p20j, p20x, p20n, p20f, rfl, g22, g23, g24, g25⟩, rfl, congrFun hc13.2.2.2 0⟩
    · refine g_getf (v := vR (76 + p3i)) rfl (kl_16 _) (congrArg some e2) ?_
      refine g_nn_r rfl ?_
      refine g_aload_n (n := 0) rfl rfl ?_
      refine g_getf (v := vR (76 + p3i)) rfl (kl_16 _) (congrArg some e2) ?_
      refine g_aret rfl rfl ?_
      exact ⟨_, _, rfl, hm, hf0, h_kW, h_kP, ⟨p3i, p3j, p3x, p3n, p3f, rfl, g4, g5, g6, g7⟩, e2, rfl⟩
  · intro kk29
    exfalso; omega
theorem c_rowFor0 {V : cg_V} {d q : Nat} (hd : 6 ≤ d) (hq : 155 ≤ q) {m : kM} (hm : kI m) (hq0 : pth m (m.2.2.1 0)) : cg_S V d q mX1_rowFor0 [vR 16, vI 0] (kl m) (R_A (fun a m' => m = m' ∧ pth m (.inr (.inr a)))) := by
  refine cg_of (List.mem_of_getElem? (show ae_MT[191]? = some mX1_rowFor0 from rfl)) (Nat.le_of_ble_eq_true rfl) ?_
  show cg_G V mX1_rowFor0 d q _ 0 [(0, vR 16), (1, vI 0)] [] (kl m) 0 0
  obtain ⟨pi, pj, px, pn, pf, e0, g2, g3, g4, g5⟩ := hq0
  refine g_iload_n (n := 1) rfl rfl ?_
  refine g_if_ne (by decide) (by decide) rfl ?_ ?_
  · intro kk1
    exfalso; omega
  · intro kk2
    refine g_aload_n (n := 0) rfl rfl ?_
    refine g_getf (v := vR (76 + pi)) rfl (kl_16 _) (congrArg some e0) ?_
    refine g_nn_r rfl ?_
    refine g_aload_n (n := 0) rfl rfl ?_
    refine g_getf (v := vR (76 + pi)) rfl (kl_16 _) (congrArg some e0) ?_
    refine g_aret rfl rfl ?_
    exact ⟨_, _, rfl, rfl, ⟨pi, pj, px, pn, pf, rfl, g2, g3, g4, g5⟩⟩
theorem c_lengthByTurns {V : cg_V} {d q : Nat} (hd : 6 ≤ d) (hq : 155 ≤ q) {m : kM} (hm : kI m) {t : Int} (h_t : (-2147483648) ≤ t ∧ t ≤ 2147483647) (h_kW : kW m) : cg_S V d q mX1_lengthByTurns [vR 16, vI t] (kl m) (R_I (fun z m' => (kI m') ∧ (fs [20, 21] [22, 23, 24, 25, 26, 27, 28, 18, 19, 20, 29] m m') ∧ (-2147483648 ≤ z) ∧ (z < 2147483648) ∧ (kW m'))) := by
  have hf0 : fs [20, 21] [22, 23, 24, 25, 26, 27, 28, 18, 19, 20, 29] m m := fs_rf m
  refine cg_of (List.mem_of_getElem? (show ae_MT[38]? = some mX1_lengthByTurns from rfl)) (Nat.le_of_ble_eq_true rfl) ?_
  show cg_G V mX1_lengthByTurns d q _ 0 [(0, vR 16), (1, vI t)] [] (kl m) 0 0
  refine g_iload_n (n := 1) rfl rfl ?_
  refine g_if_lt (by omega) (by omega) rfl ?_ ?_
  · intro kk1
    refine g_iconst rfl ?_
    refine g_iret rfl rfl ?_
    exact ⟨_, _, rfl, hm, hf0, (by omega), (by omega), h_kW⟩
  · intro kk2
    refine g_iload_n (n := 1) rfl rfl ?_
    refine g_iconst rfl ?_
    refine g_icmp_le (by omega) (by omega) (by decide) (by decide) rfl ?_ ?_
    · intro kk3
      refine g_aload_n (n := 0) rfl rfl ?_
      refine g_getf (v := vR 29) rfl (kl_16 _) rfl ?_
      refine g_iload_n (n := 1) rfl rfl ?_
      have h4 : (-2147483648) ≤ m.2.1 29 t ∧ m.2.1 29 t ≤ 2147483647 := hm.2 29 t (by omega) (show t < (4 : Int) by omega)
      refine g_iald (f := m.2.1 29) rfl (kl_29 _) (by decide) (by omega) (by omega) ?_
      refine g_bipush (by decide) rfl ?_
      refine g_icmp_ne (by omega) (by omega) (by decide) (by decide) rfl ?_ ?_
      · intro kk5
        refine g_aload_n (n := 0) rfl rfl ?_
        refine g_getf (v := vR 29) rfl (kl_16 _) rfl ?_
        refine g_iload_n (n := 1) rfl rfl ?_
        have h6 : (-2147483648) ≤ m.2.1 29 t ∧ m.2.1 29 t ≤ 2147483647 := hm.2 29 t (by omega) (show t < (4 : Int) by omega)
        refine g_iald (f := m.2.1 29) rfl (kl_29 _) (by decide) (by omega) (by omega) ?_
        refine g_iret rfl rfl ?_
        exact ⟨_, _, rfl, hm, hf0, (by omega), (by omega), h_kW⟩
      · intro kk7
        refine g_aload_n (n := 0) rfl rfl ?_
        refine g_getf (v := vR 29) rfl (kl_16 _) rfl ?_
        refine g_iload_n (n := 1) rfl rfl ?_
        refine g_aload_n (n := 0) rfl rfl ?_
        refine g_getf (v := vR 17) rfl (kl_16 _) rfl ?_
        refine g_aload_n (n := 0) rfl rfl ?_
        have h8 : 0 ≤ m.1 19 ∧ m.1 19 ≤ 524287 := hm.1 19
        refine g_getf (v := vI (m.1 19)) rfl (kl_16 _) rfl ?_
        refine g_iload_n (n := 1) rfl rfl ?_
        refine c_sI (ps := [vI t, vI (m.1 19)]) (r := [vR 17, vI t, vR 29]) (as := [vI (m.1 19), vI t]) (cs' := 0) (sl' := 0) rfl rfl rfl rfl rfl rfl (c_withTurns (d := d - 1) (q := q - (2 + 19)) (by omega) (by omega) hm (s := m.1 19) (t := t) (show 0 ≤ m.1 19 ∧ m.1 19 ≤ 524287 by omega) (show 0 ≤ t ∧ t ≤ 3 by omega)) (by omega) (show 2 + 19 ≤ q by omega) (Nat.le_of_ble_eq_true rfl) (Nat.le_of_ble_eq_true rfl) rfl rfl rfl ?_
        rintro z9 m10 ⟨rfl, p12, p13⟩
        refine g_iconst rfl ?_
        refine c_vA (i := 17) (ps := [vI 0, vI z9]) (r := [vI t, vR 29]) (as := [vR 17, vI z9, vI 0]) (cs' := 2) (sl' := 64514) rfl rfl rfl rfl rfl rfl (kl_17 _) (c_seek (d := d - 1) (q := q - (5 + 19)) (by omega) (by omega) hm (s := z9) (g := 0) (show 0 ≤ z9 ∧ z9 ≤ 524287 by omega) (show (-2147483648) ≤ 0 ∧ 0 ≤ 2147483647 by omega) h_kW) (by omega) (show 5 + 19 ≤ q by omega) (Nat.le_of_ble_eq_true rfl) (Nat.le_of_ble_eq_true rfl) rfl rfl rfl ?_
        rintro a16 m15 ⟨hm17, hc18, t20, hp19⟩
        have hf21 : fs [20, 21] [22, 23, 24, 25, 26, 27, 28, 18, 19, 20, 29] m m15 := fs_tr hf0 (fs_le hc18 rfl rfl)
        have h22 : m15.1 19 = m.1 19 := hc18.1 19 rfl
        have h23 : 0 ≤ m15.1 19 ∧ m15.1 19 ≤ 524287 := hm17.1 19
        obtain ⟨p24i, p24j, p24x, p24n, p24f, e25, g26, g27, g28, g29⟩ := hp19
        rw [e25]
        refine g_getf (v := vI p24x) rfl ((kl_T _ _).trans g26) rfl ?_
        refine g_iAst (f := m15.2.1 29) (m' := (kA m15 29 (up (m15.2.1 29) t p24x))) rfl (kl_29 _) (by decide) (by omega) (by omega) (kA_29 _ _) ?_
        have hm30 : kI (kA m15 29 (up (m15.2.1 29) t p24x)) := kI_U hm17 29 rfl (show ((-2147483648) : Int) ≤ p24x by omega) (show p24x ≤ (2147483647 : Int) by omega)
        have hf31 : fs [20, 21] [22, 23, 24, 25, 26, 27, 28, 18, 19, 20, 29] m (kA m15 29 (up (m15.2.1 29) t p24x)) := fs_A hf21 29 _ rfl
        refine g_aload_n (n := 0) rfl rfl ?_
        refine g_getf (v := vR 29) rfl (kl_16 _) rfl ?_
        refine g_iload_n (n := 1) rfl rfl ?_
        refine g_iald (f := up (m15.2.1 29) t p24x) rfl (kl_29 _) (by decide) (by omega) (by omega) ?_
        rw [up_same]
        refine g_iret rfl rfl ?_
        exact ⟨_, _, rfl, hm30, hf31, (by omega), (by omega), t20⟩
    · intro kk32
      refine g_iconst rfl ?_
      refine g_iret rfl rfl ?_
      exact ⟨_, _, rfl, hm, hf0, (by omega), (by omega), h_kW⟩
theorem c_lengthByWicket {V : cg_V} {d q : Nat} (hd : 6 ≤ d) (hq : 155 ≤ q) {m : kM} (hm : kI m) {a : Int} (h_a : (-2147483648) ≤ a ∧ a ≤ 2147483647) (h_kW : kW m) : cg_S V d q mX1_lengthByWicket [vR 16, vI a] (kl m) (R_I (fun z m' => (kI m') ∧ (fs [20, 21] [22, 23, 24, 25, 26, 27, 28, 18, 19, 20, 30, 7] m m') ∧ (-2147483648 ≤ z) ∧ (z < 2147483648) ∧ (m'.2.1 7 = m.2.1 7) ∧ (kW m'))) := by
  have hf0 : fs [20, 21] [22, 23, 24, 25, 26, 27, 28, 18, 19, 20, 30, 7] m m := fs_rf m
  refine cg_of (List.mem_of_getElem? (show ae_MT[39]? = some mX1_lengthByWicket from rfl)) (Nat.le_of_ble_eq_true rfl) ?_
  show cg_G V mX1_lengthByWicket d q _ 0 [(0, vR 16), (1, vI a)] [] (kl m) 0 0
  refine g_aload_n (n := 0) rfl rfl ?_
  refine g_getf (v := vR 3) rfl (kl_16 _) rfl ?_
  refine g_iload_n (n := 1) rfl rfl ?_
  have h1 : 0 ≤ m.1 8 ∧ m.1 8 ≤ 10 := hm.1 8
  refine c_vI (i := 3) (ps := [vI a]) (r := []) (as := [vR 3, vI a]) (cs' := 0) (sl' := 0) rfl rfl rfl rfl rfl rfl (kl_3 _) (c_hasDoor (d := d - 1) (q := q - (2 + 19)) (by omega) (by omega) hm (a := a) (show (-2147483648) ≤ a ∧ a ≤ 2147483647 by omega)) (by omega) (show 2 + 19 ≤ q by omega) (Nat.le_of_ble_eq_true rfl) (Nat.le_of_ble_eq_true rfl) rfl rfl rfl ?_
  rintro z2 m3 ⟨rfl, p5⟩
  refine g_if_ne (by omega) (by omega) rfl ?_ ?_
  · intro kk6
    refine g_aload_n (n := 0) rfl rfl ?_
    refine g_getf (v := vR 30) rfl (kl_16 _) rfl ?_
    refine g_iload_n (n := 1) rfl rfl ?_
    have h7 : (-2147483648) ≤ m.2.1 30 a ∧ m.2.1 30 a ≤ 2147483647 := hm.2 30 a (by omega) (show a < (10 : Int) by omega)
    refine g_iald (f := m.2.1 30) rfl (kl_30 _) (by decide) (by omega) (by omega) ?_
    refine g_bipush (by decide) rfl ?_
    refine g_icmp_ne (by omega) (by omega) (by decide) (by decide) rfl ?_ ?_
    · intro kk8
      refine g_aload_n (n := 0) rfl rfl ?_
      refine g_getf (v := vR 30) rfl (kl_16 _) rfl ?_
      refine g_iload_n (n := 1) rfl rfl ?_
      have h9 : (-2147483648) ≤ m.2.1 30 a ∧ m.2.1 30 a ≤ 2147483647 := hm.2 30 a (by omega) (show a < (10 : Int) by omega)
      refine g_iald (f := m.2.1 30) rfl (kl_30 _) (by decide) (by omega) (by omega) ?_
      refine g_iret rfl rfl ?_
      exact ⟨_, _, rfl, hm, hf0, by omega, by omega, rfl, h_kW⟩
    · intro kk10
      refine g_aload_n (n := 0) rfl rfl ?_
      refine g_getf (v := vR 3) rfl (kl_16 _) rfl ?_
      refine g_getf (v := vR 7) rfl (kl_3 _) rfl ?_
      refine g_iload_n (n := 1) rfl rfl ?_
      have h11 : 0 ≤ m.2.1 7 a ∧ m.2.1 7 a ≤ 1 := hm.2 7 a (by omega) (show a < (10 : Int) by omega)
      refine g_iald (f := m.2.1 7) rfl (kl_7 _) (by decide) (by omega) (by omega) ?_
      refine g_istore_n (n := 2) (lo' := [(0, vR 16), (1, vI a)]) rfl rfl ?_
      refine g_aload_n (n := 0) rfl rfl ?_
      refine g_getf (v := vR 3) rfl (kl_16 _) rfl ?_
      refine g_getf (v := vR 7) rfl (kl_3 _) rfl ?_
      refine g_iload_n (n := 1) rfl rfl ?_
      refine g_iconst rfl ?_
      refine g_iAst (f := m.2.1 7) (m' := (kA m 7 (up (m.2.1 7) a 1))) rfl (kl_7 _) (by decide) (by omega) (by omega) (kA_7 _ _) ?_
      have hm12 : kI (kA m 7 (up (m.2.1 7) a 1)) := kI_U hm 7 rfl (show (0 : Int) ≤ 1 by omega) (show 1 ≤ (1 : Int) by omega)
      have hf13 : fs [20, 21] [22, 23, 24, 25, 26, 27, 28, 18, 19, 20, 30, 7] m (kA m 7 (up (m.2.1 7) a 1)) := fs_A hf0 7 _ rfl
      refine g_aload_n (n := 0) rfl rfl ?_
      refine g_getf (v := vR 30) rfl (kl_16 _) rfl ?_
      refine g_iload_n (n := 1) rfl rfl ?_
      refine g_aload_n (n := 0) rfl rfl ?_
      refine g_getf (v := vR 17) rfl (kl_16 _) rfl ?_
      refine g_aload_n (n := 0) rfl rfl ?_
      have h14 : 0 ≤ m.1 19 ∧ m.1 19 ≤ 524287 := hm.1 19
      refine g_getf (v := vI (m.1 19)) rfl (kl_16 _) rfl ?_
      refine g_iconst rfl ?_
      refine c_vA (i := 17) (ps := [vI 0, vI (m.1 19)]) (r := [vI a, vR 30]) (as := [vR 17, vI (m.1 19), vI 0]) (cs' := 2) (sl' := 64514) rfl rfl rfl rfl rfl rfl (kl_17 _) (c_seek (d := d - 1) (q := q - (5 + 19)) (by omega) (by omega) hm12 (s := m.1 19) (g := 0) (show 0 ≤ m.1 19 ∧ m.1 19 ≤ 524287 by omega) (show (-2147483648) ≤ 0 ∧ 0 ≤ 2147483647 by omega) h_kW) (by omega) (show 5 + 19 ≤ q by omega) (Nat.le_of_ble_eq_true rfl) (Nat.le_of_ble_eq_true rfl) rfl rfl rfl ?_
      rintro a17 m16 ⟨hm18, hc19, t21, hp20⟩
      have hf22 : fs [20, 21] [22, 23, 24, 25, 26, 27, 28, 18, 19, 20, 30, 7] m m16 := fs_tr hf13 (fs_le hc19 rfl rfl)
      have h23 : m16.1 8 = m.1 8 := hc19.1 8 rfl
      have h24 : 0 ≤ m16.1 8 ∧ m16.1 8 ≤ 10 := hm18.1 8
      have h25 : m16.1 19 = m.1 19 := hc19.1 19 rfl
      have h26 : 0 ≤ m16.1 19 ∧ m16.1 19 ≤ 524287 := hm18.1 19
      obtain ⟨p27i, p27j, p27x, p27n, p27f, e28, g29, g30, g31, g32⟩ := hp20
      rw [e28]
      refine g_getf (v := vI p27x) rfl ((kl_T _ _).trans g29) rfl ?_
      refine g_iAst (f := m16.2.1 30) (m' := (kA m16 30 (up (m16.2.1 30) a p27x))) rfl (kl_30 _) (by decide) (by omega) (by omega) (kA_30 _ _) ?_
      have hm33 : kI (kA m16 30 (up (m16.2.1 30) a p27x)) := kI_U hm18 30 rfl (show ((-2147483648) : Int) ≤ p27x by omega) (show p27x ≤ (2147483647 : Int) by omega)
      have hf34 : fs [20, 21] [22, 23, 24, 25, 26, 27, 28, 18, 19, 20, 30, 7] m (kA m16 30 (up (m16.2.1 30) a p27x)) := fs_A hf22 30 _ rfl
      refine g_aload_n (n := 0) rfl rfl ?_
      refine g_getf (v := vR 3) rfl (kl_16 _) rfl ?_
      refine g_getf (v := vR 7) rfl (kl_3 _) rfl ?_
      refine g_iload_n (n := 1) rfl rfl ?_
      refine g_iload_n (n := 2) rfl rfl ?_
      refine g_iAst (f := m16.2.1 7) (m' := (kA (kA m16 30 (up (m16.2.1 30) a p27x)) 7 (up (m16.2.1 7) a (m.2.1 7 a)))) rfl (kl_7 _) (by decide) (by omega) (by omega) (kA_7 _ _) ?_
      have hm35 : kI (kA (kA m16 30 (up (m16.2.1 30) a p27x)) 7 (up (m16.2.1 7) a (m.2.1 7 a))) := kI_U hm33 7 rfl (show (0 : Int) ≤ m.2.1 7 a by omega) (show m.2.1 7 a ≤ (1 : Int) by omega)
      have hf36 : fs [20, 21] [22, 23, 24, 25, 26, 27, 28, 18, 19, 20, 30, 7] m (kA (kA m16 30 (up (m16.2.1 30) a p27x)) 7 (up (m16.2.1 7) a (m.2.1 7 a))) := fs_A hf34 7 _ rfl
      refine g_aload_n (n := 0) rfl rfl ?_
      refine g_getf (v := vR 30) rfl (kl_16 _) rfl ?_
      refine g_iload_n (n := 1) rfl rfl ?_
      refine g_iald (f := up (m16.2.1 30) a p27x) rfl (kl_30 _) (by decide) (by omega) (by omega) ?_
      rw [up_same]
      refine g_iret rfl rfl ?_
      have q1 : m16.2.1 7 = up (m.2.1 7) a 1 := hc19.2.1 7 rfl
      have q2 : (kA (kA m16 30 (up (m16.2.1 30) a p27x)) 7 (up (m16.2.1 7) a (m.2.1 7 a))).2.1 7 = m.2.1 7 := by
        show up (m16.2.1 7) a (m.2.1 7 a) = _
        funext j
        by_cases e : j = a
        · rw [e, up_same]
        · rw [up_ne _ e, q1, up_ne _ e]
      exact ⟨_, _, rfl, hm35, hf36, by omega, by omega, q2, t21⟩
  · intro kk37
    refine g_iconst rfl ?_
    refine g_iret rfl rfl ?_
    exact ⟨_, _, rfl, hm, hf0, by omega, by omega, rfl, h_kW⟩
theorem c_fewest {V : cg_V} {d q : Nat} (hd : 7 ≤ d) (hq : 176 ≤ q) {m : kM} (hm : kI m) {i : Int} (h_i : (-2147483648) ≤ i ∧ i ≤ 2147483647) (h_kW : kW m) (h_kP : kP m) : cg_S V d q mX9_fewest [vR 0, vI i] (kl m) (R_I (fun z m' => (kI m') ∧ (fq [20, 21] [22, 23, 24, 25, 26, 27, 28, 18, 19, 20] m m') ∧ (-2147483648 ≤ z) ∧ (z < 2147483648) ∧ (kW m') ∧ (kP m') ∧ (nn m m'))) := by
  have hf0 : fq [20, 21] [22, 23, 24, 25, 26, 27, 28, 18, 19, 20] m m := fq_rf m
  refine cg_of (List.mem_of_getElem? (show ae_MT[100]? = some mX9_fewest from rfl)) (Nat.le_of_ble_eq_true rfl) ?_
  show cg_G V mX9_fewest d q _ 0 [(0, vR 0), (1, vI i)] [] (kl m) 0 0
  refine g_iload_n (n := 1) rfl rfl ?_
  refine g_iconst rfl ?_
  refine g_icmp_ge (by omega) (by omega) (by decide) (by decide) rfl ?_ ?_
  · intro kk1
    refine g_aload_n (n := 0) rfl rfl ?_
    refine g_getf (v := vR 16) rfl (kl_0 _) rfl ?_
    refine g_iconst rfl ?_
    refine c_vA (i := 16) (ps := [vI 0]) (r := []) (as := [vR 16, vI 0]) (cs' := 2) (sl' := 64514) rfl rfl rfl rfl rfl rfl (kl_16 _) (c_rowFor_0 (d := d - 1) (q := q - (2 + 19)) (by omega) (by omega) hm  h_kW h_kP) (by omega) (show 2 + 19 ≤ q by omega) (Nat.le_of_ble_eq_true rfl) (Nat.le_of_ble_eq_true rfl) rfl rfl rfl ?_
    rintro a4 m3 ⟨hm5, hc6, t8, t9, hp7, e10⟩
    have hf12 : fq [20, 21] [22, 23, 24, 25, 26, 27, 28, 18, 19, 20] m m3 := fq_tr hf0 (fq_le hc6 rfl rfl)
    have n13 : m3.2.2.1 0 ≠ vE 0 := by rw [e10]; exact pth_ne hp7
    obtain ⟨p14i, p14j, p14x, p14n, p14f, e15, g16, g17, g18, g19⟩ := hp7
    rw [e15]
    refine g_iload_n (n := 1) rfl rfl ?_
    refine c_vI (ps := [vI i]) (r := []) (as := [vR (76 + p14i), vI i]) (cs' := 2) (sl' := 64514) rfl rfl rfl rfl rfl rfl ((kl_T _ _).trans g16) (c_tell5 (d := d - 1) (q := q - (2 + 19)) (by omega) (by omega) hm5 (i := i) g16 g17 g18 g19 (show (-2147483648) ≤ i ∧ i ≤ 2147483647 by omega)) (by omega) (show 2 + 19 ≤ q by omega) (Nat.le_of_ble_eq_true rfl) (Nat.le_of_ble_eq_true rfl) rfl rfl rfl ?_
    rintro z20 m21 ⟨rfl, p23, p24⟩
    refine g_iret rfl rfl ?_
    exact ⟨_, _, rfl, hm5, hf12, by omega, by omega, t8, t9, Or.inr n13⟩
  · intro kk25
    refine g_bipush (by decide) rfl ?_
    refine g_goto rfl ?_
    refine g_iret rfl rfl ?_
    exact ⟨_, _, rfl, hm, hf0, by omega, by omega, h_kW, h_kP, Or.inl rfl⟩
theorem c_out {V : cg_V} {d q : Nat} (hd : 7 ≤ d) (hq : 176 ≤ q) {m : kM} (hm : kI m) {i : Int} (h_i : (-2147483648) ≤ i ∧ i ≤ 2147483647) (h_kW : kW m) (h_kP : kP m) : cg_S V d q mX9_out [vR 0, vI i] (kl m) (R_I (fun z m' => (kI m') ∧ (fq [20, 21] [22, 23, 24, 25, 26, 27, 28, 18, 19, 20] m m') ∧ (-2147483648 ≤ z) ∧ (z < 2147483648) ∧ (kW m') ∧ (kP m') ∧ (nn m m'))) := by
  have hf0 : fq [20, 21] [22, 23, 24, 25, 26, 27, 28, 18, 19, 20] m m := fq_rf m
  refine cg_of (List.mem_of_getElem? (show ae_MT[103]? = some mX9_out from rfl)) (Nat.le_of_ble_eq_true rfl) ?_
  show cg_G V mX9_out d q _ 0 [(0, vR 0), (1, vI i)] [] (kl m) 0 0
  refine g_iload_n (n := 1) rfl rfl ?_
  refine g_iconst rfl ?_
  refine g_icmp_ge (by omega) (by omega) (by decide) (by decide) rfl ?_ ?_
  · intro kk1
    refine g_aload_n (n := 0) rfl rfl ?_
    refine g_getf (v := vR 16) rfl (kl_0 _) rfl ?_
    refine g_iconst rfl ?_
    refine c_vA (i := 16) (ps := [vI 1]) (r := []) (as := [vR 16, vI 1]) (cs' := 2) (sl' := 64514) rfl rfl rfl rfl rfl rfl (kl_16 _) (c_rowFor_1 (d := d - 1) (q := q - (2 + 19)) (by omega) (by omega) hm  h_kW h_kP) (by omega) (show 2 + 19 ≤ q by omega) (Nat.le_of_ble_eq_true rfl) (Nat.le_of_ble_eq_true rfl) rfl rfl rfl ?_
    rintro a4 m3 ⟨hm5, hc6, t8, t9, hp7, e10, e11⟩
    have hf12 : fq [20, 21] [22, 23, 24, 25, 26, 27, 28, 18, 19, 20] m m3 := fq_tr hf0 (fq_le hc6 rfl rfl)
    obtain ⟨p13i, p13j, p13x, p13n, p13f, e14, g15, g16, g17, g18⟩ := hp7
    rw [e14]
    refine g_iload_n (n := 1) rfl rfl ?_
    refine c_vI (ps := [vI i]) (r := []) (as := [vR (76 + p13i), vI i]) (cs' := 2) (sl' := 64514) rfl rfl rfl rfl rfl rfl ((kl_T _ _).trans g15) (c_tell5 (d := d - 1) (q := q - (2 + 19)) (by omega) (by omega) hm5 (i := i) g15 g16 g17 g18 (show (-2147483648) ≤ i ∧ i ≤ 2147483647 by omega)) (by omega) (show 2 + 19 ≤ q by omega) (Nat.le_of_ble_eq_true rfl) (Nat.le_of_ble_eq_true rfl) rfl rfl rfl ?_
    rintro z19 m20 ⟨rfl, p22, p23⟩
    refine g_iret rfl rfl ?_
    exact ⟨_, _, rfl, hm5, hf12, by omega, by omega, t8, t9, Or.inl e11⟩
  · intro kk24
    refine g_bipush (by decide) rfl ?_
    refine g_goto rfl ?_
    refine g_iret rfl rfl ?_
    exact ⟨_, _, rfl, hm, hf0, by omega, by omega, h_kW, h_kP, Or.inl rfl⟩
theorem c_by {V : cg_V} {d q : Nat} (hd : 7 ≤ d) (hq : 176 ≤ q) {m : kM} (hm : kI m) {s : Int} (h_s : (-2147483648) ≤ s ∧ s ≤ 2147483647) (h_kW : kW m) (h_kP : kP m) : cg_S V d q mX9_by [vR 0, vI s] (kl m) (R_I (fun z m' => (kI m') ∧ (fq [20, 21] [22, 23, 24, 25, 26, 27, 28, 18, 19, 20, 29] m m') ∧ (-2147483648 ≤ z) ∧ (z < 2147483648) ∧ (kW m') ∧ (kP m') ∧ (nn m m'))) := by
  have hf0 : fq [20, 21] [22, 23, 24, 25, 26, 27, 28, 18, 19, 20, 29] m m := fq_rf m
  refine cg_of (List.mem_of_getElem? (show ae_MT[101]? = some mX9_by from rfl)) (Nat.le_of_ble_eq_true rfl) ?_
  show cg_G V mX9_by d q _ 0 [(0, vR 0), (1, vI s)] [] (kl m) 0 0
  refine g_iload_n (n := 1) rfl rfl ?_
  refine g_if_lt (by omega) (by omega) rfl ?_ ?_
  · intro kk1
    refine g_bipush (by decide) rfl ?_
    refine g_iret rfl rfl ?_
    exact ⟨_, _, rfl, hm, hf0, by omega, by omega, h_kW, h_kP, Or.inl rfl⟩
  · intro kk2
    refine g_iload_n (n := 1) rfl rfl ?_
    refine g_iconst rfl ?_
    refine g_icmp_le (by omega) (by omega) (by decide) (by decide) rfl ?_ ?_
    · intro kk3
      refine g_iload_n (n := 1) rfl rfl ?_
      refine g_aload_n (n := 0) rfl rfl ?_
      have h4 : 0 ≤ m.1 1 ∧ m.1 1 ≤ 524287 := hm.1 1
      refine g_getf (v := vI (m.1 1)) rfl (kl_0 _) rfl ?_
      refine c_sI (ps := [vI (m.1 1)]) (r := [vI s]) (as := [vI (m.1 1)]) (cs' := 0) (sl' := 0) rfl rfl rfl rfl rfl rfl (c_turns (d := d - 1) (q := q - (1 + 19)) (by omega) (by omega) hm (s := m.1 1) (show (-2147483648) ≤ m.1 1 ∧ m.1 1 ≤ 2147483647 by omega)) (by omega) (show 1 + 19 ≤ q by omega) (Nat.le_of_ble_eq_true rfl) (Nat.le_of_ble_eq_true rfl) rfl rfl rfl ?_
      rintro z5 m6 ⟨rfl, p8, p9⟩
      refine g_icmp_ne (by omega) (by omega) (by omega) (by omega) rfl ?_ ?_
      · intro kk10
        refine g_iconst rfl ?_
        refine g_istore_n (n := 2) (lo' := [(0, vR 0), (1, vI s)]) rfl rfl ?_
        refine g_iload_n (n := 2) rfl rfl ?_
        refine g_if_eq (by decide) (by decide) rfl ?_ ?_
        · intro kk11
          refine g_aload_n (n := 0) rfl rfl ?_
          refine g_getf (v := vR 16) rfl (kl_0 _) rfl ?_
          refine g_iload_n (n := 1) rfl rfl ?_
          refine c_vI (i := 16) (ps := [vI s]) (r := []) (as := [vR 16, vI s]) (cs' := 2) (sl' := 64514) rfl rfl rfl rfl rfl rfl (kl_16 _) (c_lengthByTurns (d := d - 1) (q := q - (2 + 19)) (by omega) (by omega) hm (t := s) (show (-2147483648) ≤ s ∧ s ≤ 2147483647 by omega) h_kW) (by omega) (show 2 + 19 ≤ q by omega) (Nat.le_of_ble_eq_true rfl) (Nat.le_of_ble_eq_true rfl) rfl rfl rfl ?_
          rintro z12 m13 ⟨hm15, hc16, p17, p18, p19⟩
          have hf20 : fq [20, 21] [22, 23, 24, 25, 26, 27, 28, 18, 19, 20, 29] m m13 := fq_tr hf0 (fq_le (fq_os hc16) rfl rfl)
          have h21 : m13.1 1 = m.1 1 := hc16.1 1 rfl
          have h22 : 0 ≤ m13.1 1 ∧ m13.1 1 ≤ 524287 := hm15.1 1
          have t23 : kP m13 := kP_fs hc16 h_kP
          refine g_iret rfl rfl ?_
          exact ⟨_, _, rfl, hm15, hf20, by omega, by omega, p19, t23, Or.inl (congrFun hc16.2.2.2 0)⟩
        · intro kk24
          exfalso; omega
      · intro kk25
        refine g_iconst rfl ?_
        refine g_goto rfl ?_
        refine g_istore_n (n := 2) (lo' := [(0, vR 0), (1, vI s)]) rfl rfl ?_
        refine g_iload_n (n := 2) rfl rfl ?_
        refine g_if_eq (by decide) (by decide) rfl ?_ ?_
        · intro kk26
          exfalso; omega
        · intro kk27
          refine g_aload_n (n := 0) rfl rfl ?_
          refine g_getf (v := vR 16) rfl (kl_0 _) rfl ?_
          refine g_iconst rfl ?_
          refine c_vA (i := 16) (ps := [vI 0]) (r := []) (as := [vR 16, vI 0]) (cs' := 2) (sl' := 64514) rfl rfl rfl rfl rfl rfl (kl_16 _) (c_rowFor_0 (d := d - 1) (q := q - (2 + 19)) (by omega) (by omega) hm  h_kW h_kP) (by omega) (show 2 + 19 ≤ q by omega) (Nat.le_of_ble_eq_true rfl) (Nat.le_of_ble_eq_true rfl) rfl rfl rfl ?_
          rintro a30 m29 ⟨hm31, hc32, t34, t35, hp33, e36⟩
          have hf38 : fq [20, 21] [22, 23, 24, 25, 26, 27, 28, 18, 19, 20, 29] m m29 := fq_tr hf0 (fq_le hc32 rfl rfl)
          have h39 : m29.1 1 = m.1 1 := hc32.1 1 rfl
          have h40 : 0 ≤ m29.1 1 ∧ m29.1 1 ≤ 524287 := hm31.1 1
          have n41 : m29.2.2.1 0 ≠ vE 0 := by rw [e36]; exact pth_ne hp33
          obtain ⟨p42i, p42j, p42x, p42n, p42f, e43, g44, g45, g46, g47⟩ := hp33
          rw [e43]
          refine g_getf (v := vI p42x) rfl ((kl_T _ _).trans g44) rfl ?_
          refine g_goto rfl ?_
          refine g_iret rfl rfl ?_
          exact ⟨_, _, rfl, hm31, hf38, by omega, by omega, t34, t35, Or.inr n41⟩
    · intro kk48
      refine g_bipush (by decide) rfl ?_
      refine g_iret rfl rfl ?_
      exact ⟨_, _, rfl, hm, hf0, by omega, by omega, h_kW, h_kP, Or.inl rfl⟩
theorem c_worth {V : cg_V} {d q : Nat} (hd : 7 ≤ d) (hq : 177 ≤ q) {m : kM} (hm : kI m) {a : Int} (h_a : (-2147483648) ≤ a ∧ a ≤ 2147483647) (h_kW : kW m) (h_kP : kP m) (hv : 0 ≤ a ∧ a < m.1 8) : cg_S V d q mX9_worth [vR 0, vI a] (kl m) (R_I (fun z m' => (kI m') ∧ (fq [20, 21] [22, 23, 24, 25, 26, 27, 28, 18, 19, 20, 30, 7] m m') ∧ (-2147483648 ≤ z) ∧ (z < 2147483648) ∧ (m'.2.1 7 = m.2.1 7) ∧ (kW m') ∧ (kP m') ∧ (m'.2.2.1 0 ≠ vE 0))) := by
  have hf0 : fq [20, 21] [22, 23, 24, 25, 26, 27, 28, 18, 19, 20, 30, 7] m m := fq_rf m
  refine cg_of (List.mem_of_getElem? (show ae_MT[102]? = some mX9_worth from rfl)) (Nat.le_of_ble_eq_true rfl) ?_
  show cg_G V mX9_worth d q _ 0 [(0, vR 0), (1, vI a)] [] (kl m) 0 0
  refine g_aload_n (n := 0) rfl rfl ?_
  refine g_getf (v := vR 3) rfl (kl_0 _) rfl ?_
  refine g_iload_n (n := 1) rfl rfl ?_
  have h1 : 0 ≤ m.1 8 ∧ m.1 8 ≤ 10 := hm.1 8
  refine c_vI (i := 3) (ps := [vI a]) (r := []) (as := [vR 3, vI a]) (cs' := 0) (sl' := 0) rfl rfl rfl rfl rfl rfl (kl_3 _) (c_hasDoor (d := d - 1) (q := q - (2 + 19)) (by omega) (by omega) hm (a := a) (show (-2147483648) ≤ a ∧ a ≤ 2147483647 by omega)) (by omega) (show 2 + 19 ≤ q by omega) (Nat.le_of_ble_eq_true rfl) (Nat.le_of_ble_eq_true rfl) rfl rfl rfl ?_
  rintro z2 m3 ⟨rfl, p5⟩
  refine g_if_ne (by omega) (by omega) rfl ?_ ?_
  · intro kk6
    refine g_aload_n (n := 0) rfl rfl ?_
    refine g_getf (v := vR 16) rfl (kl_0 _) rfl ?_
    refine g_iconst rfl ?_
    refine c_vA (i := 16) (ps := [vI 0]) (r := []) (as := [vR 16, vI 0]) (cs' := 2) (sl' := 64514) rfl rfl rfl rfl rfl rfl (kl_16 _) (c_rowFor_0 (d := d - 1) (q := q - (2 + 19)) (by omega) (by omega) hm  h_kW h_kP) (by omega) (show 2 + 19 ≤ q by omega) (Nat.le_of_ble_eq_true rfl) (Nat.le_of_ble_eq_true rfl) rfl rfl rfl ?_
    rintro a9 m8 ⟨hm10, hc11, t13, t14, hp12, e15⟩
    have hf17 : fq [20, 21] [22, 23, 24, 25, 26, 27, 28, 18, 19, 20, 30, 7] m m8 := fq_tr hf0 (fq_le hc11 rfl rfl)
    have h18 : m8.1 8 = m.1 8 := hc11.1 8 rfl
    have h19 : 0 ≤ m8.1 8 ∧ m8.1 8 ≤ 10 := hm10.1 8
    have n20 : m8.2.2.1 0 ≠ vE 0 := by rw [e15]; exact pth_ne hp12
    obtain ⟨p21i, p21j, p21x, p21n, p21f, e22, g23, g24, g25, g26⟩ := hp12
    rw [e22]
    refine g_getf (v := vI p21x) rfl ((kl_T _ _).trans g23) rfl ?_
    refine g_istore_n (n := 2) (lo' := [(0, vR 0), (1, vI a)]) rfl rfl ?_
    refine g_iload_n (n := 2) rfl rfl ?_
    refine g_iconst rfl ?_
    refine g_icmp_ne (by omega) (by omega) (by decide) (by decide) rfl ?_ ?_
    · intro kk27
      refine g_aload_n (n := 0) rfl rfl ?_
      refine g_getf (v := vR 3) rfl (kl_0 _) rfl ?_
      refine g_getf (v := vR 7) rfl (kl_3 _) rfl ?_
      refine g_iload_n (n := 1) rfl rfl ?_
      have h28 : 0 ≤ m8.2.1 7 a ∧ m8.2.1 7 a ≤ 1 := hm10.2 7 a (by omega) (show a < (10 : Int) by omega)
      have h29 : m8.2.1 7 a = m.2.1 7 a := congrFun (hc11.2.1 7 rfl) _
      refine g_iald (f := m8.2.1 7) rfl (kl_7 _) (by decide) (by omega) (by omega) ?_
      refine g_iconst rfl ?_
      refine g_icmp_ne (by omega) (by omega) (by decide) (by decide) rfl ?_ ?_
      · intro kk30
        refine g_iload_n (n := 2) rfl rfl ?_
        refine g_aload_n (n := 0) rfl rfl ?_
        refine g_getf (v := vR 16) rfl (kl_0 _) rfl ?_
        refine g_iload_n (n := 1) rfl rfl ?_
        refine c_vI (i := 16) (ps := [vI a]) (r := [vI p21x]) (as := [vR 16, vI a]) (cs' := 4) (sl' := 129028) rfl rfl rfl rfl rfl rfl (kl_16 _) (c_lengthByWicket (d := d - 1) (q := q - (3 + 19)) (by omega) (by omega) hm10 (a := a) (show (-2147483648) ≤ a ∧ a ≤ 2147483647 by omega) t13) (by omega) (show 3 + 19 ≤ q by omega) (Nat.le_of_ble_eq_true rfl) (Nat.le_of_ble_eq_true rfl) rfl rfl rfl ?_
        rintro z31 m32 ⟨hm34, hc35, p36, p37, p38, p39⟩
        have hf40 : fq [20, 21] [22, 23, 24, 25, 26, 27, 28, 18, 19, 20, 30, 7] m m32 := fq_tr hf17 (fq_le (fq_os hc35) rfl rfl)
        have h41 : m32.1 8 = m8.1 8 := hc35.1 8 rfl
        have h42 : 0 ≤ m32.1 8 ∧ m32.1 8 ≤ 10 := hm34.1 8
        have t43 : kP m32 := kP_fs hc35 t14
        refine g_isub rfl ?_
        refine g_nrm ?_
        intro z44 h45 h46 h47 h48
        refine g_iret rfl rfl ?_
        exact ⟨_, _, rfl, hm34, hf40, by omega, by omega, p38.trans (hc11.2.1 7 rfl), p39, t43, by rw [hc35.2.2.2]; exact n20⟩
      · intro kk49
        refine g_iconst rfl ?_
        refine g_goto rfl ?_
        refine g_iret rfl rfl ?_
        exact ⟨_, _, rfl, hm10, hf17, by omega, by omega, hc11.2.1 7 rfl, t13, t14, n20⟩
    · intro kk50
      refine g_bipush (by decide) rfl ?_
      refine g_iret rfl rfl ?_
      exact ⟨_, _, rfl, hm10, hf17, by omega, by omega, hc11.2.1 7 rfl, t13, t14, n20⟩
  · intro kk51
    refine g_bipush (by decide) rfl ?_
    refine g_iret rfl rfl ?_
    exfalso; omega
theorem c_worth1 {V : cg_V} {d q : Nat} (hd : 7 ≤ d) (hq : 177 ≤ q) {m : kM} (hm : kI m) {a : Int} (h_a : (-2147483648) ≤ a ∧ a ≤ 2147483647) (h_kW : kW m) (hv : (a < 0 ∨ m.1 8 ≤ a) ∨ pth m (m.2.2.1 0)) : cg_S V d q mX9_worth1 [vR 0, vI a] (kl m) (R_I (fun z m' => (kI m') ∧ (fs [20, 21] [22, 23, 24, 25, 26, 27, 28, 18, 19, 20, 30, 7] m m') ∧ (-2147483648 ≤ z) ∧ (z < 2147483648) ∧ (m'.2.1 7 = m.2.1 7) ∧ (kW m'))) := by
  have hf0 : fs [20, 21] [22, 23, 24, 25, 26, 27, 28, 18, 19, 20, 30, 7] m m := fs_rf m
  refine cg_of (List.mem_of_getElem? (show ae_MT[192]? = some mX9_worth1 from rfl)) (Nat.le_of_ble_eq_true rfl) ?_
  show cg_G V mX9_worth1 d q _ 0 [(0, vR 0), (1, vI a)] [] (kl m) 0 0
  refine g_aload_n (n := 0) rfl rfl ?_
  refine g_getf (v := vR 3) rfl (kl_0 _) rfl ?_
  refine g_iload_n (n := 1) rfl rfl ?_
  have h1 : 0 ≤ m.1 8 ∧ m.1 8 ≤ 10 := hm.1 8
  refine c_vI (i := 3) (ps := [vI a]) (r := []) (as := [vR 3, vI a]) (cs' := 0) (sl' := 0) rfl rfl rfl rfl rfl rfl (kl_3 _) (c_hasDoor (d := d - 1) (q := q - (2 + 19)) (by omega) (by omega) hm (a := a) (show (-2147483648) ≤ a ∧ a ≤ 2147483647 by omega)) (by omega) (show 2 + 19 ≤ q by omega) (Nat.le_of_ble_eq_true rfl) (Nat.le_of_ble_eq_true rfl) rfl rfl rfl ?_
  rintro z2 m3 ⟨rfl, p5⟩
  refine g_if_ne (by omega) (by omega) rfl ?_ ?_
  · intro kk6
    refine g_aload_n (n := 0) rfl rfl ?_
    refine g_getf (v := vR 16) rfl (kl_0 _) rfl ?_
    refine g_iconst rfl ?_
    refine c_vA (i := 16) (ps := [vI 0]) (r := []) (as := [vR 16, vI 0]) (cs' := 0) (sl' := 0) rfl rfl rfl rfl rfl rfl (kl_16 _) (c_rowFor0 (d := d - 1) (q := q - (2 + 19)) (by omega) (by omega) hm  (hv.resolve_left (by omega))) (by omega) (show 2 + 19 ≤ q by omega) (Nat.le_of_ble_eq_true rfl) (Nat.le_of_ble_eq_true rfl) rfl rfl rfl ?_
    rintro a9 m8 ⟨rfl, hp10⟩
    obtain ⟨p11i, p11j, p11x, p11n, p11f, e12, g13, g14, g15, g16⟩ := hp10
    rw [e12]
    refine g_getf (v := vI p11x) rfl ((kl_T _ _).trans g13) rfl ?_
    refine g_istore_n (n := 2) (lo' := [(0, vR 0), (1, vI a)]) rfl rfl ?_
    refine g_iload_n (n := 2) rfl rfl ?_
    refine g_iconst rfl ?_
    refine g_icmp_ne (by omega) (by omega) (by decide) (by decide) rfl ?_ ?_
    · intro kk17
      refine g_aload_n (n := 0) rfl rfl ?_
      refine g_getf (v := vR 3) rfl (kl_0 _) rfl ?_
      refine g_getf (v := vR 7) rfl (kl_3 _) rfl ?_
      refine g_iload_n (n := 1) rfl rfl ?_
      have h18 : 0 ≤ m.2.1 7 a ∧ m.2.1 7 a ≤ 1 := hm.2 7 a (by omega) (show a < (10 : Int) by omega)
      refine g_iald (f := m.2.1 7) rfl (kl_7 _) (by decide) (by omega) (by omega) ?_
      refine g_iconst rfl ?_
      refine g_icmp_ne (by omega) (by omega) (by decide) (by decide) rfl ?_ ?_
      · intro kk19
        refine g_iload_n (n := 2) rfl rfl ?_
        refine g_aload_n (n := 0) rfl rfl ?_
        refine g_getf (v := vR 16) rfl (kl_0 _) rfl ?_
        refine g_iload_n (n := 1) rfl rfl ?_
        refine c_vI (i := 16) (ps := [vI a]) (r := [vI p11x]) (as := [vR 16, vI a]) (cs' := 2) (sl' := 64514) rfl rfl rfl rfl rfl rfl (kl_16 _) (c_lengthByWicket (d := d - 1) (q := q - (3 + 19)) (by omega) (by omega) hm (a := a) (show (-2147483648) ≤ a ∧ a ≤ 2147483647 by omega) h_kW) (by omega) (show 3 + 19 ≤ q by omega) (Nat.le_of_ble_eq_true rfl) (Nat.le_of_ble_eq_true rfl) rfl rfl rfl ?_
        rintro z20 m21 ⟨hm23, hc24, p25, p26, p27, p28⟩
        have hf29 : fs [20, 21] [22, 23, 24, 25, 26, 27, 28, 18, 19, 20, 30, 7] m m21 := fs_tr hf0 (fs_le hc24 rfl rfl)
        have h30 : m21.1 8 = m.1 8 := hc24.1 8 rfl
        have h31 : 0 ≤ m21.1 8 ∧ m21.1 8 ≤ 10 := hm23.1 8
        refine g_isub rfl ?_
        refine g_nrm ?_
        intro z32 h33 h34 h35 h36
        refine g_iret rfl rfl ?_
        exact ⟨_, _, rfl, hm23, hf29, by omega, by omega, p27, p28⟩
      · intro kk37
        refine g_iconst rfl ?_
        refine g_goto rfl ?_
        refine g_iret rfl rfl ?_
        exact ⟨_, _, rfl, hm, hf0, by omega, by omega, rfl, h_kW⟩
    · intro kk38
      refine g_bipush (by decide) rfl ?_
      refine g_iret rfl rfl ?_
      exact ⟨_, _, rfl, hm, hf0, by omega, by omega, rfl, h_kW⟩
  · intro kk39
    refine g_bipush (by decide) rfl ?_
    refine g_iret rfl rfl ?_
    exact ⟨_, _, rfl, hm, hf0, by omega, by omega, rfl, h_kW⟩
theorem c_stickingIn {V : cg_V} {d q : Nat} (hd : 1 ≤ d) (hq : 21 ≤ q) {m : kM} (hm : kI m) {pi pj pn : Nat} {px : Int} {pf : Int → Int} (g2 : m.2.2.2[pi]? = some (.inr (4, [vI px, vR (76 + pj)]))) (g3 : m.2.2.2[pj]? = some (cI pn pf)) (g4 : pn ≤ 64512) (g5 : -1 ≤ px ∧ px ≤ 64512) : cg_S V d q mX9_stickingIn [vR 0, vR (76 + pi)] (kl m) (R_I (fun z m' => (m = m') ∧ (0 ≤ z) ∧ (z ≤ 64512))) := by
  refine cg_of (List.mem_of_getElem? (show ae_MT[104]? = some mX9_stickingIn from rfl)) (Nat.le_of_ble_eq_true rfl) ?_
  show cg_G V mX9_stickingIn d q _ 0 [(0, vR 0), (1, vR (76 + pi))] [] (kl m) 0 0
  refine g_iconst rfl ?_
  refine g_istore_n (n := 2) (lo' := [(0, vR 0), (1, vR (76 + pi))]) rfl rfl ?_
  refine g_iconst rfl ?_
  refine g_istore_n (n := 3) (lo' := [(2, vI 0), (0, vR 0), (1, vR (76 + pi))]) rfl rfl ?_
  have L4_1 : ∀ (n4_1 : Nat) (t_1 : Int) (i_1 : Int), (0 ≤ t_1 ∧ t_1 ≤ 64512) → (0 ≤ i_1 ∧ i_1 ≤ 64512) → (t_1 ≤ i_1) → ((64512 - i_1).toNat) = n4_1 → cg_G V mX9_stickingIn d q (R_I (fun z m' => (m = m') ∧ (0 ≤ z) ∧ (z ≤ 64512))) 4 [(3, vI i_1), (2, vI t_1), (0, vR 0), (1, vR (76 + pi))] [] (kl m) 0 0 := by
    intro n4_1
    induction n4_1 using Nat.strongRecOn with
    | _ n4_1 ih4_1 =>
      intro t_1 i_1 i1 i2 i3 q4
      refine g_iload_n (n := 3) rfl rfl ?_
      refine g_aload_n (n := 1) rfl rfl ?_
      refine g_getf (v := vI px) rfl ((kl_T _ _).trans g2) rfl ?_
      refine g_icmp_ge (by omega) (by omega) (by omega) (by omega) rfl ?_ ?_
      · intro kk5
        refine g_iload_n (n := 2) rfl rfl ?_
        refine g_iret rfl rfl ?_
        exact ⟨_, _, rfl, rfl, (by omega), (by omega)⟩
      · intro kk6
        refine g_aload_n (n := 1) rfl rfl ?_
        refine g_iload_n (n := 3) rfl rfl ?_
        refine c_vI (ps := [vI i_1]) (r := []) (as := [vR (76 + pi), vI i_1]) (cs' := 0) (sl' := 0) rfl rfl rfl rfl rfl rfl ((kl_T _ _).trans g2) (c_tell5 (d := d - 1) (q := q - (2 + 19)) (by omega) (by omega) hm (i := i_1) g2 g3 g4 g5 (show (-2147483648) ≤ i_1 ∧ i_1 ≤ 2147483647 by omega)) (by omega) (show 2 + 19 ≤ q by omega) (Nat.le_of_ble_eq_true rfl) (Nat.le_of_ble_eq_true rfl) rfl rfl rfl ?_
        rintro z7 m8 ⟨rfl, p10, p11⟩
        refine g_bipush (by decide) rfl ?_
        refine g_iremD (by omega) (by omega) (by decide) (by decide) rfl ?_
        intro z12 h13
        refine g_bipush (by decide) rfl ?_
        refine g_isub rfl ?_
        refine g_istore (n := 4) (lo' := [(3, vI i_1), (2, vI t_1), (0, vR 0), (1, vR (76 + pi))]) rfl rfl ?_
        refine g_aload_n (n := 0) rfl rfl ?_
        refine g_getf (v := vR 3) rfl (kl_0 _) rfl ?_
        refine g_iload (n := 4) rfl rfl ?_
        have h14 : 0 ≤ m.1 8 ∧ m.1 8 ≤ 10 := hm.1 8
        refine c_vI (i := 3) (ps := [vI (z12 - 14)]) (r := []) (as := [vR 3, vI (z12 - 14)]) (cs' := 0) (sl' := 0) rfl rfl rfl rfl rfl rfl (kl_3 _) (c_hasDoor (d := d - 1) (q := q - (2 + 19)) (by omega) (by omega) hm (a := (z12 - 14)) (show (-2147483648) ≤ (z12 - 14) ∧ (z12 - 14) ≤ 2147483647 by omega)) (by omega) (show 2 + 19 ≤ q by omega) (Nat.le_of_ble_eq_true rfl) (Nat.le_of_ble_eq_true rfl) rfl rfl rfl ?_
        rintro z15 m16 ⟨rfl, p18⟩
        refine g_if_eq (by omega) (by omega) rfl ?_ ?_
        · intro kk19
          refine g_iinc (n := 3) (lo' := [(4, vI (z12 - 14)), (2, vI t_1), (0, vR 0), (1, vR (76 + pi))]) rfl rfl rfl ?_
          refine g_goto rfl ?_
          refine g_pick (lo' := [(3, vI (i_1 + 1)), (2, vI t_1), (0, vR 0), (1, vR (76 + pi))]) [0, 2, 3, 4] rfl ?_
          exact ih4_1 _ (by omega) t_1 (i_1 + 1) (by omega) (by omega) (by omega) rfl
        · intro kk20
          refine g_aload_n (n := 0) rfl rfl ?_
          refine g_getf (v := vR 3) rfl (kl_0 _) rfl ?_
          refine g_getf (v := vR 6) rfl (kl_3 _) rfl ?_
          refine g_iload (n := 4) rfl rfl ?_
          have h21 : 0 ≤ m.2.1 6 (z12 - 14) ∧ m.2.1 6 (z12 - 14) ≤ 5 := hm.2 6 (z12 - 14) (by omega) (show (z12 - 14) < (10 : Int) by omega)
          refine g_iald (f := m.2.1 6) rfl (kl_6 _) (by decide) (by omega) (by omega) ?_
          refine g_iconst rfl ?_
          refine g_icmp_ne (by omega) (by omega) (by decide) (by decide) rfl ?_ ?_
          · intro kk22
            refine g_iinc (n := 3) (lo' := [(4, vI (z12 - 14)), (2, vI t_1), (0, vR 0), (1, vR (76 + pi))]) rfl rfl rfl ?_
            refine g_goto rfl ?_
            refine g_pick (lo' := [(3, vI (i_1 + 1)), (2, vI t_1), (0, vR 0), (1, vR (76 + pi))]) [0, 2, 3, 4] rfl ?_
            exact ih4_1 _ (by omega) t_1 (i_1 + 1) (by omega) (by omega) (by omega) rfl
          · intro kk23
            refine g_iinc (n := 2) (lo' := [(4, vI (z12 - 14)), (3, vI i_1), (0, vR 0), (1, vR (76 + pi))]) rfl rfl rfl ?_
            refine g_iinc (n := 3) (lo' := [(2, vI (t_1 + 1)), (4, vI (z12 - 14)), (0, vR 0), (1, vR (76 + pi))]) rfl rfl rfl ?_
            refine g_goto rfl ?_
            refine g_pick (lo' := [(3, vI (i_1 + 1)), (2, vI (t_1 + 1)), (0, vR 0), (1, vR (76 + pi))]) [0, 1, 3, 4] rfl ?_
            exact ih4_1 _ (by omega) (t_1 + 1) (i_1 + 1) (by omega) (by omega) (by omega) rfl
  exact L4_1 _ 0 0 (by omega) (by omega) (by omega) rfl
theorem c_odds {V : cg_V} {d q : Nat} (hd : 7 ≤ d) (hq : 176 ≤ q) {m : kM} (hm : kI m) {p e w : Int} (h_p : (-2147483648) ≤ p ∧ p ≤ 2147483647) (h_e : (-2147483648) ≤ e ∧ e ≤ 2147483647) (h_w : (-2147483648) ≤ w ∧ w ≤ 2147483647) (h_kW : kW m) (h_kP : kP m) : cg_S V d q mX9_odds [vR 0, vI p, vI e, vI w] (kl m) (R_J (fun z m' => (kI m') ∧ (fq [20, 21] [22, 23, 24, 25, 26, 27, 28, 18, 19, 20] m m') ∧ (-9223372036854775808 ≤ z) ∧ (z < 9223372036854775808) ∧ (kW m') ∧ (kP m') ∧ (nn m m'))) := by
  have hf0 : fq [20, 21] [22, 23, 24, 25, 26, 27, 28, 18, 19, 20] m m := fq_rf m
  refine cg_of (List.mem_of_getElem? (show ae_MT[105]? = some mX9_odds from rfl)) (Nat.le_of_ble_eq_true rfl) ?_
  show cg_G V mX9_odds d q _ 0 [(0, vR 0), (1, vI p), (2, vI e), (3, vI w)] [] (kl m) 0 0
  refine g_iload_n (n := 1) rfl rfl ?_
  refine g_if_lt (by omega) (by omega) rfl ?_ ?_
  · intro kk1
    refine g_ldc2 (x := (-3)) (by decide) rfl ?_
    refine g_lret rfl rfl ?_
    exact ⟨_, _, rfl, hm, hf0, by omega, by omega, h_kW, h_kP, Or.inl rfl⟩
  · intro kk2
    refine g_iload_n (n := 1) rfl rfl ?_
    refine g_bipush (by decide) rfl ?_
    refine g_icmp_gt (by omega) (by omega) (by decide) (by decide) rfl ?_ ?_
    · intro kk3
      refine g_ldc2 (x := (-3)) (by decide) rfl ?_
      refine g_lret rfl rfl ?_
      exact ⟨_, _, rfl, hm, hf0, by omega, by omega, h_kW, h_kP, Or.inl rfl⟩
    · intro kk4
      refine g_iload_n (n := 2) rfl rfl ?_
      refine g_if_lt (by omega) (by omega) rfl ?_ ?_
      · intro kk5
        refine g_ldc2 (x := (-3)) (by decide) rfl ?_
        refine g_lret rfl rfl ?_
        exact ⟨_, _, rfl, hm, hf0, by omega, by omega, h_kW, h_kP, Or.inl rfl⟩
      · intro kk6
        refine g_iload_n (n := 2) rfl rfl ?_
        refine g_bipush (by decide) rfl ?_
        refine g_icmp_gt (by omega) (by omega) (by decide) (by decide) rfl ?_ ?_
        · intro kk7
          refine g_ldc2 (x := (-3)) (by decide) rfl ?_
          refine g_lret rfl rfl ?_
          exact ⟨_, _, rfl, hm, hf0, by omega, by omega, h_kW, h_kP, Or.inl rfl⟩
        · intro kk8
          refine g_iload_n (n := 3) rfl rfl ?_
          refine g_if_lt (by omega) (by omega) rfl ?_ ?_
          · intro kk9
            refine g_ldc2 (x := (-3)) (by decide) rfl ?_
            refine g_lret rfl rfl ?_
            exact ⟨_, _, rfl, hm, hf0, by omega, by omega, h_kW, h_kP, Or.inl rfl⟩
          · intro kk10
            refine g_iload_n (n := 3) rfl rfl ?_
            refine g_iconst rfl ?_
            refine g_icmp_le (by omega) (by omega) (by decide) (by decide) rfl ?_ ?_
            · intro kk11
              refine g_aload_n (n := 0) rfl rfl ?_
              refine g_getf (v := vR 16) rfl (kl_0 _) rfl ?_
              refine g_iconst rfl ?_
              refine c_vA (i := 16) (ps := [vI 0]) (r := []) (as := [vR 16, vI 0]) (cs' := 2) (sl' := 64514) rfl rfl rfl rfl rfl rfl (kl_16 _) (c_rowFor_0 (d := d - 1) (q := q - (2 + 19)) (by omega) (by omega) hm  h_kW h_kP) (by omega) (show 2 + 19 ≤ q by omega) (Nat.le_of_ble_eq_true rfl) (Nat.le_of_ble_eq_true rfl) rfl rfl rfl ?_
              rintro a14 m13 ⟨hm15, hc16, t18, t19, hp17, e20⟩
              have hf22 : fq [20, 21] [22, 23, 24, 25, 26, 27, 28, 18, 19, 20] m m13 := fq_tr hf0 (fq_le hc16 rfl rfl)
              have n23 : m13.2.2.1 0 ≠ vE 0 := by rw [e20]; exact pth_ne hp17
              obtain ⟨p24i, p24j, p24x, p24n, p24f, e25, g26, g27, g28, g29⟩ := hp17
              rw [e25]
              refine g_astore (n := 4) (lo' := [(0, vR 0), (1, vI p), (2, vI e), (3, vI w)]) rfl rfl ?_
              refine g_aload (n := 4) rfl rfl ?_
              refine g_getf (v := vI p24x) rfl ((kl_T _ _).trans g26) rfl ?_
              refine g_iconst rfl ?_
              refine g_icmp_ne (by omega) (by omega) (by decide) (by decide) rfl ?_ ?_
              · intro kk30
                refine g_aload_n (n := 0) rfl rfl ?_
                refine g_aload (n := 4) rfl rfl ?_
                refine c_vI (i := 0) (ps := [vR (76 + p24i)]) (r := []) (as := [vR 0, vR (76 + p24i)]) (cs' := 2) (sl' := 64514) rfl rfl rfl rfl rfl rfl (kl_0 _) (c_stickingIn (d := d - 1) (q := q - (5 + 19)) (by omega) (by omega) hm15  g26 g27 g28 g29) (by omega) (show 5 + 19 ≤ q by omega) (Nat.le_of_ble_eq_true rfl) (Nat.le_of_ble_eq_true rfl) rfl rfl rfl ?_
                rintro z31 m32 ⟨rfl, p34, p35⟩
                refine g_istore (n := 5) (lo' := [(4, vR (76 + p24i)), (0, vR 0), (1, vI p), (2, vI e), (3, vI w)]) rfl rfl ?_
                refine g_iload (n := 5) rfl rfl ?_
                refine g_bipush (by decide) rfl ?_
                refine g_icmp_le (by omega) (by omega) (by decide) (by decide) rfl ?_ ?_
                · intro kk36
                  refine g_iload (n := 5) rfl rfl ?_
                  refine g_iload_n (n := 1) rfl rfl ?_
                  refine g_iload_n (n := 2) rfl rfl ?_
                  refine g_iload_n (n := 3) rfl rfl ?_
                  refine c_sL (ps := [vI w, vI e, vI p, vI z31]) (r := []) (as := [vI z31, vI p, vI e, vI w]) (cs' := 2) (sl' := 64514) rfl rfl rfl rfl rfl rfl (c_tellO (d := d - 1) (q := q - (10 + 19)) (by omega) (by omega) hm15 (n := z31) (p := p) (e := e) (t := w) (show 0 ≤ z31 ∧ z31 ≤ 10 by omega) (show 0 ≤ p ∧ p ≤ 10 by omega) (show 0 ≤ e ∧ e ≤ 6 by omega) (show 0 ≤ w ∧ w ≤ 1 by omega)) (by omega) (show 10 + 19 ≤ q by omega) (Nat.le_of_ble_eq_true rfl) (Nat.le_of_ble_eq_true rfl) rfl rfl rfl ?_
                  rintro z37 m38 ⟨rfl, p40, p41⟩
                  refine g_lret rfl rfl ?_
                  exact ⟨_, _, rfl, hm15, hf22, by omega, by omega, t18, t19, Or.inr n23⟩
                · intro kk42
                  refine g_ldc2 (x := (-4)) (by decide) rfl ?_
                  refine g_goto rfl ?_
                  refine g_lret rfl rfl ?_
                  exact ⟨_, _, rfl, hm15, hf22, by omega, by omega, t18, t19, Or.inr n23⟩
              · intro kk43
                refine g_ldc2 (x := (-4)) (by decide) rfl ?_
                refine g_lret rfl rfl ?_
                exact ⟨_, _, rfl, hm15, hf22, by omega, by omega, t18, t19, Or.inr n23⟩
            · intro kk44
              refine g_ldc2 (x := (-3)) (by decide) rfl ?_
              refine g_lret rfl rfl ?_
              exact ⟨_, _, rfl, hm, hf0, by omega, by omega, h_kW, h_kP, Or.inl rfl⟩
theorem c_standAt {V : cg_V} {d q : Nat} (hd : 2 ≤ d) (hq : 44 ≤ q) {m : kM} (hm : kI m) {s n : Int} (h_s : 0 ≤ s ∧ s ≤ 524287) (h_n : (-2147483648) ≤ n ∧ n ≤ 2147483647) (h_kW : kW m) (h_kP : kP m) : cg_S V d q mX9_standAt [vR 0, vI s, vI n] (kl m) (R_V (fun m' => (kI m') ∧ (fq [1, 2, 19] [29, 30] m m') ∧ (kW m') ∧ (kP m') ∧ (m'.2.2.1 0 = vE 0))) := by
  have hf0 : fq [1, 2, 19] [29, 30] m m := fq_rf m
  refine cg_of (List.mem_of_getElem? (show ae_MT[84]? = some mX9_standAt from rfl)) (Nat.le_of_ble_eq_true rfl) ?_
  show cg_G V mX9_standAt d q _ 0 [(0, vR 0), (1, vI s), (2, vI n)] [] (kl m) 0 0
  refine g_aload_n (n := 0) rfl rfl ?_
  refine g_iload_n (n := 1) rfl rfl ?_
  refine g_putF (m' := (kF m 1 s)) rfl (kl_0 _) rfl rfl rfl rfl (kF_1 _ _) ?_
  have hm1 : kI (kF m 1 s) := kI_F hm 1 (show (0 : Int) ≤ s by omega) (show s ≤ (524287 : Int) by omega)
  have hf2 : fq [1, 2, 19] [29, 30] m (kF m 1 s) := fq_F hf0 1 _ rfl
  refine g_aload_n (n := 0) rfl rfl ?_
  refine g_iload_n (n := 2) rfl rfl ?_
  refine g_putF (m' := (kF (kF m 1 s) 2 n)) rfl (kl_0 _) rfl rfl rfl rfl (kF_2 _ _) ?_
  have hm3 : kI (kF (kF m 1 s) 2 n) := kI_F hm1 2 (show ((-2147483648) : Int) ≤ n by omega) (show n ≤ (2147483647 : Int) by omega)
  have hf4 : fq [1, 2, 19] [29, 30] m (kF (kF m 1 s) 2 n) := fq_F hf2 2 _ rfl
  refine g_aload_n (n := 0) rfl rfl ?_
  refine g_getf (v := vR 16) rfl (kl_0 _) rfl ?_
  refine g_iload_n (n := 1) rfl rfl ?_
  refine c_vV (i := 16) (ps := [vI s]) (r := []) (as := [vR 16, vI s]) (cs' := 0) (sl' := 0) rfl rfl rfl rfl rfl rfl (kl_16 _) (c_startFrom (d := d - 1) (q := q - (2 + 19)) (by omega) (by omega) hm3 (s := s) (show 0 ≤ s ∧ s ≤ 524287 by omega) h_kW h_kP) (by omega) (show 2 + 19 ≤ q by omega) (Nat.le_of_ble_eq_true rfl) (Nat.le_of_ble_eq_true rfl) rfl rfl rfl ?_
  rintro m6 ⟨hm8, hc9, p10, p11, p12⟩
  have hf13 : fq [1, 2, 19] [29, 30] m m6 := fq_tr hf4 (fq_le hc9 rfl rfl)
  have h14 : m6.1 1 = s := hc9.1 1 rfl
  have h15 : 0 ≤ m6.1 1 ∧ m6.1 1 ≤ 524287 := hm8.1 1
  have h16 : m6.1 2 = n := hc9.1 2 rfl
  have h17 : (-2147483648) ≤ m6.1 2 ∧ m6.1 2 ≤ 2147483647 := hm8.1 2
  refine g_vret rfl rfl ?_
  exact ⟨_, rfl, hm8, hf13, p10, p11, p12⟩
theorem c_act {V : cg_V} {d q : Nat} (hd : 4 ≤ d) (hq : 106 ≤ q) {m : kM} (hm : kI m) {c : Int} (h_c : (-2147483648) ≤ c ∧ c ≤ 2147483647) (h_kW : kW m) (h_kP : kP m) : cg_S V d q mX9_act [vR 0, vI c] (kl m) (R_I (fun z m' => (kI m') ∧ (fq [1, 2, 19] [29, 30] m m') ∧ (-2147483648 ≤ z) ∧ (z < 2147483648) ∧ (kW m') ∧ (kP m'))) := by
  have hf0 : fq [1, 2, 19] [29, 30] m m := fq_rf m
  refine cg_of (List.mem_of_getElem? (show ae_MT[97]? = some mX9_act from rfl)) (Nat.le_of_ble_eq_true rfl) ?_
  show cg_G V mX9_act d q _ 0 [(0, vR 0), (1, vI c)] [] (kl m) 0 0
  refine g_iload_n (n := 1) rfl rfl ?_
  refine c_sI (ps := [vI c]) (r := []) (as := [vI c]) (cs' := 0) (sl' := 0) rfl rfl rfl rfl rfl rfl (c_isCode (d := d - 1) (q := q - (1 + 19)) (by omega) (by omega) hm (c := c) (show (-2147483648) ≤ c ∧ c ≤ 2147483647 by omega)) (by omega) (show 1 + 19 ≤ q by omega) (Nat.le_of_ble_eq_true rfl) (Nat.le_of_ble_eq_true rfl) rfl rfl rfl ?_
  rintro z1 m2 ⟨rfl, p4⟩
  refine g_if_ne (by omega) (by omega) rfl ?_ ?_
  · intro kk5
    refine g_aload_n (n := 0) rfl rfl ?_
    refine g_getf (v := vR 15) rfl (kl_0 _) rfl ?_
    refine g_aload_n (n := 0) rfl rfl ?_
    have h6 : 0 ≤ m.1 1 ∧ m.1 1 ≤ 524287 := hm.1 1
    refine g_getf (v := vI (m.1 1)) rfl (kl_0 _) rfl ?_
    refine g_iload_n (n := 1) rfl rfl ?_
    refine c_vI (i := 15) (ps := [vI c, vI (m.1 1)]) (r := []) (as := [vR 15, vI (m.1 1), vI c]) (cs' := 0) (sl' := 0) rfl rfl rfl rfl rfl rfl (kl_15 _) (c_after (d := d - 1) (q := q - (10 + 19)) (by omega) (by omega) hm (s := m.1 1) (c := c) (show 0 ≤ m.1 1 ∧ m.1 1 ≤ 524287 by omega) (show 0 ≤ c ∧ c ≤ 99 by omega)) (by omega) (show 10 + 19 ≤ q by omega) (Nat.le_of_ble_eq_true rfl) (Nat.le_of_ble_eq_true rfl) rfl rfl rfl ?_
    rintro z7 m8 ⟨rfl, p10, p11⟩
    refine g_istore_n (n := 2) (lo' := [(0, vR 0), (1, vI c)]) rfl rfl ?_
    refine g_iload_n (n := 2) rfl rfl ?_
    refine g_iconst rfl ?_
    refine g_icmp_ne (by omega) (by omega) (by decide) (by decide) rfl ?_ ?_
    · intro kk12
      refine g_aload_n (n := 0) rfl rfl ?_
      refine g_iload_n (n := 2) rfl rfl ?_
      refine g_aload_n (n := 0) rfl rfl ?_
      have h13 : (-2147483648) ≤ m.1 2 ∧ m.1 2 ≤ 2147483647 := hm.1 2
      refine g_getf (v := vI (m.1 2)) rfl (kl_0 _) rfl ?_
      refine g_iconst rfl ?_
      refine g_iadd rfl ?_
      refine g_nrm ?_
      intro z14 h15 h16 h17 h18
      refine c_vV (i := 0) (ps := [vI z14, vI z7]) (r := []) (as := [vR 0, vI z7, vI z14]) (cs' := 0) (sl' := 0) rfl rfl rfl rfl rfl rfl (kl_0 _) (c_standAt (d := d - 1) (q := q - (3 + 19)) (by omega) (by omega) hm (s := z7) (n := z14) (show 0 ≤ z7 ∧ z7 ≤ 524287 by omega) (show (-2147483648) ≤ z14 ∧ z14 ≤ 2147483647 by omega) h_kW h_kP) (by omega) (show 3 + 19 ≤ q by omega) (Nat.le_of_ble_eq_true rfl) (Nat.le_of_ble_eq_true rfl) rfl rfl rfl ?_
      rintro m20 ⟨hm22, hc23, p24, p25, p26⟩
      have hf27 : fq [1, 2, 19] [29, 30] m m20 := fq_tr hf0 (fq_le hc23 rfl rfl)
      refine g_aload_n (n := 0) rfl rfl ?_
      have h28 : (-2147483648) ≤ m20.1 2 ∧ m20.1 2 ≤ 2147483647 := hm22.1 2
      refine g_getf (v := vI (m20.1 2)) rfl (kl_0 _) rfl ?_
      refine g_iret rfl rfl ?_
      exact ⟨_, _, rfl, hm22, hf27, (by omega), (by omega), p24, p25⟩
    · intro kk29
      refine g_bipush (by decide) rfl ?_
      refine g_iret rfl rfl ?_
      exact ⟨_, _, rfl, hm, hf0, (by omega), (by omega), h_kW, h_kP⟩
  · intro kk30
    refine g_bipush (by decide) rfl ?_
    refine g_iret rfl rfl ?_
    exact ⟨_, _, rfl, hm, hf0, (by omega), (by omega), h_kW, h_kP⟩
theorem c_back {V : cg_V} {d q : Nat} (hd : 3 ≤ d) (hq : 66 ≤ q) {m : kM} (hm : kI m) {k : Int} (h_k : (-2147483648) ≤ k ∧ k ≤ 2147483647) (h_kW : kW m) (h_kP : kP m) : cg_S V d q mX9_back [vR 0, vI k] (kl m) (R_I (fun z m' => (kI m') ∧ (fq [1, 2, 19] [29, 30] m m') ∧ (-2147483648 ≤ z) ∧ (z < 2147483648) ∧ (kW m') ∧ (kP m'))) := by
  have hf0 : fq [1, 2, 19] [29, 30] m m := fq_rf m
  refine cg_of (List.mem_of_getElem? (show ae_MT[115]? = some mX9_back from rfl)) (Nat.le_of_ble_eq_true rfl) ?_
  show cg_G V mX9_back d q _ 0 [(0, vR 0), (1, vI k)] [] (kl m) 0 0
  refine g_iload_n (n := 1) rfl rfl ?_
  refine g_if_lt (by omega) (by omega) rfl ?_ ?_
  · intro kk1
    refine g_bipush (by decide) rfl ?_
    refine g_iret rfl rfl ?_
    exact ⟨_, _, rfl, hm, hf0, (by omega), (by omega), h_kW, h_kP⟩
  · intro kk2
    refine g_iload_n (n := 1) rfl rfl ?_
    refine g_iconst rfl ?_
    refine g_icmp_lt (by omega) (by omega) (by decide) (by decide) rfl ?_ ?_
    · intro kk3
      refine g_aload_n (n := 0) rfl rfl ?_
      refine g_getf (v := vR 59) rfl (kl_0 _) rfl ?_
      refine g_iload_n (n := 1) rfl rfl ?_
      have h4 : (-1) ≤ m.2.1 59 k ∧ m.2.1 59 k ≤ 524287 := hm.2 59 k (by omega) (show k < (2 : Int) by omega)
      refine g_iald (f := m.2.1 59) rfl (kl_59 _) (by decide) (by omega) (by omega) ?_
      refine g_iconst rfl ?_
      refine g_icmp_ne (by omega) (by omega) (by decide) (by decide) rfl ?_ ?_
      · intro kk5
        refine g_aload_n (n := 0) rfl rfl ?_
        refine g_aload_n (n := 0) rfl rfl ?_
        refine g_getf (v := vR 59) rfl (kl_0 _) rfl ?_
        refine g_iload_n (n := 1) rfl rfl ?_
        have h6 : (-1) ≤ m.2.1 59 k ∧ m.2.1 59 k ≤ 524287 := hm.2 59 k (by omega) (show k < (2 : Int) by omega)
        refine g_iald (f := m.2.1 59) rfl (kl_59 _) (by decide) (by omega) (by omega) ?_
        refine g_aload_n (n := 0) rfl rfl ?_
        refine g_getf (v := vR 60) rfl (kl_0 _) rfl ?_
        refine g_iload_n (n := 1) rfl rfl ?_
        have h7 : (-2147483648) ≤ m.2.1 60 k ∧ m.2.1 60 k ≤ 2147483647 := hm.2 60 k (by omega) (show k < (2 : Int) by omega)
        refine g_iald (f := m.2.1 60) rfl (kl_60 _) (by decide) (by omega) (by omega) ?_
        refine c_vV (i := 0) (ps := [vI (m.2.1 60 k), vI (m.2.1 59 k)]) (r := []) (as := [vR 0, vI (m.2.1 59 k), vI (m.2.1 60 k)]) (cs' := 0) (sl' := 0) rfl rfl rfl rfl rfl rfl (kl_0 _) (c_standAt (d := d - 1) (q := q - (3 + 19)) (by omega) (by omega) hm (s := m.2.1 59 k) (n := m.2.1 60 k) (show 0 ≤ m.2.1 59 k ∧ m.2.1 59 k ≤ 524287 by omega) (show (-2147483648) ≤ m.2.1 60 k ∧ m.2.1 60 k ≤ 2147483647 by omega) h_kW h_kP) (by omega) (show 3 + 19 ≤ q by omega) (Nat.le_of_ble_eq_true rfl) (Nat.le_of_ble_eq_true rfl) rfl rfl rfl ?_
        rintro m9 ⟨hm11, hc12, p13, p14, p15⟩
        have hf16 : fq [1, 2, 19] [29, 30] m m9 := fq_tr hf0 (fq_le hc12 rfl rfl)
        refine g_aload_n (n := 0) rfl rfl ?_
        have h17 : (-2147483648) ≤ m9.1 2 ∧ m9.1 2 ≤ 2147483647 := hm11.1 2
        refine g_getf (v := vI (m9.1 2)) rfl (kl_0 _) rfl ?_
        refine g_iret rfl rfl ?_
        exact ⟨_, _, rfl, hm11, hf16, (by omega), (by omega), p13, p14⟩
      · intro kk18
        refine g_bipush (by decide) rfl ?_
        refine g_iret rfl rfl ?_
        exact ⟨_, _, rfl, hm, hf0, (by omega), (by omega), h_kW, h_kP⟩
    · intro kk19
      refine g_bipush (by decide) rfl ?_
      refine g_iret rfl rfl ?_
      exact ⟨_, _, rfl, hm, hf0, (by omega), (by omega), h_kW, h_kP⟩
theorem c_atFirst {V : cg_V} {d q : Nat} (hd : 0 ≤ d) (hq : 0 ≤ q) {m : kM} (hm : kI m) : cg_S V d q mX8_atFirst [vR 3] (kl m) (R_I (fun z m' => (m = m') ∧ (0 ≤ z) ∧ (z ≤ 524287))) := by
  refine cg_of (List.mem_of_getElem? (show ae_MT[83]? = some mX8_atFirst from rfl)) (Nat.le_of_ble_eq_true rfl) ?_
  show cg_G V mX8_atFirst d q _ 0 [(0, vR 3)] [] (kl m) 0 0
  refine g_aload_n (n := 0) rfl rfl ?_
  refine g_getf (v := vR 8) rfl (kl_3 _) rfl ?_
  refine g_iconst rfl ?_
  have h1 : 0 ≤ m.2.1 8 0 ∧ m.2.1 8 0 ≤ 5 := hm.2 8 0 (by omega) (show 0 < (2 : Int) by omega)
  refine g_iald (f := m.2.1 8) rfl (kl_8 _) (by decide) (by omega) (by omega) ?_
  refine g_aload_n (n := 0) rfl rfl ?_
  refine g_getf (v := vR 8) rfl (kl_3 _) rfl ?_
  refine g_iconst rfl ?_
  have h2 : 0 ≤ m.2.1 8 1 ∧ m.2.1 8 1 ≤ 5 := hm.2 8 1 (by omega) (show 1 < (2 : Int) by omega)
  refine g_iald (f := m.2.1 8) rfl (kl_8 _) (by decide) (by omega) (by omega) ?_
  refine g_iconst rfl ?_
  refine g_ishl rfl ?_
  intro z3 h4 h5 h6
  have h7 : z3 = m.2.1 8 1 * 8 := b_shlN h4 (by decide) (by omega) (by decide) (by decide) (by omega)
  refine g_ior rfl ?_
  intro z8 h9 h10 h11
  have h12 : z8 = m.2.1 8 0 + z3 := b_addN (k := 3) (N := 8) (w := m.2.1 8 1) h9 (by decide) (by omega) (by omega) (by omega) (by omega) (by omega)
  refine g_aload_n (n := 0) rfl rfl ?_
  have h13 : 0 ≤ m.1 12 ∧ m.1 12 ≤ 5 := hm.1 12
  refine g_getf (v := vI (m.1 12)) rfl (kl_3 _) rfl ?_
  refine g_bipush (by decide) rfl ?_
  refine g_ishl rfl ?_
  intro z14 h15 h16 h17
  have h18 : z14 = m.1 12 * 256 := b_shlN h15 (by decide) (by omega) (by decide) (by decide) (by omega)
  refine g_ior rfl ?_
  intro z19 h20 h21 h22
  have h23 : z19 = z8 + z14 := b_addN (k := 8) (N := 256) (w := m.1 12) h20 (by decide) (by omega) (by omega) (by omega) (by omega) (by omega)
  refine g_aload_n (n := 0) rfl rfl ?_
  have h24 : 0 ≤ m.1 10 ∧ m.1 10 ≤ 63 := hm.1 10
  refine g_getf (v := vI (m.1 10)) rfl (kl_3 _) rfl ?_
  refine g_bipush (by decide) rfl ?_
  refine g_ishl rfl ?_
  intro z25 h26 h27 h28
  have h29 : z25 = m.1 10 * 2048 := b_shlN h26 (by decide) (by omega) (by decide) (by decide) (by omega)
  refine g_ior rfl ?_
  intro z30 h31 h32 h33
  have h34 : z30 = z19 + z25 := b_addN (k := 11) (N := 2048) (w := m.1 10) h31 (by decide) (by omega) (by omega) (by omega) (by omega) (by omega)
  refine g_aload_n (n := 0) rfl rfl ?_
  have h35 : 0 ≤ m.1 11 ∧ m.1 11 ≤ 3 := hm.1 11
  refine g_getf (v := vI (m.1 11)) rfl (kl_3 _) rfl ?_
  refine g_bipush (by decide) rfl ?_
  refine g_ishl rfl ?_
  intro z36 h37 h38 h39
  have h40 : z36 = m.1 11 * 131072 := b_shlN h37 (by decide) (by omega) (by decide) (by decide) (by omega)
  refine g_ior rfl ?_
  intro z41 h42 h43 h44
  have h45 : z41 = z30 + z36 := b_addN (k := 17) (N := 131072) (w := m.1 11) h42 (by decide) (by omega) (by omega) (by omega) (by omega) (by omega)
  refine g_iret rfl rfl ?_
  exact ⟨_, _, rfl, rfl, (by omega), (by omega)⟩
theorem c_beginAsTold {V : cg_V} {d q : Nat} (hd : 3 ≤ d) (hq : 66 ≤ q) {m : kM} (hm : kI m) (h_kW : kW m) (h_kP : kP m) : cg_S V d q mX9_beginAsTold [vR 0] (kl m) (R_V (fun m' => (kI m') ∧ (fq [0, 1, 2, 19, 22] [29, 30, 59] m m') ∧ (kW m') ∧ (kP m') ∧ (m'.1 22 = 0) ∧ (m'.1 0 = 0))) := by
  have hf0 : fq [0, 1, 2, 19, 22] [29, 30, 59] m m := fq_rf m
  refine cg_of (List.mem_of_getElem? (show ae_MT[85]? = some mX9_beginAsTold from rfl)) (Nat.le_of_ble_eq_true rfl) ?_
  show cg_G V mX9_beginAsTold d q _ 0 [(0, vR 0)] [] (kl m) 0 0
  refine g_aload_n (n := 0) rfl rfl ?_
  refine g_aload_n (n := 0) rfl rfl ?_
  refine g_getf (v := vR 3) rfl (kl_0 _) rfl ?_
  refine c_sI (ps := [vR 3]) (r := [vR 0]) (as := [vR 3]) (cs' := 0) (sl' := 0) rfl rfl rfl rfl rfl rfl (c_atFirst (d := d - 1) (q := q - (1 + 19)) (by omega) (by omega) hm  ) (by omega) (show 1 + 19 ≤ q by omega) (Nat.le_of_ble_eq_true rfl) (Nat.le_of_ble_eq_true rfl) rfl rfl rfl ?_
  rintro z1 m2 ⟨rfl, p4, p5⟩
  refine g_iconst rfl ?_
  refine c_vV (i := 0) (ps := [vI 0, vI z1]) (r := []) (as := [vR 0, vI z1, vI 0]) (cs' := 0) (sl' := 0) rfl rfl rfl rfl rfl rfl (kl_0 _) (c_standAt (d := d - 1) (q := q - (3 + 19)) (by omega) (by omega) hm (s := z1) (n := 0) (show 0 ≤ z1 ∧ z1 ≤ 524287 by omega) (show (-2147483648) ≤ 0 ∧ 0 ≤ 2147483647 by omega) h_kW h_kP) (by omega) (show 3 + 19 ≤ q by omega) (Nat.le_of_ble_eq_true rfl) (Nat.le_of_ble_eq_true rfl) rfl rfl rfl ?_
  rintro m7 ⟨hm9, hc10, p11, p12, p13⟩
  have hf14 : fq [0, 1, 2, 19, 22] [29, 30, 59] m m7 := fq_tr hf0 (fq_le hc10 rfl rfl)
  refine g_aload_n (n := 0) rfl rfl ?_
  refine g_iconst rfl ?_
  refine g_putF (m' := (kF m7 0 0)) rfl (kl_0 _) rfl rfl rfl rfl (kF_0 _ _) ?_
  have hm15 : kI (kF m7 0 0) := kI_F hm9 0 (show (0 : Int) ≤ 0 by omega) (show 0 ≤ (20 : Int) by omega)
  have hf16 : fq [0, 1, 2, 19, 22] [29, 30, 59] m (kF m7 0 0) := fq_F hf14 0 _ rfl
  refine g_aload_n (n := 0) rfl rfl ?_
  refine g_getf (v := vR 31) rfl (kl_0 _) rfl ?_
  have h17 : 0 ≤ m7.1 22 ∧ m7.1 22 ≤ 8 := hm9.1 22
  have h18 : m7.1 22 = m.1 22 := hc10.1 22 rfl
  have h19 : (kF m7 0 0).1 22 = m7.1 22 := rfl
  refine c_vI (i := 31) (ps := []) (r := []) (as := [vR 31]) (cs' := 0) (sl' := 0) rfl rfl rfl rfl rfl rfl (kl_31 _) (c_unhear (d := d - 1) (q := q - (2 + 19)) (by omega) (by omega) hm15  ) (by omega) (show 2 + 19 ≤ q by omega) (Nat.le_of_ble_eq_true rfl) (Nat.le_of_ble_eq_true rfl) rfl rfl rfl ?_
  rintro z20 m21 ⟨hm23, hc24, p25, p26⟩
  have hf27 : fq [0, 1, 2, 19, 22] [29, 30, 59] m m21 := fq_tr hf16 (fq_le (fq_of hc24) rfl rfl)
  have h28 : m21.1 0 = 0 := hc24.1 0 rfl
  have h29 : 0 ≤ m21.1 0 ∧ m21.1 0 ≤ 20 := hm23.1 0
  have t30 : kW m21 := kW_fr hc24 rfl rfl p11
  have t31 : kP m21 := kP_fr hc24 rfl rfl p12
  refine g_pop rfl rfl ?_
  refine g_iconst rfl ?_
  refine g_istore_n (n := 1) (lo' := [(0, vR 0)]) rfl rfl ?_
  have L27_1 : ∀ (n27_1 : Nat) (k_1 : Int) (mL1 : kM), (kI mL1) → (fq [0, 1, 2, 19, 22] [29, 30, 59] m mL1) → (0 ≤ k_1 ∧ k_1 ≤ 2) → (kW mL1) → (kP mL1) → (mL1.1 22 = 0) → (mL1.1 0 = 0) → ((2 - k_1).toNat) = n27_1 → cg_G V mX9_beginAsTold d q (R_V (fun m' => (kI m') ∧ (fq [0, 1, 2, 19, 22] [29, 30, 59] m m') ∧ (kW m') ∧ (kP m') ∧ (m'.1 22 = 0) ∧ (m'.1 0 = 0))) 27 [(1, vI k_1), (0, vR 0)] [] (kl mL1) 0 0 := by
    intro n27_1
    induction n27_1 using Nat.strongRecOn with
    | _ n27_1 ih27_1 =>
      intro k_1 mL1 hmL1 hfL1 i32 iW iP iD iR q33
      refine g_iload_n (n := 1) rfl rfl ?_
      refine g_iconst rfl ?_
      refine g_icmp_ge (by omega) (by omega) (by decide) (by decide) rfl ?_ ?_
      · intro kk34
        refine g_vret rfl rfl ?_
        exact ⟨_, rfl, hmL1, hfL1, iW, iP, iD, iR⟩
      · intro kk35
        refine g_aload_n (n := 0) rfl rfl ?_
        refine g_getf (v := vR 59) rfl (kl_0 _) rfl ?_
        refine g_iload_n (n := 1) rfl rfl ?_
        refine g_iconst rfl ?_
        refine g_iAst (f := mL1.2.1 59) (m' := (kA mL1 59 (up (mL1.2.1 59) k_1 (-1)))) rfl (kl_59 _) (by decide) (by omega) (by omega) (kA_59 _ _) ?_
        have hm36 : kI (kA mL1 59 (up (mL1.2.1 59) k_1 (-1))) := kI_U hmL1 59 rfl (show ((-1) : Int) ≤ (-1) by omega) (show (-1) ≤ (524287 : Int) by omega)
        have hf37 : fq [0, 1, 2, 19, 22] [29, 30, 59] m (kA mL1 59 (up (mL1.2.1 59) k_1 (-1))) := fq_A hfL1 59 _ rfl
        refine g_iinc (n := 1) (lo' := [(0, vR 0)]) rfl rfl rfl ?_
        refine g_goto rfl ?_
        exact ih27_1 _ (by omega) (k_1 + 1) (kA mL1 59 (up (mL1.2.1 59) k_1 (-1))) hm36 hf37 (by omega) iW iP iD iR rfl
  exact L27_1 _ 0 m21 hm23 hf27 (by omega) t30 t31 (by omega) (by omega) rfl
