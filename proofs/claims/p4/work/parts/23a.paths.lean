/-! ===== contracts: rows of acts that were sought ===== -/
theorem g_oin {V : cg_V} {me : ae_M} {d q : Nat} {Rs : ae_R → Prop} {pc nx i1 i2 i3 pos n i : Nat} {lo : ae_L} {st : List ae_V} {w : List ae_C} {cs sl : Nat} (hi : cg_at me pc = some (.invokespecial n, nx, i1, i2, i3, pos)) (h2 : i2 = 0) (h3 : i3 = 0) (hd : 1 ≤ d) (hq : ae_wd st + 12 ≤ q) (k : cg_G V me d q Rs nx lo st w cs sl) : cg_G V me d q Rs pc lo (vR i :: st) w cs sl := by
  subst h2
  subst h3
  refine cg_step hi ?_
  show ae_if (Nat.ble 1 d && Nat.ble (ae_wd st + 12) q) (cg_ind (cg_G V me d q Rs) (cg_du me) nx lo st w cs sl) = _
  rw [Nat.ble_eq_true_of_le hd, Nat.ble_eq_true_of_le hq, Bool.and_self, ae_if_t]
  exact cg_pos k
/-- fields and arrays as fr has it; what is on the references stays, rows and objects are added -/
def fs (SF SA : List Nat) (m m' : kM) : Prop := (∀ k, SF.contains k = false → m'.1 k = m.1 k) ∧ ((∀ i, SA.contains i = false → m'.2.1 i = m.2.1 i) ∧ ((∃ L, m'.2.2.2 = m.2.2.2 ++ L) ∧ m'.2.2.1 = m.2.2.1))
def fq (SF SA : List Nat) (m m' : kM) : Prop := (∀ k, SF.contains k = false → m'.1 k = m.1 k) ∧ ((∀ i, SA.contains i = false → m'.2.1 i = m.2.1 i) ∧ (∃ L, m'.2.2.2 = m.2.2.2 ++ L))
theorem fs_of {SF SA : List Nat} {m m' : kM} (h : fr SF SA m m') : fs SF SA m m' := ⟨h.1, h.2.1, ⟨[], by rw [h.2.2, List.append_nil]⟩, by rw [h.2.2]⟩
theorem fq_os {SF SA : List Nat} {m m' : kM} (h : fs SF SA m m') : fq SF SA m m' := ⟨h.1, h.2.1, h.2.2.1⟩
theorem fq_of {SF SA : List Nat} {m m' : kM} (h : fr SF SA m m') : fq SF SA m m' := fq_os (fs_of h)
theorem fs_rf {SF SA : List Nat} (m : kM) : fs SF SA m m := fs_of (fr_rf m)
theorem fq_rf {SF SA : List Nat} (m : kM) : fq SF SA m m := fq_of (fr_rf m)
theorem fs_tr {SF SA : List Nat} {m m1 m2 : kM} (h : fs SF SA m m1) (g : fs SF SA m1 m2) : fs SF SA m m2 := by
  obtain ⟨L, hL⟩ := h.2.2.1
  obtain ⟨K, hK⟩ := g.2.2.1
  exact ⟨fun k e => (g.1 k e).trans (h.1 k e), fun k e => (g.2.1 k e).trans (h.2.1 k e), ⟨L ++ K, by rw [hK, hL, List.append_assoc]⟩, g.2.2.2.trans h.2.2.2⟩
theorem fq_tr {SF SA : List Nat} {m m1 m2 : kM} (h : fq SF SA m m1) (g : fq SF SA m1 m2) : fq SF SA m m2 := by
  obtain ⟨L, hL⟩ := h.2.2
  obtain ⟨K, hK⟩ := g.2.2
  exact ⟨fun k e => (g.1 k e).trans (h.1 k e), fun k e => (g.2.1 k e).trans (h.2.1 k e), ⟨L ++ K, by rw [hK, hL, List.append_assoc]⟩⟩
theorem fs_le {SF SA TF TA : List Nat} {m m1 : kM} (h : fs TF TA m m1) (h1 : TF.all (fun x => SF.contains x) = true) (h2 : TA.all (fun x => SA.contains x) = true) : fs SF SA m m1 := ⟨fun k e => h.1 k (fr_cov h1 e), fun k e => h.2.1 k (fr_cov h2 e), h.2.2⟩
theorem fq_le {SF SA TF TA : List Nat} {m m1 : kM} (h : fq TF TA m m1) (h1 : TF.all (fun x => SF.contains x) = true) (h2 : TA.all (fun x => SA.contains x) = true) : fq SF SA m m1 := ⟨fun k e => h.1 k (fr_cov h1 e), fun k e => h.2.1 k (fr_cov h2 e), h.2.2⟩
theorem fs_F {SF SA : List Nat} {m m1 : kM} (h : fs SF SA m m1) (k : Nat) (v : Int) (hk : SF.contains k = true) : fs SF SA m (kF m1 k v) := fs_tr h (fs_of (fr_F (fr_rf m1) k v hk))
theorem fq_F {SF SA : List Nat} {m m1 : kM} (h : fq SF SA m m1) (k : Nat) (v : Int) (hk : SF.contains k = true) : fq SF SA m (kF m1 k v) := fq_tr h (fq_of (fr_F (fr_rf m1) k v hk))
theorem fs_A {SF SA : List Nat} {m m1 : kM} (h : fs SF SA m m1) (i : Nat) (f : Int → Int) (hi : SA.contains i = true) : fs SF SA m (kA m1 i f) := fs_tr h (fs_of (fr_A (fr_rf m1) i f hi))
theorem fq_A {SF SA : List Nat} {m m1 : kM} (h : fq SF SA m m1) (i : Nat) (f : Int → Int) (hi : SA.contains i = true) : fq SF SA m (kA m1 i f) := fq_tr h (fq_of (fr_A (fr_rf m1) i f hi))
theorem fs_T {SF SA : List Nat} {m m1 : kM} (h : fs SF SA m m1) (c : ae_C) : fs SF SA m (kT m1 c) := fs_tr h ⟨fun _ _ => rfl, fun _ _ => rfl, ⟨[c], rfl⟩, rfl⟩
theorem fq_R {SF SA : List Nat} {m m1 : kM} (h : fq SF SA m m1) (k : Nat) (v : ae_V) : fq SF SA m (kR m1 k v) := fq_tr h ⟨fun _ _ => rfl, fun _ _ => rfl, ⟨[], by rw [List.append_nil]; rfl⟩⟩
/-- a row of acts that was sought -/
def pth (m : kM) (v : ae_V) : Prop := ∃ (i j : Nat) (x : Int) (n : Nat) (f : Int → Int), v = vR (76 + i) ∧ m.2.2.2[i]? = some (.inr (4, [vI x, vR (76 + j)])) ∧ m.2.2.2[j]? = some (cI n f) ∧ n ≤ 64512 ∧ -1 ≤ x ∧ x ≤ 64512
theorem T_ext {l L : List ae_C} {i : Nat} {c : ae_C} (h : l[i]? = some c) : (l ++ L)[i]? = some c := by
  have hi : i < l.length := by
    rcases Nat.lt_or_ge i l.length with h9 | h9
    · exact h9
    · rw [List.getElem?_eq_none h9] at h
      cases h
  rw [List.getElem?_append_left hi]
  exact h
theorem pth_T {m m' : kM} {v : ae_V} (hT : ∃ L, m'.2.2.2 = m.2.2.2 ++ L) (h : pth m v) : pth m' v := by
  obtain ⟨L, hL⟩ := hT
  obtain ⟨i, j, x, n, f, h1, h2, h3, h4⟩ := h
  exact ⟨i, j, x, n, f, h1, by rw [hL]; exact T_ext h2, by rw [hL]; exact T_ext h3, h4⟩
def kP (m : kM) : Prop := (m.2.2.1 0 = vE 0 ∨ pth m (m.2.2.1 0)) ∧ (m.2.2.1 1 = vE 0 ∨ pth m (m.2.2.1 1))
theorem kP_fs {SF SA : List Nat} {m m' : kM} (h : fs SF SA m m') (hP : kP m) : kP m' := by
  unfold kP
  rw [h.2.2.2]
  exact ⟨hP.1.imp id (pth_T h.2.2.1), hP.2.imp id (pth_T h.2.2.1)⟩
theorem kP_fr {SF SA : List Nat} {m m' : kM} (h : fr SF SA m m') (_ : SF.contains 0 = SF.contains 0) (_ : SA.contains 0 = SA.contains 0) (hP : kP m) : kP m' := kP_fs (fs_of h) hP
def kW (m : kM) : Prop := ∀ p : Int, 0 ≤ p → p < 64512 → 0 ≤ m.2.1 18 p ∧ m.2.1 18 p / 524288 % 131072 < 64512
theorem kW_fr {SF SA : List Nat} {m m' : kM} (h : fr SF SA m m') (_ : SF.contains 0 = SF.contains 0) (h2 : SA.contains 18 = false) (hQ : kW m) : kW m' := by
  intro p a b
  rw [h.2.1 18 h2]
  exact hQ p a b
theorem kW_put {m m' : kM} {v i : Int} (hQ : kW m) (h18 : m'.2.1 18 = up (m.2.1 18) i v) (hv0 : 0 ≤ v) (hv : v / 524288 % 131072 < 64512) : kW m' := by
  intro p a b
  rw [h18]
  by_cases e : p = i
  · rw [e, up_same]
    exact ⟨hv0, hv⟩
  · rw [up_ne _ e]
    exact hQ p a b
theorem kT_set0 (m : kM) (c1 c2 c : ae_C) : (kl (kT (kT m c1) c2)).set (76 + m.2.2.2.length) c = kl (kT (kT m c) c2) := by
  have e : ∀ c9 : ae_C, kl (kT (kT m c9) c2) = kl m ++ c9 :: [c2] := fun c9 => by rw [← kT_app, ← kT_app, List.append_assoc]; rfl
  rw [e, e, ← kl_len, List.set_append_right _ _ (Nat.le_refl _), Nat.sub_self]
  rfl
theorem kT_set1 (m : kM) (c1 c : ae_C) : (kl (kT m c1)).set (76 + m.2.2.2.length) c = kl (kT m c) := by
  rw [← kT_app, ← kT_app, ← kl_len, List.set_append_right _ _ (Nat.le_refl _), Nat.sub_self]
  rfl
theorem kT_get (m : kM) (c : ae_C) : (kl (kT m c))[76 + m.2.2.2.length]? = some c := by
  rw [← kT_app, ← kl_len, List.getElem?_append_right (Nat.le_refl _), Nat.sub_self]
  rfl
theorem kT_get0 (m : kM) (c1 c2 : ae_C) : (kl (kT (kT m c1) c2))[76 + m.2.2.2.length]? = some c1 := by
  have e : kl (kT (kT m c1) c2) = kl m ++ c1 :: [c2] := by rw [← kT_app, ← kT_app, List.append_assoc]; rfl
  rw [e, ← kl_len, List.getElem?_append_right (Nat.le_refl _), Nat.sub_self]
  rfl
theorem kT_len (m : kM) (c : ae_C) : (kT m c).2.2.2.length = m.2.2.2.length + 1 := by
  show (m.2.2.2 ++ [c]).length = _
  rw [List.length_append]
  rfl
theorem pth_0 (m : kM) {x : Int} {n : Nat} {f : Int → Int} (hn : n ≤ 64512) (hx : -1 ≤ x ∧ x ≤ 64512) : pth (kT (kT m (.inr (4, [vI x, vR (76 + (m.2.2.2.length + 1))]))) (cI n f)) (vR (76 + m.2.2.2.length)) := by
  refine ⟨m.2.2.2.length, m.2.2.2.length + 1, x, n, f, rfl, ?_, ?_, hn, hx⟩
  · have h := kT_get0 m (.inr (4, [vI x, vR (76 + (m.2.2.2.length + 1))])) (cI n f)
    rw [kl_T] at h
    exact h
  · have h := kT_get (kT m (.inr (4, [vI x, vR (76 + (m.2.2.2.length + 1))]))) (cI n f)
    rw [kl_T, kT_len] at h
    exact h
theorem pth_1 (m : kM) {x : Int} {n : Nat} {f : Int → Int} (hn : n ≤ 64512) (hx : -1 ≤ x ∧ x ≤ 64512) : pth (kT (kT m (cI n f)) (.inr (4, [vI x, vR (76 + m.2.2.2.length)]))) (vR (76 + (m.2.2.2.length + 1))) := by
  refine ⟨m.2.2.2.length + 1, m.2.2.2.length, x, n, f, rfl, ?_, ?_, hn, hx⟩
  · have h := kT_get (kT m (cI n f)) (.inr (4, [vI x, vR (76 + m.2.2.2.length)]))
    rw [kl_T, kT_len] at h
    exact h
  · have h := kT_get0 m (cI n f) (.inr (4, [vI x, vR (76 + m.2.2.2.length)]))
    rw [kl_T] at h
    exact h
theorem c_X5 {V : cg_V} {d q : Nat} (hd : 1 ≤ d) (hq : 14 ≤ q) {w : List ae_C} {a b : Nat} {x : Int} {v0 v1 : ae_V} (ha : w[a]? = some (.inr (4, [v0, v1]))) : cg_S V d q mX5_init [vR a, vI x, vR b] w (fun r => r = (none, w.set a (.inr (4, [vI x, vR b])))) := by
  have hl : a < w.length := by
    rcases Nat.lt_or_ge a w.length with h9 | h9
    · exact h9
    · rw [List.getElem?_eq_none h9] at ha
      cases ha
  refine cg_of (List.mem_of_getElem? (show ae_MT[33]? = some mX5_init from rfl)) (Nat.le_of_ble_eq_true rfl) ?_
  show cg_G V mX5_init d q _ 0 [(0, vR a), (1, vI x), (2, vR b)] [] w 0 0
  refine g_aload_n (n := 0) rfl rfl ?_
  refine g_oin rfl rfl rfl hd (show 0 + 12 ≤ q by omega) ?_
  refine g_aload_n (n := 0) rfl rfl ?_
  refine g_iload_n (n := 1) rfl rfl ?_
  refine g_putf rfl ha rfl rfl rfl rfl ?_
  refine g_aload_n (n := 0) rfl rfl ?_
  refine g_aload_n (n := 2) rfl rfl ?_
  refine g_putf (fs := [vI x, v1]) rfl (List.getElem?_set_self hl) rfl rfl rfl rfl ?_
  refine g_vret rfl rfl ?_
  rw [List.set_set]
  rfl
theorem c_X5t {V : cg_V} {d q : Nat} {w : List ae_C} {a b n : Nat} {x i : Int} {f : Int → Int} (ha : w[a]? = some (.inr (4, [vI x, vR b]))) (hb : w[b]? = some (cI n f)) (hn : n ≤ 64512) (hx : -1 ≤ x ∧ x ≤ 64512) (hi : -2147483648 ≤ i ∧ i ≤ 2147483647) {Rs : ae_R → Prop} (hR : ∀ z : Int, -2147483648 ≤ z → z < 2147483648 → Rs (some (vI z), w)) : cg_S V d q mX5_tell [vR a, vI i] w Rs := by
  refine cg_of (List.mem_of_getElem? (show ae_MT[62]? = some mX5_tell from rfl)) (Nat.le_of_ble_eq_true rfl) ?_
  show cg_G V mX5_tell d q _ 0 [(0, vR a), (1, vI i)] [] w 0 0
  have hno : cg_G V mX5_tell d q Rs 40 [(0, vR a), (1, vI i)] [] w 0 0 := by
    refine g_iconst rfl ?_
    refine g_iret rfl rfl ?_
    exact hR _ (by omega) (by omega)
  refine g_iload_n (n := 1) rfl rfl ?_
  refine g_iconst rfl ?_
  refine g_icmp_ne (by omega) (by omega) (by omega) (by omega) rfl ?_ ?_
  · intro k1
    refine g_iload_n (n := 1) rfl rfl ?_
    refine g_if_lt (by omega) (by omega) rfl ?_ ?_
    · intro k2
      exact hno
    · intro k2
      refine g_iload_n (n := 1) rfl rfl ?_
      refine g_aload_n (n := 0) rfl rfl ?_
      refine g_getf (v := vI x) rfl ha rfl ?_
      refine g_icmp_ge (by omega) (by omega) (by omega) (by omega) rfl ?_ ?_
      · intro k3
        exact hno
      · intro k3
        refine g_iload_n (n := 1) rfl rfl ?_
        refine g_aload_n (n := 0) rfl rfl ?_
        refine g_getf (v := vR b) rfl ha rfl ?_
        refine g_alen rfl hb (by decide) (by omega) ?_
        refine g_icmp_ge (by omega) (by omega) (by omega) (by omega) rfl ?_ ?_
        · intro k4
          exact hno
        · intro k4
          refine g_aload_n (n := 0) rfl rfl ?_
          refine g_getf (v := vR b) rfl ha rfl ?_
          refine g_iload_n (n := 1) rfl rfl ?_
          refine g_iald rfl hb (by omega) (by omega) (by omega) ?_
          refine g_goto rfl ?_
          refine g_nrm ?_
          intro z h1 h2 h3 h4
          refine g_iret rfl rfl ?_
          exact hR _ h1 h2
  · intro k1
    refine g_aload_n (n := 0) rfl rfl ?_
    refine g_getf (v := vI x) rfl ha rfl ?_
    refine g_iret rfl rfl ?_
    exact hR _ (by omega) (by omega)
