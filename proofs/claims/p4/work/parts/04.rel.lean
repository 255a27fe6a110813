/-! ===== what the abstract things say of the machine's ===== -/
def ag_I (a : ae_I) (x : Int32) : Prop := match a with
  | .inl n => x = nI n
  | .inr r => r.1 ≤ x.toInt ∧ x.toInt ≤ r.2
def ag_J (a : ae_I) (x : Int64) : Prop := match a with
  | .inl n => x = lN n
  | .inr r => r.1 ≤ x.toInt ∧ x.toInt ≤ r.2
theorem ag_Ib {a : ae_I} {x : Int32} (h : ag_I a x) : (ae_bd a).1 ≤ x.toInt ∧ x.toInt ≤ (ae_bd a).2 := by
  cases a with
  | inl n =>
    have e : x = nI n := h
    rw [e]
    exact ⟨Int.le_refl _, Int.le_refl _⟩
  | inr r => exact h
theorem ag_Jb {a : ae_I} {x : Int64} (h : ag_J a x) : (ae_bl a).1 ≤ x.toInt ∧ x.toInt ≤ (ae_bl a).2 := by
  cases a with
  | inl n =>
    have e : x = lN n := h
    rw [e]
    exact ⟨Int.le_refl _, Int.le_refl _⟩
  | inr r => exact h
theorem ag_full (x : Int32) : ag_I (.inr (-2147483648, 2147483647)) x := by
  have h1 : (-2147483648 : Int) ≤ x.toInt := by simpa using Int32.le_toInt x
  have h2 : x.toInt < 2147483648 := by simpa using Int32.toInt_lt x
  show (-2147483648 : Int) ≤ x.toInt ∧ x.toInt ≤ (2147483647 : Int)
  omega
theorem ag_fullL (x : Int64) : ag_J (.inr (-9223372036854775808, 9223372036854775807)) x := by
  have h1 : (-9223372036854775808 : Int) ≤ x.toInt := by simpa using Int64.le_toInt x
  have h2 : x.toInt < 9223372036854775808 := by simpa using Int64.toInt_lt x
  show (-9223372036854775808 : Int) ≤ x.toInt ∧ x.toInt ≤ (9223372036854775807 : Int)
  omega
section NUMS
variable {r : ae_R} {k : ae_I → ae_O} {a b : ae_I}
theorem ae_b_inv {f : Int32 → Int32 → Int32} {x y : Int32} (h : ae_b f a b k = some r) (ha : ag_I a x) (hb : ag_I b y) : ∃ z, ag_I z (f x y) ∧ k z = some r := by
  unfold ae_b at h
  split at h
  · rw [ae_n_eq] at h
    have e1 : x = nI _ := ha
    have e2 : y = nI _ := hb
    exact ⟨_, by show _ = nI _; rw [ae_c_eq, e1, e2], h⟩
  · exact ⟨_, ag_full _, h⟩
theorem ae_band_inv {x y : Int32} (h : ae_band a b k = some r) (ha : ag_I a x) (hb : ag_I b y) : ∃ z, ag_I z (x &&& y) ∧ k z = some r := by
  unfold ae_band at h
  split at h
  · rw [ae_n_eq] at h
    have e1 : x = nI _ := ha
    have e2 : y = nI _ := hb
    exact ⟨_, by show _ = nI _; rw [ae_c_eq, e1, e2], h⟩
  · rename_i q n
    cases hn : Nat.blt n 2147483648 with
    | false =>
      rw [hn] at h
      exact ⟨_, ag_full _, h⟩
    | true =>
      rw [hn] at h
      have hn2 : n < 2147483648 := Nat.le_of_ble_eq_true hn
      have e2 : y = nI n := hb
      refine ⟨_, ?_, h⟩
      have hle : ae_c (x &&& y) ≤ n := by
        rw [e2]
        show (x.toBitVec &&& (nI n).toBitVec).toNat ≤ n
        rw [BitVec.toNat_and, pk_tn (by omega)]
        exact Nat.and_le_right
      rw [← ae_c_eq (x &&& y)]
      show (0 : Int) ≤ (nI (ae_c (x &&& y))).toInt ∧ (nI (ae_c (x &&& y))).toInt ≤ (n : Int)
      rw [nI_toInt (by omega)]
      omega
  · exact ⟨_, ag_full _, h⟩
theorem ae_bz_inv {f : Int32 → Int32 → Int32} {x y : Int32} (h : ae_bz f a b k = some r) (ha : ag_I a x) (hb : ag_I b y) : ¬ y = 0 ∧ ∃ z, ag_I z (f x y) ∧ k z = some r := by
  unfold ae_bz at h
  split at h
  · rename_i m n
    have e1 : x = nI m := ha
    have e2 : y = nI n := hb
    by_cases h0 : nI n = 0
    · rw [decide_eq_true h0] at h
      cases h
    · rw [decide_eq_false h0] at h
      have h : ae_n (ae_c (f (nI m) (nI n))) (fun z => k (.inl z)) = some r := h
      rw [ae_n_eq] at h
      exact ⟨by rw [e2]; exact h0, _, by show _ = nI _; rw [ae_c_eq, e1, e2], h⟩
  · cases h
theorem ae_lb_inv {f : Int64 → Int64 → Int64} {x y : Int64} (h : ae_lb f a b k = some r) (ha : ag_J a x) (hb : ag_J b y) : ∃ z, ag_J z (f x y) ∧ k z = some r := by
  unfold ae_lb at h
  split at h
  · rw [ae_n_eq] at h
    have e1 : x = lN _ := ha
    have e2 : y = lN _ := hb
    exact ⟨_, by show _ = lN _; rw [ae_d_eq, e1, e2], h⟩
  · exact ⟨_, ag_fullL _, h⟩
theorem ae_lbz_inv {f : Int64 → Int64 → Int64} {x y : Int64} (h : ae_lbz f a b k = some r) (ha : ag_J a x) (hb : ag_J b y) : ¬ y = 0 ∧ ∃ z, ag_J z (f x y) ∧ k z = some r := by
  unfold ae_lbz at h
  split at h
  · rename_i m n
    have e1 : x = lN m := ha
    have e2 : y = lN n := hb
    by_cases h0 : lN n = 0
    · rw [decide_eq_true h0] at h
      cases h
    · rw [decide_eq_false h0] at h
      have h : ae_n (ae_d (f (lN m) (lN n))) (fun z => k (.inl z)) = some r := h
      rw [ae_n_eq] at h
      exact ⟨by rw [e2]; exact h0, _, by show _ = lN _; rw [ae_d_eq, e1, e2], h⟩
  · cases h
theorem ae_ls_inv {f : Int64 → Int32 → Int64} {x : Int64} {y : Int32} (h : ae_ls f a b k = some r) (ha : ag_J a x) (hb : ag_I b y) : ∃ z, ag_J z (f x y) ∧ k z = some r := by
  unfold ae_ls at h
  split at h
  · rw [ae_n_eq] at h
    have e1 : x = lN _ := ha
    have e2 : y = nI _ := hb
    exact ⟨_, by show _ = lN _; rw [ae_d_eq, e1, e2], h⟩
  · exact ⟨_, ag_fullL _, h⟩
theorem ae_i2l_inv {x : Int32} (h : ae_i2l a k = some r) (ha : ag_I a x) : ∃ z, ag_J z x.toInt64 ∧ k z = some r := by
  unfold ae_i2l at h
  split at h
  · rw [ae_n_eq] at h
    have e1 : x = nI _ := ha
    exact ⟨_, by show _ = lN _; rw [ae_d_eq, e1], h⟩
  · rename_i q
    have hq : q.1 ≤ x.toInt ∧ x.toInt ≤ q.2 := ha
    exact ⟨_, by show q.1 ≤ _ ∧ _ ≤ q.2; rw [Int32.toInt_toInt64]; exact hq, h⟩
theorem ae_l2i_inv {x : Int64} (h : ae_l2i a k = some r) (ha : ag_J a x) : ∃ z, ag_I z x.toInt32 ∧ k z = some r := by
  unfold ae_l2i at h
  split at h
  · rw [ae_n_eq] at h
    have e1 : x = lN _ := ha
    exact ⟨_, by show _ = nI _; rw [ae_c_eq, e1], h⟩
  · exact ⟨_, ag_full _, h⟩
theorem lg_cmp_int (x y : Int64) : (lg_cmp x y).toInt = if y.toInt < x.toInt then 1 else if x.toInt = y.toInt then 0 else -1 := by
  unfold lg_cmp
  by_cases h1 : x > y
  · rw [if_pos h1, if_pos (Int64.lt_iff_toInt_lt.mp h1)]
    decide +kernel
  · rw [if_neg h1, if_neg (fun q => h1 (Int64.lt_iff_toInt_lt.mpr q))]
    by_cases h2 : x = y
    · rw [if_pos h2, if_pos (by rw [h2])]
      decide +kernel
    · rw [if_neg h2, if_neg (fun q => h2 (Int64.toInt_inj.mp q))]
      decide +kernel
theorem ae_lcmp_inv {x y : Int64} (h : ae_lcmp a b k = some r) (ha : ag_J a x) (hb : ag_J b y) : ∃ z, ag_I z (lg_cmp x y) ∧ k z = some r := by
  unfold ae_lcmp at h
  split at h
  · rw [ae_n_eq] at h
    have e1 : x = lN _ := ha
    have e2 : y = lN _ := hb
    exact ⟨_, by show _ = nI _; rw [ae_c_eq, e1, e2], h⟩
  · refine ⟨_, ?_, h⟩
    have h1 := ag_Jb ha
    have h2 := ag_Jb hb
    show _ ≤ (lg_cmp x y).toInt ∧ (lg_cmp x y).toInt ≤ _
    rw [lg_cmp_int]
    generalize (ae_bl a).1 = a1 at *
    generalize (ae_bl a).2 = a2 at *
    generalize (ae_bl b).1 = b1 at *
    generalize (ae_bl b).2 = b2 at *
    generalize x.toInt = X at *
    generalize y.toInt = Y at *
    refine ⟨?_, ?_⟩
    · by_cases c1 : b2 < a1
      · rw [decide_eq_true c1, if_pos (by omega)]
        exact Int.le_refl _
      · rw [decide_eq_false c1]
        by_cases c2 : b2 ≤ a1
        · rw [decide_eq_true c2]
          show (0 : Int) ≤ _
          split
          · decide
          · rw [if_pos (by omega)]
            decide
        · rw [decide_eq_false c2]
          show (-1 : Int) ≤ _
          split
          · decide
          · split <;> decide
    · by_cases c1 : a2 < b1
      · rw [decide_eq_true c1, if_neg (by omega), if_neg (by omega)]
        exact Int.le_refl _
      · rw [decide_eq_false c1]
        by_cases c2 : a2 ≤ b1
        · rw [decide_eq_true c2]
          show _ ≤ (0 : Int)
          rw [if_neg (by omega)]
          split <;> decide
        · rw [decide_eq_false c2]
          show _ ≤ (1 : Int)
          split
          · decide
          · split <;> decide
theorem ae_lt_inv {x y : Int32} {t : Bool} (h : ae_lt a b = some t) (ha : ag_I a x) (hb : ag_I b y) : (x < y) ↔ t = true := by
  unfold ae_lt at h
  split at h
  · have e1 : x = nI _ := ha
    have e2 : y = nI _ := hb
    cases h
    rw [e1, e2]
    simp
  · have h1 := ag_Ib ha
    have h2 := ag_Ib hb
    rw [Int32.lt_iff_toInt_lt]
    by_cases c1 : (ae_bd a).2 < (ae_bd b).1
    · rw [decide_eq_true c1] at h
      cases h
      simp
      omega
    · rw [decide_eq_false c1] at h
      by_cases c2 : (ae_bd b).2 ≤ (ae_bd a).1
      · rw [decide_eq_true c2] at h
        cases h
        simp
        omega
      · rw [decide_eq_false c2] at h
        cases h
theorem ae_eq_inv {x y : Int32} {t : Bool} (h : ae_eq a b = some t) (ha : ag_I a x) (hb : ag_I b y) : (x = y) ↔ t = true := by
  unfold ae_eq at h
  split at h
  · have e1 : x = nI _ := ha
    have e2 : y = nI _ := hb
    cases h
    rw [e1, e2]
    simp
  · have h1 := ag_Ib ha
    have h2 := ag_Ib hb
    by_cases c1 : (ae_bd a).2 < (ae_bd b).1
    · rw [decide_eq_true c1] at h
      cases h
      simp
      intro q
      rw [q] at h1
      omega
    · rw [decide_eq_false c1] at h
      by_cases c2 : (ae_bd b).2 < (ae_bd a).1
      · rw [decide_eq_true c2] at h
        cases h
        simp
        intro q
        rw [q] at h1
        omega
      · rw [decide_eq_false c2] at h
        cases h
theorem ae_not_inv {o : Option Bool} {t : Bool} (h : ae_not o = some t) : o = some (!t) := by
  unfold ae_not at h
  split at h
  · cases h; rfl
  · cases h; rfl
  · cases h
theorem ae_br_inv {o : Option Bool} {kt kf : ae_O} (h : ae_br o kt kf = some r) : (o = some true ∧ kt = some r) ∨ (o = some false ∧ kf = some r) := by
  unfold ae_br at h
  split at h
  · exact Or.inl ⟨rfl, h⟩
  · exact Or.inr ⟨rfl, h⟩
  · cases h
end NUMS
section INVS
variable {r : ae_R} {st : List ae_V}
theorem ae_i1_inv {k : ae_I → List ae_V → ae_O} (h : ae_i1 st k = some r) : ∃ a l, st = .inl a :: l ∧ k a l = some r := by
  unfold ae_i1 at h
  split at h
  · exact ⟨_, _, rfl, h⟩
  · cases h
theorem ae_i2_inv {k : ae_I → ae_I → List ae_V → ae_O} (h : ae_i2 st k = some r) : ∃ a b l, st = .inl b :: .inl a :: l ∧ k a b l = some r := by
  unfold ae_i2 at h
  split at h
  · exact ⟨_, _, _, rfl, h⟩
  · cases h
theorem ae_l1_inv {k : ae_I → List ae_V → ae_O} (h : ae_l1 st k = some r) : ∃ a l, st = .inr (.inl a) :: l ∧ k a l = some r := by
  unfold ae_l1 at h
  split at h
  · exact ⟨_, _, rfl, h⟩
  · cases h
theorem ae_l2_inv {k : ae_I → ae_I → List ae_V → ae_O} (h : ae_l2 st k = some r) : ∃ a b l, st = .inr (.inl b) :: .inr (.inl a) :: l ∧ k a b l = some r := by
  unfold ae_l2 at h
  split at h
  · exact ⟨_, _, _, rfl, h⟩
  · cases h
theorem ae_li_inv {k : ae_I → ae_I → List ae_V → ae_O} (h : ae_li st k = some r) : ∃ a b l, st = .inl b :: .inr (.inl a) :: l ∧ k a b l = some r := by
  unfold ae_li at h
  split at h
  · exact ⟨_, _, _, rfl, h⟩
  · cases h
theorem ae_r1_inv {k : Nat → List ae_V → ae_O} (h : ae_r1 st k = some r) : ∃ i l, st = .inr (.inr (.inl i)) :: l ∧ k i l = some r := by
  unfold ae_r1 at h
  split at h
  · exact ⟨_, _, rfl, h⟩
  · cases h
theorem ae_ri_inv {k : Nat → Nat → List ae_V → ae_O} (h : ae_ri st k = some r) : ∃ i j l, st = .inl (.inl j) :: .inr (.inr (.inl i)) :: l ∧ k i j l = some r := by
  unfold ae_ri at h
  split at h
  · exact ⟨_, _, _, rfl, h⟩
  · cases h
theorem ae_rv_inv {k : Nat → Nat → ae_V → List ae_V → ae_O} (h : ae_rv st k = some r) : ∃ i j v l, st = v :: .inl (.inl j) :: .inr (.inr (.inl i)) :: l ∧ k i j v l = some r := by
  unfold ae_rv at h
  split at h
  · exact ⟨_, _, _, _, rfl, h⟩
  · cases h
theorem ae_vr_inv {k : Nat → ae_V → List ae_V → ae_O} (h : ae_vr st k = some r) : ∃ i v l, st = v :: .inr (.inr (.inl i)) :: l ∧ k i v l = some r := by
  unfold ae_vr at h
  split at h
  · exact ⟨_, _, _, rfl, h⟩
  · cases h
theorem ae_ri2_inv {kw ks : Nat → Nat → List ae_V → ae_O} (h : ae_ri2 st kw ks = some r) : (∃ i j l, st = .inl (.inl j) :: .inr (.inr (.inl i)) :: l ∧ kw i j l = some r) ∨ (∃ i j l, st = .inl (.inl j) :: .inr (.inr (.inr i)) :: l ∧ ks i j l = some r) := by
  unfold ae_ri2 at h
  split at h
  · exact Or.inl ⟨_, _, _, rfl, h⟩
  · exact Or.inr ⟨_, _, _, rfl, h⟩
  · cases h
theorem ae_al_inv {kw ks : Nat → List ae_V → ae_O} (h : ae_al st kw ks = some r) : (∃ i l, st = .inr (.inr (.inl i)) :: l ∧ kw i l = some r) ∨ (∃ i l, st = .inr (.inr (.inr i)) :: l ∧ ks i l = some r) := by
  unfold ae_al at h
  split at h
  · exact Or.inl ⟨_, _, rfl, h⟩
  · exact Or.inr ⟨_, _, rfl, h⟩
  · cases h
theorem ae_n1_inv {k : Nat → List ae_V → ae_O} (h : ae_n1 st k = some r) : ∃ n l, st = .inl (.inl n) :: l ∧ k n l = some r := by
  unfold ae_n1 at h
  split at h
  · exact ⟨_, _, rfl, h⟩
  · cases h
theorem ae_n2_inv {k : Nat → Nat → List ae_V → ae_O} (h : ae_n2 st k = some r) : ∃ a b l, st = .inl (.inl b) :: .inl (.inl a) :: l ∧ k a b l = some r := by
  unfold ae_n2 at h
  split at h
  · exact ⟨_, _, _, rfl, h⟩
  · cases h
theorem ae_v1_inv {k : ae_V → List ae_V → ae_O} (h : ae_v1 st k = some r) : ∃ v l, st = v :: l ∧ k v l = some r := by
  unfold ae_v1 at h
  split at h
  · exact ⟨_, _, rfl, h⟩
  · cases h
theorem ae_v2_inv {k : ae_V → ae_V → List ae_V → ae_O} (h : ae_v2 st k = some r) : ∃ v u l, st = v :: u :: l ∧ k v u l = some r := by
  unfold ae_v2 at h
  split at h
  · exact ⟨_, _, _, rfl, h⟩
  · cases h
theorem ae_one_inv {k : ae_V → ae_O} (h : ae_one st k = some r) : ∃ v, st = [v] ∧ k v = some r := by
  unfold ae_one at h
  split at h
  · exact ⟨_, rfl, h⟩
  · cases h
theorem ae_cp_inv {k : Nat → Nat → Nat → List ae_V → ae_O} (h : ae_cp st k = some r) : ∃ n i j l, st = .inl (.inl n) :: .inl (.inl 0) :: .inr (.inr (.inl i)) :: .inl (.inl 0) :: .inr (.inr (.inl j)) :: l ∧ k n i j l = some r := by
  unfold ae_cp at h
  split at h
  · exact ⟨_, _, _, _, rfl, h⟩
  · cases h
theorem ae_li1_inv {v : Option ae_V} {k : ae_I → ae_O} (h : ae_li1 v k = some r) : ∃ a, v = some (.inl a) ∧ k a = some r := by
  unfold ae_li1 at h
  split at h
  · exact ⟨_, rfl, h⟩
  · cases h
theorem ae_ll1_inv {v : Option ae_V} {k : ae_I → ae_O} (h : ae_ll1 v k = some r) : ∃ a, v = some (.inr (.inl a)) ∧ k a = some r := by
  unfold ae_ll1 at h
  split at h
  · exact ⟨_, rfl, h⟩
  · cases h
theorem ae_la1_inv {v : Option ae_V} {k : Nat ⊕ Nat → ae_O} (h : ae_la1 v k = some r) : ∃ a, v = some (.inr (.inr a)) ∧ k a = some r := by
  unfold ae_la1 at h
  split at h
  · exact ⟨_, rfl, h⟩
  · cases h
theorem ae_obj_inv {c : Option ae_C} {k : Nat → List ae_V → ae_O} (h : ae_obj c k = some r) : ∃ ci fs, c = some (.inr (ci, fs)) ∧ k ci fs = some r := by
  unfold ae_obj at h
  split at h
  · exact ⟨_, _, rfl, h⟩
  · cases h
theorem ae_arr_inv {c : Option ae_C} {k : Nat → Nat → ae_V → List (Nat × ae_V) → ae_O} (h : ae_arr c k = some r) : ∃ t n dv ex, c = some (.inl (t, n, dv, ex)) ∧ k t n dv ex = some r := by
  unfold ae_arr at h
  split at h
  · exact ⟨_, _, _, _, rfl, h⟩
  · cases h
theorem ae_some_inv {α : Type} {v : Option α} {k : α → ae_O} (h : ae_some v k = some r) : ∃ a, v = some a ∧ k a = some r := by
  unfold ae_some at h
  split at h
  · exact ⟨_, rfl, h⟩
  · cases h
theorem ae_if_inv {b : Bool} {k : ae_O} (h : ae_if b k = some r) : b = true ∧ k = some r := by
  unfold ae_if at h
  split at h
  · exact ⟨rfl, h⟩
  · cases h
theorem ae_pop_inv : ∀ (n : Nat) (st acc : List ae_V) (k : List ae_V → List ae_V → ae_O), ae_pop n st acc k = some r → ∃ ps l, st = ps ++ l ∧ ps.length = n ∧ k (ps.reverse ++ acc) l = some r := by
  intro n
  induction n with
  | zero => intro st acc k h; exact ⟨[], st, rfl, rfl, h⟩
  | succ n ih =>
    intro st acc k h
    cases st with
    | nil => cases h
    | cons v st =>
      obtain ⟨ps, l, h1, h2, h3⟩ := ih st (v :: acc) k h
      exact ⟨v :: ps, l, by rw [h1]; rfl, by rw [List.length_cons, h2], by rw [List.reverse_cons, List.append_assoc]; exact h3⟩
end INVS
theorem ae_and {a b : Bool} (h : (a && b) = true) : a = true ∧ b = true := by
  cases a <;> cases b <;> first | exact ⟨rfl, rfl⟩ | cases h
theorem ae_beq {a b : Nat} (h : Nat.beq a b = true) : a = b := Nat.eq_of_beq_eq_true h
theorem ae_ble {a b : Nat} (h : Nat.ble a b = true) : a ≤ b := Nat.le_of_ble_eq_true h
theorem ae_blt {a b : Nat} (h : Nat.blt a b = true) : a < b := Nat.le_of_ble_eq_true h
