/-! ===== more rules, and numbers ===== -/
theorem b_comm {x y z : Int} (hz : z = ((Int32.ofInt x) &&& (Int32.ofInt y) : Int32).toInt) : z = ((Int32.ofInt y) &&& (Int32.ofInt x) : Int32).toInt := by rw [hz, Int32.and_comm]
theorem b_modN {x z y N : Int} {k : Nat} (hz : z = ((Int32.ofInt x) &&& (Int32.ofInt y) : Int32).toInt) (hk : k ≤ 31) (hy : y = 2 ^ k - 1) (hN : N = 2 ^ k) : z = x % N := by rw [hN]; exact b_mod hz hk hy
theorem b_orN {x y z N : Int} {k : Nat} (hz : z = ((Int32.ofInt x) ||| (Int32.ofInt y) : Int32).toInt) (hk : k ≤ 31) (hN : N = 2 ^ k) (h0 : 0 ≤ x) (h1 : x < N) (h2 : 0 ≤ y) (h3 : y < N) : 0 ≤ z ∧ z < N := by rw [hN] at h1 h3 ⊢; exact b_or hz hk h0 h1 h2 h3
theorem b_shrN {x s z N : Int} (hz : z = ((Int32.ofInt x) >>> ((Int32.ofInt s) &&& 31) : Int32).toInt) (hN : N = 2 ^ s.toNat) (hx0 : -2147483648 ≤ x) (hx1 : x < 2147483648) (h0 : 0 ≤ s) (h1 : s ≤ 31) : z = x / N := by rw [hN]; exact b_shr hz hx0 hx1 h0 h1
theorem b_shlN {x s z N : Int} (hz : z = ((Int32.ofInt x) <<< ((Int32.ofInt s) &&& 31) : Int32).toInt) (hN : N = 2 ^ s.toNat) (hx0 : 0 ≤ x) (h0 : 0 ≤ s) (h1 : s ≤ 31) (hx1 : x * N < 2147483648) : z = x * N := by rw [hN] at hx1 ⊢; exact b_shl hz hx0 h0 h1 hx1
theorem i_tdiv {x y : Int} (hy : 0 < y) : (0 ≤ x ∧ x.tdiv y = x / y) ∨ (x < 0 ∧ x.tdiv y = -((-x) / y)) := by
  by_cases h : 0 ≤ x
  · exact Or.inl ⟨h, Int.tdiv_eq_ediv_of_nonneg h⟩
  · refine Or.inr ⟨by omega, ?_⟩
    have e : x = -(-x) := by omega
    rw [e, Int.neg_tdiv, Int.tdiv_eq_ediv_of_nonneg (by omega)]
    simp
theorem i_tmod {x y : Int} (hy : 0 < y) : (0 ≤ x ∧ x.tmod y = x % y) ∨ (x < 0 ∧ x.tmod y = -((-x) % y)) := by
  by_cases h : 0 ≤ x
  · exact Or.inl ⟨h, Int.tmod_eq_emod_of_nonneg h⟩
  · refine Or.inr ⟨by omega, ?_⟩
    have e : x = -(-x) := by omega
    rw [e, Int.neg_tmod, Int.tmod_eq_emod_of_nonneg (by omega)]
    simp
section MORE
variable {V : cg_V} {me me2 : ae_M} {d q : Nat} {Rs : ae_R → Prop} {pc nx i1 i2 i3 pos : Nat} {lo : ae_L} {st : List ae_V} {w : List ae_C} {cs sl : Nat}
theorem g_idivC {x y : Int} (h1 : -2147483648 < x) (h2 : x < 2147483648) (h0 : 0 < y) (h4 : y < 2147483648) (hi : cg_at me pc = some (.idiv, nx, i1, i2, i3, pos)) (k : ∀ z : Int, (0 ≤ x ∧ z = x / y) ∨ (x < 0 ∧ z = -((-x) / y)) → cg_G V me d q Rs nx lo (vI z :: st) w cs sl) : cg_G V me d q Rs pc lo (vI y :: vI x :: st) w cs sl := g_idiv h1 h2 (by omega) (by omega) h4 hi (k _ (i_tdiv h0))
theorem g_iremC {x y : Int} (h1 : -2147483648 < x) (h2 : x < 2147483648) (h0 : 0 < y) (h4 : y < 2147483648) (hi : cg_at me pc = some (.irem, nx, i1, i2, i3, pos)) (k : ∀ z : Int, (0 ≤ x ∧ z = x % y) ∨ (x < 0 ∧ z = -((-x) % y)) → cg_G V me d q Rs nx lo (vI z :: st) w cs sl) : cg_G V me d q Rs pc lo (vI y :: vI x :: st) w cs sl := g_irem h1 h2 (by omega) (by omega) h4 hi (k _ (i_tmod h0))
end MORE
theorem kI_f22 {m : kM} (h : kI m) {j : Nat} (hj : j < 6) (x : Int) (h0 : 0 ≤ x) (h1 : x < 10) : 0 ≤ m.2.1 (22 + j) x ∧ m.2.1 (22 + j) x ≤ 9 := by
  have h9 : j = 0 ∨ j = 1 ∨ j = 2 ∨ j = 3 ∨ j = 4 ∨ j = 5 := by omega
  rcases h9 with rfl | rfl | rfl | rfl | rfl | rfl <;> exact h.2 _ x h0 h1
theorem kI_u22 {m : kM} {f : Int → Int} {x y : Int} (h : kI m) {j : Nat} (hj : j < 6) (hf : f = m.2.1 (22 + j)) (h1 : 0 ≤ y) (h2 : y ≤ 9) : kI (kA m (22 + j) (up f x y)) := by
  have h9 : j = 0 ∨ j = 1 ∨ j = 2 ∨ j = 3 ∨ j = 4 ∨ j = 5 := by omega
  rcases h9 with rfl | rfl | rfl | rfl | rfl | rfl <;> exact kI_U h _ hf h1 h2
theorem fr_c22 {SA : List Nat} {j : Nat} (hj : j < 6) (h : (List.range' 22 6).all (fun x => SA.contains x) = true) : SA.contains (22 + j) = true := List.all_eq_true.mp h (22 + j) (by rw [List.mem_range'_1]; omega)
theorem kI_f35 {m : kM} (h : kI m) {j : Nat} (hj : j < 11) (x : Int) (h0 : 0 ≤ x) (h1 : x < 6) : (-9223372036854775808) ≤ m.2.1 (35 + j) x ∧ m.2.1 (35 + j) x ≤ 9223372036854775807 := by
  have h9 : j = 0 ∨ j = 1 ∨ j = 2 ∨ j = 3 ∨ j = 4 ∨ j = 5 ∨ j = 6 ∨ j = 7 ∨ j = 8 ∨ j = 9 ∨ j = 10 := by omega
  rcases h9 with rfl | rfl | rfl | rfl | rfl | rfl | rfl | rfl | rfl | rfl | rfl <;> exact h.2 _ x h0 h1
theorem kI_u35 {m : kM} {f : Int → Int} {x y : Int} (h : kI m) {j : Nat} (hj : j < 11) (hf : f = m.2.1 (35 + j)) (h1 : (-9223372036854775808) ≤ y) (h2 : y ≤ 9223372036854775807) : kI (kA m (35 + j) (up f x y)) := by
  have h9 : j = 0 ∨ j = 1 ∨ j = 2 ∨ j = 3 ∨ j = 4 ∨ j = 5 ∨ j = 6 ∨ j = 7 ∨ j = 8 ∨ j = 9 ∨ j = 10 := by omega
  rcases h9 with rfl | rfl | rfl | rfl | rfl | rfl | rfl | rfl | rfl | rfl | rfl <;> exact kI_U h _ hf h1 h2
theorem fr_c35 {SA : List Nat} {j : Nat} (hj : j < 11) (h : (List.range' 35 11).all (fun x => SA.contains x) = true) : SA.contains (35 + j) = true := List.all_eq_true.mp h (35 + j) (by rw [List.mem_range'_1]; omega)
theorem kI_f47 {m : kM} (h : kI m) {j : Nat} (hj : j < 11) (x : Int) (h0 : 0 ≤ x) (h1 : x < 6) : (-9223372036854775808) ≤ m.2.1 (47 + j) x ∧ m.2.1 (47 + j) x ≤ 9223372036854775807 := by
  have h9 : j = 0 ∨ j = 1 ∨ j = 2 ∨ j = 3 ∨ j = 4 ∨ j = 5 ∨ j = 6 ∨ j = 7 ∨ j = 8 ∨ j = 9 ∨ j = 10 := by omega
  rcases h9 with rfl | rfl | rfl | rfl | rfl | rfl | rfl | rfl | rfl | rfl | rfl <;> exact h.2 _ x h0 h1
theorem kI_u47 {m : kM} {f : Int → Int} {x y : Int} (h : kI m) {j : Nat} (hj : j < 11) (hf : f = m.2.1 (47 + j)) (h1 : (-9223372036854775808) ≤ y) (h2 : y ≤ 9223372036854775807) : kI (kA m (47 + j) (up f x y)) := by
  have h9 : j = 0 ∨ j = 1 ∨ j = 2 ∨ j = 3 ∨ j = 4 ∨ j = 5 ∨ j = 6 ∨ j = 7 ∨ j = 8 ∨ j = 9 ∨ j = 10 := by omega
  rcases h9 with rfl | rfl | rfl | rfl | rfl | rfl | rfl | rfl | rfl | rfl | rfl <;> exact kI_U h _ hf h1 h2
theorem fr_c47 {SA : List Nat} {j : Nat} (hj : j < 11) (h : (List.range' 47 11).all (fun x => SA.contains x) = true) : SA.contains (47 + j) = true := List.all_eq_true.mp h (47 + j) (by rw [List.mem_range'_1]; omega)
