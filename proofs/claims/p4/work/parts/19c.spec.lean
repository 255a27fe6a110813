/-! ===== rules of single instructions, and longs bit by bit ===== -/
section SPEC
variable {V : cg_V} {me me2 : ae_M} {d q : Nat} {Rs : ae_R → Prop} {pc nx i1 i2 i3 pos : Nat} {lo : ae_L} {st : List ae_V} {w : List ae_C} {cs sl : Nat}
theorem g_lsw {dflt : Int} {ps : Array (Int × Int)} {len : Nat} {x off : Int} {tg : Nat} (h1 : -2147483648 ≤ x) (h2 : x < 2147483648) (hdg : decode me.2.1 pc = .ok (.lookupswitch dflt ps, len)) (hp : (ps.toList.zip (ps.toList.drop 1)).all (fun (a, next) => a.1 < next.1) = true) (ho : Op.lookupswitch.offset ps.toList dflt x = off) (ht : (pc : Int) + off = (tg : Int)) (k : cg_G V me d q Rs tg lo st w cs sl) : cg_G V me d q Rs pc lo (vI x :: st) w cs sl := by
  intro hT hm hL A p e R s m args below meth c Q ad0 hF hfin ad ws H locs lv ls stv hat
  have hF0 := hF
  obtain ⟨hcs, hex, had, hl, hlo, hst, hw, hP, hD, hS⟩ := hat
  obtain ⟨hx, hb, hml, hown, hts, hK, hA, hlk, hret, hnm, hR1, hR2, hR3, hR4, hXS⟩ := hF
  obtain ⟨v1, r1, rfl, ⟨y, rfl, hy⟩, hst0⟩ := ag_S_cons hst
  have hy : y = nI (ae_c (Int32.ofInt x)) := hy
  rw [ae_c_eq] at hy
  exact lv_lookup hx hb hdg hp (by rw [hy, i_t h1 h2]; exact ho) ht (k hT hm hL A p e R s m args below meth c Q ad0 hF0 hfin ad ws H locs lv ls _ ⟨hcs, hex, had, hl, hlo, hst0, hw, hP, hD, hS⟩)
theorem g_pop2 {v : ae_V} (hv : ae_cat2 v = true) (hi : cg_at me pc = some (.pop2, nx, i1, i2, i3, pos)) (k : cg_G V me d q Rs nx lo st w cs sl) : cg_G V me d q Rs pc lo (v :: st) w cs sl := by
  intro hT hm hL A p e R s m args below meth c Q ad0 hF hfin ad ws H locs lv ls stv hat
  have hF0 := hF
  have hok := cg_ok hi hT hm
  obtain ⟨g7, hok⟩ := ae_and hok
  obtain ⟨g8, hok2⟩ := ae_and hok
  have hdg := of_decide_eq_true g7
  have hnx : nx = pc + 1 := ae_beq g8
  subst hnx
  have hE := ag_E_ok V.1 V.2.2.1
  obtain ⟨hcs, hex, had, hl, hlo, hst, hw, hP, hD, hS⟩ := hat
  obtain ⟨hx, hb, hml, hown, hts, hK, hA, hlk, hret, hnm, hR1, hR2, hR3, hR4, hXS⟩ := hF
  obtain ⟨v1, r1, rfl, hv1, hst0⟩ := ag_S_cons hst
  have hc : v1.category = 2 := by
    rw [ag_cat hE hv1]
    unfold ae_w1
    rw [hv]
    rfl
  exact lv_pop2_2 hx hb hdg hc (k hT hm hL A p e R s m args below meth c Q ad0 hF0 hfin ad ws H locs lv ls _ ⟨hcs, hex, had, hl, hlo, hst0, hw, hP, hD, hS⟩)
theorem l_div9 {x y : Int} (h1 : -9223372036854775808 ≤ x) (h2 : x < 9223372036854775808) (h3 : -9223372036854775808 ≤ y) (h4 : y < 9223372036854775808) : Int64.ofInt x / Int64.ofInt y = Int64.ofInt (x.tdiv y) := by
  apply Int64.toInt_inj.mp
  rw [Int64.toInt_div, l_t h1 h2, l_t h3 h4, Int64.toInt_ofInt]
theorem g_ldivA {x y : Int} (h1 : -9223372036854775808 ≤ x) (h2 : x < 9223372036854775808) (h3 : -9223372036854775808 ≤ y) (h4 : y < 9223372036854775808) (h0 : y ≠ 0) (hi : cg_at me pc = some (.ldiv, nx, i1, i2, i3, pos)) (k : ∀ z : Int, -9223372036854775808 ≤ z → z < 9223372036854775808 → z = (Int64.ofInt (x.tdiv y)).toInt → cg_G V me d q Rs nx lo (vL z :: st) w cs sl) : cg_G V me d q Rs pc lo (vL y :: vL x :: st) w cs sl := by
  refine cg_step hi ?_
  show cond (decide (lN (ae_d (Int64.ofInt y)) = 0)) none (ae_n (ae_d (lN (ae_d (Int64.ofInt x)) / lN (ae_d (Int64.ofInt y)))) (fun z => cg_ind (cg_G V me d q Rs) (cg_du me) nx lo (.inr (.inl (.inl z)) :: st) w cs sl)) = _
  rw [ae_d_eq, ae_d_eq, decide_eq_false (l_ne h0 h3 h4)]
  rw [cond_false, ae_n_eq, l_div9 h1 h2 h3 h4]
  exact cg_pos (g_nrmL (x := x.tdiv y) (fun z a b _ c => k z a b c))
theorem g_lremA {x y : Int} (h1 : -9223372036854775808 ≤ x) (h2 : x < 9223372036854775808) (h3 : -9223372036854775808 ≤ y) (h4 : y < 9223372036854775808) (h0 : y ≠ 0) (hi : cg_at me pc = some (.lrem, nx, i1, i2, i3, pos)) (k : ∀ z : Int, -9223372036854775808 ≤ z → z < 9223372036854775808 → z.natAbs < y.natAbs → cg_G V me d q Rs nx lo (vL z :: st) w cs sl) : cg_G V me d q Rs pc lo (vL y :: vL x :: st) w cs sl := by
  have hb : (x.tmod y).natAbs < y.natAbs := by
    rw [Int.natAbs_tmod]
    exact Nat.mod_lt _ (by omega)
  refine cg_step hi ?_
  show cond (decide (lN (ae_d (Int64.ofInt y)) = 0)) none (ae_n (ae_d (lN (ae_d (Int64.ofInt x)) - lN (ae_d (Int64.ofInt x)) / lN (ae_d (Int64.ofInt y)) * lN (ae_d (Int64.ofInt y)))) (fun z => cg_ind (cg_G V me d q Rs) (cg_du me) nx lo (.inr (.inl (.inl z)) :: st) w cs sl)) = _
  rw [ae_d_eq, ae_d_eq, decide_eq_false (l_ne h0 h3 h4)]
  rw [cond_false, ae_n_eq, l_div9 h1 h2 h3 h4, ← Int64.ofInt_mul, ← Int64.ofInt_sub]
  have e9 : x - x.tdiv y * y = x.tmod y := by rw [Int.mul_comm, Int.tmod_def]
  rw [e9]
  exact cg_pos (k _ (by omega) (by omega) hb)
end SPEC
-- longs
theorem b_lnat (x : Int) : (BitVec.ofInt 64 x).toNat = (x % 18446744073709551616).toNat := by simp [BitVec.toNat_ofInt]
theorem b_lpos (a : Int64) (h : a.toBitVec.toNat < 9223372036854775808) : a.toInt = (a.toBitVec.toNat : Int) := by
  show a.toBitVec.toInt = _
  rw [BitVec.toInt_eq_toNat_of_lt (by omega)]
theorem b_lmod {x z : Int} {k : Nat} {y : Int} (hz : z = ((Int64.ofInt x) &&& (Int64.ofInt y) : Int64).toInt) (hk : k ≤ 63) (hy : y = 2 ^ k - 1) : z = x % (2 ^ k : Int) := by
  have hp : (2 : Nat) ^ k ≤ 2 ^ 63 := Nat.pow_le_pow_right (by decide) hk
  have hp1 : 1 ≤ (2 : Nat) ^ k := Nat.one_le_two_pow
  have hyn : y = ((2 ^ k - 1 : Nat) : Int) := by rw [hy]; push_cast [hp1]; simp
  have e : (Int64.ofInt x &&& Int64.ofInt y).toBitVec.toNat = (x % (2 ^ k : Int)).toNat := by
    show ((BitVec.ofInt 64 x) &&& (BitVec.ofInt 64 y)).toNat = _
    rw [BitVec.toNat_and, b_lnat, b_lnat, hyn]
    have h1 : ((((2 ^ k - 1 : Nat) : Int)) % 18446744073709551616).toNat = 2 ^ k - 1 := by omega
    rw [h1, Nat.and_two_pow_sub_one_eq_mod]
    have hc : ((2 : Int) ^ k) = ((2 ^ k : Nat) : Int) := by push_cast; rfl
    rw [hc]
    have hd : ((2 ^ k : Nat) : Int) ∣ 18446744073709551616 := by
      have : (2 : Nat) ^ k ∣ 18446744073709551616 := by
        have h2 : (2 : Nat) ^ k ∣ 2 ^ 64 := Nat.pow_dvd_pow 2 (by omega)
        exact h2
      exact Int.ofNat_dvd.mpr this
    have h3 : x % 18446744073709551616 % ((2 ^ k : Nat) : Int) = x % ((2 ^ k : Nat) : Int) := Int.emod_emod_of_dvd x hd
    have h4 : 0 ≤ x % 18446744073709551616 := Int.emod_nonneg _ (by decide)
    rw [← h3, Int.toNat_emod h4 (Int.natCast_nonneg _), Int.toNat_natCast]
  have hc : ((2 : Int) ^ k) = ((2 ^ k : Nat) : Int) := by push_cast; rfl
  rw [hc] at e ⊢
  have h5 : x % ((2 ^ k : Nat) : Int) < ((2 ^ k : Nat) : Int) := Int.emod_lt_of_pos _ (by omega)
  have h6 : 0 ≤ x % ((2 ^ k : Nat) : Int) := Int.emod_nonneg _ (by omega)
  rw [hz, b_lpos _ (by rw [e]; omega), e]
  omega
theorem b_lor {x y z : Int} {k : Nat} (hz : z = ((Int64.ofInt x) ||| (Int64.ofInt y) : Int64).toInt) (hk : k ≤ 63) (h0 : 0 ≤ x) (h1 : x < 2 ^ k) (h2 : 0 ≤ y) (h3 : y < 2 ^ k) : 0 ≤ z ∧ z < 2 ^ k := by
  have hp : (2 : Nat) ^ k ≤ 2 ^ 63 := Nat.pow_le_pow_right (by decide) hk
  have hc : ((2 : Int) ^ k) = ((2 ^ k : Nat) : Int) := by push_cast; rfl
  rw [hc] at h1 h3 ⊢
  have e : (Int64.ofInt x ||| Int64.ofInt y).toBitVec.toNat < 2 ^ k := by
    show ((BitVec.ofInt 64 x) ||| (BitVec.ofInt 64 y)).toNat < _
    rw [BitVec.toNat_or, b_lnat, b_lnat]
    exact Nat.or_lt_two_pow (by omega) (by omega)
  rw [hz, b_lpos _ (by omega)]
  omega
theorem b_land {x y z : Int} (hz : z = ((Int64.ofInt x) &&& (Int64.ofInt y) : Int64).toInt) (h0 : 0 ≤ x) (h1 : x < 9223372036854775808) : 0 ≤ z ∧ z ≤ x := by
  have e : (Int64.ofInt x &&& Int64.ofInt y).toBitVec.toNat ≤ x.toNat := by
    show ((BitVec.ofInt 64 x) &&& (BitVec.ofInt 64 y)).toNat ≤ _
    rw [BitVec.toNat_and, b_lnat, b_lnat]
    have h3 : (x % 18446744073709551616).toNat = x.toNat := by omega
    rw [h3]
    exact Nat.and_le_left
  rw [hz, b_lpos _ (by omega)]
  omega
theorem b_ls31 {s : Int} (h0 : 0 ≤ s) (h1 : s ≤ 63) : ((Int32.ofInt s).toInt64 &&& 63) = Int64.ofInt s ∧ (Int64.ofInt s).toBitVec.toNat = s.toNat := by
  have h9 : s = 0 ∨ s = 1 ∨ s = 2 ∨ s = 3 ∨ s = 4 ∨ s = 5 ∨ s = 6 ∨ s = 7 ∨ s = 8 ∨ s = 9 ∨ s = 10 ∨ s = 11 ∨ s = 12 ∨ s = 13 ∨ s = 14 ∨ s = 15 ∨ s = 16 ∨ s = 17 ∨ s = 18 ∨ s = 19 ∨ s = 20 ∨ s = 21 ∨ s = 22 ∨ s = 23 ∨ s = 24 ∨ s = 25 ∨ s = 26 ∨ s = 27 ∨ s = 28 ∨ s = 29 ∨ s = 30 ∨ s = 31 ∨ s = 32 ∨ s = 33 ∨ s = 34 ∨ s = 35 ∨ s = 36 ∨ s = 37 ∨ s = 38 ∨ s = 39 ∨ s = 40 ∨ s = 41 ∨ s = 42 ∨ s = 43 ∨ s = 44 ∨ s = 45 ∨ s = 46 ∨ s = 47 ∨ s = 48 ∨ s = 49 ∨ s = 50 ∨ s = 51 ∨ s = 52 ∨ s = 53 ∨ s = 54 ∨ s = 55 ∨ s = 56 ∨ s = 57 ∨ s = 58 ∨ s = 59 ∨ s = 60 ∨ s = 61 ∨ s = 62 ∨ s = 63 := by omega
  rcases h9 with rfl | rfl | rfl | rfl | rfl | rfl | rfl | rfl | rfl | rfl | rfl | rfl | rfl | rfl | rfl | rfl | rfl | rfl | rfl | rfl | rfl | rfl | rfl | rfl | rfl | rfl | rfl | rfl | rfl | rfl | rfl | rfl | rfl | rfl | rfl | rfl | rfl | rfl | rfl | rfl | rfl | rfl | rfl | rfl | rfl | rfl | rfl | rfl | rfl | rfl | rfl | rfl | rfl | rfl | rfl | rfl | rfl | rfl | rfl | rfl | rfl | rfl | rfl | rfl <;> decide
theorem b_lshr {x s z : Int} (hz : z = ((Int64.ofInt x) >>> ((Int32.ofInt s).toInt64 &&& 63) : Int64).toInt) (hx0 : -9223372036854775808 ≤ x) (hx1 : x < 9223372036854775808) (h0 : 0 ≤ s) (h1 : s ≤ 63) : z = x / (2 ^ s.toNat : Int) := by
  obtain ⟨e1, e2⟩ := b_ls31 h0 h1
  rw [hz, e1]
  show ((Int64.ofInt x).toBitVec.sshiftRight' ((Int64.ofInt s).toBitVec.smod 64)).toInt = _
  have e3 : ((Int64.ofInt s).toBitVec.smod 64) = (Int64.ofInt s).toBitVec := by
    have h9 : s = 0 ∨ s = 1 ∨ s = 2 ∨ s = 3 ∨ s = 4 ∨ s = 5 ∨ s = 6 ∨ s = 7 ∨ s = 8 ∨ s = 9 ∨ s = 10 ∨ s = 11 ∨ s = 12 ∨ s = 13 ∨ s = 14 ∨ s = 15 ∨ s = 16 ∨ s = 17 ∨ s = 18 ∨ s = 19 ∨ s = 20 ∨ s = 21 ∨ s = 22 ∨ s = 23 ∨ s = 24 ∨ s = 25 ∨ s = 26 ∨ s = 27 ∨ s = 28 ∨ s = 29 ∨ s = 30 ∨ s = 31 ∨ s = 32 ∨ s = 33 ∨ s = 34 ∨ s = 35 ∨ s = 36 ∨ s = 37 ∨ s = 38 ∨ s = 39 ∨ s = 40 ∨ s = 41 ∨ s = 42 ∨ s = 43 ∨ s = 44 ∨ s = 45 ∨ s = 46 ∨ s = 47 ∨ s = 48 ∨ s = 49 ∨ s = 50 ∨ s = 51 ∨ s = 52 ∨ s = 53 ∨ s = 54 ∨ s = 55 ∨ s = 56 ∨ s = 57 ∨ s = 58 ∨ s = 59 ∨ s = 60 ∨ s = 61 ∨ s = 62 ∨ s = 63 := by omega
    rcases h9 with rfl | rfl | rfl | rfl | rfl | rfl | rfl | rfl | rfl | rfl | rfl | rfl | rfl | rfl | rfl | rfl | rfl | rfl | rfl | rfl | rfl | rfl | rfl | rfl | rfl | rfl | rfl | rfl | rfl | rfl | rfl | rfl | rfl | rfl | rfl | rfl | rfl | rfl | rfl | rfl | rfl | rfl | rfl | rfl | rfl | rfl | rfl | rfl | rfl | rfl | rfl | rfl | rfl | rfl | rfl | rfl | rfl | rfl | rfl | rfl | rfl | rfl | rfl | rfl <;> decide
  rw [e3]
  show ((Int64.ofInt x).toBitVec.sshiftRight (Int64.ofInt s).toBitVec.toNat).toInt = _
  rw [BitVec.toInt_sshiftRight, e2, Int.shiftRight_eq_div_pow]
  have e4 : (Int64.ofInt x).toBitVec.toInt = x := l_t hx0 hx1
  rw [e4]
  push_cast
  rfl
theorem b_lshl {x s z : Int} (hz : z = ((Int64.ofInt x) <<< ((Int32.ofInt s).toInt64 &&& 63) : Int64).toInt) (hx0 : 0 ≤ x) (h0 : 0 ≤ s) (h1 : s ≤ 63) (hx1 : x * 2 ^ s.toNat < 9223372036854775808) : z = x * 2 ^ s.toNat := by
  obtain ⟨e1, e2⟩ := b_ls31 h0 h1
  rw [hz, e1]
  have e3 : ((Int64.ofInt s).toBitVec.smod 64) = (Int64.ofInt s).toBitVec := by
    have h9 : s = 0 ∨ s = 1 ∨ s = 2 ∨ s = 3 ∨ s = 4 ∨ s = 5 ∨ s = 6 ∨ s = 7 ∨ s = 8 ∨ s = 9 ∨ s = 10 ∨ s = 11 ∨ s = 12 ∨ s = 13 ∨ s = 14 ∨ s = 15 ∨ s = 16 ∨ s = 17 ∨ s = 18 ∨ s = 19 ∨ s = 20 ∨ s = 21 ∨ s = 22 ∨ s = 23 ∨ s = 24 ∨ s = 25 ∨ s = 26 ∨ s = 27 ∨ s = 28 ∨ s = 29 ∨ s = 30 ∨ s = 31 ∨ s = 32 ∨ s = 33 ∨ s = 34 ∨ s = 35 ∨ s = 36 ∨ s = 37 ∨ s = 38 ∨ s = 39 ∨ s = 40 ∨ s = 41 ∨ s = 42 ∨ s = 43 ∨ s = 44 ∨ s = 45 ∨ s = 46 ∨ s = 47 ∨ s = 48 ∨ s = 49 ∨ s = 50 ∨ s = 51 ∨ s = 52 ∨ s = 53 ∨ s = 54 ∨ s = 55 ∨ s = 56 ∨ s = 57 ∨ s = 58 ∨ s = 59 ∨ s = 60 ∨ s = 61 ∨ s = 62 ∨ s = 63 := by omega
    rcases h9 with rfl | rfl | rfl | rfl | rfl | rfl | rfl | rfl | rfl | rfl | rfl | rfl | rfl | rfl | rfl | rfl | rfl | rfl | rfl | rfl | rfl | rfl | rfl | rfl | rfl | rfl | rfl | rfl | rfl | rfl | rfl | rfl | rfl | rfl | rfl | rfl | rfl | rfl | rfl | rfl | rfl | rfl | rfl | rfl | rfl | rfl | rfl | rfl | rfl | rfl | rfl | rfl | rfl | rfl | rfl | rfl | rfl | rfl | rfl | rfl | rfl | rfl | rfl | rfl <;> decide
  have hp : ((2 : Int) ^ s.toNat) = ((2 ^ s.toNat : Nat) : Int) := by push_cast; rfl
  have hq : 1 ≤ (2 : Nat) ^ s.toNat := Nat.one_le_two_pow
  obtain ⟨n, rfl⟩ := Int.eq_ofNat_of_zero_le hx0
  rw [hp] at hx1 ⊢
  have hx2 : n * 2 ^ s.toNat < 9223372036854775808 := by
    have : ((n * 2 ^ s.toNat : Nat) : Int) < 9223372036854775808 := by push_cast; push_cast at hx1; exact hx1
    omega
  have hn : n ≤ n * 2 ^ s.toNat := Nat.le_mul_of_pos_right n hq
  have e : (Int64.ofInt (n : Int) <<< Int64.ofInt s).toBitVec.toNat = n * 2 ^ s.toNat := by
    show ((Int64.ofInt (n : Int)).toBitVec <<< ((Int64.ofInt s).toBitVec.smod 64)).toNat = _
    rw [e3]
    show ((Int64.ofInt (n : Int)).toBitVec <<< (Int64.ofInt s).toBitVec.toNat).toNat = _
    rw [e2, BitVec.toNat_shiftLeft, Nat.shiftLeft_eq]
    have : (Int64.ofInt (n : Int)).toBitVec.toNat = n := by
      show (BitVec.ofInt 64 (n : Int)).toNat = n
      rw [b_lnat]
      omega
    rw [this]
    exact Nat.mod_eq_of_lt (by omega)
  rw [b_lpos _ (by rw [e]; exact hx2), e]
  push_cast
  rfl
theorem b_add {x y z w : Int} {k : Nat} (hz : z = ((Int32.ofInt x) ||| (Int32.ofInt y) : Int32).toInt) (h0 : 0 ≤ x) (h1 : x < 2 ^ k) (hw : 0 ≤ w) (hy : y = w * 2 ^ k) (hb : x + y < 2147483648) : z = x + y := by
  have hc : ((2 : Int) ^ k) = ((2 ^ k : Nat) : Int) := by push_cast; rfl
  obtain ⟨a, rfl⟩ := Int.eq_ofNat_of_zero_le h0
  obtain ⟨b, rfl⟩ := Int.eq_ofNat_of_zero_le hw
  have hy2 : y = ((b * 2 ^ k : Nat) : Int) := by rw [hy]; push_cast; rfl
  subst hy2
  have hlt : a < 2 ^ k := by rw [hc] at h1; omega
  have e : (Int32.ofInt (a : Int) ||| Int32.ofInt ((b * 2 ^ k : Nat) : Int)).toBitVec.toNat = a + b * 2 ^ k := by
    show ((BitVec.ofInt 32 (a : Int)) ||| (BitVec.ofInt 32 ((b * 2 ^ k : Nat) : Int))).toNat = _
    rw [BitVec.toNat_or, b_nat, b_nat]
    have e1 : ((a : Int) % 4294967296).toNat = a := by omega
    have e2 : (((b * 2 ^ k : Nat) : Int) % 4294967296).toNat = b * 2 ^ k := by omega
    rw [e1, e2, Nat.or_comm, ← Nat.shiftLeft_eq, ← Nat.shiftLeft_add_eq_or_of_lt hlt, Nat.add_comm]
  rw [hz, b_pos _ (by omega), e]
  omega
theorem b_addN {x y z w N : Int} {k : Nat} (hz : z = ((Int32.ofInt x) ||| (Int32.ofInt y) : Int32).toInt) (hN : N = 2 ^ k) (h0 : 0 ≤ x) (h1 : x < N) (hw : 0 ≤ w) (hy : y = w * N) (hb : x + y < 2147483648) : z = x + y := by subst hN; exact b_add hz h0 h1 hw hy hb
theorem b_ladd {x y z w : Int} {k : Nat} (hz : z = ((Int64.ofInt x) ||| (Int64.ofInt y) : Int64).toInt) (h0 : 0 ≤ x) (h1 : x < 2 ^ k) (hw : 0 ≤ w) (hy : y = w * 2 ^ k) (hb : x + y < 9223372036854775808) : z = x + y := by
  have hc : ((2 : Int) ^ k) = ((2 ^ k : Nat) : Int) := by push_cast; rfl
  obtain ⟨a, rfl⟩ := Int.eq_ofNat_of_zero_le h0
  obtain ⟨b, rfl⟩ := Int.eq_ofNat_of_zero_le hw
  have hy2 : y = ((b * 2 ^ k : Nat) : Int) := by rw [hy]; push_cast; rfl
  subst hy2
  have hlt : a < 2 ^ k := by rw [hc] at h1; omega
  have e : (Int64.ofInt (a : Int) ||| Int64.ofInt ((b * 2 ^ k : Nat) : Int)).toBitVec.toNat = a + b * 2 ^ k := by
    show ((BitVec.ofInt 64 (a : Int)) ||| (BitVec.ofInt 64 ((b * 2 ^ k : Nat) : Int))).toNat = _
    rw [BitVec.toNat_or, b_lnat, b_lnat]
    have e1 : ((a : Int) % 18446744073709551616).toNat = a := by omega
    have e2 : (((b * 2 ^ k : Nat) : Int) % 18446744073709551616).toNat = b * 2 ^ k := by omega
    rw [e1, e2, Nat.or_comm, ← Nat.shiftLeft_eq, ← Nat.shiftLeft_add_eq_or_of_lt hlt, Nat.add_comm]
  rw [hz, b_lpos _ (by omega), e]
  omega
theorem b_laddN {x y z w N : Int} {k : Nat} (hz : z = ((Int64.ofInt x) ||| (Int64.ofInt y) : Int64).toInt) (hN : N = 2 ^ k) (h0 : 0 ≤ x) (h1 : x < N) (hw : 0 ≤ w) (hy : y = w * N) (hb : x + y < 9223372036854775808) : z = x + y := by subst hN; exact b_ladd hz h0 h1 hw hy hb
theorem b_lmodN {x z y N : Int} {k : Nat} (hz : z = ((Int64.ofInt x) &&& (Int64.ofInt y) : Int64).toInt) (hk : k ≤ 63) (hy : y = 2 ^ k - 1) (hN : N = 2 ^ k) : z = x % N := by rw [hN]; exact b_lmod hz hk hy
theorem b_lshrN {x s z N : Int} (hz : z = ((Int64.ofInt x) >>> ((Int32.ofInt s).toInt64 &&& 63) : Int64).toInt) (hN : N = 2 ^ s.toNat) (hx0 : -9223372036854775808 ≤ x) (hx1 : x < 9223372036854775808) (h0 : 0 ≤ s) (h1 : s ≤ 63) : z = x / N := by rw [hN]; exact b_lshr hz hx0 hx1 h0 h1
theorem b_lshlN {x s z N : Int} (hz : z = ((Int64.ofInt x) <<< ((Int32.ofInt s).toInt64 &&& 63) : Int64).toInt) (hN : N = 2 ^ s.toNat) (hx0 : 0 ≤ x) (h0 : 0 ≤ s) (h1 : s ≤ 63) (hx1 : x * N < 9223372036854775808) : z = x * N := by rw [hN] at hx1 ⊢; exact b_lshl hz hx0 h0 h1 hx1
