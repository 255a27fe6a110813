/-! ===== what an act makes of a standing, as the reference does it ===== -/
abbrev kS : Type := Int × (Int × (Int × (Int × (Int × (Int × Int)))))
def kr0 (f : Int → Int) : kS := (f 0, f 1, f 2, f 3, f 4, f 5, f 6)
def kr1 (f : Int → Int) : kS := (f 8, f 9, f 10, f 11, f 12, f 13, f 14)
def kr2 (f : Int → Int) : kS := (f 16, f 17, f 18, f 19, f 20, f 21, f 22)
def kr3 (f : Int → Int) : kS := (f 24, f 25, f 26, f 27, f 28, f 29, f 30)
def kr4 (f : Int → Int) : kS := (f 32, f 33, f 34, f 35, f 36, f 37, f 38)
def kr5 (f : Int → Int) : kS := (f 40, f 41, f 42, f 43, f 44, f 45, f 46)
def kw (x : kS) : Prop := (0 ≤ x.1 ∧ x.1 ≤ 5) ∧ (0 ≤ x.2.1 ∧ x.2.1 ≤ 5) ∧ (0 ≤ x.2.2.1 ∧ x.2.2.1 ≤ 2) ∧ (0 ≤ x.2.2.2.1 ∧ x.2.2.2.1 ≤ 2) ∧ (-1 ≤ x.2.2.2.2.1 ∧ x.2.2.2.2.1 ≤ 5) ∧ (0 ≤ x.2.2.2.2.2.1 ∧ x.2.2.2.2.2.1 ≤ 63) ∧ (0 ≤ x.2.2.2.2.2.2 ∧ x.2.2.2.2.2.2 ≤ 3) ∧ (0 ≤ x.2.2.2.2.1 ∨ x.2.2.1 = 2 ∨ x.2.2.2.1 = 2)
def hb (u r : Int) : Int := u / 2 ^ (Int.toNat r) % 2
def clr (u r : Int) : Int := u - hb u r * 2 ^ (Int.toNat r)
def stb (u r : Int) : Int := u + (1 - hb u r) * 2 ^ (Int.toNat r)
def beh (D : Int → Int) (e r : Int) : Int := if D (4 * e) = r then D (4 * e + 1) else if D (4 * e + 1) = r then D (4 * e) else -1
def opn (D : Int → Int) (e r v l : Int) : Int := if D (4 * e + 2) = 5 then 0 else if D (4 * e + 2) = 1 then (if D (4 * e) = r then 1 else 0) else if D (4 * e + 2) = 2 then (if v = 24 then 1 else 0) else if D (4 * e + 2) = 3 then (if l = 0 then 1 else 0) else if D (4 * e + 2) = 4 then (if v = 14 then 1 else 0) else 1
def stay_0 (kit : Int) (x : kS) (c : Int) : Option kS := if c = 0 then (if x.2.2.1 = 0 ∧ x.2.2.2.2.1 = x.1 then some (x.1, x.2.1, 2, x.2.2.2.1, -1, x.2.2.2.2.2.1, x.2.2.2.2.2.2) else none) else if c = 1 then (if x.2.2.1 = 2 then some (x.1, x.2.1, 0, x.2.2.2.1, x.1, x.2.2.2.2.2.1, x.2.2.2.2.2.2) else none) else if c = 2 then (if x.2.2.1 = 0 ∧ kit = x.1 then some (x.1, x.2.1, 1, x.2.2.2.1, x.2.2.2.2.1, x.2.2.2.2.2.1, x.2.2.2.2.2.2) else none) else (if x.2.2.1 = 1 ∧ hb x.2.2.2.2.2.1 x.1 = 1 then some (x.1, x.2.1, 0, x.2.2.2.1, x.2.2.2.2.1, (if c = 3 then clr x.2.2.2.2.2.1 x.1 else x.2.2.2.2.2.1), x.2.2.2.2.2.2) else none)
def hand_0 (D : Int → Int) (x : kS) (e : Int) : Option kS := if x.2.2.1 ≠ 1 ∨ (beh D e x.1) = -1 ∨ D (4 * e + 3) = 0 then none else if hb x.2.2.2.2.2.1 (beh D e x.1) = 1 then some (x.1, x.2.1, 0, x.2.2.2.1, x.2.2.2.2.1, clr x.2.2.2.2.2.1 (beh D e x.1), x.2.2.2.2.2.2) else if x.2.1 ≠ (beh D e x.1) ∨ x.2.2.2.1 ≠ 0 then none else some (x.1, x.2.1, 0, 1, x.2.2.2.2.1, x.2.2.2.2.2.1, x.2.2.2.2.2.2)
def goS_0 (D : Int → Int) (x : kS) (e : Int) : Option kS := if (beh D e x.1) = -1 ∨ x.2.2.1 ≠ 2 ∨ opn D e x.1 14 0 = 0 then none else some ((beh D e x.1), x.2.1, 0, x.2.2.2.1, (beh D e x.1), x.2.2.2.2.2.1, x.2.2.2.2.2.2)
def goB_0 (D : Int → Int) (x : kS) (e : Int) : Option kS := if (beh D e x.1) = -1 ∨ x.2.2.1 ≠ 2 ∨ x.2.1 ≠ x.1 ∨ (x.2.2.2.1 = 1 ∧ opn D e x.1 24 1 = 0) ∨ (x.2.2.2.1 ≠ 1 ∧ opn D e x.1 24 0 = 0) then none else some ((beh D e x.1), (beh D e x.1), 0, x.2.2.2.1, (beh D e x.1), x.2.2.2.2.2.1, x.2.2.2.2.2.2)
def goX_0 (D : Int → Int) (x : kS) (e : Int) : Option kS := if (beh D e x.1) = -1 ∨ x.2.2.1 ≠ 0 ∨ x.2.2.2.2.2.2 ≤ 0 ∨ opn D e x.1 34 0 = 0 then none else some ((beh D e x.1), x.2.1, 0, x.2.2.2.1, x.2.2.2.2.1, x.2.2.2.2.2.1, x.2.2.2.2.2.2 - 1)
def stp_0 (D : Int → Int) (n kit : Int) (x : kS) (a : Int) : Option kS := if a < 4 then stay_0 kit x a else if 44 ≤ a ∨ n ≤ (a - 4) % 10 then none else if a < 14 then hand_0 D x ((a - 4) % 10) else if a < 24 then goS_0 D x ((a - 4) % 10) else if a < 34 then goB_0 D x ((a - 4) % 10) else goX_0 D x ((a - 4) % 10)
def stay_1 (kit : Int) (x : kS) (c : Int) : Option kS := if c = 0 then (if x.2.2.2.1 = 0 ∧ x.2.2.2.2.1 = x.2.1 then some (x.1, x.2.1, x.2.2.1, 2, -1, x.2.2.2.2.2.1, x.2.2.2.2.2.2) else none) else if c = 1 then (if x.2.2.2.1 = 2 then some (x.1, x.2.1, x.2.2.1, 0, x.2.1, x.2.2.2.2.2.1, x.2.2.2.2.2.2) else none) else if c = 2 then (if x.2.2.2.1 = 0 ∧ kit = x.2.1 then some (x.1, x.2.1, x.2.2.1, 1, x.2.2.2.2.1, x.2.2.2.2.2.1, x.2.2.2.2.2.2) else none) else (if x.2.2.2.1 = 1 ∧ hb x.2.2.2.2.2.1 x.2.1 = 1 then some (x.1, x.2.1, x.2.2.1, 0, x.2.2.2.2.1, (if c = 3 then clr x.2.2.2.2.2.1 x.2.1 else x.2.2.2.2.2.1), x.2.2.2.2.2.2) else none)
def hand_1 (D : Int → Int) (x : kS) (e : Int) : Option kS := if x.2.2.2.1 ≠ 1 ∨ (beh D e x.2.1) = -1 ∨ D (4 * e + 3) = 0 then none else if hb x.2.2.2.2.2.1 (beh D e x.2.1) = 1 then some (x.1, x.2.1, x.2.2.1, 0, x.2.2.2.2.1, clr x.2.2.2.2.2.1 (beh D e x.2.1), x.2.2.2.2.2.2) else if x.1 ≠ (beh D e x.2.1) ∨ x.2.2.1 ≠ 0 then none else some (x.1, x.2.1, 1, 0, x.2.2.2.2.1, x.2.2.2.2.2.1, x.2.2.2.2.2.2)
def goS_1 (D : Int → Int) (x : kS) (e : Int) : Option kS := if (beh D e x.2.1) = -1 ∨ x.2.2.2.1 ≠ 2 ∨ opn D e x.2.1 14 0 = 0 then none else some (x.1, (beh D e x.2.1), x.2.2.1, 0, (beh D e x.2.1), x.2.2.2.2.2.1, x.2.2.2.2.2.2)
def goB_1 (D : Int → Int) (x : kS) (e : Int) : Option kS := if (beh D e x.2.1) = -1 ∨ x.2.2.2.1 ≠ 2 ∨ x.1 ≠ x.2.1 ∨ (x.2.2.1 = 1 ∧ opn D e x.2.1 24 1 = 0) ∨ (x.2.2.1 ≠ 1 ∧ opn D e x.2.1 24 0 = 0) then none else some ((beh D e x.2.1), (beh D e x.2.1), x.2.2.1, 0, (beh D e x.2.1), x.2.2.2.2.2.1, x.2.2.2.2.2.2)
def goX_1 (D : Int → Int) (x : kS) (e : Int) : Option kS := if (beh D e x.2.1) = -1 ∨ x.2.2.2.1 ≠ 0 ∨ x.2.2.2.2.2.2 ≤ 0 ∨ opn D e x.2.1 34 0 = 0 then none else some (x.1, (beh D e x.2.1), x.2.2.1, 0, x.2.2.2.2.1, x.2.2.2.2.2.1, x.2.2.2.2.2.2 - 1)
def stp_1 (D : Int → Int) (n kit : Int) (x : kS) (a : Int) : Option kS := if a < 4 then stay_1 kit x a else if 44 ≤ a ∨ n ≤ (a - 4) % 10 then none else if a < 14 then hand_1 D x ((a - 4) % 10) else if a < 24 then goS_1 D x ((a - 4) % 10) else if a < 34 then goB_1 D x ((a - 4) % 10) else goX_1 D x ((a - 4) % 10)
def stp (D : Int → Int) (n kit : Int) (x : kS) (c : Int) : Option kS := if c < 50 then stp_0 D n kit x c else stp_1 D n kit x (c - 50)
theorem clr_all : ∀ (u : Fin 64) (r : Fin 6), ((Int32.ofInt (u.val : Int)) &&& (Int32.ofInt (((Int32.ofInt (((Int32.ofInt 1) <<< ((Int32.ofInt (r.val : Int)) &&& 31) : Int32).toInt)) ^^^ (Int32.ofInt (-1)) : Int32).toInt)) : Int32).toInt = clr (u.val : Int) (r.val : Int) := by decide +kernel
theorem stb_all : ∀ (u : Fin 64) (r : Fin 6), ((Int32.ofInt (u.val : Int)) ||| (Int32.ofInt (((Int32.ofInt 1) <<< ((Int32.ofInt (r.val : Int)) &&& 31) : Int32).toInt)) : Int32).toInt = stb (u.val : Int) (r.val : Int) := by decide +kernel
theorem b_fin {u : Int} {n : Nat} (h0 : 0 ≤ u) (h1 : u < (n : Int)) : ∃ k : Fin n, u = (k.val : Int) := ⟨⟨u.toNat, by omega⟩, by show u = (u.toNat : Int); omega⟩
theorem b_clr {u r z1 z2 z3 : Int} (h1 : z1 = ((Int32.ofInt 1) <<< ((Int32.ofInt r) &&& 31) : Int32).toInt) (h2 : z2 = ((Int32.ofInt z1) ^^^ (Int32.ofInt (-1)) : Int32).toInt) (h3 : z3 = ((Int32.ofInt u) &&& (Int32.ofInt z2) : Int32).toInt) (hu0 : 0 ≤ u) (hu1 : u < 64) (hr0 : 0 ≤ r) (hr1 : r < 6) : z3 = clr u r := by
  obtain ⟨k, rfl⟩ := b_fin (n := 64) hu0 (by omega)
  obtain ⟨l, rfl⟩ := b_fin (n := 6) hr0 (by omega)
  rw [h3, h2, h1]
  exact clr_all k l
theorem b_stb {u r z1 z3 : Int} (h1 : z1 = ((Int32.ofInt 1) <<< ((Int32.ofInt r) &&& 31) : Int32).toInt) (h3 : z3 = ((Int32.ofInt u) ||| (Int32.ofInt z1) : Int32).toInt) (hu0 : 0 ≤ u) (hu1 : u < 64) (hr0 : 0 ≤ r) (hr1 : r < 6) : z3 = stb u r := by
  obtain ⟨k, rfl⟩ := b_fin (n := 64) hu0 (by omega)
  obtain ⟨l, rfl⟩ := b_fin (n := 6) hr0 (by omega)
  rw [h3, h1]
  exact stb_all k l
theorem clr_rng : ∀ (u : Fin 64) (r : Fin 6), 0 ≤ clr (u.val : Int) (r.val : Int) ∧ clr (u.val : Int) (r.val : Int) ≤ (u.val : Int) := by decide +kernel
theorem stb_rng : ∀ (u : Fin 64) (r : Fin 6), 0 ≤ stb (u.val : Int) (r.val : Int) ∧ stb (u.val : Int) (r.val : Int) ≤ 63 := by decide +kernel
theorem b_clr_rng {u r : Int} (hu0 : 0 ≤ u) (hu1 : u < 64) (hr0 : 0 ≤ r) (hr1 : r < 6) : 0 ≤ clr u r ∧ clr u r ≤ u := by
  obtain ⟨k, rfl⟩ := b_fin (n := 64) hu0 (by omega)
  obtain ⟨l, rfl⟩ := b_fin (n := 6) hr0 (by omega)
  exact clr_rng k l
theorem b_stb_rng {u r : Int} (hu0 : 0 ≤ u) (hu1 : u < 64) (hr0 : 0 ≤ r) (hr1 : r < 6) : 0 ≤ stb u r ∧ stb u r ≤ 63 := by
  obtain ⟨k, rfl⟩ := b_fin (n := 64) hu0 (by omega)
  obtain ⟨l, rfl⟩ := b_fin (n := 6) hr0 (by omega)
  exact stb_rng k l
theorem b_andm1 {u z : Int} (h : z = ((Int32.ofInt u) &&& (Int32.ofInt (-1)) : Int32).toInt) (h1 : -2147483648 ≤ u) (h2 : u < 2147483648) : z = u := by
  have e : (Int32.ofInt (-1)) = (-1 : Int32) := by decide
  rw [h, e, Int32.and_neg_one, i_t h1 h2]
theorem b_or0 {u z : Int} (h : z = ((Int32.ofInt u) ||| (Int32.ofInt 0) : Int32).toInt) (h1 : -2147483648 ≤ u) (h2 : u < 2147483648) : z = u := by
  have e : (Int32.ofInt 0) = (0 : Int32) := by decide
  rw [h, e, Int32.or_zero, i_t h1 h2]
def HN (t : Int) : Nat → Int
  | 0 => 0
  | k + 1 => HN t k + hb t (k : Int)
def HC (t u : Int) : Nat → Int
  | 0 => 0
  | k + 1 => if hb t (k : Int) = 1 then (if hb u (k : Int) = 1 then stb (HC t u k) (HN t k) else HC t u k) else HC t u k
def HO (t c : Int) : Nat → Int
  | 0 => 0
  | k + 1 => if hb t (k : Int) = 1 then (if hb c (HN t k) = 1 then stb (HO t c k) (k : Int) else HO t c k) else HO t c k
theorem toNat_s {r : Int} (h : 0 ≤ r) : Int.toNat (r + 1) = Int.toNat r + 1 := by omega
theorem HN_step {t r : Int} (h : 0 ≤ r) : HN t (Int.toNat (r + 1)) = HN t (Int.toNat r) + hb t r := by
  rw [toNat_s h]
  show HN t (Int.toNat r) + hb t ((Int.toNat r : Nat) : Int) = _
  rw [Int.toNat_of_nonneg h]
theorem HC_step {t u r : Int} (h : 0 ≤ r) : HC t u (Int.toNat (r + 1)) = if hb t r = 1 then (if hb u r = 1 then stb (HC t u (Int.toNat r)) (HN t (Int.toNat r)) else HC t u (Int.toNat r)) else HC t u (Int.toNat r) := by
  rw [toNat_s h]
  show (if hb t ((Int.toNat r : Nat) : Int) = 1 then (if hb u ((Int.toNat r : Nat) : Int) = 1 then stb (HC t u (Int.toNat r)) (HN t (Int.toNat r)) else HC t u (Int.toNat r)) else HC t u (Int.toNat r)) = _
  rw [Int.toNat_of_nonneg h]
theorem HO_step {t c r : Int} (h : 0 ≤ r) : HO t c (Int.toNat (r + 1)) = if hb t r = 1 then (if hb c (HN t (Int.toNat r)) = 1 then stb (HO t c (Int.toNat r)) r else HO t c (Int.toNat r)) else HO t c (Int.toNat r) := by
  rw [toNat_s h]
  show (if hb t ((Int.toNat r : Nat) : Int) = 1 then (if hb c (HN t (Int.toNat r)) = 1 then stb (HO t c (Int.toNat r)) ((Int.toNat r : Nat) : Int) else HO t c (Int.toNat r)) else HO t c (Int.toNat r)) = _
  rw [Int.toNat_of_nonneg h]
def pcn (t : Int) : Int := t / 1 % 2 + t / 2 % 2 + t / 4 % 2 + t / 8 % 2 + t / 16 % 2 + t / 32 % 2
theorem HC_all : ∀ (t u : Fin 64), pcn (t.val : Int) ≤ 4 → 0 ≤ HC (t.val : Int) (u.val : Int) 6 ∧ HC (t.val : Int) (u.val : Int) 6 ≤ 15 := by decide +kernel
theorem HC_rng {t u : Int} (h0 : 0 ≤ t) (h1 : t < 64) (h2 : 0 ≤ u) (h3 : u < 64) (h4 : pcn t ≤ 4) : 0 ≤ HC t u 6 ∧ HC t u 6 ≤ 15 := by
  obtain ⟨k, rfl⟩ := b_fin (n := 64) h0 (by omega)
  obtain ⟨l, rfl⟩ := b_fin (n := 64) h2 (by omega)
  exact HC_all k l h4
theorem HO_all : ∀ (t : Fin 64) (c : Fin 16), 0 ≤ HO (t.val : Int) (c.val : Int) 6 ∧ HO (t.val : Int) (c.val : Int) 6 ≤ 63 ∧ HO (t.val : Int) (HC (t.val : Int) (HO (t.val : Int) (c.val : Int) 6) 6) 6 = HO (t.val : Int) (c.val : Int) 6 := by decide +kernel
theorem HO_rng {t c : Int} (h0 : 0 ≤ t) (h1 : t < 64) (h2 : 0 ≤ c) (h3 : c < 16) : 0 ≤ HO t c 6 ∧ HO t c 6 ≤ 63 ∧ HO t (HC t (HO t c 6) 6) 6 = HO t c 6 := by
  obtain ⟨k, rfl⟩ := b_fin (n := 64) h0 (by omega)
  obtain ⟨l, rfl⟩ := b_fin (n := 16) h2 (by omega)
  exact HO_all k l
theorem ku_all : ∀ (t : Fin 64), HO (t.val : Int) (HC (t.val : Int) (t.val : Int) 6) 6 = (t.val : Int) := by decide +kernel
theorem ku_clr_all : ∀ (t u : Fin 64) (r : Fin 6), HO (t.val : Int) (HC (t.val : Int) (u.val : Int) 6) 6 = (u.val : Int) → HO (t.val : Int) (HC (t.val : Int) (clr (u.val : Int) (r.val : Int)) 6) 6 = clr (u.val : Int) (r.val : Int) := by decide +kernel
def th (x : kS) : Int := if x.2.2.1 = 2 then 24 + x.2.2.2.1 else if x.2.2.2.1 = 2 then 26 + x.2.2.1 else (x.2.2.1 * 2 + x.2.2.2.1) * 6 + x.2.2.2.2.1
def num (t : Int) (x : kS) : Int := (((x.1 * 6 + x.2.1) * 28 + th x) * 16 + HC t x.2.2.2.2.2.1 6) * 4 + x.2.2.2.2.2.2
def unn (t n : Int) : kS := (n / 10752, n / 1792 % 6, (if n / 64 % 28 < 24 then n / 64 % 28 / 12 else if n / 64 % 28 < 26 then 2 else n / 64 % 28 - 26), (if n / 64 % 28 < 24 then n / 64 % 28 / 6 % 2 else if n / 64 % 28 < 26 then n / 64 % 28 - 24 else 2), (if n / 64 % 28 < 24 then n / 64 % 28 % 6 else -1), HO t (n / 4 % 16) 6, n % 4)
def ends (v : Int) (x : kS) : Prop := (v = 1 ∧ x.1 = 0 ∧ x.2.1 = 0) ∨ (v = 0 ∧ x.2.2.2.2.2.1 = 0)
theorem kS_ext {x y : kS} (h0 : x.1 = y.1) (h1 : x.2.1 = y.2.1) (h2 : x.2.2.1 = y.2.2.1) (h3 : x.2.2.2.1 = y.2.2.2.1) (h4 : x.2.2.2.2.1 = y.2.2.2.2.1) (h5 : x.2.2.2.2.2.1 = y.2.2.2.2.2.1) (h6 : x.2.2.2.2.2.2 = y.2.2.2.2.2.2) : x = y := Prod.ext h0 (Prod.ext h1 (Prod.ext h2 (Prod.ext h3 (Prod.ext h4 (Prod.ext h5 h6)))))
theorem hb_01 (u r : Int) : 0 ≤ hb u r ∧ hb u r ≤ 1 := by unfold hb; omega
