/-! ===== nights (pure): ways counted, wrapped as longs are ===== -/
theorem kA_same (m : kM) (i : Nat) (f : Int → Int) : (kA m i f).2.1 i = f := by
  show cond (Nat.beq i i) f (m.2.1 i) = f
  rw [Nat.beq_refl]
  rfl
theorem kA_ne (m : kM) {i y : Nat} (f : Int → Int) (h : y ≠ i) : (kA m i f).2.1 y = m.2.1 y := by
  show cond (Nat.beq y i) f (m.2.1 y) = m.2.1 y
  cases e : Nat.beq y i with
  | false => rfl
  | true => exact absurd (Nat.eq_of_beq_eq_true e) h
def nwr (x : Int) : Int := (Int64.ofInt x).toInt
theorem nwr_rng (x : Int) : -9223372036854775808 ≤ nwr x ∧ nwr x < 9223372036854775808 := by
  have h1 := Int64.le_toInt (Int64.ofInt x)
  have h2 := Int64.toInt_lt (Int64.ofInt x)
  unfold nwr
  omega
theorem nwr_id {x : Int} (h1 : -9223372036854775808 ≤ x) (h2 : x < 9223372036854775808) : nwr x = x := l_t h1 h2
theorem nwr_add (x y : Int) : nwr (nwr x + nwr y) = nwr (x + y) := by
  unfold nwr
  rw [Int64.ofInt_add, Int64.ofInt_toInt, Int64.ofInt_toInt, ← Int64.ofInt_add]
theorem nwr_mul (x y : Int) : nwr (nwr x * nwr y) = nwr (x * y) := by
  unfold nwr
  rw [Int64.ofInt_mul, Int64.ofInt_toInt, Int64.ofInt_toInt, ← Int64.ofInt_mul]
def nsm (h : Int → Int) : Nat → Int
  | 0 => 0
  | n + 1 => nsm h n + h (n : Int)
theorem nsm_ext {h g : Int → Int} : ∀ {n : Nat}, (∀ j : Int, 0 ≤ j → j < (n : Int) → h j = g j) → nsm h n = nsm g n
  | 0, _ => rfl
  | n + 1, e => by
    show nsm h n + h (n : Int) = nsm g n + g (n : Int)
    rw [nsm_ext (fun j h0 h1 => e j h0 (by omega)), e (n : Int) (by omega) (by omega)]
theorem nsm_0 {h : Int → Int} : ∀ {n : Nat}, (∀ j : Int, 0 ≤ j → j < (n : Int) → h j = 0) → nsm h n = 0
  | 0, _ => rfl
  | n + 1, e => by
    show nsm h n + h (n : Int) = 0
    rw [nsm_0 (fun j h0 h1 => e j h0 (by omega)), e (n : Int) (by omega) (by omega)]
    rfl
theorem nsm_add (h g : Int → Int) : ∀ n : Nat, nsm (fun j => h j + g j) n = nsm h n + nsm g n
  | 0 => rfl
  | n + 1 => by
    show nsm (fun j => h j + g j) n + (h (n : Int) + g (n : Int)) = (nsm h n + h (n : Int)) + (nsm g n + g (n : Int))
    rw [nsm_add h g n]
    omega
theorem nsm_pick (w : Int → Int) (x : Int) : ∀ n : Nat, nsm (fun j => if x = j then w j else 0) n = if 0 ≤ x ∧ x < (n : Int) then w x else 0
  | 0 => by
    rw [if_neg (by omega)]
    rfl
  | n + 1 => by
    show nsm (fun j => if x = j then w j else 0) n + (if x = (n : Int) then w (n : Int) else 0) = _
    rw [nsm_pick w x n]
    by_cases e : x = (n : Int)
    · rw [if_pos e, if_neg (by omega), if_pos (by omega), ← e]
      omega
    · rw [if_neg e]
      by_cases q : 0 ≤ x ∧ x < (n : Int)
      · rw [if_pos q, if_pos (by omega)]
        omega
      · rw [if_neg q, if_neg (by omega)]
        rfl
theorem nsm_toI {h : Int → Int} {r : Int} (h0 : 0 ≤ r) : nsm h (r + 1).toNat = nsm h r.toNat + h r := by
  rw [show (r + 1).toNat = r.toNat + 1 by omega]
  show nsm h r.toNat + h ((r.toNat : Nat) : Int) = _
  rw [show ((r.toNat : Nat) : Int) = r by omega]
/-! what was heard -/
def nfit (a b : Int → Int) (t d : Int) : Nat → Int
  | 0 => 1
  | n + 1 => if a (n : Int) = t ∧ b (n : Int) ≠ d then 0 else nfit a b t d n
theorem nfit_01 (a b : Int → Int) (t d : Int) : ∀ n : Nat, nfit a b t d n = 0 ∨ nfit a b t d n = 1
  | 0 => Or.inr rfl
  | n + 1 => by
    show (if a (n : Int) = t ∧ b (n : Int) ≠ d then 0 else nfit a b t d n) = 0 ∨ (if a (n : Int) = t ∧ b (n : Int) ≠ d then 0 else nfit a b t d n) = 1
    by_cases q : a (n : Int) = t ∧ b (n : Int) ≠ d
    · rw [if_pos q]
      exact Or.inl rfl
    · rw [if_neg q]
      exact nfit_01 a b t d n
theorem nfit_bad {a b : Int → Int} {t d i : Int} (h0 : 0 ≤ i) (e1 : a i = t) (e2 : b i ≠ d) : ∀ n : Nat, i < (n : Int) → nfit a b t d n = 0
  | 0, h => absurd h (by omega)
  | n + 1, h => by
    show (if a (n : Int) = t ∧ b (n : Int) ≠ d then 0 else nfit a b t d n) = 0
    by_cases q : a (n : Int) = t ∧ b (n : Int) ≠ d
    · exact if_pos q
    · rw [if_neg q]
      refine nfit_bad h0 e1 e2 n ?_
      by_cases e : i = (n : Int)
      · rw [e] at e1 e2
        exact absurd ⟨e1, e2⟩ q
      · omega
theorem nfit_next {a b : Int → Int} {t d i : Int} (h0 : 0 ≤ i) : nfit a b t d (i + 1).toNat = if a i = t ∧ b i ≠ d then 0 else nfit a b t d i.toNat := by
  rw [show (i + 1).toNat = i.toNat + 1 by omega]
  show (if a ((i.toNat : Nat) : Int) = t ∧ b ((i.toNat : Nat) : Int) ≠ d then 0 else nfit a b t d i.toNat) = _
  rw [show ((i.toNat : Nat) : Int) = i by omega]
theorem nfit_ext {a b a' b' : Int → Int} {t d : Int} : ∀ {n : Nat}, (∀ j : Int, 0 ≤ j → j < (n : Int) → a j = a' j ∧ b j = b' j) → nfit a b t d n = nfit a' b' t d n
  | 0, _ => rfl
  | n + 1, e => by
    show (if a (n : Int) = t ∧ b (n : Int) ≠ d then 0 else nfit a b t d n) = (if a' (n : Int) = t ∧ b' (n : Int) ≠ d then 0 else nfit a' b' t d n)
    rw [nfit_ext (fun j h0 h1 => e j h0 (by omega)), (e (n : Int) (by omega) (by omega)).1, (e (n : Int) (by omega) (by omega)).2]
/-! where the key is behind a minute -/
def nKG (f s k : Int → Int) (D d a : Int) : Int := if 0 ≤ d ∧ d < D then kgk (k d) (f d) (s d) a else -1
def nra (f s k h g : Int → Int) (D N t d a : Int) : Int := if nfit h g t d N.toNat = 1 then (if d = -1 then a else nKG f s k D d a) else -1
def cRA (m : kM) : Int → Int → Int → Int := nra (m.2.1 4) (m.2.1 5) (m.2.1 6) (m.2.1 32) (m.2.1 33) (m.1 8) (m.1 22)
def dRA (m : kM) : Int → Int → Int → Int := nra (fun j => m.2.1 66 (4 * j)) (fun j => m.2.1 66 (4 * j + 1)) (fun j => m.2.1 66 (4 * j + 2)) (fun j => m.2.1 73 (2 * j)) (fun j => m.2.1 73 (2 * j + 1)) (m.1 26) (m.1 39)
theorem cRA_of {m m' : kM} (e8 : m'.1 8 = m.1 8) (e22 : m'.1 22 = m.1 22) (e4 : m'.2.1 4 = m.2.1 4) (e5 : m'.2.1 5 = m.2.1 5) (e6 : m'.2.1 6 = m.2.1 6) (e32 : m'.2.1 32 = m.2.1 32) (e33 : m'.2.1 33 = m.2.1 33) : cRA m' = cRA m := by
  unfold cRA
  rw [e8, e22, e4, e5, e6, e32, e33]
theorem cRA_no {m : kM} {t e f : Int} (h : nfit (m.2.1 32) (m.2.1 33) t e (m.1 22).toNat = 0) : cRA m t e f = -1 := by
  unfold cRA nra
  rw [if_neg (by rw [h]; decide)]
theorem cRA_stay {m : kM} {t e f : Int} (h : nfit (m.2.1 32) (m.2.1 33) t e (m.1 22).toNat = 1) (he : e = -1) : cRA m t e f = f := by
  unfold cRA nra
  rw [if_pos h, if_pos he]
theorem cRA_go {m : kM} {t e f z : Int} (h : nfit (m.2.1 32) (m.2.1 33) t e (m.1 22).toNat = 1) (he : e ≠ -1) (hz : KGZ m e f z) : cRA m t e f = z := by
  unfold cRA nra
  rw [if_pos h, if_neg he]
  exact Eq.symm hz
theorem kgk_rng {k f s r R : Int} (hr : 0 ≤ R) (hf : f < R) (hs : s < R) : kgk k f s r < R := by
  unfold kgk
  (repeat' split) <;> omega
theorem cRA_lt {m : kM} {t e f : Int} (hR : 0 ≤ m.1 7) (hV : ∀ d : Int, 0 ≤ d → d < m.1 8 → m.2.1 4 d < m.1 7 ∧ m.2.1 5 d < m.1 7) (hf : f < m.1 7) : cRA m t e f < m.1 7 := by
  unfold cRA nra nKG
  by_cases q1 : nfit (m.2.1 32) (m.2.1 33) t e (m.1 22).toNat = 1
  · rw [if_pos q1]
    by_cases q2 : e = -1
    · rw [if_pos q2]
      exact hf
    · rw [if_neg q2]
      by_cases q3 : 0 ≤ e ∧ e < m.1 8
      · rw [if_pos q3]
        exact kgk_rng hR (hV e q3.1 q3.2).1 (hV e q3.1 q3.2).2
      · rw [if_neg q3]
        omega
  · rw [if_neg q1]
    omega
/-! ways from a room to another one in a minute, by so many doors (the first: it stays) -/
def npl (ρ : Int → Int → Int → Int) (t a b : Int) : Nat → Int
  | 0 => 0
  | n + 1 => npl ρ t a b n + (if ρ t ((n : Int) - 1) a = b then 1 else 0)
theorem npl_next {ρ : Int → Int → Int → Int} {t a b e : Int} (h0 : -1 ≤ e) : npl ρ t a b (e + 1 + 1).toNat = npl ρ t a b (e + 1).toNat + (if ρ t e a = b then 1 else 0) := by
  rw [show (e + 1 + 1).toNat = (e + 1).toNat + 1 by omega]
  show npl ρ t a b (e + 1).toNat + (if ρ t ((((e + 1).toNat : Nat) : Int) - 1) a = b then 1 else 0) = _
  rw [show (((e + 1).toNat : Nat) : Int) - 1 = e by omega]
theorem npl_ext {ρ σ : Int → Int → Int → Int} {t a b : Int} : ∀ {n : Nat}, (∀ d : Int, -1 ≤ d → d + 1 < (n : Int) → ρ t d a = σ t d a) → npl ρ t a b n = npl σ t a b n
  | 0, _ => rfl
  | n + 1, e => by
    show npl ρ t a b n + (if ρ t ((n : Int) - 1) a = b then 1 else 0) = npl σ t a b n + (if σ t ((n : Int) - 1) a = b then 1 else 0)
    rw [npl_ext (fun d h0 h1 => e d h0 (by omega)), e ((n : Int) - 1) (by omega) (by omega)]
theorem npl_rng (ρ : Int → Int → Int → Int) (t a b : Int) : ∀ n : Nat, 0 ≤ npl ρ t a b n ∧ npl ρ t a b n ≤ (n : Int)
  | 0 => ⟨Int.le_refl 0, Int.le_refl 0⟩
  | n + 1 => by
    have h := npl_rng ρ t a b n
    show 0 ≤ npl ρ t a b n + (if ρ t ((n : Int) - 1) a = b then 1 else 0) ∧ npl ρ t a b n + (if ρ t ((n : Int) - 1) a = b then 1 else 0) ≤ ((n + 1 : Nat) : Int)
    by_cases q : ρ t ((n : Int) - 1) a = b
    · rw [if_pos q]
      omega
    · rw [if_neg q]
      omega
/-! ways to each room, and on from each -/
def nwt (ρ : Int → Int → Int → Int) (R D : Nat) (K : Int) : Nat → Int → Int
  | 0, b => if b = K then 1 else 0
  | t + 1, b => nsm (fun a => nwt ρ R D K t a * npl ρ (t : Int) a b (D + 1)) R
def nwo (ρ : Int → Int → Int → Int) (R D : Nat) (M : Int) : Nat → Int → Int
  | 0, _ => 1
  | r + 1, a => nsm (fun b => npl ρ (M - (r : Int) - 1) a b (D + 1) * nwo ρ R D M r b) R
theorem nwt_ext {ρ σ : Int → Int → Int → Int} {R D : Nat} {K : Int} (h : ∀ t d a : Int, -1 ≤ d → d < (D : Int) → 0 ≤ a → a < (R : Int) → ρ t d a = σ t d a) : ∀ (t : Nat) (b : Int), nwt ρ R D K t b = nwt σ R D K t b
  | 0, b => rfl
  | t + 1, b => by
    show nsm (fun a => nwt ρ R D K t a * npl ρ (t : Int) a b (D + 1)) R = nsm (fun a => nwt σ R D K t a * npl σ (t : Int) a b (D + 1)) R
    refine nsm_ext (fun j h0 h1 => ?_)
    show nwt ρ R D K t j * npl ρ (t : Int) j b (D + 1) = nwt σ R D K t j * npl σ (t : Int) j b (D + 1)
    rw [nwt_ext h t j, npl_ext (fun d g0 g1 => h (t : Int) d j g0 (by omega) h0 h1)]
theorem nwo_ext {ρ σ : Int → Int → Int → Int} {R D : Nat} {M : Int} (h : ∀ t d a : Int, -1 ≤ d → d < (D : Int) → 0 ≤ a → a < (R : Int) → ρ t d a = σ t d a) : ∀ (r : Nat) (a : Int), 0 ≤ a → a < (R : Int) → nwo ρ R D M r a = nwo σ R D M r a
  | 0, a, _, _ => rfl
  | r + 1, a, g0, g1 => by
    show nsm (fun b => npl ρ (M - (r : Int) - 1) a b (D + 1) * nwo ρ R D M r b) R = nsm (fun b => npl σ (M - (r : Int) - 1) a b (D + 1) * nwo σ R D M r b) R
    refine nsm_ext (fun j h0 h1 => ?_)
    show npl ρ (M - (r : Int) - 1) a j (D + 1) * nwo ρ R D M r j = npl σ (M - (r : Int) - 1) a j (D + 1) * nwo σ R D M r j
    rw [nwo_ext h r j h0 h1, npl_ext (fun d k0 k1 => h (M - (r : Int) - 1) d a k0 (by omega) g0 g1)]
def cWT (m : kM) : Nat → Int → Int := nwt (cRA m) (m.1 7).toNat (m.1 8).toNat (m.1 12)
def cWO (m : kM) (M : Int) : Nat → Int → Int := nwo (cRA m) (m.1 7).toNat (m.1 8).toNat M
def dWT (m : kM) : Nat → Int → Int := nwt (dRA m) (m.1 25).toNat (m.1 26).toNat (m.1 30)
def dWO (m : kM) (M : Int) : Nat → Int → Int := nwo (dRA m) (m.1 25).toNat (m.1 26).toNat M
/-- a step of the sum by doors -/
theorem ns_no {ρ : Int → Int → Int → Int} {t a b e : Int} (h0 : -1 ≤ e) (hb : 0 ≤ b) (hz : ρ t e a = -1) : npl ρ t a b (e + 1 + 1).toNat = npl ρ t a b (e + 1).toNat := by
  rw [npl_next h0, hz, if_neg (by omega)]
  omega
theorem ns_at {ρ : Int → Int → Int → Int} {t a b e : Int} (h0 : -1 ≤ e) (hz : ρ t e a = b) : npl ρ t a b (e + 1 + 1).toNat = npl ρ t a b (e + 1).toNat + 1 := by
  rw [npl_next h0, hz, if_pos rfl]
theorem ns_ne {ρ : Int → Int → Int → Int} {t a b e : Int} (h0 : -1 ≤ e) (hz : ρ t e a ≠ b) : npl ρ t a b (e + 1 + 1).toNat = npl ρ t a b (e + 1).toNat := by
  rw [npl_next h0, if_neg hz]
  omega
/-- ways on, one door more -/
theorem nw_on {ρ : Int → Int → Int → Int} {t a e : Int} {w : Int → Int} {R : Nat} (h0 : -1 ≤ e) (hx : 0 ≤ ρ t e a) (hR : ρ t e a < (R : Int)) : nsm (fun b => npl ρ t a b (e + 1 + 1).toNat * w b) R = nsm (fun b => npl ρ t a b (e + 1).toNat * w b) R + w (ρ t e a) := by
  have h1 : nsm (fun b => npl ρ t a b (e + 1 + 1).toNat * w b) R = nsm (fun b => npl ρ t a b (e + 1).toNat * w b + (if ρ t e a = b then w b else 0)) R := by
    refine nsm_ext (fun j _ _ => ?_)
    show npl ρ t a j (e + 1 + 1).toNat * w j = npl ρ t a j (e + 1).toNat * w j + (if ρ t e a = j then w j else 0)
    rw [npl_next h0]
    by_cases q : ρ t e a = j
    · rw [if_pos q, if_pos q, Int.add_mul, Int.one_mul]
    · rw [if_neg q, if_neg q, Int.add_zero, Int.add_zero]
  rw [h1, nsm_add, nsm_pick, if_pos ⟨hx, hR⟩]
theorem nw_off {ρ : Int → Int → Int → Int} {t a e : Int} {w : Int → Int} {R : Nat} (h0 : -1 ≤ e) (hz : ρ t e a = -1) : nsm (fun b => npl ρ t a b (e + 1 + 1).toNat * w b) R = nsm (fun b => npl ρ t a b (e + 1).toNat * w b) R := by
  refine nsm_ext (fun j g0 _ => ?_)
  show npl ρ t a j (e + 1 + 1).toNat * w j = npl ρ t a j (e + 1).toNat * w j
  rw [ns_no h0 g0 hz]
/-! the most, the bits, the best minute -/
def nmx (h : Int → Int) : Nat → Int
  | 0 => 0
  | r + 1 => if nmx h r < h (r : Int) then h (r : Int) else nmx h r
theorem nmx_next {h : Int → Int} {r : Int} (h0 : 0 ≤ r) : nmx h (r + 1).toNat = if nmx h r.toNat < h r then h r else nmx h r.toNat := by
  rw [show (r + 1).toNat = r.toNat + 1 by omega]
  show (if nmx h r.toNat < h ((r.toNat : Nat) : Int) then h ((r.toNat : Nat) : Int) else nmx h r.toNat) = _
  rw [show ((r.toNat : Nat) : Int) = r by omega]
theorem nmx_ext {h g : Int → Int} : ∀ {n : Nat}, (∀ j : Int, 0 ≤ j → j < (n : Int) → h j = g j) → nmx h n = nmx g n
  | 0, _ => rfl
  | n + 1, e => by
    show (if nmx h n < h (n : Int) then h (n : Int) else nmx h n) = (if nmx g n < g (n : Int) then g (n : Int) else nmx g n)
    rw [nmx_ext (fun j h0 h1 => e j h0 (by omega)), e (n : Int) (by omega) (by omega)]
def nbt (h : Int → Int) : Nat → Int
  | 0 => 0
  | r + 1 => if 0 < h (r : Int) then stb (nbt h r) (r : Int) else nbt h r
theorem nbt_next {h : Int → Int} {r : Int} (h0 : 0 ≤ r) : nbt h (r + 1).toNat = if 0 < h r then stb (nbt h r.toNat) r else nbt h r.toNat := by
  rw [show (r + 1).toNat = r.toNat + 1 by omega]
  show (if 0 < h ((r.toNat : Nat) : Int) then stb (nbt h r.toNat) ((r.toNat : Nat) : Int) else nbt h r.toNat) = _
  rw [show ((r.toNat : Nat) : Int) = r by omega]
theorem nbt_ext {h g : Int → Int} : ∀ {n : Nat}, (∀ j : Int, 0 ≤ j → j < (n : Int) → h j = g j) → nbt h n = nbt g n
  | 0, _ => rfl
  | n + 1, e => by
    show (if 0 < h (n : Int) then stb (nbt h n) (n : Int) else nbt h n) = (if 0 < g (n : Int) then stb (nbt g n) (n : Int) else nbt g n)
    rw [nbt_ext (fun j h0 h1 => e j h0 (by omega)), e (n : Int) (by omega) (by omega)]
def nbm (Q : Int → Int) : Nat → Int × Int
  | 0 => (-1, 0)
  | t + 1 => if 0 < Q ((t : Int) + 1) ∧ ((nbm Q t).1 = -1 ∨ Q ((t : Int) + 1) < (nbm Q t).2) then ((t : Int), Q ((t : Int) + 1)) else nbm Q t
theorem nbm_next {Q : Int → Int} {t : Int} (h0 : 0 ≤ t) : nbm Q (t + 1).toNat = if 0 < Q (t + 1) ∧ ((nbm Q t.toNat).1 = -1 ∨ Q (t + 1) < (nbm Q t.toNat).2) then (t, Q (t + 1)) else nbm Q t.toNat := by
  rw [show (t + 1).toNat = t.toNat + 1 by omega]
  show (if 0 < Q (((t.toNat : Nat) : Int) + 1) ∧ ((nbm Q t.toNat).1 = -1 ∨ Q (((t.toNat : Nat) : Int) + 1) < (nbm Q t.toNat).2) then (((t.toNat : Nat) : Int), Q (((t.toNat : Nat) : Int) + 1)) else nbm Q t.toNat) = _
  rw [show ((t.toNat : Nat) : Int) = t by omega]
theorem nbm_ext {Q P : Int → Int} : ∀ {n : Nat}, (∀ j : Int, 1 ≤ j → j ≤ (n : Int) → Q j = P j) → nbm Q n = nbm P n
  | 0, _ => rfl
  | n + 1, e => by
    show (if 0 < Q ((n : Int) + 1) ∧ ((nbm Q n).1 = -1 ∨ Q ((n : Int) + 1) < (nbm Q n).2) then ((n : Int), Q ((n : Int) + 1)) else nbm Q n) = (if 0 < P ((n : Int) + 1) ∧ ((nbm P n).1 = -1 ∨ P ((n : Int) + 1) < (nbm P n).2) then ((n : Int), P ((n : Int) + 1)) else nbm P n)
    rw [nbm_ext (fun j h0 h1 => e j h0 (by omega)), e ((n : Int) + 1) (by omega) (by omega)]
/-- what was heard is noted, on both sides -/
def CHZ (m m' : kM) (t a : Int) : Prop := (m'.1 22 = m.1 22 + 1 ∧ m'.2.1 32 = up (m.2.1 32) (m.1 22) t ∧ m'.2.1 33 = up (m.2.1 33) (m.1 22) a) ∨ (m'.1 22 = m.1 22 ∧ m'.2.1 32 = m.2.1 32 ∧ m'.2.1 33 = m.2.1 33)
def DHZ (m m' : kM) (t a : Int) : Prop := (m'.1 39 = m.1 39 + 1 ∧ m'.2.1 73 = up (up (m.2.1 73) (2 * m.1 39) t) (2 * m.1 39 + 1) a) ∨ (m'.1 39 = m.1 39 ∧ m'.2.1 73 = m.2.1 73)
def HY (m : kM) : Prop := ∀ j : Int, 0 ≤ j → j < m.1 22 → m.2.1 73 (2 * j) = m.2.1 32 j ∧ m.2.1 73 (2 * j + 1) = m.2.1 33 j
theorem HY_up {m m' : kM} {t a : Int} {m2 : kM} (r22 : m.1 22 = m.1 39) (h0 : 0 ≤ m.1 22) (hA : CHZ m m2 t a) (e39 : m2.1 39 = m.1 39) (e73 : m2.2.1 73 = m.2.1 73) (hB : DHZ m2 m' t a) (e22 : m'.1 22 = m2.1 22) (e32 : m'.2.1 32 = m2.2.1 32) (e33 : m'.2.1 33 = m2.2.1 33) (hr : m'.1 22 = m'.1 39) (h : HY m) : HY m' := by
  intro j g0 g1
  rcases hA with ⟨a1, a2, a3⟩ | ⟨a1, a2, a3⟩
  · rcases hB with ⟨b1, b2⟩ | ⟨b1, b2⟩
    · rw [e32, e33, a2, a3, b2, e73, e39]
      by_cases q : j = m.1 22
      · rw [q, up_same, up_same, r22]
        refine ⟨?_, up_same _ _ _⟩
        rw [up_ne _ (by omega), up_same]
      · rw [up_ne _ q, up_ne _ q, up_ne _ (by omega), up_ne _ (by omega), up_ne _ (by omega), up_ne _ (by omega)]
        exact h j g0 (by omega)
    · exfalso
      omega
  · rcases hB with ⟨b1, b2⟩ | ⟨b1, b2⟩
    · exfalso
      omega
    · rw [e32, e33, a2, a3, b2, e73]
      exact h j g0 (by omega)
theorem nsm_st {h : Int → Int} {r s z B : Int} (h0 : 0 ≤ r) (hs : s = nwr (nsm h r.toNat)) (hB : B = nwr (h r)) (hz : z = nwr (s + B)) : z = nwr (nsm h (r + 1).toNat) := by
  rw [nsm_toI h0, ← nwr_add, ← hs, ← hB]
  exact hz
theorem nbt_pos {h : Int → Int} {r b z : Int} (h0 : 0 ≤ r) (hb : b = nbt h r.toNat) (hp : 0 < h r) (hz : z = stb b r) : z = nbt h (r + 1).toNat := by
  rw [nbt_next h0, if_pos hp, ← hb]
  exact hz
theorem nbt_neg {h : Int → Int} {r b : Int} (h0 : 0 ≤ r) (hb : b = nbt h r.toNat) (hp : ¬ 0 < h r) : b = nbt h (r + 1).toNat := by
  rw [nbt_next h0, if_neg hp]
  exact hb
theorem nmx_st {h : Int → Int} {r s z p : Int} (h0 : 0 ≤ r) (hs : s = nmx h r.toNat) (hp : p = h r) (hz : z = if s < p then p else s) : z = nmx h (r + 1).toNat := by
  rw [nmx_next h0, ← hs, ← hp]
  exact hz
theorem nbm_pos {Q : Int → Int} {t b f p : Int} (h0 : 0 ≤ t) (hb : b = (nbm Q t.toNat).1) (hf : f = (nbm Q t.toNat).2) (hp : p = Q (t + 1)) (hc : 0 < p ∧ (b = -1 ∨ p < f)) : t = (nbm Q (t + 1).toNat).1 ∧ p = (nbm Q (t + 1).toNat).2 := by
  rw [hb, hf, hp] at hc
  rw [nbm_next h0, if_pos hc]
  exact ⟨rfl, hp⟩
theorem nbm_neg {Q : Int → Int} {t b f p : Int} (h0 : 0 ≤ t) (hb : b = (nbm Q t.toNat).1) (hf : f = (nbm Q t.toNat).2) (hp : p = Q (t + 1)) (hc : ¬ (0 < p ∧ (b = -1 ∨ p < f))) : b = (nbm Q (t + 1).toNat).1 ∧ f = (nbm Q (t + 1).toNat).2 := by
  rw [hb, hf, hp] at hc
  rw [nbm_next h0, if_neg hc]
  exact ⟨hb, hf⟩
theorem nfit_st {a b : Int → Int} {t d i s z : Int} (h0 : 0 ≤ i) (hs : s = nfit a b t d i.toNat) (hz : (z = 0 ∧ (s = 0 ∨ (a i = t ∧ b i ≠ d))) ∨ (z = 1 ∧ s = 1 ∧ ¬ (a i = t ∧ b i ≠ d))) : z = nfit a b t d (i + 1).toNat := by
  rw [nfit_next h0]
  by_cases q : a i = t ∧ b i ≠ d
  · rw [if_pos q]
    rcases hz with h | h
    · exact h.1
    · exact absurd q h.2.2
  · rw [if_neg q, ← hs]
    rcases hz with h | h
    · rcases h.2 with h2 | h2
      · rw [h.1, h2]
      · exact absurd h2 q
    · rw [h.1, h.2.1]
theorem cWO_s {m : kM} {n t x : Int} (h : t + 1 ≤ n) : cWO m n (n - t).toNat x = nsm (fun b => npl (cRA m) t x b ((m.1 8).toNat + 1) * cWO m n (n - t - 1).toNat b) (m.1 7).toNat := by
  rw [show (n - t).toNat = (n - t - 1).toNat + 1 by omega]
  show nsm (fun b => npl (cRA m) (n - (((n - t - 1).toNat : Nat) : Int) - 1) x b ((m.1 8).toNat + 1) * cWO m n (n - t - 1).toNat b) (m.1 7).toNat = _
  rw [show n - (((n - t - 1).toNat : Nat) : Int) - 1 = t by omega]
theorem cWT_s {m : kM} {t x : Int} (h : 0 ≤ t) : cWT m (t + 1).toNat x = nsm (fun a => cWT m t.toNat a * npl (cRA m) t a x ((m.1 8).toNat + 1)) (m.1 7).toNat := by
  rw [show (t + 1).toNat = t.toNat + 1 by omega]
  show nsm (fun a => cWT m t.toNat a * npl (cRA m) ((t.toNat : Nat) : Int) a x ((m.1 8).toNat + 1)) (m.1 7).toNat = _
  rw [show ((t.toNat : Nat) : Int) = t by omega]
theorem dWO_s {m : kM} {n t x : Int} (h : t + 1 ≤ n) : dWO m n (n - t).toNat x = nsm (fun b => npl (dRA m) t x b ((m.1 26).toNat + 1) * dWO m n (n - t - 1).toNat b) (m.1 25).toNat := by
  rw [show (n - t).toNat = (n - t - 1).toNat + 1 by omega]
  show nsm (fun b => npl (dRA m) (n - (((n - t - 1).toNat : Nat) : Int) - 1) x b ((m.1 26).toNat + 1) * dWO m n (n - t - 1).toNat b) (m.1 25).toNat = _
  rw [show n - (((n - t - 1).toNat : Nat) : Int) - 1 = t by omega]
theorem dWT_s {m : kM} {t x : Int} (h : 0 ≤ t) : dWT m (t + 1).toNat x = nsm (fun a => dWT m t.toNat a * npl (dRA m) t a x ((m.1 26).toNat + 1)) (m.1 25).toNat := by
  rw [show (t + 1).toNat = t.toNat + 1 by omega]
  show nsm (fun a => dWT m t.toNat a * npl (dRA m) ((t.toNat : Nat) : Int) a x ((m.1 26).toNat + 1)) (m.1 25).toNat = _
  rw [show ((t.toNat : Nat) : Int) = t by omega]
theorem dRA_of {m m' : kM} (e26 : m'.1 26 = m.1 26) (e39 : m'.1 39 = m.1 39) (e66 : m'.2.1 66 = m.2.1 66) (e73 : m'.2.1 73 = m.2.1 73) : dRA m' = dRA m := by
  unfold dRA
  rw [e26, e39, e66, e73]
theorem dRA_b {m : kM} {t e a b : Int} (h0 : 0 ≤ e) (h1 : e < m.1 26) (hb : 0 ≤ b) (hn : m.2.1 66 (4 * e) ≠ m.2.1 66 (4 * e + 1)) : (dRA m t e a = b) ↔ (nfit (fun j => m.2.1 73 (2 * j)) (fun j => m.2.1 73 (2 * j + 1)) t e (m.1 39).toNat = 1 ∧ m.2.1 66 (4 * e + 2) ≠ 5 ∧ ((m.2.1 66 (4 * e) = a ∧ m.2.1 66 (4 * e + 1) = b) ∨ (m.2.1 66 (4 * e + 2) ≠ 1 ∧ m.2.1 66 (4 * e + 1) = a ∧ m.2.1 66 (4 * e) = b))) := by
  have h01 := nfit_01 (fun j => m.2.1 73 (2 * j)) (fun j => m.2.1 73 (2 * j + 1)) t e (m.1 39).toNat
  unfold dRA nra nKG
  by_cases q : nfit (fun j => m.2.1 73 (2 * j)) (fun j => m.2.1 73 (2 * j + 1)) t e (m.1 39).toNat = 1
  · rw [if_pos q, if_neg (by omega), if_pos ⟨h0, h1⟩]
    show kgk (m.2.1 66 (4 * e + 2)) (m.2.1 66 (4 * e)) (m.2.1 66 (4 * e + 1)) a = b ↔ _
    generalize m.2.1 66 (4 * e + 2) = k
    generalize m.2.1 66 (4 * e) = f at hn ⊢
    generalize m.2.1 66 (4 * e + 1) = s at hn ⊢
    unfold kgk
    constructor
    · intro h
      refine ⟨q, ?_⟩
      (repeat' split at h) <;> omega
    · intro h
      have h2 := h.2
      (repeat' split) <;> omega
  · rw [if_neg q]
    constructor
    · intro h
      omega
    · intro h
      exact absurd h.1 q
theorem d_npl1 {m : kM} {t a b x : Int} (hb : 0 ≤ b) (h : (x = 1 ∧ a = b ∧ nfit (fun j => m.2.1 73 (2 * j)) (fun j => m.2.1 73 (2 * j + 1)) t (-1) (m.1 39).toNat = 1) ∨ (x = 0 ∧ (a ≠ b ∨ nfit (fun j => m.2.1 73 (2 * j)) (fun j => m.2.1 73 (2 * j + 1)) t (-1) (m.1 39).toNat = 0))) : x = npl (dRA m) t a b 1 := by
  have e : npl (dRA m) t a b 1 = 0 + (if dRA m t (((0 : Nat) : Int) - 1) a = b then 1 else 0) := rfl
  rw [e, show ((0 : Nat) : Int) - 1 = -1 by decide]
  unfold dRA nra
  by_cases q : nfit (fun j => m.2.1 73 (2 * j)) (fun j => m.2.1 73 (2 * j + 1)) t (-1) (m.1 39).toNat = 1
  · rw [if_pos q, if_pos rfl]
    by_cases q2 : a = b
    · rw [if_pos q2]
      omega
    · rw [if_neg q2]
      omega
  · rw [if_neg q, if_neg (by omega)]
    omega
theorem fr_n35 {SA : List Nat} {j : Nat} (hj : j < 11) (h : (List.range' 35 11).all (fun x => !SA.contains x) = true) : SA.contains (35 + j) = false := by
  have h9 := List.all_eq_true.mp h (35 + j) (by rw [List.mem_range'_1]; omega)
  cases e : SA.contains (35 + j) with
  | false => rfl
  | true =>
    rw [e] at h9
    cases h9
theorem cWO_of {m m' : kM} (e7 : m'.1 7 = m.1 7) (e8 : m'.1 8 = m.1 8) (eR : cRA m' = cRA m) (n : Int) : cWO m' n = cWO m n := by
  unfold cWO
  rw [e7, e8, eR]
/-- the night's answers, as both sides have them -/
def cQ (m : kM) (n : Int) : Int → Int := fun g => nmx (fun x => nwr (cWT m g.toNat x * cWO m n (n - g).toNat x)) (m.1 7).toNat
def dQ (m : kM) (n : Int) : Int → Int := fun g => nmx (fun x => nwr (dWT m g.toNat x * dWO m n (n - g).toNat x)) (m.1 25).toNat
def CNZ (m : kM) (n w z : Int) : Prop := ((n < 1 ∨ 10 < n ∨ w < 0 ∨ 1 < w) ∧ z = -3) ∨ (1 ≤ n ∧ n ≤ 10 ∧ w = 0 ∧ z = nwr (nsm (cWT m n.toNat) (m.1 7).toNat)) ∨ (1 ≤ n ∧ n ≤ 10 ∧ w = 1 ∧ z = nbt (fun x => nwr (cWT m n.toNat x)) (m.1 7).toNat)
def DNZ (m : kM) (n w z : Int) : Prop := ((n < 1 ∨ 10 < n ∨ w < 0 ∨ 1 < w) ∧ z = -3) ∨ (1 ≤ n ∧ n ≤ 10 ∧ w = 0 ∧ z = nwr (nsm (dWT m n.toNat) (m.1 25).toNat)) ∨ (1 ≤ n ∧ n ≤ 10 ∧ w = 1 ∧ z = nbt (fun x => nwr (dWT m n.toNat x)) (m.1 25).toNat)
def CAZ (m : kM) (n z : Int) : Prop := ((n < 1 ∨ 10 < n) ∧ z = -3) ∨ (1 ≤ n ∧ n ≤ 10 ∧ z = (nbm (cQ m n) n.toNat).1)
def DAZ (m : kM) (n z : Int) : Prop := ((n < 1 ∨ 10 < n) ∧ z = -3) ∨ (1 ≤ n ∧ n ≤ 10 ∧ z = (nbm (dQ m n) n.toNat).1)
