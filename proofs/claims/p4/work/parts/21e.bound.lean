/-! ===== rows of acts: a shortest one has at most 400 ===== -/
/-! ===== a shortest row of acts: at most 400 of them ===== -/
theorem clr_pcn_all : ∀ (u : Fin 64) (r : Fin 6), hb (u.val : Int) (r.val : Int) = 1 → pcn (clr (u.val : Int) (r.val : Int)) = pcn (u.val : Int) - 1 := by decide +kernel
theorem clr_hb_all : ∀ (u : Fin 64) (r q : Fin 6), hb (clr (u.val : Int) (r.val : Int)) (q.val : Int) = if q = r then 0 else hb (u.val : Int) (q.val : Int) := by decide +kernel
theorem pcn_0_all : ∀ (u : Fin 64), 0 ≤ pcn (u.val : Int) ∧ ((u.val : Int) ≠ 0 → 1 ≤ pcn (u.val : Int)) := by decide +kernel
theorem clr_pcn {u r : Int} (hu0 : 0 ≤ u) (hu1 : u ≤ 63) (hr0 : 0 ≤ r) (hr1 : r ≤ 5) (h : hb u r = 1) : pcn (clr u r) = pcn u - 1 := by
  obtain ⟨k, rfl⟩ := b_fin (n := 64) hu0 (by omega)
  obtain ⟨l, rfl⟩ := b_fin (n := 6) hr0 (by omega)
  exact clr_pcn_all k l h
theorem clr_hb {u r q : Int} (hu0 : 0 ≤ u) (hu1 : u ≤ 63) (hr0 : 0 ≤ r) (hr1 : r ≤ 5) (hq0 : 0 ≤ q) (hq1 : q ≤ 5) : hb (clr u r) q = if q = r then 0 else hb u q := by
  obtain ⟨k, rfl⟩ := b_fin (n := 64) hu0 (by omega)
  obtain ⟨l, rfl⟩ := b_fin (n := 6) hr0 (by omega)
  obtain ⟨p, rfl⟩ := b_fin (n := 6) hq0 (by omega)
  rw [clr_hb_all k l p]
  by_cases e : p = l
  · subst e
    simp
  · have e2 : ¬ ((p.val : Int) = (l.val : Int)) := fun h => e (Fin.ext (by omega))
    rw [if_neg e, if_neg e2]
theorem pcn_0 {u : Int} (hu0 : 0 ≤ u) (hu1 : u ≤ 63) : 0 ≤ pcn u ∧ (u ≠ 0 → 1 ≤ pcn u) := by
  obtain ⟨k, rfl⟩ := b_fin (n := 64) hu0 (by omega)
  exact pcn_0_all k
theorem bp_holes : ∀ (m n : Nat) (f : Nat → Nat), (∀ i, i < n → f i < m) → (∀ i j, i < j → j < n → f i ≠ f j) → n ≤ m := by
  intro m
  induction m with
  | zero =>
    intro n f h1 _
    rcases Nat.eq_zero_or_pos n with h | h
    · omega
    · exact absurd (h1 0 h) (Nat.not_lt_zero _)
  | succ m ih =>
    intro n f h1 h2
    by_cases hx : ∃ i, i < n ∧ f i = m
    · obtain ⟨a, ha, hfa⟩ := hx
      have hg := ih (n - 1) (fun i => if i < a then f i else f (i + 1)) (by
        intro i hi
        by_cases q : i < a
        · simp only [if_pos q]
          have b1 := h1 i (by omega)
          have b2 := h2 i a q ha
          omega
        · simp only [if_neg q]
          have b1 := h1 (i + 1) (by omega)
          have b2 := h2 a (i + 1) (by omega) (by omega)
          omega) (by
        intro i j hij hj
        by_cases q : i < a
        · by_cases r : j < a
          · simp only [if_pos q, if_pos r]
            exact h2 i j hij (by omega)
          · simp only [if_pos q, if_neg r]
            exact h2 i (j + 1) (by omega) (by omega)
        · have r : ¬ j < a := by omega
          simp only [if_neg q, if_neg r]
          exact h2 (i + 1) (j + 1) (by omega) (by omega))
      omega
    · have hg := ih n f (fun i hi => by
        have b1 := h1 i hi
        have b2 : f i ≠ m := fun e => hx ⟨i, hi, e⟩
        omega) h2
      omega
theorem bp_twice {m n : Nat} {f : Nat → Nat} (h : ∀ i, i < n → f i < m) (hm : m < n) : ∃ i j, i < j ∧ j < n ∧ f i = f j := by
  refine Classical.byContradiction fun hx => ?_
  have := bp_holes m n f h (fun i j hij hj e => hx ⟨i, j, hij, hj, e⟩)
  omega
/-! rows of moves: by their length; in six rooms five are enough -/
def bp {α : Type} (R : α → α → Prop) : Nat → α → α → Prop
  | 0, x, y => x = y
  | n + 1, x, y => ∃ z, bp R n x z ∧ R z y
theorem bp_app {α : Type} {R : α → α → Prop} {x y : α} : ∀ {m n : Nat} {z : α}, bp R n x y → bp R m y z → bp R (n + m) x z
  | 0, n, z, h1, h2 => by
    have h2 : y = z := h2
    subst h2
    exact h1
  | m + 1, n, z, h1, ⟨u, h2, h3⟩ => ⟨u, bp_app h1 h2, h3⟩
theorem bp_one {α : Type} {R : α → α → Prop} {x y : α} (h : R x y) : bp R 1 x y := ⟨x, rfl, h⟩
theorem bp_map {α β : Type} {R : α → α → Prop} {R' : β → β → Prop} (f : α → β) (hR : ∀ x y, R x y → R' (f x) (f y)) : ∀ {n : Nat} {x y : α}, bp R n x y → bp R' n (f x) (f y)
  | 0, _, _, h => congrArg f h
  | _ + 1, _, _, ⟨z, h1, h2⟩ => ⟨f z, bp_map f hR h1, hR _ _ h2⟩
theorem bp_map2 {α β : Type} {R : α → α → Prop} {R' : β → β → Prop} (f : α → β) (hR : ∀ x y, R x y → bp R' 2 (f x) (f y)) : ∀ {n : Nat} {x y : α}, bp R n x y → bp R' (2 * n) (f x) (f y)
  | 0, _, _, h => congrArg f h
  | n + 1, x, y, ⟨z, h1, h2⟩ => by
    have h3 := bp_app (bp_map2 f hR h1) (hR _ _ h2)
    rw [show 2 * (n + 1) = 2 * n + 2 by omega]
    exact h3
theorem bp_fun {α : Type} {R : α → α → Prop} : ∀ {n : Nat} {x y : α}, bp R n x y → ∃ v : Nat → α, v 0 = x ∧ v n = y ∧ ∀ i, i < n → R (v i) (v (i + 1))
  | 0, x, y, h => ⟨fun _ => x, rfl, h, fun i hi => absurd hi (Nat.not_lt_zero i)⟩
  | n + 1, x, y, ⟨z, h1, h2⟩ => by
    obtain ⟨v, e1, e2, e3⟩ := bp_fun h1
    refine ⟨fun i => if i ≤ n then v i else y, by simp [e1], if_neg (by omega), fun i hi => ?_⟩
    by_cases hin : i < n
    · simp only [if_pos (Nat.le_of_lt hin), if_pos (show i + 1 ≤ n from hin)]
      exact e3 i hin
    · have e : i = n := by omega
      subst e
      simp only [Nat.le_refl, if_true, show ¬ i + 1 ≤ i by omega, if_false]
      rw [e2]
      exact h2
theorem bp_of_fun {α : Type} {R : α → α → Prop} (v : Nat → α) : ∀ n : Nat, (∀ i, i < n → R (v i) (v (i + 1))) → bp R n (v 0) (v n)
  | 0, _ => rfl
  | n + 1, h => ⟨v n, bp_of_fun v n (fun i hi => h i (by omega)), h n (by omega)⟩
theorem bp_five {R : Int → Int → Prop} (hR : ∀ x y, R x y → (0 ≤ x ∧ x ≤ 5) ∧ (0 ≤ y ∧ y ≤ 5)) : ∀ (n : Nat) {x y : Int}, bp R n x y → ∃ m, m ≤ 5 ∧ bp R m x y := by
  intro n
  induction n using Nat.strongRecOn with
  | _ n ih =>
    intro x y h
    by_cases hn : n ≤ 5
    · exact ⟨n, hn, h⟩
    · obtain ⟨v, e1, e2, e3⟩ := bp_fun h
      have hv : ∀ i, i ≤ n → 0 ≤ v i ∧ v i ≤ 5 := fun i hi => by
        by_cases hin : i < n
        · exact (hR _ _ (e3 i hin)).1
        · have h8 := (hR _ _ (e3 (i - 1) (by omega))).2
          rw [show i - 1 + 1 = i by omega] at h8
          exact h8
      obtain ⟨i, j, hij, hj, hvv⟩ := bp_twice (m := 6) (n := 7) (f := fun i => (v i).toNat) (fun i hi => by
        have := hv i (by omega)
        show (v i).toNat < 6
        omega) (by omega)
      have q1 := hv i (by omega)
      have q2 := hv j (by omega)
      have hvv : v i = v j := by
        have : (v i).toNat = (v j).toNat := hvv
        omega
      let u : Nat → Int := fun k => if k ≤ i then v k else v (k + (j - i))
      have hu : ∀ k, k < n - (j - i) → R (u k) (u (k + 1)) := fun k hk => by
        by_cases h1 : k < i
        · simp only [u, if_pos (Nat.le_of_lt h1), if_pos (show k + 1 ≤ i from h1)]
          exact e3 k (by omega)
        · by_cases h2 : k = i
          · subst h2
            simp only [u, Nat.le_refl, if_true, show ¬ k + 1 ≤ k by omega, if_false]
            rw [hvv, show k + 1 + (j - k) = j + 1 by omega]
            exact e3 j (by omega)
          · simp only [u, if_neg (show ¬ k ≤ i by omega), if_neg (show ¬ k + 1 ≤ i by omega)]
            rw [show k + 1 + (j - i) = k + (j - i) + 1 by omega]
            exact e3 (k + (j - i)) (by omega)
      have h9 := bp_of_fun u (n - (j - i)) hu
      have ea : u 0 = x := by simp only [u, Nat.zero_le, if_true]; exact e1
      have eb : u (n - (j - i)) = y := by
        by_cases hz : n - (j - i) ≤ i
        · simp only [u, if_pos hz]
          rw [show n - (j - i) = i by omega, hvv, show j = n by omega]
          exact e2
        · simp only [u, if_neg hz]
          rw [show n - (j - i) + (j - i) = n by omega]
          exact e2
      rw [ea, eb] at h9
      exact ih (n - (j - i)) (by omega) h9
section KEY
variable (S D : Int → Int → Prop) (m0 m1 : Prop)
/-- rooms of the guards, room of the key; S: doors for one, D: doors for both; m0, m1: who can take the key -/
def bk (s t : Int × (Int × Int)) : Prop :=
  (m0 ∧ s.2.2 = s.1 ∧ t.2.1 = s.2.1 ∧ t.2.2 = t.1 ∧ S s.1 t.1) ∨ (m1 ∧ s.2.2 = s.2.1 ∧ t.1 = s.1 ∧ t.2.2 = t.2.1 ∧ S s.2.1 t.2.1) ∨ ((m0 ∨ m1) ∧ s.2.2 = s.1 ∧ s.2.1 = s.1 ∧ t.2.1 = t.1 ∧ t.2.2 = t.1 ∧ D s.1 t.1)
variable {S D m0 m1}
theorem bk_solo0 (h0 : m0) {b : Int} {n : Nat} {x y : Int} (h : bp S n x y) : bp (bk S D m0 m1) n (x, b, x) (y, b, y) := bp_map (fun z => (z, b, z)) (fun _ _ hr => Or.inl ⟨h0, rfl, rfl, rfl, hr⟩) h
theorem bk_solo1 (h1 : m1) {a : Int} {n : Nat} {x y : Int} (h : bp S n x y) : bp (bk S D m0 m1) n (a, x, x) (a, y, y) := bp_map (fun z => (a, z, z)) (fun _ _ hr => Or.inr (Or.inl ⟨h1, rfl, rfl, rfl, hr⟩)) h
theorem bk_both (h01 : m0 ∨ m1) {n : Nat} {x y : Int} (h : bp D n x y) : bp (bk S D m0 m1) n (x, x, x) (y, y, y) := bp_map (fun z => (z, z, z)) (fun _ _ hr => Or.inr (Or.inr ⟨h01, rfl, rfl, rfl, rfl, hr⟩)) h
/-- how they come to be together in r -/
def bk_meet (S D : Int → Int → Prop) (m0 m1 : Prop) (s : Int × (Int × Int)) (r : Int) : Prop :=
  s = (r, r, r) ∨ (m0 ∧ s.2.2 = s.1 ∧ s.2.1 = r ∧ ∃ n, bp S n s.1 r) ∨ (m1 ∧ s.2.2 = s.2.1 ∧ s.1 = r ∧ ∃ n, bp S n s.2.1 r)
/-- what can be reached: nothing moved; one alone; or together, then both, then one alone -/
def bk_set (S D : Int → Int → Prop) (m0 m1 : Prop) (s t : Int × (Int × Int)) : Prop :=
  t = s ∨ (m0 ∧ s.2.2 = s.1 ∧ ∃ n y, bp S n s.1 y ∧ t = (y, s.2.1, y)) ∨ (m1 ∧ s.2.2 = s.2.1 ∧ ∃ n y, bp S n s.2.1 y ∧ t = (s.1, y, y)) ∨
  ∃ r c, bk_meet S D m0 m1 s r ∧ (∃ n, bp D n r c) ∧ (t = (c, c, c) ∨ (m0 ∧ ∃ n y, bp S n c y ∧ t = (y, c, y)) ∨ (m1 ∧ ∃ n y, bp S n c y ∧ t = (c, y, y)))
theorem bk_step {s t u : Int × (Int × Int)} (h : bk_set S D m0 m1 s t) (hs : bk S D m0 m1 t u) : bk_set S D m0 m1 s u := by
  obtain ⟨u1, u2, u3⟩ := u
  rcases h with rfl | ⟨h0, hk, n, y, hp, rfl⟩ | ⟨h1, hk, n, y, hp, rfl⟩ | ⟨r, c, hm, ⟨n, hd⟩, ht⟩
  · obtain ⟨t1, t2, t3⟩ := t
    rcases hs with ⟨g0, g1, g2, g3, g4⟩ | ⟨g0, g1, g2, g3, g4⟩ | ⟨g0, g1, g2, g3, g4, g5⟩
    · dsimp only at g1 g2 g3 g4
      subst g1 g2 g3
      exact Or.inr (Or.inl ⟨g0, rfl, 1, u3, bp_one g4, rfl⟩)
    · dsimp only at g1 g2 g3 g4
      subst g1 g2 g3
      exact Or.inr (Or.inr (Or.inl ⟨g0, rfl, 1, u3, bp_one g4, rfl⟩))
    · dsimp only at g1 g2 g3 g4 g5
      subst g1 g2 g3 g4
      exact Or.inr (Or.inr (Or.inr ⟨_, _, Or.inl rfl, ⟨1, bp_one g5⟩, Or.inl rfl⟩))
  · obtain ⟨s1, s2, s3⟩ := s
    dsimp only at hk
    subst hk
    rcases hs with ⟨g0, g1, g2, g3, g4⟩ | ⟨g0, g1, g2, g3, g4⟩ | ⟨g0, g1, g2, g3, g4, g5⟩
    · dsimp only at g1 g2 g3 g4 hp
      subst g2 g3
      exact Or.inr (Or.inl ⟨h0, rfl, n + 1, u3, ⟨y, hp, g4⟩, rfl⟩)
    · dsimp only at g1 g2 g3 g4 hp
      subst g1 g2 g3
      exact Or.inr (Or.inr (Or.inr ⟨_, _, Or.inr (Or.inl ⟨h0, rfl, rfl, n, hp⟩), ⟨0, rfl⟩, Or.inr (Or.inr ⟨g0, 1, u3, bp_one g4, rfl⟩)⟩))
    · dsimp only at g1 g2 g3 g4 g5 hp
      subst g2 g3 g4
      exact Or.inr (Or.inr (Or.inr ⟨_, _, Or.inr (Or.inl ⟨h0, rfl, rfl, n, hp⟩), ⟨1, bp_one g5⟩, Or.inl rfl⟩))
  · obtain ⟨s1, s2, s3⟩ := s
    dsimp only at hk
    subst hk
    rcases hs with ⟨g0, g1, g2, g3, g4⟩ | ⟨g0, g1, g2, g3, g4⟩ | ⟨g0, g1, g2, g3, g4, g5⟩
    · dsimp only at g1 g2 g3 g4 hp
      subst g1 g2 g3
      exact Or.inr (Or.inr (Or.inr ⟨_, _, Or.inr (Or.inr ⟨h1, rfl, rfl, n, hp⟩), ⟨0, rfl⟩, Or.inr (Or.inl ⟨g0, 1, u3, bp_one g4, rfl⟩)⟩))
    · dsimp only at g1 g2 g3 g4 hp
      subst g2 g3
      exact Or.inr (Or.inr (Or.inl ⟨h1, rfl, n + 1, u3, ⟨y, hp, g4⟩, rfl⟩))
    · dsimp only at g1 g2 g3 g4 g5 hp
      subst g2 g3 g4
      exact Or.inr (Or.inr (Or.inr ⟨_, _, Or.inr (Or.inr ⟨h1, rfl, rfl, n, hp⟩), ⟨1, bp_one g5⟩, Or.inl rfl⟩))
  · rcases ht with rfl | ⟨h0, k, y, hp, rfl⟩ | ⟨h1, k, y, hp, rfl⟩
    · rcases hs with ⟨g0, g1, g2, g3, g4⟩ | ⟨g0, g1, g2, g3, g4⟩ | ⟨g0, g1, g2, g3, g4, g5⟩
      · dsimp only at g1 g2 g3 g4
        subst g2 g3
        exact Or.inr (Or.inr (Or.inr ⟨r, _, hm, ⟨n, hd⟩, Or.inr (Or.inl ⟨g0, 1, u3, bp_one g4, rfl⟩)⟩))
      · dsimp only at g1 g2 g3 g4
        subst g2 g3
        exact Or.inr (Or.inr (Or.inr ⟨r, _, hm, ⟨n, hd⟩, Or.inr (Or.inr ⟨g0, 1, u3, bp_one g4, rfl⟩)⟩))
      · dsimp only at g1 g2 g3 g4 g5
        subst g3 g4
        exact Or.inr (Or.inr (Or.inr ⟨r, _, hm, ⟨n + 1, c, hd, g5⟩, Or.inl rfl⟩))
    · rcases hs with ⟨g0, g1, g2, g3, g4⟩ | ⟨g0, g1, g2, g3, g4⟩ | ⟨g0, g1, g2, g3, g4, g5⟩
      · dsimp only at g1 g2 g3 g4
        subst g2 g3
        exact Or.inr (Or.inr (Or.inr ⟨r, _, hm, ⟨n, hd⟩, Or.inr (Or.inl ⟨h0, k + 1, u3, ⟨y, hp, g4⟩, rfl⟩)⟩))
      · dsimp only at g1 g2 g3 g4
        subst g1 g2 g3
        exact Or.inr (Or.inr (Or.inr ⟨r, _, hm, ⟨n, hd⟩, Or.inr (Or.inr ⟨g0, 1, u3, bp_one g4, rfl⟩)⟩))
      · dsimp only at g1 g2 g3 g4 g5
        subst g2 g3 g4
        exact Or.inr (Or.inr (Or.inr ⟨r, _, hm, ⟨n + 1, _, hd, g5⟩, Or.inl rfl⟩))
    · rcases hs with ⟨g0, g1, g2, g3, g4⟩ | ⟨g0, g1, g2, g3, g4⟩ | ⟨g0, g1, g2, g3, g4, g5⟩
      · dsimp only at g1 g2 g3 g4
        subst g1 g2 g3
        exact Or.inr (Or.inr (Or.inr ⟨r, _, hm, ⟨n, hd⟩, Or.inr (Or.inl ⟨g0, 1, u3, bp_one g4, rfl⟩)⟩))
      · dsimp only at g1 g2 g3 g4
        subst g2 g3
        exact Or.inr (Or.inr (Or.inr ⟨r, _, hm, ⟨n, hd⟩, Or.inr (Or.inr ⟨h1, k + 1, u3, ⟨y, hp, g4⟩, rfl⟩)⟩))
      · dsimp only at g1 g2 g3 g4 g5
        subst g2 g3 g4
        exact Or.inr (Or.inr (Or.inr ⟨r, _, hm, ⟨n + 1, _, hd, g5⟩, Or.inl rfl⟩))
theorem bk_all {s : Int × (Int × Int)} : ∀ {n : Nat} {t : Int × (Int × Int)}, bp (bk S D m0 m1) n s t → bk_set S D m0 m1 s t
  | 0, _, h => Or.inl h.symm
  | _ + 1, _, ⟨_, h1, h2⟩ => bk_step (bk_all h1) h2
theorem bk_fifteen (h01 : m0 ∨ m1) (hS : ∀ x y, S x y → (0 ≤ x ∧ x ≤ 5) ∧ (0 ≤ y ∧ y ≤ 5)) (hD : ∀ x y, D x y → (0 ≤ x ∧ x ≤ 5) ∧ (0 ≤ y ∧ y ≤ 5)) {s t : Int × (Int × Int)} {n : Nat} (h : bp (bk S D m0 m1) n s t) : ∃ m, m ≤ 15 ∧ bp (bk S D m0 m1) m s t := by
  obtain ⟨s1, s2, s3⟩ := s
  rcases bk_all h with rfl | ⟨h0, hk, k, y, hp, rfl⟩ | ⟨h1, hk, k, y, hp, rfl⟩ | ⟨r, c, hm, ⟨k, hd⟩, ht⟩
  · exact ⟨0, by omega, rfl⟩
  · dsimp only at hk hp
    subst hk
    obtain ⟨m, hm, hp⟩ := bp_five hS k hp
    exact ⟨m, by omega, bk_solo0 h0 hp⟩
  · dsimp only at hk hp
    subst hk
    obtain ⟨m, hm, hp⟩ := bp_five hS k hp
    exact ⟨m, by omega, bk_solo1 h1 hp⟩
  · obtain ⟨j1, hj1, p1⟩ : ∃ j1, j1 ≤ 5 ∧ bp (bk S D m0 m1) j1 (s1, s2, s3) (r, r, r) := by
      rcases hm with hm | ⟨h0, hk, hb, i, hp⟩ | ⟨h1, hk, hb, i, hp⟩
      · exact ⟨0, by omega, hm⟩
      · dsimp only at hk hb hp
        subst hk hb
        obtain ⟨m, hm, hp⟩ := bp_five hS i hp
        exact ⟨m, hm, bk_solo0 h0 hp⟩
      · dsimp only at hk hb hp
        subst hk hb
        obtain ⟨m, hm, hp⟩ := bp_five hS i hp
        exact ⟨m, hm, bk_solo1 h1 hp⟩
    obtain ⟨j2, hj2, p2⟩ := bp_five hD k hd
    have p3 : bp (bk S D m0 m1) j2 (r, r, r) (c, c, c) := bk_both h01 p2
    obtain ⟨j4, hj4, p4⟩ : ∃ j4, j4 ≤ 5 ∧ bp (bk S D m0 m1) j4 (c, c, c) t := by
      rcases ht with rfl | ⟨h0, i, y, hp, rfl⟩ | ⟨h1, i, y, hp, rfl⟩
      · exact ⟨0, by omega, rfl⟩
      · obtain ⟨m, hm, hp⟩ := bp_five hS i hp
        exact ⟨m, hm, bk_solo0 h0 hp⟩
      · obtain ⟨m, hm, hp⟩ := bp_five hS i hp
        exact ⟨m, hm, bk_solo1 h1 hp⟩
    exact ⟨j1 + j2 + j4, by omega, bp_app (bp_app p1 p3) p4⟩
end KEY
/-! ===== steps with the key hung up between them ===== -/
section BD
variable (D : Int → Int) (n kit : Int)
def bW (a r : Int) : Prop := ∃ e : Int, 0 ≤ e ∧ e < n ∧ beh D e a = r ∧ r ≠ -1 ∧ D (4 * e + 3) ≠ 0
def bS (a r : Int) : Prop := ∃ e : Int, 0 ≤ e ∧ e < n ∧ beh D e a = r ∧ r ≠ -1 ∧ opn D e a 14 0 ≠ 0
def bO (w a r : Int) : Prop := ∃ e : Int, 0 ≤ e ∧ e < n ∧ beh D e a = r ∧ r ≠ -1 ∧ opn D e a 24 w ≠ 0
def bX (a r : Int) : Prop := ∃ e : Int, 0 ≤ e ∧ e < n ∧ beh D e a = r ∧ r ≠ -1 ∧ opn D e a 34 0 ≠ 0
abbrev sw (x : kS) : kS := (x.2.1, x.1, x.2.2.2.1, x.2.2.1, x.2.2.2.2.1, x.2.2.2.2.2.1, x.2.2.2.2.2.2)
def bQ0 (x y : kS) : Prop :=
  (∃ r, x.2.2.1 = 0 ∧ x.2.2.2.2.1 = x.1 ∧ bS D n x.1 r ∧ y = (r, x.2.1, 0, x.2.2.2.1, r, x.2.2.2.2.2.1, x.2.2.2.2.2.2)) ∨
  (∃ r, x.2.2.1 = 0 ∧ x.2.2.2.2.1 = x.1 ∧ x.2.1 = x.1 ∧ bO D n x.2.2.2.1 x.1 r ∧ y = (r, r, 0, x.2.2.2.1, r, x.2.2.2.2.2.1, x.2.2.2.2.2.2)) ∨
  (x.2.2.1 = 1 ∧ x.2.2.2.1 = 0 ∧ bW D n x.1 x.2.1 ∧ hb x.2.2.2.2.2.1 x.2.1 ≠ 1 ∧ y = (x.1, x.2.1, 0, 1, x.2.2.2.2.1, x.2.2.2.2.2.1, x.2.2.2.2.2.2))
def bL0 (nb : Prop) (x y : kS) : Prop :=
  (¬ nb ∧ x.2.2.1 = 0 ∧ kit = x.1 ∧ y = (x.1, x.2.1, 1, x.2.2.2.1, x.2.2.2.2.1, x.2.2.2.2.2.1, x.2.2.2.2.2.2)) ∨
  (∃ r, x.2.2.1 = 1 ∧ (r = x.1 ∨ bW D n x.1 r) ∧ (0 ≤ r ∧ r ≤ 5) ∧ (0 ≤ x.2.2.2.2.2.1 ∧ x.2.2.2.2.2.1 ≤ 63) ∧ hb x.2.2.2.2.2.1 r = 1 ∧ y = (x.1, x.2.1, 0, x.2.2.2.1, x.2.2.2.2.1, clr x.2.2.2.2.2.1 r, x.2.2.2.2.2.2)) ∨
  (∃ r, x.2.2.1 = 0 ∧ bX D n x.1 r ∧ 0 < x.2.2.2.2.2.2 ∧ y = (r, x.2.1, 0, x.2.2.2.1, x.2.2.2.2.1, x.2.2.2.2.2.1, x.2.2.2.2.2.2 - 1))
def bQ (x y : kS) : Prop := bQ0 D n x y ∨ bQ0 D n (sw x) (sw y)
def bL (nb : Prop) (x y : kS) : Prop := bL0 D n kit nb x y ∨ bL0 D n kit nb (sw x) (sw y)
def bT (x y : kS) : Prop := ∃ c : Int, 0 ≤ c ∧ c ≤ 99 ∧ stp D n kit x c = some y
variable {D n kit}
theorem bQ_sw {x y : kS} (h : bQ D n x y) : bQ D n (sw x) (sw y) := Or.symm h
theorem bL_sw {nb : Prop} {x y : kS} (h : bL D n kit nb x y) : bL D n kit nb (sw x) (sw y) := Or.symm h
theorem beh_sp {e a r : Int} (hD : ∀ j : Int, 0 ≤ j → j < 40 → 0 ≤ D j ∧ D j ≤ 5) (hn : n ≤ 10) (hd : ∀ e : Int, 0 ≤ e → e < n → D (4 * e) ≠ D (4 * e + 1)) (h0 : 0 ≤ e) (h1 : e < n) (h : beh D e a = r) (hr : r ≠ -1) : (0 ≤ a ∧ a ≤ 5) ∧ (0 ≤ r ∧ r ≤ 5) ∧ r ≠ a := by
  have a1 := hD (4 * e) (by omega) (by omega)
  have a2 := hD (4 * e + 1) (by omega) (by omega)
  have a3 := hd e h0 h1
  unfold beh at h
  split at h
  · omega
  · split at h
    · omega
    · omega
/-! the second guard does what the first does, with the guards changed -/
theorem stp_sw (x : kS) (c : Int) : stp_1 D n kit x c = (stp_0 D n kit (sw x) c).map sw := by
  unfold stp_1 stp_0
  split
  · unfold stay_1 stay_0
    (repeat' split) <;> rfl
  · split
    · rfl
    · split
      · unfold hand_1 hand_0
        (repeat' split) <;> rfl
      · split
        · unfold goS_1 goS_0
          (repeat' split) <;> rfl
        · split
          · unfold goB_1 goB_0
            (repeat' split) <;> rfl
          · unfold goX_1 goX_0
            (repeat' split) <;> rfl
theorem bT_sw {x y : kS} (h : bT D n kit x y) : bT D n kit (sw x) (sw y) := by
  obtain ⟨c, h0, h1, h⟩ := h
  unfold stp at h
  split at h
  · refine ⟨c + 50, by omega, by omega, ?_⟩
    unfold stp
    rw [if_neg (by omega), show c + 50 - 50 = c by omega, stp_sw]
    show (stp_0 D n kit x c).map sw = _
    rw [h]
    rfl
  · refine ⟨c - 50, by omega, by omega, ?_⟩
    unfold stp
    rw [if_pos (by omega)]
    rw [stp_sw] at h
    cases hq : stp_0 D n kit (sw x) (c - 50) with
    | none => rw [hq] at h; cases h
    | some z =>
      rw [hq] at h
      have h : some (sw z) = some y := h
      rw [← Option.some.inj h]
theorem bT0 {x y : kS} {c : Int} (h0 : 0 ≤ c) (h1 : c < 50) (h : stp_0 D n kit x c = some y) : bT D n kit x y := ⟨c, h0, by omega, by unfold stp; rw [if_pos h1]; exact h⟩
theorem bT_take {a b v H s : Int} : bT D n kit (a, b, 0, v, a, H, s) (a, b, 2, v, -1, H, s) := bT0 (c := 0) (by omega) (by omega) (by unfold stp_0; rw [if_pos (by omega)]; unfold stay_0; rw [if_pos rfl, if_pos ⟨rfl, rfl⟩])
theorem bT_hang {a b v K H s : Int} : bT D n kit (a, b, 2, v, K, H, s) (a, b, 0, v, a, H, s) := bT0 (c := 1) (by omega) (by omega) (by unfold stp_0; rw [if_pos (by omega)]; unfold stay_0; rw [if_neg (by omega), if_pos rfl, if_pos rfl])
theorem bT_bread {a b v K H s : Int} (h : kit = a) : bT D n kit (a, b, 0, v, K, H, s) (a, b, 1, v, K, H, s) := bT0 (c := 2) (by omega) (by omega) (by unfold stp_0; rw [if_pos (by omega)]; unfold stay_0; rw [if_neg (by omega), if_neg (by omega), if_pos rfl, if_pos ⟨rfl, h⟩])
theorem bT_feed {a b v K H s : Int} (h : hb H a = 1) : bT D n kit (a, b, 1, v, K, H, s) (a, b, 0, v, K, clr H a, s) := bT0 (c := 3) (by omega) (by omega) (by unfold stp_0; rw [if_pos (by omega)]; unfold stay_0; rw [if_neg (by omega), if_neg (by omega), if_neg (by omega), if_pos ⟨rfl, h⟩, if_pos rfl])
theorem bT_hfeed {a b v K H s r : Int} (hn : n ≤ 10) (hw : bW D n a r) (h : hb H r = 1) : bT D n kit (a, b, 1, v, K, H, s) (a, b, 0, v, K, clr H r, s) := by
  obtain ⟨e, h0, h1, h2, h3, h4⟩ := hw
  refine bT0 (c := 4 + e) (by omega) (by omega) ?_
  unfold stp_0
  rw [if_neg (by omega), if_neg (by omega), if_pos (by omega), show (4 + e - 4) % 10 = e by omega]
  unfold hand_0
  dsimp only
  rw [h2, if_neg (by omega), if_pos h]
theorem bT_pass {a b K H s : Int} (hn : n ≤ 10) (hw : bW D n a b) (h : hb H b ≠ 1) : bT D n kit (a, b, 1, 0, K, H, s) (a, b, 0, 1, K, H, s) := by
  obtain ⟨e, h0, h1, h2, h3, h4⟩ := hw
  refine bT0 (c := 4 + e) (by omega) (by omega) ?_
  unfold stp_0
  rw [if_neg (by omega), if_neg (by omega), if_pos (by omega), show (4 + e - 4) % 10 = e by omega]
  unfold hand_0
  dsimp only
  rw [h2, if_neg (by omega), if_neg h, if_neg (by omega)]
theorem bT_go {a b v K H s r : Int} (hn : n ≤ 10) (hw : bS D n a r) : bT D n kit (a, b, 2, v, K, H, s) (r, b, 0, v, r, H, s) := by
  obtain ⟨e, h0, h1, h2, h3, h4⟩ := hw
  refine bT0 (c := 14 + e) (by omega) (by omega) ?_
  unfold stp_0
  rw [if_neg (by omega), if_neg (by omega), if_neg (by omega), if_pos (by omega), show (14 + e - 4) % 10 = e by omega]
  unfold goS_0
  dsimp only
  rw [h2, if_neg (by omega)]
theorem bT_both {a v K H s r : Int} (hn : n ≤ 10) (hv : v = 0 ∨ v = 1) (hw : bO D n v a r) : bT D n kit (a, a, 2, v, K, H, s) (r, r, 0, v, r, H, s) := by
  obtain ⟨e, h0, h1, h2, h3, h4⟩ := hw
  refine bT0 (c := 24 + e) (by omega) (by omega) ?_
  unfold stp_0
  rw [if_neg (by omega), if_neg (by omega), if_neg (by omega), if_neg (by omega), if_pos (by omega), show (24 + e - 4) % 10 = e by omega]
  unfold goB_0
  dsimp only
  rw [h2]
  rcases hv with rfl | rfl
  · rw [if_neg (by omega)]
  · rw [if_neg (by omega)]
theorem bT_soap {a b v K H s r : Int} (hn : n ≤ 10) (hs : 0 < s) (hw : bX D n a r) : bT D n kit (a, b, 0, v, K, H, s) (r, b, 0, v, K, H, s - 1) := by
  obtain ⟨e, h0, h1, h2, h3, h4⟩ := hw
  refine bT0 (c := 34 + e) (by omega) (by omega) ?_
  unfold stp_0
  rw [if_neg (by omega), if_neg (by omega), if_neg (by omega), if_neg (by omega), if_neg (by omega), show (34 + e - 4) % 10 = e by omega]
  unfold goX_0
  dsimp only
  rw [h2, if_neg (by omega)]
/-! hung standings with loaves 0 or 1 each -/
def bv (x : kS) : Prop := (x.2.2.1 = 0 ∨ x.2.2.1 = 1) ∧ (x.2.2.2.1 = 0 ∨ x.2.2.2.1 = 1)
theorem bL_T {nb : Prop} (hn : n ≤ 10) {x y : kS} (h : bL D n kit nb x y) : bT D n kit x y := by
  have key : ∀ {x y : kS}, bL0 D n kit nb x y → bT D n kit x y := by
    intro x y h
    obtain ⟨a, b, u, v, K, H, s⟩ := x
    rcases h with ⟨_, h1, h2, rfl⟩ | ⟨r, h1, h2, _, _, h5, rfl⟩ | ⟨r, h1, h2, h3, rfl⟩
    · dsimp only at h1 h2 ⊢
      subst h1
      exact bT_bread h2
    · dsimp only at h1 h2 h5 ⊢
      subst h1
      rcases h2 with rfl | h2
      · exact bT_feed h5
      · exact bT_hfeed hn h2 h5
    · dsimp only at h1 h2 h3 ⊢
      subst h1
      exact bT_soap hn h3 h2
  rcases h with h | h
  · exact key h
  · exact bT_sw (key h)
/-- what an act of the first guard is, between hung standings -/
def bj (x c : kS) : Prop := (bv x ∧ c = x) ∨ (∃ a b v H s : Int, (v = 0 ∨ v = 1) ∧ x = (a, b, 2, v, -1, H, s) ∧ c = (a, b, 0, v, a, H, s)) ∨ (∃ a b u H s : Int, (u = 0 ∨ u = 1) ∧ x = (a, b, u, 2, -1, H, s) ∧ c = (a, b, u, 0, b, H, s))
theorem bj_hg {x : kS} (h : bv x) : bj x x := Or.inl ⟨h, rfl⟩
theorem bj_h0 {a b v H s : Int} (h : v = 0 ∨ v = 1) : bj (a, b, 2, v, -1, H, s) (a, b, 0, v, a, H, s) := Or.inr (Or.inl ⟨a, b, v, H, s, h, rfl, rfl⟩)
theorem bj_h1 {a b u H s : Int} (h : u = 0 ∨ u = 1) : bj (a, b, u, 2, -1, H, s) (a, b, u, 0, b, H, s) := Or.inr (Or.inr ⟨a, b, u, H, s, h, rfl, rfl⟩)
theorem bj_sw {x c : kS} (h : bj x c) : bj (sw x) (sw c) := by
  rcases h with ⟨h, rfl⟩ | ⟨a, b, v, H, s, h, rfl, rfl⟩ | ⟨a, b, v, H, s, h, rfl, rfl⟩
  · exact bj_hg ⟨h.2, h.1⟩
  · exact bj_h1 h
  · exact bj_h0 h
theorem bj_v {x c : kS} (h : bj x c) : bv c := by
  rcases h with ⟨h, rfl⟩ | ⟨a, b, v, H, s, h, rfl, rfl⟩ | ⟨a, b, v, H, s, h, rfl, rfl⟩
  · exact h
  · exact ⟨Or.inl rfl, h⟩
  · exact ⟨h, Or.inl rfl⟩
theorem bj_T {x c : kS} (h : bj x c) : ∃ m, m ≤ 1 ∧ bp (bT D n kit) m x c := by
  rcases h with ⟨h, rfl⟩ | ⟨a, b, v, H, s, h, rfl, rfl⟩ | ⟨a, b, v, H, s, h, rfl, rfl⟩
  · exact ⟨0, by omega, rfl⟩
  · exact ⟨1, by omega, bp_one bT_hang⟩
  · exact ⟨1, by omega, bp_one (bT_sw (x := (_, _, 2, _, -1, _, _)) bT_hang)⟩
end BD
section BE
variable {D : Int → Int} {n kit : Int}
theorem stp_iv {x y : kS} {c : Int} (h0 : 0 ≤ c) (h : stp_0 D n kit x c = some y) :
    (x.2.2.1 = 0 ∧ x.2.2.2.2.1 = x.1 ∧ y = (x.1, x.2.1, 2, x.2.2.2.1, -1, x.2.2.2.2.2.1, x.2.2.2.2.2.2)) ∨
    (x.2.2.1 = 2 ∧ y = (x.1, x.2.1, 0, x.2.2.2.1, x.1, x.2.2.2.2.2.1, x.2.2.2.2.2.2)) ∨
    (x.2.2.1 = 0 ∧ kit = x.1 ∧ y = (x.1, x.2.1, 1, x.2.2.2.1, x.2.2.2.2.1, x.2.2.2.2.2.1, x.2.2.2.2.2.2)) ∨
    (∃ r, x.2.2.1 = 1 ∧ (r = x.1 ∨ bW D n x.1 r) ∧ hb x.2.2.2.2.2.1 r = 1 ∧ y = (x.1, x.2.1, 0, x.2.2.2.1, x.2.2.2.2.1, clr x.2.2.2.2.2.1 r, x.2.2.2.2.2.2)) ∨
    (x.2.2.1 = 1 ∧ x.2.2.2.1 = 0 ∧ bW D n x.1 x.2.1 ∧ hb x.2.2.2.2.2.1 x.2.1 ≠ 1 ∧ y = (x.1, x.2.1, 0, 1, x.2.2.2.2.1, x.2.2.2.2.2.1, x.2.2.2.2.2.2)) ∨
    (∃ r, x.2.2.1 = 2 ∧ bS D n x.1 r ∧ y = (r, x.2.1, 0, x.2.2.2.1, r, x.2.2.2.2.2.1, x.2.2.2.2.2.2)) ∨
    (∃ r, x.2.2.1 = 2 ∧ x.2.1 = x.1 ∧ bO D n (if x.2.2.2.1 = 1 then 1 else 0) x.1 r ∧ y = (r, r, 0, x.2.2.2.1, r, x.2.2.2.2.2.1, x.2.2.2.2.2.2)) ∨
    (∃ r, x.2.2.1 = 0 ∧ bX D n x.1 r ∧ 0 < x.2.2.2.2.2.2 ∧ y = (r, x.2.1, 0, x.2.2.2.1, x.2.2.2.2.1, x.2.2.2.2.2.1, x.2.2.2.2.2.2 - 1)) := by
  unfold stp_0 at h
  split at h
  · unfold stay_0 at h
    split at h
    · split at h
      · rename_i q
        exact Or.inl ⟨q.1, q.2, (Option.some.inj h).symm⟩
      · cases h
    · split at h
      · split at h
        · rename_i q
          exact Or.inr (Or.inl ⟨q, (Option.some.inj h).symm⟩)
        · cases h
      · split at h
        · split at h
          · rename_i q
            exact Or.inr (Or.inr (Or.inl ⟨q.1, q.2, (Option.some.inj h).symm⟩))
          · cases h
        · split at h
          · rename_i q
            rw [if_pos (by omega)] at h
            exact Or.inr (Or.inr (Or.inr (Or.inl ⟨_, q.1, Or.inl rfl, q.2, (Option.some.inj h).symm⟩)))
          · cases h
  · split at h
    · cases h
    · have e0 : 0 ≤ (c - 4) % 10 := by omega
      have e1 : (c - 4) % 10 < n := by omega
      generalize (c - 4) % 10 = e at h e0 e1
      split at h
      · unfold hand_0 at h
        split at h
        · cases h
        · rename_i q
          have w : bW D n x.1 (beh D e x.1) := ⟨e, e0, e1, rfl, by omega, by omega⟩
          split at h
          · rename_i q2
            exact Or.inr (Or.inr (Or.inr (Or.inl ⟨_, by omega, Or.inr w, q2, (Option.some.inj h).symm⟩)))
          · rename_i q2
            split at h
            · cases h
            · rename_i q3
              have e9 : x.2.1 = beh D e x.1 := by omega
              rw [← e9] at w q2
              exact Or.inr (Or.inr (Or.inr (Or.inr (Or.inl ⟨by omega, by omega, w, q2, (Option.some.inj h).symm⟩))))
      · split at h
        · unfold goS_0 at h
          split at h
          · cases h
          · rename_i q
            exact Or.inr (Or.inr (Or.inr (Or.inr (Or.inr (Or.inl ⟨_, by omega, ⟨e, e0, e1, rfl, by omega, by omega⟩, (Option.some.inj h).symm⟩)))))
        · split at h
          · unfold goB_0 at h
            split at h
            · cases h
            · rename_i q
              refine Or.inr (Or.inr (Or.inr (Or.inr (Or.inr (Or.inr (Or.inl ⟨_, by omega, by omega, ⟨e, e0, e1, rfl, by omega, ?_⟩, (Option.some.inj h).symm⟩))))))
              by_cases q9 : x.2.2.2.1 = 1
              · rw [if_pos q9]
                omega
              · rw [if_neg q9]
                omega
          · unfold goX_0 at h
            split at h
            · cases h
            · rename_i q
              exact Or.inr (Or.inr (Or.inr (Or.inr (Or.inr (Or.inr (Or.inr ⟨_, by omega, ⟨e, e0, e1, rfl, by omega, by omega⟩, by omega, (Option.some.inj h).symm⟩))))))
theorem bW_r (hD : ∀ j : Int, 0 ≤ j → j < 40 → 0 ≤ D j ∧ D j ≤ 5) (hn : n ≤ 10) (hd : ∀ e : Int, 0 ≤ e → e < n → D (4 * e) ≠ D (4 * e + 1)) {a r : Int} (h : bW D n a r) : (0 ≤ a ∧ a ≤ 5) ∧ (0 ≤ r ∧ r ≤ 5) ∧ r ≠ a := by
  obtain ⟨e, h0, h1, h2, h3, _⟩ := h
  exact beh_sp hD hn hd h0 h1 h2 h3
theorem bS_r (hD : ∀ j : Int, 0 ≤ j → j < 40 → 0 ≤ D j ∧ D j ≤ 5) (hn : n ≤ 10) (hd : ∀ e : Int, 0 ≤ e → e < n → D (4 * e) ≠ D (4 * e + 1)) {a r : Int} (h : bS D n a r) : (0 ≤ a ∧ a ≤ 5) ∧ (0 ≤ r ∧ r ≤ 5) := by
  obtain ⟨e, h0, h1, h2, h3, _⟩ := h
  have := beh_sp hD hn hd h0 h1 h2 h3
  exact ⟨this.1, this.2.1⟩
theorem bO_r (hD : ∀ j : Int, 0 ≤ j → j < 40 → 0 ≤ D j ∧ D j ≤ 5) (hn : n ≤ 10) (hd : ∀ e : Int, 0 ≤ e → e < n → D (4 * e) ≠ D (4 * e + 1)) {w a r : Int} (h : bO D n w a r) : (0 ≤ a ∧ a ≤ 5) ∧ (0 ≤ r ∧ r ≤ 5) := by
  obtain ⟨e, h0, h1, h2, h3, _⟩ := h
  have := beh_sp hD hn hd h0 h1 h2 h3
  exact ⟨this.1, this.2.1⟩
theorem bX_r (hD : ∀ j : Int, 0 ≤ j → j < 40 → 0 ≤ D j ∧ D j ≤ 5) (hn : n ≤ 10) (hd : ∀ e : Int, 0 ≤ e → e < n → D (4 * e) ≠ D (4 * e + 1)) {a r : Int} (h : bX D n a r) : (0 ≤ a ∧ a ≤ 5) ∧ (0 ≤ r ∧ r ≤ 5) := by
  obtain ⟨e, h0, h1, h2, h3, _⟩ := h
  have := beh_sp hD hn hd h0 h1 h2 h3
  exact ⟨this.1, this.2.1⟩
theorem stp0_kw (hD : ∀ j : Int, 0 ≤ j → j < 40 → 0 ≤ D j ∧ D j ≤ 5) (hn : n ≤ 10) (hd : ∀ e : Int, 0 ≤ e → e < n → D (4 * e) ≠ D (4 * e + 1)) {x y : kS} {c : Int} (h0 : 0 ≤ c) (h : stp_0 D n kit x c = some y) (hx : kw x) : kw y := by
  obtain ⟨a, b, u, v, K, H, s⟩ := x
  unfold kw at hx
  dsimp only at hx
  rcases stp_iv h0 h with ⟨h1, h2, rfl⟩ | ⟨h1, rfl⟩ | ⟨h1, h2, rfl⟩ | ⟨r, h1, h2, h3, rfl⟩ | ⟨h1, h2, h3, h4, rfl⟩ | ⟨r, h1, h2, rfl⟩ | ⟨r, h1, h2, h3, rfl⟩ | ⟨r, h1, h2, h3, rfl⟩
  · unfold kw; dsimp only at h1 h2 ⊢; omega
  · unfold kw; dsimp only at h1 ⊢; omega
  · unfold kw; dsimp only at h1 h2 ⊢; omega
  · dsimp only at h1 h2 h3
    have hr : 0 ≤ r ∧ r ≤ 5 := by
      rcases h2 with rfl | h2
      · omega
      · exact (bW_r hD hn hd h2).2.1
    have h9 := b_clr_rng (u := H) (r := r) (by omega) (by omega) (by omega) (by omega)
    unfold kw
    dsimp only
    omega
  · unfold kw; dsimp only at h1 h2 ⊢; omega
  · have h9 := bS_r hD hn hd h2
    unfold kw
    dsimp only at h1 h9 ⊢
    omega
  · have h9 := bO_r hD hn hd h3
    unfold kw
    dsimp only at h1 h9 ⊢
    omega
  · have h9 := bX_r hD hn hd h2
    unfold kw
    dsimp only at h1 h3 h9 ⊢
    omega
theorem kw_sw (hD : ∀ j : Int, 0 ≤ j → j < 40 → 0 ≤ D j ∧ D j ≤ 5) (hn : n ≤ 10) (hd : ∀ e : Int, 0 ≤ e → e < n → D (4 * e) ≠ D (4 * e + 1)) {x : kS} (h : kw x) : kw (sw x) := by
  unfold kw at h ⊢
  dsimp only at h ⊢
  omega
theorem bT_kw (hD : ∀ j : Int, 0 ≤ j → j < 40 → 0 ≤ D j ∧ D j ≤ 5) (hn : n ≤ 10) (hd : ∀ e : Int, 0 ≤ e → e < n → D (4 * e) ≠ D (4 * e + 1)) {x y : kS} (h : bT D n kit x y) (hx : kw x) : kw y := by
  obtain ⟨c, h0, h1, h⟩ := h
  unfold stp at h
  split at h
  · exact stp0_kw hD hn hd h0 h hx
  · rw [stp_sw] at h
    cases hq : stp_0 D n kit (sw x) (c - 50) with
    | none => rw [hq] at h; cases h
    | some z =>
      rw [hq] at h
      have h : some (sw z) = some y := h
      rw [← Option.some.inj h]
      exact kw_sw hD hn hd (stp0_kw hD hn hd (by omega) hq (kw_sw hD hn hd hx))
theorem bj0 (hD : ∀ j : Int, 0 ≤ j → j < 40 → 0 ≤ D j ∧ D j ≤ 5) (hn : n ≤ 10) (hd : ∀ e : Int, 0 ≤ e → e < n → D (4 * e) ≠ D (4 * e + 1)) {x y c : kS} {k : Int} (hk : 0 ≤ k) (h : stp_0 D n kit x k = some y) (hx : kw x) (hj : bj x c) : ∃ c', bj y c' ∧ (c' = c ∨ bQ0 D n c c' ∨ bL0 D n kit False c c') := by
  have iv := stp_iv hk h
  unfold kw at hx
  rcases hj with ⟨hv, hcx⟩ | ⟨a, b, v, H, s, hv, rfl, rfl⟩ | ⟨a, b, u, H, s, hv, rfl, rfl⟩
  · obtain ⟨a, b, u, v, K, H, s⟩ := x
    subst hcx
    unfold bv at hv
    dsimp only at hx hv
    rcases iv with ⟨h1, h2, rfl⟩ | ⟨h1, rfl⟩ | ⟨h1, h2, rfl⟩ | ⟨r, h1, h2, h3, rfl⟩ | ⟨h1, h2, h3, h4, rfl⟩ | ⟨r, h1, h2, rfl⟩ | ⟨r, h1, h2, h3, rfl⟩ | ⟨r, h1, h2, h3, rfl⟩
    · dsimp only at h1 h2
      subst h1 h2
      exact ⟨_, bj_h0 hv.2, Or.inl rfl⟩
    · dsimp only at h1
      omega
    · exact ⟨_, bj_hg ⟨Or.inr rfl, hv.2⟩, Or.inr (Or.inr (Or.inl ⟨id, h1, h2, rfl⟩))⟩
    · have hr : 0 ≤ r ∧ r ≤ 5 := by
        rcases h2 with rfl | h2
        · exact hx.1
        · exact (bW_r hD hn hd h2).2.1
      exact ⟨_, bj_hg ⟨Or.inl rfl, hv.2⟩, Or.inr (Or.inr (Or.inr (Or.inl ⟨r, h1, h2, hr, hx.2.2.2.2.2.1, h3, rfl⟩)))⟩
    · exact ⟨_, bj_hg ⟨Or.inl rfl, Or.inr rfl⟩, Or.inr (Or.inl (Or.inr (Or.inr ⟨h1, h2, h3, h4, rfl⟩)))⟩
    · dsimp only at h1
      omega
    · dsimp only at h1
      omega
    · exact ⟨_, bj_hg ⟨Or.inl rfl, hv.2⟩, Or.inr (Or.inr (Or.inr (Or.inr ⟨r, h1, h2, h3, rfl⟩)))⟩
  · dsimp only at hx
    rcases iv with ⟨h1, h2, rfl⟩ | ⟨h1, rfl⟩ | ⟨h1, h2, rfl⟩ | ⟨r, h1, h2, h3, rfl⟩ | ⟨h1, h2, h3, h4, rfl⟩ | ⟨r, h1, h2, rfl⟩ | ⟨r, h1, h2, h3, rfl⟩ | ⟨r, h1, h2, h3, rfl⟩
    · dsimp only at h1
      omega
    · exact ⟨_, bj_hg ⟨Or.inl rfl, hv⟩, Or.inl rfl⟩
    · dsimp only at h1
      omega
    · dsimp only at h1
      omega
    · dsimp only at h1
      omega
    · exact ⟨_, bj_hg ⟨Or.inl rfl, hv⟩, Or.inr (Or.inl (Or.inl ⟨r, rfl, rfl, h2, rfl⟩))⟩
    · dsimp only at h2 h3
      refine ⟨_, bj_hg ⟨Or.inl rfl, hv⟩, Or.inr (Or.inl (Or.inr (Or.inl ⟨r, rfl, rfl, h2, ?_, rfl⟩)))⟩
      rcases hv with rfl | rfl
      · exact h3
      · exact h3
    · dsimp only at h1
      omega
  · dsimp only at hx
    rcases iv with ⟨h1, h2, rfl⟩ | ⟨h1, rfl⟩ | ⟨h1, h2, rfl⟩ | ⟨r, h1, h2, h3, rfl⟩ | ⟨h1, h2, h3, h4, rfl⟩ | ⟨r, h1, h2, rfl⟩ | ⟨r, h1, h2, h3, rfl⟩ | ⟨r, h1, h2, h3, rfl⟩
    · dsimp only at h1 h2
      omega
    · dsimp only at h1
      omega
    · exact ⟨_, bj_h1 (Or.inr rfl), Or.inr (Or.inr (Or.inl ⟨id, h1, h2, rfl⟩))⟩
    · have hr : 0 ≤ r ∧ r ≤ 5 := by
        rcases h2 with rfl | h2
        · exact hx.1
        · exact (bW_r hD hn hd h2).2.1
      exact ⟨_, bj_h1 (Or.inl rfl), Or.inr (Or.inr (Or.inr (Or.inl ⟨r, h1, h2, hr, hx.2.2.2.2.2.1, h3, rfl⟩)))⟩
    · dsimp only at h2
      omega
    · dsimp only at h1
      omega
    · dsimp only at h1
      omega
    · exact ⟨_, bj_h1 (Or.inl rfl), Or.inr (Or.inr (Or.inr (Or.inr ⟨r, h1, h2, h3, rfl⟩)))⟩
theorem bj1 (hD : ∀ j : Int, 0 ≤ j → j < 40 → 0 ≤ D j ∧ D j ≤ 5) (hn : n ≤ 10) (hd : ∀ e : Int, 0 ≤ e → e < n → D (4 * e) ≠ D (4 * e + 1)) {x y c : kS} (h : bT D n kit x y) (hx : kw x) (hj : bj x c) : ∃ c', bj y c' ∧ (c' = c ∨ bQ D n c c' ∨ bL D n kit False c c') := by
  obtain ⟨k, h0, h1, h⟩ := h
  unfold stp at h
  split at h
  · obtain ⟨c', a, b⟩ := bj0 hD hn hd h0 h hx hj
    exact ⟨c', a, b.imp id (Or.imp Or.inl Or.inl)⟩
  · rw [stp_sw] at h
    cases hq : stp_0 D n kit (sw x) (k - 50) with
    | none => rw [hq] at h; cases h
    | some z =>
      rw [hq] at h
      have h : some (sw z) = some y := h
      rw [← Option.some.inj h]
      obtain ⟨c', a, b⟩ := bj0 hD hn hd (by omega) hq (kw_sw hD hn hd hx) (bj_sw hj)
      refine ⟨sw c', bj_sw a, ?_⟩
      rcases b with b | b | b
      · exact Or.inl (congrArg sw b)
      · exact Or.inr (Or.inl (Or.inr b))
      · exact Or.inr (Or.inr (Or.inr b))
def bM (D : Int → Int) (n kit : Int) (nb : Prop) (x y : kS) : Prop := bQ D n x y ∨ bL D n kit nb x y
theorem bj_all (hD : ∀ j : Int, 0 ≤ j → j < 40 → 0 ≤ D j ∧ D j ≤ 5) (hn : n ≤ 10) (hd : ∀ e : Int, 0 ≤ e → e < n → D (4 * e) ≠ D (4 * e + 1)) {x c : kS} (hx : kw x) (hj : bj x c) : ∀ {N : Nat} {y : kS}, bp (bT D n kit) N x y → kw y ∧ ∃ k c', bj y c' ∧ bp (bM D n kit False) k c c'
  | 0, y, h => by
    have h : x = y := h
    subst h
    exact ⟨hx, 0, c, hj, rfl⟩
  | N + 1, y, ⟨z, h1, h2⟩ => by
    obtain ⟨hz, k, c', e1, e2⟩ := bj_all hD hn hd hx hj h1
    obtain ⟨c2, e3, e4⟩ := bj1 hD hn hd h2 hz e1
    refine ⟨bT_kw hD hn hd h2 hz, ?_⟩
    rcases e4 with rfl | e4 | e4
    · exact ⟨k, _, e3, e2⟩
    · exact ⟨k + 1, c2, e3, c', e2, Or.inl e4⟩
    · exact ⟨k + 1, c2, e3, c', e2, Or.inr e4⟩
end BE
section BF
variable {D : Int → Int} {n kit : Int}
theorem sw_eq {y z : kS} (h : sw y = z) : y = sw z := by
  rw [← h]
/-! no loaf -/
theorem q0_set {a b K H s : Int} : ∀ {k : Nat} {y : kS}, bp (bQ D n) k (a, b, 0, 0, K, H, s) y → ∃ t : Int × (Int × Int), y = (t.1, t.2.1, 0, 0, t.2.2, H, s) ∧ bp (bk (bS D n) (bO D n 0) True True) k (a, b, K) t
  | 0, y, h => by
    have h : _ = y := h
    exact ⟨(a, b, K), h.symm, rfl⟩
  | k + 1, y, ⟨z, h1, h2⟩ => by
    obtain ⟨⟨t1, t2, t3⟩, rfl, e2⟩ := q0_set h1
    dsimp only at h2
    rcases h2 with (⟨r, g1, g2, g3, g4⟩ | ⟨r, g1, g2, g3, g4, g5⟩ | ⟨g1, _⟩) | (⟨r, g1, g2, g3, g4⟩ | ⟨r, g1, g2, g3, g4, g5⟩ | ⟨g1, _⟩)
    · exact ⟨(r, t2, r), g4, _, e2, Or.inl ⟨trivial, g2, rfl, rfl, g3⟩⟩
    · exact ⟨(r, r, r), g5, _, e2, Or.inr (Or.inr ⟨Or.inl trivial, g2, g3, rfl, rfl, g4⟩)⟩
    · dsimp only at g1
      omega
    · exact ⟨(t1, r, r), sw_eq g4, _, e2, Or.inr (Or.inl ⟨trivial, g2, rfl, rfl, g3⟩)⟩
    · dsimp only at g2 g3 g4
      refine ⟨(r, r, r), sw_eq g5, _, e2, Or.inr (Or.inr ⟨Or.inl trivial, ?_, ?_, rfl, rfl, ?_⟩)⟩
      · show t3 = t1
        omega
      · show t2 = t1
        omega
      · show bO D n 0 t1 r
        rw [g3]
        exact g4
    · dsimp only at g1
      omega
theorem q0_lift {H s : Int} (hn : n ≤ 10) (x y : Int × (Int × Int)) (h : bk (bS D n) (bO D n 0) True True x y) : bp (bT D n kit) 2 (x.1, x.2.1, 0, 0, x.2.2, H, s) (y.1, y.2.1, 0, 0, y.2.2, H, s) := by
  obtain ⟨x1, x2, x3⟩ := x
  obtain ⟨y1, y2, y3⟩ := y
  rcases h with ⟨_, g1, g2, g3, g4⟩ | ⟨_, g1, g2, g3, g4⟩ | ⟨_, g1, g2, g3, g4, g5⟩
  · dsimp only at g1 g2 g3 g4 ⊢
    subst g1 g2 g3
    exact ⟨_, bp_one bT_take, bT_go hn g4⟩
  · dsimp only at g1 g2 g3 g4 ⊢
    subst g1 g2 g3
    exact ⟨_, bp_one (bT_sw (x := (_, _, 0, _, _, _, _)) bT_take), bT_sw (x := (_, _, 2, _, _, _, _)) (bT_go hn g4)⟩
  · dsimp only at g1 g2 g3 g4 g5 ⊢
    subst g1 g2 g3 g4
    exact ⟨_, bp_one bT_take, bT_both hn (Or.inl rfl) g5⟩
/-! one loaf: true: the second has it -/
def bF (H s : Int) : Bool → Int × (Int × Int) → kS
  | true, t => (t.1, t.2.1, 0, 1, t.2.2, H, s)
  | false, t => (t.1, t.2.1, 1, 0, t.2.2, H, s)
def bA (D : Int → Int) (n H : Int) : Bool → Int × (Int × Int) → Prop
  | true, t => bW D n t.2.1 t.1 ∧ hb H t.1 ≠ 1
  | false, t => bW D n t.1 t.2.1 ∧ hb H t.2.1 ≠ 1
abbrev bkp (D : Int → Int) (n : Int) (p : Bool) := bk (bS D n) (bO D n 1) (p = true) (p = false)
theorem q1_step {H s : Int} {p : Bool} {z : Int × (Int × Int)} {y : kS} (h : bQ D n (bF H s p z) y) : (∃ t, bkp D n p z t ∧ y = bF H s p t) ∨ (bA D n H p z ∧ y = bF H s (!p) z) := by
  obtain ⟨z1, z2, z3⟩ := z
  cases p with
  | true =>
    rcases h with (⟨r, g1, g2, g3, g4⟩ | ⟨r, g1, g2, g3, g4, g5⟩ | ⟨g1, _⟩) | (⟨r, g1, g2, g3, g4⟩ | ⟨r, g1, g2, g3, g4, g5⟩ | ⟨g1, g2, g3, g4, g5⟩)
    · exact Or.inl ⟨(r, z2, r), Or.inl ⟨rfl, g2, rfl, rfl, g3⟩, g4⟩
    · exact Or.inl ⟨(r, r, r), Or.inr (Or.inr ⟨Or.inl rfl, g2, g3, rfl, rfl, g4⟩), g5⟩
    · dsimp only [bF] at g1
      omega
    · dsimp only [bF] at g1
      omega
    · dsimp only [bF] at g1
      omega
    · exact Or.inr ⟨⟨g3, g4⟩, sw_eq g5⟩
  | false =>
    rcases h with (⟨r, g1, g2, g3, g4⟩ | ⟨r, g1, g2, g3, g4, g5⟩ | ⟨g1, g2, g3, g4, g5⟩) | (⟨r, g1, g2, g3, g4⟩ | ⟨r, g1, g2, g3, g4, g5⟩ | ⟨g1, _⟩)
    · dsimp only [bF] at g1
      omega
    · dsimp only [bF] at g1
      omega
    · exact Or.inr ⟨⟨g3, g4⟩, g5⟩
    · exact Or.inl ⟨(z1, r, r), Or.inr (Or.inl ⟨rfl, g2, rfl, rfl, g3⟩), sw_eq g4⟩
    · dsimp only [bF] at g2 g3 g4
      refine Or.inl ⟨(r, r, r), Or.inr (Or.inr ⟨Or.inr rfl, ?_, ?_, rfl, rfl, ?_⟩), sw_eq g5⟩
      · show z3 = z1
        omega
      · show z2 = z1
        omega
      · show bO D n 1 z1 r
        rw [g3]
        exact g4
    · dsimp only [bF] at g1
      omega
theorem q1_at {p : Bool} {j : Nat} {s0 t : Int × (Int × Int)} (h : bp (bkp D n p) (j + 1) s0 t) : (p = true → t.2.2 = t.1) ∧ (p = false → t.2.2 = t.2.1) := by
  obtain ⟨z, _, h⟩ := h
  rcases h with ⟨g0, g1, g2, g3, g4⟩ | ⟨g0, g1, g2, g3, g4⟩ | ⟨g0, g1, g2, g3, g4, g5⟩
  · exact ⟨fun _ => g3, fun e => by rw [g0] at e; cases e⟩
  · exact ⟨fun e => (by rw [g0] at e; cases e), fun _ => g3⟩
  · exact ⟨fun _ => g4, fun _ => g4.trans g3.symm⟩
theorem q1_no (hD : ∀ j : Int, 0 ≤ j → j < 40 → 0 ≤ D j ∧ D j ≤ 5) (hn : n ≤ 10) (hd : ∀ e : Int, 0 ≤ e → e < n → D (4 * e) ≠ D (4 * e + 1)) {H : Int} {p : Bool} {j : Nat} {s0 t t' : Int × (Int × Int)} (h : bp (bkp D n p) (j + 1) s0 t) (hA : bA D n H p t) (hm : bkp D n (!p) t t') : False := by
  have e := q1_at h
  obtain ⟨t1, t2, t3⟩ := t
  cases p with
  | true =>
    have e1 := e.1 rfl
    have e2 := (bW_r hD hn hd hA.1).2.2
    dsimp only at e1 e2
    rcases hm with ⟨g0, g1, g2, g3, g4⟩ | ⟨g0, g1, g2, g3, g4⟩ | ⟨g0, g1, g2, g3, g4, g5⟩
    · cases g0
    · dsimp only at g1
      omega
    · dsimp only at g1 g2
      omega
  | false =>
    have e1 := e.2 rfl
    have e2 := (bW_r hD hn hd hA.1).2.2
    dsimp only at e1 e2
    rcases hm with ⟨g0, g1, g2, g3, g4⟩ | ⟨g0, g1, g2, g3, g4⟩ | ⟨g0, g1, g2, g3, g4, g5⟩
    · dsimp only at g1
      omega
    · cases g0
    · dsimp only at g1 g2
      omega
theorem q1_set (hD : ∀ j : Int, 0 ≤ j → j < 40 → 0 ≤ D j ∧ D j ≤ 5) (hn : n ≤ 10) (hd : ∀ e : Int, 0 ≤ e → e < n → D (4 * e) ≠ D (4 * e + 1)) {H s : Int} {s0 : Int × (Int × Int)} : ∀ {k : Nat} {y : kS}, bp (bQ D n) k (bF H s true s0) y → ∃ (p : Bool) (j : Nat) (t : Int × (Int × Int)), (p = true ∨ bA D n H true s0) ∧ bp (bkp D n p) j s0 t ∧ (y = bF H s p t ∨ (bA D n H p t ∧ y = bF H s (!p) t))
  | 0, y, h => by
    have h : _ = y := h
    exact ⟨true, 0, s0, Or.inl rfl, rfl, Or.inl h.symm⟩
  | k + 1, y, ⟨z, h1, h2⟩ => by
    obtain ⟨p, j, t, e1, e2, e3⟩ := q1_set hD hn hd h1
    rcases e3 with rfl | ⟨e3, rfl⟩
    · rcases q1_step h2 with ⟨t', g1, g2⟩ | ⟨g1, g2⟩
      · exact ⟨p, j + 1, t', e1, ⟨t, e2, g1⟩, Or.inl g2⟩
      · exact ⟨p, j, t, e1, e2, Or.inr ⟨g1, g2⟩⟩
    · rcases q1_step h2 with ⟨t', g1, g2⟩ | ⟨g1, g2⟩
      · cases j with
        | zero =>
          have e2 : s0 = t := e2
          subst e2
          refine ⟨!p, 1, t', ?_, bp_one g1, Or.inl g2⟩
          cases p with
          | true => exact Or.inr e3
          | false => exact Or.inl rfl
        | succ j => exact (q1_no hD hn hd e2 e3 g1).elim
      · rw [Bool.not_not] at g2
        exact ⟨p, j, t, e1, e2, Or.inl g2⟩
theorem q1_pass (hn : n ≤ 10) {H s : Int} {p : Bool} {t : Int × (Int × Int)} (h : bA D n H p t) : bT D n kit (bF H s p t) (bF H s (!p) t) := by
  cases p with
  | true => exact bT_sw (x := (_, _, 1, 0, _, _, _)) (bT_pass hn h.1 h.2)
  | false => exact bT_pass hn h.1 h.2
theorem q1_lift (hn : n ≤ 10) {H s : Int} {p : Bool} (x y : Int × (Int × Int)) (h : bkp D n p x y) : bp (bT D n kit) 2 (bF H s p x) (bF H s p y) := by
  obtain ⟨x1, x2, x3⟩ := x
  obtain ⟨y1, y2, y3⟩ := y
  cases p with
  | true =>
    rcases h with ⟨_, g1, g2, g3, g4⟩ | ⟨g0, g1, g2, g3, g4⟩ | ⟨_, g1, g2, g3, g4, g5⟩
    · dsimp only at g1 g2 g3 g4
      subst g1 g2 g3
      exact ⟨_, bp_one bT_take, bT_go hn g4⟩
    · cases g0
    · dsimp only at g1 g2 g3 g4 g5
      subst g1 g2 g3 g4
      exact ⟨_, bp_one bT_take, bT_both hn (Or.inr rfl) g5⟩
  | false =>
    rcases h with ⟨g0, g1, g2, g3, g4⟩ | ⟨g0, g1, g2, g3, g4⟩ | ⟨_, g1, g2, g3, g4, g5⟩
    · cases g0
    · dsimp only at g1 g2 g3 g4
      subst g1 g2 g3
      exact ⟨_, bp_one (bT_sw (x := (_, _, 0, _, _, _, _)) bT_take), bT_sw (x := (_, _, 2, _, _, _, _)) (bT_go hn g4)⟩
    · dsimp only at g1 g2 g3 g4 g5
      subst g1 g2 g3 g4
      exact ⟨_, bp_one (bT_sw (x := (_, _, 0, _, _, _, _)) bT_take), bT_sw (x := (_, _, 2, _, _, _, _)) (bT_both hn (Or.inr rfl) g5)⟩
theorem q1_short (hD : ∀ j : Int, 0 ≤ j → j < 40 → 0 ≤ D j ∧ D j ≤ 5) (hn : n ≤ 10) (hd : ∀ e : Int, 0 ≤ e → e < n → D (4 * e) ≠ D (4 * e + 1)) {H s : Int} {s0 : Int × (Int × Int)} {k : Nat} {y : kS} (h : bp (bQ D n) k (bF H s true s0) y) : ∃ m, m ≤ 32 ∧ bp (bT D n kit) m (bF H s true s0) y := by
  obtain ⟨p, j, t, e1, e2, e3⟩ := q1_set hD hn hd h
  obtain ⟨i, hi, e4⟩ := bk_fifteen (by cases p with | true => exact Or.inl rfl | false => exact Or.inr rfl) (fun x y h => bS_r hD hn hd h) (fun x y h => bO_r hD hn hd h) e2
  have l2 : bp (bT D n kit) (2 * i) (bF H s p s0) (bF H s p t) := bp_map2 (bF H s p) (q1_lift hn) e4
  obtain ⟨i1, hi1, l1⟩ : ∃ i1, i1 ≤ 1 ∧ bp (bT D n kit) i1 (bF H s true s0) (bF H s p s0) := by
    cases p with
    | true => exact ⟨0, by omega, rfl⟩
    | false =>
      rcases e1 with e1 | e1
      · cases e1
      · exact ⟨1, by omega, bp_one (q1_pass hn e1)⟩
  obtain ⟨i3, hi3, l3⟩ : ∃ i3, i3 ≤ 1 ∧ bp (bT D n kit) i3 (bF H s p t) y := by
    rcases e3 with rfl | ⟨e3, rfl⟩
    · exact ⟨0, by omega, rfl⟩
    · exact ⟨1, by omega, bp_one (q1_pass hn e3)⟩
  exact ⟨i1 + 2 * i + i3, by omega, bp_app (bp_app l1 l2) l3⟩
theorem q_short (hD : ∀ j : Int, 0 ≤ j → j < 40 → 0 ≤ D j ∧ D j ≤ 5) (hn : n ≤ 10) (hd : ∀ e : Int, 0 ≤ e → e < n → D (4 * e) ≠ D (4 * e + 1)) {x y : kS} {k : Nat} (hv : bv x) (h : bp (bQ D n) k x y) : (x.2.2.1 + x.2.2.2.1 = 2 ∧ y = x) ∨ (x.2.2.1 + x.2.2.2.1 ≠ 2 ∧ ∃ m, m ≤ 32 ∧ bp (bT D n kit) m x y) := by
  obtain ⟨a, b, u, v, K, H, s⟩ := x
  unfold bv at hv
  dsimp only at hv
  rcases hv with ⟨rfl | rfl, rfl | rfl⟩
  · obtain ⟨t, rfl, e⟩ := q0_set h
    obtain ⟨i, hi, e⟩ := bk_fifteen (Or.inl trivial) (fun x y h => bS_r hD hn hd h) (fun x y h => bO_r hD hn hd h) e
    exact Or.inr ⟨show (0 : Int) + 0 ≠ 2 by decide, 2 * i, by omega, bp_map2 (fun t => (t.1, t.2.1, 0, 0, t.2.2, H, s)) (q0_lift hn) e⟩
  · exact Or.inr ⟨show (0 : Int) + 1 ≠ 2 by decide, q1_short hD hn hd (s0 := (a, b, K)) h⟩
  · obtain ⟨m, hm, e⟩ := q1_short (kit := kit) hD hn hd (s0 := (b, a, K)) (bp_map sw (fun _ _ => bQ_sw) h)
    exact Or.inr ⟨show (1 : Int) + 0 ≠ 2 by decide, m, hm, bp_map sw (fun _ _ => bT_sw) e⟩
  · refine Or.inl ⟨rfl, ?_⟩
    have key : ∀ (k : Nat) (y : kS), bp (bQ D n) k (a, b, 1, 1, K, H, s) y → y = (a, b, 1, 1, K, H, s) := by
      intro k
      induction k with
      | zero => intro y h; exact (show _ = y from h).symm
      | succ k ih =>
        intro y h
        obtain ⟨z, h1, h2⟩ := h
        have e := ih z h1
        subst e
        rcases h2 with (⟨r, g1, _⟩ | ⟨r, g1, _⟩ | ⟨g1, g2, _⟩) | (⟨r, g1, _⟩ | ⟨r, g1, _⟩ | ⟨g1, g2, _⟩)
        · dsimp only at g1; omega
        · dsimp only at g1; omega
        · dsimp only at g2; omega
        · dsimp only at g1; omega
        · dsimp only at g1; omega
        · dsimp only at g2; omega
    exact key k y h
end BF
section BG
variable {D : Int → Int} {n kit : Int}
theorem bQ_inv {x y : kS} (h : bQ D n x y) (hv : bv x) : bv y ∧ y.2.2.1 + y.2.2.2.1 = x.2.2.1 + x.2.2.2.1 ∧ y.2.2.2.2.2.1 = x.2.2.2.2.2.1 ∧ y.2.2.2.2.2.2 = x.2.2.2.2.2.2 := by
  have key : ∀ {x y : kS}, bQ0 D n x y → bv x → bv y ∧ y.2.2.1 + y.2.2.2.1 = x.2.2.1 + x.2.2.2.1 ∧ y.2.2.2.2.2.1 = x.2.2.2.2.2.1 ∧ y.2.2.2.2.2.2 = x.2.2.2.2.2.2 := by
    intro x y h hv
    obtain ⟨a, b, u, v, K, H, s⟩ := x
    unfold bv at hv ⊢
    dsimp only at hv ⊢
    rcases h with ⟨r, g1, g2, g3, rfl⟩ | ⟨r, g1, g2, g3, g4, rfl⟩ | ⟨g1, g2, g3, g4, rfl⟩
    · dsimp only at g1 ⊢
      exact ⟨by omega, by omega, rfl, rfl⟩
    · dsimp only at g1 ⊢
      exact ⟨by omega, by omega, rfl, rfl⟩
    · dsimp only at g1 g2 ⊢
      exact ⟨by omega, by omega, rfl, rfl⟩
  rcases h with h | h
  · exact key h hv
  · obtain ⟨e1, e2, e3, e4⟩ := key h ⟨hv.2, hv.1⟩
    dsimp only at e2 e3 e4
    exact ⟨⟨e1.2, e1.1⟩, by omega, e3, e4⟩
theorem bQ_invs {x : kS} (hv : bv x) : ∀ {k : Nat} {y : kS}, bp (bQ D n) k x y → bv y ∧ y.2.2.1 + y.2.2.2.1 = x.2.2.1 + x.2.2.2.1 ∧ y.2.2.2.2.2.1 = x.2.2.2.2.2.1 ∧ y.2.2.2.2.2.2 = x.2.2.2.2.2.2
  | 0, y, h => by
    have h : x = y := h
    subst h
    exact ⟨hv, rfl, rfl, rfl⟩
  | k + 1, y, ⟨z, h1, h2⟩ => by
    obtain ⟨e1, e2, e3, e4⟩ := bQ_invs hv h1
    obtain ⟨f1, f2, f3, f4⟩ := bQ_inv h2 e1
    exact ⟨f1, f2.trans e2, f3.trans e3, f4.trans e4⟩
theorem bL_inv {nb : Prop} {x y : kS} (h : bL D n kit nb x y) (hv : bv x) : bv y ∧
    ((y.2.2.1 + y.2.2.2.1 = x.2.2.1 + x.2.2.2.1 ∧ y.2.2.2.2.2.1 = x.2.2.2.2.2.1 ∧ y.2.2.2.2.2.2 = x.2.2.2.2.2.2 - 1 ∧ 0 < x.2.2.2.2.2.2) ∨
     (¬ nb ∧ y.2.2.1 + y.2.2.2.1 = x.2.2.1 + x.2.2.2.1 + 1 ∧ y.2.2.2.2.2.1 = x.2.2.2.2.2.1 ∧ y.2.2.2.2.2.2 = x.2.2.2.2.2.2) ∨
     (y.2.2.1 + y.2.2.2.1 = x.2.2.1 + x.2.2.2.1 - 1 ∧ pcn y.2.2.2.2.2.1 = pcn x.2.2.2.2.2.1 - 1 ∧ (0 ≤ x.2.2.2.2.2.1 ∧ x.2.2.2.2.2.1 ≤ 63) ∧ (0 ≤ y.2.2.2.2.2.1 ∧ y.2.2.2.2.2.1 ≤ 63) ∧ y.2.2.2.2.2.2 = x.2.2.2.2.2.2)) := by
  have key : ∀ {x y : kS}, bL0 D n kit nb x y → bv x → bv y ∧
    ((y.2.2.1 + y.2.2.2.1 = x.2.2.1 + x.2.2.2.1 ∧ y.2.2.2.2.2.1 = x.2.2.2.2.2.1 ∧ y.2.2.2.2.2.2 = x.2.2.2.2.2.2 - 1 ∧ 0 < x.2.2.2.2.2.2) ∨
     (¬ nb ∧ y.2.2.1 + y.2.2.2.1 = x.2.2.1 + x.2.2.2.1 + 1 ∧ y.2.2.2.2.2.1 = x.2.2.2.2.2.1 ∧ y.2.2.2.2.2.2 = x.2.2.2.2.2.2) ∨
     (y.2.2.1 + y.2.2.2.1 = x.2.2.1 + x.2.2.2.1 - 1 ∧ pcn y.2.2.2.2.2.1 = pcn x.2.2.2.2.2.1 - 1 ∧ (0 ≤ x.2.2.2.2.2.1 ∧ x.2.2.2.2.2.1 ≤ 63) ∧ (0 ≤ y.2.2.2.2.2.1 ∧ y.2.2.2.2.2.1 ≤ 63) ∧ y.2.2.2.2.2.2 = x.2.2.2.2.2.2)) := by
    intro x y h hv
    obtain ⟨a, b, u, v, K, H, s⟩ := x
    unfold bv at hv ⊢
    dsimp only at hv ⊢
    rcases h with ⟨g0, g1, g2, rfl⟩ | ⟨r, g1, g2, g3, g4, g5, rfl⟩ | ⟨r, g1, g2, g3, rfl⟩
    · dsimp only at g1 ⊢
      exact ⟨by omega, Or.inr (Or.inl ⟨g0, by omega, rfl, rfl⟩)⟩
    · dsimp only at g1 g3 g4 g5 ⊢
      have q := b_clr_rng (u := H) (r := r) (by omega) (by omega) (by omega) (by omega)
      exact ⟨by omega, Or.inr (Or.inr ⟨by omega, clr_pcn g4.1 g4.2 g3.1 g3.2 g5, g4, by omega, rfl⟩)⟩
    · dsimp only at g1 g3 ⊢
      exact ⟨by omega, Or.inl ⟨by omega, rfl, rfl, g3⟩⟩
  rcases h with h | h
  · exact key h hv
  · obtain ⟨e1, e2⟩ := key h ⟨hv.2, hv.1⟩
    dsimp only at e2
    refine ⟨⟨e1.2, e1.1⟩, ?_⟩
    rcases e2 with e2 | ⟨e2, e3⟩ | ⟨e2, e3, e4, e5, e6⟩
    · exact Or.inl ⟨by omega, e2.2.1, e2.2.2.1, e2.2.2.2⟩
    · exact Or.inr (Or.inl ⟨e2, by omega, e3.2.1, e3.2.2⟩)
    · exact Or.inr (Or.inr ⟨by omega, e3, e4, e5, e6⟩)
/-- the first loud step of a row -/
theorem bM_first {nb : Prop} {x : kS} : ∀ {N : Nat} {y : kS}, bp (bM D n kit nb) N x y → (∃ k, bp (bQ D n) k x y) ∨ ∃ k x1 x2 m, m < N ∧ bp (bQ D n) k x x1 ∧ bL D n kit nb x1 x2 ∧ bp (bM D n kit nb) m x2 y
  | 0, y, h => Or.inl ⟨0, h⟩
  | N + 1, y, ⟨z, h1, h2⟩ => by
    rcases bM_first h1 with ⟨k, e⟩ | ⟨k, x1, x2, m, e0, e1, e2, e3⟩
    · rcases h2 with h2 | h2
      · exact Or.inl ⟨k + 1, z, e, h2⟩
      · exact Or.inr ⟨k, z, y, 0, by omega, e, h2, rfl⟩
    · exact Or.inr ⟨k, x1, x2, m + 1, by omega, e1, e2, z, e3, h2⟩
theorem bM_pot {nb : Prop} {E : kS → Prop} {I : kS → Prop} {P : kS → Int}
    (hq : ∀ x y k, I x → bp (bQ D n) k x y → E y → ∃ (m : Nat) (z : kS), (m : Int) ≤ P x ∧ bp (bT D n kit) m x z ∧ E z)
    (hl : ∀ x x1 x2 k, I x → bp (bQ D n) k x x1 → bL D n kit nb x1 x2 → (E x ∧ 0 ≤ P x) ∨ (I x2 ∧ ∃ m : Nat, (m : Int) + P x2 ≤ P x ∧ bp (bT D n kit) m x x2)) :
    ∀ (N : Nat) {x y : kS}, I x → bp (bM D n kit nb) N x y → E y → ∃ (m : Nat) (z : kS), (m : Int) ≤ P x ∧ bp (bT D n kit) m x z ∧ E z := by
  intro N
  induction N using Nat.strongRecOn with
  | _ N ih =>
    intro x y hI h hE
    rcases bM_first h with ⟨k, e⟩ | ⟨k, x1, x2, m, e0, e1, e2, e3⟩
    · exact hq x y k hI e hE
    · rcases hl x x1 x2 k hI e1 e2 with ⟨g1, g2⟩ | ⟨g1, i, g2, g3⟩
      · exact ⟨0, x, by omega, rfl, g1⟩
      · obtain ⟨j, z, q1, q2, q3⟩ := ih m e0 g1 e3 hE
        exact ⟨i + j, z, by omega, bp_app g3 q2, q3⟩
/-! all fed -/
def bPf (x : kS) : Int := if x.2.2.2.2.2.1 = 0 then 0 else 36 * x.2.2.2.2.2.2 + 72 * pcn x.2.2.2.2.2.1 + (if x.2.2.1 + x.2.2.2.1 = 0 then 1 else if x.2.2.1 + x.2.2.2.1 = 1 then -35 else -71)
theorem fed_short (hD : ∀ j : Int, 0 ≤ j → j < 40 → 0 ≤ D j ∧ D j ≤ 5) (hn : n ≤ 10) (hd : ∀ e : Int, 0 ≤ e → e < n → D (4 * e) ≠ D (4 * e + 1)) {N : Nat} {x y : kS} (hv : bv x) (hH : 0 ≤ x.2.2.2.2.2.1 ∧ x.2.2.2.2.2.1 ≤ 63) (hs : 0 ≤ x.2.2.2.2.2.2) (h : bp (bM D n kit False) N x y) (hy : y.2.2.2.2.2.1 = 0) : ∃ (m : Nat) (z : kS), (m : Int) ≤ bPf x ∧ bp (bT D n kit) m x z ∧ z.2.2.2.2.2.1 = 0 := by
  refine bM_pot (E := fun z => z.2.2.2.2.2.1 = 0) (I := fun x => bv x ∧ (0 ≤ x.2.2.2.2.2.1 ∧ x.2.2.2.2.2.1 ≤ 63) ∧ 0 ≤ x.2.2.2.2.2.2) (P := bPf) ?_ ?_ N ⟨hv, hH, hs⟩ h hy
  · intro x y k hI h hE
    obtain ⟨_, _, e3, _⟩ := bQ_invs hI.1 h
    have e : x.2.2.2.2.2.1 = 0 := by
      have hE : y.2.2.2.2.2.1 = 0 := hE
      omega
    refine ⟨0, x, ?_, rfl, e⟩
    unfold bPf
    rw [if_pos e]
    exact Int.le_refl _
  · intro x x1 x2 k hI h hl
    obtain ⟨hv, hH, hs⟩ := hI
    by_cases hx : x.2.2.2.2.2.1 = 0
    · exact Or.inl ⟨hx, by unfold bPf; rw [if_pos hx]; exact Int.le_refl _⟩
    · right
      obtain ⟨f1, f2, f3, f4⟩ := bQ_invs hv h
      obtain ⟨g1, g2⟩ := bL_inv hl f1
      have p0 := (pcn_0 hH.1 hH.2).2 hx
      have hp : bPf x = 36 * x.2.2.2.2.2.2 + 72 * pcn x.2.2.2.2.2.1 + (if x.2.2.1 + x.2.2.2.1 = 0 then 1 else if x.2.2.1 + x.2.2.2.1 = 1 then -35 else -71) := if_neg hx
      have hI2 : (0 ≤ x2.2.2.2.2.2.1 ∧ x2.2.2.2.2.2.1 ≤ 63) ∧ 0 ≤ x2.2.2.2.2.2.2 := by
        rcases g2 with g2 | g2 | g2
        · omega
        · omega
        · omega
      have hlx : x.2.2.1 + x.2.2.2.1 = 0 ∨ x.2.2.1 + x.2.2.2.1 = 1 ∨ x.2.2.1 + x.2.2.2.1 = 2 := by
        unfold bv at hv
        omega
      have hl2 : x2.2.2.1 + x2.2.2.2.1 = 0 ∨ x2.2.2.1 + x2.2.2.2.1 = 1 ∨ x2.2.2.1 + x2.2.2.2.1 = 2 := by
        unfold bv at g1
        omega
      have q0 := (pcn_0 hI2.1.1 hI2.1.2)
      have hp2 : bPf x2 ≤ bPf x - (if x.2.2.1 + x.2.2.2.1 = 2 then 1 else 33) := by
        rw [hp]
        unfold bPf
        rcases g2 with ⟨a1, a2, a3, a4⟩ | ⟨_, a1, a2, a3⟩ | ⟨a1, a2, a3, a4, a5⟩
        · rw [a2, f3, if_neg hx, a1, f2, a3, f4]
          rcases hlx with q | q | q
          · simp only [q]; simp; omega
          · simp only [q]; simp; omega
          · simp only [q]; simp; omega
        · rw [a2, f3, if_neg hx, a1, f2, a3, f4]
          rcases hlx with q | q | q
          · simp only [q]; simp; omega
          · simp only [q]; simp; omega
          · omega
        · rw [a2, f3, a1, f2, a5, f4]
          rw [f3] at a2
          rcases hlx with q | q | q
          · omega
          · simp only [q]; simp; split <;> omega
          · simp only [q]; simp; split <;> omega
      refine ⟨⟨g1, hI2⟩, ?_⟩
      rcases q_short (kit := kit) hD hn hd hv h with ⟨e1, e2⟩ | ⟨e1, m, hm, e2⟩
      · subst e2
        rw [if_pos e1] at hp2
        exact ⟨1, by omega, bp_one (bL_T hn hl)⟩
      · rw [if_neg e1] at hp2
        exact ⟨m + 1, by omega, x1, e2, bL_T hn hl⟩
/-! both out: no bread is wanted -/
def bPo (x : kS) : Int := 33 * (x.2.2.2.2.2.2 + x.2.2.1 + x.2.2.2.1) + 32
theorem out_short (hD : ∀ j : Int, 0 ≤ j → j < 40 → 0 ≤ D j ∧ D j ≤ 5) (hn : n ≤ 10) (hd : ∀ e : Int, 0 ≤ e → e < n → D (4 * e) ≠ D (4 * e + 1)) {N : Nat} {x y : kS} (hv : bv x) (hs : 0 ≤ x.2.2.2.2.2.2) (h : bp (bM D n kit True) N x y) (hy : y.1 = 0 ∧ y.2.1 = 0) : ∃ (m : Nat) (z : kS), (m : Int) ≤ bPo x ∧ bp (bT D n kit) m x z ∧ (z.1 = 0 ∧ z.2.1 = 0) := by
  refine bM_pot (E := fun z => z.1 = 0 ∧ z.2.1 = 0) (I := fun x => bv x ∧ 0 ≤ x.2.2.2.2.2.2) (P := bPo) ?_ ?_ N ⟨hv, hs⟩ h hy
  · intro x y k hI h hE
    obtain ⟨hv, hs⟩ := hI
    have hv2 := hv
    unfold bv at hv2
    rcases q_short (kit := kit) hD hn hd hv h with ⟨e1, e2⟩ | ⟨e1, m, hm, e2⟩
    · subst e2
      exact ⟨0, y, by unfold bPo; omega, rfl, hE⟩
    · exact ⟨m, y, by unfold bPo; omega, e2, hE⟩
  · intro x x1 x2 k hI h hl
    obtain ⟨hv, hs⟩ := hI
    right
    obtain ⟨f1, f2, f3, f4⟩ := bQ_invs hv h
    obtain ⟨g1, g2⟩ := bL_inv hl f1
    have hp2 : bPo x2 ≤ bPo x - 33 ∧ 0 ≤ x2.2.2.2.2.2.2 := by
      unfold bPo
      rcases g2 with ⟨a1, a2, a3, a4⟩ | ⟨a0, _⟩ | ⟨a1, a2, a3, a4, a5⟩
      · omega
      · exact absurd trivial a0
      · omega
    refine ⟨⟨g1, hp2.2⟩, ?_⟩
    rcases q_short (kit := kit) hD hn hd hv h with ⟨e1, e2⟩ | ⟨e1, m, hm, e2⟩
    · subst e2
      exact ⟨1, by omega, bp_one (bL_T hn hl)⟩
    · exact ⟨m + 1, by omega, x1, e2, bL_T hn hl⟩
def blo (x' x : kS) : Prop := bv x' ∧ bv x ∧ x'.1 = x.1 ∧ x'.2.1 = x.2.1 ∧ x'.2.2.1 ≤ x.2.2.1 ∧ x'.2.2.2.1 ≤ x.2.2.2.1 ∧ x'.2.2.2.2.1 = x.2.2.2.2.1 ∧ x'.2.2.2.2.2.2 = x.2.2.2.2.2.2 ∧ (0 ≤ x'.2.2.2.2.2.1 ∧ x'.2.2.2.2.2.1 ≤ 63) ∧ (0 ≤ x.2.2.2.2.2.1 ∧ x.2.2.2.2.2.1 ≤ 63) ∧ ∀ r : Int, 0 ≤ r → r ≤ 5 → hb x.2.2.2.2.2.1 r = 1 → hb x'.2.2.2.2.2.1 r = 1
theorem blo_sw {x' x : kS} (h : blo x' x) : blo (sw x') (sw x) := by
  obtain ⟨h1, h2, h3, h4, h5, h6, h7, h8, h9, h10, h11⟩ := h
  exact ⟨⟨h1.2, h1.1⟩, ⟨h2.2, h2.1⟩, h4, h3, h6, h5, h7, h8, h9, h10, h11⟩
theorem bO_mono {v v' a r : Int} (hv : v = 0 ∨ v = 1) (hv' : v' = 0 ∨ v' = 1) (hl : v' ≤ v) (h : bO D n v a r) : bO D n v' a r := by
  rcases hv with rfl | rfl <;> rcases hv' with rfl | rfl
  · exact h
  · omega
  · obtain ⟨e, h0, h1, h2, h3, h4⟩ := h
    refine ⟨e, h0, h1, h2, h3, ?_⟩
    unfold opn at h4 ⊢
    by_cases q5 : D (4 * e + 2) = 5
    · rw [if_pos q5] at h4
      exact absurd rfl h4
    · rw [if_neg q5] at h4 ⊢
      by_cases q1 : D (4 * e + 2) = 1
      · rw [if_pos q1] at h4 ⊢
        exact h4
      · rw [if_neg q1] at h4 ⊢
        by_cases q2 : D (4 * e + 2) = 2
        · rw [if_pos q2] at h4 ⊢
          exact h4
        · rw [if_neg q2] at h4 ⊢
          by_cases q3 : D (4 * e + 2) = 3
          · rw [if_pos q3, if_pos rfl]
            decide
          · rw [if_neg q3] at h4 ⊢
            exact h4
  · exact h
theorem sim0 (hD : ∀ j : Int, 0 ≤ j → j < 40 → 0 ≤ D j ∧ D j ≤ 5) (hn : n ≤ 10) (hd : ∀ e : Int, 0 ≤ e → e < n → D (4 * e) ≠ D (4 * e + 1)) {x' x y : kS} (hx : blo x' x) (h : bQ0 D n x y ∨ bL0 D n kit False x y) : ∃ y', blo y' y ∧ (y' = x' ∨ bQ0 D n x' y' ∨ bL0 D n kit True x' y') := by
  obtain ⟨a, b, u, v, K, H, s⟩ := x
  obtain ⟨a', b', u', v', K', H', s'⟩ := x'
  obtain ⟨h1, h2, h3, h4, h5, h6, h7, h8, h9, h10, h11⟩ := hx
  unfold bv at h1 h2
  dsimp only at h1 h2 h3 h4 h5 h6 h7 h8 h9 h10 h11
  subst h3 h4 h7 h8
  rcases h with (⟨r, g1, g2, g3, rfl⟩ | ⟨r, g1, g2, g3, g4, rfl⟩ | ⟨g1, g2, g3, g4, rfl⟩) | (⟨g0, g1, g2, rfl⟩ | ⟨r, g1, g2, g3, g4, g5, rfl⟩ | ⟨r, g1, g2, g3, rfl⟩)
  · dsimp only at g1 g2 g3
    exact ⟨(r, b', 0, v', r, H', s'), ⟨⟨Or.inl rfl, h1.2⟩, ⟨Or.inl rfl, h2.2⟩, rfl, rfl, Int.le_refl _, h6, rfl, rfl, h9, h10, h11⟩, Or.inr (Or.inl (Or.inl ⟨r, (by dsimp only; omega), g2, g3, rfl⟩))⟩
  · dsimp only at g1 g2 g3 g4
    exact ⟨(r, r, 0, v', r, H', s'), ⟨⟨Or.inl rfl, h1.2⟩, ⟨Or.inl rfl, h2.2⟩, rfl, rfl, Int.le_refl _, h6, rfl, rfl, h9, h10, h11⟩, Or.inr (Or.inl (Or.inr (Or.inl ⟨r, (by dsimp only; omega), g2, g3, bO_mono h2.2 h1.2 h6 g4, rfl⟩)))⟩
  · dsimp only at g1 g2 g3 g4
    rcases h1.1 with q | q
    · exact ⟨(a', b', u', v', K', H', s'), ⟨h1, ⟨Or.inl rfl, Or.inr rfl⟩, rfl, rfl, (by dsimp only; omega), (by dsimp only; omega), rfl, rfl, h9, h10, h11⟩, Or.inl rfl⟩
    · by_cases w : hb H' b' = 1
      · have rb := (bW_r hD hn hd g3).2.1
        have cr := b_clr_rng (u := H') (r := b') h9.1 (by omega) rb.1 (by omega)
        refine ⟨(a', b', 0, v', K', clr H' b', s'), ⟨⟨Or.inl rfl, h1.2⟩, ⟨Or.inl rfl, Or.inr rfl⟩, rfl, rfl, Int.le_refl _, (by dsimp only; omega), rfl, rfl, (by dsimp only; omega), h10, ?_⟩, Or.inr (Or.inr (Or.inr (Or.inl ⟨b', q, Or.inr g3, rb, h9, w, rfl⟩)))⟩
        intro r r0 r1 hr
        dsimp only at hr ⊢
        rw [clr_hb h9.1 h9.2 rb.1 rb.2 r0 r1, if_neg (fun e => g4 (by rw [← e]; exact hr))]
        exact h11 r r0 r1 hr
      · exact ⟨(a', b', 0, 1, K', H', s'), ⟨⟨Or.inl rfl, Or.inr rfl⟩, ⟨Or.inl rfl, Or.inr rfl⟩, rfl, rfl, Int.le_refl _, Int.le_refl _, rfl, rfl, h9, h10, h11⟩, Or.inr (Or.inl (Or.inr (Or.inr ⟨q, (by dsimp only; omega), g3, w, rfl⟩)))⟩
  · dsimp only at g1
    exact ⟨(a', b', u', v', K', H', s'), ⟨h1, ⟨Or.inr rfl, h2.2⟩, rfl, rfl, (by dsimp only; omega), h6, rfl, rfl, h9, h10, h11⟩, Or.inl rfl⟩
  · dsimp only at g1 g2 g3 g4 g5
    have cr := b_clr_rng (u := H) (r := r) h10.1 (by omega) g3.1 (by omega)
    have cr' := b_clr_rng (u := H') (r := r) h9.1 (by omega) g3.1 (by omega)
    rcases h1.1 with q | q
    · refine ⟨(a', b', u', v', K', H', s'), ⟨h1, ⟨Or.inl rfl, h2.2⟩, rfl, rfl, (by dsimp only; omega), h6, rfl, rfl, h9, (by dsimp only; omega), ?_⟩, Or.inl rfl⟩
      intro p p0 p1 hp
      dsimp only at hp ⊢
      rw [clr_hb h10.1 h10.2 g3.1 g3.2 p0 p1] at hp
      split at hp
      · omega
      · exact h11 p p0 p1 hp
    · refine ⟨(a', b', 0, v', K', clr H' r, s'), ⟨⟨Or.inl rfl, h1.2⟩, ⟨Or.inl rfl, h2.2⟩, rfl, rfl, Int.le_refl _, h6, rfl, rfl, (by dsimp only; omega), (by dsimp only; omega), ?_⟩, Or.inr (Or.inr (Or.inr (Or.inl ⟨r, q, g2, g3, h9, h11 r g3.1 g3.2 g5, rfl⟩)))⟩
      intro p p0 p1 hp
      dsimp only at hp ⊢
      rw [clr_hb h10.1 h10.2 g3.1 g3.2 p0 p1] at hp
      rw [clr_hb h9.1 h9.2 g3.1 g3.2 p0 p1]
      split at hp
      · omega
      · rename_i qq
        rw [if_neg qq]
        exact h11 p p0 p1 hp
  · dsimp only at g1 g2 g3
    exact ⟨(r, b', 0, v', K', H', s' - 1), ⟨⟨Or.inl rfl, h1.2⟩, ⟨Or.inl rfl, h2.2⟩, rfl, rfl, Int.le_refl _, h6, rfl, rfl, h9, h10, h11⟩, Or.inr (Or.inr (Or.inr (Or.inr ⟨r, (by dsimp only; omega), g2, g3, rfl⟩)))⟩
theorem sim1 (hD : ∀ j : Int, 0 ≤ j → j < 40 → 0 ≤ D j ∧ D j ≤ 5) (hn : n ≤ 10) (hd : ∀ e : Int, 0 ≤ e → e < n → D (4 * e) ≠ D (4 * e + 1)) {x' x y : kS} (hx : blo x' x) (h : bM D n kit False x y) : ∃ y', blo y' y ∧ (y' = x' ∨ bM D n kit True x' y') := by
  have key : (bQ0 D n x y ∨ bL0 D n kit False x y) ∨ (bQ0 D n (sw x) (sw y) ∨ bL0 D n kit False (sw x) (sw y)) := by
    rcases h with (h | h) | (h | h)
    · exact Or.inl (Or.inl h)
    · exact Or.inr (Or.inl h)
    · exact Or.inl (Or.inr h)
    · exact Or.inr (Or.inr h)
  rcases key with h | h
  · obtain ⟨y', e1, e2⟩ := sim0 hD hn hd hx h
    refine ⟨y', e1, ?_⟩
    rcases e2 with e2 | e2 | e2
    · exact Or.inl e2
    · exact Or.inr (Or.inl (Or.inl e2))
    · exact Or.inr (Or.inr (Or.inl e2))
  · obtain ⟨y', e1, e2⟩ := sim0 hD hn hd (blo_sw hx) h
    refine ⟨sw y', blo_sw e1, ?_⟩
    rcases e2 with e2 | e2 | e2
    · exact Or.inl (congrArg sw e2)
    · exact Or.inr (Or.inl (Or.inr e2))
    · exact Or.inr (Or.inr (Or.inr e2))
theorem sims (hD : ∀ j : Int, 0 ≤ j → j < 40 → 0 ≤ D j ∧ D j ≤ 5) (hn : n ≤ 10) (hd : ∀ e : Int, 0 ≤ e → e < n → D (4 * e) ≠ D (4 * e + 1)) {x' x : kS} (hx : blo x' x) : ∀ {N : Nat} {y : kS}, bp (bM D n kit False) N x y → ∃ k y', blo y' y ∧ bp (bM D n kit True) k x' y'
  | 0, y, h => by
    have h : x = y := h
    subst h
    exact ⟨0, x', hx, rfl⟩
  | N + 1, y, ⟨z, h1, h2⟩ => by
    obtain ⟨k, z', e1, e2⟩ := sims hD hn hd hx h1
    obtain ⟨y', f1, f2⟩ := sim1 hD hn hd e1 h2
    rcases f2 with rfl | f2
    · exact ⟨k, _, f1, e2⟩
    · exact ⟨k + 1, y', f1, z', e2, f2⟩
theorem bj_eq {x c : kS} (h : bj x c) : c.1 = x.1 ∧ c.2.1 = x.2.1 ∧ c.2.2.2.2.2.1 = x.2.2.2.2.2.1 ∧ c.2.2.2.2.2.2 = x.2.2.2.2.2.2 := by
  rcases h with ⟨h, rfl⟩ | ⟨a, b, v, H, s, h, rfl, rfl⟩ | ⟨a, b, v, H, s, h, rfl, rfl⟩
  · exact ⟨rfl, rfl, rfl, rfl⟩
  · exact ⟨rfl, rfl, rfl, rfl⟩
  · exact ⟨rfl, rfl, rfl, rfl⟩
theorem b400 (hD : ∀ j : Int, 0 ≤ j → j < 40 → 0 ≤ D j ∧ D j ≤ 5) (hn : n ≤ 10) (hd : ∀ e : Int, 0 ≤ e → e < n → D (4 * e) ≠ D (4 * e + 1)) {v : Int} {x y c : kS} {N : Nat} (hx : kw x) (hj : bj x c) (h4 : pcn x.2.2.2.2.2.1 ≤ 4) (h : bp (bT D n kit) N x y) (he : ends v y) : ∃ (m : Nat) (z : kS), m ≤ 400 ∧ bp (bT D n kit) m x z ∧ ends v z := by
  obtain ⟨_, k, c', e1, e2⟩ := bj_all hD hn hd hx hj h
  obtain ⟨i, hi, e0⟩ := bj_T (D := D) (n := n) (kit := kit) hj
  have q := bj_eq e1
  have p := bj_eq hj
  have hv := bj_v hj
  have hv2 := hv
  unfold bv at hv2
  unfold kw at hx
  rw [← p.2.2.1, ← p.2.2.2] at hx
  rw [← p.2.2.1] at h4
  rcases he with ⟨rfl, g1, g2⟩ | ⟨rfl, g1⟩
  · obtain ⟨k2, y2, f1, f2⟩ := sims hD hn hd (x' := c) (x := c) ⟨hv, hv, rfl, rfl, Int.le_refl _, Int.le_refl _, rfl, rfl, by omega, by omega, fun _ _ _ h => h⟩ e2
    obtain ⟨m, z, a1, a2, a3⟩ := out_short hD hn hd hv (by omega) f2 ⟨f1.2.2.1.trans (q.1.trans g1), f1.2.2.2.1.trans (q.2.1.trans g2)⟩
    refine ⟨i + m, z, ?_, bp_app e0 a2, Or.inl ⟨rfl, a3⟩⟩
    unfold bPo at a1
    omega
  · obtain ⟨m, z, a1, a2, a3⟩ := fed_short hD hn hd hv (by omega) (by omega) e2 (q.2.2.1.trans g1)
    refine ⟨i + m, z, ?_, bp_app e0 a2, Or.inr ⟨rfl, a3⟩⟩
    unfold bPf at a1
    split at a1
    · omega
    · split at a1
      · omega
      · split at a1 <;> omega
end BG
