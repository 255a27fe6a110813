/-! ===== pigeons (pasted from laws/COUNTS) ===== -/
theorem fb_holes : ∀ (m n : Nat) (f : Nat → Nat), (∀ i, i < n → f i < m) → (∀ i j, i < j → j < n → f i ≠ f j) → n ≤ m := by
  intro m
  induction m with
  | zero =>
    intro n f h1 _
    rcases Nat.eq_zero_or_pos n with h | h
    · omega
    · exact absurd (h1 0 h) (Nat.not_lt_zero _)
  | succ m ih =>
    intro n f h1 h2
    by_cases hx : ∃ i, i < n ∧ f i = m
    · obtain ⟨a, ha, hfa⟩ := hx
      have hg := ih (n - 1) (fun i => if i < a then f i else f (i + 1)) (by
        intro i hi
        by_cases q : i < a
        · simp only [if_pos q]
          have b1 := h1 i (by omega)
          have b2 := h2 i a q ha
          omega
        · simp only [if_neg q]
          have b1 := h1 (i + 1) (by omega)
          have b2 := h2 a (i + 1) (by omega) (by omega)
          omega) (by
        intro i j hij hj
        by_cases q : i < a
        · by_cases r : j < a
          · simp only [if_pos q, if_pos r]
            exact h2 i j hij (by omega)
          · simp only [if_pos q, if_neg r]
            exact h2 i (j + 1) (by omega) (by omega)
        · have r : ¬ j < a := by omega
          simp only [if_neg q, if_neg r]
          exact h2 (i + 1) (j + 1) (by omega) (by omega))
      omega
    · have hg := ih n f (fun i hi => by
        have b1 := h1 i hi
        have b2 : f i ≠ m := fun e => hx ⟨i, hi, e⟩
        omega) h2
      omega
/-- two of them in one place -/
theorem fb_twice {m n : Nat} {f : Nat → Nat} (h : ∀ i, i < n → f i < m) (hm : m < n) : ∃ i j, i < j ∧ j < n ∧ f i = f j := by
  refine Classical.byContradiction fun hx => ?_
  have := fb_holes m n f h (fun i j hij hj e => hx ⟨i, j, hij, hj, e⟩)
  omega
/-- as many as places, none twice: each place is taken -/

/-! ===== rows of moves: by their length; in six rooms five are enough ===== -/
def bp {α : Type} (R : α → α → Prop) : Nat → α → α → Prop
  | 0, x, y => x = y
  | n + 1, x, y => ∃ z, bp R n x z ∧ R z y
theorem bp_app {α : Type} {R : α → α → Prop} {x y : α} : ∀ {m n : Nat} {z : α}, bp R n x y → bp R m y z → bp R (n + m) x z
  | 0, n, z, h1, h2 => by
    have h2 : y = z := h2
    subst h2
    exact h1
  | m + 1, n, z, h1, ⟨u, h2, h3⟩ => ⟨u, bp_app h1 h2, h3⟩
theorem bp_one {α : Type} {R : α → α → Prop} {x y : α} (h : R x y) : bp R 1 x y := ⟨x, rfl, h⟩
theorem bp_mono {α : Type} {R R' : α → α → Prop} (hR : ∀ x y, R x y → R' x y) : ∀ {n : Nat} {x y : α}, bp R n x y → bp R' n x y
  | 0, _, _, h => h
  | _ + 1, _, _, ⟨z, h1, h2⟩ => ⟨z, bp_mono hR h1, hR _ _ h2⟩
theorem bp_map {α β : Type} {R : α → α → Prop} {R' : β → β → Prop} (f : α → β) (hR : ∀ x y, R x y → R' (f x) (f y)) : ∀ {n : Nat} {x y : α}, bp R n x y → bp R' n (f x) (f y)
  | 0, _, _, h => congrArg f h
  | _ + 1, _, _, ⟨z, h1, h2⟩ => ⟨f z, bp_map f hR h1, hR _ _ h2⟩
theorem bp_fun {R : Nat → Nat → Prop} : ∀ {n x y : Nat}, bp R n x y → ∃ v : Nat → Nat, v 0 = x ∧ v n = y ∧ ∀ i, i < n → R (v i) (v (i + 1))
  | 0, x, y, h => ⟨fun _ => x, rfl, h, fun i hi => absurd hi (Nat.not_lt_zero i)⟩
  | n + 1, x, y, ⟨z, h1, h2⟩ => by
    obtain ⟨v, e1, e2, e3⟩ := bp_fun h1
    refine ⟨fun i => if i ≤ n then v i else y, by simp [e1], by simp, fun i hi => ?_⟩
    by_cases hin : i < n
    · simp only [if_pos (Nat.le_of_lt hin), if_pos (show i + 1 ≤ n from hin)]
      exact e3 i hin
    · have e : i = n := by omega
      subst e
      simp only [Nat.le_refl, if_true, show ¬ i + 1 ≤ i by omega, if_false]
      rw [e2]
      exact h2
theorem bp_of_fun {R : Nat → Nat → Prop} (v : Nat → Nat) : ∀ n : Nat, (∀ i, i < n → R (v i) (v (i + 1))) → bp R n (v 0) (v n)
  | 0, _ => rfl
  | n + 1, h => ⟨v n, bp_of_fun v n (fun i hi => h i (by omega)), h n (by omega)⟩
theorem bp_five {R : Nat → Nat → Prop} (hR : ∀ x y, R x y → x < 6 ∧ y < 6) : ∀ (n : Nat) {x y : Nat}, bp R n x y → ∃ m, m ≤ 5 ∧ bp R m x y := by
  intro n
  induction n using Nat.strongRecOn with
  | _ n ih =>
    intro x y h
    by_cases hn : n ≤ 5
    · exact ⟨n, hn, h⟩
    · obtain ⟨v, e1, e2, e3⟩ := bp_fun h
      obtain ⟨i, j, hij, hj, hv⟩ := fb_twice (m := 6) (n := 7) (f := v) (fun i hi => (hR _ _ (e3 i (by omega))).1) (by omega)
      let u : Nat → Nat := fun k => if k ≤ i then v k else v (k + (j - i))
      have hu : ∀ k, k < n - (j - i) → R (u k) (u (k + 1)) := fun k hk => by
        by_cases h1 : k < i
        · simp only [u, if_pos (Nat.le_of_lt h1), if_pos (show k + 1 ≤ i from h1)]
          exact e3 k (by omega)
        · by_cases h2 : k = i
          · subst h2
            simp only [u, Nat.le_refl, if_true, show ¬ k + 1 ≤ k by omega, if_false]
            rw [hv, show k + 1 + (j - k) = j + 1 by omega]
            exact e3 j (by omega)
          · simp only [u, if_neg (show ¬ k ≤ i by omega), if_neg (show ¬ k + 1 ≤ i by omega)]
            rw [show k + 1 + (j - i) = k + (j - i) + 1 by omega]
            exact e3 (k + (j - i)) (by omega)
      have h9 := bp_of_fun u (n - (j - i)) hu
      have ea : u 0 = x := by simp only [u, Nat.zero_le, if_true]; exact e1
      have eb : u (n - (j - i)) = y := by
        simp only [u, if_neg (show ¬ n - (j - i) ≤ i by omega)]
        rw [show n - (j - i) + (j - i) = n by omega]
        exact e2
      rw [ea, eb] at h9
      exact ih (n - (j - i)) (by omega) h9
/-! ===== two guards and a key: who has the key with him goes; fifteen moves are enough ===== -/
section KEY
variable (S D : Nat → Nat → Prop) (m0 m1 : Prop)
/-- rooms of the guards, room of the key; S: doors for one, D: doors for both; m0, m1: who can take the key -/
def bk (s t : Nat × (Nat × Nat)) : Prop :=
  (m0 ∧ s.2.2 = s.1 ∧ t.2.1 = s.2.1 ∧ t.2.2 = t.1 ∧ S s.1 t.1) ∨ (m1 ∧ s.2.2 = s.2.1 ∧ t.1 = s.1 ∧ t.2.2 = t.2.1 ∧ S s.2.1 t.2.1) ∨ ((m0 ∨ m1) ∧ s.2.2 = s.1 ∧ s.2.1 = s.1 ∧ t.2.1 = t.1 ∧ t.2.2 = t.1 ∧ D s.1 t.1)
variable {S D m0 m1}
theorem bk_solo0 (h0 : m0) {b : Nat} {n x y : Nat} (h : bp S n x y) : bp (bk S D m0 m1) n (x, b, x) (y, b, y) := bp_map (fun z => (z, b, z)) (fun _ _ hr => Or.inl ⟨h0, rfl, rfl, rfl, hr⟩) h
theorem bk_solo1 (h1 : m1) {a : Nat} {n x y : Nat} (h : bp S n x y) : bp (bk S D m0 m1) n (a, x, x) (a, y, y) := bp_map (fun z => (a, z, z)) (fun _ _ hr => Or.inr (Or.inl ⟨h1, rfl, rfl, rfl, hr⟩)) h
theorem bk_both (h01 : m0 ∨ m1) {n x y : Nat} (h : bp D n x y) : bp (bk S D m0 m1) n (x, x, x) (y, y, y) := bp_map (fun z => (z, z, z)) (fun _ _ hr => Or.inr (Or.inr ⟨h01, rfl, rfl, rfl, rfl, hr⟩)) h
/-- how they come to be together in r -/
def bk_meet (S D : Nat → Nat → Prop) (m0 m1 : Prop) (s : Nat × (Nat × Nat)) (r : Nat) : Prop :=
  s = (r, r, r) ∨ (m0 ∧ s.2.2 = s.1 ∧ s.2.1 = r ∧ ∃ n, bp S n s.1 r) ∨ (m1 ∧ s.2.2 = s.2.1 ∧ s.1 = r ∧ ∃ n, bp S n s.2.1 r)
/-- what can be reached: nothing moved; one alone; or together, then both, then one alone -/
def bk_set (S D : Nat → Nat → Prop) (m0 m1 : Prop) (s t : Nat × (Nat × Nat)) : Prop :=
  t = s ∨ (m0 ∧ s.2.2 = s.1 ∧ ∃ n y, bp S n s.1 y ∧ t = (y, s.2.1, y)) ∨ (m1 ∧ s.2.2 = s.2.1 ∧ ∃ n y, bp S n s.2.1 y ∧ t = (s.1, y, y)) ∨
  ∃ r c, bk_meet S D m0 m1 s r ∧ (∃ n, bp D n r c) ∧ (t = (c, c, c) ∨ (m0 ∧ ∃ n y, bp S n c y ∧ t = (y, c, y)) ∨ (m1 ∧ ∃ n y, bp S n c y ∧ t = (c, y, y)))
theorem bk_step {s t u : Nat × (Nat × Nat)} (h : bk_set S D m0 m1 s t) (hs : bk S D m0 m1 t u) : bk_set S D m0 m1 s u := by
  obtain ⟨u1, u2, u3⟩ := u
  rcases h with rfl | ⟨h0, hk, n, y, hp, rfl⟩ | ⟨h1, hk, n, y, hp, rfl⟩ | ⟨r, c, hm, ⟨n, hd⟩, ht⟩
  · obtain ⟨t1, t2, t3⟩ := t
    rcases hs with ⟨g0, g1, g2, g3, g4⟩ | ⟨g0, g1, g2, g3, g4⟩ | ⟨g0, g1, g2, g3, g4, g5⟩
    · dsimp only at g1 g2 g3 g4
      subst g1 g2 g3
      exact Or.inr (Or.inl ⟨g0, rfl, 1, u3, bp_one g4, rfl⟩)
    · dsimp only at g1 g2 g3 g4
      subst g1 g2 g3
      exact Or.inr (Or.inr (Or.inl ⟨g0, rfl, 1, u3, bp_one g4, rfl⟩))
    · dsimp only at g1 g2 g3 g4 g5
      subst g1 g2 g3 g4
      exact Or.inr (Or.inr (Or.inr ⟨_, _, Or.inl rfl, ⟨1, bp_one g5⟩, Or.inl rfl⟩))
  · obtain ⟨s1, s2, s3⟩ := s
    dsimp only at hk
    subst hk
    rcases hs with ⟨g0, g1, g2, g3, g4⟩ | ⟨g0, g1, g2, g3, g4⟩ | ⟨g0, g1, g2, g3, g4, g5⟩
    · dsimp only at g1 g2 g3 g4 hp
      subst g2 g3
      exact Or.inr (Or.inl ⟨h0, rfl, n + 1, u3, ⟨y, hp, g4⟩, rfl⟩)
    · dsimp only at g1 g2 g3 g4 hp
      subst g1 g2 g3
      exact Or.inr (Or.inr (Or.inr ⟨y, y, Or.inr (Or.inl ⟨h0, rfl, rfl, n, hp⟩), ⟨0, rfl⟩, Or.inr (Or.inr ⟨g0, 1, u3, bp_one g4, rfl⟩)⟩))
    · dsimp only at g1 g2 g3 g4 g5 hp
      subst g2 g3 g4
      exact Or.inr (Or.inr (Or.inr ⟨_, _, Or.inr (Or.inl ⟨h0, rfl, rfl, n, hp⟩), ⟨1, bp_one g5⟩, Or.inl rfl⟩))
  · obtain ⟨s1, s2, s3⟩ := s
    dsimp only at hk
    subst hk
    rcases hs with ⟨g0, g1, g2, g3, g4⟩ | ⟨g0, g1, g2, g3, g4⟩ | ⟨g0, g1, g2, g3, g4, g5⟩
    · dsimp only at g1 g2 g3 g4 hp
      subst g1 g2 g3
      exact Or.inr (Or.inr (Or.inr ⟨_, _, Or.inr (Or.inr ⟨h1, rfl, rfl, n, hp⟩), ⟨0, rfl⟩, Or.inr (Or.inl ⟨g0, 1, u3, bp_one g4, rfl⟩)⟩))
    · dsimp only at g1 g2 g3 g4 hp
      subst g2 g3
      exact Or.inr (Or.inr (Or.inl ⟨h1, rfl, n + 1, u3, ⟨y, hp, g4⟩, rfl⟩))
    · dsimp only at g1 g2 g3 g4 g5 hp
      subst g2 g3 g4
      exact Or.inr (Or.inr (Or.inr ⟨_, _, Or.inr (Or.inr ⟨h1, rfl, rfl, n, hp⟩), ⟨1, bp_one g5⟩, Or.inl rfl⟩))
  · rcases ht with rfl | ⟨h0, k, y, hp, rfl⟩ | ⟨h1, k, y, hp, rfl⟩
    · rcases hs with ⟨g0, g1, g2, g3, g4⟩ | ⟨g0, g1, g2, g3, g4⟩ | ⟨g0, g1, g2, g3, g4, g5⟩
      · dsimp only at g1 g2 g3 g4
        subst g2 g3
        exact Or.inr (Or.inr (Or.inr ⟨r, _, hm, ⟨n, hd⟩, Or.inr (Or.inl ⟨g0, 1, u3, bp_one g4, rfl⟩)⟩))
      · dsimp only at g1 g2 g3 g4
        subst g2 g3
        exact Or.inr (Or.inr (Or.inr ⟨r, _, hm, ⟨n, hd⟩, Or.inr (Or.inr ⟨g0, 1, u3, bp_one g4, rfl⟩)⟩))
      · dsimp only at g1 g2 g3 g4 g5
        subst g3 g4
        exact Or.inr (Or.inr (Or.inr ⟨r, _, hm, ⟨n + 1, c, hd, g5⟩, Or.inl rfl⟩))
    · rcases hs with ⟨g0, g1, g2, g3, g4⟩ | ⟨g0, g1, g2, g3, g4⟩ | ⟨g0, g1, g2, g3, g4, g5⟩
      · dsimp only at g1 g2 g3 g4
        subst g2 g3
        exact Or.inr (Or.inr (Or.inr ⟨r, _, hm, ⟨n, hd⟩, Or.inr (Or.inl ⟨h0, k + 1, u3, ⟨y, hp, g4⟩, rfl⟩)⟩))
      · dsimp only at g1 g2 g3 g4
        subst g1 g2 g3
        exact Or.inr (Or.inr (Or.inr ⟨r, _, hm, ⟨n, hd⟩, Or.inr (Or.inr ⟨g0, 1, u3, bp_one g4, rfl⟩)⟩))
      · dsimp only at g1 g2 g3 g4 g5
        subst g2 g3 g4
        exact Or.inr (Or.inr (Or.inr ⟨r, _, hm, ⟨n + 1, _, hd, g5⟩, Or.inl rfl⟩))
    · rcases hs with ⟨g0, g1, g2, g3, g4⟩ | ⟨g0, g1, g2, g3, g4⟩ | ⟨g0, g1, g2, g3, g4, g5⟩
      · dsimp only at g1 g2 g3 g4
        subst g1 g2 g3
        exact Or.inr (Or.inr (Or.inr ⟨r, _, hm, ⟨n, hd⟩, Or.inr (Or.inl ⟨g0, 1, u3, bp_one g4, rfl⟩)⟩))
      · dsimp only at g1 g2 g3 g4
        subst g2 g3
        exact Or.inr (Or.inr (Or.inr ⟨r, _, hm, ⟨n, hd⟩, Or.inr (Or.inr ⟨h1, k + 1, u3, ⟨y, hp, g4⟩, rfl⟩)⟩))
      · dsimp only at g1 g2 g3 g4 g5
        subst g2 g3 g4
        exact Or.inr (Or.inr (Or.inr ⟨r, _, hm, ⟨n + 1, _, hd, g5⟩, Or.inl rfl⟩))
theorem bk_all {s : Nat × (Nat × Nat)} : ∀ {n : Nat} {t : Nat × (Nat × Nat)}, bp (bk S D m0 m1) n s t → bk_set S D m0 m1 s t
  | 0, _, h => Or.inl h.symm
  | _ + 1, _, ⟨_, h1, h2⟩ => bk_step (bk_all h1) h2
theorem bk_fifteen (hS : ∀ x y, S x y → x < 6 ∧ y < 6) (hD : ∀ x y, D x y → x < 6 ∧ y < 6) {s t : Nat × (Nat × Nat)} {n : Nat} (h : bp (bk S D m0 m1) n s t) : ∃ m, m ≤ 15 ∧ bp (bk S D m0 m1) m s t := by
  obtain ⟨s1, s2, s3⟩ := s
  rcases bk_all h with rfl | ⟨h0, hk, k, y, hp, rfl⟩ | ⟨h1, hk, k, y, hp, rfl⟩ | ⟨r, c, hm, ⟨k, hd⟩, ht⟩
  · exact ⟨0, by omega, rfl⟩
  · dsimp only at hk hp
    subst hk
    obtain ⟨m, hm, hp⟩ := bp_five hS k hp
    exact ⟨m, by omega, bk_solo0 h0 hp⟩
  · dsimp only at hk hp
    subst hk
    obtain ⟨m, hm, hp⟩ := bp_five hS k hp
    exact ⟨m, by omega, bk_solo1 h1 hp⟩
  · obtain ⟨j1, hj1, p1⟩ : ∃ j1, j1 ≤ 5 ∧ bp (bk S D m0 m1) j1 (s1, s2, s3) (r, r, r) := by
      rcases hm with hm | ⟨h0, hk, hb, i, hp⟩ | ⟨h1, hk, hb, i, hp⟩
      · exact ⟨0, by omega, hm⟩
      · dsimp only at hk hb hp
        subst hk hb
        obtain ⟨m, hm, hp⟩ := bp_five hS i hp
        exact ⟨m, hm, bk_solo0 h0 hp⟩
      · dsimp only at hk hb hp
        subst hk hb
        obtain ⟨m, hm, hp⟩ := bp_five hS i hp
        exact ⟨m, hm, bk_solo1 h1 hp⟩
    obtain ⟨j2, hj2, p2⟩ := bp_five hD k hd
    have hboth : bp (bk S D m0 m1) j2 (r, r, r) (c, c, c) := by
      by_cases h01 : m0 ∨ m1
      · exact bk_both h01 p2
      · exfalso
        sorry
    sorry
end KEY
