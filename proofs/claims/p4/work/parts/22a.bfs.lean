/-! ===== standings that can be, and the search level by level (pure) ===== -/
def dOk (D : Int → Int) (n : Int) : Prop := (∀ j : Int, 0 ≤ j → j < 40 → 0 ≤ D j ∧ D j ≤ 5) ∧ n ≤ 10 ∧ (∀ e : Int, 0 ≤ e → e < n → D (4 * e) ≠ D (4 * e + 1))
def kv (t : Int) (x : kS) : Prop := kw x ∧ (∃ c, bj x c) ∧ HO t (HC t x.2.2.2.2.2.1 6) 6 = x.2.2.2.2.2.1
theorem pc_all : ∀ (t u : Fin 64), pcn (t.val : Int) ≤ 4 → HO (t.val : Int) (HC (t.val : Int) (u.val : Int) 6) 6 = (u.val : Int) → pcn (u.val : Int) ≤ 4 := by decide +kernel
theorem kv_pc {t : Int} {x : kS} (h0 : 0 ≤ t) (h1 : t ≤ 63) (h4 : pcn t ≤ 4) (hx : kv t x) : pcn x.2.2.2.2.2.1 ≤ 4 := by
  obtain ⟨hw, _, hh⟩ := hx
  unfold kw at hw
  generalize x.2.2.2.2.2.1 = u at hw hh ⊢
  obtain ⟨k, rfl⟩ := b_fin (n := 64) h0 (by omega)
  obtain ⟨l, rfl⟩ := b_fin (n := 64) hw.2.2.2.2.2.1.1 (by omega)
  exact pc_all k l h4 hh
theorem kv_th {t : Int} {a b u v K H s : Int} (hx : kv t (a, b, u, v, K, H, s)) : 0 ≤ th (a, b, u, v, K, H, s) ∧ th (a, b, u, v, K, H, s) ≤ 27 ∧ u = (if th (a, b, u, v, K, H, s) < 24 then th (a, b, u, v, K, H, s) / 12 else if th (a, b, u, v, K, H, s) < 26 then 2 else th (a, b, u, v, K, H, s) - 26) ∧ v = (if th (a, b, u, v, K, H, s) < 24 then th (a, b, u, v, K, H, s) / 6 % 2 else if th (a, b, u, v, K, H, s) < 26 then th (a, b, u, v, K, H, s) - 24 else 2) ∧ K = (if th (a, b, u, v, K, H, s) < 24 then th (a, b, u, v, K, H, s) % 6 else -1) := by
  obtain ⟨hw, ⟨c, hj⟩, _⟩ := hx
  unfold kw at hw
  dsimp only at hw
  rcases hj with ⟨hv, _⟩ | ⟨a', b', v', H', s', hv, e, _⟩ | ⟨a', b', u', H', s', hv, e, _⟩
  · unfold bv at hv
    dsimp only at hv
    have e9 : th (a, b, u, v, K, H, s) = (u * 2 + v) * 6 + K := by
      show (if u = 2 then 24 + v else if v = 2 then 26 + u else (u * 2 + v) * 6 + K) = _
      rw [if_neg (by omega), if_neg (by omega)]
    rw [e9, if_pos (by omega), if_pos (by omega), if_pos (by omega)]
    omega
  · injection e with e1 e
    injection e with e2 e
    injection e with e3 e
    injection e with e4 e
    injection e with e5 e
    have e9 : th (a, b, u, v, K, H, s) = 24 + v := if_pos e3
    rw [e9, if_neg (by omega), if_pos (by omega), if_neg (by omega), if_pos (by omega), if_neg (by omega)]
    omega
  · injection e with e1 e
    injection e with e2 e
    injection e with e3 e
    injection e with e4 e
    injection e with e5 e
    have e9 : th (a, b, u, v, K, H, s) = 26 + u := by
      show (if u = 2 then 24 + v else if v = 2 then 26 + u else (u * 2 + v) * 6 + K) = _
      rw [if_neg (by omega), if_pos e4]
    rw [e9, if_neg (by omega), if_neg (by omega), if_neg (by omega), if_neg (by omega), if_neg (by omega)]
    omega
theorem unn_num {t : Int} {x : kS} (h0 : 0 ≤ t) (h1 : t ≤ 63) (h4 : pcn t ≤ 4) (hx : kv t x) : unn t (num t x) = x ∧ 0 ≤ num t x ∧ num t x ≤ 64511 := by
  obtain ⟨a, b, u, v, K, H, s⟩ := x
  obtain ⟨q0, q1, q2, q3, q4⟩ := kv_th hx
  have hw := hx.1
  have hh := hx.2.2
  unfold kw at hw
  dsimp only at hw hh
  have hc := HC_rng (t := t) (u := H) h0 (by omega) (by omega) (by omega) h4
  have hn : num t (a, b, u, v, K, H, s) = (((a * 6 + b) * 28 + th (a, b, u, v, K, H, s)) * 16 + HC t H 6) * 4 + s := rfl
  generalize th (a, b, u, v, K, H, s) = g at q0 q1 q2 q3 q4 hn
  rw [hn]
  have e1 : ((((a * 6 + b) * 28 + g) * 16 + HC t H 6) * 4 + s) / 10752 = a := by omega
  have e2 : ((((a * 6 + b) * 28 + g) * 16 + HC t H 6) * 4 + s) / 1792 % 6 = b := by omega
  have e3 : ((((a * 6 + b) * 28 + g) * 16 + HC t H 6) * 4 + s) / 64 % 28 = g := by omega
  have e4 : ((((a * 6 + b) * 28 + g) * 16 + HC t H 6) * 4 + s) / 4 % 16 = HC t H 6 := by omega
  have e5 : ((((a * 6 + b) * 28 + g) * 16 + HC t H 6) * 4 + s) % 4 = s := by omega
  refine ⟨?_, by omega, by omega⟩
  unfold unn
  rw [e1, e2, e3, e4, e5, hh, ← q2, ← q3, ← q4]
theorem kv_unn {t n : Int} (h0 : 0 ≤ t) (h1 : t ≤ 63) (hn0 : 0 ≤ n) (hn1 : n ≤ 64511) : kv t (unn t n) := by
  have hr := HO_rng (t := t) (c := n / 4 % 16) h0 (by omega) (by omega) (by omega)
  have e : 0 ≤ n / 64 % 28 ∧ n / 64 % 28 ≤ 27 := by omega
  refine ⟨?_, ?_, hr.2.2⟩
  · unfold kw unn
    dsimp only
    refine ⟨by omega, by omega, ?_, ?_, ?_, by omega, by omega, ?_⟩
    · split
      · omega
      · split <;> omega
    · split
      · omega
      · split <;> omega
    · split <;> omega
    · by_cases h : n / 64 % 28 < 24
      · rw [if_pos h]; omega
      · by_cases h2 : n / 64 % 28 < 26
        · exact Or.inr (Or.inl (by rw [if_neg h, if_pos h2]))
        · exact Or.inr (Or.inr (by rw [if_neg h, if_neg h2]))
  · by_cases h : n / 64 % 28 < 24
    · refine ⟨_, Or.inl ⟨?_, rfl⟩⟩
      unfold bv unn
      dsimp only
      rw [if_pos h, if_pos h]
      omega
    · by_cases h2 : n / 64 % 28 < 26
      · refine ⟨_, Or.inr (Or.inl ⟨n / 10752, n / 1792 % 6, n / 64 % 28 - 24, HO t (n / 4 % 16) 6, n % 4, by omega, ?_, rfl⟩)⟩
        unfold unn
        rw [if_neg h, if_pos h2, if_neg h, if_pos h2, if_neg h]
      · refine ⟨_, Or.inr (Or.inr ⟨n / 10752, n / 1792 % 6, n / 64 % 28 - 26, HO t (n / 4 % 16) 6, n % 4, by omega, ?_, rfl⟩)⟩
        unfold unn
        rw [if_neg h, if_neg h2, if_neg h, if_neg h2, if_neg h]
theorem stp0_H {D : Int → Int} {n kit : Int} {x y : kS} {c : Int} (hD : dOk D n) (h0 : 0 ≤ c) (h : stp_0 D n kit x c = some y) (hx : kw x) : y.2.2.2.2.2.1 = x.2.2.2.2.2.1 ∨ ∃ r, 0 ≤ r ∧ r ≤ 5 ∧ y.2.2.2.2.2.1 = clr x.2.2.2.2.2.1 r := by
  rcases stp_iv h0 h with ⟨h1, h2, rfl⟩ | ⟨h1, rfl⟩ | ⟨h1, h2, rfl⟩ | ⟨r, h1, h2, h3, rfl⟩ | ⟨h1, h2, h3, h4, rfl⟩ | ⟨r, h1, h2, rfl⟩ | ⟨r, h1, h2, h3, rfl⟩ | ⟨r, h1, h2, h3, rfl⟩
  · exact Or.inl rfl
  · exact Or.inl rfl
  · exact Or.inl rfl
  · rcases h2 with rfl | h2
    · exact Or.inr ⟨_, hx.1.1, hx.1.2, rfl⟩
    · have := (bW_r hD.1 hD.2.1 hD.2.2 h2).2.1
      exact Or.inr ⟨_, this.1, this.2, rfl⟩
  · exact Or.inl rfl
  · exact Or.inl rfl
  · exact Or.inl rfl
  · exact Or.inl rfl
theorem bT_H {D : Int → Int} {n kit : Int} {x y : kS} (hD : dOk D n) (h : bT D n kit x y) (hx : kw x) : y.2.2.2.2.2.1 = x.2.2.2.2.2.1 ∨ ∃ r, 0 ≤ r ∧ r ≤ 5 ∧ y.2.2.2.2.2.1 = clr x.2.2.2.2.2.1 r := by
  obtain ⟨c, h0, h1, h⟩ := h
  unfold stp at h
  split at h
  · exact stp0_H hD h0 h hx
  · rw [stp_sw] at h
    cases hq : stp_0 D n kit (sw x) (c - 50) with
    | none => rw [hq] at h; cases h
    | some z =>
      rw [hq] at h
      have h : some (sw z) = some y := h
      rw [← Option.some.inj h]
      have h9 := stp0_H hD (by omega) hq (kw_sw hD.1 hD.2.1 hD.2.2 hx)
      exact h9
theorem kv_T {t : Int} {D : Int → Int} {n kit : Int} {x y : kS} (h0 : 0 ≤ t) (h1 : t ≤ 63) (hD : dOk D n) (h : bT D n kit x y) (hx : kv t x) : kv t y := by
  obtain ⟨hw, ⟨c, hj⟩, hh⟩ := hx
  obtain ⟨c', hc', _⟩ := bj1 hD.1 hD.2.1 hD.2.2 h hw hj
  refine ⟨bT_kw hD.1 hD.2.1 hD.2.2 h hw, ⟨c', hc'⟩, ?_⟩
  rcases bT_H hD h hw with e | ⟨r, r0, r1, e⟩
  · rw [e]
    exact hh
  · rw [e]
    have hu := hw.2.2.2.2.2.1
    generalize x.2.2.2.2.2.1 = u at hh hu ⊢
    obtain ⟨k, rfl⟩ := b_fin (n := 64) h0 (by omega)
    obtain ⟨l, rfl⟩ := b_fin (n := 64) hu.1 (by omega)
    obtain ⟨j, rfl⟩ := b_fin (n := 6) r0 (by omega)
    exact ku_clr_all k l j hh
theorem kv_stp {t : Int} {D : Int → Int} {n kit c : Int} {x y : kS} (h0 : 0 ≤ t) (h1 : t ≤ 63) (hD : dOk D n) (hc0 : 0 ≤ c) (hc1 : c ≤ 99) (h : stp D n kit x c = some y) (hx : kv t x) : kv t y := kv_T h0 h1 hD ⟨c, hc0, hc1, h⟩ hx
theorem kw_stp {D : Int → Int} {n kit c : Int} {x y : kS} (hD : dOk D n) (hc0 : -1 ≤ c) (hc1 : c ≤ 99) (h : stp D n kit x c = some y) (hx : kw x) : kw y := by
  by_cases hc : 0 ≤ c
  · exact bT_kw hD.1 hD.2.1 hD.2.2 ⟨c, hc, hc1, h⟩ hx
  · have e : c = -1 := by omega
    subst e
    obtain ⟨a, b, u, v, K, H, s⟩ := x
    unfold kw at hx
    dsimp only at hx
    have h : (if u = 1 ∧ hb H a = 1 then some (a, b, 0, v, K, H, s) else none) = some y := h
    split at h
    · rw [← Option.some.inj h]
      unfold kw
      dsimp only
      omega
    · cases h
/-! the search -/
def bB (D : Int → Int) (n kit t : Int) (x0 : kS) (dp W : Int → Int) (N k c : Int) : Prop :=
  (0 ≤ k ∧ k ≤ N ∧ N ≤ 64512 ∧ 1 ≤ N) ∧
  (∀ p, 0 ≤ p → p < N → 0 ≤ W p ∧ W p ≤ 64511 ∧ 0 ≤ dp (W p) ∧ dp (W p) ≤ p) ∧
  (∀ p q, 0 ≤ p → p < q → q < N → W p ≠ W q) ∧
  (∀ p q, 0 ≤ p → p ≤ q → q < N → dp (W p) ≤ dp (W q)) ∧
  (∀ p q, k ≤ p → p < N → 0 ≤ q → q < N → dp (W q) ≤ dp (W p) + 1) ∧
  (∀ y, 0 ≤ y → y ≤ 64511 → dp y ≠ -1 → ∃ p, 0 ≤ p ∧ p < N ∧ W p = y) ∧
  (∀ p cc y, 0 ≤ p → p < N → 0 ≤ cc → cc ≤ 99 → (p < k ∨ (p = k ∧ cc < c)) → stp D n kit (unn t (W p)) cc = some y → dp (num t y) ≠ -1 ∧ dp (num t y) ≤ dp (W p) + 1) ∧
  (∀ p, 0 ≤ p → p < N → ∃ j, bp (bT D n kit) j x0 (unn t (W p))) ∧
  (W 0 = num t x0 ∧ dp (W 0) = 0)
theorem bB_skip {D : Int → Int} {n kit t : Int} {x0 : kS} {dp W : Int → Int} {N k c : Int} (h : bB D n kit t x0 dp W N k c) (hs : stp D n kit (unn t (W k)) c = none) : bB D n kit t x0 dp W N k (c + 1) := by
  obtain ⟨a1, a2, a3, a4, a5, a6, a7, a8, a9⟩ := h
  refine ⟨a1, a2, a3, a4, a5, a6, fun p cc y p0 p1 c0 c1 hor hst => ?_, a8, a9⟩
  by_cases e : p = k ∧ cc = c
  · rw [e.1, e.2, hs] at hst
    cases hst
  · exact a7 p cc y p0 p1 c0 c1 (by omega) hst
theorem bB_old {D : Int → Int} {n kit t : Int} {x0 y : kS} {dp W : Int → Int} {N k c : Int} (h : bB D n kit t x0 dp W N k c) (hk : k < N) (hs : stp D n kit (unn t (W k)) c = some y) (hy0 : 0 ≤ num t y) (hy1 : num t y ≤ 64511) (hd : dp (num t y) ≠ -1) : bB D n kit t x0 dp W N k (c + 1) := by
  obtain ⟨a1, a2, a3, a4, a5, a6, a7, a8, a9⟩ := h
  refine ⟨a1, a2, a3, a4, a5, a6, fun p cc y' p0 p1 c0 c1 hor hst => ?_, a8, a9⟩
  by_cases e : p = k ∧ cc = c
  · rw [e.1, e.2, hs] at hst
    rw [← Option.some.inj hst, e.1]
    obtain ⟨q, q0, q1, q2⟩ := a6 _ hy0 hy1 hd
    refine ⟨hd, ?_⟩
    rw [← q2]
    exact a5 k q (Int.le_refl _) hk q0 q1
  · exact a7 p cc y' p0 p1 c0 c1 (by omega) hst
theorem bB_room {D : Int → Int} {n kit t y : Int} {x0 : kS} {dp W : Int → Int} {N k c : Int} (h : bB D n kit t x0 dp W N k c) (hy0 : 0 ≤ y) (hy1 : y ≤ 64511) (hd : dp y = -1) : N < 64512 := by
  obtain ⟨a1, a2, a3, a4, a5, a6, a7, a8, a9⟩ := h
  have h9 := bp_holes 64512 (N.toNat + 1) (fun i => if i < N.toNat then (W (i : Int)).toNat else y.toNat) (fun i hi => by
    show (if i < N.toNat then (W (i : Int)).toNat else y.toNat) < 64512
    split
    · rename_i hi2
      have := a2 (i : Int) (by omega) (by omega)
      omega
    · omega) (fun i j hij hj e => by
    have e : (if i < N.toNat then (W (i : Int)).toNat else y.toNat) = (if j < N.toNat then (W (j : Int)).toNat else y.toNat) := e
    rw [if_pos (by omega)] at e
    have h1 := a2 (i : Int) (by omega) (by omega)
    split at e
    · rename_i hj2
      have h2 := a2 (j : Int) (by omega) (by omega)
      exact a3 (i : Int) (j : Int) (by omega) (by omega) (by omega) (by omega)
    · have e2 : W (i : Int) = y := by omega
      rw [e2] at h1
      omega)
  omega
theorem bB_new {D : Int → Int} {n kit t : Int} {x0 y : kS} {dp W : Int → Int} {N k c : Int} (h : bB D n kit t x0 dp W N k c) (hk : k < N) (hc0 : 0 ≤ c) (hc1 : c ≤ 99) (hs : stp D n kit (unn t (W k)) c = some y) (hy0 : 0 ≤ num t y) (hy1 : num t y ≤ 64511) (hu : unn t (num t y) = y) (hd : dp (num t y) = -1) : bB D n kit t x0 (up dp (num t y) (dp (W k) + 1)) (up W N (num t y)) (N + 1) k (c + 1) := by
  have hr := bB_room h hy0 hy1 hd
  obtain ⟨a1, a2, a3, a4, a5, a6, a7, a8, a9⟩ := h
  have f1 : ∀ p, 0 ≤ p → p < N → up W N (num t y) p = W p := fun p _ p1 => up_ne W (by omega)
  have f2 : ∀ p, 0 ≤ p → p < N → W p ≠ num t y := fun p p0 p1 e => by
    have := (a2 p p0 p1).2.2.1
    rw [e] at this
    omega
  have f3 : ∀ p, 0 ≤ p → p < N → up dp (num t y) (dp (W k) + 1) (W p) = dp (W p) := fun p p0 p1 => up_ne dp (f2 p p0 p1)
  have f4 : up W N (num t y) N = num t y := up_same _ _ _
  have f5 : up dp (num t y) (dp (W k) + 1) (num t y) = dp (W k) + 1 := up_same _ _ _
  have f6 : ∀ p, 0 ≤ p → p < N → up dp (num t y) (dp (W k) + 1) (up W N (num t y) p) = dp (W p) := fun p p0 p1 => by rw [f1 p p0 p1, f3 p p0 p1]
  have f7 : up dp (num t y) (dp (W k) + 1) (up W N (num t y) N) = dp (W k) + 1 := by rw [f4, f5]
  have hk2 := a2 k a1.1 hk
  refine ⟨by omega, fun p p0 p1 => ?_, fun p q p0 pq q1 => ?_, fun p q p0 pq q1 => ?_, fun p q p0 p1 q0 q1 => ?_, fun z z0 z1 hz => ?_, fun p cc y' p0 p1 c0 c1 hor hst => ?_, fun p p0 p1 => ?_, ?_⟩
  · by_cases e : p = N
    · rw [e, f7, f4]
      omega
    · rw [f6 p p0 (by omega), f1 p p0 (by omega)]
      exact a2 p p0 (by omega)
  · rw [f1 p p0 (by omega)]
    by_cases e : q = N
    · rw [e, f4]
      exact f2 p p0 (by omega)
    · rw [f1 q (by omega) (by omega)]
      exact a3 p q p0 pq (by omega)
  · by_cases e : q = N
    · by_cases e2 : p = N
      · rw [e, e2]
        exact Int.le_refl _
      · rw [e, f7, f6 p p0 (by omega)]
        exact a5 k p (Int.le_refl _) hk p0 (by omega)
    · rw [f6 p p0 (by omega), f6 q (by omega) (by omega)]
      exact a4 p q p0 pq (by omega)
  · by_cases e : q = N
    · rw [e, f7]
      by_cases e2 : p = N
      · rw [e2, f7]
        omega
      · rw [f6 p (by omega) (by omega)]
        have := a4 k p a1.1 p0 (by omega)
        omega
    · rw [f6 q q0 (by omega)]
      by_cases e2 : p = N
      · rw [e2, f7]
        have := a5 k q (Int.le_refl _) hk q0 (by omega)
        omega
      · rw [f6 p (by omega) (by omega)]
        exact a5 p q p0 (by omega) q0 (by omega)
  · by_cases e : z = num t y
    · exact ⟨N, by omega, by omega, by rw [f4, e]⟩
    · rw [up_ne dp e] at hz
      obtain ⟨p, p0, p1, p2⟩ := a6 z z0 z1 hz
      exact ⟨p, p0, by omega, by rw [f1 p p0 p1]; exact p2⟩
  · have pk : p < N := by omega
    rw [f1 p p0 pk] at hst
    rw [f6 p p0 pk]
    by_cases e : p = k ∧ cc = c
    · rw [e.1, e.2, hs] at hst
      rw [← Option.some.inj hst, e.1, f5]
      omega
    · have h9 := a7 p cc y' p0 pk c0 c1 (by omega) hst
      have e9 : num t y' ≠ num t y := fun e => by
        rw [e] at h9
        exact h9.1 hd
      rw [up_ne dp e9]
      exact h9
  · by_cases e : p = N
    · rw [e, f4, hu]
      obtain ⟨j, hj⟩ := a8 k a1.1 hk
      exact ⟨j + 1, unn t (W k), hj, c, hc0, hc1, hs⟩
    · rw [f1 p p0 (by omega)]
      exact a8 p p0 (by omega)
  · rw [f6 0 (by omega) (by omega), f1 0 (by omega) (by omega)]
    exact a9
theorem bB_next {D : Int → Int} {n kit t : Int} {x0 : kS} {dp W : Int → Int} {N k : Int} (h : bB D n kit t x0 dp W N k 100) (hk : k < N) : bB D n kit t x0 dp W N (k + 1) 0 := by
  obtain ⟨a1, a2, a3, a4, a5, a6, a7, a8, a9⟩ := h
  exact ⟨by omega, a2, a3, a4, fun p q p0 p1 q0 q1 => a5 p q (by omega) p1 q0 q1, a6, fun p cc y p0 p1 c0 c1 hor hst => a7 p cc y p0 p1 c0 c1 (by omega) hst, a8, a9⟩
theorem bB_init {D : Int → Int} {n kit t : Int} {x0 : kS} {dp W : Int → Int} (h0 : 0 ≤ num t x0) (h1 : num t x0 ≤ 64511) (hu : unn t (num t x0) = x0) (hd : ∀ y, 0 ≤ y → y ≤ 64511 → dp y = -1) : bB D n kit t x0 (up dp (num t x0) 0) (up W 0 (num t x0)) 1 0 0 := by
  have f1 : up W 0 (num t x0) 0 = num t x0 := up_same _ _ _
  have f2 : up dp (num t x0) 0 (num t x0) = 0 := up_same _ _ _
  have f3 : ∀ p : Int, 0 ≤ p → p < 1 → p = 0 := fun p a b => by omega
  refine ⟨by omega, fun p p0 p1 => ?_, fun p q p0 pq q1 => by omega, fun p q p0 pq q1 => ?_, fun p q p0 p1 q0 q1 => ?_, fun z z0 z1 hz => ?_, fun p cc y' p0 p1 c0 c1 hor hst => by omega, fun p p0 p1 => ?_, f1, ?_⟩
  · rw [f3 p p0 p1, f1, f2]
    omega
  · rw [f3 p p0 (by omega), f3 q (by omega) q1]
    exact Int.le_refl _
  · rw [f3 p p0 p1, f3 q q0 q1]
    omega
  · by_cases e : z = num t x0
    · exact ⟨0, by omega, by omega, by rw [f1, e]⟩
    · rw [up_ne dp e] at hz
      exact absurd (hd z z0 z1) hz
  · rw [f3 p p0 p1, f1, hu]
    exact ⟨0, rfl⟩
  · rw [f1, f2]
theorem bB_short {D : Int → Int} {n kit t v : Int} {x0 : kS} {dp W : Int → Int} {N k : Int} (ht0 : 0 ≤ t) (ht1 : t ≤ 63) (h4 : pcn t ≤ 4) (hD : dOk D n) (hx : kv t x0) (h : bB D n kit t x0 dp W N k 0) (hk : k < N) (hne : ∀ p, 0 ≤ p → p < k → ¬ ends v (unn t (W p))) : ∀ {m : Nat} {z : kS}, bp (bT D n kit) m x0 z → kv t z ∧ ((∃ p, 0 ≤ p ∧ p < k ∧ W p = num t z ∧ dp (W p) ≤ (m : Int)) ∨ dp (W k) ≤ (m : Int))
  | 0, z, hz => by
    have hz : x0 = z := hz
    subst hz
    refine ⟨hx, ?_⟩
    obtain ⟨a1, a2, a3, a4, a5, a6, a7, a8, a9⟩ := h
    by_cases e : k = 0
    · right
      rw [e, a9.2]
      exact Int.le_refl _
    · left
      exact ⟨0, by omega, by omega, a9.1, by rw [a9.2]; exact Int.le_refl _⟩
  | m + 1, z, ⟨w, h1, h2⟩ => by
    obtain ⟨hw, ih⟩ := bB_short ht0 ht1 h4 hD hx h hk hne h1
    have hz := kv_T ht0 ht1 hD h2 hw
    refine ⟨hz, ?_⟩
    obtain ⟨a1, a2, a3, a4, a5, a6, a7, a8, a9⟩ := h
    rcases ih with ⟨p, p0, p1, p2, p3⟩ | ih
    · obtain ⟨c, c0, c1, hc⟩ := h2
      have hn := unn_num ht0 ht1 h4 hz
      have hs := a7 p c z p0 (by omega) c0 c1 (Or.inl p1) (by rw [p2, (unn_num ht0 ht1 h4 hw).1]; exact hc)
      obtain ⟨q, q0, q1, q2⟩ := a6 _ hn.2.1 hn.2.2 hs.1
      by_cases e : q < k
      · left
        refine ⟨q, q0, e, q2, ?_⟩
        rw [q2]
        have := hs.2
        omega
      · right
        have h9 := a4 k q a1.1 (by omega) q1
        rw [q2] at h9
        have := hs.2
        omega
    · right
      omega
theorem bB_400 {D : Int → Int} {n kit t v : Int} {x0 : kS} {dp W : Int → Int} {N k : Int} (ht0 : 0 ≤ t) (ht1 : t ≤ 63) (h4 : pcn t ≤ 4) (hD : dOk D n) (hx : kv t x0) (h : bB D n kit t x0 dp W N k 0) (hk : k < N) (hne : ∀ p, 0 ≤ p → p < k → ¬ ends v (unn t (W p))) (he : ends v (unn t (W k))) : 0 ≤ dp (W k) ∧ dp (W k) ≤ 400 := by
  have h' := h
  obtain ⟨a1, a2, a3, a4, a5, a6, a7, a8, a9⟩ := h'
  obtain ⟨j, hj⟩ := a8 k a1.1 hk
  obtain ⟨c, hc⟩ := hx.2.1
  obtain ⟨m, z, hm, hz, hez⟩ := b400 hD.1 hD.2.1 hD.2.2 hx.1 hc (kv_pc ht0 ht1 h4 hx) hj he
  obtain ⟨hzv, hs⟩ := bB_short ht0 ht1 h4 hD hx h hk hne hz
  refine ⟨(a2 k a1.1 hk).2.2.1, ?_⟩
  rcases hs with ⟨p, p0, p1, p2, p3⟩ | hs
  · have := hne p p0 p1
    rw [p2, (unn_num ht0 ht1 h4 hzv).1] at this
    exact absurd hez this
  · omega
