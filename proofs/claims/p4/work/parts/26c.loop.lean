/-! ===== the law, its loop ===== -/
theorem bu_s {cs sl k : Nat} {m : kM} (h : bu cs sl k m) : bu cs sl (k + 1) m := by
  have h1 := pp_s k
  refine ⟨Nat.le_trans h.1 (by omega), Or.inl ?_⟩
  rcases h.2 with h | h <;> omega
theorem lw_sw {V : cg_V} (hL : V.2.2.2.1 ≤ 256) {m : kM} {i : Int} {cs sl k : Nat} (hiv : iv m) (hbu : bu cs sl k m) (hk : k ≤ 63) (hi : 0 ≤ i ∧ i + 4 ≤ ((V.2.2.2.1 : Nat) : Int)) (K : ∀ (m' : kM) (cs' sl' : Nat), iv m' → bu cs' sl' (k + 1) m' → cg_G V mL_law 11 406 (fun r => ∃ w9, r = (some (vI 1), w9)) 756 [(3, vI i), (2, vR 61), (1, vR 0), (0, vE 1)] [] (kl m') cs' sl') : cg_G V mL_law 11 406 (fun r => ∃ w9, r = (some (vI 1), w9)) 26 [(3, vI i), (2, vR 61), (1, vR 0), (0, vE 1)] [] (kl m) cs sl := by
  refine g_aload_n (n := 0) rfl rfl ?_
  refine g_iload_n (n := 3) rfl rfl ?_
  refine g_xld (by omega) (by omega) hL (show decode cL_law 28 = .ok (.iaload, 1) by decide +kernel) ?_
  refine g_bipush (by decide) rfl ?_
  refine g_iand rfl ?_
  intro z hz q0 q1
  have hz2 : z = sx V i % 32 := b_modN (k := 5) hz (by decide) (by decide) (by decide)
  clear hz
  have q2 : 0 ≤ z := by omega
  by_cases h23 : 23 < z
  · exact g_tsw_out (tg := 756) q0 q1 rfl (Or.inr h23) (by decide) (K m cs sl hiv (bu_s hbu))
  have hc : z = 0 ∨ z = 1 ∨ z = 2 ∨ z = 3 ∨ z = 4 ∨ z = 5 ∨ z = 6 ∨ z = 7 ∨ z = 8 ∨ z = 9 ∨ z = 10 ∨ z = 11 ∨ z = 12 ∨ z = 13 ∨ z = 14 ∨ z = 15 ∨ z = 16 ∨ z = 17 ∨ z = 18 ∨ z = 19 ∨ z = 20 ∨ z = 21 ∨ z = 22 ∨ z = 23 := by omega
  clear hz2
  rcases hc with h | h | h | h | h | h | h | h | h | h | h | h | h | h | h | h | h | h | h | h | h | h | h | h
  · subst h
    exact g_tsw_in (o9 := 112) (tg := 144) (by decide) (by decide) rfl (by decide) (by decide) rfl (by decide) (w_0 hL hiv hbu hk hi K)
  · subst h
    exact g_tsw_in (o9 := 175) (tg := 207) (by decide) (by decide) rfl (by decide) (by decide) rfl (by decide) (w_1 hL hiv hbu hk hi K)
  · subst h
    exact g_tsw_in (o9 := 188) (tg := 220) (by decide) (by decide) rfl (by decide) (by decide) rfl (by decide) (w_2 hL hiv hbu hk hi K)
  · subst h
    exact g_tsw_in (o9 := 201) (tg := 233) (by decide) (by decide) rfl (by decide) (by decide) rfl (by decide) (w_3 hL hiv hbu hk hi K)
  · subst h
    exact g_tsw_in (o9 := 214) (tg := 246) (by decide) (by decide) rfl (by decide) (by decide) rfl (by decide) (w_4 hL hiv hbu hk hi K)
  · subst h
    exact g_tsw_in (o9 := 247) (tg := 279) (by decide) (by decide) rfl (by decide) (by decide) rfl (by decide) (w_5 hL hiv hbu hk hi K)
  · subst h
    exact g_tsw_in (o9 := 280) (tg := 312) (by decide) (by decide) rfl (by decide) (by decide) rfl (by decide) (w_6 hL hiv hbu hk hi K)
  · subst h
    exact g_tsw_in (o9 := 313) (tg := 345) (by decide) (by decide) rfl (by decide) (by decide) rfl (by decide) (w_7 hL hiv hbu hk hi K)
  · subst h
    exact g_tsw_in (o9 := 336) (tg := 368) (by decide) (by decide) rfl (by decide) (by decide) rfl (by decide) (w_8 hL hiv hbu hk hi K)
  · subst h
    exact g_tsw_in (o9 := 369) (tg := 401) (by decide) (by decide) rfl (by decide) (by decide) rfl (by decide) (w_9 hL hiv hbu hk hi K)
  · subst h
    exact g_tsw_in (o9 := 392) (tg := 424) (by decide) (by decide) rfl (by decide) (by decide) rfl (by decide) (w_10 hL hiv hbu hk hi K)
  · subst h
    refine g_tsw_in (o9 := 415) (tg := 447) (by decide) (by decide) rfl (by decide) (by decide) rfl (by decide) ?_
    by_cases hd : sx V (i + 1) < 0 ∨ m.1 8 ≤ sx V (i + 1)
    · exact w_111 hL hiv hbu hk hi (Or.inl hd) K
    · rcases hiv.2.2.1.1 with h0 | h0
      · exact w_112 hL hiv hbu hk hi (by omega) (by rcases hbu.2 with h | h; exact h; exact absurd h0 h.1) K
      · exact w_111 hL hiv hbu hk hi (Or.inr h0) K
  · subst h
    exact g_tsw_in (o9 := 438) (tg := 470) (by decide) (by decide) rfl (by decide) (by decide) rfl (by decide) (w_12 hL hiv hbu hk hi K)
  · subst h
    exact g_tsw_in (o9 := 461) (tg := 493) (by decide) (by decide) rfl (by decide) (by decide) rfl (by decide) (w_13 hL hiv hbu hk hi K)
  · subst h
    exact g_tsw_in (o9 := 504) (tg := 536) (by decide) (by decide) rfl (by decide) (by decide) rfl (by decide) (w_14 hL hiv hbu hk hi K)
  · subst h
    exact g_tsw_in (o9 := 527) (tg := 559) (by decide) (by decide) rfl (by decide) (by decide) rfl (by decide) (w_15 hL hiv hbu hk hi K)
  · subst h
    exact g_tsw_in (o9 := 540) (tg := 572) (by decide) (by decide) rfl (by decide) (by decide) rfl (by decide) (w_16 hL hiv hbu hk hi K)
  · subst h
    exact g_tsw_in (o9 := 553) (tg := 585) (by decide) (by decide) rfl (by decide) (by decide) rfl (by decide) (w_17 hL hiv hbu hk hi K)
  · subst h
    exact g_tsw_in (o9 := 586) (tg := 618) (by decide) (by decide) rfl (by decide) (by decide) rfl (by decide) (w_18 hL hiv hbu hk hi K)
  · subst h
    exact g_tsw_in (o9 := 599) (tg := 631) (by decide) (by decide) rfl (by decide) (by decide) rfl (by decide) (w_19 hL hiv hbu hk hi K)
  · subst h
    exact g_tsw_in (o9 := 632) (tg := 664) (by decide) (by decide) rfl (by decide) (by decide) rfl (by decide) (w_20 hL hiv hbu hk hi K)
  · subst h
    exact g_tsw_in (o9 := 655) (tg := 687) (by decide) (by decide) rfl (by decide) (by decide) rfl (by decide) (w_21 hL hiv hbu hk hi K)
  · subst h
    exact g_tsw_in (o9 := 678) (tg := 710) (by decide) (by decide) rfl (by decide) (by decide) rfl (by decide) (w_22 hL hiv hbu hk hi K)
  · subst h
    exact g_tsw_in (o9 := 701) (tg := 733) (by decide) (by decide) rfl (by decide) (by decide) rfl (by decide) (w_23 hL hiv hbu hk hi K)
theorem lw_loop {V : cg_V} (hL : V.2.2.2.1 ≤ 256) (n : Nat) : ∀ (k : Nat), k + n = 64 → ∀ (i : Int), i = 4 * (k : Int) → ∀ (m : kM) (cs sl : Nat), iv m → bu cs sl k m → cg_G V mL_law 11 406 (fun r => ∃ w9, r = (some (vI 1), w9)) 18 [(3, vI i), (2, vR 61), (1, vR 0), (0, vE 1)] [] (kl m) cs sl := by
  induction n with
  | zero =>
    intro k hk i hi m cs sl hiv hbu
    refine g_iload_n (n := 3) rfl rfl ?_
    refine g_aload_n (n := 0) rfl rfl ?_
    refine g_xlen (show decode cL_law 20 = .ok (.arraylength, 1) by decide +kernel) hL ?_
    refine g_iconst rfl ?_
    refine g_isub rfl ?_
    refine g_icmp_gt (by omega) (by omega) (by omega) (by omega) rfl ?_ ?_
    · intro _
      refine g_iconst rfl ?_
      exact g_zret rfl rfl (Or.inr rfl) ⟨_, rfl⟩
    · intro hx; exfalso; omega
  | succ n ih =>
    intro k hk i hi m cs sl hiv hbu
    refine g_iload_n (n := 3) rfl rfl ?_
    refine g_aload_n (n := 0) rfl rfl ?_
    refine g_xlen (show decode cL_law 20 = .ok (.arraylength, 1) by decide +kernel) hL ?_
    refine g_iconst rfl ?_
    refine g_isub rfl ?_
    refine g_icmp_gt (by omega) (by omega) (by omega) (by omega) rfl ?_ ?_
    · intro _
      refine g_iconst rfl ?_
      exact g_zret rfl rfl (Or.inr rfl) ⟨_, rfl⟩
    · intro hx
      refine lw_sw hL hiv hbu (by omega) (by omega) ?_
      intro m2 cs2 sl2 hiv2 hbu2
      refine g_iincE (z := i + 4) rfl rfl rfl rfl ?_
      refine g_goto rfl ?_
      exact ih (k + 1) (by omega) (i + 4) (by omega) m2 cs2 sl2 hiv2 hbu2
