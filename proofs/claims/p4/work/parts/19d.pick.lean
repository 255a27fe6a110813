/-! ===== fewer locals, in any order ===== -/
theorem ag_L_mem {E : Nat → Value} {ad : List Nat} : ∀ {lo : ae_L} {lv : List (Nat × Value)} {k : Nat} {a : Nat × ae_V}, ag_L E ad lo lv → lo[k]? = some a → ∃ b, b ∈ lv ∧ a.1 = b.1 ∧ ag_V E ad a.2 b.2
  | [], _, k, a, _, h => by simp at h
  | q :: l, [], k, a, h, _ => h.elim
  | q :: l, r :: m, 0, a, h, h2 => by
    have h2 : q = a := by simpa using h2
    subst h2
    exact ⟨r, List.mem_cons_self, h.1.1, h.1.2⟩
  | q :: l, r :: m, k + 1, a, h, h2 => by
    obtain ⟨b, h3, h4⟩ := ag_L_mem (k := k) h.2 (by simpa using h2)
    exact ⟨b, List.mem_cons_of_mem _ h3, h4⟩
theorem ag_L_pick {E : Nat → Value} {ad : List Nat} {lo : ae_L} {lv : List (Nat × Value)} (h : ag_L E ad lo lv) : ∀ (ks : List Nat), ∃ lv', ag_L E ad (ks.filterMap (fun k => lo[k]?)) lv' ∧ ∀ b ∈ lv', b ∈ lv
  | [] => ⟨[], trivial, fun b hb => by simp at hb⟩
  | k :: ks => by
    obtain ⟨lv', h1, h2⟩ := ag_L_pick h ks
    cases e : lo[k]? with
    | none =>
      refine ⟨lv', ?_, h2⟩
      rw [List.filterMap_cons, e]
      exact h1
    | some a =>
      obtain ⟨b, h3, h4⟩ := ag_L_mem h e
      refine ⟨b :: lv', ?_, ?_⟩
      · rw [List.filterMap_cons, e]
        exact ⟨h4, h1⟩
      · intro c hc
        rcases List.mem_cons.mp hc with rfl | hc
        · exact h3
        · exact h2 c hc
theorem g_pick {V : cg_V} {me : ae_M} {d q : Nat} {Rs : ae_R → Prop} {pc : Nat} {lo lo' : ae_L} {st : List ae_V} {w : List ae_C} {cs sl : Nat} (ks : List Nat) (h : ks.filterMap (fun k => lo[k]?) = lo') (k : cg_G V me d q Rs pc lo' st w cs sl) : cg_G V me d q Rs pc lo st w cs sl := by
  subst h
  intro hT hm hL A p e R s m args below meth c Q ad0 hF hfin ad ws H locs lv ls stv hat
  obtain ⟨hcs, hex, had, hl, hlo, hst, hw, hP, hD, hS⟩ := hat
  obtain ⟨lv', h1, h2⟩ := ag_L_pick hlo ks
  exact k hT hm hL A p e R s m args below meth c Q ad0 hF hfin ad ws H locs lv' ls stv ⟨hcs, hex, had, ⟨hl.1, hl.2.1, fun b hb => hl.2.2 b (h2 b hb)⟩, h1, hst, hw, hP, hD, hS⟩
