/-! THE CLAIM OUT OF ONE WALK OF THE LAW'S BODY. Your part is whole_start (and what it stands on); all else here is the same for every law, but numbers. -/
def R_law : String := "OneKeyLaw"
def lw_P (b : Addr) (xs : List Int32) (args : Array Value) (s : State) : Prop := args = #[.ref b] ∧ s.IntsAt b xs ∧ xs.length ≤ 4 ∧ (Jvm.Cond.and given_1 narrow_1).before args s = true
def lw_Q (_ : Array Value) (s : State) (o : Outcome) (t : State) : Prop := o = .returned (some (.int 1)) ∧ Framed s o t [] 600000 7302250
def lw_Z (below : List Frame) (a : Array Value) (s : State) : State → Prop := fun t => ∃ o, t.status = .running ∧ Ended t below o ∧ lw_Q a s o t
/-- the law's own end, with 1 on the stack, nothing written that was there before, its room as the claim has it -/
theorem lw_ret {p : Program} {l : Launch} {e : Env} {s : State} {m : MethodId} {below : List Frame} {meth : Method} {c : Code} {b : Nat} (hx : p.tables.exec = Jvm.exec) (hb : c.code = code) (hr : meth.sig.returnType = ret) (hlocks : meth.locks = false) {pc : Nat} {H : Heap} {ls : Array Slot} (hdg : decode code pc = .ok (.ireturn, 1)) : W p l e room_1 s m #[Value.ref b] below meth c H [] 600000 7302250 (lw_Z below #[Value.ref b] s) (F0 m pc ls [.int 1]) := by
  intro T hT X
  obtain ⟨fs, hret, hrun, hended, hW, hframe⟩ := X.leave (v := some (.int 1)) (hlocks := hlocks) (fun h => by rw [hr] at h; cases h)
  have hmeth' : T.vm.method? m = some meth := X.method'
  refine ⟨T.setFrames fs, ?_, .returned (some (.int 1)), hrun, hended, rfl, ⟨_, rfl⟩, hW, hframe⟩
  jvm_step X.here [X.here.top, hx, hb, hdg, hmeth', hr, ret, narrow_b1]
  (try refine ⟨rfl, ?_⟩); (try refine ⟨rfl, ?_⟩)
  first | (intro acts; rw [hret _ acts rfl rfl rfl]) | rw [hret _ _ rfl rfl rfl]
  exact Steps.refl _
/-- what holds at the law's entry: the machine, the code, the tables' words (any of lw_tbl by 'hts w (by decide +kernel)'), the script of L ints xs at the cell b, what the Statement gives of the start (any of its parts by flat_of_before) -/
def lw_At (p : Program) (s : State) (m : MethodId) (meth : Method) (c : Code) (b L : Nat) (xs : Nat → Int32) : Prop :=
  p.tables.exec = Jvm.exec ∧ c.code = code ∧ meth.sig.returnType = ret ∧ c.maxLocals = 4 ∧ s.vm.findClass R_law = some m.cls ∧ (∀ w ∈ lw_tbl, w.before #[Value.ref b] s = true) ∧ va_X b L xs s s.heap ∧ b < s.heap.size ∧ meth.locks = false ∧ (Jvm.Cond.and given_1 narrow_1).before #[Value.ref b] s = true

-- ===== MY PART BEGINS =====
theorem ag_tab_ok : ag_tab := fun me hm => by
  have h := ok_all me hm
  obtain ⟨h1, h2⟩ := ae_and h
  exact ⟨h1, fun pc ie hie => by
    have h3 := ae_okL_at me _ 0 pc ie h2 hie
    rw [Nat.zero_add] at h3
    exact h3⟩
def ae_pcs : List ae_Cs := [(.inl 0, ae_all, ae_all, ae_cut 1 8),
  (.inl 1, ae_all, ae_all, ae_all),
  (.inl 2, ae_all, ae_all, ae_all),
  (.inl 3, ae_all, ae_all, ae_all),
  (.inl 15, ae_all, ae_all, ae_all),
  (.inl 16, ae_all, ae_all, ae_all),
  (.inl 18, ae_all, ae_all, ae_all),
  (.inl 4, ae_cut 0 2, ae_cut 0 4, ae_all),
  (.inl 5, ae_neg, ae_all, ae_all),
  (.inl 6, ae_neg, ae_all, ae_all),
  (.inl 11, ae_neg, ae_all, ae_all),
  (.inl 7, ae_cut 0 100, ae_all, ae_all),
  (.inl 8, ae_cut 0 2, ae_cut 0 3, ae_all),
  (.inl 9, ae_m1, ae_all, ae_all),
  (.inl 12, ae_m1, ae_all, ae_all),
  (.inl 10, ae_cut 0 4, ae_all, ae_all),
  (.inl 13, [.inr (-2147483648, -1), .inr (11, 2147483647)], ae_cut 0 7, ae_cut 0 2),
  (.inl 13, [.inl 0], ae_cut 0 7, ae_cut 0 2),
  (.inl 13, [.inl 1], ae_cut 0 7, ae_cut 0 2),
  (.inl 13, [.inl 2], ae_cut 0 7, ae_cut 0 2),
  (.inl 13, [.inl 3], ae_cut 0 7, ae_cut 0 2),
  (.inl 13, [.inl 4], ae_cut 0 7, ae_cut 0 2),
  (.inl 13, [.inl 5], ae_cut 0 7, ae_cut 0 2),
  (.inl 13, [.inl 6], ae_cut 0 7, ae_cut 0 2),
  (.inl 13, [.inl 7], ae_cut 0 7, ae_cut 0 2),
  (.inl 13, [.inl 8], ae_cut 0 7, ae_cut 0 2),
  (.inl 13, [.inl 9], ae_cut 0 7, ae_cut 0 2),
  (.inl 13, [.inl 10], ae_cut 0 7, ae_cut 0 2),
  (.inl 14, ae_r99, ae_all, ae_all),
  (.inl 17, ae_all, ae_neg, ae_all),
  (.inl 19, [.inr (-2147483648, 0), .inr (11, 2147483647)], ae_cut 0 2, ae_all),
  (.inl 19, [.inl 1], ae_cut 0 2, ae_all),
  (.inl 19, [.inl 2], ae_cut 0 2, ae_all),
  (.inl 19, [.inl 3], ae_cut 0 2, ae_all),
  (.inl 19, [.inl 4], ae_cut 0 2, ae_all),
  (.inl 19, [.inl 5], ae_cut 0 2, ae_all),
  (.inl 19, [.inl 6], ae_cut 0 2, ae_all),
  (.inl 19, [.inl 7], ae_cut 0 2, ae_all),
  (.inl 19, [.inl 8], ae_cut 0 2, ae_all),
  (.inl 19, [.inl 9], ae_cut 0 2, ae_all),
  (.inl 19, [.inl 10], ae_cut 0 2, ae_all),
  (.inl 20, [.inr (-2147483648, 0), .inr (11, 2147483647)], ae_all, ae_all),
  (.inl 20, [.inl 1], ae_all, ae_all),
  (.inl 20, [.inl 2], ae_all, ae_all),
  (.inl 20, [.inl 3], ae_all, ae_all),
  (.inl 20, [.inl 4], ae_all, ae_all),
  (.inl 20, [.inl 5], ae_all, ae_all),
  (.inl 20, [.inl 6], ae_all, ae_all),
  (.inl 20, [.inl 7], ae_all, ae_all),
  (.inl 20, [.inl 8], ae_all, ae_all),
  (.inl 20, [.inl 9], ae_all, ae_all),
  (.inl 20, [.inl 10], ae_all, ae_all),
  (.inl 21, ae_cut 0 2, ae_all, ae_all),
  (.inl 22, ae_cut 0 2, ae_all, ae_all),
  (.inl 23, ae_cut 0 9, ae_all, ae_all),
  (.inr (24, 31), ae_all, ae_all, ae_all)]
set_option maxRecDepth 100000 in
theorem go_all : ∀ g ∈ ae_pcs, ae_go g = true := List.forall_mem_cons.mpr ⟨go_0, List.forall_mem_cons.mpr ⟨go_1, List.forall_mem_cons.mpr ⟨go_2, List.forall_mem_cons.mpr ⟨go_3, List.forall_mem_cons.mpr ⟨go_15, List.forall_mem_cons.mpr ⟨go_16, List.forall_mem_cons.mpr ⟨go_18, List.forall_mem_cons.mpr ⟨go_4, List.forall_mem_cons.mpr ⟨go_5, List.forall_mem_cons.mpr ⟨go_6, List.forall_mem_cons.mpr ⟨go_11, List.forall_mem_cons.mpr ⟨go_7, List.forall_mem_cons.mpr ⟨go_8, List.forall_mem_cons.mpr ⟨go_9, List.forall_mem_cons.mpr ⟨go_12, List.forall_mem_cons.mpr ⟨go_10, List.forall_mem_cons.mpr ⟨go_13_n, List.forall_mem_cons.mpr ⟨go_13_0, List.forall_mem_cons.mpr ⟨go_13_1, List.forall_mem_cons.mpr ⟨go_13_2, List.forall_mem_cons.mpr ⟨go_13_3, List.forall_mem_cons.mpr ⟨go_13_4, List.forall_mem_cons.mpr ⟨go_13_5, List.forall_mem_cons.mpr ⟨go_13_6, List.forall_mem_cons.mpr ⟨go_13_7, List.forall_mem_cons.mpr ⟨go_13_8, List.forall_mem_cons.mpr ⟨go_13_9, List.forall_mem_cons.mpr ⟨go_13_10, List.forall_mem_cons.mpr ⟨go_14, List.forall_mem_cons.mpr ⟨go_17, List.forall_mem_cons.mpr ⟨go_19_n, List.forall_mem_cons.mpr ⟨go_19_1, List.forall_mem_cons.mpr ⟨go_19_2, List.forall_mem_cons.mpr ⟨go_19_3, List.forall_mem_cons.mpr ⟨go_19_4, List.forall_mem_cons.mpr ⟨go_19_5, List.forall_mem_cons.mpr ⟨go_19_6, List.forall_mem_cons.mpr ⟨go_19_7, List.forall_mem_cons.mpr ⟨go_19_8, List.forall_mem_cons.mpr ⟨go_19_9, List.forall_mem_cons.mpr ⟨go_19_10, List.forall_mem_cons.mpr ⟨go_20_n, List.forall_mem_cons.mpr ⟨go_20_1, List.forall_mem_cons.mpr ⟨go_20_2, List.forall_mem_cons.mpr ⟨go_20_3, List.forall_mem_cons.mpr ⟨go_20_4, List.forall_mem_cons.mpr ⟨go_20_5, List.forall_mem_cons.mpr ⟨go_20_6, List.forall_mem_cons.mpr ⟨go_20_7, List.forall_mem_cons.mpr ⟨go_20_8, List.forall_mem_cons.mpr ⟨go_20_9, List.forall_mem_cons.mpr ⟨go_20_10, List.forall_mem_cons.mpr ⟨go_21, List.forall_mem_cons.mpr ⟨go_22, List.forall_mem_cons.mpr ⟨go_23, List.forall_mem_cons.mpr ⟨go_24, fun _ h => absurd h List.not_mem_nil⟩⟩⟩⟩⟩⟩⟩⟩⟩⟩⟩⟩⟩⟩⟩⟩⟩⟩⟩⟩⟩⟩⟩⟩⟩⟩⟩⟩⟩⟩⟩⟩⟩⟩⟩⟩⟩⟩⟩⟩⟩⟩⟩⟩⟩⟩⟩⟩⟩⟩⟩⟩⟩⟩⟩⟩
/-- a case that the switch's number and the three ints fall into -/
def ag_cov (x x1 x2 x3 : Int32) : Prop := ∃ g ∈ ae_pcs, ag_I g.1 x ∧ ∃ a1 ∈ g.2.1, ag_I a1 x1 ∧ ∃ a2 ∈ g.2.2.1, ag_I a2 x2 ∧ ∃ a3 ∈ g.2.2.2, ag_I a3 x3
theorem ag_cov_of {x x1 x2 x3 : Int32} {g : ae_Cs} (hg : g ∈ ae_pcs) (h : ag_I g.1 x) (h1 : ∃ a ∈ g.2.1, ag_I a x1) (h2 : ∃ a ∈ g.2.2.1, ag_I a x2) (h3 : ∃ a ∈ g.2.2.2, ag_I a x3) : ag_cov x x1 x2 x3 := by
  obtain ⟨a1, m1, h1⟩ := h1
  obtain ⟨a2, m2, h2⟩ := h2
  obtain ⟨a3, m3, h3⟩ := h3
  exact ⟨g, hg, h, a1, m1, h1, a2, m2, h2, a3, m3, h3⟩
theorem cv_pair {lo hi : Int} {x : Int32} (h : x.toInt ≤ lo ∨ hi ≤ x.toInt) : ∃ a ∈ ([.inr (-2147483648, lo), .inr (hi, 2147483647)] : List ae_I), ag_I a x := by
  have hb := cv_b x
  rcases h with h | h
  · exact ⟨_, List.mem_cons_self, show (-2147483648 : Int) ≤ x.toInt ∧ x.toInt ≤ lo by omega⟩
  · exact ⟨_, List.mem_cons_of_mem _ List.mem_cons_self, show hi ≤ x.toInt ∧ x.toInt ≤ 2147483647 by omega⟩
theorem cv_one {x : Int32} {j : Nat} (hj : j < 2 ^ 31) (h : x.toInt = (j : Int)) : ∃ a ∈ ([.inl j] : List ae_I), ag_I a x := ⟨_, List.mem_singleton.mpr rfl, cv_nI hj h⟩
set_option maxRecDepth 100000 in
theorem ag_cov_all (x x1 x2 x3 : Int32) (h0 : 0 ≤ x.toInt) (h31 : x.toInt ≤ 31) : ag_cov x x1 x2 x3 := by
  by_cases hb : 24 ≤ x.toInt
  · exact ag_cov_of (List.mem_of_getElem? (i := 55) rfl) (show (24 : Int) ≤ x.toInt ∧ x.toInt ≤ 31 from ⟨hb, h31⟩) (cv_all x1) (cv_all x2) (cv_all x3)
  · obtain ⟨k, hk, hx⟩ : ∃ k : Nat, k < 24 ∧ x.toInt = (k : Int) := ⟨x.toInt.toNat, by omega, by omega⟩
    have hxk : x = nI k := cv_nI (by omega) hx
    clear hb h0 h31
    match k, hk, hxk with
    | 0, _, hxk => exact ag_cov_of (List.mem_of_getElem? (i := 0) rfl) hxk (cv_all x1) (cv_all x2) (cv_cut 1 8 (by omega) x3)
    | 1, _, hxk => exact ag_cov_of (List.mem_of_getElem? (i := 1) rfl) hxk (cv_all x1) (cv_all x2) (cv_all x3)
    | 2, _, hxk => exact ag_cov_of (List.mem_of_getElem? (i := 2) rfl) hxk (cv_all x1) (cv_all x2) (cv_all x3)
    | 3, _, hxk => exact ag_cov_of (List.mem_of_getElem? (i := 3) rfl) hxk (cv_all x1) (cv_all x2) (cv_all x3)
    | 4, _, hxk => exact ag_cov_of (List.mem_of_getElem? (i := 7) rfl) hxk (cv_cut 0 2 (by omega) x1) (cv_cut 0 4 (by omega) x2) (cv_all x3)
    | 5, _, hxk => exact ag_cov_of (List.mem_of_getElem? (i := 8) rfl) hxk (cv_neg x1) (cv_all x2) (cv_all x3)
    | 6, _, hxk => exact ag_cov_of (List.mem_of_getElem? (i := 9) rfl) hxk (cv_neg x1) (cv_all x2) (cv_all x3)
    | 7, _, hxk => exact ag_cov_of (List.mem_of_getElem? (i := 11) rfl) hxk (cv_cut 0 100 (by omega) x1) (cv_all x2) (cv_all x3)
    | 8, _, hxk => exact ag_cov_of (List.mem_of_getElem? (i := 12) rfl) hxk (cv_cut 0 2 (by omega) x1) (cv_cut 0 3 (by omega) x2) (cv_all x3)
    | 9, _, hxk => exact ag_cov_of (List.mem_of_getElem? (i := 13) rfl) hxk (cv_m1 x1) (cv_all x2) (cv_all x3)
    | 10, _, hxk => exact ag_cov_of (List.mem_of_getElem? (i := 15) rfl) hxk (cv_cut 0 4 (by omega) x1) (cv_all x2) (cv_all x3)
    | 11, _, hxk => exact ag_cov_of (List.mem_of_getElem? (i := 10) rfl) hxk (cv_neg x1) (cv_all x2) (cv_all x3)
    | 12, _, hxk => exact ag_cov_of (List.mem_of_getElem? (i := 14) rfl) hxk (cv_m1 x1) (cv_all x2) (cv_all x3)
    | 13, _, hxk =>
      by_cases hn : x1.toInt < 0 ∨ 10 < x1.toInt
      · exact ag_cov_of (List.mem_of_getElem? (i := 16) rfl) hxk (cv_pair (by omega)) (cv_cut 0 7 (by omega) x2) (cv_cut 0 2 (by omega) x3)
      · obtain ⟨j, hj, hj2, hx1⟩ : ∃ j : Nat, 0 ≤ j ∧ j ≤ 10 ∧ x1.toInt = (j : Int) := ⟨x1.toInt.toNat, by omega, by omega, by omega⟩
        clear hn
        match j, hj, hj2, hx1 with
        | 0, _, _, hx1 => exact ag_cov_of (List.mem_of_getElem? (i := 17) rfl) hxk (cv_one (by omega) hx1) (cv_cut 0 7 (by omega) x2) (cv_cut 0 2 (by omega) x3)
        | 1, _, _, hx1 => exact ag_cov_of (List.mem_of_getElem? (i := 18) rfl) hxk (cv_one (by omega) hx1) (cv_cut 0 7 (by omega) x2) (cv_cut 0 2 (by omega) x3)
        | 2, _, _, hx1 => exact ag_cov_of (List.mem_of_getElem? (i := 19) rfl) hxk (cv_one (by omega) hx1) (cv_cut 0 7 (by omega) x2) (cv_cut 0 2 (by omega) x3)
        | 3, _, _, hx1 => exact ag_cov_of (List.mem_of_getElem? (i := 20) rfl) hxk (cv_one (by omega) hx1) (cv_cut 0 7 (by omega) x2) (cv_cut 0 2 (by omega) x3)
        | 4, _, _, hx1 => exact ag_cov_of (List.mem_of_getElem? (i := 21) rfl) hxk (cv_one (by omega) hx1) (cv_cut 0 7 (by omega) x2) (cv_cut 0 2 (by omega) x3)
        | 5, _, _, hx1 => exact ag_cov_of (List.mem_of_getElem? (i := 22) rfl) hxk (cv_one (by omega) hx1) (cv_cut 0 7 (by omega) x2) (cv_cut 0 2 (by omega) x3)
        | 6, _, _, hx1 => exact ag_cov_of (List.mem_of_getElem? (i := 23) rfl) hxk (cv_one (by omega) hx1) (cv_cut 0 7 (by omega) x2) (cv_cut 0 2 (by omega) x3)
        | 7, _, _, hx1 => exact ag_cov_of (List.mem_of_getElem? (i := 24) rfl) hxk (cv_one (by omega) hx1) (cv_cut 0 7 (by omega) x2) (cv_cut 0 2 (by omega) x3)
        | 8, _, _, hx1 => exact ag_cov_of (List.mem_of_getElem? (i := 25) rfl) hxk (cv_one (by omega) hx1) (cv_cut 0 7 (by omega) x2) (cv_cut 0 2 (by omega) x3)
        | 9, _, _, hx1 => exact ag_cov_of (List.mem_of_getElem? (i := 26) rfl) hxk (cv_one (by omega) hx1) (cv_cut 0 7 (by omega) x2) (cv_cut 0 2 (by omega) x3)
        | 10, _, _, hx1 => exact ag_cov_of (List.mem_of_getElem? (i := 27) rfl) hxk (cv_one (by omega) hx1) (cv_cut 0 7 (by omega) x2) (cv_cut 0 2 (by omega) x3)
        | j + 11, _, hj2, _ => exact absurd hj2 (by omega)
    | 14, _, hxk => exact ag_cov_of (List.mem_of_getElem? (i := 28) rfl) hxk (cv_r99 x1) (cv_all x2) (cv_all x3)
    | 15, _, hxk => exact ag_cov_of (List.mem_of_getElem? (i := 4) rfl) hxk (cv_all x1) (cv_all x2) (cv_all x3)
    | 16, _, hxk => exact ag_cov_of (List.mem_of_getElem? (i := 5) rfl) hxk (cv_all x1) (cv_all x2) (cv_all x3)
    | 17, _, hxk => exact ag_cov_of (List.mem_of_getElem? (i := 29) rfl) hxk (cv_all x1) (cv_neg x2) (cv_all x3)
    | 18, _, hxk => exact ag_cov_of (List.mem_of_getElem? (i := 6) rfl) hxk (cv_all x1) (cv_all x2) (cv_all x3)
    | 19, _, hxk =>
      by_cases hn : x1.toInt < 1 ∨ 10 < x1.toInt
      · exact ag_cov_of (List.mem_of_getElem? (i := 30) rfl) hxk (cv_pair (by omega)) (cv_cut 0 2 (by omega) x2) (cv_all x3)
      · obtain ⟨j, hj, hj2, hx1⟩ : ∃ j : Nat, 1 ≤ j ∧ j ≤ 10 ∧ x1.toInt = (j : Int) := ⟨x1.toInt.toNat, by omega, by omega, by omega⟩
        clear hn
        match j, hj, hj2, hx1 with
        | 0, hj, _, _ => exact absurd hj (by omega)
        | 1, _, _, hx1 => exact ag_cov_of (List.mem_of_getElem? (i := 31) rfl) hxk (cv_one (by omega) hx1) (cv_cut 0 2 (by omega) x2) (cv_all x3)
        | 2, _, _, hx1 => exact ag_cov_of (List.mem_of_getElem? (i := 32) rfl) hxk (cv_one (by omega) hx1) (cv_cut 0 2 (by omega) x2) (cv_all x3)
        | 3, _, _, hx1 => exact ag_cov_of (List.mem_of_getElem? (i := 33) rfl) hxk (cv_one (by omega) hx1) (cv_cut 0 2 (by omega) x2) (cv_all x3)
        | 4, _, _, hx1 => exact ag_cov_of (List.mem_of_getElem? (i := 34) rfl) hxk (cv_one (by omega) hx1) (cv_cut 0 2 (by omega) x2) (cv_all x3)
        | 5, _, _, hx1 => exact ag_cov_of (List.mem_of_getElem? (i := 35) rfl) hxk (cv_one (by omega) hx1) (cv_cut 0 2 (by omega) x2) (cv_all x3)
        | 6, _, _, hx1 => exact ag_cov_of (List.mem_of_getElem? (i := 36) rfl) hxk (cv_one (by omega) hx1) (cv_cut 0 2 (by omega) x2) (cv_all x3)
        | 7, _, _, hx1 => exact ag_cov_of (List.mem_of_getElem? (i := 37) rfl) hxk (cv_one (by omega) hx1) (cv_cut 0 2 (by omega) x2) (cv_all x3)
        | 8, _, _, hx1 => exact ag_cov_of (List.mem_of_getElem? (i := 38) rfl) hxk (cv_one (by omega) hx1) (cv_cut 0 2 (by omega) x2) (cv_all x3)
        | 9, _, _, hx1 => exact ag_cov_of (List.mem_of_getElem? (i := 39) rfl) hxk (cv_one (by omega) hx1) (cv_cut 0 2 (by omega) x2) (cv_all x3)
        | 10, _, _, hx1 => exact ag_cov_of (List.mem_of_getElem? (i := 40) rfl) hxk (cv_one (by omega) hx1) (cv_cut 0 2 (by omega) x2) (cv_all x3)
        | j + 11, _, hj2, _ => exact absurd hj2 (by omega)
    | 20, _, hxk =>
      by_cases hn : x1.toInt < 1 ∨ 10 < x1.toInt
      · exact ag_cov_of (List.mem_of_getElem? (i := 41) rfl) hxk (cv_pair (by omega)) (cv_all x2) (cv_all x3)
      · obtain ⟨j, hj, hj2, hx1⟩ : ∃ j : Nat, 1 ≤ j ∧ j ≤ 10 ∧ x1.toInt = (j : Int) := ⟨x1.toInt.toNat, by omega, by omega, by omega⟩
        clear hn
        match j, hj, hj2, hx1 with
        | 0, hj, _, _ => exact absurd hj (by omega)
        | 1, _, _, hx1 => exact ag_cov_of (List.mem_of_getElem? (i := 42) rfl) hxk (cv_one (by omega) hx1) (cv_all x2) (cv_all x3)
        | 2, _, _, hx1 => exact ag_cov_of (List.mem_of_getElem? (i := 43) rfl) hxk (cv_one (by omega) hx1) (cv_all x2) (cv_all x3)
        | 3, _, _, hx1 => exact ag_cov_of (List.mem_of_getElem? (i := 44) rfl) hxk (cv_one (by omega) hx1) (cv_all x2) (cv_all x3)
        | 4, _, _, hx1 => exact ag_cov_of (List.mem_of_getElem? (i := 45) rfl) hxk (cv_one (by omega) hx1) (cv_all x2) (cv_all x3)
        | 5, _, _, hx1 => exact ag_cov_of (List.mem_of_getElem? (i := 46) rfl) hxk (cv_one (by omega) hx1) (cv_all x2) (cv_all x3)
        | 6, _, _, hx1 => exact ag_cov_of (List.mem_of_getElem? (i := 47) rfl) hxk (cv_one (by omega) hx1) (cv_all x2) (cv_all x3)
        | 7, _, _, hx1 => exact ag_cov_of (List.mem_of_getElem? (i := 48) rfl) hxk (cv_one (by omega) hx1) (cv_all x2) (cv_all x3)
        | 8, _, _, hx1 => exact ag_cov_of (List.mem_of_getElem? (i := 49) rfl) hxk (cv_one (by omega) hx1) (cv_all x2) (cv_all x3)
        | 9, _, _, hx1 => exact ag_cov_of (List.mem_of_getElem? (i := 50) rfl) hxk (cv_one (by omega) hx1) (cv_all x2) (cv_all x3)
        | 10, _, _, hx1 => exact ag_cov_of (List.mem_of_getElem? (i := 51) rfl) hxk (cv_one (by omega) hx1) (cv_all x2) (cv_all x3)
        | j + 11, _, hj2, _ => exact absurd hj2 (by omega)
    | 21, _, hxk => exact ag_cov_of (List.mem_of_getElem? (i := 52) rfl) hxk (cv_cut 0 2 (by omega) x1) (cv_all x2) (cv_all x3)
    | 22, _, hxk => exact ag_cov_of (List.mem_of_getElem? (i := 53) rfl) hxk (cv_cut 0 2 (by omega) x1) (cv_all x2) (cv_all x3)
    | 23, _, hxk => exact ag_cov_of (List.mem_of_getElem? (i := 54) rfl) hxk (cv_cut 0 9 (by omega) x1) (cv_all x2) (cv_all x3)
    | k + 24, hk, _ => exact absurd hk (by omega)
theorem ws_mem {w : Cond} (h : w ∈ lw_gt) : w ∈ lw_tbl := (List.mem_filter.mp h).1
theorem ws_classes {s : State} {args : Array Value} (hts : ∀ w ∈ lw_tbl, w.before args s = true) : ∃ (dC : Nat → ClassId) (dI : Nat → Nat → Nat), ∀ (k : Nat) (q : vw_C), vwCl[k]? = some q → u_Kn s q.1 q.2.1 q.2.2 (dC k) (dI k) := by
  obtain ⟨c0, i0, h0⟩ := u_known (C := RX0) (T := TX0) (N := 1) (n := 1) hts (fun w h => ws_mem (ag_cl0.1 w h)) (hts (.instantiable RX0 1) (by decide +kernel))
  obtain ⟨c1, i1, h1⟩ := u_known (C := RX1) (T := TX1) (N := 7) (n := 7) hts (fun w h => ws_mem (ag_cl1.1 w h)) (hts (.instantiable RX1 7) (by decide +kernel))
  obtain ⟨c2, i2, h2⟩ := u_known (C := RX2) (T := TX2) (N := 11) (n := 11) hts (fun w h => ws_mem (ag_cl2.1 w h)) (hts (.instantiable RX2 11) (by decide +kernel))
  obtain ⟨c3, i3, h3⟩ := u_known (C := RX3) (T := TX3) (N := 6) (n := 6) hts (fun w h => ws_mem (ag_cl3.1 w h)) (hts (.instantiable RX3 6) (by decide +kernel))
  obtain ⟨c4, i4, h4⟩ := u_known (C := RX5) (T := TX5) (N := 2) (n := 2) hts (fun w h => ws_mem (ag_cl4.1 w h)) (hts (.instantiable RX5 2) (by decide +kernel))
  obtain ⟨c5, i5, h5⟩ := u_known (C := RX6) (T := TX6) (N := 5) (n := 5) hts (fun w h => ws_mem (ag_cl5.1 w h)) (hts (.instantiable RX6 5) (by decide +kernel))
  obtain ⟨c6, i6, h6⟩ := u_known (C := RX7) (T := TX7) (N := 9) (n := 9) hts (fun w h => ws_mem (ag_cl6.1 w h)) (hts (.instantiable RX7 9) (by decide +kernel))
  obtain ⟨c7, i7, h7⟩ := u_known (C := RX9) (T := TX9) (N := 12) (n := 12) hts (fun w h => ws_mem (ag_cl7.1 w h)) (hts (.instantiable RX9 12) (by decide +kernel))
  obtain ⟨c8, i8, h8⟩ := u_known (C := RX10) (T := TX10) (N := 31) (n := 31) hts (fun w h => ws_mem (ag_cl8.1 w h)) (hts (.instantiable RX10 31) (by decide +kernel))
  refine ⟨fun k => if k = 0 then c0 else if k = 1 then c1 else if k = 2 then c2 else if k = 3 then c3 else if k = 4 then c4 else if k = 5 then c5 else if k = 6 then c6 else if k = 7 then c7 else c8, fun k => if k = 0 then i0 else if k = 1 then i1 else if k = 2 then i2 else if k = 3 then i3 else if k = 4 then i4 else if k = 5 then i5 else if k = 6 then i6 else if k = 7 then i7 else i8, ?_⟩
  intro k q hq
  match k, hq with
  | 0, hq => cases hq; exact h0
  | 1, hq => cases hq; exact h1
  | 2, hq => cases hq; exact h2
  | 3, hq => cases hq; exact h3
  | 4, hq => cases hq; exact h4
  | 5, hq => cases hq; exact h5
  | 6, hq => cases hq; exact h6
  | 7, hq => cases hq; exact h7
  | 8, hq => cases hq; exact h8
  | k + 9, hq => simp [vwCl] at hq
theorem ws_arr {s : State} {args : Array Value} {ty : FieldType} (h : (Cond.arrayClass ty).before args s = true) : ∃ c : ClassId, s.vm.findClass ("[" ++ ty.toString) = some c ∧ ArrOfT s c ty := by
  obtain ⟨c, k, comp, h1, h2, h3⟩ := Cond.arrayClass_spec h
  exact ⟨c, h1, fun n z => ⟨(fun q hq => by cases hq), k, h2, comp, h3⟩⟩
theorem ws_ov {s : State} {ty : FieldType} (h : mq_ov ty s) : ∃ c : ClassId, s.vm.findClass ("[" ++ (FieldType.array ty).toString) = some c ∧ ArrOfT s c (.array ty) := by
  obtain ⟨comp, c, k, -, h2, h3, h4⟩ := h
  exact ⟨c, h4, fun n z => ⟨(fun q hq => by cases hq), k, h2, comp, h3⟩⟩
theorem ws_K {s : State} {args : Array Value} (hts : ∀ w ∈ lw_tbl, w.before args s = true) : ∃ (dC : Nat → ClassId) (dI : Nat → Nat → Nat) (dT : Nat → ClassId), va_K (dC, dI) vwCl (ag_tys dT) s := by
  obtain ⟨dC, dI, hc⟩ := ws_classes hts
  obtain ⟨c0, a0, b0⟩ := ws_arr (ty := .int) (hts (.arrayClass .int) (by decide +kernel))
  obtain ⟨c1, a1, b1⟩ := ws_arr (ty := .long) (hts (.arrayClass .long) (by decide +kernel))
  obtain ⟨c2, a2, b2⟩ := ws_arr (ty := .boolean) (hts (.arrayClass .boolean) (by decide +kernel))
  obtain ⟨c3, a3, b3⟩ := ws_ov (ty := .int) (mq_ov.of (hts (.arrayOver (.array .int)) (by decide +kernel)))
  obtain ⟨c4, a4, b4⟩ := ws_ov (ty := .long) (mq_ov.of (hts (.arrayOver (.array .long)) (by decide +kernel)))
  refine ⟨dC, dI, fun k => if k = 0 then c0 else if k = 1 then c1 else if k = 2 then c2 else if k = 3 then c3 else c4, hc, fun k q hq => ?_⟩
  match k, hq with
  | 0, hq => cases hq; exact ⟨b0, a0⟩
  | 1, hq => cases hq; exact ⟨b1, a1⟩
  | 2, hq => cases hq; exact ⟨b2, a2⟩
  | 3, hq => cases hq; exact ⟨b3, a3⟩
  | 4, hq => cases hq; exact ⟨b4, a4⟩
  | k + 5, hq => simp [ag_tys] at hq
def ws_tm (i : Nat) : Term := .string RX6 (ae_SI.getD i 0)
def ws_flat : List Cond := flatC (Jvm.Cond.and given_1 narrow_1)
theorem ws_n1 : ∀ i : Nat, i < 12 → Cond.exactly (ws_tm i) "java/lang/String" ∈ ws_flat := by decide +kernel
theorem ws_n2 : ∀ i : Nat, i < 12 → Cond.eq (.field (ws_tm i) "java/lang/String" "coder" "B") (.int 0) ∈ ws_flat := by decide +kernel
theorem ws_n3 : ∀ i : Nat, i < 12 → Cond.arrayOf (.field (ws_tm i) "java/lang/String" "value" "[B") .byte ∈ ws_flat := by decide +kernel
theorem ws_n4 : ∀ i : Nat, i < 12 → Cond.eq (.length (.field (ws_tm i) "java/lang/String" "value" "[B")) (.int (Int32.ofNat (ae_SN.getD i 0))) ∈ ws_flat := by decide +kernel
theorem ws_n5 : ∀ i : Nat, i < 12 → ∀ j : Nat, j < ae_SN.getD i 0 → Cond.eq (.elem (.field (ws_tm i) "java/lang/String" "value" "[B") (.int (Int32.ofNat j))) (.int ((ae_SB.getD i []).getD j 0)) ∈ ws_flat := by decide +kernel
theorem ws_n6 : ∀ i : Nat, i < 12 → ∀ j : Nat, j < 12 → i ≠ j → Cond.not (Cond.eq (ws_tm i) (ws_tm j)) ∈ ws_flat ∨ Cond.not (Cond.eq (ws_tm j) (ws_tm i)) ∈ ws_flat := by decide +kernel
theorem ws_n7 : ∀ i : Nat, i < 12 → ae_SN.getD i 0 < 2 ^ 31 := by decide +kernel
def ws_tx : List String := ["plain", "oneway", "two", "weighed", "sticking", "false", "gaol", "kitchen", "hungry", "soap", "key", "guard"]
theorem ws_n8 : ∀ i : Nat, i < 12 → Cond.stringRef RX6 (ae_SI.getD i 0) (ws_tx.getD i "") ∈ lw_tbl := by decide +kernel
set_option maxHeartbeats 4000000 in
set_option maxRecDepth 100000 in
theorem ws_X {s : State} {b L : Nat} {xs : Nat → Int32} (hts : ∀ w ∈ lw_tbl, w.before #[Value.ref b] s = true) (hX : va_X b L xs s s.heap) (hbl : b < s.heap.size) (hgv : (Jvm.Cond.and given_1 narrow_1).before #[Value.ref b] s = true) : ∃ adK adV : Nat → Nat, ag_X adK adV b L xs (fun q : Nat => s.heap.size ≤ q) s := by
  have hfl : ∀ w ∈ ws_flat, w.before #[Value.ref b] s = true := flat_of_before _ hgv
  have hAn : ∀ a : Nat, a < s.heap.size → ¬ (fun q : Nat => s.heap.size ≤ q) a := fun a h q => absurd h (Nat.not_lt.mpr q)
  obtain ⟨adK, adV, hSt, hev⟩ := vk_Sof (args := #[Value.ref b]) (s := s) (N := 12) (tm := ws_tm) (len := ae_SN) (byt := ae_SB) (A := fun q : Nat => s.heap.size ≤ q) ws_n7 (fun i hi => hfl _ (ws_n1 i hi)) (fun i hi => hfl _ (ws_n2 i hi)) (fun i hi => hfl _ (ws_n3 i hi)) (fun i hi => hfl _ (ws_n4 i hi)) (fun i hi j hj => hfl _ (ws_n5 i hi j hj)) (fun i j hi hj hij => (ws_n6 i hi j hj hij).elim (fun h => Or.inl (hfl _ h)) (fun h => Or.inr (hfl _ h))) hAn
  refine ⟨adK, adV, hSt, fun k idx hk => ?_, va_Zof (hts (.laysStatic "java/lang/String" "COMPACT_STRINGS" "Z") (by decide +kernel)) (hts (.initialized "java/lang/String") (by decide +kernel)) (va_eqi (hfl _ (by decide +kernel))) hAn, va_Nw.of rfl (hts (.methodLinkNest "OneKey" 9 yX6_init "OneKey") (by decide +kernel)), mq_ov.of (hts (.arrayOver (.array .int)) (by decide +kernel)), mq_ov.of (hts (.arrayOver (.array .long)) (by decide +kernel)), hX, hbl, hAn b hbl⟩
  have hk12 : k < 12 := (List.getElem?_eq_some_iff.mp hk).1
  have hid : ae_SI.getD k 0 = idx := by rw [List.getD_eq_getElem?_getD, hk]; rfl
  have h1 := hts _ (ws_n8 k hk12)
  have h2 : (Term.string RX6 (ae_SI.getD k 0)).eval #[Value.ref b] s none [] s = some (.ref (adK k)) := hev k hk12
  rw [hid] at h1 h2
  exact ⟨_, vk_R.of h1 h2⟩
theorem ws_d26 : decode code 26 = .ok (.aload_n 0, 1) := by decide +kernel
theorem ws_d27 : decode code 27 = .ok (.iload_n 3, 1) := by decide +kernel
theorem ws_d28 : decode code 28 = .ok (.iaload, 1) := by decide +kernel
theorem ws_d29 : decode code 29 = .ok (.bipush 31, 2) := by decide +kernel
theorem ws_d31 : decode code 31 = .ok (.iand, 1) := by decide +kernel
theorem cv_and (x : Int32) : 0 ≤ (x &&& 31).toInt ∧ (x &&& 31).toInt ≤ 31 := by
  obtain ⟨j, hj, e⟩ := pk_andE x (m := 31) 5 (by decide +kernel)
  rw [e, nI_toInt (by omega)]
  omega
theorem ae_l03_eq {lo : ae_L} (h : ae_l03 lo = true) : ae_get lo 3 = some (.inl (.inl 0)) ∧ ae_get lo 0 = some (.inr (.inr (.inr 1))) := by
  unfold ae_l03 at h
  obtain ⟨h1, h2⟩ := ae_and h
  refine ⟨?_, ?_⟩
  · split at h1
    · assumption
    · cases h1
  · split at h2
    · assumption
    · cases h2
section TO2
variable {adK adV : Nat → Nat} {b L : Nat} {xs : Nat → Int32} {dC : Nat → ClassId} {dI : Nat → Nat → Nat} {dT : Nat → ClassId} {XA : List ae_I}
theorem ag_to2 (hT : ag_tab) (hXA : XA.length = L ∧ L ≤ 4 ∧ ∀ (j : Nat) (a : ae_I), XA[j]? = some a → ag_I a (xs j)) {stop : Nat} {KF : ae_K} {d q : Nat} {me : ae_M} (hm : me ∈ ae_MT) {res : ae_R} {A : Nat → Prop} {p : Program} {l : Launch} {e : Env} {R : Room} {s : State} {m : MethodId} {args : Array Value} {below : List Frame} {meth : Method} {c : Code} {Q : State → Prop} {ad0 : List Nat} (hF : ag_F (ag_X adK adV b L xs) dC dI dT A me d q p R s m args meth c) (hfin : ag_fin (ag_E adK b) dC dI dT A me p l e R s m args below meth c Q ad0 res)
    (hKF : ∀ (lo : ae_L) (st : List ae_V) (w : List ae_C) (cs sl : Nat), KF stop lo st w cs sl = some res → ag_H (ag_E adK b) dC dI dT A me p l e R s m args below meth c Q ad0 stop lo st w cs sl) : ∀ n : Nat, ag_N (ag_E adK b) dC dI dT A me p l e R s m args below meth c Q ad0 (ae_to XA stop KF n d q me) res := by
  intro n
  induction n with
  | zero =>
    intro pc lo st w cs sl h
    cases h
  | succ n ih =>
    intro pc lo st w cs sl h
    have h : cond (Nat.beq pc stop) (KF pc lo st w cs sl) (ae_some (ae_nth (ae_il me) pc) (fun oie => ae_some oie (fun ie => cond (Nat.beq ie.2.2.2.2.1 77777) (ae_macro (ae_to XA stop KF n d q me) ie pc lo st w cs sl) (ae_step ae_MT ae_DF ae_TY ae_SN XA (ag_CF XA n) d q me (ae_to XA stop KF n d q me) ie pc lo st w cs sl)))) = some res := h
    cases hb : Nat.beq pc stop with
    | true =>
      rw [hb] at h
      have hp := ae_beq hb
      subst hp
      exact hKF lo st w cs sl h
    | false =>
      rw [hb] at h
      have hXS : ag_X adK adV b L xs A s := hF.2.2.2.2.2.2.2.2.2.2.2.2.2.2
      exact ag_one hT (CF := ag_CF XA n) hm hF ih (ag_X_sc hXA hXS) (ag_metOf hT (ag_run hT hXA n) l) hfin h
end TO2

theorem ws_mem_law : mL_law ∈ ae_MT := List.mem_of_getElem? (i := 147) rfl
set_option maxHeartbeats 4000000 in
set_option maxRecDepth 100000 in
/-- THE LAW, from its entry -/
theorem whole_start {p : Program} {e : Env} {s : State} {m : MethodId} {below : List Frame} {meth : Method} {c : Code} (l : Launch) {b L : Nat} {xs : Nat → Int32} (hL : L ≤ 4) (C0 : lw_At p s m meth c b L xs) : W p l e room_1 s m #[Value.ref b] below meth c s.heap [] 0 0 (lw_Z below #[Value.ref b] s) (entryFrame m ([Value.ref b] : List Value).toArray 4) := by
  obtain ⟨hx, hb, hr, hml, hown, hts, hX, hbl, hlocks, hgv⟩ := C0
  obtain ⟨dC, dI, dT, hK⟩ := ws_K hts
  obtain ⟨adK, adV, hXS⟩ := ws_X hts hX hbl hgv
  have hT := ag_tab_ok
  have hF : ag_F (ag_X adK adV b L xs) dC dI dT (fun q : Nat => s.heap.size ≤ q) mL_law 11 406 p room_1 s m #[Value.ref b] meth c := ⟨hx, hb, hml, hown, fun w h => hts w (ws_mem h), hK, fun _ h => h, hlocks, hr, fun h9 => absurd h9 (by decide), rfl, rfl, rfl, rfl, hXS⟩
  have hl := lv_entry ([.ref b]) (n := 4) (Nat.le_of_ble_eq_true rfl)
  rw [lg_entry_eq]
  generalize (lg_sl ([.ref b]) ++ List.replicate (4 - (lg_sl ([.ref b])).length) Slot.unset).toArray = ls at hl ⊢
  have hl : lv_has ls 4 [(0, .ref b)] := hl
  have hat : ag_At (ag_E adK b) dC dI dT (fun q : Nat => s.heap.size ≤ q) mL_law s [] [(0, .inr (.inr (.inr 1)))] [] [] 0 0 [] [] s.heap [] [(0, .ref b)] ls [] := ⟨⟨Nat.zero_le _, Nat.zero_le _⟩, ⟨[], rfl⟩, rfl, hl, ⟨⟨rfl, rfl⟩, trivial⟩, trivial, trivial, fun k q h => by simp at h, ⟨fun i j p q h => by simp at h, fun k q h => by simp at h⟩, va_S.rf⟩
  have hfin1 : ∀ w : List ae_C, ag_fin (ag_E adK b) dC dI dT (fun q : Nat => s.heap.size ≤ q) mL_law p l e room_1 s m #[Value.ref b] below meth c (lw_Z below #[Value.ref b] s) [] (some (.inl (.inl 1)), w) := by
    intro w ins pc ls stv ad ws H locs cs sl hdg hrt hcs hex had hw hP hD hS
    rcases hrt with ⟨-, -, hrv, -⟩ | ⟨rfl, a, z, ty, hrv, rfl, hz, -, -⟩ | ⟨-, a, z, hrv, -⟩ | ⟨-, a, v, rt, hrv, -⟩
    · cases hrv
    · cases hrv
      have hz : z = nI 1 := hz
      have e1 : nI 1 = (1 : Int32) := by decide +kernel
      rw [e1] at hz
      subst hz
      refine va_forget hS.2.2 ?_
      refine W.widen (k := 600000) (n := 7302250) hcs.1 hcs.2 ?_
      exact lw_ret hx hb hr hlocks hdg
    · cases hrv
    · cases hrv
  have hfin0 : ag_fin (ag_E adK b) dC dI dT (fun q : Nat => s.heap.size ≤ q) mL_law p l e room_1 s m #[Value.ref b] below meth c (lw_Z below #[Value.ref b] s) [] (none, []) := by
    intro ins pc ls stv ad ws H locs cs sl hdg hrt
    rcases hrt with ⟨-, hr9, -, -⟩ | ⟨-, a, z, ty, hrv, -⟩ | ⟨-, a, z, hrv, -⟩ | ⟨-, a, v, rt, hrv, -⟩
    · cases hr9
    · cases hrv
    · cases hrv
    · cases hrv
  have hshort : ae_sh L = true → W p l e room_1 s m #[Value.ref b] below meth c s.heap [] 0 0 (lw_Z below #[Value.ref b] s) (F0 m 0 ls []) := fun h9 => by
    obtain ⟨w, hw⟩ := ae_okr_eq h9
    exact ag_run hT (XA := List.replicate L ae_FI) (adK := adK) (adV := adV) (b := b) (L := L) (xs := xs) (dC := dC) (dI := dI) (dT := dT) ⟨List.length_replicate, hL, fun j a ha => by
      have h8 := List.mem_of_getElem? ha
      rw [List.eq_of_mem_replicate h8]
      exact ag_full _⟩ 60000 11 406 mL_law ws_mem_law 0 _ _ _ 0 0 _ hw (fun q : Nat => s.heap.size ≤ q) p l e room_1 s m #[Value.ref b] below meth c (lw_Z below #[Value.ref b] s) [] hF (hfin1 w) [] [] s.heap [] _ ls [] hat
  rcases (show L = 0 ∨ L = 1 ∨ L = 2 ∨ L = 3 ∨ L = 4 by omega) with rfl | rfl | rfl | rfl | rfl
  · exact hshort sh_0
  · exact hshort sh_1
  · exact hshort sh_2
  · exact hshort sh_3
  · -- four ints: a call
    have hfull : ([ae_FI, ae_FI, ae_FI, ae_FI] : List ae_I).length = 4 ∧ 4 ≤ 4 ∧ ∀ (j : Nat) (a : ae_I), ([ae_FI, ae_FI, ae_FI, ae_FI] : List ae_I)[j]? = some a → ag_I a (xs j) := ⟨rfl, Nat.le_refl _, fun j a ha => by
      have h8 := List.mem_of_getElem? ha
      have h7 : a = ae_FI := by simpa using h8
      rw [h7]
      exact ag_full _⟩
    obtain ⟨hb0, hb31⟩ := cv_and (xs 0)
    obtain ⟨g, hg, hgx, a1, m1, h1, a2, m2, h2, a3, m3, h3⟩ := ag_cov_all (xs 0 &&& 31) (xs 1) (xs 2) (xs 3) hb0 hb31
    have hgo := ae_is_eq (go_all g hg)
    refine ag_to2 hT hfull ws_mem_law hF hfin0 (KF := ae_KF g) ?_ 60000 0 _ _ _ 0 0 hgo [] [] s.heap [] _ ls [] hat
    intro lo st w cs sl h
    cases st with
    | cons v r => cases h
    | nil =>
      have h : ae_if (ae_l03 lo && ae_grp g 32 lo w cs sl) (some (none, [])) = some (none, []) := h
      obtain ⟨hc, -⟩ := ae_if_inv h
      obtain ⟨hl3, hgrp⟩ := ae_and hc
      obtain ⟨hg3, hg0⟩ := ae_l03_eq hl3
      intro ad ws H locs lv ls2 stv hat2
      obtain ⟨hcs, hex, had, hl2, hlo, hst, hw, hP, hD, hS⟩ := hat2
      have e0 := ag_S_nil hst
      subst e0
      obtain ⟨k3, v3, hk3, x3, e3, hx3⟩ := ag_L_get hlo hg3
      subst e3
      have hx3 : x3 = nI 0 := hx3
      subst hx3
      obtain ⟨k0, v0, hk0, hv0⟩ := ag_L_get hlo hg0
      have hv0 : v0 = .ref b := hv0
      subst hv0
      have hbA : ¬ (fun q : Nat => s.heap.size ≤ q) b := Nat.not_le.mpr hbl
      refine lv_aload_n hx hb ws_d26 rfl (lv_at hl2 k0 hk0) ?_
      refine lv_iload_n hx hb ws_d27 rfl (lv_at hl2 k3 hk3) ?_
      refine va_sld hx hb hX hbl hbA hS (vp_in_nI (by omega) (by omega)) ws_d28 ?_
      rw [nI_clamp (by omega)]
      refine lv_bipush (v := 31) hx hb ws_d29 (by decide) ?_
      refine lv_iand hx hb ws_d31 ?_
      have hr1 : ae_okr (ae_run ae_MT ae_DF ae_TY ae_SN [ae_FI, a1, a2, a3] 60000 11 406 mL_law 32 lo [.inl g.1] w cs sl) = true := List.all_eq_true.mp (List.all_eq_true.mp (List.all_eq_true.mp hgrp a1 m1) a2 m2) a3 m3
      obtain ⟨w9, hw9⟩ := ae_okr_eq hr1
      exact ag_run hT (XA := [ae_FI, a1, a2, a3]) (adK := adK) (adV := adV) (b := b) (L := 4) (xs := xs) (dC := dC) (dI := dI) (dT := dT) ⟨rfl, Nat.le_refl _, fun j a ha => by
        match j, ha with
        | 0, ha => cases ha; exact ag_full _
        | 1, ha => cases ha; exact h1
        | 2, ha => cases ha; exact h2
        | 3, ha => cases ha; exact h3
        | j + 4, ha => simp at ha⟩ 60000 11 406 mL_law ws_mem_law 32 lo [.inl g.1] w cs sl _ hw9 (fun q : Nat => s.heap.size ≤ q) p l e room_1 s m #[Value.ref b] below meth c (lw_Z below #[Value.ref b] s) [] hF (hfin1 w9) ad ws H locs lv ls2 _ ⟨hcs, hex, had, hl2, hlo, ⟨⟨_, rfl, hgx⟩, trivial⟩, hw, hP, hD, hS⟩
-- ===== MY PART ENDS =====

-- ===== YOUR PART ENDS =====
set_option maxHeartbeats 4000000 in
theorem lw_walk (l : Launch) (b : Addr) (xs : List Int32) : MetFree l x (headSpec (Jvm.Cond.code x code maxLocals ret :: tables_1) room_1) (lw_P b xs) (fun _ _ _ _ _ => True) lw_Q := by
  refine MetFree.of_bodyS (code := code) (maxLocals := maxLocals) (ret := ret) (by decide) ?_ ?_
  · intro args s m h hn
    obtain ⟨meth, c, h1, h2, h3, h4, h5, h6, -, -⟩ := Cond.code_spec hn (atoms_spec (ws := Jvm.Cond.code x code maxLocals ret :: tables_1) h _ List.mem_cons_self)
    exact ⟨meth, c, h1, h2, h3, h4, h5, h6⟩
  · intro p e s m args below meth c s₁ B hml0 hP _
    obtain ⟨rfl, hx, hbd, hgv⟩ := hP
    obtain ⟨scr, harrAt, hlist, hof, hsmall⟩ := hx
    obtain ⟨hcb, hkn, -, -⟩ := State.arrayAt?_spec harrAt
    have hown : s.vm.findClass R_law = some m.cls := findClass_of_methodNamed B.named
    have hts0 : ∀ c ∈ (Jvm.Cond.code x code maxLocals ret :: tables_1), c.before #[Value.ref b] s = true := atoms_spec (ws := Jvm.Cond.code x code maxLocals ret :: tables_1) B.pre
    have hts : ∀ w ∈ lw_tbl, w.before #[Value.ref b] s = true := k2_hts_sels lw_privs (fun w hw => hts0 w (List.mem_cons_of_mem _ hw)) lw_privs_ok
    have hml : c.maxLocals = 4 := B.maxLocals_eq (hts0 _ List.mem_cons_self)
    have X₀ : Stand p l e room_1 s m #[Value.ref b] below meth c s₁ [] 0 0 := Stand.of_body B
    have hh0 : s₁.heap = s.heap := by rw [B.state]; rfl
    have hsz : scr.slots.size = xs.length := by rw [← Array.length_toList, hlist, List.length_map]
    have hval : ∀ j : Nat, j < xs.length → scr.slots[j]? = some (.int (xs.getD j 0)) := fun j hj => by
      rw [← Array.getElem?_toList, hlist]
      simp [hj]
    have hbl : b < s.heap.size := (Array.getElem?_eq_some_iff.mp hcb).1
    have hX : va_X b xs.length (fun j => xs.getD j 0) s s.heap := ⟨scr, hcb, hof, hkn, hsz, hval⟩
    have K : W p l e room_1 s m #[Value.ref b] below meth c s₁.heap [] 0 0 (lw_Z below #[Value.ref b] s) (entryFrame m ([Value.ref b] : List Value).toArray 4) := by
      rw [hh0]
      exact whole_start l hbd ⟨B.exec, B.bytes, B.returns, hml, hown, hts, hX, hbl, B.notSynchronized, hgv⟩
    obtain ⟨t, a1, o, b1, b2, b3⟩ := K s₁ rfl X₀
    exact ⟨t, o, a1, b1, b2, b3⟩
theorem lw_pre_spec {args : Array Value} {s : State} (h : (Jvm.Cond.and given_1 narrow_1).before args s = true) (hr : rest_1_c.before args s = true) : ∃ (b : Addr) (xs : List Int32), lw_P b xs args s := by
  have hs := flat_of_before _ h
  have hq := flat_of_before _ hr
  have hc : (Cond.count 1).before args s = true := hs _ (by decide +kernel)
  have harr : (Cond.arrayOf (.arg 0) .int).before args s = true := hs _ (by decide +kernel)
  have hle : (Cond.le (.length (.arg 0)) (.int 4)).before args s = true := hs _ (by decide +kernel)
  have hlen : (Cond.isInt (.length (.arg 0))).before args s = true := hq _ (by decide +kernel)
  have hall : (Cond.all (.arg 0) (.isInt (.elem (.arg 0) (.index 0)))).before args s = true := hq _ (by decide +kernel)
  obtain ⟨b, xs, hb, hx⟩ := State.ints_of_pre rfl harr hlen hall
  have hsm : xs.length < 2 ^ 31 := hx.choose_spec.2.2.2
  have hev : (Term.length (.arg 0)).eval args s none [] s = some (.int xs.length.toInt32) := hx.length_eval hb
  have hv := Cond.le_ints hev (show (Term.int 4).eval args s none [] s = some (.int 4) from rfl)
  have hd : xs.length.toInt32 ≤ 4 := by
    simpa [Cond.before, Cond.holds, hv] using hle
  have hN : xs.length ≤ 4 := (Int32.ofNat_le_ofNat hsm (by decide)).mp (show Int32.ofNat xs.length ≤ Int32.ofNat 4 from hd)
  exact ⟨b, xs, Cond.one_arg hc (show args[0]? = some (.ref b) from hb), hx, hN, h⟩
theorem lw_comes (l : Launch) : Comes l x (Jvm.Cond.code x code maxLocals ret :: tables_1) room_1 (fun tb e args s => Calls_1 tb e args s ∧ rest_1 tb e args s ∧ Pre_1 tb e args s)
    (fun _ _ args s o t => lw_Q args s o t) := by
  intro p e ha hc hk s m args below hf hfit hheap happ hpre
  obtain ⟨b, xs, hP⟩ := lw_pre_spec hpre.2.2 hpre.2.1
  obtain ⟨k, o, h1, h2, h3, hQ⟩ := lw_walk l b xs p e ha hc hk s m args below hf ((Spec.applies_iff_loose hf).mp happ).1 hP trivial
  exact ⟨k, o, h1, h2, h3, hQ⟩
theorem lw_frame {s t : State} {o : Outcome} {args : Array Value} (h : Framed s o t [] 600000 7302250) :
    Framed s o t (fieldLocs frame_1_writes args s ++ arrayLocs frame_1_arrays args s ++ staticLocs frame_1_statics s) 600000 7302250 := h
theorem lw_limb (L : Cond) (hL : ∀ (args : Array Value) (s t : State), L.after args s (.returned (some (.int 1))) t = true) :
    ArmFor flags0 classFile x code maxLocals ret World_1 tables_1 room_1 Calls_1 rest_1 Pre_1
      (fun tb e a s o t => postC L tb e a s o t ∧ Framed s o t (fieldLocs frame_1_writes a s ++ arrayLocs frame_1_arrays a s ++ staticLocs frame_1_statics s) 600000 7302250) := by
  intro l _ _ _ p e ha hc hk s m args below hf hfit hheap happ hpre
  obtain ⟨k, o, h1, h2, h3, rfl, hF⟩ := lw_comes l p e ha hc hk s m args below hf hfit hheap happ hpre
  exact ⟨k, _, h1, h2, h3, hL args s _, lw_frame hF⟩
theorem i_vc : Claimed_1_1 ∧ Claimed_1_2 := ⟨lw_limb limb_1_1 (fun args s t => by simp [limb_1_1, Cond.after, Cond.holds, Cond.value]), lw_limb limb_1_2 (fun args s t => Cond.after_iff.mpr (by
  first | (rw [show limb_1_2 = Cond.eq .result (.int 1) from rfl, Cond.eq_ints (x := 1) (y := 1) rfl rfl]; simp; done) | (simp [limb_1_2, Cond.value, Term.eval]; done)))⟩
