/-! THE CLAIM OUT OF ONE WALK OF THE LAW'S BODY. Your part is whole_start (and what it stands on); all else here is the same for every law, but numbers. -/
def R_law : String := "OneKeyLaw"
def lw_P (b : Addr) (xs : List Int32) (args : Array Value) (s : State) : Prop := args = #[.ref b] ∧ s.IntsAt b xs ∧ xs.length ≤ 256 ∧ (Jvm.Cond.and given_1 narrow_1).before args s = true
def lw_Q (_ : Array Value) (s : State) (o : Outcome) (t : State) : Prop := o = .returned (some (.int 1)) ∧ Framed s o t [] 600000 7302250
def lw_Z (below : List Frame) (a : Array Value) (s : State) : State → Prop := fun t => ∃ o, t.status = .running ∧ Ended t below o ∧ lw_Q a s o t
/-- the law's own end, with 1 on the stack, nothing written that was there before, its room as the claim has it -/
theorem lw_ret {p : Program} {l : Launch} {e : Env} {s : State} {m : MethodId} {below : List Frame} {meth : Method} {c : Code} {b : Nat} (hx : p.tables.exec = Jvm.exec) (hb : c.code = code) (hr : meth.sig.returnType = ret) (hlocks : meth.locks = false) {pc : Nat} {H : Heap} {ls : Array Slot} (hdg : decode code pc = .ok (.ireturn, 1)) : W p l e room_1 s m #[Value.ref b] below meth c H [] 600000 7302250 (lw_Z below #[Value.ref b] s) (F0 m pc ls [.int 1]) := by
  intro T hT X
  obtain ⟨fs, hret, hrun, hended, hW, hframe⟩ := X.leave (v := some (.int 1)) (hlocks := hlocks) (fun h => by rw [hr] at h; cases h)
  have hmeth' : T.vm.method? m = some meth := X.method'
  refine ⟨T.setFrames fs, ?_, .returned (some (.int 1)), hrun, hended, rfl, ⟨_, rfl⟩, hW, hframe⟩
  jvm_step X.here [X.here.top, hx, hb, hdg, hmeth', hr, ret, narrow_b1]
  (try refine ⟨rfl, ?_⟩); (try refine ⟨rfl, ?_⟩)
  first | (intro acts; rw [hret _ acts rfl rfl rfl]) | rw [hret _ _ rfl rfl rfl]
  exact Steps.refl _
/-- what holds at the law's entry: the machine, the code, the tables' words (any of lw_tbl by 'hts w (by decide +kernel)'), the script of L ints xs at the cell b, what the Statement gives of the start (any of its parts by flat_of_before) -/
def lw_At (p : Program) (s : State) (m : MethodId) (meth : Method) (c : Code) (b L : Nat) (xs : Nat → Int32) : Prop :=
  p.tables.exec = Jvm.exec ∧ c.code = code ∧ meth.sig.returnType = ret ∧ c.maxLocals = 4 ∧ s.vm.findClass R_law = some m.cls ∧ (∀ w ∈ lw_tbl, w.before #[Value.ref b] s = true) ∧ va_X b L xs s s.heap ∧ b < s.heap.size ∧ meth.locks = false ∧ (Jvm.Cond.and given_1 narrow_1).before #[Value.ref b] s = true

-- ===== MY PART BEGINS =====
theorem ag_tab_ok : ag_tab := fun me hm => by
  have h := ok_all me hm
  obtain ⟨h1, h2⟩ := ae_and h
  exact ⟨h1, fun pc ie hie => by
    have h3 := ae_okL_at me _ 0 pc ie h2 hie
    rw [Nat.zero_add] at h3
    exact h3⟩
theorem ws_mem {w : Cond} (h : w ∈ lw_gt) : w ∈ lw_tbl := (List.mem_filter.mp h).1
theorem ws_classes {s : State} {args : Array Value} (hts : ∀ w ∈ lw_tbl, w.before args s = true) : ∃ (dC : Nat → ClassId) (dI : Nat → Nat → Nat), ∀ (k : Nat) (q : vw_C), vwCl[k]? = some q → u_Kn s q.1 q.2.1 q.2.2 (dC k) (dI k) := by
  obtain ⟨c0, i0, h0⟩ := u_known (C := RX0) (T := TX0) (N := 1) (n := 1) hts (fun w h => ws_mem (ag_cl0.1 w h)) (hts (.instantiable RX0 1) (by decide +kernel))
  obtain ⟨c1, i1, h1⟩ := u_known (C := RX1) (T := TX1) (N := 7) (n := 7) hts (fun w h => ws_mem (ag_cl1.1 w h)) (hts (.instantiable RX1 7) (by decide +kernel))
  obtain ⟨c2, i2, h2⟩ := u_known (C := RX2) (T := TX2) (N := 11) (n := 11) hts (fun w h => ws_mem (ag_cl2.1 w h)) (hts (.instantiable RX2 11) (by decide +kernel))
  obtain ⟨c3, i3, h3⟩ := u_known (C := RX3) (T := TX3) (N := 6) (n := 6) hts (fun w h => ws_mem (ag_cl3.1 w h)) (hts (.instantiable RX3 6) (by decide +kernel))
  obtain ⟨c4, i4, h4⟩ := u_known (C := RX5) (T := TX5) (N := 2) (n := 2) hts (fun w h => ws_mem (ag_cl4.1 w h)) (hts (.instantiable RX5 2) (by decide +kernel))
  obtain ⟨c5, i5, h5⟩ := u_known (C := RX6) (T := TX6) (N := 5) (n := 5) hts (fun w h => ws_mem (ag_cl5.1 w h)) (hts (.instantiable RX6 5) (by decide +kernel))
  obtain ⟨c6, i6, h6⟩ := u_known (C := RX7) (T := TX7) (N := 9) (n := 9) hts (fun w h => ws_mem (ag_cl6.1 w h)) (hts (.instantiable RX7 9) (by decide +kernel))
  obtain ⟨c7, i7, h7⟩ := u_known (C := RX9) (T := TX9) (N := 12) (n := 12) hts (fun w h => ws_mem (ag_cl7.1 w h)) (hts (.instantiable RX9 12) (by decide +kernel))
  obtain ⟨c8, i8, h8⟩ := u_known (C := RX10) (T := TX10) (N := 31) (n := 31) hts (fun w h => ws_mem (ag_cl8.1 w h)) (hts (.instantiable RX10 31) (by decide +kernel))
  refine ⟨fun k => if k = 0 then c0 else if k = 1 then c1 else if k = 2 then c2 else if k = 3 then c3 else if k = 4 then c4 else if k = 5 then c5 else if k = 6 then c6 else if k = 7 then c7 else c8, fun k => if k = 0 then i0 else if k = 1 then i1 else if k = 2 then i2 else if k = 3 then i3 else if k = 4 then i4 else if k = 5 then i5 else if k = 6 then i6 else if k = 7 then i7 else i8, ?_⟩
  intro k q hq
  match k, hq with
  | 0, hq => cases hq; exact h0
  | 1, hq => cases hq; exact h1
  | 2, hq => cases hq; exact h2
  | 3, hq => cases hq; exact h3
  | 4, hq => cases hq; exact h4
  | 5, hq => cases hq; exact h5
  | 6, hq => cases hq; exact h6
  | 7, hq => cases hq; exact h7
  | 8, hq => cases hq; exact h8
  | k + 9, hq => simp [vwCl] at hq
theorem ws_arr {s : State} {args : Array Value} {ty : FieldType} (h : (Cond.arrayClass ty).before args s = true) : ∃ c : ClassId, s.vm.findClass ("[" ++ ty.toString) = some c ∧ ArrOfT s c ty := by
  obtain ⟨c, k, comp, h1, h2, h3⟩ := Cond.arrayClass_spec h
  exact ⟨c, h1, fun n z => ⟨(fun q hq => by cases hq), k, h2, comp, h3⟩⟩
theorem ws_ov {s : State} {ty : FieldType} (h : mq_ov ty s) : ∃ c : ClassId, s.vm.findClass ("[" ++ (FieldType.array ty).toString) = some c ∧ ArrOfT s c (.array ty) := by
  obtain ⟨comp, c, k, -, h2, h3, h4⟩ := h
  exact ⟨c, h4, fun n z => ⟨(fun q hq => by cases hq), k, h2, comp, h3⟩⟩
theorem ws_K {s : State} {args : Array Value} (hts : ∀ w ∈ lw_tbl, w.before args s = true) : ∃ (dC : Nat → ClassId) (dI : Nat → Nat → Nat) (dT : Nat → ClassId), va_K (dC, dI) vwCl (ag_tys dT) s := by
  obtain ⟨dC, dI, hc⟩ := ws_classes hts
  obtain ⟨c0, a0, b0⟩ := ws_arr (ty := .int) (hts (.arrayClass .int) (by decide +kernel))
  obtain ⟨c1, a1, b1⟩ := ws_arr (ty := .long) (hts (.arrayClass .long) (by decide +kernel))
  obtain ⟨c2, a2, b2⟩ := ws_arr (ty := .boolean) (hts (.arrayClass .boolean) (by decide +kernel))
  obtain ⟨c3, a3, b3⟩ := ws_ov (ty := .int) (mq_ov.of (hts (.arrayOver (.array .int)) (by decide +kernel)))
  obtain ⟨c4, a4, b4⟩ := ws_ov (ty := .long) (mq_ov.of (hts (.arrayOver (.array .long)) (by decide +kernel)))
  refine ⟨dC, dI, fun k => if k = 0 then c0 else if k = 1 then c1 else if k = 2 then c2 else if k = 3 then c3 else c4, hc, fun k q hq => ?_⟩
  match k, hq with
  | 0, hq => cases hq; exact ⟨b0, a0⟩
  | 1, hq => cases hq; exact ⟨b1, a1⟩
  | 2, hq => cases hq; exact ⟨b2, a2⟩
  | 3, hq => cases hq; exact ⟨b3, a3⟩
  | 4, hq => cases hq; exact ⟨b4, a4⟩
  | k + 5, hq => simp [ag_tys] at hq
def ws_tm (i : Nat) : Term := .string RX6 (ae_SI.getD i 0)
def ws_flat : List Cond := flatC (Jvm.Cond.and given_1 narrow_1)
theorem ws_n1 : ∀ i : Nat, i < 12 → Cond.exactly (ws_tm i) "java/lang/String" ∈ ws_flat := by decide +kernel
theorem ws_n2 : ∀ i : Nat, i < 12 → Cond.eq (.field (ws_tm i) "java/lang/String" "coder" "B") (.int 0) ∈ ws_flat := by decide +kernel
theorem ws_n3 : ∀ i : Nat, i < 12 → Cond.arrayOf (.field (ws_tm i) "java/lang/String" "value" "[B") .byte ∈ ws_flat := by decide +kernel
theorem ws_n4 : ∀ i : Nat, i < 12 → Cond.eq (.length (.field (ws_tm i) "java/lang/String" "value" "[B")) (.int (Int32.ofNat (ae_SN.getD i 0))) ∈ ws_flat := by decide +kernel
theorem ws_n5 : ∀ i : Nat, i < 12 → ∀ j : Nat, j < ae_SN.getD i 0 → Cond.eq (.elem (.field (ws_tm i) "java/lang/String" "value" "[B") (.int (Int32.ofNat j))) (.int ((ae_SB.getD i []).getD j 0)) ∈ ws_flat := by decide +kernel
theorem ws_n6 : ∀ i : Nat, i < 12 → ∀ j : Nat, j < 12 → i ≠ j → Cond.not (Cond.eq (ws_tm i) (ws_tm j)) ∈ ws_flat ∨ Cond.not (Cond.eq (ws_tm j) (ws_tm i)) ∈ ws_flat := by decide +kernel
theorem ws_n7 : ∀ i : Nat, i < 12 → ae_SN.getD i 0 < 2 ^ 31 := by decide +kernel
def ws_tx : List String := ["plain", "oneway", "two", "weighed", "sticking", "false", "gaol", "kitchen", "hungry", "soap", "key", "guard"]
theorem ws_n8 : ∀ i : Nat, i < 12 → Cond.stringRef RX6 (ae_SI.getD i 0) (ws_tx.getD i "") ∈ lw_tbl := by decide +kernel
theorem ws_n9 : ∀ j : Nat, j < 8 → Cond.eq (.elem (.static "OneKey" "OVER" "[I") (.int (Int32.ofNat j))) (.int (ae_OV j)) ∈ ws_flat := by decide +kernel
theorem ws_small {args : Array Value} {s : State} {t : Term} {v : Value} (hv : (Term.length t).eval args s none [] s = some v) : ∃ (b : Addr) (cell : Cell), t.eval args s none [] s = some (.ref b) ∧ s.heap[b]? = some cell ∧ cell.slots.size < 2 ^ 31 := by
  obtain ⟨b, cell, ht, harr, -⟩ := Term.length_spec hv
  refine ⟨b, cell, ht, (State.arrayAt?_spec harr).1, ?_⟩
  simp only [Term.eval, ht, harr, Option.bind_eq_bind, Option.bind_some] at hv
  by_cases hlt : cell.slots.size < 2147483648
  · exact hlt
  · simp [hlt] at hv
theorem ws_OV {s : State} {b : Nat} (hfl : ∀ w ∈ ws_flat, w.before #[Value.ref b] s = true) : ∃ t : Nat, (Term.static "OneKey" "OVER" "[I").eval #[Value.ref b] s none [] s = some (.ref t) ∧ va_X t 8 ae_OV s s.heap := by
  have hlen : (Term.length (.static "OneKey" "OVER" "[I")).eval #[Value.ref b] s none [] s = some (.int (Int32.ofNat 8)) := va_eqt (hfl _ (by decide +kernel))
  obtain ⟨t, ht, cell, hcell, hof, hkn, hle, hsz, hval, -⟩ := va_Tof (A := fun _ => False) (f := fun j => .int (ae_OV j)) (N := 8) (by decide) (hfl (.arrayOf (.static "OneKey" "OVER" "[I") .int) (by decide +kernel)) hlen (fun j hj => va_eqt (hfl _ (ws_n9 j hj))) (fun _ _ h => h)
  obtain ⟨b2, cell2, h1, h2, h3⟩ := ws_small hlen
  cases ht.symm.trans h1
  cases hcell.symm.trans h2
  have e := congrArg Int32.toNatClampNeg hsz
  rw [show cell.slots.size.toInt32 = Int32.ofNat cell.slots.size from rfl, Int32.toNatClampNeg_ofNat_of_lt h3, Int32.toNatClampNeg_ofNat_of_lt (show 8 < 2 ^ 31 by decide)] at e
  exact ⟨t, ht, cell, hcell, hof, hkn, e, hval⟩
theorem ws_two (adK adV : Nat → Nat) (t f1 f2 : Nat) : ∃ aK aV : Nat → Nat, (∀ k, k < 12 → aK k = adK k) ∧ (∀ k, k < 12 → aV k = adV k) ∧ aK 12 = t ∧ aK 13 = f1 ∧ aV 12 = f2 :=
  ⟨fun k => if k < 12 then adK k else if k = 12 then t else f1, fun k => if k < 12 then adV k else f2, fun _ h => if_pos h, fun _ h => if_pos h, rfl, rfl, rfl⟩
set_option maxHeartbeats 4000000 in
set_option maxRecDepth 100000 in
theorem ws_X {s : State} {b L : Nat} {xs : Nat → Int32} (hts : ∀ w ∈ lw_tbl, w.before #[Value.ref b] s = true) (hX : va_X b L xs s s.heap) (hbl : b < s.heap.size) (hgv : (Jvm.Cond.and given_1 narrow_1).before #[Value.ref b] s = true) : ∃ adK adV : Nat → Nat, ag_X adK adV b L xs (fun q : Nat => s.heap.size ≤ q) s := by
  have hfl : ∀ w ∈ ws_flat, w.before #[Value.ref b] s = true := flat_of_before _ hgv
  have hAn : ∀ a : Nat, a < s.heap.size → ¬ (fun q : Nat => s.heap.size ≤ q) a := fun a h q => absurd h (Nat.not_lt.mpr q)
  obtain ⟨adK, adV, hSt, hev⟩ := vk_Sof (args := #[Value.ref b]) (s := s) (N := 12) (tm := ws_tm) (len := ae_SN) (byt := ae_SB) (A := fun q : Nat => s.heap.size ≤ q) ws_n7 (fun i hi => hfl _ (ws_n1 i hi)) (fun i hi => hfl _ (ws_n2 i hi)) (fun i hi => hfl _ (ws_n3 i hi)) (fun i hi => hfl _ (ws_n4 i hi)) (fun i hi j hj => hfl _ (ws_n5 i hi j hj)) (fun i j hi hj hij => (ws_n6 i hi j hj hij).elim (fun h => Or.inl (hfl _ h)) (fun h => Or.inr (hfl _ h))) hAn
  obtain ⟨t, ht, hO⟩ := ws_OV hfl
  have htl : t < s.heap.size := by
    obtain ⟨c, hc, -⟩ := hO
    exact (Array.getElem?_eq_some_iff.mp hc).1
  have hZ := va_Zqof (A := fun q : Nat => s.heap.size ≤ q) (hts (.laysStatic "jdk/internal/util/Preconditions" "SIOOBE_FORMATTER" "Ljava/util/function/BiFunction;") (by decide +kernel)) (hts (.initialized "jdk/internal/util/Preconditions") (by decide +kernel)) (hfl (.isRef (.static "jdk/internal/util/Preconditions" "SIOOBE_FORMATTER" "Ljava/util/function/BiFunction;")) (by decide +kernel)) hAn
  have hZ2 : ∃ f1 f2 : Nat, ∀ aK aV : Nat → Nat, aK 13 = f1 → aV 12 = f2 → va_Z "jdk/internal/util/Preconditions" "SIOOBE_FORMATTER" "Ljava/util/function/BiFunction;" (ae_FV aK aV) (fun q : Nat => s.heap.size ≤ q) s s.heap := by
    rcases hZ with h | ⟨f, h⟩
    · refine ⟨0, 0, fun aK aV _ e2 => ?_⟩
      unfold ae_FV
      rw [e2]
      exact h
    · refine ⟨f, 1, fun aK aV e1 e2 => ?_⟩
      unfold ae_FV
      rw [e1, e2]
      exact h
  obtain ⟨f1, f2, hZ2⟩ := hZ2
  obtain ⟨aK, aV, eK, eV, e12, e13, e14⟩ := ws_two adK adV t f1 f2
  refine ⟨aK, aV, ⟨fun i hi => by rw [eK i hi, eV i hi]; exact hSt.1 i hi, fun i j hi hj h => hSt.2 i j hi hj (by rw [eK i hi, eK j hj] at h; exact h)⟩, fun k idx hk => ?_, va_Zof (hts (.laysStatic "java/lang/String" "COMPACT_STRINGS" "Z") (by decide +kernel)) (hts (.initialized "java/lang/String") (by decide +kernel)) (va_eqi (hfl _ (by decide +kernel))) hAn, va_Nw.of rfl (hts (.methodLinkNest "OneKey" 9 yX6_init "OneKey") (by decide +kernel)), mq_ov.of (hts (.arrayOver (.array .int)) (by decide +kernel)), mq_ov.of (hts (.arrayOver (.array .long)) (by decide +kernel)), hX, hbl, hAn b hbl, ?_, ?_, ?_, ?_, hZ2 aK aV e13 e14⟩
  · have hk12 : k < 12 := (List.getElem?_eq_some_iff.mp hk).1
    have hid : ae_SI.getD k 0 = idx := by rw [List.getD_eq_getElem?_getD, hk]; rfl
    have h1 := hts _ (ws_n8 k hk12)
    have h2 : (Term.string RX6 (ae_SI.getD k 0)).eval #[Value.ref b] s none [] s = some (.ref (adK k)) := hev k hk12
    rw [hid] at h1 h2
    rw [eK k hk12]
    exact ⟨_, vk_R.of h1 h2⟩
  · rw [e12]
    exact va_Zof (hts (.laysStatic "OneKey" "OVER" "[I") (by decide +kernel)) (hts (.initialized "OneKey") (by decide +kernel)) ht hAn
  · rw [e12]
    exact hO
  · rw [e12]
    exact htl
  · rw [e12]
    exact hAn t htl
theorem ws_mem_law : mL_law ∈ ae_MT := List.mem_of_getElem? (i := 190) rfl
theorem ws_v1 : vI 1 = (.inl (.inl 1) : ae_V) := by decide +kernel
set_option maxHeartbeats 4000000 in
set_option maxRecDepth 100000 in
/-- THE LAW, from its entry -/
theorem whole_start {p : Program} {e : Env} {s : State} {m : MethodId} {below : List Frame} {meth : Method} {c : Code} (l : Launch) {b L : Nat} {xs : Nat → Int32} (hL : L ≤ 256) (C0 : lw_At p s m meth c b L xs) : W p l e room_1 s m #[Value.ref b] below meth c s.heap [] 0 0 (lw_Z below #[Value.ref b] s) (entryFrame m ([Value.ref b] : List Value).toArray 4) := by
  obtain ⟨hx, hb, hr, hml, hown, hts, hX, hbl, hlocks, hgv⟩ := C0
  obtain ⟨dC, dI, dT, hK⟩ := ws_K hts
  obtain ⟨adK, adV, hXS⟩ := ws_X hts hX hbl hgv
  have hT := ag_tab_ok
  have hF : ag_F (ag_X adK adV b L xs) dC dI dT (fun q : Nat => s.heap.size ≤ q) mL_law 11 406 p room_1 s m #[Value.ref b] meth c := ⟨hx, hb, hml, hown, fun w h => hts w (ws_mem h), hK, fun _ h => h, hlocks, hr, fun h9 => absurd h9 (by decide), rfl, rfl, rfl, rfl, hXS⟩
  have hl := lv_entry ([.ref b]) (n := 4) (Nat.le_of_ble_eq_true rfl)
  rw [lg_entry_eq]
  generalize (lg_sl ([.ref b]) ++ List.replicate (4 - (lg_sl ([.ref b])).length) Slot.unset).toArray = ls at hl ⊢
  have hl : lv_has ls 4 [(0, .ref b)] := hl
  have hat : ag_At (ag_E adK b) dC dI dT (fun q : Nat => s.heap.size ≤ q) mL_law s [] [(0, vE 1)] [] [] 0 0 [] [] s.heap [] [(0, .ref b)] ls [] := ⟨⟨Nat.zero_le _, Nat.zero_le _⟩, ⟨[], rfl⟩, rfl, hl, ⟨⟨rfl, rfl⟩, trivial⟩, trivial, trivial, fun k q h => by simp at h, ⟨fun i j p q h => by simp at h, fun k q h => by simp at h⟩, va_S.rf⟩
  have hfin1 : ∀ w : List ae_C, ag_fin (ag_E adK b) dC dI dT (fun q : Nat => s.heap.size ≤ q) mL_law p l e room_1 s m #[Value.ref b] below meth c (lw_Z below #[Value.ref b] s) [] (some (.inl (.inl 1)), w) := by
    intro w ins pc ls stv ad ws H locs cs sl hdg hrt hcs hex had hw hP hD hS
    rcases hrt with ⟨-, -, hrv, -⟩ | ⟨rfl, a, z, ty, hrv, rfl, hz, -, -⟩ | ⟨-, a, z, hrv, -⟩ | ⟨-, a, v, rt, hrv, -⟩
    · cases hrv
    · cases hrv
      have hz : z = nI 1 := hz
      have e1 : nI 1 = (1 : Int32) := by decide +kernel
      rw [e1] at hz
      subst hz
      refine va_forget hS.2.2 ?_
      refine W.widen (k := 600000) (n := 7302250) hcs.1 hcs.2 ?_
      exact lw_ret hx hb hr hlocks hdg
    · cases hrv
    · cases hrv
  have hgo : cg_G (adK, adV, b, L, xs, dC, dI, dT, l) mL_law 11 406 (fun r => ∃ w9, r = (some (vI 1), w9)) 0 [(0, vE 1)] [] [] 0 0 := lw_start hL
  exact hgo hT ws_mem_law hL (fun q : Nat => s.heap.size ≤ q) p e room_1 s m #[Value.ref b] below meth c (lw_Z below #[Value.ref b] s) [] hF (fun r hr9 => by
    obtain ⟨w9, rfl⟩ := hr9
    rw [ws_v1]
    exact hfin1 w9) [] [] s.heap [] _ ls [] hat
-- ===== MY PART ENDS =====

-- ===== YOUR PART ENDS =====
set_option maxHeartbeats 4000000 in
theorem lw_walk (l : Launch) (b : Addr) (xs : List Int32) : MetFree l x (headSpec (Jvm.Cond.code x code maxLocals ret :: tables_1) room_1) (lw_P b xs) (fun _ _ _ _ _ => True) lw_Q := by
  refine MetFree.of_bodyS (code := code) (maxLocals := maxLocals) (ret := ret) (by decide) ?_ ?_
  · intro args s m h hn
    obtain ⟨meth, c, h1, h2, h3, h4, h5, h6, -, -⟩ := Cond.code_spec hn (atoms_spec (ws := Jvm.Cond.code x code maxLocals ret :: tables_1) h _ List.mem_cons_self)
    exact ⟨meth, c, h1, h2, h3, h4, h5, h6⟩
  · intro p e s m args below meth c s₁ B hml0 hP _
    obtain ⟨rfl, hx, hbd, hgv⟩ := hP
    obtain ⟨scr, harrAt, hlist, hof, hsmall⟩ := hx
    obtain ⟨hcb, hkn, -, -⟩ := State.arrayAt?_spec harrAt
    have hown : s.vm.findClass R_law = some m.cls := findClass_of_methodNamed B.named
    have hts0 : ∀ c ∈ (Jvm.Cond.code x code maxLocals ret :: tables_1), c.before #[Value.ref b] s = true := atoms_spec (ws := Jvm.Cond.code x code maxLocals ret :: tables_1) B.pre
    have hts : ∀ w ∈ lw_tbl, w.before #[Value.ref b] s = true := k2_hts_sels lw_privs (fun w hw => hts0 w (List.mem_cons_of_mem _ hw)) lw_privs_ok
    have hml : c.maxLocals = 4 := B.maxLocals_eq (hts0 _ List.mem_cons_self)
    have X₀ : Stand p l e room_1 s m #[Value.ref b] below meth c s₁ [] 0 0 := Stand.of_body B
    have hh0 : s₁.heap = s.heap := by rw [B.state]; rfl
    have hsz : scr.slots.size = xs.length := by rw [← Array.length_toList, hlist, List.length_map]
    have hval : ∀ j : Nat, j < xs.length → scr.slots[j]? = some (.int (xs.getD j 0)) := fun j hj => by
      rw [← Array.getElem?_toList, hlist]
      simp [hj]
    have hbl : b < s.heap.size := (Array.getElem?_eq_some_iff.mp hcb).1
    have hX : va_X b xs.length (fun j => xs.getD j 0) s s.heap := ⟨scr, hcb, hof, hkn, hsz, hval⟩
    have K : W p l e room_1 s m #[Value.ref b] below meth c s₁.heap [] 0 0 (lw_Z below #[Value.ref b] s) (entryFrame m ([Value.ref b] : List Value).toArray 4) := by
      rw [hh0]
      exact whole_start l hbd ⟨B.exec, B.bytes, B.returns, hml, hown, hts, hX, hbl, B.notSynchronized, hgv⟩
    obtain ⟨t, a1, o, b1, b2, b3⟩ := K s₁ rfl X₀
    exact ⟨t, o, a1, b1, b2, b3⟩
theorem lw_pre_spec {args : Array Value} {s : State} (h : (Jvm.Cond.and given_1 narrow_1).before args s = true) (hr : rest_1_c.before args s = true) : ∃ (b : Addr) (xs : List Int32), lw_P b xs args s := by
  have hs := flat_of_before _ h
  have hq := flat_of_before _ hr
  have hc : (Cond.count 1).before args s = true := hs _ (by decide +kernel)
  have harr : (Cond.arrayOf (.arg 0) .int).before args s = true := hs _ (by decide +kernel)
  have hle : (Cond.le (.length (.arg 0)) (.int 256)).before args s = true := hs _ (by decide +kernel)
  have hlen : (Cond.isInt (.length (.arg 0))).before args s = true := hq _ (by decide +kernel)
  have hall : (Cond.all (.arg 0) (.isInt (.elem (.arg 0) (.index 0)))).before args s = true := hq _ (by decide +kernel)
  obtain ⟨b, xs, hb, hx⟩ := State.ints_of_pre rfl harr hlen hall
  have hsm : xs.length < 2 ^ 31 := hx.choose_spec.2.2.2
  have hev : (Term.length (.arg 0)).eval args s none [] s = some (.int xs.length.toInt32) := hx.length_eval hb
  have hv := Cond.le_ints hev (show (Term.int 256).eval args s none [] s = some (.int 256) from rfl)
  have hd : xs.length.toInt32 ≤ 256 := by
    simpa [Cond.before, Cond.holds, hv] using hle
  have hN : xs.length ≤ 256 := (Int32.ofNat_le_ofNat hsm (by decide)).mp (show Int32.ofNat xs.length ≤ Int32.ofNat 256 from hd)
  exact ⟨b, xs, Cond.one_arg hc (show args[0]? = some (.ref b) from hb), hx, hN, h⟩
theorem lw_comes (l : Launch) : Comes l x (Jvm.Cond.code x code maxLocals ret :: tables_1) room_1 (fun tb e args s => Calls_1 tb e args s ∧ rest_1 tb e args s ∧ Pre_1 tb e args s)
    (fun _ _ args s o t => lw_Q args s o t) := by
  intro p e ha hc hk s m args below hf hfit hheap happ hpre
  obtain ⟨b, xs, hP⟩ := lw_pre_spec hpre.2.2 hpre.2.1
  obtain ⟨k, o, h1, h2, h3, hQ⟩ := lw_walk l b xs p e ha hc hk s m args below hf ((Spec.applies_iff_loose hf).mp happ).1 hP trivial
  exact ⟨k, o, h1, h2, h3, hQ⟩
theorem lw_frame {s t : State} {o : Outcome} {args : Array Value} (h : Framed s o t [] 600000 7302250) :
    Framed s o t (fieldLocs frame_1_writes args s ++ arrayLocs frame_1_arrays args s ++ staticLocs frame_1_statics s) 600000 7302250 := h
theorem lw_limb (L : Cond) (hL : ∀ (args : Array Value) (s t : State), L.after args s (.returned (some (.int 1))) t = true) :
    ArmFor flags0 classFile x code maxLocals ret World_1 tables_1 room_1 Calls_1 rest_1 Pre_1
      (fun tb e a s o t => postC L tb e a s o t ∧ Framed s o t (fieldLocs frame_1_writes a s ++ arrayLocs frame_1_arrays a s ++ staticLocs frame_1_statics s) 600000 7302250) := by
  intro l _ _ _ p e ha hc hk s m args below hf hfit hheap happ hpre
  obtain ⟨k, o, h1, h2, h3, rfl, hF⟩ := lw_comes l p e ha hc hk s m args below hf hfit hheap happ hpre
  exact ⟨k, _, h1, h2, h3, hL args s _, lw_frame hF⟩
theorem i_vc : Claimed_1_1 ∧ Claimed_1_2 := ⟨lw_limb limb_1_1 (fun args s t => by simp [limb_1_1, Cond.after, Cond.holds, Cond.value]), lw_limb limb_1_2 (fun args s t => Cond.after_iff.mpr (by
  first | (rw [show limb_1_2 = Cond.eq .result (.int 1) from rfl, Cond.eq_ints (x := 1) (y := 1) rfl rfl]; simp; done) | (simp [limb_1_2, Cond.value, Term.eval]; done)))⟩
