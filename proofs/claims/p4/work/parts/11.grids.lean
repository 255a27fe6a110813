/-! ===== new T[n][k]: one step of the machine, proved here (the rounds' library has no law of it) ===== -/
def mq_o (cA : ClassId) (N h0 i : Nat) : Cell := arrV cA N (fun j => va_rf (if j < i then some (h0 + 1 + j) else none))
def mq_i (cB : ClassId) (M : Nat) (dv : Value) : Cell := arrV cB M (fun _ => dv)
def mq_s (s : State) (cA cB : ClassId) (N M : Nat) (dv : Value) : Nat → State
  | 0 => s.pushCell (mq_o cA N s.heap.size 0)
  | i + 1 => ((mq_s s cA cB N M dv i).pushCell (mq_i cB M dv)).setCell s.heap.size (mq_o cA N s.heap.size (i + 1))
theorem mq_o_next (cA : ClassId) (N h0 i : Nat) : (mq_o cA N h0 i).setSlot i (.ref (h0 + 1 + i)) = mq_o cA N h0 (i + 1) := by
  unfold mq_o
  rw [arrV_store]
  refine congrArg (arrV cA N) (funext fun j => ?_)
  unfold updV
  by_cases h : j = i
  · subst h
    simp [va_rf]
  · by_cases h2 : j < i
    · simp [h, h2, Nat.lt_succ_of_lt h2]
    · simp [h, h2, show ¬ j < i + 1 by omega]
theorem mq_facts (s : State) (cA cB : ClassId) (N M : Nat) (dv : Value) : ∀ i : Nat, (mq_s s cA cB N M dv i).heap.size = s.heap.size + 1 + i ∧ (mq_s s cA cB N M dv i).heap[s.heap.size]? = some (mq_o cA N s.heap.size i) ∧ (mq_s s cA cB N M dv i).vm = s.vm ∧ (mq_s s cA cB N M dv i).slotsUsed = s.slotsUsed + N + i * M ∧
    (∀ x : Nat, x < s.heap.size → (mq_s s cA cB N M dv i).heap[x]? = s.heap[x]?) ∧ ∀ j : Nat, j < i → (mq_s s cA cB N M dv i).heap[s.heap.size + 1 + j]? = some (mq_i cB M dv) := by
  intro i
  induction i with
  | zero =>
    refine ⟨by simp [mq_s], by simp [mq_s], rfl, ?_, fun x hx => State.heap_pushCell_of_lt _ _ hx, fun j hj => absurd hj (Nat.not_lt_zero j)⟩
    have hz : (mq_o cA N s.heap.size 0).slots.size = N := by unfold mq_o; rw [arrV_size]
    simp [mq_s, hz]
  | succ i ih =>
    obtain ⟨a1, a2, a3, a4, a5, a6⟩ := ih
    have hlt : s.heap.size < (mq_s s cA cB N M dv i).heap.size := by omega
    have hc : ((mq_s s cA cB N M dv i).pushCell (mq_i cB M dv)).heap[s.heap.size]? = some (mq_o cA N s.heap.size i) := by
      rw [State.heap_pushCell_of_lt (h := hlt)]
      exact a2
    have hz1 : (mq_i cB M dv).slots.size = M := by unfold mq_i; rw [arrV_size]
    refine ⟨?_, State.heap_setCell_self hc, by simp [mq_s, a3], ?_, fun x hx => ?_, fun j hj => ?_⟩
    · simp [mq_s, State.setCell, a1]
      omega
    · simp [mq_s, a4, hz1, Nat.succ_mul]
      omega
    · show (((mq_s s cA cB N M dv i).pushCell (mq_i cB M dv)).setCell s.heap.size _).heap[x]? = _
      rw [State.heap_setCell_other (Nat.ne_of_gt hx), State.heap_pushCell_of_lt (h := Nat.lt_trans hx hlt)]
      exact a5 x hx
    · show (((mq_s s cA cB N M dv i).pushCell (mq_i cB M dv)).setCell s.heap.size _).heap[s.heap.size + 1 + j]? = _
      rw [State.heap_setCell_other (show s.heap.size ≠ s.heap.size + 1 + j by omega)]
      by_cases hji : j < i
      · have hlt2 : s.heap.size + 1 + j < (mq_s s cA cB N M dv i).heap.size := by rw [a1]; omega
        rw [State.heap_pushCell_of_lt (h := hlt2)]
        exact a6 j hji
      · have e : j = i := by omega
        subst e
        rw [← a1]
        exact State.heap_pushCell_size _ _
theorem mq_top (s : State) (f : JFrame) (cA cB : ClassId) (N M : Nat) (dv : Value) : ∀ i : Nat, mq_s (s.setTop f) cA cB N M dv i = (mq_s s cA cB N M dv i).setTop f := by
  intro i
  induction i with
  | zero => rfl
  | succ i ih => simp only [mq_s, ih, State.heap_setTop, State.pushCell_setTop, State.setCell_setTop]
section MQW
variable {E : CtlPost} {e : Env} {d : Bool} {acts : List Action} {s : State}
theorem mq_na {c comp : ClassId} {k : Class} {type : FieldType} {len : Nat} {init : Value} (hk : s.vm.classes[c]? = some k) (hkind : k.kind = .array comp type) (hlimit : ¬ len > e.platform.arrayLengthLimit) (hheap : ¬ len * componentBytes type > e.platform.maxHeapBytes) (hfit : fits type init = true) (hdef : init.isDefault = true) {Q : Addr → Pre}
    (h1 : s.heap.size < e.platform.maxCells) (h2 : s.slotsUsed + len ≤ e.platform.maxSlots) (hq : Q s.heap.size d acts (s.pushCell (arrV c len (fun _ => init)))) : wp (Jvm.newArray c len init) Q E e d acts s := by
  rw [← arrV_new] at hq
  have hall : ((Array.replicate len init).all (·.isDefault)) = true := by
    rw [Array.all_replicate]
    split <;> simp [hdef]
  have hacts : allocActs (Array.replicate len init) s.heap.size acts = acts := by
    unfold allocActs
    rw [if_pos hall]
  have hfits : ∀ i v, (Array.replicate len init)[i]? = some v → s.fitsSlot c .none i v = true := fun i v hv => by
    simp only [Array.getElem?_replicate] at hv
    split at hv
    · cases hv
      simp [State.fitsSlot, State.slotType?, hk, hkind, hfit]
    · cases hv
  simp only [Jvm.newArray, Jvm.arrayFits, wp_bind', W.ask, W.ite, hlimit, if_false, wp_pure', W.theClass, hk, hkind, hheap, W.alloc, W.stop, Option.some.injEq, exists_eq_left', Array.size_replicate, hacts]
  rw [if_neg (by omega)]
  exact ⟨h1, h2, hfits, hq⟩
theorem mq_row {comp cc : ClassId} {kc : Class} {type : FieldType} {m : Int32} (hkc : s.vm.classes[comp]? = some kc) (hkindc : kc.kind = .array cc type) (hm : ¬ m < 0) (hl2 : ¬ m.toNatClampNeg > e.platform.arrayLengthLimit) (hh2 : ¬ m.toNatClampNeg * componentBytes type > e.platform.maxHeapBytes) (hdf : fits type (defaultValue type) = true) (hdd : (defaultValue type).isDefault = true)
    (h1 : s.heap.size < e.platform.maxCells) (h2 : s.slotsUsed + m.toNatClampNeg ≤ e.platform.maxSlots) {Q : Addr → Pre} (hq : Q s.heap.size d acts (s.pushCell (mq_i comp m.toNatClampNeg (defaultValue type)))) : wp (multianewarray.make comp [m]) Q E e d acts s := by
  rw [multianewarray.make]
  simp only [wp_bind', W.ite, hm, if_false, wp_pure', W.theClass, hkc, hkindc, Option.some.injEq, exists_eq_left']
  exact mq_na hkc hkindc hl2 hh2 hdf hdd h1 h2 hq
theorem mq_grid {c comp cc : ClassId} {k kc : Class} {ty type : FieldType} {n m : Int32} (hk : s.vm.classes[c]? = some k) (hkind : k.kind = .array comp (.array ty)) (hkc : s.vm.classes[comp]? = some kc) (hkindc : kc.kind = .array cc type) (hn : ¬ n < 0) (hm : ¬ m < 0)
    (hl1 : ¬ n.toNatClampNeg > e.platform.arrayLengthLimit) (hh1 : ¬ n.toNatClampNeg * componentBytes (.array ty) > e.platform.maxHeapBytes) (hl2 : ¬ m.toNatClampNeg > e.platform.arrayLengthLimit) (hh2 : ¬ m.toNatClampNeg * componentBytes type > e.platform.maxHeapBytes) (hdf : fits type (defaultValue type) = true) (hdd : (defaultValue type).isDefault = true)
    (hc : s.heap.size + 1 + n.toNatClampNeg ≤ e.platform.maxCells) (hs : s.slotsUsed + n.toNatClampNeg + n.toNatClampNeg * m.toNatClampNeg ≤ e.platform.maxSlots)
    {Q : Addr → Pre} (hq : ∀ d' acts', Q s.heap.size d' acts' (mq_s s c comp n.toNatClampNeg m.toNatClampNeg (defaultValue type) n.toNatClampNeg)) : wp (multianewarray.make c [n, m]) Q E e d acts s := by
  have hnone : ([m].find? (· < 0)) = none := by simp [hm]
  rw [multianewarray.make]
  simp only [wp_bind', W.ite, hn, if_false, wp_pure', W.theClass, hk, hkind, Option.some.injEq, exists_eq_left']
  refine mq_na hk hkind hl1 hh1 rfl rfl (by omega) (by have := Nat.zero_le (n.toNatClampNeg * m.toNatClampNeg); omega) ?_
  simp only [hnone]
  rw [ite_self, wp_bind', Std.Legacy.Range.forIn_eq_forIn_range']
  have hsz : ([:n.toNatClampNeg] : Std.Legacy.Range).size = n.toNatClampNeg := by simp [Std.Legacy.Range.size]
  rw [hsz]
  show wp (forIn (List.range' 0 n.toNatClampNeg 1) PUnit.unit _) _ E e d acts _
  have hbeg : s.pushCell (arrV c n.toNatClampNeg (fun _ => Value.null)) = mq_s s c comp n.toNatClampNeg m.toNatClampNeg (defaultValue type) 0 := by
    show _ = s.pushCell (mq_o c n.toNatClampNeg s.heap.size 0)
    unfold mq_o
    simp [va_rf]
  rw [hbeg]
  refine wp_forIn_inv (fun rest t => ∃ i, i ≤ n.toNatClampNeg ∧ rest = List.range' i (n.toNatClampNeg - i) ∧ t = mq_s s c comp n.toNatClampNeg m.toNatClampNeg (defaultValue type) i) _ _ ⟨0, Nat.zero_le _, rfl, rfl⟩ ?_ ?_
  · rintro x rest t d' acts' Q' ⟨i, hi, hl, rfl⟩ hnext
    have hlt : i < n.toNatClampNeg := by
      by_cases h9 : i < n.toNatClampNeg
      · exact h9
      · rw [show n.toNatClampNeg - i = 0 by omega] at hl
        simp at hl
    rw [show n.toNatClampNeg - i = (n.toNatClampNeg - (i + 1)) + 1 by omega, List.range'_succ] at hl
    obtain ⟨rfl, hrest⟩ := List.cons.inj hl
    obtain ⟨a1, a2, a3, a4, -, -⟩ := mq_facts s c comp n.toNatClampNeg m.toNatClampNeg (defaultValue type) x
    have hmul : x * m.toNatClampNeg + m.toNatClampNeg ≤ n.toNatClampNeg * m.toNatClampNeg := by
      have h9 := Nat.mul_le_mul_right m.toNatClampNeg (show x + 1 ≤ n.toNatClampNeg from hlt)
      rw [Nat.succ_mul] at h9
      exact h9
    simp only [wp_bind']
    refine mq_row (by rw [a3]; exact hkc) hkindc hm hl2 hh2 hdf hdd (by rw [a1]; omega) (by rw [a4]; omega) ?_
    have hlt0 : s.heap.size < (mq_s s c comp n.toNatClampNeg m.toNatClampNeg (defaultValue type) x).heap.size := by rw [a1]; omega
    simp only [wp_bind', W.writeLoc, wp_pure']
    refine ⟨mq_o c n.toNatClampNeg s.heap.size x, by rw [State.heap_pushCell_of_lt (h := hlt0)]; exact a2, by show VmData.none ≠ _; simp, by unfold mq_o; rw [arrV_size]; exact hlt, ?_, hnext _ _ _ ⟨x + 1, hlt, hrest, ?_⟩⟩
    · show State.fitsSlot _ c .none x _ = true
      simp [State.fitsSlot, State.slotType?, a3, hk, hkind]
      rfl
    · rw [a1, mq_o_next]
      rfl
  · rintro t d' acts' ⟨i, hi, hl, rfl⟩
    have hiN : i = n.toNatClampNeg := by
      by_cases h9 : i < n.toNatClampNeg
      · rw [show n.toNatClampNeg - i = (n.toNatClampNeg - (i + 1)) + 1 by omega, List.range'_succ] at hl
        cases hl
      · omega
    subst hiN
    simp only [wp_pure']
    exact hq _ _
end MQW
/-- what the tables say of the arrays over arrays of a type -/
def mq_ov (ty : FieldType) (s : State) : Prop := ∃ (comp c : ClassId) (k : Class), s.vm.findClass (FieldType.array ty).toString = some comp ∧ s.vm.classes[c]? = some k ∧ k.kind = .array comp (.array ty) ∧ s.vm.findClass ("[" ++ (FieldType.array ty).toString) = some c
theorem mq_ov.moved {ty : FieldType} {u U : State} (hvm : u.vm.Alike U.vm) (h : mq_ov ty u) : mq_ov ty U := by
  obtain ⟨comp, c, k, h1, h2, h3, h4⟩ := h
  obtain ⟨k', hk', he⟩ := hvm.2.2 _ _ h2
  exact ⟨comp, c, k', by rw [hvm.findClass]; exact h1, hk', by rw [he]; exact h3, by rw [hvm.findClass]; exact h4⟩
theorem mq_ov.of {ty : FieldType} {args : Array Value} {s : State} (h : (Cond.arrayOver (.array ty)).before args s = true) : mq_ov ty s := by
  have h : (Cond.arrayOver (.array ty)).holds args s none s [] = true := h
  simp only [Cond.holds, Cond.value, beq_iff_eq] at h
  cases hc : s.vm.findClass (FieldType.array ty).toString with
  | none => simp [hc] at h
  | some comp =>
    simp only [hc, Option.bind_some, Option.bind_eq_some_iff, Option.map_eq_some_iff] at h
    obtain ⟨c, hi, k, hk, hb⟩ := h
    obtain ⟨hlt9, hp, -⟩ := Array.findIdx?_eq_some_iff_getElem.mp hi
    rw [(Array.getElem?_eq_some_iff.mp hk).2] at hp
    cases hkind : k.kind with
    | array component t2 =>
      rw [hkind] at hb hp
      simp at hb hp
      exact ⟨comp, c, k, hc, hk, by rw [hkind, hp, hb.1], hb.2⟩
    | _ => rw [hkind] at hb; simp at hb
section MQS
variable {p : Program} {l : Launch} {e : Env} {R : Room} {s : State} {m : MethodId} {args : Array Value} {below : List Frame} {meth : Method} {c : Code} {T : State} {locs : List Loc} {cells slots : Nat} {Q : State → Prop} {H : Heap}
theorem mq_stand (X : Stand p l e R s m args below meth c T locs cells slots) (cA cB : ClassId) (N M : Nat) (dv : Value) : ∀ i : Nat, Stand p l e R s m args below meth c (mq_s T cA cB N M dv i) (locs ++ (List.range i).map fun j => ⟨T.heap.size, j⟩) (cells + 1 + i) (slots + N + i * M) := by
  intro i
  induction i with
  | zero =>
    have h := X.pushed (mq_o cA N T.heap.size 0)
    rw [show (mq_o cA N T.heap.size 0).slots.size = N by unfold mq_o; rw [arrV_size]] at h
    simpa [mq_s] using h
  | succ i ih =>
    obtain ⟨a1, a2, -, -, -, -⟩ := mq_facts T cA cB N M dv i
    have hlt : T.heap.size < (mq_s T cA cB N M dv i).heap.size := by rw [a1]; omega
    have hcell : ((mq_s T cA cB N M dv i).pushCell (mq_i cB M dv)).heap[T.heap.size]? = some (mq_o cA N T.heap.size i) := by
      rw [State.heap_pushCell_of_lt (h := hlt)]
      exact a2
    have h := (ih.pushed (mq_i cB M dv)).stored hcell i (.ref (T.heap.size + 1 + i))
    rw [show (mq_i cB M dv).slots.size = M by unfold mq_i; rw [arrV_size], mq_o_next] at h
    rw [show slots + N + (i + 1) * M = slots + N + i * M + M by rw [Nat.succ_mul]; omega, List.range_succ, List.map_append, ← List.append_assoc]
    exact h
theorem mq_W {cc : ByteArray} {pc : Nat} {ls : Array Slot} {rest : List Value} (hexec : p.tables.exec = Jvm.exec) (hb : c.code = cc) {own : String} {index : Nat} {ty : FieldType} (hown : s.vm.findClass own = some m.cls) (hclink : (Cond.classLink own index ("[" ++ (FieldType.array ty).toString)).before args s = true) (hov : mq_ov ty s) (harr : (Cond.arrayClass ty).before args s = true)
    {n k : Int32} (hn : ¬ n < 0) (hk : ¬ k < 0) (hb1 : n.toNatClampNeg * 4 ≤ 536870912) (hb2 : k.toNatClampNeg * componentBytes ty ≤ 536870912) (hb3 : k.toNatClampNeg ≤ 536870912) (hdf : fits ty (defaultValue ty) = true) (hdd : (defaultValue ty).isDefault = true)
    (hcells : cells + (1 + n.toNatClampNeg) ≤ R.cells) (hslots : slots + (n.toNatClampNeg + n.toNatClampNeg * k.toNatClampNeg) ≤ R.slots) (hdg : decode cc pc = .ok (.multianewarray index 2, 4))
    (kk : ∀ (H1 : Heap) (cA cB : ClassId), s.vm.findClass ("[" ++ (FieldType.array ty).toString) = some cA → s.vm.findClass (FieldType.array ty).toString = some cB → H1.size = H.size + 1 + n.toNatClampNeg → H1[H.size]? = some (mq_o cA n.toNatClampNeg H.size n.toNatClampNeg) → (∀ x : Nat, x < H.size → H1[x]? = H[x]?) → (∀ j : Nat, j < n.toNatClampNeg → H1[H.size + 1 + j]? = some (mq_i cB k.toNatClampNeg (defaultValue ty))) →
      W p l e R s m args below meth c H1 (locs ++ (List.range n.toNatClampNeg).map fun j => ⟨H.size, j⟩) (cells + 1 + n.toNatClampNeg) (slots + n.toNatClampNeg + n.toNatClampNeg * k.toNatClampNeg) Q (F0 m (pc + 4) ls (.ref H.size :: rest))) :
    W p l e R s m args below meth c H locs cells slots Q (F0 m pc ls (.int k :: .int n :: rest)) := by
  intro T hT X
  obtain ⟨comp, cA, kA, hcomp, hkA, hkindA, hnameA⟩ := hov
  obtain ⟨comp', kC, cc', hcomp', hkC, hkindC⟩ := Cond.arrayClass_spec harr
  have ecomp : comp' = comp := Option.some.inj (hcomp'.symm.trans hcomp)
  subst ecomp
  have hpl : e.platform.magicAccessors = ({} : Platform).magicAccessors := by rw [X.admits.platform]
  obtain ⟨c0, hfc0, hcl⟩ := Cond.classLink_spec hown hclink e.platform hpl
  cases hnameA.symm.trans hfc0
  obtain ⟨hg₁, hwarm₁, hready₁⟩ := State.classEntry (e := e) X.warmed hcl
  generalize T.vm.noted m.cls index (.cls cA) = vm₁ at hg₁ hwarm₁ hready₁
  obtain ⟨kA₁, hkA₁, heA⟩ := hwarm₁.alike.2.2 _ _ hkA
  obtain ⟨kC₁, hkC₁, heC⟩ := hwarm₁.alike.2.2 _ _ hkC
  have X₁ := X.noted hwarm₁
  have XF := mq_stand X₁ cA comp' n.toNatClampNeg k.toNatClampNeg (defaultValue ty) n.toNatClampNeg
  obtain ⟨a1, a2, -, -, a5, a6⟩ := mq_facts (T.setVm vm₁) cA comp' n.toNatClampNeg k.toNatClampNeg (defaultValue ty) n.toNatClampNeg
  have hTh : (T.setVm vm₁).heap = H := hT
  rw [hTh] at a1 a2 a5 a6
  obtain ⟨hr1, hr2⟩ := X.roomAbove hcells hslots
  have XF' := XF
  rw [hTh] at XF'
  obtain ⟨t, st1, hq⟩ := kk _ cA comp' hnameA hcomp a1 a2 a5 a6 _ rfl XF'
  refine ⟨t, ?_, hq⟩
  have hl1 : ¬ n.toNatClampNeg > e.platform.arrayLengthLimit := by rw [Launch.admits_arrayLengthLimit X.admits]; omega
  have hh1 : ¬ n.toNatClampNeg * componentBytes (.array ty) > e.platform.maxHeapBytes := by
    rw [Launch.admits_maxHeapBytes X.admits]
    show ¬ n.toNatClampNeg * 4 > 536870912
    omega
  have hl2 : ¬ k.toNatClampNeg > e.platform.arrayLengthLimit := by rw [Launch.admits_arrayLengthLimit X.admits]; omega
  have hh2 : ¬ k.toNatClampNeg * componentBytes ty > e.platform.maxHeapBytes := by rw [Launch.admits_maxHeapBytes X.admits]; omega
  jvm_step X.here [hexec, hb, hdg]
  simp only [multianewarray.sem, wp_bind', W.resolveClassAt_links (State.method?_setTop (F0 m pc ls (.int k :: .int n :: rest)) X.here.top) hg₁]
  rw [W.popN, if_neg (by decide)]
  refine ⟨F0 m pc ls (.int k :: .int n :: rest), State.topJava?_setTop' (s := T.setVm vm₁) _ X.here.top, [.int n, .int k], rest, rfl, rfl, ?_⟩
  simp only [List.mapM_cons, List.mapM_nil, wp_bind', wp_pure']
  refine mq_grid (k := kA₁) (kc := kC₁) (comp := comp') (cc := cc') (ty := ty) (type := ty) hkA₁ (by rw [heA]; exact hkindA) hkC₁ (by rw [heC]; exact hkindC) hn hk hl1 hh1 hl2 hh2 hdf hdd (by show T.heap.size + 1 + _ ≤ _; omega) (by show T.slotsUsed + _ + _ ≤ _; omega) (fun d' acts' => ?_)
  have eS : ((T.setTop (F0 m pc ls (.int k :: .int n :: rest))).setVm vm₁).setTop { F0 m pc ls (.int k :: .int n :: rest) with stack := rest } = (T.setVm vm₁).setTop { F0 m pc ls (.int k :: .int n :: rest) with stack := rest } := by
    show ((T.setVm vm₁).setTop _).setTop _ = _
    rw [State.setTop_setTop]
  rw [eS, mq_top]
  simp only [wp_bind', W.mark, W.pushRef, State.topJava?_setTop' _ XF.here.top, Option.some.injEq, exists_eq_left', State.setTop_setTop, State.heap_setTop]
  intro acts
  simp [jvm, XF.here.top]
  rw [← hT] at st1
  exact st1
end MQS
