/-! ===== what is checked of the table; the frame in which a method stands ===== -/
def ag_tys (dT : Nat → ClassId) : List (ClassId × FieldType) := [(dT 0, .int), (dT 1, .long), (dT 2, .boolean), (dT 3, .array .int), (dT 4, .array .long)]
abbrev ae_P : Type := List (Nat × (Nat × (Nat × Nat)))
def ae_at (pos : Nat) (w : Cond) : Bool := decide (lw_tbl[pos]? = some w)
def lw_gt : List Cond := lw_tbl.filter goodWord
theorem ae_at_mem {pos : Nat} {w : Cond} (h : ae_at pos w = true) (hg : goodWord w = true) : w ∈ lw_gt := List.mem_filter.mpr ⟨List.mem_of_getElem? (of_decide_eq_true h), hg⟩
def ae_ln (ie : ae_E) : Nat := match ie.1 with
  | .iload _ => 2
  | .lload _ => 2
  | .aload _ => 2
  | .istore _ => 2
  | .lstore _ => 2
  | .astore _ => 2
  | .bipush _ => 2
  | .ldc _ => 2
  | .newarray _ => 2
  | .sipush _ => 3
  | .getfield _ => 3
  | .putfield _ => 3
  | .invokevirtual _ => 3
  | .invokespecial _ => 3
  | .invokestatic _ => 3
  | .new _ => 3
  | .goto _ => 3
  | .ifCond _ _ => 3
  | .if_icmp _ _ => 3
  | .ifnonnull _ => 3
  | .iinc _ _ => 3
  | .ldc2_w _ => 3
  | .multianewarray _ _ => 4
  | .tableswitch _ _ _ _ => ie.2.2.1
  | _ => 1
def ae_okc (MP : ae_P) (me2 : ae_M) (mid n : Nat) : Bool := match MP[mid]? with
  | some mp => ae_at mp.1 (.code me2.1 me2.2.1 (ae_mL me2) (ae_mR me2)) && (ae_at mp.2.1 (.initialized me2.1.cls) && decide (me2.1.cls ≠ "java/lang/invoke/MethodHandle" ∧ me2.1.cls ≠ "java/lang/invoke/VarHandle" ∧ (parseMethodDescriptor me2.1.desc).map (fun d => d.parameters.length) = some n))
  | none => false
def ae_okv (MP : ae_P) (me2 : ae_M) (mid : Nat) : Bool := match MP[mid]? with
  | some mp => ae_at mp.2.2.1 (.instanceMethod me2.1)
  | none => false
def ae_oks (MP : ae_P) (me2 : ae_M) (mid : Nat) : Bool := match MP[mid]? with
  | some mp => ae_at mp.2.2.1 (.static me2.1)
  | none => false
def ae_okl (MP : ae_P) (me2 : ae_M) (mid : Nat) (C : String) : Bool := match MP[mid]? with
  | some mp => ae_at mp.2.2.2 (.selects C me2.1 me2.1)
  | none => false
def ae_ity (t : Nat) : FieldType := match t with
  | 1 => .long
  | _ => .int
def ae_ok2 (MT : List ae_M) (MP : ae_P) (SI : List Nat) (me : ae_M) (pc : Nat) (ie : ae_E) : Bool := match ie.1 with
  | .istore_n n => Nat.blt n.val (ae_mL me)
  | .istore n => Nat.blt n (ae_mL me)
  | .astore_n n => Nat.blt n.val (ae_mL me)
  | .astore n => Nat.blt n (ae_mL me)
  | .lstore_n n => Nat.blt (n.val + 1) (ae_mL me)
  | .lstore n => Nat.blt (n + 1) (ae_mL me)
  | .iinc n _ => Nat.blt n (ae_mL me)
  | .ldc idx => cond (Nat.beq ie.2.2.1 0) (ae_at ie.2.2.2.2.2 (.constant me.1.cls idx (nI ie.2.2.2.1))) (decide (me.1.cls = RX6) && decide (SI[ie.2.2.2.1]? = some idx))
  | .ldc2_w idx => ae_at ie.2.2.2.2.2 (.constantLong me.1.cls idx (lN ie.2.2.1))
  | .goto off => decide ((pc : Int) + off = (ie.2.2.1 : Int))
  | .ifCond _ off => decide ((pc : Int) + off = (ie.2.2.1 : Int))
  | .if_icmp _ off => decide ((pc : Int) + off = (ie.2.2.1 : Int))
  | .ifnonnull off => decide ((pc : Int) + off = (ie.2.2.1 : Int))
  | .getfield idx => match vwCl[ie.2.2.1]? with
    | some cl => Nat.blt ie.2.2.2.1 cl.2.2 && ae_at ie.2.2.2.2.2 (.fieldLink me.1.cls idx (cl.2.1 ie.2.2.2.1).1 (cl.2.1 ie.2.2.2.1).2.1 (cl.2.1 ie.2.2.2.1).2.2.1)
    | none => false
  | .putfield idx => match vwCl[ie.2.2.1]? with
    | some cl => Nat.blt ie.2.2.2.1 cl.2.2 && (ae_at ie.2.2.2.2.2 (.fieldLink me.1.cls idx (cl.2.1 ie.2.2.2.1).1 (cl.2.1 ie.2.2.2.1).2.1 (cl.2.1 ie.2.2.2.1).2.2.1) && (decide ((cl.2.1 ie.2.2.2.1).2.2.2 = false) || (decide (me.1.name = "<init>") && decide ((cl.2.1 ie.2.2.2.1).1 = me.1.cls))))
    | none => false
  | .new idx => match vwCl[ie.2.2.1]? with
    | some cl => ae_at ie.2.2.2.2.2 (.classLink me.1.cls idx cl.1) && (ae_at ie.2.2.2.1 (.instantiable cl.1 cl.2.2) && ae_at ie.2.2.2.2.1 (.initialized cl.1))
    | none => false
  | .newarray at_ => ae_at ie.2.2.2.2.2 (.arrayClass (newarray.typeOf at_))
  | .multianewarray idx k => decide (k = 2) && (ae_at ie.2.2.2.2.2 (.classLink me.1.cls idx ("[" ++ (FieldType.array (ae_ity ie.2.2.1)).toString)) && (ae_at ie.2.2.2.1 (.arrayOver (.array (ae_ity ie.2.2.1))) && ae_at ie.2.2.2.2.1 (.arrayClass (ae_ity ie.2.2.1))))
  | .invokevirtual idx => match MT[ie.2.2.1]? with
    | some me2 => ae_at ie.2.2.2.2.2 (.methodLink me.1.cls idx me2.1) && cond (Nat.beq ie.2.2.2.2.1 0) (decide (me2.1 = yJ0_length_8abf5) && Nat.beq ie.2.2.2.1 0) (ae_okc MP me2 ie.2.2.1 ie.2.2.2.1 && (ae_okv MP me2 ie.2.2.1 && (ae_okl MP me2 ie.2.2.1 me2.1.cls && (match vwCl[ie.2.2.2.2.1 - 1]? with
      | some cl => decide (cl.1 = me2.1.cls)
      | none => false))))
    | none => false
  | .invokestatic idx => cond (Nat.beq ie.2.2.2.2.1 1) (ae_at ie.2.2.2.2.2 (.methodLink me.1.cls idx arraycopyName)) (match MT[ie.2.2.1]? with
    | some me2 => ae_at ie.2.2.2.2.2 (.methodLink me.1.cls idx me2.1) && (ae_okc MP me2 ie.2.2.1 ie.2.2.2.1 && ae_oks MP me2 ie.2.2.1)
    | none => false)
  | .invokespecial idx => cond (Nat.beq ie.2.2.2.2.1 0) (ae_at ie.2.2.2.2.2 (.methodLink me.1.cls idx objectInit) && Nat.beq ie.2.2.2.1 0) (match MT[ie.2.2.1]? with
    | some me2 => decide (me2.1.name = "<init>" ∧ ae_mR me2 = none) && (ae_okc MP me2 ie.2.2.1 ie.2.2.2.1 && (ae_okv MP me2 ie.2.2.1 && cond (Nat.beq ie.2.2.2.2.1 1) (ae_at ie.2.2.2.2.2 (.methodLink me.1.cls idx me2.1)) (decide (me.1.cls = "OneKey" ∧ idx = 9 ∧ me2.1 = yX6_init))))
    | none => false)
  | _ => true
def ae_ok (MT : List ae_M) (MP : ae_P) (SI : List Nat) (me : ae_M) (pc : Nat) (ie : ae_E) : Bool := decide (decode me.2.1 pc = .ok (ie.1, ae_ln ie)) && (Nat.beq ie.2.1 (pc + ae_ln ie) && ae_ok2 MT MP SI me pc ie)
/-- the fixed part of a method's frame -/
def ag_F (XS : (Nat → Prop) → State → Prop) (dC : Nat → ClassId) (dI : Nat → Nat → Nat) (dT : Nat → ClassId) (A : Nat → Prop) (me : ae_M) (d q : Nat) (p : Program) (R : Room) (s : State) (m : MethodId) (args : Array Value) (meth : Method) (c : Code) : Prop :=
  p.tables.exec = Jvm.exec ∧ c.code = me.2.1 ∧ c.maxLocals = ae_mL me ∧ s.vm.findClass me.1.cls = some m.cls ∧ (∀ w ∈ lw_gt, w.before args s = true) ∧ va_K (dC, dI) vwCl (ag_tys dT) s ∧ (∀ z, s.heap.size ≤ z → A z) ∧ meth.locks = false ∧ meth.sig.returnType = ae_mR me ∧ (me.1.name = "<init>" → meth.name = "<init>") ∧ R.frames = d ∧ R.locals = q ∧ R.cells = ae_mc me ∧ R.slots = ae_ms me ∧ XS A s
/-- a state of the abstract machine, and one of the machine -/
def ag_At (E : Nat → Value) (dC : Nat → ClassId) (dI : Nat → Nat → Nat) (dT : Nat → ClassId) (A : Nat → Prop) (me : ae_M) (s : State) (ad0 : List Nat) (lo : ae_L) (st : List ae_V) (w : List ae_C) (cs sl : Nat) (ad : List Nat) (ws : va_W) (H : Heap) (locs : List Loc) (lv : List (Nat × Value)) (ls : Array Slot) (stv : List Value) : Prop :=
  (cs ≤ ae_mc me ∧ sl ≤ ae_ms me) ∧ (∃ t, ad = ad0 ++ t) ∧ ws.map Prod.fst = ad ∧ lv_has ls (ae_mL me) lv ∧ ag_L E ad lo lv ∧ ag_S E ad st stv ∧ ag_W E dT ad w ws ∧ va_P (dC, dI) vwCl ws H ∧ va_D A ws ∧ va_S A s.heap H locs
section SOUND
variable {XS : (Nat → Prop) → State → Prop} {E : Nat → Value} {dC : Nat → ClassId} {dI : Nat → Nat → Nat} {dT : Nat → ClassId} {A : Nat → Prop} {me : ae_M} {d q : Nat} {p : Program} {l : Launch} {e : Env} {R : Room} {s : State} {m : MethodId} {args : Array Value} {below : List Frame} {meth : Method} {c : Code} {Q : State → Prop} {ad0 : List Nat}
def ag_H (E : Nat → Value) (dC : Nat → ClassId) (dI : Nat → Nat → Nat) (dT : Nat → ClassId) (A : Nat → Prop) (me : ae_M) (p : Program) (l : Launch) (e : Env) (R : Room) (s : State) (m : MethodId) (args : Array Value) (below : List Frame) (meth : Method) (c : Code) (Q : State → Prop) (ad0 : List Nat) (pc : Nat) (lo : ae_L) (st : List ae_V) (w : List ae_C) (cs sl : Nat) : Prop :=
  ∀ (ad : List Nat) (ws : va_W) (H : Heap) (locs : List Loc) (lv : List (Nat × Value)) (ls : Array Slot) (stv : List Value), ag_At E dC dI dT A me s ad0 lo st w cs sl ad ws H locs lv ls stv → W p l e R s m args below meth c H locs cs sl Q (F0 m pc ls stv)
def ag_N (E : Nat → Value) (dC : Nat → ClassId) (dI : Nat → Nat → Nat) (dT : Nat → ClassId) (A : Nat → Prop) (me : ae_M) (p : Program) (l : Launch) (e : Env) (R : Room) (s : State) (m : MethodId) (args : Array Value) (below : List Frame) (meth : Method) (c : Code) (Q : State → Prop) (ad0 : List Nat) (K : ae_K) (res : ae_R) : Prop :=
  ∀ (pc : Nat) (lo : ae_L) (st : List ae_V) (w : List ae_C) (cs sl : Nat), K pc lo st w cs sl = some res → ag_H E dC dI dT A me p l e R s m args below meth c Q ad0 pc lo st w cs sl
variable {K : ae_K} {res : ae_R} {pc : Nat} {lo : ae_L} {st : List ae_V} {w : List ae_C} {cs sl : Nat}

theorem as_iconst (hE : ∀ k, E k = .null ∨ ∃ q, E k = .ref q) (hF : ag_F XS dC dI dT A me d q p R s m args meth c) (hN : ag_N E dC dI dT A me p l e R s m args below meth c Q ad0 K res) {i : Int} (hdg : decode me.2.1 pc = .ok (.iconst i, 1)) (h : ae_n (ae_c (Int32.ofInt i)) (fun z => K (pc + 1) lo (.inl (.inl z) :: st) w cs sl) = some res) : ag_H E dC dI dT A me p l e R s m args below meth c Q ad0 pc lo st w cs sl := by
  intro ad ws H locs lv ls stv hat
  obtain ⟨hcs, hex, had, hl, hlo, hst, hw, hP, hD, hS⟩ := hat
  obtain ⟨hx, hb, hml, hown, hts, hK, hA, hlk, hret, hnm, hR1, hR2, hR3, hR4, hXS⟩ := hF
  rw [ae_n_eq] at h
  exact lv_iconst hx hb hdg rfl (hN _ _ _ _ _ _ h ad ws H locs lv ls _ ⟨hcs, hex, had, hl, hlo, ⟨⟨_, rfl, (ae_c_eq _).symm⟩, hst⟩, hw, hP, hD, hS⟩)

theorem as_bipush (hE : ∀ k, E k = .null ∨ ∃ q, E k = .ref q) (hF : ag_F XS dC dI dT A me d q p R s m args meth c) (hN : ag_N E dC dI dT A me p l e R s m args below meth c Q ad0 K res) {i : Int} (hdg : decode me.2.1 pc = .ok (.bipush i, 2)) (h : ae_n (ae_c ((Int8.ofInt i).toInt32)) (fun z => K (pc + 2) lo (.inl (.inl z) :: st) w cs sl) = some res) : ag_H E dC dI dT A me p l e R s m args below meth c Q ad0 pc lo st w cs sl := by
  intro ad ws H locs lv ls stv hat
  obtain ⟨hcs, hex, had, hl, hlo, hst, hw, hP, hD, hS⟩ := hat
  obtain ⟨hx, hb, hml, hown, hts, hK, hA, hlk, hret, hnm, hR1, hR2, hR3, hR4, hXS⟩ := hF
  rw [ae_n_eq] at h
  exact lv_bipush hx hb hdg rfl (hN _ _ _ _ _ _ h ad ws H locs lv ls _ ⟨hcs, hex, had, hl, hlo, ⟨⟨_, rfl, (ae_c_eq _).symm⟩, hst⟩, hw, hP, hD, hS⟩)

theorem as_sipush (hE : ∀ k, E k = .null ∨ ∃ q, E k = .ref q) (hF : ag_F XS dC dI dT A me d q p R s m args meth c) (hN : ag_N E dC dI dT A me p l e R s m args below meth c Q ad0 K res) {i : Int} (hdg : decode me.2.1 pc = .ok (.sipush i, 3)) (h : ae_n (ae_c ((Int16.ofInt i).toInt32)) (fun z => K (pc + 3) lo (.inl (.inl z) :: st) w cs sl) = some res) : ag_H E dC dI dT A me p l e R s m args below meth c Q ad0 pc lo st w cs sl := by
  intro ad ws H locs lv ls stv hat
  obtain ⟨hcs, hex, had, hl, hlo, hst, hw, hP, hD, hS⟩ := hat
  obtain ⟨hx, hb, hml, hown, hts, hK, hA, hlk, hret, hnm, hR1, hR2, hR3, hR4, hXS⟩ := hF
  rw [ae_n_eq] at h
  exact lv_sipush hx hb hdg rfl (hN _ _ _ _ _ _ h ad ws H locs lv ls _ ⟨hcs, hex, had, hl, hlo, ⟨⟨_, rfl, (ae_c_eq _).symm⟩, hst⟩, hw, hP, hD, hS⟩)

theorem as_lconst (hE : ∀ k, E k = .null ∨ ∃ q, E k = .ref q) (hF : ag_F XS dC dI dT A me d q p R s m args meth c) (hN : ag_N E dC dI dT A me p l e R s m args below meth c Q ad0 K res) {i : Fin 2} (hdg : decode me.2.1 pc = .ok (.lconst i, 1)) (h : ae_n (ae_d (Int64.ofNat i.val)) (fun z => K (pc + 1) lo (.inr (.inl (.inl z)) :: st) w cs sl) = some res) : ag_H E dC dI dT A me p l e R s m args below meth c Q ad0 pc lo st w cs sl := by
  intro ad ws H locs lv ls stv hat
  obtain ⟨hcs, hex, had, hl, hlo, hst, hw, hP, hD, hS⟩ := hat
  obtain ⟨hx, hb, hml, hown, hts, hK, hA, hlk, hret, hnm, hR1, hR2, hR3, hR4, hXS⟩ := hF
  rw [ae_n_eq] at h
  exact lv_lconst hx hb hdg rfl (hN _ _ _ _ _ _ h ad ws H locs lv ls _ ⟨hcs, hex, had, hl, hlo, ⟨⟨_, rfl, (ae_d_eq _).symm⟩, hst⟩, hw, hP, hD, hS⟩)

theorem as_null (hE : ∀ k, E k = .null ∨ ∃ q, E k = .ref q) (hF : ag_F XS dC dI dT A me d q p R s m args meth c) (hN : ag_N E dC dI dT A me p l e R s m args below meth c Q ad0 K res) (hE0 : E 0 = .null) (hdg : decode me.2.1 pc = .ok (.aconst_null, 1)) (h : K (pc + 1) lo (.inr (.inr (.inr 0)) :: st) w cs sl = some res) : ag_H E dC dI dT A me p l e R s m args below meth c Q ad0 pc lo st w cs sl := by
  intro ad ws H locs lv ls stv hat
  obtain ⟨hcs, hex, had, hl, hlo, hst, hw, hP, hD, hS⟩ := hat
  obtain ⟨hx, hb, hml, hown, hts, hK, hA, hlk, hret, hnm, hR1, hR2, hR3, hR4, hXS⟩ := hF
  exact lv_null hx hb hdg (hN _ _ _ _ _ _ h ad ws H locs lv ls _ ⟨hcs, hex, had, hl, hlo, ⟨hE0.symm, hst⟩, hw, hP, hD, hS⟩)

theorem as_ldci (hE : ∀ k, E k = .null ∨ ∃ q, E k = .ref q) (hF : ag_F XS dC dI dT A me d q p R s m args meth c) (hN : ag_N E dC dI dT A me p l e R s m args below meth c Q ad0 K res) {idx n : Nat} (hm : Cond.constant me.1.cls idx (nI n) ∈ lw_gt) (hdg : decode me.2.1 pc = .ok (.ldc idx, 2)) (h : K (pc + 2) lo (.inl (.inl n) :: st) w cs sl = some res) : ag_H E dC dI dT A me p l e R s m args below meth c Q ad0 pc lo st w cs sl := by
  intro ad ws H locs lv ls stv hat
  obtain ⟨hcs, hex, had, hl, hlo, hst, hw, hP, hD, hS⟩ := hat
  obtain ⟨hx, hb, hml, hown, hts, hK, hA, hlk, hret, hnm, hR1, hR2, hR3, hR4, hXS⟩ := hF
  exact lv_ldc hx hb hown (hts _ hm) hdg (hN _ _ _ _ _ _ h ad ws H locs lv ls _ ⟨hcs, hex, had, hl, hlo, ⟨⟨_, rfl, rfl⟩, hst⟩, hw, hP, hD, hS⟩)

theorem as_ldcs (hE : ∀ k, E k = .null ∨ ∃ q, E k = .ref q) (hF : ag_F XS dC dI dT A me d q p R s m args meth c) (hN : ag_N E dC dI dT A me p l e R s m args below meth c Q ad0 K res) {idx k qa : Nat} {tx : String} (hz : vk_R me.1.cls idx tx qa s) (hek : E k = .ref qa) (hdg : decode me.2.1 pc = .ok (.ldc idx, 2)) (h : K (pc + 2) lo (.inr (.inr (.inr k)) :: st) w cs sl = some res) : ag_H E dC dI dT A me p l e R s m args below meth c Q ad0 pc lo st w cs sl := by
  intro ad ws H locs lv ls stv hat
  obtain ⟨hcs, hex, had, hl, hlo, hst, hw, hP, hD, hS⟩ := hat
  obtain ⟨hx, hb, hml, hown, hts, hK, hA, hlk, hret, hnm, hR1, hR2, hR3, hR4, hXS⟩ := hF
  exact va_ldcS hx hb hown hz hdg (hN _ _ _ _ _ _ h ad ws H locs lv ls _ ⟨hcs, hex, had, hl, hlo, ⟨hek.symm, hst⟩, hw, hP, hD, hS⟩)

theorem as_ldc2 (hE : ∀ k, E k = .null ∨ ∃ q, E k = .ref q) (hF : ag_F XS dC dI dT A me d q p R s m args meth c) (hN : ag_N E dC dI dT A me p l e R s m args below meth c Q ad0 K res) {idx n : Nat} (hm : Cond.constantLong me.1.cls idx (lN n) ∈ lw_gt) (hdg : decode me.2.1 pc = .ok (.ldc2_w idx, 3)) (h : K (pc + 3) lo (.inr (.inl (.inl n)) :: st) w cs sl = some res) : ag_H E dC dI dT A me p l e R s m args below meth c Q ad0 pc lo st w cs sl := by
  intro ad ws H locs lv ls stv hat
  obtain ⟨hcs, hex, had, hl, hlo, hst, hw, hP, hD, hS⟩ := hat
  obtain ⟨hx, hb, hml, hown, hts, hK, hA, hlk, hret, hnm, hR1, hR2, hR3, hR4, hXS⟩ := hF
  exact lv_ldc2 hx hb hown (hts _ hm) hdg (hN _ _ _ _ _ _ h ad ws H locs lv ls _ ⟨hcs, hex, had, hl, hlo, ⟨⟨_, rfl, rfl⟩, hst⟩, hw, hP, hD, hS⟩)

theorem as_iload_n (hE : ∀ k, E k = .null ∨ ∃ q, E k = .ref q) (hF : ag_F XS dC dI dT A me d q p R s m args meth c) (hN : ag_N E dC dI dT A me p l e R s m args below meth c Q ad0 K res) {i : Fin 4} (hdg : decode me.2.1 pc = .ok (.iload_n i, 1)) (h : ae_li1 (ae_get lo i.val) (fun a => K (pc + 1) lo (.inl a :: st) w cs sl) = some res) : ag_H E dC dI dT A me p l e R s m args below meth c Q ad0 pc lo st w cs sl := by
  intro ad ws H locs lv ls stv hat
  obtain ⟨hcs, hex, had, hl, hlo, hst, hw, hP, hD, hS⟩ := hat
  obtain ⟨hx, hb, hml, hown, hts, hK, hA, hlk, hret, hnm, hR1, hR2, hR3, hR4, hXS⟩ := hF
  obtain ⟨a, hg, h⟩ := ae_li1_inv h
  obtain ⟨k, v, hk, x, rfl, hv⟩ := ag_L_get hlo hg
  exact lv_iload_n hx hb hdg rfl (lv_at hl k hk) (hN _ _ _ _ _ _ h ad ws H locs lv ls _ ⟨hcs, hex, had, hl, hlo, ⟨⟨x, rfl, hv⟩, hst⟩, hw, hP, hD, hS⟩)

theorem as_iload (hE : ∀ k, E k = .null ∨ ∃ q, E k = .ref q) (hF : ag_F XS dC dI dT A me d q p R s m args meth c) (hN : ag_N E dC dI dT A me p l e R s m args below meth c Q ad0 K res) {i : Nat} (hdg : decode me.2.1 pc = .ok (.iload i, 2)) (h : ae_li1 (ae_get lo i) (fun a => K (pc + 2) lo (.inl a :: st) w cs sl) = some res) : ag_H E dC dI dT A me p l e R s m args below meth c Q ad0 pc lo st w cs sl := by
  intro ad ws H locs lv ls stv hat
  obtain ⟨hcs, hex, had, hl, hlo, hst, hw, hP, hD, hS⟩ := hat
  obtain ⟨hx, hb, hml, hown, hts, hK, hA, hlk, hret, hnm, hR1, hR2, hR3, hR4, hXS⟩ := hF
  obtain ⟨a, hg, h⟩ := ae_li1_inv h
  obtain ⟨k, v, hk, x, rfl, hv⟩ := ag_L_get hlo hg
  exact lv_iload hx hb hdg (lv_at hl k hk) (hN _ _ _ _ _ _ h ad ws H locs lv ls _ ⟨hcs, hex, had, hl, hlo, ⟨⟨x, rfl, hv⟩, hst⟩, hw, hP, hD, hS⟩)

theorem as_lload_n (hE : ∀ k, E k = .null ∨ ∃ q, E k = .ref q) (hF : ag_F XS dC dI dT A me d q p R s m args meth c) (hN : ag_N E dC dI dT A me p l e R s m args below meth c Q ad0 K res) {i : Fin 4} (hdg : decode me.2.1 pc = .ok (.lload_n i, 1)) (h : ae_ll1 (ae_get lo i.val) (fun a => K (pc + 1) lo (.inr (.inl a) :: st) w cs sl) = some res) : ag_H E dC dI dT A me p l e R s m args below meth c Q ad0 pc lo st w cs sl := by
  intro ad ws H locs lv ls stv hat
  obtain ⟨hcs, hex, had, hl, hlo, hst, hw, hP, hD, hS⟩ := hat
  obtain ⟨hx, hb, hml, hown, hts, hK, hA, hlk, hret, hnm, hR1, hR2, hR3, hR4, hXS⟩ := hF
  obtain ⟨a, hg, h⟩ := ae_ll1_inv h
  obtain ⟨k, v, hk, x, rfl, hv⟩ := ag_L_get hlo hg
  exact lv_lload_n hx hb hdg rfl (lv_at hl k hk) (hN _ _ _ _ _ _ h ad ws H locs lv ls _ ⟨hcs, hex, had, hl, hlo, ⟨⟨x, rfl, hv⟩, hst⟩, hw, hP, hD, hS⟩)

theorem as_lload (hE : ∀ k, E k = .null ∨ ∃ q, E k = .ref q) (hF : ag_F XS dC dI dT A me d q p R s m args meth c) (hN : ag_N E dC dI dT A me p l e R s m args below meth c Q ad0 K res) {i : Nat} (hdg : decode me.2.1 pc = .ok (.lload i, 2)) (h : ae_ll1 (ae_get lo i) (fun a => K (pc + 2) lo (.inr (.inl a) :: st) w cs sl) = some res) : ag_H E dC dI dT A me p l e R s m args below meth c Q ad0 pc lo st w cs sl := by
  intro ad ws H locs lv ls stv hat
  obtain ⟨hcs, hex, had, hl, hlo, hst, hw, hP, hD, hS⟩ := hat
  obtain ⟨hx, hb, hml, hown, hts, hK, hA, hlk, hret, hnm, hR1, hR2, hR3, hR4, hXS⟩ := hF
  obtain ⟨a, hg, h⟩ := ae_ll1_inv h
  obtain ⟨k, v, hk, x, rfl, hv⟩ := ag_L_get hlo hg
  exact lv_lload hx hb hdg (lv_at hl k hk) (hN _ _ _ _ _ _ h ad ws H locs lv ls _ ⟨hcs, hex, had, hl, hlo, ⟨⟨x, rfl, hv⟩, hst⟩, hw, hP, hD, hS⟩)

theorem as_aload_n (hE : ∀ k, E k = .null ∨ ∃ q, E k = .ref q) (hF : ag_F XS dC dI dT A me d q p R s m args meth c) (hN : ag_N E dC dI dT A me p l e R s m args below meth c Q ad0 K res) {i : Fin 4} (hdg : decode me.2.1 pc = .ok (.aload_n i, 1)) (h : ae_la1 (ae_get lo i.val) (fun a => K (pc + 1) lo (.inr (.inr a) :: st) w cs sl) = some res) : ag_H E dC dI dT A me p l e R s m args below meth c Q ad0 pc lo st w cs sl := by
  intro ad ws H locs lv ls stv hat
  obtain ⟨hcs, hex, had, hl, hlo, hst, hw, hP, hD, hS⟩ := hat
  obtain ⟨hx, hb, hml, hown, hts, hK, hA, hlk, hret, hnm, hR1, hR2, hR3, hR4, hXS⟩ := hF
  obtain ⟨a, hg, h⟩ := ae_la1_inv h
  obtain ⟨k, v, hk, hv⟩ := ag_L_get hlo hg
  have hrf : v = .null ∨ ∃ x, v = .ref x := by
    cases a with
    | inl i => obtain ⟨x, -, h2⟩ := hv; exact Or.inr ⟨x, h2⟩
    | inr i =>
      have h2 : v = E i := hv
      rw [h2]
      exact hE i
  rcases hrf with rfl | ⟨x, rfl⟩
  · exact lv_aload_nN hx hb hdg rfl (lv_at hl k hk) (hN _ _ _ _ _ _ h ad ws H locs lv ls _ ⟨hcs, hex, had, hl, hlo, ⟨hv, hst⟩, hw, hP, hD, hS⟩)
  · exact lv_aload_n hx hb hdg rfl (lv_at hl k hk) (hN _ _ _ _ _ _ h ad ws H locs lv ls _ ⟨hcs, hex, had, hl, hlo, ⟨hv, hst⟩, hw, hP, hD, hS⟩)

theorem as_aload (hE : ∀ k, E k = .null ∨ ∃ q, E k = .ref q) (hF : ag_F XS dC dI dT A me d q p R s m args meth c) (hN : ag_N E dC dI dT A me p l e R s m args below meth c Q ad0 K res) {i : Nat} (hdg : decode me.2.1 pc = .ok (.aload i, 2)) (h : ae_la1 (ae_get lo i) (fun a => K (pc + 2) lo (.inr (.inr a) :: st) w cs sl) = some res) : ag_H E dC dI dT A me p l e R s m args below meth c Q ad0 pc lo st w cs sl := by
  intro ad ws H locs lv ls stv hat
  obtain ⟨hcs, hex, had, hl, hlo, hst, hw, hP, hD, hS⟩ := hat
  obtain ⟨hx, hb, hml, hown, hts, hK, hA, hlk, hret, hnm, hR1, hR2, hR3, hR4, hXS⟩ := hF
  obtain ⟨a, hg, h⟩ := ae_la1_inv h
  obtain ⟨k, v, hk, hv⟩ := ag_L_get hlo hg
  have hrf : v = .null ∨ ∃ x, v = .ref x := by
    cases a with
    | inl i => obtain ⟨x, -, h2⟩ := hv; exact Or.inr ⟨x, h2⟩
    | inr i =>
      have h2 : v = E i := hv
      rw [h2]
      exact hE i
  rcases hrf with rfl | ⟨x, rfl⟩
  · exact lv_aloadN hx hb hdg (lv_at hl k hk) (hN _ _ _ _ _ _ h ad ws H locs lv ls _ ⟨hcs, hex, had, hl, hlo, ⟨hv, hst⟩, hw, hP, hD, hS⟩)
  · exact lv_aload hx hb hdg (lv_at hl k hk) (hN _ _ _ _ _ _ h ad ws H locs lv ls _ ⟨hcs, hex, had, hl, hlo, ⟨hv, hst⟩, hw, hP, hD, hS⟩)

theorem as_istore_n (hE : ∀ k, E k = .null ∨ ∃ q, E k = .ref q) (hF : ag_F XS dC dI dT A me d q p R s m args meth c) (hN : ag_N E dC dI dT A me p l e R s m args below meth c Q ad0 K res) {i : Fin 4} (hlt : i.val < ae_mL me) (hdg : decode me.2.1 pc = .ok (.istore_n i, 1)) (h : ae_i1 st (fun a r => ae_fil (ae_keep1 i.val) lo (fun lo' => K (pc + 1) ((i.val, .inl a) :: lo') r w cs sl)) = some res) : ag_H E dC dI dT A me p l e R s m args below meth c Q ad0 pc lo st w cs sl := by
  intro ad ws H locs lv ls stv hat
  obtain ⟨hcs, hex, had, hl, hlo, hst, hw, hP, hD, hS⟩ := hat
  obtain ⟨hx, hb, hml, hown, hts, hK, hA, hlk, hret, hnm, hR1, hR2, hR3, hR4, hXS⟩ := hF
  obtain ⟨a, r, e0, h0⟩ := ae_i1_inv h
  clear h
  subst e0
  have h := h0
  rw [ae_fil_eq] at h
  obtain ⟨v, rv, rfl, hv0, hr⟩ := ag_S_cons hst
  obtain ⟨x, rfl, hv⟩ := hv0
  exact lv_istore_n hx hb hdg rfl hl hlt rfl (fun ls' hl' => hN _ _ _ _ _ _ h ad ws H locs _ ls' _ ⟨hcs, hex, had, hl', ⟨⟨rfl, ⟨x, rfl, hv⟩⟩, ag_L_fil1 hE _ hlo⟩, hr, hw, hP, hD, hS⟩)

theorem as_istore (hE : ∀ k, E k = .null ∨ ∃ q, E k = .ref q) (hF : ag_F XS dC dI dT A me d q p R s m args meth c) (hN : ag_N E dC dI dT A me p l e R s m args below meth c Q ad0 K res) {i : Nat} (hlt : i < ae_mL me) (hdg : decode me.2.1 pc = .ok (.istore i, 2)) (h : ae_i1 st (fun a r => ae_fil (ae_keep1 i) lo (fun lo' => K (pc + 2) ((i, .inl a) :: lo') r w cs sl)) = some res) : ag_H E dC dI dT A me p l e R s m args below meth c Q ad0 pc lo st w cs sl := by
  intro ad ws H locs lv ls stv hat
  obtain ⟨hcs, hex, had, hl, hlo, hst, hw, hP, hD, hS⟩ := hat
  obtain ⟨hx, hb, hml, hown, hts, hK, hA, hlk, hret, hnm, hR1, hR2, hR3, hR4, hXS⟩ := hF
  obtain ⟨a, r, e0, h0⟩ := ae_i1_inv h
  clear h
  subst e0
  have h := h0
  rw [ae_fil_eq] at h
  obtain ⟨v, rv, rfl, hv0, hr⟩ := ag_S_cons hst
  obtain ⟨x, rfl, hv⟩ := hv0
  exact lv_istore hx hb hdg hl hlt rfl (fun ls' hl' => hN _ _ _ _ _ _ h ad ws H locs _ ls' _ ⟨hcs, hex, had, hl', ⟨⟨rfl, ⟨x, rfl, hv⟩⟩, ag_L_fil1 hE _ hlo⟩, hr, hw, hP, hD, hS⟩)

theorem as_lstore_n (hE : ∀ k, E k = .null ∨ ∃ q, E k = .ref q) (hF : ag_F XS dC dI dT A me d q p R s m args meth c) (hN : ag_N E dC dI dT A me p l e R s m args below meth c Q ad0 K res) {i : Fin 4} (hlt : i.val + 1 < ae_mL me) (hdg : decode me.2.1 pc = .ok (.lstore_n i, 1)) (h : ae_l1 st (fun a r => ae_fil (ae_keep2 i.val) lo (fun lo' => K (pc + 1) ((i.val, .inr (.inl a)) :: lo') r w cs sl)) = some res) : ag_H E dC dI dT A me p l e R s m args below meth c Q ad0 pc lo st w cs sl := by
  intro ad ws H locs lv ls stv hat
  obtain ⟨hcs, hex, had, hl, hlo, hst, hw, hP, hD, hS⟩ := hat
  obtain ⟨hx, hb, hml, hown, hts, hK, hA, hlk, hret, hnm, hR1, hR2, hR3, hR4, hXS⟩ := hF
  obtain ⟨a, r, e0, h0⟩ := ae_l1_inv h
  clear h
  subst e0
  have h := h0
  rw [ae_fil_eq] at h
  obtain ⟨v, rv, rfl, hv0, hr⟩ := ag_S_cons hst
  obtain ⟨x, rfl, hv⟩ := hv0
  exact lv_lstore_n hx hb hdg rfl hl hlt rfl (fun ls' hl' => hN _ _ _ _ _ _ h ad ws H locs _ ls' _ ⟨hcs, hex, had, hl', ⟨⟨rfl, ⟨x, rfl, hv⟩⟩, ag_L_fil2 hE _ hlo⟩, hr, hw, hP, hD, hS⟩)

theorem as_lstore (hE : ∀ k, E k = .null ∨ ∃ q, E k = .ref q) (hF : ag_F XS dC dI dT A me d q p R s m args meth c) (hN : ag_N E dC dI dT A me p l e R s m args below meth c Q ad0 K res) {i : Nat} (hlt : i + 1 < ae_mL me) (hdg : decode me.2.1 pc = .ok (.lstore i, 2)) (h : ae_l1 st (fun a r => ae_fil (ae_keep2 i) lo (fun lo' => K (pc + 2) ((i, .inr (.inl a)) :: lo') r w cs sl)) = some res) : ag_H E dC dI dT A me p l e R s m args below meth c Q ad0 pc lo st w cs sl := by
  intro ad ws H locs lv ls stv hat
  obtain ⟨hcs, hex, had, hl, hlo, hst, hw, hP, hD, hS⟩ := hat
  obtain ⟨hx, hb, hml, hown, hts, hK, hA, hlk, hret, hnm, hR1, hR2, hR3, hR4, hXS⟩ := hF
  obtain ⟨a, r, e0, h0⟩ := ae_l1_inv h
  clear h
  subst e0
  have h := h0
  rw [ae_fil_eq] at h
  obtain ⟨v, rv, rfl, hv0, hr⟩ := ag_S_cons hst
  obtain ⟨x, rfl, hv⟩ := hv0
  exact lv_lstore hx hb hdg hl hlt rfl (fun ls' hl' => hN _ _ _ _ _ _ h ad ws H locs _ ls' _ ⟨hcs, hex, had, hl', ⟨⟨rfl, ⟨x, rfl, hv⟩⟩, ag_L_fil2 hE _ hlo⟩, hr, hw, hP, hD, hS⟩)

theorem as_astore_n (hE : ∀ k, E k = .null ∨ ∃ q, E k = .ref q) (hF : ag_F XS dC dI dT A me d q p R s m args meth c) (hN : ag_N E dC dI dT A me p l e R s m args below meth c Q ad0 K res) {i : Fin 4} (hlt : i.val < ae_mL me) (hdg : decode me.2.1 pc = .ok (.astore_n i, 1)) (h : ae_r1 st (fun a r => ae_fil (ae_keep1 i.val) lo (fun lo' => K (pc + 1) ((i.val, .inr (.inr (.inl a))) :: lo') r w cs sl)) = some res) : ag_H E dC dI dT A me p l e R s m args below meth c Q ad0 pc lo st w cs sl := by
  intro ad ws H locs lv ls stv hat
  obtain ⟨hcs, hex, had, hl, hlo, hst, hw, hP, hD, hS⟩ := hat
  obtain ⟨hx, hb, hml, hown, hts, hK, hA, hlk, hret, hnm, hR1, hR2, hR3, hR4, hXS⟩ := hF
  obtain ⟨a, r, e0, h0⟩ := ae_r1_inv h
  clear h
  subst e0
  have h := h0
  rw [ae_fil_eq] at h
  obtain ⟨v, rv, rfl, hv0, hr⟩ := ag_S_cons hst
  obtain ⟨q1, hq1, rfl⟩ := hv0
  exact lv_astore_n hx hb hdg rfl hl hlt rfl (fun ls' hl' => hN _ _ _ _ _ _ h ad ws H locs _ ls' _ ⟨hcs, hex, had, hl', ⟨⟨rfl, ⟨q1, hq1, rfl⟩⟩, ag_L_fil1 hE _ hlo⟩, hr, hw, hP, hD, hS⟩)

theorem as_astore (hE : ∀ k, E k = .null ∨ ∃ q, E k = .ref q) (hF : ag_F XS dC dI dT A me d q p R s m args meth c) (hN : ag_N E dC dI dT A me p l e R s m args below meth c Q ad0 K res) {i : Nat} (hlt : i < ae_mL me) (hdg : decode me.2.1 pc = .ok (.astore i, 2)) (h : ae_r1 st (fun a r => ae_fil (ae_keep1 i) lo (fun lo' => K (pc + 2) ((i, .inr (.inr (.inl a))) :: lo') r w cs sl)) = some res) : ag_H E dC dI dT A me p l e R s m args below meth c Q ad0 pc lo st w cs sl := by
  intro ad ws H locs lv ls stv hat
  obtain ⟨hcs, hex, had, hl, hlo, hst, hw, hP, hD, hS⟩ := hat
  obtain ⟨hx, hb, hml, hown, hts, hK, hA, hlk, hret, hnm, hR1, hR2, hR3, hR4, hXS⟩ := hF
  obtain ⟨a, r, e0, h0⟩ := ae_r1_inv h
  clear h
  subst e0
  have h := h0
  rw [ae_fil_eq] at h
  obtain ⟨v, rv, rfl, hv0, hr⟩ := ag_S_cons hst
  obtain ⟨q1, hq1, rfl⟩ := hv0
  exact lv_astore hx hb hdg hl hlt rfl (fun ls' hl' => hN _ _ _ _ _ _ h ad ws H locs _ ls' _ ⟨hcs, hex, had, hl', ⟨⟨rfl, ⟨q1, hq1, rfl⟩⟩, ag_L_fil1 hE _ hlo⟩, hr, hw, hP, hD, hS⟩)

theorem as_iinc (hE : ∀ k, E k = .null ∨ ∃ q, E k = .ref q) (hF : ag_F XS dC dI dT A me d q p R s m args meth c) (hN : ag_N E dC dI dT A me p l e R s m args below meth c Q ad0 K res) {i : Nat} {n : Int} (hlt : i < ae_mL me) (hdg : decode me.2.1 pc = .ok (.iinc i n, 3)) (h : ae_li1 (ae_get lo i) (fun a => ae_b (fun x _ => x + Int32.ofInt n) a a (fun z => ae_fil (ae_keep1 i) lo (fun lo' => K (pc + 3) ((i, .inl z) :: lo') st w cs sl))) = some res) : ag_H E dC dI dT A me p l e R s m args below meth c Q ad0 pc lo st w cs sl := by
  intro ad ws H locs lv ls stv hat
  obtain ⟨hcs, hex, had, hl, hlo, hst, hw, hP, hD, hS⟩ := hat
  obtain ⟨hx, hb, hml, hown, hts, hK, hA, hlk, hret, hnm, hR1, hR2, hR3, hR4, hXS⟩ := hF
  obtain ⟨a, hg, h⟩ := ae_li1_inv h
  obtain ⟨k, v, hk, x, rfl, hv⟩ := ag_L_get hlo hg
  obtain ⟨z, hz, h⟩ := ae_b_inv h hv hv
  rw [ae_fil_eq] at h
  exact lv_iinc hx hb hdg hl hk rfl hlt rfl (fun ls' hl' => hN _ _ _ _ _ _ h ad ws H locs _ ls' _ ⟨hcs, hex, had, hl', ⟨⟨rfl, _, rfl, hz⟩, ag_L_fil1 hE _ hlo⟩, hst, hw, hP, hD, hS⟩)

theorem as_iadd (hE : ∀ k, E k = .null ∨ ∃ q, E k = .ref q) (hF : ag_F XS dC dI dT A me d q p R s m args meth c) (hN : ag_N E dC dI dT A me p l e R s m args below meth c Q ad0 K res) (hdg : decode me.2.1 pc = .ok (.iadd, 1)) (h : ae_i2 st (fun a b r => ae_b (fun x y => x + y) a b (fun z => K (pc + 1) lo (.inl z :: r) w cs sl)) = some res) : ag_H E dC dI dT A me p l e R s m args below meth c Q ad0 pc lo st w cs sl := by
  intro ad ws H locs lv ls stv hat
  obtain ⟨hcs, hex, had, hl, hlo, hst, hw, hP, hD, hS⟩ := hat
  obtain ⟨hx, hb, hml, hown, hts, hK, hA, hlk, hret, hnm, hR1, hR2, hR3, hR4, hXS⟩ := hF
  obtain ⟨a, b, r, e0, h0⟩ := ae_i2_inv h
  clear h
  subst e0
  have h := h0
  obtain ⟨v1, r1, rfl, ⟨y, rfl, hy⟩, hst0⟩ := ag_S_cons hst
  clear hst
  have hst := hst0
  clear hst0
  obtain ⟨v2, r2, rfl, ⟨x, rfl, hx2⟩, hst0⟩ := ag_S_cons hst
  clear hst
  have hst := hst0
  clear hst0
  obtain ⟨z, hz, h⟩ := ae_b_inv h hx2 hy
  exact lv_iadd hx hb hdg (hN _ _ _ _ _ _ h ad ws H locs lv ls _ ⟨hcs, hex, had, hl, hlo, ⟨⟨_, rfl, hz⟩, hst⟩, hw, hP, hD, hS⟩)

theorem as_isub (hE : ∀ k, E k = .null ∨ ∃ q, E k = .ref q) (hF : ag_F XS dC dI dT A me d q p R s m args meth c) (hN : ag_N E dC dI dT A me p l e R s m args below meth c Q ad0 K res) (hdg : decode me.2.1 pc = .ok (.isub, 1)) (h : ae_i2 st (fun a b r => ae_b (fun x y => x - y) a b (fun z => K (pc + 1) lo (.inl z :: r) w cs sl)) = some res) : ag_H E dC dI dT A me p l e R s m args below meth c Q ad0 pc lo st w cs sl := by
  intro ad ws H locs lv ls stv hat
  obtain ⟨hcs, hex, had, hl, hlo, hst, hw, hP, hD, hS⟩ := hat
  obtain ⟨hx, hb, hml, hown, hts, hK, hA, hlk, hret, hnm, hR1, hR2, hR3, hR4, hXS⟩ := hF
  obtain ⟨a, b, r, e0, h0⟩ := ae_i2_inv h
  clear h
  subst e0
  have h := h0
  obtain ⟨v1, r1, rfl, ⟨y, rfl, hy⟩, hst0⟩ := ag_S_cons hst
  clear hst
  have hst := hst0
  clear hst0
  obtain ⟨v2, r2, rfl, ⟨x, rfl, hx2⟩, hst0⟩ := ag_S_cons hst
  clear hst
  have hst := hst0
  clear hst0
  obtain ⟨z, hz, h⟩ := ae_b_inv h hx2 hy
  exact lv_isub hx hb hdg (hN _ _ _ _ _ _ h ad ws H locs lv ls _ ⟨hcs, hex, had, hl, hlo, ⟨⟨_, rfl, hz⟩, hst⟩, hw, hP, hD, hS⟩)

theorem as_imul (hE : ∀ k, E k = .null ∨ ∃ q, E k = .ref q) (hF : ag_F XS dC dI dT A me d q p R s m args meth c) (hN : ag_N E dC dI dT A me p l e R s m args below meth c Q ad0 K res) (hdg : decode me.2.1 pc = .ok (.imul, 1)) (h : ae_i2 st (fun a b r => ae_b (fun x y => x * y) a b (fun z => K (pc + 1) lo (.inl z :: r) w cs sl)) = some res) : ag_H E dC dI dT A me p l e R s m args below meth c Q ad0 pc lo st w cs sl := by
  intro ad ws H locs lv ls stv hat
  obtain ⟨hcs, hex, had, hl, hlo, hst, hw, hP, hD, hS⟩ := hat
  obtain ⟨hx, hb, hml, hown, hts, hK, hA, hlk, hret, hnm, hR1, hR2, hR3, hR4, hXS⟩ := hF
  obtain ⟨a, b, r, e0, h0⟩ := ae_i2_inv h
  clear h
  subst e0
  have h := h0
  obtain ⟨v1, r1, rfl, ⟨y, rfl, hy⟩, hst0⟩ := ag_S_cons hst
  clear hst
  have hst := hst0
  clear hst0
  obtain ⟨v2, r2, rfl, ⟨x, rfl, hx2⟩, hst0⟩ := ag_S_cons hst
  clear hst
  have hst := hst0
  clear hst0
  obtain ⟨z, hz, h⟩ := ae_b_inv h hx2 hy
  exact lv_imul hx hb hdg (hN _ _ _ _ _ _ h ad ws H locs lv ls _ ⟨hcs, hex, had, hl, hlo, ⟨⟨_, rfl, hz⟩, hst⟩, hw, hP, hD, hS⟩)

theorem as_iand (hE : ∀ k, E k = .null ∨ ∃ q, E k = .ref q) (hF : ag_F XS dC dI dT A me d q p R s m args meth c) (hN : ag_N E dC dI dT A me p l e R s m args below meth c Q ad0 K res) (hdg : decode me.2.1 pc = .ok (.iand, 1)) (h : ae_i2 st (fun a b r => ae_band a b (fun z => K (pc + 1) lo (.inl z :: r) w cs sl)) = some res) : ag_H E dC dI dT A me p l e R s m args below meth c Q ad0 pc lo st w cs sl := by
  intro ad ws H locs lv ls stv hat
  obtain ⟨hcs, hex, had, hl, hlo, hst, hw, hP, hD, hS⟩ := hat
  obtain ⟨hx, hb, hml, hown, hts, hK, hA, hlk, hret, hnm, hR1, hR2, hR3, hR4, hXS⟩ := hF
  obtain ⟨a, b, r, e0, h0⟩ := ae_i2_inv h
  clear h
  subst e0
  have h := h0
  obtain ⟨v1, r1, rfl, ⟨y, rfl, hy⟩, hst0⟩ := ag_S_cons hst
  clear hst
  have hst := hst0
  clear hst0
  obtain ⟨v2, r2, rfl, ⟨x, rfl, hx2⟩, hst0⟩ := ag_S_cons hst
  clear hst
  have hst := hst0
  clear hst0
  obtain ⟨z, hz, h⟩ := ae_band_inv h hx2 hy
  exact lv_iand hx hb hdg (hN _ _ _ _ _ _ h ad ws H locs lv ls _ ⟨hcs, hex, had, hl, hlo, ⟨⟨_, rfl, hz⟩, hst⟩, hw, hP, hD, hS⟩)

theorem as_ior (hE : ∀ k, E k = .null ∨ ∃ q, E k = .ref q) (hF : ag_F XS dC dI dT A me d q p R s m args meth c) (hN : ag_N E dC dI dT A me p l e R s m args below meth c Q ad0 K res) (hdg : decode me.2.1 pc = .ok (.ior, 1)) (h : ae_i2 st (fun a b r => ae_b (fun x y => x ||| y) a b (fun z => K (pc + 1) lo (.inl z :: r) w cs sl)) = some res) : ag_H E dC dI dT A me p l e R s m args below meth c Q ad0 pc lo st w cs sl := by
  intro ad ws H locs lv ls stv hat
  obtain ⟨hcs, hex, had, hl, hlo, hst, hw, hP, hD, hS⟩ := hat
  obtain ⟨hx, hb, hml, hown, hts, hK, hA, hlk, hret, hnm, hR1, hR2, hR3, hR4, hXS⟩ := hF
  obtain ⟨a, b, r, e0, h0⟩ := ae_i2_inv h
  clear h
  subst e0
  have h := h0
  obtain ⟨v1, r1, rfl, ⟨y, rfl, hy⟩, hst0⟩ := ag_S_cons hst
  clear hst
  have hst := hst0
  clear hst0
  obtain ⟨v2, r2, rfl, ⟨x, rfl, hx2⟩, hst0⟩ := ag_S_cons hst
  clear hst
  have hst := hst0
  clear hst0
  obtain ⟨z, hz, h⟩ := ae_b_inv h hx2 hy
  exact lv_ior hx hb hdg (hN _ _ _ _ _ _ h ad ws H locs lv ls _ ⟨hcs, hex, had, hl, hlo, ⟨⟨_, rfl, hz⟩, hst⟩, hw, hP, hD, hS⟩)

theorem as_ixor (hE : ∀ k, E k = .null ∨ ∃ q, E k = .ref q) (hF : ag_F XS dC dI dT A me d q p R s m args meth c) (hN : ag_N E dC dI dT A me p l e R s m args below meth c Q ad0 K res) (hdg : decode me.2.1 pc = .ok (.ixor, 1)) (h : ae_i2 st (fun a b r => ae_b (fun x y => x ^^^ y) a b (fun z => K (pc + 1) lo (.inl z :: r) w cs sl)) = some res) : ag_H E dC dI dT A me p l e R s m args below meth c Q ad0 pc lo st w cs sl := by
  intro ad ws H locs lv ls stv hat
  obtain ⟨hcs, hex, had, hl, hlo, hst, hw, hP, hD, hS⟩ := hat
  obtain ⟨hx, hb, hml, hown, hts, hK, hA, hlk, hret, hnm, hR1, hR2, hR3, hR4, hXS⟩ := hF
  obtain ⟨a, b, r, e0, h0⟩ := ae_i2_inv h
  clear h
  subst e0
  have h := h0
  obtain ⟨v1, r1, rfl, ⟨y, rfl, hy⟩, hst0⟩ := ag_S_cons hst
  clear hst
  have hst := hst0
  clear hst0
  obtain ⟨v2, r2, rfl, ⟨x, rfl, hx2⟩, hst0⟩ := ag_S_cons hst
  clear hst
  have hst := hst0
  clear hst0
  obtain ⟨z, hz, h⟩ := ae_b_inv h hx2 hy
  exact lv_ixor hx hb hdg (hN _ _ _ _ _ _ h ad ws H locs lv ls _ ⟨hcs, hex, had, hl, hlo, ⟨⟨_, rfl, hz⟩, hst⟩, hw, hP, hD, hS⟩)

theorem as_ishl (hE : ∀ k, E k = .null ∨ ∃ q, E k = .ref q) (hF : ag_F XS dC dI dT A me d q p R s m args meth c) (hN : ag_N E dC dI dT A me p l e R s m args below meth c Q ad0 K res) (hdg : decode me.2.1 pc = .ok (.ishl, 1)) (h : ae_i2 st (fun a b r => ae_b (fun x y => x <<< (y &&& 31)) a b (fun z => K (pc + 1) lo (.inl z :: r) w cs sl)) = some res) : ag_H E dC dI dT A me p l e R s m args below meth c Q ad0 pc lo st w cs sl := by
  intro ad ws H locs lv ls stv hat
  obtain ⟨hcs, hex, had, hl, hlo, hst, hw, hP, hD, hS⟩ := hat
  obtain ⟨hx, hb, hml, hown, hts, hK, hA, hlk, hret, hnm, hR1, hR2, hR3, hR4, hXS⟩ := hF
  obtain ⟨a, b, r, e0, h0⟩ := ae_i2_inv h
  clear h
  subst e0
  have h := h0
  obtain ⟨v1, r1, rfl, ⟨y, rfl, hy⟩, hst0⟩ := ag_S_cons hst
  clear hst
  have hst := hst0
  clear hst0
  obtain ⟨v2, r2, rfl, ⟨x, rfl, hx2⟩, hst0⟩ := ag_S_cons hst
  clear hst
  have hst := hst0
  clear hst0
  obtain ⟨z, hz, h⟩ := ae_b_inv h hx2 hy
  exact lv_ishl hx hb hdg (hN _ _ _ _ _ _ h ad ws H locs lv ls _ ⟨hcs, hex, had, hl, hlo, ⟨⟨_, rfl, hz⟩, hst⟩, hw, hP, hD, hS⟩)

theorem as_ishr (hE : ∀ k, E k = .null ∨ ∃ q, E k = .ref q) (hF : ag_F XS dC dI dT A me d q p R s m args meth c) (hN : ag_N E dC dI dT A me p l e R s m args below meth c Q ad0 K res) (hdg : decode me.2.1 pc = .ok (.ishr, 1)) (h : ae_i2 st (fun a b r => ae_b (fun x y => x >>> (y &&& 31)) a b (fun z => K (pc + 1) lo (.inl z :: r) w cs sl)) = some res) : ag_H E dC dI dT A me p l e R s m args below meth c Q ad0 pc lo st w cs sl := by
  intro ad ws H locs lv ls stv hat
  obtain ⟨hcs, hex, had, hl, hlo, hst, hw, hP, hD, hS⟩ := hat
  obtain ⟨hx, hb, hml, hown, hts, hK, hA, hlk, hret, hnm, hR1, hR2, hR3, hR4, hXS⟩ := hF
  obtain ⟨a, b, r, e0, h0⟩ := ae_i2_inv h
  clear h
  subst e0
  have h := h0
  obtain ⟨v1, r1, rfl, ⟨y, rfl, hy⟩, hst0⟩ := ag_S_cons hst
  clear hst
  have hst := hst0
  clear hst0
  obtain ⟨v2, r2, rfl, ⟨x, rfl, hx2⟩, hst0⟩ := ag_S_cons hst
  clear hst
  have hst := hst0
  clear hst0
  obtain ⟨z, hz, h⟩ := ae_b_inv h hx2 hy
  exact lv_ishr hx hb hdg (hN _ _ _ _ _ _ h ad ws H locs lv ls _ ⟨hcs, hex, had, hl, hlo, ⟨⟨_, rfl, hz⟩, hst⟩, hw, hP, hD, hS⟩)

theorem as_iushr (hE : ∀ k, E k = .null ∨ ∃ q, E k = .ref q) (hF : ag_F XS dC dI dT A me d q p R s m args meth c) (hN : ag_N E dC dI dT A me p l e R s m args below meth c Q ad0 K res) (hdg : decode me.2.1 pc = .ok (.iushr, 1)) (h : ae_i2 st (fun a b r => ae_b (fun x y => (x.toUInt32 >>> (y.toUInt32 &&& Int32.toUInt32 31)).toInt32) a b (fun z => K (pc + 1) lo (.inl z :: r) w cs sl)) = some res) : ag_H E dC dI dT A me p l e R s m args below meth c Q ad0 pc lo st w cs sl := by
  intro ad ws H locs lv ls stv hat
  obtain ⟨hcs, hex, had, hl, hlo, hst, hw, hP, hD, hS⟩ := hat
  obtain ⟨hx, hb, hml, hown, hts, hK, hA, hlk, hret, hnm, hR1, hR2, hR3, hR4, hXS⟩ := hF
  obtain ⟨a, b, r, e0, h0⟩ := ae_i2_inv h
  clear h
  subst e0
  have h := h0
  obtain ⟨v1, r1, rfl, ⟨y, rfl, hy⟩, hst0⟩ := ag_S_cons hst
  clear hst
  have hst := hst0
  clear hst0
  obtain ⟨v2, r2, rfl, ⟨x, rfl, hx2⟩, hst0⟩ := ag_S_cons hst
  clear hst
  have hst := hst0
  clear hst0
  obtain ⟨z, hz, h⟩ := ae_b_inv h hx2 hy
  exact lv_iushr hx hb hdg rfl (hN _ _ _ _ _ _ h ad ws H locs lv ls _ ⟨hcs, hex, had, hl, hlo, ⟨⟨_, rfl, hz⟩, hst⟩, hw, hP, hD, hS⟩)

theorem as_idiv (hE : ∀ k, E k = .null ∨ ∃ q, E k = .ref q) (hF : ag_F XS dC dI dT A me d q p R s m args meth c) (hN : ag_N E dC dI dT A me p l e R s m args below meth c Q ad0 K res) (hdg : decode me.2.1 pc = .ok (.idiv, 1)) (h : ae_i2 st (fun a b r => ae_bz (fun x y => x / y) a b (fun z => K (pc + 1) lo (.inl z :: r) w cs sl)) = some res) : ag_H E dC dI dT A me p l e R s m args below meth c Q ad0 pc lo st w cs sl := by
  intro ad ws H locs lv ls stv hat
  obtain ⟨hcs, hex, had, hl, hlo, hst, hw, hP, hD, hS⟩ := hat
  obtain ⟨hx, hb, hml, hown, hts, hK, hA, hlk, hret, hnm, hR1, hR2, hR3, hR4, hXS⟩ := hF
  obtain ⟨a, b, r, e0, h0⟩ := ae_i2_inv h
  clear h
  subst e0
  have h := h0
  obtain ⟨v1, r1, rfl, ⟨y, rfl, hy⟩, hst0⟩ := ag_S_cons hst
  clear hst
  have hst := hst0
  clear hst0
  obtain ⟨v2, r2, rfl, ⟨x, rfl, hx2⟩, hst0⟩ := ag_S_cons hst
  clear hst
  have hst := hst0
  clear hst0
  obtain ⟨h0, z, hz, h⟩ := ae_bz_inv h hx2 hy
  exact lv_idiv hx hb hdg h0 (hN _ _ _ _ _ _ h ad ws H locs lv ls _ ⟨hcs, hex, had, hl, hlo, ⟨⟨_, rfl, hz⟩, hst⟩, hw, hP, hD, hS⟩)

theorem as_irem (hE : ∀ k, E k = .null ∨ ∃ q, E k = .ref q) (hF : ag_F XS dC dI dT A me d q p R s m args meth c) (hN : ag_N E dC dI dT A me p l e R s m args below meth c Q ad0 K res) (hdg : decode me.2.1 pc = .ok (.irem, 1)) (h : ae_i2 st (fun a b r => ae_bz (fun x y => x - x / y * y) a b (fun z => K (pc + 1) lo (.inl z :: r) w cs sl)) = some res) : ag_H E dC dI dT A me p l e R s m args below meth c Q ad0 pc lo st w cs sl := by
  intro ad ws H locs lv ls stv hat
  obtain ⟨hcs, hex, had, hl, hlo, hst, hw, hP, hD, hS⟩ := hat
  obtain ⟨hx, hb, hml, hown, hts, hK, hA, hlk, hret, hnm, hR1, hR2, hR3, hR4, hXS⟩ := hF
  obtain ⟨a, b, r, e0, h0⟩ := ae_i2_inv h
  clear h
  subst e0
  have h := h0
  obtain ⟨v1, r1, rfl, ⟨y, rfl, hy⟩, hst0⟩ := ag_S_cons hst
  clear hst
  have hst := hst0
  clear hst0
  obtain ⟨v2, r2, rfl, ⟨x, rfl, hx2⟩, hst0⟩ := ag_S_cons hst
  clear hst
  have hst := hst0
  clear hst0
  obtain ⟨h0, z, hz, h⟩ := ae_bz_inv h hx2 hy
  exact lv_irem hx hb hdg h0 (hN _ _ _ _ _ _ h ad ws H locs lv ls _ ⟨hcs, hex, had, hl, hlo, ⟨⟨_, rfl, hz⟩, hst⟩, hw, hP, hD, hS⟩)

theorem as_ladd (hE : ∀ k, E k = .null ∨ ∃ q, E k = .ref q) (hF : ag_F XS dC dI dT A me d q p R s m args meth c) (hN : ag_N E dC dI dT A me p l e R s m args below meth c Q ad0 K res) (hdg : decode me.2.1 pc = .ok (.ladd, 1)) (h : ae_l2 st (fun a b r => ae_lb (fun x y => x + y) a b (fun z => K (pc + 1) lo (.inr (.inl z) :: r) w cs sl)) = some res) : ag_H E dC dI dT A me p l e R s m args below meth c Q ad0 pc lo st w cs sl := by
  intro ad ws H locs lv ls stv hat
  obtain ⟨hcs, hex, had, hl, hlo, hst, hw, hP, hD, hS⟩ := hat
  obtain ⟨hx, hb, hml, hown, hts, hK, hA, hlk, hret, hnm, hR1, hR2, hR3, hR4, hXS⟩ := hF
  obtain ⟨a, b, r, e0, h0⟩ := ae_l2_inv h
  clear h
  subst e0
  have h := h0
  obtain ⟨v1, r1, rfl, ⟨y, rfl, hy⟩, hst0⟩ := ag_S_cons hst
  clear hst
  have hst := hst0
  clear hst0
  obtain ⟨v2, r2, rfl, ⟨x, rfl, hx2⟩, hst0⟩ := ag_S_cons hst
  clear hst
  have hst := hst0
  clear hst0
  obtain ⟨z, hz, h⟩ := ae_lb_inv h hx2 hy
  exact lv_ladd hx hb hdg (hN _ _ _ _ _ _ h ad ws H locs lv ls _ ⟨hcs, hex, had, hl, hlo, ⟨⟨_, rfl, hz⟩, hst⟩, hw, hP, hD, hS⟩)

theorem as_lmul (hE : ∀ k, E k = .null ∨ ∃ q, E k = .ref q) (hF : ag_F XS dC dI dT A me d q p R s m args meth c) (hN : ag_N E dC dI dT A me p l e R s m args below meth c Q ad0 K res) (hdg : decode me.2.1 pc = .ok (.lmul, 1)) (h : ae_l2 st (fun a b r => ae_lb (fun x y => x * y) a b (fun z => K (pc + 1) lo (.inr (.inl z) :: r) w cs sl)) = some res) : ag_H E dC dI dT A me p l e R s m args below meth c Q ad0 pc lo st w cs sl := by
  intro ad ws H locs lv ls stv hat
  obtain ⟨hcs, hex, had, hl, hlo, hst, hw, hP, hD, hS⟩ := hat
  obtain ⟨hx, hb, hml, hown, hts, hK, hA, hlk, hret, hnm, hR1, hR2, hR3, hR4, hXS⟩ := hF
  obtain ⟨a, b, r, e0, h0⟩ := ae_l2_inv h
  clear h
  subst e0
  have h := h0
  obtain ⟨v1, r1, rfl, ⟨y, rfl, hy⟩, hst0⟩ := ag_S_cons hst
  clear hst
  have hst := hst0
  clear hst0
  obtain ⟨v2, r2, rfl, ⟨x, rfl, hx2⟩, hst0⟩ := ag_S_cons hst
  clear hst
  have hst := hst0
  clear hst0
  obtain ⟨z, hz, h⟩ := ae_lb_inv h hx2 hy
  exact lv_lmul hx hb hdg (hN _ _ _ _ _ _ h ad ws H locs lv ls _ ⟨hcs, hex, had, hl, hlo, ⟨⟨_, rfl, hz⟩, hst⟩, hw, hP, hD, hS⟩)

theorem as_land (hE : ∀ k, E k = .null ∨ ∃ q, E k = .ref q) (hF : ag_F XS dC dI dT A me d q p R s m args meth c) (hN : ag_N E dC dI dT A me p l e R s m args below meth c Q ad0 K res) (hdg : decode me.2.1 pc = .ok (.land, 1)) (h : ae_l2 st (fun a b r => ae_lb (fun x y => x &&& y) a b (fun z => K (pc + 1) lo (.inr (.inl z) :: r) w cs sl)) = some res) : ag_H E dC dI dT A me p l e R s m args below meth c Q ad0 pc lo st w cs sl := by
  intro ad ws H locs lv ls stv hat
  obtain ⟨hcs, hex, had, hl, hlo, hst, hw, hP, hD, hS⟩ := hat
  obtain ⟨hx, hb, hml, hown, hts, hK, hA, hlk, hret, hnm, hR1, hR2, hR3, hR4, hXS⟩ := hF
  obtain ⟨a, b, r, e0, h0⟩ := ae_l2_inv h
  clear h
  subst e0
  have h := h0
  obtain ⟨v1, r1, rfl, ⟨y, rfl, hy⟩, hst0⟩ := ag_S_cons hst
  clear hst
  have hst := hst0
  clear hst0
  obtain ⟨v2, r2, rfl, ⟨x, rfl, hx2⟩, hst0⟩ := ag_S_cons hst
  clear hst
  have hst := hst0
  clear hst0
  obtain ⟨z, hz, h⟩ := ae_lb_inv h hx2 hy
  exact lv_land hx hb hdg (hN _ _ _ _ _ _ h ad ws H locs lv ls _ ⟨hcs, hex, had, hl, hlo, ⟨⟨_, rfl, hz⟩, hst⟩, hw, hP, hD, hS⟩)

theorem as_lor (hE : ∀ k, E k = .null ∨ ∃ q, E k = .ref q) (hF : ag_F XS dC dI dT A me d q p R s m args meth c) (hN : ag_N E dC dI dT A me p l e R s m args below meth c Q ad0 K res) (hdg : decode me.2.1 pc = .ok (.lor, 1)) (h : ae_l2 st (fun a b r => ae_lb (fun x y => x ||| y) a b (fun z => K (pc + 1) lo (.inr (.inl z) :: r) w cs sl)) = some res) : ag_H E dC dI dT A me p l e R s m args below meth c Q ad0 pc lo st w cs sl := by
  intro ad ws H locs lv ls stv hat
  obtain ⟨hcs, hex, had, hl, hlo, hst, hw, hP, hD, hS⟩ := hat
  obtain ⟨hx, hb, hml, hown, hts, hK, hA, hlk, hret, hnm, hR1, hR2, hR3, hR4, hXS⟩ := hF
  obtain ⟨a, b, r, e0, h0⟩ := ae_l2_inv h
  clear h
  subst e0
  have h := h0
  obtain ⟨v1, r1, rfl, ⟨y, rfl, hy⟩, hst0⟩ := ag_S_cons hst
  clear hst
  have hst := hst0
  clear hst0
  obtain ⟨v2, r2, rfl, ⟨x, rfl, hx2⟩, hst0⟩ := ag_S_cons hst
  clear hst
  have hst := hst0
  clear hst0
  obtain ⟨z, hz, h⟩ := ae_lb_inv h hx2 hy
  exact lv_lor hx hb hdg (hN _ _ _ _ _ _ h ad ws H locs lv ls _ ⟨hcs, hex, had, hl, hlo, ⟨⟨_, rfl, hz⟩, hst⟩, hw, hP, hD, hS⟩)

theorem as_ldiv (hE : ∀ k, E k = .null ∨ ∃ q, E k = .ref q) (hF : ag_F XS dC dI dT A me d q p R s m args meth c) (hN : ag_N E dC dI dT A me p l e R s m args below meth c Q ad0 K res) (hdg : decode me.2.1 pc = .ok (.ldiv, 1)) (h : ae_l2 st (fun a b r => ae_lbz (fun x y => x / y) a b (fun z => K (pc + 1) lo (.inr (.inl z) :: r) w cs sl)) = some res) : ag_H E dC dI dT A me p l e R s m args below meth c Q ad0 pc lo st w cs sl := by
  intro ad ws H locs lv ls stv hat
  obtain ⟨hcs, hex, had, hl, hlo, hst, hw, hP, hD, hS⟩ := hat
  obtain ⟨hx, hb, hml, hown, hts, hK, hA, hlk, hret, hnm, hR1, hR2, hR3, hR4, hXS⟩ := hF
  obtain ⟨a, b, r, e0, h0⟩ := ae_l2_inv h
  clear h
  subst e0
  have h := h0
  obtain ⟨v1, r1, rfl, ⟨y, rfl, hy⟩, hst0⟩ := ag_S_cons hst
  clear hst
  have hst := hst0
  clear hst0
  obtain ⟨v2, r2, rfl, ⟨x, rfl, hx2⟩, hst0⟩ := ag_S_cons hst
  clear hst
  have hst := hst0
  clear hst0
  obtain ⟨h0, z, hz, h⟩ := ae_lbz_inv h hx2 hy
  exact lv_ldiv hx hb hdg h0 (hN _ _ _ _ _ _ h ad ws H locs lv ls _ ⟨hcs, hex, had, hl, hlo, ⟨⟨_, rfl, hz⟩, hst⟩, hw, hP, hD, hS⟩)

theorem as_lrem (hE : ∀ k, E k = .null ∨ ∃ q, E k = .ref q) (hF : ag_F XS dC dI dT A me d q p R s m args meth c) (hN : ag_N E dC dI dT A me p l e R s m args below meth c Q ad0 K res) (hdg : decode me.2.1 pc = .ok (.lrem, 1)) (h : ae_l2 st (fun a b r => ae_lbz (fun x y => x - x / y * y) a b (fun z => K (pc + 1) lo (.inr (.inl z) :: r) w cs sl)) = some res) : ag_H E dC dI dT A me p l e R s m args below meth c Q ad0 pc lo st w cs sl := by
  intro ad ws H locs lv ls stv hat
  obtain ⟨hcs, hex, had, hl, hlo, hst, hw, hP, hD, hS⟩ := hat
  obtain ⟨hx, hb, hml, hown, hts, hK, hA, hlk, hret, hnm, hR1, hR2, hR3, hR4, hXS⟩ := hF
  obtain ⟨a, b, r, e0, h0⟩ := ae_l2_inv h
  clear h
  subst e0
  have h := h0
  obtain ⟨v1, r1, rfl, ⟨y, rfl, hy⟩, hst0⟩ := ag_S_cons hst
  clear hst
  have hst := hst0
  clear hst0
  obtain ⟨v2, r2, rfl, ⟨x, rfl, hx2⟩, hst0⟩ := ag_S_cons hst
  clear hst
  have hst := hst0
  clear hst0
  obtain ⟨h0, z, hz, h⟩ := ae_lbz_inv h hx2 hy
  exact lv_lrem hx hb hdg h0 (hN _ _ _ _ _ _ h ad ws H locs lv ls _ ⟨hcs, hex, had, hl, hlo, ⟨⟨_, rfl, hz⟩, hst⟩, hw, hP, hD, hS⟩)

theorem as_lshl (hE : ∀ k, E k = .null ∨ ∃ q, E k = .ref q) (hF : ag_F XS dC dI dT A me d q p R s m args meth c) (hN : ag_N E dC dI dT A me p l e R s m args below meth c Q ad0 K res) (hdg : decode me.2.1 pc = .ok (.lshl, 1)) (h : ae_li st (fun a b r => ae_ls (fun x y => x <<< (y.toInt64 &&& 63)) a b (fun z => K (pc + 1) lo (.inr (.inl z) :: r) w cs sl)) = some res) : ag_H E dC dI dT A me p l e R s m args below meth c Q ad0 pc lo st w cs sl := by
  intro ad ws H locs lv ls stv hat
  obtain ⟨hcs, hex, had, hl, hlo, hst, hw, hP, hD, hS⟩ := hat
  obtain ⟨hx, hb, hml, hown, hts, hK, hA, hlk, hret, hnm, hR1, hR2, hR3, hR4, hXS⟩ := hF
  obtain ⟨a, b, r, e0, h0⟩ := ae_li_inv h
  clear h
  subst e0
  have h := h0
  obtain ⟨v1, r1, rfl, ⟨y, rfl, hy⟩, hst0⟩ := ag_S_cons hst
  clear hst
  have hst := hst0
  clear hst0
  obtain ⟨v2, r2, rfl, ⟨x, rfl, hx2⟩, hst0⟩ := ag_S_cons hst
  clear hst
  have hst := hst0
  clear hst0
  obtain ⟨z, hz, h⟩ := ae_ls_inv h hx2 hy
  exact lv_lshl hx hb hdg rfl (hN _ _ _ _ _ _ h ad ws H locs lv ls _ ⟨hcs, hex, had, hl, hlo, ⟨⟨_, rfl, hz⟩, hst⟩, hw, hP, hD, hS⟩)

theorem as_lshr (hE : ∀ k, E k = .null ∨ ∃ q, E k = .ref q) (hF : ag_F XS dC dI dT A me d q p R s m args meth c) (hN : ag_N E dC dI dT A me p l e R s m args below meth c Q ad0 K res) (hdg : decode me.2.1 pc = .ok (.lshr, 1)) (h : ae_li st (fun a b r => ae_ls (fun x y => x >>> (y.toInt64 &&& 63)) a b (fun z => K (pc + 1) lo (.inr (.inl z) :: r) w cs sl)) = some res) : ag_H E dC dI dT A me p l e R s m args below meth c Q ad0 pc lo st w cs sl := by
  intro ad ws H locs lv ls stv hat
  obtain ⟨hcs, hex, had, hl, hlo, hst, hw, hP, hD, hS⟩ := hat
  obtain ⟨hx, hb, hml, hown, hts, hK, hA, hlk, hret, hnm, hR1, hR2, hR3, hR4, hXS⟩ := hF
  obtain ⟨a, b, r, e0, h0⟩ := ae_li_inv h
  clear h
  subst e0
  have h := h0
  obtain ⟨v1, r1, rfl, ⟨y, rfl, hy⟩, hst0⟩ := ag_S_cons hst
  clear hst
  have hst := hst0
  clear hst0
  obtain ⟨v2, r2, rfl, ⟨x, rfl, hx2⟩, hst0⟩ := ag_S_cons hst
  clear hst
  have hst := hst0
  clear hst0
  obtain ⟨z, hz, h⟩ := ae_ls_inv h hx2 hy
  exact lv_lshr hx hb hdg rfl (hN _ _ _ _ _ _ h ad ws H locs lv ls _ ⟨hcs, hex, had, hl, hlo, ⟨⟨_, rfl, hz⟩, hst⟩, hw, hP, hD, hS⟩)

theorem as_i2l (hE : ∀ k, E k = .null ∨ ∃ q, E k = .ref q) (hF : ag_F XS dC dI dT A me d q p R s m args meth c) (hN : ag_N E dC dI dT A me p l e R s m args below meth c Q ad0 K res) (hdg : decode me.2.1 pc = .ok (.i2l, 1)) (h : ae_i1 st (fun a r => ae_i2l a (fun z => K (pc + 1) lo (.inr (.inl z) :: r) w cs sl)) = some res) : ag_H E dC dI dT A me p l e R s m args below meth c Q ad0 pc lo st w cs sl := by
  intro ad ws H locs lv ls stv hat
  obtain ⟨hcs, hex, had, hl, hlo, hst, hw, hP, hD, hS⟩ := hat
  obtain ⟨hx, hb, hml, hown, hts, hK, hA, hlk, hret, hnm, hR1, hR2, hR3, hR4, hXS⟩ := hF
  obtain ⟨a, r, e0, h0⟩ := ae_i1_inv h
  clear h
  subst e0
  have h := h0
  obtain ⟨v1, r1, rfl, ⟨y, rfl, hy⟩, hst0⟩ := ag_S_cons hst
  clear hst
  have hst := hst0
  clear hst0
  obtain ⟨z, hz, h⟩ := ae_i2l_inv h hy
  exact lv_i2l hx hb hdg rfl (hN _ _ _ _ _ _ h ad ws H locs lv ls _ ⟨hcs, hex, had, hl, hlo, ⟨⟨_, rfl, hz⟩, hst⟩, hw, hP, hD, hS⟩)

theorem as_l2i (hE : ∀ k, E k = .null ∨ ∃ q, E k = .ref q) (hF : ag_F XS dC dI dT A me d q p R s m args meth c) (hN : ag_N E dC dI dT A me p l e R s m args below meth c Q ad0 K res) (hdg : decode me.2.1 pc = .ok (.l2i, 1)) (h : ae_l1 st (fun a r => ae_l2i a (fun z => K (pc + 1) lo (.inl z :: r) w cs sl)) = some res) : ag_H E dC dI dT A me p l e R s m args below meth c Q ad0 pc lo st w cs sl := by
  intro ad ws H locs lv ls stv hat
  obtain ⟨hcs, hex, had, hl, hlo, hst, hw, hP, hD, hS⟩ := hat
  obtain ⟨hx, hb, hml, hown, hts, hK, hA, hlk, hret, hnm, hR1, hR2, hR3, hR4, hXS⟩ := hF
  obtain ⟨a, r, e0, h0⟩ := ae_l1_inv h
  clear h
  subst e0
  have h := h0
  obtain ⟨v1, r1, rfl, ⟨y, rfl, hy⟩, hst0⟩ := ag_S_cons hst
  clear hst
  have hst := hst0
  clear hst0
  obtain ⟨z, hz, h⟩ := ae_l2i_inv h hy
  exact lv_l2i hx hb hdg rfl (hN _ _ _ _ _ _ h ad ws H locs lv ls _ ⟨hcs, hex, had, hl, hlo, ⟨⟨_, rfl, hz⟩, hst⟩, hw, hP, hD, hS⟩)

theorem as_lcmp (hE : ∀ k, E k = .null ∨ ∃ q, E k = .ref q) (hF : ag_F XS dC dI dT A me d q p R s m args meth c) (hN : ag_N E dC dI dT A me p l e R s m args below meth c Q ad0 K res) (hdg : decode me.2.1 pc = .ok (.lcmp, 1)) (h : ae_l2 st (fun a b r => ae_lcmp a b (fun z => K (pc + 1) lo (.inl z :: r) w cs sl)) = some res) : ag_H E dC dI dT A me p l e R s m args below meth c Q ad0 pc lo st w cs sl := by
  intro ad ws H locs lv ls stv hat
  obtain ⟨hcs, hex, had, hl, hlo, hst, hw, hP, hD, hS⟩ := hat
  obtain ⟨hx, hb, hml, hown, hts, hK, hA, hlk, hret, hnm, hR1, hR2, hR3, hR4, hXS⟩ := hF
  obtain ⟨a, b, r, e0, h0⟩ := ae_l2_inv h
  clear h
  subst e0
  have h := h0
  obtain ⟨v1, r1, rfl, ⟨y, rfl, hy⟩, hst0⟩ := ag_S_cons hst
  clear hst
  have hst := hst0
  clear hst0
  obtain ⟨v2, r2, rfl, ⟨x, rfl, hx2⟩, hst0⟩ := ag_S_cons hst
  clear hst
  have hst := hst0
  clear hst0
  obtain ⟨z, hz, h⟩ := ae_lcmp_inv h hx2 hy
  exact W.lcmp hx hb hdg (hN _ _ _ _ _ _ h ad ws H locs lv ls _ ⟨hcs, hex, had, hl, hlo, ⟨⟨_, rfl, hz⟩, hst⟩, hw, hP, hD, hS⟩)

theorem as_dup (hE : ∀ k, E k = .null ∨ ∃ q, E k = .ref q) (hF : ag_F XS dC dI dT A me d q p R s m args meth c) (hN : ag_N E dC dI dT A me p l e R s m args below meth c Q ad0 K res) (hdg : decode me.2.1 pc = .ok (.dup, 1)) (h : ae_v1 st (fun v r => ae_if (!(ae_cat2 v)) (K (pc + 1) lo (v :: v :: r) w cs sl)) = some res) : ag_H E dC dI dT A me p l e R s m args below meth c Q ad0 pc lo st w cs sl := by
  intro ad ws H locs lv ls stv hat
  obtain ⟨hcs, hex, had, hl, hlo, hst, hw, hP, hD, hS⟩ := hat
  obtain ⟨hx, hb, hml, hown, hts, hK, hA, hlk, hret, hnm, hR1, hR2, hR3, hR4, hXS⟩ := hF
  obtain ⟨v, r, e0, h0⟩ := ae_v1_inv h
  clear h
  subst e0
  have h := h0
  obtain ⟨hc, h⟩ := ae_if_inv h
  obtain ⟨v1, r1, rfl, hv, hst0⟩ := ag_S_cons hst
  clear hst
  have hst := hst0
  clear hst0
  exact lv_dup hx hb hdg (ag_cat1 hE hv hc) (hN _ _ _ _ _ _ h ad ws H locs lv ls _ ⟨hcs, hex, had, hl, hlo, ⟨hv, hv, hst⟩, hw, hP, hD, hS⟩)

theorem as_dup2 (hE : ∀ k, E k = .null ∨ ∃ q, E k = .ref q) (hF : ag_F XS dC dI dT A me d q p R s m args meth c) (hN : ag_N E dC dI dT A me p l e R s m args below meth c Q ad0 K res) (hdg : decode me.2.1 pc = .ok (.dup2, 1)) (h : ae_v2 st (fun v u r => ae_if (!(ae_cat2 v) && !(ae_cat2 u)) (K (pc + 1) lo (v :: u :: v :: u :: r) w cs sl)) = some res) : ag_H E dC dI dT A me p l e R s m args below meth c Q ad0 pc lo st w cs sl := by
  intro ad ws H locs lv ls stv hat
  obtain ⟨hcs, hex, had, hl, hlo, hst, hw, hP, hD, hS⟩ := hat
  obtain ⟨hx, hb, hml, hown, hts, hK, hA, hlk, hret, hnm, hR1, hR2, hR3, hR4, hXS⟩ := hF
  obtain ⟨v, u, r, e0, h0⟩ := ae_v2_inv h
  clear h
  subst e0
  have h := h0
  obtain ⟨hc, h⟩ := ae_if_inv h
  obtain ⟨hc1, hc2⟩ := ae_and hc
  obtain ⟨v1, r1, rfl, hv, hst0⟩ := ag_S_cons hst
  clear hst
  have hst := hst0
  clear hst0
  obtain ⟨v2, r2, rfl, hu, hst0⟩ := ag_S_cons hst
  clear hst
  have hst := hst0
  clear hst0
  exact lv_dup2_11 hx hb hdg (ag_cat1 hE hv hc1) (ag_cat1 hE hu hc2) (hN _ _ _ _ _ _ h ad ws H locs lv ls _ ⟨hcs, hex, had, hl, hlo, ⟨hv, hu, hv, hu, hst⟩, hw, hP, hD, hS⟩)

theorem as_pop (hE : ∀ k, E k = .null ∨ ∃ q, E k = .ref q) (hF : ag_F XS dC dI dT A me d q p R s m args meth c) (hN : ag_N E dC dI dT A me p l e R s m args below meth c Q ad0 K res) (hdg : decode me.2.1 pc = .ok (.pop, 1)) (h : ae_v1 st (fun v r => ae_if (!(ae_cat2 v)) (K (pc + 1) lo r w cs sl)) = some res) : ag_H E dC dI dT A me p l e R s m args below meth c Q ad0 pc lo st w cs sl := by
  intro ad ws H locs lv ls stv hat
  obtain ⟨hcs, hex, had, hl, hlo, hst, hw, hP, hD, hS⟩ := hat
  obtain ⟨hx, hb, hml, hown, hts, hK, hA, hlk, hret, hnm, hR1, hR2, hR3, hR4, hXS⟩ := hF
  obtain ⟨v, r, e0, h0⟩ := ae_v1_inv h
  clear h
  subst e0
  have h := h0
  obtain ⟨hc, h⟩ := ae_if_inv h
  obtain ⟨v1, r1, rfl, hv, hst0⟩ := ag_S_cons hst
  clear hst
  have hst := hst0
  clear hst0
  exact lv_pop hx hb hdg (ag_cat1 hE hv hc) (hN _ _ _ _ _ _ h ad ws H locs lv ls _ ⟨hcs, hex, had, hl, hlo, hst, hw, hP, hD, hS⟩)

theorem as_goto (hE : ∀ k, E k = .null ∨ ∃ q, E k = .ref q) (hF : ag_F XS dC dI dT A me d q p R s m args meth c) (hN : ag_N E dC dI dT A me p l e R s m args below meth c Q ad0 K res) {off : Int} {tg : Nat} (ht : (pc : Int) + off = (tg : Int)) (hdg : decode me.2.1 pc = .ok (.goto off, 3)) (h : K tg lo st w cs sl = some res) : ag_H E dC dI dT A me p l e R s m args below meth c Q ad0 pc lo st w cs sl := by
  intro ad ws H locs lv ls stv hat
  obtain ⟨hcs, hex, had, hl, hlo, hst, hw, hP, hD, hS⟩ := hat
  obtain ⟨hx, hb, hml, hown, hts, hK, hA, hlk, hret, hnm, hR1, hR2, hR3, hR4, hXS⟩ := hF
  exact lv_goto hx hb hdg ht (hN _ _ _ _ _ _ h ad ws H locs lv ls _ ⟨hcs, hex, had, hl, hlo, hst, hw, hP, hD, hS⟩)

theorem as_cmp {cnd : ClassFile.Cond} {a b : ae_I} {x y : Int32} {t : Bool} (h : ae_cmp cnd a b = some t) (ha : ag_I a x) (hb : ag_I b y) : (match cnd with
  | .eq => x = y
  | .ne => ¬ x = y
  | .lt => x < y
  | .ge => ¬ x < y
  | .gt => y < x
  | .le => ¬ y < x) ↔ t = true := by
  cases cnd with
  | eq => exact ae_eq_inv h ha hb
  | ne =>
    have h1 := ae_eq_inv (ae_not_inv h) ha hb
    show ¬ x = y ↔ _
    rw [h1]
    cases t <;> simp
  | lt => exact ae_lt_inv h ha hb
  | ge =>
    have h1 := ae_lt_inv (ae_not_inv h) ha hb
    show ¬ x < y ↔ _
    rw [h1]
    cases t <;> simp
  | gt => exact ae_lt_inv h hb ha
  | le =>
    have h1 := ae_lt_inv (ae_not_inv h) hb ha
    show ¬ y < x ↔ _
    rw [h1]
    cases t <;> simp

theorem as_ifc (hE : ∀ k, E k = .null ∨ ∃ q, E k = .ref q) (hF : ag_F XS dC dI dT A me d q p R s m args meth c) (hN : ag_N E dC dI dT A me p l e R s m args below meth c Q ad0 K res) {cnd : ClassFile.Cond} {off : Int} {tg : Nat} (ht : (pc : Int) + off = (tg : Int)) (hdg : decode me.2.1 pc = .ok (.ifCond cnd off, 3)) (h : ae_i1 st (fun a r => ae_br (ae_cmp cnd a (.inl 0)) (K tg lo r w cs sl) (K (pc + 3) lo r w cs sl)) = some res) : ag_H E dC dI dT A me p l e R s m args below meth c Q ad0 pc lo st w cs sl := by
  intro ad ws H locs lv ls stv hat
  obtain ⟨hcs, hex, had, hl, hlo, hst, hw, hP, hD, hS⟩ := hat
  obtain ⟨hx, hb, hml, hown, hts, hK, hA, hlk, hret, hnm, hR1, hR2, hR3, hR4, hXS⟩ := hF
  obtain ⟨a, r, e0, h0⟩ := ae_i1_inv h
  clear h
  subst e0
  have h := h0
  obtain ⟨v1, r1, rfl, ⟨x, rfl, hx2⟩, hst0⟩ := ag_S_cons hst
  clear hst
  have hst := hst0
  clear hst0
  have hy : ag_I (.inl 0) (0 : Int32) := nI_0.symm
  cases cnd with
  | eq =>
    rcases ae_br_inv h with ⟨hc, h⟩ | ⟨hc, h⟩
    · have hz := (as_cmp hc hx2 hy).mpr rfl
      refine lv_if_eq hx hb hdg ht (fun _ => hN _ _ _ _ _ _ h ad ws H locs lv ls _ ⟨hcs, hex, had, hl, hlo, hst, hw, hP, hD, hS⟩) (fun hn => ?_)
      first | exact absurd hz hn | exact absurd hn hz | exact absurd (Int32.not_lt.mp hz) hn
    · have hz : ¬ _ := fun q => by cases (as_cmp hc hx2 hy).mp q
      refine lv_if_eq hx hb hdg ht (fun hn => ?_) (fun _ => hN _ _ _ _ _ _ h ad ws H locs lv ls _ ⟨hcs, hex, had, hl, hlo, hst, hw, hP, hD, hS⟩)
      first | exact absurd hn hz | exact absurd (Int32.not_lt.mpr hn) hz
  | ne =>
    rcases ae_br_inv h with ⟨hc, h⟩ | ⟨hc, h⟩
    · have hz := (as_cmp hc hx2 hy).mpr rfl
      refine lv_if_ne hx hb hdg ht (fun _ => hN _ _ _ _ _ _ h ad ws H locs lv ls _ ⟨hcs, hex, had, hl, hlo, hst, hw, hP, hD, hS⟩) (fun hn => ?_)
      first | exact absurd hz hn | exact absurd hn hz | exact absurd (Int32.not_lt.mp hz) hn
    · have hz : ¬ _ := fun q => by cases (as_cmp hc hx2 hy).mp q
      refine lv_if_ne hx hb hdg ht (fun hn => ?_) (fun _ => hN _ _ _ _ _ _ h ad ws H locs lv ls _ ⟨hcs, hex, had, hl, hlo, hst, hw, hP, hD, hS⟩)
      first | exact absurd hn hz | exact absurd (Int32.not_lt.mpr hn) hz
  | lt =>
    rcases ae_br_inv h with ⟨hc, h⟩ | ⟨hc, h⟩
    · have hz := (as_cmp hc hx2 hy).mpr rfl
      refine lv_if_lt hx hb hdg ht (fun _ => hN _ _ _ _ _ _ h ad ws H locs lv ls _ ⟨hcs, hex, had, hl, hlo, hst, hw, hP, hD, hS⟩) (fun hn => ?_)
      first | exact absurd hz hn | exact absurd hn hz | exact absurd (Int32.not_lt.mp hz) hn
    · have hz : ¬ _ := fun q => by cases (as_cmp hc hx2 hy).mp q
      refine lv_if_lt hx hb hdg ht (fun hn => ?_) (fun _ => hN _ _ _ _ _ _ h ad ws H locs lv ls _ ⟨hcs, hex, had, hl, hlo, hst, hw, hP, hD, hS⟩)
      first | exact absurd hn hz | exact absurd (Int32.not_lt.mpr hn) hz
  | ge =>
    rcases ae_br_inv h with ⟨hc, h⟩ | ⟨hc, h⟩
    · have hz := (as_cmp hc hx2 hy).mpr rfl
      refine lv_if_ge hx hb hdg ht (fun _ => hN _ _ _ _ _ _ h ad ws H locs lv ls _ ⟨hcs, hex, had, hl, hlo, hst, hw, hP, hD, hS⟩) (fun hn => ?_)
      first | exact absurd hz hn | exact absurd hn hz | exact absurd (Int32.not_lt.mp hz) hn
    · have hz : ¬ _ := fun q => by cases (as_cmp hc hx2 hy).mp q
      refine lv_if_ge hx hb hdg ht (fun hn => ?_) (fun _ => hN _ _ _ _ _ _ h ad ws H locs lv ls _ ⟨hcs, hex, had, hl, hlo, hst, hw, hP, hD, hS⟩)
      first | exact absurd hn hz | exact absurd (Int32.not_lt.mpr hn) hz
  | gt =>
    rcases ae_br_inv h with ⟨hc, h⟩ | ⟨hc, h⟩
    · have hz := (as_cmp hc hx2 hy).mpr rfl
      refine lv_if_gt hx hb hdg ht (fun _ => hN _ _ _ _ _ _ h ad ws H locs lv ls _ ⟨hcs, hex, had, hl, hlo, hst, hw, hP, hD, hS⟩) (fun hn => ?_)
      first | exact absurd hz hn | exact absurd hn hz | exact absurd (Int32.not_lt.mp hz) hn
    · have hz : ¬ _ := fun q => by cases (as_cmp hc hx2 hy).mp q
      refine lv_if_gt hx hb hdg ht (fun hn => ?_) (fun _ => hN _ _ _ _ _ _ h ad ws H locs lv ls _ ⟨hcs, hex, had, hl, hlo, hst, hw, hP, hD, hS⟩)
      first | exact absurd hn hz | exact absurd (Int32.not_lt.mpr hn) hz
  | le =>
    rcases ae_br_inv h with ⟨hc, h⟩ | ⟨hc, h⟩
    · have hz := (as_cmp hc hx2 hy).mpr rfl
      refine lv_if_le hx hb hdg ht (fun _ => hN _ _ _ _ _ _ h ad ws H locs lv ls _ ⟨hcs, hex, had, hl, hlo, hst, hw, hP, hD, hS⟩) (fun hn => ?_)
      first | exact absurd hz hn | exact absurd hn hz | exact absurd (Int32.not_lt.mp hz) hn
    · have hz : ¬ _ := fun q => by cases (as_cmp hc hx2 hy).mp q
      refine lv_if_le hx hb hdg ht (fun hn => ?_) (fun _ => hN _ _ _ _ _ _ h ad ws H locs lv ls _ ⟨hcs, hex, had, hl, hlo, hst, hw, hP, hD, hS⟩)
      first | exact absurd hn hz | exact absurd (Int32.not_lt.mpr hn) hz

theorem as_ifi (hE : ∀ k, E k = .null ∨ ∃ q, E k = .ref q) (hF : ag_F XS dC dI dT A me d q p R s m args meth c) (hN : ag_N E dC dI dT A me p l e R s m args below meth c Q ad0 K res) {cnd : ClassFile.Cond} {off : Int} {tg : Nat} (ht : (pc : Int) + off = (tg : Int)) (hdg : decode me.2.1 pc = .ok (.if_icmp cnd off, 3)) (h : ae_i2 st (fun a b r => ae_br (ae_cmp cnd a b) (K tg lo r w cs sl) (K (pc + 3) lo r w cs sl)) = some res) : ag_H E dC dI dT A me p l e R s m args below meth c Q ad0 pc lo st w cs sl := by
  intro ad ws H locs lv ls stv hat
  obtain ⟨hcs, hex, had, hl, hlo, hst, hw, hP, hD, hS⟩ := hat
  obtain ⟨hx, hb, hml, hown, hts, hK, hA, hlk, hret, hnm, hR1, hR2, hR3, hR4, hXS⟩ := hF
  obtain ⟨a, b, r, e0, h0⟩ := ae_i2_inv h
  clear h
  subst e0
  have h := h0
  obtain ⟨v1, r1, rfl, ⟨y, rfl, hy⟩, hst0⟩ := ag_S_cons hst
  clear hst
  have hst := hst0
  clear hst0
  obtain ⟨v2, r2, rfl, ⟨x, rfl, hx2⟩, hst0⟩ := ag_S_cons hst
  clear hst
  have hst := hst0
  clear hst0
  cases cnd with
  | eq =>
    rcases ae_br_inv h with ⟨hc, h⟩ | ⟨hc, h⟩
    · have hz := (as_cmp hc hx2 hy).mpr rfl
      refine lv_icmp_eq hx hb hdg ht (fun _ => hN _ _ _ _ _ _ h ad ws H locs lv ls _ ⟨hcs, hex, had, hl, hlo, hst, hw, hP, hD, hS⟩) (fun hn => ?_)
      first | exact absurd hz hn | exact absurd hn hz | exact absurd (Int32.not_lt.mp hz) hn
    · have hz : ¬ _ := fun q => by cases (as_cmp hc hx2 hy).mp q
      refine lv_icmp_eq hx hb hdg ht (fun hn => ?_) (fun _ => hN _ _ _ _ _ _ h ad ws H locs lv ls _ ⟨hcs, hex, had, hl, hlo, hst, hw, hP, hD, hS⟩)
      first | exact absurd hn hz | exact absurd (Int32.not_lt.mpr hn) hz
  | ne =>
    rcases ae_br_inv h with ⟨hc, h⟩ | ⟨hc, h⟩
    · have hz := (as_cmp hc hx2 hy).mpr rfl
      refine lv_icmp_ne hx hb hdg ht (fun _ => hN _ _ _ _ _ _ h ad ws H locs lv ls _ ⟨hcs, hex, had, hl, hlo, hst, hw, hP, hD, hS⟩) (fun hn => ?_)
      first | exact absurd hz hn | exact absurd hn hz | exact absurd (Int32.not_lt.mp hz) hn
    · have hz : ¬ _ := fun q => by cases (as_cmp hc hx2 hy).mp q
      refine lv_icmp_ne hx hb hdg ht (fun hn => ?_) (fun _ => hN _ _ _ _ _ _ h ad ws H locs lv ls _ ⟨hcs, hex, had, hl, hlo, hst, hw, hP, hD, hS⟩)
      first | exact absurd hn hz | exact absurd (Int32.not_lt.mpr hn) hz
  | lt =>
    rcases ae_br_inv h with ⟨hc, h⟩ | ⟨hc, h⟩
    · have hz := (as_cmp hc hx2 hy).mpr rfl
      refine lv_icmp_lt hx hb hdg ht (fun _ => hN _ _ _ _ _ _ h ad ws H locs lv ls _ ⟨hcs, hex, had, hl, hlo, hst, hw, hP, hD, hS⟩) (fun hn => ?_)
      first | exact absurd hz hn | exact absurd hn hz | exact absurd (Int32.not_lt.mp hz) hn
    · have hz : ¬ _ := fun q => by cases (as_cmp hc hx2 hy).mp q
      refine lv_icmp_lt hx hb hdg ht (fun hn => ?_) (fun _ => hN _ _ _ _ _ _ h ad ws H locs lv ls _ ⟨hcs, hex, had, hl, hlo, hst, hw, hP, hD, hS⟩)
      first | exact absurd hn hz | exact absurd (Int32.not_lt.mpr hn) hz
  | ge =>
    rcases ae_br_inv h with ⟨hc, h⟩ | ⟨hc, h⟩
    · have hz := (as_cmp hc hx2 hy).mpr rfl
      refine lv_icmp_ge hx hb hdg ht (fun _ => hN _ _ _ _ _ _ h ad ws H locs lv ls _ ⟨hcs, hex, had, hl, hlo, hst, hw, hP, hD, hS⟩) (fun hn => ?_)
      first | exact absurd hz hn | exact absurd hn hz | exact absurd (Int32.not_lt.mp hz) hn
    · have hz : ¬ _ := fun q => by cases (as_cmp hc hx2 hy).mp q
      refine lv_icmp_ge hx hb hdg ht (fun hn => ?_) (fun _ => hN _ _ _ _ _ _ h ad ws H locs lv ls _ ⟨hcs, hex, had, hl, hlo, hst, hw, hP, hD, hS⟩)
      first | exact absurd hn hz | exact absurd (Int32.not_lt.mpr hn) hz
  | gt =>
    rcases ae_br_inv h with ⟨hc, h⟩ | ⟨hc, h⟩
    · have hz := (as_cmp hc hx2 hy).mpr rfl
      refine lv_icmp_gt hx hb hdg ht (fun _ => hN _ _ _ _ _ _ h ad ws H locs lv ls _ ⟨hcs, hex, had, hl, hlo, hst, hw, hP, hD, hS⟩) (fun hn => ?_)
      first | exact absurd hz hn | exact absurd hn hz | exact absurd (Int32.not_lt.mp hz) hn
    · have hz : ¬ _ := fun q => by cases (as_cmp hc hx2 hy).mp q
      refine lv_icmp_gt hx hb hdg ht (fun hn => ?_) (fun _ => hN _ _ _ _ _ _ h ad ws H locs lv ls _ ⟨hcs, hex, had, hl, hlo, hst, hw, hP, hD, hS⟩)
      first | exact absurd hn hz | exact absurd (Int32.not_lt.mpr hn) hz
  | le =>
    rcases ae_br_inv h with ⟨hc, h⟩ | ⟨hc, h⟩
    · have hz := (as_cmp hc hx2 hy).mpr rfl
      refine lv_icmp_le hx hb hdg ht (fun _ => hN _ _ _ _ _ _ h ad ws H locs lv ls _ ⟨hcs, hex, had, hl, hlo, hst, hw, hP, hD, hS⟩) (fun hn => ?_)
      first | exact absurd hz hn | exact absurd hn hz | exact absurd (Int32.not_lt.mp hz) hn
    · have hz : ¬ _ := fun q => by cases (as_cmp hc hx2 hy).mp q
      refine lv_icmp_le hx hb hdg ht (fun hn => ?_) (fun _ => hN _ _ _ _ _ _ h ad ws H locs lv ls _ ⟨hcs, hex, had, hl, hlo, hst, hw, hP, hD, hS⟩)
      first | exact absurd hn hz | exact absurd (Int32.not_lt.mpr hn) hz

theorem as_ifnn (hE : ∀ k, E k = .null ∨ ∃ q, E k = .ref q) (hF : ag_F XS dC dI dT A me d q p R s m args meth c) (hN : ag_N E dC dI dT A me p l e R s m args below meth c Q ad0 K res) {off : Int} {tg : Nat} (hE0 : E 0 = .null) (ht : (pc : Int) + off = (tg : Int)) (hdg : decode me.2.1 pc = .ok (.ifnonnull off, 3)) (h : ae_al st (fun _ r => K tg lo r w cs sl) (fun k r => ae_if (Nat.beq k 0) (K (pc + 3) lo r w cs sl)) = some res) : ag_H E dC dI dT A me p l e R s m args below meth c Q ad0 pc lo st w cs sl := by
  intro ad ws H locs lv ls stv hat
  obtain ⟨hcs, hex, had, hl, hlo, hst, hw, hP, hD, hS⟩ := hat
  obtain ⟨hx, hb, hml, hown, hts, hK, hA, hlk, hret, hnm, hR1, hR2, hR3, hR4, hXS⟩ := hF
  rcases ae_al_inv h with ⟨i, r, e0, h0⟩ | ⟨i, r, e0, h0⟩ <;> clear h <;> subst e0 <;> have h := h0
  · obtain ⟨v1, r1, rfl, ⟨q1, hq1, rfl⟩, hst0⟩ := ag_S_cons hst
    clear hst
    have hst := hst0
    clear hst0
    exact lv_ifnonnull hx hb hdg ht (hN _ _ _ _ _ _ h ad ws H locs lv ls _ ⟨hcs, hex, had, hl, hlo, hst, hw, hP, hD, hS⟩)
  · obtain ⟨hc, h⟩ := ae_if_inv h
    have hi := ae_beq hc
    subst hi
    obtain ⟨v1, r1, rfl, hv, hst0⟩ := ag_S_cons hst
    clear hst
    have hst := hst0
    clear hst0
    have hv : v1 = .null := hE0 ▸ hv
    subst hv
    exact lv_ifnonnullN hx hb hdg (hN _ _ _ _ _ _ h ad ws H locs lv ls _ ⟨hcs, hex, had, hl, hlo, hst, hw, hP, hD, hS⟩)

theorem as_tsw (hE : ∀ k, E k = .null ∨ ∃ q, E k = .ref q) (hF : ag_F XS dC dI dT A me d q p R s m args meth c) (hN : ag_N E dC dI dT A me p l e R s m args below meth c Q ad0 K res) {dflt lw hi : Int} {offs : Array Int} {len : Nat} (hdg : decode me.2.1 pc = .ok (.tableswitch dflt lw hi offs, len)) (h : ae_i1 st (fun a r => ae_sw pc dflt lw hi offs a (fun tg => K tg lo r w cs sl)) = some res) : ag_H E dC dI dT A me p l e R s m args below meth c Q ad0 pc lo st w cs sl := by
  intro ad ws H locs lv ls stv hat
  obtain ⟨hcs, hex, had, hl, hlo, hst, hw, hP, hD, hS⟩ := hat
  obtain ⟨hx, hb, hml, hown, hts, hK, hA, hlk, hret, hnm, hR1, hR2, hR3, hR4, hXS⟩ := hF
  obtain ⟨a, r, e0, h0⟩ := ae_i1_inv h
  clear h
  subst e0
  have h := h0
  obtain ⟨v1, r1, rfl, ⟨x, rfl, hx2⟩, hst0⟩ := ag_S_cons hst
  clear hst
  have hst := hst0
  clear hst0
  have hbd := ag_Ib hx2
  unfold ae_sw at h
  by_cases c1 : (ae_bd a).2 < lw ∨ hi < (ae_bd a).1
  · have e1 : (decide ((ae_bd a).2 < lw) || decide (hi < (ae_bd a).1)) = true := by simpa using c1
    rw [e1] at h
    by_cases c2 : (pc : Int) + dflt = (((pc : Int) + dflt).toNat : Int)
    · rw [decide_eq_true c2] at h
      have h : K ((pc : Int) + dflt).toNat lo r w cs sl = some res := h
      exact lv_tableOut hx hb hdg (by omega) c2 (hN _ _ _ _ _ _ h ad ws H locs lv ls _ ⟨hcs, hex, had, hl, hlo, hst, hw, hP, hD, hS⟩)
    · rw [decide_eq_false c2] at h
      cases h
  · have e1 : (decide ((ae_bd a).2 < lw) || decide (hi < (ae_bd a).1)) = false := by simpa using c1
    rw [e1] at h
    cases a with
    | inr z => cases h
    | inl n =>
      obtain ⟨o, ho, h⟩ := ae_some_inv h
      have hxn : x = nI n := hx2
      cases hcc : (!(decide ((nI n).toInt < lw)) && (!(decide (hi < (nI n).toInt)) && decide ((pc : Int) + o = (((pc : Int) + o).toNat : Int)))) with
      | false => rw [hcc] at h; cases h
      | true =>
        rw [hcc] at h
        obtain ⟨g1, g2⟩ := ae_and hcc
        obtain ⟨g2, g3⟩ := ae_and g2
        have h : K ((pc : Int) + o).toNat lo r w cs sl = some res := h
        refine lv_tableIn hx hb hdg (off := o) (by rw [hxn]; simpa using g1) (by rw [hxn]; simpa using g2) (by rw [hxn]; simpa using ho) (of_decide_eq_true g3) (hN _ _ _ _ _ _ h ad ws H locs lv ls _ ⟨hcs, hex, had, hl, hlo, hst, hw, hP, hD, hS⟩)

end SOUND
