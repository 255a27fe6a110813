/-! ===== runs and methods ===== -/
theorem ag_ofW {l : Launch} {y : MethodName} {ws ws' : List Cond} {rm : Room} {Pc : Array Value → State → Prop} {Qc : Array Value → State → Outcome → State → Prop} {mc ms : Nat} {free : Addr → Prop} {cc : ByteArray} {maxL : Nat} {ret : Option FieldType} (hy : plainFor y = true) (hw : ws = Cond.code y cc maxL ret :: ws')
    (body : ∀ p e s m args below meth c s₁, BodyLoose p l y (headSpec ws rm) cc maxL ret e s m args below meth c s₁ → c.maxLocals = maxL → Pc args s → W p l e (headSpec ws rm).room s m args below meth c s.heap [] 0 0 (MQ below Qc args s mc ms free) (entryFrame m args maxL)) : Met l y ws rm Pc Qc mc ms free := by
  refine MetFree.of_bodySF (code := cc) (maxLocals := maxL) (ret := ret) hy ?_ ?_
  · intro args s m h hn
    obtain ⟨meth, c, h1, h2, h3, h4, h5, h6, -, -⟩ := Cond.code_spec hn (atoms_spec (ws := ws) h _ (by rw [hw]; exact List.mem_cons_self))
    exact ⟨meth, c, h1, h2, h3, h4, h5, h6⟩
  · intro p e s m args below meth c s₁ B hml hP _
    obtain ⟨t, a1, o, b1, b2, b3⟩ := body p e s m args below meth c s₁ B hml hP s₁ (by rw [B.state]; rfl) (Stand.of_body B)
    exact ⟨t, o, a1, b1, b2, ⟨b3.1, b3.2⟩⟩
def ag_tab : Prop := ∀ me ∈ ae_MT, plainFor me.1 = true ∧ ∀ (pc : Nat) (ie : ae_E), (ae_il me)[pc]? = some (some ie) → ae_okm me pc ie = true
section RUNS
variable {adK adV : Nat → Nat} {b L : Nat} {xs : Nat → Int32} {dC : Nat → ClassId} {dI : Nat → Nat → Nat} {dT : Nat → ClassId} {XA : List ae_I}
/-- a step of the table, macro or not -/
theorem ag_one (hT : ag_tab) {A : Nat → Prop} {me : ae_M} {d q : Nat} {p : Program} {l : Launch} {e : Env} {R : Room} {s : State} {m : MethodId} {args : Array Value} {below : List Frame} {meth : Method} {c : Code} {Q : State → Prop} {ad0 : List Nat} {K : ae_K} {res : ae_R} {pc : Nat} {lo : ae_L} {st : List ae_V} {w : List ae_C} {cs sl : Nat} {CF : ae_F} (hm : me ∈ ae_MT)
    (hF : ag_F (ag_X adK adV b L xs) dC dI dT A me d q p R s m args meth c) (hN : ag_N (ag_E adK b) dC dI dT A me p l e R s m args below meth c Q ad0 K res) (hXA : ag_sc (ag_E adK b) A s XA) (hMet : ag_Met ae_MT (ag_X adK adV b L xs) (ag_E adK b) dC dI dT l CF) (hfin : ag_fin (ag_E adK b) dC dI dT A me p l e R s m args below meth c Q ad0 res)
    (h : ae_some (ae_nth (ae_il me) pc) (fun oie => ae_some oie (fun ie => cond (Nat.beq ie.2.2.2.2.1 77777) (ae_macro K ie pc lo st w cs sl) (ae_step ae_MT ae_DF ae_TY ae_SN XA CF d q me K ie pc lo st w cs sl))) = some res) : ag_H (ag_E adK b) dC dI dT A me p l e R s m args below meth c Q ad0 pc lo st w cs sl := by
  obtain ⟨oie, hoie, h1⟩ := ae_some_inv h
  clear h
  obtain ⟨ie, hie, h2⟩ := ae_some_inv h1
  clear h1
  subst hie
  have h := h2
  clear h2
  rw [ae_nth_eq] at hoie
  have hok := (hT me hm).2 pc ie hoie
  unfold ae_okm at hok
  cases hb : Nat.beq ie.2.2.2.2.1 77777 with
  | true =>
    rw [hb] at hok h
    obtain ⟨g1, hok⟩ := ae_and hok
    obtain ⟨g2, hok⟩ := ae_and hok
    obtain ⟨g3, hok⟩ := ae_and hok
    obtain ⟨g4, hok⟩ := ae_and hok
    obtain ⟨g5, g6⟩ := ae_and hok
    have g4 := ae_beq g4
    subst g4
    have g1 := of_decide_eq_true g1
    exact as_macro (pc := 2) (ag_E_ok adK b) hF hN (of_decide_eq_true g2) (by rw [g1]; rfl) (ae_blt g3) (ae_beq g5) (ae_beq g6) h
  | false =>
    rw [hb] at hok h
    exact as_step hF hN hXA hMet hfin hok h
theorem ag_X_sc {A : Nat → Prop} {s : State} (hXA : (XA = [] ∨ XA.length = L) ∧ L ≤ 256 ∧ ∀ (j : Nat) (a : ae_I), XA[j]? = some a → ag_I a (xs j)) (h : ag_X adK adV b L xs A s) : ag_sc (ag_E adK b) A s XA :=
  ⟨b, L, xs, rfl, h.2.2.2.2.2.2.1, h.2.2.2.2.2.2.2.1, h.2.2.2.2.2.2.2.2.1, hXA.1, hXA.2.1, hXA.2.2⟩
def ag_snd (XA : List ae_I) (adK adV : Nat → Nat) (b L : Nat) (xs : Nat → Int32) (dC : Nat → ClassId) (dI : Nat → Nat → Nat) (dT : Nat → ClassId) (n : Nat) : Prop :=
  ∀ (d q : Nat) (me : ae_M), me ∈ ae_MT → ∀ (pc : Nat) (lo : ae_L) (st : List ae_V) (w : List ae_C) (cs sl : Nat) (res : ae_R), ae_run ae_MT ae_DF ae_TY ae_SN XA n d q me pc lo st w cs sl = some res → ∀ (A : Nat → Prop) (p : Program) (l : Launch) (e : Env) (R : Room) (s : State) (m : MethodId) (args : Array Value) (below : List Frame) (meth : Method) (c : Code) (Q : State → Prop) (ad0 : List Nat),
    ag_F (ag_X adK adV b L xs) dC dI dT A me d q p R s m args meth c → ag_fin (ag_E adK b) dC dI dT A me p l e R s m args below meth c Q ad0 res → ag_H (ag_E adK b) dC dI dT A me p l e R s m args below meth c Q ad0 pc lo st w cs sl
noncomputable abbrev ag_CF (XA : List ae_I) (n : Nat) : ae_F := fun d q me as w => ae_args as 0 (fun lo => ae_run ae_MT ae_DF ae_TY ae_SN XA n d q me 0 lo [] w 0 0)
theorem ag_metOf (hT : ag_tab) {n : Nat} (ih : ag_snd XA adK adV b L xs dC dI dT n) (l : Launch) : ag_Met ae_MT (ag_X adK adV b L xs) (ag_E adK b) dC dI dT l (ag_CF XA n) := by
  intro mid d q me as w r hcf hmt hwd avs ad ws sz had has hw
  have hE := ag_E_ok adK b
  have hm : me ∈ ae_MT := List.mem_of_getElem? hmt
  obtain ⟨lo, hlo1, hlo2⟩ := ae_args_eq as 0
  have hcf : ae_args as 0 (fun lo => ae_run ae_MT ae_DF ae_TY ae_SN XA n d q me 0 lo [] w 0 0) = some r := hcf
  rw [hlo1] at hcf
  refine ag_ofW (cc := me.2.1) (maxL := ae_mL me) (ret := ae_mR me) (hT me hm).1 rfl ?_
  intro p e s m args below meth c s₁ B hml hv
  obtain ⟨rfl, hsz, hP, hK, hD0, hXS⟩ := hv
  have hts := atoms_spec (ws := ag_ws me) B.pre
  have hown : s.vm.findClass me.1.cls = some m.cls := findClass_of_methodNamed B.named
  have hnm := (name_of_methodNamed B.named B.method).1
  subst hsz
  have hD := hD0.self (sz := s.heap.size)
  have hl := lv_entry avs (n := ae_mL me) (by rw [ag_sl hE has]; exact hwd)
  rw [lg_entry_eq]
  refine ih d q me hm 0 lo [] w 0 0 r hcf (va_A ws s.heap.size) p l e _ s m _ below meth c _ ad ⟨B.exec, B.bytes, hml, hown, fun w h => hts w (List.mem_cons_of_mem _ h), hK, fun z h => Or.inr h, B.notSynchronized, B.returns, fun h9 => hnm.trans h9, rfl, rfl, rfl, rfl, hXS⟩ ?_ ad ws s.heap [] _ _ [] ⟨⟨Nat.zero_le _, Nat.zero_le _⟩, ⟨[], by rw [List.append_nil]⟩, had, hl, hlo2 _ _ _ hE has, trivial, hw, hP, hD, va_S.rf⟩
  intro ins pc ls stv ad' ws' H locs cs sl hdg hrt hcs hex had' hw' hP' hD' hS'
  obtain ⟨x, rfl⟩ := hex
  refine W.widen (k := ae_mc me) (n := ae_ms me) hcs.1 hcs.2 ?_
  have hlocks := B.notSynchronized
  rcases hrt with ⟨rfl, hr, hrv, rfl⟩ | ⟨rfl, a, z, ty, hrv, rfl, hz, hr, hn⟩ | ⟨rfl, a, z, hrv, rfl, hz, hr⟩ | ⟨rfl, a, v, rt, hrv, rfl, hv, hnr, hr, hrt⟩
  · exact W.vret B.exec B.bytes (B.returns.trans hr) (fun t ht hW => ⟨⟨none, x, ws', rfl, had', by rw [hrv]; trivial, hw', by rw [ht]; exact hP', hD'⟩, hS'.F ht⟩) hS'.2.2 hdg
  · exact W.zret B.exec B.bytes (B.returns.trans hr) hn (fun t ht hW => ⟨⟨some (.int z), x, ws', rfl, had', by rw [hrv]; exact ⟨z, rfl, hz⟩, hw', by rw [ht]; exact hP', hD'⟩, hS'.F ht⟩) hS'.2.2 hdg
  · exact W.lret B.exec B.bytes (B.returns.trans hr) (fun t ht hW => ⟨⟨some (.long z), x, ws', rfl, had', by rw [hrv]; exact ⟨z, rfl, hz⟩, hw', by rw [ht]; exact hP', hD'⟩, hS'.F ht⟩) hS'.2.2 hdg
  · exact W.aret B.exec B.bytes (B.returns.trans hr) hrt hnr (fun t ht hW => ⟨⟨some v, x, ws', rfl, had', by rw [hrv]; exact hv, hw', by rw [ht]; exact hP', hD'⟩, hS'.F ht⟩) hS'.2.2 hdg
theorem ag_run (hT : ag_tab) (hXA : (XA = [] ∨ XA.length = L) ∧ L ≤ 256 ∧ ∀ (j : Nat) (a : ae_I), XA[j]? = some a → ag_I a (xs j)) : ∀ n : Nat, ag_snd XA adK adV b L xs dC dI dT n := by
  intro n
  induction n with
  | zero =>
    intro d q me hm pc lo st w cs sl res h
    cases h
  | succ n ih =>
    intro d q me hm pc lo st w cs sl res h A p l e R s m args below meth c Q ad0 hF hfin
    have hXS : ag_X adK adV b L xs A s := hF.2.2.2.2.2.2.2.2.2.2.2.2.2.2
    exact ag_one hT (CF := ag_CF XA n) hm hF (fun pc lo st w cs sl h => ih d q me hm pc lo st w cs sl res h A p l e R s m args below meth c Q ad0 hF hfin) (ag_X_sc hXA hXS) (ag_metOf hT ih l) hfin h
end RUNS
