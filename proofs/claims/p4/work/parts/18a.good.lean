/-! ===== places in a method: what is reached from there, whatever the machine; the rules, an instruction each ===== -/
abbrev cg_V : Type := (Nat → Nat) × ((Nat → Nat) × (Nat × (Nat × ((Nat → Int32) × ((Nat → ClassId) × ((Nat → Nat → Nat) × ((Nat → ClassId) × Launch)))))))
abbrev cg_X (V : cg_V) : (Nat → Prop) → State → Prop := ag_X V.1 V.2.1 V.2.2.1 V.2.2.2.1 V.2.2.2.2.1
abbrev cg_E (V : cg_V) : Nat → Value := ag_E V.1 V.2.2.1
abbrev cg_C (V : cg_V) : Nat → ClassId := V.2.2.2.2.2.1
abbrev cg_D (V : cg_V) : Nat → Nat → Nat := V.2.2.2.2.2.2.1
abbrev cg_T (V : cg_V) : Nat → ClassId := V.2.2.2.2.2.2.2.1
abbrev cg_l (V : cg_V) : Launch := V.2.2.2.2.2.2.2.2
def cg_xa (V : cg_V) : List ae_I := (List.range V.2.2.2.1).map (fun j => (.inl (ae_c (V.2.2.2.2.1 j)) : ae_I))
def vI (x : Int) : ae_V := .inl (.inl (ae_c (Int32.ofInt x)))
def vL (x : Int) : ae_V := .inr (.inl (.inl (ae_d (Int64.ofInt x))))
def vR (i : Nat) : ae_V := .inr (.inr (.inl i))
def vE (k : Nat) : ae_V := .inr (.inr (.inr k))
def cg_Q (V : cg_V) (A : Nat → Prop) (ad : List Nat) (Rs : ae_R → Prop) : Array Value → State → Outcome → State → Prop := fun a st oc t => ∃ r, Rs r ∧ ag_Qc (cg_E V) (cg_C V) (cg_D V) (cg_T V) A ad r a st oc t
/-- a method's contract: from these values and this world it comes back with one of Rs -/
def cg_S (V : cg_V) (d q : Nat) (me : ae_M) (as : List ae_V) (w : List ae_C) (Rs : ae_R → Prop) : Prop :=
  ag_tab → V.2.2.2.1 ≤ 256 → ∀ (avs : List Value) (ad : List Nat) (ws : va_W) (sz : Nat), ws.map Prod.fst = ad → ag_S (cg_E V) ad as avs → ag_W (cg_E V) (cg_T V) ad w ws →
    Met (cg_l V) me.1 (ag_ws me) (ag_rm me d q) (ag_Pc (cg_X V) (cg_C V) (cg_D V) (cg_T V) avs ws sz) (cg_Q V (va_A ws sz) ad Rs) (ae_mc me) (ae_ms me) (va_A ws sz)
def cg_G (V : cg_V) (me : ae_M) (d q : Nat) (Rs : ae_R → Prop) (pc : Nat) (lo : ae_L) (st : List ae_V) (w : List ae_C) (cs sl : Nat) : Prop :=
  ag_tab → me ∈ ae_MT → V.2.2.2.1 ≤ 256 → ∀ (A : Nat → Prop) (p : Program) (e : Env) (R : Room) (s : State) (m : MethodId) (args : Array Value) (below : List Frame) (meth : Method) (c : Code) (Q : State → Prop) (ad0 : List Nat),
    ag_F (cg_X V) (cg_C V) (cg_D V) (cg_T V) A me d q p R s m args meth c → (∀ r, Rs r → ag_fin (cg_E V) (cg_C V) (cg_D V) (cg_T V) A me p (cg_l V) e R s m args below meth c Q ad0 r) → ag_H (cg_E V) (cg_C V) (cg_D V) (cg_T V) A me p (cg_l V) e R s m args below meth c Q ad0 pc lo st w cs sl
noncomputable def cg_at (me : ae_M) (pc : Nat) : Option ae_E := match ae_nth (ae_il me) pc with
  | some (some ie) => cond (Nat.beq ie.2.2.2.2.1 77777) none (some ie)
  | _ => none
noncomputable def cg_ind (P : Nat → ae_L → List ae_V → List ae_C → Nat → Nat → Prop) (res : ae_R) : ae_K := fun pc lo st w cs sl => @ite _ (P pc lo st w cs sl) (Classical.propDecidable _) (some res) none
theorem cg_pos {P : Nat → ae_L → List ae_V → List ae_C → Nat → Nat → Prop} {res : ae_R} {pc : Nat} {lo : ae_L} {st : List ae_V} {w : List ae_C} {cs sl : Nat} (h : P pc lo st w cs sl) : cg_ind P res pc lo st w cs sl = some res := by
  unfold cg_ind
  rw [if_pos h]
theorem cg_inv {P : Nat → ae_L → List ae_V → List ae_C → Nat → Nat → Prop} {res : ae_R} {pc : Nat} {lo : ae_L} {st : List ae_V} {w : List ae_C} {cs sl : Nat} (h : cg_ind P res pc lo st w cs sl = some res) : P pc lo st w cs sl := by
  unfold cg_ind at h
  by_cases hp : P pc lo st w cs sl
  · exact hp
  · rw [if_neg hp] at h
    cases h
/-- an answer that no return gives -/
def cg_du (me : ae_M) : ae_R := (match ae_mR me with
  | none => some (.inl (.inl 0))
  | some _ => none, [])
section GOOD
variable {V : cg_V} {me : ae_M} {d q : Nat} {Rs : ae_R → Prop} {pc nx i1 i2 i3 pos : Nat} {lo lo' : ae_L} {st : List ae_V} {w : List ae_C} {cs sl : Nat}
theorem cg_du_fin {E : Nat → Value} {dC : Nat → ClassId} {dI : Nat → Nat → Nat} {dT : Nat → ClassId} {A : Nat → Prop} {p : Program} {l : Launch} {e : Env} {R : Room} {s : State} {m : MethodId} {args : Array Value} {below : List Frame} {meth : Method} {c : Code} {Q : State → Prop} {ad0 : List Nat} : ag_fin E dC dI dT A me p l e R s m args below meth c Q ad0 (cg_du me) := by
  intro ins pc ls stv ad ws H locs cs sl hdg hrt
  exfalso
  unfold ag_rt cg_du at hrt
  cases hr : ae_mR me with
  | none =>
    rw [hr] at hrt
    rcases hrt with ⟨_, _, h, _⟩ | ⟨_, _, _, _, _, _, _, h, _⟩ | ⟨_, _, _, _, _, _, h⟩ | ⟨_, _, _, _, _, _, _, _, h, _⟩ <;> cases h
  | some ty =>
    rw [hr] at hrt
    rcases hrt with ⟨_, h, _, _⟩ | ⟨_, _, _, _, h, _⟩ | ⟨_, _, _, h, _⟩ | ⟨_, _, _, _, h, _⟩ <;> cases h
theorem cg_xa_ok (hL : V.2.2.2.1 ≤ 256) : (cg_xa V = [] ∨ (cg_xa V).length = V.2.2.2.1) ∧ V.2.2.2.1 ≤ 256 ∧ ∀ (j : Nat) (a : ae_I), (cg_xa V)[j]? = some a → ag_I a (V.2.2.2.2.1 j) := by
  refine ⟨Or.inr (by simp [cg_xa]), hL, ?_⟩
  intro j a h
  unfold cg_xa at h
  rw [List.getElem?_map] at h
  by_cases hj : j < V.2.2.2.1
  · rw [List.getElem?_range hj] at h
    have h : (.inl (ae_c (V.2.2.2.2.1 j)) : ae_I) = a := by simpa using h
    rw [← h]
    show _ = nI (ae_c _)
    rw [ae_c_eq]
  · rw [List.getElem?_eq_none (by simpa using hj)] at h
    simp at h
theorem cg_at_nth {ie : ae_E} (hi : cg_at me pc = some ie) : (ae_il me)[pc]? = some (some ie) ∧ Nat.beq ie.2.2.2.2.1 77777 = false := by
  unfold cg_at at hi
  rw [ae_nth_eq] at hi
  split at hi
  · rename_i ie' h
    cases hb : Nat.beq ie'.2.2.2.2.1 77777 with
    | true => rw [hb] at hi; cases hi
    | false =>
      rw [hb] at hi
      cases hi
      exact ⟨h, hb⟩
  · cases hi
theorem cg_ok {ie : ae_E} (hi : cg_at me pc = some ie) (hT : ag_tab) (hm : me ∈ ae_MT) : ae_ok ae_MT ae_MP ae_SI me pc ie = true := by
  obtain ⟨h1, h2⟩ := cg_at_nth hi
  have hok := (hT me hm).2 pc ie h1
  unfold ae_okm at hok
  rw [h2] at hok
  exact hok
theorem cg_none {XS : (Nat → Prop) → State → Prop} {E : Nat → Value} {dC : Nat → ClassId} {dI : Nat → Nat → Nat} {dT : Nat → ClassId} {l : Launch} : ag_Met ae_MT XS E dC dI dT l (fun _ _ _ _ _ => none) := by
  intro mid d q me as w r h
  cases h
noncomputable abbrev cg_st (V : cg_V) (me : ae_M) (d q : Nat) (K : ae_K) (ie : ae_E) : ae_K := ae_step ae_MT ae_DF ae_TY ae_SN (cg_xa V) (fun _ _ _ _ _ => none) d q me K ie
theorem cg_step {ie : ae_E} (hi : cg_at me pc = some ie) (h : cg_st V me d q (cg_ind (cg_G V me d q Rs) (cg_du me)) ie pc lo st w cs sl = some (cg_du me)) : cg_G V me d q Rs pc lo st w cs sl := by
  intro hT hm hL A p e R s m args below meth c Q ad0 hF hfin
  have hok := cg_ok hi hT hm
  have hXS : cg_X V A s := hF.2.2.2.2.2.2.2.2.2.2.2.2.2.2
  exact as_step hF (fun pc lo st w cs sl hk => cg_inv (P := cg_G V me d q Rs) hk hT hm hL A p e R s m args below meth c Q ad0 hF hfin) (ag_X_sc (cg_xa_ok hL) hXS) cg_none cg_du_fin hok h
theorem cg_ret {ie : ae_E} {r : ae_R} (hi : cg_at me pc = some ie) (hr : Rs r) (h : cg_st V me d q (fun _ _ _ _ _ _ => none) ie pc lo st w cs sl = some r) : cg_G V me d q Rs pc lo st w cs sl := by
  intro hT hm hL A p e R s m args below meth c Q ad0 hF hfin
  have hok := cg_ok hi hT hm
  have hXS : cg_X V A s := hF.2.2.2.2.2.2.2.2.2.2.2.2.2.2
  exact as_step hF (fun pc lo st w cs sl hk => by cases hk) (ag_X_sc (cg_xa_ok hL) hXS) cg_none (hfin r hr) hok h
-- a method's entry
def cg_lo : List ae_V → Nat → ae_L
  | [], _ => []
  | v :: l, i => (i, v) :: cg_lo l (i + ae_w1 v)
theorem cg_lo_ok {E : Nat → Value} {ad : List Nat} (hE : ∀ k, E k = .null ∨ ∃ q, E k = .ref q) : ∀ (l : List ae_V) (i : Nat) (m : List Value), ag_S E ad l m → ag_L E ad (cg_lo l i) (lv_args i m)
  | [], i, m, h => by
    rw [ag_S_nil h]
    trivial
  | a :: l, i, m, h => by
    obtain ⟨v, r, rfl, hv, hr⟩ := ag_S_cons h
    have hc := ag_cat hE hv
    refine ⟨⟨rfl, hv⟩, ?_⟩
    show ag_L E ad (cg_lo l (i + ae_w1 a)) (lv_args (if v.category = 2 then i + 2 else i + 1) r)
    have e : (if v.category = 2 then i + 2 else i + 1) = i + ae_w1 a := by
      rw [hc]
      unfold ae_w1
      cases ae_cat2 a <;> rfl
    rw [e]
    exact cg_lo_ok hE l (i + ae_w1 a) r hr
theorem cg_of {as : List ae_V} (hm : me ∈ ae_MT) (hwd : ae_wd as ≤ ae_mL me) (h : cg_G V me d q Rs 0 (cg_lo as 0) [] w 0 0) : cg_S V d q me as w Rs := by
  intro hT hL avs ad ws sz had has hw
  have hE := ag_E_ok V.1 V.2.2.1
  refine ag_ofW (cc := me.2.1) (maxL := ae_mL me) (ret := ae_mR me) (hT me hm).1 rfl ?_
  intro p e s m args below meth c s₁ B hml hv
  obtain ⟨rfl, hsz, hP, hK, hD0, hXS⟩ := hv
  have hts := atoms_spec (ws := ag_ws me) B.pre
  have hown : s.vm.findClass me.1.cls = some m.cls := findClass_of_methodNamed B.named
  have hnm := (name_of_methodNamed B.named B.method).1
  subst hsz
  have hD := hD0.self (sz := s.heap.size)
  have hl := lv_entry avs (n := ae_mL me) (by rw [ag_sl hE has]; exact hwd)
  rw [lg_entry_eq]
  refine h hT hm hL (va_A ws s.heap.size) p e _ s m _ below meth c _ ad ⟨B.exec, B.bytes, hml, hown, fun w h => hts w (List.mem_cons_of_mem _ h), hK, fun z h => Or.inr h, B.notSynchronized, B.returns, fun h9 => hnm.trans h9, rfl, rfl, rfl, rfl, hXS⟩ ?_ ad ws s.heap [] _ _ [] ⟨⟨Nat.zero_le _, Nat.zero_le _⟩, ⟨[], by rw [List.append_nil]⟩, had, hl, cg_lo_ok hE _ _ _ has, trivial, hw, hP, hD, va_S.rf⟩
  intro r hr ins pc ls stv ad' ws' H locs cs sl hdg hrt hcs hex had' hw' hP' hD' hS'
  obtain ⟨x, rfl⟩ := hex
  refine W.widen (k := ae_mc me) (n := ae_ms me) hcs.1 hcs.2 ?_
  have hlocks := B.notSynchronized
  rcases hrt with ⟨rfl, hr1, hrv, rfl⟩ | ⟨rfl, a, z, ty, hrv, rfl, hz, hr1, hn⟩ | ⟨rfl, a, z, hrv, rfl, hz, hr1⟩ | ⟨rfl, a, v, rt, hrv, rfl, hv, hnr, hr1, hrt⟩
  · exact W.vret B.exec B.bytes (B.returns.trans hr1) (fun t ht hW => ⟨r, hr, ⟨none, x, ws', rfl, had', by rw [hrv]; trivial, hw', by rw [ht]; exact hP', hD'⟩, hS'.F ht⟩) hS'.2.2 hdg
  · exact W.zret B.exec B.bytes (B.returns.trans hr1) hn (fun t ht hW => ⟨r, hr, ⟨some (.int z), x, ws', rfl, had', by rw [hrv]; exact ⟨z, rfl, hz⟩, hw', by rw [ht]; exact hP', hD'⟩, hS'.F ht⟩) hS'.2.2 hdg
  · exact W.lret B.exec B.bytes (B.returns.trans hr1) (fun t ht hW => ⟨r, hr, ⟨some (.long z), x, ws', rfl, had', by rw [hrv]; exact ⟨z, rfl, hz⟩, hw', by rw [ht]; exact hP', hD'⟩, hS'.F ht⟩) hS'.2.2 hdg
  · exact W.aret B.exec B.bytes (B.returns.trans hr1) hrt hnr (fun t ht hW => ⟨r, hr, ⟨some v, x, ws', rfl, had', by rw [hrv]; exact hv, hw', by rw [ht]; exact hP', hD'⟩, hS'.F ht⟩) hS'.2.2 hdg
-- numbers
theorem iN (n : Nat) : nI n = Int32.ofInt (n : Int) := Int32.ofInt_eq_ofNat.symm
theorem i_c (x : Int32) : Int32.ofInt x.toInt = x := Int32.ofInt_toInt x
theorem i_t {x : Int} (h1 : -2147483648 ≤ x) (h2 : x < 2147483648) : (Int32.ofInt x).toInt = x := Int32.toInt_ofInt_of_le (by omega) (by omega)
theorem l_t {x : Int} (h1 : -9223372036854775808 ≤ x) (h2 : x < 9223372036854775808) : (Int64.ofInt x).toInt = x := Int64.toInt_ofInt_of_le (by omega) (by omega)
theorem i_lt {x y : Int} (h1 : -2147483648 ≤ x) (h2 : x < 2147483648) (h3 : -2147483648 ≤ y) (h4 : y < 2147483648) : Int32.ofInt x < Int32.ofInt y ↔ x < y := by
  rw [Int32.lt_iff_toInt_lt, i_t h1 h2, i_t h3 h4]
theorem i_eq {x y : Int} (h1 : -2147483648 ≤ x) (h2 : x < 2147483648) (h3 : -2147483648 ≤ y) (h4 : y < 2147483648) : Int32.ofInt x = Int32.ofInt y ↔ x = y := by
  rw [← Int32.toInt_inj, i_t h1 h2, i_t h3 h4]
theorem l_lt {x y : Int} (h1 : -9223372036854775808 ≤ x) (h2 : x < 9223372036854775808) (h3 : -9223372036854775808 ≤ y) (h4 : y < 9223372036854775808) : Int64.ofInt x < Int64.ofInt y ↔ x < y := by
  rw [Int64.lt_iff_toInt_lt, l_t h1 h2, l_t h3 h4]
theorem l_eq {x y : Int} (h1 : -9223372036854775808 ≤ x) (h2 : x < 9223372036854775808) (h3 : -9223372036854775808 ≤ y) (h4 : y < 9223372036854775808) : Int64.ofInt x = Int64.ofInt y ↔ x = y := by
  rw [← Int64.toInt_inj, l_t h1 h2, l_t h3 h4]
theorem i_ix {x : Int} (h1 : 0 ≤ x) (h2 : x < 2147483648) : ae_c (Int32.ofInt x) = x.toNat := by
  obtain ⟨n, rfl⟩ := Int.eq_ofNat_of_zero_le h1
  rw [Int32.ofInt_eq_ofNat]
  show (nI n).toBitVec.toNat = _
  rw [pk_tn (by omega)]
  rfl
theorem g_iconst {n : Int} (hi : cg_at me pc = some (.iconst n, nx, i1, i2, i3, pos)) (k : cg_G V me d q Rs nx lo (vI n :: st) w cs sl) : cg_G V me d q Rs pc lo st w cs sl := by
  refine cg_step hi ?_
  show ae_n (ae_c (Int32.ofInt n)) (fun z => cg_ind (cg_G V me d q Rs) (cg_du me) nx lo (.inl (.inl z) :: st) w cs sl) = _
  rw [ae_n_eq]
  exact cg_pos k
theorem g_bipush {n : Int} (hv : (Int8.ofInt n).toInt32 = Int32.ofInt n) (hi : cg_at me pc = some (.bipush n, nx, i1, i2, i3, pos)) (k : cg_G V me d q Rs nx lo (vI n :: st) w cs sl) : cg_G V me d q Rs pc lo st w cs sl := by
  refine cg_step hi ?_
  show ae_n (ae_c (Int8.ofInt n).toInt32) (fun z => cg_ind (cg_G V me d q Rs) (cg_du me) nx lo (.inl (.inl z) :: st) w cs sl) = _
  rw [ae_n_eq, hv]
  exact cg_pos k
theorem g_sipush {n : Int} (hv : (Int16.ofInt n).toInt32 = Int32.ofInt n) (hi : cg_at me pc = some (.sipush n, nx, i1, i2, i3, pos)) (k : cg_G V me d q Rs nx lo (vI n :: st) w cs sl) : cg_G V me d q Rs pc lo st w cs sl := by
  refine cg_step hi ?_
  show ae_n (ae_c (Int16.ofInt n).toInt32) (fun z => cg_ind (cg_G V me d q Rs) (cg_du me) nx lo (.inl (.inl z) :: st) w cs sl) = _
  rw [ae_n_eq, hv]
  exact cg_pos k
theorem g_lconst {n : Fin 2} {x : Int} (hv : Int64.ofNat n.val = Int64.ofInt x) (hi : cg_at me pc = some (.lconst n, nx, i1, i2, i3, pos)) (k : cg_G V me d q Rs nx lo (vL x :: st) w cs sl) : cg_G V me d q Rs pc lo st w cs sl := by
  refine cg_step hi ?_
  show ae_n (ae_d (Int64.ofNat n.val)) (fun z => cg_ind (cg_G V me d q Rs) (cg_du me) nx lo (.inr (.inl (.inl z)) :: st) w cs sl) = _
  rw [ae_n_eq, hv]
  exact cg_pos k
theorem g_null (hi : cg_at me pc = some (.aconst_null, nx, i1, i2, i3, pos)) (k : cg_G V me d q Rs nx lo (vE 0 :: st) w cs sl) : cg_G V me d q Rs pc lo st w cs sl := by
  refine cg_step hi ?_
  exact cg_pos k
theorem g_ldci {n : Nat} {x : Int} (hz : i1 = 0) (hv : ae_c (Int32.ofInt x) = i2) (hi : cg_at me pc = some (.ldc n, nx, i1, i2, i3, pos)) (k : cg_G V me d q Rs nx lo (vI x :: st) w cs sl) : cg_G V me d q Rs pc lo st w cs sl := by
  refine cg_step hi ?_
  subst hz
  subst hv
  exact cg_pos k
theorem g_ldcs {n k9 : Nat} (hz : i1 = 1) (hv : i2 = k9) (hi : cg_at me pc = some (.ldc n, nx, i1, i2, i3, pos)) (k : cg_G V me d q Rs nx lo (vE (k9 + 2) :: st) w cs sl) : cg_G V me d q Rs pc lo st w cs sl := by
  refine cg_step hi ?_
  subst hz
  subst hv
  exact cg_pos k
theorem g_ldc2 {n : Nat} {x : Int} (hv : ae_d (Int64.ofInt x) = i1) (hi : cg_at me pc = some (.ldc2_w n, nx, i1, i2, i3, pos)) (k : cg_G V me d q Rs nx lo (vL x :: st) w cs sl) : cg_G V me d q Rs pc lo st w cs sl := by
  refine cg_step hi ?_
  subst hv
  exact cg_pos k
theorem g_iload_n {n : Fin 4} {x : Int} (hg : ae_get lo n.val = some (vI x)) (hi : cg_at me pc = some (.iload_n n, nx, i1, i2, i3, pos)) (k : cg_G V me d q Rs nx lo (vI x :: st) w cs sl) : cg_G V me d q Rs pc lo st w cs sl := by
  refine cg_step hi ?_
  show ae_li1 (ae_get lo n.val) _ = _
  rw [hg]
  exact cg_pos k
theorem g_iload {n : Nat} {x : Int} (hg : ae_get lo n = some (vI x)) (hi : cg_at me pc = some (.iload n, nx, i1, i2, i3, pos)) (k : cg_G V me d q Rs nx lo (vI x :: st) w cs sl) : cg_G V me d q Rs pc lo st w cs sl := by
  refine cg_step hi ?_
  show ae_li1 (ae_get lo n) _ = _
  rw [hg]
  exact cg_pos k
theorem g_lload_n {n : Fin 4} {x : Int} (hg : ae_get lo n.val = some (vL x)) (hi : cg_at me pc = some (.lload_n n, nx, i1, i2, i3, pos)) (k : cg_G V me d q Rs nx lo (vL x :: st) w cs sl) : cg_G V me d q Rs pc lo st w cs sl := by
  refine cg_step hi ?_
  show ae_ll1 (ae_get lo n.val) _ = _
  rw [hg]
  exact cg_pos k
theorem g_lload {n : Nat} {x : Int} (hg : ae_get lo n = some (vL x)) (hi : cg_at me pc = some (.lload n, nx, i1, i2, i3, pos)) (k : cg_G V me d q Rs nx lo (vL x :: st) w cs sl) : cg_G V me d q Rs pc lo st w cs sl := by
  refine cg_step hi ?_
  show ae_ll1 (ae_get lo n) _ = _
  rw [hg]
  exact cg_pos k
theorem g_aload_n {n : Fin 4} {a : Nat ⊕ Nat} (hg : ae_get lo n.val = some (.inr (.inr a))) (hi : cg_at me pc = some (.aload_n n, nx, i1, i2, i3, pos)) (k : cg_G V me d q Rs nx lo (.inr (.inr a) :: st) w cs sl) : cg_G V me d q Rs pc lo st w cs sl := by
  refine cg_step hi ?_
  show ae_la1 (ae_get lo n.val) _ = _
  rw [hg]
  exact cg_pos k
theorem g_aload {n : Nat} {a : Nat ⊕ Nat} (hg : ae_get lo n = some (.inr (.inr a))) (hi : cg_at me pc = some (.aload n, nx, i1, i2, i3, pos)) (k : cg_G V me d q Rs nx lo (.inr (.inr a) :: st) w cs sl) : cg_G V me d q Rs pc lo st w cs sl := by
  refine cg_step hi ?_
  show ae_la1 (ae_get lo n) _ = _
  rw [hg]
  exact cg_pos k
theorem g_istore_n {n : Fin 4} {x : Int} (hf : lo.filter (ae_keep1 n.val) = lo') (hi : cg_at me pc = some (.istore_n n, nx, i1, i2, i3, pos)) (k : cg_G V me d q Rs nx ((n.val, vI x) :: lo') st w cs sl) : cg_G V me d q Rs pc lo (vI x :: st) w cs sl := by
  refine cg_step hi ?_
  show ae_fil (ae_keep1 n.val) lo _ = _
  rw [ae_fil_eq, hf]
  exact cg_pos k
theorem g_istore {n : Nat} {x : Int} (hf : lo.filter (ae_keep1 n) = lo') (hi : cg_at me pc = some (.istore n, nx, i1, i2, i3, pos)) (k : cg_G V me d q Rs nx ((n, vI x) :: lo') st w cs sl) : cg_G V me d q Rs pc lo (vI x :: st) w cs sl := by
  refine cg_step hi ?_
  show ae_fil (ae_keep1 n) lo _ = _
  rw [ae_fil_eq, hf]
  exact cg_pos k
theorem g_lstore_n {n : Fin 4} {x : Int} (hf : lo.filter (ae_keep2 n.val) = lo') (hi : cg_at me pc = some (.lstore_n n, nx, i1, i2, i3, pos)) (k : cg_G V me d q Rs nx ((n.val, vL x) :: lo') st w cs sl) : cg_G V me d q Rs pc lo (vL x :: st) w cs sl := by
  refine cg_step hi ?_
  show ae_fil (ae_keep2 n.val) lo _ = _
  rw [ae_fil_eq, hf]
  exact cg_pos k
theorem g_lstore {n : Nat} {x : Int} (hf : lo.filter (ae_keep2 n) = lo') (hi : cg_at me pc = some (.lstore n, nx, i1, i2, i3, pos)) (k : cg_G V me d q Rs nx ((n, vL x) :: lo') st w cs sl) : cg_G V me d q Rs pc lo (vL x :: st) w cs sl := by
  refine cg_step hi ?_
  show ae_fil (ae_keep2 n) lo _ = _
  rw [ae_fil_eq, hf]
  exact cg_pos k
theorem g_astore_n {n : Fin 4} {i : Nat} (hf : lo.filter (ae_keep1 n.val) = lo') (hi : cg_at me pc = some (.astore_n n, nx, i1, i2, i3, pos)) (k : cg_G V me d q Rs nx ((n.val, vR i) :: lo') st w cs sl) : cg_G V me d q Rs pc lo (vR i :: st) w cs sl := by
  refine cg_step hi ?_
  show ae_fil (ae_keep1 n.val) lo _ = _
  rw [ae_fil_eq, hf]
  exact cg_pos k
theorem g_astore {n : Nat} {i : Nat} (hf : lo.filter (ae_keep1 n) = lo') (hi : cg_at me pc = some (.astore n, nx, i1, i2, i3, pos)) (k : cg_G V me d q Rs nx ((n, vR i) :: lo') st w cs sl) : cg_G V me d q Rs pc lo (vR i :: st) w cs sl := by
  refine cg_step hi ?_
  show ae_fil (ae_keep1 n) lo _ = _
  rw [ae_fil_eq, hf]
  exact cg_pos k
theorem g_iinc {n : Nat} {x c : Int} (hg : ae_get lo n = some (vI x)) (hf : lo.filter (ae_keep1 n) = lo') (hi : cg_at me pc = some (.iinc n c, nx, i1, i2, i3, pos)) (k : cg_G V me d q Rs nx ((n, vI (x + c)) :: lo') st w cs sl) : cg_G V me d q Rs pc lo st w cs sl := by
  refine cg_step hi ?_
  show ae_li1 (ae_get lo n) _ = _
  rw [hg]
  show ae_n (ae_c (nI (ae_c (Int32.ofInt x)) + Int32.ofInt c)) (fun z => ae_fil (ae_keep1 n) lo (fun lo' => cg_ind (cg_G V me d q Rs) (cg_du me) nx ((n, .inl (.inl z)) :: lo') st w cs sl)) = _
  rw [ae_n_eq, ae_fil_eq, hf, ae_c_eq, ← Int32.ofInt_add]
  exact cg_pos k
theorem g_iadd {x y : Int} (hi : cg_at me pc = some (.iadd, nx, i1, i2, i3, pos)) (k : cg_G V me d q Rs nx lo (vI (x + y) :: st) w cs sl) : cg_G V me d q Rs pc lo (vI y :: vI x :: st) w cs sl := by
  refine cg_step hi ?_
  show ae_n (ae_c (nI (ae_c (Int32.ofInt x)) + nI (ae_c (Int32.ofInt y)))) (fun z => cg_ind (cg_G V me d q Rs) (cg_du me) nx lo (.inl (.inl z) :: st) w cs sl) = _
  rw [ae_n_eq, ae_c_eq, ae_c_eq, ← Int32.ofInt_add]
  exact cg_pos k
theorem g_isub {x y : Int} (hi : cg_at me pc = some (.isub, nx, i1, i2, i3, pos)) (k : cg_G V me d q Rs nx lo (vI (x - y) :: st) w cs sl) : cg_G V me d q Rs pc lo (vI y :: vI x :: st) w cs sl := by
  refine cg_step hi ?_
  show ae_n (ae_c (nI (ae_c (Int32.ofInt x)) - nI (ae_c (Int32.ofInt y)))) (fun z => cg_ind (cg_G V me d q Rs) (cg_du me) nx lo (.inl (.inl z) :: st) w cs sl) = _
  rw [ae_n_eq, ae_c_eq, ae_c_eq, ← Int32.ofInt_sub]
  exact cg_pos k
theorem g_imul {x y : Int} (hi : cg_at me pc = some (.imul, nx, i1, i2, i3, pos)) (k : cg_G V me d q Rs nx lo (vI (x * y) :: st) w cs sl) : cg_G V me d q Rs pc lo (vI y :: vI x :: st) w cs sl := by
  refine cg_step hi ?_
  show ae_n (ae_c (nI (ae_c (Int32.ofInt x)) * nI (ae_c (Int32.ofInt y)))) (fun z => cg_ind (cg_G V me d q Rs) (cg_du me) nx lo (.inl (.inl z) :: st) w cs sl) = _
  rw [ae_n_eq, ae_c_eq, ae_c_eq, ← Int32.ofInt_mul]
  exact cg_pos k
theorem g_ladd {x y : Int} (hi : cg_at me pc = some (.ladd, nx, i1, i2, i3, pos)) (k : cg_G V me d q Rs nx lo (vL (x + y) :: st) w cs sl) : cg_G V me d q Rs pc lo (vL y :: vL x :: st) w cs sl := by
  refine cg_step hi ?_
  show ae_n (ae_d (lN (ae_d (Int64.ofInt x)) + lN (ae_d (Int64.ofInt y)))) (fun z => cg_ind (cg_G V me d q Rs) (cg_du me) nx lo (.inr (.inl (.inl z)) :: st) w cs sl) = _
  rw [ae_n_eq, ae_d_eq, ae_d_eq, ← Int64.ofInt_add]
  exact cg_pos k
theorem g_lmul {x y : Int} (hi : cg_at me pc = some (.lmul, nx, i1, i2, i3, pos)) (k : cg_G V me d q Rs nx lo (vL (x * y) :: st) w cs sl) : cg_G V me d q Rs pc lo (vL y :: vL x :: st) w cs sl := by
  refine cg_step hi ?_
  show ae_n (ae_d (lN (ae_d (Int64.ofInt x)) * lN (ae_d (Int64.ofInt y)))) (fun z => cg_ind (cg_G V me d q Rs) (cg_du me) nx lo (.inr (.inl (.inl z)) :: st) w cs sl) = _
  rw [ae_n_eq, ae_d_eq, ae_d_eq, ← Int64.ofInt_mul]
  exact cg_pos k
theorem g_iand {x y : Int} (hi : cg_at me pc = some (.iand, nx, i1, i2, i3, pos)) (k : ∀ z : Int, z = ((Int32.ofInt x) &&& (Int32.ofInt y) : Int32).toInt → -2147483648 ≤ z → z < 2147483648 → cg_G V me d q Rs nx lo (vI z :: st) w cs sl) : cg_G V me d q Rs pc lo (vI y :: vI x :: st) w cs sl := by
  refine cg_step hi ?_
  show ae_n (ae_c ((nI (ae_c (Int32.ofInt x))) &&& (nI (ae_c (Int32.ofInt y))) : Int32)) (fun z => cg_ind (cg_G V me d q Rs) (cg_du me) nx lo (.inl (.inl z) :: st) w cs sl) = _
  rw [ae_n_eq, ae_c_eq, ae_c_eq]
  have h := k _ rfl (by simpa using Int32.le_toInt _) (by simpa using Int32.toInt_lt _)
  unfold vI at h
  rw [Int32.ofInt_toInt] at h
  exact cg_pos h
theorem g_ior {x y : Int} (hi : cg_at me pc = some (.ior, nx, i1, i2, i3, pos)) (k : ∀ z : Int, z = ((Int32.ofInt x) ||| (Int32.ofInt y) : Int32).toInt → -2147483648 ≤ z → z < 2147483648 → cg_G V me d q Rs nx lo (vI z :: st) w cs sl) : cg_G V me d q Rs pc lo (vI y :: vI x :: st) w cs sl := by
  refine cg_step hi ?_
  show ae_n (ae_c ((nI (ae_c (Int32.ofInt x))) ||| (nI (ae_c (Int32.ofInt y))) : Int32)) (fun z => cg_ind (cg_G V me d q Rs) (cg_du me) nx lo (.inl (.inl z) :: st) w cs sl) = _
  rw [ae_n_eq, ae_c_eq, ae_c_eq]
  have h := k _ rfl (by simpa using Int32.le_toInt _) (by simpa using Int32.toInt_lt _)
  unfold vI at h
  rw [Int32.ofInt_toInt] at h
  exact cg_pos h
theorem g_ixor {x y : Int} (hi : cg_at me pc = some (.ixor, nx, i1, i2, i3, pos)) (k : ∀ z : Int, z = ((Int32.ofInt x) ^^^ (Int32.ofInt y) : Int32).toInt → -2147483648 ≤ z → z < 2147483648 → cg_G V me d q Rs nx lo (vI z :: st) w cs sl) : cg_G V me d q Rs pc lo (vI y :: vI x :: st) w cs sl := by
  refine cg_step hi ?_
  show ae_n (ae_c ((nI (ae_c (Int32.ofInt x))) ^^^ (nI (ae_c (Int32.ofInt y))) : Int32)) (fun z => cg_ind (cg_G V me d q Rs) (cg_du me) nx lo (.inl (.inl z) :: st) w cs sl) = _
  rw [ae_n_eq, ae_c_eq, ae_c_eq]
  have h := k _ rfl (by simpa using Int32.le_toInt _) (by simpa using Int32.toInt_lt _)
  unfold vI at h
  rw [Int32.ofInt_toInt] at h
  exact cg_pos h
theorem g_ishl {x y : Int} (hi : cg_at me pc = some (.ishl, nx, i1, i2, i3, pos)) (k : ∀ z : Int, z = ((Int32.ofInt x) <<< ((Int32.ofInt y) &&& 31) : Int32).toInt → -2147483648 ≤ z → z < 2147483648 → cg_G V me d q Rs nx lo (vI z :: st) w cs sl) : cg_G V me d q Rs pc lo (vI y :: vI x :: st) w cs sl := by
  refine cg_step hi ?_
  show ae_n (ae_c ((nI (ae_c (Int32.ofInt x))) <<< ((nI (ae_c (Int32.ofInt y))) &&& 31) : Int32)) (fun z => cg_ind (cg_G V me d q Rs) (cg_du me) nx lo (.inl (.inl z) :: st) w cs sl) = _
  rw [ae_n_eq, ae_c_eq, ae_c_eq]
  have h := k _ rfl (by simpa using Int32.le_toInt _) (by simpa using Int32.toInt_lt _)
  unfold vI at h
  rw [Int32.ofInt_toInt] at h
  exact cg_pos h
theorem g_ishr {x y : Int} (hi : cg_at me pc = some (.ishr, nx, i1, i2, i3, pos)) (k : ∀ z : Int, z = ((Int32.ofInt x) >>> ((Int32.ofInt y) &&& 31) : Int32).toInt → -2147483648 ≤ z → z < 2147483648 → cg_G V me d q Rs nx lo (vI z :: st) w cs sl) : cg_G V me d q Rs pc lo (vI y :: vI x :: st) w cs sl := by
  refine cg_step hi ?_
  show ae_n (ae_c ((nI (ae_c (Int32.ofInt x))) >>> ((nI (ae_c (Int32.ofInt y))) &&& 31) : Int32)) (fun z => cg_ind (cg_G V me d q Rs) (cg_du me) nx lo (.inl (.inl z) :: st) w cs sl) = _
  rw [ae_n_eq, ae_c_eq, ae_c_eq]
  have h := k _ rfl (by simpa using Int32.le_toInt _) (by simpa using Int32.toInt_lt _)
  unfold vI at h
  rw [Int32.ofInt_toInt] at h
  exact cg_pos h
theorem g_iushr {x y : Int} (hi : cg_at me pc = some (.iushr, nx, i1, i2, i3, pos)) (k : ∀ z : Int, z = (((Int32.ofInt x).toUInt32 >>> ((Int32.ofInt y).toUInt32 &&& Int32.toUInt32 31)).toInt32 : Int32).toInt → -2147483648 ≤ z → z < 2147483648 → cg_G V me d q Rs nx lo (vI z :: st) w cs sl) : cg_G V me d q Rs pc lo (vI y :: vI x :: st) w cs sl := by
  refine cg_step hi ?_
  show ae_n (ae_c (((nI (ae_c (Int32.ofInt x))).toUInt32 >>> ((nI (ae_c (Int32.ofInt y))).toUInt32 &&& Int32.toUInt32 31)).toInt32 : Int32)) (fun z => cg_ind (cg_G V me d q Rs) (cg_du me) nx lo (.inl (.inl z) :: st) w cs sl) = _
  rw [ae_n_eq, ae_c_eq, ae_c_eq]
  have h := k _ rfl (by simpa using Int32.le_toInt _) (by simpa using Int32.toInt_lt _)
  unfold vI at h
  rw [Int32.ofInt_toInt] at h
  exact cg_pos h
theorem g_land {x y : Int} (hi : cg_at me pc = some (.land, nx, i1, i2, i3, pos)) (k : ∀ z : Int, z = ((Int64.ofInt x) &&& (Int64.ofInt y) : Int64).toInt → -9223372036854775808 ≤ z → z < 9223372036854775808 → cg_G V me d q Rs nx lo (vL z :: st) w cs sl) : cg_G V me d q Rs pc lo (vL y :: vL x :: st) w cs sl := by
  refine cg_step hi ?_
  show ae_n (ae_d ((lN (ae_d (Int64.ofInt x))) &&& (lN (ae_d (Int64.ofInt y))) : Int64)) (fun z => cg_ind (cg_G V me d q Rs) (cg_du me) nx lo (.inr (.inl (.inl z)) :: st) w cs sl) = _
  rw [ae_n_eq, ae_d_eq, ae_d_eq]
  have h := k _ rfl (by simpa using Int64.le_toInt _) (by simpa using Int64.toInt_lt _)
  unfold vL at h
  rw [Int64.ofInt_toInt] at h
  exact cg_pos h
theorem g_lor {x y : Int} (hi : cg_at me pc = some (.lor, nx, i1, i2, i3, pos)) (k : ∀ z : Int, z = ((Int64.ofInt x) ||| (Int64.ofInt y) : Int64).toInt → -9223372036854775808 ≤ z → z < 9223372036854775808 → cg_G V me d q Rs nx lo (vL z :: st) w cs sl) : cg_G V me d q Rs pc lo (vL y :: vL x :: st) w cs sl := by
  refine cg_step hi ?_
  show ae_n (ae_d ((lN (ae_d (Int64.ofInt x))) ||| (lN (ae_d (Int64.ofInt y))) : Int64)) (fun z => cg_ind (cg_G V me d q Rs) (cg_du me) nx lo (.inr (.inl (.inl z)) :: st) w cs sl) = _
  rw [ae_n_eq, ae_d_eq, ae_d_eq]
  have h := k _ rfl (by simpa using Int64.le_toInt _) (by simpa using Int64.toInt_lt _)
  unfold vL at h
  rw [Int64.ofInt_toInt] at h
  exact cg_pos h
theorem g_lshl {x y : Int} (hi : cg_at me pc = some (.lshl, nx, i1, i2, i3, pos)) (k : ∀ z : Int, z = (Int64.ofInt x <<< ((Int32.ofInt y).toInt64 &&& 63) : Int64).toInt → -9223372036854775808 ≤ z → z < 9223372036854775808 → cg_G V me d q Rs nx lo (vL z :: st) w cs sl) : cg_G V me d q Rs pc lo (vI y :: vL x :: st) w cs sl := by
  refine cg_step hi ?_
  show ae_n (ae_d (lN (ae_d (Int64.ofInt x)) <<< ((nI (ae_c (Int32.ofInt y))).toInt64 &&& 63) : Int64)) (fun z => cg_ind (cg_G V me d q Rs) (cg_du me) nx lo (.inr (.inl (.inl z)) :: st) w cs sl) = _
  rw [ae_n_eq, ae_d_eq, ae_c_eq]
  have h := k _ rfl (by simpa using Int64.le_toInt _) (by simpa using Int64.toInt_lt _)
  unfold vL at h
  rw [Int64.ofInt_toInt] at h
  exact cg_pos h
theorem g_lshr {x y : Int} (hi : cg_at me pc = some (.lshr, nx, i1, i2, i3, pos)) (k : ∀ z : Int, z = (Int64.ofInt x >>> ((Int32.ofInt y).toInt64 &&& 63) : Int64).toInt → -9223372036854775808 ≤ z → z < 9223372036854775808 → cg_G V me d q Rs nx lo (vL z :: st) w cs sl) : cg_G V me d q Rs pc lo (vI y :: vL x :: st) w cs sl := by
  refine cg_step hi ?_
  show ae_n (ae_d (lN (ae_d (Int64.ofInt x)) >>> ((nI (ae_c (Int32.ofInt y))).toInt64 &&& 63) : Int64)) (fun z => cg_ind (cg_G V me d q Rs) (cg_du me) nx lo (.inr (.inl (.inl z)) :: st) w cs sl) = _
  rw [ae_n_eq, ae_d_eq, ae_c_eq]
  have h := k _ rfl (by simpa using Int64.le_toInt _) (by simpa using Int64.toInt_lt _)
  unfold vL at h
  rw [Int64.ofInt_toInt] at h
  exact cg_pos h
theorem i_div {x y : Int} (h1 : -2147483648 < x) (h2 : x < 2147483648) (h3 : -2147483648 ≤ y) (h4 : y < 2147483648) : Int32.ofInt x / Int32.ofInt y = Int32.ofInt (x.tdiv y) := by
  apply Int32.toInt_inj.mp
  rw [Int32.toInt_div_of_ne_left, i_t (by omega) h2, i_t h3 h4]
  · have := Int.natAbs_tdiv_le_natAbs x y
    rw [i_t (by omega) (by omega)]
  · intro h
    have h := congrArg Int32.toInt h
    rw [i_t (by omega) h2] at h
    have e : Int32.minValue.toInt = -2147483648 := by decide
    omega
theorem l_div {x y : Int} (h1 : -9223372036854775808 < x) (h2 : x < 9223372036854775808) (h3 : -9223372036854775808 ≤ y) (h4 : y < 9223372036854775808) : Int64.ofInt x / Int64.ofInt y = Int64.ofInt (x.tdiv y) := by
  apply Int64.toInt_inj.mp
  rw [Int64.toInt_div_of_ne_left, l_t (by omega) h2, l_t h3 h4]
  · have := Int.natAbs_tdiv_le_natAbs x y
    rw [l_t (by omega) (by omega)]
  · intro h
    have h := congrArg Int64.toInt h
    rw [l_t (by omega) h2] at h
    have e : Int64.minValue.toInt = -9223372036854775808 := by decide
    omega
theorem i_ne {y : Int} (h0 : y ≠ 0) (h3 : -2147483648 ≤ y) (h4 : y < 2147483648) : ¬ Int32.ofInt y = 0 := by
  intro h
  have h := congrArg Int32.toInt h
  rw [i_t h3 h4] at h
  exact h0 h
theorem l_ne {y : Int} (h0 : y ≠ 0) (h3 : -9223372036854775808 ≤ y) (h4 : y < 9223372036854775808) : ¬ Int64.ofInt y = 0 := by
  intro h
  have h := congrArg Int64.toInt h
  rw [l_t h3 h4] at h
  exact h0 h
theorem g_idiv {x y : Int} (h1 : -2147483648 < x) (h2 : x < 2147483648) (h0 : y ≠ 0) (h3 : -2147483648 ≤ y) (h4 : y < 2147483648) (hi : cg_at me pc = some (.idiv, nx, i1, i2, i3, pos)) (k : cg_G V me d q Rs nx lo (vI (x.tdiv y) :: st) w cs sl) : cg_G V me d q Rs pc lo (vI y :: vI x :: st) w cs sl := by
  refine cg_step hi ?_
  show cond (decide (nI (ae_c (Int32.ofInt y)) = 0)) none (ae_n (ae_c (nI (ae_c (Int32.ofInt x)) / nI (ae_c (Int32.ofInt y)))) (fun z => cg_ind (cg_G V me d q Rs) (cg_du me) nx lo (.inl (.inl z) :: st) w cs sl)) = _
  rw [ae_c_eq, ae_c_eq, decide_eq_false (i_ne h0 h3 h4)]
  rw [cond_false, ae_n_eq, i_div h1 h2 h3 h4]
  exact cg_pos k
theorem g_irem {x y : Int} (h1 : -2147483648 < x) (h2 : x < 2147483648) (h0 : y ≠ 0) (h3 : -2147483648 ≤ y) (h4 : y < 2147483648) (hi : cg_at me pc = some (.irem, nx, i1, i2, i3, pos)) (k : cg_G V me d q Rs nx lo (vI (x.tmod y) :: st) w cs sl) : cg_G V me d q Rs pc lo (vI y :: vI x :: st) w cs sl := by
  refine cg_step hi ?_
  show cond (decide (nI (ae_c (Int32.ofInt y)) = 0)) none (ae_n (ae_c (nI (ae_c (Int32.ofInt x)) - nI (ae_c (Int32.ofInt x)) / nI (ae_c (Int32.ofInt y)) * nI (ae_c (Int32.ofInt y)))) (fun z => cg_ind (cg_G V me d q Rs) (cg_du me) nx lo (.inl (.inl z) :: st) w cs sl)) = _
  rw [ae_c_eq, ae_c_eq, decide_eq_false (i_ne h0 h3 h4)]
  rw [cond_false, ae_n_eq, i_div h1 h2 h3 h4, ← Int32.ofInt_mul, ← Int32.ofInt_sub]
  have e9 : x - x.tdiv y * y = x.tmod y := by rw [Int.mul_comm, Int.tmod_def]
  rw [e9]
  exact cg_pos k
theorem g_ldiv {x y : Int} (h1 : -9223372036854775808 < x) (h2 : x < 9223372036854775808) (h0 : y ≠ 0) (h3 : -9223372036854775808 ≤ y) (h4 : y < 9223372036854775808) (hi : cg_at me pc = some (.ldiv, nx, i1, i2, i3, pos)) (k : cg_G V me d q Rs nx lo (vL (x.tdiv y) :: st) w cs sl) : cg_G V me d q Rs pc lo (vL y :: vL x :: st) w cs sl := by
  refine cg_step hi ?_
  show cond (decide (lN (ae_d (Int64.ofInt y)) = 0)) none (ae_n (ae_d (lN (ae_d (Int64.ofInt x)) / lN (ae_d (Int64.ofInt y)))) (fun z => cg_ind (cg_G V me d q Rs) (cg_du me) nx lo (.inr (.inl (.inl z)) :: st) w cs sl)) = _
  rw [ae_d_eq, ae_d_eq, decide_eq_false (l_ne h0 h3 h4)]
  rw [cond_false, ae_n_eq, l_div h1 h2 h3 h4]
  exact cg_pos k
theorem g_lrem {x y : Int} (h1 : -9223372036854775808 < x) (h2 : x < 9223372036854775808) (h0 : y ≠ 0) (h3 : -9223372036854775808 ≤ y) (h4 : y < 9223372036854775808) (hi : cg_at me pc = some (.lrem, nx, i1, i2, i3, pos)) (k : cg_G V me d q Rs nx lo (vL (x.tmod y) :: st) w cs sl) : cg_G V me d q Rs pc lo (vL y :: vL x :: st) w cs sl := by
  refine cg_step hi ?_
  show cond (decide (lN (ae_d (Int64.ofInt y)) = 0)) none (ae_n (ae_d (lN (ae_d (Int64.ofInt x)) - lN (ae_d (Int64.ofInt x)) / lN (ae_d (Int64.ofInt y)) * lN (ae_d (Int64.ofInt y)))) (fun z => cg_ind (cg_G V me d q Rs) (cg_du me) nx lo (.inr (.inl (.inl z)) :: st) w cs sl)) = _
  rw [ae_d_eq, ae_d_eq, decide_eq_false (l_ne h0 h3 h4)]
  rw [cond_false, ae_n_eq, l_div h1 h2 h3 h4, ← Int64.ofInt_mul, ← Int64.ofInt_sub]
  have e9 : x - x.tdiv y * y = x.tmod y := by rw [Int.mul_comm, Int.tmod_def]
  rw [e9]
  exact cg_pos k
theorem g_i2l {x : Int} (h1 : -2147483648 ≤ x) (h2 : x < 2147483648) (hi : cg_at me pc = some (.i2l, nx, i1, i2, i3, pos)) (k : cg_G V me d q Rs nx lo (vL x :: st) w cs sl) : cg_G V me d q Rs pc lo (vI x :: st) w cs sl := by
  refine cg_step hi ?_
  show ae_n (ae_d (nI (ae_c (Int32.ofInt x))).toInt64) (fun z => cg_ind (cg_G V me d q Rs) (cg_du me) nx lo (.inr (.inl (.inl z)) :: st) w cs sl) = _
  rw [ae_n_eq, ae_c_eq]
  have e : (Int32.ofInt x).toInt64 = Int64.ofInt x := by
    apply Int64.toInt_inj.mp
    rw [Int32.toInt_toInt64, i_t h1 h2, l_t (by omega) (by omega)]
  rw [e]
  exact cg_pos k
theorem g_l2i {x : Int} (hi : cg_at me pc = some (.l2i, nx, i1, i2, i3, pos)) (k : cg_G V me d q Rs nx lo (vI x :: st) w cs sl) : cg_G V me d q Rs pc lo (vL x :: st) w cs sl := by
  refine cg_step hi ?_
  show ae_n (ae_c (lN (ae_d (Int64.ofInt x))).toInt32) (fun z => cg_ind (cg_G V me d q Rs) (cg_du me) nx lo (.inl (.inl z) :: st) w cs sl) = _
  rw [ae_n_eq, ae_d_eq, Int64.toInt32_ofInt]
  exact cg_pos k
theorem g_lcmp {x y : Int} (h1 : -9223372036854775808 ≤ x) (h2 : x < 9223372036854775808) (h3 : -9223372036854775808 ≤ y) (h4 : y < 9223372036854775808) (hi : cg_at me pc = some (.lcmp, nx, i1, i2, i3, pos)) (k : ∀ z : Int, (y < x ∧ z = 1) ∨ (x = y ∧ z = 0) ∨ (x < y ∧ z = -1) → cg_G V me d q Rs nx lo (vI z :: st) w cs sl) : cg_G V me d q Rs pc lo (vL y :: vL x :: st) w cs sl := by
  refine cg_step hi ?_
  show ae_n (ae_c (lg_cmp (lN (ae_d (Int64.ofInt x))) (lN (ae_d (Int64.ofInt y))))) (fun z => cg_ind (cg_G V me d q Rs) (cg_du me) nx lo (.inl (.inl z) :: st) w cs sl) = _
  rw [ae_n_eq, ae_d_eq, ae_d_eq]
  have e := lg_cmp_int (Int64.ofInt x) (Int64.ofInt y)
  rw [l_t h1 h2, l_t h3 h4] at e
  have h := k (lg_cmp (Int64.ofInt x) (Int64.ofInt y)).toInt (by
    rw [e]
    by_cases c1 : y < x
    · exact Or.inl ⟨c1, if_pos c1⟩
    · by_cases c2 : x = y
      · exact Or.inr (Or.inl ⟨c2, by rw [if_neg c1, if_pos c2]⟩)
      · exact Or.inr (Or.inr ⟨by omega, by rw [if_neg c1, if_neg c2]⟩))
  unfold vI at h
  rw [Int32.ofInt_toInt] at h
  exact cg_pos h
theorem g_dup {v : ae_V} (hv : ae_cat2 v = false) (hi : cg_at me pc = some (.dup, nx, i1, i2, i3, pos)) (k : cg_G V me d q Rs nx lo (v :: v :: st) w cs sl) : cg_G V me d q Rs pc lo (v :: st) w cs sl := by
  refine cg_step hi ?_
  show ae_if (!(ae_cat2 v)) _ = _
  rw [hv]
  exact cg_pos k
theorem g_dup2 {v u : ae_V} (hv : ae_cat2 v = false) (hu : ae_cat2 u = false) (hi : cg_at me pc = some (.dup2, nx, i1, i2, i3, pos)) (k : cg_G V me d q Rs nx lo (v :: u :: v :: u :: st) w cs sl) : cg_G V me d q Rs pc lo (v :: u :: st) w cs sl := by
  refine cg_step hi ?_
  show ae_if (!(ae_cat2 v) && !(ae_cat2 u)) _ = _
  rw [hv, hu]
  exact cg_pos k
theorem g_pop {v : ae_V} (hv : ae_cat2 v = false) (hi : cg_at me pc = some (.pop, nx, i1, i2, i3, pos)) (k : cg_G V me d q Rs nx lo st w cs sl) : cg_G V me d q Rs pc lo (v :: st) w cs sl := by
  refine cg_step hi ?_
  show ae_if (!(ae_cat2 v)) _ = _
  rw [hv]
  exact cg_pos k
theorem g_goto {o9 : Int} (hi : cg_at me pc = some (.goto o9, nx, i1, i2, i3, pos)) (k : cg_G V me d q Rs i1 lo st w cs sl) : cg_G V me d q Rs pc lo st w cs sl := cg_step hi (cg_pos k)
theorem g_icmp_eq {x y : Int} {o9 : Int} (h1 : -2147483648 ≤ x) (h2 : x < 2147483648) (h3 : -2147483648 ≤ y) (h4 : y < 2147483648) (hi : cg_at me pc = some (.if_icmp .eq o9, nx, i1, i2, i3, pos)) (kt : x = y → cg_G V me d q Rs i1 lo st w cs sl) (kf : ¬ x = y → cg_G V me d q Rs nx lo st w cs sl) : cg_G V me d q Rs pc lo (vI y :: vI x :: st) w cs sl := by
  refine cg_step hi ?_
  show ae_br (some (decide (nI (ae_c (Int32.ofInt x)) = nI (ae_c (Int32.ofInt y))))) (cg_ind (cg_G V me d q Rs) (cg_du me) i1 lo st w cs sl) (cg_ind (cg_G V me d q Rs) (cg_du me) nx lo st w cs sl) = _
  rw [ae_c_eq, ae_c_eq]
  by_cases hc : x = y
  · rw [decide_eq_true ((i_eq h1 h2 h3 h4).mpr hc)]
    exact cg_pos (kt hc)
  · rw [decide_eq_false (fun h9 => hc ((i_eq h1 h2 h3 h4).mp h9))]
    exact cg_pos (kf hc)
theorem g_if_eq {x : Int} {o9 : Int} (h1 : -2147483648 ≤ x) (h2 : x < 2147483648) (hi : cg_at me pc = some (.ifCond .eq o9, nx, i1, i2, i3, pos)) (kt : x = 0 → cg_G V me d q Rs i1 lo st w cs sl) (kf : ¬ x = 0 → cg_G V me d q Rs nx lo st w cs sl) : cg_G V me d q Rs pc lo (vI x :: st) w cs sl := by
  refine cg_step hi ?_
  show ae_br (some (decide (nI (ae_c (Int32.ofInt x)) = nI 0))) (cg_ind (cg_G V me d q Rs) (cg_du me) i1 lo st w cs sl) (cg_ind (cg_G V me d q Rs) (cg_du me) nx lo st w cs sl) = _
  rw [ae_c_eq, show nI 0 = Int32.ofInt 0 from rfl]
  by_cases hc : x = 0
  · rw [decide_eq_true ((i_eq h1 h2 (by omega) (by omega)).mpr hc)]
    exact cg_pos (kt hc)
  · rw [decide_eq_false (fun h9 => hc ((i_eq h1 h2 (by omega) (by omega)).mp h9))]
    exact cg_pos (kf hc)
theorem g_icmp_ne {x y : Int} {o9 : Int} (h1 : -2147483648 ≤ x) (h2 : x < 2147483648) (h3 : -2147483648 ≤ y) (h4 : y < 2147483648) (hi : cg_at me pc = some (.if_icmp .ne o9, nx, i1, i2, i3, pos)) (kt : ¬ x = y → cg_G V me d q Rs i1 lo st w cs sl) (kf : x = y → cg_G V me d q Rs nx lo st w cs sl) : cg_G V me d q Rs pc lo (vI y :: vI x :: st) w cs sl := by
  refine cg_step hi ?_
  show ae_br (ae_not (some (decide (nI (ae_c (Int32.ofInt x)) = nI (ae_c (Int32.ofInt y)))))) (cg_ind (cg_G V me d q Rs) (cg_du me) i1 lo st w cs sl) (cg_ind (cg_G V me d q Rs) (cg_du me) nx lo st w cs sl) = _
  rw [ae_c_eq, ae_c_eq]
  by_cases hc : x = y
  · rw [decide_eq_true ((i_eq h1 h2 h3 h4).mpr hc)]
    exact cg_pos (kf hc)
  · rw [decide_eq_false (fun h9 => hc ((i_eq h1 h2 h3 h4).mp h9))]
    exact cg_pos (kt hc)
theorem g_if_ne {x : Int} {o9 : Int} (h1 : -2147483648 ≤ x) (h2 : x < 2147483648) (hi : cg_at me pc = some (.ifCond .ne o9, nx, i1, i2, i3, pos)) (kt : ¬ x = 0 → cg_G V me d q Rs i1 lo st w cs sl) (kf : x = 0 → cg_G V me d q Rs nx lo st w cs sl) : cg_G V me d q Rs pc lo (vI x :: st) w cs sl := by
  refine cg_step hi ?_
  show ae_br (ae_not (some (decide (nI (ae_c (Int32.ofInt x)) = nI 0)))) (cg_ind (cg_G V me d q Rs) (cg_du me) i1 lo st w cs sl) (cg_ind (cg_G V me d q Rs) (cg_du me) nx lo st w cs sl) = _
  rw [ae_c_eq, show nI 0 = Int32.ofInt 0 from rfl]
  by_cases hc : x = 0
  · rw [decide_eq_true ((i_eq h1 h2 (by omega) (by omega)).mpr hc)]
    exact cg_pos (kf hc)
  · rw [decide_eq_false (fun h9 => hc ((i_eq h1 h2 (by omega) (by omega)).mp h9))]
    exact cg_pos (kt hc)
theorem g_icmp_lt {x y : Int} {o9 : Int} (h1 : -2147483648 ≤ x) (h2 : x < 2147483648) (h3 : -2147483648 ≤ y) (h4 : y < 2147483648) (hi : cg_at me pc = some (.if_icmp .lt o9, nx, i1, i2, i3, pos)) (kt : x < y → cg_G V me d q Rs i1 lo st w cs sl) (kf : ¬ x < y → cg_G V me d q Rs nx lo st w cs sl) : cg_G V me d q Rs pc lo (vI y :: vI x :: st) w cs sl := by
  refine cg_step hi ?_
  show ae_br (some (decide (nI (ae_c (Int32.ofInt x)) < nI (ae_c (Int32.ofInt y))))) (cg_ind (cg_G V me d q Rs) (cg_du me) i1 lo st w cs sl) (cg_ind (cg_G V me d q Rs) (cg_du me) nx lo st w cs sl) = _
  rw [ae_c_eq, ae_c_eq]
  by_cases hc : x < y
  · rw [decide_eq_true ((i_lt h1 h2 h3 h4).mpr hc)]
    exact cg_pos (kt hc)
  · rw [decide_eq_false (fun h9 => hc ((i_lt h1 h2 h3 h4).mp h9))]
    exact cg_pos (kf hc)
theorem g_if_lt {x : Int} {o9 : Int} (h1 : -2147483648 ≤ x) (h2 : x < 2147483648) (hi : cg_at me pc = some (.ifCond .lt o9, nx, i1, i2, i3, pos)) (kt : x < 0 → cg_G V me d q Rs i1 lo st w cs sl) (kf : ¬ x < 0 → cg_G V me d q Rs nx lo st w cs sl) : cg_G V me d q Rs pc lo (vI x :: st) w cs sl := by
  refine cg_step hi ?_
  show ae_br (some (decide (nI (ae_c (Int32.ofInt x)) < nI 0))) (cg_ind (cg_G V me d q Rs) (cg_du me) i1 lo st w cs sl) (cg_ind (cg_G V me d q Rs) (cg_du me) nx lo st w cs sl) = _
  rw [ae_c_eq, show nI 0 = Int32.ofInt 0 from rfl]
  by_cases hc : x < 0
  · rw [decide_eq_true ((i_lt h1 h2 (by omega) (by omega)).mpr hc)]
    exact cg_pos (kt hc)
  · rw [decide_eq_false (fun h9 => hc ((i_lt h1 h2 (by omega) (by omega)).mp h9))]
    exact cg_pos (kf hc)
theorem g_icmp_ge {x y : Int} {o9 : Int} (h1 : -2147483648 ≤ x) (h2 : x < 2147483648) (h3 : -2147483648 ≤ y) (h4 : y < 2147483648) (hi : cg_at me pc = some (.if_icmp .ge o9, nx, i1, i2, i3, pos)) (kt : ¬ x < y → cg_G V me d q Rs i1 lo st w cs sl) (kf : x < y → cg_G V me d q Rs nx lo st w cs sl) : cg_G V me d q Rs pc lo (vI y :: vI x :: st) w cs sl := by
  refine cg_step hi ?_
  show ae_br (ae_not (some (decide (nI (ae_c (Int32.ofInt x)) < nI (ae_c (Int32.ofInt y)))))) (cg_ind (cg_G V me d q Rs) (cg_du me) i1 lo st w cs sl) (cg_ind (cg_G V me d q Rs) (cg_du me) nx lo st w cs sl) = _
  rw [ae_c_eq, ae_c_eq]
  by_cases hc : x < y
  · rw [decide_eq_true ((i_lt h1 h2 h3 h4).mpr hc)]
    exact cg_pos (kf hc)
  · rw [decide_eq_false (fun h9 => hc ((i_lt h1 h2 h3 h4).mp h9))]
    exact cg_pos (kt hc)
theorem g_if_ge {x : Int} {o9 : Int} (h1 : -2147483648 ≤ x) (h2 : x < 2147483648) (hi : cg_at me pc = some (.ifCond .ge o9, nx, i1, i2, i3, pos)) (kt : ¬ x < 0 → cg_G V me d q Rs i1 lo st w cs sl) (kf : x < 0 → cg_G V me d q Rs nx lo st w cs sl) : cg_G V me d q Rs pc lo (vI x :: st) w cs sl := by
  refine cg_step hi ?_
  show ae_br (ae_not (some (decide (nI (ae_c (Int32.ofInt x)) < nI 0)))) (cg_ind (cg_G V me d q Rs) (cg_du me) i1 lo st w cs sl) (cg_ind (cg_G V me d q Rs) (cg_du me) nx lo st w cs sl) = _
  rw [ae_c_eq, show nI 0 = Int32.ofInt 0 from rfl]
  by_cases hc : x < 0
  · rw [decide_eq_true ((i_lt h1 h2 (by omega) (by omega)).mpr hc)]
    exact cg_pos (kf hc)
  · rw [decide_eq_false (fun h9 => hc ((i_lt h1 h2 (by omega) (by omega)).mp h9))]
    exact cg_pos (kt hc)
theorem g_icmp_gt {x y : Int} {o9 : Int} (h1 : -2147483648 ≤ x) (h2 : x < 2147483648) (h3 : -2147483648 ≤ y) (h4 : y < 2147483648) (hi : cg_at me pc = some (.if_icmp .gt o9, nx, i1, i2, i3, pos)) (kt : y < x → cg_G V me d q Rs i1 lo st w cs sl) (kf : ¬ y < x → cg_G V me d q Rs nx lo st w cs sl) : cg_G V me d q Rs pc lo (vI y :: vI x :: st) w cs sl := by
  refine cg_step hi ?_
  show ae_br (some (decide (nI (ae_c (Int32.ofInt y)) < nI (ae_c (Int32.ofInt x))))) (cg_ind (cg_G V me d q Rs) (cg_du me) i1 lo st w cs sl) (cg_ind (cg_G V me d q Rs) (cg_du me) nx lo st w cs sl) = _
  rw [ae_c_eq, ae_c_eq]
  by_cases hc : y < x
  · rw [decide_eq_true ((i_lt h3 h4 h1 h2).mpr hc)]
    exact cg_pos (kt hc)
  · rw [decide_eq_false (fun h9 => hc ((i_lt h3 h4 h1 h2).mp h9))]
    exact cg_pos (kf hc)
theorem g_if_gt {x : Int} {o9 : Int} (h1 : -2147483648 ≤ x) (h2 : x < 2147483648) (hi : cg_at me pc = some (.ifCond .gt o9, nx, i1, i2, i3, pos)) (kt : 0 < x → cg_G V me d q Rs i1 lo st w cs sl) (kf : ¬ 0 < x → cg_G V me d q Rs nx lo st w cs sl) : cg_G V me d q Rs pc lo (vI x :: st) w cs sl := by
  refine cg_step hi ?_
  show ae_br (some (decide (nI 0 < nI (ae_c (Int32.ofInt x))))) (cg_ind (cg_G V me d q Rs) (cg_du me) i1 lo st w cs sl) (cg_ind (cg_G V me d q Rs) (cg_du me) nx lo st w cs sl) = _
  rw [ae_c_eq, show nI 0 = Int32.ofInt 0 from rfl]
  by_cases hc : 0 < x
  · rw [decide_eq_true ((i_lt (by omega) (by omega) h1 h2).mpr hc)]
    exact cg_pos (kt hc)
  · rw [decide_eq_false (fun h9 => hc ((i_lt (by omega) (by omega) h1 h2).mp h9))]
    exact cg_pos (kf hc)
theorem g_icmp_le {x y : Int} {o9 : Int} (h1 : -2147483648 ≤ x) (h2 : x < 2147483648) (h3 : -2147483648 ≤ y) (h4 : y < 2147483648) (hi : cg_at me pc = some (.if_icmp .le o9, nx, i1, i2, i3, pos)) (kt : ¬ y < x → cg_G V me d q Rs i1 lo st w cs sl) (kf : y < x → cg_G V me d q Rs nx lo st w cs sl) : cg_G V me d q Rs pc lo (vI y :: vI x :: st) w cs sl := by
  refine cg_step hi ?_
  show ae_br (ae_not (some (decide (nI (ae_c (Int32.ofInt y)) < nI (ae_c (Int32.ofInt x)))))) (cg_ind (cg_G V me d q Rs) (cg_du me) i1 lo st w cs sl) (cg_ind (cg_G V me d q Rs) (cg_du me) nx lo st w cs sl) = _
  rw [ae_c_eq, ae_c_eq]
  by_cases hc : y < x
  · rw [decide_eq_true ((i_lt h3 h4 h1 h2).mpr hc)]
    exact cg_pos (kf hc)
  · rw [decide_eq_false (fun h9 => hc ((i_lt h3 h4 h1 h2).mp h9))]
    exact cg_pos (kt hc)
theorem g_if_le {x : Int} {o9 : Int} (h1 : -2147483648 ≤ x) (h2 : x < 2147483648) (hi : cg_at me pc = some (.ifCond .le o9, nx, i1, i2, i3, pos)) (kt : ¬ 0 < x → cg_G V me d q Rs i1 lo st w cs sl) (kf : 0 < x → cg_G V me d q Rs nx lo st w cs sl) : cg_G V me d q Rs pc lo (vI x :: st) w cs sl := by
  refine cg_step hi ?_
  show ae_br (ae_not (some (decide (nI 0 < nI (ae_c (Int32.ofInt x)))))) (cg_ind (cg_G V me d q Rs) (cg_du me) i1 lo st w cs sl) (cg_ind (cg_G V me d q Rs) (cg_du me) nx lo st w cs sl) = _
  rw [ae_c_eq, show nI 0 = Int32.ofInt 0 from rfl]
  by_cases hc : 0 < x
  · rw [decide_eq_true ((i_lt (by omega) (by omega) h1 h2).mpr hc)]
    exact cg_pos (kf hc)
  · rw [decide_eq_false (fun h9 => hc ((i_lt (by omega) (by omega) h1 h2).mp h9))]
    exact cg_pos (kt hc)
theorem g_nn_r {i : Nat} {o9 : Int} (hi : cg_at me pc = some (.ifnonnull o9, nx, i1, i2, i3, pos)) (k : cg_G V me d q Rs i1 lo st w cs sl) : cg_G V me d q Rs pc lo (vR i :: st) w cs sl := cg_step hi (cg_pos k)
theorem g_nn_0 {o9 : Int} (hi : cg_at me pc = some (.ifnonnull o9, nx, i1, i2, i3, pos)) (k : cg_G V me d q Rs nx lo st w cs sl) : cg_G V me d q Rs pc lo (vE 0 :: st) w cs sl := cg_step hi (cg_pos k)
theorem g_tsw_in {dflt lw hg : Int} {offs : Array Int} {x : Int} {o9 : Int} {tg : Nat} (h1 : -2147483648 ≤ x) (h2 : x < 2147483648) (hi : cg_at me pc = some (.tableswitch dflt lw hg offs, nx, i1, i2, i3, pos)) (h3 : lw ≤ x) (h4 : x ≤ hg) (ho : offs.toList[(x - lw).toNat]? = some o9) (ht : (pc : Int) + o9 = (tg : Int)) (k : cg_G V me d q Rs tg lo st w cs sl) : cg_G V me d q Rs pc lo (vI x :: st) w cs sl := by
  refine cg_step hi ?_
  show ae_sw pc dflt lw hg offs (.inl (ae_c (Int32.ofInt x))) (fun tg => cg_ind (cg_G V me d q Rs) (cg_du me) tg lo st w cs sl) = _
  have e2 : (nI (ae_c (Int32.ofInt x))).toInt = x := by rw [ae_c_eq, i_t h1 h2]
  have hd1 : decide ((ae_bd (.inl (ae_c (Int32.ofInt x)))).2 < lw) = false := decide_eq_false (by show ¬ (nI (ae_c (Int32.ofInt x))).toInt < lw; rw [e2]; omega)
  have hd2 : decide (hg < (ae_bd (.inl (ae_c (Int32.ofInt x)))).1) = false := decide_eq_false (by show ¬ hg < (nI (ae_c (Int32.ofInt x))).toInt; rw [e2]; omega)
  unfold ae_sw
  rw [hd1, hd2]
  show ae_some (offs.toList[((nI (ae_c (Int32.ofInt x))).toInt - lw).toNat]?) (fun o => cond (!(decide ((nI (ae_c (Int32.ofInt x))).toInt < lw)) && (!(decide (hg < (nI (ae_c (Int32.ofInt x))).toInt)) && decide ((pc : Int) + o = (((pc : Int) + o).toNat : Int)))) (cg_ind (cg_G V me d q Rs) (cg_du me) ((pc : Int) + o).toNat lo st w cs sl) none) = _
  rw [e2, ho]
  show cond (!(decide (x < lw)) && (!(decide (hg < x)) && decide ((pc : Int) + o9 = (((pc : Int) + o9).toNat : Int)))) (cg_ind (cg_G V me d q Rs) (cg_du me) ((pc : Int) + o9).toNat lo st w cs sl) none = _
  rw [decide_eq_false (show ¬ x < lw by omega), decide_eq_false (show ¬ hg < x by omega), ht, Int.toNat_natCast, decide_eq_true rfl]
  exact cg_pos k
theorem g_tsw_out {dflt lw hg : Int} {offs : Array Int} {x : Int} {tg : Nat} (h1 : -2147483648 ≤ x) (h2 : x < 2147483648) (hi : cg_at me pc = some (.tableswitch dflt lw hg offs, nx, i1, i2, i3, pos)) (h3 : x < lw ∨ hg < x) (ht : (pc : Int) + dflt = (tg : Int)) (k : cg_G V me d q Rs tg lo st w cs sl) : cg_G V me d q Rs pc lo (vI x :: st) w cs sl := by
  refine cg_step hi ?_
  show ae_sw pc dflt lw hg offs (.inl (ae_c (Int32.ofInt x))) (fun tg => cg_ind (cg_G V me d q Rs) (cg_du me) tg lo st w cs sl) = _
  have e2 : (nI (ae_c (Int32.ofInt x))).toInt = x := by rw [ae_c_eq, i_t h1 h2]
  have e : (decide ((ae_bd (.inl (ae_c (Int32.ofInt x)))).2 < lw) || decide (hg < (ae_bd (.inl (ae_c (Int32.ofInt x)))).1)) = true := by
    rcases h3 with h3 | h3
    · rw [decide_eq_true (show (ae_bd (.inl (ae_c (Int32.ofInt x)))).2 < lw by show (nI (ae_c (Int32.ofInt x))).toInt < lw; rw [e2]; exact h3)]; rfl
    · rw [decide_eq_true (show hg < (ae_bd (.inl (ae_c (Int32.ofInt x)))).1 by show hg < (nI (ae_c (Int32.ofInt x))).toInt; rw [e2]; exact h3), Bool.or_true]
  unfold ae_sw
  rw [e]
  show cond (decide _) _ _ = _
  rw [ht, Int.toNat_natCast, decide_eq_true rfl]
  exact cg_pos k
theorem g_getf {n i : Nat} {fs : List ae_V} {v : ae_V} (hi : cg_at me pc = some (.getfield n, nx, i1, i2, i3, pos)) (hw : w[i]? = some (.inr (i1, fs))) (hv : fs[i2]? = some v) (k : cg_G V me d q Rs nx lo (v :: st) w cs sl) : cg_G V me d q Rs pc lo (vR i :: st) w cs sl := by
  refine cg_step hi ?_
  show ae_obj (ae_nth w i) _ = _
  rw [ae_nth_eq, hw]
  show ae_if (Nat.beq i1 i1) (ae_some (ae_nth fs i2) _) = _
  rw [Nat.beq_refl, ae_nth_eq, hv]
  exact cg_pos k
theorem g_putf {n i : Nat} {fs : List ae_V} {v v0 : ae_V} {tl : List FieldType} {ty : FieldType} (hi : cg_at me pc = some (.putfield n, nx, i1, i2, i3, pos)) (hw : w[i]? = some (.inr (i1, fs))) (hv : fs[i2]? = some v0) (h1 : ae_TY[i1]? = some tl) (h2 : tl[i2]? = some ty) (h3 : ae_fty ty v = true) (k : cg_G V me d q Rs nx lo st (w.set i (.inr (i1, fs.set i2 v))) cs sl) : cg_G V me d q Rs pc lo (v :: vR i :: st) w cs sl := by
  refine cg_step hi ?_
  show ae_obj (ae_nth w i) _ = _
  rw [ae_nth_eq, hw]
  show ae_if (Nat.beq i1 i1) (ae_some (ae_nth fs i2) (fun _ => ae_some (ae_nth ae_TY i1) (fun tl => ae_some (ae_nth tl i2) (fun ty => ae_if (ae_fty ty v) (ae_set fs i2 v (fun fs' => ae_set w i (.inr (i1, fs')) (fun w' => cg_ind (cg_G V me d q Rs) (cg_du me) nx lo st w' cs sl))))))) = _
  rw [Nat.beq_refl, ae_nth_eq, hv, ae_nth_eq, h1]
  show ae_some (ae_nth tl i2) _ = _
  rw [ae_nth_eq, h2]
  show ae_if (ae_fty ty v) _ = _
  rw [h3]
  show ae_set fs i2 v _ = _
  rw [ae_set_eq, ae_set_eq]
  exact cg_pos k
end GOOD
