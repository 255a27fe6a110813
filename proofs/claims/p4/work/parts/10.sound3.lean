/-! ===== new cells ===== -/
theorem ag_defs {E : Nat → Value} {ad : List Nat} (hE0 : E 0 = .null) : ∀ tl : List FieldType, tl.all ae_dok = true → ag_S E ad (tl.map ae_def) (tl.map defaultValue)
  | [], _ => trivial
  | t :: tl, h => by
    rw [List.all_cons] at h
    obtain ⟨h1, h2⟩ := ae_and h
    refine ⟨?_, ag_defs hE0 tl h2⟩
    cases t <;> first | exact ⟨0, rfl, nI_0.symm⟩ | exact ⟨0, rfl, rfl⟩ | exact hE0.symm | cases h1
theorem ag_push {E : Nat → Value} {dC : Nat → ClassId} {dI : Nat → Nat → Nat} {dT : Nat → ClassId} {A : Nat → Prop} {me : ae_M} {s : State} {ad0 : List Nat} {lo : ae_L} {r : List ae_V} {w : List ae_C} {cs sl : Nat} {ad : List Nat} {ws : va_W} {H1 : Heap} {locs : List Loc} {lv : List (Nat × Value)} {ls : Array Slot} {rv : List Value} {qn : Nat} {en : va_E} {cn : ae_C}
    (hcs : cs ≤ ae_mc me ∧ sl ≤ ae_ms me) (hex : ∃ t, ad = ad0 ++ t) (had : ws.map Prod.fst = ad) (hl : lv_has ls (ae_mL me) lv) (hlo : ag_L E ad lo lv) (hst : ag_S E ad r rv) (hw : ag_W E dT ad w ws) (hC : ag_C E dT (ad ++ [qn]) cn en) (hP : va_P (dC, dI) vwCl (ws ++ [(qn, en)]) H1) (hD : va_D A (ws ++ [(qn, en)])) (hS : va_S A s.heap H1 locs) :
    ag_At E dC dI dT A me s ad0 lo (.inr (.inr (.inl w.length)) :: r) (w ++ [cn]) cs sl (ad ++ [qn]) (ws ++ [(qn, en)]) H1 locs lv ls (.ref qn :: rv) := by
  obtain ⟨t, ht⟩ := hex
  have hlen : w.length = ad.length := by rw [ag_W_len hw, ← had, List.length_map]
  refine ⟨hcs, ⟨t ++ [qn], by rw [ht, List.append_assoc]⟩, by rw [List.map_append, had]; rfl, hl, ag_L_mono _ hlo, ⟨⟨qn, ?_, rfl⟩, ag_S_mono _ hst⟩, ag_W_app (ag_W_mono _ hw) ⟨hC, trivial⟩, hP, hD, hS⟩
  rw [hlen, List.getElem?_append_right (Nat.le_refl _), Nat.sub_self]
  rfl
section SOUND2
variable {XS : (Nat → Prop) → State → Prop} {E : Nat → Value} {dC : Nat → ClassId} {dI : Nat → Nat → Nat} {dT : Nat → ClassId} {A : Nat → Prop} {me : ae_M} {d q : Nat} {p : Program} {l : Launch} {e : Env} {R : Room} {s : State} {m : MethodId} {args : Array Value} {below : List Frame} {meth : Method} {c : Code} {Q : State → Prop} {ad0 : List Nat}
variable {K : ae_K} {res : ae_R} {pc : Nat} {lo : ae_L} {st : List ae_V} {w : List ae_C} {cs sl : Nat}

theorem as_newa (hE : ∀ k, E k = .null ∨ ∃ q, E k = .ref q) (hF : ag_F XS dC dI dT A me d q p R s m args meth c) (hN : ag_N E dC dI dT A me p l e R s m args below meth c Q ad0 K res) {at_ : ArrayType} (hm : Cond.arrayClass (newarray.typeOf at_) ∈ lw_gt) (hdg : decode me.2.1 pc = .ok (.newarray at_, 2)) (h : ae_n1 st (fun n r => ae_if (Nat.ble n 1000000 && (Nat.ble (cs + 1) (ae_mc me) && (Nat.ble (sl + n) (ae_ms me) && Nat.blt (ae_atag at_) 3))) (ae_n w.length (fun z => ae_app w [.inl (ae_atag at_, n, ae_dv (ae_atag at_), [])] (fun w' => K (pc + 2) lo (.inr (.inr (.inl z)) :: r) w' (cs + 1) (sl + n))))) = some res) : ag_H E dC dI dT A me p l e R s m args below meth c Q ad0 pc lo st w cs sl := by
  intro ad ws H locs lv ls stv hat
  obtain ⟨hcs, hex, had, hl, hlo, hst, hw, hP, hD, hS⟩ := hat
  obtain ⟨hx, hb, hml, hown, hts, hK, hA, hlk, hret, hnm, hR1, hR2, hR3, hR4, hXS⟩ := hF
  obtain ⟨n, r, e0, h0⟩ := ae_n1_inv h
  clear h
  subst e0
  have h := h0
  clear h0
  obtain ⟨v1, r1, rfl, ⟨y, rfl, hy⟩, hst0⟩ := ag_S_cons hst
  clear hst
  have hst := hst0
  clear hst0
  have hy : y = nI n := hy
  subst hy
  obtain ⟨hc, h0⟩ := ae_if_inv h
  clear h
  have h := h0
  clear h0
  obtain ⟨hn, hc⟩ := ae_and hc
  obtain ⟨hc1, hc⟩ := ae_and hc
  obtain ⟨hc2, hc3⟩ := ae_and hc
  have hn := ae_ble hn
  have hc1 := ae_ble hc1
  have hc2 := ae_ble hc2
  rw [ae_n_eq, ae_app_eq] at h
  have hg1 : cs + 1 ≤ R.cells := by rw [hR3]; exact hc1
  have hg2 : sl + n ≤ R.slots := by rw [hR4]; exact hc2
  cases at_ with
  | int =>
    refine va_newa hx hb (hts _ hm) rfl hK hP hD hS hA (a0 := (n, .inl (fun _ => 0))) (fun cA => rfl) (nI_pos (by omega)) (nI_clamp (by omega)) (by show n * 4 ≤ _; omega) hg1 hg2 hdg (fun qn cA H1 hK1 hP1 hD1 hS1 => ?_)
    have e1 : cA = dT 0 := Option.some.inj ((va_nm_int (hK1.2 5 _ rfl).2).symm.trans (va_nm_int (hK.2 0 _ rfl).2))
    subst e1
    exact hN _ _ _ _ _ _ h _ _ H1 locs lv ls _ (ag_push ⟨hc1, hc2⟩ hex had hl hlo hst hw (ag_mkA (show ag_T 0 (.inl _) from Or.inl rfl) (fun j _ => ⟨0, rfl, nI_0.symm⟩)) hP1 hD1 hS1)
  | long =>
    refine va_newa hx hb (hts _ hm) rfl hK hP hD hS hA (a0 := (n, .inr (.inl (fun _ => 0)))) (fun cA => rfl) (nI_pos (by omega)) (nI_clamp (by omega)) (by show n * 8 ≤ _; omega) hg1 hg2 hdg (fun qn cA H1 hK1 hP1 hD1 hS1 => ?_)
    have e1 : cA = dT 1 := Option.some.inj ((va_nm_long (hK1.2 5 _ rfl).2).symm.trans (va_nm_long (hK.2 1 _ rfl).2))
    subst e1
    exact hN _ _ _ _ _ _ h _ _ H1 locs lv ls _ (ag_push ⟨hc1, hc2⟩ hex had hl hlo hst hw (ag_mkA (show ag_T 1 (.inr (.inl _)) from rfl) (fun j _ => ⟨0, rfl, rfl⟩)) hP1 hD1 hS1)
  | boolean =>
    refine va_newa hx hb (hts _ hm) rfl hK hP hD hS hA (a0 := (n, .inl (fun _ => 0))) (fun cA => rfl) (nI_pos (by omega)) (nI_clamp (by omega)) (by show n * 1 ≤ _; omega) hg1 hg2 hdg (fun qn cA H1 hK1 hP1 hD1 hS1 => ?_)
    have e1 : cA = dT 2 := Option.some.inj ((va_nm_boolean (hK1.2 5 _ rfl).2).symm.trans (va_nm_boolean (hK.2 2 _ rfl).2))
    subst e1
    exact hN _ _ _ _ _ _ h _ _ H1 locs lv ls _ (ag_push ⟨hc1, hc2⟩ hex had hl hlo hst hw (ag_mkA (show ag_T 2 (.inl _) from Or.inr rfl) (fun j _ => ⟨0, rfl, nI_0.symm⟩)) hP1 hD1 hS1)
  | char => cases hc3
  | float => cases hc3
  | double => cases hc3
  | byte => cases hc3
  | short => cases hc3

theorem as_new (hE : ∀ k, E k = .null ∨ ∃ q, E k = .ref q) (hF : ag_F XS dC dI dT A me d q p R s m args meth c) (hN : ag_N E dC dI dT A me p l e R s m args below meth c Q ad0 K res) (hE0 : E 0 = .null) {idx ci : Nat} {cl : vw_C} (hcl : vwCl[ci]? = some cl) (hm1 : Cond.classLink me.1.cls idx cl.1 ∈ lw_gt) (hm2 : Cond.instantiable cl.1 cl.2.2 ∈ lw_gt) (hm3 : Cond.initialized cl.1 ∈ lw_gt) (hdg : decode me.2.1 pc = .ok (.new idx, 3)) (h : ae_some (ae_nth ae_DF ci) (fun fs => ae_if (Nat.ble (cs + 1) (ae_mc me) && Nat.ble (sl + fs.length) (ae_ms me)) (ae_n w.length (fun z => ae_app w [.inr (ci, fs)] (fun w' => K (pc + 3) lo (.inr (.inr (.inl z)) :: st) w' (cs + 1) (sl + fs.length))))) = some res) : ag_H E dC dI dT A me p l e R s m args below meth c Q ad0 pc lo st w cs sl := by
  intro ad ws H locs lv ls stv hat
  obtain ⟨hcs, hex, had, hl, hlo, hst, hw, hP, hD, hS⟩ := hat
  obtain ⟨hx, hb, hml, hown, hts, hK, hA, hlk, hret, hnm, hR1, hR2, hR3, hR4, hXS⟩ := hF
  obtain ⟨fs, hfs, h0⟩ := ae_some_inv h
  clear h
  have h := h0
  clear h0
  obtain ⟨hc, h0⟩ := ae_if_inv h
  clear h
  have h := h0
  clear h0
  obtain ⟨hc1, hc2⟩ := ae_and hc
  have hc1 := ae_ble hc1
  have hc2 := ae_ble hc2
  rw [ae_n_eq, ae_app_eq] at h
  rw [ae_nth_eq] at hfs
  obtain ⟨ty, hin, hty, -, tl, -, htl, htk, hdf, hok⟩ := ag_cls _ _ hcl
  rw [hfs] at hdf
  cases hdf
  obtain ⟨C, T, N⟩ := cl
  have htl : tl.length = N := htl
  rw [List.length_map, htl] at h hc2
  have hg1 : cs + 1 ≤ R.cells := by rw [hR3]; exact hc1
  have hg2 : sl + N ≤ R.slots := by rw [hR4]; exact hc2
  refine va_new (ci := ci) (fs := tl.map defaultValue) (C := C) (T := T) (N := N) hx hb hts hin ty hty hown (hts _ hm1) (hts _ hm2) (hts _ hm3) hK hP hD hS hA hcl (fun j hj => ?_) hg1 hg2 hdg (fun qn H1 hP1 hD1 hS1 => ?_)
  · unfold vp_V
    rw [List.getD_eq_getElem?_getD, List.getElem?_map, htk j hj]
    rfl
  · exact hN _ _ _ _ _ _ h _ _ H1 locs lv ls _ (ag_push ⟨hc1, hc2⟩ hex had hl hlo hst hw (ag_mkO (ag_defs hE0 tl hok)) hP1 hD1 hS1)

end SOUND2

/-! ===== calls and returns ===== -/
def ag_O (E : Nat → Value) (ad : List Nat) (rv : Option ae_V) (v : Option Value) : Prop := match rv, v with
  | none, none => True
  | some a, some x => ag_V E ad a x
  | _, _ => False
theorem ag_O_list {E : Nat → Value} {ad : List Nat} {rv : Option ae_V} {v : Option Value} (h : ag_O E ad rv v) : ag_S E ad rv.toList v.toList := by
  match rv, v, h with
  | none, none, _ => exact trivial
  | some _, some _, h => exact ⟨h, trivial⟩
  | none, some _, h => exact h.elim
  | some _, none, h => exact h.elim
/-- what a method's end says -/
def ag_Qc (E : Nat → Value) (dC : Nat → ClassId) (dI : Nat → Nat → Nat) (dT : Nat → ClassId) (A : Nat → Prop) (ad : List Nat) (r : ae_R) : Array Value → State → Outcome → State → Prop := fun _ st oc t =>
  (∃ (v : Option Value) (x : List Nat) (ws' : va_W), oc = .returned v ∧ ws'.map Prod.fst = ad ++ x ∧ ag_O E (ad ++ x) r.1 v ∧ ag_W E dT (ad ++ x) r.2 ws' ∧ va_P (dC, dI) vwCl ws' t.heap ∧ va_D A ws') ∧ va_F A st t
def ag_Pc (XS : (Nat → Prop) → State → Prop) (dC : Nat → ClassId) (dI : Nat → Nat → Nat) (dT : Nat → ClassId) (avs : List Value) (ws : va_W) (sz : Nat) : Array Value → State → Prop :=
  va_Pc avs (fun U => U.heap.size = sz ∧ va_P (dC, dI) vwCl ws U.heap ∧ va_K (dC, dI) vwCl (ag_tys dT) U ∧ va_D (fun _ => True) ws ∧ XS (va_A ws sz) U)
abbrev ag_ws (me : ae_M) : List Cond := .code me.1 me.2.1 (ae_mL me) (ae_mR me) :: lw_gt
abbrev ag_rm (me : ae_M) (d q : Nat) : Room := { frames := d, cells := ae_mc me, slots := ae_ms me, locals := q }
def ag_Xw (XS : (Nat → Prop) → State → Prop) : Prop := ∀ (A A1 : Nat → Prop) (U U1 : State), U.WarmedH U1.vm → (∀ z : Nat, z < U.heap.size → ¬ A z → U1.heap[z]? = U.heap[z]?) → (∀ z, A1 z → A z) → XS A U → XS A1 U1
def ag_Met (MT : List ae_M) (XS : (Nat → Prop) → State → Prop) (E : Nat → Value) (dC : Nat → ClassId) (dI : Nat → Nat → Nat) (dT : Nat → ClassId) (l : Launch) (CF : ae_F) : Prop :=
  ∀ (mid d q : Nat) (me : ae_M) (as : List ae_V) (w : List ae_C) (r : ae_R), CF d q me as w = some r → MT[mid]? = some me → ae_wd as ≤ ae_mL me → ∀ (avs : List Value) (ad : List Nat) (ws : va_W) (sz : Nat), ws.map Prod.fst = ad → ag_S E ad as avs → ag_W E dT ad w ws →
    Met l me.1 (ag_ws me) (ag_rm me d q) (ag_Pc XS dC dI dT avs ws sz) (ag_Qc E dC dI dT (va_A ws sz) ad r) (ae_mc me) (ae_ms me) (va_A ws sz)
theorem lw_good : lw_gt.all goodWord = true := List.all_eq_true.mpr (fun w h => (List.mem_filter.mp h).2)
theorem ag_goodIn {me : ae_M} (h : Cond.code me.1 me.2.1 (ae_mL me) (ae_mR me) ∈ lw_gt) : GoodIn lw_gt (ag_ws me) := fun w hw => by
  have hw2 : w ∈ lw_gt := by
    rcases List.mem_cons.mp hw with rfl | hw
    · exact h
    · exact hw
  exact ⟨hw2, good_of_word (List.all_eq_true.mp lw_good w hw2)⟩
theorem ag_blind {XS : (Nat → Prop) → State → Prop} (hXw : ag_Xw XS) (dC : Nat → ClassId) (dI : Nat → Nat → Nat) (dT : Nat → ClassId) (avs : List Value) (ws : va_W) (sz : Nat) : FrameBlind (ag_Pc XS dC dI dT avs ws sz) := fun a U g mk h => by
  obtain ⟨h1, h2, h3, h4, h5, h6⟩ := h
  exact ⟨h1, h2, h3, va_K.moved (u := U) (U := U.calling g mk a) (Vm.Alike.refl U.vm) h4, h5, hXw _ _ U _ (State.WarmedH.refl U) (fun _ _ _ => rfl) (fun _ h => h) h6⟩
section CALLS
variable {XS : (Nat → Prop) → State → Prop} {E : Nat → Value} {dC : Nat → ClassId} {dI : Nat → Nat → Nat} {dT : Nat → ClassId} {A : Nat → Prop} {me me2 : ae_M} {d q : Nat} {p : Program} {l : Launch} {e : Env} {R : Room} {s : State} {m : MethodId} {args : Array Value} {below : List Frame} {meth : Method} {c : Code} {Q : State → Prop} {ad0 : List Nat}
variable {K : ae_K} {res : ae_R} {pc : Nat} {lo : ae_L} {st : List ae_V} {w : List ae_C} {cs sl : Nat} {MT : List ae_M} {CF : ae_F}
theorem ag_after {H : Heap} {locs : List Loc} {ls : Array Slot} {ad : List Nat} {ws : va_W} {mc ms : Nat} {a : Array Value} {r : ae_R} {rest st0 : List Value} (hr : va_Run p l e R s m args below meth c H locs cs sl mc ms (F0 m pc ls st0) rest (ag_Qc E dC dI dT (va_A ws H.size) ad r a) (va_A ws H.size)) (hS : va_S A s.heap H locs) (hf : ∀ z, va_A ws H.size z → A z)
    (kk : ∀ (v : Option Value) (x : List Nat) (ws' : va_W) (H1 : Heap) (locs1 : List Loc), ws'.map Prod.fst = ad ++ x → ag_O E (ad ++ x) r.1 v → ag_W E dT (ad ++ x) r.2 ws' → va_P (dC, dI) vwCl ws' H1 → va_D A ws' → va_S A s.heap H1 locs1 → W p l e R s m args below meth c H1 locs1 (cs + mc) (sl + ms) Q (F0 m (pc + 3) ls (v.toList ++ rest))) :
    W p l e R s m args below meth c H locs cs sl Q (F0 m pc ls st0) := by
  intro T hT X
  obtain ⟨v, st₀, t, T', L, h0, X', hL, e1, e2, ⟨⟨v', x, ws', hv, had, hO, hW, hP, hD⟩, hz, hk⟩, stp⟩ := hr T hT X
  cases hv
  rw [h0] at hz hk
  obtain ⟨t2, a1, b1⟩ := kk v x ws' T'.heap (locs ++ L) had hO hW (by rw [e1]; exact hP) (hD.weaken (fun _ _ _ h => hf _ h)) ⟨Nat.le_trans hS.1 (by rw [e1]; exact hz), fun q h1 h2 => by rw [e1, hk q (Nat.lt_of_lt_of_le h1 hS.1) (fun z => h2 (hf q z))]; exact hS.2.1 q h1 h2, fun q hq => by
      rcases List.mem_append.mp hq with h | h
      · exact hS.2.2 q h
      · exact hf _ (hL q h)⟩ T' rfl X'
  exact ⟨t2, stp t2 a1, b1⟩
theorem ag_free {H : Heap} {locs : List Loc} {ws : va_W} (hD : va_D A ws) (hS : va_S A s.heap H locs) (hA : ∀ z, s.heap.size ≤ z → A z) : ∀ z, va_A ws H.size z → A z := fun z h => by
  rcases h with ⟨k, en, h⟩ | h
  · exact hD.2 k _ h
  · exact hA z (Nat.le_trans hS.1 h)
theorem ag_preS (hXw : ag_Xw XS) {H : Heap} {locs : List Loc} {ws : va_W} (hK : va_K (dC, dI) vwCl (ag_tys dT) s) (hP : va_P (dC, dI) vwCl ws H) (hD : va_D A ws) (hS : va_S A s.heap H locs) (hA : ∀ z, s.heap.size ≤ z → A z) (hXS : XS A s) (avs : List Value) : PreS s H (ag_Pc XS dC dI dT avs ws H.size) avs :=
  ⟨ag_blind hXw dC dI dT avs ws H.size, fun U hU hW => ⟨rfl, by rw [hU], by rw [hU]; exact hP, va_K.moved hW.alike hK, hD.weaken (fun _ _ _ _ => trivial), hXw A _ s U hW (fun z h1 h2 => by rw [hU]; exact hS.2.1 z h1 h2) (ag_free hD hS hA) hXS⟩⟩
/-- what a call site's check gives -/
def ag_site (me2 : ae_M) (n : Nat) : Prop := Cond.code me2.1 me2.2.1 (ae_mL me2) (ae_mR me2) ∈ lw_gt ∧ Cond.initialized me2.1.cls ∈ lw_gt ∧ me2.1.cls ≠ "java/lang/invoke/MethodHandle" ∧ me2.1.cls ≠ "java/lang/invoke/VarHandle" ∧ (parseMethodDescriptor me2.1.desc).map (fun d => d.parameters.length) = some n
theorem ag_callB {idx n : Nat} (hs : ag_site me2 n) (hts : ∀ w ∈ lw_gt, w.before args s = true) (hl : Cond.methodLink me.1.cls idx me2.1 ∈ lw_gt) (hd : 1 ≤ R.frames) (hq : ae_mL me2 + 19 ≤ R.locals) : CallB R s args me.1.cls idx me2.1 me2.2.1 (ae_mL me2) (ae_mR me2) (ag_ws me2) (ag_rm me2 (R.frames - 1) (R.locals - (ae_mL me2 + 19))) (ae_mc me2) (ae_ms me2) n :=
  callB_of n hts (ag_goodIn hs.1) rfl rfl rfl (hts _ hs.2.1) (hts _ hl) ⟨hs.2.2.1, hs.2.2.2.1, hs.2.2.2.2⟩ ⟨by show R.frames - 1 + 1 ≤ _; omega, by show 8 + (ae_mL me2 + 11) + (R.locals - (ae_mL me2 + 19)) ≤ _; omega⟩

theorem as_invs (hE : ∀ k, E k = .null ∨ ∃ q, E k = .ref q) (hF : ag_F XS dC dI dT A me d q p R s m args meth c) (hN : ag_N E dC dI dT A me p l e R s m args below meth c Q ad0 K res) (hXw : ag_Xw XS) (hMet : ag_Met MT XS E dC dI dT l CF) {idx mid n : Nat} (hMT : MT[mid]? = some me2) (hs : ag_site me2 n) (hm : Cond.methodLink me.1.cls idx me2.1 ∈ lw_gt) (hm2 : Cond.static me2.1 ∈ lw_gt) (hdg : decode me.2.1 pc = .ok (.invokestatic idx, 3)) (h : ae_pop n st [] (fun as r => ae_call MT CF d q me mid as r w cs sl (K (pc + 3) lo)) = some res) : ag_H E dC dI dT A me p l e R s m args below meth c Q ad0 pc lo st w cs sl := by
  intro ad ws H locs lv ls stv hat
  obtain ⟨hcs, hex, had, hl, hlo, hst, hw, hP, hD, hS⟩ := hat
  obtain ⟨hx, hb, hml, hown, hts, hK, hA, hlk, hret, hnm, hR1, hR2, hR3, hR4, hXS⟩ := hF
  obtain ⟨ps, r, e0, hpl, h0⟩ := ae_pop_inv _ _ _ _ h
  clear h
  subst e0
  have h := h0
  clear h0
  rw [List.append_nil] at h
  obtain ⟨pv, rv, rfl, hps, hrest⟩ := ag_S_split hst
  unfold ae_call at h
  obtain ⟨me3, hme, h0⟩ := ae_some_inv h
  clear h
  have h := h0
  clear h0
  rw [ae_nth_eq, hMT] at hme
  cases hme
  obtain ⟨hc, h0⟩ := ae_if_inv h
  clear h
  have h := h0
  clear h0
  obtain ⟨g1, hc⟩ := ae_and hc
  obtain ⟨g2, hc⟩ := ae_and hc
  obtain ⟨g3, hc⟩ := ae_and hc
  obtain ⟨g4, hc⟩ := ae_and hc
  obtain ⟨g5, g6⟩ := ae_and hc
  have g1 := ae_ble g1
  have g2 := ae_ble g2
  have g3 := ae_ble g3
  have g4 := ae_ble g4
  have g5 := ae_ble g5
  have g6 := ae_ble g6
  obtain ⟨r2, hcf, h0⟩ := ae_some_inv h
  clear h
  have h := h0
  clear h0
  have hfr := ag_free hD hS hA
  have hM := hMet mid _ _ me2 _ w r2 hcf hMT g5 pv.reverse ad ws H.size had (ag_S_rev hps) hw
  have hcb := ag_callB (me := me) (R := R) (idx := idx) hs hts hm (by rw [hR1]; exact g1) (by rw [hR2]; exact g2)
  rw [hR1, hR2] at hcb
  have hr := va_runS (e := e) (below := below) (meth := meth) (locs := locs) (rest := rv) (nL := ae_mL me) ⟨hx, hb, hml, hown, hts⟩ hM ⟨hcb, hts _ hm2⟩ (ag_preS hXw hK hP hD hS hA hXS pv.reverse) (g := F0 m pc ls (pv ++ rv)) rfl (by rw [List.length_reverse, ← ag_S_len hps, hpl]) hl.1 (by rw [List.reverse_reverse]) (lv_room (by rw [ag_wd hE hrest]; exact g6)) hdg ⟨by rw [hR3]; exact g3, by rw [hR4]; exact g4⟩
  exact ag_after hr hS hfr (fun v x ws2 H1 locs1 k1 k2 k3 k4 k5 k6 => hN _ _ _ _ _ _ h _ ws2 H1 locs1 lv ls _ ⟨⟨g3, g4⟩, (by obtain ⟨t, ht⟩ := hex; exact ⟨t ++ x, by rw [ht, List.append_assoc]⟩), k1, hl, ag_L_mono x hlo, ag_S_app (ag_O_list k2) (ag_S_mono x hrest), k3, k4, k5, k6⟩)

theorem as_invv (hE : ∀ k, E k = .null ∨ ∃ q, E k = .ref q) (hF : ag_F XS dC dI dT A me d q p R s m args meth c) (hN : ag_N E dC dI dT A me p l e R s m args below meth c Q ad0 K res) (hXw : ag_Xw XS) (hMet : ag_Met MT XS E dC dI dT l CF) {idx mid n ci : Nat} {X : Nat → List ae_V → Bool} {Y : List ae_V → Nat → List ae_V → ae_O} {cl : vw_C} (hMT : MT[mid]? = some me2) (hs : ag_site me2 n) (hm : Cond.methodLink me.1.cls idx me2.1 ∈ lw_gt) (hm2 : Cond.instanceMethod me2.1 ∈ lw_gt) (hm3 : Cond.selects me2.1.cls me2.1 me2.1 ∈ lw_gt) (hcl : vwCl[ci]? = some cl) (hcn : cl.1 = me2.1.cls) (hdg : decode me.2.1 pc = .ok (.invokevirtual idx, 3)) (h : ae_pop n st [] (fun as st2 => ae_al st2 (fun i r => ae_obj (ae_nth w i) (fun cj _ => ae_if (Nat.beq (cj + 1) (ci + 1)) (ae_call MT CF d q me mid (.inr (.inr (.inl i)) :: as) r w cs sl (K (pc + 3) lo)))) (fun k r => ae_if (Nat.beq (ci + 1) 0 && X k r) (Y as k r))) = some res) : ag_H E dC dI dT A me p l e R s m args below meth c Q ad0 pc lo st w cs sl := by
  intro ad ws H locs lv ls stv hat
  obtain ⟨hcs, hex, had, hl, hlo, hst, hw, hP, hD, hS⟩ := hat
  obtain ⟨hx, hb, hml, hown, hts, hK, hA, hlk, hret, hnm, hR1, hR2, hR3, hR4, hXS⟩ := hF
  obtain ⟨ps, r, e0, hpl, h0⟩ := ae_pop_inv _ _ _ _ h
  clear h
  subst e0
  have h := h0
  clear h0
  rw [List.append_nil] at h
  have h9 : ∃ i l, r = .inr (.inr (.inl i)) :: l ∧ ae_obj (ae_nth w i) (fun cj _ => ae_if (Nat.beq (cj + 1) (ci + 1)) (ae_call MT CF d q me mid (.inr (.inr (.inl i)) :: ps.reverse) l w cs sl (K (pc + 3) lo))) = some res := by
    rcases ae_al_inv h with h | ⟨i, r, -, h9⟩
    · exact h
    · obtain ⟨hc, -⟩ := ae_if_inv h9
      cases (ae_and hc).1
  obtain ⟨i, r, e0, h0⟩ := h9
  clear h
  subst e0
  have h := h0
  clear h0
  obtain ⟨pv, rv, rfl, hps, hrest⟩ := ag_S_split hst
  obtain ⟨v1, rv2, e0, ⟨q1, hq1, e2⟩, hrest0⟩ := ag_S_cons hrest
  clear hrest
  subst e0
  subst e2
  have hrest := hrest0
  clear hrest0
  obtain ⟨cj, fs, hwi, h0⟩ := ae_obj_inv h
  clear h
  have h := h0
  clear h0
  obtain ⟨hcj, h0⟩ := ae_if_inv h
  clear h
  have h := h0
  clear h0
  have hcj : cj = ci := Nat.succ.inj (ae_beq hcj)
  rw [ae_nth_eq, hcj] at hwi
  obtain ⟨en, hen, hC⟩ := ag_cell had hw hq1 hwi
  obtain ⟨vs, rfl, hvs⟩ := ag_C_obj hC
  unfold ae_call at h
  obtain ⟨me3, hme, h0⟩ := ae_some_inv h
  clear h
  have h := h0
  clear h0
  rw [ae_nth_eq, hMT] at hme
  cases hme
  obtain ⟨hc, h0⟩ := ae_if_inv h
  clear h
  have h := h0
  clear h0
  obtain ⟨g1, hc⟩ := ae_and hc
  obtain ⟨g2, hc⟩ := ae_and hc
  obtain ⟨g3, hc⟩ := ae_and hc
  obtain ⟨g4, hc⟩ := ae_and hc
  obtain ⟨g5, g6⟩ := ae_and hc
  have g1 := ae_ble g1
  have g2 := ae_ble g2
  have g3 := ae_ble g3
  have g4 := ae_ble g4
  have g5 := ae_ble g5
  have g6 := ae_ble g6
  obtain ⟨r2, hcf, h0⟩ := ae_some_inv h
  clear h
  have h := h0
  clear h0
  have hfr := ag_free hD hS hA
  have hM := hMet mid _ _ me2 _ w r2 hcf hMT g5 (.ref q1 :: pv.reverse) ad ws H.size had ⟨⟨q1, hq1, rfl⟩, ag_S_rev hps⟩ hw
  have hcb := ag_callB (me := me) (R := R) (idx := idx) hs hts hm (by rw [hR1]; exact g1) (by rw [hR2]; exact g2)
  rw [hR1, hR2] at hcb
  have hpre := ag_preS hXw hK hP hD hS hA hXS (.ref q1 :: pv.reverse)
  have hr := va_runV (e := e) (below := below) (meth := meth) (locs := locs) (rest := rv2) (nL := ae_mL me) (C := me2.1.cls) ⟨hx, hb, hml, hown, hts⟩ hM ⟨hcb, hts _ hm2, hts _ hm3⟩ ⟨hpre.1, by rw [← hcn]; exact va_recv hK hP hcl hen, hpre.2⟩ (g := F0 m pc ls (pv ++ .ref q1 :: rv2)) rfl (by rw [List.length_reverse, ← ag_S_len hps, hpl]) hl.1 (by rw [List.reverse_reverse]) (lv_room (by rw [ag_wd hE hrest]; exact g6)) hdg ⟨by rw [hR3]; exact g3, by rw [hR4]; exact g4⟩
  exact ag_after hr hS hfr (fun v x ws2 H1 locs1 k1 k2 k3 k4 k5 k6 => hN _ _ _ _ _ _ h _ ws2 H1 locs1 lv ls _ ⟨⟨g3, g4⟩, (by obtain ⟨t, ht⟩ := hex; exact ⟨t ++ x, by rw [ht, List.append_assoc]⟩), k1, hl, ag_L_mono x hlo, ag_S_app (ag_O_list k2) (ag_S_mono x hrest), k3, k4, k5, k6⟩)

theorem as_invi (hE : ∀ k, E k = .null ∨ ∃ q, E k = .ref q) (hF : ag_F XS dC dI dT A me d q p R s m args meth c) (hN : ag_N E dC dI dT A me p l e R s m args below meth c Q ad0 K res) (hXw : ag_Xw XS) (hMet : ag_Met MT XS E dC dI dT l CF) {idx mid n : Nat} (hMT : MT[mid]? = some me2) (hs : ag_site me2 n) (hnn : me2.1.name = "<init>") (hrn : ae_mR me2 = none) (hm : Cond.methodLink me.1.cls idx me2.1 ∈ lw_gt) (hm2 : Cond.instanceMethod me2.1 ∈ lw_gt) (hdg : decode me.2.1 pc = .ok (.invokespecial idx, 3)) (h : ae_pop n st [] (fun as st2 => ae_r1 st2 (fun i r => ae_call MT CF d q me mid (.inr (.inr (.inl i)) :: as) r w cs sl (K (pc + 3) lo))) = some res) : ag_H E dC dI dT A me p l e R s m args below meth c Q ad0 pc lo st w cs sl := by
  intro ad ws H locs lv ls stv hat
  obtain ⟨hcs, hex, had, hl, hlo, hst, hw, hP, hD, hS⟩ := hat
  obtain ⟨hx, hb, hml, hown, hts, hK, hA, hlk, hret, hnm, hR1, hR2, hR3, hR4, hXS⟩ := hF
  obtain ⟨ps, r, e0, hpl, h0⟩ := ae_pop_inv _ _ _ _ h
  clear h
  subst e0
  have h := h0
  clear h0
  rw [List.append_nil] at h
  obtain ⟨i, r, e0, h0⟩ := ae_r1_inv h
  clear h
  have h := h0
  clear h0
  subst e0
  obtain ⟨pv, rv, rfl, hps, hrest⟩ := ag_S_split hst
  obtain ⟨v1, rv2, e0, ⟨q1, hq1, e2⟩, hrest0⟩ := ag_S_cons hrest
  clear hrest
  subst e0
  subst e2
  have hrest := hrest0
  clear hrest0
  unfold ae_call at h
  obtain ⟨me3, hme, h0⟩ := ae_some_inv h
  clear h
  have h := h0
  clear h0
  rw [ae_nth_eq, hMT] at hme
  cases hme
  obtain ⟨hc, h0⟩ := ae_if_inv h
  clear h
  have h := h0
  clear h0
  obtain ⟨g1, hc⟩ := ae_and hc
  obtain ⟨g2, hc⟩ := ae_and hc
  obtain ⟨g3, hc⟩ := ae_and hc
  obtain ⟨g4, hc⟩ := ae_and hc
  obtain ⟨g5, g6⟩ := ae_and hc
  have g1 := ae_ble g1
  have g2 := ae_ble g2
  have g3 := ae_ble g3
  have g4 := ae_ble g4
  have g5 := ae_ble g5
  have g6 := ae_ble g6
  obtain ⟨r2, hcf, h0⟩ := ae_some_inv h
  clear h
  have h := h0
  clear h0
  have hfr := ag_free hD hS hA
  have hM := hMet mid _ _ me2 _ w r2 hcf hMT g5 (.ref q1 :: pv.reverse) ad ws H.size had ⟨⟨q1, hq1, rfl⟩, ag_S_rev hps⟩ hw
  have hcb := ag_callB (me := me) (R := R) (idx := idx) hs hts hm (by rw [hR1]; exact g1) (by rw [hR2]; exact g2)
  rw [hR1, hR2, hrn] at hcb
  have hr := va_runI (e := e) (below := below) (meth := meth) (locs := locs) (rest := rv2) (nL := ae_mL me) ⟨hx, hb, hml, hown, hts⟩ hM ⟨hcb, hnn, hts _ hm2⟩ (ag_preS hXw hK hP hD hS hA hXS (.ref q1 :: pv.reverse)) (g := F0 m pc ls (pv ++ .ref q1 :: rv2)) rfl (by rw [List.length_reverse, ← ag_S_len hps, hpl]) hl.1 (by rw [List.reverse_reverse]) (lv_room (by rw [ag_wd hE hrest]; exact g6)) hdg ⟨by rw [hR3]; exact g3, by rw [hR4]; exact g4⟩
  exact ag_after hr hS hfr (fun v x ws2 H1 locs1 k1 k2 k3 k4 k5 k6 => hN _ _ _ _ _ _ h _ ws2 H1 locs1 lv ls _ ⟨⟨g3, g4⟩, (by obtain ⟨t, ht⟩ := hex; exact ⟨t ++ x, by rw [ht, List.append_assoc]⟩), k1, hl, ag_L_mono x hlo, ag_S_app (ag_O_list k2) (ag_S_mono x hrest), k3, k4, k5, k6⟩)

theorem as_invn (hE : ∀ k, E k = .null ∨ ∃ q, E k = .ref q) (hF : ag_F XS dC dI dT A me d q p R s m args meth c) (hN : ag_N E dC dI dT A me p l e R s m args below meth c Q ad0 K res) (hXw : ag_Xw XS) (hMet : ag_Met MT XS E dC dI dT l CF) {idx mid n : Nat} {host : String} (hMT : MT[mid]? = some me2) (hs : ag_site me2 n) (hnn : me2.1.name = "<init>") (hrn : ae_mR me2 = none) (hm : va_Nw (.methodLinkNest me.1.cls idx me2.1 host) s) (hm2 : Cond.instanceMethod me2.1 ∈ lw_gt) (hdg : decode me.2.1 pc = .ok (.invokespecial idx, 3)) (h : ae_pop n st [] (fun as st2 => ae_r1 st2 (fun i r => ae_call MT CF d q me mid (.inr (.inr (.inl i)) :: as) r w cs sl (K (pc + 3) lo))) = some res) : ag_H E dC dI dT A me p l e R s m args below meth c Q ad0 pc lo st w cs sl := by
  intro ad ws H locs lv ls stv hat
  obtain ⟨hcs, hex, had, hl, hlo, hst, hw, hP, hD, hS⟩ := hat
  obtain ⟨hx, hb, hml, hown, hts, hK, hA, hlk, hret, hnm, hR1, hR2, hR3, hR4, hXS⟩ := hF
  obtain ⟨ps, r, e0, hpl, h0⟩ := ae_pop_inv _ _ _ _ h
  clear h
  subst e0
  have h := h0
  clear h0
  rw [List.append_nil] at h
  obtain ⟨i, r, e0, h0⟩ := ae_r1_inv h
  clear h
  have h := h0
  clear h0
  subst e0
  obtain ⟨pv, rv, rfl, hps, hrest⟩ := ag_S_split hst
  obtain ⟨v1, rv2, e0, ⟨q1, hq1, e2⟩, hrest0⟩ := ag_S_cons hrest
  clear hrest
  subst e0
  subst e2
  have hrest := hrest0
  clear hrest0
  unfold ae_call at h
  obtain ⟨me3, hme, h0⟩ := ae_some_inv h
  clear h
  have h := h0
  clear h0
  rw [ae_nth_eq, hMT] at hme
  cases hme
  obtain ⟨hc, h0⟩ := ae_if_inv h
  clear h
  have h := h0
  clear h0
  obtain ⟨g1, hc⟩ := ae_and hc
  obtain ⟨g2, hc⟩ := ae_and hc
  obtain ⟨g3, hc⟩ := ae_and hc
  obtain ⟨g4, hc⟩ := ae_and hc
  obtain ⟨g5, g6⟩ := ae_and hc
  have g1 := ae_ble g1
  have g2 := ae_ble g2
  have g3 := ae_ble g3
  have g4 := ae_ble g4
  have g5 := ae_ble g5
  have g6 := ae_ble g6
  obtain ⟨r2, hcf, h0⟩ := ae_some_inv h
  clear h
  have h := h0
  clear h0
  have hfr := ag_free hD hS hA
  have hM := hMet mid _ _ me2 _ w r2 hcf hMT g5 (.ref q1 :: pv.reverse) ad ws H.size had ⟨⟨q1, hq1, rfl⟩, ag_S_rev hps⟩ hw
  have hcn := va_cnB (own := me.1.cls) (host := host) (index := idx) (R := R) (rm := ag_rm me2 (d - 1) (q - (ae_mL me2 + 19))) (y := me2.1) (bytes := me2.2.1) (maxL := ae_mL me2) (ret := ae_mR me2) (ws := ag_ws me2) n hts (ag_goodIn hs.1) rfl rfl rfl hm (hts _ hs.2.1) ⟨hs.2.2.1, hs.2.2.2.1, hs.2.2.2.2⟩ ⟨by rw [hR1]; show d - 1 + 1 ≤ _; omega, by rw [hR2]; show 8 + (ae_mL me2 + 11) + (q - (ae_mL me2 + 19)) ≤ _; omega⟩
  rw [hrn] at hcn
  have hr := va_runIN (e := e) (below := below) (meth := meth) (locs := locs) (rest := rv2) (nL := ae_mL me) ⟨hx, hb, hml, hown, hts⟩ hM ⟨hcn, hnn, hts _ hm2⟩ (ag_preS hXw hK hP hD hS hA hXS (.ref q1 :: pv.reverse)) (g := F0 m pc ls (pv ++ .ref q1 :: rv2)) rfl (by rw [List.length_reverse, ← ag_S_len hps, hpl]) hl.1 (by rw [List.reverse_reverse]) (lv_room (by rw [ag_wd hE hrest]; exact g6)) hdg ⟨by rw [hR3]; exact g3, by rw [hR4]; exact g4⟩
  exact ag_after hr hS hfr (fun v x ws2 H1 locs1 k1 k2 k3 k4 k5 k6 => hN _ _ _ _ _ _ h _ ws2 H1 locs1 lv ls _ ⟨⟨g3, g4⟩, (by obtain ⟨t, ht⟩ := hex; exact ⟨t ++ x, by rw [ht, List.append_assoc]⟩), k1, hl, ag_L_mono x hlo, ag_S_app (ag_O_list k2) (ag_S_mono x hrest), k3, k4, k5, k6⟩)

theorem as_obj (hE : ∀ k, E k = .null ∨ ∃ q, E k = .ref q) (hF : ag_F XS dC dI dT A me d q p R s m args meth c) (hN : ag_N E dC dI dT A me p l e R s m args below meth c Q ad0 K res) {idx : Nat} (hm : Cond.methodLink me.1.cls idx objectInit ∈ lw_gt) (hdg : decode me.2.1 pc = .ok (.invokespecial idx, 3)) (h : ae_pop 0 st [] (fun _ st2 => ae_r1 st2 (fun _ r => ae_if (Nat.ble 1 d && Nat.ble (ae_wd r + 12) q) (K (pc + 3) lo r w cs sl))) = some res) : ag_H E dC dI dT A me p l e R s m args below meth c Q ad0 pc lo st w cs sl := by
  intro ad ws H locs lv ls stv hat
  obtain ⟨hcs, hex, had, hl, hlo, hst, hw, hP, hD, hS⟩ := hat
  obtain ⟨hx, hb, hml, hown, hts, hK, hA, hlk, hret, hnm, hR1, hR2, hR3, hR4, hXS⟩ := hF
  have h : ae_r1 st (fun _ r => ae_if (Nat.ble 1 d && Nat.ble (ae_wd r + 12) q) (K (pc + 3) lo r w cs sl)) = some res := h
  obtain ⟨i, r, e0, h0⟩ := ae_r1_inv h
  clear h
  have h := h0
  clear h0
  subst e0
  obtain ⟨hc, h0⟩ := ae_if_inv h
  clear h
  have h := h0
  clear h0
  obtain ⟨g1, g2⟩ := ae_and hc
  have g1 := ae_ble g1
  have g2 := ae_ble g2
  obtain ⟨v1, r1, e1, ⟨q1, hq1, e2⟩, hrest⟩ := ag_S_cons hst
  subst e1
  subst e2
  refine W.objInit hx hb hown (hts _ hm) (hts (.instanceMethod objectInit) (by decide +kernel)) (hts (.code objectInit ⟨#[0xb1]⟩ 1 none) (by decide +kernel)) (g := F0 m pc ls (.ref q1 :: r1)) rfl (by rw [hml]; exact hl.1) rfl hdg (by rw [hR1]; exact g1) (by rw [hR2, ag_wd hE hrest]; show 2 * 0 + _ + 12 ≤ _; omega) ?_
  exact hN _ _ _ _ _ _ h ad ws H locs lv ls _ ⟨hcs, hex, had, hl, hlo, hrest, hw, hP, hD, hS⟩

theorem as_acp (hE : ∀ k, E k = .null ∨ ∃ q, E k = .ref q) (hF : ag_F XS dC dI dT A me d q p R s m args meth c) (hN : ag_N E dC dI dT A me p l e R s m args below meth c Q ad0 K res) {idx : Nat} (hm : Cond.methodLink me.1.cls idx arraycopyName ∈ lw_gt) (hdg : decode me.2.1 pc = .ok (.invokestatic idx, 3)) (h : ae_cp st (fun n i j r => ae_arr (ae_nth w i) (fun t1 n1 _ _ => ae_arr (ae_nth w j) (fun t0 n0 dv ex => ae_if (Nat.beq t1 0 && (Nat.beq t0 0 && (Nat.beq n n1 && (Nat.ble n n0 && (Nat.ble n 1000000 && (Nat.ble 1 d && Nat.ble (ae_wd r + 60) q)))))) (ae_set w i (.inl (0, n1, dv, ex)) (fun w' => K (pc + 3) lo r w' cs sl))))) = some res) : ag_H E dC dI dT A me p l e R s m args below meth c Q ad0 pc lo st w cs sl := by
  intro ad ws H locs lv ls stv hat
  obtain ⟨hcs, hex, had, hl, hlo, hst, hw, hP, hD, hS⟩ := hat
  obtain ⟨hx, hb, hml, hown, hts, hK, hA, hlk, hret, hnm, hR1, hR2, hR3, hR4, hXS⟩ := hF
  obtain ⟨n, i, j, r, e0, h0⟩ := ae_cp_inv h
  clear h
  have h := h0
  clear h0
  subst e0
  obtain ⟨v1, r1, e1, ⟨y1, e2, hy1⟩, hst0⟩ := ag_S_cons hst
  clear hst
  have hst := hst0
  clear hst0
  subst e1
  subst e2
  obtain ⟨v1, r1, e1, ⟨y2, e2, hy2⟩, hst0⟩ := ag_S_cons hst
  clear hst
  have hst := hst0
  clear hst0
  subst e1
  subst e2
  obtain ⟨v1, r1, e1, ⟨qi, hqi, e2⟩, hst0⟩ := ag_S_cons hst
  clear hst
  have hst := hst0
  clear hst0
  subst e1
  subst e2
  obtain ⟨v1, r1, e1, ⟨y4, e2, hy4⟩, hst0⟩ := ag_S_cons hst
  clear hst
  have hst := hst0
  clear hst0
  subst e1
  subst e2
  obtain ⟨v1, r1, e1, ⟨qj, hqj, e2⟩, hst0⟩ := ag_S_cons hst
  clear hst
  have hst := hst0
  clear hst0
  subst e1
  subst e2
  have hy1 : y1 = nI n := hy1
  have hy2 : y2 = nI 0 := hy2
  have hy4 : y4 = nI 0 := hy4
  subst hy1
  subst hy2
  subst hy4
  obtain ⟨t1, n1, dv1, ex1, hwi, h0⟩ := ae_arr_inv h
  clear h
  have h := h0
  clear h0
  obtain ⟨t0, n0, dv, ex, hwj, h0⟩ := ae_arr_inv h
  clear h
  have h := h0
  clear h0
  obtain ⟨hc, h0⟩ := ae_if_inv h
  clear h
  have h := h0
  clear h0
  obtain ⟨g1, hc⟩ := ae_and hc
  obtain ⟨g2, hc⟩ := ae_and hc
  obtain ⟨g3, hc⟩ := ae_and hc
  obtain ⟨g4, hc⟩ := ae_and hc
  obtain ⟨g5, hc⟩ := ae_and hc
  obtain ⟨g6, g7⟩ := ae_and hc
  have g1 := ae_beq g1
  have g2 := ae_beq g2
  have g3 := ae_beq g3
  have g4 := ae_ble g4
  have g5 := ae_ble g5
  have g6 := ae_ble g6
  have g7 := ae_ble g7
  subst g1
  subst g2
  subst g3
  rw [ae_set_eq] at h
  rw [ae_nth_eq] at hwi hwj
  obtain ⟨en, hen, hC⟩ := ag_cell had hw hqi hwi
  obtain ⟨b1, rfl, hT1, -⟩ := ag_C_arr hC
  obtain ⟨g, rfl⟩ := ag_T0 hT1
  obtain ⟨en2, hen2, hC2⟩ := ag_cell had hw hqj hwj
  obtain ⟨b2, rfl, hT2, hall⟩ := ag_C_arr hC2
  obtain ⟨f, rfl⟩ := ag_T0 hT2
  have z0 : (nI 0).toNatClampNeg = 0 := nI_clamp (by omega)
  have zn : (nI n).toNatClampNeg = n := nI_clamp (by omega)
  have hwd := ag_wd hE hst
  refine va_copyi hx hb (by rw [hml]; exact hl.1.symm) hown (hts _ hm) (hts (.native arraycopyName) (by decide +kernel)) (hts (.static arraycopyName) (by decide +kernel)) (hts (.initialized "java/lang/System") (by decide +kernel)) hK hP hD hS j i 0 0 hen2 hen rfl rfl rfl (nI_pos (by omega)) (nI_pos (by omega)) (nI_pos (by omega)) (by rw [z0, zn]; omega) (by rw [z0, zn]; omega) (fun _ _ => rfl) (by rw [hR1]; exact g6) (by rw [hR2, hwd]; exact Nat.le_trans (Nat.add_le_add_left (show nativeFrameWords "java/lang/System" "arraycopy" 5 + 11 ≤ 60 by decide +kernel) _) g7) hdg (fun H1 locs1 hP1 hD1 hS1 => ?_)
  rw [z0, zn] at hP1 hD1
  refine hN _ _ _ _ _ _ h ad _ H1 locs1 lv ls _ ⟨hcs, hex, ag_set_ad had hen, hl, hlo, hst, ag_W_set (q := (qi, .inl (dT 0, n, .inl (va_cpy f g 0 0 n)))) (ag_mkA (show ag_T 0 (.inl _) from Or.inl rfl) (fun j2 hj2 => ?_)) hw, hP1, hD1, hS1⟩
  show ag_V E ad _ (.int (va_cpy f g 0 0 n j2))
  rw [pk_cpy_in (Nat.zero_le _) (by omega), Nat.sub_zero, Nat.zero_add]
  exact hall j2 (by omega)

end CALLS
