/-! ===== arrays of arrays in the world; returns ===== -/
def mr_w (en : va_E) : Nat → Nat → va_W
  | 0, _ => []
  | n + 1, a => (a, en) :: mr_w en n (a + 1)
def mr_a : Nat → Nat → List Nat
  | 0, _ => []
  | n + 1, a => a :: mr_a n (a + 1)
theorem mr_fst (en : va_E) : ∀ n a : Nat, (mr_w en n a).map Prod.fst = mr_a n a
  | 0, _ => rfl
  | n + 1, a => by
    show a :: (mr_w en n (a + 1)).map Prod.fst = _
    rw [mr_fst en n (a + 1)]
    rfl
theorem mr_at (en : va_E) : ∀ (n a k : Nat) (q : Nat × va_E), (mr_w en n a)[k]? = some q → k < n ∧ q = (a + k, en)
  | 0, _, k, q, h => by simp [mr_w] at h
  | n + 1, a, 0, q, h => by
    have h : (a, en) = q := by simpa [mr_w] using h
    exact ⟨by omega, h.symm⟩
  | n + 1, a, k + 1, q, h => by
    have h : (mr_w en n (a + 1))[k]? = some q := by simpa [mr_w] using h
    obtain ⟨h1, h2⟩ := mr_at en n (a + 1) k q h
    exact ⟨by omega, by rw [h2]; congr 1; omega⟩
theorem mr_ad : ∀ (n a k : Nat), k < n → (mr_a n a)[k]? = some (a + k)
  | 0, _, k, h => absurd h (Nat.not_lt_zero k)
  | n + 1, a, 0, _ => rfl
  | n + 1, a, k + 1, h => by
    show (mr_a n (a + 1))[k]? = _
    rw [mr_ad n (a + 1) k (by omega)]
    congr 1
    omega
theorem mr_W {E : Nat → Value} {dT : Nat → ClassId} {ad : List Nat} {c : ae_C} {en : va_E} (h : ag_C E dT ad c en) : ∀ n a : Nat, ag_W E dT ad (ae_rep n c) (mr_w en n a)
  | 0, _ => trivial
  | n + 1, a => ⟨h, mr_W h n (a + 1)⟩
theorem mr_ag (dv : ae_V) : ∀ (n j0 a0 j : Nat), j0 ≤ j → j < j0 + n → ae_ag dv (ae_rng n j0 a0) j = .inr (.inr (.inl (a0 + (j - j0))))
  | 0, j0, a0, j, h1, h2 => by omega
  | n + 1, j0, a0, j, h1, h2 => by
    show cond (Nat.beq j0 j) (.inr (.inr (.inl a0))) (ae_ag dv (ae_rng n (j0 + 1) (a0 + 1)) j) = _
    by_cases h : j0 = j
    · subst h
      rw [show Nat.beq j0 j0 = true from Nat.beq_refl j0, Nat.sub_self]
      rfl
    · have hb : Nat.beq j0 j = false := by
        cases hb : Nat.beq j0 j with
        | false => rfl
        | true => exact absurd (Nat.eq_of_beq_eq_true hb) h
      rw [hb]
      show ae_ag dv (ae_rng n (j0 + 1) (a0 + 1)) j = _
      rw [mr_ag dv n (j0 + 1) (a0 + 1) j (by omega) (by omega)]
      congr 3
      omega
def mr_bd (t : Nat) : ag_Bd := match t with
  | 1 => .inr (.inl (fun _ => 0))
  | _ => .inl (fun _ => 0)
section SOUND2
variable {XS : (Nat → Prop) → State → Prop} {E : Nat → Value} {dC : Nat → ClassId} {dI : Nat → Nat → Nat} {dT : Nat → ClassId} {A : Nat → Prop} {me : ae_M} {d q : Nat} {p : Program} {l : Launch} {e : Env} {R : Room} {s : State} {m : MethodId} {args : Array Value} {below : List Frame} {meth : Method} {c : Code} {Q : State → Prop} {ad0 : List Nat}
variable {K : ae_K} {res : ae_R} {pc : Nat} {lo : ae_L} {st : List ae_V} {w : List ae_C} {cs sl : Nat}

theorem as_mna (hE : ∀ k, E k = .null ∨ ∃ q, E k = .ref q) (hF : ag_F XS dC dI dT A me d q p R s m args meth c) (hN : ag_N E dC dI dT A me p l e R s m args below meth c Q ad0 K res) (hE0 : E 0 = .null) {idx t : Nat} (hcl : Cond.classLink me.1.cls idx ("[" ++ (FieldType.array (ae_ity t)).toString) ∈ lw_gt) (harr : Cond.arrayClass (ae_ity t) ∈ lw_gt) (hov : mq_ov (ae_ity t) s) (hdg : decode me.2.1 pc = .ok (.multianewarray idx 2, 4)) (h : ae_n2 st (fun n k r => ae_if (Nat.ble n 1000 && (Nat.ble k 1000 && (Nat.ble (cs + (1 + n)) (ae_mc me) && (Nat.ble (sl + (n + n * k)) (ae_ms me) && Nat.blt t 2)))) (ae_n w.length (fun z => ae_app w (.inl (3 + t, n, .inr (.inr (.inr 0)), ae_rng n 0 (z + 1)) :: ae_rep n (.inl (t, k, ae_dv t, []))) (fun w' => K (pc + 4) lo (.inr (.inr (.inl z)) :: r) w' (cs + 1 + n) (sl + n + n * k))))) = some res) : ag_H E dC dI dT A me p l e R s m args below meth c Q ad0 pc lo st w cs sl := by
  intro ad ws H locs lv ls stv hat
  obtain ⟨hcs, hex, had, hl, hlo, hst, hw, hP, hD, hS⟩ := hat
  obtain ⟨hx, hb, hml, hown, hts, hK, hA, hlk, hret, hnm, hR1, hR2, hR3, hR4, hXS⟩ := hF
  obtain ⟨n, k, r, e0, h0⟩ := ae_n2_inv h
  clear h
  have h := h0
  clear h0
  subst e0
  obtain ⟨v1, r1, e1, ⟨y1, e2, hy1⟩, hst0⟩ := ag_S_cons hst
  clear hst
  have hst := hst0
  clear hst0
  subst e1
  subst e2
  obtain ⟨v1, r2, e1, ⟨y2, e2, hy2⟩, hst0⟩ := ag_S_cons hst
  clear hst
  have hst := hst0
  clear hst0
  subst e1
  subst e2
  have hy1 : y1 = nI k := hy1
  have hy2 : y2 = nI n := hy2
  subst hy1
  subst hy2
  obtain ⟨hc, h0⟩ := ae_if_inv h
  clear h
  have h := h0
  clear h0
  obtain ⟨g1, hc⟩ := ae_and hc
  obtain ⟨g2, hc⟩ := ae_and hc
  obtain ⟨g3, hc⟩ := ae_and hc
  obtain ⟨g4, g5⟩ := ae_and hc
  have g1 := ae_ble g1
  have g2 := ae_ble g2
  have g3 := ae_ble g3
  have g4 := ae_ble g4
  have g5 := ae_blt g5
  rw [ae_n_eq, ae_app_eq] at h
  have zn : (nI n).toNatClampNeg = n := nI_clamp (by omega)
  have zk : (nI k).toNatClampNeg = k := nI_clamp (by omega)
  have hcb : componentBytes (ae_ity t) ≤ 8 ∧ fits (ae_ity t) (defaultValue (ae_ity t)) = true ∧ (defaultValue (ae_ity t)).isDefault = true := by
    rcases (show t = 0 ∨ t = 1 by omega) with rfl | rfl <;> exact ⟨by decide, rfl, rfl⟩
  have hkb : k * componentBytes (ae_ity t) ≤ 1000 * 8 := Nat.mul_le_mul g2 hcb.1
  refine mq_W hx hb hown (hts _ hcl) hov (hts _ harr) (nI_pos (by omega)) (nI_pos (by omega)) (by rw [zn]; omega) (by rw [zk]; omega) (by rw [zk]; omega) hcb.2.1 hcb.2.2 (by rw [zn, hR3]; exact g3) (by rw [zn, zk, hR4]; exact g4) hdg ?_
  rw [zn, zk]
  intro H1 cA cB fA fB z1 z2 z3 z4
  have hA1 : cA = dT (3 + t) := by
    rcases (show t = 0 ∨ t = 1 by omega) with rfl | rfl
    · exact Option.some.inj (fA.symm.trans (hK.2 3 _ rfl).2)
    · exact Option.some.inj (fA.symm.trans (hK.2 4 _ rfl).2)
  have hB1 : cB = dT t := by
    rcases (show t = 0 ∨ t = 1 by omega) with rfl | rfl
    · exact Option.some.inj (fB.symm.trans (hK.2 0 _ rfl).2)
    · exact Option.some.inj (fB.symm.trans (hK.2 1 _ rfl).2)
  subst hA1
  subst hB1
  have hinner : mq_i (dT t) k (defaultValue (ae_ity t)) = vp_cell (dT t) (k, mr_bd t) := by
    rcases (show t = 0 ∨ t = 1 by omega) with rfl | rfl <;> rfl
  have hrow : ∀ (ad9 : List Nat), ag_C E dT ad9 (.inl (t, k, ae_dv t, [])) (.inl (dT t, k, mr_bd t)) := fun ad9 => by
    rcases (show t = 0 ∨ t = 1 by omega) with rfl | rfl
    · exact ag_mkA (show ag_T 0 (.inl _) from Or.inl rfl) (fun j _ => ⟨0, rfl, nI_0.symm⟩)
    · exact ag_mkA (show ag_T 1 (.inr (.inl _)) from rfl) (fun j _ => ⟨0, rfl, rfl⟩)
  have hlen : w.length = ad.length := by rw [ag_W_len hw, ← had, List.length_map]
  let eo : va_E := .inl (dT (3 + t), n, .inr (.inr (.inr (.inr (fun j => if j < n then some (H.size + 1 + j) else none)))))
  let er : va_E := .inl (dT t, k, mr_bd t)
  have hX : ∀ (k9 : Nat) (x : Nat × va_E), ((H.size, eo) :: mr_w er n (H.size + 1))[k9]? = some x → x.1 = H.size + k9 ∧ va_at (dC, dI) vwCl x H1 := fun k9 x hx9 => by
    cases k9 with
    | zero =>
      have e9 : (H.size, eo) = x := by simpa using hx9
      rw [← e9]
      exact ⟨rfl, z2⟩
    | succ k8 =>
      have e9 : (mr_w er n (H.size + 1))[k8]? = some x := by simpa using hx9
      obtain ⟨q1, q2⟩ := mr_at er n (H.size + 1) k8 x e9
      rw [q2]
      refine ⟨by show H.size + 1 + k8 = _; omega, ?_⟩
      have h9 := z4 k8 q1
      rw [hinner] at h9
      exact h9
  have hPn : va_P (dC, dI) vwCl (ws ++ ((H.size, eo) :: mr_w er n (H.size + 1))) H1 := va_P.app (hP.kept (fun k9 x hx9 => z3 x.1 ((hP k9 x hx9).lt))) (fun k9 x hx9 => (hX k9 x hx9).2)
  have hDn : va_D A (ws ++ ((H.size, eo) :: mr_w er n (H.size + 1))) := by
    refine va_D.app hD ⟨fun i j x y hi hj hxy => ?_, fun k9 x hx9 => ?_⟩ (fun i j x y hi hj hxy => ?_)
    · have := (hX i x hi).1
      have := (hX j y hj).1
      omega
    · have := (hX k9 x hx9).1
      exact hA _ (by have := hS.1; omega)
    · have := (hP i x hi).lt
      have := (hX j y hj).1
      omega
  have hSn : va_S A s.heap H1 (locs ++ (List.range n).map fun j => ⟨H.size, j⟩) := by
    refine ⟨by rw [z1]; have := hS.1; omega, fun x h1 h2 => (z3 x (Nat.lt_of_lt_of_le h1 hS.1)).trans (hS.2.1 x h1 h2), fun x hx9 => ?_⟩
    rcases List.mem_append.mp hx9 with h9 | h9
    · exact hS.2.2 x h9
    · obtain ⟨j, -, rfl⟩ := List.mem_map.mp h9
      exact hA _ hS.1
  obtain ⟨t0, ht0⟩ := hex
  refine hN _ _ _ _ _ _ h (ad ++ (H.size :: mr_a n (H.size + 1))) (ws ++ ((H.size, eo) :: mr_w er n (H.size + 1))) H1 _ lv ls _ ⟨⟨by omega, by omega⟩, ⟨t0 ++ (H.size :: mr_a n (H.size + 1)), by rw [ht0, List.append_assoc]⟩, by rw [List.map_append, had, List.map_cons, mr_fst], hl, ag_L_mono _ hlo, ⟨⟨H.size, ?_, rfl⟩, ag_S_mono _ hst⟩, ag_W_app (ag_W_mono _ hw) ⟨?_, mr_W (hrow _) n _⟩, hPn, hDn, hSn⟩
  · rw [hlen, List.getElem?_append_right (Nat.le_refl _), Nat.sub_self]
    rfl
  · refine ag_mkA ?_ (fun j hj => ?_)
    · rcases (show t = 0 ∨ t = 1 by omega) with rfl | rfl
      · exact Or.inl rfl
      · exact Or.inr rfl
    · rw [mr_ag _ n 0 (w.length + 1) j (Nat.zero_le _) (by omega), Nat.sub_zero]
      refine ⟨H.size + 1 + j, ?_, ?_⟩
      · rw [hlen, List.getElem?_append_right (by omega), show ad.length + 1 + j - ad.length = j + 1 by omega]
        show (mr_a n (H.size + 1))[j]? = _
        exact mr_ad n (H.size + 1) j hj
      · show va_rf (if j < n then some (H.size + 1 + j) else none) = _
        rw [if_pos hj]
        rfl

/-- a return's stack -/
def ag_rt (E : Nat → Value) (ad : List Nat) (ret : Option FieldType) (ins : Instr) (rv : Option ae_V) (stv : List Value) : Prop :=
  (ins = .return_ ∧ ret = none ∧ rv = none ∧ stv = []) ∨ (ins = .ireturn ∧ ∃ (a : ae_I) (x : Int32) (ty : FieldType), rv = some (.inl a) ∧ stv = [.int x] ∧ ag_I a x ∧ ret = some ty ∧ narrow ty (.int x) = .int x) ∨
  (ins = .lreturn ∧ ∃ (a : ae_I) (x : Int64), rv = some (.inr (.inl a)) ∧ stv = [.long x] ∧ ag_J a x ∧ ret = some .long) ∨
  (ins = .areturn ∧ ∃ (a : Nat ⊕ Nat) (v : Value) (rt : FieldType), rv = some (.inr (.inr a)) ∧ stv = [v] ∧ ag_V E ad (.inr (.inr a)) v ∧ (v = .null ∨ ∃ z, v = .ref z) ∧ ret = some rt ∧ ((∃ n, rt = .object n) ∨ ∃ t, rt = .array t))
/-- what is wanted at a return -/
def ag_fin (E : Nat → Value) (dC : Nat → ClassId) (dI : Nat → Nat → Nat) (dT : Nat → ClassId) (A : Nat → Prop) (me : ae_M) (p : Program) (l : Launch) (e : Env) (R : Room) (s : State) (m : MethodId) (args : Array Value) (below : List Frame) (meth : Method) (c : Code) (Q : State → Prop) (ad0 : List Nat) (res : ae_R) : Prop :=
  ∀ (ins : Instr) (pc : Nat) (ls : Array Slot) (stv : List Value) (ad : List Nat) (ws : va_W) (H : Heap) (locs : List Loc) (cs sl : Nat), decode me.2.1 pc = .ok (ins, 1) → ag_rt E ad (ae_mR me) ins res.1 stv → (cs ≤ ae_mc me ∧ sl ≤ ae_ms me) → (∃ t, ad = ad0 ++ t) → ws.map Prod.fst = ad → ag_W E dT ad res.2 ws → va_P (dC, dI) vwCl ws H → va_D A ws → va_S A s.heap H locs →
    W p l e R s m args below meth c H locs cs sl Q (F0 m pc ls stv)

theorem as_iret (hE : ∀ k, E k = .null ∨ ∃ q, E k = .ref q) (hfin : ag_fin E dC dI dT A me p l e R s m args below meth c Q ad0 res) (hdg : decode me.2.1 pc = .ok (.ireturn, 1)) (h : ae_one st (fun v => ae_zr (ae_mR me) v w) = some res) : ag_H E dC dI dT A me p l e R s m args below meth c Q ad0 pc lo st w cs sl := by
  intro ad ws H locs lv ls stv hat
  obtain ⟨hcs, hex, had, hl, hlo, hst, hw, hP, hD, hS⟩ := hat
  obtain ⟨v, e0, h0⟩ := ae_one_inv h
  clear h
  have h := h0
  clear h0
  subst e0
  obtain ⟨v1, r1, e1, hv, hst0⟩ := ag_S_cons hst
  clear hst
  have hst := hst0
  clear hst0
  have e2 := ag_S_nil hst
  subst e1
  subst e2
  unfold ae_zr at h
  split at h
  · rename_i a hr
    cases h
    obtain ⟨x, rfl, hx⟩ := hv
    exact hfin .ireturn pc ls _ ad ws H locs cs sl hdg (Or.inr (Or.inl ⟨rfl, _, x, _, rfl, rfl, hx, hr, rfl⟩)) hcs hex had hw hP hD hS
  · rename_i n hr
    cases hb : Nat.blt n 2 with
    | false => rw [hb] at h; cases h
    | true =>
      rw [hb] at h
      cases h
      obtain ⟨x, rfl, hx⟩ := hv
      have hx2 : x = nI n := hx
      have hn := ae_blt hb
      refine hfin .ireturn pc ls _ ad ws H locs cs sl hdg (Or.inr (Or.inl ⟨rfl, _, x, _, rfl, rfl, hx, hr, ?_⟩)) hcs hex had hw hP hD hS
      rw [hx2]
      rcases (show n = 0 ∨ n = 1 by omega) with rfl | rfl <;> decide +kernel
  · cases h

theorem as_lret (hE : ∀ k, E k = .null ∨ ∃ q, E k = .ref q) (hfin : ag_fin E dC dI dT A me p l e R s m args below meth c Q ad0 res) (hdg : decode me.2.1 pc = .ok (.lreturn, 1)) (h : ae_one st (fun v => ae_jr (ae_mR me) v w) = some res) : ag_H E dC dI dT A me p l e R s m args below meth c Q ad0 pc lo st w cs sl := by
  intro ad ws H locs lv ls stv hat
  obtain ⟨hcs, hex, had, hl, hlo, hst, hw, hP, hD, hS⟩ := hat
  obtain ⟨v, e0, h0⟩ := ae_one_inv h
  clear h
  have h := h0
  clear h0
  subst e0
  obtain ⟨v1, r1, e1, hv, hst0⟩ := ag_S_cons hst
  clear hst
  have hst := hst0
  clear hst0
  have e2 := ag_S_nil hst
  subst e1
  subst e2
  unfold ae_jr at h
  split at h
  · rename_i a hr
    cases h
    obtain ⟨x, rfl, hx⟩ := hv
    exact hfin .lreturn pc ls _ ad ws H locs cs sl hdg (Or.inr (Or.inr (Or.inl ⟨rfl, _, x, rfl, rfl, hx, hr⟩))) hcs hex had hw hP hD hS
  · cases h

theorem as_aret (hE : ∀ k, E k = .null ∨ ∃ q, E k = .ref q) (hfin : ag_fin E dC dI dT A me p l e R s m args below meth c Q ad0 res) (hdg : decode me.2.1 pc = .ok (.areturn, 1)) (h : ae_one st (fun v => ae_ar (ae_mR me) v w) = some res) : ag_H E dC dI dT A me p l e R s m args below meth c Q ad0 pc lo st w cs sl := by
  intro ad ws H locs lv ls stv hat
  obtain ⟨hcs, hex, had, hl, hlo, hst, hw, hP, hD, hS⟩ := hat
  obtain ⟨v, e0, h0⟩ := ae_one_inv h
  clear h
  have h := h0
  clear h0
  subst e0
  obtain ⟨v1, r1, e1, hv, hst0⟩ := ag_S_cons hst
  clear hst
  have hst := hst0
  clear hst0
  have e2 := ag_S_nil hst
  subst e1
  subst e2
  have hnr : ∀ a : Nat ⊕ Nat, ag_V E ad (.inr (.inr a)) v1 → (v1 = .null ∨ ∃ z, v1 = .ref z) := fun a hv => by
    cases a with
    | inl i => obtain ⟨x, -, h2⟩ := hv; exact Or.inr ⟨x, h2⟩
    | inr i =>
      have h2 : v1 = E i := hv
      rw [h2]
      exact hE i
  unfold ae_ar at h
  split at h
  · rename_i n a hr
    cases h
    exact hfin .areturn pc ls _ ad ws H locs cs sl hdg (Or.inr (Or.inr (Or.inr ⟨rfl, _, v1, _, rfl, rfl, hv, hnr _ hv, hr, Or.inl ⟨_, rfl⟩⟩))) hcs hex had hw hP hD hS
  · rename_i n a hr
    cases h
    exact hfin .areturn pc ls _ ad ws H locs cs sl hdg (Or.inr (Or.inr (Or.inr ⟨rfl, _, v1, _, rfl, rfl, hv, hnr _ hv, hr, Or.inr ⟨_, rfl⟩⟩))) hcs hex had hw hP hD hS
  · cases h

theorem as_vret (hE : ∀ k, E k = .null ∨ ∃ q, E k = .ref q) (hfin : ag_fin E dC dI dT A me p l e R s m args below meth c Q ad0 res) (hdg : decode me.2.1 pc = .ok (.return_, 1)) (h : ae_vx (ae_mR me) st w = some res) : ag_H E dC dI dT A me p l e R s m args below meth c Q ad0 pc lo st w cs sl := by
  intro ad ws H locs lv ls stv hat
  obtain ⟨hcs, hex, had, hl, hlo, hst, hw, hP, hD, hS⟩ := hat
  unfold ae_vx at h
  split at h
  · rename_i hr
    cases h
    have e2 := ag_S_nil hst
    subst e2
    exact hfin .return_ pc ls _ ad ws H locs cs sl hdg (Or.inl ⟨rfl, hr, rfl, rfl⟩) hcs hex had hw hP hD hS
  · cases h

end SOUND2
