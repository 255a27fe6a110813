/-! ===== fields, arrays, new cells ===== -/
theorem as_fty {E : Nat → Value} {ad : List Nat} {ty : FieldType} {a : ae_V} {v : Value} (hE : ∀ k, E k = .null ∨ ∃ q, E k = .ref q) (h : ae_fty ty a = true) (hv : ag_V E ad a v) : narrow ty v = v ∧ fits ty v = true := by
  unfold ae_fty at h
  split at h
  · obtain ⟨x, rfl, -⟩ := hv
    exact ⟨rfl, rfl⟩
  · obtain ⟨x, rfl, -⟩ := hv
    exact ⟨rfl, rfl⟩
  · rename_i n z
    cases z with
    | inl i => obtain ⟨x, -, rfl⟩ := hv; exact ⟨rfl, rfl⟩
    | inr i =>
      have hv : v = E i := hv
      rcases hE i with e | ⟨x, e⟩ <;> rw [hv, e] <;> exact ⟨rfl, rfl⟩
  · rename_i n z
    cases z with
    | inl i => obtain ⟨x, -, rfl⟩ := hv; exact ⟨rfl, rfl⟩
    | inr i =>
      have hv : v = E i := hv
      rcases hE i with e | ⟨x, e⟩ <;> rw [hv, e] <;> exact ⟨rfl, rfl⟩
  · cases h
theorem ag_C_obj {E : Nat → Value} {dT : Nat → ClassId} {ad : List Nat} {ci : Nat} {fs : List ae_V} {en : va_E} (h : ag_C E dT ad (.inr (ci, fs)) en) : ∃ vs, en = .inr (ci, vs) ∧ ag_S E ad fs vs := by
  match en, h with
  | .inr (ci', vs), h => exact ⟨vs, by rw [h.1], h.2⟩
  | .inl _, h => exact h.elim
theorem ag_C_arr {E : Nat → Value} {dT : Nat → ClassId} {ad : List Nat} {t n : Nat} {dv : ae_V} {ex : List (Nat × ae_V)} {en : va_E} (h : ag_C E dT ad (.inl (t, n, dv, ex)) en) : ∃ b, en = .inl (dT t, n, b) ∧ ag_T t b ∧ ∀ j, j < n → ag_V E ad (ae_ag dv ex j) (ag_B b j) := by
  match en, h with
  | .inl (cA, n', b), h => exact ⟨b, by rw [h.1, h.2.1], h.2.2⟩
  | .inr _, h => exact h.elim
theorem ag_mkO {E : Nat → Value} {dT : Nat → ClassId} {ad : List Nat} {ci : Nat} {fs : List ae_V} {vs : List Value} (h : ag_S E ad fs vs) : ag_C E dT ad (.inr (ci, fs)) (.inr (ci, vs)) := ⟨rfl, h⟩
theorem ag_mkA {E : Nat → Value} {dT : Nat → ClassId} {ad : List Nat} {t n : Nat} {dv : ae_V} {ex : List (Nat × ae_V)} {b : ag_Bd} (h : ag_T t b) (h2 : ∀ j, j < n → ag_V E ad (ae_ag dv ex j) (ag_B b j)) : ag_C E dT ad (.inl (t, n, dv, ex)) (.inl (dT t, n, b)) := ⟨rfl, rfl, h, h2⟩
theorem ag_T0 {b : ag_Bd} (h : ag_T 0 b) : ∃ f, b = .inl f := by
  match b, h with
  | .inl f, _ => exact ⟨f, rfl⟩
  | .inr (.inl _), h => cases h
  | .inr (.inr (.inr (.inr _))), h => rcases h with h | h <;> cases h
theorem ag_T2 {b : ag_Bd} (h : ag_T 2 b) : ∃ f, b = .inl f := by
  match b, h with
  | .inl f, _ => exact ⟨f, rfl⟩
  | .inr (.inl _), h => cases h
  | .inr (.inr (.inr (.inr _))), h => rcases h with h | h <;> cases h
theorem ag_T1 {b : ag_Bd} (h : ag_T 1 b) : ∃ f, b = .inr (.inl f) := by
  match b, h with
  | .inl _, h => rcases h with h | h <;> cases h
  | .inr (.inl f), _ => exact ⟨f, rfl⟩
  | .inr (.inr (.inr (.inr _))), h => rcases h with h | h <;> cases h
theorem ag_T34 {t : Nat} {b : ag_Bd} (ht : t = 3 ∨ t = 4) (h : ag_T t b) : ∃ f, b = .inr (.inr (.inr (.inr f))) := by
  match b, h with
  | .inl _, h => rcases h with h | h <;> rcases ht with g | g <;> omega
  | .inr (.inl _), h => rcases ht with g | g <;> (have h : t = 1 := h) <;> omega
  | .inr (.inr (.inr (.inr f))), _ => exact ⟨f, rfl⟩
theorem ag_ix {j n : Nat} (h : j < n) (hn : n ≤ 1000000) : vp_in (nI j) n ∧ (nI j).toNatClampNeg = j := ⟨vp_in_nI h (by omega), nI_clamp (by omega)⟩
section SOUND2
variable {XS : (Nat → Prop) → State → Prop} {E : Nat → Value} {dC : Nat → ClassId} {dI : Nat → Nat → Nat} {dT : Nat → ClassId} {A : Nat → Prop} {me : ae_M} {d q : Nat} {p : Program} {l : Launch} {e : Env} {R : Room} {s : State} {m : MethodId} {args : Array Value} {below : List Frame} {meth : Method} {c : Code} {Q : State → Prop} {ad0 : List Nat}
variable {K : ae_K} {res : ae_R} {pc : Nat} {lo : ae_L} {st : List ae_V} {w : List ae_C} {cs sl : Nat}

theorem as_getf (hE : ∀ k, E k = .null ∨ ∃ q, E k = .ref q) (hF : ag_F XS dC dI dT A me d q p R s m args meth c) (hN : ag_N E dC dI dT A me p l e R s m args below meth c Q ad0 K res) {idx ci k : Nat} {cl : vw_C} (hcl : vwCl[ci]? = some cl) (hk : k < cl.2.2) (hm : Cond.fieldLink me.1.cls idx (cl.2.1 k).1 (cl.2.1 k).2.1 (cl.2.1 k).2.2.1 ∈ lw_gt) (hdg : decode me.2.1 pc = .ok (.getfield idx, 3)) (h : ae_r1 st (fun i r => ae_obj (ae_nth w i) (fun cj fs => ae_if (Nat.beq cj ci) (ae_some (ae_nth fs k) (fun v => K (pc + 3) lo (v :: r) w cs sl)))) = some res) : ag_H E dC dI dT A me p l e R s m args below meth c Q ad0 pc lo st w cs sl := by
  intro ad ws H locs lv ls stv hat
  obtain ⟨hcs, hex, had, hl, hlo, hst, hw, hP, hD, hS⟩ := hat
  obtain ⟨hx, hb, hml, hown, hts, hK, hA, hlk, hret, hnm, hR1, hR2, hR3, hR4, hXS⟩ := hF
  obtain ⟨i, r, e0, h0⟩ := ae_r1_inv h
  clear h
  subst e0
  have h := h0
  clear h0
  obtain ⟨v1, r1, rfl, ⟨q1, hq1, rfl⟩, hst0⟩ := ag_S_cons hst
  clear hst
  have hst := hst0
  clear hst0
  obtain ⟨cj, fs, hwi, h0⟩ := ae_obj_inv h
  clear h
  have h := h0
  clear h0
  obtain ⟨hcj, h0⟩ := ae_if_inv h
  clear h
  have h := h0
  clear h0
  have hcj := ae_beq hcj
  subst hcj
  obtain ⟨v, hfv, h0⟩ := ae_some_inv h
  clear h
  have h := h0
  clear h0
  rw [ae_nth_eq] at hwi hfv
  obtain ⟨en, hen, hC⟩ := ag_cell had hw hq1 hwi
  obtain ⟨vs, rfl, hvs⟩ := ag_C_obj hC
  obtain ⟨x, hx1, hx2⟩ := ag_S_nth hvs hfv
  obtain ⟨ty, hin, -⟩ := ag_cls _ _ hcl
  obtain ⟨C, T, N⟩ := cl
  exact va_get (C := C) (T := T) (N := N) (ref := (T k).1) hx hb hts hin hown hK hP i hen hcl k hk (hts _ hm) (fun _ h9 => h9) hx1 hdg (hN _ _ _ _ _ _ h ad ws H locs lv ls _ ⟨hcs, hex, had, hl, hlo, ⟨hx2, hst⟩, hw, hP, hD, hS⟩)

theorem as_putf (hE : ∀ k, E k = .null ∨ ∃ q, E k = .ref q) (hF : ag_F XS dC dI dT A me d q p R s m args meth c) (hN : ag_N E dC dI dT A me p l e R s m args below meth c Q ad0 K res) {idx ci k : Nat} {cl : vw_C} (hcl : vwCl[ci]? = some cl) (hk : k < cl.2.2) (hm : Cond.fieldLink me.1.cls idx (cl.2.1 k).1 (cl.2.1 k).2.1 (cl.2.1 k).2.2.1 ∈ lw_gt) (hfin : (cl.2.1 k).2.2.2 = false ∨ (me.1.name = "<init>" ∧ (cl.2.1 k).1 = me.1.cls)) (hdg : decode me.2.1 pc = .ok (.putfield idx, 3)) (h : ae_vr st (fun i v r => ae_obj (ae_nth w i) (fun cj fs => ae_if (Nat.beq cj ci) (ae_some (ae_nth fs k) (fun _ => ae_some (ae_nth ae_TY ci) (fun tl => ae_some (ae_nth tl k) (fun ty => ae_if (ae_fty ty v) (ae_set fs k v (fun fs' => ae_set w i (.inr (cj, fs')) (fun w' => K (pc + 3) lo r w' cs sl))))))))) = some res) : ag_H E dC dI dT A me p l e R s m args below meth c Q ad0 pc lo st w cs sl := by
  intro ad ws H locs lv ls stv hat
  obtain ⟨hcs, hex, had, hl, hlo, hst, hw, hP, hD, hS⟩ := hat
  obtain ⟨hx, hb, hml, hown, hts, hK, hA, hlk, hret, hnm, hR1, hR2, hR3, hR4, hXS⟩ := hF
  obtain ⟨i, v, r, e0, h0⟩ := ae_vr_inv h
  clear h
  subst e0
  have h := h0
  clear h0
  obtain ⟨v1, r1, rfl, hv, hst0⟩ := ag_S_cons hst
  clear hst
  have hst := hst0
  clear hst0
  obtain ⟨v2, r2, rfl, ⟨q1, hq1, rfl⟩, hst0⟩ := ag_S_cons hst
  clear hst
  have hst := hst0
  clear hst0
  obtain ⟨cj, fs, hwi, h0⟩ := ae_obj_inv h
  clear h
  have h := h0
  clear h0
  obtain ⟨hcj, h0⟩ := ae_if_inv h
  clear h
  have h := h0
  clear h0
  have hcj := ae_beq hcj
  subst hcj
  obtain ⟨v0, hfv, h0⟩ := ae_some_inv h
  clear h
  have h := h0
  clear h0
  obtain ⟨tl, htl, h0⟩ := ae_some_inv h
  clear h
  have h := h0
  clear h0
  obtain ⟨ty, hty, h0⟩ := ae_some_inv h
  clear h
  have h := h0
  clear h0
  obtain ⟨hft, h0⟩ := ae_if_inv h
  clear h
  have h := h0
  clear h0
  rw [ae_set_eq, ae_set_eq] at h
  rw [ae_nth_eq] at hwi hfv htl hty
  obtain ⟨en, hen, hC⟩ := ag_cell had hw hq1 hwi
  obtain ⟨vs, rfl, hvs⟩ := ag_C_obj hC
  obtain ⟨ty0, hin, hty0, hnm0, tl2, htl2, -, htk, -⟩ := ag_cls _ _ hcl
  rw [htl] at htl2
  cases htl2
  obtain ⟨C, T, N⟩ := cl
  have e1 := htk k hk
  rw [hty] at e1
  cases e1
  obtain ⟨n1, n2⟩ := as_fty hE hft hv
  have hlen : k < vs.length := by rw [← ag_S_len hvs]; exact (List.getElem?_eq_some_iff.mp hfv).1
  have nxt : ∀ (H1 : Heap) (locs1 : List Loc), va_P (dC, dI) vwCl (ws.set i (q1, .inr (cj, vs.set k v1))) H1 → va_D A (ws.set i (q1, .inr (cj, vs.set k v1))) → va_S A s.heap H1 locs1 → W p l e R s m args below meth c H1 locs1 cs sl Q (F0 m (pc + 3) ls r2) := fun H1 locs1 hP1 hD1 hS1 =>
    hN _ _ _ _ _ _ h ad _ H1 locs1 lv ls _ ⟨hcs, hex, ag_set_ad had hen, hl, hlo, hst, ag_W_set (q := (q1, .inr (cj, vs.set k v1))) (ag_mkO (ag_S_set hv hvs)) hw, hP1, hD1, hS1⟩
  rcases hfin with hfin | ⟨hf1, hf2⟩
  · exact va_put (C := C) (T := T) (N := N) (ref := (T k).1) hx hb hts hin ty0 hty0 hnm0 hown hK hP hD hS i hen hcl k hk (hts _ hm) (fun _ h9 => h9) hfin (hty0 k hk) n1 n2 hlen hdg nxt
  · cases hb2 : (T k).2.2.2 with
    | false => exact va_put (C := C) (T := T) (N := N) (ref := (T k).1) hx hb hts hin ty0 hty0 hnm0 hown hK hP hD hS i hen hcl k hk (hts _ hm) (fun _ h9 => h9) hb2 (hty0 k hk) n1 n2 hlen hdg nxt
    | true => exact va_putF (C := C) (T := T) (N := N) (ref := (T k).1) hx hb hts hin ty0 hty0 hnm0 hown hK hP hD hS i hen hcl k hk (hts _ hm) (fun _ h9 => h9) hb2 (hnm hf1) hf2 (hty0 k hk) n1 n2 hlen hdg nxt

theorem as_laload (hE : ∀ k, E k = .null ∨ ∃ q, E k = .ref q) (hF : ag_F XS dC dI dT A me d q p R s m args meth c) (hN : ag_N E dC dI dT A me p l e R s m args below meth c Q ad0 K res) (hdg : decode me.2.1 pc = .ok (.laload, 1)) (h : ae_ri st (fun i j r => ae_arr (ae_nth w i) (fun t n dv ex => ae_if (Nat.beq t 1 && (Nat.blt j n && Nat.ble n 1000000)) (K (pc + 1) lo (ae_ag dv ex j :: r) w cs sl))) = some res) : ag_H E dC dI dT A me p l e R s m args below meth c Q ad0 pc lo st w cs sl := by
  intro ad ws H locs lv ls stv hat
  obtain ⟨hcs, hex, had, hl, hlo, hst, hw, hP, hD, hS⟩ := hat
  obtain ⟨hx, hb, hml, hown, hts, hK, hA, hlk, hret, hnm, hR1, hR2, hR3, hR4, hXS⟩ := hF
  obtain ⟨i, j, r, e0, h0⟩ := ae_ri_inv h
  clear h
  subst e0
  have h := h0
  clear h0
  obtain ⟨v1, r1, rfl, ⟨y, rfl, hy⟩, hst0⟩ := ag_S_cons hst
  clear hst
  have hst := hst0
  clear hst0
  obtain ⟨v2, r2, rfl, ⟨q1, hq1, rfl⟩, hst0⟩ := ag_S_cons hst
  clear hst
  have hst := hst0
  clear hst0
  obtain ⟨t, n, dv, ex, hwi, h0⟩ := ae_arr_inv h
  clear h
  have h := h0
  clear h0
  obtain ⟨hc, h0⟩ := ae_if_inv h
  clear h
  have h := h0
  clear h0
  obtain ⟨ht, hc⟩ := ae_and hc
  obtain ⟨hj, hn⟩ := ae_and hc
  have hj := ae_blt hj
  have hn := ae_ble hn
  obtain ⟨hin, hcl⟩ := ag_ix hj hn
  have hy : y = nI j := hy
  subst hy
  rw [ae_nth_eq] at hwi
  obtain ⟨en, hen, hC⟩ := ag_cell had hw hq1 hwi
  have ht := ae_beq ht
  subst ht
  obtain ⟨b, rfl, hT, hall⟩ := ag_C_arr hC
  obtain ⟨f, rfl⟩ := ag_T1 hT
  have hv := hall j hj
  exact va_lald hx hb hK hP i 1 hen rfl hin hdg (hN _ _ _ _ _ _ h ad ws H locs lv ls _ ⟨hcs, hex, had, hl, hlo, ⟨by rw [hcl]; exact hv, hst⟩, hw, hP, hD, hS⟩)

theorem as_baload (hE : ∀ k, E k = .null ∨ ∃ q, E k = .ref q) (hF : ag_F XS dC dI dT A me d q p R s m args meth c) (hN : ag_N E dC dI dT A me p l e R s m args below meth c Q ad0 K res) (hdg : decode me.2.1 pc = .ok (.baload, 1)) (h : ae_ri st (fun i j r => ae_arr (ae_nth w i) (fun t n dv ex => ae_if (Nat.beq t 2 && (Nat.blt j n && Nat.ble n 1000000)) (K (pc + 1) lo (ae_ag dv ex j :: r) w cs sl))) = some res) : ag_H E dC dI dT A me p l e R s m args below meth c Q ad0 pc lo st w cs sl := by
  intro ad ws H locs lv ls stv hat
  obtain ⟨hcs, hex, had, hl, hlo, hst, hw, hP, hD, hS⟩ := hat
  obtain ⟨hx, hb, hml, hown, hts, hK, hA, hlk, hret, hnm, hR1, hR2, hR3, hR4, hXS⟩ := hF
  obtain ⟨i, j, r, e0, h0⟩ := ae_ri_inv h
  clear h
  subst e0
  have h := h0
  clear h0
  obtain ⟨v1, r1, rfl, ⟨y, rfl, hy⟩, hst0⟩ := ag_S_cons hst
  clear hst
  have hst := hst0
  clear hst0
  obtain ⟨v2, r2, rfl, ⟨q1, hq1, rfl⟩, hst0⟩ := ag_S_cons hst
  clear hst
  have hst := hst0
  clear hst0
  obtain ⟨t, n, dv, ex, hwi, h0⟩ := ae_arr_inv h
  clear h
  have h := h0
  clear h0
  obtain ⟨hc, h0⟩ := ae_if_inv h
  clear h
  have h := h0
  clear h0
  obtain ⟨ht, hc⟩ := ae_and hc
  obtain ⟨hj, hn⟩ := ae_and hc
  have hj := ae_blt hj
  have hn := ae_ble hn
  obtain ⟨hin, hcl⟩ := ag_ix hj hn
  have hy : y = nI j := hy
  subst hy
  rw [ae_nth_eq] at hwi
  obtain ⟨en, hen, hC⟩ := ag_cell had hw hq1 hwi
  have ht := ae_beq ht
  subst ht
  obtain ⟨b, rfl, hT, hall⟩ := ag_C_arr hC
  obtain ⟨f, rfl⟩ := ag_T2 hT
  have hv := hall j hj
  exact va_zald hx hb hK hP i 2 hen rfl hin hdg (hN _ _ _ _ _ _ h ad ws H locs lv ls _ ⟨hcs, hex, had, hl, hlo, ⟨by rw [hcl]; exact hv, hst⟩, hw, hP, hD, hS⟩)

theorem as_aaload (hE : ∀ k, E k = .null ∨ ∃ q, E k = .ref q) (hF : ag_F XS dC dI dT A me d q p R s m args meth c) (hN : ag_N E dC dI dT A me p l e R s m args below meth c Q ad0 K res) (hdg : decode me.2.1 pc = .ok (.aaload, 1)) (h : ae_ri st (fun i j r => ae_arr (ae_nth w i) (fun t n dv ex => ae_if ((Nat.beq t 3 || Nat.beq t 4) && (Nat.blt j n && Nat.ble n 1000000)) (K (pc + 1) lo (ae_ag dv ex j :: r) w cs sl))) = some res) : ag_H E dC dI dT A me p l e R s m args below meth c Q ad0 pc lo st w cs sl := by
  intro ad ws H locs lv ls stv hat
  obtain ⟨hcs, hex, had, hl, hlo, hst, hw, hP, hD, hS⟩ := hat
  obtain ⟨hx, hb, hml, hown, hts, hK, hA, hlk, hret, hnm, hR1, hR2, hR3, hR4, hXS⟩ := hF
  obtain ⟨i, j, r, e0, h0⟩ := ae_ri_inv h
  clear h
  subst e0
  have h := h0
  clear h0
  obtain ⟨v1, r1, rfl, ⟨y, rfl, hy⟩, hst0⟩ := ag_S_cons hst
  clear hst
  have hst := hst0
  clear hst0
  obtain ⟨v2, r2, rfl, ⟨q1, hq1, rfl⟩, hst0⟩ := ag_S_cons hst
  clear hst
  have hst := hst0
  clear hst0
  obtain ⟨t, n, dv, ex, hwi, h0⟩ := ae_arr_inv h
  clear h
  have h := h0
  clear h0
  obtain ⟨hc, h0⟩ := ae_if_inv h
  clear h
  have h := h0
  clear h0
  obtain ⟨ht, hc⟩ := ae_and hc
  obtain ⟨hj, hn⟩ := ae_and hc
  have hj := ae_blt hj
  have hn := ae_ble hn
  obtain ⟨hin, hcl⟩ := ag_ix hj hn
  have hy : y = nI j := hy
  subst hy
  rw [ae_nth_eq] at hwi
  obtain ⟨en, hen, hC⟩ := ag_cell had hw hq1 hwi
  have ht : t = 3 ∨ t = 4 := by
    cases h3 : Nat.beq t 3 with
    | true => exact Or.inl (ae_beq h3)
    | false =>
      rw [h3] at ht
      exact Or.inr (ae_beq ht)
  obtain ⟨b, rfl, hT, hall⟩ := ag_C_arr hC
  obtain ⟨f, rfl⟩ := ag_T34 ht hT
  have hv : ag_V E ad (ae_ag dv ex j) (va_rf (f j)) := hall j hj
  have hty : ∃ ty, (ag_tys dT)[t]? = some (dT t, ty) ∧ ty.isReference = true := by
    rcases ht with rfl | rfl
    · exact ⟨_, rfl, rfl⟩
    · exact ⟨_, rfl, rfl⟩
  obtain ⟨ty, hty1, hty2⟩ := hty
  have hlt : (nI j).toNatClampNeg < n := by rw [hcl]; exact hj
  exact W.aald (v := va_rf (f j)) (ty := ty) hx hb (hP i _ hen) ((hK.2 t _ hty1).1 n (fun j => va_rf (f j))) hty2 (fun q => by cases q) (by show ¬ (nI j < 0 ∨ (arrV _ _ _).slots.size ≤ _); rw [arrV_size]; exact hin) (by show (arrV _ _ _).slots[_]? = _; rw [arrV_read _ _ hlt, hcl]) rfl rfl hdg (hN _ _ _ _ _ _ h ad ws H locs lv ls _ ⟨hcs, hex, had, hl, hlo, ⟨hv, hst⟩, hw, hP, hD, hS⟩)

def ag_sc (E : Nat → Value) (A : Nat → Prop) (s : State) (XA : List ae_I) : Prop := ∃ (b L : Nat) (xs : Nat → Int32), E 1 = .ref b ∧ va_X b L xs s s.heap ∧ b < s.heap.size ∧ ¬ A b ∧ (XA = [] ∨ XA.length = L) ∧ L ≤ 256 ∧ ∀ (j : Nat) (a : ae_I), XA[j]? = some a → ag_I a (xs j)

theorem as_iaload (hE : ∀ k, E k = .null ∨ ∃ q, E k = .ref q) (hF : ag_F XS dC dI dT A me d q p R s m args meth c) (hN : ag_N E dC dI dT A me p l e R s m args below meth c Q ad0 K res) {XA : List ae_I} (hsc : ag_sc E A s XA) (hdg : decode me.2.1 pc = .ok (.iaload, 1)) (h : ae_ri2 st (fun i j r => ae_arr (ae_nth w i) (fun t n dv ex => ae_if (Nat.beq t 0 && (Nat.blt j n && Nat.ble n 1000000)) (K (pc + 1) lo (ae_ag dv ex j :: r) w cs sl))) (fun k j r => ae_if (Nat.beq k 1 && Nat.blt j 256) (ae_some (ae_nth XA j) (fun a => K (pc + 1) lo (.inl a :: r) w cs sl))) = some res) : ag_H E dC dI dT A me p l e R s m args below meth c Q ad0 pc lo st w cs sl := by
  intro ad ws H locs lv ls stv hat
  obtain ⟨hcs, hex, had, hl, hlo, hst, hw, hP, hD, hS⟩ := hat
  obtain ⟨hx, hb, hml, hown, hts, hK, hA, hlk, hret, hnm, hR1, hR2, hR3, hR4, hXS⟩ := hF
  rcases ae_ri2_inv h with ⟨i, j, r, e0, h0⟩ | ⟨i, j, r, e0, h0⟩ <;> clear h <;> subst e0 <;> have h := h0 <;> clear h0
  · obtain ⟨v1, r1, rfl, ⟨y, rfl, hy⟩, hst0⟩ := ag_S_cons hst
    clear hst
    have hst := hst0
    clear hst0
    obtain ⟨v2, r2, rfl, ⟨q1, hq1, rfl⟩, hst0⟩ := ag_S_cons hst
    clear hst
    have hst := hst0
    clear hst0
    obtain ⟨t, n, dv, ex, hwi, h0⟩ := ae_arr_inv h
    clear h
    have h := h0
    clear h0
    obtain ⟨hc, h0⟩ := ae_if_inv h
    clear h
    have h := h0
    clear h0
    obtain ⟨ht, hc⟩ := ae_and hc
    obtain ⟨hj, hn⟩ := ae_and hc
    have hj := ae_blt hj
    have hn := ae_ble hn
    obtain ⟨hin, hcl⟩ := ag_ix hj hn
    have hy : y = nI j := hy
    subst hy
    rw [ae_nth_eq] at hwi
    obtain ⟨en, hen, hC⟩ := ag_cell had hw hq1 hwi
    have ht := ae_beq ht
    subst ht
    obtain ⟨b, rfl, hT, hall⟩ := ag_C_arr hC
    obtain ⟨f, rfl⟩ := ag_T0 hT
    have hv := hall j hj
    exact va_iald hx hb hK hP i 0 hen rfl hin hdg (hN _ _ _ _ _ _ h ad ws H locs lv ls _ ⟨hcs, hex, had, hl, hlo, ⟨by rw [hcl]; exact hv, hst⟩, hw, hP, hD, hS⟩)
  · obtain ⟨hc, h0⟩ := ae_if_inv h
    clear h
    have h := h0
    clear h0
    obtain ⟨hk, hj⟩ := ae_and hc
    have hk := ae_beq hk
    subst hk
    have hj := ae_blt hj
    obtain ⟨a, ha, h0⟩ := ae_some_inv h
    clear h
    have h := h0
    clear h0
    rw [ae_nth_eq] at ha
    obtain ⟨b, L, xs, hb1, hX, hbl, hbA, hL, hL4, hxs⟩ := hsc
    obtain ⟨v1, r1, rfl, ⟨y, rfl, hy⟩, hst0⟩ := ag_S_cons hst
    clear hst
    have hst := hst0
    clear hst0
    obtain ⟨v2, r2, rfl, hv2, hst0⟩ := ag_S_cons hst
    clear hst
    have hst := hst0
    clear hst0
    have hv2 : v2 = .ref b := hb1 ▸ hv2
    subst hv2
    have hjL : j < L := by
      rcases hL with hL | hL
      · rw [hL] at ha
        simp at ha
      · rw [← hL]; exact (List.getElem?_eq_some_iff.mp ha).1
    have hy : y = nI j := hy
    subst hy
    refine va_sld hx hb hX hbl hbA hS (vp_in_nI hjL (by omega)) hdg (hN _ _ _ _ _ _ h ad ws H locs lv ls _ ⟨hcs, hex, had, hl, hlo, ⟨⟨_, rfl, ?_⟩, hst⟩, hw, hP, hD, hS⟩)
    rw [nI_clamp (by omega)]
    exact hxs j a ha

theorem as_iastore (hE : ∀ k, E k = .null ∨ ∃ q, E k = .ref q) (hF : ag_F XS dC dI dT A me d q p R s m args meth c) (hN : ag_N E dC dI dT A me p l e R s m args below meth c Q ad0 K res) (hdg : decode me.2.1 pc = .ok (.iastore, 1)) (h : ae_rv st (fun i j v r => ae_arr (ae_nth w i) (fun t n dv ex => ae_if (Nat.beq t 0 && (Nat.blt j n && (Nat.ble n 1000000 && ae_fit 0 v))) (ae_as ex j v (fun ex' => ae_set w i (.inl (t, n, dv, ex')) (fun w' => K (pc + 1) lo r w' cs sl))))) = some res) : ag_H E dC dI dT A me p l e R s m args below meth c Q ad0 pc lo st w cs sl := by
  intro ad ws H locs lv ls stv hat
  obtain ⟨hcs, hex, had, hl, hlo, hst, hw, hP, hD, hS⟩ := hat
  obtain ⟨hx, hb, hml, hown, hts, hK, hA, hlk, hret, hnm, hR1, hR2, hR3, hR4, hXS⟩ := hF
  obtain ⟨i, j, v, r, e0, h0⟩ := ae_rv_inv h
  clear h
  subst e0
  have h := h0
  clear h0
  obtain ⟨v0, r0, rfl, hv, hst0⟩ := ag_S_cons hst
  clear hst
  have hst := hst0
  clear hst0
  obtain ⟨v1, r1, rfl, ⟨y, rfl, hy⟩, hst0⟩ := ag_S_cons hst
  clear hst
  have hst := hst0
  clear hst0
  obtain ⟨v2, r2, rfl, ⟨q1, hq1, rfl⟩, hst0⟩ := ag_S_cons hst
  clear hst
  have hst := hst0
  clear hst0
  obtain ⟨t, n, dv, ex, hwi, h0⟩ := ae_arr_inv h
  clear h
  have h := h0
  clear h0
  obtain ⟨hc, h0⟩ := ae_if_inv h
  clear h
  have h := h0
  clear h0
  obtain ⟨ht, hc⟩ := ae_and hc
  obtain ⟨hj, hc⟩ := ae_and hc
  obtain ⟨hn, hfit⟩ := ae_and hc
  have hj := ae_blt hj
  have hn := ae_ble hn
  obtain ⟨hin, hcl⟩ := ag_ix hj hn
  have hy : y = nI j := hy
  subst hy
  rw [ae_nth_eq] at hwi
  obtain ⟨en, hen, hC⟩ := ag_cell had hw hq1 hwi
  have ht := ae_beq ht
  subst ht
  obtain ⟨b, rfl, hT, hall⟩ := ag_C_arr hC
  obtain ⟨ys, hys, hyg⟩ := ae_as_eq j v ex
  rw [hys, ae_set_eq] at h
  obtain ⟨f, rfl⟩ := ag_T0 hT
  obtain ⟨x, rfl⟩ : ∃ x : Int32, v0 = .int x := by
    match v, hfit, hv with
    | .inl _, _, hv => obtain ⟨x, h1, -⟩ := hv; exact ⟨x, h1⟩
    | .inr (.inl _), hfit, _ => cases hfit
    | .inr (.inr _), hfit, _ => cases hfit
  refine va_iast hx hb hK hP hD hS i 0 hen rfl hin hdg (fun H1 locs1 hP1 hD1 hS1 => ?_)
  rw [hcl] at hP1 hD1
  refine hN _ _ _ _ _ _ h ad _ H1 locs1 lv ls _ ⟨hcs, hex, ag_set_ad had hen, hl, hlo, hst, ag_W_set (q := (q1, .inl (dT 0, n, .inl (upd f j x)))) (ag_mkA (show ag_T 0 (.inl _) from Or.inl rfl) (fun j2 hj2 => ?_)) hw, hP1, hD1, hS1⟩
  rw [hyg]
  by_cases hjj : j2 = j
  · rw [if_pos hjj, hjj]
    show ag_V E ad v (.int (upd f j x j))
    rw [pk_us]
    exact hv
  · rw [if_neg hjj]
    show ag_V E ad _ (.int (upd f j x j2))
    rw [pk_un hjj]
    exact hall j2 hj2

theorem as_lastore (hE : ∀ k, E k = .null ∨ ∃ q, E k = .ref q) (hF : ag_F XS dC dI dT A me d q p R s m args meth c) (hN : ag_N E dC dI dT A me p l e R s m args below meth c Q ad0 K res) (hdg : decode me.2.1 pc = .ok (.lastore, 1)) (h : ae_rv st (fun i j v r => ae_arr (ae_nth w i) (fun t n dv ex => ae_if (Nat.beq t 1 && (Nat.blt j n && (Nat.ble n 1000000 && ae_fit 1 v))) (ae_as ex j v (fun ex' => ae_set w i (.inl (t, n, dv, ex')) (fun w' => K (pc + 1) lo r w' cs sl))))) = some res) : ag_H E dC dI dT A me p l e R s m args below meth c Q ad0 pc lo st w cs sl := by
  intro ad ws H locs lv ls stv hat
  obtain ⟨hcs, hex, had, hl, hlo, hst, hw, hP, hD, hS⟩ := hat
  obtain ⟨hx, hb, hml, hown, hts, hK, hA, hlk, hret, hnm, hR1, hR2, hR3, hR4, hXS⟩ := hF
  obtain ⟨i, j, v, r, e0, h0⟩ := ae_rv_inv h
  clear h
  subst e0
  have h := h0
  clear h0
  obtain ⟨v0, r0, rfl, hv, hst0⟩ := ag_S_cons hst
  clear hst
  have hst := hst0
  clear hst0
  obtain ⟨v1, r1, rfl, ⟨y, rfl, hy⟩, hst0⟩ := ag_S_cons hst
  clear hst
  have hst := hst0
  clear hst0
  obtain ⟨v2, r2, rfl, ⟨q1, hq1, rfl⟩, hst0⟩ := ag_S_cons hst
  clear hst
  have hst := hst0
  clear hst0
  obtain ⟨t, n, dv, ex, hwi, h0⟩ := ae_arr_inv h
  clear h
  have h := h0
  clear h0
  obtain ⟨hc, h0⟩ := ae_if_inv h
  clear h
  have h := h0
  clear h0
  obtain ⟨ht, hc⟩ := ae_and hc
  obtain ⟨hj, hc⟩ := ae_and hc
  obtain ⟨hn, hfit⟩ := ae_and hc
  have hj := ae_blt hj
  have hn := ae_ble hn
  obtain ⟨hin, hcl⟩ := ag_ix hj hn
  have hy : y = nI j := hy
  subst hy
  rw [ae_nth_eq] at hwi
  obtain ⟨en, hen, hC⟩ := ag_cell had hw hq1 hwi
  have ht := ae_beq ht
  subst ht
  obtain ⟨b, rfl, hT, hall⟩ := ag_C_arr hC
  obtain ⟨ys, hys, hyg⟩ := ae_as_eq j v ex
  rw [hys, ae_set_eq] at h
  obtain ⟨f, rfl⟩ := ag_T1 hT
  obtain ⟨x, rfl⟩ : ∃ x : Int64, v0 = .long x := by
    match v, hfit, hv with
    | .inr (.inl _), _, hv => obtain ⟨x, h1, -⟩ := hv; exact ⟨x, h1⟩
    | .inl _, hfit, _ => cases hfit
    | .inr (.inr _), hfit, _ => cases hfit
  refine va_last hx hb hK hP hD hS i 1 hen rfl hin hdg (fun H1 locs1 hP1 hD1 hS1 => ?_)
  rw [hcl] at hP1 hD1
  refine hN _ _ _ _ _ _ h ad _ H1 locs1 lv ls _ ⟨hcs, hex, ag_set_ad had hen, hl, hlo, hst, ag_W_set (q := (q1, .inl (dT 1, n, .inr (.inl (vp_updL f j x))))) (ag_mkA (show ag_T 1 (.inr (.inl _)) from rfl) (fun j2 hj2 => ?_)) hw, hP1, hD1, hS1⟩
  rw [hyg]
  by_cases hjj : j2 = j
  · rw [if_pos hjj, hjj]
    show ag_V E ad v (.long (vp_updL f j x j))
    rw [pk_uLs]
    exact hv
  · rw [if_neg hjj]
    show ag_V E ad _ (.long (vp_updL f j x j2))
    rw [pk_uLn hjj]
    exact hall j2 hj2

theorem as_bastore (hE : ∀ k, E k = .null ∨ ∃ q, E k = .ref q) (hF : ag_F XS dC dI dT A me d q p R s m args meth c) (hN : ag_N E dC dI dT A me p l e R s m args below meth c Q ad0 K res) (hdg : decode me.2.1 pc = .ok (.bastore, 1)) (h : ae_rv st (fun i j v r => ae_arr (ae_nth w i) (fun t n dv ex => ae_if (Nat.beq t 2 && (Nat.blt j n && (Nat.ble n 1000000 && ae_fit 2 v))) (ae_as ex j v (fun ex' => ae_set w i (.inl (t, n, dv, ex')) (fun w' => K (pc + 1) lo r w' cs sl))))) = some res) : ag_H E dC dI dT A me p l e R s m args below meth c Q ad0 pc lo st w cs sl := by
  intro ad ws H locs lv ls stv hat
  obtain ⟨hcs, hex, had, hl, hlo, hst, hw, hP, hD, hS⟩ := hat
  obtain ⟨hx, hb, hml, hown, hts, hK, hA, hlk, hret, hnm, hR1, hR2, hR3, hR4, hXS⟩ := hF
  obtain ⟨i, j, v, r, e0, h0⟩ := ae_rv_inv h
  clear h
  subst e0
  have h := h0
  clear h0
  obtain ⟨v0, r0, rfl, hv, hst0⟩ := ag_S_cons hst
  clear hst
  have hst := hst0
  clear hst0
  obtain ⟨v1, r1, rfl, ⟨y, rfl, hy⟩, hst0⟩ := ag_S_cons hst
  clear hst
  have hst := hst0
  clear hst0
  obtain ⟨v2, r2, rfl, ⟨q1, hq1, rfl⟩, hst0⟩ := ag_S_cons hst
  clear hst
  have hst := hst0
  clear hst0
  obtain ⟨t, n, dv, ex, hwi, h0⟩ := ae_arr_inv h
  clear h
  have h := h0
  clear h0
  obtain ⟨hc, h0⟩ := ae_if_inv h
  clear h
  have h := h0
  clear h0
  obtain ⟨ht, hc⟩ := ae_and hc
  obtain ⟨hj, hc⟩ := ae_and hc
  obtain ⟨hn, hfit⟩ := ae_and hc
  have hj := ae_blt hj
  have hn := ae_ble hn
  obtain ⟨hin, hcl⟩ := ag_ix hj hn
  have hy : y = nI j := hy
  subst hy
  rw [ae_nth_eq] at hwi
  obtain ⟨en, hen, hC⟩ := ag_cell had hw hq1 hwi
  have ht := ae_beq ht
  subst ht
  obtain ⟨b, rfl, hT, hall⟩ := ag_C_arr hC
  obtain ⟨ys, hys, hyg⟩ := ae_as_eq j v ex
  rw [hys, ae_set_eq] at h
  obtain ⟨f, rfl⟩ := ag_T2 hT
  obtain ⟨x, rfl, hxz⟩ : ∃ x : Int32, v0 = .int x ∧ vp_nar .boolean x = x := by
    match v, hfit, hv with
    | .inl (.inl z), hfit, hv =>
      obtain ⟨x, h1, h2⟩ := hv
      have h2 : x = nI z := h2
      have hz : z < 2 := ae_blt hfit
      refine ⟨x, h1, ?_⟩
      rw [h2]
      rcases (show z = 0 ∨ z = 1 by omega) with rfl | rfl <;> decide +kernel
    | .inl (.inr _), hfit, _ => cases hfit
    | .inr (.inl _), hfit, _ => cases hfit
    | .inr (.inr _), hfit, _ => cases hfit
  refine va_zast hx hb hK hP hD hS i 2 hen rfl hin hdg (fun H1 locs1 hP1 hD1 hS1 => ?_)
  rw [hcl, hxz] at hP1 hD1
  refine hN _ _ _ _ _ _ h ad _ H1 locs1 lv ls _ ⟨hcs, hex, ag_set_ad had hen, hl, hlo, hst, ag_W_set (q := (q1, .inl (dT 2, n, .inl (upd f j x)))) (ag_mkA (show ag_T 2 (.inl _) from Or.inr rfl) (fun j2 hj2 => ?_)) hw, hP1, hD1, hS1⟩
  rw [hyg]
  by_cases hjj : j2 = j
  · rw [if_pos hjj, hjj]
    show ag_V E ad v (.int (upd f j x j))
    rw [pk_us]
    exact hv
  · rw [if_neg hjj]
    show ag_V E ad _ (.int (upd f j x j2))
    rw [pk_un hjj]
    exact hall j2 hj2

theorem ag_tag {dT : Nat → ClassId} {t : Nat} (h : t < 5) : ∃ ty, (ag_tys dT)[t]? = some (dT t, ty) := by
  match t, h with
  | 0, _ => exact ⟨_, rfl⟩
  | 1, _ => exact ⟨_, rfl⟩
  | 2, _ => exact ⟨_, rfl⟩
  | 3, _ => exact ⟨_, rfl⟩
  | 4, _ => exact ⟨_, rfl⟩

theorem as_alen (hE : ∀ k, E k = .null ∨ ∃ q, E k = .ref q) (hF : ag_F XS dC dI dT A me d q p R s m args meth c) (hN : ag_N E dC dI dT A me p l e R s m args below meth c Q ad0 K res) {XA : List ae_I} (hsc : ag_sc E A s XA) (hdg : decode me.2.1 pc = .ok (.arraylength, 1)) (h : ae_al st (fun i r => ae_arr (ae_nth w i) (fun t n _ _ => ae_if (Nat.blt t 5) (K (pc + 1) lo (.inl (.inl n) :: r) w cs sl))) (fun k r => ae_if (Nat.beq k 1 && Nat.blt 0 XA.length) (K (pc + 1) lo (.inl (.inl XA.length) :: r) w cs sl)) = some res) : ag_H E dC dI dT A me p l e R s m args below meth c Q ad0 pc lo st w cs sl := by
  intro ad ws H locs lv ls stv hat
  obtain ⟨hcs, hex, had, hl, hlo, hst, hw, hP, hD, hS⟩ := hat
  obtain ⟨hx, hb, hml, hown, hts, hK, hA, hlk, hret, hnm, hR1, hR2, hR3, hR4, hXS⟩ := hF
  rcases ae_al_inv h with ⟨i, r, e0, h0⟩ | ⟨i, r, e0, h0⟩ <;> clear h <;> subst e0 <;> have h := h0 <;> clear h0
  · obtain ⟨v2, r2, rfl, ⟨q1, hq1, rfl⟩, hst0⟩ := ag_S_cons hst
    clear hst
    have hst := hst0
    clear hst0
    obtain ⟨t, n, dv, ex, hwi, h0⟩ := ae_arr_inv h
    clear h
    have h := h0
    clear h0
    obtain ⟨hc, h0⟩ := ae_if_inv h
    clear h
    have h := h0
    clear h0
    rw [ae_nth_eq] at hwi
    obtain ⟨en, hen, hC⟩ := ag_cell had hw hq1 hwi
    obtain ⟨b, rfl, hT, hall⟩ := ag_C_arr hC
    obtain ⟨ty, hty⟩ := ag_tag (dT := dT) (ae_blt hc)
    exact va_alen hx hb hK hP i t hen hty rfl hdg (hN _ _ _ _ _ _ h ad ws H locs lv ls _ ⟨hcs, hex, had, hl, hlo, ⟨⟨_, rfl, rfl⟩, hst⟩, hw, hP, hD, hS⟩)
  · obtain ⟨hc, h0⟩ := ae_if_inv h
    clear h
    have h := h0
    clear h0
    obtain ⟨hk, hz⟩ := ae_and hc
    have hk := ae_beq hk
    have hz := ae_blt hz
    subst hk
    obtain ⟨b, L, xs, hb1, hX, hbl, hbA, hL0, hL4, hxs⟩ := hsc
    have hL : XA.length = L := by
      rcases hL0 with hL | hL
      · rw [hL] at hz
        simp at hz
      · exact hL
    obtain ⟨v2, r2, rfl, hv2, hst0⟩ := ag_S_cons hst
    clear hst
    have hst := hst0
    clear hst0
    have hv2 : v2 = .ref b := hb1 ▸ hv2
    subst hv2
    exact va_slen hx hb hX hbl hbA hS hdg (hN _ _ _ _ _ _ h ad ws H locs lv ls _ ⟨hcs, hex, had, hl, hlo, ⟨⟨_, rfl, by show Int32.ofNat L = nI _; rw [hL]; rfl⟩, hst⟩, hw, hP, hD, hS⟩)

end SOUND2
