/-! ===== stacks, locals, worlds ===== -/
abbrev ag_Bd : Type := (Nat → Int32) ⊕ (Nat → Int64) ⊕ (Nat → UInt32) ⊕ (Nat → UInt64) ⊕ (Nat → Option Nat)
def ag_B (b : ag_Bd) (j : Nat) : Value := match b with
  | .inl f => .int (f j)
  | .inr (.inl f) => .long (f j)
  | .inr (.inr (.inr (.inr f))) => va_rf (f j)
  | _ => .null
def ag_T (t : Nat) (b : ag_Bd) : Prop := match b with
  | .inl _ => t = 0 ∨ t = 2
  | .inr (.inl _) => t = 1
  | .inr (.inr (.inr (.inr _))) => t = 3 ∨ t = 4
  | _ => False
def ag_V (E : Nat → Value) (ad : List Nat) (a : ae_V) (v : Value) : Prop := match a with
  | .inl i => ∃ x : Int32, v = .int x ∧ ag_I i x
  | .inr (.inl i) => ∃ x : Int64, v = .long x ∧ ag_J i x
  | .inr (.inr (.inl i)) => ∃ q : Nat, ad[i]? = some q ∧ v = .ref q
  | .inr (.inr (.inr k)) => v = E k
def ag_S (E : Nat → Value) (ad : List Nat) : List ae_V → List Value → Prop
  | [], [] => True
  | a :: l, v :: m => ag_V E ad a v ∧ ag_S E ad l m
  | _, _ => False
def ag_L (E : Nat → Value) (ad : List Nat) : ae_L → List (Nat × Value) → Prop
  | [], [] => True
  | q :: l, r :: m => (q.1 = r.1 ∧ ag_V E ad q.2 r.2) ∧ ag_L E ad l m
  | _, _ => False
def ag_C (E : Nat → Value) (dT : Nat → ClassId) (ad : List Nat) (c : ae_C) (e : va_E) : Prop := match c, e with
  | .inl (t, n, dv, ex), .inl (cA, n', b) => cA = dT t ∧ n' = n ∧ ag_T t b ∧ ∀ j, j < n → ag_V E ad (ae_ag dv ex j) (ag_B b j)
  | .inr (ci, fs), .inr (ci', vs) => ci' = ci ∧ ag_S E ad fs vs
  | _, _ => False
def ag_W (E : Nat → Value) (dT : Nat → ClassId) (ad : List Nat) : List ae_C → va_W → Prop
  | [], [] => True
  | c :: w, q :: ws => ag_C E dT ad c q.2 ∧ ag_W E dT ad w ws
  | _, _ => False
section LISTS
variable {E : Nat → Value} {dT : Nat → ClassId} {ad : List Nat}
theorem ag_V_mono {a : ae_V} {v : Value} (t : List Nat) (h : ag_V E ad a v) : ag_V E (ad ++ t) a v := by
  match a, h with
  | .inl _, h => exact h
  | .inr (.inl _), h => exact h
  | .inr (.inr (.inl i)), h =>
    obtain ⟨q, h1, h2⟩ := h
    have hl : i < ad.length := (List.getElem?_eq_some_iff.mp h1).1
    exact ⟨q, by rw [List.getElem?_append_left hl]; exact h1, h2⟩
  | .inr (.inr (.inr _)), h => exact h
theorem ag_S_mono (t : List Nat) : ∀ {l : List ae_V} {m : List Value}, ag_S E ad l m → ag_S E (ad ++ t) l m
  | [], [], _ => trivial
  | _ :: _, _ :: _, h => ⟨ag_V_mono t h.1, ag_S_mono t h.2⟩
  | [], _ :: _, h => h
  | _ :: _, [], h => h
theorem ag_L_mono (t : List Nat) : ∀ {l : ae_L} {m : List (Nat × Value)}, ag_L E ad l m → ag_L E (ad ++ t) l m
  | [], [], _ => trivial
  | _ :: _, _ :: _, h => ⟨⟨h.1.1, ag_V_mono t h.1.2⟩, ag_L_mono t h.2⟩
  | [], _ :: _, h => h
  | _ :: _, [], h => h
theorem ag_C_mono (t : List Nat) {c : ae_C} {e : va_E} (h : ag_C E dT ad c e) : ag_C E dT (ad ++ t) c e := by
  match c, e, h with
  | .inl (_, _, _, _), .inl (_, _, _), h => exact ⟨h.1, h.2.1, h.2.2.1, fun j hj => ag_V_mono t (h.2.2.2 j hj)⟩
  | .inr (_, _), .inr (_, _), h => exact ⟨h.1, ag_S_mono t h.2⟩
  | .inl _, .inr _, h => exact h
  | .inr _, .inl _, h => exact h
theorem ag_W_mono (t : List Nat) : ∀ {w : List ae_C} {ws : va_W}, ag_W E dT ad w ws → ag_W E dT (ad ++ t) w ws
  | [], [], _ => trivial
  | _ :: _, _ :: _, h => ⟨ag_C_mono t h.1, ag_W_mono t h.2⟩
  | [], _ :: _, h => h
  | _ :: _, [], h => h
theorem ag_S_cons {a : ae_V} {l : List ae_V} {m : List Value} (h : ag_S E ad (a :: l) m) : ∃ v r, m = v :: r ∧ ag_V E ad a v ∧ ag_S E ad l r := by
  cases m with
  | nil => exact h.elim
  | cons v r => exact ⟨v, r, rfl, h.1, h.2⟩
theorem ag_S_nil {m : List Value} (h : ag_S E ad [] m) : m = [] := by
  cases m with
  | nil => rfl
  | cons v r => exact h.elim
theorem ag_S_len : ∀ {l : List ae_V} {m : List Value}, ag_S E ad l m → l.length = m.length
  | [], [], _ => rfl
  | _ :: _, _ :: _, h => by rw [List.length_cons, List.length_cons, ag_S_len h.2]
  | [], _ :: _, h => h.elim
  | _ :: _, [], h => h.elim
theorem ag_S_nth : ∀ {l : List ae_V} {m : List Value} {k : Nat} {a : ae_V}, ag_S E ad l m → l[k]? = some a → ∃ v, m[k]? = some v ∧ ag_V E ad a v
  | [], _, k, _, _, h => by simp at h
  | _ :: _, [], _, _, h, _ => h.elim
  | x :: l, v :: m, 0, a, h, e => by
    have e : x = a := by simpa using e
    subst e
    exact ⟨v, rfl, h.1⟩
  | x :: l, v :: m, k + 1, a, h, e => by
    have e : l[k]? = some a := by simpa using e
    obtain ⟨u, h1, h2⟩ := ag_S_nth h.2 e
    exact ⟨u, by simpa using h1, h2⟩
theorem ag_S_set {a : ae_V} {v : Value} (ha : ag_V E ad a v) : ∀ {l : List ae_V} {m : List Value} {k : Nat}, ag_S E ad l m → ag_S E ad (l.set k a) (m.set k v)
  | [], [], _, _ => trivial
  | _ :: _, [], _, h => h.elim
  | [], _ :: _, _, h => h.elim
  | _ :: _, _ :: _, 0, h => ⟨ha, h.2⟩
  | _ :: _, _ :: _, _ + 1, h => ⟨h.1, ag_S_set ha h.2⟩
theorem ag_S_split : ∀ {l1 l2 : List ae_V} {m : List Value}, ag_S E ad (l1 ++ l2) m → ∃ m1 m2, m = m1 ++ m2 ∧ ag_S E ad l1 m1 ∧ ag_S E ad l2 m2
  | [], _, m, h => ⟨[], m, rfl, trivial, h⟩
  | _ :: l1, l2, [], h => h.elim
  | _ :: l1, l2, v :: m, h => by
    obtain ⟨m1, m2, h1, h2, h3⟩ := ag_S_split h.2
    exact ⟨v :: m1, m2, by rw [h1]; rfl, ⟨h.1, h2⟩, h3⟩
theorem ag_S_app : ∀ {l1 l2 : List ae_V} {m1 m2 : List Value}, ag_S E ad l1 m1 → ag_S E ad l2 m2 → ag_S E ad (l1 ++ l2) (m1 ++ m2)
  | [], _, [], _, _, h => h
  | _ :: _, _, _ :: _, _, h, h2 => ⟨h.1, ag_S_app h.2 h2⟩
  | [], _, _ :: _, _, h, _ => h.elim
  | _ :: _, _, [], _, h, _ => h.elim
theorem ag_S_rev : ∀ {l : List ae_V} {m : List Value}, ag_S E ad l m → ag_S E ad l.reverse m.reverse
  | [], [], _ => trivial
  | _ :: _, _ :: _, h => by
    rw [List.reverse_cons, List.reverse_cons]
    exact ag_S_app (ag_S_rev h.2) ⟨h.1, trivial⟩
  | [], _ :: _, h => h.elim
  | _ :: _, [], h => h.elim
theorem ag_W_nth : ∀ {w : List ae_C} {ws : va_W} {k : Nat} {c : ae_C}, ag_W E dT ad w ws → w[k]? = some c → ∃ q, ws[k]? = some q ∧ ag_C E dT ad c q.2
  | [], _, k, _, _, h => by simp at h
  | _ :: _, [], _, _, h, _ => h.elim
  | x :: l, v :: m, 0, a, h, e => by
    have e : x = a := by simpa using e
    subst e
    exact ⟨v, rfl, h.1⟩
  | x :: l, v :: m, k + 1, a, h, e => by
    have e : l[k]? = some a := by simpa using e
    obtain ⟨u, h1, h2⟩ := ag_W_nth h.2 e
    exact ⟨u, by simpa using h1, h2⟩
theorem ag_W_set {c : ae_C} {q : Nat × va_E} (hc : ag_C E dT ad c q.2) : ∀ {w : List ae_C} {ws : va_W} {k : Nat}, ag_W E dT ad w ws → ag_W E dT ad (w.set k c) (ws.set k q)
  | [], [], _, _ => trivial
  | _ :: _, [], _, h => h.elim
  | [], _ :: _, _, h => h.elim
  | _ :: _, _ :: _, 0, h => ⟨hc, h.2⟩
  | _ :: _, _ :: _, _ + 1, h => ⟨h.1, ag_W_set hc h.2⟩
theorem ag_W_app : ∀ {w1 w2 : List ae_C} {v1 v2 : va_W}, ag_W E dT ad w1 v1 → ag_W E dT ad w2 v2 → ag_W E dT ad (w1 ++ w2) (v1 ++ v2)
  | [], _, [], _, _, h => h
  | _ :: _, _, _ :: _, _, h, h2 => ⟨h.1, ag_W_app h.2 h2⟩
  | [], _, _ :: _, _, h, _ => h.elim
  | _ :: _, _, [], _, h, _ => h.elim
theorem ag_W_len : ∀ {w : List ae_C} {ws : va_W}, ag_W E dT ad w ws → w.length = ws.length
  | [], [], _ => rfl
  | _ :: _, _ :: _, h => by rw [List.length_cons, List.length_cons, ag_W_len h.2]
  | [], _ :: _, h => h.elim
  | _ :: _, [], h => h.elim
theorem ag_addr {ws : va_W} {i q : Nat} (had : ws.map Prod.fst = ad) (h : ad[i]? = some q) : ∃ e, ws[i]? = some (q, e) := by
  rw [← had, List.getElem?_map] at h
  cases hi : ws[i]? with
  | none => rw [hi] at h; cases h
  | some x =>
    rw [hi] at h
    have h : x.1 = q := by simpa using h
    exact ⟨x.2, by rw [← h]⟩
theorem ag_cell {w : List ae_C} {ws : va_W} {i q : Nat} {c : ae_C} (had : ws.map Prod.fst = ad) (hw : ag_W E dT ad w ws) (h : ad[i]? = some q) (hc : w[i]? = some c) : ∃ e, ws[i]? = some (q, e) ∧ ag_C E dT ad c e := by
  obtain ⟨e, he⟩ := ag_addr had h
  obtain ⟨x, hx, hcx⟩ := ag_W_nth hw hc
  rw [he] at hx
  cases hx
  exact ⟨e, he, hcx⟩
theorem ag_set_ad {ws : va_W} {i q : Nat} {e e' : va_E} (had : ws.map Prod.fst = ad) (h : ws[i]? = some (q, e)) : (ws.set i (q, e')).map Prod.fst = ad := by
  rw [List.map_set, had]
  have h2 : ad[i]? = some q := by rw [← had, List.getElem?_map, h]; rfl
  obtain ⟨hl, he⟩ := List.getElem?_eq_some_iff.mp h2
  rw [← he]
  simp
theorem ag_cat {a : ae_V} {v : Value} (hE : ∀ k, E k = .null ∨ ∃ q, E k = .ref q) (h : ag_V E ad a v) : v.category = ae_w1 a := by
  match a, h with
  | .inl _, h => obtain ⟨x, rfl, -⟩ := h; rfl
  | .inr (.inl _), h => obtain ⟨x, rfl, -⟩ := h; rfl
  | .inr (.inr (.inl _)), h => obtain ⟨q, -, rfl⟩ := h; rfl
  | .inr (.inr (.inr k)), h =>
    have h : v = E k := h
    rcases hE k with e | ⟨q, e⟩ <;> rw [h, e] <;> rfl
theorem ag_cat1 {a : ae_V} {v : Value} (hE : ∀ k, E k = .null ∨ ∃ q, E k = .ref q) (h : ag_V E ad a v) (hc : (!(ae_cat2 a)) = true) : v.category = 1 := by
  rw [ag_cat hE h]
  unfold ae_w1
  cases hx : ae_cat2 a with
  | true => rw [hx] at hc; cases hc
  | false => rfl
theorem ag_catb {a : ae_V} {v : Value} (hE : ∀ k, E k = .null ∨ ∃ q, E k = .ref q) (h : ag_V E ad a v) : (v.category == 2) = ae_cat2 a := by
  rw [ag_cat hE h]
  unfold ae_w1
  cases ae_cat2 a <;> rfl
theorem ag_wd (hE : ∀ k, E k = .null ∨ ∃ q, E k = .ref q) : ∀ {l : List ae_V} {m : List Value}, ag_S E ad l m → (m.map fun v => v.category).sum = ae_wd l
  | [], [], _ => rfl
  | a :: l, v :: m, h => by
    have h1 := ag_cat hE h.1
    have h2 := ag_wd hE h.2
    show v.category + (m.map fun v => v.category).sum = ae_w1 a + ae_wd l
    rw [h1, h2]
  | [], _ :: _, h => h.elim
  | _ :: _, [], h => h.elim
theorem ag_L_get : ∀ {lo : ae_L} {lv : List (Nat × Value)} {i : Nat} {a : ae_V}, ag_L E ad lo lv → ae_get lo i = some a → ∃ (k : Nat) (v : Value), lv[k]? = some (i, v) ∧ ag_V E ad a v
  | [], _, _, _, _, h => by cases h
  | _ :: _, [], _, _, h, _ => h.elim
  | q :: lo, r :: lv, i, a, h, e => by
    have e : cond (Nat.beq q.1 i) (some q.2) (ae_get lo i) = some a := e
    cases hb : Nat.beq q.1 i with
    | true =>
      rw [hb] at e
      have e : q.2 = a := Option.some.inj e
      have h1 := Nat.eq_of_beq_eq_true hb
      refine ⟨0, r.2, ?_, by rw [← e]; exact h.1.2⟩
      show some r = some (i, r.2)
      rw [← h1, h.1.1]
    | false =>
      rw [hb] at e
      obtain ⟨k, v, h1, h2⟩ := ag_L_get h.2 e
      exact ⟨k + 1, v, by simpa using h1, h2⟩
theorem ag_beq (a b : Nat) : (a == b) = Nat.beq a b := by
  cases h : Nat.beq a b with
  | true => rw [Nat.eq_of_beq_eq_true h]; simp
  | false =>
    have hn : a ≠ b := Nat.ne_of_beq_eq_false h
    simp [hn]
theorem ag_L_fil1 (hE : ∀ k, E k = .null ∨ ∃ q, E k = .ref q) (i : Nat) : ∀ {lo : ae_L} {lv : List (Nat × Value)}, ag_L E ad lo lv → ag_L E ad (lo.filter (ae_keep1 i)) (lv.filter (fun q => !(q.1 == i) && !(q.1 + 1 == i && q.2.category == 2)))
  | [], [], _ => trivial
  | q :: lo, r :: lv, h => by
    have ih := ag_L_fil1 hE i h.2
    rw [List.filter_cons, List.filter_cons]
    have e : (!(r.1 == i) && !(r.1 + 1 == i && r.2.category == 2)) = ae_keep1 i q := by
      rw [ag_catb hE h.1.2, ← h.1.1]
      simp only [ag_beq]
      rfl
    rw [e]
    cases ae_keep1 i q with
    | true => exact ⟨h.1, ih⟩
    | false => exact ih
  | [], _ :: _, h => h.elim
  | _ :: _, [], h => h.elim
theorem ag_L_fil2 (hE : ∀ k, E k = .null ∨ ∃ q, E k = .ref q) (i : Nat) : ∀ {lo : ae_L} {lv : List (Nat × Value)}, ag_L E ad lo lv → ag_L E ad (lo.filter (ae_keep2 i)) (lv.filter (fun q => !(q.1 == i) && (!(q.1 == i + 1) && !(q.1 + 1 == i && q.2.category == 2))))
  | [], [], _ => trivial
  | q :: lo, r :: lv, h => by
    have ih := ag_L_fil2 hE i h.2
    rw [List.filter_cons, List.filter_cons]
    have e : (!(r.1 == i) && (!(r.1 == i + 1) && !(r.1 + 1 == i && r.2.category == 2))) = ae_keep2 i q := by
      rw [ag_catb hE h.1.2, ← h.1.1]
      simp only [ag_beq]
      rfl
    rw [e]
    cases ae_keep2 i q with
    | true => exact ⟨h.1, ih⟩
    | false => exact ih
  | [], _ :: _, h => h.elim
  | _ :: _, [], h => h.elim
theorem ae_args_eq : ∀ (l : List ae_V) (i : Nat), ∃ lo : ae_L, (∀ k, ae_args l i k = k lo) ∧ ∀ (E : Nat → Value) (ad : List Nat) (m : List Value), (∀ k, E k = .null ∨ ∃ q, E k = .ref q) → ag_S E ad l m → ag_L E ad lo (lv_args i m) := by
  intro l
  induction l with
  | nil =>
    intro i
    refine ⟨[], fun k => rfl, fun E ad m hE h => ?_⟩
    rw [ag_S_nil h]
    trivial
  | cons a l ih =>
    intro i
    obtain ⟨lo, h1, h2⟩ := ih (i + ae_w1 a)
    refine ⟨(i, a) :: lo, fun k => ?_, fun E ad m hE h => ?_⟩
    · show ae_args l (i + ae_w1 a) (fun ys => k ((i, a) :: ys)) = _
      rw [h1]
    · obtain ⟨v, r, rfl, hv, hr⟩ := ag_S_cons h
      have hc := ag_cat hE hv
      have h3 := h2 E ad r hE hr
      refine ⟨⟨rfl, hv⟩, ?_⟩
      show ag_L E ad lo (lv_args (if v.category = 2 then i + 2 else i + 1) r)
      have e : (if v.category = 2 then i + 2 else i + 1) = i + ae_w1 a := by
        rw [hc]
        unfold ae_w1
        cases ae_cat2 a <;> rfl
      rw [e]
      exact h3
theorem ag_sl (hE : ∀ k, E k = .null ∨ ∃ q, E k = .ref q) : ∀ {l : List ae_V} {m : List Value}, ag_S E ad l m → (lg_sl m).length = ae_wd l
  | [], [], _ => rfl
  | a :: l, v :: m, h => by
    have h1 := ag_cat hE h.1
    have h2 := ag_sl hE h.2
    show ((if v.category = 2 then [Slot.val v, .second] else [Slot.val v]) ++ lg_sl m).length = ae_w1 a + ae_wd l
    rw [List.length_append, h2, h1]
    unfold ae_w1
    cases ae_cat2 a <;> rfl
  | [], _ :: _, h => h.elim
  | _ :: _, [], h => h.elim
end LISTS
theorem ae_as_eq (j : Nat) (v : ae_V) : ∀ ex : List (Nat × ae_V), ∃ ys, (∀ (k : List (Nat × ae_V) → ae_O), ae_as ex j v k = k ys) ∧ ∀ (dv : ae_V) (i : Nat), ae_ag dv ys i = if i = j then v else ae_ag dv ex i := by
  intro ex
  induction ex with
  | nil =>
    refine ⟨[(j, v)], fun k => rfl, fun dv i => ?_⟩
    show cond (Nat.beq j i) v dv = _
    by_cases h : i = j
    · rw [if_pos h, h]
      have e : Nat.beq j j = true := Nat.beq_refl j
      rw [e]
      rfl
    · rw [if_neg h]
      have e : Nat.beq j i = false := by
        cases hb : Nat.beq j i with
        | false => rfl
        | true => exact absurd (Nat.eq_of_beq_eq_true hb).symm h
      rw [e]
      rfl
  | cons q ex ih =>
    obtain ⟨ys, h1, h2⟩ := ih
    cases hq : Nat.beq q.1 j with
    | true =>
      have hq' := Nat.eq_of_beq_eq_true hq
      refine ⟨(j, v) :: ex, fun k => ?_, fun dv i => ?_⟩
      · show cond (Nat.beq q.1 j) (k ((j, v) :: ex)) _ = _
        rw [hq]
        rfl
      · show cond (Nat.beq j i) v (ae_ag dv ex i) = if i = j then v else cond (Nat.beq q.1 i) q.2 (ae_ag dv ex i)
        rw [hq']
        by_cases h : i = j
        · rw [if_pos h, h]
          have e : Nat.beq j j = true := Nat.beq_refl j
          rw [e]
          rfl
        · rw [if_neg h]
          have e : Nat.beq j i = false := by
            cases hb : Nat.beq j i with
            | false => rfl
            | true => exact absurd (Nat.eq_of_beq_eq_true hb).symm h
          rw [e]
          rfl
    | false =>
      refine ⟨q :: ys, fun k => ?_, fun dv i => ?_⟩
      · show cond (Nat.beq q.1 j) _ (ae_as ex j v (fun ys => k (q :: ys))) = _
        rw [hq, h1]
        rfl
      · show cond (Nat.beq q.1 i) q.2 (ae_ag dv ys i) = if i = j then v else cond (Nat.beq q.1 i) q.2 (ae_ag dv ex i)
        rw [h2]
        by_cases h : i = j
        · rw [if_pos h, if_pos h, h, hq]
          rfl
        · rw [if_neg h, if_neg h]
