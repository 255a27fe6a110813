/-! ===== the two objects made: the law up to its loop, by the kernel ===== -/
def m0F (k : Nat) : Int := cond (Nat.beq k 7 || (Nat.beq k 13 || Nat.beq k 25)) 2 0
def m0A (i : Nat) : Int := cond (Nat.beq i 29 || Nat.beq i 30) (-2) (cond (Nat.beq i 59) (-1) 0)
def m0 : kM := (m0F, (fun i _ => m0A i, (fun _ => vE 0, [])))
def qO (o : Nat × List ae_V) : ae_C → Bool
  | .inr a => decide (a = o)
  | .inl _ => false
def qB (t n : Nat) (v : ae_V) : ae_C → Bool
  | .inl (t', n', dv, ex) => decide (t' = t) && (decide (n' = n) && (decide (dv = v) && ex.all (fun p => decide (p.2 = v))))
  | .inr _ => false
noncomputable def qS (t n : Nat) (f : Nat → ae_V) : ae_C → Bool
  | .inl (t', n', dv, ex) => decide (t' = t) && (decide (n' = n) && (List.range n).all (fun j => decide (ae_ag dv ex j = f j)))
  | .inr _ => false
def qW : List (ae_C → Bool) → List ae_C → Bool
  | [], [] => true
  | q :: qs, c :: w => q c && qW qs w
  | _, _ => false
def qF : List (ae_C → Bool) → List ae_C → Prop
  | [], [] => True
  | q :: qs, c' :: w => (∀ c, q c = true → cw_E c c') ∧ qF qs w
  | _, _ => False
theorem qF_W : ∀ {qs : List (ae_C → Bool)} {w' w : List ae_C}, qF qs w' → qW qs w = true → cw_W w w'
  | [], [], [], _, _ => trivial
  | _ :: _, _ :: _, _ :: _, h, h2 => ⟨h.1 _ (ae_and h2).1, qF_W h.2 (ae_and h2).2⟩
  | [], _ :: _, _, h, _ => h.elim
  | _ :: _, [], _, h, _ => h.elim
  | [], [], _ :: _, _, h2 => by cases h2
  | _ :: _, _ :: _, [], _, h2 => by cases h2
theorem qO_s {o : Nat × List ae_V} (c : ae_C) (h : qO o c = true) : cw_E c (.inr o) := by
  match c, h with
  | .inr a, h =>
    have h : decide (a = o) = true := h
    have h : a = o := of_decide_eq_true h
    exact h
  | .inl _, h => cases h
theorem ag_const {v : ae_V} {j : Nat} : ∀ {ex : List (Nat × ae_V)}, ex.all (fun p => decide (p.2 = v)) = true → ae_ag v ex j = v
  | [], _ => rfl
  | p :: ex, h => by
    obtain ⟨h1, h2⟩ := ae_and (show (decide (p.2 = v) && ex.all (fun p => decide (p.2 = v))) = true from h)
    show cond (Nat.beq p.1 j) p.2 (ae_ag v ex j) = v
    rw [ag_const h2, of_decide_eq_true h1]
    cases Nat.beq p.1 j <;> rfl
theorem qB_s {t n : Nat} {v dv : ae_V} {f : Int → ae_V} (hf : ∀ j, f j = v) (c : ae_C) (h : qB t n v c = true) : cw_E c (.inl (t, n, dv, tb n f)) := by
  match c, h with
  | .inr _, h => cases h
  | .inl (t', n', dv', ex), h =>
    obtain ⟨h1, h⟩ := ae_and h
    obtain ⟨h2, h⟩ := ae_and h
    obtain ⟨h3, h4⟩ := ae_and h
    have h1 := of_decide_eq_true h1
    have h2 := of_decide_eq_true h2
    have h3 := of_decide_eq_true h3
    subst h1 h2 h3
    exact ⟨rfl, rfl, fun j hj => by rw [ag_const h4, tb_ag hj, hf]⟩
theorem qS_i {t n : Nat} {dv : ae_V} {f : Int → ae_V} {g : Nat → ae_V} (hf : ∀ j : Nat, f (j : Int) = g j) (c : ae_C) (h : qS t n g c = true) : cw_E c (.inl (t, n, dv, tb n f)) := by
  match c, h with
  | .inr _, h => cases h
  | .inl (t', n', dv', ex), h =>
    obtain ⟨h1, h⟩ := ae_and h
    obtain ⟨h2, h4⟩ := ae_and h
    have h1 := of_decide_eq_true h1
    have h2 := of_decide_eq_true h2
    subst h1 h2
    exact ⟨rfl, rfl, fun j hj => by rw [of_decide_eq_true (List.all_eq_true.mp h4 j (List.mem_range.mpr hj)), tb_ag hj, hf]⟩
theorem qS_a {t n a : Nat} (c : ae_C) (h : qS (3 + t) n (fun j => vR (a + j)) c = true) : cw_E c (cA t n a) := by
  match c, h with
  | .inr _, h => cases h
  | .inl (t', n', dv', ex), h =>
    obtain ⟨h1, h⟩ := ae_and h
    obtain ⟨h2, h4⟩ := ae_and h
    have h1 := of_decide_eq_true h1
    have h2 := of_decide_eq_true h2
    subst h1 h2
    exact ⟨rfl, rfl, fun j hj => by rw [of_decide_eq_true (List.all_eq_true.mp h4 j (List.mem_range.mpr hj)), rng_ag _ _ 0 a j (Nat.zero_le _) (by omega), Nat.sub_zero]⟩
noncomputable def q0 : List (ae_C → Bool) := [qO (7, [vR 1, vR 3, vR 9, vR 15, vR 16, vR 31, vR 58, vR 59, vR 60, vI 0, vI 0, vI 0]),
  qO (5, [vR 2, vI 0, vI 0, vI 0, vI 0]),
  qB 0 200 (vI 0),
  qO (2, [vR 4, vR 5, vR 6, vR 7, vR 8, vI 2, vI 0, vI 0, vI 0, vI 0, vI 0]),
  qB 0 10 (vI 0),
  qB 0 10 (vI 0),
  qB 0 10 (vI 0),
  qB 0 10 (vI 0),
  qB 0 2 (vI 0),
  qO (2, [vR 10, vR 11, vR 12, vR 13, vR 14, vI 2, vI 0, vI 0, vI 0, vI 0, vI 0]),
  qB 0 10 (vI 0),
  qB 0 10 (vI 0),
  qB 0 10 (vI 0),
  qB 0 10 (vI 0),
  qB 0 2 (vI 0),
  qO (0, [vR 3]),
  qO (1, [vR 3, vR 17, vR 29, vR 30, vE 0, vE 0, vI 0]),
  qO (6, [vR 3, vR 15, vR 18, vR 19, vR 20, vR 21, vR 28, vI 0, vI 0]),
  qB 1 64512 (vL 0),
  qB 1 8192 (vL 0),
  qB 0 100 (vI 0),
  qS (3 + 0) 6 (fun j => vR (22 + j)),
  qB 0 10 (vI 0),
  qB 0 10 (vI 0),
  qB 0 10 (vI 0),
  qB 0 10 (vI 0),
  qB 0 10 (vI 0),
  qB 0 10 (vI 0),
  qB 0 6 (vI 0),
  qS 0 4 (fun _ => vI (-2)),
  qS 0 10 (fun _ => vI (-2)),
  qO (3, [vR 3, vR 32, vR 33, vR 34, vR 46, vI 0]),
  qB 0 8 (vI 0),
  qB 0 8 (vI 0),
  qS (3 + 1) 11 (fun j => vR (35 + j)),
  qB 1 6 (vL 0),
  qB 1 6 (vL 0),
  qB 1 6 (vL 0),
  qB 1 6 (vL 0),
  qB 1 6 (vL 0),
  qB 1 6 (vL 0),
  qB 1 6 (vL 0),
  qB 1 6 (vL 0),
  qB 1 6 (vL 0),
  qB 1 6 (vL 0),
  qB 1 6 (vL 0),
  qS (3 + 1) 11 (fun j => vR (47 + j)),
  qB 1 6 (vL 0),
  qB 1 6 (vL 0),
  qB 1 6 (vL 0),
  qB 1 6 (vL 0),
  qB 1 6 (vL 0),
  qB 1 6 (vL 0),
  qB 1 6 (vL 0),
  qB 1 6 (vL 0),
  qB 1 6 (vL 0),
  qB 1 6 (vL 0),
  qB 1 6 (vL 0),
  qB 0 20 (vI 0),
  qS 0 2 (fun _ => vI (-1)),
  qB 0 2 (vI 0),
  qO (8, [vR 62, vR 63, vR 64, vI 0, vR 65, vI 0, vI 2, vR 66, vI 0, vI 0, vI 0, vI 0, vI 0, vR 67, vI 0, vI 0, vI 0, vI 0, vI 0, vI 0, vR 68, vR 69, vR 70, vI 0, vR 71, vR 72, vI 0, vR 73, vI 0, vR 74, vR 75]),
  qB 0 48 (vI 0),
  qB 2 2 (vI 0),
  qB 0 200 (vI 0),
  qB 0 40 (vI 0),
  qB 0 40 (vI 0),
  qB 0 2 (vI 0),
  qB 0 64512 (vI 0),
  qB 0 64512 (vI 0),
  qB 2 64512 (vI 0),
  qB 0 400 (vI 0),
  qB 0 20 (vI 0),
  qB 0 16 (vI 0),
  qB 1 66 (vL 0),
  qB 1 66 (vL 0)]
set_option maxRecDepth 100000 in
theorem q0_s : qF q0 (kl m0) := ⟨qO_s, ⟨qO_s, ⟨qB_s (fun _ => rfl), ⟨qO_s, ⟨qB_s (fun _ => rfl), ⟨qB_s (fun _ => rfl), ⟨qB_s (fun _ => rfl), ⟨qB_s (fun _ => rfl), ⟨qB_s (fun _ => rfl), ⟨qO_s, ⟨qB_s (fun _ => rfl), ⟨qB_s (fun _ => rfl), ⟨qB_s (fun _ => rfl), ⟨qB_s (fun _ => rfl), ⟨qB_s (fun _ => rfl), ⟨qO_s, ⟨qO_s, ⟨qO_s, ⟨qB_s (fun _ => rfl), ⟨qB_s (fun _ => rfl), ⟨qB_s (fun _ => rfl), ⟨qS_a, ⟨qB_s (fun _ => rfl), ⟨qB_s (fun _ => rfl), ⟨qB_s (fun _ => rfl), ⟨qB_s (fun _ => rfl), ⟨qB_s (fun _ => rfl), ⟨qB_s (fun _ => rfl), ⟨qB_s (fun _ => rfl), ⟨qS_i (fun _ => rfl), ⟨qS_i (fun _ => rfl), ⟨qO_s, ⟨qB_s (fun _ => rfl), ⟨qB_s (fun _ => rfl), ⟨qS_a, ⟨qB_s (fun _ => rfl), ⟨qB_s (fun _ => rfl), ⟨qB_s (fun _ => rfl), ⟨qB_s (fun _ => rfl), ⟨qB_s (fun _ => rfl), ⟨qB_s (fun _ => rfl), ⟨qB_s (fun _ => rfl), ⟨qB_s (fun _ => rfl), ⟨qB_s (fun _ => rfl), ⟨qB_s (fun _ => rfl), ⟨qB_s (fun _ => rfl), ⟨qS_a, ⟨qB_s (fun _ => rfl), ⟨qB_s (fun _ => rfl), ⟨qB_s (fun _ => rfl), ⟨qB_s (fun _ => rfl), ⟨qB_s (fun _ => rfl), ⟨qB_s (fun _ => rfl), ⟨qB_s (fun _ => rfl), ⟨qB_s (fun _ => rfl), ⟨qB_s (fun _ => rfl), ⟨qB_s (fun _ => rfl), ⟨qB_s (fun _ => rfl), ⟨qB_s (fun _ => rfl), ⟨qS_i (fun _ => rfl), ⟨qB_s (fun _ => rfl), ⟨qO_s, ⟨qB_s (fun _ => rfl), ⟨qB_s (fun _ => rfl), ⟨qB_s (fun _ => rfl), ⟨qB_s (fun _ => rfl), ⟨qB_s (fun _ => rfl), ⟨qB_s (fun _ => rfl), ⟨qB_s (fun _ => rfl), ⟨qB_s (fun _ => rfl), ⟨qB_s (fun _ => rfl), ⟨qB_s (fun _ => rfl), ⟨qB_s (fun _ => rfl), ⟨qB_s (fun _ => rfl), ⟨qB_s (fun _ => rfl), ⟨qB_s (fun _ => rfl), trivial⟩⟩⟩⟩⟩⟩⟩⟩⟩⟩⟩⟩⟩⟩⟩⟩⟩⟩⟩⟩⟩⟩⟩⟩⟩⟩⟩⟩⟩⟩⟩⟩⟩⟩⟩⟩⟩⟩⟩⟩⟩⟩⟩⟩⟩⟩⟩⟩⟩⟩⟩⟩⟩⟩⟩⟩⟩⟩⟩⟩⟩⟩⟩⟩⟩⟩⟩⟩⟩⟩⟩⟩⟩⟩⟩⟩
noncomputable def ae_to (XA : List ae_I) (stop : Nat) (KF : ae_K) (n : Nat) : Nat → Nat → ae_M → ae_K := Nat.rec (motive := fun _ => Nat → Nat → ae_M → ae_K) (fun _ _ _ _ _ _ _ _ _ => none)
  (fun n ih d q me pc lo st w cs sl => cond (Nat.beq pc stop) (KF pc lo st w cs sl) (ae_some (ae_nth (ae_il me) pc) (fun oie => ae_some oie (fun ie =>
    cond (Nat.beq ie.2.2.2.2.1 77777) (ae_macro (ih d q me) ie pc lo st w cs sl)
      (ae_step ae_MT ae_DF ae_TY ae_SN XA (ag_CF XA n) d q me (ih d q me) ie pc lo st w cs sl))))) n
section TO2
variable {adK adV : Nat → Nat} {b L : Nat} {xs : Nat → Int32} {dC : Nat → ClassId} {dI : Nat → Nat → Nat} {dT : Nat → ClassId} {XA : List ae_I}
theorem ag_to2 (hT : ag_tab) (hXA : (XA = [] ∨ XA.length = L) ∧ L ≤ 256 ∧ ∀ (j : Nat) (a : ae_I), XA[j]? = some a → ag_I a (xs j)) {stop : Nat} {KF : ae_K} {d q : Nat} {me : ae_M} (hm : me ∈ ae_MT) {res : ae_R} {A : Nat → Prop} {p : Program} {l : Launch} {e : Env} {R : Room} {s : State} {m : MethodId} {args : Array Value} {below : List Frame} {meth : Method} {c : Code} {Q : State → Prop} {ad0 : List Nat} (hF : ag_F (ag_X adK adV b L xs) dC dI dT A me d q p R s m args meth c) (hfin : ag_fin (ag_E adK b) dC dI dT A me p l e R s m args below meth c Q ad0 res)
    (hKF : ∀ (lo : ae_L) (st : List ae_V) (w : List ae_C) (cs sl : Nat), KF stop lo st w cs sl = some res → ag_H (ag_E adK b) dC dI dT A me p l e R s m args below meth c Q ad0 stop lo st w cs sl) : ∀ n : Nat, ag_N (ag_E adK b) dC dI dT A me p l e R s m args below meth c Q ad0 (ae_to XA stop KF n d q me) res := by
  intro n
  induction n with
  | zero =>
    intro pc lo st w cs sl h
    cases h
  | succ n ih =>
    intro pc lo st w cs sl h
    have h : cond (Nat.beq pc stop) (KF pc lo st w cs sl) (ae_some (ae_nth (ae_il me) pc) (fun oie => ae_some oie (fun ie => cond (Nat.beq ie.2.2.2.2.1 77777) (ae_macro (ae_to XA stop KF n d q me) ie pc lo st w cs sl) (ae_step ae_MT ae_DF ae_TY ae_SN XA (ag_CF XA n) d q me (ae_to XA stop KF n d q me) ie pc lo st w cs sl)))) = some res := h
    cases hb : Nat.beq pc stop with
    | true =>
      rw [hb] at h
      have hp := ae_beq hb
      subst hp
      exact hKF lo st w cs sl h
    | false =>
      rw [hb] at h
      have hXS : ag_X adK adV b L xs A s := hF.2.2.2.2.2.2.2.2.2.2.2.2.2.2
      exact ag_one hT (CF := ag_CF XA n) hm hF ih (ag_X_sc hXA hXS) (ag_metOf hT (ag_run hT hXA n) l) hfin h
end TO2
noncomputable def ae_K0 : ae_K := fun _ lo st w cs sl => ae_if (decide (lo = [(3, vI 0), (2, vR 61), (1, vR 0), (0, vE 1)]) && (decide (st = []) && (qW q0 w && (decide (cs = 76) && decide (sl = 267897))))) (some (none, []))
def ae_is (o : ae_O) : Bool := match o with
  | some (none, []) => true
  | _ => false
theorem ae_is_eq {o : ae_O} (h : ae_is o = true) : o = some (none, []) := by
  unfold ae_is at h
  split at h
  · rfl
  · cases h
set_option maxRecDepth 100000 in
theorem go_0 : ae_is (ae_to [] 18 ae_K0 60000 11 406 mL_law 0 [(0, vE 1)] [] [] 0 0) = true := by decide +kernel
theorem m0F_b (k : Nat) : 0 ≤ m0F k ∧ m0F k ≤ 2 := by
  unfold m0F
  cases (Nat.beq k 7 || (Nat.beq k 13 || Nat.beq k 25)) <;> decide
theorem m0_I : kI m0 := by
  refine ⟨fun k => ?_, fun i j h0 h1 => ?_⟩
  · show (rF k).1 ≤ m0F k ∧ m0F k ≤ (rF k).2
    by_cases hk : k < 40
    · exact (show ∀ k : Fin 40, (rF k.1).1 ≤ m0F k.1 ∧ m0F k.1 ≤ (rF k.1).2 by decide +kernel) ⟨k, hk⟩
    · have e : rF k = (-2147483648, 2147483647) := by
        unfold rF
        rw [List.getElem?_eq_none (show rFl.length ≤ k from Nat.le_of_not_lt hk)]
        rfl
      have h := m0F_b k
      rw [e]
      exact ⟨Int.le_trans (by decide) h.1, Int.le_trans h.2 (by decide)⟩
  · show (rA i).2.1 ≤ m0A i ∧ m0A i ≤ (rA i).2.2
    by_cases hi : i < 76
    · exact (show ∀ i : Fin 76, (rA i.1).2.1 ≤ m0A i.1 ∧ m0A i.1 ≤ (rA i.1).2.2 by decide +kernel) ⟨i, hi⟩
    · have e : rA i = (0, (0, 0)) := by
        unfold rA
        rw [List.getElem?_eq_none (show rAl.length ≤ i from Nat.le_of_not_lt hi)]
        rfl
      rw [e] at h1
      exact absurd h1 (Int.not_lt.mpr h0)
theorem m0_iv : iv m0 := ⟨m0_I, fun _ _ _ => ⟨Int.le_refl 0, by show (0 : Int) / 524288 % 131072 < 64512; decide⟩, ⟨Or.inl rfl, Or.inl rfl⟩, (by show pcn 0 ≤ 4; decide), (fun e h0 h1 => absurd h1 (Int.not_lt.mpr h0)), ⟨(by show kv 0 ((0 : Int), (0 : Int), (0 : Int), (0 : Int), (0 : Int), (0 : Int), (0 : Int)); exact kv_begin (by decide) (by decide) (by decide) (by decide) (by decide)), (fun h => absurd (show (0 : Int) = 1 from h) (by decide)), (fun h => absurd (show (0 : Int) = 1 from h) (by decide))⟩, rfl, rfl, rfl, rfl, rfl, rfl, rfl, ⟨fun _ h0 h1 => absurd h1 (Int.not_lt.mpr h0), rfl⟩, (fun _ h0 h1 => absurd h1 (Int.not_lt.mpr h0)), (fun _ h0 h1 => absurd h1 (Int.not_lt.mpr h0))⟩
theorem m0_bu : bu 76 267897 0 m0 := ⟨Nat.le_refl _, Or.inl (Nat.le_add_right _ _)⟩
theorem lw_start {V : cg_V} (hL : V.2.2.2.1 ≤ 256) : cg_G V mL_law 11 406 (fun r => ∃ w9, r = (some (vI 1), w9)) 0 [(0, vE 1)] [] [] 0 0 := by
  intro hT hm hL9 A p e R s m args below meth c Q ad0 hF hfin
  refine ag_to2 hT (XA := []) ⟨Or.inl rfl, hL9, fun j a h => by simp at h⟩ hm hF (cg_du_fin (me := mL_law)) (KF := ae_K0) (stop := 18) ?_ 60000 0 _ _ _ 0 0 (ae_is_eq go_0)
  intro lo st w cs sl h
  obtain ⟨h, -⟩ := ae_if_inv h
  obtain ⟨h1, h⟩ := ae_and h
  obtain ⟨h2, h⟩ := ae_and h
  obtain ⟨h3, h⟩ := ae_and h
  obtain ⟨h4, h5⟩ := ae_and h
  have h1 := of_decide_eq_true h1
  have h2 := of_decide_eq_true h2
  have h4 := of_decide_eq_true h4
  have h5 := of_decide_eq_true h5
  subst h1 h2 h4 h5
  exact g_weq (qF_W q0_s h3) (lw_loop hL 64 0 rfl 0 rfl m0 76 267897 m0_iv m0_bu) hT hm hL9 A p e R s m args below meth c Q ad0 hF hfin
