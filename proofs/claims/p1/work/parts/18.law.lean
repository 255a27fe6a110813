/-! ===== the law's own walk: up to its switch once, then case by case ===== -/
noncomputable def ae_to (XA : List ae_I) (stop : Nat) (KF : ae_K) (n : Nat) : Nat → Nat → ae_M → ae_K := Nat.rec (motive := fun _ => Nat → Nat → ae_M → ae_K) (fun _ _ _ _ _ _ _ _ _ => none)
  (fun n ih d q me pc lo st w cs sl => cond (Nat.beq pc stop) (KF pc lo st w cs sl) (ae_some (ae_nth (ae_il me) pc) (fun oie => ae_some oie (fun ie =>
    cond (Nat.beq ie.2.2.2.2.1 77777) (ae_macro (ih d q me) ie pc lo st w cs sl)
      (ae_step ae_MT ae_DF ae_TY ae_SN XA (ag_CF XA n) d q me (ih d q me) ie pc lo st w cs sl))))) n
section TO
variable {adK adV : Nat → Nat} {b L : Nat} {xs : Nat → Int32} {dC : Nat → ClassId} {dI : Nat → Nat → Nat} {dT : Nat → ClassId} {XA : List ae_I}
theorem ag_to (hT : ag_tab) (hXA : XA.length = L ∧ L ≤ 4 ∧ ∀ (j : Nat) (a : ae_I), XA[j]? = some a → ag_I a (xs j)) {stop : Nat} {KF : ae_K} {d q : Nat} {me : ae_M} (hm : me ∈ ae_MT) {res : ae_R} {A : Nat → Prop} {p : Program} {l : Launch} {e : Env} {R : Room} {s : State} {m : MethodId} {args : Array Value} {below : List Frame} {meth : Method} {c : Code} {Q : State → Prop} {ad0 : List Nat} (hF : ag_F (ag_X adK adV b L xs) dC dI dT A me d q p R s m args meth c) (hfin : ag_fin (ag_E adK b) dC dI dT A me p l e R s m args below meth c Q ad0 res)
    (hKF : ag_N (ag_E adK b) dC dI dT A me p l e R s m args below meth c Q ad0 KF res) : ∀ n : Nat, ag_N (ag_E adK b) dC dI dT A me p l e R s m args below meth c Q ad0 (ae_to XA stop KF n d q me) res := by
  intro n
  induction n with
  | zero =>
    intro pc lo st w cs sl h
    cases h
  | succ n ih =>
    intro pc lo st w cs sl h
    have h : cond (Nat.beq pc stop) (KF pc lo st w cs sl) (ae_some (ae_nth (ae_il me) pc) (fun oie => ae_some oie (fun ie => cond (Nat.beq ie.2.2.2.2.1 77777) (ae_macro (ae_to XA stop KF n d q me) ie pc lo st w cs sl) (ae_step ae_MT ae_DF ae_TY ae_SN XA (ag_CF XA n) d q me (ae_to XA stop KF n d q me) ie pc lo st w cs sl)))) = some res := h
    cases hb : Nat.beq pc stop with
    | true =>
      rw [hb] at h
      exact hKF pc lo st w cs sl h
    | false =>
      rw [hb] at h
      have hXS : ag_X adK adV b L xs A s := hF.2.2.2.2.2.2.2.2.2.2.2.2.2.2
      exact ag_one hT (CF := ag_CF XA n) hm hF ih (ag_X_sc hXA hXS) (ag_metOf hT (ag_run hT hXA n) l) hfin h
end TO
def ae_FI : ae_I := .inr (-2147483648, 2147483647)
def ae_okr (o : ae_O) : Bool := match o with
  | some (some (.inl (.inl 1)), _) => true
  | _ => false
def ae_is (o : ae_O) : Bool := match o with
  | some (none, []) => true
  | _ => false
/-- the cases of a call: what the switch sees, what the next three ints are -/
abbrev ae_Cs : Type := ae_I × (List ae_I × (List ae_I × List ae_I))
noncomputable def ae_grp (g : ae_Cs) (pc : Nat) (lo : ae_L) (w : List ae_C) (cs sl : Nat) : Bool := g.2.1.all (fun a1 => g.2.2.1.all (fun a2 => g.2.2.2.all (fun a3 => ae_okr (ae_run ae_MT ae_DF ae_TY ae_SN [ae_FI, a1, a2, a3] 60000 11 406 mL_law pc lo [.inl g.1] w cs sl))))
noncomputable def ae_l03 (lo : ae_L) : Bool := (match ae_get lo 3 with
  | some (.inl (.inl 0)) => true
  | _ => false) && (match ae_get lo 0 with
  | some (.inr (.inr (.inr 1))) => true
  | _ => false)
noncomputable def ae_KF (g : ae_Cs) : ae_K := fun _ lo st w cs sl => match st with
  | [] => ae_if (ae_l03 lo && ae_grp g 32 lo w cs sl) (some (none, []))
  | _ => none
noncomputable def ae_go (g : ae_Cs) : Bool := ae_is (ae_to [ae_FI, ae_FI, ae_FI, ae_FI] 26 (ae_KF g) 60000 11 406 mL_law 0 [(0, .inr (.inr (.inr 1)))] [] [] 0 0)
noncomputable def ae_sh (n : Nat) : Bool := ae_okr (ae_run ae_MT ae_DF ae_TY ae_SN (List.replicate n ae_FI) 60000 11 406 mL_law 0 [(0, .inr (.inr (.inr 1)))] [] [] 0 0)
theorem ae_is_eq {o : ae_O} (h : ae_is o = true) : o = some (none, []) := by
  unfold ae_is at h
  split at h
  · rfl
  · cases h
theorem ae_okr_eq {o : ae_O} (h : ae_okr o = true) : ∃ w, o = some (some (.inl (.inl 1)), w) := by
  unfold ae_okr at h
  split at h
  · exact ⟨_, rfl⟩
  · cases h
-- cuts of the ints
def ae_cut (lo n : Nat) : List ae_I := .inr (-2147483648, (lo : Int) - 1) :: .inr ((lo : Int) + n, 2147483647) :: (List.range' lo n).map (fun j => (.inl j : ae_I))
def ae_all : List ae_I := [ae_FI]
def ae_neg : List ae_I := [.inr (-2147483648, -1), .inr (0, 2147483647)]
def ae_m1 : List ae_I := [.inr (-2147483648, -2), .inl 4294967295, .inr (0, 2147483647)]
def ae_r99 : List ae_I := [.inr (-2147483648, -1), .inr (0, 99), .inr (100, 2147483647)]
theorem cv_all (x : Int32) : ∃ a ∈ ae_all, ag_I a x := ⟨_, List.mem_singleton.mpr rfl, ag_full x⟩
theorem cv_b (x : Int32) : (-2147483648 : Int) ≤ x.toInt ∧ x.toInt ≤ 2147483647 := ag_full x
theorem cv_neg (x : Int32) : ∃ a ∈ ae_neg, ag_I a x := by
  have h := cv_b x
  by_cases h1 : x.toInt < 0
  · exact ⟨_, List.mem_cons_self, show (-2147483648 : Int) ≤ x.toInt ∧ x.toInt ≤ -1 by omega⟩
  · exact ⟨.inr (0, 2147483647), by simp [ae_neg], show (0 : Int) ≤ x.toInt ∧ x.toInt ≤ 2147483647 by omega⟩
theorem cv_r99 (x : Int32) : ∃ a ∈ ae_r99, ag_I a x := by
  have h := cv_b x
  by_cases h1 : x.toInt < 0
  · exact ⟨.inr (-2147483648, -1), by simp [ae_r99], show (-2147483648 : Int) ≤ x.toInt ∧ x.toInt ≤ -1 by omega⟩
  · by_cases h2 : x.toInt ≤ 99
    · exact ⟨.inr (0, 99), by simp [ae_r99], show (0 : Int) ≤ x.toInt ∧ x.toInt ≤ 99 by omega⟩
    · exact ⟨.inr (100, 2147483647), by simp [ae_r99], show (100 : Int) ≤ x.toInt ∧ x.toInt ≤ 2147483647 by omega⟩
theorem cv_nI {x : Int32} {j : Nat} (hj : j < 2 ^ 31) (h : x.toInt = (j : Int)) : x = nI j := Int32.toInt_inj.mp (by rw [h, nI_toInt hj])
theorem cv_m1 (x : Int32) : ∃ a ∈ ae_m1, ag_I a x := by
  have h := cv_b x
  by_cases h1 : x.toInt < -1
  · exact ⟨.inr (-2147483648, -2), by simp [ae_m1], show (-2147483648 : Int) ≤ x.toInt ∧ x.toInt ≤ -2 by omega⟩
  · by_cases h2 : x.toInt = -1
    · refine ⟨.inl 4294967295, by simp [ae_m1], ?_⟩
      show x = nI 4294967295
      exact Int32.toInt_inj.mp (by rw [h2]; decide +kernel)
    · exact ⟨.inr (0, 2147483647), by simp [ae_m1], show (0 : Int) ≤ x.toInt ∧ x.toInt ≤ 2147483647 by omega⟩
theorem cv_cut (lo n : Nat) (hn : lo + n < 2 ^ 31) (x : Int32) : ∃ a ∈ ae_cut lo n, ag_I a x := by
  have h := cv_b x
  by_cases h1 : x.toInt < (lo : Int)
  · exact ⟨_, List.mem_cons_self, show (-2147483648 : Int) ≤ x.toInt ∧ x.toInt ≤ (lo : Int) - 1 by omega⟩
  · by_cases h2 : (lo : Int) + n ≤ x.toInt
    · exact ⟨_, List.mem_cons_of_mem _ List.mem_cons_self, show (lo : Int) + n ≤ x.toInt ∧ x.toInt ≤ 2147483647 by omega⟩
    · refine ⟨.inl x.toInt.toNat, List.mem_cons_of_mem _ (List.mem_cons_of_mem _ (List.mem_map.mpr ⟨x.toInt.toNat, ?_, rfl⟩)), cv_nI (by omega) (by omega)⟩
      rw [List.mem_range'_1]
      omega
