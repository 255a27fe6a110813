/-! ===== arrays, calls, returns ===== -/
def tb (n : Nat) (f : Int → ae_V) : List (Nat × ae_V) := (List.range' 0 n).map (fun i => (i, f (i : Int)))
theorem tb_ag9 (dv : ae_V) (f : Int → ae_V) : ∀ (n a j : Nat), a ≤ j → j < a + n → ae_ag dv ((List.range' a n).map (fun i => (i, f (i : Int)))) j = f (j : Int) := by
  intro n
  induction n with
  | zero => intro a j h1 h2; omega
  | succ n ih =>
    intro a j h1 h2
    rw [List.range'_succ, List.map_cons]
    show cond (Nat.beq a j) (f (a : Int)) (ae_ag dv ((List.range' (a + 1) n).map (fun i => (i, f (i : Int)))) j) = _
    by_cases h : a = j
    · subst h
      rw [Nat.beq_refl]
      rfl
    · have e : Nat.beq a j = false := by
        cases hb : Nat.beq a j with
        | false => rfl
        | true => exact absurd (Nat.eq_of_beq_eq_true hb) h
      rw [e]
      exact ih (a + 1) j (by omega) (by omega)
theorem tb_ag {dv : ae_V} {f : Int → ae_V} {n j : Nat} (h : j < n) : ae_ag dv (tb n f) j = f (j : Int) := tb_ag9 dv f n 0 j (Nat.zero_le _) (by omega)
theorem tb_as9 {β : Type} (f : Int → ae_V) (v : ae_V) : ∀ (n a j : Nat) (k : List (Nat × ae_V) → β), a ≤ j → j < a + n → ae_as ((List.range' a n).map (fun i => (i, f (i : Int)))) j v k = k ((List.range' a n).map (fun i => (i, if (i : Int) = (j : Int) then v else f (i : Int)))) := by
  intro n
  induction n with
  | zero => intro a j k h1 h2; omega
  | succ n ih =>
    intro a j k h1 h2
    rw [List.range'_succ, List.map_cons, List.map_cons]
    show cond (Nat.beq a j) (k ((j, v) :: (List.range' (a + 1) n).map (fun i => (i, f (i : Int))))) (ae_as ((List.range' (a + 1) n).map (fun i => (i, f (i : Int)))) j v (fun ys => k ((a, f (a : Int)) :: ys))) = _
    by_cases h : a = j
    · subst h
      rw [Nat.beq_refl, if_pos rfl]
      show k _ = k _
      congr 2
      apply List.map_congr_left
      intro i hi
      have := (List.mem_range'_1.mp hi).1
      rw [if_neg (by omega)]
    · have e : Nat.beq a j = false := by
        cases hb : Nat.beq a j with
        | false => rfl
        | true => exact absurd (Nat.eq_of_beq_eq_true hb) h
      rw [e, if_neg (by omega)]
      show ae_as _ j v _ = _
      rw [ih (a + 1) j _ (by omega) (by omega)]
/-- a row of numbers with one changed -/
def up (f : Int → Int) (x y : Int) : Int → Int := fun j => if j = x then y else f j
def cI (n : Nat) (f : Int → Int) : ae_C := .inl (0, n, vI 0, tb n (fun j => vI (f j)))
def cJ (n : Nat) (f : Int → Int) : ae_C := .inl (1, n, vL 0, tb n (fun j => vL (f j)))
def cZ (n : Nat) (f : Int → Int) : ae_C := .inl (2, n, vI 0, tb n (fun j => vI (f j)))
noncomputable def cA (t n a : Nat) : ae_C := .inl (3 + t, n, vE 0, ae_rng n 0 a)
theorem tb_asI {β : Type} {f : Int → Int} {g : Int → ae_V} {n : Nat} {x y : Int} (h0 : 0 ≤ x) (h1 : x < (n : Int)) (k : List (Nat × ae_V) → β) : ae_as (tb n (fun j => g (f j))) x.toNat (g y) k = k (tb n (fun j => g (up f x y j))) := by
  unfold tb
  rw [tb_as9 (fun j => g (f j)) (g y) n 0 x.toNat k (Nat.zero_le _) (by omega)]
  congr 1
  apply List.map_congr_left
  intro i _
  show (i, _) = (i, g (up f x y (i : Int)))
  unfold up
  rw [show ((x.toNat : Nat) : Int) = x by omega]
  by_cases h : (i : Int) = x
  · rw [if_pos h, if_pos h]
  · rw [if_neg h, if_neg h]
theorem rng_ag (dv : ae_V) : ∀ (n j0 a j : Nat), j0 ≤ j → j < j0 + n → ae_ag dv (ae_rng n j0 a) j = vR (a + (j - j0)) := by
  intro n
  induction n with
  | zero => intro j0 a j h1 h2; omega
  | succ n ih =>
    intro j0 a j h1 h2
    show cond (Nat.beq j0 j) (vR a) (ae_ag dv (ae_rng n (j0 + 1) (a + 1)) j) = _
    by_cases h : j0 = j
    · subst h
      rw [Nat.beq_refl, Nat.sub_self]
      rfl
    · have e : Nat.beq j0 j = false := by
        cases hb : Nat.beq j0 j with
        | false => rfl
        | true => exact absurd (Nat.eq_of_beq_eq_true hb) h
      rw [e]
      show ae_ag dv (ae_rng n (j0 + 1) (a + 1)) j = _
      rw [ih (j0 + 1) (a + 1) j (by omega) (by omega), show a + 1 + (j - (j0 + 1)) = a + (j - j0) by omega]
-- worlds that hold the same
def cw_E : ae_C → ae_C → Prop
  | .inl (t, n, dv, ex), .inl (t', n', dv', ex') => t = t' ∧ n = n' ∧ ∀ j, j < n → ae_ag dv ex j = ae_ag dv' ex' j
  | .inr a, .inr b => a = b
  | _, _ => False
def cw_W : List ae_C → List ae_C → Prop
  | [], [] => True
  | c :: w, c' :: w' => cw_E c c' ∧ cw_W w w'
  | _, _ => False
theorem cw_E_rf (c : ae_C) : cw_E c c := by
  match c with
  | .inl (_, _, _, _) => exact ⟨rfl, rfl, fun _ _ => rfl⟩
  | .inr _ => exact rfl
theorem cw_W_rf : ∀ w : List ae_C, cw_W w w
  | [] => trivial
  | c :: w => ⟨cw_E_rf c, cw_W_rf w⟩
theorem cw_W_app : ∀ {w w' v v' : List ae_C}, cw_W w w' → cw_W v v' → cw_W (w ++ v) (w' ++ v')
  | [], [], _, _, _, h => h
  | _ :: _, _ :: _, _, _, h, h2 => ⟨h.1, cw_W_app h.2 h2⟩
  | [], _ :: _, _, _, h, _ => h.elim
  | _ :: _, [], _, _, h, _ => h.elim
theorem cw_C {E : Nat → Value} {dT : Nat → ClassId} {ad : List Nat} : ∀ {c c' : ae_C} {e : va_E}, cw_E c c' → ag_C E dT ad c e → ag_C E dT ad c' e
  | .inl (_, _, _, _), .inl (_, _, _, _), .inl (_, _, _), h, hc => by
    obtain ⟨rfl, rfl, h⟩ := h
    exact ⟨hc.1, hc.2.1, hc.2.2.1, fun j hj => by rw [← h j hj]; exact hc.2.2.2 j hj⟩
  | .inr _, .inr _, e, h, hc => by
    cases h
    exact hc
  | .inl _, .inr _, _, h, _ => h.elim
  | .inr _, .inl _, _, h, _ => h.elim
  | .inl _, .inl _, .inr _, _, hc => hc.elim
theorem cw_ag {E : Nat → Value} {dT : Nat → ClassId} {ad : List Nat} : ∀ {w w' : List ae_C} {ws : va_W}, cw_W w w' → ag_W E dT ad w ws → ag_W E dT ad w' ws
  | [], [], _, _, h => h
  | _ :: _, _ :: _, [], _, h => h.elim
  | _ :: _, _ :: _, _ :: _, h, h2 => ⟨cw_C h.1 h2.1, cw_ag h.2 h2.2⟩
  | [], _ :: _, _, h, _ => h.elim
  | _ :: _, [], _, h, _ => h.elim
theorem ae_if_t (k : ae_O) : ae_if true k = k := rfl
section GOOD2
variable {V : cg_V} {me : ae_M} {d q : Nat} {Rs : ae_R → Prop} {pc nx i1 i2 i3 pos : Nat} {lo lo' : ae_L} {st : List ae_V} {w : List ae_C} {cs sl : Nat}
theorem g_weq {w' : List ae_C} (hw : cw_W w w') (k : cg_G V me d q Rs pc lo st w' cs sl) : cg_G V me d q Rs pc lo st w cs sl := by
  intro hT hm hL A p e R s m args below meth c Q ad0 hF hfin ad ws H locs lv ls stv hat
  obtain ⟨hcs, hex, had, hl, hlo, hst, hw2, hP, hD, hS⟩ := hat
  exact k hT hm hL A p e R s m args below meth c Q ad0 hF hfin ad ws H locs lv ls stv ⟨hcs, hex, had, hl, hlo, hst, cw_ag hw hw2, hP, hD, hS⟩
theorem g_iald {i n : Nat} {f : Int → Int} {x : Int} (hi : cg_at me pc = some (.iaload, nx, i1, i2, i3, pos)) (hw : w[i]? = some (cI n f)) (hn : n ≤ 1000000) (h0 : 0 ≤ x) (h1 : x < (n : Int)) (k : cg_G V me d q Rs nx lo (vI (f x) :: st) w cs sl) : cg_G V me d q Rs pc lo (vI x :: vR i :: st) w cs sl := by
  refine cg_step hi ?_
  show ae_arr (ae_nth w i) _ = _
  rw [ae_nth_eq, hw]
  show ae_if (Nat.beq 0 0 && (Nat.blt (ae_c (Int32.ofInt x)) n && Nat.ble n 1000000)) (cg_ind (cg_G V me d q Rs) (cg_du me) nx lo (ae_ag (vI 0) (tb n (fun j => vI (f j))) (ae_c (Int32.ofInt x)) :: st) w cs sl) = _
  rw [i_ix h0 (by omega), tb_ag (by omega), show Nat.blt x.toNat n = true from Nat.ble_eq_true_of_le (show x.toNat + 1 ≤ n by omega), Nat.ble_eq_true_of_le hn, show ((x.toNat : Nat) : Int) = x by omega]
  exact cg_pos k
theorem g_lald {i n : Nat} {f : Int → Int} {x : Int} (hi : cg_at me pc = some (.laload, nx, i1, i2, i3, pos)) (hw : w[i]? = some (cJ n f)) (hn : n ≤ 1000000) (h0 : 0 ≤ x) (h1 : x < (n : Int)) (k : cg_G V me d q Rs nx lo (vL (f x) :: st) w cs sl) : cg_G V me d q Rs pc lo (vI x :: vR i :: st) w cs sl := by
  refine cg_step hi ?_
  show ae_arr (ae_nth w i) _ = _
  rw [ae_nth_eq, hw]
  show ae_if (Nat.beq 1 1 && (Nat.blt (ae_c (Int32.ofInt x)) n && Nat.ble n 1000000)) (cg_ind (cg_G V me d q Rs) (cg_du me) nx lo (ae_ag (vL 0) (tb n (fun j => vL (f j))) (ae_c (Int32.ofInt x)) :: st) w cs sl) = _
  rw [i_ix h0 (by omega), tb_ag (by omega), show Nat.blt x.toNat n = true from Nat.ble_eq_true_of_le (show x.toNat + 1 ≤ n by omega), Nat.ble_eq_true_of_le hn, show ((x.toNat : Nat) : Int) = x by omega]
  exact cg_pos k
theorem g_zald {i n : Nat} {f : Int → Int} {x : Int} (hi : cg_at me pc = some (.baload, nx, i1, i2, i3, pos)) (hw : w[i]? = some (cZ n f)) (hn : n ≤ 1000000) (h0 : 0 ≤ x) (h1 : x < (n : Int)) (k : cg_G V me d q Rs nx lo (vI (f x) :: st) w cs sl) : cg_G V me d q Rs pc lo (vI x :: vR i :: st) w cs sl := by
  refine cg_step hi ?_
  show ae_arr (ae_nth w i) _ = _
  rw [ae_nth_eq, hw]
  show ae_if (Nat.beq 2 2 && (Nat.blt (ae_c (Int32.ofInt x)) n && Nat.ble n 1000000)) (cg_ind (cg_G V me d q Rs) (cg_du me) nx lo (ae_ag (vI 0) (tb n (fun j => vI (f j))) (ae_c (Int32.ofInt x)) :: st) w cs sl) = _
  rw [i_ix h0 (by omega), tb_ag (by omega), show Nat.blt x.toNat n = true from Nat.ble_eq_true_of_le (show x.toNat + 1 ≤ n by omega), Nat.ble_eq_true_of_le hn, show ((x.toNat : Nat) : Int) = x by omega]
  exact cg_pos k
theorem g_aald {i t n a : Nat} {x : Int} (hi : cg_at me pc = some (.aaload, nx, i1, i2, i3, pos)) (hw : w[i]? = some (cA t n a)) (ht : t < 2) (hn : n ≤ 1000000) (h0 : 0 ≤ x) (h1 : x < (n : Int)) (k : cg_G V me d q Rs nx lo (vR (a + x.toNat) :: st) w cs sl) : cg_G V me d q Rs pc lo (vI x :: vR i :: st) w cs sl := by
  refine cg_step hi ?_
  show ae_arr (ae_nth w i) _ = _
  rw [ae_nth_eq, hw]
  show ae_if ((Nat.beq (3 + t) 3 || Nat.beq (3 + t) 4) && (Nat.blt (ae_c (Int32.ofInt x)) n && Nat.ble n 1000000)) (cg_ind (cg_G V me d q Rs) (cg_du me) nx lo (ae_ag (vE 0) (ae_rng n 0 a) (ae_c (Int32.ofInt x)) :: st) w cs sl) = _
  rw [i_ix h0 (by omega), rng_ag _ _ _ _ _ (Nat.zero_le _) (by omega), show Nat.blt x.toNat n = true from Nat.ble_eq_true_of_le (show x.toNat + 1 ≤ n by omega), Nat.ble_eq_true_of_le hn, Nat.sub_zero]
  have e : (Nat.beq (3 + t) 3 || Nat.beq (3 + t) 4) = true := by
    match t, ht with
    | 0, _ => rfl
    | 1, _ => rfl
  rw [e]
  exact cg_pos k
theorem g_iast {i n : Nat} {f : Int → Int} {x y : Int} (hi : cg_at me pc = some (.iastore, nx, i1, i2, i3, pos)) (hw : w[i]? = some (cI n f)) (hn : n ≤ 1000000) (h0 : 0 ≤ x) (h1 : x < (n : Int)) (k : cg_G V me d q Rs nx lo st (w.set i (cI n (up f x y))) cs sl) : cg_G V me d q Rs pc lo (vI y :: vI x :: vR i :: st) w cs sl := by
  refine cg_step hi ?_
  show ae_arr (ae_nth w i) _ = _
  rw [ae_nth_eq, hw]
  show ae_if (Nat.beq 0 0 && (Nat.blt (ae_c (Int32.ofInt x)) n && (Nat.ble n 1000000 && true))) (ae_as (tb n (fun j => vI (f j))) (ae_c (Int32.ofInt x)) (vI y) (fun ex' => ae_set w i (.inl (0, n, vI 0, ex')) (fun w' => cg_ind (cg_G V me d q Rs) (cg_du me) nx lo st w' cs sl))) = _
  rw [i_ix h0 (by omega), show Nat.blt x.toNat n = true from Nat.ble_eq_true_of_le (show x.toNat + 1 ≤ n by omega), Nat.ble_eq_true_of_le hn]
  show ae_as _ _ _ _ = _
  rw [tb_asI h0 h1, ae_set_eq]
  exact cg_pos k
theorem g_last {i n : Nat} {f : Int → Int} {x y : Int} (hi : cg_at me pc = some (.lastore, nx, i1, i2, i3, pos)) (hw : w[i]? = some (cJ n f)) (hn : n ≤ 1000000) (h0 : 0 ≤ x) (h1 : x < (n : Int)) (k : cg_G V me d q Rs nx lo st (w.set i (cJ n (up f x y))) cs sl) : cg_G V me d q Rs pc lo (vL y :: vI x :: vR i :: st) w cs sl := by
  refine cg_step hi ?_
  show ae_arr (ae_nth w i) _ = _
  rw [ae_nth_eq, hw]
  show ae_if (Nat.beq 1 1 && (Nat.blt (ae_c (Int32.ofInt x)) n && (Nat.ble n 1000000 && true))) (ae_as (tb n (fun j => vL (f j))) (ae_c (Int32.ofInt x)) (vL y) (fun ex' => ae_set w i (.inl (1, n, vL 0, ex')) (fun w' => cg_ind (cg_G V me d q Rs) (cg_du me) nx lo st w' cs sl))) = _
  rw [i_ix h0 (by omega), show Nat.blt x.toNat n = true from Nat.ble_eq_true_of_le (show x.toNat + 1 ≤ n by omega), Nat.ble_eq_true_of_le hn]
  show ae_as _ _ _ _ = _
  rw [tb_asI h0 h1, ae_set_eq]
  exact cg_pos k
theorem i_01 {y : Int} (h : y = 0 ∨ y = 1) : Nat.blt (ae_c (Int32.ofInt y)) 2 = true := by
  rcases h with rfl | rfl <;> decide
theorem g_zast {i n : Nat} {f : Int → Int} {x y : Int} (hi : cg_at me pc = some (.bastore, nx, i1, i2, i3, pos)) (hw : w[i]? = some (cZ n f)) (hn : n ≤ 1000000) (h0 : 0 ≤ x) (h1 : x < (n : Int)) (hy : y = 0 ∨ y = 1) (k : cg_G V me d q Rs nx lo st (w.set i (cZ n (up f x y))) cs sl) : cg_G V me d q Rs pc lo (vI y :: vI x :: vR i :: st) w cs sl := by
  refine cg_step hi ?_
  show ae_arr (ae_nth w i) _ = _
  rw [ae_nth_eq, hw]
  show ae_if (Nat.beq 2 2 && (Nat.blt (ae_c (Int32.ofInt x)) n && (Nat.ble n 1000000 && Nat.blt (ae_c (Int32.ofInt y)) 2))) (ae_as (tb n (fun j => vI (f j))) (ae_c (Int32.ofInt x)) (vI y) (fun ex' => ae_set w i (.inl (2, n, vI 0, ex')) (fun w' => cg_ind (cg_G V me d q Rs) (cg_du me) nx lo st w' cs sl))) = _
  rw [i_ix h0 (by omega), show Nat.blt x.toNat n = true from Nat.ble_eq_true_of_le (show x.toNat + 1 ≤ n by omega), Nat.ble_eq_true_of_le hn, i_01 hy]
  show ae_as _ _ _ _ = _
  rw [tb_asI h0 h1, ae_set_eq]
  exact cg_pos k
theorem g_alen {i t n : Nat} {dv : ae_V} {ex : List (Nat × ae_V)} (hi : cg_at me pc = some (.arraylength, nx, i1, i2, i3, pos)) (hw : w[i]? = some (.inl (t, n, dv, ex))) (ht : t < 5) (hn : n < 2147483648) (k : cg_G V me d q Rs nx lo (vI (n : Int) :: st) w cs sl) : cg_G V me d q Rs pc lo (vR i :: st) w cs sl := by
  refine cg_step hi ?_
  show ae_arr (ae_nth w i) _ = _
  rw [ae_nth_eq, hw]
  show ae_if (Nat.blt t 5) (cg_ind (cg_G V me d q Rs) (cg_du me) nx lo (.inl (.inl n) :: st) w cs sl) = _
  rw [show Nat.blt t 5 = true from Nat.ble_eq_true_of_le ht]
  have e : vI (n : Int) = .inl (.inl n) := by
    unfold vI
    rw [i_ix (by omega) (by omega)]
    rfl
  rw [e] at k
  exact cg_pos k
theorem g_newa {x : Int} (hi : cg_at me pc = some (.newarray .int, nx, i1, i2, i3, pos)) (h0 : 0 ≤ x) (h1 : x ≤ 1000000) (hc : cs + 1 ≤ ae_mc me) (hs : sl + x.toNat ≤ ae_ms me) (k : cg_G V me d q Rs nx lo (vR w.length :: st) (w ++ [cI x.toNat (fun _ => 0)]) (cs + 1) (sl + x.toNat)) : cg_G V me d q Rs pc lo (vI x :: st) w cs sl := by
  refine cg_step hi ?_
  show ae_if (Nat.ble (ae_c (Int32.ofInt x)) 1000000 && (Nat.ble (cs + 1) (ae_mc me) && (Nat.ble (sl + ae_c (Int32.ofInt x)) (ae_ms me) && true))) (ae_n w.length (fun z => ae_app w [.inl (0, ae_c (Int32.ofInt x), vI 0, [])] (fun w' => cg_ind (cg_G V me d q Rs) (cg_du me) nx lo (.inr (.inr (.inl z)) :: st) w' (cs + 1) (sl + ae_c (Int32.ofInt x))))) = _
  rw [i_ix h0 (by omega), Nat.ble_eq_true_of_le (show x.toNat ≤ 1000000 by omega), Nat.ble_eq_true_of_le hc, Nat.ble_eq_true_of_le hs, Bool.and_true, Bool.and_true, Bool.and_true, ae_if_t, ae_n_eq, ae_app_eq]
  have e : cw_W [.inl (0, x.toNat, vI 0, [])] [cI x.toNat (fun _ => 0)] := by
    refine And.intro (And.intro rfl (And.intro rfl ?_)) trivial
    intro j hj
    rw [tb_ag hj]
    rfl
  exact cg_pos (g_weq (cw_W_app (cw_W_rf w) e) k)
theorem g_new {n : Nat} {fs : List ae_V} (hi : cg_at me pc = some (.new n, nx, i1, i2, i3, pos)) (hf : ae_DF[i1]? = some fs) (hc : cs + 1 ≤ ae_mc me) (hs : sl + fs.length ≤ ae_ms me) (k : cg_G V me d q Rs nx lo (vR w.length :: st) (w ++ [.inr (i1, fs)]) (cs + 1) (sl + fs.length)) : cg_G V me d q Rs pc lo st w cs sl := by
  refine cg_step hi ?_
  show ae_some (ae_nth ae_DF i1) _ = _
  rw [ae_nth_eq, hf]
  show ae_if (Nat.ble (cs + 1) (ae_mc me) && Nat.ble (sl + fs.length) (ae_ms me)) (ae_n w.length (fun z => ae_app w [.inr (i1, fs)] (fun w' => cg_ind (cg_G V me d q Rs) (cg_du me) nx lo (.inr (.inr (.inl z)) :: st) w' (cs + 1) (sl + fs.length)))) = _
  rw [Nat.ble_eq_true_of_le hc, Nat.ble_eq_true_of_le hs, Bool.and_self, ae_if_t, ae_n_eq, ae_app_eq]
  exact cg_pos k
theorem g_acp {n9 : Nat} {i j n n0 : Nat} {f g : Int → Int} (hi : cg_at me pc = some (.invokestatic n9, nx, i1, i2, i3, pos)) (h3 : i3 = 1) (hw : w[i]? = some (cI n f)) (hv : w[j]? = some (cI n g)) (hn : n ≤ 1000000) (hd : 1 ≤ d) (hq : ae_wd st + 60 ≤ q) (k : cg_G V me d q Rs nx lo st (w.set i (cI n g)) cs sl) : cg_G V me d q Rs pc lo (vI (n : Int) :: vI 0 :: vR i :: vI 0 :: vR j :: st) w cs sl := by
  subst h3
  refine cg_step hi ?_
  have e : vI (n : Int) = .inl (.inl n) := by
    unfold vI
    rw [i_ix (by omega) (by omega)]
    rfl
  rw [e]
  show ae_arr (ae_nth w i) (fun t1 n1 _ _ => ae_arr (ae_nth w j) (fun t0 n0 dv ex => ae_if (Nat.beq t1 0 && (Nat.beq t0 0 && (Nat.beq n n1 && (Nat.ble n n0 && (Nat.ble n 1000000 && (Nat.ble 1 d && Nat.ble (ae_wd st + 60) q)))))) (ae_set w i (.inl (0, n1, dv, ex)) (fun w' => cg_ind (cg_G V me d q Rs) (cg_du me) nx lo st w' cs sl)))) = _
  rw [ae_nth_eq, ae_nth_eq, hw, hv]
  show ae_if (Nat.beq 0 0 && (Nat.beq 0 0 && (Nat.beq n n && (Nat.ble n n && (Nat.ble n 1000000 && (Nat.ble 1 d && Nat.ble (ae_wd st + 60) q)))))) (ae_set w i (cI n g) (fun w' => cg_ind (cg_G V me d q Rs) (cg_du me) nx lo st w' cs sl)) = _
  rw [Nat.beq_refl, Nat.beq_refl, Nat.ble_eq_true_of_le (Nat.le_refl n), Nat.ble_eq_true_of_le hn, Nat.ble_eq_true_of_le hd, Nat.ble_eq_true_of_le hq, ae_set_eq]
  exact cg_pos k
-- returns
theorem g_iret {x : Int} (hi : cg_at me pc = some (.ireturn, nx, i1, i2, i3, pos)) (hr : ae_mR me = some .int) (h : Rs (some (vI x), w)) : cg_G V me d q Rs pc lo [vI x] w cs sl := by
  refine cg_ret hi h ?_
  show ae_zr (ae_mR me) (vI x) w = _
  rw [hr]
  rfl
theorem g_zret {x : Int} (hi : cg_at me pc = some (.ireturn, nx, i1, i2, i3, pos)) (hr : ae_mR me = some .boolean) (hx : x = 0 ∨ x = 1) (h : Rs (some (vI x), w)) : cg_G V me d q Rs pc lo [vI x] w cs sl := by
  refine cg_ret hi h ?_
  show ae_zr (ae_mR me) (vI x) w = _
  rw [hr]
  show cond (Nat.blt (ae_c (Int32.ofInt x)) 2) _ _ = _
  rw [i_01 hx]
  rfl
theorem g_lret {x : Int} (hi : cg_at me pc = some (.lreturn, nx, i1, i2, i3, pos)) (hr : ae_mR me = some .long) (h : Rs (some (vL x), w)) : cg_G V me d q Rs pc lo [vL x] w cs sl := by
  refine cg_ret hi h ?_
  show ae_jr (ae_mR me) (vL x) w = _
  rw [hr]
  rfl
theorem g_aret {a : Nat ⊕ Nat} {n : String} (hi : cg_at me pc = some (.areturn, nx, i1, i2, i3, pos)) (hr : ae_mR me = some (.object n)) (h : Rs (some (.inr (.inr a)), w)) : cg_G V me d q Rs pc lo [.inr (.inr a)] w cs sl := by
  refine cg_ret hi h ?_
  show ae_ar (ae_mR me) (.inr (.inr a)) w = _
  rw [hr]
  rfl
theorem g_vret (hi : cg_at me pc = some (.return_, nx, i1, i2, i3, pos)) (hr : ae_mR me = none) (h : Rs (none, w)) : cg_G V me d q Rs pc lo [] w cs sl := by
  refine cg_ret hi h ?_
  show ae_vx (ae_mR me) [] w = _
  rw [hr]
  rfl
end GOOD2
section CALL
variable {V : cg_V} {A : Nat → Prop} {me me2 : ae_M} {d q : Nat} {p : Program} {e : Env} {R : Room} {s : State} {m : MethodId} {args : Array Value} {below : List Frame} {meth : Method} {c : Code} {Q : State → Prop} {ad0 : List Nat}
variable {Rs Rs2 : ae_R → Prop} {pc nx i1 i2 i3 pos : Nat} {lo : ae_L} {st : List ae_V} {w : List ae_C} {cs sl : Nat}
theorem cg_after {H : Heap} {locs : List Loc} {ls : Array Slot} {ad : List Nat} {ws : va_W} {mc ms : Nat} {a : Array Value} {rest st0 : List Value} (hr : va_Run p (cg_l V) e R s m args below meth c H locs cs sl mc ms (F0 m pc ls st0) rest (cg_Q V (va_A ws H.size) ad Rs2 a) (va_A ws H.size)) (hS : va_S A s.heap H locs) (hf : ∀ z, va_A ws H.size z → A z)
    (kk : ∀ r, Rs2 r → ∀ (v : Option Value) (x : List Nat) (ws' : va_W) (H1 : Heap) (locs1 : List Loc), ws'.map Prod.fst = ad ++ x → ag_O (cg_E V) (ad ++ x) r.1 v → ag_W (cg_E V) (cg_T V) (ad ++ x) r.2 ws' → va_P (cg_C V, cg_D V) vwCl ws' H1 → va_D A ws' → va_S A s.heap H1 locs1 → W p (cg_l V) e R s m args below meth c H1 locs1 (cs + mc) (sl + ms) Q (F0 m (pc + 3) ls (v.toList ++ rest))) :
    W p (cg_l V) e R s m args below meth c H locs cs sl Q (F0 m pc ls st0) := by
  intro T hT X
  obtain ⟨v, st₀, t, T', L, h0, X', hL, e1, e2, ⟨r, hRs, ⟨v', x, ws', hv, had, hO, hW, hP, hD⟩, hz, hk⟩, stp⟩ := hr T hT X
  cases hv
  rw [h0] at hz hk
  obtain ⟨t2, a1, b1⟩ := kk r hRs v x ws' T'.heap (locs ++ L) had hO hW (by rw [e1]; exact hP) (hD.weaken (fun _ _ _ h => hf _ h)) ⟨Nat.le_trans hS.1 (by rw [e1]; exact hz), fun q h1 h2 => by rw [e1, hk q (Nat.lt_of_lt_of_le h1 hS.1) (fun z => h2 (hf q z))]; exact hS.2.1 q h1 h2, fun q hq => by
      rcases List.mem_append.mp hq with h | h
      · exact hS.2.2 q h
      · exact hf _ (hL q h)⟩ T' rfl X'
  exact ⟨t2, stp t2 a1, b1⟩
theorem g_invs {n9 : Nat} {ps r stk as : List ae_V} {dd qq : Nat} (hi : cg_at me pc = some (.invokestatic n9, nx, i1, i2, i3, pos)) (h3 : Nat.beq i3 1 = false) (hmt : ae_MT[i1]? = some me2) (hst : stk = ps ++ r) (has : ps.reverse = as) (hpl : ps.length = i2) (hSm : cg_S V dd qq me2 as w Rs2) (hdd : dd = d - 1) (hqq : qq = q - (ae_mL me2 + 19)) (g1 : 1 ≤ d) (g2 : ae_mL me2 + 19 ≤ q) (g3 : cs + ae_mc me2 ≤ ae_mc me) (g4 : sl + ae_ms me2 ≤ ae_ms me) (g6 : ae_wd r ≤ 8)
    (k : ∀ x, Rs2 x → cg_G V me d q Rs nx lo (x.1.toList ++ r) x.2 (cs + ae_mc me2) (sl + ae_ms me2)) : cg_G V me d q Rs pc lo stk w cs sl := by
  subst hst
  subst has
  subst hdd
  subst hqq
  intro hT hm hL A p e R s m args below meth c Q ad0 hF hfin ad ws H locs lv ls stv hat
  have hF0 := hF
  have hok := cg_ok hi hT hm
  obtain ⟨g7, hok⟩ := ae_and hok
  obtain ⟨g8, hok2⟩ := ae_and hok
  have hdg := of_decide_eq_true g7
  have hnx : nx = pc + 3 := ae_beq g8
  subst hnx
  have hok2 : cond (Nat.beq i3 1) (ae_at pos (.methodLink me.1.cls n9 arraycopyName)) (match ae_MT[i1]? with
    | some me2 => ae_at pos (.methodLink me.1.cls n9 me2.1) && (ae_okc ae_MP me2 i1 i2 && ae_oks ae_MP me2 i1)
    | none => false) = true := hok2
  rw [h3, hmt] at hok2
  obtain ⟨f1, f2⟩ := ae_and hok2
  obtain ⟨f2, f3⟩ := ae_and f2
  have hs := ag_siteOf f2
  have hml9 : Cond.methodLink me.1.cls n9 me2.1 ∈ lw_gt := ae_at_mem f1 rfl
  have hm2 := ag_oks f3
  have hE := ag_E_ok V.1 V.2.2.1
  have hXw := ag_X_w V.1 V.2.1 V.2.2.1 V.2.2.2.1 V.2.2.2.2.1
  obtain ⟨hcs, hex, had, hl, hlo, hst, hw, hP, hD, hS⟩ := hat
  obtain ⟨hx, hb, hml, hown, hts, hK, hA, hlk, hret, hnm, hR1, hR2, hR3, hR4, hXS⟩ := hF
  obtain ⟨pv, rv, rfl, hps, hrest⟩ := ag_S_split hst
  have hfr := ag_free hD hS hA
  have hM := hSm hT hL pv.reverse ad ws H.size had (ag_S_rev hps) hw
  have hcb := ag_callB (me := me) (R := R) (idx := n9) hs hts hml9 (by rw [hR1]; exact g1) (by rw [hR2]; exact g2)
  rw [hR1, hR2] at hcb
  have hr := va_runS (e := e) (below := below) (meth := meth) (locs := locs) (rest := rv) (nL := ae_mL me) ⟨hx, hb, hml, hown, hts⟩ hM ⟨hcb, hts _ hm2⟩ (ag_preS hXw hK hP hD hS hA hXS pv.reverse) (g := F0 m pc ls (pv ++ rv)) rfl (by rw [List.length_reverse, ← ag_S_len hps, hpl]) hl.1 (by rw [List.reverse_reverse]) (lv_room (by rw [ag_wd hE hrest]; exact g6)) hdg ⟨by rw [hR3]; exact g3, by rw [hR4]; exact g4⟩
  exact cg_after hr hS hfr (fun r0 hr0 v x ws2 H1 locs1 k1 k2 k3 k4 k5 k6 => k r0 hr0 hT hm hL A p e R s m args below meth c Q ad0 hF0 hfin _ ws2 H1 locs1 lv ls _ ⟨⟨g3, g4⟩, (by obtain ⟨t, ht⟩ := hex; exact ⟨t ++ x, by rw [ht, List.append_assoc]⟩), k1, hl, ag_L_mono x hlo, ag_S_app (ag_O_list k2) (ag_S_mono x hrest), k3, k4, k5, k6⟩)
theorem g_invv {n9 : Nat} {ps r stk as : List ae_V} {i ci dd qq : Nat} {fs : List ae_V} (hi : cg_at me pc = some (.invokevirtual n9, nx, i1, i2, i3, pos)) (h3 : i3 = ci + 1) (hmt : ae_MT[i1]? = some me2) (hst : stk = ps ++ vR i :: r) (has : vR i :: ps.reverse = as) (hpl : ps.length = i2) (hwi : w[i]? = some (.inr (ci, fs))) (hSm : cg_S V dd qq me2 as w Rs2) (hdd : dd = d - 1) (hqq : qq = q - (ae_mL me2 + 19)) (g1 : 1 ≤ d) (g2 : ae_mL me2 + 19 ≤ q) (g3 : cs + ae_mc me2 ≤ ae_mc me) (g4 : sl + ae_ms me2 ≤ ae_ms me) (g6 : ae_wd r ≤ 8)
    (k : ∀ x, Rs2 x → cg_G V me d q Rs nx lo (x.1.toList ++ r) x.2 (cs + ae_mc me2) (sl + ae_ms me2)) : cg_G V me d q Rs pc lo stk w cs sl := by
  subst hst
  subst has
  subst h3
  subst hdd
  subst hqq
  intro hT hm hL A p e R s m args below meth c Q ad0 hF hfin ad ws H locs lv ls stv hat
  have hF0 := hF
  have hok := cg_ok hi hT hm
  obtain ⟨g7, hok⟩ := ae_and hok
  obtain ⟨g8, hok2⟩ := ae_and hok
  have hdg := of_decide_eq_true g7
  have hnx : nx = pc + 3 := ae_beq g8
  subst hnx
  simp only [ae_ok2] at hok2
  rw [hmt] at hok2
  obtain ⟨f1, f2⟩ := ae_and hok2
  have f2 : (ae_okc ae_MP me2 i1 i2 && (ae_okv ae_MP me2 i1 && (ae_okl ae_MP me2 i1 me2.1.cls && (match vwCl[ci]? with
    | some cl => decide (cl.1 = me2.1.cls)
    | none => false)))) = true := f2
  obtain ⟨f3, f4⟩ := ae_and f2
  obtain ⟨f4, f5⟩ := ae_and f4
  obtain ⟨f5, f6⟩ := ae_and f5
  cases hcl : vwCl[ci]? with
  | none => rw [hcl] at f6; cases f6
  | some cl =>
    rw [hcl] at f6
    have hcn : cl.1 = me2.1.cls := of_decide_eq_true f6
    have hs := ag_siteOf f3
    have hml9 : Cond.methodLink me.1.cls n9 me2.1 ∈ lw_gt := ae_at_mem f1 rfl
    have hm2 := ag_okv f4
    have hm3 := ag_okl f5
    have hE := ag_E_ok V.1 V.2.2.1
    have hXw := ag_X_w V.1 V.2.1 V.2.2.1 V.2.2.2.1 V.2.2.2.2.1
    obtain ⟨hcs, hex, had, hl, hlo, hst, hw, hP, hD, hS⟩ := hat
    obtain ⟨hx, hb, hml, hown, hts, hK, hA, hlk, hret, hnm, hR1, hR2, hR3, hR4, hXS⟩ := hF
    obtain ⟨pv, rv, rfl, hps, hrest⟩ := ag_S_split hst
    obtain ⟨v1, rv2, e0, ⟨q1, hq1, e2⟩, hrest0⟩ := ag_S_cons hrest
    clear hrest
    subst e0
    subst e2
    have hrest := hrest0
    clear hrest0
    obtain ⟨en, hen, hC⟩ := ag_cell had hw hq1 hwi
    obtain ⟨vs, rfl, hvs⟩ := ag_C_obj hC
    have hfr := ag_free hD hS hA
    have hM := hSm hT hL (.ref q1 :: pv.reverse) ad ws H.size had ⟨⟨q1, hq1, rfl⟩, ag_S_rev hps⟩ hw
    have hcb := ag_callB (me := me) (R := R) (idx := n9) hs hts hml9 (by rw [hR1]; exact g1) (by rw [hR2]; exact g2)
    rw [hR1, hR2] at hcb
    have hpre := ag_preS hXw hK hP hD hS hA hXS (.ref q1 :: pv.reverse)
    have hr := va_runV (e := e) (below := below) (meth := meth) (locs := locs) (rest := rv2) (nL := ae_mL me) (C := me2.1.cls) ⟨hx, hb, hml, hown, hts⟩ hM ⟨hcb, hts _ hm2, hts _ hm3⟩ ⟨hpre.1, by rw [← hcn]; exact va_recv hK hP hcl hen, hpre.2⟩ (g := F0 m pc ls (pv ++ .ref q1 :: rv2)) rfl (by rw [List.length_reverse, ← ag_S_len hps, hpl]) hl.1 (by rw [List.reverse_reverse]) (lv_room (by rw [ag_wd hE hrest]; exact g6)) hdg ⟨by rw [hR3]; exact g3, by rw [hR4]; exact g4⟩
    exact cg_after hr hS hfr (fun r0 hr0 v x ws2 H1 locs1 k1 k2 k3 k4 k5 k6 => k r0 hr0 hT hm hL A p e R s m args below meth c Q ad0 hF0 hfin _ ws2 H1 locs1 lv ls _ ⟨⟨g3, g4⟩, (by obtain ⟨t, ht⟩ := hex; exact ⟨t ++ x, by rw [ht, List.append_assoc]⟩), k1, hl, ag_L_mono x hlo, ag_S_app (ag_O_list k2) (ag_S_mono x hrest), k3, k4, k5, k6⟩)
theorem g_invi {n9 : Nat} {ps r stk as : List ae_V} {i dd qq : Nat} (hi : cg_at me pc = some (.invokespecial n9, nx, i1, i2, i3, pos)) (h3 : i3 = 1) (hmt : ae_MT[i1]? = some me2) (hst : stk = ps ++ vR i :: r) (has : vR i :: ps.reverse = as) (hpl : ps.length = i2) (hSm : cg_S V dd qq me2 as w Rs2) (hdd : dd = d - 1) (hqq : qq = q - (ae_mL me2 + 19)) (g1 : 1 ≤ d) (g2 : ae_mL me2 + 19 ≤ q) (g3 : cs + ae_mc me2 ≤ ae_mc me) (g4 : sl + ae_ms me2 ≤ ae_ms me) (g6 : ae_wd r ≤ 8)
    (k : ∀ x, Rs2 x → cg_G V me d q Rs nx lo (x.1.toList ++ r) x.2 (cs + ae_mc me2) (sl + ae_ms me2)) : cg_G V me d q Rs pc lo stk w cs sl := by
  subst hst
  subst has
  subst h3
  subst hdd
  subst hqq
  intro hT hm hL A p e R s m args below meth c Q ad0 hF hfin ad ws H locs lv ls stv hat
  have hF0 := hF
  have hok := cg_ok hi hT hm
  obtain ⟨g7, hok⟩ := ae_and hok
  obtain ⟨g8, hok2⟩ := ae_and hok
  have hdg := of_decide_eq_true g7
  have hnx : nx = pc + 3 := ae_beq g8
  subst hnx
  have hok2 : (match ae_MT[i1]? with
      | some me2 => decide (me2.1.name = "<init>" ∧ ae_mR me2 = none) && (ae_okc ae_MP me2 i1 i2 && (ae_okv ae_MP me2 i1 && ae_at pos (.methodLink me.1.cls n9 me2.1)))
      | none => false) = true := hok2
  rw [hmt] at hok2
  obtain ⟨f1, f2⟩ := ae_and hok2
  obtain ⟨hnn, hrn⟩ := of_decide_eq_true f1
  obtain ⟨f3, f4⟩ := ae_and f2
  obtain ⟨f4, f5⟩ := ae_and f4
  have hs := ag_siteOf f3
  have hml9 : Cond.methodLink me.1.cls n9 me2.1 ∈ lw_gt := ae_at_mem f5 rfl
  have hm2 := ag_okv f4
  have hE := ag_E_ok V.1 V.2.2.1
  have hXw := ag_X_w V.1 V.2.1 V.2.2.1 V.2.2.2.1 V.2.2.2.2.1
  obtain ⟨hcs, hex, had, hl, hlo, hst, hw, hP, hD, hS⟩ := hat
  obtain ⟨hx, hb, hml, hown, hts, hK, hA, hlk, hret, hnm, hR1, hR2, hR3, hR4, hXS⟩ := hF
  obtain ⟨pv, rv, rfl, hps, hrest⟩ := ag_S_split hst
  obtain ⟨v1, rv2, e0, ⟨q1, hq1, e2⟩, hrest0⟩ := ag_S_cons hrest
  clear hrest
  subst e0
  subst e2
  have hrest := hrest0
  clear hrest0
  have hfr := ag_free hD hS hA
  have hM := hSm hT hL (.ref q1 :: pv.reverse) ad ws H.size had ⟨⟨q1, hq1, rfl⟩, ag_S_rev hps⟩ hw
  have hcb := ag_callB (me := me) (R := R) (idx := n9) hs hts hml9 (by rw [hR1]; exact g1) (by rw [hR2]; exact g2)
  rw [hR1, hR2, hrn] at hcb
  have hr := va_runI (e := e) (below := below) (meth := meth) (locs := locs) (rest := rv2) (nL := ae_mL me) ⟨hx, hb, hml, hown, hts⟩ hM ⟨hcb, hnn, hts _ hm2⟩ (ag_preS hXw hK hP hD hS hA hXS (.ref q1 :: pv.reverse)) (g := F0 m pc ls (pv ++ .ref q1 :: rv2)) rfl (by rw [List.length_reverse, ← ag_S_len hps, hpl]) hl.1 (by rw [List.reverse_reverse]) (lv_room (by rw [ag_wd hE hrest]; exact g6)) hdg ⟨by rw [hR3]; exact g3, by rw [hR4]; exact g4⟩
  exact cg_after hr hS hfr (fun r0 hr0 v x ws2 H1 locs1 k1 k2 k3 k4 k5 k6 => k r0 hr0 hT hm hL A p e R s m args below meth c Q ad0 hF0 hfin _ ws2 H1 locs1 lv ls _ ⟨⟨g3, g4⟩, (by obtain ⟨t, ht⟩ := hex; exact ⟨t ++ x, by rw [ht, List.append_assoc]⟩), k1, hl, ag_L_mono x hlo, ag_S_app (ag_O_list k2) (ag_S_mono x hrest), k3, k4, k5, k6⟩)
end CALL
