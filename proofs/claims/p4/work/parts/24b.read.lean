/-! ===== how a text is read: tokens, numbers, words, lines (pure) ===== -/
def srt (c : Int) : Int := if 97 ≤ c ∧ c ≤ 122 then 1 else if 48 ≤ c ∧ c ≤ 57 then 2 else 0
def skN (t : Int → Int) (n : Int) : Nat → Int → Int
  | 0, p => p
  | k + 1, p => if p < n ∧ t p = 32 then skN t n k (p + 1) else p
def SK (t : Int → Int) (n p : Int) : Int := skN t n (n - p).toNat p
theorem SK_in {t : Int → Int} {n p : Int} (h : p < n) (h2 : t p = 32) : SK t n p = SK t n (p + 1) := by
  unfold SK
  rw [show (n - p).toNat = (n - (p + 1)).toNat + 1 by omega]
  exact if_pos ⟨h, h2⟩
theorem SK_out {t : Int → Int} {n p : Int} (h : n ≤ p ∨ t p ≠ 32) : SK t n p = p := by
  unfold SK
  cases e : (n - p).toNat with
  | zero => rfl
  | succ k => exact if_neg (fun h9 => by rcases h with h | h; exact absurd h9.1 (by omega); exact h h9.2)
theorem skN_rng (t : Int → Int) (n : Int) : ∀ (k : Nat) (p : Int), p ≤ n → k = (n - p).toNat → p ≤ skN t n k p ∧ skN t n k p ≤ n ∧ (skN t n k p = n ∨ t (skN t n k p) ≠ 32)
  | 0, p, h, e => by
    have : p = n := by omega
    exact ⟨Int.le_refl _, h, Or.inl this⟩
  | k + 1, p, h, e => by
    show p ≤ (if p < n ∧ t p = 32 then skN t n k (p + 1) else p) ∧ (if p < n ∧ t p = 32 then skN t n k (p + 1) else p) ≤ n ∧ ((if p < n ∧ t p = 32 then skN t n k (p + 1) else p) = n ∨ t (if p < n ∧ t p = 32 then skN t n k (p + 1) else p) ≠ 32)
    by_cases q : p < n ∧ t p = 32
    · rw [if_pos q]
      have ih := skN_rng t n k (p + 1) (by omega) (by omega)
      exact ⟨by omega, ih.2⟩
    · rw [if_neg q]
      refine ⟨Int.le_refl _, h, ?_⟩
      by_cases e9 : p = n
      · exact Or.inl e9
      · exact Or.inr (fun h9 => q ⟨by omega, h9⟩)
theorem SK_rng {t : Int → Int} {n p : Int} (h : p ≤ n) : p ≤ SK t n p ∧ SK t n p ≤ n := ⟨(skN_rng t n _ p h rfl).1, (skN_rng t n _ p h rfl).2.1⟩
def rnN (t : Int → Int) (n c : Int) : Nat → Int → Int
  | 0, p => p
  | k + 1, p => if p < n ∧ srt (t p) = c then rnN t n c k (p + 1) else p
def RN (t : Int → Int) (n c p : Int) : Int := rnN t n c (n - p).toNat p
theorem RN_in {t : Int → Int} {n c p : Int} (h : p < n) (h2 : srt (t p) = c) : RN t n c p = RN t n c (p + 1) := by
  unfold RN
  rw [show (n - p).toNat = (n - (p + 1)).toNat + 1 by omega]
  exact if_pos ⟨h, h2⟩
theorem RN_out {t : Int → Int} {n c p : Int} (h : n ≤ p ∨ srt (t p) ≠ c) : RN t n c p = p := by
  unfold RN
  cases e : (n - p).toNat with
  | zero => rfl
  | succ k => exact if_neg (fun h9 => by rcases h with h | h; exact absurd h9.1 (by omega); exact h h9.2)
theorem rnN_rng (t : Int → Int) (n c : Int) : ∀ (k : Nat) (p : Int), p ≤ n → k = (n - p).toNat → p ≤ rnN t n c k p ∧ rnN t n c k p ≤ n
  | 0, p, h, e => ⟨Int.le_refl _, h⟩
  | k + 1, p, h, e => by
    show p ≤ (if p < n ∧ srt (t p) = c then rnN t n c k (p + 1) else p) ∧ (if p < n ∧ srt (t p) = c then rnN t n c k (p + 1) else p) ≤ n
    by_cases q : p < n ∧ srt (t p) = c
    · rw [if_pos q]
      have ih := rnN_rng t n c k (p + 1) (by omega) (by omega)
      exact ⟨by omega, ih.2⟩
    · rw [if_neg q]
      exact ⟨Int.le_refl _, h⟩
theorem RN_rng {t : Int → Int} {n c p : Int} (h : p ≤ n) : p ≤ RN t n c p ∧ RN t n c p ≤ n := rnN_rng t n c _ p h rfl
/-- a token's end by its start -/
def TE (t : Int → Int) (n s : Int) : Int := if n ≤ s then s else if srt (t s) = 0 then s + 1 else RN t n (srt (t s)) (s + 1)
theorem TE_rng {t : Int → Int} {n s : Int} (h : s ≤ n) : s ≤ TE t n s ∧ TE t n s ≤ n ∧ (s < n → s < TE t n s) := by
  unfold TE
  split
  · omega
  · split
    · omega
    · have := RN_rng (t := t) (c := srt (t s)) (show s + 1 ≤ n by omega)
      omega
theorem TE_dig {t : Int → Int} {n s : Int} (hs : s < n) (h : srt (t s) = 2) (h2 : s + 1 < TE t n s) : srt (t (s + 1)) = 2 := by
  unfold TE at h2
  rw [if_neg (by omega), if_neg (by omega), h] at h2
  refine Classical.byContradiction fun h9 => ?_
  rw [RN_out (Or.inr h9)] at h2
  omega
def EP (t : Int → Int) (n p : Int) : Int := TE t n (SK t n p)
theorem EP_rng {t : Int → Int} {n p : Int} (h : p ≤ n) : SK t n p ≤ EP t n p ∧ EP t n p ≤ n ∧ p ≤ EP t n p := by
  have h1 := SK_rng (t := t) h
  have h2 := TE_rng (t := t) h1.2
  unfold EP
  omega
/-- a number of one or two digits between bounds, or -1 -/
def NU (t : Int → Int) (s e lo hi : Int) : Int :=
  if e - s = 1 then (if srt (t s) = 2 ∧ lo ≤ t s - 48 ∧ t s - 48 ≤ hi then t s - 48 else -1)
  else if e - s = 2 then (if srt (t s) = 2 ∧ srt (t (s + 1)) = 2 ∧ lo ≤ 10 * (t s - 48) + (t (s + 1) - 48) ∧ 10 * (t s - 48) + (t (s + 1) - 48) ≤ hi then 10 * (t s - 48) + (t (s + 1) - 48) else -1)
  else -1
theorem NU_rng {t : Int → Int} {s e lo hi : Int} : NU t s e lo hi = -1 ∨ (lo ≤ NU t s e lo hi ∧ NU t s e lo hi ≤ hi) := by
  unfold NU
  split
  · split
    · right; omega
    · left; rfl
  · split
    · split
      · right; omega
      · left; rfl
    · left; rfl
def NUM (t : Int → Int) (n lo hi p : Int) : Int := NU t (SK t n p) (EP t n p) lo hi
theorem NUM_rng {t : Int → Int} {n lo hi p : Int} : NUM t n lo hi p = -1 ∨ (lo ≤ NUM t n lo hi p ∧ NUM t n lo hi p ≤ hi) := NU_rng
def wd0 (t : Int → Int) (s e : Int) : Prop := e - s = 5 ∧ t s = 112 ∧ t (s + 1) = 108 ∧ t (s + 2) = 97 ∧ t (s + 3) = 105 ∧ t (s + 4) = 110
def wd1 (t : Int → Int) (s e : Int) : Prop := e - s = 6 ∧ t s = 111 ∧ t (s + 1) = 110 ∧ t (s + 2) = 101 ∧ t (s + 3) = 119 ∧ t (s + 4) = 97 ∧ t (s + 5) = 121
def wd2 (t : Int → Int) (s e : Int) : Prop := e - s = 3 ∧ t s = 116 ∧ t (s + 1) = 119 ∧ t (s + 2) = 111
def wd3 (t : Int → Int) (s e : Int) : Prop := e - s = 7 ∧ t s = 119 ∧ t (s + 1) = 101 ∧ t (s + 2) = 105 ∧ t (s + 3) = 103 ∧ t (s + 4) = 104 ∧ t (s + 5) = 101 ∧ t (s + 6) = 100
def wd4 (t : Int → Int) (s e : Int) : Prop := e - s = 8 ∧ t s = 115 ∧ t (s + 1) = 116 ∧ t (s + 2) = 105 ∧ t (s + 3) = 99 ∧ t (s + 4) = 107 ∧ t (s + 5) = 105 ∧ t (s + 6) = 110 ∧ t (s + 7) = 103
def wd5 (t : Int → Int) (s e : Int) : Prop := e - s = 5 ∧ t s = 102 ∧ t (s + 1) = 97 ∧ t (s + 2) = 108 ∧ t (s + 3) = 115 ∧ t (s + 4) = 101
def wd6 (t : Int → Int) (s e : Int) : Prop := e - s = 4 ∧ t s = 103 ∧ t (s + 1) = 97 ∧ t (s + 2) = 111 ∧ t (s + 3) = 108
def wd7 (t : Int → Int) (s e : Int) : Prop := e - s = 7 ∧ t s = 107 ∧ t (s + 1) = 105 ∧ t (s + 2) = 116 ∧ t (s + 3) = 99 ∧ t (s + 4) = 104 ∧ t (s + 5) = 101 ∧ t (s + 6) = 110
def wd8 (t : Int → Int) (s e : Int) : Prop := e - s = 6 ∧ t s = 104 ∧ t (s + 1) = 117 ∧ t (s + 2) = 110 ∧ t (s + 3) = 103 ∧ t (s + 4) = 114 ∧ t (s + 5) = 121
def wd9 (t : Int → Int) (s e : Int) : Prop := e - s = 4 ∧ t s = 115 ∧ t (s + 1) = 111 ∧ t (s + 2) = 97 ∧ t (s + 3) = 112
def wd10 (t : Int → Int) (s e : Int) : Prop := e - s = 3 ∧ t s = 107 ∧ t (s + 1) = 101 ∧ t (s + 2) = 121
def wd11 (t : Int → Int) (s e : Int) : Prop := e - s = 5 ∧ t s = 103 ∧ t (s + 1) = 117 ∧ t (s + 2) = 97 ∧ t (s + 3) = 114 ∧ t (s + 4) = 100
noncomputable def WD (t : Int → Int) (s e : Int) : Int := @ite _ (wd0 t s e) (Classical.propDecidable _) 0 (@ite _ (wd1 t s e) (Classical.propDecidable _) 1 (@ite _ (wd2 t s e) (Classical.propDecidable _) 2 (@ite _ (wd3 t s e) (Classical.propDecidable _) 3 (@ite _ (wd4 t s e) (Classical.propDecidable _) 4 (@ite _ (wd5 t s e) (Classical.propDecidable _) 5 (@ite _ (wd6 t s e) (Classical.propDecidable _) 6 (@ite _ (wd7 t s e) (Classical.propDecidable _) 7 (@ite _ (wd8 t s e) (Classical.propDecidable _) 8 (@ite _ (wd9 t s e) (Classical.propDecidable _) 9 (@ite _ (wd10 t s e) (Classical.propDecidable _) 10 (@ite _ (wd11 t s e) (Classical.propDecidable _) 11 (-1))))))))))))
theorem WD_0 {t : Int → Int} {s e : Int}  (h0 : wd0 t s e) : WD t s e = 0 := by
  unfold WD
  rw [if_pos h0]
theorem WD_1 {t : Int → Int} {s e : Int} (h0 : ¬ wd0 t s e) (h1 : wd1 t s e) : WD t s e = 1 := by
  unfold WD
  rw [if_neg h0, if_pos h1]
theorem WD_2 {t : Int → Int} {s e : Int} (h0 : ¬ wd0 t s e) (h1 : ¬ wd1 t s e) (h2 : wd2 t s e) : WD t s e = 2 := by
  unfold WD
  rw [if_neg h0, if_neg h1, if_pos h2]
theorem WD_3 {t : Int → Int} {s e : Int} (h0 : ¬ wd0 t s e) (h1 : ¬ wd1 t s e) (h2 : ¬ wd2 t s e) (h3 : wd3 t s e) : WD t s e = 3 := by
  unfold WD
  rw [if_neg h0, if_neg h1, if_neg h2, if_pos h3]
theorem WD_4 {t : Int → Int} {s e : Int} (h0 : ¬ wd0 t s e) (h1 : ¬ wd1 t s e) (h2 : ¬ wd2 t s e) (h3 : ¬ wd3 t s e) (h4 : wd4 t s e) : WD t s e = 4 := by
  unfold WD
  rw [if_neg h0, if_neg h1, if_neg h2, if_neg h3, if_pos h4]
theorem WD_5 {t : Int → Int} {s e : Int} (h0 : ¬ wd0 t s e) (h1 : ¬ wd1 t s e) (h2 : ¬ wd2 t s e) (h3 : ¬ wd3 t s e) (h4 : ¬ wd4 t s e) (h5 : wd5 t s e) : WD t s e = 5 := by
  unfold WD
  rw [if_neg h0, if_neg h1, if_neg h2, if_neg h3, if_neg h4, if_pos h5]
theorem WD_6 {t : Int → Int} {s e : Int} (h0 : ¬ wd0 t s e) (h1 : ¬ wd1 t s e) (h2 : ¬ wd2 t s e) (h3 : ¬ wd3 t s e) (h4 : ¬ wd4 t s e) (h5 : ¬ wd5 t s e) (h6 : wd6 t s e) : WD t s e = 6 := by
  unfold WD
  rw [if_neg h0, if_neg h1, if_neg h2, if_neg h3, if_neg h4, if_neg h5, if_pos h6]
theorem WD_7 {t : Int → Int} {s e : Int} (h0 : ¬ wd0 t s e) (h1 : ¬ wd1 t s e) (h2 : ¬ wd2 t s e) (h3 : ¬ wd3 t s e) (h4 : ¬ wd4 t s e) (h5 : ¬ wd5 t s e) (h6 : ¬ wd6 t s e) (h7 : wd7 t s e) : WD t s e = 7 := by
  unfold WD
  rw [if_neg h0, if_neg h1, if_neg h2, if_neg h3, if_neg h4, if_neg h5, if_neg h6, if_pos h7]
theorem WD_8 {t : Int → Int} {s e : Int} (h0 : ¬ wd0 t s e) (h1 : ¬ wd1 t s e) (h2 : ¬ wd2 t s e) (h3 : ¬ wd3 t s e) (h4 : ¬ wd4 t s e) (h5 : ¬ wd5 t s e) (h6 : ¬ wd6 t s e) (h7 : ¬ wd7 t s e) (h8 : wd8 t s e) : WD t s e = 8 := by
  unfold WD
  rw [if_neg h0, if_neg h1, if_neg h2, if_neg h3, if_neg h4, if_neg h5, if_neg h6, if_neg h7, if_pos h8]
theorem WD_9 {t : Int → Int} {s e : Int} (h0 : ¬ wd0 t s e) (h1 : ¬ wd1 t s e) (h2 : ¬ wd2 t s e) (h3 : ¬ wd3 t s e) (h4 : ¬ wd4 t s e) (h5 : ¬ wd5 t s e) (h6 : ¬ wd6 t s e) (h7 : ¬ wd7 t s e) (h8 : ¬ wd8 t s e) (h9 : wd9 t s e) : WD t s e = 9 := by
  unfold WD
  rw [if_neg h0, if_neg h1, if_neg h2, if_neg h3, if_neg h4, if_neg h5, if_neg h6, if_neg h7, if_neg h8, if_pos h9]
theorem WD_10 {t : Int → Int} {s e : Int} (h0 : ¬ wd0 t s e) (h1 : ¬ wd1 t s e) (h2 : ¬ wd2 t s e) (h3 : ¬ wd3 t s e) (h4 : ¬ wd4 t s e) (h5 : ¬ wd5 t s e) (h6 : ¬ wd6 t s e) (h7 : ¬ wd7 t s e) (h8 : ¬ wd8 t s e) (h9 : ¬ wd9 t s e) (h10 : wd10 t s e) : WD t s e = 10 := by
  unfold WD
  rw [if_neg h0, if_neg h1, if_neg h2, if_neg h3, if_neg h4, if_neg h5, if_neg h6, if_neg h7, if_neg h8, if_neg h9, if_pos h10]
theorem WD_11 {t : Int → Int} {s e : Int} (h0 : ¬ wd0 t s e) (h1 : ¬ wd1 t s e) (h2 : ¬ wd2 t s e) (h3 : ¬ wd3 t s e) (h4 : ¬ wd4 t s e) (h5 : ¬ wd5 t s e) (h6 : ¬ wd6 t s e) (h7 : ¬ wd7 t s e) (h8 : ¬ wd8 t s e) (h9 : ¬ wd9 t s e) (h10 : ¬ wd10 t s e) (h11 : wd11 t s e) : WD t s e = 11 := by
  unfold WD
  rw [if_neg h0, if_neg h1, if_neg h2, if_neg h3, if_neg h4, if_neg h5, if_neg h6, if_neg h7, if_neg h8, if_neg h9, if_neg h10, if_pos h11]
theorem WD_no {t : Int → Int} {s e : Int} (h0 : ¬ wd0 t s e) (h1 : ¬ wd1 t s e) (h2 : ¬ wd2 t s e) (h3 : ¬ wd3 t s e) (h4 : ¬ wd4 t s e) (h5 : ¬ wd5 t s e) (h6 : ¬ wd6 t s e) (h7 : ¬ wd7 t s e) (h8 : ¬ wd8 t s e) (h9 : ¬ wd9 t s e) (h10 : ¬ wd10 t s e) (h11 : ¬ wd11 t s e) : WD t s e = -1 := by
  unfold WD
  rw [if_neg h0, if_neg h1, if_neg h2, if_neg h3, if_neg h4, if_neg h5, if_neg h6, if_neg h7, if_neg h8, if_neg h9, if_neg h10, if_neg h11]
theorem WD_rng (t : Int → Int) (s e : Int) : -1 ≤ WD t s e ∧ WD t s e ≤ 11 := by
  unfold WD
  (repeat' split) <;> omega
/-! a line: from the place ahead of its word; rooms, doors, hungry ones as they stand -/
section LINE
variable (t : Int → Int) (n p R D H : Int)
noncomputable def LW : Int := WD t (SK t n p) (EP t n p)
noncomputable def LK : Int :=
  if LW t n p = -1 then 0
  else if LW t n p = 6 then (if NUM t n 2 6 (EP t n p) = -1 then 0 else 1)
  else if LW t n p = 7 ∨ LW t n p = 10 then (if NUM t n 0 (R - 1) (EP t n p) = -1 then 0 else 1)
  else if LW t n p = 8 then (if NUM t n 0 (R - 1) (EP t n p) = -1 ∨ hb H (NUM t n 0 (R - 1) (EP t n p)) = 1 ∨ 4 ≤ pcn H then 0 else 1)
  else if LW t n p = 9 then (if NUM t n 0 3 (EP t n p) = -1 then 0 else 1)
  else if LW t n p = 11 then (if NUM t n 0 1 (EP t n p) = -1 ∨ NUM t n 0 (R - 1) (EP t n (EP t n p)) = -1 then 0 else 1)
  else (if 10 ≤ D ∨ NUM t n 0 (R - 1) (EP t n p) = -1 ∨ NUM t n 0 (R - 1) (EP t n (EP t n p)) = -1 ∨ NUM t n 0 (R - 1) (EP t n (EP t n p)) = NUM t n 0 (R - 1) (EP t n p) ∨ NUM t n 0 1 (EP t n (EP t n (EP t n p))) = -1 then 0 else 1)
noncomputable def LQ : Int :=
  if LW t n p = -1 then SK t n p
  else if LW t n p = 6 ∨ LW t n p = 7 ∨ LW t n p = 8 ∨ LW t n p = 9 ∨ LW t n p = 10 then SK t n (EP t n p)
  else if LW t n p = 11 then (if NUM t n 0 1 (EP t n p) = -1 then SK t n (EP t n p) else SK t n (EP t n (EP t n p)))
  else if 10 ≤ D then SK t n p
  else if NUM t n 0 (R - 1) (EP t n p) = -1 then SK t n (EP t n p)
  else if NUM t n 0 (R - 1) (EP t n (EP t n p)) = -1 ∨ NUM t n 0 (R - 1) (EP t n (EP t n p)) = NUM t n 0 (R - 1) (EP t n p) then SK t n (EP t n (EP t n p))
  else SK t n (EP t n (EP t n (EP t n p)))
noncomputable def LE : Int :=
  if LW t n p = 6 ∨ LW t n p = 7 ∨ LW t n p = 8 ∨ LW t n p = 9 ∨ LW t n p = 10 then EP t n (EP t n p)
  else if LW t n p = 11 then EP t n (EP t n (EP t n p))
  else EP t n (EP t n (EP t n (EP t n p)))
noncomputable def LR : Int := if LW t n p = 6 then NUM t n 2 6 (EP t n p) else R
noncomputable def LD : Int := if LW t n p = 6 then 0 else if LW t n p ≤ 5 then D + 1 else D
noncomputable def LH : Int := if LW t n p = 6 then 0 else if LW t n p = 8 then stb H (NUM t n 0 (R - 1) (EP t n p)) else H
end LINE
/-- place of the first fault or -1, rooms, doors, hungry ones, lines -/
abbrev kO : Type := Int × (Int × (Int × (Int × Int)))
noncomputable def AF (f : Int → Int → Int → Int → kO) (t : Int → Int) (n : Int) (k : Nat) (e R D H : Int) : kO :=
  if SK t n e = n then (-1, R, D, H, 10 - (k : Int)) else if t (SK t n e) ≠ 59 ∨ k = 0 then (SK t n e, 0, 0, 0, 0) else f (EP t n e) R D H
noncomputable def RD (t : Int → Int) (n : Int) : Nat → Int → Int → Int → Int → kO
  | 0, p, _, _, _ => (p, 0, 0, 0, 0)
  | k + 1, p, R, D, H => if LK t n p R D H = 0 then (LQ t n p R D, 0, 0, 0, 0) else AF (RD t n k) t n k (LE t n p) (LR t n p R) (LD t n p D) (LH t n p R H)
/-! what is told of doors and of the key: first rooms, second rooms, kinds, wickets, the key's room -/
abbrev kY : Type := (Int → Int) × ((Int → Int) × ((Int → Int) × ((Int → Int) × Int)))
theorem kY_eq {a a' b b' c c' d d' : Int → Int} {k k' : Int} (h1 : a = a') (h2 : b = b') (h3 : c = c') (h4 : d = d') (h5 : k = k') : ((a, b, c, d, k) : kY) = (a', b', c', d', k') := by
  subst h1 h2 h3 h4 h5
  rfl
noncomputable def LY (t : Int → Int) (n p R D : Int) (g : kY) : kY :=
  if LW t n p = 6 then (g.1, g.2.1, g.2.2.1, g.2.2.2.1, 0)
  else if LW t n p ≤ 5 then (up g.1 D (NUM t n 0 (R - 1) (EP t n p)), up g.2.1 D (NUM t n 0 (R - 1) (EP t n (EP t n p))), up g.2.2.1 D (LW t n p), up g.2.2.2.1 D (NUM t n 0 1 (EP t n (EP t n (EP t n p)))), g.2.2.2.2)
  else if LW t n p = 10 then (g.1, g.2.1, g.2.2.1, g.2.2.2.1, NUM t n 0 (R - 1) (EP t n p))
  else g
noncomputable def AG (f : Int → Int → Int → Int → kY → kY) (t : Int → Int) (n : Int) (k : Nat) (e R D H : Int) (g : kY) : kY :=
  if SK t n e = n then g else if t (SK t n e) ≠ 59 ∨ k = 0 then g else f (EP t n e) R D H g
noncomputable def RG (t : Int → Int) (n : Int) : Nat → Int → Int → Int → Int → kY → kY
  | 0, _, _, _, _, g => g
  | k + 1, p, R, D, H, g => if LK t n p R D H = 0 then g else AG (RG t n k) t n k (LE t n p) (LR t n p R) (LD t n p D) (LH t n p R H) (LY t n p R D g)
theorem RG_s (t : Int → Int) (n : Int) (k : Nat) (p R D H : Int) (g : kY) : RG t n (k + 1) p R D H g = if LK t n p R D H = 0 then g else AG (RG t n k) t n k (LE t n p) (LR t n p R) (LD t n p D) (LH t n p R H) (LY t n p R D g) := rfl
theorem LE_rng {t : Int → Int} {n p : Int} (h : p ≤ n) : LE t n p ≤ n := by
  have h1 := EP_rng (t := t) h
  have h2 := EP_rng (t := t) h1.2.1
  have h3 := EP_rng (t := t) h2.2.1
  have h4 := EP_rng (t := t) h3.2.1
  unfold LE
  (repeat' split) <;> omega
