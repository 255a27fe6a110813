/-! ===== doors as they are told (pure) ===== -/
def opk (k f r b l : Int) : Int := if k = 0 then 1 else if k = 1 then (if f = r then 1 else 0) else if k = 2 then (if b = 24 then 1 else 0) else if k = 3 then (if l = 0 then 1 else 0) else if k = 4 then (if b = 14 then 1 else 0) else 0
def OPZ (m : kM) (a r b l z : Int) : Prop := z = if 0 ≤ a ∧ a < m.1 8 then opk (m.2.1 6 a) (m.2.1 4 a) r b l else 0
def bhk (f s r : Int) : Int := if f = r then s else if s = r then f else -1
def BHZ (m : kM) (a r z : Int) : Prop := z = if 0 ≤ a ∧ a < m.1 8 then bhk (m.2.1 4 a) (m.2.1 5 a) r else -1
def kgk (k f s r : Int) : Int := if k = 5 then -1 else if f = r then s else if s = r ∧ k ≠ 1 then f else -1
def KGZ (m : kM) (a r z : Int) : Prop := z = if 0 ≤ a ∧ a < m.1 8 then kgk (m.2.1 6 a) (m.2.1 4 a) (m.2.1 5 a) r else -1
theorem kI_door {m : kM} (hm : kI m) {a : Int} (h0 : 0 ≤ a) (h1 : a < m.1 8) : (0 ≤ m.2.1 6 a ∧ m.2.1 6 a ≤ 5) ∧ (0 ≤ m.2.1 4 a ∧ m.2.1 4 a ≤ 5) ∧ (0 ≤ m.2.1 5 a ∧ m.2.1 5 a ≤ 5) := by
  have h8 : 0 ≤ m.1 8 ∧ m.1 8 ≤ 10 := hm.1 8
  exact ⟨hm.2 6 a h0 (show a < (10 : Int) by omega), hm.2 4 a h0 (show a < (10 : Int) by omega), hm.2 5 a h0 (show a < (10 : Int) by omega)⟩
theorem KGZ_1 {m : kM} (hm : kI m) {a r t : Int} (hB : BHZ m a r t) (ht : t = -1) : KGZ m a r (-1) := by
  unfold BHZ at hB
  unfold KGZ
  by_cases q : 0 ≤ a ∧ a < m.1 8
  · have hk := kI_door hm q.1 q.2
    rw [if_pos q] at hB ⊢
    unfold bhk at hB
    unfold kgk
    (repeat' split) <;> (repeat' split at hB) <;> omega
  · rw [if_neg q]
theorem KGZ_2 {m : kM} (hm : kI m) {a r t : Int} (hB : BHZ m a r t) (ht : t ≠ -1) (hO : OPZ m a r 14 0 1 ∨ OPZ m a r 24 0 1) : KGZ m a r t := by
  unfold BHZ at hB
  unfold KGZ
  unfold OPZ at hO
  by_cases q : 0 ≤ a ∧ a < m.1 8
  · have hk := kI_door hm q.1 q.2
    rw [if_pos q, if_pos q] at hO
    rw [if_pos q] at hB ⊢
    generalize m.2.1 6 a = k at hO hk ⊢
    generalize m.2.1 4 a = f at hO hk hB ⊢
    generalize m.2.1 5 a = s at hk hB ⊢
    have e1 : opk k f r 14 0 = if k = 0 ∨ (k = 1 ∧ f = r) ∨ k = 3 ∨ k = 4 then 1 else 0 := by
      unfold opk
      (repeat' split) <;> omega
    have e2 : opk k f r 24 0 = if k = 0 ∨ (k = 1 ∧ f = r) ∨ k = 2 ∨ k = 3 then 1 else 0 := by
      unfold opk
      (repeat' split) <;> omega
    rw [e1, e2] at hO
    have hO2 : k ≠ 5 ∧ (k = 1 → f = r) := by
      rcases hO with h | h <;> (split at h <;> omega)
    unfold bhk at hB
    unfold kgk
    (repeat' split) <;> (repeat' split at hB) <;> omega
  · rw [if_neg q] at hB
    exact absurd hB ht
theorem KGZ_3 {m : kM} (hm : kI m) {a r t : Int} (hB : BHZ m a r t) (ht : t ≠ -1) (hO : OPZ m a r 14 0 0) (hP : OPZ m a r 24 0 0) : KGZ m a r (-1) := by
  unfold BHZ at hB
  unfold KGZ
  unfold OPZ at hO hP
  by_cases q : 0 ≤ a ∧ a < m.1 8
  · have hk := kI_door hm q.1 q.2
    rw [if_pos q] at hO hP hB ⊢
    generalize m.2.1 6 a = k at hO hP hk ⊢
    generalize m.2.1 4 a = f at hO hP hk hB ⊢
    generalize m.2.1 5 a = s at hk hB ⊢
    have e1 : opk k f r 14 0 = if k = 0 ∨ (k = 1 ∧ f = r) ∨ k = 3 ∨ k = 4 then 1 else 0 := by
      unfold opk
      (repeat' split) <;> omega
    have e2 : opk k f r 24 0 = if k = 0 ∨ (k = 1 ∧ f = r) ∨ k = 2 ∨ k = 3 then 1 else 0 := by
      unfold opk
      (repeat' split) <;> omega
    rw [e1] at hO
    rw [e2] at hP
    have hO1 : ¬ (k = 0 ∨ (k = 1 ∧ f = r) ∨ k = 3 ∨ k = 4) := by
      intro h
      rw [if_pos h] at hO
      omega
    have hO2 : ¬ (k = 0 ∨ (k = 1 ∧ f = r) ∨ k = 2 ∨ k = 3) := by
      intro h
      rw [if_pos h] at hP
      omega
    unfold bhk at hB
    unfold kgk
    (repeat' split) <;> (repeat' split at hB) <;> omega
  · rw [if_neg q]
def unk : Nat → Int → Int → Int
  | 0, _, _ => 0
  | n + 1, o, a => if 0 ≤ o ∧ o < 8 then (if o = a then 1 else unk n ((ae_OV o.toNat).toInt) a) else 0
theorem unk_s {n : Nat} {o a : Int} (h0 : 0 ≤ o) (h1 : o < 8) (h : o ≠ a) : unk (n + 1) o a = unk n ((ae_OV o.toNat).toInt) a := by
  show (if 0 ≤ o ∧ o < 8 then (if o = a then 1 else unk n ((ae_OV o.toNat).toInt) a) else 0) = _
  rw [if_pos ⟨h0, h1⟩, if_neg h]
theorem unk_hit {n : Nat} {o a : Int} (h0 : 0 ≤ o) (h1 : o < 8) (h : o = a) : unk (n + 1) o a = 1 := by
  show (if 0 ≤ o ∧ o < 8 then (if o = a then 1 else unk n ((ae_OV o.toNat).toInt) a) else 0) = _
  rw [if_pos ⟨h0, h1⟩, if_pos h]
theorem unk_out {n : Nat} {o a : Int} (h : n = 0 ∨ o < 0 ∨ 8 ≤ o) : unk n o a = 0 := by
  cases n with
  | zero => rfl
  | succ n =>
    show (if 0 ≤ o ∧ o < 8 then (if o = a then 1 else unk n ((ae_OV o.toNat).toInt) a) else 0) = _
    rw [if_neg (by omega)]
def amk (k w : Int) : Prop := w = 0 ∨ (w = 1 ∧ k ≠ 5) ∨ (w = 2 ∧ k ≠ 2 ∧ k ≠ 5) ∨ (w = 3 ∧ (k = 1 ∨ k = 4)) ∨ (w = 4 ∧ k = 2) ∨ (w = 5 ∧ k = 3) ∨ (w = 6 ∧ k = 4) ∨ (w = 7 ∧ k = 5)
def ASZ (m : kM) (a w z : Int) : Prop := ((a < 0 ∨ m.1 8 ≤ a) ∧ z = -2) ∨ (0 ≤ a ∧ a < m.1 8 ∧ (w < 0 ∨ 7 < w) ∧ z = -3) ∨ (0 ≤ a ∧ a < m.1 8 ∧ 0 ≤ w ∧ w ≤ 7 ∧ unk 8 (m.2.1 6 a + 2) w = 0 ∧ z = -4) ∨ (0 ≤ a ∧ a < m.1 8 ∧ 0 ≤ w ∧ w ≤ 7 ∧ unk 8 (m.2.1 6 a + 2) w = 1 ∧ z = opk (m.2.1 6 a) (m.2.1 4 a) (m.2.1 4 a) 14 0 + opk (m.2.1 6 a) (m.2.1 4 a) (m.2.1 5 a) 14 0)
def AMZ (m : kM) (a w z : Int) : Prop := ((a < 0 ∨ m.1 26 ≤ a) ∧ z = -2) ∨ (0 ≤ a ∧ a < m.1 26 ∧ (w < 0 ∨ 7 < w) ∧ z = -3) ∨ (0 ≤ a ∧ a < m.1 26 ∧ 0 ≤ w ∧ w ≤ 7 ∧ ¬ amk (m.2.1 66 (4 * a + 2)) w ∧ z = -4) ∨ (0 ≤ a ∧ a < m.1 26 ∧ 0 ≤ w ∧ w ≤ 7 ∧ amk (m.2.1 66 (4 * a + 2)) w ∧ ((m.2.1 66 (4 * a + 2) = 1 ∧ z = 1) ∨ (m.2.1 66 (4 * a + 2) ≠ 1 ∧ m.2.1 66 (4 * a + 2) ≠ 2 ∧ m.2.1 66 (4 * a + 2) ≠ 5 ∧ z = 2) ∨ ((m.2.1 66 (4 * a + 2) = 2 ∨ m.2.1 66 (4 * a + 2) = 5) ∧ z = 0)))
/-- a door's data as both sides tell them -/
def CDZ (m : kM) (a w z : Int) : Prop := ((a < 0 ∨ m.1 8 ≤ a) ∧ z = -2) ∨ (0 ≤ a ∧ a < m.1 8 ∧ ((w = 0 ∧ z = m.2.1 4 a) ∨ (w = 1 ∧ z = m.2.1 5 a) ∨ (w = 2 ∧ z = m.2.1 6 a) ∨ (w = 3 ∧ z = m.2.1 7 a) ∨ ((w < 0 ∨ 3 < w) ∧ z = -3)))
def DDZ (m : kM) (a w z : Int) : Prop := ((a < 0 ∨ m.1 26 ≤ a) ∧ z = -2) ∨ (0 ≤ a ∧ a < m.1 26 ∧ ((0 ≤ w ∧ w ≤ 3 ∧ z = m.2.1 66 (4 * a + w)) ∨ ((w < 0 ∨ 3 < w) ∧ z = -3)))
