/-! ===== what is alike on both sides ===== -/
/-- both sides alike, as far as what is compared rests on it -/
def rl (m : kM) : Prop := m.1 3 = m.1 23 ∧ m.2.1 2 = m.2.1 64 ∧ m.1 7 = m.1 25 ∧ m.1 8 = m.1 26 ∧ m.1 10 = m.1 28 ∧ m.1 22 = m.1 39 ∧ m.1 0 = m.1 38 ∧ DY m (m.2.1 4, m.2.1 5, m.2.1 6, m.2.1 7, m.1 12) ∧ HY m ∧ DV m
def iv (m : kM) : Prop := kI m ∧ kW m ∧ kP m ∧ k4 m ∧ kD m ∧ kK m ∧ rl m
def pp (k : Nat) : Nat := 64514 * k
theorem pp_s (k : Nat) : pp (k + 1) = pp k + 64514 := Nat.mul_succ 64514 k
theorem pp_le {k : Nat} (h : k ≤ 64) : pp k ≤ 4128896 := Nat.le_trans (Nat.mul_le_mul_left 64514 h) (Nat.le_of_ble_eq_true rfl)
def bu (cs sl k : Nat) (m : kM) : Prop := cs ≤ 76 + 4 * k ∧ (sl ≤ 267897 + pp k ∨ (m.2.2.1 0 ≠ vE 0 ∧ sl ≤ 267897 + pp (k + 1)))
