/-! ===== how many lines there are ===== -/
theorem RD_ln (t : Int → Int) (n : Int) : ∀ (k : Nat), k ≤ 10 → ∀ (p R D H : Int), 0 ≤ (RD t n k p R D H).2.2.2.2 ∧ (RD t n k p R D H).2.2.2.2 ≤ 10
  | 0, _, p, R, D, H => ⟨Int.le_refl 0, by show (0 : Int) ≤ 10; decide⟩
  | k + 1, hk, p, R, D, H => by
    rw [RD_s]
    by_cases h1 : LK t n p R D H = 0
    · rw [if_pos h1]
      exact ⟨Int.le_refl 0, by show (0 : Int) ≤ 10; decide⟩
    · rw [if_neg h1]
      unfold AF
      by_cases h2 : SK t n (LE t n p) = n
      · rw [if_pos h2]
        exact ⟨by show 0 ≤ 10 - (k : Int); omega, by show 10 - (k : Int) ≤ 10; omega⟩
      · rw [if_neg h2]
        by_cases h3 : t (SK t n (LE t n p)) ≠ 59 ∨ k = 0
        · rw [if_pos h3]
          exact ⟨Int.le_refl 0, by show (0 : Int) ≤ 10; decide⟩
        · rw [if_neg h3]
          exact RD_ln t n k (by omega) _ _ _ _
