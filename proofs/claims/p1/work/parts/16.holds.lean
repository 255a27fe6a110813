/-! ===== the table holds ===== -/
def ae_okL (me : ae_M) : List (Option ae_E) → Nat → Bool
  | [], _ => true
  | none :: l, i => ae_okL me l (i + 1)
  | some ie :: l, i => ae_okm me i ie && ae_okL me l (i + 1)
def ae_okM (me : ae_M) : Bool := plainFor me.1 && ae_okL me (ae_il me) 0
theorem ae_okL_at (me : ae_M) : ∀ (l : List (Option ae_E)) (i j : Nat) (ie : ae_E), ae_okL me l i = true → l[j]? = some (some ie) → ae_okm me (i + j) ie = true
  | [], _, j, _, _, h => by simp at h
  | none :: l, i, 0, ie, _, h => by simp at h
  | none :: l, i, j + 1, ie, hk, h => by
    have h : l[j]? = some (some ie) := by simpa using h
    have := ae_okL_at me l (i + 1) j ie hk h
    rw [show i + (j + 1) = i + 1 + j by omega]
    exact this
  | some x :: l, i, 0, ie, hk, h => by
    have h : x = ie := by simpa using h
    subst h
    exact (ae_and hk).1
  | some x :: l, i, j + 1, ie, hk, h => by
    have h : l[j]? = some (some ie) := by simpa using h
    have := ae_okL_at me l (i + 1) j ie (ae_and hk).2 h
    rw [show i + (j + 1) = i + 1 + j by omega]
    exact this
theorem ae_okL_split (me : ae_M) : ∀ (n : Nat) (l : List (Option ae_E)) (i : Nat), ae_okL me (l.take n) i = true → ae_okL me (l.drop n) (i + n) = true → ae_okL me l i = true
  | 0, l, i, _, h => h
  | n + 1, [], i, _, _ => rfl
  | n + 1, none :: l, i, h1, h2 => ae_okL_split me n l (i + 1) h1 (by rw [show i + 1 + n = i + (n + 1) by omega]; exact h2)
  | n + 1, some x :: l, i, h1, h2 => by
    obtain ⟨g1, g2⟩ := ae_and h1
    have g3 := ae_okL_split me n l (i + 1) g2 (by rw [show i + 1 + n = i + (n + 1) by omega]; exact h2)
    show (ae_okm me i x && ae_okL me l (i + 1)) = true
    rw [g1, g3]
    rfl
theorem ok_all : ∀ me ∈ ae_MT, ae_okM me = true := sorry
