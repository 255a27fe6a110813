/-! ===== the classes: types of their fields, what a new one holds ===== -/
def ae_TY : List (List FieldType) := [[.object "OneKey$Gaol"],
  [.object "OneKey$Gaol", .object "OneKey$Search", .array .int, .array .int, .object "OneKey$Path", .object "OneKey$Path", .int],
  [.array .int, .array .int, .array .int, .array .int, .array .int, .int, .int, .int, .int, .int, .int],
  [.object "OneKey$Gaol", .array .int, .array .int, .array (.array .long), .array (.array .long), .int],
  [.int, .array .int],
  [.array .int, .int, .int, .int, .int],
  [.object "OneKey$Gaol", .object "OneKey$Acts", .array .long, .array .long, .array .int, .array (.array .int), .array .int, .int, .int],
  [.object "OneKey$Reader", .object "OneKey$Gaol", .object "OneKey$Gaol", .object "OneKey$Acts", .object "OneKey$Foretold", .object "OneKey$Night", .array .int, .array .int, .array .int, .int, .int, .int],
  [.array .int, .array .boolean, .array .int, .int, .array .int, .int, .int, .array .int, .int, .int, .int, .int, .int, .array .int, .int, .int, .int, .int, .int, .int, .array .int, .array .int, .array .boolean, .int, .array .int, .array .int, .int, .array .int, .int, .array .long, .array .long]]
def ae_DF : List (List ae_V) := [[.inr (.inr (.inr 0))],
  [.inr (.inr (.inr 0)), .inr (.inr (.inr 0)), .inr (.inr (.inr 0)), .inr (.inr (.inr 0)), .inr (.inr (.inr 0)), .inr (.inr (.inr 0)), .inl (.inl 0)],
  [.inr (.inr (.inr 0)), .inr (.inr (.inr 0)), .inr (.inr (.inr 0)), .inr (.inr (.inr 0)), .inr (.inr (.inr 0)), .inl (.inl 0), .inl (.inl 0), .inl (.inl 0), .inl (.inl 0), .inl (.inl 0), .inl (.inl 0)],
  [.inr (.inr (.inr 0)), .inr (.inr (.inr 0)), .inr (.inr (.inr 0)), .inr (.inr (.inr 0)), .inr (.inr (.inr 0)), .inl (.inl 0)],
  [.inl (.inl 0), .inr (.inr (.inr 0))],
  [.inr (.inr (.inr 0)), .inl (.inl 0), .inl (.inl 0), .inl (.inl 0), .inl (.inl 0)],
  [.inr (.inr (.inr 0)), .inr (.inr (.inr 0)), .inr (.inr (.inr 0)), .inr (.inr (.inr 0)), .inr (.inr (.inr 0)), .inr (.inr (.inr 0)), .inr (.inr (.inr 0)), .inl (.inl 0), .inl (.inl 0)],
  [.inr (.inr (.inr 0)), .inr (.inr (.inr 0)), .inr (.inr (.inr 0)), .inr (.inr (.inr 0)), .inr (.inr (.inr 0)), .inr (.inr (.inr 0)), .inr (.inr (.inr 0)), .inr (.inr (.inr 0)), .inr (.inr (.inr 0)), .inl (.inl 0), .inl (.inl 0), .inl (.inl 0)],
  [.inr (.inr (.inr 0)), .inr (.inr (.inr 0)), .inr (.inr (.inr 0)), .inl (.inl 0), .inr (.inr (.inr 0)), .inl (.inl 0), .inl (.inl 0), .inr (.inr (.inr 0)), .inl (.inl 0), .inl (.inl 0), .inl (.inl 0), .inl (.inl 0), .inl (.inl 0), .inr (.inr (.inr 0)), .inl (.inl 0), .inl (.inl 0), .inl (.inl 0), .inl (.inl 0), .inl (.inl 0), .inl (.inl 0), .inr (.inr (.inr 0)), .inr (.inr (.inr 0)), .inr (.inr (.inr 0)), .inl (.inl 0), .inr (.inr (.inr 0)), .inr (.inr (.inr 0)), .inl (.inl 0), .inr (.inr (.inr 0)), .inl (.inl 0), .inr (.inr (.inr 0)), .inr (.inr (.inr 0))]]
def ae_dok (ty : FieldType) : Bool := match ty with
  | .float => false
  | .double => false
  | _ => true
def ag_cl (ci : Nat) (cl : vw_C) (ty : Nat → FieldType) : Prop :=
  (∀ w ∈ u_ws cl.1 cl.2.1 cl.2.2, w ∈ lw_gt) ∧ (∀ k, k < cl.2.2 → parseFieldDescriptor (cl.2.1 k).2.2.1 = some (ty k)) ∧ (∀ a, a < cl.2.2 → ∀ b, b < cl.2.2 → a ≠ b → (cl.2.1 a).2.1 ≠ (cl.2.1 b).2.1) ∧
  ∃ tl, ae_TY[ci]? = some tl ∧ tl.length = cl.2.2 ∧ (∀ k, k < cl.2.2 → tl[k]? = some (ty k)) ∧ ae_DF[ci]? = some (tl.map ae_def) ∧ tl.all ae_dok = true
theorem ag_cl0 : ag_cl 0 (RX0, TX0, 1) tyX0 := ⟨by decide +kernel, tyX0_ok, nmX0, _, rfl, rfl, by decide +kernel, rfl, by decide +kernel⟩
theorem ag_cl1 : ag_cl 1 (RX1, TX1, 7) tyX1 := ⟨by decide +kernel, tyX1_ok, nmX1, _, rfl, rfl, by decide +kernel, rfl, by decide +kernel⟩
theorem ag_cl2 : ag_cl 2 (RX2, TX2, 11) tyX2 := ⟨by decide +kernel, tyX2_ok, nmX2, _, rfl, rfl, by decide +kernel, rfl, by decide +kernel⟩
theorem ag_cl3 : ag_cl 3 (RX3, TX3, 6) tyX3 := ⟨by decide +kernel, tyX3_ok, nmX3, _, rfl, rfl, by decide +kernel, rfl, by decide +kernel⟩
theorem ag_cl4 : ag_cl 4 (RX5, TX5, 2) tyX5 := ⟨by decide +kernel, tyX5_ok, nmX5, _, rfl, rfl, by decide +kernel, rfl, by decide +kernel⟩
theorem ag_cl5 : ag_cl 5 (RX6, TX6, 5) tyX6 := ⟨by decide +kernel, tyX6_ok, nmX6, _, rfl, rfl, by decide +kernel, rfl, by decide +kernel⟩
theorem ag_cl6 : ag_cl 6 (RX7, TX7, 9) tyX7 := ⟨by decide +kernel, tyX7_ok, nmX7, _, rfl, rfl, by decide +kernel, rfl, by decide +kernel⟩
theorem ag_cl7 : ag_cl 7 (RX9, TX9, 12) tyX9 := ⟨by decide +kernel, tyX9_ok, nmX9, _, rfl, rfl, by decide +kernel, rfl, by decide +kernel⟩
theorem ag_cl8 : ag_cl 8 (RX10, TX10, 31) tyX10 := ⟨by decide +kernel, tyX10_ok, nmX10, _, rfl, rfl, by decide +kernel, rfl, by decide +kernel⟩
theorem ag_cls : ∀ (ci : Nat) (cl : vw_C), vwCl[ci]? = some cl → ∃ ty, ag_cl ci cl ty
  | 0, _, h => by cases h; exact ⟨_, ag_cl0⟩
  | 1, _, h => by cases h; exact ⟨_, ag_cl1⟩
  | 2, _, h => by cases h; exact ⟨_, ag_cl2⟩
  | 3, _, h => by cases h; exact ⟨_, ag_cl3⟩
  | 4, _, h => by cases h; exact ⟨_, ag_cl4⟩
  | 5, _, h => by cases h; exact ⟨_, ag_cl5⟩
  | 6, _, h => by cases h; exact ⟨_, ag_cl6⟩
  | 7, _, h => by cases h; exact ⟨_, ag_cl7⟩
  | 8, _, h => by cases h; exact ⟨_, ag_cl8⟩
  | n + 9, _, h => by simp [vwCl] at h
