/-! ===== contracts: the class, how a text is read ===== -/
theorem srt_sp (c : Int) : (srt c = 1 ∧ 97 ≤ c ∧ c ≤ 122) ∨ (srt c = 2 ∧ 48 ≤ c ∧ c ≤ 57) ∨ (srt c = 0 ∧ (c < 48 ∨ (57 < c ∧ c < 97) ∨ 122 < c)) := by
  unfold srt
  split
  · left; omega
  · split
    · right; left; omega
    · right; right; omega
theorem TE_0 {t : Int → Int} {n s : Int} (h : n ≤ s) : TE t n s = s := if_pos h
theorem TE_1 {t : Int → Int} {n s : Int} (h : s < n) (h0 : srt (t s) = 0) : TE t n s = s + 1 := by
  unfold TE
  rw [if_neg (by omega), if_pos h0]
theorem TE_2 {t : Int → Int} {n s c : Int} (h : s < n) (h0 : srt (t s) = c) (hc : c ≠ 0) : TE t n s = RN t n c (s + 1) := by
  unfold TE
  rw [if_neg (by omega), h0, if_neg hc]
theorem c_isLetter {V : cg_V} {d q : Nat} (hd : 0 ≤ d) (hq : 0 ≤ q) {m : kM} (hm : kI m) {c : Int} (h_c : (-2147483648) ≤ c ∧ c ≤ 2147483647) : cg_S V d q mX6_isLetter [vI c] (kl m) (R_I (fun z m' => (m = m') ∧ ((z = 1 ∧ 97 ≤ c ∧ c ≤ 122) ∨ (z = 0 ∧ (c < 97 ∨ 122 < c))))) := by
  refine cg_of (List.mem_of_getElem? (show ae_MT[66]? = some mX6_isLetter from rfl)) (Nat.le_of_ble_eq_true rfl) ?_
  show cg_G V mX6_isLetter d q _ 0 [(0, vI c)] [] (kl m) 0 0
  refine g_iload_n (n := 0) rfl rfl ?_
  refine g_bipush (by decide) rfl ?_
  refine g_icmp_lt (by omega) (by omega) (by decide) (by decide) rfl ?_ ?_
  · intro kk1
    refine g_iconst rfl ?_
    refine g_zret rfl rfl (by omega) ?_
    exact ⟨_, _, rfl, rfl, (by omega)⟩
  · intro kk2
    refine g_iload_n (n := 0) rfl rfl ?_
    refine g_bipush (by decide) rfl ?_
    refine g_icmp_gt (by omega) (by omega) (by decide) (by decide) rfl ?_ ?_
    · intro kk3
      refine g_iconst rfl ?_
      refine g_zret rfl rfl (by omega) ?_
      exact ⟨_, _, rfl, rfl, (by omega)⟩
    · intro kk4
      refine g_iconst rfl ?_
      refine g_goto rfl ?_
      refine g_zret rfl rfl (by omega) ?_
      exact ⟨_, _, rfl, rfl, (by omega)⟩
theorem c_isDigit {V : cg_V} {d q : Nat} (hd : 0 ≤ d) (hq : 0 ≤ q) {m : kM} (hm : kI m) {c : Int} (h_c : (-2147483648) ≤ c ∧ c ≤ 2147483647) : cg_S V d q mX6_isDigit [vI c] (kl m) (R_I (fun z m' => (m = m') ∧ ((z = 1 ∧ 48 ≤ c ∧ c ≤ 57) ∨ (z = 0 ∧ (c < 48 ∨ 57 < c))))) := by
  refine cg_of (List.mem_of_getElem? (show ae_MT[67]? = some mX6_isDigit from rfl)) (Nat.le_of_ble_eq_true rfl) ?_
  show cg_G V mX6_isDigit d q _ 0 [(0, vI c)] [] (kl m) 0 0
  refine g_iload_n (n := 0) rfl rfl ?_
  refine g_bipush (by decide) rfl ?_
  refine g_icmp_lt (by omega) (by omega) (by decide) (by decide) rfl ?_ ?_
  · intro kk1
    refine g_iconst rfl ?_
    refine g_zret rfl rfl (by omega) ?_
    exact ⟨_, _, rfl, rfl, (by omega)⟩
  · intro kk2
    refine g_iload_n (n := 0) rfl rfl ?_
    refine g_bipush (by decide) rfl ?_
    refine g_icmp_gt (by omega) (by omega) (by decide) (by decide) rfl ?_ ?_
    · intro kk3
      refine g_iconst rfl ?_
      refine g_zret rfl rfl (by omega) ?_
      exact ⟨_, _, rfl, rfl, (by omega)⟩
    · intro kk4
      refine g_iconst rfl ?_
      refine g_goto rfl ?_
      refine g_zret rfl rfl (by omega) ?_
      exact ⟨_, _, rfl, rfl, (by omega)⟩
theorem c_nextToken {V : cg_V} {d q : Nat} (hd : 1 ≤ d) (hq : 20 ≤ q) {m : kM} (hm : kI m) (he : m.1 6 ≤ m.1 3) : cg_S V d q mX6_nextToken [vR 1] (kl m) (R_V (fun m' => (kI m') ∧ (fr [5, 6] [] m m') ∧ (m'.1 5 = SK (m.2.1 2) (m.1 3) (m.1 6)) ∧ (m'.1 6 = EP (m.2.1 2) (m.1 3) (m.1 6)))) := by
  have hf0 : fr [5, 6] [] m m := fr_rf m
  refine cg_of (List.mem_of_getElem? (show ae_MT[68]? = some mX6_nextToken from rfl)) (Nat.le_of_ble_eq_true rfl) ?_
  show cg_G V mX6_nextToken d q _ 0 [(0, vR 1)] [] (kl m) 0 0
  have h1 : 0 ≤ m.1 3 ∧ m.1 3 ≤ 200 := hm.1 3
  have h2 : 0 ≤ m.1 6 ∧ m.1 6 ≤ 200 := hm.1 6
  have hsr := SK_rng (t := m.2.1 2) he
  refine g_aload_n (n := 0) rfl rfl ?_
  refine g_aload_n (n := 0) rfl rfl ?_
  refine g_getf (v := vI (m.1 6)) rfl (kl_1 _) rfl ?_
  refine g_putF (m' := (kF m 5 (m.1 6))) rfl (kl_1 _) rfl rfl rfl rfl (kF_5 _ _) ?_
  have hm3 : kI (kF m 5 (m.1 6)) := kI_F hm 5 (show (0 : Int) ≤ m.1 6 by omega) (show m.1 6 ≤ (200 : Int) by omega)
  have hf4 : fr [5, 6] [] m (kF m 5 (m.1 6)) := fr_F hf0 5 _ rfl
  have L8_1 : ∀ (n8_1 : Nat)  (mL1 : kM), (kI mL1) → (fr [5, 6] [] m mL1) → (SK (m.2.1 2) (m.1 3) (mL1.1 5) = (SK (m.2.1 2) (m.1 3) (m.1 6))) → (mL1.1 5 ≤ m.1 3) → ((200 - mL1.1 5).toNat) = n8_1 → cg_G V mX6_nextToken d q (R_V (fun m' => (kI m') ∧ (fr [5, 6] [] m m') ∧ (m'.1 5 = SK (m.2.1 2) (m.1 3) (m.1 6)) ∧ (m'.1 6 = EP (m.2.1 2) (m.1 3) (m.1 6)))) 8 [(0, vR 1)] [] (kl mL1) 0 0 := by
    intro n8_1
    induction n8_1 using Nat.strongRecOn with
    | _ n8_1 ih8_1 =>
      intro mL1 hmL1 hfL1 iS iL q5
      refine g_aload_n (n := 0) rfl rfl ?_
      have h6 : 0 ≤ mL1.1 5 ∧ mL1.1 5 ≤ 200 := hmL1.1 5
      refine g_getf (v := vI (mL1.1 5)) rfl (kl_1 _) rfl ?_
      refine g_aload_n (n := 0) rfl rfl ?_
      have h7 : 0 ≤ mL1.1 3 ∧ mL1.1 3 ≤ 200 := hmL1.1 3
      have h8 : mL1.1 3 = m.1 3 := hfL1.1 3 rfl
      refine g_getf (v := vI (mL1.1 3)) rfl (kl_1 _) rfl ?_
      refine g_icmp_ge (by omega) (by omega) (by omega) (by omega) rfl ?_ ?_
      · intro kk9
        have hs0 : mL1.1 5 = (SK (m.2.1 2) (m.1 3) (m.1 6)) := by rw [← iS]; exact (SK_out (by omega)).symm
        refine g_aload_n (n := 0) rfl rfl ?_
        refine g_aload_n (n := 0) rfl rfl ?_
        refine g_getf (v := vI (mL1.1 5)) rfl (kl_1 _) rfl ?_
        refine g_putF (m' := (kF mL1 6 (mL1.1 5))) rfl (kl_1 _) rfl rfl rfl rfl (kF_6 _ _) ?_
        have hm10 : kI (kF mL1 6 (mL1.1 5)) := kI_F hmL1 6 (show (0 : Int) ≤ mL1.1 5 by omega) (show mL1.1 5 ≤ (200 : Int) by omega)
        have hf11 : fr [5, 6] [] m (kF mL1 6 (mL1.1 5)) := fr_F hfL1 6 _ rfl
        have hj0 : RN (m.2.1 2) (m.1 3) 1 (mL1.1 5) = RN (m.2.1 2) (m.1 3) 1 (SK (m.2.1 2) (m.1 3) (m.1 6)) := by rw [hs0]
        have L54_2 : ∀ (n54_2 : Nat)  (mL2 : kM), (kI mL2) → (fr [5, 6] [] m mL2) → (RN (m.2.1 2) (m.1 3) 1 (mL2.1 6) = RN (m.2.1 2) (m.1 3) 1 (SK (m.2.1 2) (m.1 3) (m.1 6))) → (mL2.1 6 ≤ m.1 3) → (mL2.1 5 = (SK (m.2.1 2) (m.1 3) (m.1 6))) → ((SK (m.2.1 2) (m.1 3) (m.1 6)) ≤ mL2.1 6) → ((200 - mL2.1 6).toNat) = n54_2 → cg_G V mX6_nextToken d q (R_V (fun m' => (kI m') ∧ (fr [5, 6] [] m m') ∧ (m'.1 5 = SK (m.2.1 2) (m.1 3) (m.1 6)) ∧ (m'.1 6 = EP (m.2.1 2) (m.1 3) (m.1 6)))) 54 [(0, vR 1)] [] (kl mL2) 0 0 := by
          intro n54_2
          induction n54_2 using Nat.strongRecOn with
          | _ n54_2 ih54_2 =>
            intro mL2 hmL2 hfL2 jR jL jS jG q12
            refine g_aload_n (n := 0) rfl rfl ?_
            have h13 : 0 ≤ mL2.1 6 ∧ mL2.1 6 ≤ 200 := hmL2.1 6
            refine g_getf (v := vI (mL2.1 6)) rfl (kl_1 _) rfl ?_
            refine g_aload_n (n := 0) rfl rfl ?_
            have h14 : 0 ≤ mL2.1 3 ∧ mL2.1 3 ≤ 200 := hmL2.1 3
            have h15 : mL2.1 3 = m.1 3 := hfL2.1 3 rfl
            refine g_getf (v := vI (mL2.1 3)) rfl (kl_1 _) rfl ?_
            refine g_icmp_ge (by omega) (by omega) (by omega) (by omega) rfl ?_ ?_
            · intro kk16
              have hs1 := srt_sp (m.2.1 2 (mL2.1 6))
              have hr1 : mL2.1 6 = RN (m.2.1 2) (m.1 3) 1 (SK (m.2.1 2) (m.1 3) (m.1 6)) := by rw [← jR]; exact (RN_out (by omega)).symm
              have hs3 := srt_sp (m.2.1 2 (SK (m.2.1 2) (m.1 3) (m.1 6)))
              have hk0 : (m.1 3 ≤ (SK (m.2.1 2) (m.1 3) (m.1 6)) ∧ mL2.1 6 = (SK (m.2.1 2) (m.1 3) (m.1 6))) ∨ (srt (m.2.1 2 (SK (m.2.1 2) (m.1 3) (m.1 6))) = 1 ∧ mL2.1 6 = RN (m.2.1 2) (m.1 3) 1 ((SK (m.2.1 2) (m.1 3) (m.1 6)) + 1) ∧ (SK (m.2.1 2) (m.1 3) (m.1 6)) < m.1 3) ∨ ((SK (m.2.1 2) (m.1 3) (m.1 6)) < m.1 3 ∧ srt (m.2.1 2 (SK (m.2.1 2) (m.1 3) (m.1 6))) ≠ 1 ∧ RN (m.2.1 2) (m.1 3) 2 (mL2.1 6) = RN (m.2.1 2) (m.1 3) 2 (SK (m.2.1 2) (m.1 3) (m.1 6))) := by
                by_cases q1 : m.1 3 ≤ (SK (m.2.1 2) (m.1 3) (m.1 6))
                · left; refine ⟨q1, ?_⟩; have q2 : RN (m.2.1 2) (m.1 3) 1 (SK (m.2.1 2) (m.1 3) (m.1 6)) = (SK (m.2.1 2) (m.1 3) (m.1 6)) := RN_out (Or.inl q1); omega
                · right; rcases hs3 with h9 | h9 | h9
                  · left; refine ⟨h9.1, ?_, by omega⟩; rw [← RN_in (by omega) h9.1]; exact hr1
                  · right; refine ⟨by omega, by omega, ?_⟩; have q2 : RN (m.2.1 2) (m.1 3) 1 (SK (m.2.1 2) (m.1 3) (m.1 6)) = (SK (m.2.1 2) (m.1 3) (m.1 6)) := RN_out (Or.inr (by omega)); rw [show mL2.1 6 = (SK (m.2.1 2) (m.1 3) (m.1 6)) by omega]
                  · right; refine ⟨by omega, by omega, ?_⟩; have q2 : RN (m.2.1 2) (m.1 3) 1 (SK (m.2.1 2) (m.1 3) (m.1 6)) = (SK (m.2.1 2) (m.1 3) (m.1 6)) := RN_out (Or.inr (by omega)); rw [show mL2.1 6 = (SK (m.2.1 2) (m.1 3) (m.1 6)) by omega]
              have L93_3 : ∀ (n93_3 : Nat)  (mL3 : kM), (kI mL3) → (fr [5, 6] [] m mL3) → ((m.1 3 ≤ (SK (m.2.1 2) (m.1 3) (m.1 6)) ∧ mL3.1 6 = (SK (m.2.1 2) (m.1 3) (m.1 6))) ∨ (srt (m.2.1 2 (SK (m.2.1 2) (m.1 3) (m.1 6))) = 1 ∧ mL3.1 6 = RN (m.2.1 2) (m.1 3) 1 ((SK (m.2.1 2) (m.1 3) (m.1 6)) + 1) ∧ (SK (m.2.1 2) (m.1 3) (m.1 6)) < m.1 3) ∨ ((SK (m.2.1 2) (m.1 3) (m.1 6)) < m.1 3 ∧ srt (m.2.1 2 (SK (m.2.1 2) (m.1 3) (m.1 6))) ≠ 1 ∧ RN (m.2.1 2) (m.1 3) 2 (mL3.1 6) = RN (m.2.1 2) (m.1 3) 2 (SK (m.2.1 2) (m.1 3) (m.1 6)))) → (mL3.1 6 ≤ m.1 3) → (mL3.1 5 = (SK (m.2.1 2) (m.1 3) (m.1 6))) → ((SK (m.2.1 2) (m.1 3) (m.1 6)) ≤ mL3.1 6) → ((200 - mL3.1 6).toNat) = n93_3 → cg_G V mX6_nextToken d q (R_V (fun m' => (kI m') ∧ (fr [5, 6] [] m m') ∧ (m'.1 5 = SK (m.2.1 2) (m.1 3) (m.1 6)) ∧ (m'.1 6 = EP (m.2.1 2) (m.1 3) (m.1 6)))) 93 [(0, vR 1)] [] (kl mL3) 0 0 := by
                intro n93_3
                induction n93_3 using Nat.strongRecOn with
                | _ n93_3 ih93_3 =>
                  intro mL3 hmL3 hfL3 kC kL kS kG q17
                  refine g_aload_n (n := 0) rfl rfl ?_
                  have h18 : 0 ≤ mL3.1 6 ∧ mL3.1 6 ≤ 200 := hmL3.1 6
                  refine g_getf (v := vI (mL3.1 6)) rfl (kl_1 _) rfl ?_
                  refine g_aload_n (n := 0) rfl rfl ?_
                  have h19 : 0 ≤ mL3.1 3 ∧ mL3.1 3 ≤ 200 := hmL3.1 3
                  have h20 : mL3.1 3 = m.1 3 := hfL3.1 3 rfl
                  refine g_getf (v := vI (mL3.1 3)) rfl (kl_1 _) rfl ?_
                  refine g_icmp_ge (by omega) (by omega) (by omega) (by omega) rfl ?_ ?_
                  · intro kk21
                    have hs2 := srt_sp (m.2.1 2 (mL3.1 6))
                    have hs3 := srt_sp (m.2.1 2 (SK (m.2.1 2) (m.1 3) (m.1 6)))
                    have e5 : m.2.1 2 (mL3.1 5) = m.2.1 2 (SK (m.2.1 2) (m.1 3) (m.1 6)) := by rw [kS]
                    refine g_aload_n (n := 0) rfl rfl ?_
                    refine g_getf (v := vI (mL3.1 6)) rfl (kl_1 _) rfl ?_
                    refine g_aload_n (n := 0) rfl rfl ?_
                    have h22 : 0 ≤ mL3.1 5 ∧ mL3.1 5 ≤ 200 := hmL3.1 5
                    refine g_getf (v := vI (mL3.1 5)) rfl (kl_1 _) rfl ?_
                    refine g_icmp_ne (by omega) (by omega) (by omega) (by omega) rfl ?_ ?_
                    · intro kk23
                      refine g_vret rfl rfl ?_
                      have hE : mL3.1 6 = EP (m.2.1 2) (m.1 3) (m.1 6) := by
                        show _ = TE (m.2.1 2) (m.1 3) (SK (m.2.1 2) (m.1 3) (m.1 6))
                        rcases kC with q1 | q1 | q1
                        · rw [TE_0 q1.1]; omega
                        · rw [TE_2 q1.2.2 q1.1 (by omega), ← q1.2.1]
                        · have q4 := RN_rng (t := m.2.1 2) (c := 2) (show (SK (m.2.1 2) (m.1 3) (m.1 6)) + 1 ≤ m.1 3 by omega)
                          rcases hs3 with h9 | h9 | h9
                          · exact absurd h9.1 q1.2.1
                          · have q5 : mL3.1 6 = RN (m.2.1 2) (m.1 3) 2 (SK (m.2.1 2) (m.1 3) (m.1 6)) := by rw [← q1.2.2]; exact (RN_out (by omega)).symm
                            rw [RN_in q1.1 h9.1] at q5
                            rw [TE_2 q1.1 h9.1 (by omega)]
                            omega
                          · have q5 : RN (m.2.1 2) (m.1 3) 2 (SK (m.2.1 2) (m.1 3) (m.1 6)) = (SK (m.2.1 2) (m.1 3) (m.1 6)) := RN_out (Or.inr (by omega))
                            have q6 := RN_rng (t := m.2.1 2) (c := 2) kL
                            rw [TE_1 q1.1 h9.1]
                            omega
                      exact ⟨_, rfl, hmL3, hfL3, kS, hE⟩
                    · intro kk24
                      refine g_aload_n (n := 0) rfl rfl ?_
                      refine g_getf (v := vI (mL3.1 6)) rfl (kl_1 _) rfl ?_
                      refine g_aload_n (n := 0) rfl rfl ?_
                      refine g_getf (v := vI (mL3.1 3)) rfl (kl_1 _) rfl ?_
                      refine g_icmp_ge (by omega) (by omega) (by omega) (by omega) rfl ?_ ?_
                      · intro kk25
                        refine g_vret rfl rfl ?_
                        have hE : mL3.1 6 = EP (m.2.1 2) (m.1 3) (m.1 6) := by
                          show _ = TE (m.2.1 2) (m.1 3) (SK (m.2.1 2) (m.1 3) (m.1 6))
                          rcases kC with q1 | q1 | q1
                          · rw [TE_0 q1.1]; omega
                          · rw [TE_2 q1.2.2 q1.1 (by omega), ← q1.2.1]
                          · have q4 := RN_rng (t := m.2.1 2) (c := 2) (show (SK (m.2.1 2) (m.1 3) (m.1 6)) + 1 ≤ m.1 3 by omega)
                            rcases hs3 with h9 | h9 | h9
                            · exact absurd h9.1 q1.2.1
                            · have q5 : mL3.1 6 = RN (m.2.1 2) (m.1 3) 2 (SK (m.2.1 2) (m.1 3) (m.1 6)) := by rw [← q1.2.2]; exact (RN_out (by omega)).symm
                              rw [RN_in q1.1 h9.1] at q5
                              rw [TE_2 q1.1 h9.1 (by omega)]
                              omega
                            · have q5 : RN (m.2.1 2) (m.1 3) 2 (SK (m.2.1 2) (m.1 3) (m.1 6)) = (SK (m.2.1 2) (m.1 3) (m.1 6)) := RN_out (Or.inr (by omega))
                              have q6 := RN_rng (t := m.2.1 2) (c := 2) kL
                              rw [TE_1 q1.1 h9.1]
                              omega
                        exact ⟨_, rfl, hmL3, hfL3, kS, hE⟩
                      · intro kk26
                        refine g_aload_n (n := 0) rfl rfl ?_
                        refine g_dup rfl rfl ?_
                        refine g_getf (v := vI (mL3.1 6)) rfl (kl_1 _) rfl ?_
                        refine g_iconst rfl ?_
                        refine g_iadd rfl ?_
                        refine g_putF (m' := (kF mL3 6 (mL3.1 6 + 1))) rfl (kl_1 _) rfl rfl rfl rfl (kF_6 _ _) ?_
                        have hm27 : kI (kF mL3 6 (mL3.1 6 + 1)) := kI_F hmL3 6 (show (0 : Int) ≤ (mL3.1 6 + 1) by omega) (show (mL3.1 6 + 1) ≤ (200 : Int) by omega)
                        have hf28 : fr [5, 6] [] m (kF mL3 6 (mL3.1 6 + 1)) := fr_F hfL3 6 _ rfl
                        refine g_vret rfl rfl ?_
                        have hE : (mL3.1 6 + 1) = EP (m.2.1 2) (m.1 3) (m.1 6) := by
                          show _ = TE (m.2.1 2) (m.1 3) (SK (m.2.1 2) (m.1 3) (m.1 6))
                          rcases kC with q1 | q1 | q1
                          · rw [TE_0 q1.1]; omega
                          · rw [TE_2 q1.2.2 q1.1 (by omega), ← q1.2.1]; exfalso; have q4 := RN_rng (t := m.2.1 2) (c := 1) (show (SK (m.2.1 2) (m.1 3) (m.1 6)) + 1 ≤ m.1 3 by omega); omega
                          · have q4 := RN_rng (t := m.2.1 2) (c := 2) (show (SK (m.2.1 2) (m.1 3) (m.1 6)) + 1 ≤ m.1 3 by omega)
                            rcases hs3 with h9 | h9 | h9
                            · exact absurd h9.1 q1.2.1
                            · have q5 : mL3.1 6 = RN (m.2.1 2) (m.1 3) 2 (SK (m.2.1 2) (m.1 3) (m.1 6)) := by rw [← q1.2.2]; exact (RN_out (by omega)).symm
                              rw [RN_in q1.1 h9.1] at q5
                              rw [TE_2 q1.1 h9.1 (by omega)]
                              omega
                            · have q5 : RN (m.2.1 2) (m.1 3) 2 (SK (m.2.1 2) (m.1 3) (m.1 6)) = (SK (m.2.1 2) (m.1 3) (m.1 6)) := RN_out (Or.inr (by omega))
                              have q6 := RN_rng (t := m.2.1 2) (c := 2) kL
                              rw [TE_1 q1.1 h9.1]
                              omega
                        exact ⟨_, rfl, hm27, hf28, kS, hE⟩
                  · intro kk29
                    refine g_aload_n (n := 0) rfl rfl ?_
                    refine g_getf (v := vR 2) rfl (kl_1 _) rfl ?_
                    refine g_aload_n (n := 0) rfl rfl ?_
                    refine g_getf (v := vI (mL3.1 6)) rfl (kl_1 _) rfl ?_
                    have h30 : 0 ≤ mL3.2.1 2 (mL3.1 6) ∧ mL3.2.1 2 (mL3.1 6) ≤ 255 := hmL3.2 2 (mL3.1 6) (by omega) (show mL3.1 6 < (200 : Int) by omega)
                    have h31 : mL3.2.1 2 (mL3.1 6) = m.2.1 2 (mL3.1 6) := congrFun (hfL3.2.1 2 rfl) _
                    refine g_iald (f := mL3.2.1 2) rfl (kl_2 _) (by decide) (by omega) (by omega) ?_
                    refine c_sI (ps := [vI (mL3.2.1 2 (mL3.1 6))]) (r := []) (as := [vI (mL3.2.1 2 (mL3.1 6))]) (cs' := 0) (sl' := 0) rfl rfl rfl rfl rfl rfl (c_isDigit (d := d - 1) (q := q - (1 + 19)) (by omega) (by omega) hmL3 (c := mL3.2.1 2 (mL3.1 6)) (show (-2147483648) ≤ mL3.2.1 2 (mL3.1 6) ∧ mL3.2.1 2 (mL3.1 6) ≤ 2147483647 by omega)) (by omega) (show 1 + 19 ≤ q by omega) (Nat.le_of_ble_eq_true rfl) (Nat.le_of_ble_eq_true rfl) rfl rfl rfl ?_
                    rintro z32 m33 ⟨rfl, p35⟩
                    refine g_if_eq (by omega) (by omega) rfl ?_ ?_
                    · intro kk36
                      have hs2 := srt_sp (m.2.1 2 (mL3.1 6))
                      have hs3 := srt_sp (m.2.1 2 (SK (m.2.1 2) (m.1 3) (m.1 6)))
                      have e5 : m.2.1 2 (mL3.1 5) = m.2.1 2 (SK (m.2.1 2) (m.1 3) (m.1 6)) := by rw [kS]
                      refine g_aload_n (n := 0) rfl rfl ?_
                      refine g_getf (v := vI (mL3.1 6)) rfl (kl_1 _) rfl ?_
                      refine g_aload_n (n := 0) rfl rfl ?_
                      have h37 : 0 ≤ mL3.1 5 ∧ mL3.1 5 ≤ 200 := hmL3.1 5
                      refine g_getf (v := vI (mL3.1 5)) rfl (kl_1 _) rfl ?_
                      refine g_icmp_ne (by omega) (by omega) (by omega) (by omega) rfl ?_ ?_
                      · intro kk38
                        refine g_vret rfl rfl ?_
                        have hE : mL3.1 6 = EP (m.2.1 2) (m.1 3) (m.1 6) := by
                          show _ = TE (m.2.1 2) (m.1 3) (SK (m.2.1 2) (m.1 3) (m.1 6))
                          rcases kC with q1 | q1 | q1
                          · rw [TE_0 q1.1]; omega
                          · rw [TE_2 q1.2.2 q1.1 (by omega), ← q1.2.1]
                          · have q4 := RN_rng (t := m.2.1 2) (c := 2) (show (SK (m.2.1 2) (m.1 3) (m.1 6)) + 1 ≤ m.1 3 by omega)
                            rcases hs3 with h9 | h9 | h9
                            · exact absurd h9.1 q1.2.1
                            · have q5 : mL3.1 6 = RN (m.2.1 2) (m.1 3) 2 (SK (m.2.1 2) (m.1 3) (m.1 6)) := by rw [← q1.2.2]; exact (RN_out (by omega)).symm
                              rw [RN_in q1.1 h9.1] at q5
                              rw [TE_2 q1.1 h9.1 (by omega)]
                              omega
                            · have q5 : RN (m.2.1 2) (m.1 3) 2 (SK (m.2.1 2) (m.1 3) (m.1 6)) = (SK (m.2.1 2) (m.1 3) (m.1 6)) := RN_out (Or.inr (by omega))
                              have q6 := RN_rng (t := m.2.1 2) (c := 2) kL
                              rw [TE_1 q1.1 h9.1]
                              omega
                        exact ⟨_, rfl, hmL3, hfL3, kS, hE⟩
                      · intro kk39
                        refine g_aload_n (n := 0) rfl rfl ?_
                        refine g_getf (v := vI (mL3.1 6)) rfl (kl_1 _) rfl ?_
                        refine g_aload_n (n := 0) rfl rfl ?_
                        refine g_getf (v := vI (mL3.1 3)) rfl (kl_1 _) rfl ?_
                        refine g_icmp_ge (by omega) (by omega) (by omega) (by omega) rfl ?_ ?_
                        · intro kk40
                          refine g_vret rfl rfl ?_
                          have hE : mL3.1 6 = EP (m.2.1 2) (m.1 3) (m.1 6) := by
                            show _ = TE (m.2.1 2) (m.1 3) (SK (m.2.1 2) (m.1 3) (m.1 6))
                            rcases kC with q1 | q1 | q1
                            · rw [TE_0 q1.1]; omega
                            · rw [TE_2 q1.2.2 q1.1 (by omega), ← q1.2.1]
                            · have q4 := RN_rng (t := m.2.1 2) (c := 2) (show (SK (m.2.1 2) (m.1 3) (m.1 6)) + 1 ≤ m.1 3 by omega)
                              rcases hs3 with h9 | h9 | h9
                              · exact absurd h9.1 q1.2.1
                              · have q5 : mL3.1 6 = RN (m.2.1 2) (m.1 3) 2 (SK (m.2.1 2) (m.1 3) (m.1 6)) := by rw [← q1.2.2]; exact (RN_out (by omega)).symm
                                rw [RN_in q1.1 h9.1] at q5
                                rw [TE_2 q1.1 h9.1 (by omega)]
                                omega
                              · have q5 : RN (m.2.1 2) (m.1 3) 2 (SK (m.2.1 2) (m.1 3) (m.1 6)) = (SK (m.2.1 2) (m.1 3) (m.1 6)) := RN_out (Or.inr (by omega))
                                have q6 := RN_rng (t := m.2.1 2) (c := 2) kL
                                rw [TE_1 q1.1 h9.1]
                                omega
                          exact ⟨_, rfl, hmL3, hfL3, kS, hE⟩
                        · intro kk41
                          refine g_aload_n (n := 0) rfl rfl ?_
                          refine g_dup rfl rfl ?_
                          refine g_getf (v := vI (mL3.1 6)) rfl (kl_1 _) rfl ?_
                          refine g_iconst rfl ?_
                          refine g_iadd rfl ?_
                          refine g_putF (m' := (kF mL3 6 (mL3.1 6 + 1))) rfl (kl_1 _) rfl rfl rfl rfl (kF_6 _ _) ?_
                          have hm42 : kI (kF mL3 6 (mL3.1 6 + 1)) := kI_F hmL3 6 (show (0 : Int) ≤ (mL3.1 6 + 1) by omega) (show (mL3.1 6 + 1) ≤ (200 : Int) by omega)
                          have hf43 : fr [5, 6] [] m (kF mL3 6 (mL3.1 6 + 1)) := fr_F hfL3 6 _ rfl
                          refine g_vret rfl rfl ?_
                          have hE : (mL3.1 6 + 1) = EP (m.2.1 2) (m.1 3) (m.1 6) := by
                            show _ = TE (m.2.1 2) (m.1 3) (SK (m.2.1 2) (m.1 3) (m.1 6))
                            rcases kC with q1 | q1 | q1
                            · rw [TE_0 q1.1]; omega
                            · rw [TE_2 q1.2.2 q1.1 (by omega), ← q1.2.1]; exfalso; have q4 := RN_rng (t := m.2.1 2) (c := 1) (show (SK (m.2.1 2) (m.1 3) (m.1 6)) + 1 ≤ m.1 3 by omega); omega
                            · have q4 := RN_rng (t := m.2.1 2) (c := 2) (show (SK (m.2.1 2) (m.1 3) (m.1 6)) + 1 ≤ m.1 3 by omega)
                              rcases hs3 with h9 | h9 | h9
                              · exact absurd h9.1 q1.2.1
                              · have q5 : mL3.1 6 = RN (m.2.1 2) (m.1 3) 2 (SK (m.2.1 2) (m.1 3) (m.1 6)) := by rw [← q1.2.2]; exact (RN_out (by omega)).symm
                                rw [RN_in q1.1 h9.1] at q5
                                rw [TE_2 q1.1 h9.1 (by omega)]
                                omega
                              · have q5 : RN (m.2.1 2) (m.1 3) 2 (SK (m.2.1 2) (m.1 3) (m.1 6)) = (SK (m.2.1 2) (m.1 3) (m.1 6)) := RN_out (Or.inr (by omega))
                                have q6 := RN_rng (t := m.2.1 2) (c := 2) kL
                                rw [TE_1 q1.1 h9.1]
                                omega
                          exact ⟨_, rfl, hm42, hf43, kS, hE⟩
                    · intro kk44
                      refine g_aload_n (n := 0) rfl rfl ?_
                      refine g_getf (v := vR 2) rfl (kl_1 _) rfl ?_
                      refine g_aload_n (n := 0) rfl rfl ?_
                      have h45 : 0 ≤ mL3.1 5 ∧ mL3.1 5 ≤ 200 := hmL3.1 5
                      refine g_getf (v := vI (mL3.1 5)) rfl (kl_1 _) rfl ?_
                      have h46 : 0 ≤ mL3.2.1 2 (mL3.1 5) ∧ mL3.2.1 2 (mL3.1 5) ≤ 255 := hmL3.2 2 (mL3.1 5) (by omega) (show mL3.1 5 < (200 : Int) by omega)
                      have h47 : mL3.2.1 2 (mL3.1 5) = m.2.1 2 (mL3.1 5) := congrFun (hfL3.2.1 2 rfl) _
                      refine g_iald (f := mL3.2.1 2) rfl (kl_2 _) (by decide) (by omega) (by omega) ?_
                      refine c_sI (ps := [vI (mL3.2.1 2 (mL3.1 5))]) (r := []) (as := [vI (mL3.2.1 2 (mL3.1 5))]) (cs' := 0) (sl' := 0) rfl rfl rfl rfl rfl rfl (c_isDigit (d := d - 1) (q := q - (1 + 19)) (by omega) (by omega) hmL3 (c := mL3.2.1 2 (mL3.1 5)) (show (-2147483648) ≤ mL3.2.1 2 (mL3.1 5) ∧ mL3.2.1 2 (mL3.1 5) ≤ 2147483647 by omega)) (by omega) (show 1 + 19 ≤ q by omega) (Nat.le_of_ble_eq_true rfl) (Nat.le_of_ble_eq_true rfl) rfl rfl rfl ?_
                      rintro z48 m49 ⟨rfl, p51⟩
                      refine g_if_eq (by omega) (by omega) rfl ?_ ?_
                      · intro kk52
                        have hs2 := srt_sp (m.2.1 2 (mL3.1 6))
                        have hs3 := srt_sp (m.2.1 2 (SK (m.2.1 2) (m.1 3) (m.1 6)))
                        have e5 : m.2.1 2 (mL3.1 5) = m.2.1 2 (SK (m.2.1 2) (m.1 3) (m.1 6)) := by rw [kS]
                        refine g_aload_n (n := 0) rfl rfl ?_
                        refine g_getf (v := vI (mL3.1 6)) rfl (kl_1 _) rfl ?_
                        refine g_aload_n (n := 0) rfl rfl ?_
                        refine g_getf (v := vI (mL3.1 5)) rfl (kl_1 _) rfl ?_
                        refine g_icmp_ne (by omega) (by omega) (by omega) (by omega) rfl ?_ ?_
                        · intro kk53
                          refine g_vret rfl rfl ?_
                          have hE : mL3.1 6 = EP (m.2.1 2) (m.1 3) (m.1 6) := by
                            show _ = TE (m.2.1 2) (m.1 3) (SK (m.2.1 2) (m.1 3) (m.1 6))
                            rcases kC with q1 | q1 | q1
                            · rw [TE_0 q1.1]; omega
                            · rw [TE_2 q1.2.2 q1.1 (by omega), ← q1.2.1]
                            · have q4 := RN_rng (t := m.2.1 2) (c := 2) (show (SK (m.2.1 2) (m.1 3) (m.1 6)) + 1 ≤ m.1 3 by omega)
                              rcases hs3 with h9 | h9 | h9
                              · exact absurd h9.1 q1.2.1
                              · have q5 : mL3.1 6 = RN (m.2.1 2) (m.1 3) 2 (SK (m.2.1 2) (m.1 3) (m.1 6)) := by rw [← q1.2.2]; exact (RN_out (by omega)).symm
                                rw [RN_in q1.1 h9.1] at q5
                                rw [TE_2 q1.1 h9.1 (by omega)]
                                omega
                              · have q5 : RN (m.2.1 2) (m.1 3) 2 (SK (m.2.1 2) (m.1 3) (m.1 6)) = (SK (m.2.1 2) (m.1 3) (m.1 6)) := RN_out (Or.inr (by omega))
                                have q6 := RN_rng (t := m.2.1 2) (c := 2) kL
                                rw [TE_1 q1.1 h9.1]
                                omega
                          exact ⟨_, rfl, hmL3, hfL3, kS, hE⟩
                        · intro kk54
                          refine g_aload_n (n := 0) rfl rfl ?_
                          refine g_getf (v := vI (mL3.1 6)) rfl (kl_1 _) rfl ?_
                          refine g_aload_n (n := 0) rfl rfl ?_
                          refine g_getf (v := vI (mL3.1 3)) rfl (kl_1 _) rfl ?_
                          refine g_icmp_ge (by omega) (by omega) (by omega) (by omega) rfl ?_ ?_
                          · intro kk55
                            refine g_vret rfl rfl ?_
                            have hE : mL3.1 6 = EP (m.2.1 2) (m.1 3) (m.1 6) := by
                              show _ = TE (m.2.1 2) (m.1 3) (SK (m.2.1 2) (m.1 3) (m.1 6))
                              rcases kC with q1 | q1 | q1
                              · rw [TE_0 q1.1]; omega
                              · rw [TE_2 q1.2.2 q1.1 (by omega), ← q1.2.1]
                              · have q4 := RN_rng (t := m.2.1 2) (c := 2) (show (SK (m.2.1 2) (m.1 3) (m.1 6)) + 1 ≤ m.1 3 by omega)
                                rcases hs3 with h9 | h9 | h9
                                · exact absurd h9.1 q1.2.1
                                · have q5 : mL3.1 6 = RN (m.2.1 2) (m.1 3) 2 (SK (m.2.1 2) (m.1 3) (m.1 6)) := by rw [← q1.2.2]; exact (RN_out (by omega)).symm
                                  rw [RN_in q1.1 h9.1] at q5
                                  rw [TE_2 q1.1 h9.1 (by omega)]
                                  omega
                                · have q5 : RN (m.2.1 2) (m.1 3) 2 (SK (m.2.1 2) (m.1 3) (m.1 6)) = (SK (m.2.1 2) (m.1 3) (m.1 6)) := RN_out (Or.inr (by omega))
                                  have q6 := RN_rng (t := m.2.1 2) (c := 2) kL
                                  rw [TE_1 q1.1 h9.1]
                                  omega
                            exact ⟨_, rfl, hmL3, hfL3, kS, hE⟩
                          · intro kk56
                            refine g_aload_n (n := 0) rfl rfl ?_
                            refine g_dup rfl rfl ?_
                            refine g_getf (v := vI (mL3.1 6)) rfl (kl_1 _) rfl ?_
                            refine g_iconst rfl ?_
                            refine g_iadd rfl ?_
                            refine g_putF (m' := (kF mL3 6 (mL3.1 6 + 1))) rfl (kl_1 _) rfl rfl rfl rfl (kF_6 _ _) ?_
                            have hm57 : kI (kF mL3 6 (mL3.1 6 + 1)) := kI_F hmL3 6 (show (0 : Int) ≤ (mL3.1 6 + 1) by omega) (show (mL3.1 6 + 1) ≤ (200 : Int) by omega)
                            have hf58 : fr [5, 6] [] m (kF mL3 6 (mL3.1 6 + 1)) := fr_F hfL3 6 _ rfl
                            refine g_vret rfl rfl ?_
                            have hE : (mL3.1 6 + 1) = EP (m.2.1 2) (m.1 3) (m.1 6) := by
                              show _ = TE (m.2.1 2) (m.1 3) (SK (m.2.1 2) (m.1 3) (m.1 6))
                              rcases kC with q1 | q1 | q1
                              · rw [TE_0 q1.1]; omega
                              · rw [TE_2 q1.2.2 q1.1 (by omega), ← q1.2.1]; exfalso; have q4 := RN_rng (t := m.2.1 2) (c := 1) (show (SK (m.2.1 2) (m.1 3) (m.1 6)) + 1 ≤ m.1 3 by omega); omega
                              · have q4 := RN_rng (t := m.2.1 2) (c := 2) (show (SK (m.2.1 2) (m.1 3) (m.1 6)) + 1 ≤ m.1 3 by omega)
                                rcases hs3 with h9 | h9 | h9
                                · exact absurd h9.1 q1.2.1
                                · have q5 : mL3.1 6 = RN (m.2.1 2) (m.1 3) 2 (SK (m.2.1 2) (m.1 3) (m.1 6)) := by rw [← q1.2.2]; exact (RN_out (by omega)).symm
                                  rw [RN_in q1.1 h9.1] at q5
                                  rw [TE_2 q1.1 h9.1 (by omega)]
                                  omega
                                · have q5 : RN (m.2.1 2) (m.1 3) 2 (SK (m.2.1 2) (m.1 3) (m.1 6)) = (SK (m.2.1 2) (m.1 3) (m.1 6)) := RN_out (Or.inr (by omega))
                                  have q6 := RN_rng (t := m.2.1 2) (c := 2) kL
                                  rw [TE_1 q1.1 h9.1]
                                  omega
                            exact ⟨_, rfl, hm57, hf58, kS, hE⟩
                      · intro kk59
                        have hs4 := srt_sp (m.2.1 2 (mL3.1 6))
                        have hs3 := srt_sp (m.2.1 2 (SK (m.2.1 2) (m.1 3) (m.1 6)))
                        have e5 : m.2.1 2 (mL3.1 5) = m.2.1 2 (SK (m.2.1 2) (m.1 3) (m.1 6)) := by rw [kS]
                        have hkn : (m.1 3 ≤ (SK (m.2.1 2) (m.1 3) (m.1 6)) ∧ (mL3.1 6 + 1) = (SK (m.2.1 2) (m.1 3) (m.1 6))) ∨ (srt (m.2.1 2 (SK (m.2.1 2) (m.1 3) (m.1 6))) = 1 ∧ (mL3.1 6 + 1) = RN (m.2.1 2) (m.1 3) 1 ((SK (m.2.1 2) (m.1 3) (m.1 6)) + 1) ∧ (SK (m.2.1 2) (m.1 3) (m.1 6)) < m.1 3) ∨ ((SK (m.2.1 2) (m.1 3) (m.1 6)) < m.1 3 ∧ srt (m.2.1 2 (SK (m.2.1 2) (m.1 3) (m.1 6))) ≠ 1 ∧ RN (m.2.1 2) (m.1 3) 2 ((mL3.1 6 + 1)) = RN (m.2.1 2) (m.1 3) 2 (SK (m.2.1 2) (m.1 3) (m.1 6))) := by
                          rcases kC with q1 | q1 | q1
                          · exfalso; omega
                          · exfalso; omega
                          · exact Or.inr (Or.inr ⟨q1.1, q1.2.1, by rw [← RN_in (by omega) (show srt (m.2.1 2 (mL3.1 6)) = 2 by omega)]; exact q1.2.2⟩)
                        refine g_aload_n (n := 0) rfl rfl ?_
                        refine g_dup rfl rfl ?_
                        refine g_getf (v := vI (mL3.1 6)) rfl (kl_1 _) rfl ?_
                        refine g_iconst rfl ?_
                        refine g_iadd rfl ?_
                        refine g_putF (m' := (kF mL3 6 (mL3.1 6 + 1))) rfl (kl_1 _) rfl rfl rfl rfl (kF_6 _ _) ?_
                        have hm60 : kI (kF mL3 6 (mL3.1 6 + 1)) := kI_F hmL3 6 (show (0 : Int) ≤ (mL3.1 6 + 1) by omega) (show (mL3.1 6 + 1) ≤ (200 : Int) by omega)
                        have hf61 : fr [5, 6] [] m (kF mL3 6 (mL3.1 6 + 1)) := fr_F hfL3 6 _ rfl
                        refine g_goto rfl ?_
                        have h62 : (kF mL3 6 (mL3.1 6 + 1)).1 6 = (mL3.1 6 + 1) := rfl
                        exact ih93_3 _ (by omega)  (kF mL3 6 (mL3.1 6 + 1)) hm60 hf61 hkn (by show mL3.1 6 + 1 ≤ m.1 3; omega) kS (by omega) rfl
              exact L93_3 _  mL2 hmL2 hfL2 hk0 jL jS jG rfl
            · intro kk63
              refine g_aload_n (n := 0) rfl rfl ?_
              refine g_getf (v := vR 2) rfl (kl_1 _) rfl ?_
              refine g_aload_n (n := 0) rfl rfl ?_
              refine g_getf (v := vI (mL2.1 6)) rfl (kl_1 _) rfl ?_
              have h64 : 0 ≤ mL2.2.1 2 (mL2.1 6) ∧ mL2.2.1 2 (mL2.1 6) ≤ 255 := hmL2.2 2 (mL2.1 6) (by omega) (show mL2.1 6 < (200 : Int) by omega)
              have h65 : mL2.2.1 2 (mL2.1 6) = m.2.1 2 (mL2.1 6) := congrFun (hfL2.2.1 2 rfl) _
              refine g_iald (f := mL2.2.1 2) rfl (kl_2 _) (by decide) (by omega) (by omega) ?_
              refine c_sI (ps := [vI (mL2.2.1 2 (mL2.1 6))]) (r := []) (as := [vI (mL2.2.1 2 (mL2.1 6))]) (cs' := 0) (sl' := 0) rfl rfl rfl rfl rfl rfl (c_isLetter (d := d - 1) (q := q - (1 + 19)) (by omega) (by omega) hmL2 (c := mL2.2.1 2 (mL2.1 6)) (show (-2147483648) ≤ mL2.2.1 2 (mL2.1 6) ∧ mL2.2.1 2 (mL2.1 6) ≤ 2147483647 by omega)) (by omega) (show 1 + 19 ≤ q by omega) (Nat.le_of_ble_eq_true rfl) (Nat.le_of_ble_eq_true rfl) rfl rfl rfl ?_
              rintro z66 m67 ⟨rfl, p69⟩
              refine g_if_eq (by omega) (by omega) rfl ?_ ?_
              · intro kk70
                have hs1 := srt_sp (m.2.1 2 (mL2.1 6))
                have hr1 : mL2.1 6 = RN (m.2.1 2) (m.1 3) 1 (SK (m.2.1 2) (m.1 3) (m.1 6)) := by rw [← jR]; exact (RN_out (by omega)).symm
                have hs3 := srt_sp (m.2.1 2 (SK (m.2.1 2) (m.1 3) (m.1 6)))
                have hk0 : (m.1 3 ≤ (SK (m.2.1 2) (m.1 3) (m.1 6)) ∧ mL2.1 6 = (SK (m.2.1 2) (m.1 3) (m.1 6))) ∨ (srt (m.2.1 2 (SK (m.2.1 2) (m.1 3) (m.1 6))) = 1 ∧ mL2.1 6 = RN (m.2.1 2) (m.1 3) 1 ((SK (m.2.1 2) (m.1 3) (m.1 6)) + 1) ∧ (SK (m.2.1 2) (m.1 3) (m.1 6)) < m.1 3) ∨ ((SK (m.2.1 2) (m.1 3) (m.1 6)) < m.1 3 ∧ srt (m.2.1 2 (SK (m.2.1 2) (m.1 3) (m.1 6))) ≠ 1 ∧ RN (m.2.1 2) (m.1 3) 2 (mL2.1 6) = RN (m.2.1 2) (m.1 3) 2 (SK (m.2.1 2) (m.1 3) (m.1 6))) := by
                  by_cases q1 : m.1 3 ≤ (SK (m.2.1 2) (m.1 3) (m.1 6))
                  · left; refine ⟨q1, ?_⟩; have q2 : RN (m.2.1 2) (m.1 3) 1 (SK (m.2.1 2) (m.1 3) (m.1 6)) = (SK (m.2.1 2) (m.1 3) (m.1 6)) := RN_out (Or.inl q1); omega
                  · right; rcases hs3 with h9 | h9 | h9
                    · left; refine ⟨h9.1, ?_, by omega⟩; rw [← RN_in (by omega) h9.1]; exact hr1
                    · right; refine ⟨by omega, by omega, ?_⟩; have q2 : RN (m.2.1 2) (m.1 3) 1 (SK (m.2.1 2) (m.1 3) (m.1 6)) = (SK (m.2.1 2) (m.1 3) (m.1 6)) := RN_out (Or.inr (by omega)); rw [show mL2.1 6 = (SK (m.2.1 2) (m.1 3) (m.1 6)) by omega]
                    · right; refine ⟨by omega, by omega, ?_⟩; have q2 : RN (m.2.1 2) (m.1 3) 1 (SK (m.2.1 2) (m.1 3) (m.1 6)) = (SK (m.2.1 2) (m.1 3) (m.1 6)) := RN_out (Or.inr (by omega)); rw [show mL2.1 6 = (SK (m.2.1 2) (m.1 3) (m.1 6)) by omega]
                have L93_4 : ∀ (n93_4 : Nat)  (mL4 : kM), (kI mL4) → (fr [5, 6] [] m mL4) → ((m.1 3 ≤ (SK (m.2.1 2) (m.1 3) (m.1 6)) ∧ mL4.1 6 = (SK (m.2.1 2) (m.1 3) (m.1 6))) ∨ (srt (m.2.1 2 (SK (m.2.1 2) (m.1 3) (m.1 6))) = 1 ∧ mL4.1 6 = RN (m.2.1 2) (m.1 3) 1 ((SK (m.2.1 2) (m.1 3) (m.1 6)) + 1) ∧ (SK (m.2.1 2) (m.1 3) (m.1 6)) < m.1 3) ∨ ((SK (m.2.1 2) (m.1 3) (m.1 6)) < m.1 3 ∧ srt (m.2.1 2 (SK (m.2.1 2) (m.1 3) (m.1 6))) ≠ 1 ∧ RN (m.2.1 2) (m.1 3) 2 (mL4.1 6) = RN (m.2.1 2) (m.1 3) 2 (SK (m.2.1 2) (m.1 3) (m.1 6)))) → (mL4.1 6 ≤ m.1 3) → (mL4.1 5 = (SK (m.2.1 2) (m.1 3) (m.1 6))) → ((SK (m.2.1 2) (m.1 3) (m.1 6)) ≤ mL4.1 6) → ((200 - mL4.1 6).toNat) = n93_4 → cg_G V mX6_nextToken d q (R_V (fun m' => (kI m') ∧ (fr [5, 6] [] m m') ∧ (m'.1 5 = SK (m.2.1 2) (m.1 3) (m.1 6)) ∧ (m'.1 6 = EP (m.2.1 2) (m.1 3) (m.1 6)))) 93 [(0, vR 1)] [] (kl mL4) 0 0 := by
                  intro n93_4
                  induction n93_4 using Nat.strongRecOn with
                  | _ n93_4 ih93_4 =>
                    intro mL4 hmL4 hfL4 kC kL kS kG q71
                    refine g_aload_n (n := 0) rfl rfl ?_
                    have h72 : 0 ≤ mL4.1 6 ∧ mL4.1 6 ≤ 200 := hmL4.1 6
                    refine g_getf (v := vI (mL4.1 6)) rfl (kl_1 _) rfl ?_
                    refine g_aload_n (n := 0) rfl rfl ?_
                    have h73 : 0 ≤ mL4.1 3 ∧ mL4.1 3 ≤ 200 := hmL4.1 3
                    have h74 : mL4.1 3 = m.1 3 := hfL4.1 3 rfl
                    refine g_getf (v := vI (mL4.1 3)) rfl (kl_1 _) rfl ?_
                    refine g_icmp_ge (by omega) (by omega) (by omega) (by omega) rfl ?_ ?_
                    · intro kk75
                      have hs2 := srt_sp (m.2.1 2 (mL4.1 6))
                      have hs3 := srt_sp (m.2.1 2 (SK (m.2.1 2) (m.1 3) (m.1 6)))
                      have e5 : m.2.1 2 (mL4.1 5) = m.2.1 2 (SK (m.2.1 2) (m.1 3) (m.1 6)) := by rw [kS]
                      refine g_aload_n (n := 0) rfl rfl ?_
                      refine g_getf (v := vI (mL4.1 6)) rfl (kl_1 _) rfl ?_
                      refine g_aload_n (n := 0) rfl rfl ?_
                      have h76 : 0 ≤ mL4.1 5 ∧ mL4.1 5 ≤ 200 := hmL4.1 5
                      refine g_getf (v := vI (mL4.1 5)) rfl (kl_1 _) rfl ?_
                      refine g_icmp_ne (by omega) (by omega) (by omega) (by omega) rfl ?_ ?_
                      · intro kk77
                        refine g_vret rfl rfl ?_
                        have hE : mL4.1 6 = EP (m.2.1 2) (m.1 3) (m.1 6) := by
                          show _ = TE (m.2.1 2) (m.1 3) (SK (m.2.1 2) (m.1 3) (m.1 6))
                          rcases kC with q1 | q1 | q1
                          · rw [TE_0 q1.1]; omega
                          · rw [TE_2 q1.2.2 q1.1 (by omega), ← q1.2.1]
                          · have q4 := RN_rng (t := m.2.1 2) (c := 2) (show (SK (m.2.1 2) (m.1 3) (m.1 6)) + 1 ≤ m.1 3 by omega)
                            rcases hs3 with h9 | h9 | h9
                            · exact absurd h9.1 q1.2.1
                            · have q5 : mL4.1 6 = RN (m.2.1 2) (m.1 3) 2 (SK (m.2.1 2) (m.1 3) (m.1 6)) := by rw [← q1.2.2]; exact (RN_out (by omega)).symm
                              rw [RN_in q1.1 h9.1] at q5
                              rw [TE_2 q1.1 h9.1 (by omega)]
                              omega
                            · have q5 : RN (m.2.1 2) (m.1 3) 2 (SK (m.2.1 2) (m.1 3) (m.1 6)) = (SK (m.2.1 2) (m.1 3) (m.1 6)) := RN_out (Or.inr (by omega))
                              have q6 := RN_rng (t := m.2.1 2) (c := 2) kL
                              rw [TE_1 q1.1 h9.1]
                              omega
                        exact ⟨_, rfl, hmL4, hfL4, kS, hE⟩
                      · intro kk78
                        refine g_aload_n (n := 0) rfl rfl ?_
                        refine g_getf (v := vI (mL4.1 6)) rfl (kl_1 _) rfl ?_
                        refine g_aload_n (n := 0) rfl rfl ?_
                        refine g_getf (v := vI (mL4.1 3)) rfl (kl_1 _) rfl ?_
                        refine g_icmp_ge (by omega) (by omega) (by omega) (by omega) rfl ?_ ?_
                        · intro kk79
                          refine g_vret rfl rfl ?_
                          have hE : mL4.1 6 = EP (m.2.1 2) (m.1 3) (m.1 6) := by
                            show _ = TE (m.2.1 2) (m.1 3) (SK (m.2.1 2) (m.1 3) (m.1 6))
                            rcases kC with q1 | q1 | q1
                            · rw [TE_0 q1.1]; omega
                            · rw [TE_2 q1.2.2 q1.1 (by omega), ← q1.2.1]
                            · have q4 := RN_rng (t := m.2.1 2) (c := 2) (show (SK (m.2.1 2) (m.1 3) (m.1 6)) + 1 ≤ m.1 3 by omega)
                              rcases hs3 with h9 | h9 | h9
                              · exact absurd h9.1 q1.2.1
                              · have q5 : mL4.1 6 = RN (m.2.1 2) (m.1 3) 2 (SK (m.2.1 2) (m.1 3) (m.1 6)) := by rw [← q1.2.2]; exact (RN_out (by omega)).symm
                                rw [RN_in q1.1 h9.1] at q5
                                rw [TE_2 q1.1 h9.1 (by omega)]
                                omega
                              · have q5 : RN (m.2.1 2) (m.1 3) 2 (SK (m.2.1 2) (m.1 3) (m.1 6)) = (SK (m.2.1 2) (m.1 3) (m.1 6)) := RN_out (Or.inr (by omega))
                                have q6 := RN_rng (t := m.2.1 2) (c := 2) kL
                                rw [TE_1 q1.1 h9.1]
                                omega
                          exact ⟨_, rfl, hmL4, hfL4, kS, hE⟩
                        · intro kk80
                          refine g_aload_n (n := 0) rfl rfl ?_
                          refine g_dup rfl rfl ?_
                          refine g_getf (v := vI (mL4.1 6)) rfl (kl_1 _) rfl ?_
                          refine g_iconst rfl ?_
                          refine g_iadd rfl ?_
                          refine g_putF (m' := (kF mL4 6 (mL4.1 6 + 1))) rfl (kl_1 _) rfl rfl rfl rfl (kF_6 _ _) ?_
                          have hm81 : kI (kF mL4 6 (mL4.1 6 + 1)) := kI_F hmL4 6 (show (0 : Int) ≤ (mL4.1 6 + 1) by omega) (show (mL4.1 6 + 1) ≤ (200 : Int) by omega)
                          have hf82 : fr [5, 6] [] m (kF mL4 6 (mL4.1 6 + 1)) := fr_F hfL4 6 _ rfl
                          refine g_vret rfl rfl ?_
                          have hE : (mL4.1 6 + 1) = EP (m.2.1 2) (m.1 3) (m.1 6) := by
                            show _ = TE (m.2.1 2) (m.1 3) (SK (m.2.1 2) (m.1 3) (m.1 6))
                            rcases kC with q1 | q1 | q1
                            · rw [TE_0 q1.1]; omega
                            · rw [TE_2 q1.2.2 q1.1 (by omega), ← q1.2.1]; exfalso; have q4 := RN_rng (t := m.2.1 2) (c := 1) (show (SK (m.2.1 2) (m.1 3) (m.1 6)) + 1 ≤ m.1 3 by omega); omega
                            · have q4 := RN_rng (t := m.2.1 2) (c := 2) (show (SK (m.2.1 2) (m.1 3) (m.1 6)) + 1 ≤ m.1 3 by omega)
                              rcases hs3 with h9 | h9 | h9
                              · exact absurd h9.1 q1.2.1
                              · have q5 : mL4.1 6 = RN (m.2.1 2) (m.1 3) 2 (SK (m.2.1 2) (m.1 3) (m.1 6)) := by rw [← q1.2.2]; exact (RN_out (by omega)).symm
                                rw [RN_in q1.1 h9.1] at q5
                                rw [TE_2 q1.1 h9.1 (by omega)]
                                omega
                              · have q5 : RN (m.2.1 2) (m.1 3) 2 (SK (m.2.1 2) (m.1 3) (m.1 6)) = (SK (m.2.1 2) (m.1 3) (m.1 6)) := RN_out (Or.inr (by omega))
                                have q6 := RN_rng (t := m.2.1 2) (c := 2) kL
                                rw [TE_1 q1.1 h9.1]
                                omega
                          exact ⟨_, rfl, hm81, hf82, kS, hE⟩
                    · intro kk83
                      refine g_aload_n (n := 0) rfl rfl ?_
                      refine g_getf (v := vR 2) rfl (kl_1 _) rfl ?_
                      refine g_aload_n (n := 0) rfl rfl ?_
                      refine g_getf (v := vI (mL4.1 6)) rfl (kl_1 _) rfl ?_
                      have h84 : 0 ≤ mL4.2.1 2 (mL4.1 6) ∧ mL4.2.1 2 (mL4.1 6) ≤ 255 := hmL4.2 2 (mL4.1 6) (by omega) (show mL4.1 6 < (200 : Int) by omega)
                      have h85 : mL4.2.1 2 (mL4.1 6) = m.2.1 2 (mL4.1 6) := congrFun (hfL4.2.1 2 rfl) _
                      refine g_iald (f := mL4.2.1 2) rfl (kl_2 _) (by decide) (by omega) (by omega) ?_
                      refine c_sI (ps := [vI (mL4.2.1 2 (mL4.1 6))]) (r := []) (as := [vI (mL4.2.1 2 (mL4.1 6))]) (cs' := 0) (sl' := 0) rfl rfl rfl rfl rfl rfl (c_isDigit (d := d - 1) (q := q - (1 + 19)) (by omega) (by omega) hmL4 (c := mL4.2.1 2 (mL4.1 6)) (show (-2147483648) ≤ mL4.2.1 2 (mL4.1 6) ∧ mL4.2.1 2 (mL4.1 6) ≤ 2147483647 by omega)) (by omega) (show 1 + 19 ≤ q by omega) (Nat.le_of_ble_eq_true rfl) (Nat.le_of_ble_eq_true rfl) rfl rfl rfl ?_
                      rintro z86 m87 ⟨rfl, p89⟩
                      refine g_if_eq (by omega) (by omega) rfl ?_ ?_
                      · intro kk90
                        have hs2 := srt_sp (m.2.1 2 (mL4.1 6))
                        have hs3 := srt_sp (m.2.1 2 (SK (m.2.1 2) (m.1 3) (m.1 6)))
                        have e5 : m.2.1 2 (mL4.1 5) = m.2.1 2 (SK (m.2.1 2) (m.1 3) (m.1 6)) := by rw [kS]
                        refine g_aload_n (n := 0) rfl rfl ?_
                        refine g_getf (v := vI (mL4.1 6)) rfl (kl_1 _) rfl ?_
                        refine g_aload_n (n := 0) rfl rfl ?_
                        have h91 : 0 ≤ mL4.1 5 ∧ mL4.1 5 ≤ 200 := hmL4.1 5
                        refine g_getf (v := vI (mL4.1 5)) rfl (kl_1 _) rfl ?_
                        refine g_icmp_ne (by omega) (by omega) (by omega) (by omega) rfl ?_ ?_
                        · intro kk92
                          refine g_vret rfl rfl ?_
                          have hE : mL4.1 6 = EP (m.2.1 2) (m.1 3) (m.1 6) := by
                            show _ = TE (m.2.1 2) (m.1 3) (SK (m.2.1 2) (m.1 3) (m.1 6))
                            rcases kC with q1 | q1 | q1
                            · rw [TE_0 q1.1]; omega
                            · rw [TE_2 q1.2.2 q1.1 (by omega), ← q1.2.1]
                            · have q4 := RN_rng (t := m.2.1 2) (c := 2) (show (SK (m.2.1 2) (m.1 3) (m.1 6)) + 1 ≤ m.1 3 by omega)
                              rcases hs3 with h9 | h9 | h9
                              · exact absurd h9.1 q1.2.1
                              · have q5 : mL4.1 6 = RN (m.2.1 2) (m.1 3) 2 (SK (m.2.1 2) (m.1 3) (m.1 6)) := by rw [← q1.2.2]; exact (RN_out (by omega)).symm
                                rw [RN_in q1.1 h9.1] at q5
                                rw [TE_2 q1.1 h9.1 (by omega)]
                                omega
                              · have q5 : RN (m.2.1 2) (m.1 3) 2 (SK (m.2.1 2) (m.1 3) (m.1 6)) = (SK (m.2.1 2) (m.1 3) (m.1 6)) := RN_out (Or.inr (by omega))
                                have q6 := RN_rng (t := m.2.1 2) (c := 2) kL
                                rw [TE_1 q1.1 h9.1]
                                omega
                          exact ⟨_, rfl, hmL4, hfL4, kS, hE⟩
                        · intro kk93
                          refine g_aload_n (n := 0) rfl rfl ?_
                          refine g_getf (v := vI (mL4.1 6)) rfl (kl_1 _) rfl ?_
                          refine g_aload_n (n := 0) rfl rfl ?_
                          refine g_getf (v := vI (mL4.1 3)) rfl (kl_1 _) rfl ?_
                          refine g_icmp_ge (by omega) (by omega) (by omega) (by omega) rfl ?_ ?_
                          · intro kk94
                            refine g_vret rfl rfl ?_
                            have hE : mL4.1 6 = EP (m.2.1 2) (m.1 3) (m.1 6) := by
                              show _ = TE (m.2.1 2) (m.1 3) (SK (m.2.1 2) (m.1 3) (m.1 6))
                              rcases kC with q1 | q1 | q1
                              · rw [TE_0 q1.1]; omega
                              · rw [TE_2 q1.2.2 q1.1 (by omega), ← q1.2.1]
                              · have q4 := RN_rng (t := m.2.1 2) (c := 2) (show (SK (m.2.1 2) (m.1 3) (m.1 6)) + 1 ≤ m.1 3 by omega)
                                rcases hs3 with h9 | h9 | h9
                                · exact absurd h9.1 q1.2.1
                                · have q5 : mL4.1 6 = RN (m.2.1 2) (m.1 3) 2 (SK (m.2.1 2) (m.1 3) (m.1 6)) := by rw [← q1.2.2]; exact (RN_out (by omega)).symm
                                  rw [RN_in q1.1 h9.1] at q5
                                  rw [TE_2 q1.1 h9.1 (by omega)]
                                  omega
                                · have q5 : RN (m.2.1 2) (m.1 3) 2 (SK (m.2.1 2) (m.1 3) (m.1 6)) = (SK (m.2.1 2) (m.1 3) (m.1 6)) := RN_out (Or.inr (by omega))
                                  have q6 := RN_rng (t := m.2.1 2) (c := 2) kL
                                  rw [TE_1 q1.1 h9.1]
                                  omega
                            exact ⟨_, rfl, hmL4, hfL4, kS, hE⟩
                          · intro kk95
                            refine g_aload_n (n := 0) rfl rfl ?_
                            refine g_dup rfl rfl ?_
                            refine g_getf (v := vI (mL4.1 6)) rfl (kl_1 _) rfl ?_
                            refine g_iconst rfl ?_
                            refine g_iadd rfl ?_
                            refine g_putF (m' := (kF mL4 6 (mL4.1 6 + 1))) rfl (kl_1 _) rfl rfl rfl rfl (kF_6 _ _) ?_
                            have hm96 : kI (kF mL4 6 (mL4.1 6 + 1)) := kI_F hmL4 6 (show (0 : Int) ≤ (mL4.1 6 + 1) by omega) (show (mL4.1 6 + 1) ≤ (200 : Int) by omega)
                            have hf97 : fr [5, 6] [] m (kF mL4 6 (mL4.1 6 + 1)) := fr_F hfL4 6 _ rfl
                            refine g_vret rfl rfl ?_
                            have hE : (mL4.1 6 + 1) = EP (m.2.1 2) (m.1 3) (m.1 6) := by
                              show _ = TE (m.2.1 2) (m.1 3) (SK (m.2.1 2) (m.1 3) (m.1 6))
                              rcases kC with q1 | q1 | q1
                              · rw [TE_0 q1.1]; omega
                              · rw [TE_2 q1.2.2 q1.1 (by omega), ← q1.2.1]; exfalso; have q4 := RN_rng (t := m.2.1 2) (c := 1) (show (SK (m.2.1 2) (m.1 3) (m.1 6)) + 1 ≤ m.1 3 by omega); omega
                              · have q4 := RN_rng (t := m.2.1 2) (c := 2) (show (SK (m.2.1 2) (m.1 3) (m.1 6)) + 1 ≤ m.1 3 by omega)
                                rcases hs3 with h9 | h9 | h9
                                · exact absurd h9.1 q1.2.1
                                · have q5 : mL4.1 6 = RN (m.2.1 2) (m.1 3) 2 (SK (m.2.1 2) (m.1 3) (m.1 6)) := by rw [← q1.2.2]; exact (RN_out (by omega)).symm
                                  rw [RN_in q1.1 h9.1] at q5
                                  rw [TE_2 q1.1 h9.1 (by omega)]
                                  omega
                                · have q5 : RN (m.2.1 2) (m.1 3) 2 (SK (m.2.1 2) (m.1 3) (m.1 6)) = (SK (m.2.1 2) (m.1 3) (m.1 6)) := RN_out (Or.inr (by omega))
                                  have q6 := RN_rng (t := m.2.1 2) (c := 2) kL
                                  rw [TE_1 q1.1 h9.1]
                                  omega
                            exact ⟨_, rfl, hm96, hf97, kS, hE⟩
                      · intro kk98
                        refine g_aload_n (n := 0) rfl rfl ?_
                        refine g_getf (v := vR 2) rfl (kl_1 _) rfl ?_
                        refine g_aload_n (n := 0) rfl rfl ?_
                        have h99 : 0 ≤ mL4.1 5 ∧ mL4.1 5 ≤ 200 := hmL4.1 5
                        refine g_getf (v := vI (mL4.1 5)) rfl (kl_1 _) rfl ?_
                        have h100 : 0 ≤ mL4.2.1 2 (mL4.1 5) ∧ mL4.2.1 2 (mL4.1 5) ≤ 255 := hmL4.2 2 (mL4.1 5) (by omega) (show mL4.1 5 < (200 : Int) by omega)
                        have h101 : mL4.2.1 2 (mL4.1 5) = m.2.1 2 (mL4.1 5) := congrFun (hfL4.2.1 2 rfl) _
                        refine g_iald (f := mL4.2.1 2) rfl (kl_2 _) (by decide) (by omega) (by omega) ?_
                        refine c_sI (ps := [vI (mL4.2.1 2 (mL4.1 5))]) (r := []) (as := [vI (mL4.2.1 2 (mL4.1 5))]) (cs' := 0) (sl' := 0) rfl rfl rfl rfl rfl rfl (c_isDigit (d := d - 1) (q := q - (1 + 19)) (by omega) (by omega) hmL4 (c := mL4.2.1 2 (mL4.1 5)) (show (-2147483648) ≤ mL4.2.1 2 (mL4.1 5) ∧ mL4.2.1 2 (mL4.1 5) ≤ 2147483647 by omega)) (by omega) (show 1 + 19 ≤ q by omega) (Nat.le_of_ble_eq_true rfl) (Nat.le_of_ble_eq_true rfl) rfl rfl rfl ?_
                        rintro z102 m103 ⟨rfl, p105⟩
                        refine g_if_eq (by omega) (by omega) rfl ?_ ?_
                        · intro kk106
                          have hs2 := srt_sp (m.2.1 2 (mL4.1 6))
                          have hs3 := srt_sp (m.2.1 2 (SK (m.2.1 2) (m.1 3) (m.1 6)))
                          have e5 : m.2.1 2 (mL4.1 5) = m.2.1 2 (SK (m.2.1 2) (m.1 3) (m.1 6)) := by rw [kS]
                          refine g_aload_n (n := 0) rfl rfl ?_
                          refine g_getf (v := vI (mL4.1 6)) rfl (kl_1 _) rfl ?_
                          refine g_aload_n (n := 0) rfl rfl ?_
                          refine g_getf (v := vI (mL4.1 5)) rfl (kl_1 _) rfl ?_
                          refine g_icmp_ne (by omega) (by omega) (by omega) (by omega) rfl ?_ ?_
                          · intro kk107
                            refine g_vret rfl rfl ?_
                            have hE : mL4.1 6 = EP (m.2.1 2) (m.1 3) (m.1 6) := by
                              show _ = TE (m.2.1 2) (m.1 3) (SK (m.2.1 2) (m.1 3) (m.1 6))
                              rcases kC with q1 | q1 | q1
                              · rw [TE_0 q1.1]; omega
                              · rw [TE_2 q1.2.2 q1.1 (by omega), ← q1.2.1]
                              · have q4 := RN_rng (t := m.2.1 2) (c := 2) (show (SK (m.2.1 2) (m.1 3) (m.1 6)) + 1 ≤ m.1 3 by omega)
                                rcases hs3 with h9 | h9 | h9
                                · exact absurd h9.1 q1.2.1
                                · have q5 : mL4.1 6 = RN (m.2.1 2) (m.1 3) 2 (SK (m.2.1 2) (m.1 3) (m.1 6)) := by rw [← q1.2.2]; exact (RN_out (by omega)).symm
                                  rw [RN_in q1.1 h9.1] at q5
                                  rw [TE_2 q1.1 h9.1 (by omega)]
                                  omega
                                · have q5 : RN (m.2.1 2) (m.1 3) 2 (SK (m.2.1 2) (m.1 3) (m.1 6)) = (SK (m.2.1 2) (m.1 3) (m.1 6)) := RN_out (Or.inr (by omega))
                                  have q6 := RN_rng (t := m.2.1 2) (c := 2) kL
                                  rw [TE_1 q1.1 h9.1]
                                  omega
                            exact ⟨_, rfl, hmL4, hfL4, kS, hE⟩
                          · intro kk108
                            refine g_aload_n (n := 0) rfl rfl ?_
                            refine g_getf (v := vI (mL4.1 6)) rfl (kl_1 _) rfl ?_
                            refine g_aload_n (n := 0) rfl rfl ?_
                            refine g_getf (v := vI (mL4.1 3)) rfl (kl_1 _) rfl ?_
                            refine g_icmp_ge (by omega) (by omega) (by omega) (by omega) rfl ?_ ?_
                            · intro kk109
                              refine g_vret rfl rfl ?_
                              have hE : mL4.1 6 = EP (m.2.1 2) (m.1 3) (m.1 6) := by
                                show _ = TE (m.2.1 2) (m.1 3) (SK (m.2.1 2) (m.1 3) (m.1 6))
                                rcases kC with q1 | q1 | q1
                                · rw [TE_0 q1.1]; omega
                                · rw [TE_2 q1.2.2 q1.1 (by omega), ← q1.2.1]
                                · have q4 := RN_rng (t := m.2.1 2) (c := 2) (show (SK (m.2.1 2) (m.1 3) (m.1 6)) + 1 ≤ m.1 3 by omega)
                                  rcases hs3 with h9 | h9 | h9
                                  · exact absurd h9.1 q1.2.1
                                  · have q5 : mL4.1 6 = RN (m.2.1 2) (m.1 3) 2 (SK (m.2.1 2) (m.1 3) (m.1 6)) := by rw [← q1.2.2]; exact (RN_out (by omega)).symm
                                    rw [RN_in q1.1 h9.1] at q5
                                    rw [TE_2 q1.1 h9.1 (by omega)]
                                    omega
                                  · have q5 : RN (m.2.1 2) (m.1 3) 2 (SK (m.2.1 2) (m.1 3) (m.1 6)) = (SK (m.2.1 2) (m.1 3) (m.1 6)) := RN_out (Or.inr (by omega))
                                    have q6 := RN_rng (t := m.2.1 2) (c := 2) kL
                                    rw [TE_1 q1.1 h9.1]
                                    omega
                              exact ⟨_, rfl, hmL4, hfL4, kS, hE⟩
                            · intro kk110
                              refine g_aload_n (n := 0) rfl rfl ?_
                              refine g_dup rfl rfl ?_
                              refine g_getf (v := vI (mL4.1 6)) rfl (kl_1 _) rfl ?_
                              refine g_iconst rfl ?_
                              refine g_iadd rfl ?_
                              refine g_putF (m' := (kF mL4 6 (mL4.1 6 + 1))) rfl (kl_1 _) rfl rfl rfl rfl (kF_6 _ _) ?_
                              have hm111 : kI (kF mL4 6 (mL4.1 6 + 1)) := kI_F hmL4 6 (show (0 : Int) ≤ (mL4.1 6 + 1) by omega) (show (mL4.1 6 + 1) ≤ (200 : Int) by omega)
                              have hf112 : fr [5, 6] [] m (kF mL4 6 (mL4.1 6 + 1)) := fr_F hfL4 6 _ rfl
                              refine g_vret rfl rfl ?_
                              have hE : (mL4.1 6 + 1) = EP (m.2.1 2) (m.1 3) (m.1 6) := by
                                show _ = TE (m.2.1 2) (m.1 3) (SK (m.2.1 2) (m.1 3) (m.1 6))
                                rcases kC with q1 | q1 | q1
                                · rw [TE_0 q1.1]; omega
                                · rw [TE_2 q1.2.2 q1.1 (by omega), ← q1.2.1]; exfalso; have q4 := RN_rng (t := m.2.1 2) (c := 1) (show (SK (m.2.1 2) (m.1 3) (m.1 6)) + 1 ≤ m.1 3 by omega); omega
                                · have q4 := RN_rng (t := m.2.1 2) (c := 2) (show (SK (m.2.1 2) (m.1 3) (m.1 6)) + 1 ≤ m.1 3 by omega)
                                  rcases hs3 with h9 | h9 | h9
                                  · exact absurd h9.1 q1.2.1
                                  · have q5 : mL4.1 6 = RN (m.2.1 2) (m.1 3) 2 (SK (m.2.1 2) (m.1 3) (m.1 6)) := by rw [← q1.2.2]; exact (RN_out (by omega)).symm
                                    rw [RN_in q1.1 h9.1] at q5
                                    rw [TE_2 q1.1 h9.1 (by omega)]
                                    omega
                                  · have q5 : RN (m.2.1 2) (m.1 3) 2 (SK (m.2.1 2) (m.1 3) (m.1 6)) = (SK (m.2.1 2) (m.1 3) (m.1 6)) := RN_out (Or.inr (by omega))
                                    have q6 := RN_rng (t := m.2.1 2) (c := 2) kL
                                    rw [TE_1 q1.1 h9.1]
                                    omega
                              exact ⟨_, rfl, hm111, hf112, kS, hE⟩
                        · intro kk113
                          have hs4 := srt_sp (m.2.1 2 (mL4.1 6))
                          have hs3 := srt_sp (m.2.1 2 (SK (m.2.1 2) (m.1 3) (m.1 6)))
                          have e5 : m.2.1 2 (mL4.1 5) = m.2.1 2 (SK (m.2.1 2) (m.1 3) (m.1 6)) := by rw [kS]
                          have hkn : (m.1 3 ≤ (SK (m.2.1 2) (m.1 3) (m.1 6)) ∧ (mL4.1 6 + 1) = (SK (m.2.1 2) (m.1 3) (m.1 6))) ∨ (srt (m.2.1 2 (SK (m.2.1 2) (m.1 3) (m.1 6))) = 1 ∧ (mL4.1 6 + 1) = RN (m.2.1 2) (m.1 3) 1 ((SK (m.2.1 2) (m.1 3) (m.1 6)) + 1) ∧ (SK (m.2.1 2) (m.1 3) (m.1 6)) < m.1 3) ∨ ((SK (m.2.1 2) (m.1 3) (m.1 6)) < m.1 3 ∧ srt (m.2.1 2 (SK (m.2.1 2) (m.1 3) (m.1 6))) ≠ 1 ∧ RN (m.2.1 2) (m.1 3) 2 ((mL4.1 6 + 1)) = RN (m.2.1 2) (m.1 3) 2 (SK (m.2.1 2) (m.1 3) (m.1 6))) := by
                            rcases kC with q1 | q1 | q1
                            · exfalso; omega
                            · exfalso; omega
                            · exact Or.inr (Or.inr ⟨q1.1, q1.2.1, by rw [← RN_in (by omega) (show srt (m.2.1 2 (mL4.1 6)) = 2 by omega)]; exact q1.2.2⟩)
                          refine g_aload_n (n := 0) rfl rfl ?_
                          refine g_dup rfl rfl ?_
                          refine g_getf (v := vI (mL4.1 6)) rfl (kl_1 _) rfl ?_
                          refine g_iconst rfl ?_
                          refine g_iadd rfl ?_
                          refine g_putF (m' := (kF mL4 6 (mL4.1 6 + 1))) rfl (kl_1 _) rfl rfl rfl rfl (kF_6 _ _) ?_
                          have hm114 : kI (kF mL4 6 (mL4.1 6 + 1)) := kI_F hmL4 6 (show (0 : Int) ≤ (mL4.1 6 + 1) by omega) (show (mL4.1 6 + 1) ≤ (200 : Int) by omega)
                          have hf115 : fr [5, 6] [] m (kF mL4 6 (mL4.1 6 + 1)) := fr_F hfL4 6 _ rfl
                          refine g_goto rfl ?_
                          have h116 : (kF mL4 6 (mL4.1 6 + 1)).1 6 = (mL4.1 6 + 1) := rfl
                          exact ih93_4 _ (by omega)  (kF mL4 6 (mL4.1 6 + 1)) hm114 hf115 hkn (by show mL4.1 6 + 1 ≤ m.1 3; omega) kS (by omega) rfl
                exact L93_4 _  mL2 hmL2 hfL2 hk0 jL jS jG rfl
              · intro kk117
                have hs4 := srt_sp (m.2.1 2 (mL2.1 6))
                have hjn : RN (m.2.1 2) (m.1 3) 1 (mL2.1 6 + 1) = RN (m.2.1 2) (m.1 3) 1 (SK (m.2.1 2) (m.1 3) (m.1 6)) := by rw [← RN_in (by omega) (show srt (m.2.1 2 (mL2.1 6)) = 1 by omega)]; exact jR
                refine g_aload_n (n := 0) rfl rfl ?_
                refine g_dup rfl rfl ?_
                refine g_getf (v := vI (mL2.1 6)) rfl (kl_1 _) rfl ?_
                refine g_iconst rfl ?_
                refine g_iadd rfl ?_
                refine g_putF (m' := (kF mL2 6 (mL2.1 6 + 1))) rfl (kl_1 _) rfl rfl rfl rfl (kF_6 _ _) ?_
                have hm118 : kI (kF mL2 6 (mL2.1 6 + 1)) := kI_F hmL2 6 (show (0 : Int) ≤ (mL2.1 6 + 1) by omega) (show (mL2.1 6 + 1) ≤ (200 : Int) by omega)
                have hf119 : fr [5, 6] [] m (kF mL2 6 (mL2.1 6 + 1)) := fr_F hfL2 6 _ rfl
                refine g_goto rfl ?_
                have h120 : (kF mL2 6 (mL2.1 6 + 1)).1 6 = (mL2.1 6 + 1) := rfl
                exact ih54_2 _ (by omega)  (kF mL2 6 (mL2.1 6 + 1)) hm118 hf119 hjn (by show mL2.1 6 + 1 ≤ m.1 3; omega) jS (by omega) rfl
        have h121 : (kF mL1 6 (mL1.1 5)).1 6 = mL1.1 5 := rfl
        exact L54_2 _  (kF mL1 6 (mL1.1 5)) hm10 hf11 hj0 (by omega) hs0 (by omega) rfl
      · intro kk122
        refine g_aload_n (n := 0) rfl rfl ?_
        refine g_getf (v := vR 2) rfl (kl_1 _) rfl ?_
        refine g_aload_n (n := 0) rfl rfl ?_
        refine g_getf (v := vI (mL1.1 5)) rfl (kl_1 _) rfl ?_
        have h123 : 0 ≤ mL1.2.1 2 (mL1.1 5) ∧ mL1.2.1 2 (mL1.1 5) ≤ 255 := hmL1.2 2 (mL1.1 5) (by omega) (show mL1.1 5 < (200 : Int) by omega)
        have h124 : mL1.2.1 2 (mL1.1 5) = m.2.1 2 (mL1.1 5) := congrFun (hfL1.2.1 2 rfl) _
        refine g_iald (f := mL1.2.1 2) rfl (kl_2 _) (by decide) (by omega) (by omega) ?_
        refine g_bipush (by decide) rfl ?_
        refine g_icmp_ne (by omega) (by omega) (by decide) (by decide) rfl ?_ ?_
        · intro kk125
          have hs0 : mL1.1 5 = (SK (m.2.1 2) (m.1 3) (m.1 6)) := by rw [← iS]; exact (SK_out (by omega)).symm
          refine g_aload_n (n := 0) rfl rfl ?_
          refine g_aload_n (n := 0) rfl rfl ?_
          refine g_getf (v := vI (mL1.1 5)) rfl (kl_1 _) rfl ?_
          refine g_putF (m' := (kF mL1 6 (mL1.1 5))) rfl (kl_1 _) rfl rfl rfl rfl (kF_6 _ _) ?_
          have hm126 : kI (kF mL1 6 (mL1.1 5)) := kI_F hmL1 6 (show (0 : Int) ≤ mL1.1 5 by omega) (show mL1.1 5 ≤ (200 : Int) by omega)
          have hf127 : fr [5, 6] [] m (kF mL1 6 (mL1.1 5)) := fr_F hfL1 6 _ rfl
          have hj0 : RN (m.2.1 2) (m.1 3) 1 (mL1.1 5) = RN (m.2.1 2) (m.1 3) 1 (SK (m.2.1 2) (m.1 3) (m.1 6)) := by rw [hs0]
          have L54_5 : ∀ (n54_5 : Nat)  (mL5 : kM), (kI mL5) → (fr [5, 6] [] m mL5) → (RN (m.2.1 2) (m.1 3) 1 (mL5.1 6) = RN (m.2.1 2) (m.1 3) 1 (SK (m.2.1 2) (m.1 3) (m.1 6))) → (mL5.1 6 ≤ m.1 3) → (mL5.1 5 = (SK (m.2.1 2) (m.1 3) (m.1 6))) → ((SK (m.2.1 2) (m.1 3) (m.1 6)) ≤ mL5.1 6) → ((200 - mL5.1 6).toNat) = n54_5 → cg_G V mX6_nextToken d q (R_V (fun m' => (kI m') ∧ (fr [5, 6] [] m m') ∧ (m'.1 5 = SK (m.2.1 2) (m.1 3) (m.1 6)) ∧ (m'.1 6 = EP (m.2.1 2) (m.1 3) (m.1 6)))) 54 [(0, vR 1)] [] (kl mL5) 0 0 := by
            intro n54_5
            induction n54_5 using Nat.strongRecOn with
            | _ n54_5 ih54_5 =>
              intro mL5 hmL5 hfL5 jR jL jS jG q128
              refine g_aload_n (n := 0) rfl rfl ?_
              have h129 : 0 ≤ mL5.1 6 ∧ mL5.1 6 ≤ 200 := hmL5.1 6
              refine g_getf (v := vI (mL5.1 6)) rfl (kl_1 _) rfl ?_
              refine g_aload_n (n := 0) rfl rfl ?_
              have h130 : 0 ≤ mL5.1 3 ∧ mL5.1 3 ≤ 200 := hmL5.1 3
              have h131 : mL5.1 3 = m.1 3 := hfL5.1 3 rfl
              refine g_getf (v := vI (mL5.1 3)) rfl (kl_1 _) rfl ?_
              refine g_icmp_ge (by omega) (by omega) (by omega) (by omega) rfl ?_ ?_
              · intro kk132
                have hs1 := srt_sp (m.2.1 2 (mL5.1 6))
                have hr1 : mL5.1 6 = RN (m.2.1 2) (m.1 3) 1 (SK (m.2.1 2) (m.1 3) (m.1 6)) := by rw [← jR]; exact (RN_out (by omega)).symm
                have hs3 := srt_sp (m.2.1 2 (SK (m.2.1 2) (m.1 3) (m.1 6)))
                have hk0 : (m.1 3 ≤ (SK (m.2.1 2) (m.1 3) (m.1 6)) ∧ mL5.1 6 = (SK (m.2.1 2) (m.1 3) (m.1 6))) ∨ (srt (m.2.1 2 (SK (m.2.1 2) (m.1 3) (m.1 6))) = 1 ∧ mL5.1 6 = RN (m.2.1 2) (m.1 3) 1 ((SK (m.2.1 2) (m.1 3) (m.1 6)) + 1) ∧ (SK (m.2.1 2) (m.1 3) (m.1 6)) < m.1 3) ∨ ((SK (m.2.1 2) (m.1 3) (m.1 6)) < m.1 3 ∧ srt (m.2.1 2 (SK (m.2.1 2) (m.1 3) (m.1 6))) ≠ 1 ∧ RN (m.2.1 2) (m.1 3) 2 (mL5.1 6) = RN (m.2.1 2) (m.1 3) 2 (SK (m.2.1 2) (m.1 3) (m.1 6))) := by
                  by_cases q1 : m.1 3 ≤ (SK (m.2.1 2) (m.1 3) (m.1 6))
                  · left; refine ⟨q1, ?_⟩; have q2 : RN (m.2.1 2) (m.1 3) 1 (SK (m.2.1 2) (m.1 3) (m.1 6)) = (SK (m.2.1 2) (m.1 3) (m.1 6)) := RN_out (Or.inl q1); omega
                  · right; rcases hs3 with h9 | h9 | h9
                    · left; refine ⟨h9.1, ?_, by omega⟩; rw [← RN_in (by omega) h9.1]; exact hr1
                    · right; refine ⟨by omega, by omega, ?_⟩; have q2 : RN (m.2.1 2) (m.1 3) 1 (SK (m.2.1 2) (m.1 3) (m.1 6)) = (SK (m.2.1 2) (m.1 3) (m.1 6)) := RN_out (Or.inr (by omega)); rw [show mL5.1 6 = (SK (m.2.1 2) (m.1 3) (m.1 6)) by omega]
                    · right; refine ⟨by omega, by omega, ?_⟩; have q2 : RN (m.2.1 2) (m.1 3) 1 (SK (m.2.1 2) (m.1 3) (m.1 6)) = (SK (m.2.1 2) (m.1 3) (m.1 6)) := RN_out (Or.inr (by omega)); rw [show mL5.1 6 = (SK (m.2.1 2) (m.1 3) (m.1 6)) by omega]
                have L93_6 : ∀ (n93_6 : Nat)  (mL6 : kM), (kI mL6) → (fr [5, 6] [] m mL6) → ((m.1 3 ≤ (SK (m.2.1 2) (m.1 3) (m.1 6)) ∧ mL6.1 6 = (SK (m.2.1 2) (m.1 3) (m.1 6))) ∨ (srt (m.2.1 2 (SK (m.2.1 2) (m.1 3) (m.1 6))) = 1 ∧ mL6.1 6 = RN (m.2.1 2) (m.1 3) 1 ((SK (m.2.1 2) (m.1 3) (m.1 6)) + 1) ∧ (SK (m.2.1 2) (m.1 3) (m.1 6)) < m.1 3) ∨ ((SK (m.2.1 2) (m.1 3) (m.1 6)) < m.1 3 ∧ srt (m.2.1 2 (SK (m.2.1 2) (m.1 3) (m.1 6))) ≠ 1 ∧ RN (m.2.1 2) (m.1 3) 2 (mL6.1 6) = RN (m.2.1 2) (m.1 3) 2 (SK (m.2.1 2) (m.1 3) (m.1 6)))) → (mL6.1 6 ≤ m.1 3) → (mL6.1 5 = (SK (m.2.1 2) (m.1 3) (m.1 6))) → ((SK (m.2.1 2) (m.1 3) (m.1 6)) ≤ mL6.1 6) → ((200 - mL6.1 6).toNat) = n93_6 → cg_G V mX6_nextToken d q (R_V (fun m' => (kI m') ∧ (fr [5, 6] [] m m') ∧ (m'.1 5 = SK (m.2.1 2) (m.1 3) (m.1 6)) ∧ (m'.1 6 = EP (m.2.1 2) (m.1 3) (m.1 6)))) 93 [(0, vR 1)] [] (kl mL6) 0 0 := by
                  intro n93_6
                  induction n93_6 using Nat.strongRecOn with
                  | _ n93_6 ih93_6 =>
                    intro mL6 hmL6 hfL6 kC kL kS kG q133
                    refine g_aload_n (n := 0) rfl rfl ?_
                    have h134 : 0 ≤ mL6.1 6 ∧ mL6.1 6 ≤ 200 := hmL6.1 6
                    refine g_getf (v := vI (mL6.1 6)) rfl (kl_1 _) rfl ?_
                    refine g_aload_n (n := 0) rfl rfl ?_
                    have h135 : 0 ≤ mL6.1 3 ∧ mL6.1 3 ≤ 200 := hmL6.1 3
                    have h136 : mL6.1 3 = m.1 3 := hfL6.1 3 rfl
                    refine g_getf (v := vI (mL6.1 3)) rfl (kl_1 _) rfl ?_
                    refine g_icmp_ge (by omega) (by omega) (by omega) (by omega) rfl ?_ ?_
                    · intro kk137
                      have hs2 := srt_sp (m.2.1 2 (mL6.1 6))
                      have hs3 := srt_sp (m.2.1 2 (SK (m.2.1 2) (m.1 3) (m.1 6)))
                      have e5 : m.2.1 2 (mL6.1 5) = m.2.1 2 (SK (m.2.1 2) (m.1 3) (m.1 6)) := by rw [kS]
                      refine g_aload_n (n := 0) rfl rfl ?_
                      refine g_getf (v := vI (mL6.1 6)) rfl (kl_1 _) rfl ?_
                      refine g_aload_n (n := 0) rfl rfl ?_
                      have h138 : 0 ≤ mL6.1 5 ∧ mL6.1 5 ≤ 200 := hmL6.1 5
                      refine g_getf (v := vI (mL6.1 5)) rfl (kl_1 _) rfl ?_
                      refine g_icmp_ne (by omega) (by omega) (by omega) (by omega) rfl ?_ ?_
                      · intro kk139
                        refine g_vret rfl rfl ?_
                        have hE : mL6.1 6 = EP (m.2.1 2) (m.1 3) (m.1 6) := by
                          show _ = TE (m.2.1 2) (m.1 3) (SK (m.2.1 2) (m.1 3) (m.1 6))
                          rcases kC with q1 | q1 | q1
                          · rw [TE_0 q1.1]; omega
                          · rw [TE_2 q1.2.2 q1.1 (by omega), ← q1.2.1]
                          · have q4 := RN_rng (t := m.2.1 2) (c := 2) (show (SK (m.2.1 2) (m.1 3) (m.1 6)) + 1 ≤ m.1 3 by omega)
                            rcases hs3 with h9 | h9 | h9
                            · exact absurd h9.1 q1.2.1
                            · have q5 : mL6.1 6 = RN (m.2.1 2) (m.1 3) 2 (SK (m.2.1 2) (m.1 3) (m.1 6)) := by rw [← q1.2.2]; exact (RN_out (by omega)).symm
                              rw [RN_in q1.1 h9.1] at q5
                              rw [TE_2 q1.1 h9.1 (by omega)]
                              omega
                            · have q5 : RN (m.2.1 2) (m.1 3) 2 (SK (m.2.1 2) (m.1 3) (m.1 6)) = (SK (m.2.1 2) (m.1 3) (m.1 6)) := RN_out (Or.inr (by omega))
                              have q6 := RN_rng (t := m.2.1 2) (c := 2) kL
                              rw [TE_1 q1.1 h9.1]
                              omega
                        exact ⟨_, rfl, hmL6, hfL6, kS, hE⟩
                      · intro kk140
                        refine g_aload_n (n := 0) rfl rfl ?_
                        refine g_getf (v := vI (mL6.1 6)) rfl (kl_1 _) rfl ?_
                        refine g_aload_n (n := 0) rfl rfl ?_
                        refine g_getf (v := vI (mL6.1 3)) rfl (kl_1 _) rfl ?_
                        refine g_icmp_ge (by omega) (by omega) (by omega) (by omega) rfl ?_ ?_
                        · intro kk141
                          refine g_vret rfl rfl ?_
                          have hE : mL6.1 6 = EP (m.2.1 2) (m.1 3) (m.1 6) := by
                            show _ = TE (m.2.1 2) (m.1 3) (SK (m.2.1 2) (m.1 3) (m.1 6))
                            rcases kC with q1 | q1 | q1
                            · rw [TE_0 q1.1]; omega
                            · rw [TE_2 q1.2.2 q1.1 (by omega), ← q1.2.1]
                            · have q4 := RN_rng (t := m.2.1 2) (c := 2) (show (SK (m.2.1 2) (m.1 3) (m.1 6)) + 1 ≤ m.1 3 by omega)
                              rcases hs3 with h9 | h9 | h9
                              · exact absurd h9.1 q1.2.1
                              · have q5 : mL6.1 6 = RN (m.2.1 2) (m.1 3) 2 (SK (m.2.1 2) (m.1 3) (m.1 6)) := by rw [← q1.2.2]; exact (RN_out (by omega)).symm
                                rw [RN_in q1.1 h9.1] at q5
                                rw [TE_2 q1.1 h9.1 (by omega)]
                                omega
                              · have q5 : RN (m.2.1 2) (m.1 3) 2 (SK (m.2.1 2) (m.1 3) (m.1 6)) = (SK (m.2.1 2) (m.1 3) (m.1 6)) := RN_out (Or.inr (by omega))
                                have q6 := RN_rng (t := m.2.1 2) (c := 2) kL
                                rw [TE_1 q1.1 h9.1]
                                omega
                          exact ⟨_, rfl, hmL6, hfL6, kS, hE⟩
                        · intro kk142
                          refine g_aload_n (n := 0) rfl rfl ?_
                          refine g_dup rfl rfl ?_
                          refine g_getf (v := vI (mL6.1 6)) rfl (kl_1 _) rfl ?_
                          refine g_iconst rfl ?_
                          refine g_iadd rfl ?_
                          refine g_putF (m' := (kF mL6 6 (mL6.1 6 + 1))) rfl (kl_1 _) rfl rfl rfl rfl (kF_6 _ _) ?_
                          have hm143 : kI (kF mL6 6 (mL6.1 6 + 1)) := kI_F hmL6 6 (show (0 : Int) ≤ (mL6.1 6 + 1) by omega) (show (mL6.1 6 + 1) ≤ (200 : Int) by omega)
                          have hf144 : fr [5, 6] [] m (kF mL6 6 (mL6.1 6 + 1)) := fr_F hfL6 6 _ rfl
                          refine g_vret rfl rfl ?_
                          have hE : (mL6.1 6 + 1) = EP (m.2.1 2) (m.1 3) (m.1 6) := by
                            show _ = TE (m.2.1 2) (m.1 3) (SK (m.2.1 2) (m.1 3) (m.1 6))
                            rcases kC with q1 | q1 | q1
                            · rw [TE_0 q1.1]; omega
                            · rw [TE_2 q1.2.2 q1.1 (by omega), ← q1.2.1]; exfalso; have q4 := RN_rng (t := m.2.1 2) (c := 1) (show (SK (m.2.1 2) (m.1 3) (m.1 6)) + 1 ≤ m.1 3 by omega); omega
                            · have q4 := RN_rng (t := m.2.1 2) (c := 2) (show (SK (m.2.1 2) (m.1 3) (m.1 6)) + 1 ≤ m.1 3 by omega)
                              rcases hs3 with h9 | h9 | h9
                              · exact absurd h9.1 q1.2.1
                              · have q5 : mL6.1 6 = RN (m.2.1 2) (m.1 3) 2 (SK (m.2.1 2) (m.1 3) (m.1 6)) := by rw [← q1.2.2]; exact (RN_out (by omega)).symm
                                rw [RN_in q1.1 h9.1] at q5
                                rw [TE_2 q1.1 h9.1 (by omega)]
                                omega
                              · have q5 : RN (m.2.1 2) (m.1 3) 2 (SK (m.2.1 2) (m.1 3) (m.1 6)) = (SK (m.2.1 2) (m.1 3) (m.1 6)) := RN_out (Or.inr (by omega))
                                have q6 := RN_rng (t := m.2.1 2) (c := 2) kL
                                rw [TE_1 q1.1 h9.1]
                                omega
                          exact ⟨_, rfl, hm143, hf144, kS, hE⟩
                    · intro kk145
                      refine g_aload_n (n := 0) rfl rfl ?_
                      refine g_getf (v := vR 2) rfl (kl_1 _) rfl ?_
                      refine g_aload_n (n := 0) rfl rfl ?_
                      refine g_getf (v := vI (mL6.1 6)) rfl (kl_1 _) rfl ?_
                      have h146 : 0 ≤ mL6.2.1 2 (mL6.1 6) ∧ mL6.2.1 2 (mL6.1 6) ≤ 255 := hmL6.2 2 (mL6.1 6) (by omega) (show mL6.1 6 < (200 : Int) by omega)
                      have h147 : mL6.2.1 2 (mL6.1 6) = m.2.1 2 (mL6.1 6) := congrFun (hfL6.2.1 2 rfl) _
                      refine g_iald (f := mL6.2.1 2) rfl (kl_2 _) (by decide) (by omega) (by omega) ?_
                      refine c_sI (ps := [vI (mL6.2.1 2 (mL6.1 6))]) (r := []) (as := [vI (mL6.2.1 2 (mL6.1 6))]) (cs' := 0) (sl' := 0) rfl rfl rfl rfl rfl rfl (c_isDigit (d := d - 1) (q := q - (1 + 19)) (by omega) (by omega) hmL6 (c := mL6.2.1 2 (mL6.1 6)) (show (-2147483648) ≤ mL6.2.1 2 (mL6.1 6) ∧ mL6.2.1 2 (mL6.1 6) ≤ 2147483647 by omega)) (by omega) (show 1 + 19 ≤ q by omega) (Nat.le_of_ble_eq_true rfl) (Nat.le_of_ble_eq_true rfl) rfl rfl rfl ?_
                      rintro z148 m149 ⟨rfl, p151⟩
                      refine g_if_eq (by omega) (by omega) rfl ?_ ?_
                      · intro kk152
                        have hs2 := srt_sp (m.2.1 2 (mL6.1 6))
                        have hs3 := srt_sp (m.2.1 2 (SK (m.2.1 2) (m.1 3) (m.1 6)))
                        have e5 : m.2.1 2 (mL6.1 5) = m.2.1 2 (SK (m.2.1 2) (m.1 3) (m.1 6)) := by rw [kS]
                        refine g_aload_n (n := 0) rfl rfl ?_
                        refine g_getf (v := vI (mL6.1 6)) rfl (kl_1 _) rfl ?_
                        refine g_aload_n (n := 0) rfl rfl ?_
                        have h153 : 0 ≤ mL6.1 5 ∧ mL6.1 5 ≤ 200 := hmL6.1 5
                        refine g_getf (v := vI (mL6.1 5)) rfl (kl_1 _) rfl ?_
                        refine g_icmp_ne (by omega) (by omega) (by omega) (by omega) rfl ?_ ?_
                        · intro kk154
                          refine g_vret rfl rfl ?_
                          have hE : mL6.1 6 = EP (m.2.1 2) (m.1 3) (m.1 6) := by
                            show _ = TE (m.2.1 2) (m.1 3) (SK (m.2.1 2) (m.1 3) (m.1 6))
                            rcases kC with q1 | q1 | q1
                            · rw [TE_0 q1.1]; omega
                            · rw [TE_2 q1.2.2 q1.1 (by omega), ← q1.2.1]
                            · have q4 := RN_rng (t := m.2.1 2) (c := 2) (show (SK (m.2.1 2) (m.1 3) (m.1 6)) + 1 ≤ m.1 3 by omega)
                              rcases hs3 with h9 | h9 | h9
                              · exact absurd h9.1 q1.2.1
                              · have q5 : mL6.1 6 = RN (m.2.1 2) (m.1 3) 2 (SK (m.2.1 2) (m.1 3) (m.1 6)) := by rw [← q1.2.2]; exact (RN_out (by omega)).symm
                                rw [RN_in q1.1 h9.1] at q5
                                rw [TE_2 q1.1 h9.1 (by omega)]
                                omega
                              · have q5 : RN (m.2.1 2) (m.1 3) 2 (SK (m.2.1 2) (m.1 3) (m.1 6)) = (SK (m.2.1 2) (m.1 3) (m.1 6)) := RN_out (Or.inr (by omega))
                                have q6 := RN_rng (t := m.2.1 2) (c := 2) kL
                                rw [TE_1 q1.1 h9.1]
                                omega
                          exact ⟨_, rfl, hmL6, hfL6, kS, hE⟩
                        · intro kk155
                          refine g_aload_n (n := 0) rfl rfl ?_
                          refine g_getf (v := vI (mL6.1 6)) rfl (kl_1 _) rfl ?_
                          refine g_aload_n (n := 0) rfl rfl ?_
                          refine g_getf (v := vI (mL6.1 3)) rfl (kl_1 _) rfl ?_
                          refine g_icmp_ge (by omega) (by omega) (by omega) (by omega) rfl ?_ ?_
                          · intro kk156
                            refine g_vret rfl rfl ?_
                            have hE : mL6.1 6 = EP (m.2.1 2) (m.1 3) (m.1 6) := by
                              show _ = TE (m.2.1 2) (m.1 3) (SK (m.2.1 2) (m.1 3) (m.1 6))
                              rcases kC with q1 | q1 | q1
                              · rw [TE_0 q1.1]; omega
                              · rw [TE_2 q1.2.2 q1.1 (by omega), ← q1.2.1]
                              · have q4 := RN_rng (t := m.2.1 2) (c := 2) (show (SK (m.2.1 2) (m.1 3) (m.1 6)) + 1 ≤ m.1 3 by omega)
                                rcases hs3 with h9 | h9 | h9
                                · exact absurd h9.1 q1.2.1
                                · have q5 : mL6.1 6 = RN (m.2.1 2) (m.1 3) 2 (SK (m.2.1 2) (m.1 3) (m.1 6)) := by rw [← q1.2.2]; exact (RN_out (by omega)).symm
                                  rw [RN_in q1.1 h9.1] at q5
                                  rw [TE_2 q1.1 h9.1 (by omega)]
                                  omega
                                · have q5 : RN (m.2.1 2) (m.1 3) 2 (SK (m.2.1 2) (m.1 3) (m.1 6)) = (SK (m.2.1 2) (m.1 3) (m.1 6)) := RN_out (Or.inr (by omega))
                                  have q6 := RN_rng (t := m.2.1 2) (c := 2) kL
                                  rw [TE_1 q1.1 h9.1]
                                  omega
                            exact ⟨_, rfl, hmL6, hfL6, kS, hE⟩
                          · intro kk157
                            refine g_aload_n (n := 0) rfl rfl ?_
                            refine g_dup rfl rfl ?_
                            refine g_getf (v := vI (mL6.1 6)) rfl (kl_1 _) rfl ?_
                            refine g_iconst rfl ?_
                            refine g_iadd rfl ?_
                            refine g_putF (m' := (kF mL6 6 (mL6.1 6 + 1))) rfl (kl_1 _) rfl rfl rfl rfl (kF_6 _ _) ?_
                            have hm158 : kI (kF mL6 6 (mL6.1 6 + 1)) := kI_F hmL6 6 (show (0 : Int) ≤ (mL6.1 6 + 1) by omega) (show (mL6.1 6 + 1) ≤ (200 : Int) by omega)
                            have hf159 : fr [5, 6] [] m (kF mL6 6 (mL6.1 6 + 1)) := fr_F hfL6 6 _ rfl
                            refine g_vret rfl rfl ?_
                            have hE : (mL6.1 6 + 1) = EP (m.2.1 2) (m.1 3) (m.1 6) := by
                              show _ = TE (m.2.1 2) (m.1 3) (SK (m.2.1 2) (m.1 3) (m.1 6))
                              rcases kC with q1 | q1 | q1
                              · rw [TE_0 q1.1]; omega
                              · rw [TE_2 q1.2.2 q1.1 (by omega), ← q1.2.1]; exfalso; have q4 := RN_rng (t := m.2.1 2) (c := 1) (show (SK (m.2.1 2) (m.1 3) (m.1 6)) + 1 ≤ m.1 3 by omega); omega
                              · have q4 := RN_rng (t := m.2.1 2) (c := 2) (show (SK (m.2.1 2) (m.1 3) (m.1 6)) + 1 ≤ m.1 3 by omega)
                                rcases hs3 with h9 | h9 | h9
                                · exact absurd h9.1 q1.2.1
                                · have q5 : mL6.1 6 = RN (m.2.1 2) (m.1 3) 2 (SK (m.2.1 2) (m.1 3) (m.1 6)) := by rw [← q1.2.2]; exact (RN_out (by omega)).symm
                                  rw [RN_in q1.1 h9.1] at q5
                                  rw [TE_2 q1.1 h9.1 (by omega)]
                                  omega
                                · have q5 : RN (m.2.1 2) (m.1 3) 2 (SK (m.2.1 2) (m.1 3) (m.1 6)) = (SK (m.2.1 2) (m.1 3) (m.1 6)) := RN_out (Or.inr (by omega))
                                  have q6 := RN_rng (t := m.2.1 2) (c := 2) kL
                                  rw [TE_1 q1.1 h9.1]
                                  omega
                            exact ⟨_, rfl, hm158, hf159, kS, hE⟩
                      · intro kk160
                        refine g_aload_n (n := 0) rfl rfl ?_
                        refine g_getf (v := vR 2) rfl (kl_1 _) rfl ?_
                        refine g_aload_n (n := 0) rfl rfl ?_
                        have h161 : 0 ≤ mL6.1 5 ∧ mL6.1 5 ≤ 200 := hmL6.1 5
                        refine g_getf (v := vI (mL6.1 5)) rfl (kl_1 _) rfl ?_
                        have h162 : 0 ≤ mL6.2.1 2 (mL6.1 5) ∧ mL6.2.1 2 (mL6.1 5) ≤ 255 := hmL6.2 2 (mL6.1 5) (by omega) (show mL6.1 5 < (200 : Int) by omega)
                        have h163 : mL6.2.1 2 (mL6.1 5) = m.2.1 2 (mL6.1 5) := congrFun (hfL6.2.1 2 rfl) _
                        refine g_iald (f := mL6.2.1 2) rfl (kl_2 _) (by decide) (by omega) (by omega) ?_
                        refine c_sI (ps := [vI (mL6.2.1 2 (mL6.1 5))]) (r := []) (as := [vI (mL6.2.1 2 (mL6.1 5))]) (cs' := 0) (sl' := 0) rfl rfl rfl rfl rfl rfl (c_isDigit (d := d - 1) (q := q - (1 + 19)) (by omega) (by omega) hmL6 (c := mL6.2.1 2 (mL6.1 5)) (show (-2147483648) ≤ mL6.2.1 2 (mL6.1 5) ∧ mL6.2.1 2 (mL6.1 5) ≤ 2147483647 by omega)) (by omega) (show 1 + 19 ≤ q by omega) (Nat.le_of_ble_eq_true rfl) (Nat.le_of_ble_eq_true rfl) rfl rfl rfl ?_
                        rintro z164 m165 ⟨rfl, p167⟩
                        refine g_if_eq (by omega) (by omega) rfl ?_ ?_
                        · intro kk168
                          have hs2 := srt_sp (m.2.1 2 (mL6.1 6))
                          have hs3 := srt_sp (m.2.1 2 (SK (m.2.1 2) (m.1 3) (m.1 6)))
                          have e5 : m.2.1 2 (mL6.1 5) = m.2.1 2 (SK (m.2.1 2) (m.1 3) (m.1 6)) := by rw [kS]
                          refine g_aload_n (n := 0) rfl rfl ?_
                          refine g_getf (v := vI (mL6.1 6)) rfl (kl_1 _) rfl ?_
                          refine g_aload_n (n := 0) rfl rfl ?_
                          refine g_getf (v := vI (mL6.1 5)) rfl (kl_1 _) rfl ?_
                          refine g_icmp_ne (by omega) (by omega) (by omega) (by omega) rfl ?_ ?_
                          · intro kk169
                            refine g_vret rfl rfl ?_
                            have hE : mL6.1 6 = EP (m.2.1 2) (m.1 3) (m.1 6) := by
                              show _ = TE (m.2.1 2) (m.1 3) (SK (m.2.1 2) (m.1 3) (m.1 6))
                              rcases kC with q1 | q1 | q1
                              · rw [TE_0 q1.1]; omega
                              · rw [TE_2 q1.2.2 q1.1 (by omega), ← q1.2.1]
                              · have q4 := RN_rng (t := m.2.1 2) (c := 2) (show (SK (m.2.1 2) (m.1 3) (m.1 6)) + 1 ≤ m.1 3 by omega)
                                rcases hs3 with h9 | h9 | h9
                                · exact absurd h9.1 q1.2.1
                                · have q5 : mL6.1 6 = RN (m.2.1 2) (m.1 3) 2 (SK (m.2.1 2) (m.1 3) (m.1 6)) := by rw [← q1.2.2]; exact (RN_out (by omega)).symm
                                  rw [RN_in q1.1 h9.1] at q5
                                  rw [TE_2 q1.1 h9.1 (by omega)]
                                  omega
                                · have q5 : RN (m.2.1 2) (m.1 3) 2 (SK (m.2.1 2) (m.1 3) (m.1 6)) = (SK (m.2.1 2) (m.1 3) (m.1 6)) := RN_out (Or.inr (by omega))
                                  have q6 := RN_rng (t := m.2.1 2) (c := 2) kL
                                  rw [TE_1 q1.1 h9.1]
                                  omega
                            exact ⟨_, rfl, hmL6, hfL6, kS, hE⟩
                          · intro kk170
                            refine g_aload_n (n := 0) rfl rfl ?_
                            refine g_getf (v := vI (mL6.1 6)) rfl (kl_1 _) rfl ?_
                            refine g_aload_n (n := 0) rfl rfl ?_
                            refine g_getf (v := vI (mL6.1 3)) rfl (kl_1 _) rfl ?_
                            refine g_icmp_ge (by omega) (by omega) (by omega) (by omega) rfl ?_ ?_
                            · intro kk171
                              refine g_vret rfl rfl ?_
                              have hE : mL6.1 6 = EP (m.2.1 2) (m.1 3) (m.1 6) := by
                                show _ = TE (m.2.1 2) (m.1 3) (SK (m.2.1 2) (m.1 3) (m.1 6))
                                rcases kC with q1 | q1 | q1
                                · rw [TE_0 q1.1]; omega
                                · rw [TE_2 q1.2.2 q1.1 (by omega), ← q1.2.1]
                                · have q4 := RN_rng (t := m.2.1 2) (c := 2) (show (SK (m.2.1 2) (m.1 3) (m.1 6)) + 1 ≤ m.1 3 by omega)
                                  rcases hs3 with h9 | h9 | h9
                                  · exact absurd h9.1 q1.2.1
                                  · have q5 : mL6.1 6 = RN (m.2.1 2) (m.1 3) 2 (SK (m.2.1 2) (m.1 3) (m.1 6)) := by rw [← q1.2.2]; exact (RN_out (by omega)).symm
                                    rw [RN_in q1.1 h9.1] at q5
                                    rw [TE_2 q1.1 h9.1 (by omega)]
                                    omega
                                  · have q5 : RN (m.2.1 2) (m.1 3) 2 (SK (m.2.1 2) (m.1 3) (m.1 6)) = (SK (m.2.1 2) (m.1 3) (m.1 6)) := RN_out (Or.inr (by omega))
                                    have q6 := RN_rng (t := m.2.1 2) (c := 2) kL
                                    rw [TE_1 q1.1 h9.1]
                                    omega
                              exact ⟨_, rfl, hmL6, hfL6, kS, hE⟩
                            · intro kk172
                              refine g_aload_n (n := 0) rfl rfl ?_
                              refine g_dup rfl rfl ?_
                              refine g_getf (v := vI (mL6.1 6)) rfl (kl_1 _) rfl ?_
                              refine g_iconst rfl ?_
                              refine g_iadd rfl ?_
                              refine g_putF (m' := (kF mL6 6 (mL6.1 6 + 1))) rfl (kl_1 _) rfl rfl rfl rfl (kF_6 _ _) ?_
                              have hm173 : kI (kF mL6 6 (mL6.1 6 + 1)) := kI_F hmL6 6 (show (0 : Int) ≤ (mL6.1 6 + 1) by omega) (show (mL6.1 6 + 1) ≤ (200 : Int) by omega)
                              have hf174 : fr [5, 6] [] m (kF mL6 6 (mL6.1 6 + 1)) := fr_F hfL6 6 _ rfl
                              refine g_vret rfl rfl ?_
                              have hE : (mL6.1 6 + 1) = EP (m.2.1 2) (m.1 3) (m.1 6) := by
                                show _ = TE (m.2.1 2) (m.1 3) (SK (m.2.1 2) (m.1 3) (m.1 6))
                                rcases kC with q1 | q1 | q1
                                · rw [TE_0 q1.1]; omega
                                · rw [TE_2 q1.2.2 q1.1 (by omega), ← q1.2.1]; exfalso; have q4 := RN_rng (t := m.2.1 2) (c := 1) (show (SK (m.2.1 2) (m.1 3) (m.1 6)) + 1 ≤ m.1 3 by omega); omega
                                · have q4 := RN_rng (t := m.2.1 2) (c := 2) (show (SK (m.2.1 2) (m.1 3) (m.1 6)) + 1 ≤ m.1 3 by omega)
                                  rcases hs3 with h9 | h9 | h9
                                  · exact absurd h9.1 q1.2.1
                                  · have q5 : mL6.1 6 = RN (m.2.1 2) (m.1 3) 2 (SK (m.2.1 2) (m.1 3) (m.1 6)) := by rw [← q1.2.2]; exact (RN_out (by omega)).symm
                                    rw [RN_in q1.1 h9.1] at q5
                                    rw [TE_2 q1.1 h9.1 (by omega)]
                                    omega
                                  · have q5 : RN (m.2.1 2) (m.1 3) 2 (SK (m.2.1 2) (m.1 3) (m.1 6)) = (SK (m.2.1 2) (m.1 3) (m.1 6)) := RN_out (Or.inr (by omega))
                                    have q6 := RN_rng (t := m.2.1 2) (c := 2) kL
                                    rw [TE_1 q1.1 h9.1]
                                    omega
                              exact ⟨_, rfl, hm173, hf174, kS, hE⟩
                        · intro kk175
                          have hs4 := srt_sp (m.2.1 2 (mL6.1 6))
                          have hs3 := srt_sp (m.2.1 2 (SK (m.2.1 2) (m.1 3) (m.1 6)))
                          have e5 : m.2.1 2 (mL6.1 5) = m.2.1 2 (SK (m.2.1 2) (m.1 3) (m.1 6)) := by rw [kS]
                          have hkn : (m.1 3 ≤ (SK (m.2.1 2) (m.1 3) (m.1 6)) ∧ (mL6.1 6 + 1) = (SK (m.2.1 2) (m.1 3) (m.1 6))) ∨ (srt (m.2.1 2 (SK (m.2.1 2) (m.1 3) (m.1 6))) = 1 ∧ (mL6.1 6 + 1) = RN (m.2.1 2) (m.1 3) 1 ((SK (m.2.1 2) (m.1 3) (m.1 6)) + 1) ∧ (SK (m.2.1 2) (m.1 3) (m.1 6)) < m.1 3) ∨ ((SK (m.2.1 2) (m.1 3) (m.1 6)) < m.1 3 ∧ srt (m.2.1 2 (SK (m.2.1 2) (m.1 3) (m.1 6))) ≠ 1 ∧ RN (m.2.1 2) (m.1 3) 2 ((mL6.1 6 + 1)) = RN (m.2.1 2) (m.1 3) 2 (SK (m.2.1 2) (m.1 3) (m.1 6))) := by
                            rcases kC with q1 | q1 | q1
                            · exfalso; omega
                            · exfalso; omega
                            · exact Or.inr (Or.inr ⟨q1.1, q1.2.1, by rw [← RN_in (by omega) (show srt (m.2.1 2 (mL6.1 6)) = 2 by omega)]; exact q1.2.2⟩)
                          refine g_aload_n (n := 0) rfl rfl ?_
                          refine g_dup rfl rfl ?_
                          refine g_getf (v := vI (mL6.1 6)) rfl (kl_1 _) rfl ?_
                          refine g_iconst rfl ?_
                          refine g_iadd rfl ?_
                          refine g_putF (m' := (kF mL6 6 (mL6.1 6 + 1))) rfl (kl_1 _) rfl rfl rfl rfl (kF_6 _ _) ?_
                          have hm176 : kI (kF mL6 6 (mL6.1 6 + 1)) := kI_F hmL6 6 (show (0 : Int) ≤ (mL6.1 6 + 1) by omega) (show (mL6.1 6 + 1) ≤ (200 : Int) by omega)
                          have hf177 : fr [5, 6] [] m (kF mL6 6 (mL6.1 6 + 1)) := fr_F hfL6 6 _ rfl
                          refine g_goto rfl ?_
                          have h178 : (kF mL6 6 (mL6.1 6 + 1)).1 6 = (mL6.1 6 + 1) := rfl
                          exact ih93_6 _ (by omega)  (kF mL6 6 (mL6.1 6 + 1)) hm176 hf177 hkn (by show mL6.1 6 + 1 ≤ m.1 3; omega) kS (by omega) rfl
                exact L93_6 _  mL5 hmL5 hfL5 hk0 jL jS jG rfl
              · intro kk179
                refine g_aload_n (n := 0) rfl rfl ?_
                refine g_getf (v := vR 2) rfl (kl_1 _) rfl ?_
                refine g_aload_n (n := 0) rfl rfl ?_
                refine g_getf (v := vI (mL5.1 6)) rfl (kl_1 _) rfl ?_
                have h180 : 0 ≤ mL5.2.1 2 (mL5.1 6) ∧ mL5.2.1 2 (mL5.1 6) ≤ 255 := hmL5.2 2 (mL5.1 6) (by omega) (show mL5.1 6 < (200 : Int) by omega)
                have h181 : mL5.2.1 2 (mL5.1 6) = m.2.1 2 (mL5.1 6) := congrFun (hfL5.2.1 2 rfl) _
                refine g_iald (f := mL5.2.1 2) rfl (kl_2 _) (by decide) (by omega) (by omega) ?_
                refine c_sI (ps := [vI (mL5.2.1 2 (mL5.1 6))]) (r := []) (as := [vI (mL5.2.1 2 (mL5.1 6))]) (cs' := 0) (sl' := 0) rfl rfl rfl rfl rfl rfl (c_isLetter (d := d - 1) (q := q - (1 + 19)) (by omega) (by omega) hmL5 (c := mL5.2.1 2 (mL5.1 6)) (show (-2147483648) ≤ mL5.2.1 2 (mL5.1 6) ∧ mL5.2.1 2 (mL5.1 6) ≤ 2147483647 by omega)) (by omega) (show 1 + 19 ≤ q by omega) (Nat.le_of_ble_eq_true rfl) (Nat.le_of_ble_eq_true rfl) rfl rfl rfl ?_
                rintro z182 m183 ⟨rfl, p185⟩
                refine g_if_eq (by omega) (by omega) rfl ?_ ?_
                · intro kk186
                  have hs1 := srt_sp (m.2.1 2 (mL5.1 6))
                  have hr1 : mL5.1 6 = RN (m.2.1 2) (m.1 3) 1 (SK (m.2.1 2) (m.1 3) (m.1 6)) := by rw [← jR]; exact (RN_out (by omega)).symm
                  have hs3 := srt_sp (m.2.1 2 (SK (m.2.1 2) (m.1 3) (m.1 6)))
                  have hk0 : (m.1 3 ≤ (SK (m.2.1 2) (m.1 3) (m.1 6)) ∧ mL5.1 6 = (SK (m.2.1 2) (m.1 3) (m.1 6))) ∨ (srt (m.2.1 2 (SK (m.2.1 2) (m.1 3) (m.1 6))) = 1 ∧ mL5.1 6 = RN (m.2.1 2) (m.1 3) 1 ((SK (m.2.1 2) (m.1 3) (m.1 6)) + 1) ∧ (SK (m.2.1 2) (m.1 3) (m.1 6)) < m.1 3) ∨ ((SK (m.2.1 2) (m.1 3) (m.1 6)) < m.1 3 ∧ srt (m.2.1 2 (SK (m.2.1 2) (m.1 3) (m.1 6))) ≠ 1 ∧ RN (m.2.1 2) (m.1 3) 2 (mL5.1 6) = RN (m.2.1 2) (m.1 3) 2 (SK (m.2.1 2) (m.1 3) (m.1 6))) := by
                    by_cases q1 : m.1 3 ≤ (SK (m.2.1 2) (m.1 3) (m.1 6))
                    · left; refine ⟨q1, ?_⟩; have q2 : RN (m.2.1 2) (m.1 3) 1 (SK (m.2.1 2) (m.1 3) (m.1 6)) = (SK (m.2.1 2) (m.1 3) (m.1 6)) := RN_out (Or.inl q1); omega
                    · right; rcases hs3 with h9 | h9 | h9
                      · left; refine ⟨h9.1, ?_, by omega⟩; rw [← RN_in (by omega) h9.1]; exact hr1
                      · right; refine ⟨by omega, by omega, ?_⟩; have q2 : RN (m.2.1 2) (m.1 3) 1 (SK (m.2.1 2) (m.1 3) (m.1 6)) = (SK (m.2.1 2) (m.1 3) (m.1 6)) := RN_out (Or.inr (by omega)); rw [show mL5.1 6 = (SK (m.2.1 2) (m.1 3) (m.1 6)) by omega]
                      · right; refine ⟨by omega, by omega, ?_⟩; have q2 : RN (m.2.1 2) (m.1 3) 1 (SK (m.2.1 2) (m.1 3) (m.1 6)) = (SK (m.2.1 2) (m.1 3) (m.1 6)) := RN_out (Or.inr (by omega)); rw [show mL5.1 6 = (SK (m.2.1 2) (m.1 3) (m.1 6)) by omega]
                  have L93_7 : ∀ (n93_7 : Nat)  (mL7 : kM), (kI mL7) → (fr [5, 6] [] m mL7) → ((m.1 3 ≤ (SK (m.2.1 2) (m.1 3) (m.1 6)) ∧ mL7.1 6 = (SK (m.2.1 2) (m.1 3) (m.1 6))) ∨ (srt (m.2.1 2 (SK (m.2.1 2) (m.1 3) (m.1 6))) = 1 ∧ mL7.1 6 = RN (m.2.1 2) (m.1 3) 1 ((SK (m.2.1 2) (m.1 3) (m.1 6)) + 1) ∧ (SK (m.2.1 2) (m.1 3) (m.1 6)) < m.1 3) ∨ ((SK (m.2.1 2) (m.1 3) (m.1 6)) < m.1 3 ∧ srt (m.2.1 2 (SK (m.2.1 2) (m.1 3) (m.1 6))) ≠ 1 ∧ RN (m.2.1 2) (m.1 3) 2 (mL7.1 6) = RN (m.2.1 2) (m.1 3) 2 (SK (m.2.1 2) (m.1 3) (m.1 6)))) → (mL7.1 6 ≤ m.1 3) → (mL7.1 5 = (SK (m.2.1 2) (m.1 3) (m.1 6))) → ((SK (m.2.1 2) (m.1 3) (m.1 6)) ≤ mL7.1 6) → ((200 - mL7.1 6).toNat) = n93_7 → cg_G V mX6_nextToken d q (R_V (fun m' => (kI m') ∧ (fr [5, 6] [] m m') ∧ (m'.1 5 = SK (m.2.1 2) (m.1 3) (m.1 6)) ∧ (m'.1 6 = EP (m.2.1 2) (m.1 3) (m.1 6)))) 93 [(0, vR 1)] [] (kl mL7) 0 0 := by
                    intro n93_7
                    induction n93_7 using Nat.strongRecOn with
                    | _ n93_7 ih93_7 =>
                      intro mL7 hmL7 hfL7 kC kL kS kG q187
                      refine g_aload_n (n := 0) rfl rfl ?_
                      have h188 : 0 ≤ mL7.1 6 ∧ mL7.1 6 ≤ 200 := hmL7.1 6
                      refine g_getf (v := vI (mL7.1 6)) rfl (kl_1 _) rfl ?_
                      refine g_aload_n (n := 0) rfl rfl ?_
                      have h189 : 0 ≤ mL7.1 3 ∧ mL7.1 3 ≤ 200 := hmL7.1 3
                      have h190 : mL7.1 3 = m.1 3 := hfL7.1 3 rfl
                      refine g_getf (v := vI (mL7.1 3)) rfl (kl_1 _) rfl ?_
                      refine g_icmp_ge (by omega) (by omega) (by omega) (by omega) rfl ?_ ?_
                      · intro kk191
                        have hs2 := srt_sp (m.2.1 2 (mL7.1 6))
                        have hs3 := srt_sp (m.2.1 2 (SK (m.2.1 2) (m.1 3) (m.1 6)))
                        have e5 : m.2.1 2 (mL7.1 5) = m.2.1 2 (SK (m.2.1 2) (m.1 3) (m.1 6)) := by rw [kS]
                        refine g_aload_n (n := 0) rfl rfl ?_
                        refine g_getf (v := vI (mL7.1 6)) rfl (kl_1 _) rfl ?_
                        refine g_aload_n (n := 0) rfl rfl ?_
                        have h192 : 0 ≤ mL7.1 5 ∧ mL7.1 5 ≤ 200 := hmL7.1 5
                        refine g_getf (v := vI (mL7.1 5)) rfl (kl_1 _) rfl ?_
                        refine g_icmp_ne (by omega) (by omega) (by omega) (by omega) rfl ?_ ?_
                        · intro kk193
                          refine g_vret rfl rfl ?_
                          have hE : mL7.1 6 = EP (m.2.1 2) (m.1 3) (m.1 6) := by
                            show _ = TE (m.2.1 2) (m.1 3) (SK (m.2.1 2) (m.1 3) (m.1 6))
                            rcases kC with q1 | q1 | q1
                            · rw [TE_0 q1.1]; omega
                            · rw [TE_2 q1.2.2 q1.1 (by omega), ← q1.2.1]
                            · have q4 := RN_rng (t := m.2.1 2) (c := 2) (show (SK (m.2.1 2) (m.1 3) (m.1 6)) + 1 ≤ m.1 3 by omega)
                              rcases hs3 with h9 | h9 | h9
                              · exact absurd h9.1 q1.2.1
                              · have q5 : mL7.1 6 = RN (m.2.1 2) (m.1 3) 2 (SK (m.2.1 2) (m.1 3) (m.1 6)) := by rw [← q1.2.2]; exact (RN_out (by omega)).symm
                                rw [RN_in q1.1 h9.1] at q5
                                rw [TE_2 q1.1 h9.1 (by omega)]
                                omega
                              · have q5 : RN (m.2.1 2) (m.1 3) 2 (SK (m.2.1 2) (m.1 3) (m.1 6)) = (SK (m.2.1 2) (m.1 3) (m.1 6)) := RN_out (Or.inr (by omega))
                                have q6 := RN_rng (t := m.2.1 2) (c := 2) kL
                                rw [TE_1 q1.1 h9.1]
                                omega
                          exact ⟨_, rfl, hmL7, hfL7, kS, hE⟩
                        · intro kk194
                          refine g_aload_n (n := 0) rfl rfl ?_
                          refine g_getf (v := vI (mL7.1 6)) rfl (kl_1 _) rfl ?_
                          refine g_aload_n (n := 0) rfl rfl ?_
                          refine g_getf (v := vI (mL7.1 3)) rfl (kl_1 _) rfl ?_
                          refine g_icmp_ge (by omega) (by omega) (by omega) (by omega) rfl ?_ ?_
                          · intro kk195
                            refine g_vret rfl rfl ?_
                            have hE : mL7.1 6 = EP (m.2.1 2) (m.1 3) (m.1 6) := by
                              show _ = TE (m.2.1 2) (m.1 3) (SK (m.2.1 2) (m.1 3) (m.1 6))
                              rcases kC with q1 | q1 | q1
                              · rw [TE_0 q1.1]; omega
                              · rw [TE_2 q1.2.2 q1.1 (by omega), ← q1.2.1]
                              · have q4 := RN_rng (t := m.2.1 2) (c := 2) (show (SK (m.2.1 2) (m.1 3) (m.1 6)) + 1 ≤ m.1 3 by omega)
                                rcases hs3 with h9 | h9 | h9
                                · exact absurd h9.1 q1.2.1
                                · have q5 : mL7.1 6 = RN (m.2.1 2) (m.1 3) 2 (SK (m.2.1 2) (m.1 3) (m.1 6)) := by rw [← q1.2.2]; exact (RN_out (by omega)).symm
                                  rw [RN_in q1.1 h9.1] at q5
                                  rw [TE_2 q1.1 h9.1 (by omega)]
                                  omega
                                · have q5 : RN (m.2.1 2) (m.1 3) 2 (SK (m.2.1 2) (m.1 3) (m.1 6)) = (SK (m.2.1 2) (m.1 3) (m.1 6)) := RN_out (Or.inr (by omega))
                                  have q6 := RN_rng (t := m.2.1 2) (c := 2) kL
                                  rw [TE_1 q1.1 h9.1]
                                  omega
                            exact ⟨_, rfl, hmL7, hfL7, kS, hE⟩
                          · intro kk196
                            refine g_aload_n (n := 0) rfl rfl ?_
                            refine g_dup rfl rfl ?_
                            refine g_getf (v := vI (mL7.1 6)) rfl (kl_1 _) rfl ?_
                            refine g_iconst rfl ?_
                            refine g_iadd rfl ?_
                            refine g_putF (m' := (kF mL7 6 (mL7.1 6 + 1))) rfl (kl_1 _) rfl rfl rfl rfl (kF_6 _ _) ?_
                            have hm197 : kI (kF mL7 6 (mL7.1 6 + 1)) := kI_F hmL7 6 (show (0 : Int) ≤ (mL7.1 6 + 1) by omega) (show (mL7.1 6 + 1) ≤ (200 : Int) by omega)
                            have hf198 : fr [5, 6] [] m (kF mL7 6 (mL7.1 6 + 1)) := fr_F hfL7 6 _ rfl
                            refine g_vret rfl rfl ?_
                            have hE : (mL7.1 6 + 1) = EP (m.2.1 2) (m.1 3) (m.1 6) := by
                              show _ = TE (m.2.1 2) (m.1 3) (SK (m.2.1 2) (m.1 3) (m.1 6))
                              rcases kC with q1 | q1 | q1
                              · rw [TE_0 q1.1]; omega
                              · rw [TE_2 q1.2.2 q1.1 (by omega), ← q1.2.1]; exfalso; have q4 := RN_rng (t := m.2.1 2) (c := 1) (show (SK (m.2.1 2) (m.1 3) (m.1 6)) + 1 ≤ m.1 3 by omega); omega
                              · have q4 := RN_rng (t := m.2.1 2) (c := 2) (show (SK (m.2.1 2) (m.1 3) (m.1 6)) + 1 ≤ m.1 3 by omega)
                                rcases hs3 with h9 | h9 | h9
                                · exact absurd h9.1 q1.2.1
                                · have q5 : mL7.1 6 = RN (m.2.1 2) (m.1 3) 2 (SK (m.2.1 2) (m.1 3) (m.1 6)) := by rw [← q1.2.2]; exact (RN_out (by omega)).symm
                                  rw [RN_in q1.1 h9.1] at q5
                                  rw [TE_2 q1.1 h9.1 (by omega)]
                                  omega
                                · have q5 : RN (m.2.1 2) (m.1 3) 2 (SK (m.2.1 2) (m.1 3) (m.1 6)) = (SK (m.2.1 2) (m.1 3) (m.1 6)) := RN_out (Or.inr (by omega))
                                  have q6 := RN_rng (t := m.2.1 2) (c := 2) kL
                                  rw [TE_1 q1.1 h9.1]
                                  omega
                            exact ⟨_, rfl, hm197, hf198, kS, hE⟩
                      · intro kk199
                        refine g_aload_n (n := 0) rfl rfl ?_
                        refine g_getf (v := vR 2) rfl (kl_1 _) rfl ?_
                        refine g_aload_n (n := 0) rfl rfl ?_
                        refine g_getf (v := vI (mL7.1 6)) rfl (kl_1 _) rfl ?_
                        have h200 : 0 ≤ mL7.2.1 2 (mL7.1 6) ∧ mL7.2.1 2 (mL7.1 6) ≤ 255 := hmL7.2 2 (mL7.1 6) (by omega) (show mL7.1 6 < (200 : Int) by omega)
                        have h201 : mL7.2.1 2 (mL7.1 6) = m.2.1 2 (mL7.1 6) := congrFun (hfL7.2.1 2 rfl) _
                        refine g_iald (f := mL7.2.1 2) rfl (kl_2 _) (by decide) (by omega) (by omega) ?_
                        refine c_sI (ps := [vI (mL7.2.1 2 (mL7.1 6))]) (r := []) (as := [vI (mL7.2.1 2 (mL7.1 6))]) (cs' := 0) (sl' := 0) rfl rfl rfl rfl rfl rfl (c_isDigit (d := d - 1) (q := q - (1 + 19)) (by omega) (by omega) hmL7 (c := mL7.2.1 2 (mL7.1 6)) (show (-2147483648) ≤ mL7.2.1 2 (mL7.1 6) ∧ mL7.2.1 2 (mL7.1 6) ≤ 2147483647 by omega)) (by omega) (show 1 + 19 ≤ q by omega) (Nat.le_of_ble_eq_true rfl) (Nat.le_of_ble_eq_true rfl) rfl rfl rfl ?_
                        rintro z202 m203 ⟨rfl, p205⟩
                        refine g_if_eq (by omega) (by omega) rfl ?_ ?_
                        · intro kk206
                          have hs2 := srt_sp (m.2.1 2 (mL7.1 6))
                          have hs3 := srt_sp (m.2.1 2 (SK (m.2.1 2) (m.1 3) (m.1 6)))
                          have e5 : m.2.1 2 (mL7.1 5) = m.2.1 2 (SK (m.2.1 2) (m.1 3) (m.1 6)) := by rw [kS]
                          refine g_aload_n (n := 0) rfl rfl ?_
                          refine g_getf (v := vI (mL7.1 6)) rfl (kl_1 _) rfl ?_
                          refine g_aload_n (n := 0) rfl rfl ?_
                          have h207 : 0 ≤ mL7.1 5 ∧ mL7.1 5 ≤ 200 := hmL7.1 5
                          refine g_getf (v := vI (mL7.1 5)) rfl (kl_1 _) rfl ?_
                          refine g_icmp_ne (by omega) (by omega) (by omega) (by omega) rfl ?_ ?_
                          · intro kk208
                            refine g_vret rfl rfl ?_
                            have hE : mL7.1 6 = EP (m.2.1 2) (m.1 3) (m.1 6) := by
                              show _ = TE (m.2.1 2) (m.1 3) (SK (m.2.1 2) (m.1 3) (m.1 6))
                              rcases kC with q1 | q1 | q1
                              · rw [TE_0 q1.1]; omega
                              · rw [TE_2 q1.2.2 q1.1 (by omega), ← q1.2.1]
                              · have q4 := RN_rng (t := m.2.1 2) (c := 2) (show (SK (m.2.1 2) (m.1 3) (m.1 6)) + 1 ≤ m.1 3 by omega)
                                rcases hs3 with h9 | h9 | h9
                                · exact absurd h9.1 q1.2.1
                                · have q5 : mL7.1 6 = RN (m.2.1 2) (m.1 3) 2 (SK (m.2.1 2) (m.1 3) (m.1 6)) := by rw [← q1.2.2]; exact (RN_out (by omega)).symm
                                  rw [RN_in q1.1 h9.1] at q5
                                  rw [TE_2 q1.1 h9.1 (by omega)]
                                  omega
                                · have q5 : RN (m.2.1 2) (m.1 3) 2 (SK (m.2.1 2) (m.1 3) (m.1 6)) = (SK (m.2.1 2) (m.1 3) (m.1 6)) := RN_out (Or.inr (by omega))
                                  have q6 := RN_rng (t := m.2.1 2) (c := 2) kL
                                  rw [TE_1 q1.1 h9.1]
                                  omega
                            exact ⟨_, rfl, hmL7, hfL7, kS, hE⟩
                          · intro kk209
                            refine g_aload_n (n := 0) rfl rfl ?_
                            refine g_getf (v := vI (mL7.1 6)) rfl (kl_1 _) rfl ?_
                            refine g_aload_n (n := 0) rfl rfl ?_
                            refine g_getf (v := vI (mL7.1 3)) rfl (kl_1 _) rfl ?_
                            refine g_icmp_ge (by omega) (by omega) (by omega) (by omega) rfl ?_ ?_
                            · intro kk210
                              refine g_vret rfl rfl ?_
                              have hE : mL7.1 6 = EP (m.2.1 2) (m.1 3) (m.1 6) := by
                                show _ = TE (m.2.1 2) (m.1 3) (SK (m.2.1 2) (m.1 3) (m.1 6))
                                rcases kC with q1 | q1 | q1
                                · rw [TE_0 q1.1]; omega
                                · rw [TE_2 q1.2.2 q1.1 (by omega), ← q1.2.1]
                                · have q4 := RN_rng (t := m.2.1 2) (c := 2) (show (SK (m.2.1 2) (m.1 3) (m.1 6)) + 1 ≤ m.1 3 by omega)
                                  rcases hs3 with h9 | h9 | h9
                                  · exact absurd h9.1 q1.2.1
                                  · have q5 : mL7.1 6 = RN (m.2.1 2) (m.1 3) 2 (SK (m.2.1 2) (m.1 3) (m.1 6)) := by rw [← q1.2.2]; exact (RN_out (by omega)).symm
                                    rw [RN_in q1.1 h9.1] at q5
                                    rw [TE_2 q1.1 h9.1 (by omega)]
                                    omega
                                  · have q5 : RN (m.2.1 2) (m.1 3) 2 (SK (m.2.1 2) (m.1 3) (m.1 6)) = (SK (m.2.1 2) (m.1 3) (m.1 6)) := RN_out (Or.inr (by omega))
                                    have q6 := RN_rng (t := m.2.1 2) (c := 2) kL
                                    rw [TE_1 q1.1 h9.1]
                                    omega
                              exact ⟨_, rfl, hmL7, hfL7, kS, hE⟩
                            · intro kk211
                              refine g_aload_n (n := 0) rfl rfl ?_
                              refine g_dup rfl rfl ?_
                              refine g_getf (v := vI (mL7.1 6)) rfl (kl_1 _) rfl ?_
                              refine g_iconst rfl ?_
                              refine g_iadd rfl ?_
                              refine g_putF (m' := (kF mL7 6 (mL7.1 6 + 1))) rfl (kl_1 _) rfl rfl rfl rfl (kF_6 _ _) ?_
                              have hm212 : kI (kF mL7 6 (mL7.1 6 + 1)) := kI_F hmL7 6 (show (0 : Int) ≤ (mL7.1 6 + 1) by omega) (show (mL7.1 6 + 1) ≤ (200 : Int) by omega)
                              have hf213 : fr [5, 6] [] m (kF mL7 6 (mL7.1 6 + 1)) := fr_F hfL7 6 _ rfl
                              refine g_vret rfl rfl ?_
                              have hE : (mL7.1 6 + 1) = EP (m.2.1 2) (m.1 3) (m.1 6) := by
                                show _ = TE (m.2.1 2) (m.1 3) (SK (m.2.1 2) (m.1 3) (m.1 6))
                                rcases kC with q1 | q1 | q1
                                · rw [TE_0 q1.1]; omega
                                · rw [TE_2 q1.2.2 q1.1 (by omega), ← q1.2.1]; exfalso; have q4 := RN_rng (t := m.2.1 2) (c := 1) (show (SK (m.2.1 2) (m.1 3) (m.1 6)) + 1 ≤ m.1 3 by omega); omega
                                · have q4 := RN_rng (t := m.2.1 2) (c := 2) (show (SK (m.2.1 2) (m.1 3) (m.1 6)) + 1 ≤ m.1 3 by omega)
                                  rcases hs3 with h9 | h9 | h9
                                  · exact absurd h9.1 q1.2.1
                                  · have q5 : mL7.1 6 = RN (m.2.1 2) (m.1 3) 2 (SK (m.2.1 2) (m.1 3) (m.1 6)) := by rw [← q1.2.2]; exact (RN_out (by omega)).symm
                                    rw [RN_in q1.1 h9.1] at q5
                                    rw [TE_2 q1.1 h9.1 (by omega)]
                                    omega
                                  · have q5 : RN (m.2.1 2) (m.1 3) 2 (SK (m.2.1 2) (m.1 3) (m.1 6)) = (SK (m.2.1 2) (m.1 3) (m.1 6)) := RN_out (Or.inr (by omega))
                                    have q6 := RN_rng (t := m.2.1 2) (c := 2) kL
                                    rw [TE_1 q1.1 h9.1]
                                    omega
                              exact ⟨_, rfl, hm212, hf213, kS, hE⟩
                        · intro kk214
                          refine g_aload_n (n := 0) rfl rfl ?_
                          refine g_getf (v := vR 2) rfl (kl_1 _) rfl ?_
                          refine g_aload_n (n := 0) rfl rfl ?_
                          have h215 : 0 ≤ mL7.1 5 ∧ mL7.1 5 ≤ 200 := hmL7.1 5
                          refine g_getf (v := vI (mL7.1 5)) rfl (kl_1 _) rfl ?_
                          have h216 : 0 ≤ mL7.2.1 2 (mL7.1 5) ∧ mL7.2.1 2 (mL7.1 5) ≤ 255 := hmL7.2 2 (mL7.1 5) (by omega) (show mL7.1 5 < (200 : Int) by omega)
                          have h217 : mL7.2.1 2 (mL7.1 5) = m.2.1 2 (mL7.1 5) := congrFun (hfL7.2.1 2 rfl) _
                          refine g_iald (f := mL7.2.1 2) rfl (kl_2 _) (by decide) (by omega) (by omega) ?_
                          refine c_sI (ps := [vI (mL7.2.1 2 (mL7.1 5))]) (r := []) (as := [vI (mL7.2.1 2 (mL7.1 5))]) (cs' := 0) (sl' := 0) rfl rfl rfl rfl rfl rfl (c_isDigit (d := d - 1) (q := q - (1 + 19)) (by omega) (by omega) hmL7 (c := mL7.2.1 2 (mL7.1 5)) (show (-2147483648) ≤ mL7.2.1 2 (mL7.1 5) ∧ mL7.2.1 2 (mL7.1 5) ≤ 2147483647 by omega)) (by omega) (show 1 + 19 ≤ q by omega) (Nat.le_of_ble_eq_true rfl) (Nat.le_of_ble_eq_true rfl) rfl rfl rfl ?_
                          rintro z218 m219 ⟨rfl, p221⟩
                          refine g_if_eq (by omega) (by omega) rfl ?_ ?_
                          · intro kk222
                            have hs2 := srt_sp (m.2.1 2 (mL7.1 6))
                            have hs3 := srt_sp (m.2.1 2 (SK (m.2.1 2) (m.1 3) (m.1 6)))
                            have e5 : m.2.1 2 (mL7.1 5) = m.2.1 2 (SK (m.2.1 2) (m.1 3) (m.1 6)) := by rw [kS]
                            refine g_aload_n (n := 0) rfl rfl ?_
                            refine g_getf (v := vI (mL7.1 6)) rfl (kl_1 _) rfl ?_
                            refine g_aload_n (n := 0) rfl rfl ?_
                            refine g_getf (v := vI (mL7.1 5)) rfl (kl_1 _) rfl ?_
                            refine g_icmp_ne (by omega) (by omega) (by omega) (by omega) rfl ?_ ?_
                            · intro kk223
                              refine g_vret rfl rfl ?_
                              have hE : mL7.1 6 = EP (m.2.1 2) (m.1 3) (m.1 6) := by
                                show _ = TE (m.2.1 2) (m.1 3) (SK (m.2.1 2) (m.1 3) (m.1 6))
                                rcases kC with q1 | q1 | q1
                                · rw [TE_0 q1.1]; omega
                                · rw [TE_2 q1.2.2 q1.1 (by omega), ← q1.2.1]
                                · have q4 := RN_rng (t := m.2.1 2) (c := 2) (show (SK (m.2.1 2) (m.1 3) (m.1 6)) + 1 ≤ m.1 3 by omega)
                                  rcases hs3 with h9 | h9 | h9
                                  · exact absurd h9.1 q1.2.1
                                  · have q5 : mL7.1 6 = RN (m.2.1 2) (m.1 3) 2 (SK (m.2.1 2) (m.1 3) (m.1 6)) := by rw [← q1.2.2]; exact (RN_out (by omega)).symm
                                    rw [RN_in q1.1 h9.1] at q5
                                    rw [TE_2 q1.1 h9.1 (by omega)]
                                    omega
                                  · have q5 : RN (m.2.1 2) (m.1 3) 2 (SK (m.2.1 2) (m.1 3) (m.1 6)) = (SK (m.2.1 2) (m.1 3) (m.1 6)) := RN_out (Or.inr (by omega))
                                    have q6 := RN_rng (t := m.2.1 2) (c := 2) kL
                                    rw [TE_1 q1.1 h9.1]
                                    omega
                              exact ⟨_, rfl, hmL7, hfL7, kS, hE⟩
                            · intro kk224
                              refine g_aload_n (n := 0) rfl rfl ?_
                              refine g_getf (v := vI (mL7.1 6)) rfl (kl_1 _) rfl ?_
                              refine g_aload_n (n := 0) rfl rfl ?_
                              refine g_getf (v := vI (mL7.1 3)) rfl (kl_1 _) rfl ?_
                              refine g_icmp_ge (by omega) (by omega) (by omega) (by omega) rfl ?_ ?_
                              · intro kk225
                                refine g_vret rfl rfl ?_
                                have hE : mL7.1 6 = EP (m.2.1 2) (m.1 3) (m.1 6) := by
                                  show _ = TE (m.2.1 2) (m.1 3) (SK (m.2.1 2) (m.1 3) (m.1 6))
                                  rcases kC with q1 | q1 | q1
                                  · rw [TE_0 q1.1]; omega
                                  · rw [TE_2 q1.2.2 q1.1 (by omega), ← q1.2.1]
                                  · have q4 := RN_rng (t := m.2.1 2) (c := 2) (show (SK (m.2.1 2) (m.1 3) (m.1 6)) + 1 ≤ m.1 3 by omega)
                                    rcases hs3 with h9 | h9 | h9
                                    · exact absurd h9.1 q1.2.1
                                    · have q5 : mL7.1 6 = RN (m.2.1 2) (m.1 3) 2 (SK (m.2.1 2) (m.1 3) (m.1 6)) := by rw [← q1.2.2]; exact (RN_out (by omega)).symm
                                      rw [RN_in q1.1 h9.1] at q5
                                      rw [TE_2 q1.1 h9.1 (by omega)]
                                      omega
                                    · have q5 : RN (m.2.1 2) (m.1 3) 2 (SK (m.2.1 2) (m.1 3) (m.1 6)) = (SK (m.2.1 2) (m.1 3) (m.1 6)) := RN_out (Or.inr (by omega))
                                      have q6 := RN_rng (t := m.2.1 2) (c := 2) kL
                                      rw [TE_1 q1.1 h9.1]
                                      omega
                                exact ⟨_, rfl, hmL7, hfL7, kS, hE⟩
                              · intro kk226
                                refine g_aload_n (n := 0) rfl rfl ?_
                                refine g_dup rfl rfl ?_
                                refine g_getf (v := vI (mL7.1 6)) rfl (kl_1 _) rfl ?_
                                refine g_iconst rfl ?_
                                refine g_iadd rfl ?_
                                refine g_putF (m' := (kF mL7 6 (mL7.1 6 + 1))) rfl (kl_1 _) rfl rfl rfl rfl (kF_6 _ _) ?_
                                have hm227 : kI (kF mL7 6 (mL7.1 6 + 1)) := kI_F hmL7 6 (show (0 : Int) ≤ (mL7.1 6 + 1) by omega) (show (mL7.1 6 + 1) ≤ (200 : Int) by omega)
                                have hf228 : fr [5, 6] [] m (kF mL7 6 (mL7.1 6 + 1)) := fr_F hfL7 6 _ rfl
                                refine g_vret rfl rfl ?_
                                have hE : (mL7.1 6 + 1) = EP (m.2.1 2) (m.1 3) (m.1 6) := by
                                  show _ = TE (m.2.1 2) (m.1 3) (SK (m.2.1 2) (m.1 3) (m.1 6))
                                  rcases kC with q1 | q1 | q1
                                  · rw [TE_0 q1.1]; omega
                                  · rw [TE_2 q1.2.2 q1.1 (by omega), ← q1.2.1]; exfalso; have q4 := RN_rng (t := m.2.1 2) (c := 1) (show (SK (m.2.1 2) (m.1 3) (m.1 6)) + 1 ≤ m.1 3 by omega); omega
                                  · have q4 := RN_rng (t := m.2.1 2) (c := 2) (show (SK (m.2.1 2) (m.1 3) (m.1 6)) + 1 ≤ m.1 3 by omega)
                                    rcases hs3 with h9 | h9 | h9
                                    · exact absurd h9.1 q1.2.1
                                    · have q5 : mL7.1 6 = RN (m.2.1 2) (m.1 3) 2 (SK (m.2.1 2) (m.1 3) (m.1 6)) := by rw [← q1.2.2]; exact (RN_out (by omega)).symm
                                      rw [RN_in q1.1 h9.1] at q5
                                      rw [TE_2 q1.1 h9.1 (by omega)]
                                      omega
                                    · have q5 : RN (m.2.1 2) (m.1 3) 2 (SK (m.2.1 2) (m.1 3) (m.1 6)) = (SK (m.2.1 2) (m.1 3) (m.1 6)) := RN_out (Or.inr (by omega))
                                      have q6 := RN_rng (t := m.2.1 2) (c := 2) kL
                                      rw [TE_1 q1.1 h9.1]
                                      omega
                                exact ⟨_, rfl, hm227, hf228, kS, hE⟩
                          · intro kk229
                            have hs4 := srt_sp (m.2.1 2 (mL7.1 6))
                            have hs3 := srt_sp (m.2.1 2 (SK (m.2.1 2) (m.1 3) (m.1 6)))
                            have e5 : m.2.1 2 (mL7.1 5) = m.2.1 2 (SK (m.2.1 2) (m.1 3) (m.1 6)) := by rw [kS]
                            have hkn : (m.1 3 ≤ (SK (m.2.1 2) (m.1 3) (m.1 6)) ∧ (mL7.1 6 + 1) = (SK (m.2.1 2) (m.1 3) (m.1 6))) ∨ (srt (m.2.1 2 (SK (m.2.1 2) (m.1 3) (m.1 6))) = 1 ∧ (mL7.1 6 + 1) = RN (m.2.1 2) (m.1 3) 1 ((SK (m.2.1 2) (m.1 3) (m.1 6)) + 1) ∧ (SK (m.2.1 2) (m.1 3) (m.1 6)) < m.1 3) ∨ ((SK (m.2.1 2) (m.1 3) (m.1 6)) < m.1 3 ∧ srt (m.2.1 2 (SK (m.2.1 2) (m.1 3) (m.1 6))) ≠ 1 ∧ RN (m.2.1 2) (m.1 3) 2 ((mL7.1 6 + 1)) = RN (m.2.1 2) (m.1 3) 2 (SK (m.2.1 2) (m.1 3) (m.1 6))) := by
                              rcases kC with q1 | q1 | q1
                              · exfalso; omega
                              · exfalso; omega
                              · exact Or.inr (Or.inr ⟨q1.1, q1.2.1, by rw [← RN_in (by omega) (show srt (m.2.1 2 (mL7.1 6)) = 2 by omega)]; exact q1.2.2⟩)
                            refine g_aload_n (n := 0) rfl rfl ?_
                            refine g_dup rfl rfl ?_
                            refine g_getf (v := vI (mL7.1 6)) rfl (kl_1 _) rfl ?_
                            refine g_iconst rfl ?_
                            refine g_iadd rfl ?_
                            refine g_putF (m' := (kF mL7 6 (mL7.1 6 + 1))) rfl (kl_1 _) rfl rfl rfl rfl (kF_6 _ _) ?_
                            have hm230 : kI (kF mL7 6 (mL7.1 6 + 1)) := kI_F hmL7 6 (show (0 : Int) ≤ (mL7.1 6 + 1) by omega) (show (mL7.1 6 + 1) ≤ (200 : Int) by omega)
                            have hf231 : fr [5, 6] [] m (kF mL7 6 (mL7.1 6 + 1)) := fr_F hfL7 6 _ rfl
                            refine g_goto rfl ?_
                            have h232 : (kF mL7 6 (mL7.1 6 + 1)).1 6 = (mL7.1 6 + 1) := rfl
                            exact ih93_7 _ (by omega)  (kF mL7 6 (mL7.1 6 + 1)) hm230 hf231 hkn (by show mL7.1 6 + 1 ≤ m.1 3; omega) kS (by omega) rfl
                  exact L93_7 _  mL5 hmL5 hfL5 hk0 jL jS jG rfl
                · intro kk233
                  have hs4 := srt_sp (m.2.1 2 (mL5.1 6))
                  have hjn : RN (m.2.1 2) (m.1 3) 1 (mL5.1 6 + 1) = RN (m.2.1 2) (m.1 3) 1 (SK (m.2.1 2) (m.1 3) (m.1 6)) := by rw [← RN_in (by omega) (show srt (m.2.1 2 (mL5.1 6)) = 1 by omega)]; exact jR
                  refine g_aload_n (n := 0) rfl rfl ?_
                  refine g_dup rfl rfl ?_
                  refine g_getf (v := vI (mL5.1 6)) rfl (kl_1 _) rfl ?_
                  refine g_iconst rfl ?_
                  refine g_iadd rfl ?_
                  refine g_putF (m' := (kF mL5 6 (mL5.1 6 + 1))) rfl (kl_1 _) rfl rfl rfl rfl (kF_6 _ _) ?_
                  have hm234 : kI (kF mL5 6 (mL5.1 6 + 1)) := kI_F hmL5 6 (show (0 : Int) ≤ (mL5.1 6 + 1) by omega) (show (mL5.1 6 + 1) ≤ (200 : Int) by omega)
                  have hf235 : fr [5, 6] [] m (kF mL5 6 (mL5.1 6 + 1)) := fr_F hfL5 6 _ rfl
                  refine g_goto rfl ?_
                  have h236 : (kF mL5 6 (mL5.1 6 + 1)).1 6 = (mL5.1 6 + 1) := rfl
                  exact ih54_5 _ (by omega)  (kF mL5 6 (mL5.1 6 + 1)) hm234 hf235 hjn (by show mL5.1 6 + 1 ≤ m.1 3; omega) jS (by omega) rfl
          have h237 : (kF mL1 6 (mL1.1 5)).1 6 = mL1.1 5 := rfl
          exact L54_5 _  (kF mL1 6 (mL1.1 5)) hm126 hf127 hj0 (by omega) hs0 (by omega) rfl
        · intro kk238
          have hin : SK (m.2.1 2) (m.1 3) (mL1.1 5 + 1) = (SK (m.2.1 2) (m.1 3) (m.1 6)) := by rw [← SK_in (by omega) (by omega)]; exact iS
          refine g_aload_n (n := 0) rfl rfl ?_
          refine g_dup rfl rfl ?_
          refine g_getf (v := vI (mL1.1 5)) rfl (kl_1 _) rfl ?_
          refine g_iconst rfl ?_
          refine g_iadd rfl ?_
          refine g_putF (m' := (kF mL1 5 (mL1.1 5 + 1))) rfl (kl_1 _) rfl rfl rfl rfl (kF_5 _ _) ?_
          have hm239 : kI (kF mL1 5 (mL1.1 5 + 1)) := kI_F hmL1 5 (show (0 : Int) ≤ (mL1.1 5 + 1) by omega) (show (mL1.1 5 + 1) ≤ (200 : Int) by omega)
          have hf240 : fr [5, 6] [] m (kF mL1 5 (mL1.1 5 + 1)) := fr_F hfL1 5 _ rfl
          refine g_goto rfl ?_
          have h241 : (kF mL1 5 (mL1.1 5 + 1)).1 5 = (mL1.1 5 + 1) := rfl
          exact ih8_1 _ (by omega)  (kF mL1 5 (mL1.1 5 + 1)) hm239 hf240 hin (by show mL1.1 5 + 1 ≤ m.1 3; omega) rfl
  have h242 : (kF m 5 (m.1 6)).1 5 = m.1 6 := rfl
  exact L8_1 _  (kF m 5 (m.1 6)) hm3 hf4 rfl he rfl
