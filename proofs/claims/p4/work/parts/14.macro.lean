/-! ===== the loop that fills depths, in one step; a text's length ===== -/
theorem mc_2 : decode cX10_search 2 = .ok (.iload_n 2, 1) := by decide +kernel
theorem mc_3 : decode cX10_search 3 = .ok (.ldc 33, 2) := by decide +kernel
theorem mc_5 : decode cX10_search 5 = .ok (.if_icmp .ge 16, 3) := by decide +kernel
theorem mc_8 : decode cX10_search 8 = .ok (.aload_n 0, 1) := by decide +kernel
theorem mc_9 : decode cX10_search 9 = .ok (.getfield 34, 3) := by decide +kernel
theorem mc_12 : decode cX10_search 12 = .ok (.iload_n 2, 1) := by decide +kernel
theorem mc_13 : decode cX10_search 13 = .ok (.iconst (-1), 1) := by decide +kernel
theorem mc_14 : decode cX10_search 14 = .ok (.iastore, 1) := by decide +kernel
theorem mc_15 : decode cX10_search 15 = .ok (.iinc 2 1, 3) := by decide +kernel
theorem mc_18 : decode cX10_search 18 = .ok (.goto (-16), 3) := by decide +kernel
theorem mc_m1 : nI 4294967295 = -1 := by decide +kernel
theorem mc_lim : (64512 : Int32) = nI 64512 := by decide +kernel
section MAC
variable {XS : (Nat → Prop) → State → Prop} {E : Nat → Value} {dC : Nat → ClassId} {dI : Nat → Nat → Nat} {dT : Nat → ClassId} {A : Nat → Prop} {me : ae_M} {d q : Nat} {p : Program} {l : Launch} {e : Env} {R : Room} {s : State} {m : MethodId} {args : Array Value} {below : List Frame} {meth : Method} {c : Code} {Q : State → Prop} {ad0 : List Nat}
variable {K : ae_K} {res : ae_R} {pc : Nat} {lo : ae_L} {st : List ae_V} {w : List ae_C} {cs sl : Nat}
abbrev mc_f (q : Nat × Value) : Bool := !(q.1 == 2) && !(q.1 + 1 == 2 && q.2.category == 2)
set_option maxRecDepth 100000 in
theorem mc_loop (hF : ag_F XS dC dI dT A me d q p R s m args meth c) (hcc : me.2.1 = cX10_search) (hcls : me.1.cls = RX10) (hmL : 2 < ae_mL me) {ws0 : va_W} {o ar qo qa : Nat} {vs : List Value} {e0 : va_E} (ho : ws0[o]? = some (qo, .inr (8, vs))) (hv : vs[20]? = some (.ref qa)) (ha : ws0[ar]? = some (qa, e0)) (hne : ar ≠ o) {lv2 : List (Nat × Value)} (h0m : (0, Value.ref qo) ∈ lv2) (hlf : lv2.filter mc_f = lv2) {stv : List Value}
    (kk : ∀ (f : Nat → Int32) (H : Heap) (locs : List Loc) (ls : Array Slot), (∀ j : Nat, j < 64512 → f j = -1) → va_P (dC, dI) vwCl (ws0.set ar (qa, .inl (dT 0, 64512, .inl f))) H → va_D A (ws0.set ar (qa, .inl (dT 0, 64512, .inl f))) → va_S A s.heap H locs → lv_has ls (ae_mL me) ((2, .int (nI 64512)) :: lv2) → W p l e R s m args below meth c H locs cs sl Q (F0 m 21 ls stv)) :
    ∀ (n j : Nat) (f : Nat → Int32) (H : Heap) (locs : List Loc) (ls : Array Slot), j + n = 64512 → (∀ k : Nat, k < j → f k = -1) → va_P (dC, dI) vwCl (ws0.set ar (qa, .inl (dT 0, 64512, .inl f))) H → va_D A (ws0.set ar (qa, .inl (dT 0, 64512, .inl f))) → va_S A s.heap H locs → lv_has ls (ae_mL me) ((2, .int (nI j)) :: lv2) → W p l e R s m args below meth c H locs cs sl Q (F0 m 2 ls stv) := by
  obtain ⟨hx, hb, hml, hown, hts, hK, hA, hlk, hret, hnm, hR1, hR2, hR3, hR4, hXS⟩ := hF
  rw [hcc] at hb
  rw [hcls] at hown
  intro n
  induction n with
  | zero =>
    intro j f H locs ls hj hf hP hD hS hl
    have hj : j = 64512 := by omega
    subst hj
    refine lv_iload_n hx hb mc_2 rfl (lv_at hl 0 rfl) ?_
    refine lv_ldc hx hb hown (hts (.constant RX10 33 64512) (by decide +kernel)) mc_3 ?_
    refine lv_icmp_ge (tgt := 21) hx hb mc_5 (by decide) (fun _ => kk f H locs ls hf hP hD hS hl) (fun h9 => absurd ?_ h9)
    rw [mc_lim]
    exact nI_le (Nat.le_refl _) (by omega)
  | succ n ih =>
    intro j f H locs ls hj hf hP hD hS hl
    have hjl : j < 64512 := by omega
    have hget : (ws0.set ar (qa, .inl (dT 0, 64512, .inl f)))[o]? = some (qo, .inr (8, vs)) := by rw [List.getElem?_set_ne hne]; exact ho
    have harl : ar < ws0.length := (List.getElem?_eq_some_iff.mp ha).1
    have hget2 : (ws0.set ar (qa, .inl (dT 0, 64512, .inl f)))[ar]? = some (qa, .inl (dT 0, 64512, .inl f)) := by rw [List.getElem?_set_self harl]
    obtain ⟨k0, hk0⟩ := List.getElem?_of_mem h0m
    refine lv_iload_n hx hb mc_2 rfl (lv_at hl 0 rfl) ?_
    refine lv_ldc hx hb hown (hts (.constant RX10 33 64512) (by decide +kernel)) mc_3 ?_
    refine lv_icmp_ge (tgt := 21) hx hb mc_5 (by decide) (fun h9 => absurd h9 (by rw [mc_lim]; exact nI_ge hjl (by omega))) (fun _ => ?_)
    refine lv_aload_n hx hb mc_8 rfl (lv_at hl (k0 + 1) (by simpa using hk0)) ?_
    refine va_get (C := RX10) (T := TX10) (N := 31) (ref := "OneKeyModel") hx hb hts (by decide +kernel) hown hK hP o hget rfl 20 (by decide) (hts (.fieldLink RX10 34 "OneKeyModel" "depths" "[I") (by decide +kernel)) (fun _ h9 => h9) hv mc_9 ?_
    refine lv_iload_n hx hb mc_12 rfl (lv_at hl 0 rfl) ?_
    refine lv_iconst (v := -1) hx hb mc_13 (by decide) ?_
    refine va_iast hx hb hK hP hD hS ar 0 hget2 rfl (vp_in_nI hjl (by omega)) mc_14 (fun H1 locs1 hP1 hD1 hS1 => ?_)
    rw [nI_clamp (by omega), List.set_set] at hP1 hD1
    refine lv_iinc (v := nI (j + 1)) hx hb mc_15 hl (k := 0) rfl (by rw [nI_succ]; rfl) hmL rfl (fun ls2 hl2 => ?_)
    refine lv_goto (tgt := 2) hx hb mc_18 (by decide) ?_
    refine ih (j + 1) (upd f j (-1)) H1 locs1 ls2 (by omega) (fun k hk => ?_) hP1 hD1 hS1 ?_
    · by_cases hkj : k = j
      · rw [hkj, pk_us]
      · rw [pk_un hkj]
        exact hf k (by omega)
    · have e1 : ((2, Value.int (nI j)) :: lv2).filter mc_f = lv2 := by
        rw [List.filter_cons]
        show (if mc_f (2, Value.int (nI j)) = true then _ else _) = _
        rw [if_neg (show ¬ mc_f (2, Value.int (nI j)) = true from fun q => by cases q), hlf]
      have hl2 : lv_has ls2 (ae_mL me) ((2, .int (nI (j + 1))) :: ((2, Value.int (nI j)) :: lv2).filter mc_f) := hl2
      rw [e1] at hl2
      exact hl2
theorem as_macro (hE : ∀ k, E k = .null ∨ ∃ q, E k = .ref q) (hF : ag_F XS dC dI dT A me d q p R s m args meth c) (hN : ag_N E dC dI dT A me p l e R s m args below meth c Q ad0 K res) (hcc : me.2.1 = cX10_search) (hcls : me.1.cls = RX10) (hmL : 2 < ae_mL me) {ie : ae_E} (hi1 : ie.2.2.1 = 21) (hi2 : ie.2.2.2.1 = 20) (h : ae_macro K ie pc lo st w cs sl = some res) : ag_H E dC dI dT A me p l e R s m args below meth c Q ad0 2 lo st w cs sl := by
  intro ad ws H locs lv ls stv hat
  obtain ⟨hcs, hex, had, hl, hlo, hst, hw, hP, hD, hS⟩ := hat
  unfold ae_macro at h
  rw [hi1, hi2] at h
  obtain ⟨o, ho, h⟩ := ae_la1_inv h
  cases o with
  | inr z => cases h
  | inl o =>
    obtain ⟨z, hz, h⟩ := ae_li1_inv h
    match z, hz, h with
    | .inr _, _, h => cases h
    | .inl (_ + 1), _, h => cases h
    | .inl 0, hz, h =>
      obtain ⟨ci, fs, hwo, h⟩ := ae_obj_inv h
      obtain ⟨hci, h⟩ := ae_if_inv h
      have hci := ae_beq hci
      subst hci
      obtain ⟨ar, har, h⟩ := ae_la1_inv h
      cases ar with
      | inr z => cases h
      | inl ar =>
        obtain ⟨t, n, dv, ex, hwa, h⟩ := ae_arr_inv h
        obtain ⟨hc, h⟩ := ae_if_inv h
        obtain ⟨ht, hn⟩ := ae_and hc
        have ht := ae_beq ht
        have hn := ae_beq hn
        subst ht
        subst hn
        rw [ae_set_eq, ae_fil_eq] at h
        rw [ae_nth_eq] at hwo har hwa
        obtain ⟨k0, v0, hk0, q0, hq0, e0⟩ := ag_L_get hlo ho
        subst e0
        obtain ⟨k2, v2, hk2, x2, e2, hx2⟩ := ag_L_get hlo hz
        subst e2
        have hx2 : x2 = nI 0 := hx2
        subst hx2
        obtain ⟨en, hen, hC⟩ := ag_cell had hw hq0 hwo
        obtain ⟨vs, rfl, hvs⟩ := ag_C_obj hC
        obtain ⟨va, hva, qa, hqa, e3⟩ := ag_S_nth hvs har
        subst e3
        obtain ⟨en2, hen2, hC2⟩ := ag_cell had hw hqa hwa
        obtain ⟨bd, rfl, hT, -⟩ := ag_C_arr hC2
        obtain ⟨f, rfl⟩ := ag_T0 hT
        have hne : ar ≠ o := fun q => by
          rw [q, hen] at hen2
          cases hen2
        have hset : ws.set ar (qa, .inl (dT 0, 64512, .inl f)) = ws := by
          obtain ⟨h1, h2⟩ := List.getElem?_eq_some_iff.mp hen2
          rw [← h2]
          exact List.set_getElem_self h1
        refine mc_loop hF hcc hcls hmL hen hva hen2 hne (lv2 := lv.filter mc_f) (List.mem_filter.mpr ⟨List.mem_of_getElem? hk0, rfl⟩) (by rw [List.filter_filter]; simp) (fun f2 H2 locs2 ls2 hf2 hP2 hD2 hS2 hl2 => ?_) 64512 0 f H locs ls rfl (fun k hk => absurd hk (Nat.not_lt_zero k)) (by rw [hset]; exact hP) (by rw [hset]; exact hD) hS ⟨hl.1, hl.2.1, fun x hx => ?_⟩
        · refine hN _ _ _ _ _ _ h ad _ H2 locs2 _ ls2 _ ⟨hcs, hex, ag_set_ad had hen2, hl2, ⟨⟨rfl, _, rfl, rfl⟩, ag_L_fil1 hE 2 hlo⟩, hst, ag_W_set (q := (qa, .inl (dT 0, 64512, .inl f2))) (ag_mkA (show ag_T 0 (.inl _) from Or.inl rfl) (fun j hj => ?_)) hw, hP2, hD2, hS2⟩
          refine ⟨f2 j, rfl, ?_⟩
          show f2 j = nI 4294967295
          rw [mc_m1]
          exact hf2 j hj
        · rcases List.mem_cons.mp hx with rfl | hx
          · exact lv_at hl k2 hk2
          · exact hl.2.2 x (List.mem_filter.mp hx).1
end MAC
