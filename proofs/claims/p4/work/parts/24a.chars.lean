/-! ===== String.charAt of a text; the row of kinds; constants with long numbers ===== -/
def mJ3_check : ae_M := (yJ3_checkIndex_8e157, cJ3_checkIndex_8e157, 3, some .int, 0, 0, [])
def mJ0_check : ae_M := (yJ0_checkIndex_df160, cJ0_checkIndex_df160, 2, none, 0, 0, [])
def mJ0_lat : ae_M := (yJ0_isLatin1_aae02, cJ0_isLatin1_aae02, 1, some .boolean, 0, 0, [])
def mJ1_chr : ae_M := (yJ1_charAt_3b067, cJ1_charAt_3b067, 2, some .char, 0, 0, [])
def mJ0_chr : ae_M := (yJ0_charAt_5068e, cJ0_charAt_5068e, 2, some .char, 0, 0, [])
theorem sp_0 : decode cJ3_checkIndex_8e157 0 = .ok (.iload_n 0, 1) := by decide +kernel
theorem sp_1 : decode cJ3_checkIndex_8e157 1 = .ok (.ifCond .lt 8, 3) := by decide +kernel
theorem sp_4 : decode cJ3_checkIndex_8e157 4 = .ok (.iload_n 0, 1) := by decide +kernel
theorem sp_5 : decode cJ3_checkIndex_8e157 5 = .ok (.iload_n 1, 1) := by decide +kernel
theorem sp_6 : decode cJ3_checkIndex_8e157 6 = .ok (.if_icmp .lt 10, 3) := by decide +kernel
theorem sp_16 : decode cJ3_checkIndex_8e157 16 = .ok (.iload_n 0, 1) := by decide +kernel
theorem sp_17 : decode cJ3_checkIndex_8e157 17 = .ok (.ireturn, 1) := by decide +kernel
theorem sk_0 : decode cJ0_checkIndex_df160 0 = .ok (.iload_n 0, 1) := by decide +kernel
theorem sk_1 : decode cJ0_checkIndex_df160 1 = .ok (.iload_n 1, 1) := by decide +kernel
theorem sk_2 : decode cJ0_checkIndex_df160 2 = .ok (.getstatic 1053, 3) := by decide +kernel
theorem sk_5 : decode cJ0_checkIndex_df160 5 = .ok (.invokestatic 1059, 3) := by decide +kernel
theorem sk_8 : decode cJ0_checkIndex_df160 8 = .ok (.pop, 1) := by decide +kernel
theorem sk_9 : decode cJ0_checkIndex_df160 9 = .ok (.return_, 1) := by decide +kernel
theorem st_0 : decode cJ0_isLatin1_aae02 0 = .ok (.getstatic 38, 3) := by decide +kernel
theorem st_3 : decode cJ0_isLatin1_aae02 3 = .ok (.ifCond .eq 14, 3) := by decide +kernel
theorem st_6 : decode cJ0_isLatin1_aae02 6 = .ok (.aload_n 0, 1) := by decide +kernel
theorem st_7 : decode cJ0_isLatin1_aae02 7 = .ok (.getfield 15, 3) := by decide +kernel
theorem st_10 : decode cJ0_isLatin1_aae02 10 = .ok (.ifCond .ne 7, 3) := by decide +kernel
theorem st_13 : decode cJ0_isLatin1_aae02 13 = .ok (.iconst 1, 1) := by decide +kernel
theorem st_14 : decode cJ0_isLatin1_aae02 14 = .ok (.goto 4, 3) := by decide +kernel
theorem st_18 : decode cJ0_isLatin1_aae02 18 = .ok (.ireturn, 1) := by decide +kernel
theorem sr_0 : decode cJ1_charAt_3b067 0 = .ok (.iload_n 1, 1) := by decide +kernel
theorem sr_1 : decode cJ1_charAt_3b067 1 = .ok (.aload_n 0, 1) := by decide +kernel
theorem sr_2 : decode cJ1_charAt_3b067 2 = .ok (.arraylength, 1) := by decide +kernel
theorem sr_3 : decode cJ1_charAt_3b067 3 = .ok (.invokestatic 9, 3) := by decide +kernel
theorem sr_6 : decode cJ1_charAt_3b067 6 = .ok (.aload_n 0, 1) := by decide +kernel
theorem sr_7 : decode cJ1_charAt_3b067 7 = .ok (.iload_n 1, 1) := by decide +kernel
theorem sr_8 : decode cJ1_charAt_3b067 8 = .ok (.baload, 1) := by decide +kernel
theorem sr_9 : decode cJ1_charAt_3b067 9 = .ok (.sipush 255, 3) := by decide +kernel
theorem sr_12 : decode cJ1_charAt_3b067 12 = .ok (.iand, 1) := by decide +kernel
theorem sr_13 : decode cJ1_charAt_3b067 13 = .ok (.i2c, 1) := by decide +kernel
theorem sr_14 : decode cJ1_charAt_3b067 14 = .ok (.ireturn, 1) := by decide +kernel
theorem sq_0 : decode cJ0_charAt_5068e 0 = .ok (.aload_n 0, 1) := by decide +kernel
theorem sq_1 : decode cJ0_charAt_5068e 1 = .ok (.invokevirtual 492, 3) := by decide +kernel
theorem sq_4 : decode cJ0_charAt_5068e 4 = .ok (.ifCond .eq 12, 3) := by decide +kernel
theorem sq_7 : decode cJ0_charAt_5068e 7 = .ok (.aload_n 0, 1) := by decide +kernel
theorem sq_8 : decode cJ0_charAt_5068e 8 = .ok (.getfield 9, 3) := by decide +kernel
theorem sq_11 : decode cJ0_charAt_5068e 11 = .ok (.iload_n 1, 1) := by decide +kernel
theorem sq_12 : decode cJ0_charAt_5068e 12 = .ok (.invokestatic 495, 3) := by decide +kernel
theorem sq_15 : decode cJ0_charAt_5068e 15 = .ok (.ireturn, 1) := by decide +kernel
theorem sx_tab : ∀ k : Nat, k < 12 → ∀ j : Nat, j < ae_SN.getD k 0 → (((((ae_SB.getD k []).getD j 0) &&& 255).toUInt32 % 65536).toInt32 = (ae_SB.getD k []).getD j 0 ∧ ((ae_SB.getD k []).getD j 0).toUInt32.toUInt16.toUInt32.toInt32 = (ae_SB.getD k []).getD j 0) := by decide +kernel
theorem sx_len : ∀ k : Nat, k < 12 → ae_SN.getD k 0 < 2 ^ 31 := by decide +kernel
theorem sx_nn {i n : Nat} (h : i < n) (hn : n < 2 ^ 31) : ¬ nI i < 0 := fun h0 => vp_in_nI h hn (Or.inl h0)
section CHR
variable {adK adV : Nat → Nat} {b L : Nat} {xs : Nat → Int32} {dC : Nat → ClassId} {dI : Nat → Nat → Nat} {dT : Nat → ClassId}
set_option maxRecDepth 100000 in
theorem sx_pchk (l : Launch) (d q : Nat) {i n : Nat} (hi : i < n) (hn : n < 2 ^ 31) {v : Value} (hv9 : v = .null ∨ ∃ r, v = .ref r) (w : List ae_C) (ad : List Nat) (ws : va_W) (sz : Nat) (had : ws.map Prod.fst = ad) (hw : ag_W (ag_E adK b) dT ad w ws) :
    Met l yJ3_checkIndex_8e157 (ag_ws mJ3_check) (ag_rm mJ3_check d q) (ag_Pc (ag_X adK adV b L xs) dC dI dT [.int (nI i), .int (nI n), v] ws sz) (ag_Qc (ag_E adK b) dC dI dT (va_A ws sz) ad (some (.inl (.inl i)), w)) 0 0 (va_A ws sz) := by
  rcases hv9 with rfl | ⟨r9, rfl⟩
  · refine Met.ofW (cc := cJ3_checkIndex_8e157) (maxL := 3) (ret := some .int) (by decide) rfl ?_
    intro p e s m args below meth c s₁ B hml hv
    obtain ⟨rfl, hsz, hP, hK, hD0, hXS⟩ := hv
    have hx := B.exec
    have hb := B.bytes
    have hr := B.returns
    have hts := atoms_spec (ws := ag_ws mJ3_check) B.pre
    have hts : ∀ w ∈ lw_gt, w.before _ s = true := fun w h => hts w (List.mem_cons_of_mem _ h)
    have hown : s.vm.findClass RJ3 = some m.cls := findClass_of_methodNamed B.named
    have hlocks := B.notSynchronized
    subst hsz
    have hD := hD0.self (sz := s.heap.size)
    have hA : ∀ z : Nat, s.heap.size ≤ z → va_A ws s.heap.size z := fun z h => Or.inr h
    have hS : va_S (va_A ws s.heap.size) s.heap s.heap [] := va_S.rf
    have hl := lv_entry ([.int (nI i), .int (nI n), .null]) (n := 3) (Nat.le_of_ble_eq_true rfl)
    rw [lg_entry_eq]
    generalize (lg_sl ([.int (nI i), .int (nI n), .null]) ++ List.replicate (3 - (lg_sl ([.int (nI i), .int (nI n), .null])).length) Slot.unset).toArray = ls at hl ⊢
    have hl : lv_has ls 3 [(0, .int (nI i)), (1, .int (nI n)), (2, .null)] := hl
    refine lv_iload_n hx hb sp_0 rfl (lv_at hl 0 rfl) ?_
    refine lv_if_lt (tgt := 9) hx hb sp_1 (by decide) (fun h0 => absurd h0 (sx_nn hi hn)) (fun _ => ?_)
    refine lv_iload_n hx hb sp_4 rfl (lv_at hl 0 rfl) ?_
    refine lv_iload_n hx hb sp_5 rfl (lv_at hl 1 rfl) ?_
    refine lv_icmp_lt (tgt := 16) hx hb sp_6 (by decide) (fun _ => ?_) (fun h => absurd (nI_lt hi hn) h)
    refine lv_iload_n hx hb sp_16 rfl (lv_at hl 0 rfl) ?_
    exact W.iret (v := nI i) hx hb hr (fun t ht hW => ⟨⟨some (.int (nI i)), [], ws, rfl, by rw [List.append_nil]; exact had, ⟨nI i, rfl, rfl⟩, by rw [List.append_nil]; exact hw, by rw [ht]; exact hP, hD⟩, hS.F ht⟩) hS.2.2 sp_17
  · refine Met.ofW (cc := cJ3_checkIndex_8e157) (maxL := 3) (ret := some .int) (by decide) rfl ?_
    intro p e s m args below meth c s₁ B hml hv
    obtain ⟨rfl, hsz, hP, hK, hD0, hXS⟩ := hv
    have hx := B.exec
    have hb := B.bytes
    have hr := B.returns
    have hts := atoms_spec (ws := ag_ws mJ3_check) B.pre
    have hts : ∀ w ∈ lw_gt, w.before _ s = true := fun w h => hts w (List.mem_cons_of_mem _ h)
    have hown : s.vm.findClass RJ3 = some m.cls := findClass_of_methodNamed B.named
    have hlocks := B.notSynchronized
    subst hsz
    have hD := hD0.self (sz := s.heap.size)
    have hA : ∀ z : Nat, s.heap.size ≤ z → va_A ws s.heap.size z := fun z h => Or.inr h
    have hS : va_S (va_A ws s.heap.size) s.heap s.heap [] := va_S.rf
    have hl := lv_entry ([.int (nI i), .int (nI n), .ref r9]) (n := 3) (Nat.le_of_ble_eq_true rfl)
    rw [lg_entry_eq]
    generalize (lg_sl ([.int (nI i), .int (nI n), .ref r9]) ++ List.replicate (3 - (lg_sl ([.int (nI i), .int (nI n), .ref r9])).length) Slot.unset).toArray = ls at hl ⊢
    have hl : lv_has ls 3 [(0, .int (nI i)), (1, .int (nI n)), (2, .ref r9)] := hl
    refine lv_iload_n hx hb sp_0 rfl (lv_at hl 0 rfl) ?_
    refine lv_if_lt (tgt := 9) hx hb sp_1 (by decide) (fun h0 => absurd h0 (sx_nn hi hn)) (fun _ => ?_)
    refine lv_iload_n hx hb sp_4 rfl (lv_at hl 0 rfl) ?_
    refine lv_iload_n hx hb sp_5 rfl (lv_at hl 1 rfl) ?_
    refine lv_icmp_lt (tgt := 16) hx hb sp_6 (by decide) (fun _ => ?_) (fun h => absurd (nI_lt hi hn) h)
    refine lv_iload_n hx hb sp_16 rfl (lv_at hl 0 rfl) ?_
    exact W.iret (v := nI i) hx hb hr (fun t ht hW => ⟨⟨some (.int (nI i)), [], ws, rfl, by rw [List.append_nil]; exact had, ⟨nI i, rfl, rfl⟩, by rw [List.append_nil]; exact hw, by rw [ht]; exact hP, hD⟩, hS.F ht⟩) hS.2.2 sp_17
theorem ae_FV_ok (adK adV : Nat → Nat) : ae_FV adK adV = .null ∨ ∃ r, ae_FV adK adV = .ref r := by
  unfold ae_FV
  split
  · exact Or.inl rfl
  · exact Or.inr ⟨_, rfl⟩
set_option maxRecDepth 100000 in
theorem sx_chk (l : Launch) (d q : Nat) (hd : 1 ≤ d) (hq : 22 ≤ q) {i n : Nat} (hi : i < n) (hn : n < 2 ^ 31) (w : List ae_C) (ad : List Nat) (ws : va_W) (sz : Nat) (had : ws.map Prod.fst = ad) (hw : ag_W (ag_E adK b) dT ad w ws) :
    Met l yJ0_checkIndex_df160 (ag_ws mJ0_check) (ag_rm mJ0_check d q) (ag_Pc (ag_X adK adV b L xs) dC dI dT [.int (nI i), .int (nI n)] ws sz) (ag_Qc (ag_E adK b) dC dI dT (va_A ws sz) ad (none, w)) 0 0 (va_A ws sz) := by
  refine Met.ofW (cc := cJ0_checkIndex_df160) (maxL := 2) (ret := none) (by decide) rfl ?_
  intro p e s m args below meth c s₁ B hml hv
  obtain ⟨rfl, hsz, hP, hK, hD0, hXS⟩ := hv
  have hx := B.exec
  have hb := B.bytes
  have hr := B.returns
  have hts := atoms_spec (ws := ag_ws mJ0_check) B.pre
  have hts : ∀ w ∈ lw_gt, w.before _ s = true := fun w h => hts w (List.mem_cons_of_mem _ h)
  have hown : s.vm.findClass RJ0 = some m.cls := findClass_of_methodNamed B.named
  have hlocks := B.notSynchronized
  subst hsz
  have hD := hD0.self (sz := s.heap.size)
  have hA : ∀ z : Nat, s.heap.size ≤ z → va_A ws s.heap.size z := fun z h => Or.inr h
  have hS : va_S (va_A ws s.heap.size) s.heap s.heap [] := va_S.rf
  have hl := lv_entry ([.int (nI i), .int (nI n)]) (n := 2) (Nat.le_of_ble_eq_true rfl)
  rw [lg_entry_eq]
  generalize (lg_sl ([.int (nI i), .int (nI n)]) ++ List.replicate (2 - (lg_sl ([.int (nI i), .int (nI n)])).length) Slot.unset).toArray = ls at hl ⊢
  have hl : lv_has ls 2 [(0, .int (nI i)), (1, .int (nI n))] := hl
  have hZ := hXS.2.2.2.2.2.2.2.2.2.2.2.2.2
  refine lv_iload_n hx hb sk_0 rfl (lv_at hl 0 rfl) ?_
  refine lv_iload_n hx hb sk_1 rfl (lv_at hl 1 rfl) ?_
  refine va_gets hx hb hZ hS hown (hts (.fieldLink RJ0 1053 "jdk/internal/util/Preconditions" "SIOOBE_FORMATTER" "Ljava/util/function/BiFunction;") (by decide +kernel)) (fun _ h9 => h9) sk_2 ?_
  have hM := sx_pchk (adK := adK) (adV := adV) (b := b) (L := L) (xs := xs) (dC := dC) (dI := dI) (dT := dT) l (d - 1) (q - 22) hi hn (ae_FV_ok adK adV) w ad ws s.heap.size had hw
  have hpre := ag_preS (ag_X_w adK adV b L xs) hK hP hD hS hA hXS [.int (nI i), .int (nI n), ae_FV adK adV]
  have hcb : CallB (headSpec (ag_ws mJ0_check) (ag_rm mJ0_check d q)).room s #[Value.int (nI i), Value.int (nI n)] RJ0 1059 yJ3_checkIndex_8e157 cJ3_checkIndex_8e157 3 (some .int) (ag_ws mJ3_check) (ag_rm mJ3_check (d - 1) (q - 22)) 0 0 3 := callB_of 3 hts (ag_goodIn (by decide +kernel)) rfl rfl rfl (hts (.initialized RJ3) (by decide +kernel)) (hts (.methodLink RJ0 1059 yJ3_checkIndex_8e157) (by decide +kernel)) (by decide +kernel) ⟨by show d - 1 + 1 ≤ d; omega, by show 8 + (3 + 11) + (q - 22) ≤ q; omega⟩
  have hrun := va_runS (e := e) (below := below) (meth := meth) (locs := []) (As := [.int (nI i), .int (nI n), ae_FV adK adV]) (rest := []) (nL := 2) (cells := 0) (slots := 0) ⟨hx, hb, hml, hown, hts⟩ hM ⟨hcb, hts (.static yJ3_checkIndex_8e157) (by decide +kernel)⟩ hpre (g := F0 m 5 ls [ae_FV adK adV, .int (nI n), .int (nI i)]) rfl rfl hl.1 rfl (lv_room (Nat.le_of_ble_eq_true rfl)) sk_5 ⟨Nat.zero_le _, Nat.zero_le _⟩
  refine ag_after hrun hS (fun z h => h) (fun v x ws2 H1 locs1 k1 k2 k3 k4 k5 k6 => ?_)
  match v, k2 with
  | some v, k2 =>
    obtain ⟨z, rfl, hz⟩ := k2
    refine lv_pop hx hb sk_8 rfl ?_
    exact W.vret hx hb hr (fun t ht hW => ⟨⟨none, x, ws2, rfl, k1, trivial, k3, by rw [ht]; exact k4, k5⟩, k6.F ht⟩) k6.2.2 sk_9
  | none, k2 => exact k2.elim
set_option maxRecDepth 100000 in
theorem sx_lat (l : Launch) (d q : Nat) {k : Nat} (hk : k < 12) (w : List ae_C) (ad : List Nat) (ws : va_W) (sz : Nat) (had : ws.map Prod.fst = ad) (hw : ag_W (ag_E adK b) dT ad w ws) :
    Met l yJ0_isLatin1_aae02 (ag_ws mJ0_lat) (ag_rm mJ0_lat d q) (ag_Pc (ag_X adK adV b L xs) dC dI dT [.ref (adK k)] ws sz) (ag_Qc (ag_E adK b) dC dI dT (va_A ws sz) ad (some (.inl (.inl 1)), w)) 0 0 (va_A ws sz) := by
  refine Met.ofW (cc := cJ0_isLatin1_aae02) (maxL := 1) (ret := some .boolean) (by decide) rfl ?_
  intro p e s m args below meth c s₁ B hml hv
  obtain ⟨rfl, hsz, hP, hK, hD0, hXS⟩ := hv
  have hx := B.exec
  have hb := B.bytes
  have hr := B.returns
  have hts := atoms_spec (ws := ag_ws mJ0_lat) B.pre
  have hts : ∀ w ∈ lw_gt, w.before _ s = true := fun w h => hts w (List.mem_cons_of_mem _ h)
  have hown : s.vm.findClass RJ0 = some m.cls := findClass_of_methodNamed B.named
  have hlocks := B.notSynchronized
  subst hsz
  have hD := hD0.self (sz := s.heap.size)
  have hA : ∀ z : Nat, s.heap.size ≤ z → va_A ws s.heap.size z := fun z h => Or.inr h
  have hS : va_S (va_A ws s.heap.size) s.heap s.heap [] := va_S.rf
  have hl := lv_entry ([.ref (adK k)]) (n := 1) (Nat.le_of_ble_eq_true rfl)
  rw [lg_entry_eq]
  generalize (lg_sl ([.ref (adK k)]) ++ List.replicate (1 - (lg_sl ([.ref (adK k)])).length) Slot.unset).toArray = ls at hl ⊢
  have hl : lv_has ls 1 [(0, .ref (adK k))] := hl
  obtain ⟨hSt, -, hZ, -⟩ := hXS
  refine va_gets hx hb hZ hS hown (hts (.fieldLink RJ0 38 "java/lang/String" "COMPACT_STRINGS" "Z") (by decide +kernel)) (fun _ h9 => h9) st_0 ?_
  refine lv_if_eq (tgt := 17) hx hb st_3 (by decide) (fun h0 => absurd h0 (by decide)) (fun _ => ?_)
  refine lv_aload_n hx hb st_6 rfl (lv_at hl 0 rfl) ?_
  refine vk_getf hx hb (hSt.1 k hk).2.1 hS hown (hts (.fieldLink RJ0 15 "java/lang/String" "coder" "B") (by decide +kernel)) (fun _ h9 => h9) st_7 ?_
  refine lv_if_ne (tgt := 17) hx hb st_10 (by decide) (fun h0 => absurd rfl h0) (fun _ => ?_)
  refine lv_iconst (v := 1) hx hb st_13 (by decide) ?_
  refine lv_goto (tgt := 18) hx hb st_14 (by decide) ?_
  exact W.zret (v := 1) hx hb hr rfl (fun t ht hW => ⟨⟨some (.int 1), [], ws, rfl, by rw [List.append_nil]; exact had, ⟨1, rfl, show (1 : Int32) = nI 1 by decide +kernel⟩, by rw [List.append_nil]; exact hw, by rw [ht]; exact hP, hD⟩, hS.F ht⟩) hS.2.2 st_18
set_option maxRecDepth 100000 in
theorem sx_chrL (l : Launch) (d q : Nat) (hd : 2 ≤ d) (hq : 43 ≤ q) {k j : Nat} (hk : k < 12) (hj : j < ae_SN.getD k 0) (w : List ae_C) (ad : List Nat) (ws : va_W) (sz : Nat) (had : ws.map Prod.fst = ad) (hw : ag_W (ag_E adK b) dT ad w ws) :
    Met l yJ1_charAt_3b067 (ag_ws mJ1_chr) (ag_rm mJ1_chr d q) (ag_Pc (ag_X adK adV b L xs) dC dI dT [.ref (adV k), .int (nI j)] ws sz) (ag_Qc (ag_E adK b) dC dI dT (va_A ws sz) ad (some (.inl (.inl (ae_c ((ae_SB.getD k []).getD j 0)))), w)) 0 0 (va_A ws sz) := by
  refine Met.ofW (cc := cJ1_charAt_3b067) (maxL := 2) (ret := some .char) (by decide) rfl ?_
  intro p e s m args below meth c s₁ B hml hv
  obtain ⟨rfl, hsz, hP, hK, hD0, hXS⟩ := hv
  have hx := B.exec
  have hb := B.bytes
  have hr := B.returns
  have hts := atoms_spec (ws := ag_ws mJ1_chr) B.pre
  have hts : ∀ w ∈ lw_gt, w.before _ s = true := fun w h => hts w (List.mem_cons_of_mem _ h)
  have hown : s.vm.findClass RJ1 = some m.cls := findClass_of_methodNamed B.named
  have hlocks := B.notSynchronized
  subst hsz
  have hD := hD0.self (sz := s.heap.size)
  have hA : ∀ z : Nat, s.heap.size ≤ z → va_A ws s.heap.size z := fun z h => Or.inr h
  have hS : va_S (va_A ws s.heap.size) s.heap s.heap [] := va_S.rf
  have hl := lv_entry ([.ref (adV k), .int (nI j)]) (n := 2) (Nat.le_of_ble_eq_true rfl)
  rw [lg_entry_eq]
  generalize (lg_sl ([.ref (adV k), .int (nI j)]) ++ List.replicate (2 - (lg_sl ([.ref (adV k), .int (nI j)])).length) Slot.unset).toArray = ls at hl ⊢
  have hl : lv_has ls 2 [(0, .ref (adV k)), (1, .int (nI j))] := hl
  have hSt := hXS.1
  have hln := sx_len k hk
  obtain ⟨ht1, ht2⟩ := sx_tab k hk j hj
  refine lv_iload_n hx hb sr_0 rfl (lv_at hl 1 rfl) ?_
  refine lv_aload_n hx hb sr_1 rfl (lv_at hl 0 rfl) ?_
  refine va_tlen hx hb (hSt.1 k hk).2.2.2 hS rfl sr_2 ?_
  have hM := sx_chk (adK := adK) (adV := adV) (b := b) (L := L) (xs := xs) (dC := dC) (dI := dI) (dT := dT) l (d - 1) (q - 21) (by omega) (by omega) hj hln w ad ws s.heap.size had hw
  have hpre := ag_preS (ag_X_w adK adV b L xs) hK hP hD hS hA hXS [.int (nI j), .int (nI (ae_SN.getD k 0))]
  have hcb : CallB (headSpec (ag_ws mJ1_chr) (ag_rm mJ1_chr d q)).room s #[Value.ref (adV k), Value.int (nI j)] RJ1 9 yJ0_checkIndex_df160 cJ0_checkIndex_df160 2 none (ag_ws mJ0_check) (ag_rm mJ0_check (d - 1) (q - 21)) 0 0 2 := callB_of 2 hts (ag_goodIn (by decide +kernel)) rfl rfl rfl (hts (.initialized RJ0) (by decide +kernel)) (hts (.methodLink RJ1 9 yJ0_checkIndex_df160) (by decide +kernel)) (by decide +kernel) ⟨by show d - 1 + 1 ≤ d; omega, by show 8 + (2 + 11) + (q - 21) ≤ q; omega⟩
  have hrun := va_runS (e := e) (below := below) (meth := meth) (locs := []) (As := [.int (nI j), .int (nI (ae_SN.getD k 0))]) (rest := []) (nL := 2) (cells := 0) (slots := 0) ⟨hx, hb, hml, hown, hts⟩ hM ⟨hcb, hts (.static yJ0_checkIndex_df160) (by decide +kernel)⟩ hpre (g := F0 m 3 ls [.int (nI (ae_SN.getD k 0)), .int (nI j)]) rfl rfl hl.1 rfl (lv_room (Nat.le_of_ble_eq_true rfl)) sr_3 ⟨Nat.zero_le _, Nat.zero_le _⟩
  refine ag_after hrun hS (fun z h => h) (fun v x ws2 H1 locs1 k1 k2 k3 k4 k5 k6 => ?_)
  match v, k2 with
  | none, k2 =>
    refine lv_aload_n hx hb sr_6 rfl (lv_at hl 0 rfl) ?_
    refine lv_iload_n hx hb sr_7 rfl (lv_at hl 1 rfl) ?_
    refine va_tb hx hb (hSt.1 k hk).2.2.2 k6 (vp_in_nI hj hln) (v := .int ((ae_SB.getD k []).getD j 0)) (by rw [nI_clamp (by omega)]) sr_8 ?_
    refine lv_sipush (v := 255) hx hb sr_9 (by decide) ?_
    refine lv_iand hx hb sr_12 ?_
    refine lv_i2c hx hb sr_13 ht1 ?_
    exact W.zret (v := (ae_SB.getD k []).getD j 0) hx hb hr (congrArg Value.int ht2) (fun t ht hW => ⟨⟨some (.int ((ae_SB.getD k []).getD j 0)), x, ws2, rfl, k1, ⟨_, rfl, (ae_c_eq _).symm⟩, k3, by rw [ht]; exact k4, k5⟩, k6.F ht⟩) k6.2.2 sr_14
  | some v, k2 => exact k2.elim
set_option maxRecDepth 100000 in
theorem sx_chr (l : Launch) (d q : Nat) (hd : 3 ≤ d) (hq : 64 ≤ q) {k j : Nat} (hk : k < 12) (hj : j < ae_SN.getD k 0) (w : List ae_C) (ad : List Nat) (ws : va_W) (sz : Nat) (had : ws.map Prod.fst = ad) (hw : ag_W (ag_E adK b) dT ad w ws) :
    Met l yJ0_charAt_5068e (ag_ws mJ0_chr) (ag_rm mJ0_chr d q) (ag_Pc (ag_X adK adV b L xs) dC dI dT [.ref (adK k), .int (nI j)] ws sz) (ag_Qc (ag_E adK b) dC dI dT (va_A ws sz) ad (some (.inl (.inl (ae_c ((ae_SB.getD k []).getD j 0)))), w)) 0 0 (va_A ws sz) := by
  refine Met.ofW (cc := cJ0_charAt_5068e) (maxL := 2) (ret := some .char) (by decide) rfl ?_
  intro p e s m args below meth c s₁ B hml hv
  obtain ⟨rfl, hsz, hP, hK, hD0, hXS⟩ := hv
  have hx := B.exec
  have hb := B.bytes
  have hr := B.returns
  have hts := atoms_spec (ws := ag_ws mJ0_chr) B.pre
  have hts : ∀ w ∈ lw_gt, w.before _ s = true := fun w h => hts w (List.mem_cons_of_mem _ h)
  have hown : s.vm.findClass RJ0 = some m.cls := findClass_of_methodNamed B.named
  have hlocks := B.notSynchronized
  subst hsz
  have hD := hD0.self (sz := s.heap.size)
  have hA : ∀ z : Nat, s.heap.size ≤ z → va_A ws s.heap.size z := fun z h => Or.inr h
  have hS : va_S (va_A ws s.heap.size) s.heap s.heap [] := va_S.rf
  have hl := lv_entry ([.ref (adK k), .int (nI j)]) (n := 2) (Nat.le_of_ble_eq_true rfl)
  rw [lg_entry_eq]
  generalize (lg_sl ([.ref (adK k), .int (nI j)]) ++ List.replicate (2 - (lg_sl ([.ref (adK k), .int (nI j)])).length) Slot.unset).toArray = ls at hl ⊢
  have hl : lv_has ls 2 [(0, .ref (adK k)), (1, .int (nI j))] := hl
  have hSt := hXS.1
  obtain ⟨ht1, ht2⟩ := sx_tab k hk j hj
  refine lv_aload_n hx hb sq_0 rfl (lv_at hl 0 rfl) ?_
  have hM := sx_lat (adK := adK) (adV := adV) (b := b) (L := L) (xs := xs) (dC := dC) (dI := dI) (dT := dT) l (d - 1) (q - 20) hk w ad ws s.heap.size had hw
  have hpre := ag_preS (ag_X_w adK adV b L xs) hK hP hD hS hA hXS [.ref (adK k)]
  have hcb : CallB (headSpec (ag_ws mJ0_chr) (ag_rm mJ0_chr d q)).room s #[Value.ref (adK k), Value.int (nI j)] RJ0 492 yJ0_isLatin1_aae02 cJ0_isLatin1_aae02 1 (some .boolean) (ag_ws mJ0_lat) (ag_rm mJ0_lat (d - 1) (q - 20)) 0 0 0 := callB_of 0 hts (ag_goodIn (by decide +kernel)) rfl rfl rfl (hts (.initialized RJ0) (by decide +kernel)) (hts (.methodLink RJ0 492 yJ0_isLatin1_aae02) (by decide +kernel)) (by decide +kernel) ⟨by show d - 1 + 1 ≤ d; omega, by show 8 + (1 + 11) + (q - 20) ≤ q; omega⟩
  have hrun := va_runV (e := e) (below := below) (meth := meth) (locs := []) (As := []) (rest := []) (nL := 2) (C := RJ0) (cells := 0) (slots := 0) ⟨hx, hb, hml, hown, hts⟩ hM ⟨hcb, hts (.instanceMethod yJ0_isLatin1_aae02) (by decide +kernel), hts (.selects RJ0 yJ0_isLatin1_aae02 yJ0_isLatin1_aae02) (by decide +kernel)⟩ ⟨hpre.1, vk_recv hSt hk hS, hpre.2⟩ (g := F0 m 1 ls [.ref (adK k)]) rfl rfl hl.1 rfl (lv_room (Nat.le_of_ble_eq_true rfl)) sq_1 ⟨Nat.zero_le _, Nat.zero_le _⟩
  refine ag_after hrun hS (fun z h => h) (fun v x ws2 H1 locs1 k1 k2 k3 k4 k5 k6 => ?_)
  match v, k2 with
  | some v, k2 =>
    obtain ⟨z, rfl, hz⟩ := k2
    have hz : z = nI 1 := hz
    subst hz
    refine lv_if_eq (tgt := 16) hx hb sq_4 (by decide) (fun h0 => absurd h0 (by decide)) (fun _ => ?_)
    refine lv_aload_n hx hb sq_7 rfl (lv_at hl 0 rfl) ?_
    refine vk_getf hx hb (hSt.1 k hk).2.2.1 k6 hown (hts (.fieldLink RJ0 9 "java/lang/String" "value" "[B") (by decide +kernel)) (fun _ h9 => h9) sq_8 ?_
    refine lv_iload_n hx hb sq_11 rfl (lv_at hl 1 rfl) ?_
    have hM2 := sx_chrL (adK := adK) (adV := adV) (b := b) (L := L) (xs := xs) (dC := dC) (dI := dI) (dT := dT) l (d - 1) (q - 21) (by omega) (by omega) hk hj w (ad ++ x) ws2 H1.size k1 k3
    have hpre2 := ag_preS (ag_X_w adK adV b L xs) hK k4 k5 k6 hA hXS [.ref (adV k), .int (nI j)]
    have hcb2 : CallB (headSpec (ag_ws mJ0_chr) (ag_rm mJ0_chr d q)).room s #[Value.ref (adK k), Value.int (nI j)] RJ0 495 yJ1_charAt_3b067 cJ1_charAt_3b067 2 (some .char) (ag_ws mJ1_chr) (ag_rm mJ1_chr (d - 1) (q - 21)) 0 0 2 := callB_of 2 hts (ag_goodIn (by decide +kernel)) rfl rfl rfl (hts (.initialized RJ1) (by decide +kernel)) (hts (.methodLink RJ0 495 yJ1_charAt_3b067) (by decide +kernel)) (by decide +kernel) ⟨by show d - 1 + 1 ≤ d; omega, by show 8 + (2 + 11) + (q - 21) ≤ q; omega⟩
    have hrun2 := va_runS (e := e) (below := below) (meth := meth) (locs := locs1) (As := [.ref (adV k), .int (nI j)]) (rest := []) (nL := 2) (cells := 0 + 0) (slots := 0 + 0) ⟨hx, hb, hml, hown, hts⟩ hM2 ⟨hcb2, hts (.static yJ1_charAt_3b067) (by decide +kernel)⟩ hpre2 (g := F0 m 12 ls [.int (nI j), .ref (adV k)]) rfl rfl hl.1 rfl (lv_room (Nat.le_of_ble_eq_true rfl)) sq_12 ⟨Nat.zero_le _, Nat.zero_le _⟩
    refine ag_after hrun2 k6 (ag_free k5 k6 hA) (fun v2 x2 ws3 H2 locs2 j1 j2 j3 j4 j5 j6 => ?_)
    match v2, j2 with
    | some v2, j2 =>
      obtain ⟨z2, rfl, hz2⟩ := j2
      have hz2 : z2 = nI (ae_c ((ae_SB.getD k []).getD j 0)) := hz2
      rw [ae_c_eq] at hz2
      subst hz2
      rw [List.append_assoc] at j1 j3
      exact W.zret (v := (ae_SB.getD k []).getD j 0) hx hb hr (congrArg Value.int ht2) (fun t ht hW => ⟨⟨some (.int ((ae_SB.getD k []).getD j 0)), x ++ x2, ws3, rfl, j1, ⟨_, rfl, (ae_c_eq _).symm⟩, j3, by rw [ht]; exact j4, j5⟩, j6.F ht⟩) j6.2.2 sq_15
    | none, j2 => exact j2.elim
  | none, k2 => exact k2.elim
end CHR
section CHR2
variable {V : cg_V} {me : ae_M} {d q : Nat} {Rs : ae_R → Prop} {pc : Nat} {lo : ae_L} {st : List ae_V} {w : List ae_C} {cs sl : Nat}
set_option maxRecDepth 100000 in
theorem g_chr {k j idx : Nat} {ch : Int} (hk : k < 12) (hj : j < ae_SN.getD k 0) (hch : (ae_SB.getD k []).getD j 0 = Int32.ofInt ch) (hd : 4 ≤ d) (hq : 85 ≤ q) (hlink : Cond.methodLink me.1.cls idx yJ0_charAt_5068e ∈ lw_gt) (hdg : decode me.2.1 pc = .ok (.invokevirtual idx, 3)) (hwd : ae_wd st ≤ 8) (kk : cg_G V me d q Rs (pc + 3) lo (vI ch :: st) w cs sl) : cg_G V me d q Rs pc lo (vI (j : Int) :: vE (k + 2) :: st) w cs sl := by
  intro hT hm hL A p e R s m args below meth c Q ad0 hF hfin ad ws H locs lv ls stv hat
  have hF0 := hF
  obtain ⟨hcs, hex, had, hl, hlo, hst, hw, hP, hD, hS⟩ := hat
  obtain ⟨hx, hb, hml, hown, hts, hK, hA, hlk, hret, hnm, hR1, hR2, hR3, hR4, hXS⟩ := hF
  have hE := ag_E_ok V.1 V.2.2.1
  obtain ⟨v1, r1, e1, ⟨y, rfl, hy⟩, hst1⟩ := ag_S_cons hst
  obtain ⟨v2, rv, e2, hv2, hrest⟩ := ag_S_cons hst1
  subst e1
  subst e2
  have hv2 : v2 = .ref (V.1 k) := hv2
  subst hv2
  have hln := sx_len k hk
  have hy : y = nI (ae_c (Int32.ofInt (j : Int))) := hy
  have ej : ae_c (Int32.ofInt (j : Int)) = j := by rw [i_ix (by omega) (by omega)]; rfl
  rw [ej] at hy
  subst hy
  have hfr := ag_free hD hS hA
  have hM := sx_chr (adK := V.1) (adV := V.2.1) (b := V.2.2.1) (L := V.2.2.2.1) (xs := V.2.2.2.2.1) (dC := cg_C V) (dI := cg_D V) (dT := cg_T V) (cg_l V) (d - 1) (q - 21) (by omega) (by omega) hk hj w ad ws H.size had hw
  have hpre := ag_preS (ag_X_w V.1 V.2.1 V.2.2.1 V.2.2.2.1 V.2.2.2.2.1) hK hP hD hS hA hXS [.ref (V.1 k), .int (nI j)]
  have hcb : CallB R s args me.1.cls idx yJ0_charAt_5068e cJ0_charAt_5068e 2 (some .char) (ag_ws mJ0_chr) (ag_rm mJ0_chr (d - 1) (q - 21)) 0 0 1 := callB_of 1 hts (ag_goodIn (by decide +kernel)) rfl rfl rfl (hts (.initialized RJ0) (by decide +kernel)) (hts _ hlink) (by decide +kernel) ⟨by rw [hR1]; show d - 1 + 1 ≤ d; omega, by rw [hR2]; show 8 + (2 + 11) + (q - 21) ≤ q; omega⟩
  have hrun := va_runV (e := e) (below := below) (meth := meth) (locs := locs) (As := [.int (nI j)]) (rest := rv) (nL := ae_mL me) (C := RJ0) (cells := cs) (slots := sl) ⟨hx, hb, hml, hown, hts⟩ hM ⟨hcb, hts (.instanceMethod yJ0_charAt_5068e) (by decide +kernel), hts (.selects RJ0 yJ0_charAt_5068e yJ0_charAt_5068e) (by decide +kernel)⟩ ⟨hpre.1, vk_recv hXS.1 hk hS, hpre.2⟩ (g := F0 m pc ls (.int (nI j) :: .ref (V.1 k) :: rv)) rfl rfl hl.1 rfl (lv_room (by rw [ag_wd hE hrest]; exact hwd)) hdg ⟨by rw [hR3]; exact hcs.1, by rw [hR4]; exact hcs.2⟩
  have ech : vI ch = .inl (.inl (ae_c ((ae_SB.getD k []).getD j 0))) := by unfold vI; rw [hch]
  rw [ech] at kk
  exact ag_after hrun hS hfr (fun v x ws2 H1 locs1 k1 k2 k3 k4 k5 k6 => kk hT hm hL A p e R s m args below meth c Q ad0 hF0 hfin _ ws2 H1 locs1 lv ls _ ⟨hcs, (by obtain ⟨t, ht⟩ := hex; exact ⟨t ++ x, by rw [ht, List.append_assoc]⟩), k1, hl, ag_L_mono x hlo, ag_S_app (ag_O_list k2) (ag_S_mono x hrest), k3, k4, k5, k6⟩)
set_option maxRecDepth 100000 in
theorem g_over {idx : Nat} (hlink : Cond.fieldLink me.1.cls idx "OneKey" "OVER" "[I" ∈ lw_gt) (hdg : decode me.2.1 pc = .ok (.getstatic idx, 3)) (kk : cg_G V me d q Rs (pc + 3) lo (vE 14 :: st) w cs sl) : cg_G V me d q Rs pc lo st w cs sl := by
  intro hT hm hL A p e R s m args below meth c Q ad0 hF hfin ad ws H locs lv ls stv hat
  have hF0 := hF
  obtain ⟨hcs, hex, had, hl, hlo, hst, hw, hP, hD, hS⟩ := hat
  obtain ⟨hx, hb, hml, hown, hts, hK, hA, hlk, hret, hnm, hR1, hR2, hR3, hR4, hXS⟩ := hF
  have hZ := hXS.2.2.2.2.2.2.2.2.2.1
  exact va_gets hx hb hZ hS hown (hts _ hlink) (fun _ h9 => h9) hdg (kk hT hm hL A p e R s m args below meth c Q ad0 hF0 hfin ad ws H locs lv ls _ ⟨hcs, hex, had, hl, hlo, ⟨rfl, hst⟩, hw, hP, hD, hS⟩)
theorem g_ovlen (hdg : decode me.2.1 pc = .ok (.arraylength, 1)) (kk : cg_G V me d q Rs (pc + 1) lo (vI 8 :: st) w cs sl) : cg_G V me d q Rs pc lo (vE 14 :: st) w cs sl := by
  intro hT hm hL A p e R s m args below meth c Q ad0 hF hfin ad ws H locs lv ls stv hat
  have hF0 := hF
  obtain ⟨hcs, hex, had, hl, hlo, hst, hw, hP, hD, hS⟩ := hat
  obtain ⟨hx, hb, hml, hown, hts, hK, hA, hlk, hret, hnm, hR1, hR2, hR3, hR4, hXS⟩ := hF
  obtain ⟨v1, r1, e1, hv1, hst1⟩ := ag_S_cons hst
  subst e1
  have hv1 : v1 = .ref (V.1 12) := hv1
  subst hv1
  have hX := hXS.2.2.2.2.2.2.2.2.2.2.1
  have hbl := hXS.2.2.2.2.2.2.2.2.2.2.2.1
  have hbA := hXS.2.2.2.2.2.2.2.2.2.2.2.2.1
  exact va_slen hx hb hX hbl hbA hS hdg (kk hT hm hL A p e R s m args below meth c Q ad0 hF0 hfin ad ws H locs lv ls _ ⟨hcs, hex, had, hl, hlo, ⟨⟨_, rfl, show Int32.ofNat 8 = nI (ae_c (Int32.ofInt 8)) by decide +kernel⟩, hst1⟩, hw, hP, hD, hS⟩)
theorem g_ovld {i : Int} (h0 : 0 ≤ i) (h8 : i < 8) (hdg : decode me.2.1 pc = .ok (.iaload, 1)) (kk : ∀ z : Int, -1 ≤ z → z ≤ 3 → z = (ae_OV i.toNat).toInt → cg_G V me d q Rs (pc + 1) lo (vI z :: st) w cs sl) : cg_G V me d q Rs pc lo (vI i :: vE 14 :: st) w cs sl := by
  intro hT hm hL A p e R s m args below meth c Q ad0 hF hfin ad ws H locs lv ls stv hat
  have hF0 := hF
  obtain ⟨hcs, hex, had, hl, hlo, hst, hw, hP, hD, hS⟩ := hat
  obtain ⟨hx, hb, hml, hown, hts, hK, hA, hlk, hret, hnm, hR1, hR2, hR3, hR4, hXS⟩ := hF
  obtain ⟨v1, r1, e1, ⟨y, rfl, hy⟩, hst1⟩ := ag_S_cons hst
  obtain ⟨v2, rv, e2, hv2, hrest⟩ := ag_S_cons hst1
  subst e1
  subst e2
  have hv2 : v2 = .ref (V.1 12) := hv2
  subst hv2
  have hX := hXS.2.2.2.2.2.2.2.2.2.2.1
  have hbl := hXS.2.2.2.2.2.2.2.2.2.2.2.1
  have hbA := hXS.2.2.2.2.2.2.2.2.2.2.2.2.1
  have hy : y = nI (ae_c (Int32.ofInt i)) := hy
  rw [i_ix h0 (by omega)] at hy
  subst hy
  have hr : ∀ j : Nat, j < 8 → -1 ≤ (ae_OV j).toInt ∧ (ae_OV j).toInt ≤ 3 := by decide +kernel
  have hri := hr i.toNat (by omega)
  have ek := kk _ hri.1 hri.2 rfl
  refine va_sld hx hb hX hbl hbA hS (vp_in_nI (n := i.toNat) (N := 8) (by omega) (by decide)) hdg ?_
  rw [nI_clamp (by omega)]
  refine ek hT hm hL A p e R s m args below meth c Q ad0 hF0 hfin ad ws H locs lv ls _ ⟨hcs, hex, had, hl, hlo, ⟨⟨_, rfl, ?_⟩, hrest⟩, hw, hP, hD, hS⟩
  show _ = nI (ae_c (Int32.ofInt (ae_OV i.toNat).toInt))
  rw [ae_c_eq, i_c]
theorem g_ldcw {n : Nat} {x : Int} (hcon : Cond.constant me.1.cls n (Int32.ofInt x) ∈ lw_gt) (hdg : decode me.2.1 pc = .ok (.ldc_w n, 3)) (kk : cg_G V me d q Rs (pc + 3) lo (vI x :: st) w cs sl) : cg_G V me d q Rs pc lo st w cs sl := by
  intro hT hm hL A p e R s m args below meth c Q ad0 hF hfin ad ws H locs lv ls stv hat
  have hF0 := hF
  obtain ⟨hcs, hex, had, hl, hlo, hst, hw, hP, hD, hS⟩ := hat
  obtain ⟨hx, hb, hml, hown, hts, hK, hA, hlk, hret, hnm, hR1, hR2, hR3, hR4, hXS⟩ := hF
  exact lv_ldcw hx hb hown (hts _ hcon) hdg (kk hT hm hL A p e R s m args below meth c Q ad0 hF0 hfin ad ws H locs lv ls _ ⟨hcs, hex, had, hl, hlo, ⟨⟨_, rfl, (ae_c_eq _).symm⟩, hst⟩, hw, hP, hD, hS⟩)
end CHR2
