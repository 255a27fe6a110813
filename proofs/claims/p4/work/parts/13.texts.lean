/-! ===== what goes along unchanged: the texts, the script, some words of the tables ===== -/
def ae_SB : List (List Int32) := [[112, 108, 97, 105, 110], [111, 110, 101, 119, 97, 121], [116, 119, 111], [119, 101, 105, 103, 104, 101, 100], [115, 116, 105, 99, 107, 105, 110, 103], [102, 97, 108, 115, 101], [103, 97, 111, 108], [107, 105, 116, 99, 104, 101, 110], [104, 117, 110, 103, 114, 121], [115, 111, 97, 112], [107, 101, 121], [103, 117, 97, 114, 100]]
/-- the kinds that are over one another -/
def ae_OV : Nat → Int32 := fun j => ([-1, 0, 1, 2, 1, 2, 3, 0] : List Int32).getD j 0
/-- a reference, or null -/
def ae_FV (adK adV : Nat → Nat) : Value := match adV 12 with
  | 0 => .null
  | _ + 1 => .ref (adK 13)
def ag_X (adK adV : Nat → Nat) (b L : Nat) (xs : Nat → Int32) (A : Nat → Prop) (U : State) : Prop :=
  vk_S 12 ae_SN ae_SB adK adV A U U.heap ∧ (∀ k idx : Nat, ae_SI[k]? = some idx → ∃ tx, vk_R RX6 idx tx (adK k) U) ∧ va_Z "java/lang/String" "COMPACT_STRINGS" "Z" (.int 1) A U U.heap ∧ va_Nw (.methodLinkNest "OneKey" 9 yX6_init "OneKey") U ∧ mq_ov .int U ∧ mq_ov .long U ∧ va_X b L xs U U.heap ∧ b < U.heap.size ∧ ¬ A b ∧ va_Z "OneKey" "OVER" "[I" (.ref (adK 12)) A U U.heap ∧ va_X (adK 12) 8 ae_OV U U.heap ∧ adK 12 < U.heap.size ∧ ¬ A (adK 12) ∧ va_Z "jdk/internal/util/Preconditions" "SIOOBE_FORMATTER" "Ljava/util/function/BiFunction;" (ae_FV adK adV) A U U.heap
theorem ag_X_w (adK adV : Nat → Nat) (b L : Nat) (xs : Nat → Int32) : ag_Xw (ag_X adK adV b L xs) := by
  intro A A1 U U1 hW hq hAA h
  obtain ⟨h1, h2, h3, h4, h5, h6, h7, h8, h9, z1, z2, z3, z4, z5⟩ := h
  have hb : U1.heap[b]? = U.heap[b]? := hq b h8 h9
  have hb2 : U1.heap[adK 12]? = U.heap[adK 12]? := hq _ z3 z4
  refine ⟨((h1.kept hq).moved hW.alike).narrow hAA, fun k idx hk => ?_, ((h3.kept hq).moved hW.alike).narrow hAA, va_Nw.warmM hW h4, h5.moved hW.alike, h6.moved hW.alike, (h7.kept hb).moved hW.alike, ?_, fun q => h9 (hAA b q), ((z1.kept hq).moved hW.alike).narrow hAA, (z2.kept hb2).moved hW.alike, ?_, fun q => z4 (hAA _ q), ((z5.kept hq).moved hW.alike).narrow hAA⟩
  · obtain ⟨tx, h⟩ := h2 k idx hk
    exact ⟨tx, h.warm hW⟩
  · obtain ⟨scr, hs, -⟩ := h7
    rw [← hb] at hs
    exact (Array.getElem?_eq_some_iff.mp hs).1
  · obtain ⟨scr, hs, -⟩ := z2
    rw [← hb2] at hs
    exact (Array.getElem?_eq_some_iff.mp hs).1
def ag_E (adK : Nat → Nat) (b : Nat) (k : Nat) : Value := match k with
  | 0 => .null
  | 1 => .ref b
  | k + 2 => .ref (adK k)
theorem ag_E_ok (adK : Nat → Nat) (b : Nat) : ∀ k, ag_E adK b k = .null ∨ ∃ q, ag_E adK b k = .ref q
  | 0 => Or.inl rfl
  | 1 => Or.inr ⟨b, rfl⟩
  | k + 2 => Or.inr ⟨adK k, rfl⟩
-- String.coder and String.length of a text
theorem sx_c0 : decode cJ0_coder_7d493 0 = .ok (.getstatic 38, 3) := by decide +kernel
theorem sx_c3 : decode cJ0_coder_7d493 3 = .ok (.ifCond .eq 10, 3) := by decide +kernel
theorem sx_c6 : decode cJ0_coder_7d493 6 = .ok (.aload_n 0, 1) := by decide +kernel
theorem sx_c7 : decode cJ0_coder_7d493 7 = .ok (.getfield 15, 3) := by decide +kernel
theorem sx_c10 : decode cJ0_coder_7d493 10 = .ok (.goto 4, 3) := by decide +kernel
theorem sx_c14 : decode cJ0_coder_7d493 14 = .ok (.ireturn, 1) := by decide +kernel
theorem sx_l0 : decode cJ0_length_8abf5 0 = .ok (.aload_n 0, 1) := by decide +kernel
theorem sx_l1 : decode cJ0_length_8abf5 1 = .ok (.getfield 9, 3) := by decide +kernel
theorem sx_l4 : decode cJ0_length_8abf5 4 = .ok (.arraylength, 1) := by decide +kernel
theorem sx_l5 : decode cJ0_length_8abf5 5 = .ok (.aload_n 0, 1) := by decide +kernel
theorem sx_l6 : decode cJ0_length_8abf5 6 = .ok (.invokevirtual 335, 3) := by decide +kernel
theorem sx_l9 : decode cJ0_length_8abf5 9 = .ok (.ishr, 1) := by decide +kernel
theorem sx_l10 : decode cJ0_length_8abf5 10 = .ok (.ireturn, 1) := by decide +kernel
section SX
variable {adK adV : Nat → Nat} {b L : Nat} {xs : Nat → Int32} {dC : Nat → ClassId} {dI : Nat → Nat → Nat} {dT : Nat → ClassId}
set_option maxRecDepth 100000 in
theorem sx_coder (l : Launch) (d q : Nat) {k : Nat} (hk : k < 12) (w : List ae_C) (ad : List Nat) (ws : va_W) (sz : Nat) (had : ws.map Prod.fst = ad) (hw : ag_W (ag_E adK b) dT ad w ws) :
    Met l yJ0_coder_7d493 (ag_ws mJ0_coder_7d493) (ag_rm mJ0_coder_7d493 d q) (ag_Pc (ag_X adK adV b L xs) dC dI dT [.ref (adK k)] ws sz) (ag_Qc (ag_E adK b) dC dI dT (va_A ws sz) ad (some (.inl (.inl 0)), w)) 0 0 (va_A ws sz) := by
  refine Met.ofW (cc := cJ0_coder_7d493) (maxL := 1) (ret := some .byte) (by decide) rfl ?_
  intro p e s m args below meth c s₁ B hml hv
  obtain ⟨rfl, hsz, hP, hK, hD0, hXS⟩ := hv
  have hx := B.exec
  have hb := B.bytes
  have hr := B.returns
  have hts := atoms_spec (ws := ag_ws mJ0_coder_7d493) B.pre
  have hts : ∀ w ∈ lw_gt, w.before _ s = true := fun w h => hts w (List.mem_cons_of_mem _ h)
  have hown : s.vm.findClass RJ0 = some m.cls := findClass_of_methodNamed B.named
  have hlocks := B.notSynchronized
  subst hsz
  have hD := hD0.self (sz := s.heap.size)
  have hS : va_S (va_A ws s.heap.size) s.heap s.heap [] := va_S.rf
  obtain ⟨hSt, -, hZ, -⟩ := hXS
  have hl := lv_entry ([.ref (adK k)]) (n := 1) (Nat.le_of_ble_eq_true rfl)
  rw [lg_entry_eq]
  generalize (lg_sl ([.ref (adK k)]) ++ List.replicate (1 - (lg_sl ([.ref (adK k)])).length) Slot.unset).toArray = ls at hl ⊢
  have hl : lv_has ls 1 [(0, .ref (adK k))] := hl
  refine va_gets hx hb hZ hS hown (hts (.fieldLink RJ0 38 "java/lang/String" "COMPACT_STRINGS" "Z") (by decide +kernel)) (fun _ h9 => h9) sx_c0 ?_
  refine lv_if_eq (tgt := 13) hx hb sx_c3 (by decide) (fun h0 => absurd h0 (by decide)) (fun _ => ?_)
  refine lv_aload_n hx hb sx_c6 rfl (lv_at hl 0 rfl) ?_
  refine vk_getf hx hb (hSt.1 k hk).2.1 hS hown (hts (.fieldLink RJ0 15 "java/lang/String" "coder" "B") (by decide +kernel)) (fun _ h9 => h9) sx_c7 ?_
  refine lv_goto (tgt := 14) hx hb sx_c10 (by decide) ?_
  exact W.zret (v := 0) hx hb hr rfl (fun t ht hW => ⟨⟨some (.int 0), [], ws, rfl, by rw [List.append_nil]; exact had, ⟨0, rfl, nI_0.symm⟩, by rw [List.append_nil]; exact hw, by rw [ht]; exact hP, hD⟩, hS.F ht⟩) hS.2.2 sx_c14
set_option maxRecDepth 100000 in
theorem sx_length (l : Launch) (d q : Nat) (hd : 1 ≤ d) (hq : 20 ≤ q) {k n : Nat} (hk : k < 12) (hn : ae_SN[k]? = some n) (w : List ae_C) (ad : List Nat) (ws : va_W) (sz : Nat) (had : ws.map Prod.fst = ad) (hw : ag_W (ag_E adK b) dT ad w ws) :
    Met l yJ0_length_8abf5 (ag_ws mJ0_length_8abf5) (ag_rm mJ0_length_8abf5 d q) (ag_Pc (ag_X adK adV b L xs) dC dI dT [.ref (adK k)] ws sz) (ag_Qc (ag_E adK b) dC dI dT (va_A ws sz) ad (some (.inl (.inl n)), w)) 0 0 (va_A ws sz) := by
  refine Met.ofW (cc := cJ0_length_8abf5) (maxL := 1) (ret := some .int) (by decide) rfl ?_
  intro p e s m args below meth c s₁ B hml hv
  obtain ⟨rfl, hsz, hP, hK, hD0, hXS⟩ := hv
  have hx := B.exec
  have hb := B.bytes
  have hr := B.returns
  have hts := atoms_spec (ws := ag_ws mJ0_length_8abf5) B.pre
  have hts : ∀ w ∈ lw_gt, w.before _ s = true := fun w h => hts w (List.mem_cons_of_mem _ h)
  have hown : s.vm.findClass RJ0 = some m.cls := findClass_of_methodNamed B.named
  have hlocks := B.notSynchronized
  subst hsz
  have hD := hD0.self (sz := s.heap.size)
  have hA : ∀ z : Nat, s.heap.size ≤ z → va_A ws s.heap.size z := fun z h => Or.inr h
  have hS : va_S (va_A ws s.heap.size) s.heap s.heap [] := va_S.rf
  have hXS0 := hXS
  obtain ⟨hSt, -, hZ, -⟩ := hXS0
  have hgd : ae_SN.getD k 0 = n := by rw [List.getD_eq_getElem?_getD, hn]; rfl
  have hl := lv_entry ([.ref (adK k)]) (n := 1) (Nat.le_of_ble_eq_true rfl)
  rw [lg_entry_eq]
  generalize (lg_sl ([.ref (adK k)]) ++ List.replicate (1 - (lg_sl ([.ref (adK k)])).length) Slot.unset).toArray = ls at hl ⊢
  have hl : lv_has ls 1 [(0, .ref (adK k))] := hl
  refine lv_aload_n hx hb sx_l0 rfl (lv_at hl 0 rfl) ?_
  refine vk_getf hx hb (hSt.1 k hk).2.2.1 hS hown (hts (.fieldLink RJ0 9 "java/lang/String" "value" "[B") (by decide +kernel)) (fun _ h9 => h9) sx_l1 ?_
  refine va_tlen hx hb (hSt.1 k hk).2.2.2 hS rfl sx_l4 ?_
  rw [hgd]
  refine lv_aload_n hx hb sx_l5 rfl (lv_at hl 0 rfl) ?_
  have hM := sx_coder (adK := adK) (adV := adV) (b := b) (L := L) (xs := xs) (dC := dC) (dI := dI) (dT := dT) l (d - 1) (q - 20) hk w ad ws s.heap.size had hw
  have hpre := ag_preS (ag_X_w adK adV b L xs) hK hP hD hS hA hXS [.ref (adK k)]
  have hcb : CallB (headSpec (ag_ws mJ0_length_8abf5) (ag_rm mJ0_length_8abf5 d q)).room s #[Value.ref (adK k)] RJ0 335 yJ0_coder_7d493 cJ0_coder_7d493 1 (some .byte) (ag_ws mJ0_coder_7d493) (ag_rm mJ0_coder_7d493 (d - 1) (q - 20)) 0 0 0 := callB_of 0 hts (ag_goodIn (by decide +kernel)) rfl rfl rfl (hts (.initialized RJ0) (by decide +kernel)) (hts (.methodLink RJ0 335 yJ0_coder_7d493) (by decide +kernel)) (by decide +kernel) ⟨by show d - 1 + 1 ≤ d; omega, by show 8 + (1 + 11) + (q - 20) ≤ q; omega⟩
  have hrun := va_runV (e := e) (below := below) (meth := meth) (locs := []) (As := []) (rest := [.int (Int32.ofNat n)]) (nL := 1) (C := RJ0) (cells := 0) (slots := 0) ⟨hx, hb, hml, hown, hts⟩ hM ⟨hcb, hts (.instanceMethod yJ0_coder_7d493) (by decide +kernel), hts (.selects RJ0 yJ0_coder_7d493 yJ0_coder_7d493) (by decide +kernel)⟩ ⟨hpre.1, vk_recv hSt hk hS, hpre.2⟩ (g := F0 m 6 ls [.ref (adK k), .int (Int32.ofNat n)]) rfl rfl hl.1 rfl (lv_room (Nat.le_of_ble_eq_true rfl)) sx_l6 ⟨Nat.zero_le _, Nat.zero_le _⟩
  refine ag_after hrun hS (fun z h => h) (fun v x ws2 H1 locs1 k1 k2 k3 k4 k5 k6 => ?_)
  match v, k2 with
  | some v, k2 =>
    obtain ⟨z, rfl, hz⟩ := k2
    have hz : z = nI 0 := hz
    subst hz
    refine lv_ishr hx hb sx_l9 ?_
    have e9 : Int32.ofNat n >>> (nI 0 &&& 31) = nI n := sb_shr0 (nI n)
    rw [e9]
    exact W.iret (v := nI n) hx hb hr (fun t ht hW => ⟨⟨some (.int (nI n)), x, ws2, rfl, k1, ⟨nI n, rfl, rfl⟩, k3, by rw [ht]; exact k4, k5⟩, k6.F ht⟩) k6.2.2 sx_l10
  | none, k2 => exact k2.elim
end SX
