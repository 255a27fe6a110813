/-! ===== every instruction of the table; runs; methods ===== -/
section STR
variable {adK adV : Nat → Nat} {b L : Nat} {xs : Nat → Int32} {dC : Nat → ClassId} {dI : Nat → Nat → Nat} {dT : Nat → ClassId} {A : Nat → Prop} {me : ae_M} {d q : Nat} {p : Program} {l : Launch} {e : Env} {R : Room} {s : State} {m : MethodId} {args : Array Value} {below : List Frame} {meth : Method} {c : Code} {Q : State → Prop} {ad0 : List Nat}
variable {K : ae_K} {res : ae_R} {pc : Nat} {lo : ae_L} {st : List ae_V} {w : List ae_C} {cs sl : Nat}
set_option maxRecDepth 100000 in
theorem as_strlen (hF : ag_F (ag_X adK adV b L xs) dC dI dT A me d q p R s m args meth c) (hN : ag_N (ag_E adK b) dC dI dT A me p l e R s m args below meth c Q ad0 K res) {idx : Nat} {Z : Nat → List ae_V → Nat → ae_O} (hm : Cond.methodLink me.1.cls idx yJ0_length_8abf5 ∈ lw_gt) (hdg : decode me.2.1 pc = .ok (.invokevirtual idx, 3))
    (h : ae_al st (fun i r => ae_obj (ae_nth w i) (fun ci _ => ae_if (Nat.beq (ci + 1) 0) (Z i r ci))) (fun k r => ae_if (Nat.beq 0 0 && (Nat.ble 2 k && (Nat.ble 2 d && (Nat.ble 80 q && Nat.ble (ae_wd r) 8)))) (ae_some (ae_nth ae_SN (k - 2)) (fun n => K (pc + 3) lo (.inl (.inl n) :: r) w cs sl))) = some res) : ag_H (ag_E adK b) dC dI dT A me p l e R s m args below meth c Q ad0 pc lo st w cs sl := by
  intro ad ws H locs lv ls stv hat
  obtain ⟨hcs, hex, had, hl, hlo, hst, hw, hP, hD, hS⟩ := hat
  obtain ⟨hx, hb, hml, hown, hts, hK, hA, hlk, hret, hnm, hR1, hR2, hR3, hR4, hXS⟩ := hF
  have hE := ag_E_ok adK b
  rcases ae_al_inv h with ⟨i, r, e0, h9⟩ | ⟨k, r, e0, h9⟩
  · obtain ⟨ci, fs, -, h9⟩ := ae_obj_inv h9
    obtain ⟨hc, -⟩ := ae_if_inv h9
    cases hc
  · clear h
    subst e0
    obtain ⟨hc, h⟩ := ae_if_inv h9
    obtain ⟨-, hc⟩ := ae_and hc
    obtain ⟨g1, hc⟩ := ae_and hc
    obtain ⟨g2, hc⟩ := ae_and hc
    obtain ⟨g3, g4⟩ := ae_and hc
    have g1 := ae_ble g1
    have g2 := ae_ble g2
    have g3 := ae_ble g3
    have g4 := ae_ble g4
    obtain ⟨n, hn, hfh⟩ := ae_some_inv h
    clear h h9
    rw [ae_nth_eq] at hn
    obtain ⟨k2, rfl⟩ : ∃ k2, k = k2 + 2 := ⟨k - 2, by omega⟩
    have hn : ae_SN[k2]? = some n := hn
    have hk : k2 < 12 := (List.getElem?_eq_some_iff.mp hn).1
    obtain ⟨v1, rv, e1, hv, hrest⟩ := ag_S_cons hst
    subst e1
    have hv : v1 = .ref (adK k2) := hv
    subst hv
    have hfr := ag_free hD hS hA
    have hM := sx_length (adK := adK) (adV := adV) (b := b) (L := L) (xs := xs) (dC := dC) (dI := dI) (dT := dT) l (d - 1) (q - 20) (by omega) (by omega) hk hn w ad ws H.size had hw
    have hpre := ag_preS (ag_X_w adK adV b L xs) hK hP hD hS hA hXS [.ref (adK k2)]
    have hcb : CallB R s args me.1.cls idx yJ0_length_8abf5 cJ0_length_8abf5 1 (some .int) (ag_ws mJ0_length_8abf5) (ag_rm mJ0_length_8abf5 (d - 1) (q - 20)) 0 0 0 := callB_of 0 hts (ag_goodIn (by decide +kernel)) rfl rfl rfl (hts (.initialized RJ0) (by decide +kernel)) (hts _ hm) (by decide +kernel) ⟨by rw [hR1]; show d - 1 + 1 ≤ d; omega, by rw [hR2]; show 8 + (1 + 11) + (q - 20) ≤ q; omega⟩
    have hrun := va_runV (e := e) (below := below) (meth := meth) (locs := locs) (As := []) (rest := rv) (nL := ae_mL me) (C := RJ0) (cells := cs) (slots := sl) ⟨hx, hb, hml, hown, hts⟩ hM ⟨hcb, hts (.instanceMethod yJ0_length_8abf5) (by decide +kernel), hts (.selects RJ0 yJ0_length_8abf5 yJ0_length_8abf5) (by decide +kernel)⟩ ⟨hpre.1, vk_recv hXS.1 hk hS, hpre.2⟩ (g := F0 m pc ls (.ref (adK k2) :: rv)) rfl rfl hl.1 rfl (lv_room (by rw [ag_wd hE hrest]; exact g4)) hdg ⟨by rw [hR3]; exact hcs.1, by rw [hR4]; exact hcs.2⟩
    exact ag_after hrun hS hfr (fun v x ws2 H1 locs1 k1 k2 k3 k4 k5 k6 => hN _ _ _ _ _ _ hfh _ ws2 H1 locs1 lv ls _ ⟨hcs, (by obtain ⟨t, ht⟩ := hex; exact ⟨t ++ x, by rw [ht, List.append_assoc]⟩), k1, hl, ag_L_mono x hlo, ag_S_app (ag_O_list k2) (ag_S_mono x hrest), k3, k4, k5, k6⟩)
def ae_okm (me : ae_M) (pc : Nat) (ie : ae_E) : Bool := cond (Nat.beq ie.2.2.2.2.1 77777) (decide (me.1 = yX10_search) && (decide (me.2.1 = cX10_search) && (Nat.blt 2 (ae_mL me) && (Nat.beq pc 2 && (Nat.beq ie.2.2.1 21 && Nat.beq ie.2.2.2.1 20))))) (ae_ok ae_MT ae_MP ae_SI me pc ie)
theorem ag_siteOf {me2 : ae_M} {mid n : Nat} (h : ae_okc ae_MP me2 mid n = true) : ag_site me2 n := by
  unfold ae_okc at h
  split at h
  · obtain ⟨g1, h⟩ := ae_and h
    obtain ⟨g2, g3⟩ := ae_and h
    have g3 := of_decide_eq_true g3
    exact ⟨ae_at_mem g1 rfl, ae_at_mem g2 rfl, g3.1, g3.2.1, g3.2.2⟩
  · cases h
theorem ag_okv {me2 : ae_M} {mid : Nat} (h : ae_okv ae_MP me2 mid = true) : Cond.instanceMethod me2.1 ∈ lw_gt := by
  unfold ae_okv at h
  split at h
  · exact ae_at_mem h rfl
  · cases h
theorem ag_oks {me2 : ae_M} {mid : Nat} (h : ae_oks ae_MP me2 mid = true) : Cond.static me2.1 ∈ lw_gt := by
  unfold ae_oks at h
  split at h
  · exact ae_at_mem h rfl
  · cases h
theorem ag_okl {me2 : ae_M} {mid : Nat} {C : String} (h : ae_okl ae_MP me2 mid C = true) : Cond.selects C me2.1 me2.1 ∈ lw_gt := by
  unfold ae_okl at h
  split at h
  · exact ae_at_mem h rfl
  · cases h

set_option maxRecDepth 100000 in
set_option maxHeartbeats 4000000 in
theorem as_step (hF : ag_F (ag_X adK adV b L xs) dC dI dT A me d q p R s m args meth c) (hN : ag_N (ag_E adK b) dC dI dT A me p l e R s m args below meth c Q ad0 K res) {XA : List ae_I} {CF : ae_F} (hXA : ag_sc (ag_E adK b) A s XA) (hMet : ag_Met ae_MT (ag_X adK adV b L xs) (ag_E adK b) dC dI dT l CF) (hfin : ag_fin (ag_E adK b) dC dI dT A me p l e R s m args below meth c Q ad0 res) {ie : ae_E} (hok : ae_ok ae_MT ae_MP ae_SI me pc ie = true)
    (h : ae_step ae_MT ae_DF ae_TY ae_SN XA CF d q me K ie pc lo st w cs sl = some res) : ag_H (ag_E adK b) dC dI dT A me p l e R s m args below meth c Q ad0 pc lo st w cs sl := by
  have hE := ag_E_ok adK b
  have hE0 : ag_E adK b 0 = .null := rfl
  have hXw := ag_X_w adK adV b L xs
  have hXS : ag_X adK adV b L xs A s := hF.2.2.2.2.2.2.2.2.2.2.2.2.2.2
  obtain ⟨ins, nx, i1, i2, i3, pos⟩ := ie
  obtain ⟨g1, hok⟩ := ae_and hok
  obtain ⟨g2, hok2⟩ := ae_and hok
  have hdg := of_decide_eq_true g1
  have hnx := ae_beq g2
  have hln : ae_ln (ins, nx, i1, i2, i3, pos) = ae_ln (ins, 0, i1, 0, 0, 0) := by cases ins <;> rfl
  dsimp only at hdg hnx
  rw [hln] at hdg hnx
  subst hnx
  clear hln
  clear g1 g2 hok
  cases ins with

  | iadd => exact as_iadd hE hF hN hdg h
  | isub => exact as_isub hE hF hN hdg h
  | imul => exact as_imul hE hF hN hdg h
  | iand => exact as_iand hE hF hN hdg h
  | ior => exact as_ior hE hF hN hdg h
  | ixor => exact as_ixor hE hF hN hdg h
  | ishl => exact as_ishl hE hF hN hdg h
  | ishr => exact as_ishr hE hF hN hdg h
  | iushr => exact as_iushr hE hF hN hdg h
  | idiv => exact as_idiv hE hF hN hdg h
  | irem => exact as_irem hE hF hN hdg h
  | ladd => exact as_ladd hE hF hN hdg h
  | lmul => exact as_lmul hE hF hN hdg h
  | land => exact as_land hE hF hN hdg h
  | lor => exact as_lor hE hF hN hdg h
  | ldiv => exact as_ldiv hE hF hN hdg h
  | lrem => exact as_lrem hE hF hN hdg h
  | lshl => exact as_lshl hE hF hN hdg h
  | lshr => exact as_lshr hE hF hN hdg h
  | i2l => exact as_i2l hE hF hN hdg h
  | l2i => exact as_l2i hE hF hN hdg h
  | lcmp => exact as_lcmp hE hF hN hdg h
  | dup => exact as_dup hE hF hN hdg h
  | dup2 => exact as_dup2 hE hF hN hdg h
  | pop => exact as_pop hE hF hN hdg h
  | laload => exact as_laload hE hF hN hdg h
  | baload => exact as_baload hE hF hN hdg h
  | aaload => exact as_aaload hE hF hN hdg h
  | iastore => exact as_iastore hE hF hN hdg h
  | lastore => exact as_lastore hE hF hN hdg h
  | bastore => exact as_bastore hE hF hN hdg h
  | iconst n => exact as_iconst hE hF hN hdg h
  | bipush n => exact as_bipush hE hF hN hdg h
  | sipush n => exact as_sipush hE hF hN hdg h
  | lconst n => exact as_lconst hE hF hN hdg h
  | aconst_null => exact as_null hE hF hN hE0 hdg h
  | iload_n n => exact as_iload_n hE hF hN hdg h
  | iload n => exact as_iload hE hF hN hdg h
  | lload_n n => exact as_lload_n hE hF hN hdg h
  | lload n => exact as_lload hE hF hN hdg h
  | aload_n n => exact as_aload_n hE hF hN hdg h
  | aload n => exact as_aload hE hF hN hdg h
  | istore_n n => exact as_istore_n hE hF hN (ae_blt hok2) hdg h
  | istore n => exact as_istore hE hF hN (ae_blt hok2) hdg h
  | lstore_n n => exact as_lstore_n hE hF hN (ae_blt hok2) hdg h
  | lstore n => exact as_lstore hE hF hN (ae_blt hok2) hdg h
  | astore_n n => exact as_astore_n hE hF hN (ae_blt hok2) hdg h
  | astore n => exact as_astore hE hF hN (ae_blt hok2) hdg h
  | iinc n k => exact as_iinc hE hF hN (ae_blt hok2) hdg h
  | ldc idx =>
    have hok2 : cond (Nat.beq i1 0) (ae_at pos (.constant me.1.cls idx (nI i2))) (decide (me.1.cls = RX6) && decide (ae_SI[i2]? = some idx)) = true := hok2
    have h : cond (Nat.beq i1 0) (K (pc + 2) lo (.inl (.inl i2) :: st) w cs sl) (K (pc + 2) lo (.inr (.inr (.inr (i2 + 2))) :: st) w cs sl) = some res := h
    cases hb9 : Nat.beq i1 0 with
    | true =>
      rw [hb9] at hok2 h
      exact as_ldci hE hF hN (ae_at_mem hok2 rfl) hdg h
    | false =>
      rw [hb9] at hok2 h
      obtain ⟨g1, g2⟩ := ae_and hok2
      have g1 := of_decide_eq_true g1
      obtain ⟨tx, hz⟩ := hXS.2.1 i2 idx (of_decide_eq_true g2)
      exact as_ldcs hE hF hN (by rw [g1]; exact hz) rfl hdg h
  | ldc2_w idx => exact as_ldc2 hE hF hN (ae_at_mem (show ae_at pos (.constantLong me.1.cls idx (lN i1)) = true from hok2) rfl) hdg h
  | goto off => exact as_goto hE hF hN (of_decide_eq_true hok2) hdg h
  | ifCond cnd off => exact as_ifc hE hF hN (of_decide_eq_true hok2) hdg h
  | if_icmp cnd off => exact as_ifi hE hF hN (of_decide_eq_true hok2) hdg h
  | ifnonnull off => exact as_ifnn hE hF hN hE0 (of_decide_eq_true hok2) hdg h
  | tableswitch dflt lw hi offs => exact as_tsw hE hF hN hdg h
  | getfield idx =>
    simp only [ae_ok2] at hok2
    cases hcl : vwCl[i1]? with
    | none => rw [hcl] at hok2; cases hok2
    | some cl =>
      rw [hcl] at hok2
      obtain ⟨g1, g2⟩ := ae_and hok2
      exact as_getf hE hF hN hcl (ae_blt g1) (ae_at_mem g2 rfl) hdg h
  | putfield idx =>
    simp only [ae_ok2] at hok2
    cases hcl : vwCl[i1]? with
    | none => rw [hcl] at hok2; cases hok2
    | some cl =>
      rw [hcl] at hok2
      obtain ⟨g1, g2⟩ := ae_and hok2
      obtain ⟨g2, g3⟩ := ae_and g2
      refine as_putf hE hF hN hcl (ae_blt g1) (ae_at_mem g2 rfl) ?_ hdg h
      rcases Bool.or_eq_true_iff.mp g3 with g3 | g3
      · exact Or.inl (of_decide_eq_true g3)
      · obtain ⟨g4, g5⟩ := ae_and g3
        exact Or.inr ⟨of_decide_eq_true g4, of_decide_eq_true g5⟩
  | iaload => exact as_iaload hE hF hN hXA hdg h
  | arraylength => exact as_alen hE hF hN hXA hdg h
  | newarray at_ => exact as_newa hE hF hN (ae_at_mem (show ae_at pos (.arrayClass (newarray.typeOf at_)) = true from hok2) rfl) hdg h
  | new idx =>
    simp only [ae_ok2] at hok2
    cases hcl : vwCl[i1]? with
    | none => rw [hcl] at hok2; cases hok2
    | some cl =>
      rw [hcl] at hok2
      obtain ⟨g1, g2⟩ := ae_and hok2
      obtain ⟨g2, g3⟩ := ae_and g2
      exact as_new hE hF hN hE0 hcl (ae_at_mem g1 rfl) (ae_at_mem g2 rfl) (ae_at_mem g3 rfl) hdg h
  | multianewarray idx k =>
    have hok2 : (decide (k = 2) && (ae_at pos (.classLink me.1.cls idx ("[" ++ (FieldType.array (ae_ity i1)).toString)) && (ae_at i2 (.arrayOver (.array (ae_ity i1))) && ae_at i3 (.arrayClass (ae_ity i1))))) = true := hok2
    obtain ⟨g1, g2⟩ := ae_and hok2
    obtain ⟨g2, g3⟩ := ae_and g2
    obtain ⟨-, g4⟩ := ae_and g3
    have g1 := of_decide_eq_true g1
    subst g1
    have hov : mq_ov (ae_ity i1) s := by
      unfold ae_ity
      split
      · exact hXS.2.2.2.2.2.1
      · exact hXS.2.2.2.2.1
    exact as_mna hE hF hN hE0 (ae_at_mem g2 rfl) (ae_at_mem g4 rfl) hov hdg h
  | invokevirtual idx =>
    simp only [ae_ok2] at hok2
    cases hmt : ae_MT[i1]? with
    | none => rw [hmt] at hok2; cases hok2
    | some me2 =>
      rw [hmt] at hok2
      obtain ⟨g1, g2⟩ := ae_and hok2
      cases i3 with
      | zero =>
        have g2 : (decide (me2.1 = yJ0_length_8abf5) && Nat.beq i2 0) = true := g2
        obtain ⟨g3, g4⟩ := ae_and g2
        have g3 := of_decide_eq_true g3
        have g4 := ae_beq g4
        subst g4
        exact as_strlen hF hN (by rw [← g3]; exact ae_at_mem g1 rfl) hdg h
      | succ ci =>
        have g2 : (ae_okc ae_MP me2 i1 i2 && (ae_okv ae_MP me2 i1 && (ae_okl ae_MP me2 i1 me2.1.cls && (match vwCl[ci]? with
          | some cl => decide (cl.1 = me2.1.cls)
          | none => false)))) = true := g2
        obtain ⟨g3, g4⟩ := ae_and g2
        obtain ⟨g4, g5⟩ := ae_and g4
        obtain ⟨g5, g6⟩ := ae_and g5
        cases hcl : vwCl[ci]? with
        | none => rw [hcl] at g6; cases g6
        | some cl =>
          rw [hcl] at g6
          exact as_invv hE hF hN hXw hMet hmt (ag_siteOf g3) (ae_at_mem g1 rfl) (ag_okv g4) (ag_okl g5) hcl (of_decide_eq_true g6) hdg h
  | invokestatic idx =>
    have hok2 : cond (Nat.beq i3 1) (ae_at pos (.methodLink me.1.cls idx arraycopyName)) (match ae_MT[i1]? with
      | some me2 => ae_at pos (.methodLink me.1.cls idx me2.1) && (ae_okc ae_MP me2 i1 i2 && ae_oks ae_MP me2 i1)
      | none => false) = true := hok2
    have h : ax_invokestatic idx ae_MT ae_DF ae_TY ae_SN XA CF d q me K (.invokestatic idx, pc + 3, i1, i2, i3, pos) pc lo st w cs sl = some res := h
    unfold ax_invokestatic at h
    dsimp only at h
    cases hb9 : Nat.beq i3 1 with
    | true =>
      rw [hb9] at hok2 h
      exact as_acp hE hF hN (ae_at_mem hok2 rfl) hdg h
    | false =>
      rw [hb9] at hok2 h
      cases hmt : ae_MT[i1]? with
      | none => rw [hmt] at hok2; cases hok2
      | some me2 =>
        rw [hmt] at hok2
        obtain ⟨g1, g2⟩ := ae_and hok2
        obtain ⟨g2, g3⟩ := ae_and g2
        exact as_invs hE hF hN hXw hMet hmt (ag_siteOf g2) (ae_at_mem g1 rfl) (ag_oks g3) hdg h
  | invokespecial idx =>
    have hok2 : cond (Nat.beq i3 0) (ae_at pos (.methodLink me.1.cls idx objectInit) && Nat.beq i2 0) (match ae_MT[i1]? with
      | some me2 => decide (me2.1.name = "<init>" ∧ ae_mR me2 = none) && (ae_okc ae_MP me2 i1 i2 && (ae_okv ae_MP me2 i1 && cond (Nat.beq i3 1) (ae_at pos (.methodLink me.1.cls idx me2.1)) (decide (me.1.cls = "OneKey" ∧ idx = 9 ∧ me2.1 = yX6_init))))
      | none => false) = true := hok2
    have h : ax_invokespecial idx ae_MT ae_DF ae_TY ae_SN XA CF d q me K (.invokespecial idx, pc + 3, i1, i2, i3, pos) pc lo st w cs sl = some res := h
    unfold ax_invokespecial at h
    dsimp only at h
    cases hb9 : Nat.beq i3 0 with
    | true =>
      rw [hb9] at hok2 h
      obtain ⟨g1, g2⟩ := ae_and hok2
      have g2 := ae_beq g2
      subst g2
      exact as_obj hE hF hN (ae_at_mem g1 rfl) hdg h
    | false =>
      rw [hb9] at hok2 h
      cases hmt : ae_MT[i1]? with
      | none => rw [hmt] at hok2; cases hok2
      | some me2 =>
        rw [hmt] at hok2
        obtain ⟨g1, g2⟩ := ae_and hok2
        obtain ⟨g2, g3⟩ := ae_and g2
        obtain ⟨g3, g4⟩ := ae_and g3
        have g1 := of_decide_eq_true g1
        cases hb8 : Nat.beq i3 1 with
        | true =>
          rw [hb8] at g4
          exact as_invi hE hF hN hXw hMet hmt (ag_siteOf g2) g1.1 g1.2 (ae_at_mem g4 rfl) (ag_okv g3) hdg h
        | false =>
          rw [hb8] at g4
          have g4 := of_decide_eq_true g4
          exact as_invn hE hF hN hXw hMet hmt (ag_siteOf g2) g1.1 g1.2 (host := "OneKey") (by rw [g4.1, g4.2.1, g4.2.2]; exact hXS.2.2.2.1) (ag_okv g3) hdg h
  | ireturn => exact as_iret hE hfin hdg h
  | lreturn => exact as_lret hE hfin hdg h
  | areturn => exact as_aret hE hfin hdg h
  | return_ => exact as_vret hE hfin hdg h
  | _ => cases h
end STR
