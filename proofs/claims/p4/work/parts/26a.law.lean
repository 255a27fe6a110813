/-! ===== the law: rules of its own ===== -/
section INVW
variable {V : cg_V} {A : Nat → Prop} {me me2 : ae_M} {d q : Nat} {p : Program} {e : Env} {R : Room} {s : State} {m : MethodId} {args : Array Value} {below : List Frame} {meth : Method} {c : Code} {Q : State → Prop} {ad0 : List Nat}
variable {Rs Rs2 : ae_R → Prop} {pc nx i1 i2 i3 pos : Nat} {lo : ae_L} {st : List ae_V} {w : List ae_C} {cs sl : Nat}
theorem g_invw {me3 : ae_M} (e1 : me3.1 = me2.1) (e2 : me3.2.1 = me2.2.1) (e3 : ae_mL me3 = ae_mL me2) (e4 : ae_mR me3 = ae_mR me2) {n9 : Nat} {ps r stk as : List ae_V} {i ci dd qq : Nat} {fs : List ae_V} (hi : cg_at me pc = some (.invokevirtual n9, nx, i1, i2, i3, pos)) (h3 : i3 = ci + 1) (hmt : ae_MT[i1]? = some me2) (hst : stk = ps ++ vR i :: r) (has : vR i :: ps.reverse = as) (hpl : ps.length = i2) (hwi : w[i]? = some (.inr (ci, fs))) (hSm : cg_S V dd qq me3 as w Rs2) (hdd : dd = d - 1) (hqq : qq = q - (ae_mL me3 + 19)) (g1 : 1 ≤ d) (g2 : ae_mL me3 + 19 ≤ q) (g3 : cs + ae_mc me3 ≤ ae_mc me) (g4 : sl + ae_ms me3 ≤ ae_ms me) (g6 : ae_wd r ≤ 8)
    (k : ∀ x, Rs2 x → cg_G V me d q Rs nx lo (x.1.toList ++ r) x.2 (cs + ae_mc me3) (sl + ae_ms me3)) : cg_G V me d q Rs pc lo stk w cs sl := by
  subst hst
  subst has
  subst h3
  subst hdd
  subst hqq
  intro hT hm hL A p e R s m args below meth c Q ad0 hF hfin ad ws H locs lv ls stv hat
  have hF0 := hF
  have hok := cg_ok hi hT hm
  obtain ⟨g7, hok⟩ := ae_and hok
  obtain ⟨g8, hok2⟩ := ae_and hok
  have hdg := of_decide_eq_true g7
  have hnx : nx = pc + 3 := ae_beq g8
  subst hnx
  simp only [ae_ok2] at hok2
  rw [hmt] at hok2
  obtain ⟨f1, f2⟩ := ae_and hok2
  have f2 : (ae_okc ae_MP me2 i1 i2 && (ae_okv ae_MP me2 i1 && (ae_okl ae_MP me2 i1 me2.1.cls && (match vwCl[ci]? with
    | some cl => decide (cl.1 = me2.1.cls)
    | none => false)))) = true := f2
  obtain ⟨f3, f4⟩ := ae_and f2
  obtain ⟨f4, f5⟩ := ae_and f4
  obtain ⟨f5, f6⟩ := ae_and f5
  cases hcl : vwCl[ci]? with
  | none => rw [hcl] at f6; cases f6
  | some cl =>
    rw [hcl] at f6
    have hcn : cl.1 = me3.1.cls := by rw [e1]; exact of_decide_eq_true f6
    have hs : ag_site me3 i2 := by unfold ag_site; rw [e1, e2, e3, e4]; exact ag_siteOf f3
    have hml9 : Cond.methodLink me.1.cls n9 me3.1 ∈ lw_gt := by rw [e1]; exact ae_at_mem f1 rfl
    have hm2 := ag_okv f4
    have hm3 := ag_okl f5
    rw [← e1] at hm2 hm3
    have hE := ag_E_ok V.1 V.2.2.1
    have hXw := ag_X_w V.1 V.2.1 V.2.2.1 V.2.2.2.1 V.2.2.2.2.1
    obtain ⟨hcs, hex, had, hl, hlo, hst, hw, hP, hD, hS⟩ := hat
    obtain ⟨hx, hb, hml, hown, hts, hK, hA, hlk, hret, hnm, hR1, hR2, hR3, hR4, hXS⟩ := hF
    obtain ⟨pv, rv, rfl, hps, hrest⟩ := ag_S_split hst
    obtain ⟨v1, rv2, e0, ⟨q1, hq1, e2⟩, hrest0⟩ := ag_S_cons hrest
    clear hrest
    subst e0
    subst e2
    have hrest := hrest0
    clear hrest0
    obtain ⟨en, hen, hC⟩ := ag_cell had hw hq1 hwi
    obtain ⟨vs, rfl, hvs⟩ := ag_C_obj hC
    have hfr := ag_free hD hS hA
    have hM := hSm hT hL (.ref q1 :: pv.reverse) ad ws H.size had ⟨⟨q1, hq1, rfl⟩, ag_S_rev hps⟩ hw
    have hcb := ag_callB (me := me) (R := R) (idx := n9) hs hts hml9 (by rw [hR1]; exact g1) (by rw [hR2]; exact g2)
    rw [hR1, hR2] at hcb
    have hpre := ag_preS hXw hK hP hD hS hA hXS (.ref q1 :: pv.reverse)
    have hr := va_runV (e := e) (below := below) (meth := meth) (locs := locs) (rest := rv2) (nL := ae_mL me) (C := me3.1.cls) ⟨hx, hb, hml, hown, hts⟩ hM ⟨hcb, hts _ hm2, hts _ hm3⟩ ⟨hpre.1, by rw [← hcn]; exact va_recv hK hP hcl hen, hpre.2⟩ (g := F0 m pc ls (pv ++ .ref q1 :: rv2)) rfl (by rw [List.length_reverse, ← ag_S_len hps, hpl]) hl.1 (by rw [List.reverse_reverse]) (lv_room (by rw [ag_wd hE hrest]; exact g6)) hdg ⟨by rw [hR3]; exact g3, by rw [hR4]; exact g4⟩
    exact cg_after hr hS hfr (fun r0 hr0 v x ws2 H1 locs1 k1 k2 k3 k4 k5 k6 => k r0 hr0 hT hm hL A p e R s m args below meth c Q ad0 hF0 hfin _ ws2 H1 locs1 lv ls _ ⟨⟨g3, g4⟩, (by obtain ⟨t, ht⟩ := hex; exact ⟨t ++ x, by rw [ht, List.append_assoc]⟩), k1, hl, ag_L_mono x hlo, ag_S_app (ag_O_list k2) (ag_S_mono x hrest), k3, k4, k5, k6⟩)
end INVW
section LAW1
variable {V : cg_V} {me me2 me3 : ae_M} {d q : Nat} {Rs : ae_R → Prop} {pc nx i1 i2 i3 pos : Nat} {lo : ae_L} {st : List ae_V} {w : List ae_C} {cs sl cs' sl' : Nat} {m : kM}
theorem c_wI (e1 : me3.1 = me2.1) (e2 : me3.2.1 = me2.2.1) (e3 : ae_mL me3 = ae_mL me2) (e4 : ae_mR me3 = ae_mR me2) {n9 : Nat} {ps r stk as : List ae_V} {i ci : Nat} {fs : List ae_V} {P : Int → kM → Prop} (hi : cg_at me pc = some (.invokevirtual n9, nx, i1, i2, i3, pos)) (h3 : i3 = ci + 1) (hmt : ae_MT[i1]? = some me2) (hst : stk = ps ++ vR i :: r) (has : vR i :: ps.reverse = as) (hpl : ps.length = i2) (hwi : (kl m)[i]? = some (.inr (ci, fs))) (hSm : cg_S V (d - 1) (q - (ae_mL me3 + 19)) me3 as (kl m) (R_I P)) (g1 : 1 ≤ d) (g2 : ae_mL me3 + 19 ≤ q) (g3 : cs + ae_mc me3 ≤ ae_mc me) (g4 : sl + ae_ms me3 ≤ ae_ms me) (g6 : Nat.ble (ae_wd r) 8 = true) (hcs : cs + ae_mc me3 = cs') (hsl : sl + ae_ms me3 = sl') (k : ∀ z m2, P z m2 → cg_G V me d q Rs nx lo (vI z :: r) (kl m2) cs' sl') : cg_G V me d q Rs pc lo stk (kl m) cs sl := by
  subst hcs
  subst hsl
  refine g_invw e1 e2 e3 e4 hi h3 hmt hst has hpl hwi hSm rfl rfl g1 g2 g3 g4 (Nat.le_of_ble_eq_true g6) ?_
  rintro _ ⟨z, m2, rfl, hp⟩
  exact k z m2 hp
/-- the script's numbers -/
def sx (V : cg_V) (j : Int) : Int := (V.2.2.2.2.1 (Int.toNat j)).toInt
theorem sx_rng (V : cg_V) (j : Int) : -2147483648 ≤ sx V j ∧ sx V j ≤ 2147483647 := by
  have h1 := Int32.le_toInt (V.2.2.2.2.1 (Int.toNat j))
  have h2 := Int32.toInt_lt (V.2.2.2.2.1 (Int.toNat j))
  unfold sx
  omega
theorem g_xlen (hdg : decode me.2.1 pc = .ok (.arraylength, 1)) (hL : V.2.2.2.1 ≤ 256) (kk : cg_G V me d q Rs (pc + 1) lo (vI ((V.2.2.2.1 : Nat) : Int) :: st) w cs sl) : cg_G V me d q Rs pc lo (vE 1 :: st) w cs sl := by
  intro hT hm hL9 A p e R s m args below meth c Q ad0 hF hfin ad ws H locs lv ls stv hat
  have hF0 := hF
  obtain ⟨hcs, hex, had, hl, hlo, hst, hw, hP, hD, hS⟩ := hat
  obtain ⟨hx, hb, hml, hown, hts, hK, hA, hlk, hret, hnm, hR1, hR2, hR3, hR4, hXS⟩ := hF
  obtain ⟨v1, r1, e1, hv1, hst1⟩ := ag_S_cons hst
  subst e1
  have hv1 : v1 = .ref V.2.2.1 := hv1
  subst hv1
  have hX := hXS.2.2.2.2.2.2.1
  have hbl := hXS.2.2.2.2.2.2.2.1
  have hbA := hXS.2.2.2.2.2.2.2.2.1
  exact va_slen hx hb hX hbl hbA hS hdg (kk hT hm hL9 A p e R s m args below meth c Q ad0 hF0 hfin ad ws H locs lv ls _ ⟨hcs, hex, had, hl, hlo, ⟨⟨_, rfl, (by show Int32.ofNat V.2.2.2.1 = nI (ae_c (Int32.ofInt ((V.2.2.2.1 : Nat) : Int))); rw [ae_c_eq, ← iN]; rfl)⟩, hst1⟩, hw, hP, hD, hS⟩)
theorem g_xld {i : Int} (h0 : 0 ≤ i) (h8 : i < ((V.2.2.2.1 : Nat) : Int)) (hL : V.2.2.2.1 ≤ 256) (hdg : decode me.2.1 pc = .ok (.iaload, 1)) (kk : cg_G V me d q Rs (pc + 1) lo (vI (sx V i) :: st) w cs sl) : cg_G V me d q Rs pc lo (vI i :: vE 1 :: st) w cs sl := by
  intro hT hm hL9 A p e R s m args below meth c Q ad0 hF hfin ad ws H locs lv ls stv hat
  have hF0 := hF
  obtain ⟨hcs, hex, had, hl, hlo, hst, hw, hP, hD, hS⟩ := hat
  obtain ⟨hx, hb, hml, hown, hts, hK, hA, hlk, hret, hnm, hR1, hR2, hR3, hR4, hXS⟩ := hF
  obtain ⟨v1, r1, e1, ⟨y, rfl, hy⟩, hst1⟩ := ag_S_cons hst
  obtain ⟨v2, rv, e2, hv2, hrest⟩ := ag_S_cons hst1
  subst e1
  subst e2
  have hv2 : v2 = .ref V.2.2.1 := hv2
  subst hv2
  have hX := hXS.2.2.2.2.2.2.1
  have hbl := hXS.2.2.2.2.2.2.2.1
  have hbA := hXS.2.2.2.2.2.2.2.2.1
  have hy : y = nI (ae_c (Int32.ofInt i)) := hy
  rw [i_ix h0 (by omega)] at hy
  subst hy
  refine va_sld hx hb hX hbl hbA hS (vp_in_nI (n := i.toNat) (N := V.2.2.2.1) (by omega) (by omega)) hdg ?_
  rw [nI_clamp (by omega)]
  refine kk hT hm hL9 A p e R s m args below meth c Q ad0 hF0 hfin ad ws H locs lv ls _ ⟨hcs, hex, had, hl, hlo, ⟨⟨_, rfl, ?_⟩, hrest⟩, hw, hP, hD, hS⟩
  show _ = nI (ae_c (Int32.ofInt (V.2.2.2.2.1 i.toNat).toInt))
  rw [ae_c_eq, i_c]
theorem cg_run {n : Nat} {r : ae_R} (h : ae_run ae_MT ae_DF ae_TY ae_SN [] n d q me pc lo st w cs sl = some r) (hr : Rs r) : cg_G V me d q Rs pc lo st w cs sl := by
  intro hT hm hL A p e R s m args below meth c Q ad0 hF hfin
  exact ag_run hT (XA := []) ⟨Or.inl rfl, hL, fun j a h => by simp at h⟩ n d q me hm pc lo st w cs sl r h A p (cg_l V) e R s m args below meth c Q ad0 hF (hfin r hr)
end LAW1
theorem k4_of {m m' : kM} (e : m'.1 28 = m.1 28) (h : k4 m) : k4 m' := by
  unfold k4
  rw [e]
  exact h
theorem kD_of {m m' : kM} (e : m'.1 26 = m.1 26) (f : m'.2.1 66 = m.2.1 66) (h : kD m) : kD m' := by
  unfold kD
  rw [e, f]
  exact h
theorem kK_same {m m' : kM} (e : m'.1 28 = m.1 28) (f : m'.2.1 62 = m.2.1 62) (g : m'.2.1 63 = m.2.1 63) (h : kK m) : kK m' := kK_of e g (fun j _ => by rw [f]) h
theorem kW_of {m m' : kM} (e : m'.2.1 18 = m.2.1 18) (h : kW m) : kW m' := by
  unfold kW
  rw [e]
  exact h
