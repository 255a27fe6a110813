/-! ===== one step, and runs ===== -/
def ae_vr (st : List ae_V) (k : Nat → ae_V → List ae_V → ae_O) : ae_O := match st with
  | v :: .inr (.inr (.inl i)) :: r => k i v r
  | _ => none
def ae_ri2 (st : List ae_V) (kw ks : Nat → Nat → List ae_V → ae_O) : ae_O := match st with
  | .inl (.inl j) :: .inr (.inr (.inl i)) :: r => kw i j r
  | .inl (.inl j) :: .inr (.inr (.inr i)) :: r => ks i j r
  | _ => none
def ae_al (st : List ae_V) (kw ks : Nat → List ae_V → ae_O) : ae_O := match st with
  | .inr (.inr (.inl i)) :: r => kw i r
  | .inr (.inr (.inr i)) :: r => ks i r
  | _ => none
def ae_n1 (st : List ae_V) (k : Nat → List ae_V → ae_O) : ae_O := match st with
  | .inl (.inl n) :: r => k n r
  | _ => none
def ae_n2 (st : List ae_V) (k : Nat → Nat → List ae_V → ae_O) : ae_O := match st with
  | .inl (.inl b) :: .inl (.inl a) :: r => k a b r
  | _ => none
def ae_v1 (st : List ae_V) (k : ae_V → List ae_V → ae_O) : ae_O := match st with
  | v :: r => k v r
  | [] => none
def ae_v2 (st : List ae_V) (k : ae_V → ae_V → List ae_V → ae_O) : ae_O := match st with
  | v :: u :: r => k v u r
  | _ => none
def ae_one (st : List ae_V) (k : ae_V → ae_O) : ae_O := match st with
  | [v] => k v
  | _ => none
/-- arraycopy's five -/
def ae_cp (st : List ae_V) (k : Nat → Nat → Nat → List ae_V → ae_O) : ae_O := match st with
  | .inl (.inl n) :: .inl (.inl 0) :: .inr (.inr (.inl i)) :: .inl (.inl 0) :: .inr (.inr (.inl j)) :: r => k n i j r
  | _ => none
def ae_mL (me : ae_M) : Nat := me.2.2.1
def ae_mR (me : ae_M) : Option FieldType := me.2.2.2.1
def ae_mc (me : ae_M) : Nat := me.2.2.2.2.1
def ae_ms (me : ae_M) : Nat := me.2.2.2.2.2.1
def ae_il (me : ae_M) : List (Option ae_E) := me.2.2.2.2.2.2
/-- what a return answers -/
def ae_zr (ret : Option FieldType) (v : ae_V) (w : List ae_C) : ae_O := match ret, v with
  | some .int, .inl a => some (some (.inl a), w)
  | some .boolean, .inl (.inl n) => cond (Nat.blt n 2) (some (some (.inl (.inl n)), w)) none
  | _, _ => none
def ae_jr (ret : Option FieldType) (v : ae_V) (w : List ae_C) : ae_O := match ret, v with
  | some .long, .inr (.inl a) => some (some (.inr (.inl a)), w)
  | _, _ => none
def ae_ar (ret : Option FieldType) (v : ae_V) (w : List ae_C) : ae_O := match ret, v with
  | some (.object _), .inr (.inr a) => some (some (.inr (.inr a)), w)
  | some (.array _), .inr (.inr a) => some (some (.inr (.inr a)), w)
  | _, _ => none
def ae_vx (ret : Option FieldType) (st : List ae_V) (w : List ae_C) : ae_O := match ret, st with
  | none, [] => some (none, w)
  | _, _ => none
def ae_sw (pc : Nat) (dflt lo hi : Int) (offs : Array Int) (a : ae_I) (k : Nat → ae_O) : ae_O :=
  cond (decide ((ae_bd a).2 < lo) || decide (hi < (ae_bd a).1)) (cond (decide ((pc : Int) + dflt = (((pc : Int) + dflt).toNat : Int))) (k ((pc : Int) + dflt).toNat) none)
    (match a with
      | .inl n => ae_some (offs.toList[((nI n).toInt - lo).toNat]?) (fun o => cond (!(decide ((nI n).toInt < lo)) && (!(decide (hi < (nI n).toInt)) && decide ((pc : Int) + o = (((pc : Int) + o).toNat : Int)))) (k ((pc : Int) + o).toNat) none)
      | .inr _ => none)
abbrev ae_F : Type := Nat → Nat → ae_M → List ae_V → List ae_C → ae_O
/-- a call: the callee's room is taken out of the caller's -/
noncomputable def ae_call (MT : List ae_M) (CF : ae_F) (d q : Nat) (me : ae_M) (mid : Nat) (as rest : List ae_V) (w : List ae_C) (cs sl : Nat) (k : List ae_V → List ae_C → Nat → Nat → ae_O) : ae_O :=
  ae_some (ae_nth MT mid) (fun me2 => ae_if (Nat.ble 1 d && (Nat.ble (ae_mL me2 + 19) q && (Nat.ble (cs + ae_mc me2) (ae_mc me) && (Nat.ble (sl + ae_ms me2) (ae_ms me) && (Nat.ble (ae_wd as) (ae_mL me2) && Nat.ble (ae_wd rest) 8)))))
    (ae_some (CF (d - 1) (q - (ae_mL me2 + 19)) me2 as w) (fun r => k (r.1.toList ++ rest) r.2 (cs + ae_mc me2) (sl + ae_ms me2))))
section STEP
variable (MT : List ae_M) (DF : List (List ae_V)) (TY : List (List FieldType)) (SN : List Nat) (XA : List ae_I)
noncomputable def ae_macro (K : ae_K) (ie : ae_E) : ae_K := fun _ lo st w cs sl =>
  ae_la1 (ae_get lo 0) (fun o => match o with
    | .inl o => ae_li1 (ae_get lo 2) (fun z => match z with
      | .inl 0 => ae_obj (ae_nth w o) (fun ci fs => ae_if (Nat.beq ci 8) (ae_la1 (ae_nth fs ie.2.2.2.1) (fun ar => match ar with
        | .inl ar => ae_arr (ae_nth w ar) (fun t n _ _ => ae_if (Nat.beq t 0 && Nat.beq n 64512) (ae_set w ar (.inl (0, 64512, .inl (.inl 4294967295), [])) (fun w' => ae_fil (ae_keep1 2) lo (fun lo' => K ie.2.2.1 ((2, .inl (.inl 64512)) :: lo') st w' cs sl))))
        | .inr _ => none)))
      | _ => none)
    | .inr _ => none)
noncomputable def ae_step (CF : ae_F) (d q : Nat) (me : ae_M) (K : ae_K) (ie : ae_E) : ae_K := fun pc lo st w cs sl =>
  match ie.1 with
  | .iconst n => ae_n (ae_c (Int32.ofInt n)) (fun z => K ie.2.1 lo (.inl (.inl z) :: st) w cs sl)
  | .bipush n => ae_n (ae_c (Int8.ofInt n).toInt32) (fun z => K ie.2.1 lo (.inl (.inl z) :: st) w cs sl)
  | .sipush n => ae_n (ae_c (Int16.ofInt n).toInt32) (fun z => K ie.2.1 lo (.inl (.inl z) :: st) w cs sl)
  | .lconst n => ae_n (ae_d (Int64.ofNat n.val)) (fun z => K ie.2.1 lo (.inr (.inl (.inl z)) :: st) w cs sl)
  | .aconst_null => K ie.2.1 lo (.inr (.inr (.inr 0)) :: st) w cs sl
  | .ldc _ => cond (Nat.beq ie.2.2.1 0) (K ie.2.1 lo (.inl (.inl ie.2.2.2.1) :: st) w cs sl) (K ie.2.1 lo (.inr (.inr (.inr (ie.2.2.2.1 + 2))) :: st) w cs sl)
  | .ldc2_w _ => K ie.2.1 lo (.inr (.inl (.inl ie.2.2.1)) :: st) w cs sl
  | .iload_n n => ae_li1 (ae_get lo n.val) (fun a => K ie.2.1 lo (.inl a :: st) w cs sl)
  | .iload n => ae_li1 (ae_get lo n) (fun a => K ie.2.1 lo (.inl a :: st) w cs sl)
  | .lload_n n => ae_ll1 (ae_get lo n.val) (fun a => K ie.2.1 lo (.inr (.inl a) :: st) w cs sl)
  | .lload n => ae_ll1 (ae_get lo n) (fun a => K ie.2.1 lo (.inr (.inl a) :: st) w cs sl)
  | .aload_n n => ae_la1 (ae_get lo n.val) (fun a => K ie.2.1 lo (.inr (.inr a) :: st) w cs sl)
  | .aload n => ae_la1 (ae_get lo n) (fun a => K ie.2.1 lo (.inr (.inr a) :: st) w cs sl)
  | .istore_n n => ae_i1 st (fun a r => ae_fil (ae_keep1 n.val) lo (fun lo' => K ie.2.1 ((n.val, .inl a) :: lo') r w cs sl))
  | .istore n => ae_i1 st (fun a r => ae_fil (ae_keep1 n) lo (fun lo' => K ie.2.1 ((n, .inl a) :: lo') r w cs sl))
  | .lstore_n n => ae_l1 st (fun a r => ae_fil (ae_keep2 n.val) lo (fun lo' => K ie.2.1 ((n.val, .inr (.inl a)) :: lo') r w cs sl))
  | .lstore n => ae_l1 st (fun a r => ae_fil (ae_keep2 n) lo (fun lo' => K ie.2.1 ((n, .inr (.inl a)) :: lo') r w cs sl))
  | .astore_n n => ae_r1 st (fun a r => ae_fil (ae_keep1 n.val) lo (fun lo' => K ie.2.1 ((n.val, .inr (.inr (.inl a))) :: lo') r w cs sl))
  | .astore n => ae_r1 st (fun a r => ae_fil (ae_keep1 n) lo (fun lo' => K ie.2.1 ((n, .inr (.inr (.inl a))) :: lo') r w cs sl))
  | .iinc i n => ae_li1 (ae_get lo i) (fun a => ae_b (fun x _ => x + Int32.ofInt n) a a (fun z => ae_fil (ae_keep1 i) lo (fun lo' => K ie.2.1 ((i, .inl z) :: lo') st w cs sl)))
  | .iadd => ae_i2 st (fun a b r => ae_b (fun x y => x + y) a b (fun z => K ie.2.1 lo (.inl z :: r) w cs sl))
  | .isub => ae_i2 st (fun a b r => ae_b (fun x y => x - y) a b (fun z => K ie.2.1 lo (.inl z :: r) w cs sl))
  | .imul => ae_i2 st (fun a b r => ae_b (fun x y => x * y) a b (fun z => K ie.2.1 lo (.inl z :: r) w cs sl))
  | .iand => ae_i2 st (fun a b r => ae_band a b (fun z => K ie.2.1 lo (.inl z :: r) w cs sl))
  | .ior => ae_i2 st (fun a b r => ae_b (fun x y => x ||| y) a b (fun z => K ie.2.1 lo (.inl z :: r) w cs sl))
  | .ixor => ae_i2 st (fun a b r => ae_b (fun x y => x ^^^ y) a b (fun z => K ie.2.1 lo (.inl z :: r) w cs sl))
  | .ishl => ae_i2 st (fun a b r => ae_b (fun x y => x <<< (y &&& 31)) a b (fun z => K ie.2.1 lo (.inl z :: r) w cs sl))
  | .ishr => ae_i2 st (fun a b r => ae_b (fun x y => x >>> (y &&& 31)) a b (fun z => K ie.2.1 lo (.inl z :: r) w cs sl))
  | .iushr => ae_i2 st (fun a b r => ae_b (fun x y => (x.toUInt32 >>> (y.toUInt32 &&& Int32.toUInt32 31)).toInt32) a b (fun z => K ie.2.1 lo (.inl z :: r) w cs sl))
  | .idiv => ae_i2 st (fun a b r => ae_bz (fun x y => x / y) a b (fun z => K ie.2.1 lo (.inl z :: r) w cs sl))
  | .irem => ae_i2 st (fun a b r => ae_bz (fun x y => x - x / y * y) a b (fun z => K ie.2.1 lo (.inl z :: r) w cs sl))
  | .ladd => ae_l2 st (fun a b r => ae_lb (fun x y => x + y) a b (fun z => K ie.2.1 lo (.inr (.inl z) :: r) w cs sl))
  | .lmul => ae_l2 st (fun a b r => ae_lb (fun x y => x * y) a b (fun z => K ie.2.1 lo (.inr (.inl z) :: r) w cs sl))
  | .land => ae_l2 st (fun a b r => ae_lb (fun x y => x &&& y) a b (fun z => K ie.2.1 lo (.inr (.inl z) :: r) w cs sl))
  | .lor => ae_l2 st (fun a b r => ae_lb (fun x y => x ||| y) a b (fun z => K ie.2.1 lo (.inr (.inl z) :: r) w cs sl))
  | .ldiv => ae_l2 st (fun a b r => ae_lbz (fun x y => x / y) a b (fun z => K ie.2.1 lo (.inr (.inl z) :: r) w cs sl))
  | .lrem => ae_l2 st (fun a b r => ae_lbz (fun x y => x - x / y * y) a b (fun z => K ie.2.1 lo (.inr (.inl z) :: r) w cs sl))
  | .lshl => ae_li st (fun a b r => ae_ls (fun x y => x <<< (y.toInt64 &&& 63)) a b (fun z => K ie.2.1 lo (.inr (.inl z) :: r) w cs sl))
  | .lshr => ae_li st (fun a b r => ae_ls (fun x y => x >>> (y.toInt64 &&& 63)) a b (fun z => K ie.2.1 lo (.inr (.inl z) :: r) w cs sl))
  | .i2l => ae_i1 st (fun a r => ae_i2l a (fun z => K ie.2.1 lo (.inr (.inl z) :: r) w cs sl))
  | .l2i => ae_l1 st (fun a r => ae_l2i a (fun z => K ie.2.1 lo (.inl z :: r) w cs sl))
  | .lcmp => ae_l2 st (fun a b r => ae_lcmp a b (fun z => K ie.2.1 lo (.inl z :: r) w cs sl))
  | .dup => ae_v1 st (fun v r => ae_if (!(ae_cat2 v)) (K ie.2.1 lo (v :: v :: r) w cs sl))
  | .dup2 => ae_v2 st (fun v u r => ae_if (!(ae_cat2 v) && !(ae_cat2 u)) (K ie.2.1 lo (v :: u :: v :: u :: r) w cs sl))
  | .pop => ae_v1 st (fun v r => ae_if (!(ae_cat2 v)) (K ie.2.1 lo r w cs sl))
  | .goto _ => K ie.2.2.1 lo st w cs sl
  | .ifCond c _ => ae_i1 st (fun a r => ae_br (ae_cmp c a (.inl 0)) (K ie.2.2.1 lo r w cs sl) (K ie.2.1 lo r w cs sl))
  | .if_icmp c _ => ae_i2 st (fun a b r => ae_br (ae_cmp c a b) (K ie.2.2.1 lo r w cs sl) (K ie.2.1 lo r w cs sl))
  | .ifnonnull _ => ae_al st (fun _ r => K ie.2.2.1 lo r w cs sl) (fun k r => ae_if (Nat.beq k 0) (K ie.2.1 lo r w cs sl))
  | .tableswitch dflt lw hi offs => ae_i1 st (fun a r => ae_sw pc dflt lw hi offs a (fun tg => K tg lo r w cs sl))
  | .getfield _ => ae_r1 st (fun i r => ae_obj (ae_nth w i) (fun ci fs => ae_if (Nat.beq ci ie.2.2.1) (ae_some (ae_nth fs ie.2.2.2.1) (fun v => K ie.2.1 lo (v :: r) w cs sl))))
  | .putfield _ => ae_vr st (fun i v r => ae_obj (ae_nth w i) (fun ci fs => ae_if (Nat.beq ci ie.2.2.1) (ae_some (ae_nth fs ie.2.2.2.1) (fun _ => ae_some (ae_nth TY ie.2.2.1) (fun tl => ae_some (ae_nth tl ie.2.2.2.1) (fun ty => ae_if (ae_fty ty v) (ae_set fs ie.2.2.2.1 v (fun fs' => ae_set w i (.inr (ci, fs')) (fun w' => K ie.2.1 lo r w' cs sl)))))))))
  | .iaload => ae_ri2 st (fun i j r => ae_arr (ae_nth w i) (fun t n dv ex => ae_if (Nat.beq t 0 && (Nat.blt j n && Nat.ble n 1000000)) (K ie.2.1 lo (ae_ag dv ex j :: r) w cs sl))) (fun k j r => ae_if (Nat.beq k 1 && Nat.blt j 4) (ae_some (ae_nth XA j) (fun a => K ie.2.1 lo (.inl a :: r) w cs sl)))
  | .laload => ae_ri st (fun i j r => ae_arr (ae_nth w i) (fun t n dv ex => ae_if (Nat.beq t 1 && (Nat.blt j n && Nat.ble n 1000000)) (K ie.2.1 lo (ae_ag dv ex j :: r) w cs sl)))
  | .baload => ae_ri st (fun i j r => ae_arr (ae_nth w i) (fun t n dv ex => ae_if (Nat.beq t 2 && (Nat.blt j n && Nat.ble n 1000000)) (K ie.2.1 lo (ae_ag dv ex j :: r) w cs sl)))
  | .aaload => ae_ri st (fun i j r => ae_arr (ae_nth w i) (fun t n dv ex => ae_if ((Nat.beq t 3 || Nat.beq t 4) && (Nat.blt j n && Nat.ble n 1000000)) (K ie.2.1 lo (ae_ag dv ex j :: r) w cs sl)))
  | .iastore => ae_rv st (fun i j v r => ae_arr (ae_nth w i) (fun t n dv ex => ae_if (Nat.beq t 0 && (Nat.blt j n && (Nat.ble n 1000000 && ae_fit 0 v))) (ae_as ex j v (fun ex' => ae_set w i (.inl (t, n, dv, ex')) (fun w' => K ie.2.1 lo r w' cs sl)))))
  | .lastore => ae_rv st (fun i j v r => ae_arr (ae_nth w i) (fun t n dv ex => ae_if (Nat.beq t 1 && (Nat.blt j n && (Nat.ble n 1000000 && ae_fit 1 v))) (ae_as ex j v (fun ex' => ae_set w i (.inl (t, n, dv, ex')) (fun w' => K ie.2.1 lo r w' cs sl)))))
  | .bastore => ae_rv st (fun i j v r => ae_arr (ae_nth w i) (fun t n dv ex => ae_if (Nat.beq t 2 && (Nat.blt j n && (Nat.ble n 1000000 && ae_fit 2 v))) (ae_as ex j v (fun ex' => ae_set w i (.inl (t, n, dv, ex')) (fun w' => K ie.2.1 lo r w' cs sl)))))
  | .arraylength => ae_al st (fun i r => ae_arr (ae_nth w i) (fun t n _ _ => ae_if (Nat.blt t 5) (K ie.2.1 lo (.inl (.inl n) :: r) w cs sl))) (fun k r => ae_if (Nat.beq k 1) (K ie.2.1 lo (.inl (.inl XA.length) :: r) w cs sl))
  | .newarray at_ => ae_n1 st (fun n r => ae_if (Nat.ble n 1000000 && (Nat.ble (cs + 1) (ae_mc me) && (Nat.ble (sl + n) (ae_ms me) && Nat.blt (ae_atag at_) 3))) (ae_n w.length (fun z => ae_app w [.inl (ae_atag at_, n, ae_dv (ae_atag at_), [])] (fun w' => K ie.2.1 lo (.inr (.inr (.inl z)) :: r) w' (cs + 1) (sl + n)))))
  | .multianewarray _ _ => ae_n2 st (fun n k r => ae_if (Nat.ble n 1000 && (Nat.ble k 1000 && (Nat.ble (cs + (1 + n)) (ae_mc me) && (Nat.ble (sl + (n + n * k)) (ae_ms me) && Nat.blt ie.2.2.1 2)))) (ae_n w.length (fun z => ae_app w (.inl (3 + ie.2.2.1, n, .inr (.inr (.inr 0)), ae_rng n 0 (z + 1)) :: ae_rep n (.inl (ie.2.2.1, k, ae_dv ie.2.2.1, []))) (fun w' => K ie.2.1 lo (.inr (.inr (.inl z)) :: r) w' (cs + 1 + n) (sl + n + n * k)))))
  | .new _ => ae_some (ae_nth DF ie.2.2.1) (fun fs => ae_if (Nat.ble (cs + 1) (ae_mc me) && Nat.ble (sl + fs.length) (ae_ms me)) (ae_n w.length (fun z => ae_app w [.inr (ie.2.2.1, fs)] (fun w' => K ie.2.1 lo (.inr (.inr (.inl z)) :: st) w' (cs + 1) (sl + fs.length)))))
  | .invokevirtual _ => ae_pop ie.2.2.2.1 st [] (fun as st2 => ae_al st2 (fun i r => ae_obj (ae_nth w i) (fun ci _ => ae_if (Nat.beq (ci + 1) ie.2.2.2.2.1) (ae_call MT CF d q me ie.2.2.1 (.inr (.inr (.inl i)) :: as) r w cs sl (K ie.2.1 lo))))
      (fun k r => ae_if (Nat.beq ie.2.2.2.2.1 0 && (Nat.ble 2 k && (Nat.ble 2 d && (Nat.ble 80 q && Nat.ble (ae_wd r) 8)))) (ae_some (ae_nth SN (k - 2)) (fun n => K ie.2.1 lo (.inl (.inl n) :: r) w cs sl))))
  | .invokestatic _ => cond (Nat.beq ie.2.2.2.2.1 1) (ae_cp st (fun n i j r => ae_arr (ae_nth w i) (fun t1 n1 _ _ => ae_arr (ae_nth w j) (fun t0 n0 dv ex => ae_if (Nat.beq t1 0 && (Nat.beq t0 0 && (Nat.beq n n1 && (Nat.ble n n0 && (Nat.ble n 1000000 && (Nat.ble 1 d && Nat.ble (ae_wd r + 60) q)))))) (ae_set w i (.inl (0, n1, dv, ex)) (fun w' => K ie.2.1 lo r w' cs sl))))))
      (ae_pop ie.2.2.2.1 st [] (fun as r => ae_call MT CF d q me ie.2.2.1 as r w cs sl (K ie.2.1 lo)))
  | .invokespecial _ => ae_pop ie.2.2.2.1 st [] (fun as st2 => ae_r1 st2 (fun i r => cond (Nat.beq ie.2.2.2.2.1 0) (ae_if (Nat.ble 1 d && Nat.ble (ae_wd r + 12) q) (K ie.2.1 lo r w cs sl)) (ae_call MT CF d q me ie.2.2.1 (.inr (.inr (.inl i)) :: as) r w cs sl (K ie.2.1 lo))))
  | .ireturn => ae_one st (fun v => ae_zr (ae_mR me) v w)
  | .lreturn => ae_one st (fun v => ae_jr (ae_mR me) v w)
  | .areturn => ae_one st (fun v => ae_ar (ae_mR me) v w)
  | .return_ => ae_vx (ae_mR me) st w
  | _ => none
noncomputable def ae_run (n : Nat) : Nat → Nat → ae_M → ae_K := Nat.rec (motive := fun _ => Nat → Nat → ae_M → ae_K) (fun _ _ _ _ _ _ _ _ _ => none)
  (fun _ ih d q me pc lo st w cs sl => ae_some (ae_nth (ae_il me) pc) (fun oie => ae_some oie (fun ie =>
    cond (Nat.beq ie.2.2.2.2.1 77777) (ae_macro (ih d q me) ie pc lo st w cs sl)
      (ae_step MT DF TY SN XA (fun d q me as w => ae_args as 0 (fun lo => ih d q me 0 lo [] w 0 0)) d q me (ih d q me) ie pc lo st w cs sl)))) n
end STEP
