/-! ===== the memory: int fields by number, arrays by their cell, two references, and the cells that came later ===== -/
abbrev kM : Type := (Nat → Int) × ((Nat → Int → Int) × ((Nat → ae_V) × List ae_C))
def kF (m : kM) (k : Nat) (v : Int) : kM := (fun j => cond (Nat.beq j k) v (m.1 j), m.2)
def kA (m : kM) (i : Nat) (f : Int → Int) : kM := (m.1, (fun j => cond (Nat.beq j i) f (m.2.1 j), m.2.2))
def kR (m : kM) (k : Nat) (v : ae_V) : kM := (m.1, (m.2.1, (fun j => cond (Nat.beq j k) v (m.2.2.1 j), m.2.2.2)))
def kT (m : kM) (c : ae_C) : kM := (m.1, (m.2.1, (m.2.2.1, m.2.2.2 ++ [c])))
noncomputable def kf (m : kM) : List ae_C := [.inr (7, [vR 1, vR 3, vR 9, vR 15, vR 16, vR 31, vR 58, vR 59, vR 60, vI (m.1 0), vI (m.1 1), vI (m.1 2)]),
  .inr (5, [vR 2, vI (m.1 3), vI (m.1 4), vI (m.1 5), vI (m.1 6)]),
  cI 200 (m.2.1 2),
  .inr (2, [vR 4, vR 5, vR 6, vR 7, vR 8, vI (m.1 7), vI (m.1 8), vI (m.1 9), vI (m.1 10), vI (m.1 11), vI (m.1 12)]),
  cI 10 (m.2.1 4),
  cI 10 (m.2.1 5),
  cI 10 (m.2.1 6),
  cI 10 (m.2.1 7),
  cI 2 (m.2.1 8),
  .inr (2, [vR 10, vR 11, vR 12, vR 13, vR 14, vI (m.1 13), vI (m.1 14), vI (m.1 15), vI (m.1 16), vI (m.1 17), vI (m.1 18)]),
  cI 10 (m.2.1 10),
  cI 10 (m.2.1 11),
  cI 10 (m.2.1 12),
  cI 10 (m.2.1 13),
  cI 2 (m.2.1 14),
  .inr (0, [vR 3]),
  .inr (1, [vR 3, vR 17, vR 29, vR 30, m.2.2.1 0, m.2.2.1 1, vI (m.1 19)]),
  .inr (6, [vR 3, vR 15, vR 18, vR 19, vR 20, vR 21, vR 28, vI (m.1 20), vI (m.1 21)]),
  cJ 64512 (m.2.1 18),
  cJ 8192 (m.2.1 19),
  cI 100 (m.2.1 20),
  cA 0 6 22,
  cI 10 (m.2.1 22),
  cI 10 (m.2.1 23),
  cI 10 (m.2.1 24),
  cI 10 (m.2.1 25),
  cI 10 (m.2.1 26),
  cI 10 (m.2.1 27),
  cI 6 (m.2.1 28),
  cI 4 (m.2.1 29),
  cI 10 (m.2.1 30),
  .inr (3, [vR 3, vR 32, vR 33, vR 34, vR 46, vI (m.1 22)]),
  cI 8 (m.2.1 32),
  cI 8 (m.2.1 33),
  cA 1 11 35,
  cJ 6 (m.2.1 35),
  cJ 6 (m.2.1 36),
  cJ 6 (m.2.1 37),
  cJ 6 (m.2.1 38),
  cJ 6 (m.2.1 39),
  cJ 6 (m.2.1 40),
  cJ 6 (m.2.1 41),
  cJ 6 (m.2.1 42),
  cJ 6 (m.2.1 43),
  cJ 6 (m.2.1 44),
  cJ 6 (m.2.1 45),
  cA 1 11 47,
  cJ 6 (m.2.1 47),
  cJ 6 (m.2.1 48),
  cJ 6 (m.2.1 49),
  cJ 6 (m.2.1 50),
  cJ 6 (m.2.1 51),
  cJ 6 (m.2.1 52),
  cJ 6 (m.2.1 53),
  cJ 6 (m.2.1 54),
  cJ 6 (m.2.1 55),
  cJ 6 (m.2.1 56),
  cJ 6 (m.2.1 57),
  cI 20 (m.2.1 58),
  cI 2 (m.2.1 59),
  cI 2 (m.2.1 60),
  .inr (8, [vR 62, vR 63, vR 64, vI (m.1 23), vR 65, vI (m.1 24), vI (m.1 25), vR 66, vI (m.1 26), vI (m.1 27), vI (m.1 28), vI (m.1 29), vI (m.1 30), vR 67, vI (m.1 31), vI (m.1 32), vI (m.1 33), vI (m.1 34), vI (m.1 35), vI (m.1 36), vR 68, vR 69, vR 70, vI (m.1 37), vR 71, vR 72, vI (m.1 38), vR 73, vI (m.1 39), vR 74, vR 75]),
  cI 48 (m.2.1 62),
  cZ 2 (m.2.1 63),
  cI 200 (m.2.1 64),
  cI 40 (m.2.1 65),
  cI 40 (m.2.1 66),
  cI 2 (m.2.1 67),
  cI 64512 (m.2.1 68),
  cI 64512 (m.2.1 69),
  cZ 64512 (m.2.1 70),
  cI 400 (m.2.1 71),
  cI 20 (m.2.1 72),
  cI 16 (m.2.1 73),
  cJ 66 (m.2.1 74),
  cJ 66 (m.2.1 75)]
noncomputable def kl (m : kM) : List ae_C := kf m ++ m.2.2.2
theorem kl_0 (m : kM) : (kl m)[0]? = some (.inr (7, [vR 1, vR 3, vR 9, vR 15, vR 16, vR 31, vR 58, vR 59, vR 60, vI (m.1 0), vI (m.1 1), vI (m.1 2)])) := rfl
theorem kl_1 (m : kM) : (kl m)[1]? = some (.inr (5, [vR 2, vI (m.1 3), vI (m.1 4), vI (m.1 5), vI (m.1 6)])) := rfl
theorem kl_2 (m : kM) : (kl m)[2]? = some (cI 200 (m.2.1 2)) := rfl
theorem kl_3 (m : kM) : (kl m)[3]? = some (.inr (2, [vR 4, vR 5, vR 6, vR 7, vR 8, vI (m.1 7), vI (m.1 8), vI (m.1 9), vI (m.1 10), vI (m.1 11), vI (m.1 12)])) := rfl
theorem kl_4 (m : kM) : (kl m)[4]? = some (cI 10 (m.2.1 4)) := rfl
theorem kl_5 (m : kM) : (kl m)[5]? = some (cI 10 (m.2.1 5)) := rfl
theorem kl_6 (m : kM) : (kl m)[6]? = some (cI 10 (m.2.1 6)) := rfl
theorem kl_7 (m : kM) : (kl m)[7]? = some (cI 10 (m.2.1 7)) := rfl
theorem kl_8 (m : kM) : (kl m)[8]? = some (cI 2 (m.2.1 8)) := rfl
theorem kl_9 (m : kM) : (kl m)[9]? = some (.inr (2, [vR 10, vR 11, vR 12, vR 13, vR 14, vI (m.1 13), vI (m.1 14), vI (m.1 15), vI (m.1 16), vI (m.1 17), vI (m.1 18)])) := rfl
theorem kl_10 (m : kM) : (kl m)[10]? = some (cI 10 (m.2.1 10)) := rfl
theorem kl_11 (m : kM) : (kl m)[11]? = some (cI 10 (m.2.1 11)) := rfl
theorem kl_12 (m : kM) : (kl m)[12]? = some (cI 10 (m.2.1 12)) := rfl
theorem kl_13 (m : kM) : (kl m)[13]? = some (cI 10 (m.2.1 13)) := rfl
theorem kl_14 (m : kM) : (kl m)[14]? = some (cI 2 (m.2.1 14)) := rfl
theorem kl_15 (m : kM) : (kl m)[15]? = some (.inr (0, [vR 3])) := rfl
theorem kl_16 (m : kM) : (kl m)[16]? = some (.inr (1, [vR 3, vR 17, vR 29, vR 30, m.2.2.1 0, m.2.2.1 1, vI (m.1 19)])) := rfl
theorem kl_17 (m : kM) : (kl m)[17]? = some (.inr (6, [vR 3, vR 15, vR 18, vR 19, vR 20, vR 21, vR 28, vI (m.1 20), vI (m.1 21)])) := rfl
theorem kl_18 (m : kM) : (kl m)[18]? = some (cJ 64512 (m.2.1 18)) := rfl
theorem kl_19 (m : kM) : (kl m)[19]? = some (cJ 8192 (m.2.1 19)) := rfl
theorem kl_20 (m : kM) : (kl m)[20]? = some (cI 100 (m.2.1 20)) := rfl
theorem kl_21 (m : kM) : (kl m)[21]? = some (cA 0 6 22) := rfl
theorem kl_22 (m : kM) : (kl m)[22]? = some (cI 10 (m.2.1 22)) := rfl
theorem kl_23 (m : kM) : (kl m)[23]? = some (cI 10 (m.2.1 23)) := rfl
theorem kl_24 (m : kM) : (kl m)[24]? = some (cI 10 (m.2.1 24)) := rfl
theorem kl_25 (m : kM) : (kl m)[25]? = some (cI 10 (m.2.1 25)) := rfl
theorem kl_26 (m : kM) : (kl m)[26]? = some (cI 10 (m.2.1 26)) := rfl
theorem kl_27 (m : kM) : (kl m)[27]? = some (cI 10 (m.2.1 27)) := rfl
theorem kl_28 (m : kM) : (kl m)[28]? = some (cI 6 (m.2.1 28)) := rfl
theorem kl_29 (m : kM) : (kl m)[29]? = some (cI 4 (m.2.1 29)) := rfl
theorem kl_30 (m : kM) : (kl m)[30]? = some (cI 10 (m.2.1 30)) := rfl
theorem kl_31 (m : kM) : (kl m)[31]? = some (.inr (3, [vR 3, vR 32, vR 33, vR 34, vR 46, vI (m.1 22)])) := rfl
theorem kl_32 (m : kM) : (kl m)[32]? = some (cI 8 (m.2.1 32)) := rfl
theorem kl_33 (m : kM) : (kl m)[33]? = some (cI 8 (m.2.1 33)) := rfl
theorem kl_34 (m : kM) : (kl m)[34]? = some (cA 1 11 35) := rfl
theorem kl_35 (m : kM) : (kl m)[35]? = some (cJ 6 (m.2.1 35)) := rfl
theorem kl_36 (m : kM) : (kl m)[36]? = some (cJ 6 (m.2.1 36)) := rfl
theorem kl_37 (m : kM) : (kl m)[37]? = some (cJ 6 (m.2.1 37)) := rfl
theorem kl_38 (m : kM) : (kl m)[38]? = some (cJ 6 (m.2.1 38)) := rfl
theorem kl_39 (m : kM) : (kl m)[39]? = some (cJ 6 (m.2.1 39)) := rfl
theorem kl_40 (m : kM) : (kl m)[40]? = some (cJ 6 (m.2.1 40)) := rfl
theorem kl_41 (m : kM) : (kl m)[41]? = some (cJ 6 (m.2.1 41)) := rfl
theorem kl_42 (m : kM) : (kl m)[42]? = some (cJ 6 (m.2.1 42)) := rfl
theorem kl_43 (m : kM) : (kl m)[43]? = some (cJ 6 (m.2.1 43)) := rfl
theorem kl_44 (m : kM) : (kl m)[44]? = some (cJ 6 (m.2.1 44)) := rfl
theorem kl_45 (m : kM) : (kl m)[45]? = some (cJ 6 (m.2.1 45)) := rfl
theorem kl_46 (m : kM) : (kl m)[46]? = some (cA 1 11 47) := rfl
theorem kl_47 (m : kM) : (kl m)[47]? = some (cJ 6 (m.2.1 47)) := rfl
theorem kl_48 (m : kM) : (kl m)[48]? = some (cJ 6 (m.2.1 48)) := rfl
theorem kl_49 (m : kM) : (kl m)[49]? = some (cJ 6 (m.2.1 49)) := rfl
theorem kl_50 (m : kM) : (kl m)[50]? = some (cJ 6 (m.2.1 50)) := rfl
theorem kl_51 (m : kM) : (kl m)[51]? = some (cJ 6 (m.2.1 51)) := rfl
theorem kl_52 (m : kM) : (kl m)[52]? = some (cJ 6 (m.2.1 52)) := rfl
theorem kl_53 (m : kM) : (kl m)[53]? = some (cJ 6 (m.2.1 53)) := rfl
theorem kl_54 (m : kM) : (kl m)[54]? = some (cJ 6 (m.2.1 54)) := rfl
theorem kl_55 (m : kM) : (kl m)[55]? = some (cJ 6 (m.2.1 55)) := rfl
theorem kl_56 (m : kM) : (kl m)[56]? = some (cJ 6 (m.2.1 56)) := rfl
theorem kl_57 (m : kM) : (kl m)[57]? = some (cJ 6 (m.2.1 57)) := rfl
theorem kl_58 (m : kM) : (kl m)[58]? = some (cI 20 (m.2.1 58)) := rfl
theorem kl_59 (m : kM) : (kl m)[59]? = some (cI 2 (m.2.1 59)) := rfl
theorem kl_60 (m : kM) : (kl m)[60]? = some (cI 2 (m.2.1 60)) := rfl
theorem kl_61 (m : kM) : (kl m)[61]? = some (.inr (8, [vR 62, vR 63, vR 64, vI (m.1 23), vR 65, vI (m.1 24), vI (m.1 25), vR 66, vI (m.1 26), vI (m.1 27), vI (m.1 28), vI (m.1 29), vI (m.1 30), vR 67, vI (m.1 31), vI (m.1 32), vI (m.1 33), vI (m.1 34), vI (m.1 35), vI (m.1 36), vR 68, vR 69, vR 70, vI (m.1 37), vR 71, vR 72, vI (m.1 38), vR 73, vI (m.1 39), vR 74, vR 75])) := rfl
theorem kl_62 (m : kM) : (kl m)[62]? = some (cI 48 (m.2.1 62)) := rfl
theorem kl_63 (m : kM) : (kl m)[63]? = some (cZ 2 (m.2.1 63)) := rfl
theorem kl_64 (m : kM) : (kl m)[64]? = some (cI 200 (m.2.1 64)) := rfl
theorem kl_65 (m : kM) : (kl m)[65]? = some (cI 40 (m.2.1 65)) := rfl
theorem kl_66 (m : kM) : (kl m)[66]? = some (cI 40 (m.2.1 66)) := rfl
theorem kl_67 (m : kM) : (kl m)[67]? = some (cI 2 (m.2.1 67)) := rfl
theorem kl_68 (m : kM) : (kl m)[68]? = some (cI 64512 (m.2.1 68)) := rfl
theorem kl_69 (m : kM) : (kl m)[69]? = some (cI 64512 (m.2.1 69)) := rfl
theorem kl_70 (m : kM) : (kl m)[70]? = some (cZ 64512 (m.2.1 70)) := rfl
theorem kl_71 (m : kM) : (kl m)[71]? = some (cI 400 (m.2.1 71)) := rfl
theorem kl_72 (m : kM) : (kl m)[72]? = some (cI 20 (m.2.1 72)) := rfl
theorem kl_73 (m : kM) : (kl m)[73]? = some (cI 16 (m.2.1 73)) := rfl
theorem kl_74 (m : kM) : (kl m)[74]? = some (cJ 66 (m.2.1 74)) := rfl
theorem kl_75 (m : kM) : (kl m)[75]? = some (cJ 66 (m.2.1 75)) := rfl
theorem kF_0 (m : kM) (v : Int) : (kl m).set 0 (.inr (7, ([vR 1, vR 3, vR 9, vR 15, vR 16, vR 31, vR 58, vR 59, vR 60, vI (m.1 0), vI (m.1 1), vI (m.1 2)] : List ae_V).set 9 (vI v))) = kl (kF m 0 v) := rfl
theorem kF_1 (m : kM) (v : Int) : (kl m).set 0 (.inr (7, ([vR 1, vR 3, vR 9, vR 15, vR 16, vR 31, vR 58, vR 59, vR 60, vI (m.1 0), vI (m.1 1), vI (m.1 2)] : List ae_V).set 10 (vI v))) = kl (kF m 1 v) := rfl
theorem kF_2 (m : kM) (v : Int) : (kl m).set 0 (.inr (7, ([vR 1, vR 3, vR 9, vR 15, vR 16, vR 31, vR 58, vR 59, vR 60, vI (m.1 0), vI (m.1 1), vI (m.1 2)] : List ae_V).set 11 (vI v))) = kl (kF m 2 v) := rfl
theorem kF_3 (m : kM) (v : Int) : (kl m).set 1 (.inr (5, ([vR 2, vI (m.1 3), vI (m.1 4), vI (m.1 5), vI (m.1 6)] : List ae_V).set 1 (vI v))) = kl (kF m 3 v) := rfl
theorem kF_4 (m : kM) (v : Int) : (kl m).set 1 (.inr (5, ([vR 2, vI (m.1 3), vI (m.1 4), vI (m.1 5), vI (m.1 6)] : List ae_V).set 2 (vI v))) = kl (kF m 4 v) := rfl
theorem kF_5 (m : kM) (v : Int) : (kl m).set 1 (.inr (5, ([vR 2, vI (m.1 3), vI (m.1 4), vI (m.1 5), vI (m.1 6)] : List ae_V).set 3 (vI v))) = kl (kF m 5 v) := rfl
theorem kF_6 (m : kM) (v : Int) : (kl m).set 1 (.inr (5, ([vR 2, vI (m.1 3), vI (m.1 4), vI (m.1 5), vI (m.1 6)] : List ae_V).set 4 (vI v))) = kl (kF m 6 v) := rfl
theorem kF_7 (m : kM) (v : Int) : (kl m).set 3 (.inr (2, ([vR 4, vR 5, vR 6, vR 7, vR 8, vI (m.1 7), vI (m.1 8), vI (m.1 9), vI (m.1 10), vI (m.1 11), vI (m.1 12)] : List ae_V).set 5 (vI v))) = kl (kF m 7 v) := rfl
theorem kF_8 (m : kM) (v : Int) : (kl m).set 3 (.inr (2, ([vR 4, vR 5, vR 6, vR 7, vR 8, vI (m.1 7), vI (m.1 8), vI (m.1 9), vI (m.1 10), vI (m.1 11), vI (m.1 12)] : List ae_V).set 6 (vI v))) = kl (kF m 8 v) := rfl
theorem kF_9 (m : kM) (v : Int) : (kl m).set 3 (.inr (2, ([vR 4, vR 5, vR 6, vR 7, vR 8, vI (m.1 7), vI (m.1 8), vI (m.1 9), vI (m.1 10), vI (m.1 11), vI (m.1 12)] : List ae_V).set 7 (vI v))) = kl (kF m 9 v) := rfl
theorem kF_10 (m : kM) (v : Int) : (kl m).set 3 (.inr (2, ([vR 4, vR 5, vR 6, vR 7, vR 8, vI (m.1 7), vI (m.1 8), vI (m.1 9), vI (m.1 10), vI (m.1 11), vI (m.1 12)] : List ae_V).set 8 (vI v))) = kl (kF m 10 v) := rfl
theorem kF_11 (m : kM) (v : Int) : (kl m).set 3 (.inr (2, ([vR 4, vR 5, vR 6, vR 7, vR 8, vI (m.1 7), vI (m.1 8), vI (m.1 9), vI (m.1 10), vI (m.1 11), vI (m.1 12)] : List ae_V).set 9 (vI v))) = kl (kF m 11 v) := rfl
theorem kF_12 (m : kM) (v : Int) : (kl m).set 3 (.inr (2, ([vR 4, vR 5, vR 6, vR 7, vR 8, vI (m.1 7), vI (m.1 8), vI (m.1 9), vI (m.1 10), vI (m.1 11), vI (m.1 12)] : List ae_V).set 10 (vI v))) = kl (kF m 12 v) := rfl
theorem kF_13 (m : kM) (v : Int) : (kl m).set 9 (.inr (2, ([vR 10, vR 11, vR 12, vR 13, vR 14, vI (m.1 13), vI (m.1 14), vI (m.1 15), vI (m.1 16), vI (m.1 17), vI (m.1 18)] : List ae_V).set 5 (vI v))) = kl (kF m 13 v) := rfl
theorem kF_14 (m : kM) (v : Int) : (kl m).set 9 (.inr (2, ([vR 10, vR 11, vR 12, vR 13, vR 14, vI (m.1 13), vI (m.1 14), vI (m.1 15), vI (m.1 16), vI (m.1 17), vI (m.1 18)] : List ae_V).set 6 (vI v))) = kl (kF m 14 v) := rfl
theorem kF_15 (m : kM) (v : Int) : (kl m).set 9 (.inr (2, ([vR 10, vR 11, vR 12, vR 13, vR 14, vI (m.1 13), vI (m.1 14), vI (m.1 15), vI (m.1 16), vI (m.1 17), vI (m.1 18)] : List ae_V).set 7 (vI v))) = kl (kF m 15 v) := rfl
theorem kF_16 (m : kM) (v : Int) : (kl m).set 9 (.inr (2, ([vR 10, vR 11, vR 12, vR 13, vR 14, vI (m.1 13), vI (m.1 14), vI (m.1 15), vI (m.1 16), vI (m.1 17), vI (m.1 18)] : List ae_V).set 8 (vI v))) = kl (kF m 16 v) := rfl
theorem kF_17 (m : kM) (v : Int) : (kl m).set 9 (.inr (2, ([vR 10, vR 11, vR 12, vR 13, vR 14, vI (m.1 13), vI (m.1 14), vI (m.1 15), vI (m.1 16), vI (m.1 17), vI (m.1 18)] : List ae_V).set 9 (vI v))) = kl (kF m 17 v) := rfl
theorem kF_18 (m : kM) (v : Int) : (kl m).set 9 (.inr (2, ([vR 10, vR 11, vR 12, vR 13, vR 14, vI (m.1 13), vI (m.1 14), vI (m.1 15), vI (m.1 16), vI (m.1 17), vI (m.1 18)] : List ae_V).set 10 (vI v))) = kl (kF m 18 v) := rfl
theorem kF_19 (m : kM) (v : Int) : (kl m).set 16 (.inr (1, ([vR 3, vR 17, vR 29, vR 30, m.2.2.1 0, m.2.2.1 1, vI (m.1 19)] : List ae_V).set 6 (vI v))) = kl (kF m 19 v) := rfl
theorem kF_20 (m : kM) (v : Int) : (kl m).set 17 (.inr (6, ([vR 3, vR 15, vR 18, vR 19, vR 20, vR 21, vR 28, vI (m.1 20), vI (m.1 21)] : List ae_V).set 7 (vI v))) = kl (kF m 20 v) := rfl
theorem kF_21 (m : kM) (v : Int) : (kl m).set 17 (.inr (6, ([vR 3, vR 15, vR 18, vR 19, vR 20, vR 21, vR 28, vI (m.1 20), vI (m.1 21)] : List ae_V).set 8 (vI v))) = kl (kF m 21 v) := rfl
theorem kF_22 (m : kM) (v : Int) : (kl m).set 31 (.inr (3, ([vR 3, vR 32, vR 33, vR 34, vR 46, vI (m.1 22)] : List ae_V).set 5 (vI v))) = kl (kF m 22 v) := rfl
theorem kF_23 (m : kM) (v : Int) : (kl m).set 61 (.inr (8, ([vR 62, vR 63, vR 64, vI (m.1 23), vR 65, vI (m.1 24), vI (m.1 25), vR 66, vI (m.1 26), vI (m.1 27), vI (m.1 28), vI (m.1 29), vI (m.1 30), vR 67, vI (m.1 31), vI (m.1 32), vI (m.1 33), vI (m.1 34), vI (m.1 35), vI (m.1 36), vR 68, vR 69, vR 70, vI (m.1 37), vR 71, vR 72, vI (m.1 38), vR 73, vI (m.1 39), vR 74, vR 75] : List ae_V).set 3 (vI v))) = kl (kF m 23 v) := rfl
theorem kF_24 (m : kM) (v : Int) : (kl m).set 61 (.inr (8, ([vR 62, vR 63, vR 64, vI (m.1 23), vR 65, vI (m.1 24), vI (m.1 25), vR 66, vI (m.1 26), vI (m.1 27), vI (m.1 28), vI (m.1 29), vI (m.1 30), vR 67, vI (m.1 31), vI (m.1 32), vI (m.1 33), vI (m.1 34), vI (m.1 35), vI (m.1 36), vR 68, vR 69, vR 70, vI (m.1 37), vR 71, vR 72, vI (m.1 38), vR 73, vI (m.1 39), vR 74, vR 75] : List ae_V).set 5 (vI v))) = kl (kF m 24 v) := rfl
theorem kF_25 (m : kM) (v : Int) : (kl m).set 61 (.inr (8, ([vR 62, vR 63, vR 64, vI (m.1 23), vR 65, vI (m.1 24), vI (m.1 25), vR 66, vI (m.1 26), vI (m.1 27), vI (m.1 28), vI (m.1 29), vI (m.1 30), vR 67, vI (m.1 31), vI (m.1 32), vI (m.1 33), vI (m.1 34), vI (m.1 35), vI (m.1 36), vR 68, vR 69, vR 70, vI (m.1 37), vR 71, vR 72, vI (m.1 38), vR 73, vI (m.1 39), vR 74, vR 75] : List ae_V).set 6 (vI v))) = kl (kF m 25 v) := rfl
theorem kF_26 (m : kM) (v : Int) : (kl m).set 61 (.inr (8, ([vR 62, vR 63, vR 64, vI (m.1 23), vR 65, vI (m.1 24), vI (m.1 25), vR 66, vI (m.1 26), vI (m.1 27), vI (m.1 28), vI (m.1 29), vI (m.1 30), vR 67, vI (m.1 31), vI (m.1 32), vI (m.1 33), vI (m.1 34), vI (m.1 35), vI (m.1 36), vR 68, vR 69, vR 70, vI (m.1 37), vR 71, vR 72, vI (m.1 38), vR 73, vI (m.1 39), vR 74, vR 75] : List ae_V).set 8 (vI v))) = kl (kF m 26 v) := rfl
theorem kF_27 (m : kM) (v : Int) : (kl m).set 61 (.inr (8, ([vR 62, vR 63, vR 64, vI (m.1 23), vR 65, vI (m.1 24), vI (m.1 25), vR 66, vI (m.1 26), vI (m.1 27), vI (m.1 28), vI (m.1 29), vI (m.1 30), vR 67, vI (m.1 31), vI (m.1 32), vI (m.1 33), vI (m.1 34), vI (m.1 35), vI (m.1 36), vR 68, vR 69, vR 70, vI (m.1 37), vR 71, vR 72, vI (m.1 38), vR 73, vI (m.1 39), vR 74, vR 75] : List ae_V).set 9 (vI v))) = kl (kF m 27 v) := rfl
theorem kF_28 (m : kM) (v : Int) : (kl m).set 61 (.inr (8, ([vR 62, vR 63, vR 64, vI (m.1 23), vR 65, vI (m.1 24), vI (m.1 25), vR 66, vI (m.1 26), vI (m.1 27), vI (m.1 28), vI (m.1 29), vI (m.1 30), vR 67, vI (m.1 31), vI (m.1 32), vI (m.1 33), vI (m.1 34), vI (m.1 35), vI (m.1 36), vR 68, vR 69, vR 70, vI (m.1 37), vR 71, vR 72, vI (m.1 38), vR 73, vI (m.1 39), vR 74, vR 75] : List ae_V).set 10 (vI v))) = kl (kF m 28 v) := rfl
theorem kF_29 (m : kM) (v : Int) : (kl m).set 61 (.inr (8, ([vR 62, vR 63, vR 64, vI (m.1 23), vR 65, vI (m.1 24), vI (m.1 25), vR 66, vI (m.1 26), vI (m.1 27), vI (m.1 28), vI (m.1 29), vI (m.1 30), vR 67, vI (m.1 31), vI (m.1 32), vI (m.1 33), vI (m.1 34), vI (m.1 35), vI (m.1 36), vR 68, vR 69, vR 70, vI (m.1 37), vR 71, vR 72, vI (m.1 38), vR 73, vI (m.1 39), vR 74, vR 75] : List ae_V).set 11 (vI v))) = kl (kF m 29 v) := rfl
theorem kF_30 (m : kM) (v : Int) : (kl m).set 61 (.inr (8, ([vR 62, vR 63, vR 64, vI (m.1 23), vR 65, vI (m.1 24), vI (m.1 25), vR 66, vI (m.1 26), vI (m.1 27), vI (m.1 28), vI (m.1 29), vI (m.1 30), vR 67, vI (m.1 31), vI (m.1 32), vI (m.1 33), vI (m.1 34), vI (m.1 35), vI (m.1 36), vR 68, vR 69, vR 70, vI (m.1 37), vR 71, vR 72, vI (m.1 38), vR 73, vI (m.1 39), vR 74, vR 75] : List ae_V).set 12 (vI v))) = kl (kF m 30 v) := rfl
theorem kF_31 (m : kM) (v : Int) : (kl m).set 61 (.inr (8, ([vR 62, vR 63, vR 64, vI (m.1 23), vR 65, vI (m.1 24), vI (m.1 25), vR 66, vI (m.1 26), vI (m.1 27), vI (m.1 28), vI (m.1 29), vI (m.1 30), vR 67, vI (m.1 31), vI (m.1 32), vI (m.1 33), vI (m.1 34), vI (m.1 35), vI (m.1 36), vR 68, vR 69, vR 70, vI (m.1 37), vR 71, vR 72, vI (m.1 38), vR 73, vI (m.1 39), vR 74, vR 75] : List ae_V).set 14 (vI v))) = kl (kF m 31 v) := rfl
theorem kF_32 (m : kM) (v : Int) : (kl m).set 61 (.inr (8, ([vR 62, vR 63, vR 64, vI (m.1 23), vR 65, vI (m.1 24), vI (m.1 25), vR 66, vI (m.1 26), vI (m.1 27), vI (m.1 28), vI (m.1 29), vI (m.1 30), vR 67, vI (m.1 31), vI (m.1 32), vI (m.1 33), vI (m.1 34), vI (m.1 35), vI (m.1 36), vR 68, vR 69, vR 70, vI (m.1 37), vR 71, vR 72, vI (m.1 38), vR 73, vI (m.1 39), vR 74, vR 75] : List ae_V).set 15 (vI v))) = kl (kF m 32 v) := rfl
theorem kF_33 (m : kM) (v : Int) : (kl m).set 61 (.inr (8, ([vR 62, vR 63, vR 64, vI (m.1 23), vR 65, vI (m.1 24), vI (m.1 25), vR 66, vI (m.1 26), vI (m.1 27), vI (m.1 28), vI (m.1 29), vI (m.1 30), vR 67, vI (m.1 31), vI (m.1 32), vI (m.1 33), vI (m.1 34), vI (m.1 35), vI (m.1 36), vR 68, vR 69, vR 70, vI (m.1 37), vR 71, vR 72, vI (m.1 38), vR 73, vI (m.1 39), vR 74, vR 75] : List ae_V).set 16 (vI v))) = kl (kF m 33 v) := rfl
theorem kF_34 (m : kM) (v : Int) : (kl m).set 61 (.inr (8, ([vR 62, vR 63, vR 64, vI (m.1 23), vR 65, vI (m.1 24), vI (m.1 25), vR 66, vI (m.1 26), vI (m.1 27), vI (m.1 28), vI (m.1 29), vI (m.1 30), vR 67, vI (m.1 31), vI (m.1 32), vI (m.1 33), vI (m.1 34), vI (m.1 35), vI (m.1 36), vR 68, vR 69, vR 70, vI (m.1 37), vR 71, vR 72, vI (m.1 38), vR 73, vI (m.1 39), vR 74, vR 75] : List ae_V).set 17 (vI v))) = kl (kF m 34 v) := rfl
theorem kF_35 (m : kM) (v : Int) : (kl m).set 61 (.inr (8, ([vR 62, vR 63, vR 64, vI (m.1 23), vR 65, vI (m.1 24), vI (m.1 25), vR 66, vI (m.1 26), vI (m.1 27), vI (m.1 28), vI (m.1 29), vI (m.1 30), vR 67, vI (m.1 31), vI (m.1 32), vI (m.1 33), vI (m.1 34), vI (m.1 35), vI (m.1 36), vR 68, vR 69, vR 70, vI (m.1 37), vR 71, vR 72, vI (m.1 38), vR 73, vI (m.1 39), vR 74, vR 75] : List ae_V).set 18 (vI v))) = kl (kF m 35 v) := rfl
theorem kF_36 (m : kM) (v : Int) : (kl m).set 61 (.inr (8, ([vR 62, vR 63, vR 64, vI (m.1 23), vR 65, vI (m.1 24), vI (m.1 25), vR 66, vI (m.1 26), vI (m.1 27), vI (m.1 28), vI (m.1 29), vI (m.1 30), vR 67, vI (m.1 31), vI (m.1 32), vI (m.1 33), vI (m.1 34), vI (m.1 35), vI (m.1 36), vR 68, vR 69, vR 70, vI (m.1 37), vR 71, vR 72, vI (m.1 38), vR 73, vI (m.1 39), vR 74, vR 75] : List ae_V).set 19 (vI v))) = kl (kF m 36 v) := rfl
theorem kF_37 (m : kM) (v : Int) : (kl m).set 61 (.inr (8, ([vR 62, vR 63, vR 64, vI (m.1 23), vR 65, vI (m.1 24), vI (m.1 25), vR 66, vI (m.1 26), vI (m.1 27), vI (m.1 28), vI (m.1 29), vI (m.1 30), vR 67, vI (m.1 31), vI (m.1 32), vI (m.1 33), vI (m.1 34), vI (m.1 35), vI (m.1 36), vR 68, vR 69, vR 70, vI (m.1 37), vR 71, vR 72, vI (m.1 38), vR 73, vI (m.1 39), vR 74, vR 75] : List ae_V).set 23 (vI v))) = kl (kF m 37 v) := rfl
theorem kF_38 (m : kM) (v : Int) : (kl m).set 61 (.inr (8, ([vR 62, vR 63, vR 64, vI (m.1 23), vR 65, vI (m.1 24), vI (m.1 25), vR 66, vI (m.1 26), vI (m.1 27), vI (m.1 28), vI (m.1 29), vI (m.1 30), vR 67, vI (m.1 31), vI (m.1 32), vI (m.1 33), vI (m.1 34), vI (m.1 35), vI (m.1 36), vR 68, vR 69, vR 70, vI (m.1 37), vR 71, vR 72, vI (m.1 38), vR 73, vI (m.1 39), vR 74, vR 75] : List ae_V).set 26 (vI v))) = kl (kF m 38 v) := rfl
theorem kF_39 (m : kM) (v : Int) : (kl m).set 61 (.inr (8, ([vR 62, vR 63, vR 64, vI (m.1 23), vR 65, vI (m.1 24), vI (m.1 25), vR 66, vI (m.1 26), vI (m.1 27), vI (m.1 28), vI (m.1 29), vI (m.1 30), vR 67, vI (m.1 31), vI (m.1 32), vI (m.1 33), vI (m.1 34), vI (m.1 35), vI (m.1 36), vR 68, vR 69, vR 70, vI (m.1 37), vR 71, vR 72, vI (m.1 38), vR 73, vI (m.1 39), vR 74, vR 75] : List ae_V).set 28 (vI v))) = kl (kF m 39 v) := rfl
theorem kA_2 (m : kM) (f : Int → Int) : (kl m).set 2 (cI 200 f) = kl (kA m 2 f) := rfl
theorem kA_4 (m : kM) (f : Int → Int) : (kl m).set 4 (cI 10 f) = kl (kA m 4 f) := rfl
theorem kA_5 (m : kM) (f : Int → Int) : (kl m).set 5 (cI 10 f) = kl (kA m 5 f) := rfl
theorem kA_6 (m : kM) (f : Int → Int) : (kl m).set 6 (cI 10 f) = kl (kA m 6 f) := rfl
theorem kA_7 (m : kM) (f : Int → Int) : (kl m).set 7 (cI 10 f) = kl (kA m 7 f) := rfl
theorem kA_8 (m : kM) (f : Int → Int) : (kl m).set 8 (cI 2 f) = kl (kA m 8 f) := rfl
theorem kA_10 (m : kM) (f : Int → Int) : (kl m).set 10 (cI 10 f) = kl (kA m 10 f) := rfl
theorem kA_11 (m : kM) (f : Int → Int) : (kl m).set 11 (cI 10 f) = kl (kA m 11 f) := rfl
theorem kA_12 (m : kM) (f : Int → Int) : (kl m).set 12 (cI 10 f) = kl (kA m 12 f) := rfl
theorem kA_13 (m : kM) (f : Int → Int) : (kl m).set 13 (cI 10 f) = kl (kA m 13 f) := rfl
theorem kA_14 (m : kM) (f : Int → Int) : (kl m).set 14 (cI 2 f) = kl (kA m 14 f) := rfl
theorem kA_18 (m : kM) (f : Int → Int) : (kl m).set 18 (cJ 64512 f) = kl (kA m 18 f) := rfl
theorem kA_19 (m : kM) (f : Int → Int) : (kl m).set 19 (cJ 8192 f) = kl (kA m 19 f) := rfl
theorem kA_20 (m : kM) (f : Int → Int) : (kl m).set 20 (cI 100 f) = kl (kA m 20 f) := rfl
theorem kA_22 (m : kM) (f : Int → Int) : (kl m).set 22 (cI 10 f) = kl (kA m 22 f) := rfl
theorem kA_23 (m : kM) (f : Int → Int) : (kl m).set 23 (cI 10 f) = kl (kA m 23 f) := rfl
theorem kA_24 (m : kM) (f : Int → Int) : (kl m).set 24 (cI 10 f) = kl (kA m 24 f) := rfl
theorem kA_25 (m : kM) (f : Int → Int) : (kl m).set 25 (cI 10 f) = kl (kA m 25 f) := rfl
theorem kA_26 (m : kM) (f : Int → Int) : (kl m).set 26 (cI 10 f) = kl (kA m 26 f) := rfl
theorem kA_27 (m : kM) (f : Int → Int) : (kl m).set 27 (cI 10 f) = kl (kA m 27 f) := rfl
theorem kA_28 (m : kM) (f : Int → Int) : (kl m).set 28 (cI 6 f) = kl (kA m 28 f) := rfl
theorem kA_29 (m : kM) (f : Int → Int) : (kl m).set 29 (cI 4 f) = kl (kA m 29 f) := rfl
theorem kA_30 (m : kM) (f : Int → Int) : (kl m).set 30 (cI 10 f) = kl (kA m 30 f) := rfl
theorem kA_32 (m : kM) (f : Int → Int) : (kl m).set 32 (cI 8 f) = kl (kA m 32 f) := rfl
theorem kA_33 (m : kM) (f : Int → Int) : (kl m).set 33 (cI 8 f) = kl (kA m 33 f) := rfl
theorem kA_35 (m : kM) (f : Int → Int) : (kl m).set 35 (cJ 6 f) = kl (kA m 35 f) := rfl
theorem kA_36 (m : kM) (f : Int → Int) : (kl m).set 36 (cJ 6 f) = kl (kA m 36 f) := rfl
theorem kA_37 (m : kM) (f : Int → Int) : (kl m).set 37 (cJ 6 f) = kl (kA m 37 f) := rfl
theorem kA_38 (m : kM) (f : Int → Int) : (kl m).set 38 (cJ 6 f) = kl (kA m 38 f) := rfl
theorem kA_39 (m : kM) (f : Int → Int) : (kl m).set 39 (cJ 6 f) = kl (kA m 39 f) := rfl
theorem kA_40 (m : kM) (f : Int → Int) : (kl m).set 40 (cJ 6 f) = kl (kA m 40 f) := rfl
theorem kA_41 (m : kM) (f : Int → Int) : (kl m).set 41 (cJ 6 f) = kl (kA m 41 f) := rfl
theorem kA_42 (m : kM) (f : Int → Int) : (kl m).set 42 (cJ 6 f) = kl (kA m 42 f) := rfl
theorem kA_43 (m : kM) (f : Int → Int) : (kl m).set 43 (cJ 6 f) = kl (kA m 43 f) := rfl
theorem kA_44 (m : kM) (f : Int → Int) : (kl m).set 44 (cJ 6 f) = kl (kA m 44 f) := rfl
theorem kA_45 (m : kM) (f : Int → Int) : (kl m).set 45 (cJ 6 f) = kl (kA m 45 f) := rfl
theorem kA_47 (m : kM) (f : Int → Int) : (kl m).set 47 (cJ 6 f) = kl (kA m 47 f) := rfl
theorem kA_48 (m : kM) (f : Int → Int) : (kl m).set 48 (cJ 6 f) = kl (kA m 48 f) := rfl
theorem kA_49 (m : kM) (f : Int → Int) : (kl m).set 49 (cJ 6 f) = kl (kA m 49 f) := rfl
theorem kA_50 (m : kM) (f : Int → Int) : (kl m).set 50 (cJ 6 f) = kl (kA m 50 f) := rfl
theorem kA_51 (m : kM) (f : Int → Int) : (kl m).set 51 (cJ 6 f) = kl (kA m 51 f) := rfl
theorem kA_52 (m : kM) (f : Int → Int) : (kl m).set 52 (cJ 6 f) = kl (kA m 52 f) := rfl
theorem kA_53 (m : kM) (f : Int → Int) : (kl m).set 53 (cJ 6 f) = kl (kA m 53 f) := rfl
theorem kA_54 (m : kM) (f : Int → Int) : (kl m).set 54 (cJ 6 f) = kl (kA m 54 f) := rfl
theorem kA_55 (m : kM) (f : Int → Int) : (kl m).set 55 (cJ 6 f) = kl (kA m 55 f) := rfl
theorem kA_56 (m : kM) (f : Int → Int) : (kl m).set 56 (cJ 6 f) = kl (kA m 56 f) := rfl
theorem kA_57 (m : kM) (f : Int → Int) : (kl m).set 57 (cJ 6 f) = kl (kA m 57 f) := rfl
theorem kA_58 (m : kM) (f : Int → Int) : (kl m).set 58 (cI 20 f) = kl (kA m 58 f) := rfl
theorem kA_59 (m : kM) (f : Int → Int) : (kl m).set 59 (cI 2 f) = kl (kA m 59 f) := rfl
theorem kA_60 (m : kM) (f : Int → Int) : (kl m).set 60 (cI 2 f) = kl (kA m 60 f) := rfl
theorem kA_62 (m : kM) (f : Int → Int) : (kl m).set 62 (cI 48 f) = kl (kA m 62 f) := rfl
theorem kA_63 (m : kM) (f : Int → Int) : (kl m).set 63 (cZ 2 f) = kl (kA m 63 f) := rfl
theorem kA_64 (m : kM) (f : Int → Int) : (kl m).set 64 (cI 200 f) = kl (kA m 64 f) := rfl
theorem kA_65 (m : kM) (f : Int → Int) : (kl m).set 65 (cI 40 f) = kl (kA m 65 f) := rfl
theorem kA_66 (m : kM) (f : Int → Int) : (kl m).set 66 (cI 40 f) = kl (kA m 66 f) := rfl
theorem kA_67 (m : kM) (f : Int → Int) : (kl m).set 67 (cI 2 f) = kl (kA m 67 f) := rfl
theorem kA_68 (m : kM) (f : Int → Int) : (kl m).set 68 (cI 64512 f) = kl (kA m 68 f) := rfl
theorem kA_69 (m : kM) (f : Int → Int) : (kl m).set 69 (cI 64512 f) = kl (kA m 69 f) := rfl
theorem kA_70 (m : kM) (f : Int → Int) : (kl m).set 70 (cZ 64512 f) = kl (kA m 70 f) := rfl
theorem kA_71 (m : kM) (f : Int → Int) : (kl m).set 71 (cI 400 f) = kl (kA m 71 f) := rfl
theorem kA_72 (m : kM) (f : Int → Int) : (kl m).set 72 (cI 20 f) = kl (kA m 72 f) := rfl
theorem kA_73 (m : kM) (f : Int → Int) : (kl m).set 73 (cI 16 f) = kl (kA m 73 f) := rfl
theorem kA_74 (m : kM) (f : Int → Int) : (kl m).set 74 (cJ 66 f) = kl (kA m 74 f) := rfl
theorem kA_75 (m : kM) (f : Int → Int) : (kl m).set 75 (cJ 66 f) = kl (kA m 75 f) := rfl
theorem kR_0 (m : kM) (v : ae_V) : (kl m).set 16 (.inr (1, ([vR 3, vR 17, vR 29, vR 30, m.2.2.1 0, m.2.2.1 1, vI (m.1 19)] : List ae_V).set 4 v)) = kl (kR m 0 v) := rfl
theorem kR_1 (m : kM) (v : ae_V) : (kl m).set 16 (.inr (1, ([vR 3, vR 17, vR 29, vR 30, m.2.2.1 0, m.2.2.1 1, vI (m.1 19)] : List ae_V).set 5 v)) = kl (kR m 1 v) := rfl
theorem kl_f22 (m : kM) {j : Nat} (h : j < 6) : (kl m)[22 + j]? = some (cI 10 (m.2.1 (22 + j))) := by
  have h9 : j = 0 ∨ j = 1 ∨ j = 2 ∨ j = 3 ∨ j = 4 ∨ j = 5 := by omega
  rcases h9 with rfl | rfl | rfl | rfl | rfl | rfl <;> rfl
theorem kA_f22 (m : kM) (f : Int → Int) {j : Nat} (h : j < 6) : (kl m).set (22 + j) (cI 10 f) = kl (kA m (22 + j) f) := by
  have h9 : j = 0 ∨ j = 1 ∨ j = 2 ∨ j = 3 ∨ j = 4 ∨ j = 5 := by omega
  rcases h9 with rfl | rfl | rfl | rfl | rfl | rfl <;> rfl
theorem kl_f35 (m : kM) {j : Nat} (h : j < 11) : (kl m)[35 + j]? = some (cJ 6 (m.2.1 (35 + j))) := by
  have h9 : j = 0 ∨ j = 1 ∨ j = 2 ∨ j = 3 ∨ j = 4 ∨ j = 5 ∨ j = 6 ∨ j = 7 ∨ j = 8 ∨ j = 9 ∨ j = 10 := by omega
  rcases h9 with rfl | rfl | rfl | rfl | rfl | rfl | rfl | rfl | rfl | rfl | rfl <;> rfl
theorem kA_f35 (m : kM) (f : Int → Int) {j : Nat} (h : j < 11) : (kl m).set (35 + j) (cJ 6 f) = kl (kA m (35 + j) f) := by
  have h9 : j = 0 ∨ j = 1 ∨ j = 2 ∨ j = 3 ∨ j = 4 ∨ j = 5 ∨ j = 6 ∨ j = 7 ∨ j = 8 ∨ j = 9 ∨ j = 10 := by omega
  rcases h9 with rfl | rfl | rfl | rfl | rfl | rfl | rfl | rfl | rfl | rfl | rfl <;> rfl
theorem kl_f47 (m : kM) {j : Nat} (h : j < 11) : (kl m)[47 + j]? = some (cJ 6 (m.2.1 (47 + j))) := by
  have h9 : j = 0 ∨ j = 1 ∨ j = 2 ∨ j = 3 ∨ j = 4 ∨ j = 5 ∨ j = 6 ∨ j = 7 ∨ j = 8 ∨ j = 9 ∨ j = 10 := by omega
  rcases h9 with rfl | rfl | rfl | rfl | rfl | rfl | rfl | rfl | rfl | rfl | rfl <;> rfl
theorem kA_f47 (m : kM) (f : Int → Int) {j : Nat} (h : j < 11) : (kl m).set (47 + j) (cJ 6 f) = kl (kA m (47 + j) f) := by
  have h9 : j = 0 ∨ j = 1 ∨ j = 2 ∨ j = 3 ∨ j = 4 ∨ j = 5 ∨ j = 6 ∨ j = 7 ∨ j = 8 ∨ j = 9 ∨ j = 10 := by omega
  rcases h9 with rfl | rfl | rfl | rfl | rfl | rfl | rfl | rfl | rfl | rfl | rfl <;> rfl
theorem kl_len (m : kM) : (kl m).length = 76 + m.2.2.2.length := by
  unfold kl
  rw [List.length_append]
  rfl
theorem kl_T (m : kM) (j : Nat) : (kl m)[76 + j]? = m.2.2.2[j]? := by
  have e : (kf m).length = 76 := rfl
  unfold kl
  rw [List.getElem?_append_right (by omega), e, Nat.add_sub_cancel_left]
theorem kT_app (m : kM) (c : ae_C) : kl m ++ [c] = kl (kT m c) := by
  unfold kl
  rw [List.append_assoc]
  rfl
def rFl : List (Int × Int) := [(0, 20), (0, 524287), ((-2147483648), 2147483647), (0, 200), ((-2147483648), 2147483647), (0, 200), (0, 200), (2, 6), (0, 10), (0, 5), (0, 63), (0, 3), (0, 5), (2, 6), (0, 10), ((-1), 5), (0, 63), ((-1), 3), ((-1), 5), (0, 524287), (0, 64512), (0, 100), (0, 8), (0, 200), (0, 10), (2, 6), (0, 10), (0, 5), (0, 63), (0, 3), (0, 5), (0, 200), (0, 200), (0, 200), (0, 6), (0, 10), (0, 63), (0, 64512), (0, 20), (0, 8)]
def rF (k : Nat) : Int × Int := (rFl[k]?).getD (-2147483648, 2147483647)
def rAl : List (Int × (Int × Int)) := [(0, ((-2147483648), 2147483647)), (0, ((-2147483648), 2147483647)), (200, (0, 255)), (0, ((-2147483648), 2147483647)), (10, (0, 5)), (10, (0, 5)), (10, (0, 5)), (10, (0, 1)), (2, (0, 5)), (0, ((-2147483648), 2147483647)), (10, (0, 5)), (10, (0, 5)), (10, (0, 5)), (10, (0, 1)), (2, ((-1), 5)), (0, ((-2147483648), 2147483647)), (0, ((-2147483648), 2147483647)), (0, ((-2147483648), 2147483647)), (64512, ((-9223372036854775808), 9223372036854775807)), (8192, ((-9223372036854775808), 9223372036854775807)), (100, (0, 99)), (0, ((-2147483648), 2147483647)), (10, (0, 9)), (10, (0, 9)), (10, (0, 9)), (10, (0, 9)), (10, (0, 9)), (10, (0, 9)), (6, (0, 10)), (4, ((-2147483648), 2147483647)), (10, ((-2147483648), 2147483647)), (0, ((-2147483648), 2147483647)), (8, ((-2147483648), 2147483647)), (8, ((-2147483648), 2147483647)), (0, ((-2147483648), 2147483647)), (6, ((-9223372036854775808), 9223372036854775807)), (6, ((-9223372036854775808), 9223372036854775807)), (6, ((-9223372036854775808), 9223372036854775807)), (6, ((-9223372036854775808), 9223372036854775807)), (6, ((-9223372036854775808), 9223372036854775807)), (6, ((-9223372036854775808), 9223372036854775807)), (6, ((-9223372036854775808), 9223372036854775807)), (6, ((-9223372036854775808), 9223372036854775807)), (6, ((-9223372036854775808), 9223372036854775807)), (6, ((-9223372036854775808), 9223372036854775807)), (6, ((-9223372036854775808), 9223372036854775807)), (0, ((-2147483648), 2147483647)), (6, ((-9223372036854775808), 9223372036854775807)), (6, ((-9223372036854775808), 9223372036854775807)), (6, ((-9223372036854775808), 9223372036854775807)), (6, ((-9223372036854775808), 9223372036854775807)), (6, ((-9223372036854775808), 9223372036854775807)), (6, ((-9223372036854775808), 9223372036854775807)), (6, ((-9223372036854775808), 9223372036854775807)), (6, ((-9223372036854775808), 9223372036854775807)), (6, ((-9223372036854775808), 9223372036854775807)), (6, ((-9223372036854775808), 9223372036854775807)), (6, ((-9223372036854775808), 9223372036854775807)), (20, (0, 99)), (2, ((-1), 524287)), (2, ((-2147483648), 2147483647)), (0, ((-2147483648), 2147483647)), (48, ((-2147483648), 2147483647)), (2, (0, 1)), (200, (0, 255)), (40, ((-2147483648), 2147483647)), (40, (0, 5)), (2, (0, 5)), (64512, ((-2147483648), 2147483647)), (64512, (0, 64511)), (64512, (0, 1)), (400, ((-1), 99)), (20, (0, 99)), (16, ((-2147483648), 2147483647)), (66, ((-9223372036854775808), 9223372036854775807)), (66, ((-9223372036854775808), 9223372036854775807))]
def rA (i : Nat) : Int × (Int × Int) := (rAl[i]?).getD (0, (0, 0))
def kI (m : kM) : Prop := (∀ k, (rF k).1 ≤ m.1 k ∧ m.1 k ≤ (rF k).2) ∧ (∀ i j, 0 ≤ j → j < (rA i).1 → (rA i).2.1 ≤ m.2.1 i j ∧ m.2.1 i j ≤ (rA i).2.2)
theorem kI_F {m : kM} {v : Int} (h : kI m) (k : Nat) (h1 : (rF k).1 ≤ v) (h2 : v ≤ (rF k).2) : kI (kF m k v) := by
  refine ⟨fun j => ?_, h.2⟩
  show (rF j).1 ≤ cond (Nat.beq j k) v (m.1 j) ∧ cond (Nat.beq j k) v (m.1 j) ≤ (rF j).2
  cases e : Nat.beq j k with
  | true => rw [Nat.eq_of_beq_eq_true e]; exact ⟨h1, h2⟩
  | false => exact h.1 j
theorem kI_A {m : kM} {f : Int → Int} (h : kI m) (i : Nat) (h1 : ∀ j, 0 ≤ j → j < (rA i).1 → (rA i).2.1 ≤ f j ∧ f j ≤ (rA i).2.2) : kI (kA m i f) := by
  refine ⟨h.1, fun j => ?_⟩
  show ∀ l, 0 ≤ l → l < (rA j).1 → (rA j).2.1 ≤ (cond (Nat.beq j i) f (m.2.1 j)) l ∧ (cond (Nat.beq j i) f (m.2.1 j)) l ≤ (rA j).2.2
  cases e : Nat.beq j i with
  | true => rw [Nat.eq_of_beq_eq_true e]; exact h1
  | false => exact h.2 j
theorem kI_U {m : kM} {f : Int → Int} {x y : Int} (h : kI m) (i : Nat) (hf : f = m.2.1 i) (h1 : (rA i).2.1 ≤ y) (h2 : y ≤ (rA i).2.2) : kI (kA m i (up f x y)) := by
  subst hf
  refine kI_A h i (fun j a b => ?_)
  show _ ≤ (if j = x then y else m.2.1 i j) ∧ (if j = x then y else m.2.1 i j) ≤ _
  by_cases e : j = x
  · rw [if_pos e]; exact ⟨h1, h2⟩
  · rw [if_neg e]; exact h.2 i j a b
theorem kI_R {m : kM} {v : ae_V} (h : kI m) (k : Nat) : kI (kR m k v) := h
theorem kI_T {m : kM} {c : ae_C} (h : kI m) : kI (kT m c) := h
theorem up_same (f : Int → Int) (x y : Int) : up f x y x = y := if_pos rfl
theorem up_ne (f : Int → Int) {x y j : Int} (h : j ≠ x) : up f x y j = f j := if_neg h
/-- nothing but these fields and these arrays is changed -/
def fr (SF SA : List Nat) (m m' : kM) : Prop := (∀ k, SF.contains k = false → m'.1 k = m.1 k) ∧ ((∀ i, SA.contains i = false → m'.2.1 i = m.2.1 i) ∧ m'.2.2 = m.2.2)
theorem fr_rf {SF SA : List Nat} (m : kM) : fr SF SA m m := ⟨fun _ _ => rfl, fun _ _ => rfl, rfl⟩
theorem fr_tr {SF SA : List Nat} {m m1 m2 : kM} (h : fr SF SA m m1) (g : fr SF SA m1 m2) : fr SF SA m m2 := ⟨fun k e => (g.1 k e).trans (h.1 k e), fun k e => (g.2.1 k e).trans (h.2.1 k e), g.2.2.trans h.2.2⟩
theorem fr_F {SF SA : List Nat} {m m1 : kM} (h : fr SF SA m m1) (k : Nat) (v : Int) (hk : SF.contains k = true) : fr SF SA m (kF m1 k v) := by
  refine ⟨fun j e => ?_, h.2⟩
  show cond (Nat.beq j k) v (m1.1 j) = _
  cases e2 : Nat.beq j k with
  | true => rw [Nat.eq_of_beq_eq_true e2, hk] at e; cases e
  | false => exact h.1 j e
theorem fr_A {SF SA : List Nat} {m m1 : kM} (h : fr SF SA m m1) (i : Nat) (f : Int → Int) (hi : SA.contains i = true) : fr SF SA m (kA m1 i f) := by
  refine ⟨h.1, fun j e => ?_, h.2.2⟩
  show cond (Nat.beq j i) f (m1.2.1 j) = _
  cases e2 : Nat.beq j i with
  | true => rw [Nat.eq_of_beq_eq_true e2, hi] at e; cases e
  | false => exact h.2.1 j e
theorem fr_cov {a b : List Nat} (h : a.all (fun x => b.contains x) = true) {k : Nat} (hk : b.contains k = false) : a.contains k = false := by
  cases e : a.contains k with
  | false => rfl
  | true =>
    have h1 := List.all_eq_true.mp h k (by simpa using e)
    rw [hk] at h1
    cases h1
theorem fr_le {SF SA TF TA : List Nat} {m m1 : kM} (h : fr TF TA m m1) (h1 : TF.all (fun x => SF.contains x) = true) (h2 : TA.all (fun x => SA.contains x) = true) : fr SF SA m m1 := ⟨fun k e => h.1 k (fr_cov h1 e), fun k e => h.2.1 k (fr_cov h2 e), h.2.2⟩
/-- what a contract answers -/
def R_I (P : Int → kM → Prop) : ae_R → Prop := fun r => ∃ z m', r = (some (vI z), kl m') ∧ P z m'
def R_J (P : Int → kM → Prop) : ae_R → Prop := fun r => ∃ z m', r = (some (vL z), kl m') ∧ P z m'
def R_V (P : kM → Prop) : ae_R → Prop := fun r => ∃ m', r = (none, kl m') ∧ P m'
def R_A (P : Nat ⊕ Nat → kM → Prop) : ae_R → Prop := fun r => ∃ a m', r = (some (.inr (.inr a)), kl m') ∧ P a m'
section LAID
variable {V : cg_V} {me me2 : ae_M} {d q : Nat} {Rs : ae_R → Prop} {pc nx i1 i2 i3 pos : Nat} {lo : ae_L} {st : List ae_V} {cs sl cs' sl' : Nat} {m m' : kM}
theorem g_putF {n i : Nat} {fs : List ae_V} {v : Int} {v0 : ae_V} {tl : List FieldType} {ty : FieldType} (hi : cg_at me pc = some (.putfield n, nx, i1, i2, i3, pos)) (hw : (kl m)[i]? = some (.inr (i1, fs))) (hv : fs[i2]? = some v0) (h1 : ae_TY[i1]? = some tl) (h2 : tl[i2]? = some ty) (h3 : ae_fty ty (vI v) = true) (hs : (kl m).set i (.inr (i1, fs.set i2 (vI v))) = kl m') (k : cg_G V me d q Rs nx lo st (kl m') cs sl) : cg_G V me d q Rs pc lo (vI v :: vR i :: st) (kl m) cs sl := g_putf hi hw hv h1 h2 h3 (by rw [hs]; exact k)
theorem g_putR {n i : Nat} {fs : List ae_V} {v : ae_V} {v0 : ae_V} {tl : List FieldType} {ty : FieldType} (hi : cg_at me pc = some (.putfield n, nx, i1, i2, i3, pos)) (hw : (kl m)[i]? = some (.inr (i1, fs))) (hv : fs[i2]? = some v0) (h1 : ae_TY[i1]? = some tl) (h2 : tl[i2]? = some ty) (h3 : ae_fty ty v = true) (hs : (kl m).set i (.inr (i1, fs.set i2 v)) = kl m') (k : cg_G V me d q Rs nx lo st (kl m') cs sl) : cg_G V me d q Rs pc lo (v :: vR i :: st) (kl m) cs sl := g_putf hi hw hv h1 h2 h3 (by rw [hs]; exact k)
theorem g_iAst {i n : Nat} {f : Int → Int} {x y : Int} (hi : cg_at me pc = some (.iastore, nx, i1, i2, i3, pos)) (hw : (kl m)[i]? = some (cI n f)) (hn : n ≤ 1000000) (h0 : 0 ≤ x) (h1 : x < (n : Int)) (hs : (kl m).set i (cI n (up f x y)) = kl m') (k : cg_G V me d q Rs nx lo st (kl m') cs sl) : cg_G V me d q Rs pc lo (vI y :: vI x :: vR i :: st) (kl m) cs sl := g_iast hi hw hn h0 h1 (by rw [hs]; exact k)
theorem g_lAst {i n : Nat} {f : Int → Int} {x y : Int} (hi : cg_at me pc = some (.lastore, nx, i1, i2, i3, pos)) (hw : (kl m)[i]? = some (cJ n f)) (hn : n ≤ 1000000) (h0 : 0 ≤ x) (h1 : x < (n : Int)) (hs : (kl m).set i (cJ n (up f x y)) = kl m') (k : cg_G V me d q Rs nx lo st (kl m') cs sl) : cg_G V me d q Rs pc lo (vL y :: vI x :: vR i :: st) (kl m) cs sl := g_last hi hw hn h0 h1 (by rw [hs]; exact k)
theorem g_zAst {i n : Nat} {f : Int → Int} {x y : Int} (hi : cg_at me pc = some (.bastore, nx, i1, i2, i3, pos)) (hw : (kl m)[i]? = some (cZ n f)) (hn : n ≤ 1000000) (h0 : 0 ≤ x) (h1 : x < (n : Int)) (hy : y = 0 ∨ y = 1) (hs : (kl m).set i (cZ n (up f x y)) = kl m') (k : cg_G V me d q Rs nx lo st (kl m') cs sl) : cg_G V me d q Rs pc lo (vI y :: vI x :: vR i :: st) (kl m) cs sl := g_zast hi hw hn h0 h1 hy (by rw [hs]; exact k)
theorem g_Acp {n9 : Nat} {i j n : Nat} {f g : Int → Int} (hi : cg_at me pc = some (.invokestatic n9, nx, i1, i2, i3, pos)) (h3 : i3 = 1) (hw : (kl m)[i]? = some (cI n f)) (hv : (kl m)[j]? = some (cI n g)) (hn : n ≤ 1000000) (hd : 1 ≤ d) (hq : ae_wd st + 60 ≤ q) (hs : (kl m).set i (cI n g) = kl m') (k : cg_G V me d q Rs nx lo st (kl m') cs sl) : cg_G V me d q Rs pc lo (vI (n : Int) :: vI 0 :: vR i :: vI 0 :: vR j :: st) (kl m) cs sl := g_acp (n0 := 0) hi h3 hw hv hn hd hq (by rw [hs]; exact k)
theorem g_nrm {x : Int} {w : List ae_C} (k : ∀ z : Int, -2147483648 ≤ z → z < 2147483648 → (-2147483648 ≤ x → x < 2147483648 → z = x) → z = (Int32.ofInt x).toInt → cg_G V me d q Rs pc lo (vI z :: st) w cs sl) : cg_G V me d q Rs pc lo (vI x :: st) w cs sl := by
  have e : vI x = vI (Int32.ofInt x).toInt := by unfold vI; rw [i_c]
  rw [e]
  exact k _ (Int32.le_toInt _) (Int32.toInt_lt _) (fun a b => i_t a b) rfl
theorem g_nrmL {x : Int} {w : List ae_C} (k : ∀ z : Int, -9223372036854775808 ≤ z → z < 9223372036854775808 → (-9223372036854775808 ≤ x → x < 9223372036854775808 → z = x) → z = (Int64.ofInt x).toInt → cg_G V me d q Rs pc lo (vL z :: st) w cs sl) : cg_G V me d q Rs pc lo (vL x :: st) w cs sl := by
  have e : vL x = vL (Int64.ofInt x).toInt := by unfold vL; rw [Int64.ofInt_toInt]
  rw [e]
  exact k _ (Int64.le_toInt _) (Int64.toInt_lt _) (fun a b => l_t a b) rfl
theorem c_sI {n9 : Nat} {ps r stk as : List ae_V} {P : Int → kM → Prop} (hi : cg_at me pc = some (.invokestatic n9, nx, i1, i2, i3, pos)) (h3 : Nat.beq i3 1 = false) (hmt : ae_MT[i1]? = some me2) (hst : stk = ps ++ r) (has : ps.reverse = as) (hpl : ps.length = i2) (hSm : cg_S V (d - 1) (q - (ae_mL me2 + 19)) me2 as (kl m) (R_I P)) (g1 : 1 ≤ d) (g2 : ae_mL me2 + 19 ≤ q) (g3 : cs + ae_mc me2 ≤ ae_mc me) (g4 : sl + ae_ms me2 ≤ ae_ms me) (g6 : Nat.ble (ae_wd r) 8 = true) (hcs : cs + ae_mc me2 = cs') (hsl : sl + ae_ms me2 = sl') (k : ∀ z m2, P z m2 → cg_G V me d q Rs nx lo (vI z :: r) (kl m2) cs' sl') : cg_G V me d q Rs pc lo stk (kl m) cs sl := by
  subst hcs
  subst hsl
  refine g_invs hi h3 hmt hst has hpl hSm rfl rfl g1 g2 g3 g4 (Nat.le_of_ble_eq_true g6) ?_
  rintro _ ⟨z, m2, rfl, hp⟩
  exact k z m2 hp
theorem c_sL {n9 : Nat} {ps r stk as : List ae_V} {P : Int → kM → Prop} (hi : cg_at me pc = some (.invokestatic n9, nx, i1, i2, i3, pos)) (h3 : Nat.beq i3 1 = false) (hmt : ae_MT[i1]? = some me2) (hst : stk = ps ++ r) (has : ps.reverse = as) (hpl : ps.length = i2) (hSm : cg_S V (d - 1) (q - (ae_mL me2 + 19)) me2 as (kl m) (R_J P)) (g1 : 1 ≤ d) (g2 : ae_mL me2 + 19 ≤ q) (g3 : cs + ae_mc me2 ≤ ae_mc me) (g4 : sl + ae_ms me2 ≤ ae_ms me) (g6 : Nat.ble (ae_wd r) 8 = true) (hcs : cs + ae_mc me2 = cs') (hsl : sl + ae_ms me2 = sl') (k : ∀ z m2, P z m2 → cg_G V me d q Rs nx lo (vL z :: r) (kl m2) cs' sl') : cg_G V me d q Rs pc lo stk (kl m) cs sl := by
  subst hcs
  subst hsl
  refine g_invs hi h3 hmt hst has hpl hSm rfl rfl g1 g2 g3 g4 (Nat.le_of_ble_eq_true g6) ?_
  rintro _ ⟨z, m2, rfl, hp⟩
  exact k z m2 hp
theorem c_sV {n9 : Nat} {ps r stk as : List ae_V} {P : kM → Prop} (hi : cg_at me pc = some (.invokestatic n9, nx, i1, i2, i3, pos)) (h3 : Nat.beq i3 1 = false) (hmt : ae_MT[i1]? = some me2) (hst : stk = ps ++ r) (has : ps.reverse = as) (hpl : ps.length = i2) (hSm : cg_S V (d - 1) (q - (ae_mL me2 + 19)) me2 as (kl m) (R_V P)) (g1 : 1 ≤ d) (g2 : ae_mL me2 + 19 ≤ q) (g3 : cs + ae_mc me2 ≤ ae_mc me) (g4 : sl + ae_ms me2 ≤ ae_ms me) (g6 : Nat.ble (ae_wd r) 8 = true) (hcs : cs + ae_mc me2 = cs') (hsl : sl + ae_ms me2 = sl') (k : ∀ m2, P m2 → cg_G V me d q Rs nx lo r (kl m2) cs' sl') : cg_G V me d q Rs pc lo stk (kl m) cs sl := by
  subst hcs
  subst hsl
  refine g_invs hi h3 hmt hst has hpl hSm rfl rfl g1 g2 g3 g4 (Nat.le_of_ble_eq_true g6) ?_
  rintro _ ⟨m2, rfl, hp⟩
  exact k m2 hp
theorem c_sA {n9 : Nat} {ps r stk as : List ae_V} {P : Nat ⊕ Nat → kM → Prop} (hi : cg_at me pc = some (.invokestatic n9, nx, i1, i2, i3, pos)) (h3 : Nat.beq i3 1 = false) (hmt : ae_MT[i1]? = some me2) (hst : stk = ps ++ r) (has : ps.reverse = as) (hpl : ps.length = i2) (hSm : cg_S V (d - 1) (q - (ae_mL me2 + 19)) me2 as (kl m) (R_A P)) (g1 : 1 ≤ d) (g2 : ae_mL me2 + 19 ≤ q) (g3 : cs + ae_mc me2 ≤ ae_mc me) (g4 : sl + ae_ms me2 ≤ ae_ms me) (g6 : Nat.ble (ae_wd r) 8 = true) (hcs : cs + ae_mc me2 = cs') (hsl : sl + ae_ms me2 = sl') (k : ∀ a m2, P a m2 → cg_G V me d q Rs nx lo (.inr (.inr a) :: r) (kl m2) cs' sl') : cg_G V me d q Rs pc lo stk (kl m) cs sl := by
  subst hcs
  subst hsl
  refine g_invs hi h3 hmt hst has hpl hSm rfl rfl g1 g2 g3 g4 (Nat.le_of_ble_eq_true g6) ?_
  rintro _ ⟨a, m2, rfl, hp⟩
  exact k a m2 hp
theorem c_vI {n9 : Nat} {ps r stk as : List ae_V} {i ci : Nat} {fs : List ae_V} {P : Int → kM → Prop} (hi : cg_at me pc = some (.invokevirtual n9, nx, i1, i2, i3, pos)) (h3 : i3 = ci + 1) (hmt : ae_MT[i1]? = some me2) (hst : stk = ps ++ vR i :: r) (has : vR i :: ps.reverse = as) (hpl : ps.length = i2) (hwi : (kl m)[i]? = some (.inr (ci, fs))) (hSm : cg_S V (d - 1) (q - (ae_mL me2 + 19)) me2 as (kl m) (R_I P)) (g1 : 1 ≤ d) (g2 : ae_mL me2 + 19 ≤ q) (g3 : cs + ae_mc me2 ≤ ae_mc me) (g4 : sl + ae_ms me2 ≤ ae_ms me) (g6 : Nat.ble (ae_wd r) 8 = true) (hcs : cs + ae_mc me2 = cs') (hsl : sl + ae_ms me2 = sl') (k : ∀ z m2, P z m2 → cg_G V me d q Rs nx lo (vI z :: r) (kl m2) cs' sl') : cg_G V me d q Rs pc lo stk (kl m) cs sl := by
  subst hcs
  subst hsl
  refine g_invv hi h3 hmt hst has hpl hwi hSm rfl rfl g1 g2 g3 g4 (Nat.le_of_ble_eq_true g6) ?_
  rintro _ ⟨z, m2, rfl, hp⟩
  exact k z m2 hp
theorem c_vL {n9 : Nat} {ps r stk as : List ae_V} {i ci : Nat} {fs : List ae_V} {P : Int → kM → Prop} (hi : cg_at me pc = some (.invokevirtual n9, nx, i1, i2, i3, pos)) (h3 : i3 = ci + 1) (hmt : ae_MT[i1]? = some me2) (hst : stk = ps ++ vR i :: r) (has : vR i :: ps.reverse = as) (hpl : ps.length = i2) (hwi : (kl m)[i]? = some (.inr (ci, fs))) (hSm : cg_S V (d - 1) (q - (ae_mL me2 + 19)) me2 as (kl m) (R_J P)) (g1 : 1 ≤ d) (g2 : ae_mL me2 + 19 ≤ q) (g3 : cs + ae_mc me2 ≤ ae_mc me) (g4 : sl + ae_ms me2 ≤ ae_ms me) (g6 : Nat.ble (ae_wd r) 8 = true) (hcs : cs + ae_mc me2 = cs') (hsl : sl + ae_ms me2 = sl') (k : ∀ z m2, P z m2 → cg_G V me d q Rs nx lo (vL z :: r) (kl m2) cs' sl') : cg_G V me d q Rs pc lo stk (kl m) cs sl := by
  subst hcs
  subst hsl
  refine g_invv hi h3 hmt hst has hpl hwi hSm rfl rfl g1 g2 g3 g4 (Nat.le_of_ble_eq_true g6) ?_
  rintro _ ⟨z, m2, rfl, hp⟩
  exact k z m2 hp
theorem c_vV {n9 : Nat} {ps r stk as : List ae_V} {i ci : Nat} {fs : List ae_V} {P : kM → Prop} (hi : cg_at me pc = some (.invokevirtual n9, nx, i1, i2, i3, pos)) (h3 : i3 = ci + 1) (hmt : ae_MT[i1]? = some me2) (hst : stk = ps ++ vR i :: r) (has : vR i :: ps.reverse = as) (hpl : ps.length = i2) (hwi : (kl m)[i]? = some (.inr (ci, fs))) (hSm : cg_S V (d - 1) (q - (ae_mL me2 + 19)) me2 as (kl m) (R_V P)) (g1 : 1 ≤ d) (g2 : ae_mL me2 + 19 ≤ q) (g3 : cs + ae_mc me2 ≤ ae_mc me) (g4 : sl + ae_ms me2 ≤ ae_ms me) (g6 : Nat.ble (ae_wd r) 8 = true) (hcs : cs + ae_mc me2 = cs') (hsl : sl + ae_ms me2 = sl') (k : ∀ m2, P m2 → cg_G V me d q Rs nx lo r (kl m2) cs' sl') : cg_G V me d q Rs pc lo stk (kl m) cs sl := by
  subst hcs
  subst hsl
  refine g_invv hi h3 hmt hst has hpl hwi hSm rfl rfl g1 g2 g3 g4 (Nat.le_of_ble_eq_true g6) ?_
  rintro _ ⟨m2, rfl, hp⟩
  exact k m2 hp
theorem c_vA {n9 : Nat} {ps r stk as : List ae_V} {i ci : Nat} {fs : List ae_V} {P : Nat ⊕ Nat → kM → Prop} (hi : cg_at me pc = some (.invokevirtual n9, nx, i1, i2, i3, pos)) (h3 : i3 = ci + 1) (hmt : ae_MT[i1]? = some me2) (hst : stk = ps ++ vR i :: r) (has : vR i :: ps.reverse = as) (hpl : ps.length = i2) (hwi : (kl m)[i]? = some (.inr (ci, fs))) (hSm : cg_S V (d - 1) (q - (ae_mL me2 + 19)) me2 as (kl m) (R_A P)) (g1 : 1 ≤ d) (g2 : ae_mL me2 + 19 ≤ q) (g3 : cs + ae_mc me2 ≤ ae_mc me) (g4 : sl + ae_ms me2 ≤ ae_ms me) (g6 : Nat.ble (ae_wd r) 8 = true) (hcs : cs + ae_mc me2 = cs') (hsl : sl + ae_ms me2 = sl') (k : ∀ a m2, P a m2 → cg_G V me d q Rs nx lo (.inr (.inr a) :: r) (kl m2) cs' sl') : cg_G V me d q Rs pc lo stk (kl m) cs sl := by
  subst hcs
  subst hsl
  refine g_invv hi h3 hmt hst has hpl hwi hSm rfl rfl g1 g2 g3 g4 (Nat.le_of_ble_eq_true g6) ?_
  rintro _ ⟨a, m2, rfl, hp⟩
  exact k a m2 hp
theorem c_iI {n9 : Nat} {ps r stk as : List ae_V} {i : Nat} {P : Int → kM → Prop} (hi : cg_at me pc = some (.invokespecial n9, nx, i1, i2, i3, pos)) (h3 : i3 = 1) (hmt : ae_MT[i1]? = some me2) (hst : stk = ps ++ vR i :: r) (has : vR i :: ps.reverse = as) (hpl : ps.length = i2) (hSm : cg_S V (d - 1) (q - (ae_mL me2 + 19)) me2 as (kl m) (R_I P)) (g1 : 1 ≤ d) (g2 : ae_mL me2 + 19 ≤ q) (g3 : cs + ae_mc me2 ≤ ae_mc me) (g4 : sl + ae_ms me2 ≤ ae_ms me) (g6 : Nat.ble (ae_wd r) 8 = true) (hcs : cs + ae_mc me2 = cs') (hsl : sl + ae_ms me2 = sl') (k : ∀ z m2, P z m2 → cg_G V me d q Rs nx lo (vI z :: r) (kl m2) cs' sl') : cg_G V me d q Rs pc lo stk (kl m) cs sl := by
  subst hcs
  subst hsl
  refine g_invi hi h3 hmt hst has hpl hSm rfl rfl g1 g2 g3 g4 (Nat.le_of_ble_eq_true g6) ?_
  rintro _ ⟨z, m2, rfl, hp⟩
  exact k z m2 hp
theorem c_iL {n9 : Nat} {ps r stk as : List ae_V} {i : Nat} {P : Int → kM → Prop} (hi : cg_at me pc = some (.invokespecial n9, nx, i1, i2, i3, pos)) (h3 : i3 = 1) (hmt : ae_MT[i1]? = some me2) (hst : stk = ps ++ vR i :: r) (has : vR i :: ps.reverse = as) (hpl : ps.length = i2) (hSm : cg_S V (d - 1) (q - (ae_mL me2 + 19)) me2 as (kl m) (R_J P)) (g1 : 1 ≤ d) (g2 : ae_mL me2 + 19 ≤ q) (g3 : cs + ae_mc me2 ≤ ae_mc me) (g4 : sl + ae_ms me2 ≤ ae_ms me) (g6 : Nat.ble (ae_wd r) 8 = true) (hcs : cs + ae_mc me2 = cs') (hsl : sl + ae_ms me2 = sl') (k : ∀ z m2, P z m2 → cg_G V me d q Rs nx lo (vL z :: r) (kl m2) cs' sl') : cg_G V me d q Rs pc lo stk (kl m) cs sl := by
  subst hcs
  subst hsl
  refine g_invi hi h3 hmt hst has hpl hSm rfl rfl g1 g2 g3 g4 (Nat.le_of_ble_eq_true g6) ?_
  rintro _ ⟨z, m2, rfl, hp⟩
  exact k z m2 hp
theorem c_iV {n9 : Nat} {ps r stk as : List ae_V} {i : Nat} {P : kM → Prop} (hi : cg_at me pc = some (.invokespecial n9, nx, i1, i2, i3, pos)) (h3 : i3 = 1) (hmt : ae_MT[i1]? = some me2) (hst : stk = ps ++ vR i :: r) (has : vR i :: ps.reverse = as) (hpl : ps.length = i2) (hSm : cg_S V (d - 1) (q - (ae_mL me2 + 19)) me2 as (kl m) (R_V P)) (g1 : 1 ≤ d) (g2 : ae_mL me2 + 19 ≤ q) (g3 : cs + ae_mc me2 ≤ ae_mc me) (g4 : sl + ae_ms me2 ≤ ae_ms me) (g6 : Nat.ble (ae_wd r) 8 = true) (hcs : cs + ae_mc me2 = cs') (hsl : sl + ae_ms me2 = sl') (k : ∀ m2, P m2 → cg_G V me d q Rs nx lo r (kl m2) cs' sl') : cg_G V me d q Rs pc lo stk (kl m) cs sl := by
  subst hcs
  subst hsl
  refine g_invi hi h3 hmt hst has hpl hSm rfl rfl g1 g2 g3 g4 (Nat.le_of_ble_eq_true g6) ?_
  rintro _ ⟨m2, rfl, hp⟩
  exact k m2 hp
theorem c_iA {n9 : Nat} {ps r stk as : List ae_V} {i : Nat} {P : Nat ⊕ Nat → kM → Prop} (hi : cg_at me pc = some (.invokespecial n9, nx, i1, i2, i3, pos)) (h3 : i3 = 1) (hmt : ae_MT[i1]? = some me2) (hst : stk = ps ++ vR i :: r) (has : vR i :: ps.reverse = as) (hpl : ps.length = i2) (hSm : cg_S V (d - 1) (q - (ae_mL me2 + 19)) me2 as (kl m) (R_A P)) (g1 : 1 ≤ d) (g2 : ae_mL me2 + 19 ≤ q) (g3 : cs + ae_mc me2 ≤ ae_mc me) (g4 : sl + ae_ms me2 ≤ ae_ms me) (g6 : Nat.ble (ae_wd r) 8 = true) (hcs : cs + ae_mc me2 = cs') (hsl : sl + ae_ms me2 = sl') (k : ∀ a m2, P a m2 → cg_G V me d q Rs nx lo (.inr (.inr a) :: r) (kl m2) cs' sl') : cg_G V me d q Rs pc lo stk (kl m) cs sl := by
  subst hcs
  subst hsl
  refine g_invi hi h3 hmt hst has hpl hSm rfl rfl g1 g2 g3 g4 (Nat.le_of_ble_eq_true g6) ?_
  rintro _ ⟨a, m2, rfl, hp⟩
  exact k a m2 hp
end LAID
-- numbers, bit by bit
theorem b_nat (x : Int) : (BitVec.ofInt 32 x).toNat = (x % 4294967296).toNat := by simp [BitVec.toNat_ofInt]
theorem b_pos (a : Int32) (h : a.toBitVec.toNat < 2147483648) : a.toInt = (a.toBitVec.toNat : Int) := by
  show a.toBitVec.toInt = _
  rw [BitVec.toInt_eq_toNat_of_lt (by omega)]
theorem b_mod {x z : Int} {k : Nat} {y : Int} (hz : z = ((Int32.ofInt x) &&& (Int32.ofInt y) : Int32).toInt) (hk : k ≤ 31) (hy : y = 2 ^ k - 1) : z = x % (2 ^ k : Int) := by
  have hp : (2 : Nat) ^ k ≤ 2 ^ 31 := Nat.pow_le_pow_right (by decide) hk
  have hp1 : 1 ≤ (2 : Nat) ^ k := Nat.one_le_two_pow
  have hyn : y = ((2 ^ k - 1 : Nat) : Int) := by rw [hy]; push_cast [hp1]; simp
  have e : (Int32.ofInt x &&& Int32.ofInt y).toBitVec.toNat = (x % (2 ^ k : Int)).toNat := by
    show ((BitVec.ofInt 32 x) &&& (BitVec.ofInt 32 y)).toNat = _
    rw [BitVec.toNat_and, b_nat, b_nat, hyn]
    have h1 : ((((2 ^ k - 1 : Nat) : Int)) % 4294967296).toNat = 2 ^ k - 1 := by omega
    rw [h1, Nat.and_two_pow_sub_one_eq_mod]
    have hc : ((2 : Int) ^ k) = ((2 ^ k : Nat) : Int) := by push_cast; rfl
    rw [hc]
    have hd : ((2 ^ k : Nat) : Int) ∣ 4294967296 := by
      have : (2 : Nat) ^ k ∣ 4294967296 := by
        have h2 : (2 : Nat) ^ k ∣ 2 ^ 32 := Nat.pow_dvd_pow 2 (by omega)
        exact h2
      exact Int.ofNat_dvd.mpr this
    have h3 : x % 4294967296 % ((2 ^ k : Nat) : Int) = x % ((2 ^ k : Nat) : Int) := Int.emod_emod_of_dvd x hd
    have h4 : 0 ≤ x % 4294967296 := Int.emod_nonneg _ (by decide)
    rw [← h3, Int.toNat_emod h4 (Int.natCast_nonneg _), Int.toNat_natCast]
  have hc : ((2 : Int) ^ k) = ((2 ^ k : Nat) : Int) := by push_cast; rfl
  rw [hc] at e ⊢
  have h5 : x % ((2 ^ k : Nat) : Int) < ((2 ^ k : Nat) : Int) := Int.emod_lt_of_pos _ (by omega)
  have h6 : 0 ≤ x % ((2 ^ k : Nat) : Int) := Int.emod_nonneg _ (by omega)
  rw [hz, b_pos _ (by rw [e]; omega), e]
  omega
theorem b_or {x y z : Int} {k : Nat} (hz : z = ((Int32.ofInt x) ||| (Int32.ofInt y) : Int32).toInt) (hk : k ≤ 31) (h0 : 0 ≤ x) (h1 : x < 2 ^ k) (h2 : 0 ≤ y) (h3 : y < 2 ^ k) : 0 ≤ z ∧ z < 2 ^ k := by
  have hp : (2 : Nat) ^ k ≤ 2 ^ 31 := Nat.pow_le_pow_right (by decide) hk
  have hc : ((2 : Int) ^ k) = ((2 ^ k : Nat) : Int) := by push_cast; rfl
  rw [hc] at h1 h3 ⊢
  have e : (Int32.ofInt x ||| Int32.ofInt y).toBitVec.toNat < 2 ^ k := by
    show ((BitVec.ofInt 32 x) ||| (BitVec.ofInt 32 y)).toNat < _
    rw [BitVec.toNat_or, b_nat, b_nat]
    exact Nat.or_lt_two_pow (by omega) (by omega)
  rw [hz, b_pos _ (by omega)]
  omega
theorem b_and {x y z : Int} (hz : z = ((Int32.ofInt x) &&& (Int32.ofInt y) : Int32).toInt) (h0 : 0 ≤ x) (h1 : x < 2147483648) : 0 ≤ z ∧ z ≤ x := by
  have e : (Int32.ofInt x &&& Int32.ofInt y).toBitVec.toNat ≤ x.toNat := by
    show ((BitVec.ofInt 32 x) &&& (BitVec.ofInt 32 y)).toNat ≤ _
    rw [BitVec.toNat_and, b_nat, b_nat]
    have h3 : (x % 4294967296).toNat = x.toNat := by omega
    rw [h3]
    exact Nat.and_le_left
  rw [hz, b_pos _ (by omega)]
  omega
theorem b_s31 {s : Int} (h0 : 0 ≤ s) (h1 : s ≤ 31) : (Int32.ofInt s &&& 31) = Int32.ofInt s ∧ (Int32.ofInt s).toBitVec.toNat = s.toNat := by
  have h9 : s = 0 ∨ s = 1 ∨ s = 2 ∨ s = 3 ∨ s = 4 ∨ s = 5 ∨ s = 6 ∨ s = 7 ∨ s = 8 ∨ s = 9 ∨ s = 10 ∨ s = 11 ∨ s = 12 ∨ s = 13 ∨ s = 14 ∨ s = 15 ∨ s = 16 ∨ s = 17 ∨ s = 18 ∨ s = 19 ∨ s = 20 ∨ s = 21 ∨ s = 22 ∨ s = 23 ∨ s = 24 ∨ s = 25 ∨ s = 26 ∨ s = 27 ∨ s = 28 ∨ s = 29 ∨ s = 30 ∨ s = 31 := by omega
  rcases h9 with rfl | rfl | rfl | rfl | rfl | rfl | rfl | rfl | rfl | rfl | rfl | rfl | rfl | rfl | rfl | rfl | rfl | rfl | rfl | rfl | rfl | rfl | rfl | rfl | rfl | rfl | rfl | rfl | rfl | rfl | rfl | rfl <;> decide
theorem b_shr {x s z : Int} (hz : z = ((Int32.ofInt x) >>> ((Int32.ofInt s) &&& 31) : Int32).toInt) (hx0 : -2147483648 ≤ x) (hx1 : x < 2147483648) (h0 : 0 ≤ s) (h1 : s ≤ 31) : z = x / (2 ^ s.toNat : Int) := by
  obtain ⟨e1, e2⟩ := b_s31 h0 h1
  rw [hz, e1]
  show ((Int32.ofInt x).toBitVec.sshiftRight' ((Int32.ofInt s).toBitVec.smod 32)).toInt = _
  have e3 : ((Int32.ofInt s).toBitVec.smod 32) = (Int32.ofInt s).toBitVec := by
    have h9 : s = 0 ∨ s = 1 ∨ s = 2 ∨ s = 3 ∨ s = 4 ∨ s = 5 ∨ s = 6 ∨ s = 7 ∨ s = 8 ∨ s = 9 ∨ s = 10 ∨ s = 11 ∨ s = 12 ∨ s = 13 ∨ s = 14 ∨ s = 15 ∨ s = 16 ∨ s = 17 ∨ s = 18 ∨ s = 19 ∨ s = 20 ∨ s = 21 ∨ s = 22 ∨ s = 23 ∨ s = 24 ∨ s = 25 ∨ s = 26 ∨ s = 27 ∨ s = 28 ∨ s = 29 ∨ s = 30 ∨ s = 31 := by omega
    rcases h9 with rfl | rfl | rfl | rfl | rfl | rfl | rfl | rfl | rfl | rfl | rfl | rfl | rfl | rfl | rfl | rfl | rfl | rfl | rfl | rfl | rfl | rfl | rfl | rfl | rfl | rfl | rfl | rfl | rfl | rfl | rfl | rfl <;> decide
  rw [e3]
  show ((Int32.ofInt x).toBitVec.sshiftRight (Int32.ofInt s).toBitVec.toNat).toInt = _
  rw [BitVec.toInt_sshiftRight, e2, Int.shiftRight_eq_div_pow]
  have e4 : (Int32.ofInt x).toBitVec.toInt = x := i_t hx0 hx1
  rw [e4]
  push_cast
  rfl
theorem b_shl {x s z : Int} (hz : z = ((Int32.ofInt x) <<< ((Int32.ofInt s) &&& 31) : Int32).toInt) (hx0 : 0 ≤ x) (h0 : 0 ≤ s) (h1 : s ≤ 31) (hx1 : x * 2 ^ s.toNat < 2147483648) : z = x * 2 ^ s.toNat := by
  obtain ⟨e1, e2⟩ := b_s31 h0 h1
  rw [hz, e1]
  have e3 : ((Int32.ofInt s).toBitVec.smod 32) = (Int32.ofInt s).toBitVec := by
    have h9 : s = 0 ∨ s = 1 ∨ s = 2 ∨ s = 3 ∨ s = 4 ∨ s = 5 ∨ s = 6 ∨ s = 7 ∨ s = 8 ∨ s = 9 ∨ s = 10 ∨ s = 11 ∨ s = 12 ∨ s = 13 ∨ s = 14 ∨ s = 15 ∨ s = 16 ∨ s = 17 ∨ s = 18 ∨ s = 19 ∨ s = 20 ∨ s = 21 ∨ s = 22 ∨ s = 23 ∨ s = 24 ∨ s = 25 ∨ s = 26 ∨ s = 27 ∨ s = 28 ∨ s = 29 ∨ s = 30 ∨ s = 31 := by omega
    rcases h9 with rfl | rfl | rfl | rfl | rfl | rfl | rfl | rfl | rfl | rfl | rfl | rfl | rfl | rfl | rfl | rfl | rfl | rfl | rfl | rfl | rfl | rfl | rfl | rfl | rfl | rfl | rfl | rfl | rfl | rfl | rfl | rfl <;> decide
  have hp : ((2 : Int) ^ s.toNat) = ((2 ^ s.toNat : Nat) : Int) := by push_cast; rfl
  have hq : 1 ≤ (2 : Nat) ^ s.toNat := Nat.one_le_two_pow
  obtain ⟨n, rfl⟩ := Int.eq_ofNat_of_zero_le hx0
  rw [hp] at hx1 ⊢
  have hx2 : n * 2 ^ s.toNat < 2147483648 := by
    have : ((n * 2 ^ s.toNat : Nat) : Int) < 2147483648 := by push_cast; push_cast at hx1; exact hx1
    omega
  have hn : n ≤ n * 2 ^ s.toNat := Nat.le_mul_of_pos_right n hq
  have e : (Int32.ofInt (n : Int) <<< Int32.ofInt s).toBitVec.toNat = n * 2 ^ s.toNat := by
    show ((Int32.ofInt (n : Int)).toBitVec <<< ((Int32.ofInt s).toBitVec.smod 32)).toNat = _
    rw [e3]
    show ((Int32.ofInt (n : Int)).toBitVec <<< (Int32.ofInt s).toBitVec.toNat).toNat = _
    rw [e2, BitVec.toNat_shiftLeft, Nat.shiftLeft_eq]
    have : (Int32.ofInt (n : Int)).toBitVec.toNat = n := by
      show (BitVec.ofInt 32 (n : Int)).toNat = n
      rw [b_nat]
      omega
    rw [this]
    exact Nat.mod_eq_of_lt (by omega)
  rw [b_pos _ (by rw [e]; exact hx2), e]
  push_cast
  rfl
