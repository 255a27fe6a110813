-- ===== PART A: goes FIRST, ahead of the names: the tables' words, and 'selects' of the private methods out of them =====
/-- a private method of a class that the tables say can be made, by its rows of tables_1 -/
def lw_okq (q : MethodName × Nat) : Prop := (q.1.cls ≠ "java/lang/invoke/MethodHandle" ∧ q.1.cls ≠ "java/lang/invoke/VarHandle") ∧ Cond.instantiable q.1.cls q.2 ∈ tables_1 ∧ Cond.privateMethod q.1 ∈ tables_1 ∧ Cond.instanceMethod q.1 ∈ tables_1
theorem lw_p0 : lw_okq (⟨"OneKey", "beginAsTold", "()V"⟩, 12) := ⟨⟨by decide +kernel, by decide +kernel⟩, List.mem_of_getElem? (i := 21) (by decide +kernel), List.mem_of_getElem? (i := 227) (by decide +kernel), List.mem_of_getElem? (i := 228) (by decide +kernel)⟩
theorem lw_p1 : lw_okq (⟨"OneKey", "standAt", "(II)V"⟩, 12) := ⟨⟨by decide +kernel, by decide +kernel⟩, List.mem_of_getElem? (i := 21) (by decide +kernel), List.mem_of_getElem? (i := 234) (by decide +kernel), List.mem_of_getElem? (i := 235) (by decide +kernel)⟩
theorem lw_p2 : lw_okq (⟨"OneKey$Reader", "nextToken", "()V"⟩, 5) := ⟨⟨by decide +kernel, by decide +kernel⟩, List.mem_of_getElem? (i := 29) (by decide +kernel), List.mem_of_getElem? (i := 318) (by decide +kernel), List.mem_of_getElem? (i := 319) (by decide +kernel)⟩
theorem lw_p3 : lw_okq (⟨"OneKey$Reader", "wordHere", "()I"⟩, 5) := ⟨⟨by decide +kernel, by decide +kernel⟩, List.mem_of_getElem? (i := 29) (by decide +kernel), List.mem_of_getElem? (i := 328) (by decide +kernel), List.mem_of_getElem? (i := 329) (by decide +kernel)⟩
theorem lw_p4 : lw_okq (⟨"OneKey$Reader", "isHere", "(Ljava/lang/String;)Z"⟩, 5) := ⟨⟨by decide +kernel, by decide +kernel⟩, List.mem_of_getElem? (i := 29) (by decide +kernel), List.mem_of_getElem? (i := 347) (by decide +kernel), List.mem_of_getElem? (i := 348) (by decide +kernel)⟩
theorem lw_p5 : lw_okq (⟨"OneKey$Reader", "readLine", "(LOneKey$Gaol;I)Z"⟩, 5) := ⟨⟨by decide +kernel, by decide +kernel⟩, List.mem_of_getElem? (i := 29) (by decide +kernel), List.mem_of_getElem? (i := 399) (by decide +kernel), List.mem_of_getElem? (i := 400) (by decide +kernel)⟩
theorem lw_p6 : lw_okq (⟨"OneKey$Reader", "readGaol", "(LOneKey$Gaol;)Z"⟩, 5) := ⟨⟨by decide +kernel, by decide +kernel⟩, List.mem_of_getElem? (i := 29) (by decide +kernel), List.mem_of_getElem? (i := 403) (by decide +kernel), List.mem_of_getElem? (i := 404) (by decide +kernel)⟩
theorem lw_p7 : lw_okq (⟨"OneKey$Reader", "nextNumber", "(II)I"⟩, 5) := ⟨⟨by decide +kernel, by decide +kernel⟩, List.mem_of_getElem? (i := 29) (by decide +kernel), List.mem_of_getElem? (i := 407) (by decide +kernel), List.mem_of_getElem? (i := 408) (by decide +kernel)⟩
theorem lw_p8 : lw_okq (⟨"OneKey$Reader", "readHungry", "(LOneKey$Gaol;)Z"⟩, 5) := ⟨⟨by decide +kernel, by decide +kernel⟩, List.mem_of_getElem? (i := 29) (by decide +kernel), List.mem_of_getElem? (i := 412) (by decide +kernel), List.mem_of_getElem? (i := 413) (by decide +kernel)⟩
theorem lw_p9 : lw_okq (⟨"OneKey$Reader", "readGuard", "(LOneKey$Gaol;)Z"⟩, 5) := ⟨⟨by decide +kernel, by decide +kernel⟩, List.mem_of_getElem? (i := 29) (by decide +kernel), List.mem_of_getElem? (i := 426) (by decide +kernel), List.mem_of_getElem? (i := 427) (by decide +kernel)⟩
theorem lw_p10 : lw_okq (⟨"OneKey$Reader", "readDoor", "(LOneKey$Gaol;I)Z"⟩, 5) := ⟨⟨by decide +kernel, by decide +kernel⟩, List.mem_of_getElem? (i := 29) (by decide +kernel), List.mem_of_getElem? (i := 430) (by decide +kernel), List.mem_of_getElem? (i := 431) (by decide +kernel)⟩
theorem lw_p11 : lw_okq (⟨"OneKey", "guardsIn", "(I)I"⟩, 12) := ⟨⟨by decide +kernel, by decide +kernel⟩, List.mem_of_getElem? (i := 21) (by decide +kernel), List.mem_of_getElem? (i := 454) (by decide +kernel), List.mem_of_getElem? (i := 455) (by decide +kernel)⟩
theorem lw_p12 : lw_okq (⟨"OneKey$Acts", "afterAtDoor", "(IIII)I"⟩, 1) := ⟨⟨by decide +kernel, by decide +kernel⟩, List.mem_of_getElem? (i := 123) (by decide +kernel), List.mem_of_getElem? (i := 515) (by decide +kernel), List.mem_of_getElem? (i := 516) (by decide +kernel)⟩
theorem lw_p13 : lw_okq (⟨"OneKey", "codesOf", "(I)I"⟩, 12) := ⟨⟨by decide +kernel, by decide +kernel⟩, List.mem_of_getElem? (i := 21) (by decide +kernel), List.mem_of_getElem? (i := 548) (by decide +kernel), List.mem_of_getElem? (i := 549) (by decide +kernel)⟩
theorem lw_p14 : lw_okq (⟨"OneKey$Search", "sortDoors", "()V"⟩, 9) := ⟨⟨by decide +kernel, by decide +kernel⟩, List.mem_of_getElem? (i := 135) (by decide +kernel), List.mem_of_getElem? (i := 564) (by decide +kernel), List.mem_of_getElem? (i := 565) (by decide +kernel)⟩
theorem lw_p15 : lw_okq (⟨"OneKey$Search", "reach", "(III)Z"⟩, 9) := ⟨⟨by decide +kernel, by decide +kernel⟩, List.mem_of_getElem? (i := 135) (by decide +kernel), List.mem_of_getElem? (i := 569) (by decide +kernel), List.mem_of_getElem? (i := 570) (by decide +kernel)⟩
def lw_privs_1 : List (MethodName × Nat) := [(⟨"OneKey", "beginAsTold", "()V"⟩, 12), (⟨"OneKey", "standAt", "(II)V"⟩, 12), (⟨"OneKey$Reader", "nextToken", "()V"⟩, 5), (⟨"OneKey$Reader", "wordHere", "()I"⟩, 5), (⟨"OneKey$Reader", "isHere", "(Ljava/lang/String;)Z"⟩, 5), (⟨"OneKey$Reader", "readLine", "(LOneKey$Gaol;I)Z"⟩, 5), (⟨"OneKey$Reader", "readGaol", "(LOneKey$Gaol;)Z"⟩, 5), (⟨"OneKey$Reader", "nextNumber", "(II)I"⟩, 5), (⟨"OneKey$Reader", "readHungry", "(LOneKey$Gaol;)Z"⟩, 5), (⟨"OneKey$Reader", "readGuard", "(LOneKey$Gaol;)Z"⟩, 5), (⟨"OneKey$Reader", "readDoor", "(LOneKey$Gaol;I)Z"⟩, 5), (⟨"OneKey", "guardsIn", "(I)I"⟩, 12), (⟨"OneKey$Acts", "afterAtDoor", "(IIII)I"⟩, 1), (⟨"OneKey", "codesOf", "(I)I"⟩, 12), (⟨"OneKey$Search", "sortDoors", "()V"⟩, 9), (⟨"OneKey$Search", "reach", "(III)Z"⟩, 9)]
theorem lw_r1 : ∀ q ∈ lw_privs_1, lw_okq q := List.forall_mem_cons.mpr ⟨lw_p0, List.forall_mem_cons.mpr ⟨lw_p1, List.forall_mem_cons.mpr ⟨lw_p2, List.forall_mem_cons.mpr ⟨lw_p3, List.forall_mem_cons.mpr ⟨lw_p4, List.forall_mem_cons.mpr ⟨lw_p5, List.forall_mem_cons.mpr ⟨lw_p6, List.forall_mem_cons.mpr ⟨lw_p7, List.forall_mem_cons.mpr ⟨lw_p8, List.forall_mem_cons.mpr ⟨lw_p9, List.forall_mem_cons.mpr ⟨lw_p10, List.forall_mem_cons.mpr ⟨lw_p11, List.forall_mem_cons.mpr ⟨lw_p12, List.forall_mem_cons.mpr ⟨lw_p13, List.forall_mem_cons.mpr ⟨lw_p14, List.forall_mem_cons.mpr ⟨lw_p15, fun _ h => absurd h List.not_mem_nil⟩⟩⟩⟩⟩⟩⟩⟩⟩⟩⟩⟩⟩⟩⟩⟩
theorem lw_p16 : lw_okq (⟨"OneKey$Search", "spread", "(II)Z"⟩, 9) := ⟨⟨by decide +kernel, by decide +kernel⟩, List.mem_of_getElem? (i := 135) (by decide +kernel), List.mem_of_getElem? (i := 580) (by decide +kernel), List.mem_of_getElem? (i := 581) (by decide +kernel)⟩
theorem lw_p17 : lw_okq (⟨"OneKey$Search", "standingAt", "(I)I"⟩, 9) := ⟨⟨by decide +kernel, by decide +kernel⟩, List.mem_of_getElem? (i := 135) (by decide +kernel), List.mem_of_getElem? (i := 584) (by decide +kernel), List.mem_of_getElem? (i := 585) (by decide +kernel)⟩
theorem lw_p18 : lw_okq (⟨"OneKey$Search", "listCodes", "(II)V"⟩, 9) := ⟨⟨by decide +kernel, by decide +kernel⟩, List.mem_of_getElem? (i := 135) (by decide +kernel), List.mem_of_getElem? (i := 589) (by decide +kernel), List.mem_of_getElem? (i := 590) (by decide +kernel)⟩
theorem lw_p19 : lw_okq (⟨"OneKey$Search", "listCode", "(I)V"⟩, 9) := ⟨⟨by decide +kernel, by decide +kernel⟩, List.mem_of_getElem? (i := 135) (by decide +kernel), List.mem_of_getElem? (i := 594) (by decide +kernel), List.mem_of_getElem? (i := 595) (by decide +kernel)⟩
theorem lw_p20 : lw_okq (⟨"OneKey$Search", "listDoors", "(II)V"⟩, 9) := ⟨⟨by decide +kernel, by decide +kernel⟩, List.mem_of_getElem? (i := 135) (by decide +kernel), List.mem_of_getElem? (i := 599) (by decide +kernel), List.mem_of_getElem? (i := 600) (by decide +kernel)⟩
theorem lw_p21 : lw_okq (⟨"OneKey$Search", "pathToLast", "()LOneKey$Path;"⟩, 9) := ⟨⟨by decide +kernel, by decide +kernel⟩, List.mem_of_getElem? (i := 135) (by decide +kernel), List.mem_of_getElem? (i := 604) (by decide +kernel), List.mem_of_getElem? (i := 605) (by decide +kernel)⟩
theorem lw_p22 : lw_okq (⟨"OneKey$Search", "aheadOf", "(I)I"⟩, 9) := ⟨⟨by decide +kernel, by decide +kernel⟩, List.mem_of_getElem? (i := 135) (by decide +kernel), List.mem_of_getElem? (i := 608) (by decide +kernel), List.mem_of_getElem? (i := 609) (by decide +kernel)⟩
theorem lw_p23 : lw_okq (⟨"OneKey$Search", "wipe", "()V"⟩, 9) := ⟨⟨by decide +kernel, by decide +kernel⟩, List.mem_of_getElem? (i := 135) (by decide +kernel), List.mem_of_getElem? (i := 628) (by decide +kernel), List.mem_of_getElem? (i := 629) (by decide +kernel)⟩
theorem lw_p24 : lw_okq (⟨"OneKey", "stickingIn", "(LOneKey$Path;)I"⟩, 12) := ⟨⟨by decide +kernel, by decide +kernel⟩, List.mem_of_getElem? (i := 21) (by decide +kernel), List.mem_of_getElem? (i := 665) (by decide +kernel), List.mem_of_getElem? (i := 666) (by decide +kernel)⟩
theorem lw_p25 : lw_okq (⟨"OneKey$Night", "countWaysTo", "(I)V"⟩, 6) := ⟨⟨by decide +kernel, by decide +kernel⟩, List.mem_of_getElem? (i := 199) (by decide +kernel), List.mem_of_getElem? (i := 716) (by decide +kernel), List.mem_of_getElem? (i := 717) (by decide +kernel)⟩
theorem lw_p26 : lw_okq (⟨"OneKey$Night", "roomAfter", "(III)I"⟩, 6) := ⟨⟨by decide +kernel, by decide +kernel⟩, List.mem_of_getElem? (i := 199) (by decide +kernel), List.mem_of_getElem? (i := 723) (by decide +kernel), List.mem_of_getElem? (i := 724) (by decide +kernel)⟩
theorem lw_p27 : lw_okq (⟨"OneKey$Night", "countWaysOn", "(I)V"⟩, 6) := ⟨⟨by decide +kernel, by decide +kernel⟩, List.mem_of_getElem? (i := 199) (by decide +kernel), List.mem_of_getElem? (i := 745) (by decide +kernel), List.mem_of_getElem? (i := 746) (by decide +kernel)⟩
theorem lw_p28 : lw_okq (⟨"OneKey$Night", "mostWaysBehind", "(I)J"⟩, 6) := ⟨⟨by decide +kernel, by decide +kernel⟩, List.mem_of_getElem? (i := 199) (by decide +kernel), List.mem_of_getElem? (i := 749) (by decide +kernel), List.mem_of_getElem? (i := 750) (by decide +kernel)⟩
theorem lw_p29 : lw_okq (⟨"OneKeyModel", "begin", "()V"⟩, 31) := ⟨⟨by decide +kernel, by decide +kernel⟩, List.mem_of_getElem? (i := 769) (by decide +kernel), List.mem_of_getElem? (i := 776) (by decide +kernel), List.mem_of_getElem? (i := 777) (by decide +kernel)⟩
theorem lw_p30 : lw_okq (⟨"OneKeyModel", "token", "()V"⟩, 31) := ⟨⟨by decide +kernel, by decide +kernel⟩, List.mem_of_getElem? (i := 769) (by decide +kernel), List.mem_of_getElem? (i := 892) (by decide +kernel), List.mem_of_getElem? (i := 893) (by decide +kernel)⟩
theorem lw_p31 : lw_okq (⟨"OneKeyModel", "readsLine", "()Z"⟩, 31) := ⟨⟨by decide +kernel, by decide +kernel⟩, List.mem_of_getElem? (i := 769) (by decide +kernel), List.mem_of_getElem? (i := 899) (by decide +kernel), List.mem_of_getElem? (i := 900) (by decide +kernel)⟩
def lw_privs_2 : List (MethodName × Nat) := [(⟨"OneKey$Search", "spread", "(II)Z"⟩, 9), (⟨"OneKey$Search", "standingAt", "(I)I"⟩, 9), (⟨"OneKey$Search", "listCodes", "(II)V"⟩, 9), (⟨"OneKey$Search", "listCode", "(I)V"⟩, 9), (⟨"OneKey$Search", "listDoors", "(II)V"⟩, 9), (⟨"OneKey$Search", "pathToLast", "()LOneKey$Path;"⟩, 9), (⟨"OneKey$Search", "aheadOf", "(I)I"⟩, 9), (⟨"OneKey$Search", "wipe", "()V"⟩, 9), (⟨"OneKey", "stickingIn", "(LOneKey$Path;)I"⟩, 12), (⟨"OneKey$Night", "countWaysTo", "(I)V"⟩, 6), (⟨"OneKey$Night", "roomAfter", "(III)I"⟩, 6), (⟨"OneKey$Night", "countWaysOn", "(I)V"⟩, 6), (⟨"OneKey$Night", "mostWaysBehind", "(I)J"⟩, 6), (⟨"OneKeyModel", "begin", "()V"⟩, 31), (⟨"OneKeyModel", "token", "()V"⟩, 31), (⟨"OneKeyModel", "readsLine", "()Z"⟩, 31)]
theorem lw_r2 : ∀ q ∈ lw_privs_2, lw_okq q := List.forall_mem_cons.mpr ⟨lw_p16, List.forall_mem_cons.mpr ⟨lw_p17, List.forall_mem_cons.mpr ⟨lw_p18, List.forall_mem_cons.mpr ⟨lw_p19, List.forall_mem_cons.mpr ⟨lw_p20, List.forall_mem_cons.mpr ⟨lw_p21, List.forall_mem_cons.mpr ⟨lw_p22, List.forall_mem_cons.mpr ⟨lw_p23, List.forall_mem_cons.mpr ⟨lw_p24, List.forall_mem_cons.mpr ⟨lw_p25, List.forall_mem_cons.mpr ⟨lw_p26, List.forall_mem_cons.mpr ⟨lw_p27, List.forall_mem_cons.mpr ⟨lw_p28, List.forall_mem_cons.mpr ⟨lw_p29, List.forall_mem_cons.mpr ⟨lw_p30, List.forall_mem_cons.mpr ⟨lw_p31, fun _ h => absurd h List.not_mem_nil⟩⟩⟩⟩⟩⟩⟩⟩⟩⟩⟩⟩⟩⟩⟩⟩
theorem lw_p32 : lw_okq (⟨"OneKeyModel", "wordOf", "()I"⟩, 31) := ⟨⟨by decide +kernel, by decide +kernel⟩, List.mem_of_getElem? (i := 769) (by decide +kernel), List.mem_of_getElem? (i := 903) (by decide +kernel), List.mem_of_getElem? (i := 904) (by decide +kernel)⟩
theorem lw_p33 : lw_okq (⟨"OneKeyModel", "doorWord", "()I"⟩, 31) := ⟨⟨by decide +kernel, by decide +kernel⟩, List.mem_of_getElem? (i := 769) (by decide +kernel), List.mem_of_getElem? (i := 907) (by decide +kernel), List.mem_of_getElem? (i := 908) (by decide +kernel)⟩
theorem lw_p34 : lw_okq (⟨"OneKeyModel", "isWord", "(JI)Z"⟩, 31) := ⟨⟨by decide +kernel, by decide +kernel⟩, List.mem_of_getElem? (i := 769) (by decide +kernel), List.mem_of_getElem? (i := 912) (by decide +kernel), List.mem_of_getElem? (i := 913) (by decide +kernel)⟩
theorem lw_p35 : lw_okq (⟨"OneKeyModel", "readsRest", "(I)Z"⟩, 31) := ⟨⟨by decide +kernel, by decide +kernel⟩, List.mem_of_getElem? (i := 769) (by decide +kernel), List.mem_of_getElem? (i := 932) (by decide +kernel), List.mem_of_getElem? (i := 933) (by decide +kernel)⟩
theorem lw_p36 : lw_okq (⟨"OneKeyModel", "reads", "(IIII)Z"⟩, 31) := ⟨⟨by decide +kernel, by decide +kernel⟩, List.mem_of_getElem? (i := 769) (by decide +kernel), List.mem_of_getElem? (i := 936) (by decide +kernel), List.mem_of_getElem? (i := 937) (by decide +kernel)⟩
theorem lw_p37 : lw_okq (⟨"OneKeyModel", "readsHungry", "()Z"⟩, 31) := ⟨⟨by decide +kernel, by decide +kernel⟩, List.mem_of_getElem? (i := 769) (by decide +kernel), List.mem_of_getElem? (i := 940) (by decide +kernel), List.mem_of_getElem? (i := 941) (by decide +kernel)⟩
theorem lw_p38 : lw_okq (⟨"OneKeyModel", "tell", "(I)V"⟩, 31) := ⟨⟨by decide +kernel, by decide +kernel⟩, List.mem_of_getElem? (i := 769) (by decide +kernel), List.mem_of_getElem? (i := 955) (by decide +kernel), List.mem_of_getElem? (i := 956) (by decide +kernel)⟩
theorem lw_p39 : lw_okq (⟨"OneKeyModel", "clear", "(I)V"⟩, 31) := ⟨⟨by decide +kernel, by decide +kernel⟩, List.mem_of_getElem? (i := 769) (by decide +kernel), List.mem_of_getElem? (i := 959) (by decide +kernel), List.mem_of_getElem? (i := 960) (by decide +kernel)⟩
theorem lw_p40 : lw_okq (⟨"OneKeyModel", "tellDoor", "(I)V"⟩, 31) := ⟨⟨by decide +kernel, by decide +kernel⟩, List.mem_of_getElem? (i := 769) (by decide +kernel), List.mem_of_getElem? (i := 963) (by decide +kernel), List.mem_of_getElem? (i := 964) (by decide +kernel)⟩
theorem lw_p41 : lw_okq (⟨"OneKeyModel", "isRoom", "(I)Z"⟩, 31) := ⟨⟨by decide +kernel, by decide +kernel⟩, List.mem_of_getElem? (i := 769) (by decide +kernel), List.mem_of_getElem? (i := 971) (by decide +kernel), List.mem_of_getElem? (i := 972) (by decide +kernel)⟩
theorem lw_p42 : lw_okq (⟨"OneKeyModel", "isDoor", "(I)Z"⟩, 31) := ⟨⟨by decide +kernel, by decide +kernel⟩, List.mem_of_getElem? (i := 769) (by decide +kernel), List.mem_of_getElem? (i := 979) (by decide +kernel), List.mem_of_getElem? (i := 980) (by decide +kernel)⟩
theorem lw_p43 : lw_okq (⟨"OneKeyModel", "does", "(II)Z"⟩, 31) := ⟨⟨by decide +kernel, by decide +kernel⟩, List.mem_of_getElem? (i := 769) (by decide +kernel), List.mem_of_getElem? (i := 997) (by decide +kernel), List.mem_of_getElem? (i := 998) (by decide +kernel)⟩
theorem lw_p44 : lw_okq (⟨"OneKeyModel", "stays", "(III)Z"⟩, 31) := ⟨⟨by decide +kernel, by decide +kernel⟩, List.mem_of_getElem? (i := 769) (by decide +kernel), List.mem_of_getElem? (i := 1001) (by decide +kernel), List.mem_of_getElem? (i := 1002) (by decide +kernel)⟩
theorem lw_p45 : lw_okq (⟨"OneKeyModel", "hands", "(III)Z"⟩, 31) := ⟨⟨by decide +kernel, by decide +kernel⟩, List.mem_of_getElem? (i := 769) (by decide +kernel), List.mem_of_getElem? (i := 1005) (by decide +kernel), List.mem_of_getElem? (i := 1006) (by decide +kernel)⟩
theorem lw_p46 : lw_okq (⟨"OneKeyModel", "behind", "(II)I"⟩, 31) := ⟨⟨by decide +kernel, by decide +kernel⟩, List.mem_of_getElem? (i := 769) (by decide +kernel), List.mem_of_getElem? (i := 1009) (by decide +kernel), List.mem_of_getElem? (i := 1010) (by decide +kernel)⟩
theorem lw_p47 : lw_okq (⟨"OneKeyModel", "goes", "(IIII)Z"⟩, 31) := ⟨⟨by decide +kernel, by decide +kernel⟩, List.mem_of_getElem? (i := 769) (by decide +kernel), List.mem_of_getElem? (i := 1013) (by decide +kernel), List.mem_of_getElem? (i := 1014) (by decide +kernel)⟩
def lw_privs_3 : List (MethodName × Nat) := [(⟨"OneKeyModel", "wordOf", "()I"⟩, 31), (⟨"OneKeyModel", "doorWord", "()I"⟩, 31), (⟨"OneKeyModel", "isWord", "(JI)Z"⟩, 31), (⟨"OneKeyModel", "readsRest", "(I)Z"⟩, 31), (⟨"OneKeyModel", "reads", "(IIII)Z"⟩, 31), (⟨"OneKeyModel", "readsHungry", "()Z"⟩, 31), (⟨"OneKeyModel", "tell", "(I)V"⟩, 31), (⟨"OneKeyModel", "clear", "(I)V"⟩, 31), (⟨"OneKeyModel", "tellDoor", "(I)V"⟩, 31), (⟨"OneKeyModel", "isRoom", "(I)Z"⟩, 31), (⟨"OneKeyModel", "isDoor", "(I)Z"⟩, 31), (⟨"OneKeyModel", "does", "(II)Z"⟩, 31), (⟨"OneKeyModel", "stays", "(III)Z"⟩, 31), (⟨"OneKeyModel", "hands", "(III)Z"⟩, 31), (⟨"OneKeyModel", "behind", "(II)I"⟩, 31), (⟨"OneKeyModel", "goes", "(IIII)Z"⟩, 31)]
theorem lw_r3 : ∀ q ∈ lw_privs_3, lw_okq q := List.forall_mem_cons.mpr ⟨lw_p32, List.forall_mem_cons.mpr ⟨lw_p33, List.forall_mem_cons.mpr ⟨lw_p34, List.forall_mem_cons.mpr ⟨lw_p35, List.forall_mem_cons.mpr ⟨lw_p36, List.forall_mem_cons.mpr ⟨lw_p37, List.forall_mem_cons.mpr ⟨lw_p38, List.forall_mem_cons.mpr ⟨lw_p39, List.forall_mem_cons.mpr ⟨lw_p40, List.forall_mem_cons.mpr ⟨lw_p41, List.forall_mem_cons.mpr ⟨lw_p42, List.forall_mem_cons.mpr ⟨lw_p43, List.forall_mem_cons.mpr ⟨lw_p44, List.forall_mem_cons.mpr ⟨lw_p45, List.forall_mem_cons.mpr ⟨lw_p46, List.forall_mem_cons.mpr ⟨lw_p47, fun _ h => absurd h List.not_mem_nil⟩⟩⟩⟩⟩⟩⟩⟩⟩⟩⟩⟩⟩⟩⟩⟩
theorem lw_p48 : lw_okq (⟨"OneKeyModel", "opens", "(IIIZ)Z"⟩, 31) := ⟨⟨by decide +kernel, by decide +kernel⟩, List.mem_of_getElem? (i := 769) (by decide +kernel), List.mem_of_getElem? (i := 1017) (by decide +kernel), List.mem_of_getElem? (i := 1018) (by decide +kernel)⟩
theorem lw_p49 : lw_okq (⟨"OneKeyModel", "copy", "(II)V"⟩, 31) := ⟨⟨by decide +kernel, by decide +kernel⟩, List.mem_of_getElem? (i := 769) (by decide +kernel), List.mem_of_getElem? (i := 1028) (by decide +kernel), List.mem_of_getElem? (i := 1029) (by decide +kernel)⟩
theorem lw_p50 : lw_okq (⟨"OneKeyModel", "toldActs", "(IZ)I"⟩, 31) := ⟨⟨by decide +kernel, by decide +kernel⟩, List.mem_of_getElem? (i := 769) (by decide +kernel), List.mem_of_getElem? (i := 1036) (by decide +kernel), List.mem_of_getElem? (i := 1037) (by decide +kernel)⟩
theorem lw_p51 : lw_okq (⟨"OneKeyModel", "search", "(Z)I"⟩, 31) := ⟨⟨by decide +kernel, by decide +kernel⟩, List.mem_of_getElem? (i := 769) (by decide +kernel), List.mem_of_getElem? (i := 1040) (by decide +kernel), List.mem_of_getElem? (i := 1041) (by decide +kernel)⟩
theorem lw_p52 : lw_okq (⟨"OneKeyModel", "numberOf", "(I)I"⟩, 31) := ⟨⟨by decide +kernel, by decide +kernel⟩, List.mem_of_getElem? (i := 769) (by decide +kernel), List.mem_of_getElem? (i := 1044) (by decide +kernel), List.mem_of_getElem? (i := 1045) (by decide +kernel)⟩
theorem lw_p53 : lw_okq (⟨"OneKeyModel", "hungryCode", "(I)I"⟩, 31) := ⟨⟨by decide +kernel, by decide +kernel⟩, List.mem_of_getElem? (i := 769) (by decide +kernel), List.mem_of_getElem? (i := 1048) (by decide +kernel), List.mem_of_getElem? (i := 1049) (by decide +kernel)⟩
theorem lw_p54 : lw_okq (⟨"OneKeyModel", "layStanding", "(II)V"⟩, 31) := ⟨⟨by decide +kernel, by decide +kernel⟩, List.mem_of_getElem? (i := 769) (by decide +kernel), List.mem_of_getElem? (i := 1052) (by decide +kernel), List.mem_of_getElem? (i := 1053) (by decide +kernel)⟩
theorem lw_p55 : lw_okq (⟨"OneKeyModel", "hungryOf", "(I)I"⟩, 31) := ⟨⟨by decide +kernel, by decide +kernel⟩, List.mem_of_getElem? (i := 769) (by decide +kernel), List.mem_of_getElem? (i := 1056) (by decide +kernel), List.mem_of_getElem? (i := 1057) (by decide +kernel)⟩
theorem lw_p56 : lw_okq (⟨"OneKeyModel", "isEnd", "(Z)Z"⟩, 31) := ⟨⟨by decide +kernel, by decide +kernel⟩, List.mem_of_getElem? (i := 769) (by decide +kernel), List.mem_of_getElem? (i := 1060) (by decide +kernel), List.mem_of_getElem? (i := 1061) (by decide +kernel)⟩
theorem lw_p57 : lw_okq (⟨"OneKeyModel", "open", "(I)V"⟩, 31) := ⟨⟨by decide +kernel, by decide +kernel⟩, List.mem_of_getElem? (i := 769) (by decide +kernel), List.mem_of_getElem? (i := 1064) (by decide +kernel), List.mem_of_getElem? (i := 1065) (by decide +kernel)⟩
theorem lw_p58 : lw_okq (⟨"OneKeyModel", "tries", "(I)Z"⟩, 31) := ⟨⟨by decide +kernel, by decide +kernel⟩, List.mem_of_getElem? (i := 769) (by decide +kernel), List.mem_of_getElem? (i := 1068) (by decide +kernel), List.mem_of_getElem? (i := 1069) (by decide +kernel)⟩
theorem lw_p59 : lw_okq (⟨"OneKeyModel", "may", "(I)Z"⟩, 31) := ⟨⟨by decide +kernel, by decide +kernel⟩, List.mem_of_getElem? (i := 769) (by decide +kernel), List.mem_of_getElem? (i := 1072) (by decide +kernel), List.mem_of_getElem? (i := 1073) (by decide +kernel)⟩
theorem lw_p60 : lw_okq (⟨"OneKeyModel", "layActs", "(IZ)V"⟩, 31) := ⟨⟨by decide +kernel, by decide +kernel⟩, List.mem_of_getElem? (i := 769) (by decide +kernel), List.mem_of_getElem? (i := 1076) (by decide +kernel), List.mem_of_getElem? (i := 1077) (by decide +kernel)⟩
theorem lw_p61 : lw_okq (⟨"OneKeyModel", "goodFrom", "(I)I"⟩, 31) := ⟨⟨by decide +kernel, by decide +kernel⟩, List.mem_of_getElem? (i := 769) (by decide +kernel), List.mem_of_getElem? (i := 1080) (by decide +kernel), List.mem_of_getElem? (i := 1081) (by decide +kernel)⟩
theorem lw_p62 : lw_okq (⟨"OneKeyModel", "stuck", "()I"⟩, 31) := ⟨⟨by decide +kernel, by decide +kernel⟩, List.mem_of_getElem? (i := 769) (by decide +kernel), List.mem_of_getElem? (i := 1102) (by decide +kernel), List.mem_of_getElem? (i := 1103) (by decide +kernel)⟩
theorem lw_p63 : lw_okq (⟨"OneKeyModel", "layNight", "(I)V"⟩, 31) := ⟨⟨by decide +kernel, by decide +kernel⟩, List.mem_of_getElem? (i := 769) (by decide +kernel), List.mem_of_getElem? (i := 1143) (by decide +kernel), List.mem_of_getElem? (i := 1144) (by decide +kernel)⟩
def lw_privs_4 : List (MethodName × Nat) := [(⟨"OneKeyModel", "opens", "(IIIZ)Z"⟩, 31), (⟨"OneKeyModel", "copy", "(II)V"⟩, 31), (⟨"OneKeyModel", "toldActs", "(IZ)I"⟩, 31), (⟨"OneKeyModel", "search", "(Z)I"⟩, 31), (⟨"OneKeyModel", "numberOf", "(I)I"⟩, 31), (⟨"OneKeyModel", "hungryCode", "(I)I"⟩, 31), (⟨"OneKeyModel", "layStanding", "(II)V"⟩, 31), (⟨"OneKeyModel", "hungryOf", "(I)I"⟩, 31), (⟨"OneKeyModel", "isEnd", "(Z)Z"⟩, 31), (⟨"OneKeyModel", "open", "(I)V"⟩, 31), (⟨"OneKeyModel", "tries", "(I)Z"⟩, 31), (⟨"OneKeyModel", "may", "(I)Z"⟩, 31), (⟨"OneKeyModel", "layActs", "(IZ)V"⟩, 31), (⟨"OneKeyModel", "goodFrom", "(I)I"⟩, 31), (⟨"OneKeyModel", "stuck", "()I"⟩, 31), (⟨"OneKeyModel", "layNight", "(I)V"⟩, 31)]
theorem lw_r4 : ∀ q ∈ lw_privs_4, lw_okq q := List.forall_mem_cons.mpr ⟨lw_p48, List.forall_mem_cons.mpr ⟨lw_p49, List.forall_mem_cons.mpr ⟨lw_p50, List.forall_mem_cons.mpr ⟨lw_p51, List.forall_mem_cons.mpr ⟨lw_p52, List.forall_mem_cons.mpr ⟨lw_p53, List.forall_mem_cons.mpr ⟨lw_p54, List.forall_mem_cons.mpr ⟨lw_p55, List.forall_mem_cons.mpr ⟨lw_p56, List.forall_mem_cons.mpr ⟨lw_p57, List.forall_mem_cons.mpr ⟨lw_p58, List.forall_mem_cons.mpr ⟨lw_p59, List.forall_mem_cons.mpr ⟨lw_p60, List.forall_mem_cons.mpr ⟨lw_p61, List.forall_mem_cons.mpr ⟨lw_p62, List.forall_mem_cons.mpr ⟨lw_p63, fun _ h => absurd h List.not_mem_nil⟩⟩⟩⟩⟩⟩⟩⟩⟩⟩⟩⟩⟩⟩⟩⟩
theorem lw_p64 : lw_okq (⟨"OneKeyModel", "leads", "(III)J"⟩, 31) := ⟨⟨by decide +kernel, by decide +kernel⟩, List.mem_of_getElem? (i := 769) (by decide +kernel), List.mem_of_getElem? (i := 1147) (by decide +kernel), List.mem_of_getElem? (i := 1148) (by decide +kernel)⟩
theorem lw_p65 : lw_okq (⟨"OneKeyModel", "fits", "(II)Z"⟩, 31) := ⟨⟨by decide +kernel, by decide +kernel⟩, List.mem_of_getElem? (i := 769) (by decide +kernel), List.mem_of_getElem? (i := 1151) (by decide +kernel), List.mem_of_getElem? (i := 1152) (by decide +kernel)⟩
def lw_privs_5 : List (MethodName × Nat) := [(⟨"OneKeyModel", "leads", "(III)J"⟩, 31), (⟨"OneKeyModel", "fits", "(II)Z"⟩, 31)]
theorem lw_r5 : ∀ q ∈ lw_privs_5, lw_okq q := List.forall_mem_cons.mpr ⟨lw_p64, List.forall_mem_cons.mpr ⟨lw_p65, fun _ h => absurd h List.not_mem_nil⟩⟩
def lw_privs : List (MethodName × Nat) := lw_privs_1 ++ (lw_privs_2 ++ (lw_privs_3 ++ (lw_privs_4 ++ (lw_privs_5))))
def lw_tbl : List Cond := k2_sels lw_privs ++ tables_1
theorem lw_privs_ok : ∀ q ∈ lw_privs, lw_okq q := by
  show ∀ q ∈ lw_privs_1 ++ (lw_privs_2 ++ (lw_privs_3 ++ (lw_privs_4 ++ (lw_privs_5)))), lw_okq q
  exact List.forall_mem_append.mpr ⟨lw_r1, List.forall_mem_append.mpr ⟨lw_r2, List.forall_mem_append.mpr ⟨lw_r3, List.forall_mem_append.mpr ⟨lw_r4, lw_r5⟩⟩⟩⟩
-- ===== end of PART A; then your names; then what follows =====
/-! ===== BEGIN words of one list among another's, by their places ===== -/
theorem goodIn_r {big : List Cond} (ws : List Cond) (ps : List Nat) (hp : ws = ps.filterMap (fun i => big[i]?)) (h : ws.all goodWord = true) : GoodIn big ws := by
  intro w hw
  have h1 := List.all_eq_true.mp h w hw
  rw [hp] at hw
  obtain ⟨i, -, hi⟩ := List.mem_filterMap.mp hw
  have hm : w ∈ big := by first | exact List.mem_of_getElem? hi | exact List.getElem?_mem hi
  exact ⟨hm, good_of_word h1⟩
theorem goodIn_app {big a b : List Cond} (ha : GoodIn big a) (hb : GoodIn big b) : GoodIn big (a ++ b) := fun w h => (List.mem_append.mp h).elim (ha w) (hb w)
theorem goodIn_ca {big a b : List Cond} {c : Cond} (ha : GoodIn big (c :: a)) (hb : GoodIn big b) : GoodIn big (c :: (a ++ b)) := fun w h => (List.mem_cons.mp h).elim (fun e => ha w (List.mem_cons.mpr (Or.inl e))) (fun h => (List.mem_append.mp h).elim (fun h => ha w (List.mem_cons.mpr (Or.inr h))) (hb w))
theorem goodIn_sub {big ws : List Cond} (hm : ∀ w ∈ ws, w ∈ big) (h : ws.all goodWord = true) : GoodIn big ws := fun w hw => ⟨hm w hw, good_of_word (List.all_eq_true.mp h w hw)⟩
/-! ===== END ===== -/

/-! ===== BEGIN printed: names, fields, word lists, decode rows ===== -/
def RX0 : String := "OneKey$Acts"
def TX0 : u_T := fun k => match k with
  | _ => ("OneKey$Acts", "gaol", "LOneKey$Gaol;", true)
def tyX0 : Nat → FieldType := fun k => match k with
  | _ => .object "OneKey$Gaol"
abbrev wsX00 : List Cond := u_ws RX0 TX0 1
theorem nmX0 : ∀ a, a < 1 → ∀ b, b < 1 → a ≠ b → (TX0 a).2.1 ≠ (TX0 b).2.1 := by decide +kernel
theorem tyX0_ok : ∀ k, k < 1 → parseFieldDescriptor (TX0 k).2.2.1 = some (tyX0 k) := by decide +kernel
abbrev cX0_init : ByteArray := prog_2_method_1_code
def yX0_init : MethodName := ⟨RX0, "<init>", "(LOneKey$Gaol;)V"⟩
abbrev cX0_after : ByteArray := prog_2_method_2_code
def yX0_after : MethodName := ⟨RX0, "after", "(II)I"⟩
abbrev cX0_afterAtDoor : ByteArray := prog_2_method_3_code
def yX0_afterAtDoor : MethodName := ⟨RX0, "afterAtDoor", "(IIII)I"⟩
abbrev cX0_afterHand : ByteArray := prog_2_method_4_code
def yX0_afterHand : MethodName := ⟨RX0, "afterHand", "(III)I"⟩
abbrev cX0_afterGo : ByteArray := prog_2_method_5_code
def yX0_afterGo : MethodName := ⟨RX0, "afterGo", "(III)I"⟩
abbrev cX0_afterSoap : ByteArray := prog_2_method_6_code
def yX0_afterSoap : MethodName := ⟨RX0, "afterSoap", "(III)I"⟩
def RX1 : String := "OneKey$Foretold"
def TX1 : u_T := fun k => match k with
  | 0 => ("OneKey$Foretold", "gaol", "LOneKey$Gaol;", true)
  | 1 => ("OneKey$Foretold", "search", "LOneKey$Search;", true)
  | 2 => ("OneKey$Foretold", "byTurns", "[I", true)
  | 3 => ("OneKey$Foretold", "byWicket", "[I", true)
  | 4 => ("OneKey$Foretold", "allFed", "LOneKey$Path;", false)
  | 5 => ("OneKey$Foretold", "bothOut", "LOneKey$Path;", false)
  | _ => ("OneKey$Foretold", "standing", "I", false)
def tyX1 : Nat → FieldType := fun k => match k with
  | 0 => .object "OneKey$Gaol"
  | 1 => .object "OneKey$Search"
  | 2 => .array .int
  | 3 => .array .int
  | 4 => .object "OneKey$Path"
  | 5 => .object "OneKey$Path"
  | _ => .int
abbrev wsX10 : List Cond := u_ws RX1 TX1 7
theorem nmX1 : ∀ a, a < 7 → ∀ b, b < 7 → a ≠ b → (TX1 a).2.1 ≠ (TX1 b).2.1 := by decide +kernel
theorem tyX1_ok : ∀ k, k < 7 → parseFieldDescriptor (TX1 k).2.2.1 = some (tyX1 k) := by decide +kernel
abbrev cX1_init : ByteArray := prog_3_method_1_code
def yX1_init : MethodName := ⟨RX1, "<init>", "(LOneKey$Gaol;LOneKey$Search;)V"⟩
abbrev cX1_startFrom : ByteArray := prog_3_method_2_code
def yX1_startFrom : MethodName := ⟨RX1, "startFrom", "(I)V"⟩
abbrev cX1_rowFor : ByteArray := prog_3_method_3_code
def yX1_rowFor : MethodName := ⟨RX1, "rowFor", "(I)LOneKey$Path;"⟩
abbrev cX1_lengthByTurns : ByteArray := prog_3_method_4_code
def yX1_lengthByTurns : MethodName := ⟨RX1, "lengthByTurns", "(I)I"⟩
abbrev cX1_lengthByWicket : ByteArray := prog_3_method_5_code
def yX1_lengthByWicket : MethodName := ⟨RX1, "lengthByWicket", "(I)I"⟩
def RX2 : String := "OneKey$Gaol"
def TX2 : u_T := fun k => match k with
  | 0 => ("OneKey$Gaol", "first", "[I", true)
  | 1 => ("OneKey$Gaol", "second", "[I", true)
  | 2 => ("OneKey$Gaol", "kind", "[I", true)
  | 3 => ("OneKey$Gaol", "wicket", "[I", true)
  | 4 => ("OneKey$Gaol", "guardRoom", "[I", true)
  | 5 => ("OneKey$Gaol", "rooms", "I", false)
  | 6 => ("OneKey$Gaol", "doors", "I", false)
  | 7 => ("OneKey$Gaol", "kitchen", "I", false)
  | 8 => ("OneKey$Gaol", "hungry", "I", false)
  | 9 => ("OneKey$Gaol", "turns", "I", false)
  | _ => ("OneKey$Gaol", "keyRoom", "I", false)
def tyX2 : Nat → FieldType := fun k => match k with
  | 0 => .array .int
  | 1 => .array .int
  | 2 => .array .int
  | 3 => .array .int
  | 4 => .array .int
  | 5 => .int
  | 6 => .int
  | 7 => .int
  | 8 => .int
  | 9 => .int
  | _ => .int
abbrev wsX20 : List Cond := u_ws RX2 TX2 11
theorem nmX2 : ∀ a, a < 11 → ∀ b, b < 11 → a ≠ b → (TX2 a).2.1 ≠ (TX2 b).2.1 := by decide +kernel
theorem tyX2_ok : ∀ k, k < 11 → parseFieldDescriptor (TX2 k).2.2.1 = some (tyX2 k) := by decide +kernel
abbrev cX2_init : ByteArray := prog_4_method_1_code
def yX2_init : MethodName := ⟨RX2, "<init>", "()V"⟩
abbrev cX2_begin : ByteArray := prog_4_method_2_code
def yX2_begin : MethodName := ⟨RX2, "begin", "(I)V"⟩
abbrev cX2_copyFrom : ByteArray := prog_4_method_3_code
def yX2_copyFrom : MethodName := ⟨RX2, "copyFrom", "(LOneKey$Gaol;)V"⟩
abbrev cX2_addDoor : ByteArray := prog_4_method_4_code
def yX2_addDoor : MethodName := ⟨RX2, "addDoor", "(IIII)V"⟩
abbrev cX2_hasRoom : ByteArray := prog_4_method_5_code
def yX2_hasRoom : MethodName := ⟨RX2, "hasRoom", "(I)Z"⟩
abbrev cX2_hasDoor : ByteArray := prog_4_method_6_code
def yX2_hasDoor : MethodName := ⟨RX2, "hasDoor", "(I)Z"⟩
abbrev cX2_isHungry : ByteArray := prog_4_method_7_code
def yX2_isHungry : MethodName := ⟨RX2, "isHungry", "(I)Z"⟩
abbrev cX2_behind : ByteArray := prog_4_method_8_code
def yX2_behind : MethodName := ⟨RX2, "behind", "(II)I"⟩
abbrev cX2_opens : ByteArray := prog_4_method_9_code
def yX2_opens : MethodName := ⟨RX2, "opens", "(IIIZ)Z"⟩
abbrev cX2_keyGoes : ByteArray := prog_4_method_10_code
def yX2_keyGoes : MethodName := ⟨RX2, "keyGoes", "(II)I"⟩
def RX3 : String := "OneKey$Night"
def TX3 : u_T := fun k => match k with
  | 0 => ("OneKey$Night", "gaol", "LOneKey$Gaol;", true)
  | 1 => ("OneKey$Night", "heardMinute", "[I", true)
  | 2 => ("OneKey$Night", "heardDoor", "[I", true)
  | 3 => ("OneKey$Night", "waysTo", "[[J", true)
  | 4 => ("OneKey$Night", "waysOn", "[[J", true)
  | _ => ("OneKey$Night", "heardCount", "I", false)
def tyX3 : Nat → FieldType := fun k => match k with
  | 0 => .object "OneKey$Gaol"
  | 1 => .array .int
  | 2 => .array .int
  | 3 => .array (.array .long)
  | 4 => .array (.array .long)
  | _ => .int
abbrev wsX30 : List Cond := u_ws RX3 TX3 6
theorem nmX3 : ∀ a, a < 6 → ∀ b, b < 6 → a ≠ b → (TX3 a).2.1 ≠ (TX3 b).2.1 := by decide +kernel
theorem tyX3_ok : ∀ k, k < 6 → parseFieldDescriptor (TX3 k).2.2.1 = some (tyX3 k) := by decide +kernel
abbrev cX3_init : ByteArray := prog_5_method_1_code
def yX3_init : MethodName := ⟨RX3, "<init>", "(LOneKey$Gaol;)V"⟩
abbrev cX3_hear : ByteArray := prog_5_method_2_code
def yX3_hear : MethodName := ⟨RX3, "hear", "(II)Z"⟩
abbrev cX3_unhear : ByteArray := prog_5_method_3_code
def yX3_unhear : MethodName := ⟨RX3, "unhear", "()I"⟩
abbrev cX3_ways : ByteArray := prog_5_method_4_code
def yX3_ways : MethodName := ⟨RX3, "ways", "(I)J"⟩
abbrev cX3_roomsBehind : ByteArray := prog_5_method_5_code
def yX3_roomsBehind : MethodName := ⟨RX3, "roomsBehind", "(I)I"⟩
abbrev cX3_bestMinute : ByteArray := prog_5_method_6_code
def yX3_bestMinute : MethodName := ⟨RX3, "bestMinute", "(I)I"⟩
abbrev cX3_mostWaysBehind : ByteArray := prog_5_method_7_code
def yX3_mostWaysBehind : MethodName := ⟨RX3, "mostWaysBehind", "(I)J"⟩
abbrev cX3_countWaysTo : ByteArray := prog_5_method_8_code
def yX3_countWaysTo : MethodName := ⟨RX3, "countWaysTo", "(I)V"⟩
abbrev cX3_countWaysOn : ByteArray := prog_5_method_9_code
def yX3_countWaysOn : MethodName := ⟨RX3, "countWaysOn", "(I)V"⟩
abbrev cX3_roomAfter : ByteArray := prog_5_method_10_code
def yX3_roomAfter : MethodName := ⟨RX3, "roomAfter", "(III)I"⟩
def RX4 : String := "OneKey$Odds"
def TX4 : u_T := fun k => match k with
  | _ => ("", "", "", false)
def tyX4 : Nat → FieldType := fun k => match k with
  | _ => .int
abbrev wsX40 : List Cond := u_ws RX4 TX4 0
theorem nmX4 : ∀ a, a < 0 → ∀ b, b < 0 → a ≠ b → (TX4 a).2.1 ≠ (TX4 b).2.1 := by decide +kernel
theorem tyX4_ok : ∀ k, k < 0 → parseFieldDescriptor (TX4 k).2.2.1 = some (tyX4 k) := by decide +kernel
abbrev cX4_tell : ByteArray := prog_6_method_2_code
def yX4_tell : MethodName := ⟨RX4, "tell", "(IIII)J"⟩
abbrev cX4_waysInTime : ByteArray := prog_6_method_3_code
def yX4_waysInTime : MethodName := ⟨RX4, "waysInTime", "(III)J"⟩
abbrev cX4_power : ByteArray := prog_6_method_4_code
def yX4_power : MethodName := ⟨RX4, "power", "(II)J"⟩
abbrev cX4_commonDivisor : ByteArray := prog_6_method_5_code
def yX4_commonDivisor : MethodName := ⟨RX4, "commonDivisor", "(JJ)J"⟩
def RX5 : String := "OneKey$Path"
def TX5 : u_T := fun k => match k with
  | 0 => ("OneKey$Path", "length", "I", true)
  | _ => ("OneKey$Path", "codes", "[I", true)
def tyX5 : Nat → FieldType := fun k => match k with
  | 0 => .int
  | _ => .array .int
abbrev wsX50 : List Cond := u_ws RX5 TX5 2
theorem nmX5 : ∀ a, a < 2 → ∀ b, b < 2 → a ≠ b → (TX5 a).2.1 ≠ (TX5 b).2.1 := by decide +kernel
theorem tyX5_ok : ∀ k, k < 2 → parseFieldDescriptor (TX5 k).2.2.1 = some (tyX5 k) := by decide +kernel
abbrev cX5_init : ByteArray := prog_7_method_1_code
def yX5_init : MethodName := ⟨RX5, "<init>", "(I[I)V"⟩
abbrev cX5_tell : ByteArray := prog_7_method_2_code
def yX5_tell : MethodName := ⟨RX5, "tell", "(I)I"⟩
def RX6 : String := "OneKey$Reader"
def TX6 : u_T := fun k => match k with
  | 0 => ("OneKey$Reader", "signs", "[I", true)
  | 1 => ("OneKey$Reader", "length", "I", false)
  | 2 => ("OneKey$Reader", "lines", "I", false)
  | 3 => ("OneKey$Reader", "start", "I", false)
  | _ => ("OneKey$Reader", "end", "I", false)
def tyX6 : Nat → FieldType := fun k => match k with
  | 0 => .array .int
  | 1 => .int
  | 2 => .int
  | 3 => .int
  | _ => .int
abbrev wsX60 : List Cond := u_ws RX6 TX6 5
theorem nmX6 : ∀ a, a < 5 → ∀ b, b < 5 → a ≠ b → (TX6 a).2.1 ≠ (TX6 b).2.1 := by decide +kernel
theorem tyX6_ok : ∀ k, k < 5 → parseFieldDescriptor (TX6 k).2.2.1 = some (tyX6 k) := by decide +kernel
abbrev cX6_init : ByteArray := prog_8_method_1_code
def yX6_init : MethodName := ⟨RX6, "<init>", "()V"⟩
abbrev cX6_add : ByteArray := prog_8_method_2_code
def yX6_add : MethodName := ⟨RX6, "add", "(JI)Z"⟩
abbrev cX6_empty : ByteArray := prog_8_method_3_code
def yX6_empty : MethodName := ⟨RX6, "empty", "()I"⟩
abbrev cX6_readInto : ByteArray := prog_8_method_4_code
def yX6_readInto : MethodName := ⟨RX6, "readInto", "(LOneKey$Gaol;)I"⟩
abbrev cX6_readLine : ByteArray := prog_8_method_5_code
def yX6_readLine : MethodName := ⟨RX6, "readLine", "(LOneKey$Gaol;I)Z"⟩
abbrev cX6_readGaol : ByteArray := prog_8_method_6_code
def yX6_readGaol : MethodName := ⟨RX6, "readGaol", "(LOneKey$Gaol;)Z"⟩
abbrev cX6_readHungry : ByteArray := prog_8_method_7_code
def yX6_readHungry : MethodName := ⟨RX6, "readHungry", "(LOneKey$Gaol;)Z"⟩
abbrev cX6_readGuard : ByteArray := prog_8_method_8_code
def yX6_readGuard : MethodName := ⟨RX6, "readGuard", "(LOneKey$Gaol;)Z"⟩
abbrev cX6_readDoor : ByteArray := prog_8_method_9_code
def yX6_readDoor : MethodName := ⟨RX6, "readDoor", "(LOneKey$Gaol;I)Z"⟩
abbrev cX6_nextToken : ByteArray := prog_8_method_10_code
def yX6_nextToken : MethodName := ⟨RX6, "nextToken", "()V"⟩
abbrev cX6_nextNumber : ByteArray := prog_8_method_11_code
def yX6_nextNumber : MethodName := ⟨RX6, "nextNumber", "(II)I"⟩
abbrev cX6_wordHere : ByteArray := prog_8_method_12_code
def yX6_wordHere : MethodName := ⟨RX6, "wordHere", "()I"⟩
abbrev cX6_isHere : ByteArray := prog_8_method_13_code
def yX6_isHere : MethodName := ⟨RX6, "isHere", "(Ljava/lang/String;)Z"⟩
abbrev cX6_wordOf : ByteArray := prog_8_method_14_code
def yX6_wordOf : MethodName := ⟨RX6, "wordOf", "(I)Ljava/lang/String;"⟩
abbrev cX6_isLetter : ByteArray := prog_8_method_15_code
def yX6_isLetter : MethodName := ⟨RX6, "isLetter", "(I)Z"⟩
abbrev cX6_isDigit : ByteArray := prog_8_method_16_code
def yX6_isDigit : MethodName := ⟨RX6, "isDigit", "(I)Z"⟩
def RX7 : String := "OneKey$Search"
def TX7 : u_T := fun k => match k with
  | 0 => ("OneKey$Search", "gaol", "LOneKey$Gaol;", true)
  | 1 => ("OneKey$Search", "acts", "LOneKey$Acts;", true)
  | 2 => ("OneKey$Search", "reached", "[J", true)
  | 3 => ("OneKey$Search", "seen", "[J", true)
  | 4 => ("OneKey$Search", "codes", "[I", true)
  | 5 => ("OneKey$Search", "doorsOf", "[[I", true)
  | 6 => ("OneKey$Search", "doorCount", "[I", true)
  | 7 => ("OneKey$Search", "reachedCount", "I", false)
  | _ => ("OneKey$Search", "codeCount", "I", false)
def tyX7 : Nat → FieldType := fun k => match k with
  | 0 => .object "OneKey$Gaol"
  | 1 => .object "OneKey$Acts"
  | 2 => .array .long
  | 3 => .array .long
  | 4 => .array .int
  | 5 => .array (.array .int)
  | 6 => .array .int
  | 7 => .int
  | _ => .int
abbrev wsX70 : List Cond := u_ws RX7 TX7 9
theorem nmX7 : ∀ a, a < 9 → ∀ b, b < 9 → a ≠ b → (TX7 a).2.1 ≠ (TX7 b).2.1 := by decide +kernel
theorem tyX7_ok : ∀ k, k < 9 → parseFieldDescriptor (TX7 k).2.2.1 = some (tyX7 k) := by decide +kernel
abbrev cX7_init : ByteArray := prog_9_method_1_code
def yX7_init : MethodName := ⟨RX7, "<init>", "(LOneKey$Gaol;LOneKey$Acts;)V"⟩
abbrev cX7_seek : ByteArray := prog_9_method_2_code
def yX7_seek : MethodName := ⟨RX7, "seek", "(II)LOneKey$Path;"⟩
abbrev cX7_sortDoors : ByteArray := prog_9_method_3_code
def yX7_sortDoors : MethodName := ⟨RX7, "sortDoors", "()V"⟩
abbrev cX7_fits : ByteArray := prog_9_method_4_code
def yX7_fits : MethodName := ⟨RX7, "fits", "(II)Z"⟩
abbrev cX7_spread : ByteArray := prog_9_method_5_code
def yX7_spread : MethodName := ⟨RX7, "spread", "(II)Z"⟩
abbrev cX7_listCodes : ByteArray := prog_9_method_6_code
def yX7_listCodes : MethodName := ⟨RX7, "listCodes", "(II)V"⟩
abbrev cX7_listDoors : ByteArray := prog_9_method_7_code
def yX7_listDoors : MethodName := ⟨RX7, "listDoors", "(II)V"⟩
abbrev cX7_listCode : ByteArray := prog_9_method_8_code
def yX7_listCode : MethodName := ⟨RX7, "listCode", "(I)V"⟩
abbrev cX7_reach : ByteArray := prog_9_method_9_code
def yX7_reach : MethodName := ⟨RX7, "reach", "(III)Z"⟩
abbrev cX7_standingAt : ByteArray := prog_9_method_10_code
def yX7_standingAt : MethodName := ⟨RX7, "standingAt", "(I)I"⟩
abbrev cX7_aheadOf : ByteArray := prog_9_method_11_code
def yX7_aheadOf : MethodName := ⟨RX7, "aheadOf", "(I)I"⟩
abbrev cX7_pathToLast : ByteArray := prog_9_method_12_code
def yX7_pathToLast : MethodName := ⟨RX7, "pathToLast", "()LOneKey$Path;"⟩
abbrev cX7_wipe : ByteArray := prog_9_method_13_code
def yX7_wipe : MethodName := ⟨RX7, "wipe", "()V"⟩
def RX8 : String := "OneKey$Standing"
def TX8 : u_T := fun k => match k with
  | _ => ("", "", "", false)
def tyX8 : Nat → FieldType := fun k => match k with
  | _ => .int
abbrev wsX80 : List Cond := u_ws RX8 TX8 0
theorem nmX8 : ∀ a, a < 0 → ∀ b, b < 0 → a ≠ b → (TX8 a).2.1 ≠ (TX8 b).2.1 := by decide +kernel
theorem tyX8_ok : ∀ k, k < 0 → parseFieldDescriptor (TX8 k).2.2.1 = some (tyX8 k) := by decide +kernel
abbrev cX8_atFirst : ByteArray := prog_10_method_2_code
def yX8_atFirst : MethodName := ⟨RX8, "atFirst", "(LOneKey$Gaol;)I"⟩
abbrev cX8_roomOf : ByteArray := prog_10_method_3_code
def yX8_roomOf : MethodName := ⟨RX8, "roomOf", "(II)I"⟩
abbrev cX8_hasOf : ByteArray := prog_10_method_4_code
def yX8_hasOf : MethodName := ⟨RX8, "hasOf", "(II)I"⟩
abbrev cX8_keyPlace : ByteArray := prog_10_method_5_code
def yX8_keyPlace : MethodName := ⟨RX8, "keyPlace", "(I)I"⟩
abbrev cX8_hungry : ByteArray := prog_10_method_6_code
def yX8_hungry : MethodName := ⟨RX8, "hungry", "(I)I"⟩
abbrev cX8_hungryIn : ByteArray := prog_10_method_7_code
def yX8_hungryIn : MethodName := ⟨RX8, "hungryIn", "(II)Z"⟩
abbrev cX8_turns : ByteArray := prog_10_method_8_code
def yX8_turns : MethodName := ⟨RX8, "turns", "(I)I"⟩
abbrev cX8_withRoom : ByteArray := prog_10_method_9_code
def yX8_withRoom : MethodName := ⟨RX8, "withRoom", "(III)I"⟩
abbrev cX8_withLoaf : ByteArray := prog_10_method_10_code
def yX8_withLoaf : MethodName := ⟨RX8, "withLoaf", "(II)I"⟩
abbrev cX8_withoutLoaf : ByteArray := prog_10_method_11_code
def yX8_withoutLoaf : MethodName := ⟨RX8, "withoutLoaf", "(II)I"⟩
abbrev cX8_withKeyAt : ByteArray := prog_10_method_12_code
def yX8_withKeyAt : MethodName := ⟨RX8, "withKeyAt", "(II)I"⟩
abbrev cX8_withFed : ByteArray := prog_10_method_13_code
def yX8_withFed : MethodName := ⟨RX8, "withFed", "(II)I"⟩
abbrev cX8_withTurns : ByteArray := prog_10_method_14_code
def yX8_withTurns : MethodName := ⟨RX8, "withTurns", "(II)I"⟩
def RX9 : String := "OneKey"
def TX9 : u_T := fun k => match k with
  | 0 => ("OneKey", "text", "LOneKey$Reader;", true)
  | 1 => ("OneKey", "told", "LOneKey$Gaol;", true)
  | 2 => ("OneKey", "draft", "LOneKey$Gaol;", true)
  | 3 => ("OneKey", "acts", "LOneKey$Acts;", true)
  | 4 => ("OneKey", "foretold", "LOneKey$Foretold;", true)
  | 5 => ("OneKey", "dark", "LOneKey$Night;", true)
  | 6 => ("OneKey", "rowCodes", "[I", true)
  | 7 => ("OneKey", "keptStanding", "[I", true)
  | 8 => ("OneKey", "keptMinutes", "[I", true)
  | 9 => ("OneKey", "rowLength", "I", false)
  | 10 => ("OneKey", "standing", "I", false)
  | _ => ("OneKey", "minutes", "I", false)
def tyX9 : Nat → FieldType := fun k => match k with
  | 0 => .object "OneKey$Reader"
  | 1 => .object "OneKey$Gaol"
  | 2 => .object "OneKey$Gaol"
  | 3 => .object "OneKey$Acts"
  | 4 => .object "OneKey$Foretold"
  | 5 => .object "OneKey$Night"
  | 6 => .array .int
  | 7 => .array .int
  | 8 => .array .int
  | 9 => .int
  | 10 => .int
  | _ => .int
abbrev wsX90 : List Cond := u_ws RX9 TX9 12
theorem nmX9 : ∀ a, a < 12 → ∀ b, b < 12 → a ≠ b → (TX9 a).2.1 ≠ (TX9 b).2.1 := by decide +kernel
theorem tyX9_ok : ∀ k, k < 12 → parseFieldDescriptor (TX9 k).2.2.1 = some (tyX9 k) := by decide +kernel
abbrev cX9_init : ByteArray := prog_1_method_1_code
def yX9_init : MethodName := ⟨RX9, "<init>", "()V"⟩
abbrev cX9_write : ByteArray := prog_1_method_2_code
def yX9_write : MethodName := ⟨RX9, "write", "(JI)I"⟩
abbrev cX9_erase : ByteArray := prog_1_method_3_code
def yX9_erase : MethodName := ⟨RX9, "erase", "()I"⟩
abbrev cX9_fault : ByteArray := prog_1_method_4_code
def yX9_fault : MethodName := ⟨RX9, "fault", "()I"⟩
abbrev cX9_gaol : ByteArray := prog_1_method_5_code
def yX9_gaol : MethodName := ⟨RX9, "gaol", "()I"⟩
abbrev cX9_room : ByteArray := prog_1_method_6_code
def yX9_room : MethodName := ⟨RX9, "room", "(II)I"⟩
abbrev cX9_door : ByteArray := prog_1_method_7_code
def yX9_door : MethodName := ⟨RX9, "door", "(II)I"⟩
abbrev cX9_as : ByteArray := prog_1_method_8_code
def yX9_as : MethodName := ⟨RX9, "as", "(II)I"⟩
abbrev cX9_act : ByteArray := prog_1_method_9_code
def yX9_act : MethodName := ⟨RX9, "act", "(I)I"⟩
abbrev cX9_guard : ByteArray := prog_1_method_10_code
def yX9_guard : MethodName := ⟨RX9, "guard", "(II)I"⟩
abbrev cX9_fewest : ByteArray := prog_1_method_11_code
def yX9_fewest : MethodName := ⟨RX9, "fewest", "(I)I"⟩
abbrev cX9_by : ByteArray := prog_1_method_12_code
def yX9_by : MethodName := ⟨RX9, "by", "(I)I"⟩
abbrev cX9_worth : ByteArray := prog_1_method_13_code
def yX9_worth : MethodName := ⟨RX9, "worth", "(I)I"⟩
abbrev cX9_out : ByteArray := prog_1_method_14_code
def yX9_out : MethodName := ⟨RX9, "out", "(I)I"⟩
abbrev cX9_odds : ByteArray := prog_1_method_15_code
def yX9_odds : MethodName := ⟨RX9, "odds", "(III)J"⟩
abbrev cX9_row : ByteArray := prog_1_method_16_code
def yX9_row : MethodName := ⟨RX9, "row", "(I)I"⟩
abbrev cX9_burn : ByteArray := prog_1_method_17_code
def yX9_burn : MethodName := ⟨RX9, "burn", "()I"⟩
abbrev cX9_judge : ByteArray := prog_1_method_18_code
def yX9_judge : MethodName := ⟨RX9, "judge", "()I"⟩
abbrev cX9_heard : ByteArray := prog_1_method_19_code
def yX9_heard : MethodName := ⟨RX9, "heard", "(II)I"⟩
abbrev cX9_forget : ByteArray := prog_1_method_20_code
def yX9_forget : MethodName := ⟨RX9, "forget", "()I"⟩
abbrev cX9_night : ByteArray := prog_1_method_21_code
def yX9_night : MethodName := ⟨RX9, "night", "(II)J"⟩
abbrev cX9_ask : ByteArray := prog_1_method_22_code
def yX9_ask : MethodName := ⟨RX9, "ask", "(I)I"⟩
abbrev cX9_keep : ByteArray := prog_1_method_23_code
def yX9_keep : MethodName := ⟨RX9, "keep", "(I)I"⟩
abbrev cX9_back : ByteArray := prog_1_method_24_code
def yX9_back : MethodName := ⟨RX9, "back", "(I)I"⟩
abbrev cX9_count : ByteArray := prog_1_method_25_code
def yX9_count : MethodName := ⟨RX9, "count", "(I)I"⟩
abbrev cX9_beginAsTold : ByteArray := prog_1_method_26_code
def yX9_beginAsTold : MethodName := ⟨RX9, "beginAsTold", "()V"⟩
abbrev cX9_standAt : ByteArray := prog_1_method_27_code
def yX9_standAt : MethodName := ⟨RX9, "standAt", "(II)V"⟩
abbrev cX9_guardsIn : ByteArray := prog_1_method_28_code
def yX9_guardsIn : MethodName := ⟨RX9, "guardsIn", "(I)I"⟩
abbrev cX9_codesOf : ByteArray := prog_1_method_29_code
def yX9_codesOf : MethodName := ⟨RX9, "codesOf", "(I)I"⟩
abbrev cX9_stickingIn : ByteArray := prog_1_method_30_code
def yX9_stickingIn : MethodName := ⟨RX9, "stickingIn", "(LOneKey$Path;)I"⟩
abbrev cX9_isCode : ByteArray := prog_1_method_31_code
def yX9_isCode : MethodName := ⟨RX9, "isCode", "(I)Z"⟩
abbrev cX9_isNight : ByteArray := prog_1_method_32_code
def yX9_isNight : MethodName := ⟨RX9, "isNight", "(I)Z"⟩
abbrev cX9_isUnder : ByteArray := prog_1_method_33_code
def yX9_isUnder : MethodName := ⟨RX9, "isUnder", "(II)Z"⟩
def RX10 : String := "OneKeyModel"
def TX10 : u_T := fun k => match k with
  | 0 => ("OneKeyModel", "row", "[I", true)
  | 1 => ("OneKeyModel", "isKept", "[Z", true)
  | 2 => ("OneKeyModel", "text", "[I", true)
  | 3 => ("OneKeyModel", "length", "I", false)
  | 4 => ("OneKeyModel", "read", "[I", true)
  | 5 => ("OneKeyModel", "readMany", "I", false)
  | 6 => ("OneKeyModel", "rooms", "I", false)
  | 7 => ("OneKeyModel", "doors", "[I", true)
  | 8 => ("OneKeyModel", "doorMany", "I", false)
  | 9 => ("OneKeyModel", "kitchen", "I", false)
  | 10 => ("OneKeyModel", "told", "I", false)
  | 11 => ("OneKeyModel", "soap", "I", false)
  | 12 => ("OneKeyModel", "keyRoom", "I", false)
  | 13 => ("OneKeyModel", "guards", "[I", true)
  | 14 => ("OneKeyModel", "at", "I", false)
  | 15 => ("OneKeyModel", "place", "I", false)
  | 16 => ("OneKeyModel", "end", "I", false)
  | 17 => ("OneKeyModel", "readRooms", "I", false)
  | 18 => ("OneKeyModel", "readDoors", "I", false)
  | 19 => ("OneKeyModel", "readHungry", "I", false)
  | 20 => ("OneKeyModel", "depths", "[I", true)
  | 21 => ("OneKeyModel", "waiting", "[I", true)
  | 22 => ("OneKeyModel", "isGood", "[Z", true)
  | 23 => ("OneKeyModel", "waitingMany", "I", false)
  | 24 => ("OneKeyModel", "acts", "[I", true)
  | 25 => ("OneKeyModel", "codes", "[I", true)
  | 26 => ("OneKeyModel", "rowMany", "I", false)
  | 27 => ("OneKeyModel", "heards", "[I", true)
  | 28 => ("OneKeyModel", "heardMany", "I", false)
  | 29 => ("OneKeyModel", "ahead", "[J", true)
  | _ => ("OneKeyModel", "from", "[J", true)
def tyX10 : Nat → FieldType := fun k => match k with
  | 0 => .array .int
  | 1 => .array .boolean
  | 2 => .array .int
  | 3 => .int
  | 4 => .array .int
  | 5 => .int
  | 6 => .int
  | 7 => .array .int
  | 8 => .int
  | 9 => .int
  | 10 => .int
  | 11 => .int
  | 12 => .int
  | 13 => .array .int
  | 14 => .int
  | 15 => .int
  | 16 => .int
  | 17 => .int
  | 18 => .int
  | 19 => .int
  | 20 => .array .int
  | 21 => .array .int
  | 22 => .array .boolean
  | 23 => .int
  | 24 => .array .int
  | 25 => .array .int
  | 26 => .int
  | 27 => .array .int
  | 28 => .int
  | 29 => .array .long
  | _ => .array .long
abbrev wsX100 : List Cond := u_ws RX10 TX10 31
theorem nmX10 : ∀ a, a < 31 → ∀ b, b < 31 → a ≠ b → (TX10 a).2.1 ≠ (TX10 b).2.1 := by decide +kernel
theorem tyX10_ok : ∀ k, k < 31 → parseFieldDescriptor (TX10 k).2.2.1 = some (tyX10 k) := by decide +kernel
abbrev cX10_init : ByteArray := prog_12_method_1_code
def yX10_init : MethodName := ⟨RX10, "<init>", "()V"⟩
abbrev cX10_in : ByteArray := prog_12_method_2_code
def yX10_in : MethodName := ⟨RX10, "in", "(JJJ)Z"⟩
abbrev cX10_has : ByteArray := prog_12_method_3_code
def yX10_has : MethodName := ⟨RX10, "has", "(II)Z"⟩
abbrev cX10_bits : ByteArray := prog_12_method_4_code
def yX10_bits : MethodName := ⟨RX10, "bits", "(I)I"⟩
abbrev cX10_begin : ByteArray := prog_12_method_5_code
def yX10_begin : MethodName := ⟨RX10, "begin", "()V"⟩
abbrev cX10_write : ByteArray := prog_12_method_6_code
def yX10_write : MethodName := ⟨RX10, "write", "(JI)I"⟩
abbrev cX10_erase : ByteArray := prog_12_method_7_code
def yX10_erase : MethodName := ⟨RX10, "erase", "()I"⟩
abbrev cX10_sort : ByteArray := prog_12_method_8_code
def yX10_sort : MethodName := ⟨RX10, "sort", "(I)I"⟩
abbrev cX10_token : ByteArray := prog_12_method_9_code
def yX10_token : MethodName := ⟨RX10, "token", "()V"⟩
abbrev cX10_isWord : ByteArray := prog_12_method_10_code
def yX10_isWord : MethodName := ⟨RX10, "isWord", "(JI)Z"⟩
abbrev cX10_doorWord : ByteArray := prog_12_method_11_code
def yX10_doorWord : MethodName := ⟨RX10, "doorWord", "()I"⟩
abbrev cX10_wordOf : ByteArray := prog_12_method_12_code
def yX10_wordOf : MethodName := ⟨RX10, "wordOf", "()I"⟩
abbrev cX10_reads : ByteArray := prog_12_method_13_code
def yX10_reads : MethodName := ⟨RX10, "reads", "(IIII)Z"⟩
abbrev cX10_readsHungry : ByteArray := prog_12_method_14_code
def yX10_readsHungry : MethodName := ⟨RX10, "readsHungry", "()Z"⟩
abbrev cX10_readsRest : ByteArray := prog_12_method_15_code
def yX10_readsRest : MethodName := ⟨RX10, "readsRest", "(I)Z"⟩
abbrev cX10_isDoorLine : ByteArray := prog_12_method_16_code
def yX10_isDoorLine : MethodName := ⟨RX10, "isDoorLine", "(I)Z"⟩
abbrev cX10_readsLine : ByteArray := prog_12_method_17_code
def yX10_readsLine : MethodName := ⟨RX10, "readsLine", "()Z"⟩
abbrev cX10_fault : ByteArray := prog_12_method_18_code
def yX10_fault : MethodName := ⟨RX10, "fault", "()I"⟩
abbrev cX10_clear : ByteArray := prog_12_method_19_code
def yX10_clear : MethodName := ⟨RX10, "clear", "(I)V"⟩
abbrev cX10_tellDoor : ByteArray := prog_12_method_20_code
def yX10_tellDoor : MethodName := ⟨RX10, "tellDoor", "(I)V"⟩
abbrev cX10_tell : ByteArray := prog_12_method_21_code
def yX10_tell : MethodName := ⟨RX10, "tell", "(I)V"⟩
abbrev cX10_gaol : ByteArray := prog_12_method_22_code
def yX10_gaol : MethodName := ⟨RX10, "gaol", "()I"⟩
abbrev cX10_isRoom : ByteArray := prog_12_method_23_code
def yX10_isRoom : MethodName := ⟨RX10, "isRoom", "(I)Z"⟩
abbrev cX10_isDoor : ByteArray := prog_12_method_24_code
def yX10_isDoor : MethodName := ⟨RX10, "isDoor", "(I)Z"⟩
abbrev cX10_isGuard : ByteArray := prog_12_method_25_code
def yX10_isGuard : MethodName := ⟨RX10, "isGuard", "(I)Z"⟩
abbrev cX10_room : ByteArray := prog_12_method_26_code
def yX10_room : MethodName := ⟨RX10, "room", "(II)I"⟩
abbrev cX10_door : ByteArray := prog_12_method_27_code
def yX10_door : MethodName := ⟨RX10, "door", "(II)I"⟩
abbrev cX10_as : ByteArray := prog_12_method_28_code
def yX10_as : MethodName := ⟨RX10, "as", "(II)I"⟩
abbrev cX10_copy : ByteArray := prog_12_method_29_code
def yX10_copy : MethodName := ⟨RX10, "copy", "(II)V"⟩
abbrev cX10_behind : ByteArray := prog_12_method_30_code
def yX10_behind : MethodName := ⟨RX10, "behind", "(II)I"⟩
abbrev cX10_opens : ByteArray := prog_12_method_31_code
def yX10_opens : MethodName := ⟨RX10, "opens", "(IIIZ)Z"⟩
abbrev cX10_hands : ByteArray := prog_12_method_32_code
def yX10_hands : MethodName := ⟨RX10, "hands", "(III)Z"⟩
abbrev cX10_goes : ByteArray := prog_12_method_33_code
def yX10_goes : MethodName := ⟨RX10, "goes", "(IIII)Z"⟩
abbrev cX10_stays : ByteArray := prog_12_method_34_code
def yX10_stays : MethodName := ⟨RX10, "stays", "(III)Z"⟩
abbrev cX10_does : ByteArray := prog_12_method_35_code
def yX10_does : MethodName := ⟨RX10, "does", "(II)Z"⟩
abbrev cX10_isCode : ByteArray := prog_12_method_36_code
def yX10_isCode : MethodName := ⟨RX10, "isCode", "(I)Z"⟩
abbrev cX10_act : ByteArray := prog_12_method_37_code
def yX10_act : MethodName := ⟨RX10, "act", "(I)I"⟩
abbrev cX10_guard : ByteArray := prog_12_method_38_code
def yX10_guard : MethodName := ⟨RX10, "guard", "(II)I"⟩
abbrev cX10_hungryCode : ByteArray := prog_12_method_39_code
def yX10_hungryCode : MethodName := ⟨RX10, "hungryCode", "(I)I"⟩
abbrev cX10_hungryOf : ByteArray := prog_12_method_40_code
def yX10_hungryOf : MethodName := ⟨RX10, "hungryOf", "(I)I"⟩
abbrev cX10_numberOf : ByteArray := prog_12_method_41_code
def yX10_numberOf : MethodName := ⟨RX10, "numberOf", "(I)I"⟩
abbrev cX10_layStanding : ByteArray := prog_12_method_42_code
def yX10_layStanding : MethodName := ⟨RX10, "layStanding", "(II)V"⟩
abbrev cX10_isEnd : ByteArray := prog_12_method_43_code
def yX10_isEnd : MethodName := ⟨RX10, "isEnd", "(Z)Z"⟩
abbrev cX10_may : ByteArray := prog_12_method_44_code
def yX10_may : MethodName := ⟨RX10, "may", "(I)Z"⟩
abbrev cX10_tries : ByteArray := prog_12_method_45_code
def yX10_tries : MethodName := ⟨RX10, "tries", "(I)Z"⟩
abbrev cX10_open : ByteArray := prog_12_method_46_code
def yX10_open : MethodName := ⟨RX10, "open", "(I)V"⟩
abbrev cX10_search : ByteArray := prog_12_method_47_code
def yX10_search : MethodName := ⟨RX10, "search", "(Z)I"⟩
abbrev cX10_goodFrom : ByteArray := prog_12_method_48_code
def yX10_goodFrom : MethodName := ⟨RX10, "goodFrom", "(I)I"⟩
abbrev cX10_layActs : ByteArray := prog_12_method_49_code
def yX10_layActs : MethodName := ⟨RX10, "layActs", "(IZ)V"⟩
abbrev cX10_toldActs : ByteArray := prog_12_method_50_code
def yX10_toldActs : MethodName := ⟨RX10, "toldActs", "(IZ)I"⟩
abbrev cX10_fewest : ByteArray := prog_12_method_51_code
def yX10_fewest : MethodName := ⟨RX10, "fewest", "(I)I"⟩
abbrev cX10_by : ByteArray := prog_12_method_52_code
def yX10_by : MethodName := ⟨RX10, "by", "(I)I"⟩
abbrev cX10_worth : ByteArray := prog_12_method_53_code
def yX10_worth : MethodName := ⟨RX10, "worth", "(I)I"⟩
abbrev cX10_out : ByteArray := prog_12_method_54_code
def yX10_out : MethodName := ⟨RX10, "out", "(I)I"⟩
abbrev cX10_divisor : ByteArray := prog_12_method_55_code
def yX10_divisor : MethodName := ⟨RX10, "divisor", "(JJ)J"⟩
abbrev cX10_power : ByteArray := prog_12_method_56_code
def yX10_power : MethodName := ⟨RX10, "power", "(JI)J"⟩
abbrev cX10_stuck : ByteArray := prog_12_method_57_code
def yX10_stuck : MethodName := ⟨RX10, "stuck", "()I"⟩
abbrev cX10_odds : ByteArray := prog_12_method_58_code
def yX10_odds : MethodName := ⟨RX10, "odds", "(III)J"⟩
abbrev cX10_row : ByteArray := prog_12_method_59_code
def yX10_row : MethodName := ⟨RX10, "row", "(I)I"⟩
abbrev cX10_burn : ByteArray := prog_12_method_60_code
def yX10_burn : MethodName := ⟨RX10, "burn", "()I"⟩
abbrev cX10_judge : ByteArray := prog_12_method_61_code
def yX10_judge : MethodName := ⟨RX10, "judge", "()I"⟩
abbrev cX10_heard : ByteArray := prog_12_method_62_code
def yX10_heard : MethodName := ⟨RX10, "heard", "(II)I"⟩
abbrev cX10_forget : ByteArray := prog_12_method_63_code
def yX10_forget : MethodName := ⟨RX10, "forget", "()I"⟩
abbrev cX10_fits : ByteArray := prog_12_method_64_code
def yX10_fits : MethodName := ⟨RX10, "fits", "(II)Z"⟩
abbrev cX10_leads : ByteArray := prog_12_method_65_code
def yX10_leads : MethodName := ⟨RX10, "leads", "(III)J"⟩
abbrev cX10_layNight : ByteArray := prog_12_method_66_code
def yX10_layNight : MethodName := ⟨RX10, "layNight", "(I)V"⟩
abbrev cX10_isNight : ByteArray := prog_12_method_67_code
def yX10_isNight : MethodName := ⟨RX10, "isNight", "(I)Z"⟩
abbrev cX10_night : ByteArray := prog_12_method_68_code
def yX10_night : MethodName := ⟨RX10, "night", "(II)J"⟩
abbrev cX10_ask : ByteArray := prog_12_method_69_code
def yX10_ask : MethodName := ⟨RX10, "ask", "(I)I"⟩
abbrev cX10_keep : ByteArray := prog_12_method_70_code
def yX10_keep : MethodName := ⟨RX10, "keep", "(I)I"⟩
abbrev cX10_back : ByteArray := prog_12_method_71_code
def yX10_back : MethodName := ⟨RX10, "back", "(I)I"⟩
abbrev cX10_count : ByteArray := prog_12_method_72_code
def yX10_count : MethodName := ⟨RX10, "count", "(I)I"⟩
def RJx145de : String := "java/io/Serializable"
def TJx145de : u_T := fun k => match k with
  | _ => ("", "", "", false)
def tyJx145de : Nat → FieldType := fun k => match k with
  | _ => .int
abbrev wsJx145de0 : List Cond := u_ws RJx145de TJx145de 0
theorem nmJx145de : ∀ a, a < 0 → ∀ b, b < 0 → a ≠ b → (TJx145de a).2.1 ≠ (TJx145de b).2.1 := by decide +kernel
theorem tyJx145de_ok : ∀ k, k < 0 → parseFieldDescriptor (TJx145de k).2.2.1 = some (tyJx145de k) := by decide +kernel
def RJx9f9b0 : String := "java/lang/CharSequence"
def TJx9f9b0 : u_T := fun k => match k with
  | _ => ("", "", "", false)
def tyJx9f9b0 : Nat → FieldType := fun k => match k with
  | _ => .int
abbrev wsJx9f9b00 : List Cond := u_ws RJx9f9b0 TJx9f9b0 0
theorem nmJx9f9b0 : ∀ a, a < 0 → ∀ b, b < 0 → a ≠ b → (TJx9f9b0 a).2.1 ≠ (TJx9f9b0 b).2.1 := by decide +kernel
theorem tyJx9f9b0_ok : ∀ k, k < 0 → parseFieldDescriptor (TJx9f9b0 k).2.2.1 = some (tyJx9f9b0 k) := by decide +kernel
def RJxb160c : String := "java/lang/Comparable"
def TJxb160c : u_T := fun k => match k with
  | _ => ("", "", "", false)
def tyJxb160c : Nat → FieldType := fun k => match k with
  | _ => .int
abbrev wsJxb160c0 : List Cond := u_ws RJxb160c TJxb160c 0
theorem nmJxb160c : ∀ a, a < 0 → ∀ b, b < 0 → a ≠ b → (TJxb160c a).2.1 ≠ (TJxb160c b).2.1 := by decide +kernel
theorem tyJxb160c_ok : ∀ k, k < 0 → parseFieldDescriptor (TJxb160c k).2.2.1 = some (tyJxb160c k) := by decide +kernel
def RJ6 : String := "java/lang/Integer"
def TJ6 : u_T := fun k => match k with
  | _ => ("", "", "", false)
def tyJ6 : Nat → FieldType := fun k => match k with
  | _ => .int
abbrev wsJ60 : List Cond := u_ws RJ6 TJ6 0
theorem nmJ6 : ∀ a, a < 0 → ∀ b, b < 0 → a ≠ b → (TJ6 a).2.1 ≠ (TJ6 b).2.1 := by decide +kernel
theorem tyJ6_ok : ∀ k, k < 0 → parseFieldDescriptor (TJ6 k).2.2.1 = some (tyJ6 k) := by decide +kernel
abbrev cJ6_bitCount_0f7a4 : ByteArray := prog_13_method_49_code
def yJ6_bitCount_0f7a4 : MethodName := ⟨RJ6, "bitCount", "(I)I"⟩
def RJ9 : String := "java/lang/Math"
def TJ9 : u_T := fun k => match k with
  | _ => ("", "", "", false)
def tyJ9 : Nat → FieldType := fun k => match k with
  | _ => .int
abbrev wsJ90 : List Cond := u_ws RJ9 TJ9 0
theorem nmJ9 : ∀ a, a < 0 → ∀ b, b < 0 → a ≠ b → (TJ9 a).2.1 ≠ (TJ9 b).2.1 := by decide +kernel
theorem tyJ9_ok : ∀ k, k < 0 → parseFieldDescriptor (TJ9 k).2.2.1 = some (tyJ9 k) := by decide +kernel
abbrev cJ9_max_f86c9 : ByteArray := prog_14_method_66_code
def yJ9_max_f86c9 : MethodName := ⟨RJ9, "max", "(JJ)J"⟩
def RJ0 : String := "java/lang/String"
def TJ0 : u_T := fun k => match k with
  | _ => ("", "", "", false)
def tyJ0 : Nat → FieldType := fun k => match k with
  | _ => .int
abbrev wsJ00 : List Cond := u_ws RJ0 TJ0 0
theorem nmJ0 : ∀ a, a < 0 → ∀ b, b < 0 → a ≠ b → (TJ0 a).2.1 ≠ (TJ0 b).2.1 := by decide +kernel
theorem tyJ0_ok : ∀ k, k < 0 → parseFieldDescriptor (TJ0 k).2.2.1 = some (tyJ0 k) := by decide +kernel
abbrev cJ0_length_8abf5 : ByteArray := prog_15_method_54_code
def yJ0_length_8abf5 : MethodName := ⟨RJ0, "length", "()I"⟩
abbrev cJ0_charAt_5068e : ByteArray := prog_15_method_56_code
def yJ0_charAt_5068e : MethodName := ⟨RJ0, "charAt", "(I)C"⟩
abbrev cJ0_coder_7d493 : ByteArray := prog_15_method_152_code
def yJ0_coder_7d493 : MethodName := ⟨RJ0, "coder", "()B"⟩
abbrev cJ0_isLatin1_aae02 : ByteArray := prog_15_method_154_code
def yJ0_isLatin1_aae02 : MethodName := ⟨RJ0, "isLatin1", "()Z"⟩
abbrev cJ0_checkIndex_df160 : ByteArray := prog_15_method_155_code
def yJ0_checkIndex_df160 : MethodName := ⟨RJ0, "checkIndex", "(II)V"⟩
def RJ1 : String := "java/lang/StringLatin1"
def TJ1 : u_T := fun k => match k with
  | _ => ("", "", "", false)
def tyJ1 : Nat → FieldType := fun k => match k with
  | _ => .int
abbrev wsJ10 : List Cond := u_ws RJ1 TJ1 0
theorem nmJ1 : ∀ a, a < 0 → ∀ b, b < 0 → a ≠ b → (TJ1 a).2.1 ≠ (TJ1 b).2.1 := by decide +kernel
theorem tyJ1_ok : ∀ k, k < 0 → parseFieldDescriptor (TJ1 k).2.2.1 = some (tyJ1 k) := by decide +kernel
abbrev cJ1_charAt_3b067 : ByteArray := prog_16_method_2_code
def yJ1_charAt_3b067 : MethodName := ⟨RJ1, "charAt", "([BI)C"⟩
def RJ2 : String := "java/lang/StringUTF16"
def TJ2 : u_T := fun k => match k with
  | _ => ("", "", "", false)
def tyJ2 : Nat → FieldType := fun k => match k with
  | _ => .int
abbrev wsJ20 : List Cond := u_ws RJ2 TJ2 0
theorem nmJ2 : ∀ a, a < 0 → ∀ b, b < 0 → a ≠ b → (TJ2 a).2.1 ≠ (TJ2 b).2.1 := by decide +kernel
theorem tyJ2_ok : ∀ k, k < 0 → parseFieldDescriptor (TJ2 k).2.2.1 = some (tyJ2 k) := by decide +kernel
abbrev cJ2_getChar_3b067 : ByteArray := prog_17_method_5_code
def yJ2_getChar_3b067 : MethodName := ⟨RJ2, "getChar", "([BI)C"⟩
abbrev cJ2_length_9d52b : ByteArray := prog_17_method_6_code
def yJ2_length_9d52b : MethodName := ⟨RJ2, "length", "([B)I"⟩
abbrev cJ2_charAt_3b067 : ByteArray := prog_17_method_83_code
def yJ2_charAt_3b067 : MethodName := ⟨RJ2, "charAt", "([BI)C"⟩
abbrev cJ2_checkIndex_2214a : ByteArray := prog_17_method_91_code
def yJ2_checkIndex_2214a : MethodName := ⟨RJ2, "checkIndex", "(I[B)V"⟩
def RJ10 : String := "java/lang/System"
def TJ10 : u_T := fun k => match k with
  | _ => ("", "", "", false)
def tyJ10 : Nat → FieldType := fun k => match k with
  | _ => .int
abbrev wsJ100 : List Cond := u_ws RJ10 TJ10 0
theorem nmJ10 : ∀ a, a < 0 → ∀ b, b < 0 → a ≠ b → (TJ10 a).2.1 ≠ (TJ10 b).2.1 := by decide +kernel
theorem tyJ10_ok : ∀ k, k < 0 → parseFieldDescriptor (TJ10 k).2.2.1 = some (tyJ10 k) := by decide +kernel
def RJxfd54e : String := "java/lang/constant/Constable"
def TJxfd54e : u_T := fun k => match k with
  | _ => ("", "", "", false)
def tyJxfd54e : Nat → FieldType := fun k => match k with
  | _ => .int
abbrev wsJxfd54e0 : List Cond := u_ws RJxfd54e TJxfd54e 0
theorem nmJxfd54e : ∀ a, a < 0 → ∀ b, b < 0 → a ≠ b → (TJxfd54e a).2.1 ≠ (TJxfd54e b).2.1 := by decide +kernel
theorem tyJxfd54e_ok : ∀ k, k < 0 → parseFieldDescriptor (TJxfd54e k).2.2.1 = some (tyJxfd54e k) := by decide +kernel
def RJx3cf43 : String := "java/lang/constant/ConstantDesc"
def TJx3cf43 : u_T := fun k => match k with
  | _ => ("", "", "", false)
def tyJx3cf43 : Nat → FieldType := fun k => match k with
  | _ => .int
abbrev wsJx3cf430 : List Cond := u_ws RJx3cf43 TJx3cf43 0
theorem nmJx3cf43 : ∀ a, a < 0 → ∀ b, b < 0 → a ≠ b → (TJx3cf43 a).2.1 ≠ (TJx3cf43 b).2.1 := by decide +kernel
theorem tyJx3cf43_ok : ∀ k, k < 0 → parseFieldDescriptor (TJx3cf43 k).2.2.1 = some (tyJx3cf43 k) := by decide +kernel
def RJ7 : String := "java/util/Arrays"
def TJ7 : u_T := fun k => match k with
  | _ => ("", "", "", false)
def tyJ7 : Nat → FieldType := fun k => match k with
  | _ => .int
abbrev wsJ70 : List Cond := u_ws RJ7 TJ7 0
theorem nmJ7 : ∀ a, a < 0 → ∀ b, b < 0 → a ≠ b → (TJ7 a).2.1 ≠ (TJ7 b).2.1 := by decide +kernel
theorem tyJ7_ok : ∀ k, k < 0 → parseFieldDescriptor (TJ7 k).2.2.1 = some (tyJ7 k) := by decide +kernel
abbrev cJ7_fill_d0a16 : ByteArray := prog_19_method_101_code
def yJ7_fill_d0a16 : MethodName := ⟨RJ7, "fill", "([JJ)V"⟩
abbrev cJ7_fill_53178 : ByteArray := prog_19_method_103_code
def yJ7_fill_53178 : MethodName := ⟨RJ7, "fill", "([II)V"⟩
def RJ3 : String := "jdk/internal/util/Preconditions"
def TJ3 : u_T := fun k => match k with
  | _ => ("", "", "", false)
def tyJ3 : Nat → FieldType := fun k => match k with
  | _ => .int
abbrev wsJ30 : List Cond := u_ws RJ3 TJ3 0
theorem nmJ3 : ∀ a, a < 0 → ∀ b, b < 0 → a ≠ b → (TJ3 a).2.1 ≠ (TJ3 b).2.1 := by decide +kernel
theorem tyJ3_ok : ∀ k, k < 0 → parseFieldDescriptor (TJ3 k).2.2.1 = some (tyJ3 k) := by decide +kernel
abbrev cJ3_checkIndex_8e157 : ByteArray := prog_20_method_11_code
def yJ3_checkIndex_8e157 : MethodName := ⟨RJ3, "checkIndex", "(IILjava/util/function/BiFunction;)I"⟩
def RL : String := "OneKeyLaw"
abbrev cL_law : ByteArray := code
def yL_law : MethodName := ⟨RL, "law", "([I)Z"⟩
abbrev vwCl : List vw_C := [(RX0, TX0, 1), (RX1, TX1, 7), (RX2, TX2, 11), (RX3, TX3, 6), (RX5, TX5, 2), (RX6, TX6, 5), (RX7, TX7, 9), (RX9, TX9, 12), (RX10, TX10, 31)]
