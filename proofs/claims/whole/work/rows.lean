section
-- ===== PART A: goes FIRST, ahead of the names: the tables' words, and 'selects' of the private methods out of them =====
/-- a private method of a class that the tables say can be made, by its rows of tables_1 -/
def lw_okq (q : MethodName × Nat) : Prop := (q.1.cls ≠ "java/lang/invoke/MethodHandle" ∧ q.1.cls ≠ "java/lang/invoke/VarHandle") ∧ Cond.instantiable q.1.cls q.2 ∈ tables_1 ∧ Cond.privateMethod q.1 ∈ tables_1 ∧ Cond.instanceMethod q.1 ∈ tables_1
theorem lw_p0 : lw_okq (⟨"ShameAngles", "bad", "(I)I"⟩, 12) := ⟨⟨by decide +kernel, by decide +kernel⟩, List.mem_of_getElem? (i := 22) (by decide +kernel), List.mem_of_getElem? (i := 292) (by decide +kernel), List.mem_of_getElem? (i := 293) (by decide +kernel)⟩
theorem lw_p1 : lw_okq (⟨"ShameAngles", "full", "()I"⟩, 12) := ⟨⟨by decide +kernel, by decide +kernel⟩, List.mem_of_getElem? (i := 22) (by decide +kernel), List.mem_of_getElem? (i := 312) (by decide +kernel), List.mem_of_getElem? (i := 313) (by decide +kernel)⟩
theorem lw_p2 : lw_okq (⟨"ShameAngles$Script", "advance", "()V"⟩, 6) := ⟨⟨by decide +kernel, by decide +kernel⟩, List.mem_of_getElem? (i := 159) (by decide +kernel), List.mem_of_getElem? (i := 348) (by decide +kernel), List.mem_of_getElem? (i := 349) (by decide +kernel)⟩
theorem lw_p3 : lw_okq (⟨"ShameAngles$Script", "advanceWord", "()V"⟩, 6) := ⟨⟨by decide +kernel, by decide +kernel⟩, List.mem_of_getElem? (i := 159) (by decide +kernel), List.mem_of_getElem? (i := 355) (by decide +kernel), List.mem_of_getElem? (i := 356) (by decide +kernel)⟩
theorem lw_p4 : lw_okq (⟨"ShameAngles$Script", "advanceNumber", "()V"⟩, 6) := ⟨⟨by decide +kernel, by decide +kernel⟩, List.mem_of_getElem? (i := 159) (by decide +kernel), List.mem_of_getElem? (i := 362) (by decide +kernel), List.mem_of_getElem? (i := 363) (by decide +kernel)⟩
theorem lw_p5 : lw_okq (⟨"ShameAngles$Script", "item", "(LShameAngles$Ship;Z)Z"⟩, 6) := ⟨⟨by decide +kernel, by decide +kernel⟩, List.mem_of_getElem? (i := 159) (by decide +kernel), List.mem_of_getElem? (i := 366) (by decide +kernel), List.mem_of_getElem? (i := 367) (by decide +kernel)⟩
theorem lw_p6 : lw_okq (⟨"ShameAngles$Script", "wordIs", "(Ljava/lang/String;)Z"⟩, 6) := ⟨⟨by decide +kernel, by decide +kernel⟩, List.mem_of_getElem? (i := 159) (by decide +kernel), List.mem_of_getElem? (i := 371) (by decide +kernel), List.mem_of_getElem? (i := 372) (by decide +kernel)⟩
theorem lw_p7 : lw_okq (⟨"ShameAngles$Script", "shipItem", "(LShameAngles$Ship;)Z"⟩, 6) := ⟨⟨by decide +kernel, by decide +kernel⟩, List.mem_of_getElem? (i := 159) (by decide +kernel), List.mem_of_getElem? (i := 423) (by decide +kernel), List.mem_of_getElem? (i := 424) (by decide +kernel)⟩
theorem lw_p8 : lw_okq (⟨"ShameAngles$Script", "number", "(II)I"⟩, 6) := ⟨⟨by decide +kernel, by decide +kernel⟩, List.mem_of_getElem? (i := 159) (by decide +kernel), List.mem_of_getElem? (i := 427) (by decide +kernel), List.mem_of_getElem? (i := 428) (by decide +kernel)⟩
theorem lw_p9 : lw_okq (⟨"ShameAngles$Script", "ended", "()Z"⟩, 6) := ⟨⟨by decide +kernel, by decide +kernel⟩, List.mem_of_getElem? (i := 159) (by decide +kernel), List.mem_of_getElem? (i := 431) (by decide +kernel), List.mem_of_getElem? (i := 432) (by decide +kernel)⟩
theorem lw_p10 : lw_okq (⟨"ShameAngles$Script", "fogItem", "(LShameAngles$Ship;)Z"⟩, 6) := ⟨⟨by decide +kernel, by decide +kernel⟩, List.mem_of_getElem? (i := 159) (by decide +kernel), List.mem_of_getElem? (i := 437) (by decide +kernel), List.mem_of_getElem? (i := 438) (by decide +kernel)⟩
theorem lw_p11 : lw_okq (⟨"ShameAngles$Script", "manItem", "(LShameAngles$Ship;)Z"⟩, 6) := ⟨⟨by decide +kernel, by decide +kernel⟩, List.mem_of_getElem? (i := 159) (by decide +kernel), List.mem_of_getElem? (i := 442) (by decide +kernel), List.mem_of_getElem? (i := 443) (by decide +kernel)⟩
theorem lw_p12 : lw_okq (⟨"ShameAngles$Script", "readerItem", "(LShameAngles$Ship;)Z"⟩, 6) := ⟨⟨by decide +kernel, by decide +kernel⟩, List.mem_of_getElem? (i := 159) (by decide +kernel), List.mem_of_getElem? (i := 448) (by decide +kernel), List.mem_of_getElem? (i := 449) (by decide +kernel)⟩
theorem lw_p13 : lw_okq (⟨"ShameAngles$Script", "deedItem", "(LShameAngles$Ship;)Z"⟩, 6) := ⟨⟨by decide +kernel, by decide +kernel⟩, List.mem_of_getElem? (i := 159) (by decide +kernel), List.mem_of_getElem? (i := 454) (by decide +kernel), List.mem_of_getElem? (i := 455) (by decide +kernel)⟩
theorem lw_p14 : lw_okq (⟨"ShameAngles$Script", "noonItem", "(LShameAngles$Ship;)Z"⟩, 6) := ⟨⟨by decide +kernel, by decide +kernel⟩, List.mem_of_getElem? (i := 159) (by decide +kernel), List.mem_of_getElem? (i := 470) (by decide +kernel), List.mem_of_getElem? (i := 471) (by decide +kernel)⟩
theorem lw_p15 : lw_okq (⟨"ShameAngles", "no", "()I"⟩, 12) := ⟨⟨by decide +kernel, by decide +kernel⟩, List.mem_of_getElem? (i := 22) (by decide +kernel), List.mem_of_getElem? (i := 523) (by decide +kernel), List.mem_of_getElem? (i := 524) (by decide +kernel)⟩
def lw_privs_1 : List (MethodName × Nat) := [(⟨"ShameAngles", "bad", "(I)I"⟩, 12), (⟨"ShameAngles", "full", "()I"⟩, 12), (⟨"ShameAngles$Script", "advance", "()V"⟩, 6), (⟨"ShameAngles$Script", "advanceWord", "()V"⟩, 6), (⟨"ShameAngles$Script", "advanceNumber", "()V"⟩, 6), (⟨"ShameAngles$Script", "item", "(LShameAngles$Ship;Z)Z"⟩, 6), (⟨"ShameAngles$Script", "wordIs", "(Ljava/lang/String;)Z"⟩, 6), (⟨"ShameAngles$Script", "shipItem", "(LShameAngles$Ship;)Z"⟩, 6), (⟨"ShameAngles$Script", "number", "(II)I"⟩, 6), (⟨"ShameAngles$Script", "ended", "()Z"⟩, 6), (⟨"ShameAngles$Script", "fogItem", "(LShameAngles$Ship;)Z"⟩, 6), (⟨"ShameAngles$Script", "manItem", "(LShameAngles$Ship;)Z"⟩, 6), (⟨"ShameAngles$Script", "readerItem", "(LShameAngles$Ship;)Z"⟩, 6), (⟨"ShameAngles$Script", "deedItem", "(LShameAngles$Ship;)Z"⟩, 6), (⟨"ShameAngles$Script", "noonItem", "(LShameAngles$Ship;)Z"⟩, 6), (⟨"ShameAngles", "no", "()I"⟩, 12)]
theorem lw_r1 : ∀ q ∈ lw_privs_1, lw_okq q := List.forall_mem_cons.mpr ⟨lw_p0, List.forall_mem_cons.mpr ⟨lw_p1, List.forall_mem_cons.mpr ⟨lw_p2, List.forall_mem_cons.mpr ⟨lw_p3, List.forall_mem_cons.mpr ⟨lw_p4, List.forall_mem_cons.mpr ⟨lw_p5, List.forall_mem_cons.mpr ⟨lw_p6, List.forall_mem_cons.mpr ⟨lw_p7, List.forall_mem_cons.mpr ⟨lw_p8, List.forall_mem_cons.mpr ⟨lw_p9, List.forall_mem_cons.mpr ⟨lw_p10, List.forall_mem_cons.mpr ⟨lw_p11, List.forall_mem_cons.mpr ⟨lw_p12, List.forall_mem_cons.mpr ⟨lw_p13, List.forall_mem_cons.mpr ⟨lw_p14, List.forall_mem_cons.mpr ⟨lw_p15, fun _ h => absurd h List.not_mem_nil⟩⟩⟩⟩⟩⟩⟩⟩⟩⟩⟩⟩⟩⟩⟩⟩
theorem lw_p16 : lw_okq (⟨"ShameAngles$Watches", "keep", "()V"⟩, 4) := ⟨⟨by decide +kernel, by decide +kernel⟩, List.mem_of_getElem? (i := 203) (by decide +kernel), List.mem_of_getElem? (i := 654) (by decide +kernel), List.mem_of_getElem? (i := 655) (by decide +kernel)⟩
theorem lw_p17 : lw_okq (⟨"ShameAngles$Watches", "isTaken", "(II)Z"⟩, 4) := ⟨⟨by decide +kernel, by decide +kernel⟩, List.mem_of_getElem? (i := 203) (by decide +kernel), List.mem_of_getElem? (i := 660) (by decide +kernel), List.mem_of_getElem? (i := 661) (by decide +kernel)⟩
theorem lw_p18 : lw_okq (⟨"ShameAngles$Guesses", "mostAlike", "(IZII)I"⟩, 1) := ⟨⟨by decide +kernel, by decide +kernel⟩, List.mem_of_getElem? (i := 223) (by decide +kernel), List.mem_of_getElem? (i := 750) (by decide +kernel), List.mem_of_getElem? (i := 751) (by decide +kernel)⟩
theorem lw_p19 : lw_okq (⟨"ShameAngles$Chance", "reduce", "(I)V"⟩, 2) := ⟨⟨by decide +kernel, by decide +kernel⟩, List.mem_of_getElem? (i := 233) (by decide +kernel), List.mem_of_getElem? (i := 795) (by decide +kernel), List.mem_of_getElem? (i := 796) (by decide +kernel)⟩
theorem lw_p20 : lw_okq (⟨"ShameAnglesModel", "begin", "(I)V"⟩, 30) := ⟨⟨by decide +kernel, by decide +kernel⟩, List.mem_of_getElem? (i := 870) (by decide +kernel), List.mem_of_getElem? (i := 876) (by decide +kernel), List.mem_of_getElem? (i := 877) (by decide +kernel)⟩
theorem lw_p21 : lw_okq (⟨"ShameAnglesModel", "bad", "()I"⟩, 30) := ⟨⟨by decide +kernel, by decide +kernel⟩, List.mem_of_getElem? (i := 870) (by decide +kernel), List.mem_of_getElem? (i := 978) (by decide +kernel), List.mem_of_getElem? (i := 979) (by decide +kernel)⟩
theorem lw_p22 : lw_okq (⟨"ShameAnglesModel", "full", "()I"⟩, 30) := ⟨⟨by decide +kernel, by decide +kernel⟩, List.mem_of_getElem? (i := 870) (by decide +kernel), List.mem_of_getElem? (i := 990) (by decide +kernel), List.mem_of_getElem? (i := 991) (by decide +kernel)⟩
theorem lw_p23 : lw_okq (⟨"ShameAnglesModel", "addMan", "(II)I"⟩, 30) := ⟨⟨by decide +kernel, by decide +kernel⟩, List.mem_of_getElem? (i := 870) (by decide +kernel), List.mem_of_getElem? (i := 994) (by decide +kernel), List.mem_of_getElem? (i := 995) (by decide +kernel)⟩
theorem lw_p24 : lw_okq (⟨"ShameAnglesModel", "addReader", "(I)I"⟩, 30) := ⟨⟨by decide +kernel, by decide +kernel⟩, List.mem_of_getElem? (i := 870) (by decide +kernel), List.mem_of_getElem? (i := 1002) (by decide +kernel), List.mem_of_getElem? (i := 1003) (by decide +kernel)⟩
theorem lw_p25 : lw_okq (⟨"ShameAnglesModel", "layAll", "([II)V"⟩, 30) := ⟨⟨by decide +kernel, by decide +kernel⟩, List.mem_of_getElem? (i := 870) (by decide +kernel), List.mem_of_getElem? (i := 1018) (by decide +kernel), List.mem_of_getElem? (i := 1019) (by decide +kernel)⟩
theorem lw_p26 : lw_okq (⟨"ShameAnglesModel", "lays", "([II)V"⟩, 30) := ⟨⟨by decide +kernel, by decide +kernel⟩, List.mem_of_getElem? (i := 870) (by decide +kernel), List.mem_of_getElem? (i := 1022) (by decide +kernel), List.mem_of_getElem? (i := 1023) (by decide +kernel)⟩
theorem lw_p27 : lw_okq (⟨"ShameAnglesModel", "readsShip", "()I"⟩, 30) := ⟨⟨by decide +kernel, by decide +kernel⟩, List.mem_of_getElem? (i := 870) (by decide +kernel), List.mem_of_getElem? (i := 1026) (by decide +kernel), List.mem_of_getElem? (i := 1027) (by decide +kernel)⟩
theorem lw_p28 : lw_okq (⟨"ShameAnglesModel", "readsFirst", "()Z"⟩, 30) := ⟨⟨by decide +kernel, by decide +kernel⟩, List.mem_of_getElem? (i := 870) (by decide +kernel), List.mem_of_getElem? (i := 1030) (by decide +kernel), List.mem_of_getElem? (i := 1031) (by decide +kernel)⟩
theorem lw_p29 : lw_okq (⟨"ShameAnglesModel", "skip", "()V"⟩, 30) := ⟨⟨by decide +kernel, by decide +kernel⟩, List.mem_of_getElem? (i := 870) (by decide +kernel), List.mem_of_getElem? (i := 1034) (by decide +kernel), List.mem_of_getElem? (i := 1035) (by decide +kernel)⟩
theorem lw_p30 : lw_okq (⟨"ShameAnglesModel", "here", "()I"⟩, 30) := ⟨⟨by decide +kernel, by decide +kernel⟩, List.mem_of_getElem? (i := 870) (by decide +kernel), List.mem_of_getElem? (i := 1038) (by decide +kernel), List.mem_of_getElem? (i := 1039) (by decide +kernel)⟩
theorem lw_p31 : lw_okq (⟨"ShameAnglesModel", "wordHere", "()I"⟩, 30) := ⟨⟨by decide +kernel, by decide +kernel⟩, List.mem_of_getElem? (i := 870) (by decide +kernel), List.mem_of_getElem? (i := 1042) (by decide +kernel), List.mem_of_getElem? (i := 1043) (by decide +kernel)⟩
def lw_privs_2 : List (MethodName × Nat) := [(⟨"ShameAngles$Watches", "keep", "()V"⟩, 4), (⟨"ShameAngles$Watches", "isTaken", "(II)Z"⟩, 4), (⟨"ShameAngles$Guesses", "mostAlike", "(IZII)I"⟩, 1), (⟨"ShameAngles$Chance", "reduce", "(I)V"⟩, 2), (⟨"ShameAnglesModel", "begin", "(I)V"⟩, 30), (⟨"ShameAnglesModel", "bad", "()I"⟩, 30), (⟨"ShameAnglesModel", "full", "()I"⟩, 30), (⟨"ShameAnglesModel", "addMan", "(II)I"⟩, 30), (⟨"ShameAnglesModel", "addReader", "(I)I"⟩, 30), (⟨"ShameAnglesModel", "layAll", "([II)V"⟩, 30), (⟨"ShameAnglesModel", "lays", "([II)V"⟩, 30), (⟨"ShameAnglesModel", "readsShip", "()I"⟩, 30), (⟨"ShameAnglesModel", "readsFirst", "()Z"⟩, 30), (⟨"ShameAnglesModel", "skip", "()V"⟩, 30), (⟨"ShameAnglesModel", "here", "()I"⟩, 30), (⟨"ShameAnglesModel", "wordHere", "()I"⟩, 30)]
theorem lw_r2 : ∀ q ∈ lw_privs_2, lw_okq q := List.forall_mem_cons.mpr ⟨lw_p16, List.forall_mem_cons.mpr ⟨lw_p17, List.forall_mem_cons.mpr ⟨lw_p18, List.forall_mem_cons.mpr ⟨lw_p19, List.forall_mem_cons.mpr ⟨lw_p20, List.forall_mem_cons.mpr ⟨lw_p21, List.forall_mem_cons.mpr ⟨lw_p22, List.forall_mem_cons.mpr ⟨lw_p23, List.forall_mem_cons.mpr ⟨lw_p24, List.forall_mem_cons.mpr ⟨lw_p25, List.forall_mem_cons.mpr ⟨lw_p26, List.forall_mem_cons.mpr ⟨lw_p27, List.forall_mem_cons.mpr ⟨lw_p28, List.forall_mem_cons.mpr ⟨lw_p29, List.forall_mem_cons.mpr ⟨lw_p30, List.forall_mem_cons.mpr ⟨lw_p31, fun _ h => absurd h List.not_mem_nil⟩⟩⟩⟩⟩⟩⟩⟩⟩⟩⟩⟩⟩⟩⟩⟩
theorem lw_p32 : lw_okq (⟨"ShameAnglesModel", "wordSize", "()I"⟩, 30) := ⟨⟨by decide +kernel, by decide +kernel⟩, List.mem_of_getElem? (i := 870) (by decide +kernel), List.mem_of_getElem? (i := 1046) (by decide +kernel), List.mem_of_getElem? (i := 1047) (by decide +kernel)⟩
theorem lw_p33 : lw_okq (⟨"ShameAnglesModel", "letter", "(I)I"⟩, 30) := ⟨⟨by decide +kernel, by decide +kernel⟩, List.mem_of_getElem? (i := 870) (by decide +kernel), List.mem_of_getElem? (i := 1053) (by decide +kernel), List.mem_of_getElem? (i := 1054) (by decide +kernel)⟩
theorem lw_p34 : lw_okq (⟨"ShameAnglesModel", "number", "(II)Z"⟩, 30) := ⟨⟨by decide +kernel, by decide +kernel⟩, List.mem_of_getElem? (i := 870) (by decide +kernel), List.mem_of_getElem? (i := 1057) (by decide +kernel), List.mem_of_getElem? (i := 1058) (by decide +kernel)⟩
theorem lw_p35 : lw_okq (⟨"ShameAnglesModel", "ends", "()Z"⟩, 30) := ⟨⟨by decide +kernel, by decide +kernel⟩, List.mem_of_getElem? (i := 870) (by decide +kernel), List.mem_of_getElem? (i := 1064) (by decide +kernel), List.mem_of_getElem? (i := 1065) (by decide +kernel)⟩
theorem lw_p36 : lw_okq (⟨"ShameAnglesModel", "readsItem", "()Z"⟩, 30) := ⟨⟨by decide +kernel, by decide +kernel⟩, List.mem_of_getElem? (i := 870) (by decide +kernel), List.mem_of_getElem? (i := 1068) (by decide +kernel), List.mem_of_getElem? (i := 1069) (by decide +kernel)⟩
theorem lw_p37 : lw_okq (⟨"ShameAnglesModel", "readsFog", "()Z"⟩, 30) := ⟨⟨by decide +kernel, by decide +kernel⟩, List.mem_of_getElem? (i := 870) (by decide +kernel), List.mem_of_getElem? (i := 1072) (by decide +kernel), List.mem_of_getElem? (i := 1073) (by decide +kernel)⟩
theorem lw_p38 : lw_okq (⟨"ShameAnglesModel", "readsMan", "()Z"⟩, 30) := ⟨⟨by decide +kernel, by decide +kernel⟩, List.mem_of_getElem? (i := 870) (by decide +kernel), List.mem_of_getElem? (i := 1076) (by decide +kernel), List.mem_of_getElem? (i := 1077) (by decide +kernel)⟩
theorem lw_p39 : lw_okq (⟨"ShameAnglesModel", "readsReader", "()Z"⟩, 30) := ⟨⟨by decide +kernel, by decide +kernel⟩, List.mem_of_getElem? (i := 870) (by decide +kernel), List.mem_of_getElem? (i := 1080) (by decide +kernel), List.mem_of_getElem? (i := 1081) (by decide +kernel)⟩
theorem lw_p40 : lw_okq (⟨"ShameAnglesModel", "readsDeed", "()Z"⟩, 30) := ⟨⟨by decide +kernel, by decide +kernel⟩, List.mem_of_getElem? (i := 870) (by decide +kernel), List.mem_of_getElem? (i := 1084) (by decide +kernel), List.mem_of_getElem? (i := 1085) (by decide +kernel)⟩
theorem lw_p41 : lw_okq (⟨"ShameAnglesModel", "readsNoon", "()Z"⟩, 30) := ⟨⟨by decide +kernel, by decide +kernel⟩, List.mem_of_getElem? (i := 870) (by decide +kernel), List.mem_of_getElem? (i := 1091) (by decide +kernel), List.mem_of_getElem? (i := 1092) (by decide +kernel)⟩
theorem lw_p42 : lw_okq (⟨"ShameAnglesModel", "measures", "(II)V"⟩, 30) := ⟨⟨by decide +kernel, by decide +kernel⟩, List.mem_of_getElem? (i := 870) (by decide +kernel), List.mem_of_getElem? (i := 1101) (by decide +kernel), List.mem_of_getElem? (i := 1102) (by decide +kernel)⟩
theorem lw_p43 : lw_okq (⟨"ShameAnglesModel", "errorOf", "(II)I"⟩, 30) := ⟨⟨by decide +kernel, by decide +kernel⟩, List.mem_of_getElem? (i := 870) (by decide +kernel), List.mem_of_getElem? (i := 1105) (by decide +kernel), List.mem_of_getElem? (i := 1106) (by decide +kernel)⟩
theorem lw_p44 : lw_okq (⟨"ShameAnglesModel", "isFog", "()Z"⟩, 30) := ⟨⟨by decide +kernel, by decide +kernel⟩, List.mem_of_getElem? (i := 870) (by decide +kernel), List.mem_of_getElem? (i := 1109) (by decide +kernel), List.mem_of_getElem? (i := 1110) (by decide +kernel)⟩
theorem lw_p45 : lw_okq (⟨"ShameAnglesModel", "readOf", "(II)I"⟩, 30) := ⟨⟨by decide +kernel, by decide +kernel⟩, List.mem_of_getElem? (i := 870) (by decide +kernel), List.mem_of_getElem? (i := 1113) (by decide +kernel), List.mem_of_getElem? (i := 1114) (by decide +kernel)⟩
theorem lw_p46 : lw_okq (⟨"ShameAnglesModel", "angleOf", "(I)I"⟩, 30) := ⟨⟨by decide +kernel, by decide +kernel⟩, List.mem_of_getElem? (i := 870) (by decide +kernel), List.mem_of_getElem? (i := 1117) (by decide +kernel), List.mem_of_getElem? (i := 1118) (by decide +kernel)⟩
theorem lw_p47 : lw_okq (⟨"ShameAnglesModel", "goesOn", "(II)V"⟩, 30) := ⟨⟨by decide +kernel, by decide +kernel⟩, List.mem_of_getElem? (i := 870) (by decide +kernel), List.mem_of_getElem? (i := 1130) (by decide +kernel), List.mem_of_getElem? (i := 1131) (by decide +kernel)⟩
def lw_privs_3 : List (MethodName × Nat) := [(⟨"ShameAnglesModel", "wordSize", "()I"⟩, 30), (⟨"ShameAnglesModel", "letter", "(I)I"⟩, 30), (⟨"ShameAnglesModel", "number", "(II)Z"⟩, 30), (⟨"ShameAnglesModel", "ends", "()Z"⟩, 30), (⟨"ShameAnglesModel", "readsItem", "()Z"⟩, 30), (⟨"ShameAnglesModel", "readsFog", "()Z"⟩, 30), (⟨"ShameAnglesModel", "readsMan", "()Z"⟩, 30), (⟨"ShameAnglesModel", "readsReader", "()Z"⟩, 30), (⟨"ShameAnglesModel", "readsDeed", "()Z"⟩, 30), (⟨"ShameAnglesModel", "readsNoon", "()Z"⟩, 30), (⟨"ShameAnglesModel", "measures", "(II)V"⟩, 30), (⟨"ShameAnglesModel", "errorOf", "(II)I"⟩, 30), (⟨"ShameAnglesModel", "isFog", "()Z"⟩, 30), (⟨"ShameAnglesModel", "readOf", "(II)I"⟩, 30), (⟨"ShameAnglesModel", "angleOf", "(I)I"⟩, 30), (⟨"ShameAnglesModel", "goesOn", "(II)V"⟩, 30)]
theorem lw_r3 : ∀ q ∈ lw_privs_3, lw_okq q := List.forall_mem_cons.mpr ⟨lw_p32, List.forall_mem_cons.mpr ⟨lw_p33, List.forall_mem_cons.mpr ⟨lw_p34, List.forall_mem_cons.mpr ⟨lw_p35, List.forall_mem_cons.mpr ⟨lw_p36, List.forall_mem_cons.mpr ⟨lw_p37, List.forall_mem_cons.mpr ⟨lw_p38, List.forall_mem_cons.mpr ⟨lw_p39, List.forall_mem_cons.mpr ⟨lw_p40, List.forall_mem_cons.mpr ⟨lw_p41, List.forall_mem_cons.mpr ⟨lw_p42, List.forall_mem_cons.mpr ⟨lw_p43, List.forall_mem_cons.mpr ⟨lw_p44, List.forall_mem_cons.mpr ⟨lw_p45, List.forall_mem_cons.mpr ⟨lw_p46, List.forall_mem_cons.mpr ⟨lw_p47, fun _ h => absurd h List.not_mem_nil⟩⟩⟩⟩⟩⟩⟩⟩⟩⟩⟩⟩⟩⟩⟩⟩
theorem lw_p48 : lw_okq (⟨"ShameAnglesModel", "takeAll", "([II)V"⟩, 30) := ⟨⟨by decide +kernel, by decide +kernel⟩, List.mem_of_getElem? (i := 870) (by decide +kernel), List.mem_of_getElem? (i := 1137) (by decide +kernel), List.mem_of_getElem? (i := 1138) (by decide +kernel)⟩
theorem lw_p49 : lw_okq (⟨"ShameAnglesModel", "takes", "([II)V"⟩, 30) := ⟨⟨by decide +kernel, by decide +kernel⟩, List.mem_of_getElem? (i := 870) (by decide +kernel), List.mem_of_getElem? (i := 1141) (by decide +kernel), List.mem_of_getElem? (i := 1142) (by decide +kernel)⟩
theorem lw_p50 : lw_okq (⟨"ShameAnglesModel", "areMen", "(I)Z"⟩, 30) := ⟨⟨by decide +kernel, by decide +kernel⟩, List.mem_of_getElem? (i := 870) (by decide +kernel), List.mem_of_getElem? (i := 1149) (by decide +kernel), List.mem_of_getElem? (i := 1150) (by decide +kernel)⟩
theorem lw_p51 : lw_okq (⟨"ShameAnglesModel", "isReader", "(I)Z"⟩, 30) := ⟨⟨by decide +kernel, by decide +kernel⟩, List.mem_of_getElem? (i := 870) (by decide +kernel), List.mem_of_getElem? (i := 1153) (by decide +kernel), List.mem_of_getElem? (i := 1154) (by decide +kernel)⟩
theorem lw_p52 : lw_okq (⟨"ShameAnglesModel", "no", "()I"⟩, 30) := ⟨⟨by decide +kernel, by decide +kernel⟩, List.mem_of_getElem? (i := 870) (by decide +kernel), List.mem_of_getElem? (i := 1157) (by decide +kernel), List.mem_of_getElem? (i := 1158) (by decide +kernel)⟩
theorem lw_p53 : lw_okq (⟨"ShameAnglesModel", "notes", "()V"⟩, 30) := ⟨⟨by decide +kernel, by decide +kernel⟩, List.mem_of_getElem? (i := 870) (by decide +kernel), List.mem_of_getElem? (i := 1161) (by decide +kernel), List.mem_of_getElem? (i := 1162) (by decide +kernel)⟩
theorem lw_p54 : lw_okq (⟨"ShameAnglesModel", "isMan", "(I)Z"⟩, 30) := ⟨⟨by decide +kernel, by decide +kernel⟩, List.mem_of_getElem? (i := 870) (by decide +kernel), List.mem_of_getElem? (i := 1169) (by decide +kernel), List.mem_of_getElem? (i := 1170) (by decide +kernel)⟩
theorem lw_p55 : lw_okq (⟨"ShameAnglesModel", "nowOf", "(I)I"⟩, 30) := ⟨⟨by decide +kernel, by decide +kernel⟩, List.mem_of_getElem? (i := 870) (by decide +kernel), List.mem_of_getElem? (i := 1181) (by decide +kernel), List.mem_of_getElem? (i := 1182) (by decide +kernel)⟩
theorem lw_p56 : lw_okq (⟨"ShameAnglesModel", "thousand", "()I"⟩, 30) := ⟨⟨by decide +kernel, by decide +kernel⟩, List.mem_of_getElem? (i := 870) (by decide +kernel), List.mem_of_getElem? (i := 1201) (by decide +kernel), List.mem_of_getElem? (i := 1202) (by decide +kernel)⟩
theorem lw_p57 : lw_okq (⟨"ShameAnglesModel", "offNow", "()I"⟩, 30) := ⟨⟨by decide +kernel, by decide +kernel⟩, List.mem_of_getElem? (i := 870) (by decide +kernel), List.mem_of_getElem? (i := 1209) (by decide +kernel), List.mem_of_getElem? (i := 1210) (by decide +kernel)⟩
theorem lw_p58 : lw_okq (⟨"ShameAnglesModel", "ten", "()I"⟩, 30) := ⟨⟨by decide +kernel, by decide +kernel⟩, List.mem_of_getElem? (i := 870) (by decide +kernel), List.mem_of_getElem? (i := 1237) (by decide +kernel), List.mem_of_getElem? (i := 1238) (by decide +kernel)⟩
theorem lw_p59 : lw_okq (⟨"ShameAnglesModel", "power", "(II)I"⟩, 30) := ⟨⟨by decide +kernel, by decide +kernel⟩, List.mem_of_getElem? (i := 870) (by decide +kernel), List.mem_of_getElem? (i := 1241) (by decide +kernel), List.mem_of_getElem? (i := 1242) (by decide +kernel)⟩
theorem lw_p60 : lw_okq (⟨"ShameAnglesModel", "placeBy", "(III)I"⟩, 30) := ⟨⟨by decide +kernel, by decide +kernel⟩, List.mem_of_getElem? (i := 870) (by decide +kernel), List.mem_of_getElem? (i := 1245) (by decide +kernel), List.mem_of_getElem? (i := 1246) (by decide +kernel)⟩
theorem lw_p61 : lw_okq (⟨"ShameAnglesModel", "isWatch", "(I)Z"⟩, 30) := ⟨⟨by decide +kernel, by decide +kernel⟩, List.mem_of_getElem? (i := 870) (by decide +kernel), List.mem_of_getElem? (i := 1253) (by decide +kernel), List.mem_of_getElem? (i := 1254) (by decide +kernel)⟩
theorem lw_p62 : lw_okq (⟨"ShameAnglesModel", "mayBegin", "(II)Z"⟩, 30) := ⟨⟨by decide +kernel, by decide +kernel⟩, List.mem_of_getElem? (i := 870) (by decide +kernel), List.mem_of_getElem? (i := 1269) (by decide +kernel), List.mem_of_getElem? (i := 1270) (by decide +kernel)⟩
theorem lw_p63 : lw_okq (⟨"ShameAnglesModel", "shameOn", "(II)I"⟩, 30) := ⟨⟨by decide +kernel, by decide +kernel⟩, List.mem_of_getElem? (i := 870) (by decide +kernel), List.mem_of_getElem? (i := 1273) (by decide +kernel), List.mem_of_getElem? (i := 1274) (by decide +kernel)⟩
def lw_privs_4 : List (MethodName × Nat) := [(⟨"ShameAnglesModel", "takeAll", "([II)V"⟩, 30), (⟨"ShameAnglesModel", "takes", "([II)V"⟩, 30), (⟨"ShameAnglesModel", "areMen", "(I)Z"⟩, 30), (⟨"ShameAnglesModel", "isReader", "(I)Z"⟩, 30), (⟨"ShameAnglesModel", "no", "()I"⟩, 30), (⟨"ShameAnglesModel", "notes", "()V"⟩, 30), (⟨"ShameAnglesModel", "isMan", "(I)Z"⟩, 30), (⟨"ShameAnglesModel", "nowOf", "(I)I"⟩, 30), (⟨"ShameAnglesModel", "thousand", "()I"⟩, 30), (⟨"ShameAnglesModel", "offNow", "()I"⟩, 30), (⟨"ShameAnglesModel", "ten", "()I"⟩, 30), (⟨"ShameAnglesModel", "power", "(II)I"⟩, 30), (⟨"ShameAnglesModel", "placeBy", "(III)I"⟩, 30), (⟨"ShameAnglesModel", "isWatch", "(I)Z"⟩, 30), (⟨"ShameAnglesModel", "mayBegin", "(II)Z"⟩, 30), (⟨"ShameAnglesModel", "shameOn", "(II)I"⟩, 30)]
theorem lw_r4 : ∀ q ∈ lw_privs_4, lw_okq q := List.forall_mem_cons.mpr ⟨lw_p48, List.forall_mem_cons.mpr ⟨lw_p49, List.forall_mem_cons.mpr ⟨lw_p50, List.forall_mem_cons.mpr ⟨lw_p51, List.forall_mem_cons.mpr ⟨lw_p52, List.forall_mem_cons.mpr ⟨lw_p53, List.forall_mem_cons.mpr ⟨lw_p54, List.forall_mem_cons.mpr ⟨lw_p55, List.forall_mem_cons.mpr ⟨lw_p56, List.forall_mem_cons.mpr ⟨lw_p57, List.forall_mem_cons.mpr ⟨lw_p58, List.forall_mem_cons.mpr ⟨lw_p59, List.forall_mem_cons.mpr ⟨lw_p60, List.forall_mem_cons.mpr ⟨lw_p61, List.forall_mem_cons.mpr ⟨lw_p62, List.forall_mem_cons.mpr ⟨lw_p63, fun _ h => absurd h List.not_mem_nil⟩⟩⟩⟩⟩⟩⟩⟩⟩⟩⟩⟩⟩⟩⟩⟩
theorem lw_p64 : lw_okq (⟨"ShameAnglesModel", "kindsOf", "(I)I"⟩, 30) := ⟨⟨by decide +kernel, by decide +kernel⟩, List.mem_of_getElem? (i := 870) (by decide +kernel), List.mem_of_getElem? (i := 1293) (by decide +kernel), List.mem_of_getElem? (i := 1294) (by decide +kernel)⟩
theorem lw_p65 : lw_okq (⟨"ShameAnglesModel", "kindsBy", "(I)I"⟩, 30) := ⟨⟨by decide +kernel, by decide +kernel⟩, List.mem_of_getElem? (i := 870) (by decide +kernel), List.mem_of_getElem? (i := 1301) (by decide +kernel), List.mem_of_getElem? (i := 1302) (by decide +kernel)⟩
theorem lw_p66 : lw_okq (⟨"ShameAnglesModel", "rests", "(III)Z"⟩, 30) := ⟨⟨by decide +kernel, by decide +kernel⟩, List.mem_of_getElem? (i := 870) (by decide +kernel), List.mem_of_getElem? (i := 1320) (by decide +kernel), List.mem_of_getElem? (i := 1321) (by decide +kernel)⟩
theorem lw_p67 : lw_okq (⟨"ShameAnglesModel", "firstGets", "(III)I"⟩, 30) := ⟨⟨by decide +kernel, by decide +kernel⟩, List.mem_of_getElem? (i := 870) (by decide +kernel), List.mem_of_getElem? (i := 1324) (by decide +kernel), List.mem_of_getElem? (i := 1325) (by decide +kernel)⟩
theorem lw_p68 : lw_okq (⟨"ShameAnglesModel", "lay", "(JJ)V"⟩, 30) := ⟨⟨by decide +kernel, by decide +kernel⟩, List.mem_of_getElem? (i := 870) (by decide +kernel), List.mem_of_getElem? (i := 1333) (by decide +kernel), List.mem_of_getElem? (i := 1334) (by decide +kernel)⟩
theorem lw_p69 : lw_okq (⟨"ShameAnglesModel", "countOf", "(I)I"⟩, 30) := ⟨⟨by decide +kernel, by decide +kernel⟩, List.mem_of_getElem? (i := 870) (by decide +kernel), List.mem_of_getElem? (i := 1369) (by decide +kernel), List.mem_of_getElem? (i := 1370) (by decide +kernel)⟩
theorem lw_p70 : lw_okq (⟨"ShameAnglesModel", "shameAll", "()I"⟩, 30) := ⟨⟨by decide +kernel, by decide +kernel⟩, List.mem_of_getElem? (i := 870) (by decide +kernel), List.mem_of_getElem? (i := 1373) (by decide +kernel), List.mem_of_getElem? (i := 1374) (by decide +kernel)⟩
theorem lw_p71 : lw_okq (⟨"ShameAnglesModel", "mix", "(J)V"⟩, 30) := ⟨⟨by decide +kernel, by decide +kernel⟩, List.mem_of_getElem? (i := 870) (by decide +kernel), List.mem_of_getElem? (i := 1382) (by decide +kernel), List.mem_of_getElem? (i := 1383) (by decide +kernel)⟩
def lw_privs_5 : List (MethodName × Nat) := [(⟨"ShameAnglesModel", "kindsOf", "(I)I"⟩, 30), (⟨"ShameAnglesModel", "kindsBy", "(I)I"⟩, 30), (⟨"ShameAnglesModel", "rests", "(III)Z"⟩, 30), (⟨"ShameAnglesModel", "firstGets", "(III)I"⟩, 30), (⟨"ShameAnglesModel", "lay", "(JJ)V"⟩, 30), (⟨"ShameAnglesModel", "countOf", "(I)I"⟩, 30), (⟨"ShameAnglesModel", "shameAll", "()I"⟩, 30), (⟨"ShameAnglesModel", "mix", "(J)V"⟩, 30)]
theorem lw_r5 : ∀ q ∈ lw_privs_5, lw_okq q := List.forall_mem_cons.mpr ⟨lw_p64, List.forall_mem_cons.mpr ⟨lw_p65, List.forall_mem_cons.mpr ⟨lw_p66, List.forall_mem_cons.mpr ⟨lw_p67, List.forall_mem_cons.mpr ⟨lw_p68, List.forall_mem_cons.mpr ⟨lw_p69, List.forall_mem_cons.mpr ⟨lw_p70, List.forall_mem_cons.mpr ⟨lw_p71, fun _ h => absurd h List.not_mem_nil⟩⟩⟩⟩⟩⟩⟩⟩
def lw_privs : List (MethodName × Nat) := lw_privs_1 ++ (lw_privs_2 ++ (lw_privs_3 ++ (lw_privs_4 ++ (lw_privs_5))))
def lw_tbl : List Cond := k2_sels lw_privs ++ tables_1
theorem lw_privs_ok : ∀ q ∈ lw_privs, lw_okq q := by
  show ∀ q ∈ lw_privs_1 ++ (lw_privs_2 ++ (lw_privs_3 ++ (lw_privs_4 ++ (lw_privs_5)))), lw_okq q
  exact List.forall_mem_append.mpr ⟨lw_r1, List.forall_mem_append.mpr ⟨lw_r2, List.forall_mem_append.mpr ⟨lw_r3, List.forall_mem_append.mpr ⟨lw_r4, lw_r5⟩⟩⟩⟩

/-- all words that may be handed on to a callee -/
def bg : List Cond := lw_tbl.filter goodWord
theorem bg_good : ∀ w ∈ bg, (w.onTables && w.keeps) = true ∨ ∃ ty, w = .arrayClass ty := fun w h => good_of_word (List.mem_filter.mp h).2
theorem bg_m0 {w : Cond} (h : w ∈ k2_sels lw_privs) (g : goodWord w = true) : w ∈ bg := List.mem_filter.mpr ⟨List.mem_append_left _ h, g⟩
theorem bg_m1 {w : Cond} (h : w ∈ tables_1_1) (g : goodWord w = true) : w ∈ bg := List.mem_filter.mpr ⟨List.mem_append_right _ (List.mem_append_left _ h), g⟩
theorem bg_m2 {w : Cond} (h : w ∈ tables_1_2) (g : goodWord w = true) : w ∈ bg := List.mem_filter.mpr ⟨List.mem_append_right _ (List.mem_append_right _ (List.mem_append_left _ h)), g⟩
theorem bg_m3 {w : Cond} (h : w ∈ tables_1_3) (g : goodWord w = true) : w ∈ bg := List.mem_filter.mpr ⟨List.mem_append_right _ (List.mem_append_right _ (List.mem_append_right _ (List.mem_append_left _ h))), g⟩
theorem bg_m4 {w : Cond} (h : w ∈ tables_1_4) (g : goodWord w = true) : w ∈ bg := List.mem_filter.mpr ⟨List.mem_append_right _ (List.mem_append_right _ (List.mem_append_right _ (List.mem_append_right _ (List.mem_append_left _ h)))), g⟩
theorem bg_m5 {w : Cond} (h : w ∈ tables_1_5) (g : goodWord w = true) : w ∈ bg := List.mem_filter.mpr ⟨List.mem_append_right _ (List.mem_append_right _ (List.mem_append_right _ (List.mem_append_right _ (List.mem_append_right _ (List.mem_append_left _ h))))), g⟩
theorem bg_m6 {w : Cond} (h : w ∈ tables_1_6) (g : goodWord w = true) : w ∈ bg := List.mem_filter.mpr ⟨List.mem_append_right _ (List.mem_append_right _ (List.mem_append_right _ (List.mem_append_right _ (List.mem_append_right _ (List.mem_append_right _ (h)))))), g⟩
end
section
/-! ===== names: the kinds of objects, methods, words by their places ===== -/
def RC0 : String := "ShameAngles"
def TC0 : u_T := fun k => match k with
  | 0 => ("ShameAngles", "state", "LShameAngles$State;", true)
  | 1 => ("ShameAngles", "images", "[LShameAngles$State;", true)
  | 2 => ("ShameAngles", "kept", "[Z", true)
  | 3 => ("ShameAngles", "trial", "LShameAngles$Ship;", true)
  | 4 => ("ShameAngles", "script", "LShameAngles$Script;", true)
  | 5 => ("ShameAngles", "route", "LShameAngles$Route;", true)
  | 6 => ("ShameAngles", "watches", "LShameAngles$Watches;", true)
  | 7 => ("ShameAngles", "guesses", "LShameAngles$Guesses;", true)
  | 8 => ("ShameAngles", "chance", "LShameAngles$Chance;", true)
  | 9 => ("ShameAngles", "bads", "I", false)
  | 10 => ("ShameAngles", "nos", "I", false)
  | _ => ("ShameAngles", "fulls", "I", false)
def yC0 : Nat → FieldType := fun k => match k with
  | 0 => .object "ShameAngles$State"
  | 1 => .array (.object "ShameAngles$State")
  | 2 => .array .boolean
  | 3 => .object "ShameAngles$Ship"
  | 4 => .object "ShameAngles$Script"
  | 5 => .object "ShameAngles$Route"
  | 6 => .object "ShameAngles$Watches"
  | 7 => .object "ShameAngles$Guesses"
  | 8 => .object "ShameAngles$Chance"
  | 9 => .int
  | 10 => .int
  | _ => .int
def RC1 : String := "ShameAngles$State"
def TC1 : u_T := fun k => match k with
  | 0 => ("ShameAngles$State", "ship", "LShameAngles$Ship;", true)
  | 1 => ("ShameAngles$State", "seen", "LShameAngles$Rows;", true)
  | 2 => ("ShameAngles$State", "notes", "LShameAngles$Rows;", true)
  | 3 => ("ShameAngles$State", "marks", "LShameAngles$Rows;", true)
  | _ => ("ShameAngles$State", "past", "LShameAngles$Past;", true)
def yC1 : Nat → FieldType := fun k => match k with
  | 0 => .object "ShameAngles$Ship"
  | 1 => .object "ShameAngles$Rows"
  | 2 => .object "ShameAngles$Rows"
  | 3 => .object "ShameAngles$Rows"
  | _ => .object "ShameAngles$Past"
def RC2 : String := "ShameAngles$Ship"
def TC2 : u_T := fun k => match k with
  | 0 => ("ShameAngles$Ship", "place", "I", false)
  | 1 => ("ShameAngles$Ship", "log", "I", false)
  | 2 => ("ShameAngles$Ship", "course", "I", false)
  | 3 => ("ShameAngles$Ship", "day", "I", false)
  | 4 => ("ShameAngles$Ship", "men", "I", false)
  | 5 => ("ShameAngles$Ship", "readers", "I", false)
  | 6 => ("ShameAngles$Ship", "fog", "[I", true)
  | 7 => ("ShameAngles$Ship", "kinds", "[I", true)
  | 8 => ("ShameAngles$Ship", "shames", "[I", true)
  | _ => ("ShameAngles$Ship", "glasses", "[I", true)
def yC2 : Nat → FieldType := fun k => match k with
  | 0 => .int
  | 1 => .int
  | 2 => .int
  | 3 => .int
  | 4 => .int
  | 5 => .int
  | 6 => .array .int
  | 7 => .array .int
  | 8 => .array .int
  | _ => .array .int
def RC3 : String := "ShameAngles$Rows"
def TC3 : u_T := fun k => match k with
  | 0 => ("ShameAngles$Rows", "size", "I", false)
  | 1 => ("ShameAngles$Rows", "width", "I", true)
  | _ => ("ShameAngles$Rows", "cells", "[I", true)
def yC3 : Nat → FieldType := fun k => match k with
  | 0 => .int
  | 1 => .int
  | _ => .array .int
def RC4 : String := "ShameAngles$Past"
def TC4 : u_T := fun k => match k with
  | 0 => ("ShameAngles$Past", "size", "I", false)
  | _ => ("ShameAngles$Past", "cells", "[I", true)
def yC4 : Nat → FieldType := fun k => match k with
  | 0 => .int
  | _ => .array .int
def RC5 : String := "ShameAngles$Script"
def TC5 : u_T := fun k => match k with
  | 0 => ("ShameAngles$Script", "size", "I", false)
  | 1 => ("ShameAngles$Script", "bytes", "[I", true)
  | 2 => ("ShameAngles$Script", "start", "I", false)
  | 3 => ("ShameAngles$Script", "behind", "I", false)
  | 4 => ("ShameAngles$Script", "token", "I", false)
  | _ => ("ShameAngles$Script", "value", "I", false)
def yC5 : Nat → FieldType := fun k => match k with
  | 0 => .int
  | 1 => .array .int
  | 2 => .int
  | 3 => .int
  | 4 => .int
  | _ => .int
def RC6 : String := "ShameAngles$Route"
def TC6 : u_T := fun k => match k with
  | 0 => ("ShameAngles$Route", "row", "[I", true)
  | _ => ("ShameAngles$Route", "legs", "[LShameAngles$Ship;", true)
def yC6 : Nat → FieldType := fun k => match k with
  | 0 => .array .int
  | _ => .array (.object "ShameAngles$Ship")
def RC7 : String := "ShameAngles$Watches"
def TC7 : u_T := fun k => match k with
  | 0 => ("ShameAngles$Watches", "first", "[I", true)
  | 1 => ("ShameAngles$Watches", "chosen", "[I", true)
  | 2 => ("ShameAngles$Watches", "sights", "[I", true)
  | _ => ("ShameAngles$Watches", "found", "I", false)
def yC7 : Nat → FieldType := fun k => match k with
  | 0 => .array .int
  | 1 => .array .int
  | 2 => .array .int
  | _ => .int
def RC8 : String := "ShameAngles$Guesses"
def TC8 : u_T := fun k => match k with
  | _ => ("ShameAngles$Guesses", "values", "[I", true)
def yC8 : Nat → FieldType := fun k => match k with
  | _ => .array .int
def RC9 : String := "ShameAngles$Chance"
def TC9 : u_T := fun k => match k with
  | 0 => ("ShameAngles$Chance", "above", "J", false)
  | _ => ("ShameAngles$Chance", "below", "J", false)
def yC9 : Nat → FieldType := fun k => match k with
  | 0 => .long
  | _ => .long
def RC10 : String := "ShameAnglesModel"
def TC10 : u_T := fun k => match k with
  | 0 => ("ShameAnglesModel", "refused", "[I", true)
  | 1 => ("ShameAnglesModel", "menMany", "I", false)
  | 2 => ("ShameAnglesModel", "readerMany", "I", false)
  | 3 => ("ShameAnglesModel", "course", "I", false)
  | 4 => ("ShameAnglesModel", "placeNow", "I", false)
  | 5 => ("ShameAnglesModel", "logNow", "I", false)
  | 6 => ("ShameAnglesModel", "day", "I", false)
  | 7 => ("ShameAnglesModel", "seenMany", "I", false)
  | 8 => ("ShameAnglesModel", "noteMany", "I", false)
  | 9 => ("ShameAnglesModel", "markMany", "I", false)
  | 10 => ("ShameAnglesModel", "kinds", "[I", true)
  | 11 => ("ShameAnglesModel", "shames", "[I", true)
  | 12 => ("ShameAnglesModel", "readers", "[I", true)
  | 13 => ("ShameAnglesModel", "fogs", "[I", true)
  | 14 => ("ShameAnglesModel", "seenOnes", "[I", true)
  | 15 => ("ShameAnglesModel", "noted", "[I", true)
  | 16 => ("ShameAnglesModel", "marked", "[I", true)
  | 17 => ("ShameAnglesModel", "text", "[I", true)
  | 18 => ("ShameAnglesModel", "typed", "I", false)
  | 19 => ("ShameAnglesModel", "readAt", "I", false)
  | 20 => ("ShameAnglesModel", "readNumber", "I", false)
  | 21 => ("ShameAnglesModel", "before", "[I", true)
  | 22 => ("ShameAnglesModel", "ahead", "[I", true)
  | 23 => ("ShameAnglesModel", "undoMany", "I", false)
  | 24 => ("ShameAnglesModel", "aside", "[I", true)
  | 25 => ("ShameAnglesModel", "above", "J", false)
  | 26 => ("ShameAnglesModel", "below", "J", false)
  | 27 => ("ShameAnglesModel", "images", "[I", true)
  | 28 => ("ShameAnglesModel", "isKept", "[I", true)
  | _ => ("ShameAnglesModel", "h0", "J", false)
def yC10 : Nat → FieldType := fun k => match k with
  | 0 => .array .int
  | 1 => .int
  | 2 => .int
  | 3 => .int
  | 4 => .int
  | 5 => .int
  | 6 => .int
  | 7 => .int
  | 8 => .int
  | 9 => .int
  | 10 => .array .int
  | 11 => .array .int
  | 12 => .array .int
  | 13 => .array .int
  | 14 => .array .int
  | 15 => .array .int
  | 16 => .array .int
  | 17 => .array .int
  | 18 => .int
  | 19 => .int
  | 20 => .int
  | 21 => .array .int
  | 22 => .array .int
  | 23 => .int
  | 24 => .array .int
  | 25 => .long
  | 26 => .long
  | 27 => .array .int
  | 28 => .array .int
  | _ => .long
def classes : List vw_C := [(RC0, TC0, 12), (RC1, TC1, 5), (RC2, TC2, 10), (RC3, TC3, 3), (RC4, TC4, 2), (RC5, TC5, 6), (RC6, TC6, 2), (RC7, TC7, 4), (RC8, TC8, 1), (RC9, TC9, 2), (RC10, TC10, 30)]
/-- a field by its place in the pool of a method's owner -/
def FL (own : String) (idx c k : Nat) : Prop := ∃ q : vw_C, classes[c]? = some q ∧ k < q.2.2 ∧ Cond.fieldLink own idx (q.2.1 k).1 (q.2.1 k).2.1 (q.2.1 k).2.2.1 ∈ bg
/-- what is known of a kind of objects -/
def CK (c : Nat) (q : vw_C) (ty : Nat → FieldType) : Prop := classes[c]? = some q ∧ (∀ w ∈ u_ws q.1 q.2.1 q.2.2, w ∈ bg) ∧ (∀ k, k < q.2.2 → parseFieldDescriptor (q.2.1 k).2.2.1 = some (ty k)) ∧ (∀ a, a < q.2.2 → ∀ b, b < q.2.2 → a ≠ b → (q.2.1 a).2.1 ≠ (q.2.1 b).2.1) ∧ Cond.instantiable q.1 q.2.2 ∈ bg ∧ Cond.initialized q.1 ∈ bg
/-- a method: name, bytes, locals, return, number of parameters -/
abbrev Gm : Type := MethodName × ByteArray × Nat × Option FieldType × Nat
def MK (Γ : Gm) : Prop := Cond.code Γ.1 Γ.2.1 Γ.2.2.1 Γ.2.2.2.1 ∈ bg ∧ Cond.initialized Γ.1.cls ∈ bg ∧ plainFor Γ.1 = true ∧ (Γ.1.cls ≠ "java/lang/invoke/MethodHandle" ∧ Γ.1.cls ≠ "java/lang/invoke/VarHandle") ∧ (parseMethodDescriptor Γ.1.desc).map (fun d => d.parameters.length) = some Γ.2.2.2.2 ∧ Γ.2.2.1 + 19 ≤ 64
def VC (own : String) (idx : Nat) (Γ : Gm) : Prop := Cond.methodLink own idx Γ.1 ∈ bg ∧ Cond.instanceMethod Γ.1 ∈ bg ∧ Cond.selects Γ.1.cls Γ.1 Γ.1 ∈ bg
def SC (own : String) (idx : Nat) (Γ : Gm) : Prop := Cond.methodLink own idx Γ.1 ∈ bg ∧ Cond.static Γ.1 ∈ bg
def IC (own : String) (idx : Nat) (Γ : Gm) : Prop := Cond.methodLink own idx Γ.1 ∈ bg ∧ Cond.instanceMethod Γ.1 ∈ bg ∧ Γ.1.name = "<init>" ∧ Γ.2.2.2.1 = none
def nest_w : List (String × Nat × MethodName) := [("ShameAngles$State", 9, ⟨"ShameAngles$Ship", "<init>", "()V"⟩), ("ShameAngles$State", 33, ⟨"ShameAngles$Past", "<init>", "()V"⟩), ("ShameAngles", 26, ⟨"ShameAngles$Ship", "<init>", "()V"⟩), ("ShameAngles", 33, ⟨"ShameAngles$Script", "<init>", "()V"⟩), ("ShameAngles$Route", 21, ⟨"ShameAngles$Ship", "<init>", "()V"⟩), ("ShameAngles", 47, ⟨"ShameAngles$Watches", "<init>", "()V"⟩), ("ShameAngles", 54, ⟨"ShameAngles$Guesses", "<init>", "()V"⟩), ("ShameAngles", 61, ⟨"ShameAngles$Chance", "<init>", "()V"⟩)]
def INC (own : String) (idx : Nat) (Γ : Gm) : Prop := (own, idx, Γ.1) ∈ nest_w ∧ Cond.instanceMethod Γ.1 ∈ bg ∧ Γ.1.name = "<init>" ∧ Γ.2.2.2.1 = none
theorem ckw_0 : ∀ w ∈ [u_lay RC0 TC0 0, u_lay RC0 TC0 1, u_lay RC0 TC0 2, u_lay RC0 TC0 3, u_lay RC0 TC0 4, u_lay RC0 TC0 5, u_lay RC0 TC0 6, u_lay RC0 TC0 7, u_lay RC0 TC0 8, u_lay RC0 TC0 9, u_lay RC0 TC0 10, u_lay RC0 TC0 11], w ∈ bg := List.forall_mem_cons.mpr ⟨bg_m2 (List.mem_of_getElem? (i := 19) (by decide +kernel)) (by decide +kernel), List.forall_mem_cons.mpr ⟨bg_m2 (List.mem_of_getElem? (i := 21) (by decide +kernel)) (by decide +kernel), List.forall_mem_cons.mpr ⟨bg_m2 (List.mem_of_getElem? (i := 23) (by decide +kernel)) (by decide +kernel), List.forall_mem_cons.mpr ⟨bg_m2 (List.mem_of_getElem? (i := 25) (by decide +kernel)) (by decide +kernel), List.forall_mem_cons.mpr ⟨bg_m2 (List.mem_of_getElem? (i := 27) (by decide +kernel)) (by decide +kernel), List.forall_mem_cons.mpr ⟨bg_m2 (List.mem_of_getElem? (i := 29) (by decide +kernel)) (by decide +kernel), List.forall_mem_cons.mpr ⟨bg_m2 (List.mem_of_getElem? (i := 31) (by decide +kernel)) (by decide +kernel), List.forall_mem_cons.mpr ⟨bg_m2 (List.mem_of_getElem? (i := 33) (by decide +kernel)) (by decide +kernel), List.forall_mem_cons.mpr ⟨bg_m2 (List.mem_of_getElem? (i := 35) (by decide +kernel)) (by decide +kernel), List.forall_mem_cons.mpr ⟨bg_m2 (List.mem_of_getElem? (i := 37) (by decide +kernel)) (by decide +kernel), List.forall_mem_cons.mpr ⟨bg_m2 (List.mem_of_getElem? (i := 39) (by decide +kernel)) (by decide +kernel), List.forall_mem_cons.mpr ⟨bg_m2 (List.mem_of_getElem? (i := 41) (by decide +kernel)) (by decide +kernel), fun _ h => absurd h List.not_mem_nil⟩⟩⟩⟩⟩⟩⟩⟩⟩⟩⟩⟩
theorem ck_0 : CK 0 (RC0, TC0, 12) yC0 := ⟨rfl, ckw_0, by decide +kernel, by decide +kernel, bg_m1 (List.mem_of_getElem? (i := 22) (by decide +kernel)) (by decide +kernel), bg_m1 (List.mem_of_getElem? (i := 1) (by decide +kernel)) (by decide +kernel)⟩
theorem ckw_1 : ∀ w ∈ [u_lay RC1 TC1 0, u_lay RC1 TC1 1, u_lay RC1 TC1 2, u_lay RC1 TC1 3, u_lay RC1 TC1 4], w ∈ bg := List.forall_mem_cons.mpr ⟨bg_m1 (List.mem_of_getElem? (i := 144) (by decide +kernel)) (by decide +kernel), List.forall_mem_cons.mpr ⟨bg_m1 (List.mem_of_getElem? (i := 146) (by decide +kernel)) (by decide +kernel), List.forall_mem_cons.mpr ⟨bg_m1 (List.mem_of_getElem? (i := 148) (by decide +kernel)) (by decide +kernel), List.forall_mem_cons.mpr ⟨bg_m1 (List.mem_of_getElem? (i := 150) (by decide +kernel)) (by decide +kernel), List.forall_mem_cons.mpr ⟨bg_m1 (List.mem_of_getElem? (i := 152) (by decide +kernel)) (by decide +kernel), fun _ h => absurd h List.not_mem_nil⟩⟩⟩⟩⟩
theorem ck_1 : CK 1 (RC1, TC1, 5) yC1 := ⟨rfl, ckw_1, by decide +kernel, by decide +kernel, bg_m1 (List.mem_of_getElem? (i := 30) (by decide +kernel)) (by decide +kernel), bg_m1 (List.mem_of_getElem? (i := 2) (by decide +kernel)) (by decide +kernel)⟩
theorem ckw_2 : ∀ w ∈ [u_lay RC2 TC2 0, u_lay RC2 TC2 1, u_lay RC2 TC2 2, u_lay RC2 TC2 3, u_lay RC2 TC2 4, u_lay RC2 TC2 5, u_lay RC2 TC2 6, u_lay RC2 TC2 7, u_lay RC2 TC2 8, u_lay RC2 TC2 9], w ∈ bg := List.forall_mem_cons.mpr ⟨bg_m1 (List.mem_of_getElem? (i := 76) (by decide +kernel)) (by decide +kernel), List.forall_mem_cons.mpr ⟨bg_m1 (List.mem_of_getElem? (i := 78) (by decide +kernel)) (by decide +kernel), List.forall_mem_cons.mpr ⟨bg_m1 (List.mem_of_getElem? (i := 80) (by decide +kernel)) (by decide +kernel), List.forall_mem_cons.mpr ⟨bg_m1 (List.mem_of_getElem? (i := 82) (by decide +kernel)) (by decide +kernel), List.forall_mem_cons.mpr ⟨bg_m1 (List.mem_of_getElem? (i := 84) (by decide +kernel)) (by decide +kernel), List.forall_mem_cons.mpr ⟨bg_m1 (List.mem_of_getElem? (i := 86) (by decide +kernel)) (by decide +kernel), List.forall_mem_cons.mpr ⟨bg_m1 (List.mem_of_getElem? (i := 88) (by decide +kernel)) (by decide +kernel), List.forall_mem_cons.mpr ⟨bg_m1 (List.mem_of_getElem? (i := 90) (by decide +kernel)) (by decide +kernel), List.forall_mem_cons.mpr ⟨bg_m1 (List.mem_of_getElem? (i := 92) (by decide +kernel)) (by decide +kernel), List.forall_mem_cons.mpr ⟨bg_m1 (List.mem_of_getElem? (i := 94) (by decide +kernel)) (by decide +kernel), fun _ h => absurd h List.not_mem_nil⟩⟩⟩⟩⟩⟩⟩⟩⟩⟩
theorem ck_2 : CK 2 (RC2, TC2, 10) yC2 := ⟨rfl, ckw_2, by decide +kernel, by decide +kernel, bg_m1 (List.mem_of_getElem? (i := 36) (by decide +kernel)) (by decide +kernel), bg_m1 (List.mem_of_getElem? (i := 3) (by decide +kernel)) (by decide +kernel)⟩
theorem ckw_3 : ∀ w ∈ [u_lay RC3 TC3 0, u_lay RC3 TC3 1, u_lay RC3 TC3 2], w ∈ bg := List.forall_mem_cons.mpr ⟨bg_m1 (List.mem_of_getElem? (i := 110) (by decide +kernel)) (by decide +kernel), List.forall_mem_cons.mpr ⟨bg_m1 (List.mem_of_getElem? (i := 112) (by decide +kernel)) (by decide +kernel), List.forall_mem_cons.mpr ⟨bg_m1 (List.mem_of_getElem? (i := 114) (by decide +kernel)) (by decide +kernel), fun _ h => absurd h List.not_mem_nil⟩⟩⟩
theorem ck_3 : CK 3 (RC3, TC3, 3) yC3 := ⟨rfl, ckw_3, by decide +kernel, by decide +kernel, bg_m1 (List.mem_of_getElem? (i := 99) (by decide +kernel)) (by decide +kernel), bg_m1 (List.mem_of_getElem? (i := 4) (by decide +kernel)) (by decide +kernel)⟩
theorem ckw_4 : ∀ w ∈ [u_lay RC4 TC4 0, u_lay RC4 TC4 1], w ∈ bg := List.forall_mem_cons.mpr ⟨bg_m1 (List.mem_of_getElem? (i := 127) (by decide +kernel)) (by decide +kernel), List.forall_mem_cons.mpr ⟨bg_m1 (List.mem_of_getElem? (i := 129) (by decide +kernel)) (by decide +kernel), fun _ h => absurd h List.not_mem_nil⟩⟩
theorem ck_4 : CK 4 (RC4, TC4, 2) yC4 := ⟨rfl, ckw_4, by decide +kernel, by decide +kernel, bg_m1 (List.mem_of_getElem? (i := 118) (by decide +kernel)) (by decide +kernel), bg_m1 (List.mem_of_getElem? (i := 5) (by decide +kernel)) (by decide +kernel)⟩
theorem ckw_5 : ∀ w ∈ [u_lay RC5 TC5 0, u_lay RC5 TC5 1, u_lay RC5 TC5 2, u_lay RC5 TC5 3, u_lay RC5 TC5 4, u_lay RC5 TC5 5], w ∈ bg := List.forall_mem_cons.mpr ⟨bg_m1 (List.mem_of_getElem? (i := 171) (by decide +kernel)) (by decide +kernel), List.forall_mem_cons.mpr ⟨bg_m1 (List.mem_of_getElem? (i := 173) (by decide +kernel)) (by decide +kernel), List.forall_mem_cons.mpr ⟨bg_m1 (List.mem_of_getElem? (i := 175) (by decide +kernel)) (by decide +kernel), List.forall_mem_cons.mpr ⟨bg_m1 (List.mem_of_getElem? (i := 177) (by decide +kernel)) (by decide +kernel), List.forall_mem_cons.mpr ⟨bg_m1 (List.mem_of_getElem? (i := 179) (by decide +kernel)) (by decide +kernel), List.forall_mem_cons.mpr ⟨bg_m1 (List.mem_of_getElem? (i := 181) (by decide +kernel)) (by decide +kernel), fun _ h => absurd h List.not_mem_nil⟩⟩⟩⟩⟩⟩
theorem ck_5 : CK 5 (RC5, TC5, 6) yC5 := ⟨rfl, ckw_5, by decide +kernel, by decide +kernel, bg_m1 (List.mem_of_getElem? (i := 159) (by decide +kernel)) (by decide +kernel), bg_m1 (List.mem_of_getElem? (i := 6) (by decide +kernel)) (by decide +kernel)⟩
theorem ckw_6 : ∀ w ∈ [u_lay RC6 TC6 0, u_lay RC6 TC6 1], w ∈ bg := List.forall_mem_cons.mpr ⟨bg_m1 (List.mem_of_getElem? (i := 197) (by decide +kernel)) (by decide +kernel), List.forall_mem_cons.mpr ⟨bg_m1 (List.mem_of_getElem? (i := 199) (by decide +kernel)) (by decide +kernel), fun _ h => absurd h List.not_mem_nil⟩⟩
theorem ck_6 : CK 6 (RC6, TC6, 2) yC6 := ⟨rfl, ckw_6, by decide +kernel, by decide +kernel, bg_m1 (List.mem_of_getElem? (i := 186) (by decide +kernel)) (by decide +kernel), bg_m1 (List.mem_of_getElem? (i := 7) (by decide +kernel)) (by decide +kernel)⟩
theorem ckw_7 : ∀ w ∈ [u_lay RC7 TC7 0, u_lay RC7 TC7 1, u_lay RC7 TC7 2, u_lay RC7 TC7 3], w ∈ bg := List.forall_mem_cons.mpr ⟨bg_m1 (List.mem_of_getElem? (i := 213) (by decide +kernel)) (by decide +kernel), List.forall_mem_cons.mpr ⟨bg_m1 (List.mem_of_getElem? (i := 215) (by decide +kernel)) (by decide +kernel), List.forall_mem_cons.mpr ⟨bg_m1 (List.mem_of_getElem? (i := 217) (by decide +kernel)) (by decide +kernel), List.forall_mem_cons.mpr ⟨bg_m1 (List.mem_of_getElem? (i := 219) (by decide +kernel)) (by decide +kernel), fun _ h => absurd h List.not_mem_nil⟩⟩⟩⟩
theorem ck_7 : CK 7 (RC7, TC7, 4) yC7 := ⟨rfl, ckw_7, by decide +kernel, by decide +kernel, bg_m1 (List.mem_of_getElem? (i := 203) (by decide +kernel)) (by decide +kernel), bg_m1 (List.mem_of_getElem? (i := 8) (by decide +kernel)) (by decide +kernel)⟩
theorem ckw_8 : ∀ w ∈ [u_lay RC8 TC8 0], w ∈ bg := List.forall_mem_cons.mpr ⟨bg_m1 (List.mem_of_getElem? (i := 229) (by decide +kernel)) (by decide +kernel), fun _ h => absurd h List.not_mem_nil⟩
theorem ck_8 : CK 8 (RC8, TC8, 1) yC8 := ⟨rfl, ckw_8, by decide +kernel, by decide +kernel, bg_m1 (List.mem_of_getElem? (i := 223) (by decide +kernel)) (by decide +kernel), bg_m1 (List.mem_of_getElem? (i := 9) (by decide +kernel)) (by decide +kernel)⟩
theorem ckw_9 : ∀ w ∈ [u_lay RC9 TC9 0, u_lay RC9 TC9 1], w ∈ bg := List.forall_mem_cons.mpr ⟨bg_m2 (List.mem_of_getElem? (i := 2) (by decide +kernel)) (by decide +kernel), List.forall_mem_cons.mpr ⟨bg_m2 (List.mem_of_getElem? (i := 4) (by decide +kernel)) (by decide +kernel), fun _ h => absurd h List.not_mem_nil⟩⟩
theorem ck_9 : CK 9 (RC9, TC9, 2) yC9 := ⟨rfl, ckw_9, by decide +kernel, by decide +kernel, bg_m1 (List.mem_of_getElem? (i := 233) (by decide +kernel)) (by decide +kernel), bg_m1 (List.mem_of_getElem? (i := 10) (by decide +kernel)) (by decide +kernel)⟩
theorem ckw_10 : ∀ w ∈ [u_lay RC10 TC10 0, u_lay RC10 TC10 1, u_lay RC10 TC10 2, u_lay RC10 TC10 3, u_lay RC10 TC10 4, u_lay RC10 TC10 5, u_lay RC10 TC10 6, u_lay RC10 TC10 7, u_lay RC10 TC10 8, u_lay RC10 TC10 9, u_lay RC10 TC10 10, u_lay RC10 TC10 11, u_lay RC10 TC10 12, u_lay RC10 TC10 13, u_lay RC10 TC10 14, u_lay RC10 TC10 15, u_lay RC10 TC10 16, u_lay RC10 TC10 17, u_lay RC10 TC10 18, u_lay RC10 TC10 19, u_lay RC10 TC10 20, u_lay RC10 TC10 21, u_lay RC10 TC10 22, u_lay RC10 TC10 23, u_lay RC10 TC10 24, u_lay RC10 TC10 25, u_lay RC10 TC10 26, u_lay RC10 TC10 27, u_lay RC10 TC10 28, u_lay RC10 TC10 29], w ∈ bg := List.forall_mem_cons.mpr ⟨bg_m4 (List.mem_of_getElem? (i := 189) (by decide +kernel)) (by decide +kernel), List.forall_mem_cons.mpr ⟨bg_m4 (List.mem_of_getElem? (i := 191) (by decide +kernel)) (by decide +kernel), List.forall_mem_cons.mpr ⟨bg_m4 (List.mem_of_getElem? (i := 193) (by decide +kernel)) (by decide +kernel), List.forall_mem_cons.mpr ⟨bg_m4 (List.mem_of_getElem? (i := 195) (by decide +kernel)) (by decide +kernel), List.forall_mem_cons.mpr ⟨bg_m4 (List.mem_of_getElem? (i := 197) (by decide +kernel)) (by decide +kernel), List.forall_mem_cons.mpr ⟨bg_m4 (List.mem_of_getElem? (i := 199) (by decide +kernel)) (by decide +kernel), List.forall_mem_cons.mpr ⟨bg_m4 (List.mem_of_getElem? (i := 201) (by decide +kernel)) (by decide +kernel), List.forall_mem_cons.mpr ⟨bg_m4 (List.mem_of_getElem? (i := 203) (by decide +kernel)) (by decide +kernel), List.forall_mem_cons.mpr ⟨bg_m4 (List.mem_of_getElem? (i := 205) (by decide +kernel)) (by decide +kernel), List.forall_mem_cons.mpr ⟨bg_m4 (List.mem_of_getElem? (i := 207) (by decide +kernel)) (by decide +kernel), List.forall_mem_cons.mpr ⟨bg_m4 (List.mem_of_getElem? (i := 209) (by decide +kernel)) (by decide +kernel), List.forall_mem_cons.mpr ⟨bg_m4 (List.mem_of_getElem? (i := 211) (by decide +kernel)) (by decide +kernel), List.forall_mem_cons.mpr ⟨bg_m4 (List.mem_of_getElem? (i := 213) (by decide +kernel)) (by decide +kernel), List.forall_mem_cons.mpr ⟨bg_m4 (List.mem_of_getElem? (i := 215) (by decide +kernel)) (by decide +kernel), List.forall_mem_cons.mpr ⟨bg_m4 (List.mem_of_getElem? (i := 217) (by decide +kernel)) (by decide +kernel), List.forall_mem_cons.mpr ⟨bg_m4 (List.mem_of_getElem? (i := 219) (by decide +kernel)) (by decide +kernel), List.forall_mem_cons.mpr ⟨bg_m4 (List.mem_of_getElem? (i := 221) (by decide +kernel)) (by decide +kernel), List.forall_mem_cons.mpr ⟨bg_m4 (List.mem_of_getElem? (i := 223) (by decide +kernel)) (by decide +kernel), List.forall_mem_cons.mpr ⟨bg_m4 (List.mem_of_getElem? (i := 225) (by decide +kernel)) (by decide +kernel), List.forall_mem_cons.mpr ⟨bg_m4 (List.mem_of_getElem? (i := 227) (by decide +kernel)) (by decide +kernel), List.forall_mem_cons.mpr ⟨bg_m4 (List.mem_of_getElem? (i := 229) (by decide +kernel)) (by decide +kernel), List.forall_mem_cons.mpr ⟨bg_m4 (List.mem_of_getElem? (i := 231) (by decide +kernel)) (by decide +kernel), List.forall_mem_cons.mpr ⟨bg_m4 (List.mem_of_getElem? (i := 233) (by decide +kernel)) (by decide +kernel), List.forall_mem_cons.mpr ⟨bg_m4 (List.mem_of_getElem? (i := 235) (by decide +kernel)) (by decide +kernel), List.forall_mem_cons.mpr ⟨bg_m4 (List.mem_of_getElem? (i := 237) (by decide +kernel)) (by decide +kernel), List.forall_mem_cons.mpr ⟨bg_m4 (List.mem_of_getElem? (i := 239) (by decide +kernel)) (by decide +kernel), List.forall_mem_cons.mpr ⟨bg_m5 (List.mem_of_getElem? (i := 1) (by decide +kernel)) (by decide +kernel), List.forall_mem_cons.mpr ⟨bg_m5 (List.mem_of_getElem? (i := 3) (by decide +kernel)) (by decide +kernel), List.forall_mem_cons.mpr ⟨bg_m5 (List.mem_of_getElem? (i := 5) (by decide +kernel)) (by decide +kernel), List.forall_mem_cons.mpr ⟨bg_m5 (List.mem_of_getElem? (i := 7) (by decide +kernel)) (by decide +kernel), fun _ h => absurd h List.not_mem_nil⟩⟩⟩⟩⟩⟩⟩⟩⟩⟩⟩⟩⟩⟩⟩⟩⟩⟩⟩⟩⟩⟩⟩⟩⟩⟩⟩⟩⟩⟩
theorem ck_10 : CK 10 (RC10, TC10, 30) yC10 := ⟨rfl, ckw_10, by decide +kernel, by decide +kernel, bg_m4 (List.mem_of_getElem? (i := 150) (by decide +kernel)) (by decide +kernel), bg_m1 (List.mem_of_getElem? (i := 11) (by decide +kernel)) (by decide +kernel)⟩
def G_A_init : Gm := (⟨"ShameAngles", "<init>", "()V"⟩, prog_1_method_1_code, 2, none, 0)
theorem mk_A_init : MK G_A_init := ⟨bg_m1 (List.mem_of_getElem? (i := 25) (by decide +kernel)) (by decide +kernel), bg_m1 (List.mem_of_getElem? (i := 1) (by decide +kernel)) (by decide +kernel), by decide +kernel, ⟨by decide +kernel, by decide +kernel⟩, by decide +kernel, by decide⟩
def G_S_init : Gm := (⟨"ShameAngles$State", "<init>", "()V"⟩, prog_11_method_1_code, 1, none, 0)
theorem mk_S_init : MK G_S_init := ⟨bg_m1 (List.mem_of_getElem? (i := 33) (by decide +kernel)) (by decide +kernel), bg_m1 (List.mem_of_getElem? (i := 2) (by decide +kernel)) (by decide +kernel), by decide +kernel, ⟨by decide +kernel, by decide +kernel⟩, by decide +kernel, by decide⟩
def G_H_init : Gm := (⟨"ShameAngles$Ship", "<init>", "()V"⟩, prog_10_method_1_code, 1, none, 0)
theorem mk_H_init : MK G_H_init := ⟨bg_m1 (List.mem_of_getElem? (i := 39) (by decide +kernel)) (by decide +kernel), bg_m1 (List.mem_of_getElem? (i := 3) (by decide +kernel)) (by decide +kernel), by decide +kernel, ⟨by decide +kernel, by decide +kernel⟩, by decide +kernel, by decide⟩
def G_R_init : Gm := (⟨"ShameAngles$Rows", "<init>", "(I)V"⟩, prog_8_method_1_code, 2, none, 1)
theorem mk_R_init : MK G_R_init := ⟨bg_m1 (List.mem_of_getElem? (i := 102) (by decide +kernel)) (by decide +kernel), bg_m1 (List.mem_of_getElem? (i := 4) (by decide +kernel)) (by decide +kernel), by decide +kernel, ⟨by decide +kernel, by decide +kernel⟩, by decide +kernel, by decide⟩
def G_P_init : Gm := (⟨"ShameAngles$Past", "<init>", "()V"⟩, prog_6_method_1_code, 1, none, 0)
theorem mk_P_init : MK G_P_init := ⟨bg_m1 (List.mem_of_getElem? (i := 121) (by decide +kernel)) (by decide +kernel), bg_m1 (List.mem_of_getElem? (i := 5) (by decide +kernel)) (by decide +kernel), by decide +kernel, ⟨by decide +kernel, by decide +kernel⟩, by decide +kernel, by decide⟩
def G_T_init : Gm := (⟨"ShameAngles$Script", "<init>", "()V"⟩, prog_9_method_1_code, 1, none, 0)
theorem mk_T_init : MK G_T_init := ⟨bg_m1 (List.mem_of_getElem? (i := 162) (by decide +kernel)) (by decide +kernel), bg_m1 (List.mem_of_getElem? (i := 6) (by decide +kernel)) (by decide +kernel), by decide +kernel, ⟨by decide +kernel, by decide +kernel⟩, by decide +kernel, by decide⟩
def G_O_init : Gm := (⟨"ShameAngles$Route", "<init>", "()V"⟩, prog_7_method_1_code, 2, none, 0)
theorem mk_O_init : MK G_O_init := ⟨bg_m1 (List.mem_of_getElem? (i := 189) (by decide +kernel)) (by decide +kernel), bg_m1 (List.mem_of_getElem? (i := 7) (by decide +kernel)) (by decide +kernel), by decide +kernel, ⟨by decide +kernel, by decide +kernel⟩, by decide +kernel, by decide⟩
def G_W_init : Gm := (⟨"ShameAngles$Watches", "<init>", "()V"⟩, prog_12_method_1_code, 1, none, 0)
theorem mk_W_init : MK G_W_init := ⟨bg_m1 (List.mem_of_getElem? (i := 206) (by decide +kernel)) (by decide +kernel), bg_m1 (List.mem_of_getElem? (i := 8) (by decide +kernel)) (by decide +kernel), by decide +kernel, ⟨by decide +kernel, by decide +kernel⟩, by decide +kernel, by decide⟩
def G_G_init : Gm := (⟨"ShameAngles$Guesses", "<init>", "()V"⟩, prog_4_method_1_code, 1, none, 0)
theorem mk_G_init : MK G_G_init := ⟨bg_m1 (List.mem_of_getElem? (i := 226) (by decide +kernel)) (by decide +kernel), bg_m1 (List.mem_of_getElem? (i := 9) (by decide +kernel)) (by decide +kernel), by decide +kernel, ⟨by decide +kernel, by decide +kernel⟩, by decide +kernel, by decide⟩
def G_C_init : Gm := (⟨"ShameAngles$Chance", "<init>", "()V"⟩, prog_2_method_1_code, 1, none, 0)
theorem mk_C_init : MK G_C_init := ⟨bg_m1 (List.mem_of_getElem? (i := 236) (by decide +kernel)) (by decide +kernel), bg_m1 (List.mem_of_getElem? (i := 10) (by decide +kernel)) (by decide +kernel), by decide +kernel, ⟨by decide +kernel, by decide +kernel⟩, by decide +kernel, by decide⟩
def G_A_ship : Gm := (⟨"ShameAngles", "ship", "(I)I"⟩, prog_1_method_2_code, 3, some .int, 1)
theorem mk_A_ship : MK G_A_ship := ⟨bg_m2 (List.mem_of_getElem? (i := 47) (by decide +kernel)) (by decide +kernel), bg_m1 (List.mem_of_getElem? (i := 1) (by decide +kernel)) (by decide +kernel), by decide +kernel, ⟨by decide +kernel, by decide +kernel⟩, by decide +kernel, by decide⟩
def G_A_within : Gm := (⟨"ShameAngles", "within", "(III)Z"⟩, prog_1_method_43_code, 3, some .boolean, 3)
theorem mk_A_within : MK G_A_within := ⟨bg_m2 (List.mem_of_getElem? (i := 50) (by decide +kernel)) (by decide +kernel), bg_m1 (List.mem_of_getElem? (i := 1) (by decide +kernel)) (by decide +kernel), by decide +kernel, ⟨by decide +kernel, by decide +kernel⟩, by decide +kernel, by decide⟩
def G_A_bad : Gm := (⟨"ShameAngles", "bad", "(I)I"⟩, prog_1_method_44_code, 2, some .int, 1)
theorem mk_A_bad : MK G_A_bad := ⟨bg_m2 (List.mem_of_getElem? (i := 54) (by decide +kernel)) (by decide +kernel), bg_m1 (List.mem_of_getElem? (i := 1) (by decide +kernel)) (by decide +kernel), by decide +kernel, ⟨by decide +kernel, by decide +kernel⟩, by decide +kernel, by decide⟩
def G_S_begin : Gm := (⟨"ShameAngles$State", "begin", "(I)V"⟩, prog_11_method_2_code, 2, none, 1)
theorem mk_S_begin : MK G_S_begin := ⟨bg_m2 (List.mem_of_getElem? (i := 58) (by decide +kernel)) (by decide +kernel), bg_m1 (List.mem_of_getElem? (i := 2) (by decide +kernel)) (by decide +kernel), by decide +kernel, ⟨by decide +kernel, by decide +kernel⟩, by decide +kernel, by decide⟩
def G_H_begin : Gm := (⟨"ShameAngles$Ship", "begin", "(I)V"⟩, prog_10_method_2_code, 3, none, 1)
theorem mk_H_begin : MK G_H_begin := ⟨bg_m2 (List.mem_of_getElem? (i := 62) (by decide +kernel)) (by decide +kernel), bg_m1 (List.mem_of_getElem? (i := 3) (by decide +kernel)) (by decide +kernel), by decide +kernel, ⟨by decide +kernel, by decide +kernel⟩, by decide +kernel, by decide⟩
def G_A_fog : Gm := (⟨"ShameAngles", "fog", "(II)I"⟩, prog_1_method_3_code, 4, some .int, 2)
theorem mk_A_fog : MK G_A_fog := ⟨bg_m2 (List.mem_of_getElem? (i := 66) (by decide +kernel)) (by decide +kernel), bg_m1 (List.mem_of_getElem? (i := 1) (by decide +kernel)) (by decide +kernel), by decide +kernel, ⟨by decide +kernel, by decide +kernel⟩, by decide +kernel, by decide⟩
def G_A_man : Gm := (⟨"ShameAngles", "man", "(II)I"⟩, prog_1_method_4_code, 3, some .int, 2)
theorem mk_A_man : MK G_A_man := ⟨bg_m2 (List.mem_of_getElem? (i := 70) (by decide +kernel)) (by decide +kernel), bg_m1 (List.mem_of_getElem? (i := 1) (by decide +kernel)) (by decide +kernel), by decide +kernel, ⟨by decide +kernel, by decide +kernel⟩, by decide +kernel, by decide⟩
def G_A_full : Gm := (⟨"ShameAngles", "full", "()I"⟩, prog_1_method_46_code, 1, some .int, 0)
theorem mk_A_full : MK G_A_full := ⟨bg_m2 (List.mem_of_getElem? (i := 74) (by decide +kernel)) (by decide +kernel), bg_m1 (List.mem_of_getElem? (i := 1) (by decide +kernel)) (by decide +kernel), by decide +kernel, ⟨by decide +kernel, by decide +kernel⟩, by decide +kernel, by decide⟩
def G_H_addMan : Gm := (⟨"ShameAngles$Ship", "addMan", "(II)I"⟩, prog_10_method_7_code, 3, some .int, 2)
theorem mk_H_addMan : MK G_H_addMan := ⟨bg_m2 (List.mem_of_getElem? (i := 78) (by decide +kernel)) (by decide +kernel), bg_m1 (List.mem_of_getElem? (i := 3) (by decide +kernel)) (by decide +kernel), by decide +kernel, ⟨by decide +kernel, by decide +kernel⟩, by decide +kernel, by decide⟩
def G_A_reader : Gm := (⟨"ShameAngles", "reader", "(I)I"⟩, prog_1_method_5_code, 2, some .int, 1)
theorem mk_A_reader : MK G_A_reader := ⟨bg_m2 (List.mem_of_getElem? (i := 82) (by decide +kernel)) (by decide +kernel), bg_m1 (List.mem_of_getElem? (i := 1) (by decide +kernel)) (by decide +kernel), by decide +kernel, ⟨by decide +kernel, by decide +kernel⟩, by decide +kernel, by decide⟩
def G_H_addReader : Gm := (⟨"ShameAngles$Ship", "addReader", "(I)I"⟩, prog_10_method_8_code, 2, some .int, 1)
theorem mk_H_addReader : MK G_H_addReader := ⟨bg_m2 (List.mem_of_getElem? (i := 86) (by decide +kernel)) (by decide +kernel), bg_m1 (List.mem_of_getElem? (i := 3) (by decide +kernel)) (by decide +kernel), by decide +kernel, ⟨by decide +kernel, by decide +kernel⟩, by decide +kernel, by decide⟩
def G_A_type : Gm := (⟨"ShameAngles", "type", "(I)I"⟩, prog_1_method_6_code, 2, some .int, 1)
theorem mk_A_type : MK G_A_type := ⟨bg_m2 (List.mem_of_getElem? (i := 90) (by decide +kernel)) (by decide +kernel), bg_m1 (List.mem_of_getElem? (i := 1) (by decide +kernel)) (by decide +kernel), by decide +kernel, ⟨by decide +kernel, by decide +kernel⟩, by decide +kernel, by decide⟩
def G_T_add : Gm := (⟨"ShameAngles$Script", "add", "(I)I"⟩, prog_9_method_2_code, 2, some .int, 1)
theorem mk_T_add : MK G_T_add := ⟨bg_m2 (List.mem_of_getElem? (i := 94) (by decide +kernel)) (by decide +kernel), bg_m1 (List.mem_of_getElem? (i := 6) (by decide +kernel)) (by decide +kernel), by decide +kernel, ⟨by decide +kernel, by decide +kernel⟩, by decide +kernel, by decide⟩
def G_A_clear : Gm := (⟨"ShameAngles", "clear", "()I"⟩, prog_1_method_7_code, 2, some .int, 0)
theorem mk_A_clear : MK G_A_clear := ⟨bg_m2 (List.mem_of_getElem? (i := 98) (by decide +kernel)) (by decide +kernel), bg_m1 (List.mem_of_getElem? (i := 1) (by decide +kernel)) (by decide +kernel), by decide +kernel, ⟨by decide +kernel, by decide +kernel⟩, by decide +kernel, by decide⟩
def G_A_read : Gm := (⟨"ShameAngles", "read", "()I"⟩, prog_1_method_8_code, 2, some .int, 0)
theorem mk_A_read : MK G_A_read := ⟨bg_m2 (List.mem_of_getElem? (i := 102) (by decide +kernel)) (by decide +kernel), bg_m1 (List.mem_of_getElem? (i := 1) (by decide +kernel)) (by decide +kernel), by decide +kernel, ⟨by decide +kernel, by decide +kernel⟩, by decide +kernel, by decide⟩
def G_T_tell : Gm := (⟨"ShameAngles$Script", "tell", "(LShameAngles$Ship;)I"⟩, prog_9_method_3_code, 3, some .int, 1)
theorem mk_T_tell : MK G_T_tell := ⟨bg_m2 (List.mem_of_getElem? (i := 106) (by decide +kernel)) (by decide +kernel), bg_m1 (List.mem_of_getElem? (i := 6) (by decide +kernel)) (by decide +kernel), by decide +kernel, ⟨by decide +kernel, by decide +kernel⟩, by decide +kernel, by decide⟩
def G_T_advance : Gm := (⟨"ShameAngles$Script", "advance", "()V"⟩, prog_9_method_14_code, 1, none, 0)
theorem mk_T_advance : MK G_T_advance := ⟨bg_m2 (List.mem_of_getElem? (i := 110) (by decide +kernel)) (by decide +kernel), bg_m1 (List.mem_of_getElem? (i := 6) (by decide +kernel)) (by decide +kernel), by decide +kernel, ⟨by decide +kernel, by decide +kernel⟩, by decide +kernel, by decide⟩
def G_T_isLetter : Gm := (⟨"ShameAngles$Script", "isLetter", "(I)Z"⟩, prog_9_method_17_code, 1, some .boolean, 1)
theorem mk_T_isLetter : MK G_T_isLetter := ⟨bg_m2 (List.mem_of_getElem? (i := 113) (by decide +kernel)) (by decide +kernel), bg_m1 (List.mem_of_getElem? (i := 6) (by decide +kernel)) (by decide +kernel), by decide +kernel, ⟨by decide +kernel, by decide +kernel⟩, by decide +kernel, by decide⟩
def G_T_advanceWord : Gm := (⟨"ShameAngles$Script", "advanceWord", "()V"⟩, prog_9_method_15_code, 1, none, 0)
theorem mk_T_advanceWord : MK G_T_advanceWord := ⟨bg_m2 (List.mem_of_getElem? (i := 117) (by decide +kernel)) (by decide +kernel), bg_m1 (List.mem_of_getElem? (i := 6) (by decide +kernel)) (by decide +kernel), by decide +kernel, ⟨by decide +kernel, by decide +kernel⟩, by decide +kernel, by decide⟩
def G_T_isFigure : Gm := (⟨"ShameAngles$Script", "isFigure", "(I)Z"⟩, prog_9_method_18_code, 1, some .boolean, 1)
theorem mk_T_isFigure : MK G_T_isFigure := ⟨bg_m2 (List.mem_of_getElem? (i := 120) (by decide +kernel)) (by decide +kernel), bg_m1 (List.mem_of_getElem? (i := 6) (by decide +kernel)) (by decide +kernel), by decide +kernel, ⟨by decide +kernel, by decide +kernel⟩, by decide +kernel, by decide⟩
def G_T_advanceNumber : Gm := (⟨"ShameAngles$Script", "advanceNumber", "()V"⟩, prog_9_method_16_code, 1, none, 0)
theorem mk_T_advanceNumber : MK G_T_advanceNumber := ⟨bg_m2 (List.mem_of_getElem? (i := 124) (by decide +kernel)) (by decide +kernel), bg_m1 (List.mem_of_getElem? (i := 6) (by decide +kernel)) (by decide +kernel), by decide +kernel, ⟨by decide +kernel, by decide +kernel⟩, by decide +kernel, by decide⟩
def G_T_item : Gm := (⟨"ShameAngles$Script", "item", "(LShameAngles$Ship;Z)Z"⟩, prog_9_method_4_code, 4, some .boolean, 2)
theorem mk_T_item : MK G_T_item := ⟨bg_m2 (List.mem_of_getElem? (i := 128) (by decide +kernel)) (by decide +kernel), bg_m1 (List.mem_of_getElem? (i := 6) (by decide +kernel)) (by decide +kernel), by decide +kernel, ⟨by decide +kernel, by decide +kernel⟩, by decide +kernel, by decide⟩
def G_T_wordIs : Gm := (⟨"ShameAngles$Script", "wordIs", "(Ljava/lang/String;)Z"⟩, prog_9_method_13_code, 3, some .boolean, 1)
theorem mk_T_wordIs : MK G_T_wordIs := ⟨bg_m2 (List.mem_of_getElem? (i := 133) (by decide +kernel)) (by decide +kernel), bg_m1 (List.mem_of_getElem? (i := 6) (by decide +kernel)) (by decide +kernel), by decide +kernel, ⟨by decide +kernel, by decide +kernel⟩, by decide +kernel, by decide⟩
def G_J_length : Gm := (⟨"java/lang/String", "length", "()I"⟩, prog_17_method_54_code, 1, some .int, 0)
theorem mk_J_length : MK G_J_length := ⟨bg_m2 (List.mem_of_getElem? (i := 137) (by decide +kernel)) (by decide +kernel), bg_m1 (List.mem_of_getElem? (i := 12) (by decide +kernel)) (by decide +kernel), by decide +kernel, ⟨by decide +kernel, by decide +kernel⟩, by decide +kernel, by decide⟩
def G_J_coder : Gm := (⟨"java/lang/String", "coder", "()B"⟩, prog_17_method_152_code, 1, some .byte, 0)
theorem mk_J_coder : MK G_J_coder := ⟨bg_m2 (List.mem_of_getElem? (i := 141) (by decide +kernel)) (by decide +kernel), bg_m1 (List.mem_of_getElem? (i := 12) (by decide +kernel)) (by decide +kernel), by decide +kernel, ⟨by decide +kernel, by decide +kernel⟩, by decide +kernel, by decide⟩
def G_J_charAt : Gm := (⟨"java/lang/String", "charAt", "(I)C"⟩, prog_17_method_56_code, 2, some .char, 1)
theorem mk_J_charAt : MK G_J_charAt := ⟨bg_m2 (List.mem_of_getElem? (i := 147) (by decide +kernel)) (by decide +kernel), bg_m1 (List.mem_of_getElem? (i := 12) (by decide +kernel)) (by decide +kernel), by decide +kernel, ⟨by decide +kernel, by decide +kernel⟩, by decide +kernel, by decide⟩
def G_J_isLatin1 : Gm := (⟨"java/lang/String", "isLatin1", "()Z"⟩, prog_17_method_154_code, 1, some .boolean, 0)
theorem mk_J_isLatin1 : MK G_J_isLatin1 := ⟨bg_m2 (List.mem_of_getElem? (i := 151) (by decide +kernel)) (by decide +kernel), bg_m1 (List.mem_of_getElem? (i := 12) (by decide +kernel)) (by decide +kernel), by decide +kernel, ⟨by decide +kernel, by decide +kernel⟩, by decide +kernel, by decide⟩
def G_JL_charAt : Gm := (⟨"java/lang/StringLatin1", "charAt", "([BI)C"⟩, prog_18_method_2_code, 2, some .char, 2)
theorem mk_JL_charAt : MK G_JL_charAt := ⟨bg_m2 (List.mem_of_getElem? (i := 154) (by decide +kernel)) (by decide +kernel), bg_m1 (List.mem_of_getElem? (i := 13) (by decide +kernel)) (by decide +kernel), by decide +kernel, ⟨by decide +kernel, by decide +kernel⟩, by decide +kernel, by decide⟩
def G_J_checkIndex : Gm := (⟨"java/lang/String", "checkIndex", "(II)V"⟩, prog_17_method_155_code, 2, none, 2)
theorem mk_J_checkIndex : MK G_J_checkIndex := ⟨bg_m2 (List.mem_of_getElem? (i := 157) (by decide +kernel)) (by decide +kernel), bg_m1 (List.mem_of_getElem? (i := 12) (by decide +kernel)) (by decide +kernel), by decide +kernel, ⟨by decide +kernel, by decide +kernel⟩, by decide +kernel, by decide⟩
def G_JP_checkIndex : Gm := (⟨"jdk/internal/util/Preconditions", "checkIndex", "(IILjava/util/function/BiFunction;)I"⟩, prog_21_method_11_code, 3, some .int, 3)
theorem mk_JP_checkIndex : MK G_JP_checkIndex := ⟨bg_m2 (List.mem_of_getElem? (i := 162) (by decide +kernel)) (by decide +kernel), bg_m1 (List.mem_of_getElem? (i := 14) (by decide +kernel)) (by decide +kernel), by decide +kernel, ⟨by decide +kernel, by decide +kernel⟩, by decide +kernel, by decide⟩
def G_T_shipItem : Gm := (⟨"ShameAngles$Script", "shipItem", "(LShameAngles$Ship;)Z"⟩, prog_9_method_5_code, 3, some .boolean, 1)
theorem mk_T_shipItem : MK G_T_shipItem := ⟨bg_m2 (List.mem_of_getElem? (i := 185) (by decide +kernel)) (by decide +kernel), bg_m1 (List.mem_of_getElem? (i := 6) (by decide +kernel)) (by decide +kernel), by decide +kernel, ⟨by decide +kernel, by decide +kernel⟩, by decide +kernel, by decide⟩
def G_T_number : Gm := (⟨"ShameAngles$Script", "number", "(II)I"⟩, prog_9_method_12_code, 4, some .int, 2)
theorem mk_T_number : MK G_T_number := ⟨bg_m2 (List.mem_of_getElem? (i := 189) (by decide +kernel)) (by decide +kernel), bg_m1 (List.mem_of_getElem? (i := 6) (by decide +kernel)) (by decide +kernel), by decide +kernel, ⟨by decide +kernel, by decide +kernel⟩, by decide +kernel, by decide⟩
def G_T_ended : Gm := (⟨"ShameAngles$Script", "ended", "()Z"⟩, prog_9_method_11_code, 1, some .boolean, 0)
theorem mk_T_ended : MK G_T_ended := ⟨bg_m2 (List.mem_of_getElem? (i := 193) (by decide +kernel)) (by decide +kernel), bg_m1 (List.mem_of_getElem? (i := 6) (by decide +kernel)) (by decide +kernel), by decide +kernel, ⟨by decide +kernel, by decide +kernel⟩, by decide +kernel, by decide⟩
def G_T_fogItem : Gm := (⟨"ShameAngles$Script", "fogItem", "(LShameAngles$Ship;)Z"⟩, prog_9_method_6_code, 4, some .boolean, 1)
theorem mk_T_fogItem : MK G_T_fogItem := ⟨bg_m2 (List.mem_of_getElem? (i := 199) (by decide +kernel)) (by decide +kernel), bg_m1 (List.mem_of_getElem? (i := 6) (by decide +kernel)) (by decide +kernel), by decide +kernel, ⟨by decide +kernel, by decide +kernel⟩, by decide +kernel, by decide⟩
def G_T_manItem : Gm := (⟨"ShameAngles$Script", "manItem", "(LShameAngles$Ship;)Z"⟩, prog_9_method_7_code, 4, some .boolean, 1)
theorem mk_T_manItem : MK G_T_manItem := ⟨bg_m2 (List.mem_of_getElem? (i := 204) (by decide +kernel)) (by decide +kernel), bg_m1 (List.mem_of_getElem? (i := 6) (by decide +kernel)) (by decide +kernel), by decide +kernel, ⟨by decide +kernel, by decide +kernel⟩, by decide +kernel, by decide⟩
def G_T_readerItem : Gm := (⟨"ShameAngles$Script", "readerItem", "(LShameAngles$Ship;)Z"⟩, prog_9_method_8_code, 3, some .boolean, 1)
theorem mk_T_readerItem : MK G_T_readerItem := ⟨bg_m2 (List.mem_of_getElem? (i := 210) (by decide +kernel)) (by decide +kernel), bg_m1 (List.mem_of_getElem? (i := 6) (by decide +kernel)) (by decide +kernel), by decide +kernel, ⟨by decide +kernel, by decide +kernel⟩, by decide +kernel, by decide⟩
def G_T_deedItem : Gm := (⟨"ShameAngles$Script", "deedItem", "(LShameAngles$Ship;)Z"⟩, prog_9_method_9_code, 4, some .boolean, 1)
theorem mk_T_deedItem : MK G_T_deedItem := ⟨bg_m2 (List.mem_of_getElem? (i := 216) (by decide +kernel)) (by decide +kernel), bg_m1 (List.mem_of_getElem? (i := 6) (by decide +kernel)) (by decide +kernel), by decide +kernel, ⟨by decide +kernel, by decide +kernel⟩, by decide +kernel, by decide⟩
def G_H_addShame : Gm := (⟨"ShameAngles$Ship", "addShame", "(II)V"⟩, prog_10_method_9_code, 3, none, 2)
theorem mk_H_addShame : MK G_H_addShame := ⟨bg_m2 (List.mem_of_getElem? (i := 220) (by decide +kernel)) (by decide +kernel), bg_m1 (List.mem_of_getElem? (i := 3) (by decide +kernel)) (by decide +kernel), by decide +kernel, ⟨by decide +kernel, by decide +kernel⟩, by decide +kernel, by decide⟩
def G_H_hasMan : Gm := (⟨"ShameAngles$Ship", "hasMan", "(I)Z"⟩, prog_10_method_4_code, 2, some .boolean, 1)
theorem mk_H_hasMan : MK G_H_hasMan := ⟨bg_m2 (List.mem_of_getElem? (i := 224) (by decide +kernel)) (by decide +kernel), bg_m1 (List.mem_of_getElem? (i := 3) (by decide +kernel)) (by decide +kernel), by decide +kernel, ⟨by decide +kernel, by decide +kernel⟩, by decide +kernel, by decide⟩
def G_J_min : Gm := (⟨"java/lang/Math", "min", "(II)I"⟩, prog_16_method_69_code, 2, some .int, 2)
theorem mk_J_min : MK G_J_min := ⟨bg_m2 (List.mem_of_getElem? (i := 227) (by decide +kernel)) (by decide +kernel), bg_m1 (List.mem_of_getElem? (i := 16) (by decide +kernel)) (by decide +kernel), by decide +kernel, ⟨by decide +kernel, by decide +kernel⟩, by decide +kernel, by decide⟩
def G_T_noonItem : Gm := (⟨"ShameAngles$Script", "noonItem", "(LShameAngles$Ship;)Z"⟩, prog_9_method_10_code, 6, some .boolean, 1)
theorem mk_T_noonItem : MK G_T_noonItem := ⟨bg_m2 (List.mem_of_getElem? (i := 232) (by decide +kernel)) (by decide +kernel), bg_m1 (List.mem_of_getElem? (i := 6) (by decide +kernel)) (by decide +kernel), by decide +kernel, ⟨by decide +kernel, by decide +kernel⟩, by decide +kernel, by decide⟩
def G_H_sail : Gm := (⟨"ShameAngles$Ship", "sail", "(II)V"⟩, prog_10_method_15_code, 5, none, 2)
theorem mk_H_sail : MK G_H_sail := ⟨bg_m2 (List.mem_of_getElem? (i := 236) (by decide +kernel)) (by decide +kernel), bg_m1 (List.mem_of_getElem? (i := 3) (by decide +kernel)) (by decide +kernel), by decide +kernel, ⟨by decide +kernel, by decide +kernel⟩, by decide +kernel, by decide⟩
def G_H_errorOf : Gm := (⟨"ShameAngles$Ship", "errorOf", "(II)I"⟩, prog_10_method_13_code, 6, some .int, 2)
theorem mk_H_errorOf : MK G_H_errorOf := ⟨bg_m3 (List.mem_of_getElem? (i := 0) (by decide +kernel)) (by decide +kernel), bg_m1 (List.mem_of_getElem? (i := 3) (by decide +kernel)) (by decide +kernel), by decide +kernel, ⟨by decide +kernel, by decide +kernel⟩, by decide +kernel, by decide⟩
def G_H_hasReader : Gm := (⟨"ShameAngles$Ship", "hasReader", "(I)Z"⟩, prog_10_method_5_code, 2, some .boolean, 1)
theorem mk_H_hasReader : MK G_H_hasReader := ⟨bg_m3 (List.mem_of_getElem? (i := 4) (by decide +kernel)) (by decide +kernel), bg_m1 (List.mem_of_getElem? (i := 3) (by decide +kernel)) (by decide +kernel), by decide +kernel, ⟨by decide +kernel, by decide +kernel⟩, by decide +kernel, by decide⟩
def G_H_foggy : Gm := (⟨"ShameAngles$Ship", "foggy", "()Z"⟩, prog_10_method_10_code, 1, some .boolean, 0)
theorem mk_H_foggy : MK G_H_foggy := ⟨bg_m3 (List.mem_of_getElem? (i := 8) (by decide +kernel)) (by decide +kernel), bg_m1 (List.mem_of_getElem? (i := 3) (by decide +kernel)) (by decide +kernel), by decide +kernel, ⟨by decide +kernel, by decide +kernel⟩, by decide +kernel, by decide⟩
def G_K_stands : Gm := (⟨"ShameAngles$Kinds", "stands", "(III)I"⟩, prog_5_method_2_code, 6, some .int, 3)
theorem mk_K_stands : MK G_K_stands := ⟨bg_m3 (List.mem_of_getElem? (i := 11) (by decide +kernel)) (by decide +kernel), bg_m1 (List.mem_of_getElem? (i := 17) (by decide +kernel)) (by decide +kernel), by decide +kernel, ⟨by decide +kernel, by decide +kernel⟩, by decide +kernel, by decide⟩
def G_K_sees : Gm := (⟨"ShameAngles$Kinds", "sees", "(III)I"⟩, prog_5_method_3_code, 6, some .int, 3)
theorem mk_K_sees : MK G_K_sees := ⟨bg_m3 (List.mem_of_getElem? (i := 14) (by decide +kernel)) (by decide +kernel), bg_m1 (List.mem_of_getElem? (i := 17) (by decide +kernel)) (by decide +kernel), by decide +kernel, ⟨by decide +kernel, by decide +kernel⟩, by decide +kernel, by decide⟩
def G_H_placeBehind : Gm := (⟨"ShameAngles$Ship", "placeBehind", "(I)I"⟩, prog_10_method_14_code, 2, some .int, 1)
theorem mk_H_placeBehind : MK G_H_placeBehind := ⟨bg_m3 (List.mem_of_getElem? (i := 18) (by decide +kernel)) (by decide +kernel), bg_m1 (List.mem_of_getElem? (i := 3) (by decide +kernel)) (by decide +kernel), by decide +kernel, ⟨by decide +kernel, by decide +kernel⟩, by decide +kernel, by decide⟩
def G_J_floorMod : Gm := (⟨"java/lang/Math", "floorMod", "(II)I"⟩, prog_16_method_50_code, 3, some .int, 2)
theorem mk_J_floorMod : MK G_J_floorMod := ⟨bg_m3 (List.mem_of_getElem? (i := 21) (by decide +kernel)) (by decide +kernel), bg_m1 (List.mem_of_getElem? (i := 16) (by decide +kernel)) (by decide +kernel), by decide +kernel, ⟨by decide +kernel, by decide +kernel⟩, by decide +kernel, by decide⟩
def G_J_max : Gm := (⟨"java/lang/Math", "max", "(II)I"⟩, prog_16_method_65_code, 2, some .int, 2)
theorem mk_J_max : MK G_J_max := ⟨bg_m3 (List.mem_of_getElem? (i := 24) (by decide +kernel)) (by decide +kernel), bg_m1 (List.mem_of_getElem? (i := 16) (by decide +kernel)) (by decide +kernel), by decide +kernel, ⟨by decide +kernel, by decide +kernel⟩, by decide +kernel, by decide⟩
def G_H_copy : Gm := (⟨"ShameAngles$Ship", "copy", "(LShameAngles$Ship;)V"⟩, prog_10_method_3_code, 2, none, 1)
theorem mk_H_copy : MK G_H_copy := ⟨bg_m3 (List.mem_of_getElem? (i := 28) (by decide +kernel)) (by decide +kernel), bg_m1 (List.mem_of_getElem? (i := 3) (by decide +kernel)) (by decide +kernel), by decide +kernel, ⟨by decide +kernel, by decide +kernel⟩, by decide +kernel, by decide⟩
def G_A_noon : Gm := (⟨"ShameAngles", "noon", "(II)I"⟩, prog_1_method_9_code, 4, some .int, 2)
theorem mk_A_noon : MK G_A_noon := ⟨bg_m3 (List.mem_of_getElem? (i := 36) (by decide +kernel)) (by decide +kernel), bg_m1 (List.mem_of_getElem? (i := 1) (by decide +kernel)) (by decide +kernel), by decide +kernel, ⟨by decide +kernel, by decide +kernel⟩, by decide +kernel, by decide⟩
def G_H_hasSet : Gm := (⟨"ShameAngles$Ship", "hasSet", "(I)Z"⟩, prog_10_method_6_code, 2, some .boolean, 1)
theorem mk_H_hasSet : MK G_H_hasSet := ⟨bg_m3 (List.mem_of_getElem? (i := 40) (by decide +kernel)) (by decide +kernel), bg_m1 (List.mem_of_getElem? (i := 3) (by decide +kernel)) (by decide +kernel), by decide +kernel, ⟨by decide +kernel, by decide +kernel⟩, by decide +kernel, by decide⟩
def G_A_no : Gm := (⟨"ShameAngles", "no", "()I"⟩, prog_1_method_45_code, 1, some .int, 0)
theorem mk_A_no : MK G_A_no := ⟨bg_m3 (List.mem_of_getElem? (i := 45) (by decide +kernel)) (by decide +kernel), bg_m1 (List.mem_of_getElem? (i := 1) (by decide +kernel)) (by decide +kernel), by decide +kernel, ⟨by decide +kernel, by decide +kernel⟩, by decide +kernel, by decide⟩
def G_P_push : Gm := (⟨"ShameAngles$Past", "push", "(LShameAngles$Ship;)V"⟩, prog_6_method_2_code, 3, none, 1)
theorem mk_P_push : MK G_P_push := ⟨bg_m3 (List.mem_of_getElem? (i := 49) (by decide +kernel)) (by decide +kernel), bg_m1 (List.mem_of_getElem? (i := 5) (by decide +kernel)) (by decide +kernel), by decide +kernel, ⟨by decide +kernel, by decide +kernel⟩, by decide +kernel, by decide⟩
def G_A_deed : Gm := (⟨"ShameAngles", "deed", "(II)I"⟩, prog_1_method_10_code, 4, some .int, 2)
theorem mk_A_deed : MK G_A_deed := ⟨bg_m3 (List.mem_of_getElem? (i := 55) (by decide +kernel)) (by decide +kernel), bg_m1 (List.mem_of_getElem? (i := 1) (by decide +kernel)) (by decide +kernel), by decide +kernel, ⟨by decide +kernel, by decide +kernel⟩, by decide +kernel, by decide⟩
def G_A_undo : Gm := (⟨"ShameAngles", "undo", "()I"⟩, prog_1_method_11_code, 1, some .int, 0)
theorem mk_A_undo : MK G_A_undo := ⟨bg_m3 (List.mem_of_getElem? (i := 61) (by decide +kernel)) (by decide +kernel), bg_m1 (List.mem_of_getElem? (i := 1) (by decide +kernel)) (by decide +kernel), by decide +kernel, ⟨by decide +kernel, by decide +kernel⟩, by decide +kernel, by decide⟩
def G_P_pop : Gm := (⟨"ShameAngles$Past", "pop", "(LShameAngles$Ship;)V"⟩, prog_6_method_3_code, 3, none, 1)
theorem mk_P_pop : MK G_P_pop := ⟨bg_m3 (List.mem_of_getElem? (i := 65) (by decide +kernel)) (by decide +kernel), bg_m1 (List.mem_of_getElem? (i := 5) (by decide +kernel)) (by decide +kernel), by decide +kernel, ⟨by decide +kernel, by decide +kernel⟩, by decide +kernel, by decide⟩
def G_A_now : Gm := (⟨"ShameAngles", "now", "(I)I"⟩, prog_1_method_12_code, 3, some .int, 1)
theorem mk_A_now : MK G_A_now := ⟨bg_m3 (List.mem_of_getElem? (i := 69) (by decide +kernel)) (by decide +kernel), bg_m1 (List.mem_of_getElem? (i := 1) (by decide +kernel)) (by decide +kernel), by decide +kernel, ⟨by decide +kernel, by decide +kernel⟩, by decide +kernel, by decide⟩
def G_A_of : Gm := (⟨"ShameAngles", "of", "(II)I"⟩, prog_1_method_13_code, 3, some .int, 2)
theorem mk_A_of : MK G_A_of := ⟨bg_m3 (List.mem_of_getElem? (i := 74) (by decide +kernel)) (by decide +kernel), bg_m1 (List.mem_of_getElem? (i := 1) (by decide +kernel)) (by decide +kernel), by decide +kernel, ⟨by decide +kernel, by decide +kernel⟩, by decide +kernel, by decide⟩
def G_A_angle : Gm := (⟨"ShameAngles", "angle", "(I)I"⟩, prog_1_method_14_code, 2, some .int, 1)
theorem mk_A_angle : MK G_A_angle := ⟨bg_m3 (List.mem_of_getElem? (i := 78) (by decide +kernel)) (by decide +kernel), bg_m1 (List.mem_of_getElem? (i := 1) (by decide +kernel)) (by decide +kernel), by decide +kernel, ⟨by decide +kernel, by decide +kernel⟩, by decide +kernel, by decide⟩
def G_H_angleOf : Gm := (⟨"ShameAngles$Ship", "angleOf", "(I)I"⟩, prog_10_method_11_code, 2, some .int, 1)
theorem mk_H_angleOf : MK G_H_angleOf := ⟨bg_m3 (List.mem_of_getElem? (i := 82) (by decide +kernel)) (by decide +kernel), bg_m1 (List.mem_of_getElem? (i := 3) (by decide +kernel)) (by decide +kernel), by decide +kernel, ⟨by decide +kernel, by decide +kernel⟩, by decide +kernel, by decide⟩
def G_A_reads : Gm := (⟨"ShameAngles", "reads", "(II)I"⟩, prog_1_method_15_code, 3, some .int, 2)
theorem mk_A_reads : MK G_A_reads := ⟨bg_m3 (List.mem_of_getElem? (i := 86) (by decide +kernel)) (by decide +kernel), bg_m1 (List.mem_of_getElem? (i := 1) (by decide +kernel)) (by decide +kernel), by decide +kernel, ⟨by decide +kernel, by decide +kernel⟩, by decide +kernel, by decide⟩
def G_H_sightOf : Gm := (⟨"ShameAngles$Ship", "sightOf", "(II)I"⟩, prog_10_method_12_code, 3, some .int, 2)
theorem mk_H_sightOf : MK G_H_sightOf := ⟨bg_m3 (List.mem_of_getElem? (i := 90) (by decide +kernel)) (by decide +kernel), bg_m1 (List.mem_of_getElem? (i := 3) (by decide +kernel)) (by decide +kernel), by decide +kernel, ⟨by decide +kernel, by decide +kernel⟩, by decide +kernel, by decide⟩
def G_A_error : Gm := (⟨"ShameAngles", "error", "(II)I"⟩, prog_1_method_16_code, 3, some .int, 2)
theorem mk_A_error : MK G_A_error := ⟨bg_m3 (List.mem_of_getElem? (i := 95) (by decide +kernel)) (by decide +kernel), bg_m1 (List.mem_of_getElem? (i := 1) (by decide +kernel)) (by decide +kernel), by decide +kernel, ⟨by decide +kernel, by decide +kernel⟩, by decide +kernel, by decide⟩
def G_A_off : Gm := (⟨"ShameAngles", "off", "()I"⟩, prog_1_method_17_code, 1, some .int, 0)
theorem mk_A_off : MK G_A_off := ⟨bg_m3 (List.mem_of_getElem? (i := 100) (by decide +kernel)) (by decide +kernel), bg_m1 (List.mem_of_getElem? (i := 1) (by decide +kernel)) (by decide +kernel), by decide +kernel, ⟨by decide +kernel, by decide +kernel⟩, by decide +kernel, by decide⟩
def G_H_drift : Gm := (⟨"ShameAngles$Ship", "drift", "()I"⟩, prog_10_method_16_code, 1, some .int, 0)
theorem mk_H_drift : MK G_H_drift := ⟨bg_m3 (List.mem_of_getElem? (i := 104) (by decide +kernel)) (by decide +kernel), bg_m1 (List.mem_of_getElem? (i := 3) (by decide +kernel)) (by decide +kernel), by decide +kernel, ⟨by decide +kernel, by decide +kernel⟩, by decide +kernel, by decide⟩
def G_A_then : Gm := (⟨"ShameAngles", "then", "(III)I"⟩, prog_1_method_18_code, 5, some .int, 3)
theorem mk_A_then : MK G_A_then := ⟨bg_m3 (List.mem_of_getElem? (i := 108) (by decide +kernel)) (by decide +kernel), bg_m1 (List.mem_of_getElem? (i := 1) (by decide +kernel)) (by decide +kernel), by decide +kernel, ⟨by decide +kernel, by decide +kernel⟩, by decide +kernel, by decide⟩
def G_A_when : Gm := (⟨"ShameAngles", "when", "(II)I"⟩, prog_1_method_19_code, 4, some .int, 2)
theorem mk_A_when : MK G_A_when := ⟨bg_m3 (List.mem_of_getElem? (i := 112) (by decide +kernel)) (by decide +kernel), bg_m1 (List.mem_of_getElem? (i := 1) (by decide +kernel)) (by decide +kernel), by decide +kernel, ⟨by decide +kernel, by decide +kernel⟩, by decide +kernel, by decide⟩
def G_A_best : Gm := (⟨"ShameAngles", "best", "(III)I"⟩, prog_1_method_20_code, 6, some .int, 3)
theorem mk_A_best : MK G_A_best := ⟨bg_m3 (List.mem_of_getElem? (i := 116) (by decide +kernel)) (by decide +kernel), bg_m1 (List.mem_of_getElem? (i := 1) (by decide +kernel)) (by decide +kernel), by decide +kernel, ⟨by decide +kernel, by decide +kernel⟩, by decide +kernel, by decide⟩
def G_X_leastOff : Gm := (⟨"ShameAngles$Choices", "leastOff", "(LShameAngles$Ship;II)I"⟩, prog_3_method_2_code, 7, some .int, 3)
theorem mk_X_leastOff : MK G_X_leastOff := ⟨bg_m3 (List.mem_of_getElem? (i := 119) (by decide +kernel)) (by decide +kernel), bg_m1 (List.mem_of_getElem? (i := 19) (by decide +kernel)) (by decide +kernel), by decide +kernel, ⟨by decide +kernel, by decide +kernel⟩, by decide +kernel, by decide⟩
def G_J_bitCount : Gm := (⟨"java/lang/Integer", "bitCount", "(I)I"⟩, prog_15_method_49_code, 1, some .int, 1)
theorem mk_J_bitCount : MK G_J_bitCount := ⟨bg_m3 (List.mem_of_getElem? (i := 122) (by decide +kernel)) (by decide +kernel), bg_m1 (List.mem_of_getElem? (i := 20) (by decide +kernel)) (by decide +kernel), by decide +kernel, ⟨by decide +kernel, by decide +kernel⟩, by decide +kernel, by decide⟩
def G_J_abs : Gm := (⟨"java/lang/Math", "abs", "(I)I"⟩, prog_16_method_59_code, 1, some .int, 1)
theorem mk_J_abs : MK G_J_abs := ⟨bg_m3 (List.mem_of_getElem? (i := 129) (by decide +kernel)) (by decide +kernel), bg_m1 (List.mem_of_getElem? (i := 16) (by decide +kernel)) (by decide +kernel), by decide +kernel, ⟨by decide +kernel, by decide +kernel⟩, by decide +kernel, by decide⟩
def G_A_fewest : Gm := (⟨"ShameAngles", "fewest", "(II)I"⟩, prog_1_method_21_code, 3, some .int, 2)
theorem mk_A_fewest : MK G_A_fewest := ⟨bg_m3 (List.mem_of_getElem? (i := 134) (by decide +kernel)) (by decide +kernel), bg_m1 (List.mem_of_getElem? (i := 1) (by decide +kernel)) (by decide +kernel), by decide +kernel, ⟨by decide +kernel, by decide +kernel⟩, by decide +kernel, by decide⟩
def G_X_fewestOff : Gm := (⟨"ShameAngles$Choices", "fewestOff", "(LShameAngles$Ship;II)I"⟩, prog_3_method_3_code, 6, some .int, 3)
theorem mk_X_fewestOff : MK G_X_fewestOff := ⟨bg_m3 (List.mem_of_getElem? (i := 137) (by decide +kernel)) (by decide +kernel), bg_m1 (List.mem_of_getElem? (i := 19) (by decide +kernel)) (by decide +kernel), by decide +kernel, ⟨by decide +kernel, by decide +kernel⟩, by decide +kernel, by decide⟩
def G_A_cape : Gm := (⟨"ShameAngles", "cape", "(III)I"⟩, prog_1_method_22_code, 5, some .int, 3)
theorem mk_A_cape : MK G_A_cape := ⟨bg_m3 (List.mem_of_getElem? (i := 141) (by decide +kernel)) (by decide +kernel), bg_m1 (List.mem_of_getElem? (i := 1) (by decide +kernel)) (by decide +kernel), by decide +kernel, ⟨by decide +kernel, by decide +kernel⟩, by decide +kernel, by decide⟩
def G_O_fewestNoons : Gm := (⟨"ShameAngles$Route", "fewestNoons", "(LShameAngles$Ship;II)I"⟩, prog_7_method_2_code, 5, some .int, 3)
theorem mk_O_fewestNoons : MK G_O_fewestNoons := ⟨bg_m3 (List.mem_of_getElem? (i := 145) (by decide +kernel)) (by decide +kernel), bg_m1 (List.mem_of_getElem? (i := 7) (by decide +kernel)) (by decide +kernel), by decide +kernel, ⟨by decide +kernel, by decide +kernel⟩, by decide +kernel, by decide⟩
def G_O_arrives : Gm := (⟨"ShameAngles$Route", "arrives", "(LShameAngles$Route;IIII)Z"⟩, prog_7_method_3_code, 9, some .boolean, 5)
theorem mk_O_arrives : MK G_O_arrives := ⟨bg_m3 (List.mem_of_getElem? (i := 149) (by decide +kernel)) (by decide +kernel), bg_m1 (List.mem_of_getElem? (i := 7) (by decide +kernel)) (by decide +kernel), by decide +kernel, ⟨by decide +kernel, by decide +kernel⟩, by decide +kernel, by decide⟩
def G_O_mayArrive : Gm := (⟨"ShameAngles$Route", "mayArrive", "(LShameAngles$Ship;III)Z"⟩, prog_7_method_4_code, 7, some .boolean, 4)
theorem mk_O_mayArrive : MK G_O_mayArrive := ⟨bg_m3 (List.mem_of_getElem? (i := 152) (by decide +kernel)) (by decide +kernel), bg_m1 (List.mem_of_getElem? (i := 7) (by decide +kernel)) (by decide +kernel), by decide +kernel, ⟨by decide +kernel, by decide +kernel⟩, by decide +kernel, by decide⟩
def G_A_watch : Gm := (⟨"ShameAngles", "watch", "(I)I"⟩, prog_1_method_23_code, 3, some .int, 1)
theorem mk_A_watch : MK G_A_watch := ⟨bg_m3 (List.mem_of_getElem? (i := 165) (by decide +kernel)) (by decide +kernel), bg_m1 (List.mem_of_getElem? (i := 1) (by decide +kernel)) (by decide +kernel), by decide +kernel, ⟨by decide +kernel, by decide +kernel⟩, by decide +kernel, by decide⟩
def G_W_ways : Gm := (⟨"ShameAngles$Watches", "ways", "(LShameAngles$Ship;)I"⟩, prog_12_method_2_code, 2, some .int, 1)
theorem mk_W_ways : MK G_W_ways := ⟨bg_m3 (List.mem_of_getElem? (i := 169) (by decide +kernel)) (by decide +kernel), bg_m1 (List.mem_of_getElem? (i := 8) (by decide +kernel)) (by decide +kernel), by decide +kernel, ⟨by decide +kernel, by decide +kernel⟩, by decide +kernel, by decide⟩
def G_W_assign : Gm := (⟨"ShameAngles$Watches", "assign", "(LShameAngles$Watches;LShameAngles$Ship;I)V"⟩, prog_12_method_3_code, 5, none, 3)
theorem mk_W_assign : MK G_W_assign := ⟨bg_m3 (List.mem_of_getElem? (i := 172) (by decide +kernel)) (by decide +kernel), bg_m1 (List.mem_of_getElem? (i := 8) (by decide +kernel)) (by decide +kernel), by decide +kernel, ⟨by decide +kernel, by decide +kernel⟩, by decide +kernel, by decide⟩
def G_W_keep : Gm := (⟨"ShameAngles$Watches", "keep", "()V"⟩, prog_12_method_5_code, 1, none, 0)
theorem mk_W_keep : MK G_W_keep := ⟨bg_m3 (List.mem_of_getElem? (i := 176) (by decide +kernel)) (by decide +kernel), bg_m1 (List.mem_of_getElem? (i := 8) (by decide +kernel)) (by decide +kernel), by decide +kernel, ⟨by decide +kernel, by decide +kernel⟩, by decide +kernel, by decide⟩
def G_W_isTaken : Gm := (⟨"ShameAngles$Watches", "isTaken", "(II)Z"⟩, prog_12_method_4_code, 4, some .boolean, 2)
theorem mk_W_isTaken : MK G_W_isTaken := ⟨bg_m3 (List.mem_of_getElem? (i := 182) (by decide +kernel)) (by decide +kernel), bg_m1 (List.mem_of_getElem? (i := 8) (by decide +kernel)) (by decide +kernel), by decide +kernel, ⟨by decide +kernel, by decide +kernel⟩, by decide +kernel, by decide⟩
def G_A_mutiny : Gm := (⟨"ShameAngles", "mutiny", "(I)I"⟩, prog_1_method_24_code, 2, some .int, 1)
theorem mk_A_mutiny : MK G_A_mutiny := ⟨bg_m3 (List.mem_of_getElem? (i := 186) (by decide +kernel)) (by decide +kernel), bg_m1 (List.mem_of_getElem? (i := 1) (by decide +kernel)) (by decide +kernel), by decide +kernel, ⟨by decide +kernel, by decide +kernel⟩, by decide +kernel, by decide⟩
def G_X_mostAlike : Gm := (⟨"ShameAngles$Choices", "mostAlike", "(LShameAngles$Ship;I)I"⟩, prog_3_method_4_code, 6, some .int, 2)
theorem mk_X_mostAlike : MK G_X_mostAlike := ⟨bg_m3 (List.mem_of_getElem? (i := 189) (by decide +kernel)) (by decide +kernel), bg_m1 (List.mem_of_getElem? (i := 19) (by decide +kernel)) (by decide +kernel), by decide +kernel, ⟨by decide +kernel, by decide +kernel⟩, by decide +kernel, by decide⟩
def G_A_seen : Gm := (⟨"ShameAngles", "seen", "(III)I"⟩, prog_1_method_25_code, 4, some .int, 3)
theorem mk_A_seen : MK G_A_seen := ⟨bg_m3 (List.mem_of_getElem? (i := 194) (by decide +kernel)) (by decide +kernel), bg_m1 (List.mem_of_getElem? (i := 1) (by decide +kernel)) (by decide +kernel), by decide +kernel, ⟨by decide +kernel, by decide +kernel⟩, by decide +kernel, by decide⟩
def G_R_isFull : Gm := (⟨"ShameAngles$Rows", "isFull", "()Z"⟩, prog_8_method_2_code, 1, some .boolean, 0)
theorem mk_R_isFull : MK G_R_isFull := ⟨bg_m3 (List.mem_of_getElem? (i := 198) (by decide +kernel)) (by decide +kernel), bg_m1 (List.mem_of_getElem? (i := 4) (by decide +kernel)) (by decide +kernel), by decide +kernel, ⟨by decide +kernel, by decide +kernel⟩, by decide +kernel, by decide⟩
def G_R_add : Gm := (⟨"ShameAngles$Rows", "add", "(IIII)I"⟩, prog_8_method_3_code, 6, some .int, 4)
theorem mk_R_add : MK G_R_add := ⟨bg_m3 (List.mem_of_getElem? (i := 202) (by decide +kernel)) (by decide +kernel), bg_m1 (List.mem_of_getElem? (i := 4) (by decide +kernel)) (by decide +kernel), by decide +kernel, ⟨by decide +kernel, by decide +kernel⟩, by decide +kernel, by decide⟩
def G_A_began : Gm := (⟨"ShameAngles", "began", "(II)I"⟩, prog_1_method_26_code, 3, some .int, 2)
theorem mk_A_began : MK G_A_began := ⟨bg_m3 (List.mem_of_getElem? (i := 207) (by decide +kernel)) (by decide +kernel), bg_m1 (List.mem_of_getElem? (i := 1) (by decide +kernel)) (by decide +kernel), by decide +kernel, ⟨by decide +kernel, by decide +kernel⟩, by decide +kernel, by decide⟩
def G_G_howManyBegan : Gm := (⟨"ShameAngles$Guesses", "howManyBegan", "(LShameAngles$State;I)I"⟩, prog_4_method_2_code, 4, some .int, 2)
theorem mk_G_howManyBegan : MK G_G_howManyBegan := ⟨bg_m3 (List.mem_of_getElem? (i := 210) (by decide +kernel)) (by decide +kernel), bg_m1 (List.mem_of_getElem? (i := 9) (by decide +kernel)) (by decide +kernel), by decide +kernel, ⟨by decide +kernel, by decide +kernel⟩, by decide +kernel, by decide⟩
def G_G_mayHaveBegun : Gm := (⟨"ShameAngles$Guesses", "mayHaveBegun", "(LShameAngles$State;II)Z"⟩, prog_4_method_5_code, 7, some .boolean, 3)
theorem mk_G_mayHaveBegun : MK G_G_mayHaveBegun := ⟨bg_m3 (List.mem_of_getElem? (i := 213) (by decide +kernel)) (by decide +kernel), bg_m1 (List.mem_of_getElem? (i := 9) (by decide +kernel)) (by decide +kernel), by decide +kernel, ⟨by decide +kernel, by decide +kernel⟩, by decide +kernel, by decide⟩
def G_R_cell : Gm := (⟨"ShameAngles$Rows", "cell", "(II)I"⟩, prog_8_method_4_code, 4, some .int, 2)
theorem mk_R_cell : MK G_R_cell := ⟨bg_m3 (List.mem_of_getElem? (i := 218) (by decide +kernel)) (by decide +kernel), bg_m1 (List.mem_of_getElem? (i := 4) (by decide +kernel)) (by decide +kernel), by decide +kernel, ⟨by decide +kernel, by decide +kernel⟩, by decide +kernel, by decide⟩
def G_H_shameBy : Gm := (⟨"ShameAngles$Ship", "shameBy", "(II)I"⟩, prog_10_method_18_code, 5, some .int, 2)
theorem mk_H_shameBy : MK G_H_shameBy := ⟨bg_m3 (List.mem_of_getElem? (i := 222) (by decide +kernel)) (by decide +kernel), bg_m1 (List.mem_of_getElem? (i := 3) (by decide +kernel)) (by decide +kernel), by decide +kernel, ⟨by decide +kernel, by decide +kernel⟩, by decide +kernel, by decide⟩
def G_G_leastBegan : Gm := (⟨"ShameAngles$Guesses", "leastBegan", "(LShameAngles$State;I)I"⟩, prog_4_method_3_code, 3, some .int, 2)
theorem mk_G_leastBegan : MK G_G_leastBegan := ⟨bg_m3 (List.mem_of_getElem? (i := 226) (by decide +kernel)) (by decide +kernel), bg_m1 (List.mem_of_getElem? (i := 9) (by decide +kernel)) (by decide +kernel), by decide +kernel, ⟨by decide +kernel, by decide +kernel⟩, by decide +kernel, by decide⟩
def G_G_greatestBegan : Gm := (⟨"ShameAngles$Guesses", "greatestBegan", "(LShameAngles$State;I)I"⟩, prog_4_method_4_code, 3, some .int, 2)
theorem mk_G_greatestBegan : MK G_G_greatestBegan := ⟨bg_m3 (List.mem_of_getElem? (i := 229) (by decide +kernel)) (by decide +kernel), bg_m1 (List.mem_of_getElem? (i := 9) (by decide +kernel)) (by decide +kernel), by decide +kernel, ⟨by decide +kernel, by decide +kernel⟩, by decide +kernel, by decide⟩
def G_A_note : Gm := (⟨"ShameAngles", "note", "(IIII)I"⟩, prog_1_method_27_code, 5, some .int, 4)
theorem mk_A_note : MK G_A_note := ⟨bg_m3 (List.mem_of_getElem? (i := 233) (by decide +kernel)) (by decide +kernel), bg_m1 (List.mem_of_getElem? (i := 1) (by decide +kernel)) (by decide +kernel), by decide +kernel, ⟨by decide +kernel, by decide +kernel⟩, by decide +kernel, by decide⟩
def G_A_mark : Gm := (⟨"ShameAngles", "mark", "(IIII)I"⟩, prog_1_method_28_code, 5, some .int, 4)
theorem mk_A_mark : MK G_A_mark := ⟨bg_m3 (List.mem_of_getElem? (i := 237) (by decide +kernel)) (by decide +kernel), bg_m1 (List.mem_of_getElem? (i := 1) (by decide +kernel)) (by decide +kernel), by decide +kernel, ⟨by decide +kernel, by decide +kernel⟩, by decide +kernel, by decide⟩
def G_A_forget : Gm := (⟨"ShameAngles", "forget", "(I)I"⟩, prog_1_method_29_code, 2, some .int, 1)
theorem mk_A_forget : MK G_A_forget := ⟨bg_m4 (List.mem_of_getElem? (i := 1) (by decide +kernel)) (by decide +kernel), bg_m1 (List.mem_of_getElem? (i := 1) (by decide +kernel)) (by decide +kernel), by decide +kernel, ⟨by decide +kernel, by decide +kernel⟩, by decide +kernel, by decide⟩
def G_R_empty : Gm := (⟨"ShameAngles$Rows", "empty", "()I"⟩, prog_8_method_5_code, 2, some .int, 0)
theorem mk_R_empty : MK G_R_empty := ⟨bg_m4 (List.mem_of_getElem? (i := 5) (by decide +kernel)) (by decide +kernel), bg_m1 (List.mem_of_getElem? (i := 4) (by decide +kernel)) (by decide +kernel), by decide +kernel, ⟨by decide +kernel, by decide +kernel⟩, by decide +kernel, by decide⟩
def G_A_is : Gm := (⟨"ShameAngles", "is", "(I)I"⟩, prog_1_method_30_code, 2, some .int, 1)
theorem mk_A_is : MK G_A_is := ⟨bg_m4 (List.mem_of_getElem? (i := 9) (by decide +kernel)) (by decide +kernel), bg_m1 (List.mem_of_getElem? (i := 1) (by decide +kernel)) (by decide +kernel), by decide +kernel, ⟨by decide +kernel, by decide +kernel⟩, by decide +kernel, by decide⟩
def G_G_kindsThatFit : Gm := (⟨"ShameAngles$Guesses", "kindsThatFit", "(LShameAngles$Rows;IZ)I"⟩, prog_4_method_6_code, 5, some .int, 3)
theorem mk_G_kindsThatFit : MK G_G_kindsThatFit := ⟨bg_m4 (List.mem_of_getElem? (i := 12) (by decide +kernel)) (by decide +kernel), bg_m1 (List.mem_of_getElem? (i := 9) (by decide +kernel)) (by decide +kernel), by decide +kernel, ⟨by decide +kernel, by decide +kernel⟩, by decide +kernel, by decide⟩
def G_G_fits : Gm := (⟨"ShameAngles$Guesses", "fits", "(LShameAngles$Rows;IZI)Z"⟩, prog_4_method_7_code, 6, some .boolean, 4)
theorem mk_G_fits : MK G_G_fits := ⟨bg_m4 (List.mem_of_getElem? (i := 15) (by decide +kernel)) (by decide +kernel), bg_m1 (List.mem_of_getElem? (i := 9) (by decide +kernel)) (by decide +kernel), by decide +kernel, ⟨by decide +kernel, by decide +kernel⟩, by decide +kernel, by decide⟩
def G_K_makes : Gm := (⟨"ShameAngles$Kinds", "makes", "(ZIII)I"⟩, prog_5_method_4_code, 4, some .int, 4)
theorem mk_K_makes : MK G_K_makes := ⟨bg_m4 (List.mem_of_getElem? (i := 18) (by decide +kernel)) (by decide +kernel), bg_m1 (List.mem_of_getElem? (i := 17) (by decide +kernel)) (by decide +kernel), by decide +kernel, ⟨by decide +kernel, by decide +kernel⟩, by decide +kernel, by decide⟩
def G_A_look : Gm := (⟨"ShameAngles", "look", "(I)I"⟩, prog_1_method_31_code, 2, some .int, 1)
theorem mk_A_look : MK G_A_look := ⟨bg_m4 (List.mem_of_getElem? (i := 24) (by decide +kernel)) (by decide +kernel), bg_m1 (List.mem_of_getElem? (i := 1) (by decide +kernel)) (by decide +kernel), by decide +kernel, ⟨by decide +kernel, by decide +kernel⟩, by decide +kernel, by decide⟩
def G_G_nextLook : Gm := (⟨"ShameAngles$Guesses", "nextLook", "(I)I"⟩, prog_4_method_8_code, 7, some .int, 1)
theorem mk_G_nextLook : MK G_G_nextLook := ⟨bg_m4 (List.mem_of_getElem? (i := 28) (by decide +kernel)) (by decide +kernel), bg_m1 (List.mem_of_getElem? (i := 9) (by decide +kernel)) (by decide +kernel), by decide +kernel, ⟨by decide +kernel, by decide +kernel⟩, by decide +kernel, by decide⟩
def G_G_mostAlike : Gm := (⟨"ShameAngles$Guesses", "mostAlike", "(IZII)I"⟩, prog_4_method_10_code, 9, some .int, 4)
theorem mk_G_mostAlike : MK G_G_mostAlike := ⟨bg_m4 (List.mem_of_getElem? (i := 32) (by decide +kernel)) (by decide +kernel), bg_m1 (List.mem_of_getElem? (i := 9) (by decide +kernel)) (by decide +kernel), by decide +kernel, ⟨by decide +kernel, by decide +kernel⟩, by decide +kernel, by decide⟩
def G_A_kinds : Gm := (⟨"ShameAngles", "kinds", "(I)I"⟩, prog_1_method_32_code, 2, some .int, 1)
theorem mk_A_kinds : MK G_A_kinds := ⟨bg_m4 (List.mem_of_getElem? (i := 37) (by decide +kernel)) (by decide +kernel), bg_m1 (List.mem_of_getElem? (i := 1) (by decide +kernel)) (by decide +kernel), by decide +kernel, ⟨by decide +kernel, by decide +kernel⟩, by decide +kernel, by decide⟩
def G_A_ask : Gm := (⟨"ShameAngles", "ask", "(I)I"⟩, prog_1_method_33_code, 2, some .int, 1)
theorem mk_A_ask : MK G_A_ask := ⟨bg_m4 (List.mem_of_getElem? (i := 41) (by decide +kernel)) (by decide +kernel), bg_m1 (List.mem_of_getElem? (i := 1) (by decide +kernel)) (by decide +kernel), by decide +kernel, ⟨by decide +kernel, by decide +kernel⟩, by decide +kernel, by decide⟩
def G_G_nextAsk : Gm := (⟨"ShameAngles$Guesses", "nextAsk", "(I)I"⟩, prog_4_method_9_code, 7, some .int, 1)
theorem mk_G_nextAsk : MK G_G_nextAsk := ⟨bg_m4 (List.mem_of_getElem? (i := 45) (by decide +kernel)) (by decide +kernel), bg_m1 (List.mem_of_getElem? (i := 9) (by decide +kernel)) (by decide +kernel), by decide +kernel, ⟨by decide +kernel, by decide +kernel⟩, by decide +kernel, by decide⟩
def G_A_officers : Gm := (⟨"ShameAngles", "officers", "(II)I"⟩, prog_1_method_34_code, 4, some .int, 2)
theorem mk_A_officers : MK G_A_officers := ⟨bg_m4 (List.mem_of_getElem? (i := 49) (by decide +kernel)) (by decide +kernel), bg_m1 (List.mem_of_getElem? (i := 1) (by decide +kernel)) (by decide +kernel), by decide +kernel, ⟨by decide +kernel, by decide +kernel⟩, by decide +kernel, by decide⟩
def G_X_restingPairs : Gm := (⟨"ShameAngles$Choices", "restingPairs", "(LShameAngles$Ship;II)I"⟩, prog_3_method_5_code, 6, some .int, 3)
theorem mk_X_restingPairs : MK G_X_restingPairs := ⟨bg_m4 (List.mem_of_getElem? (i := 52) (by decide +kernel)) (by decide +kernel), bg_m1 (List.mem_of_getElem? (i := 19) (by decide +kernel)) (by decide +kernel), by decide +kernel, ⟨by decide +kernel, by decide +kernel⟩, by decide +kernel, by decide⟩
def G_X_rests : Gm := (⟨"ShameAngles$Choices", "rests", "(LShameAngles$Ship;III)Z"⟩, prog_3_method_6_code, 7, some .boolean, 4)
theorem mk_X_rests : MK G_X_rests := ⟨bg_m4 (List.mem_of_getElem? (i := 55) (by decide +kernel)) (by decide +kernel), bg_m1 (List.mem_of_getElem? (i := 19) (by decide +kernel)) (by decide +kernel), by decide +kernel, ⟨by decide +kernel, by decide +kernel⟩, by decide +kernel, by decide⟩
def G_X_farOff : Gm := (⟨"ShameAngles$Choices", "farOff", "(LShameAngles$Ship;III)I"⟩, prog_3_method_7_code, 4, some .int, 4)
theorem mk_X_farOff : MK G_X_farOff := ⟨bg_m4 (List.mem_of_getElem? (i := 58) (by decide +kernel)) (by decide +kernel), bg_m1 (List.mem_of_getElem? (i := 19) (by decide +kernel)) (by decide +kernel), by decide +kernel, ⟨by decide +kernel, by decide +kernel⟩, by decide +kernel, by decide⟩
def G_A_slips : Gm := (⟨"ShameAngles", "slips", "(III)I"⟩, prog_1_method_35_code, 5, some .int, 3)
theorem mk_A_slips : MK G_A_slips := ⟨bg_m4 (List.mem_of_getElem? (i := 63) (by decide +kernel)) (by decide +kernel), bg_m1 (List.mem_of_getElem? (i := 1) (by decide +kernel)) (by decide +kernel), by decide +kernel, ⟨by decide +kernel, by decide +kernel⟩, by decide +kernel, by decide⟩
def G_C_setSure : Gm := (⟨"ShameAngles$Chance", "setSure", "()V"⟩, prog_2_method_2_code, 1, none, 0)
theorem mk_C_setSure : MK G_C_setSure := ⟨bg_m4 (List.mem_of_getElem? (i := 67) (by decide +kernel)) (by decide +kernel), bg_m1 (List.mem_of_getElem? (i := 10) (by decide +kernel)) (by decide +kernel), by decide +kernel, ⟨by decide +kernel, by decide +kernel⟩, by decide +kernel, by decide⟩
def G_C_setSlips : Gm := (⟨"ShameAngles$Chance", "setSlips", "(III)V"⟩, prog_2_method_3_code, 7, none, 3)
theorem mk_C_setSlips : MK G_C_setSlips := ⟨bg_m4 (List.mem_of_getElem? (i := 72) (by decide +kernel)) (by decide +kernel), bg_m1 (List.mem_of_getElem? (i := 10) (by decide +kernel)) (by decide +kernel), by decide +kernel, ⟨by decide +kernel, by decide +kernel⟩, by decide +kernel, by decide⟩
def G_C_reduce : Gm := (⟨"ShameAngles$Chance", "reduce", "(I)V"⟩, prog_2_method_4_code, 3, none, 1)
theorem mk_C_reduce : MK G_C_reduce := ⟨bg_m4 (List.mem_of_getElem? (i := 77) (by decide +kernel)) (by decide +kernel), bg_m1 (List.mem_of_getElem? (i := 10) (by decide +kernel)) (by decide +kernel), by decide +kernel, ⟨by decide +kernel, by decide +kernel⟩, by decide +kernel, by decide⟩
def G_A_voyages : Gm := (⟨"ShameAngles", "voyages", "(II)I"⟩, prog_1_method_36_code, 10, some .int, 2)
theorem mk_A_voyages : MK G_A_voyages := ⟨bg_m4 (List.mem_of_getElem? (i := 83) (by decide +kernel)) (by decide +kernel), bg_m1 (List.mem_of_getElem? (i := 1) (by decide +kernel)) (by decide +kernel), by decide +kernel, ⟨by decide +kernel, by decide +kernel⟩, by decide +kernel, by decide⟩
def G_A_part : Gm := (⟨"ShameAngles", "part", "(I)J"⟩, prog_1_method_37_code, 2, some .long, 1)
theorem mk_A_part : MK G_A_part := ⟨bg_m4 (List.mem_of_getElem? (i := 95) (by decide +kernel)) (by decide +kernel), bg_m1 (List.mem_of_getElem? (i := 1) (by decide +kernel)) (by decide +kernel), by decide +kernel, ⟨by decide +kernel, by decide +kernel⟩, by decide +kernel, by decide⟩
def G_A_image : Gm := (⟨"ShameAngles", "image", "(I)I"⟩, prog_1_method_38_code, 2, some .int, 1)
theorem mk_A_image : MK G_A_image := ⟨bg_m4 (List.mem_of_getElem? (i := 99) (by decide +kernel)) (by decide +kernel), bg_m1 (List.mem_of_getElem? (i := 1) (by decide +kernel)) (by decide +kernel), by decide +kernel, ⟨by decide +kernel, by decide +kernel⟩, by decide +kernel, by decide⟩
def G_S_copy : Gm := (⟨"ShameAngles$State", "copy", "(LShameAngles$State;)V"⟩, prog_11_method_3_code, 2, none, 1)
theorem mk_S_copy : MK G_S_copy := ⟨bg_m4 (List.mem_of_getElem? (i := 103) (by decide +kernel)) (by decide +kernel), bg_m1 (List.mem_of_getElem? (i := 2) (by decide +kernel)) (by decide +kernel), by decide +kernel, ⟨by decide +kernel, by decide +kernel⟩, by decide +kernel, by decide⟩
def G_R_copy : Gm := (⟨"ShameAngles$Rows", "copy", "(LShameAngles$Rows;)V"⟩, prog_8_method_6_code, 2, none, 1)
theorem mk_R_copy : MK G_R_copy := ⟨bg_m4 (List.mem_of_getElem? (i := 108) (by decide +kernel)) (by decide +kernel), bg_m1 (List.mem_of_getElem? (i := 4) (by decide +kernel)) (by decide +kernel), by decide +kernel, ⟨by decide +kernel, by decide +kernel⟩, by decide +kernel, by decide⟩
def G_P_copy : Gm := (⟨"ShameAngles$Past", "copy", "(LShameAngles$Past;)V"⟩, prog_6_method_4_code, 2, none, 1)
theorem mk_P_copy : MK G_P_copy := ⟨bg_m4 (List.mem_of_getElem? (i := 113) (by decide +kernel)) (by decide +kernel), bg_m1 (List.mem_of_getElem? (i := 5) (by decide +kernel)) (by decide +kernel), by decide +kernel, ⟨by decide +kernel, by decide +kernel⟩, by decide +kernel, by decide⟩
def G_A_from : Gm := (⟨"ShameAngles", "from", "(I)I"⟩, prog_1_method_39_code, 2, some .int, 1)
theorem mk_A_from : MK G_A_from := ⟨bg_m4 (List.mem_of_getElem? (i := 117) (by decide +kernel)) (by decide +kernel), bg_m1 (List.mem_of_getElem? (i := 1) (by decide +kernel)) (by decide +kernel), by decide +kernel, ⟨by decide +kernel, by decide +kernel⟩, by decide +kernel, by decide⟩
def G_A_status : Gm := (⟨"ShameAngles", "status", "(I)I"⟩, prog_1_method_40_code, 2, some .int, 1)
theorem mk_A_status : MK G_A_status := ⟨bg_m4 (List.mem_of_getElem? (i := 121) (by decide +kernel)) (by decide +kernel), bg_m1 (List.mem_of_getElem? (i := 1) (by decide +kernel)) (by decide +kernel), by decide +kernel, ⟨by decide +kernel, by decide +kernel⟩, by decide +kernel, by decide⟩
def G_A_count : Gm := (⟨"ShameAngles", "count", "(I)I"⟩, prog_1_method_41_code, 2, some .int, 1)
theorem mk_A_count : MK G_A_count := ⟨bg_m4 (List.mem_of_getElem? (i := 125) (by decide +kernel)) (by decide +kernel), bg_m1 (List.mem_of_getElem? (i := 1) (by decide +kernel)) (by decide +kernel), by decide +kernel, ⟨by decide +kernel, by decide +kernel⟩, by decide +kernel, by decide⟩
def G_H_shameOfAll : Gm := (⟨"ShameAngles$Ship", "shameOfAll", "()I"⟩, prog_10_method_17_code, 3, some .int, 0)
theorem mk_H_shameOfAll : MK G_H_shameOfAll := ⟨bg_m4 (List.mem_of_getElem? (i := 129) (by decide +kernel)) (by decide +kernel), bg_m1 (List.mem_of_getElem? (i := 3) (by decide +kernel)) (by decide +kernel), by decide +kernel, ⟨by decide +kernel, by decide +kernel⟩, by decide +kernel, by decide⟩
def G_A_digest : Gm := (⟨"ShameAngles", "digest", "()J"⟩, prog_1_method_42_code, 4, some .long, 0)
theorem mk_A_digest : MK G_A_digest := ⟨bg_m4 (List.mem_of_getElem? (i := 133) (by decide +kernel)) (by decide +kernel), bg_m1 (List.mem_of_getElem? (i := 1) (by decide +kernel)) (by decide +kernel), by decide +kernel, ⟨by decide +kernel, by decide +kernel⟩, by decide +kernel, by decide⟩
def G_H_digestOn : Gm := (⟨"ShameAngles$Ship", "digestOn", "(J)J"⟩, prog_10_method_19_code, 6, some .long, 1)
theorem mk_H_digestOn : MK G_H_digestOn := ⟨bg_m4 (List.mem_of_getElem? (i := 141) (by decide +kernel)) (by decide +kernel), bg_m1 (List.mem_of_getElem? (i := 3) (by decide +kernel)) (by decide +kernel), by decide +kernel, ⟨by decide +kernel, by decide +kernel⟩, by decide +kernel, by decide⟩
def G_R_digestOn : Gm := (⟨"ShameAngles$Rows", "digestOn", "(J)J"⟩, prog_8_method_7_code, 7, some .long, 1)
theorem mk_R_digestOn : MK G_R_digestOn := ⟨bg_m4 (List.mem_of_getElem? (i := 146) (by decide +kernel)) (by decide +kernel), bg_m1 (List.mem_of_getElem? (i := 4) (by decide +kernel)) (by decide +kernel), by decide +kernel, ⟨by decide +kernel, by decide +kernel⟩, by decide +kernel, by decide⟩
def G_M_init : Gm := (⟨"ShameAnglesModel", "<init>", "()V"⟩, prog_14_method_12_code, 1, none, 0)
theorem mk_M_init : MK G_M_init := ⟨bg_m4 (List.mem_of_getElem? (i := 153) (by decide +kernel)) (by decide +kernel), bg_m1 (List.mem_of_getElem? (i := 11) (by decide +kernel)) (by decide +kernel), by decide +kernel, ⟨by decide +kernel, by decide +kernel⟩, by decide +kernel, by decide⟩
def G_M_begin : Gm := (⟨"ShameAnglesModel", "begin", "(I)V"⟩, prog_14_method_13_code, 3, none, 1)
theorem mk_M_begin : MK G_M_begin := ⟨bg_m4 (List.mem_of_getElem? (i := 158) (by decide +kernel)) (by decide +kernel), bg_m1 (List.mem_of_getElem? (i := 11) (by decide +kernel)) (by decide +kernel), by decide +kernel, ⟨by decide +kernel, by decide +kernel⟩, by decide +kernel, by decide⟩
def G_M_ship : Gm := (⟨"ShameAnglesModel", "ship", "(I)I"⟩, prog_14_method_17_code, 3, some .int, 1)
theorem mk_M_ship : MK G_M_ship := ⟨bg_m5 (List.mem_of_getElem? (i := 13) (by decide +kernel)) (by decide +kernel), bg_m1 (List.mem_of_getElem? (i := 11) (by decide +kernel)) (by decide +kernel), by decide +kernel, ⟨by decide +kernel, by decide +kernel⟩, by decide +kernel, by decide⟩
def G_M_in : Gm := (⟨"ShameAnglesModel", "in", "(III)Z"⟩, prog_14_method_5_code, 3, some .boolean, 3)
theorem mk_M_in : MK G_M_in := ⟨bg_m5 (List.mem_of_getElem? (i := 16) (by decide +kernel)) (by decide +kernel), bg_m1 (List.mem_of_getElem? (i := 11) (by decide +kernel)) (by decide +kernel), by decide +kernel, ⟨by decide +kernel, by decide +kernel⟩, by decide +kernel, by decide⟩
def G_M_bad : Gm := (⟨"ShameAnglesModel", "bad", "()I"⟩, prog_14_method_1_code, 1, some .int, 0)
theorem mk_M_bad : MK G_M_bad := ⟨bg_m5 (List.mem_of_getElem? (i := 20) (by decide +kernel)) (by decide +kernel), bg_m1 (List.mem_of_getElem? (i := 11) (by decide +kernel)) (by decide +kernel), by decide +kernel, ⟨by decide +kernel, by decide +kernel⟩, by decide +kernel, by decide⟩
def G_M_fog : Gm := (⟨"ShameAnglesModel", "fog", "(II)I"⟩, prog_14_method_18_code, 4, some .int, 2)
theorem mk_M_fog : MK G_M_fog := ⟨bg_m5 (List.mem_of_getElem? (i := 24) (by decide +kernel)) (by decide +kernel), bg_m1 (List.mem_of_getElem? (i := 11) (by decide +kernel)) (by decide +kernel), by decide +kernel, ⟨by decide +kernel, by decide +kernel⟩, by decide +kernel, by decide⟩
def G_M_man : Gm := (⟨"ShameAnglesModel", "man", "(II)I"⟩, prog_14_method_20_code, 3, some .int, 2)
theorem mk_M_man : MK G_M_man := ⟨bg_m5 (List.mem_of_getElem? (i := 28) (by decide +kernel)) (by decide +kernel), bg_m1 (List.mem_of_getElem? (i := 11) (by decide +kernel)) (by decide +kernel), by decide +kernel, ⟨by decide +kernel, by decide +kernel⟩, by decide +kernel, by decide⟩
def G_M_full : Gm := (⟨"ShameAnglesModel", "full", "()I"⟩, prog_14_method_4_code, 1, some .int, 0)
theorem mk_M_full : MK G_M_full := ⟨bg_m5 (List.mem_of_getElem? (i := 32) (by decide +kernel)) (by decide +kernel), bg_m1 (List.mem_of_getElem? (i := 11) (by decide +kernel)) (by decide +kernel), by decide +kernel, ⟨by decide +kernel, by decide +kernel⟩, by decide +kernel, by decide⟩
def G_M_addMan : Gm := (⟨"ShameAnglesModel", "addMan", "(II)I"⟩, prog_14_method_19_code, 3, some .int, 2)
theorem mk_M_addMan : MK G_M_addMan := ⟨bg_m5 (List.mem_of_getElem? (i := 36) (by decide +kernel)) (by decide +kernel), bg_m1 (List.mem_of_getElem? (i := 11) (by decide +kernel)) (by decide +kernel), by decide +kernel, ⟨by decide +kernel, by decide +kernel⟩, by decide +kernel, by decide⟩
def G_M_reader : Gm := (⟨"ShameAnglesModel", "reader", "(I)I"⟩, prog_14_method_22_code, 2, some .int, 1)
theorem mk_M_reader : MK G_M_reader := ⟨bg_m5 (List.mem_of_getElem? (i := 40) (by decide +kernel)) (by decide +kernel), bg_m1 (List.mem_of_getElem? (i := 11) (by decide +kernel)) (by decide +kernel), by decide +kernel, ⟨by decide +kernel, by decide +kernel⟩, by decide +kernel, by decide⟩
def G_M_addReader : Gm := (⟨"ShameAnglesModel", "addReader", "(I)I"⟩, prog_14_method_21_code, 2, some .int, 1)
theorem mk_M_addReader : MK G_M_addReader := ⟨bg_m5 (List.mem_of_getElem? (i := 44) (by decide +kernel)) (by decide +kernel), bg_m1 (List.mem_of_getElem? (i := 11) (by decide +kernel)) (by decide +kernel), by decide +kernel, ⟨by decide +kernel, by decide +kernel⟩, by decide +kernel, by decide⟩
def G_M_type : Gm := (⟨"ShameAnglesModel", "type", "(I)I"⟩, prog_14_method_23_code, 2, some .int, 1)
theorem mk_M_type : MK G_M_type := ⟨bg_m5 (List.mem_of_getElem? (i := 48) (by decide +kernel)) (by decide +kernel), bg_m1 (List.mem_of_getElem? (i := 11) (by decide +kernel)) (by decide +kernel), by decide +kernel, ⟨by decide +kernel, by decide +kernel⟩, by decide +kernel, by decide⟩
def G_M_clear : Gm := (⟨"ShameAnglesModel", "clear", "()I"⟩, prog_14_method_24_code, 2, some .int, 0)
theorem mk_M_clear : MK G_M_clear := ⟨bg_m5 (List.mem_of_getElem? (i := 52) (by decide +kernel)) (by decide +kernel), bg_m1 (List.mem_of_getElem? (i := 11) (by decide +kernel)) (by decide +kernel), by decide +kernel, ⟨by decide +kernel, by decide +kernel⟩, by decide +kernel, by decide⟩
def G_M_read : Gm := (⟨"ShameAnglesModel", "read", "()I"⟩, prog_14_method_42_code, 2, some .int, 0)
theorem mk_M_read : MK G_M_read := ⟨bg_m5 (List.mem_of_getElem? (i := 56) (by decide +kernel)) (by decide +kernel), bg_m1 (List.mem_of_getElem? (i := 11) (by decide +kernel)) (by decide +kernel), by decide +kernel, ⟨by decide +kernel, by decide +kernel⟩, by decide +kernel, by decide⟩
def G_M_layAll : Gm := (⟨"ShameAnglesModel", "layAll", "([II)V"⟩, prog_14_method_97_code, 4, none, 2)
theorem mk_M_layAll : MK G_M_layAll := ⟨bg_m5 (List.mem_of_getElem? (i := 60) (by decide +kernel)) (by decide +kernel), bg_m1 (List.mem_of_getElem? (i := 11) (by decide +kernel)) (by decide +kernel), by decide +kernel, ⟨by decide +kernel, by decide +kernel⟩, by decide +kernel, by decide⟩
def G_M_lays : Gm := (⟨"ShameAnglesModel", "lays", "([II)V"⟩, prog_14_method_52_code, 4, none, 2)
theorem mk_M_lays : MK G_M_lays := ⟨bg_m5 (List.mem_of_getElem? (i := 64) (by decide +kernel)) (by decide +kernel), bg_m1 (List.mem_of_getElem? (i := 11) (by decide +kernel)) (by decide +kernel), by decide +kernel, ⟨by decide +kernel, by decide +kernel⟩, by decide +kernel, by decide⟩
def G_M_readsShip : Gm := (⟨"ShameAnglesModel", "readsShip", "()I"⟩, prog_14_method_41_code, 2, some .int, 0)
theorem mk_M_readsShip : MK G_M_readsShip := ⟨bg_m5 (List.mem_of_getElem? (i := 68) (by decide +kernel)) (by decide +kernel), bg_m1 (List.mem_of_getElem? (i := 11) (by decide +kernel)) (by decide +kernel), by decide +kernel, ⟨by decide +kernel, by decide +kernel⟩, by decide +kernel, by decide⟩
def G_M_readsFirst : Gm := (⟨"ShameAnglesModel", "readsFirst", "()Z"⟩, prog_14_method_40_code, 1, some .boolean, 0)
theorem mk_M_readsFirst : MK G_M_readsFirst := ⟨bg_m5 (List.mem_of_getElem? (i := 72) (by decide +kernel)) (by decide +kernel), bg_m1 (List.mem_of_getElem? (i := 11) (by decide +kernel)) (by decide +kernel), by decide +kernel, ⟨by decide +kernel, by decide +kernel⟩, by decide +kernel, by decide⟩
def G_M_skip : Gm := (⟨"ShameAnglesModel", "skip", "()V"⟩, prog_14_method_26_code, 1, none, 0)
theorem mk_M_skip : MK G_M_skip := ⟨bg_m5 (List.mem_of_getElem? (i := 76) (by decide +kernel)) (by decide +kernel), bg_m1 (List.mem_of_getElem? (i := 11) (by decide +kernel)) (by decide +kernel), by decide +kernel, ⟨by decide +kernel, by decide +kernel⟩, by decide +kernel, by decide⟩
def G_M_here : Gm := (⟨"ShameAnglesModel", "here", "()I"⟩, prog_14_method_25_code, 1, some .int, 0)
theorem mk_M_here : MK G_M_here := ⟨bg_m5 (List.mem_of_getElem? (i := 80) (by decide +kernel)) (by decide +kernel), bg_m1 (List.mem_of_getElem? (i := 11) (by decide +kernel)) (by decide +kernel), by decide +kernel, ⟨by decide +kernel, by decide +kernel⟩, by decide +kernel, by decide⟩
def G_M_wordHere : Gm := (⟨"ShameAnglesModel", "wordHere", "()I"⟩, prog_14_method_31_code, 2, some .int, 0)
theorem mk_M_wordHere : MK G_M_wordHere := ⟨bg_m5 (List.mem_of_getElem? (i := 84) (by decide +kernel)) (by decide +kernel), bg_m1 (List.mem_of_getElem? (i := 11) (by decide +kernel)) (by decide +kernel), by decide +kernel, ⟨by decide +kernel, by decide +kernel⟩, by decide +kernel, by decide⟩
def G_M_wordSize : Gm := (⟨"ShameAnglesModel", "wordSize", "()I"⟩, prog_14_method_29_code, 2, some .int, 0)
theorem mk_M_wordSize : MK G_M_wordSize := ⟨bg_m5 (List.mem_of_getElem? (i := 88) (by decide +kernel)) (by decide +kernel), bg_m1 (List.mem_of_getElem? (i := 11) (by decide +kernel)) (by decide +kernel), by decide +kernel, ⟨by decide +kernel, by decide +kernel⟩, by decide +kernel, by decide⟩
def G_M_isLetter : Gm := (⟨"ShameAnglesModel", "isLetter", "(I)Z"⟩, prog_14_method_27_code, 1, some .boolean, 1)
theorem mk_M_isLetter : MK G_M_isLetter := ⟨bg_m5 (List.mem_of_getElem? (i := 91) (by decide +kernel)) (by decide +kernel), bg_m1 (List.mem_of_getElem? (i := 11) (by decide +kernel)) (by decide +kernel), by decide +kernel, ⟨by decide +kernel, by decide +kernel⟩, by decide +kernel, by decide⟩
def G_M_letter : Gm := (⟨"ShameAnglesModel", "letter", "(I)I"⟩, prog_14_method_30_code, 2, some .int, 1)
theorem mk_M_letter : MK G_M_letter := ⟨bg_m5 (List.mem_of_getElem? (i := 95) (by decide +kernel)) (by decide +kernel), bg_m1 (List.mem_of_getElem? (i := 11) (by decide +kernel)) (by decide +kernel), by decide +kernel, ⟨by decide +kernel, by decide +kernel⟩, by decide +kernel, by decide⟩
def G_M_number : Gm := (⟨"ShameAnglesModel", "number", "(II)Z"⟩, prog_14_method_32_code, 5, some .boolean, 2)
theorem mk_M_number : MK G_M_number := ⟨bg_m5 (List.mem_of_getElem? (i := 99) (by decide +kernel)) (by decide +kernel), bg_m1 (List.mem_of_getElem? (i := 11) (by decide +kernel)) (by decide +kernel), by decide +kernel, ⟨by decide +kernel, by decide +kernel⟩, by decide +kernel, by decide⟩
def G_M_isFigure : Gm := (⟨"ShameAnglesModel", "isFigure", "(I)Z"⟩, prog_14_method_28_code, 1, some .boolean, 1)
theorem mk_M_isFigure : MK G_M_isFigure := ⟨bg_m5 (List.mem_of_getElem? (i := 102) (by decide +kernel)) (by decide +kernel), bg_m1 (List.mem_of_getElem? (i := 11) (by decide +kernel)) (by decide +kernel), by decide +kernel, ⟨by decide +kernel, by decide +kernel⟩, by decide +kernel, by decide⟩
def G_M_ends : Gm := (⟨"ShameAnglesModel", "ends", "()Z"⟩, prog_14_method_33_code, 1, some .boolean, 0)
theorem mk_M_ends : MK G_M_ends := ⟨bg_m5 (List.mem_of_getElem? (i := 106) (by decide +kernel)) (by decide +kernel), bg_m1 (List.mem_of_getElem? (i := 11) (by decide +kernel)) (by decide +kernel), by decide +kernel, ⟨by decide +kernel, by decide +kernel⟩, by decide +kernel, by decide⟩
def G_M_readsItem : Gm := (⟨"ShameAnglesModel", "readsItem", "()Z"⟩, prog_14_method_39_code, 2, some .boolean, 0)
theorem mk_M_readsItem : MK G_M_readsItem := ⟨bg_m5 (List.mem_of_getElem? (i := 110) (by decide +kernel)) (by decide +kernel), bg_m1 (List.mem_of_getElem? (i := 11) (by decide +kernel)) (by decide +kernel), by decide +kernel, ⟨by decide +kernel, by decide +kernel⟩, by decide +kernel, by decide⟩
def G_M_readsFog : Gm := (⟨"ShameAnglesModel", "readsFog", "()Z"⟩, prog_14_method_34_code, 2, some .boolean, 0)
theorem mk_M_readsFog : MK G_M_readsFog := ⟨bg_m5 (List.mem_of_getElem? (i := 114) (by decide +kernel)) (by decide +kernel), bg_m1 (List.mem_of_getElem? (i := 11) (by decide +kernel)) (by decide +kernel), by decide +kernel, ⟨by decide +kernel, by decide +kernel⟩, by decide +kernel, by decide⟩
def G_M_readsMan : Gm := (⟨"ShameAnglesModel", "readsMan", "()Z"⟩, prog_14_method_35_code, 3, some .boolean, 0)
theorem mk_M_readsMan : MK G_M_readsMan := ⟨bg_m5 (List.mem_of_getElem? (i := 118) (by decide +kernel)) (by decide +kernel), bg_m1 (List.mem_of_getElem? (i := 11) (by decide +kernel)) (by decide +kernel), by decide +kernel, ⟨by decide +kernel, by decide +kernel⟩, by decide +kernel, by decide⟩
def G_M_readsReader : Gm := (⟨"ShameAnglesModel", "readsReader", "()Z"⟩, prog_14_method_36_code, 2, some .boolean, 0)
theorem mk_M_readsReader : MK G_M_readsReader := ⟨bg_m5 (List.mem_of_getElem? (i := 122) (by decide +kernel)) (by decide +kernel), bg_m1 (List.mem_of_getElem? (i := 11) (by decide +kernel)) (by decide +kernel), by decide +kernel, ⟨by decide +kernel, by decide +kernel⟩, by decide +kernel, by decide⟩
def G_M_readsDeed : Gm := (⟨"ShameAnglesModel", "readsDeed", "()Z"⟩, prog_14_method_37_code, 2, some .boolean, 0)
theorem mk_M_readsDeed : MK G_M_readsDeed := ⟨bg_m5 (List.mem_of_getElem? (i := 126) (by decide +kernel)) (by decide +kernel), bg_m1 (List.mem_of_getElem? (i := 11) (by decide +kernel)) (by decide +kernel), by decide +kernel, ⟨by decide +kernel, by decide +kernel⟩, by decide +kernel, by decide⟩
def G_M_lesser : Gm := (⟨"ShameAnglesModel", "lesser", "(II)I"⟩, prog_14_method_7_code, 2, some .int, 2)
theorem mk_M_lesser : MK G_M_lesser := ⟨bg_m5 (List.mem_of_getElem? (i := 129) (by decide +kernel)) (by decide +kernel), bg_m1 (List.mem_of_getElem? (i := 11) (by decide +kernel)) (by decide +kernel), by decide +kernel, ⟨by decide +kernel, by decide +kernel⟩, by decide +kernel, by decide⟩
def G_M_readsNoon : Gm := (⟨"ShameAnglesModel", "readsNoon", "()Z"⟩, prog_14_method_38_code, 4, some .boolean, 0)
theorem mk_M_readsNoon : MK G_M_readsNoon := ⟨bg_m5 (List.mem_of_getElem? (i := 133) (by decide +kernel)) (by decide +kernel), bg_m1 (List.mem_of_getElem? (i := 11) (by decide +kernel)) (by decide +kernel), by decide +kernel, ⟨by decide +kernel, by decide +kernel⟩, by decide +kernel, by decide⟩
def G_M_bits : Gm := (⟨"ShameAnglesModel", "bits", "(I)I"⟩, prog_14_method_9_code, 3, some .int, 1)
theorem mk_M_bits : MK G_M_bits := ⟨bg_m5 (List.mem_of_getElem? (i := 136) (by decide +kernel)) (by decide +kernel), bg_m1 (List.mem_of_getElem? (i := 11) (by decide +kernel)) (by decide +kernel), by decide +kernel, ⟨by decide +kernel, by decide +kernel⟩, by decide +kernel, by decide⟩
def G_M_has : Gm := (⟨"ShameAnglesModel", "has", "(II)Z"⟩, prog_14_method_6_code, 2, some .boolean, 2)
theorem mk_M_has : MK G_M_has := ⟨bg_m5 (List.mem_of_getElem? (i := 139) (by decide +kernel)) (by decide +kernel), bg_m1 (List.mem_of_getElem? (i := 11) (by decide +kernel)) (by decide +kernel), by decide +kernel, ⟨by decide +kernel, by decide +kernel⟩, by decide +kernel, by decide⟩
def G_M_measures : Gm := (⟨"ShameAnglesModel", "measures", "(II)V"⟩, prog_14_method_51_code, 3, none, 2)
theorem mk_M_measures : MK G_M_measures := ⟨bg_m5 (List.mem_of_getElem? (i := 143) (by decide +kernel)) (by decide +kernel), bg_m1 (List.mem_of_getElem? (i := 11) (by decide +kernel)) (by decide +kernel), by decide +kernel, ⟨by decide +kernel, by decide +kernel⟩, by decide +kernel, by decide⟩
def G_M_errorOf : Gm := (⟨"ShameAnglesModel", "errorOf", "(II)I"⟩, prog_14_method_48_code, 5, some .int, 2)
theorem mk_M_errorOf : MK G_M_errorOf := ⟨bg_m5 (List.mem_of_getElem? (i := 147) (by decide +kernel)) (by decide +kernel), bg_m1 (List.mem_of_getElem? (i := 11) (by decide +kernel)) (by decide +kernel), by decide +kernel, ⟨by decide +kernel, by decide +kernel⟩, by decide +kernel, by decide⟩
def G_M_isFog : Gm := (⟨"ShameAnglesModel", "isFog", "()Z"⟩, prog_14_method_45_code, 1, some .boolean, 0)
theorem mk_M_isFog : MK G_M_isFog := ⟨bg_m5 (List.mem_of_getElem? (i := 151) (by decide +kernel)) (by decide +kernel), bg_m1 (List.mem_of_getElem? (i := 11) (by decide +kernel)) (by decide +kernel), by decide +kernel, ⟨by decide +kernel, by decide +kernel⟩, by decide +kernel, by decide⟩
def G_M_readOf : Gm := (⟨"ShameAnglesModel", "readOf", "(II)I"⟩, prog_14_method_47_code, 3, some .int, 2)
theorem mk_M_readOf : MK G_M_readOf := ⟨bg_m5 (List.mem_of_getElem? (i := 155) (by decide +kernel)) (by decide +kernel), bg_m1 (List.mem_of_getElem? (i := 11) (by decide +kernel)) (by decide +kernel), by decide +kernel, ⟨by decide +kernel, by decide +kernel⟩, by decide +kernel, by decide⟩
def G_M_angleOf : Gm := (⟨"ShameAnglesModel", "angleOf", "(I)I"⟩, prog_14_method_46_code, 2, some .int, 1)
theorem mk_M_angleOf : MK G_M_angleOf := ⟨bg_m5 (List.mem_of_getElem? (i := 159) (by decide +kernel)) (by decide +kernel), bg_m1 (List.mem_of_getElem? (i := 11) (by decide +kernel)) (by decide +kernel), by decide +kernel, ⟨by decide +kernel, by decide +kernel⟩, by decide +kernel, by decide⟩
def G_M_angleBy : Gm := (⟨"ShameAnglesModel", "angleBy", "(III)I"⟩, prog_14_method_43_code, 4, some .int, 3)
theorem mk_M_angleBy : MK G_M_angleBy := ⟨bg_m5 (List.mem_of_getElem? (i := 162) (by decide +kernel)) (by decide +kernel), bg_m1 (List.mem_of_getElem? (i := 11) (by decide +kernel)) (by decide +kernel), by decide +kernel, ⟨by decide +kernel, by decide +kernel⟩, by decide +kernel, by decide⟩
def G_M_greater : Gm := (⟨"ShameAnglesModel", "greater", "(II)I"⟩, prog_14_method_8_code, 2, some .int, 2)
theorem mk_M_greater : MK G_M_greater := ⟨bg_m5 (List.mem_of_getElem? (i := 165) (by decide +kernel)) (by decide +kernel), bg_m1 (List.mem_of_getElem? (i := 11) (by decide +kernel)) (by decide +kernel), by decide +kernel, ⟨by decide +kernel, by decide +kernel⟩, by decide +kernel, by decide⟩
def G_M_readBy : Gm := (⟨"ShameAnglesModel", "readBy", "(III)I"⟩, prog_14_method_44_code, 4, some .int, 3)
theorem mk_M_readBy : MK G_M_readBy := ⟨bg_m5 (List.mem_of_getElem? (i := 168) (by decide +kernel)) (by decide +kernel), bg_m1 (List.mem_of_getElem? (i := 11) (by decide +kernel)) (by decide +kernel), by decide +kernel, ⟨by decide +kernel, by decide +kernel⟩, by decide +kernel, by decide⟩
def G_M_goesOn : Gm := (⟨"ShameAnglesModel", "goesOn", "(II)V"⟩, prog_14_method_50_code, 4, none, 2)
theorem mk_M_goesOn : MK G_M_goesOn := ⟨bg_m5 (List.mem_of_getElem? (i := 172) (by decide +kernel)) (by decide +kernel), bg_m1 (List.mem_of_getElem? (i := 11) (by decide +kernel)) (by decide +kernel), by decide +kernel, ⟨by decide +kernel, by decide +kernel⟩, by decide +kernel, by decide⟩
def G_M_round : Gm := (⟨"ShameAnglesModel", "round", "(I)I"⟩, prog_14_method_11_code, 2, some .int, 1)
theorem mk_M_round : MK G_M_round := ⟨bg_m5 (List.mem_of_getElem? (i := 175) (by decide +kernel)) (by decide +kernel), bg_m1 (List.mem_of_getElem? (i := 11) (by decide +kernel)) (by decide +kernel), by decide +kernel, ⟨by decide +kernel, by decide +kernel⟩, by decide +kernel, by decide⟩
def G_M_takeAll : Gm := (⟨"ShameAnglesModel", "takeAll", "([II)V"⟩, prog_14_method_98_code, 4, none, 2)
theorem mk_M_takeAll : MK G_M_takeAll := ⟨bg_m5 (List.mem_of_getElem? (i := 179) (by decide +kernel)) (by decide +kernel), bg_m1 (List.mem_of_getElem? (i := 11) (by decide +kernel)) (by decide +kernel), by decide +kernel, ⟨by decide +kernel, by decide +kernel⟩, by decide +kernel, by decide⟩
def G_M_takes : Gm := (⟨"ShameAnglesModel", "takes", "([II)V"⟩, prog_14_method_53_code, 4, none, 2)
theorem mk_M_takes : MK G_M_takes := ⟨bg_m5 (List.mem_of_getElem? (i := 183) (by decide +kernel)) (by decide +kernel), bg_m1 (List.mem_of_getElem? (i := 11) (by decide +kernel)) (by decide +kernel), by decide +kernel, ⟨by decide +kernel, by decide +kernel⟩, by decide +kernel, by decide⟩
def G_M_noon : Gm := (⟨"ShameAnglesModel", "noon", "(II)I"⟩, prog_14_method_55_code, 3, some .int, 2)
theorem mk_M_noon : MK G_M_noon := ⟨bg_m5 (List.mem_of_getElem? (i := 187) (by decide +kernel)) (by decide +kernel), bg_m1 (List.mem_of_getElem? (i := 11) (by decide +kernel)) (by decide +kernel), by decide +kernel, ⟨by decide +kernel, by decide +kernel⟩, by decide +kernel, by decide⟩
def G_M_areMen : Gm := (⟨"ShameAnglesModel", "areMen", "(I)Z"⟩, prog_14_method_16_code, 2, some .boolean, 1)
theorem mk_M_areMen : MK G_M_areMen := ⟨bg_m5 (List.mem_of_getElem? (i := 191) (by decide +kernel)) (by decide +kernel), bg_m1 (List.mem_of_getElem? (i := 11) (by decide +kernel)) (by decide +kernel), by decide +kernel, ⟨by decide +kernel, by decide +kernel⟩, by decide +kernel, by decide⟩
def G_M_isReader : Gm := (⟨"ShameAnglesModel", "isReader", "(I)Z"⟩, prog_14_method_15_code, 2, some .boolean, 1)
theorem mk_M_isReader : MK G_M_isReader := ⟨bg_m5 (List.mem_of_getElem? (i := 195) (by decide +kernel)) (by decide +kernel), bg_m1 (List.mem_of_getElem? (i := 11) (by decide +kernel)) (by decide +kernel), by decide +kernel, ⟨by decide +kernel, by decide +kernel⟩, by decide +kernel, by decide⟩
def G_M_no : Gm := (⟨"ShameAnglesModel", "no", "()I"⟩, prog_14_method_3_code, 1, some .int, 0)
theorem mk_M_no : MK G_M_no := ⟨bg_m5 (List.mem_of_getElem? (i := 199) (by decide +kernel)) (by decide +kernel), bg_m1 (List.mem_of_getElem? (i := 11) (by decide +kernel)) (by decide +kernel), by decide +kernel, ⟨by decide +kernel, by decide +kernel⟩, by decide +kernel, by decide⟩
def G_M_notes : Gm := (⟨"ShameAnglesModel", "notes", "()V"⟩, prog_14_method_54_code, 2, none, 0)
theorem mk_M_notes : MK G_M_notes := ⟨bg_m5 (List.mem_of_getElem? (i := 203) (by decide +kernel)) (by decide +kernel), bg_m1 (List.mem_of_getElem? (i := 11) (by decide +kernel)) (by decide +kernel), by decide +kernel, ⟨by decide +kernel, by decide +kernel⟩, by decide +kernel, by decide⟩
def G_M_deed : Gm := (⟨"ShameAnglesModel", "deed", "(II)I"⟩, prog_14_method_56_code, 3, some .int, 2)
theorem mk_M_deed : MK G_M_deed := ⟨bg_m5 (List.mem_of_getElem? (i := 207) (by decide +kernel)) (by decide +kernel), bg_m1 (List.mem_of_getElem? (i := 11) (by decide +kernel)) (by decide +kernel), by decide +kernel, ⟨by decide +kernel, by decide +kernel⟩, by decide +kernel, by decide⟩
def G_M_isMan : Gm := (⟨"ShameAnglesModel", "isMan", "(I)Z"⟩, prog_14_method_14_code, 2, some .boolean, 1)
theorem mk_M_isMan : MK G_M_isMan := ⟨bg_m5 (List.mem_of_getElem? (i := 211) (by decide +kernel)) (by decide +kernel), bg_m1 (List.mem_of_getElem? (i := 11) (by decide +kernel)) (by decide +kernel), by decide +kernel, ⟨by decide +kernel, by decide +kernel⟩, by decide +kernel, by decide⟩
def G_M_undo : Gm := (⟨"ShameAnglesModel", "undo", "()I"⟩, prog_14_method_57_code, 1, some .int, 0)
theorem mk_M_undo : MK G_M_undo := ⟨bg_m5 (List.mem_of_getElem? (i := 215) (by decide +kernel)) (by decide +kernel), bg_m1 (List.mem_of_getElem? (i := 11) (by decide +kernel)) (by decide +kernel), by decide +kernel, ⟨by decide +kernel, by decide +kernel⟩, by decide +kernel, by decide⟩
def G_M_now : Gm := (⟨"ShameAnglesModel", "now", "(I)I"⟩, prog_14_method_59_code, 2, some .int, 1)
theorem mk_M_now : MK G_M_now := ⟨bg_m5 (List.mem_of_getElem? (i := 219) (by decide +kernel)) (by decide +kernel), bg_m1 (List.mem_of_getElem? (i := 11) (by decide +kernel)) (by decide +kernel), by decide +kernel, ⟨by decide +kernel, by decide +kernel⟩, by decide +kernel, by decide⟩
def G_M_nowOf : Gm := (⟨"ShameAnglesModel", "nowOf", "(I)I"⟩, prog_14_method_58_code, 2, some .int, 1)
theorem mk_M_nowOf : MK G_M_nowOf := ⟨bg_m5 (List.mem_of_getElem? (i := 223) (by decide +kernel)) (by decide +kernel), bg_m1 (List.mem_of_getElem? (i := 11) (by decide +kernel)) (by decide +kernel), by decide +kernel, ⟨by decide +kernel, by decide +kernel⟩, by decide +kernel, by decide⟩
def G_M_of : Gm := (⟨"ShameAnglesModel", "of", "(II)I"⟩, prog_14_method_60_code, 3, some .int, 2)
theorem mk_M_of : MK G_M_of := ⟨bg_m5 (List.mem_of_getElem? (i := 227) (by decide +kernel)) (by decide +kernel), bg_m1 (List.mem_of_getElem? (i := 11) (by decide +kernel)) (by decide +kernel), by decide +kernel, ⟨by decide +kernel, by decide +kernel⟩, by decide +kernel, by decide⟩
def G_M_angle : Gm := (⟨"ShameAnglesModel", "angle", "(I)I"⟩, prog_14_method_61_code, 2, some .int, 1)
theorem mk_M_angle : MK G_M_angle := ⟨bg_m5 (List.mem_of_getElem? (i := 231) (by decide +kernel)) (by decide +kernel), bg_m1 (List.mem_of_getElem? (i := 11) (by decide +kernel)) (by decide +kernel), by decide +kernel, ⟨by decide +kernel, by decide +kernel⟩, by decide +kernel, by decide⟩
def G_M_reads : Gm := (⟨"ShameAnglesModel", "reads", "(II)I"⟩, prog_14_method_62_code, 3, some .int, 2)
theorem mk_M_reads : MK G_M_reads := ⟨bg_m5 (List.mem_of_getElem? (i := 235) (by decide +kernel)) (by decide +kernel), bg_m1 (List.mem_of_getElem? (i := 11) (by decide +kernel)) (by decide +kernel), by decide +kernel, ⟨by decide +kernel, by decide +kernel⟩, by decide +kernel, by decide⟩
def G_M_error : Gm := (⟨"ShameAnglesModel", "error", "(II)I"⟩, prog_14_method_64_code, 3, some .int, 2)
theorem mk_M_error : MK G_M_error := ⟨bg_m5 (List.mem_of_getElem? (i := 239) (by decide +kernel)) (by decide +kernel), bg_m1 (List.mem_of_getElem? (i := 11) (by decide +kernel)) (by decide +kernel), by decide +kernel, ⟨by decide +kernel, by decide +kernel⟩, by decide +kernel, by decide⟩
def G_M_thousand : Gm := (⟨"ShameAnglesModel", "thousand", "()I"⟩, prog_14_method_63_code, 1, some .int, 0)
theorem mk_M_thousand : MK G_M_thousand := ⟨bg_m6 (List.mem_of_getElem? (i := 3) (by decide +kernel)) (by decide +kernel), bg_m1 (List.mem_of_getElem? (i := 11) (by decide +kernel)) (by decide +kernel), by decide +kernel, ⟨by decide +kernel, by decide +kernel⟩, by decide +kernel, by decide⟩
def G_M_off : Gm := (⟨"ShameAnglesModel", "off", "()I"⟩, prog_14_method_65_code, 1, some .int, 0)
theorem mk_M_off : MK G_M_off := ⟨bg_m6 (List.mem_of_getElem? (i := 7) (by decide +kernel)) (by decide +kernel), bg_m1 (List.mem_of_getElem? (i := 11) (by decide +kernel)) (by decide +kernel), by decide +kernel, ⟨by decide +kernel, by decide +kernel⟩, by decide +kernel, by decide⟩
def G_M_offNow : Gm := (⟨"ShameAnglesModel", "offNow", "()I"⟩, prog_14_method_49_code, 2, some .int, 0)
theorem mk_M_offNow : MK G_M_offNow := ⟨bg_m6 (List.mem_of_getElem? (i := 11) (by decide +kernel)) (by decide +kernel), bg_m1 (List.mem_of_getElem? (i := 11) (by decide +kernel)) (by decide +kernel), by decide +kernel, ⟨by decide +kernel, by decide +kernel⟩, by decide +kernel, by decide⟩
def G_M_then : Gm := (⟨"ShameAnglesModel", "then", "(III)I"⟩, prog_14_method_66_code, 5, some .int, 3)
theorem mk_M_then : MK G_M_then := ⟨bg_m6 (List.mem_of_getElem? (i := 15) (by decide +kernel)) (by decide +kernel), bg_m1 (List.mem_of_getElem? (i := 11) (by decide +kernel)) (by decide +kernel), by decide +kernel, ⟨by decide +kernel, by decide +kernel⟩, by decide +kernel, by decide⟩
def G_M_when : Gm := (⟨"ShameAnglesModel", "when", "(II)I"⟩, prog_14_method_67_code, 4, some .int, 2)
theorem mk_M_when : MK G_M_when := ⟨bg_m6 (List.mem_of_getElem? (i := 19) (by decide +kernel)) (by decide +kernel), bg_m1 (List.mem_of_getElem? (i := 11) (by decide +kernel)) (by decide +kernel), by decide +kernel, ⟨by decide +kernel, by decide +kernel⟩, by decide +kernel, by decide⟩
def G_M_best : Gm := (⟨"ShameAnglesModel", "best", "(III)I"⟩, prog_14_method_68_code, 8, some .int, 3)
theorem mk_M_best : MK G_M_best := ⟨bg_m6 (List.mem_of_getElem? (i := 23) (by decide +kernel)) (by decide +kernel), bg_m1 (List.mem_of_getElem? (i := 11) (by decide +kernel)) (by decide +kernel), by decide +kernel, ⟨by decide +kernel, by decide +kernel⟩, by decide +kernel, by decide⟩
def G_M_far : Gm := (⟨"ShameAnglesModel", "far", "(I)I"⟩, prog_14_method_10_code, 1, some .int, 1)
theorem mk_M_far : MK G_M_far := ⟨bg_m6 (List.mem_of_getElem? (i := 27) (by decide +kernel)) (by decide +kernel), bg_m1 (List.mem_of_getElem? (i := 11) (by decide +kernel)) (by decide +kernel), by decide +kernel, ⟨by decide +kernel, by decide +kernel⟩, by decide +kernel, by decide⟩
def G_M_fewest : Gm := (⟨"ShameAnglesModel", "fewest", "(II)I"⟩, prog_14_method_69_code, 7, some .int, 2)
theorem mk_M_fewest : MK G_M_fewest := ⟨bg_m6 (List.mem_of_getElem? (i := 31) (by decide +kernel)) (by decide +kernel), bg_m1 (List.mem_of_getElem? (i := 11) (by decide +kernel)) (by decide +kernel), by decide +kernel, ⟨by decide +kernel, by decide +kernel⟩, by decide +kernel, by decide⟩
def G_M_cape : Gm := (⟨"ShameAnglesModel", "cape", "(III)I"⟩, prog_14_method_72_code, 7, some .int, 3)
theorem mk_M_cape : MK G_M_cape := ⟨bg_m6 (List.mem_of_getElem? (i := 35) (by decide +kernel)) (by decide +kernel), bg_m1 (List.mem_of_getElem? (i := 11) (by decide +kernel)) (by decide +kernel), by decide +kernel, ⟨by decide +kernel, by decide +kernel⟩, by decide +kernel, by decide⟩
def G_M_ten : Gm := (⟨"ShameAnglesModel", "ten", "()I"⟩, prog_14_method_2_code, 1, some .int, 0)
theorem mk_M_ten : MK G_M_ten := ⟨bg_m6 (List.mem_of_getElem? (i := 39) (by decide +kernel)) (by decide +kernel), bg_m1 (List.mem_of_getElem? (i := 11) (by decide +kernel)) (by decide +kernel), by decide +kernel, ⟨by decide +kernel, by decide +kernel⟩, by decide +kernel, by decide⟩
def G_M_power : Gm := (⟨"ShameAnglesModel", "power", "(II)I"⟩, prog_14_method_70_code, 5, some .int, 2)
theorem mk_M_power : MK G_M_power := ⟨bg_m6 (List.mem_of_getElem? (i := 43) (by decide +kernel)) (by decide +kernel), bg_m1 (List.mem_of_getElem? (i := 11) (by decide +kernel)) (by decide +kernel), by decide +kernel, ⟨by decide +kernel, by decide +kernel⟩, by decide +kernel, by decide⟩
def G_M_placeBy : Gm := (⟨"ShameAnglesModel", "placeBy", "(III)I"⟩, prog_14_method_71_code, 7, some .int, 3)
theorem mk_M_placeBy : MK G_M_placeBy := ⟨bg_m6 (List.mem_of_getElem? (i := 47) (by decide +kernel)) (by decide +kernel), bg_m1 (List.mem_of_getElem? (i := 11) (by decide +kernel)) (by decide +kernel), by decide +kernel, ⟨by decide +kernel, by decide +kernel⟩, by decide +kernel, by decide⟩
def G_M_watch : Gm := (⟨"ShameAnglesModel", "watch", "(I)I"⟩, prog_14_method_74_code, 7, some .int, 1)
theorem mk_M_watch : MK G_M_watch := ⟨bg_m6 (List.mem_of_getElem? (i := 51) (by decide +kernel)) (by decide +kernel), bg_m1 (List.mem_of_getElem? (i := 11) (by decide +kernel)) (by decide +kernel), by decide +kernel, ⟨by decide +kernel, by decide +kernel⟩, by decide +kernel, by decide⟩
def G_M_isWatch : Gm := (⟨"ShameAnglesModel", "isWatch", "(I)Z"⟩, prog_14_method_73_code, 6, some .boolean, 1)
theorem mk_M_isWatch : MK G_M_isWatch := ⟨bg_m6 (List.mem_of_getElem? (i := 55) (by decide +kernel)) (by decide +kernel), bg_m1 (List.mem_of_getElem? (i := 11) (by decide +kernel)) (by decide +kernel), by decide +kernel, ⟨by decide +kernel, by decide +kernel⟩, by decide +kernel, by decide⟩
def G_M_mutiny : Gm := (⟨"ShameAnglesModel", "mutiny", "(I)I"⟩, prog_14_method_75_code, 6, some .int, 1)
theorem mk_M_mutiny : MK G_M_mutiny := ⟨bg_m6 (List.mem_of_getElem? (i := 59) (by decide +kernel)) (by decide +kernel), bg_m1 (List.mem_of_getElem? (i := 11) (by decide +kernel)) (by decide +kernel), by decide +kernel, ⟨by decide +kernel, by decide +kernel⟩, by decide +kernel, by decide⟩
def G_M_seen : Gm := (⟨"ShameAnglesModel", "seen", "(III)I"⟩, prog_14_method_76_code, 4, some .int, 3)
theorem mk_M_seen : MK G_M_seen := ⟨bg_m6 (List.mem_of_getElem? (i := 63) (by decide +kernel)) (by decide +kernel), bg_m1 (List.mem_of_getElem? (i := 11) (by decide +kernel)) (by decide +kernel), by decide +kernel, ⟨by decide +kernel, by decide +kernel⟩, by decide +kernel, by decide⟩
def G_M_began : Gm := (⟨"ShameAnglesModel", "began", "(II)I"⟩, prog_14_method_79_code, 8, some .int, 2)
theorem mk_M_began : MK G_M_began := ⟨bg_m6 (List.mem_of_getElem? (i := 67) (by decide +kernel)) (by decide +kernel), bg_m1 (List.mem_of_getElem? (i := 11) (by decide +kernel)) (by decide +kernel), by decide +kernel, ⟨by decide +kernel, by decide +kernel⟩, by decide +kernel, by decide⟩
def G_M_mayBegin : Gm := (⟨"ShameAnglesModel", "mayBegin", "(II)Z"⟩, prog_14_method_78_code, 6, some .boolean, 2)
theorem mk_M_mayBegin : MK G_M_mayBegin := ⟨bg_m6 (List.mem_of_getElem? (i := 71) (by decide +kernel)) (by decide +kernel), bg_m1 (List.mem_of_getElem? (i := 11) (by decide +kernel)) (by decide +kernel), by decide +kernel, ⟨by decide +kernel, by decide +kernel⟩, by decide +kernel, by decide⟩
def G_M_shameOn : Gm := (⟨"ShameAnglesModel", "shameOn", "(II)I"⟩, prog_14_method_77_code, 5, some .int, 2)
theorem mk_M_shameOn : MK G_M_shameOn := ⟨bg_m6 (List.mem_of_getElem? (i := 75) (by decide +kernel)) (by decide +kernel), bg_m1 (List.mem_of_getElem? (i := 11) (by decide +kernel)) (by decide +kernel), by decide +kernel, ⟨by decide +kernel, by decide +kernel⟩, by decide +kernel, by decide⟩
def G_M_note : Gm := (⟨"ShameAnglesModel", "note", "(IIII)I"⟩, prog_14_method_80_code, 5, some .int, 4)
theorem mk_M_note : MK G_M_note := ⟨bg_m6 (List.mem_of_getElem? (i := 79) (by decide +kernel)) (by decide +kernel), bg_m1 (List.mem_of_getElem? (i := 11) (by decide +kernel)) (by decide +kernel), by decide +kernel, ⟨by decide +kernel, by decide +kernel⟩, by decide +kernel, by decide⟩
def G_M_mark : Gm := (⟨"ShameAnglesModel", "mark", "(IIII)I"⟩, prog_14_method_81_code, 5, some .int, 4)
theorem mk_M_mark : MK G_M_mark := ⟨bg_m6 (List.mem_of_getElem? (i := 83) (by decide +kernel)) (by decide +kernel), bg_m1 (List.mem_of_getElem? (i := 11) (by decide +kernel)) (by decide +kernel), by decide +kernel, ⟨by decide +kernel, by decide +kernel⟩, by decide +kernel, by decide⟩
def G_M_forget : Gm := (⟨"ShameAnglesModel", "forget", "(I)I"⟩, prog_14_method_82_code, 3, some .int, 1)
theorem mk_M_forget : MK G_M_forget := ⟨bg_m6 (List.mem_of_getElem? (i := 87) (by decide +kernel)) (by decide +kernel), bg_m1 (List.mem_of_getElem? (i := 11) (by decide +kernel)) (by decide +kernel), by decide +kernel, ⟨by decide +kernel, by decide +kernel⟩, by decide +kernel, by decide⟩
def G_M_is : Gm := (⟨"ShameAnglesModel", "is", "(I)I"⟩, prog_14_method_85_code, 2, some .int, 1)
theorem mk_M_is : MK G_M_is := ⟨bg_m6 (List.mem_of_getElem? (i := 91) (by decide +kernel)) (by decide +kernel), bg_m1 (List.mem_of_getElem? (i := 11) (by decide +kernel)) (by decide +kernel), by decide +kernel, ⟨by decide +kernel, by decide +kernel⟩, by decide +kernel, by decide⟩
def G_M_kindsOf : Gm := (⟨"ShameAnglesModel", "kindsOf", "(I)I"⟩, prog_14_method_83_code, 7, some .int, 1)
theorem mk_M_kindsOf : MK G_M_kindsOf := ⟨bg_m6 (List.mem_of_getElem? (i := 95) (by decide +kernel)) (by decide +kernel), bg_m1 (List.mem_of_getElem? (i := 11) (by decide +kernel)) (by decide +kernel), by decide +kernel, ⟨by decide +kernel, by decide +kernel⟩, by decide +kernel, by decide⟩
def G_M_kinds : Gm := (⟨"ShameAnglesModel", "kinds", "(I)I"⟩, prog_14_method_86_code, 2, some .int, 1)
theorem mk_M_kinds : MK G_M_kinds := ⟨bg_m6 (List.mem_of_getElem? (i := 99) (by decide +kernel)) (by decide +kernel), bg_m1 (List.mem_of_getElem? (i := 11) (by decide +kernel)) (by decide +kernel), by decide +kernel, ⟨by decide +kernel, by decide +kernel⟩, by decide +kernel, by decide⟩
def G_M_kindsBy : Gm := (⟨"ShameAnglesModel", "kindsBy", "(I)I"⟩, prog_14_method_84_code, 7, some .int, 1)
theorem mk_M_kindsBy : MK G_M_kindsBy := ⟨bg_m6 (List.mem_of_getElem? (i := 103) (by decide +kernel)) (by decide +kernel), bg_m1 (List.mem_of_getElem? (i := 11) (by decide +kernel)) (by decide +kernel), by decide +kernel, ⟨by decide +kernel, by decide +kernel⟩, by decide +kernel, by decide⟩
def G_M_look : Gm := (⟨"ShameAnglesModel", "look", "(I)I"⟩, prog_14_method_88_code, 7, some .int, 1)
theorem mk_M_look : MK G_M_look := ⟨bg_m6 (List.mem_of_getElem? (i := 107) (by decide +kernel)) (by decide +kernel), bg_m1 (List.mem_of_getElem? (i := 11) (by decide +kernel)) (by decide +kernel), by decide +kernel, ⟨by decide +kernel, by decide +kernel⟩, by decide +kernel, by decide⟩
def G_M_alike : Gm := (⟨"ShameAnglesModel", "alike", "(IZII)I"⟩, prog_14_method_87_code, 10, some .int, 4)
theorem mk_M_alike : MK G_M_alike := ⟨bg_m6 (List.mem_of_getElem? (i := 110) (by decide +kernel)) (by decide +kernel), bg_m1 (List.mem_of_getElem? (i := 11) (by decide +kernel)) (by decide +kernel), by decide +kernel, ⟨by decide +kernel, by decide +kernel⟩, by decide +kernel, by decide⟩
def G_M_ask : Gm := (⟨"ShameAnglesModel", "ask", "(I)I"⟩, prog_14_method_89_code, 8, some .int, 1)
theorem mk_M_ask : MK G_M_ask := ⟨bg_m6 (List.mem_of_getElem? (i := 114) (by decide +kernel)) (by decide +kernel), bg_m1 (List.mem_of_getElem? (i := 11) (by decide +kernel)) (by decide +kernel), by decide +kernel, ⟨by decide +kernel, by decide +kernel⟩, by decide +kernel, by decide⟩
def G_M_officers : Gm := (⟨"ShameAnglesModel", "officers", "(II)I"⟩, prog_14_method_92_code, 7, some .int, 2)
theorem mk_M_officers : MK G_M_officers := ⟨bg_m6 (List.mem_of_getElem? (i := 118) (by decide +kernel)) (by decide +kernel), bg_m1 (List.mem_of_getElem? (i := 11) (by decide +kernel)) (by decide +kernel), by decide +kernel, ⟨by decide +kernel, by decide +kernel⟩, by decide +kernel, by decide⟩
def G_M_rests : Gm := (⟨"ShameAnglesModel", "rests", "(III)Z"⟩, prog_14_method_91_code, 6, some .boolean, 3)
theorem mk_M_rests : MK G_M_rests := ⟨bg_m6 (List.mem_of_getElem? (i := 122) (by decide +kernel)) (by decide +kernel), bg_m1 (List.mem_of_getElem? (i := 11) (by decide +kernel)) (by decide +kernel), by decide +kernel, ⟨by decide +kernel, by decide +kernel⟩, by decide +kernel, by decide⟩
def G_M_firstGets : Gm := (⟨"ShameAnglesModel", "firstGets", "(III)I"⟩, prog_14_method_90_code, 4, some .int, 3)
theorem mk_M_firstGets : MK G_M_firstGets := ⟨bg_m6 (List.mem_of_getElem? (i := 126) (by decide +kernel)) (by decide +kernel), bg_m1 (List.mem_of_getElem? (i := 11) (by decide +kernel)) (by decide +kernel), by decide +kernel, ⟨by decide +kernel, by decide +kernel⟩, by decide +kernel, by decide⟩
def G_M_slips : Gm := (⟨"ShameAnglesModel", "slips", "(III)I"⟩, prog_14_method_94_code, 14, some .int, 3)
theorem mk_M_slips : MK G_M_slips := ⟨bg_m6 (List.mem_of_getElem? (i := 130) (by decide +kernel)) (by decide +kernel), bg_m1 (List.mem_of_getElem? (i := 11) (by decide +kernel)) (by decide +kernel), by decide +kernel, ⟨by decide +kernel, by decide +kernel⟩, by decide +kernel, by decide⟩
def G_M_lay : Gm := (⟨"ShameAnglesModel", "lay", "(JJ)V"⟩, prog_14_method_93_code, 11, none, 2)
theorem mk_M_lay : MK G_M_lay := ⟨bg_m6 (List.mem_of_getElem? (i := 135) (by decide +kernel)) (by decide +kernel), bg_m1 (List.mem_of_getElem? (i := 11) (by decide +kernel)) (by decide +kernel), by decide +kernel, ⟨by decide +kernel, by decide +kernel⟩, by decide +kernel, by decide⟩
def G_M_voyages : Gm := (⟨"ShameAnglesModel", "voyages", "(II)I"⟩, prog_14_method_95_code, 9, some .int, 2)
theorem mk_M_voyages : MK G_M_voyages := ⟨bg_m6 (List.mem_of_getElem? (i := 139) (by decide +kernel)) (by decide +kernel), bg_m1 (List.mem_of_getElem? (i := 11) (by decide +kernel)) (by decide +kernel), by decide +kernel, ⟨by decide +kernel, by decide +kernel⟩, by decide +kernel, by decide⟩
def G_M_part : Gm := (⟨"ShameAnglesModel", "part", "(I)J"⟩, prog_14_method_96_code, 2, some .long, 1)
theorem mk_M_part : MK G_M_part := ⟨bg_m6 (List.mem_of_getElem? (i := 151) (by decide +kernel)) (by decide +kernel), bg_m1 (List.mem_of_getElem? (i := 11) (by decide +kernel)) (by decide +kernel), by decide +kernel, ⟨by decide +kernel, by decide +kernel⟩, by decide +kernel, by decide⟩
def G_M_image : Gm := (⟨"ShameAnglesModel", "image", "(I)I"⟩, prog_14_method_99_code, 2, some .int, 1)
theorem mk_M_image : MK G_M_image := ⟨bg_m6 (List.mem_of_getElem? (i := 155) (by decide +kernel)) (by decide +kernel), bg_m1 (List.mem_of_getElem? (i := 11) (by decide +kernel)) (by decide +kernel), by decide +kernel, ⟨by decide +kernel, by decide +kernel⟩, by decide +kernel, by decide⟩
def G_M_from : Gm := (⟨"ShameAnglesModel", "from", "(I)I"⟩, prog_14_method_100_code, 2, some .int, 1)
theorem mk_M_from : MK G_M_from := ⟨bg_m6 (List.mem_of_getElem? (i := 159) (by decide +kernel)) (by decide +kernel), bg_m1 (List.mem_of_getElem? (i := 11) (by decide +kernel)) (by decide +kernel), by decide +kernel, ⟨by decide +kernel, by decide +kernel⟩, by decide +kernel, by decide⟩
def G_M_status : Gm := (⟨"ShameAnglesModel", "status", "(I)I"⟩, prog_14_method_101_code, 2, some .int, 1)
theorem mk_M_status : MK G_M_status := ⟨bg_m6 (List.mem_of_getElem? (i := 163) (by decide +kernel)) (by decide +kernel), bg_m1 (List.mem_of_getElem? (i := 11) (by decide +kernel)) (by decide +kernel), by decide +kernel, ⟨by decide +kernel, by decide +kernel⟩, by decide +kernel, by decide⟩
def G_M_count : Gm := (⟨"ShameAnglesModel", "count", "(I)I"⟩, prog_14_method_104_code, 2, some .int, 1)
theorem mk_M_count : MK G_M_count := ⟨bg_m6 (List.mem_of_getElem? (i := 167) (by decide +kernel)) (by decide +kernel), bg_m1 (List.mem_of_getElem? (i := 11) (by decide +kernel)) (by decide +kernel), by decide +kernel, ⟨by decide +kernel, by decide +kernel⟩, by decide +kernel, by decide⟩
def G_M_countOf : Gm := (⟨"ShameAnglesModel", "countOf", "(I)I"⟩, prog_14_method_103_code, 2, some .int, 1)
theorem mk_M_countOf : MK G_M_countOf := ⟨bg_m6 (List.mem_of_getElem? (i := 171) (by decide +kernel)) (by decide +kernel), bg_m1 (List.mem_of_getElem? (i := 11) (by decide +kernel)) (by decide +kernel), by decide +kernel, ⟨by decide +kernel, by decide +kernel⟩, by decide +kernel, by decide⟩
def G_M_shameAll : Gm := (⟨"ShameAnglesModel", "shameAll", "()I"⟩, prog_14_method_102_code, 3, some .int, 0)
theorem mk_M_shameAll : MK G_M_shameAll := ⟨bg_m6 (List.mem_of_getElem? (i := 175) (by decide +kernel)) (by decide +kernel), bg_m1 (List.mem_of_getElem? (i := 11) (by decide +kernel)) (by decide +kernel), by decide +kernel, ⟨by decide +kernel, by decide +kernel⟩, by decide +kernel, by decide⟩
def G_M_digest : Gm := (⟨"ShameAnglesModel", "digest", "()J"⟩, prog_14_method_106_code, 2, some .long, 0)
theorem mk_M_digest : MK G_M_digest := ⟨bg_m6 (List.mem_of_getElem? (i := 179) (by decide +kernel)) (by decide +kernel), bg_m1 (List.mem_of_getElem? (i := 11) (by decide +kernel)) (by decide +kernel), by decide +kernel, ⟨by decide +kernel, by decide +kernel⟩, by decide +kernel, by decide⟩
def G_M_mix : Gm := (⟨"ShameAnglesModel", "mix", "(J)V"⟩, prog_14_method_105_code, 3, none, 1)
theorem mk_M_mix : MK G_M_mix := ⟨bg_m6 (List.mem_of_getElem? (i := 184) (by decide +kernel)) (by decide +kernel), bg_m1 (List.mem_of_getElem? (i := 11) (by decide +kernel)) (by decide +kernel), by decide +kernel, ⟨by decide +kernel, by decide +kernel⟩, by decide +kernel, by decide⟩
theorem ic_L_9 : IC "ShameAnglesLaw" 9 G_A_init := ⟨bg_m1 (List.mem_of_getElem? (i := 23) (by decide +kernel)) (by decide +kernel), bg_m1 (List.mem_of_getElem? (i := 24) (by decide +kernel)) (by decide +kernel), rfl, rfl⟩
theorem ic_A_9 : IC "ShameAngles" 9 G_S_init := ⟨bg_m1 (List.mem_of_getElem? (i := 31) (by decide +kernel)) (by decide +kernel), bg_m1 (List.mem_of_getElem? (i := 32) (by decide +kernel)) (by decide +kernel), rfl, rfl⟩
theorem ic_S_18 : IC "ShameAngles$State" 18 G_R_init := ⟨bg_m1 (List.mem_of_getElem? (i := 100) (by decide +kernel)) (by decide +kernel), bg_m1 (List.mem_of_getElem? (i := 101) (by decide +kernel)) (by decide +kernel), rfl, rfl⟩
theorem ic_A_40 : IC "ShameAngles" 40 G_O_init := ⟨bg_m1 (List.mem_of_getElem? (i := 187) (by decide +kernel)) (by decide +kernel), bg_m1 (List.mem_of_getElem? (i := 188) (by decide +kernel)) (by decide +kernel), rfl, rfl⟩
theorem vc_L_13 : VC "ShameAnglesLaw" 13 G_A_ship := ⟨bg_m2 (List.mem_of_getElem? (i := 44) (by decide +kernel)) (by decide +kernel), bg_m2 (List.mem_of_getElem? (i := 45) (by decide +kernel)) (by decide +kernel), bg_m2 (List.mem_of_getElem? (i := 46) (by decide +kernel)) (by decide +kernel)⟩
theorem sc_A_66 : SC "ShameAngles" 66 G_A_within := ⟨bg_m2 (List.mem_of_getElem? (i := 48) (by decide +kernel)) (by decide +kernel), bg_m2 (List.mem_of_getElem? (i := 49) (by decide +kernel)) (by decide +kernel)⟩
theorem vc_A_70 : VC "ShameAngles" 70 G_A_bad := ⟨bg_m2 (List.mem_of_getElem? (i := 51) (by decide +kernel)) (by decide +kernel), bg_m2 (List.mem_of_getElem? (i := 53) (by decide +kernel)) (by decide +kernel), bg_m0 (List.mem_of_getElem? (i := 0) (by decide +kernel)) (by decide +kernel)⟩
theorem vc_A_81 : VC "ShameAngles" 81 G_S_begin := ⟨bg_m2 (List.mem_of_getElem? (i := 55) (by decide +kernel)) (by decide +kernel), bg_m2 (List.mem_of_getElem? (i := 56) (by decide +kernel)) (by decide +kernel), bg_m2 (List.mem_of_getElem? (i := 57) (by decide +kernel)) (by decide +kernel)⟩
theorem vc_S_42 : VC "ShameAngles$State" 42 G_H_begin := ⟨bg_m2 (List.mem_of_getElem? (i := 59) (by decide +kernel)) (by decide +kernel), bg_m2 (List.mem_of_getElem? (i := 60) (by decide +kernel)) (by decide +kernel), bg_m2 (List.mem_of_getElem? (i := 61) (by decide +kernel)) (by decide +kernel)⟩
theorem vc_L_18 : VC "ShameAnglesLaw" 18 G_A_fog := ⟨bg_m2 (List.mem_of_getElem? (i := 63) (by decide +kernel)) (by decide +kernel), bg_m2 (List.mem_of_getElem? (i := 64) (by decide +kernel)) (by decide +kernel), bg_m2 (List.mem_of_getElem? (i := 65) (by decide +kernel)) (by decide +kernel)⟩
theorem vc_L_23 : VC "ShameAnglesLaw" 23 G_A_man := ⟨bg_m2 (List.mem_of_getElem? (i := 67) (by decide +kernel)) (by decide +kernel), bg_m2 (List.mem_of_getElem? (i := 68) (by decide +kernel)) (by decide +kernel), bg_m2 (List.mem_of_getElem? (i := 69) (by decide +kernel)) (by decide +kernel)⟩
theorem vc_A_98 : VC "ShameAngles" 98 G_A_full := ⟨bg_m2 (List.mem_of_getElem? (i := 71) (by decide +kernel)) (by decide +kernel), bg_m2 (List.mem_of_getElem? (i := 73) (by decide +kernel)) (by decide +kernel), bg_m0 (List.mem_of_getElem? (i := 1) (by decide +kernel)) (by decide +kernel)⟩
theorem vc_A_102 : VC "ShameAngles" 102 G_H_addMan := ⟨bg_m2 (List.mem_of_getElem? (i := 75) (by decide +kernel)) (by decide +kernel), bg_m2 (List.mem_of_getElem? (i := 76) (by decide +kernel)) (by decide +kernel), bg_m2 (List.mem_of_getElem? (i := 77) (by decide +kernel)) (by decide +kernel)⟩
theorem vc_L_27 : VC "ShameAnglesLaw" 27 G_A_reader := ⟨bg_m2 (List.mem_of_getElem? (i := 79) (by decide +kernel)) (by decide +kernel), bg_m2 (List.mem_of_getElem? (i := 80) (by decide +kernel)) (by decide +kernel), bg_m2 (List.mem_of_getElem? (i := 81) (by decide +kernel)) (by decide +kernel)⟩
theorem vc_A_109 : VC "ShameAngles" 109 G_H_addReader := ⟨bg_m2 (List.mem_of_getElem? (i := 83) (by decide +kernel)) (by decide +kernel), bg_m2 (List.mem_of_getElem? (i := 84) (by decide +kernel)) (by decide +kernel), bg_m2 (List.mem_of_getElem? (i := 85) (by decide +kernel)) (by decide +kernel)⟩
theorem vc_L_31 : VC "ShameAnglesLaw" 31 G_A_type := ⟨bg_m2 (List.mem_of_getElem? (i := 87) (by decide +kernel)) (by decide +kernel), bg_m2 (List.mem_of_getElem? (i := 88) (by decide +kernel)) (by decide +kernel), bg_m2 (List.mem_of_getElem? (i := 89) (by decide +kernel)) (by decide +kernel)⟩
theorem vc_A_113 : VC "ShameAngles" 113 G_T_add := ⟨bg_m2 (List.mem_of_getElem? (i := 91) (by decide +kernel)) (by decide +kernel), bg_m2 (List.mem_of_getElem? (i := 92) (by decide +kernel)) (by decide +kernel), bg_m2 (List.mem_of_getElem? (i := 93) (by decide +kernel)) (by decide +kernel)⟩
theorem vc_L_35 : VC "ShameAnglesLaw" 35 G_A_clear := ⟨bg_m2 (List.mem_of_getElem? (i := 95) (by decide +kernel)) (by decide +kernel), bg_m2 (List.mem_of_getElem? (i := 96) (by decide +kernel)) (by decide +kernel), bg_m2 (List.mem_of_getElem? (i := 97) (by decide +kernel)) (by decide +kernel)⟩
theorem vc_L_40 : VC "ShameAnglesLaw" 40 G_A_read := ⟨bg_m2 (List.mem_of_getElem? (i := 99) (by decide +kernel)) (by decide +kernel), bg_m2 (List.mem_of_getElem? (i := 100) (by decide +kernel)) (by decide +kernel), bg_m2 (List.mem_of_getElem? (i := 101) (by decide +kernel)) (by decide +kernel)⟩
theorem vc_A_116 : VC "ShameAngles" 116 G_T_tell := ⟨bg_m2 (List.mem_of_getElem? (i := 103) (by decide +kernel)) (by decide +kernel), bg_m2 (List.mem_of_getElem? (i := 104) (by decide +kernel)) (by decide +kernel), bg_m2 (List.mem_of_getElem? (i := 105) (by decide +kernel)) (by decide +kernel)⟩
theorem vc_T_22 : VC "ShameAngles$Script" 22 G_T_advance := ⟨bg_m2 (List.mem_of_getElem? (i := 107) (by decide +kernel)) (by decide +kernel), bg_m2 (List.mem_of_getElem? (i := 109) (by decide +kernel)) (by decide +kernel), bg_m0 (List.mem_of_getElem? (i := 2) (by decide +kernel)) (by decide +kernel)⟩
theorem sc_T_119 : SC "ShameAngles$Script" 119 G_T_isLetter := ⟨bg_m2 (List.mem_of_getElem? (i := 111) (by decide +kernel)) (by decide +kernel), bg_m2 (List.mem_of_getElem? (i := 112) (by decide +kernel)) (by decide +kernel)⟩
theorem vc_T_123 : VC "ShameAngles$Script" 123 G_T_advanceWord := ⟨bg_m2 (List.mem_of_getElem? (i := 114) (by decide +kernel)) (by decide +kernel), bg_m2 (List.mem_of_getElem? (i := 116) (by decide +kernel)) (by decide +kernel), bg_m0 (List.mem_of_getElem? (i := 3) (by decide +kernel)) (by decide +kernel)⟩
theorem sc_T_126 : SC "ShameAngles$Script" 126 G_T_isFigure := ⟨bg_m2 (List.mem_of_getElem? (i := 118) (by decide +kernel)) (by decide +kernel), bg_m2 (List.mem_of_getElem? (i := 119) (by decide +kernel)) (by decide +kernel)⟩
theorem vc_T_129 : VC "ShameAngles$Script" 129 G_T_advanceNumber := ⟨bg_m2 (List.mem_of_getElem? (i := 121) (by decide +kernel)) (by decide +kernel), bg_m2 (List.mem_of_getElem? (i := 123) (by decide +kernel)) (by decide +kernel), bg_m0 (List.mem_of_getElem? (i := 4) (by decide +kernel)) (by decide +kernel)⟩
theorem vc_T_28 : VC "ShameAngles$Script" 28 G_T_item := ⟨bg_m2 (List.mem_of_getElem? (i := 125) (by decide +kernel)) (by decide +kernel), bg_m2 (List.mem_of_getElem? (i := 127) (by decide +kernel)) (by decide +kernel), bg_m0 (List.mem_of_getElem? (i := 5) (by decide +kernel)) (by decide +kernel)⟩
theorem vc_T_37 : VC "ShameAngles$Script" 37 G_T_wordIs := ⟨bg_m2 (List.mem_of_getElem? (i := 130) (by decide +kernel)) (by decide +kernel), bg_m2 (List.mem_of_getElem? (i := 132) (by decide +kernel)) (by decide +kernel), bg_m0 (List.mem_of_getElem? (i := 6) (by decide +kernel)) (by decide +kernel)⟩
theorem vc_T_109 : VC "ShameAngles$Script" 109 G_J_length := ⟨bg_m2 (List.mem_of_getElem? (i := 134) (by decide +kernel)) (by decide +kernel), bg_m2 (List.mem_of_getElem? (i := 135) (by decide +kernel)) (by decide +kernel), bg_m2 (List.mem_of_getElem? (i := 136) (by decide +kernel)) (by decide +kernel)⟩
theorem vc_J_335 : VC "java/lang/String" 335 G_J_coder := ⟨bg_m2 (List.mem_of_getElem? (i := 138) (by decide +kernel)) (by decide +kernel), bg_m2 (List.mem_of_getElem? (i := 139) (by decide +kernel)) (by decide +kernel), bg_m2 (List.mem_of_getElem? (i := 140) (by decide +kernel)) (by decide +kernel)⟩
theorem vc_T_115 : VC "ShameAngles$Script" 115 G_J_charAt := ⟨bg_m2 (List.mem_of_getElem? (i := 144) (by decide +kernel)) (by decide +kernel), bg_m2 (List.mem_of_getElem? (i := 145) (by decide +kernel)) (by decide +kernel), bg_m2 (List.mem_of_getElem? (i := 146) (by decide +kernel)) (by decide +kernel)⟩
theorem vc_J_492 : VC "java/lang/String" 492 G_J_isLatin1 := ⟨bg_m2 (List.mem_of_getElem? (i := 148) (by decide +kernel)) (by decide +kernel), bg_m2 (List.mem_of_getElem? (i := 149) (by decide +kernel)) (by decide +kernel), bg_m2 (List.mem_of_getElem? (i := 150) (by decide +kernel)) (by decide +kernel)⟩
theorem sc_J_495 : SC "java/lang/String" 495 G_JL_charAt := ⟨bg_m2 (List.mem_of_getElem? (i := 152) (by decide +kernel)) (by decide +kernel), bg_m2 (List.mem_of_getElem? (i := 153) (by decide +kernel)) (by decide +kernel)⟩
theorem sc_JL_9 : SC "java/lang/StringLatin1" 9 G_J_checkIndex := ⟨bg_m2 (List.mem_of_getElem? (i := 155) (by decide +kernel)) (by decide +kernel), bg_m2 (List.mem_of_getElem? (i := 156) (by decide +kernel)) (by decide +kernel)⟩
theorem sc_J_1059 : SC "java/lang/String" 1059 G_JP_checkIndex := ⟨bg_m2 (List.mem_of_getElem? (i := 160) (by decide +kernel)) (by decide +kernel), bg_m2 (List.mem_of_getElem? (i := 161) (by decide +kernel)) (by decide +kernel)⟩
theorem sc_JU_414 : SC "java/lang/StringUTF16" 414 G_J_checkIndex := ⟨bg_m2 (List.mem_of_getElem? (i := 172) (by decide +kernel)) (by decide +kernel), bg_m2 (List.mem_of_getElem? (i := 156) (by decide +kernel)) (by decide +kernel)⟩
theorem vc_T_41 : VC "ShameAngles$Script" 41 G_T_shipItem := ⟨bg_m2 (List.mem_of_getElem? (i := 182) (by decide +kernel)) (by decide +kernel), bg_m2 (List.mem_of_getElem? (i := 184) (by decide +kernel)) (by decide +kernel), bg_m0 (List.mem_of_getElem? (i := 7) (by decide +kernel)) (by decide +kernel)⟩
theorem vc_T_78 : VC "ShameAngles$Script" 78 G_T_number := ⟨bg_m2 (List.mem_of_getElem? (i := 186) (by decide +kernel)) (by decide +kernel), bg_m2 (List.mem_of_getElem? (i := 188) (by decide +kernel)) (by decide +kernel), bg_m0 (List.mem_of_getElem? (i := 8) (by decide +kernel)) (by decide +kernel)⟩
theorem vc_T_82 : VC "ShameAngles$Script" 82 G_T_ended := ⟨bg_m2 (List.mem_of_getElem? (i := 190) (by decide +kernel)) (by decide +kernel), bg_m2 (List.mem_of_getElem? (i := 192) (by decide +kernel)) (by decide +kernel), bg_m0 (List.mem_of_getElem? (i := 9) (by decide +kernel)) (by decide +kernel)⟩
theorem vc_T_86 : VC "ShameAngles$Script" 86 G_H_begin := ⟨bg_m2 (List.mem_of_getElem? (i := 194) (by decide +kernel)) (by decide +kernel), bg_m2 (List.mem_of_getElem? (i := 60) (by decide +kernel)) (by decide +kernel), bg_m2 (List.mem_of_getElem? (i := 61) (by decide +kernel)) (by decide +kernel)⟩
theorem vc_T_47 : VC "ShameAngles$Script" 47 G_T_fogItem := ⟨bg_m2 (List.mem_of_getElem? (i := 196) (by decide +kernel)) (by decide +kernel), bg_m2 (List.mem_of_getElem? (i := 198) (by decide +kernel)) (by decide +kernel), bg_m0 (List.mem_of_getElem? (i := 10) (by decide +kernel)) (by decide +kernel)⟩
theorem vc_T_57 : VC "ShameAngles$Script" 57 G_T_manItem := ⟨bg_m2 (List.mem_of_getElem? (i := 201) (by decide +kernel)) (by decide +kernel), bg_m2 (List.mem_of_getElem? (i := 203) (by decide +kernel)) (by decide +kernel), bg_m0 (List.mem_of_getElem? (i := 11) (by decide +kernel)) (by decide +kernel)⟩
theorem vc_T_92 : VC "ShameAngles$Script" 92 G_H_addMan := ⟨bg_m2 (List.mem_of_getElem? (i := 205) (by decide +kernel)) (by decide +kernel), bg_m2 (List.mem_of_getElem? (i := 76) (by decide +kernel)) (by decide +kernel), bg_m2 (List.mem_of_getElem? (i := 77) (by decide +kernel)) (by decide +kernel)⟩
theorem vc_T_65 : VC "ShameAngles$Script" 65 G_T_readerItem := ⟨bg_m2 (List.mem_of_getElem? (i := 207) (by decide +kernel)) (by decide +kernel), bg_m2 (List.mem_of_getElem? (i := 209) (by decide +kernel)) (by decide +kernel), bg_m0 (List.mem_of_getElem? (i := 12) (by decide +kernel)) (by decide +kernel)⟩
theorem vc_T_95 : VC "ShameAngles$Script" 95 G_H_addReader := ⟨bg_m2 (List.mem_of_getElem? (i := 211) (by decide +kernel)) (by decide +kernel), bg_m2 (List.mem_of_getElem? (i := 84) (by decide +kernel)) (by decide +kernel), bg_m2 (List.mem_of_getElem? (i := 85) (by decide +kernel)) (by decide +kernel)⟩
theorem vc_T_70 : VC "ShameAngles$Script" 70 G_T_deedItem := ⟨bg_m2 (List.mem_of_getElem? (i := 213) (by decide +kernel)) (by decide +kernel), bg_m2 (List.mem_of_getElem? (i := 215) (by decide +kernel)) (by decide +kernel), bg_m0 (List.mem_of_getElem? (i := 13) (by decide +kernel)) (by decide +kernel)⟩
theorem vc_T_99 : VC "ShameAngles$Script" 99 G_H_addShame := ⟨bg_m2 (List.mem_of_getElem? (i := 217) (by decide +kernel)) (by decide +kernel), bg_m2 (List.mem_of_getElem? (i := 218) (by decide +kernel)) (by decide +kernel), bg_m2 (List.mem_of_getElem? (i := 219) (by decide +kernel)) (by decide +kernel)⟩
theorem vc_H_49 : VC "ShameAngles$Ship" 49 G_H_hasMan := ⟨bg_m2 (List.mem_of_getElem? (i := 221) (by decide +kernel)) (by decide +kernel), bg_m2 (List.mem_of_getElem? (i := 222) (by decide +kernel)) (by decide +kernel), bg_m2 (List.mem_of_getElem? (i := 223) (by decide +kernel)) (by decide +kernel)⟩
theorem sc_H_53 : SC "ShameAngles$Ship" 53 G_J_min := ⟨bg_m2 (List.mem_of_getElem? (i := 225) (by decide +kernel)) (by decide +kernel), bg_m2 (List.mem_of_getElem? (i := 226) (by decide +kernel)) (by decide +kernel)⟩
theorem vc_T_75 : VC "ShameAngles$Script" 75 G_T_noonItem := ⟨bg_m2 (List.mem_of_getElem? (i := 229) (by decide +kernel)) (by decide +kernel), bg_m2 (List.mem_of_getElem? (i := 231) (by decide +kernel)) (by decide +kernel), bg_m0 (List.mem_of_getElem? (i := 14) (by decide +kernel)) (by decide +kernel)⟩
theorem vc_T_106 : VC "ShameAngles$Script" 106 G_H_sail := ⟨bg_m2 (List.mem_of_getElem? (i := 233) (by decide +kernel)) (by decide +kernel), bg_m2 (List.mem_of_getElem? (i := 234) (by decide +kernel)) (by decide +kernel), bg_m2 (List.mem_of_getElem? (i := 235) (by decide +kernel)) (by decide +kernel)⟩
theorem vc_H_82 : VC "ShameAngles$Ship" 82 G_H_errorOf := ⟨bg_m2 (List.mem_of_getElem? (i := 237) (by decide +kernel)) (by decide +kernel), bg_m2 (List.mem_of_getElem? (i := 238) (by decide +kernel)) (by decide +kernel), bg_m2 (List.mem_of_getElem? (i := 239) (by decide +kernel)) (by decide +kernel)⟩
theorem vc_H_65 : VC "ShameAngles$Ship" 65 G_H_hasReader := ⟨bg_m3 (List.mem_of_getElem? (i := 1) (by decide +kernel)) (by decide +kernel), bg_m3 (List.mem_of_getElem? (i := 2) (by decide +kernel)) (by decide +kernel), bg_m3 (List.mem_of_getElem? (i := 3) (by decide +kernel)) (by decide +kernel)⟩
theorem vc_H_75 : VC "ShameAngles$Ship" 75 G_H_foggy := ⟨bg_m3 (List.mem_of_getElem? (i := 5) (by decide +kernel)) (by decide +kernel), bg_m3 (List.mem_of_getElem? (i := 6) (by decide +kernel)) (by decide +kernel), bg_m3 (List.mem_of_getElem? (i := 7) (by decide +kernel)) (by decide +kernel)⟩
theorem sc_H_59 : SC "ShameAngles$Ship" 59 G_K_stands := ⟨bg_m3 (List.mem_of_getElem? (i := 9) (by decide +kernel)) (by decide +kernel), bg_m3 (List.mem_of_getElem? (i := 10) (by decide +kernel)) (by decide +kernel)⟩
theorem sc_H_72 : SC "ShameAngles$Ship" 72 G_K_sees := ⟨bg_m3 (List.mem_of_getElem? (i := 12) (by decide +kernel)) (by decide +kernel), bg_m3 (List.mem_of_getElem? (i := 13) (by decide +kernel)) (by decide +kernel)⟩
theorem vc_H_85 : VC "ShameAngles$Ship" 85 G_H_placeBehind := ⟨bg_m3 (List.mem_of_getElem? (i := 15) (by decide +kernel)) (by decide +kernel), bg_m3 (List.mem_of_getElem? (i := 16) (by decide +kernel)) (by decide +kernel), bg_m3 (List.mem_of_getElem? (i := 17) (by decide +kernel)) (by decide +kernel)⟩
theorem sc_H_79 : SC "ShameAngles$Ship" 79 G_J_floorMod := ⟨bg_m3 (List.mem_of_getElem? (i := 19) (by decide +kernel)) (by decide +kernel), bg_m3 (List.mem_of_getElem? (i := 20) (by decide +kernel)) (by decide +kernel)⟩
theorem sc_H_88 : SC "ShameAngles$Ship" 88 G_J_max := ⟨bg_m3 (List.mem_of_getElem? (i := 22) (by decide +kernel)) (by decide +kernel), bg_m3 (List.mem_of_getElem? (i := 23) (by decide +kernel)) (by decide +kernel)⟩
theorem vc_A_123 : VC "ShameAngles" 123 G_H_copy := ⟨bg_m3 (List.mem_of_getElem? (i := 25) (by decide +kernel)) (by decide +kernel), bg_m3 (List.mem_of_getElem? (i := 26) (by decide +kernel)) (by decide +kernel), bg_m3 (List.mem_of_getElem? (i := 27) (by decide +kernel)) (by decide +kernel)⟩
theorem vc_L_44 : VC "ShameAnglesLaw" 44 G_A_noon := ⟨bg_m3 (List.mem_of_getElem? (i := 33) (by decide +kernel)) (by decide +kernel), bg_m3 (List.mem_of_getElem? (i := 34) (by decide +kernel)) (by decide +kernel), bg_m3 (List.mem_of_getElem? (i := 35) (by decide +kernel)) (by decide +kernel)⟩
theorem vc_A_127 : VC "ShameAngles" 127 G_H_hasSet := ⟨bg_m3 (List.mem_of_getElem? (i := 37) (by decide +kernel)) (by decide +kernel), bg_m3 (List.mem_of_getElem? (i := 38) (by decide +kernel)) (by decide +kernel), bg_m3 (List.mem_of_getElem? (i := 39) (by decide +kernel)) (by decide +kernel)⟩
theorem vc_A_131 : VC "ShameAngles" 131 G_H_hasReader := ⟨bg_m3 (List.mem_of_getElem? (i := 41) (by decide +kernel)) (by decide +kernel), bg_m3 (List.mem_of_getElem? (i := 2) (by decide +kernel)) (by decide +kernel), bg_m3 (List.mem_of_getElem? (i := 3) (by decide +kernel)) (by decide +kernel)⟩
theorem vc_A_137 : VC "ShameAngles" 137 G_A_no := ⟨bg_m3 (List.mem_of_getElem? (i := 42) (by decide +kernel)) (by decide +kernel), bg_m3 (List.mem_of_getElem? (i := 44) (by decide +kernel)) (by decide +kernel), bg_m0 (List.mem_of_getElem? (i := 15) (by decide +kernel)) (by decide +kernel)⟩
theorem vc_A_140 : VC "ShameAngles" 140 G_P_push := ⟨bg_m3 (List.mem_of_getElem? (i := 46) (by decide +kernel)) (by decide +kernel), bg_m3 (List.mem_of_getElem? (i := 47) (by decide +kernel)) (by decide +kernel), bg_m3 (List.mem_of_getElem? (i := 48) (by decide +kernel)) (by decide +kernel)⟩
theorem vc_A_143 : VC "ShameAngles" 143 G_H_sail := ⟨bg_m3 (List.mem_of_getElem? (i := 51) (by decide +kernel)) (by decide +kernel), bg_m2 (List.mem_of_getElem? (i := 234) (by decide +kernel)) (by decide +kernel), bg_m2 (List.mem_of_getElem? (i := 235) (by decide +kernel)) (by decide +kernel)⟩
theorem vc_L_48 : VC "ShameAnglesLaw" 48 G_A_deed := ⟨bg_m3 (List.mem_of_getElem? (i := 52) (by decide +kernel)) (by decide +kernel), bg_m3 (List.mem_of_getElem? (i := 53) (by decide +kernel)) (by decide +kernel), bg_m3 (List.mem_of_getElem? (i := 54) (by decide +kernel)) (by decide +kernel)⟩
theorem vc_A_150 : VC "ShameAngles" 150 G_H_hasMan := ⟨bg_m3 (List.mem_of_getElem? (i := 56) (by decide +kernel)) (by decide +kernel), bg_m2 (List.mem_of_getElem? (i := 222) (by decide +kernel)) (by decide +kernel), bg_m2 (List.mem_of_getElem? (i := 223) (by decide +kernel)) (by decide +kernel)⟩
theorem vc_A_153 : VC "ShameAngles" 153 G_H_addShame := ⟨bg_m3 (List.mem_of_getElem? (i := 57) (by decide +kernel)) (by decide +kernel), bg_m2 (List.mem_of_getElem? (i := 218) (by decide +kernel)) (by decide +kernel), bg_m2 (List.mem_of_getElem? (i := 219) (by decide +kernel)) (by decide +kernel)⟩
theorem vc_L_52 : VC "ShameAnglesLaw" 52 G_A_undo := ⟨bg_m3 (List.mem_of_getElem? (i := 58) (by decide +kernel)) (by decide +kernel), bg_m3 (List.mem_of_getElem? (i := 59) (by decide +kernel)) (by decide +kernel), bg_m3 (List.mem_of_getElem? (i := 60) (by decide +kernel)) (by decide +kernel)⟩
theorem vc_A_159 : VC "ShameAngles" 159 G_P_pop := ⟨bg_m3 (List.mem_of_getElem? (i := 62) (by decide +kernel)) (by decide +kernel), bg_m3 (List.mem_of_getElem? (i := 63) (by decide +kernel)) (by decide +kernel), bg_m3 (List.mem_of_getElem? (i := 64) (by decide +kernel)) (by decide +kernel)⟩
theorem vc_L_56 : VC "ShameAnglesLaw" 56 G_A_now := ⟨bg_m3 (List.mem_of_getElem? (i := 66) (by decide +kernel)) (by decide +kernel), bg_m3 (List.mem_of_getElem? (i := 67) (by decide +kernel)) (by decide +kernel), bg_m3 (List.mem_of_getElem? (i := 68) (by decide +kernel)) (by decide +kernel)⟩
theorem vc_A_165 : VC "ShameAngles" 165 G_H_foggy := ⟨bg_m3 (List.mem_of_getElem? (i := 70) (by decide +kernel)) (by decide +kernel), bg_m3 (List.mem_of_getElem? (i := 6) (by decide +kernel)) (by decide +kernel), bg_m3 (List.mem_of_getElem? (i := 7) (by decide +kernel)) (by decide +kernel)⟩
theorem vc_L_60 : VC "ShameAnglesLaw" 60 G_A_of := ⟨bg_m3 (List.mem_of_getElem? (i := 71) (by decide +kernel)) (by decide +kernel), bg_m3 (List.mem_of_getElem? (i := 72) (by decide +kernel)) (by decide +kernel), bg_m3 (List.mem_of_getElem? (i := 73) (by decide +kernel)) (by decide +kernel)⟩
theorem vc_L_64 : VC "ShameAnglesLaw" 64 G_A_angle := ⟨bg_m3 (List.mem_of_getElem? (i := 75) (by decide +kernel)) (by decide +kernel), bg_m3 (List.mem_of_getElem? (i := 76) (by decide +kernel)) (by decide +kernel), bg_m3 (List.mem_of_getElem? (i := 77) (by decide +kernel)) (by decide +kernel)⟩
theorem vc_A_172 : VC "ShameAngles" 172 G_H_angleOf := ⟨bg_m3 (List.mem_of_getElem? (i := 79) (by decide +kernel)) (by decide +kernel), bg_m3 (List.mem_of_getElem? (i := 80) (by decide +kernel)) (by decide +kernel), bg_m3 (List.mem_of_getElem? (i := 81) (by decide +kernel)) (by decide +kernel)⟩
theorem vc_L_68 : VC "ShameAnglesLaw" 68 G_A_reads := ⟨bg_m3 (List.mem_of_getElem? (i := 83) (by decide +kernel)) (by decide +kernel), bg_m3 (List.mem_of_getElem? (i := 84) (by decide +kernel)) (by decide +kernel), bg_m3 (List.mem_of_getElem? (i := 85) (by decide +kernel)) (by decide +kernel)⟩
theorem vc_A_175 : VC "ShameAngles" 175 G_H_sightOf := ⟨bg_m3 (List.mem_of_getElem? (i := 87) (by decide +kernel)) (by decide +kernel), bg_m3 (List.mem_of_getElem? (i := 88) (by decide +kernel)) (by decide +kernel), bg_m3 (List.mem_of_getElem? (i := 89) (by decide +kernel)) (by decide +kernel)⟩
theorem vc_H_68 : VC "ShameAngles$Ship" 68 G_H_angleOf := ⟨bg_m3 (List.mem_of_getElem? (i := 91) (by decide +kernel)) (by decide +kernel), bg_m3 (List.mem_of_getElem? (i := 80) (by decide +kernel)) (by decide +kernel), bg_m3 (List.mem_of_getElem? (i := 81) (by decide +kernel)) (by decide +kernel)⟩
theorem vc_L_72 : VC "ShameAnglesLaw" 72 G_A_error := ⟨bg_m3 (List.mem_of_getElem? (i := 92) (by decide +kernel)) (by decide +kernel), bg_m3 (List.mem_of_getElem? (i := 93) (by decide +kernel)) (by decide +kernel), bg_m3 (List.mem_of_getElem? (i := 94) (by decide +kernel)) (by decide +kernel)⟩
theorem vc_A_178 : VC "ShameAngles" 178 G_H_errorOf := ⟨bg_m3 (List.mem_of_getElem? (i := 96) (by decide +kernel)) (by decide +kernel), bg_m2 (List.mem_of_getElem? (i := 238) (by decide +kernel)) (by decide +kernel), bg_m2 (List.mem_of_getElem? (i := 239) (by decide +kernel)) (by decide +kernel)⟩
theorem vc_L_76 : VC "ShameAnglesLaw" 76 G_A_off := ⟨bg_m3 (List.mem_of_getElem? (i := 97) (by decide +kernel)) (by decide +kernel), bg_m3 (List.mem_of_getElem? (i := 98) (by decide +kernel)) (by decide +kernel), bg_m3 (List.mem_of_getElem? (i := 99) (by decide +kernel)) (by decide +kernel)⟩
theorem vc_A_181 : VC "ShameAngles" 181 G_H_drift := ⟨bg_m3 (List.mem_of_getElem? (i := 101) (by decide +kernel)) (by decide +kernel), bg_m3 (List.mem_of_getElem? (i := 102) (by decide +kernel)) (by decide +kernel), bg_m3 (List.mem_of_getElem? (i := 103) (by decide +kernel)) (by decide +kernel)⟩
theorem vc_L_80 : VC "ShameAnglesLaw" 80 G_A_then := ⟨bg_m3 (List.mem_of_getElem? (i := 105) (by decide +kernel)) (by decide +kernel), bg_m3 (List.mem_of_getElem? (i := 106) (by decide +kernel)) (by decide +kernel), bg_m3 (List.mem_of_getElem? (i := 107) (by decide +kernel)) (by decide +kernel)⟩
theorem vc_L_85 : VC "ShameAnglesLaw" 85 G_A_when := ⟨bg_m3 (List.mem_of_getElem? (i := 109) (by decide +kernel)) (by decide +kernel), bg_m3 (List.mem_of_getElem? (i := 110) (by decide +kernel)) (by decide +kernel), bg_m3 (List.mem_of_getElem? (i := 111) (by decide +kernel)) (by decide +kernel)⟩
theorem vc_L_89 : VC "ShameAnglesLaw" 89 G_A_best := ⟨bg_m3 (List.mem_of_getElem? (i := 113) (by decide +kernel)) (by decide +kernel), bg_m3 (List.mem_of_getElem? (i := 114) (by decide +kernel)) (by decide +kernel), bg_m3 (List.mem_of_getElem? (i := 115) (by decide +kernel)) (by decide +kernel)⟩
theorem sc_A_184 : SC "ShameAngles" 184 G_X_leastOff := ⟨bg_m3 (List.mem_of_getElem? (i := 117) (by decide +kernel)) (by decide +kernel), bg_m3 (List.mem_of_getElem? (i := 118) (by decide +kernel)) (by decide +kernel)⟩
theorem sc_X_15 : SC "ShameAngles$Choices" 15 G_J_bitCount := ⟨bg_m3 (List.mem_of_getElem? (i := 120) (by decide +kernel)) (by decide +kernel), bg_m3 (List.mem_of_getElem? (i := 121) (by decide +kernel)) (by decide +kernel)⟩
theorem vc_X_21 : VC "ShameAngles$Choices" 21 G_H_errorOf := ⟨bg_m3 (List.mem_of_getElem? (i := 126) (by decide +kernel)) (by decide +kernel), bg_m2 (List.mem_of_getElem? (i := 238) (by decide +kernel)) (by decide +kernel), bg_m2 (List.mem_of_getElem? (i := 239) (by decide +kernel)) (by decide +kernel)⟩
theorem sc_X_25 : SC "ShameAngles$Choices" 25 G_J_abs := ⟨bg_m3 (List.mem_of_getElem? (i := 127) (by decide +kernel)) (by decide +kernel), bg_m3 (List.mem_of_getElem? (i := 128) (by decide +kernel)) (by decide +kernel)⟩
theorem sc_A_190 : SC "ShameAngles" 190 G_J_abs := ⟨bg_m3 (List.mem_of_getElem? (i := 130) (by decide +kernel)) (by decide +kernel), bg_m3 (List.mem_of_getElem? (i := 128) (by decide +kernel)) (by decide +kernel)⟩
theorem vc_L_93 : VC "ShameAnglesLaw" 93 G_A_fewest := ⟨bg_m3 (List.mem_of_getElem? (i := 131) (by decide +kernel)) (by decide +kernel), bg_m3 (List.mem_of_getElem? (i := 132) (by decide +kernel)) (by decide +kernel), bg_m3 (List.mem_of_getElem? (i := 133) (by decide +kernel)) (by decide +kernel)⟩
theorem sc_A_195 : SC "ShameAngles" 195 G_X_fewestOff := ⟨bg_m3 (List.mem_of_getElem? (i := 135) (by decide +kernel)) (by decide +kernel), bg_m3 (List.mem_of_getElem? (i := 136) (by decide +kernel)) (by decide +kernel)⟩
theorem vc_L_97 : VC "ShameAnglesLaw" 97 G_A_cape := ⟨bg_m3 (List.mem_of_getElem? (i := 138) (by decide +kernel)) (by decide +kernel), bg_m3 (List.mem_of_getElem? (i := 139) (by decide +kernel)) (by decide +kernel), bg_m3 (List.mem_of_getElem? (i := 140) (by decide +kernel)) (by decide +kernel)⟩
theorem vc_A_198 : VC "ShameAngles" 198 G_O_fewestNoons := ⟨bg_m3 (List.mem_of_getElem? (i := 142) (by decide +kernel)) (by decide +kernel), bg_m3 (List.mem_of_getElem? (i := 143) (by decide +kernel)) (by decide +kernel), bg_m3 (List.mem_of_getElem? (i := 144) (by decide +kernel)) (by decide +kernel)⟩
theorem vc_O_26 : VC "ShameAngles$Route" 26 G_H_copy := ⟨bg_m3 (List.mem_of_getElem? (i := 146) (by decide +kernel)) (by decide +kernel), bg_m3 (List.mem_of_getElem? (i := 26) (by decide +kernel)) (by decide +kernel), bg_m3 (List.mem_of_getElem? (i := 27) (by decide +kernel)) (by decide +kernel)⟩
theorem sc_O_30 : SC "ShameAngles$Route" 30 G_O_arrives := ⟨bg_m3 (List.mem_of_getElem? (i := 147) (by decide +kernel)) (by decide +kernel), bg_m3 (List.mem_of_getElem? (i := 148) (by decide +kernel)) (by decide +kernel)⟩
theorem sc_O_34 : SC "ShameAngles$Route" 34 G_O_mayArrive := ⟨bg_m3 (List.mem_of_getElem? (i := 150) (by decide +kernel)) (by decide +kernel), bg_m3 (List.mem_of_getElem? (i := 151) (by decide +kernel)) (by decide +kernel)⟩
theorem vc_O_53 : VC "ShameAngles$Route" 53 G_H_hasReader := ⟨bg_m3 (List.mem_of_getElem? (i := 153) (by decide +kernel)) (by decide +kernel), bg_m3 (List.mem_of_getElem? (i := 2) (by decide +kernel)) (by decide +kernel), bg_m3 (List.mem_of_getElem? (i := 3) (by decide +kernel)) (by decide +kernel)⟩
theorem sc_O_66 : SC "ShameAngles$Route" 66 G_J_floorMod := ⟨bg_m3 (List.mem_of_getElem? (i := 156) (by decide +kernel)) (by decide +kernel), bg_m3 (List.mem_of_getElem? (i := 20) (by decide +kernel)) (by decide +kernel)⟩
theorem vc_O_41 : VC "ShameAngles$Route" 41 G_H_errorOf := ⟨bg_m3 (List.mem_of_getElem? (i := 159) (by decide +kernel)) (by decide +kernel), bg_m2 (List.mem_of_getElem? (i := 238) (by decide +kernel)) (by decide +kernel), bg_m2 (List.mem_of_getElem? (i := 239) (by decide +kernel)) (by decide +kernel)⟩
theorem vc_O_45 : VC "ShameAngles$Route" 45 G_H_placeBehind := ⟨bg_m3 (List.mem_of_getElem? (i := 160) (by decide +kernel)) (by decide +kernel), bg_m3 (List.mem_of_getElem? (i := 16) (by decide +kernel)) (by decide +kernel), bg_m3 (List.mem_of_getElem? (i := 17) (by decide +kernel)) (by decide +kernel)⟩
theorem vc_O_49 : VC "ShameAngles$Route" 49 G_H_sail := ⟨bg_m3 (List.mem_of_getElem? (i := 161) (by decide +kernel)) (by decide +kernel), bg_m2 (List.mem_of_getElem? (i := 234) (by decide +kernel)) (by decide +kernel), bg_m2 (List.mem_of_getElem? (i := 235) (by decide +kernel)) (by decide +kernel)⟩
theorem vc_L_101 : VC "ShameAnglesLaw" 101 G_A_watch := ⟨bg_m3 (List.mem_of_getElem? (i := 162) (by decide +kernel)) (by decide +kernel), bg_m3 (List.mem_of_getElem? (i := 163) (by decide +kernel)) (by decide +kernel), bg_m3 (List.mem_of_getElem? (i := 164) (by decide +kernel)) (by decide +kernel)⟩
theorem vc_A_204 : VC "ShameAngles" 204 G_W_ways := ⟨bg_m3 (List.mem_of_getElem? (i := 166) (by decide +kernel)) (by decide +kernel), bg_m3 (List.mem_of_getElem? (i := 167) (by decide +kernel)) (by decide +kernel), bg_m3 (List.mem_of_getElem? (i := 168) (by decide +kernel)) (by decide +kernel)⟩
theorem sc_W_25 : SC "ShameAngles$Watches" 25 G_W_assign := ⟨bg_m3 (List.mem_of_getElem? (i := 170) (by decide +kernel)) (by decide +kernel), bg_m3 (List.mem_of_getElem? (i := 171) (by decide +kernel)) (by decide +kernel)⟩
theorem vc_W_34 : VC "ShameAngles$Watches" 34 G_W_keep := ⟨bg_m3 (List.mem_of_getElem? (i := 173) (by decide +kernel)) (by decide +kernel), bg_m3 (List.mem_of_getElem? (i := 175) (by decide +kernel)) (by decide +kernel), bg_m0 (List.mem_of_getElem? (i := 16) (by decide +kernel)) (by decide +kernel)⟩
theorem vc_W_40 : VC "ShameAngles$Watches" 40 G_H_sightOf := ⟨bg_m3 (List.mem_of_getElem? (i := 178) (by decide +kernel)) (by decide +kernel), bg_m3 (List.mem_of_getElem? (i := 88) (by decide +kernel)) (by decide +kernel), bg_m3 (List.mem_of_getElem? (i := 89) (by decide +kernel)) (by decide +kernel)⟩
theorem vc_W_44 : VC "ShameAngles$Watches" 44 G_W_isTaken := ⟨bg_m3 (List.mem_of_getElem? (i := 179) (by decide +kernel)) (by decide +kernel), bg_m3 (List.mem_of_getElem? (i := 181) (by decide +kernel)) (by decide +kernel), bg_m0 (List.mem_of_getElem? (i := 17) (by decide +kernel)) (by decide +kernel)⟩
theorem vc_L_105 : VC "ShameAnglesLaw" 105 G_A_mutiny := ⟨bg_m3 (List.mem_of_getElem? (i := 183) (by decide +kernel)) (by decide +kernel), bg_m3 (List.mem_of_getElem? (i := 184) (by decide +kernel)) (by decide +kernel), bg_m3 (List.mem_of_getElem? (i := 185) (by decide +kernel)) (by decide +kernel)⟩
theorem sc_A_210 : SC "ShameAngles" 210 G_X_mostAlike := ⟨bg_m3 (List.mem_of_getElem? (i := 187) (by decide +kernel)) (by decide +kernel), bg_m3 (List.mem_of_getElem? (i := 188) (by decide +kernel)) (by decide +kernel)⟩
theorem vc_X_30 : VC "ShameAngles$Choices" 30 G_H_sightOf := ⟨bg_m3 (List.mem_of_getElem? (i := 190) (by decide +kernel)) (by decide +kernel), bg_m3 (List.mem_of_getElem? (i := 88) (by decide +kernel)) (by decide +kernel), bg_m3 (List.mem_of_getElem? (i := 89) (by decide +kernel)) (by decide +kernel)⟩
theorem vc_L_109 : VC "ShameAnglesLaw" 109 G_A_seen := ⟨bg_m3 (List.mem_of_getElem? (i := 191) (by decide +kernel)) (by decide +kernel), bg_m3 (List.mem_of_getElem? (i := 192) (by decide +kernel)) (by decide +kernel), bg_m3 (List.mem_of_getElem? (i := 193) (by decide +kernel)) (by decide +kernel)⟩
theorem vc_A_218 : VC "ShameAngles" 218 G_R_isFull := ⟨bg_m3 (List.mem_of_getElem? (i := 195) (by decide +kernel)) (by decide +kernel), bg_m3 (List.mem_of_getElem? (i := 196) (by decide +kernel)) (by decide +kernel), bg_m3 (List.mem_of_getElem? (i := 197) (by decide +kernel)) (by decide +kernel)⟩
theorem vc_A_223 : VC "ShameAngles" 223 G_R_add := ⟨bg_m3 (List.mem_of_getElem? (i := 199) (by decide +kernel)) (by decide +kernel), bg_m3 (List.mem_of_getElem? (i := 200) (by decide +kernel)) (by decide +kernel), bg_m3 (List.mem_of_getElem? (i := 201) (by decide +kernel)) (by decide +kernel)⟩
theorem vc_R_22 : VC "ShameAngles$Rows" 22 G_R_isFull := ⟨bg_m3 (List.mem_of_getElem? (i := 203) (by decide +kernel)) (by decide +kernel), bg_m3 (List.mem_of_getElem? (i := 196) (by decide +kernel)) (by decide +kernel), bg_m3 (List.mem_of_getElem? (i := 197) (by decide +kernel)) (by decide +kernel)⟩
theorem vc_L_113 : VC "ShameAnglesLaw" 113 G_A_began := ⟨bg_m3 (List.mem_of_getElem? (i := 204) (by decide +kernel)) (by decide +kernel), bg_m3 (List.mem_of_getElem? (i := 205) (by decide +kernel)) (by decide +kernel), bg_m3 (List.mem_of_getElem? (i := 206) (by decide +kernel)) (by decide +kernel)⟩
theorem sc_A_226 : SC "ShameAngles" 226 G_G_howManyBegan := ⟨bg_m3 (List.mem_of_getElem? (i := 208) (by decide +kernel)) (by decide +kernel), bg_m3 (List.mem_of_getElem? (i := 209) (by decide +kernel)) (by decide +kernel)⟩
theorem sc_G_15 : SC "ShameAngles$Guesses" 15 G_G_mayHaveBegun := ⟨bg_m3 (List.mem_of_getElem? (i := 211) (by decide +kernel)) (by decide +kernel), bg_m3 (List.mem_of_getElem? (i := 212) (by decide +kernel)) (by decide +kernel)⟩
theorem vc_G_25 : VC "ShameAngles$Guesses" 25 G_H_hasMan := ⟨bg_m3 (List.mem_of_getElem? (i := 214) (by decide +kernel)) (by decide +kernel), bg_m2 (List.mem_of_getElem? (i := 222) (by decide +kernel)) (by decide +kernel), bg_m2 (List.mem_of_getElem? (i := 223) (by decide +kernel)) (by decide +kernel)⟩
theorem vc_G_41 : VC "ShameAngles$Guesses" 41 G_R_cell := ⟨bg_m3 (List.mem_of_getElem? (i := 215) (by decide +kernel)) (by decide +kernel), bg_m3 (List.mem_of_getElem? (i := 216) (by decide +kernel)) (by decide +kernel), bg_m3 (List.mem_of_getElem? (i := 217) (by decide +kernel)) (by decide +kernel)⟩
theorem vc_G_48 : VC "ShameAngles$Guesses" 48 G_H_shameBy := ⟨bg_m3 (List.mem_of_getElem? (i := 219) (by decide +kernel)) (by decide +kernel), bg_m3 (List.mem_of_getElem? (i := 220) (by decide +kernel)) (by decide +kernel), bg_m3 (List.mem_of_getElem? (i := 221) (by decide +kernel)) (by decide +kernel)⟩
theorem sc_G_51 : SC "ShameAngles$Guesses" 51 G_K_stands := ⟨bg_m3 (List.mem_of_getElem? (i := 223) (by decide +kernel)) (by decide +kernel), bg_m3 (List.mem_of_getElem? (i := 10) (by decide +kernel)) (by decide +kernel)⟩
theorem sc_A_230 : SC "ShameAngles" 230 G_G_leastBegan := ⟨bg_m3 (List.mem_of_getElem? (i := 224) (by decide +kernel)) (by decide +kernel), bg_m3 (List.mem_of_getElem? (i := 225) (by decide +kernel)) (by decide +kernel)⟩
theorem sc_A_233 : SC "ShameAngles" 233 G_G_greatestBegan := ⟨bg_m3 (List.mem_of_getElem? (i := 227) (by decide +kernel)) (by decide +kernel), bg_m3 (List.mem_of_getElem? (i := 228) (by decide +kernel)) (by decide +kernel)⟩
theorem vc_L_117 : VC "ShameAnglesLaw" 117 G_A_note := ⟨bg_m3 (List.mem_of_getElem? (i := 230) (by decide +kernel)) (by decide +kernel), bg_m3 (List.mem_of_getElem? (i := 231) (by decide +kernel)) (by decide +kernel), bg_m3 (List.mem_of_getElem? (i := 232) (by decide +kernel)) (by decide +kernel)⟩
theorem vc_L_122 : VC "ShameAnglesLaw" 122 G_A_mark := ⟨bg_m3 (List.mem_of_getElem? (i := 234) (by decide +kernel)) (by decide +kernel), bg_m3 (List.mem_of_getElem? (i := 235) (by decide +kernel)) (by decide +kernel), bg_m3 (List.mem_of_getElem? (i := 236) (by decide +kernel)) (by decide +kernel)⟩
theorem vc_L_126 : VC "ShameAnglesLaw" 126 G_A_forget := ⟨bg_m3 (List.mem_of_getElem? (i := 238) (by decide +kernel)) (by decide +kernel), bg_m3 (List.mem_of_getElem? (i := 239) (by decide +kernel)) (by decide +kernel), bg_m4 (List.mem_of_getElem? (i := 0) (by decide +kernel)) (by decide +kernel)⟩
theorem vc_A_242 : VC "ShameAngles" 242 G_R_empty := ⟨bg_m4 (List.mem_of_getElem? (i := 2) (by decide +kernel)) (by decide +kernel), bg_m4 (List.mem_of_getElem? (i := 3) (by decide +kernel)) (by decide +kernel), bg_m4 (List.mem_of_getElem? (i := 4) (by decide +kernel)) (by decide +kernel)⟩
theorem vc_L_130 : VC "ShameAnglesLaw" 130 G_A_is := ⟨bg_m4 (List.mem_of_getElem? (i := 6) (by decide +kernel)) (by decide +kernel), bg_m4 (List.mem_of_getElem? (i := 7) (by decide +kernel)) (by decide +kernel), bg_m4 (List.mem_of_getElem? (i := 8) (by decide +kernel)) (by decide +kernel)⟩
theorem sc_A_245 : SC "ShameAngles" 245 G_G_kindsThatFit := ⟨bg_m4 (List.mem_of_getElem? (i := 10) (by decide +kernel)) (by decide +kernel), bg_m4 (List.mem_of_getElem? (i := 11) (by decide +kernel)) (by decide +kernel)⟩
theorem sc_G_57 : SC "ShameAngles$Guesses" 57 G_G_fits := ⟨bg_m4 (List.mem_of_getElem? (i := 13) (by decide +kernel)) (by decide +kernel), bg_m4 (List.mem_of_getElem? (i := 14) (by decide +kernel)) (by decide +kernel)⟩
theorem sc_G_61 : SC "ShameAngles$Guesses" 61 G_K_makes := ⟨bg_m4 (List.mem_of_getElem? (i := 16) (by decide +kernel)) (by decide +kernel), bg_m4 (List.mem_of_getElem? (i := 17) (by decide +kernel)) (by decide +kernel)⟩
theorem sc_K_9 : SC "ShameAngles$Kinds" 9 G_K_stands := ⟨bg_m4 (List.mem_of_getElem? (i := 19) (by decide +kernel)) (by decide +kernel), bg_m3 (List.mem_of_getElem? (i := 10) (by decide +kernel)) (by decide +kernel)⟩
theorem sc_K_15 : SC "ShameAngles$Kinds" 15 G_K_sees := ⟨bg_m4 (List.mem_of_getElem? (i := 20) (by decide +kernel)) (by decide +kernel), bg_m3 (List.mem_of_getElem? (i := 13) (by decide +kernel)) (by decide +kernel)⟩
theorem vc_L_134 : VC "ShameAnglesLaw" 134 G_A_look := ⟨bg_m4 (List.mem_of_getElem? (i := 21) (by decide +kernel)) (by decide +kernel), bg_m4 (List.mem_of_getElem? (i := 22) (by decide +kernel)) (by decide +kernel), bg_m4 (List.mem_of_getElem? (i := 23) (by decide +kernel)) (by decide +kernel)⟩
theorem vc_A_249 : VC "ShameAngles" 249 G_G_nextLook := ⟨bg_m4 (List.mem_of_getElem? (i := 25) (by decide +kernel)) (by decide +kernel), bg_m4 (List.mem_of_getElem? (i := 26) (by decide +kernel)) (by decide +kernel), bg_m4 (List.mem_of_getElem? (i := 27) (by decide +kernel)) (by decide +kernel)⟩
theorem vc_G_65 : VC "ShameAngles$Guesses" 65 G_G_mostAlike := ⟨bg_m4 (List.mem_of_getElem? (i := 29) (by decide +kernel)) (by decide +kernel), bg_m4 (List.mem_of_getElem? (i := 31) (by decide +kernel)) (by decide +kernel), bg_m0 (List.mem_of_getElem? (i := 18) (by decide +kernel)) (by decide +kernel)⟩
theorem sc_G_69 : SC "ShameAngles$Guesses" 69 G_J_max := ⟨bg_m4 (List.mem_of_getElem? (i := 33) (by decide +kernel)) (by decide +kernel), bg_m3 (List.mem_of_getElem? (i := 23) (by decide +kernel)) (by decide +kernel)⟩
theorem vc_L_138 : VC "ShameAnglesLaw" 138 G_A_kinds := ⟨bg_m4 (List.mem_of_getElem? (i := 34) (by decide +kernel)) (by decide +kernel), bg_m4 (List.mem_of_getElem? (i := 35) (by decide +kernel)) (by decide +kernel), bg_m4 (List.mem_of_getElem? (i := 36) (by decide +kernel)) (by decide +kernel)⟩
theorem vc_L_142 : VC "ShameAnglesLaw" 142 G_A_ask := ⟨bg_m4 (List.mem_of_getElem? (i := 38) (by decide +kernel)) (by decide +kernel), bg_m4 (List.mem_of_getElem? (i := 39) (by decide +kernel)) (by decide +kernel), bg_m4 (List.mem_of_getElem? (i := 40) (by decide +kernel)) (by decide +kernel)⟩
theorem vc_A_252 : VC "ShameAngles" 252 G_G_nextAsk := ⟨bg_m4 (List.mem_of_getElem? (i := 42) (by decide +kernel)) (by decide +kernel), bg_m4 (List.mem_of_getElem? (i := 43) (by decide +kernel)) (by decide +kernel), bg_m4 (List.mem_of_getElem? (i := 44) (by decide +kernel)) (by decide +kernel)⟩
theorem vc_L_146 : VC "ShameAnglesLaw" 146 G_A_officers := ⟨bg_m4 (List.mem_of_getElem? (i := 46) (by decide +kernel)) (by decide +kernel), bg_m4 (List.mem_of_getElem? (i := 47) (by decide +kernel)) (by decide +kernel), bg_m4 (List.mem_of_getElem? (i := 48) (by decide +kernel)) (by decide +kernel)⟩
theorem sc_A_255 : SC "ShameAngles" 255 G_X_restingPairs := ⟨bg_m4 (List.mem_of_getElem? (i := 50) (by decide +kernel)) (by decide +kernel), bg_m4 (List.mem_of_getElem? (i := 51) (by decide +kernel)) (by decide +kernel)⟩
theorem sc_X_33 : SC "ShameAngles$Choices" 33 G_X_rests := ⟨bg_m4 (List.mem_of_getElem? (i := 53) (by decide +kernel)) (by decide +kernel), bg_m4 (List.mem_of_getElem? (i := 54) (by decide +kernel)) (by decide +kernel)⟩
theorem sc_X_39 : SC "ShameAngles$Choices" 39 G_X_farOff := ⟨bg_m4 (List.mem_of_getElem? (i := 56) (by decide +kernel)) (by decide +kernel), bg_m4 (List.mem_of_getElem? (i := 57) (by decide +kernel)) (by decide +kernel)⟩
theorem vc_X_43 : VC "ShameAngles$Choices" 43 G_H_angleOf := ⟨bg_m4 (List.mem_of_getElem? (i := 59) (by decide +kernel)) (by decide +kernel), bg_m3 (List.mem_of_getElem? (i := 80) (by decide +kernel)) (by decide +kernel), bg_m3 (List.mem_of_getElem? (i := 81) (by decide +kernel)) (by decide +kernel)⟩
theorem vc_L_150 : VC "ShameAnglesLaw" 150 G_A_slips := ⟨bg_m4 (List.mem_of_getElem? (i := 60) (by decide +kernel)) (by decide +kernel), bg_m4 (List.mem_of_getElem? (i := 61) (by decide +kernel)) (by decide +kernel), bg_m4 (List.mem_of_getElem? (i := 62) (by decide +kernel)) (by decide +kernel)⟩
theorem vc_A_258 : VC "ShameAngles" 258 G_C_setSure := ⟨bg_m4 (List.mem_of_getElem? (i := 64) (by decide +kernel)) (by decide +kernel), bg_m4 (List.mem_of_getElem? (i := 65) (by decide +kernel)) (by decide +kernel), bg_m4 (List.mem_of_getElem? (i := 66) (by decide +kernel)) (by decide +kernel)⟩
theorem sc_A_261 : SC "ShameAngles" 261 G_J_bitCount := ⟨bg_m4 (List.mem_of_getElem? (i := 68) (by decide +kernel)) (by decide +kernel), bg_m3 (List.mem_of_getElem? (i := 121) (by decide +kernel)) (by decide +kernel)⟩
theorem vc_A_266 : VC "ShameAngles" 266 G_C_setSlips := ⟨bg_m4 (List.mem_of_getElem? (i := 69) (by decide +kernel)) (by decide +kernel), bg_m4 (List.mem_of_getElem? (i := 70) (by decide +kernel)) (by decide +kernel), bg_m4 (List.mem_of_getElem? (i := 71) (by decide +kernel)) (by decide +kernel)⟩
theorem vc_C_18 : VC "ShameAngles$Chance" 18 G_C_reduce := ⟨bg_m4 (List.mem_of_getElem? (i := 74) (by decide +kernel)) (by decide +kernel), bg_m4 (List.mem_of_getElem? (i := 76) (by decide +kernel)) (by decide +kernel), bg_m0 (List.mem_of_getElem? (i := 19) (by decide +kernel)) (by decide +kernel)⟩
theorem vc_L_154 : VC "ShameAnglesLaw" 154 G_A_voyages := ⟨bg_m4 (List.mem_of_getElem? (i := 80) (by decide +kernel)) (by decide +kernel), bg_m4 (List.mem_of_getElem? (i := 81) (by decide +kernel)) (by decide +kernel), bg_m4 (List.mem_of_getElem? (i := 82) (by decide +kernel)) (by decide +kernel)⟩
theorem vc_L_158 : VC "ShameAnglesLaw" 158 G_A_part := ⟨bg_m4 (List.mem_of_getElem? (i := 92) (by decide +kernel)) (by decide +kernel), bg_m4 (List.mem_of_getElem? (i := 93) (by decide +kernel)) (by decide +kernel), bg_m4 (List.mem_of_getElem? (i := 94) (by decide +kernel)) (by decide +kernel)⟩
theorem vc_L_163 : VC "ShameAnglesLaw" 163 G_A_image := ⟨bg_m4 (List.mem_of_getElem? (i := 96) (by decide +kernel)) (by decide +kernel), bg_m4 (List.mem_of_getElem? (i := 97) (by decide +kernel)) (by decide +kernel), bg_m4 (List.mem_of_getElem? (i := 98) (by decide +kernel)) (by decide +kernel)⟩
theorem vc_A_292 : VC "ShameAngles" 292 G_S_copy := ⟨bg_m4 (List.mem_of_getElem? (i := 100) (by decide +kernel)) (by decide +kernel), bg_m4 (List.mem_of_getElem? (i := 101) (by decide +kernel)) (by decide +kernel), bg_m4 (List.mem_of_getElem? (i := 102) (by decide +kernel)) (by decide +kernel)⟩
theorem vc_S_49 : VC "ShameAngles$State" 49 G_H_copy := ⟨bg_m4 (List.mem_of_getElem? (i := 104) (by decide +kernel)) (by decide +kernel), bg_m3 (List.mem_of_getElem? (i := 26) (by decide +kernel)) (by decide +kernel), bg_m3 (List.mem_of_getElem? (i := 27) (by decide +kernel)) (by decide +kernel)⟩
theorem vc_S_53 : VC "ShameAngles$State" 53 G_R_copy := ⟨bg_m4 (List.mem_of_getElem? (i := 105) (by decide +kernel)) (by decide +kernel), bg_m4 (List.mem_of_getElem? (i := 106) (by decide +kernel)) (by decide +kernel), bg_m4 (List.mem_of_getElem? (i := 107) (by decide +kernel)) (by decide +kernel)⟩
theorem vc_S_56 : VC "ShameAngles$State" 56 G_P_copy := ⟨bg_m4 (List.mem_of_getElem? (i := 110) (by decide +kernel)) (by decide +kernel), bg_m4 (List.mem_of_getElem? (i := 111) (by decide +kernel)) (by decide +kernel), bg_m4 (List.mem_of_getElem? (i := 112) (by decide +kernel)) (by decide +kernel)⟩
theorem vc_L_167 : VC "ShameAnglesLaw" 167 G_A_from := ⟨bg_m4 (List.mem_of_getElem? (i := 114) (by decide +kernel)) (by decide +kernel), bg_m4 (List.mem_of_getElem? (i := 115) (by decide +kernel)) (by decide +kernel), bg_m4 (List.mem_of_getElem? (i := 116) (by decide +kernel)) (by decide +kernel)⟩
theorem vc_L_171 : VC "ShameAnglesLaw" 171 G_A_status := ⟨bg_m4 (List.mem_of_getElem? (i := 118) (by decide +kernel)) (by decide +kernel), bg_m4 (List.mem_of_getElem? (i := 119) (by decide +kernel)) (by decide +kernel), bg_m4 (List.mem_of_getElem? (i := 120) (by decide +kernel)) (by decide +kernel)⟩
theorem vc_L_175 : VC "ShameAnglesLaw" 175 G_A_count := ⟨bg_m4 (List.mem_of_getElem? (i := 122) (by decide +kernel)) (by decide +kernel), bg_m4 (List.mem_of_getElem? (i := 123) (by decide +kernel)) (by decide +kernel), bg_m4 (List.mem_of_getElem? (i := 124) (by decide +kernel)) (by decide +kernel)⟩
theorem vc_A_304 : VC "ShameAngles" 304 G_H_shameOfAll := ⟨bg_m4 (List.mem_of_getElem? (i := 126) (by decide +kernel)) (by decide +kernel), bg_m4 (List.mem_of_getElem? (i := 127) (by decide +kernel)) (by decide +kernel), bg_m4 (List.mem_of_getElem? (i := 128) (by decide +kernel)) (by decide +kernel)⟩
theorem vc_L_179 : VC "ShameAnglesLaw" 179 G_A_digest := ⟨bg_m4 (List.mem_of_getElem? (i := 130) (by decide +kernel)) (by decide +kernel), bg_m4 (List.mem_of_getElem? (i := 131) (by decide +kernel)) (by decide +kernel), bg_m4 (List.mem_of_getElem? (i := 132) (by decide +kernel)) (by decide +kernel)⟩
theorem vc_A_312 : VC "ShameAngles" 312 G_A_count := ⟨bg_m4 (List.mem_of_getElem? (i := 136) (by decide +kernel)) (by decide +kernel), bg_m4 (List.mem_of_getElem? (i := 123) (by decide +kernel)) (by decide +kernel), bg_m4 (List.mem_of_getElem? (i := 124) (by decide +kernel)) (by decide +kernel)⟩
theorem vc_A_315 : VC "ShameAngles" 315 G_A_now := ⟨bg_m4 (List.mem_of_getElem? (i := 137) (by decide +kernel)) (by decide +kernel), bg_m3 (List.mem_of_getElem? (i := 67) (by decide +kernel)) (by decide +kernel), bg_m3 (List.mem_of_getElem? (i := 68) (by decide +kernel)) (by decide +kernel)⟩
theorem vc_A_318 : VC "ShameAngles" 318 G_H_digestOn := ⟨bg_m4 (List.mem_of_getElem? (i := 138) (by decide +kernel)) (by decide +kernel), bg_m4 (List.mem_of_getElem? (i := 139) (by decide +kernel)) (by decide +kernel), bg_m4 (List.mem_of_getElem? (i := 140) (by decide +kernel)) (by decide +kernel)⟩
theorem vc_A_322 : VC "ShameAngles" 322 G_R_digestOn := ⟨bg_m4 (List.mem_of_getElem? (i := 143) (by decide +kernel)) (by decide +kernel), bg_m4 (List.mem_of_getElem? (i := 144) (by decide +kernel)) (by decide +kernel), bg_m4 (List.mem_of_getElem? (i := 145) (by decide +kernel)) (by decide +kernel)⟩
theorem vc_R_34 : VC "ShameAngles$Rows" 34 G_R_cell := ⟨bg_m4 (List.mem_of_getElem? (i := 148) (by decide +kernel)) (by decide +kernel), bg_m3 (List.mem_of_getElem? (i := 216) (by decide +kernel)) (by decide +kernel), bg_m3 (List.mem_of_getElem? (i := 217) (by decide +kernel)) (by decide +kernel)⟩
theorem ic_L_12 : IC "ShameAnglesLaw" 12 G_M_init := ⟨bg_m4 (List.mem_of_getElem? (i := 151) (by decide +kernel)) (by decide +kernel), bg_m4 (List.mem_of_getElem? (i := 152) (by decide +kernel)) (by decide +kernel), rfl, rfl⟩
theorem vc_M_56 : VC "ShameAnglesModel" 56 G_M_begin := ⟨bg_m4 (List.mem_of_getElem? (i := 155) (by decide +kernel)) (by decide +kernel), bg_m4 (List.mem_of_getElem? (i := 157) (by decide +kernel)) (by decide +kernel), bg_m0 (List.mem_of_getElem? (i := 20) (by decide +kernel)) (by decide +kernel)⟩
theorem vc_L_17 : VC "ShameAnglesLaw" 17 G_M_ship := ⟨bg_m5 (List.mem_of_getElem? (i := 10) (by decide +kernel)) (by decide +kernel), bg_m5 (List.mem_of_getElem? (i := 11) (by decide +kernel)) (by decide +kernel), bg_m5 (List.mem_of_getElem? (i := 12) (by decide +kernel)) (by decide +kernel)⟩
theorem sc_M_91 : SC "ShameAnglesModel" 91 G_M_in := ⟨bg_m5 (List.mem_of_getElem? (i := 14) (by decide +kernel)) (by decide +kernel), bg_m5 (List.mem_of_getElem? (i := 15) (by decide +kernel)) (by decide +kernel)⟩
theorem vc_M_95 : VC "ShameAnglesModel" 95 G_M_bad := ⟨bg_m5 (List.mem_of_getElem? (i := 17) (by decide +kernel)) (by decide +kernel), bg_m5 (List.mem_of_getElem? (i := 19) (by decide +kernel)) (by decide +kernel), bg_m0 (List.mem_of_getElem? (i := 21) (by decide +kernel)) (by decide +kernel)⟩
theorem vc_L_22 : VC "ShameAnglesLaw" 22 G_M_fog := ⟨bg_m5 (List.mem_of_getElem? (i := 21) (by decide +kernel)) (by decide +kernel), bg_m5 (List.mem_of_getElem? (i := 22) (by decide +kernel)) (by decide +kernel), bg_m5 (List.mem_of_getElem? (i := 23) (by decide +kernel)) (by decide +kernel)⟩
theorem vc_L_26 : VC "ShameAnglesLaw" 26 G_M_man := ⟨bg_m5 (List.mem_of_getElem? (i := 25) (by decide +kernel)) (by decide +kernel), bg_m5 (List.mem_of_getElem? (i := 26) (by decide +kernel)) (by decide +kernel), bg_m5 (List.mem_of_getElem? (i := 27) (by decide +kernel)) (by decide +kernel)⟩
theorem vc_M_99 : VC "ShameAnglesModel" 99 G_M_full := ⟨bg_m5 (List.mem_of_getElem? (i := 29) (by decide +kernel)) (by decide +kernel), bg_m5 (List.mem_of_getElem? (i := 31) (by decide +kernel)) (by decide +kernel), bg_m0 (List.mem_of_getElem? (i := 22) (by decide +kernel)) (by decide +kernel)⟩
theorem vc_M_102 : VC "ShameAnglesModel" 102 G_M_addMan := ⟨bg_m5 (List.mem_of_getElem? (i := 33) (by decide +kernel)) (by decide +kernel), bg_m5 (List.mem_of_getElem? (i := 35) (by decide +kernel)) (by decide +kernel), bg_m0 (List.mem_of_getElem? (i := 23) (by decide +kernel)) (by decide +kernel)⟩
theorem vc_L_30 : VC "ShameAnglesLaw" 30 G_M_reader := ⟨bg_m5 (List.mem_of_getElem? (i := 37) (by decide +kernel)) (by decide +kernel), bg_m5 (List.mem_of_getElem? (i := 38) (by decide +kernel)) (by decide +kernel), bg_m5 (List.mem_of_getElem? (i := 39) (by decide +kernel)) (by decide +kernel)⟩
theorem vc_M_106 : VC "ShameAnglesModel" 106 G_M_addReader := ⟨bg_m5 (List.mem_of_getElem? (i := 41) (by decide +kernel)) (by decide +kernel), bg_m5 (List.mem_of_getElem? (i := 43) (by decide +kernel)) (by decide +kernel), bg_m0 (List.mem_of_getElem? (i := 24) (by decide +kernel)) (by decide +kernel)⟩
theorem vc_L_34 : VC "ShameAnglesLaw" 34 G_M_type := ⟨bg_m5 (List.mem_of_getElem? (i := 45) (by decide +kernel)) (by decide +kernel), bg_m5 (List.mem_of_getElem? (i := 46) (by decide +kernel)) (by decide +kernel), bg_m5 (List.mem_of_getElem? (i := 47) (by decide +kernel)) (by decide +kernel)⟩
theorem vc_L_39 : VC "ShameAnglesLaw" 39 G_M_clear := ⟨bg_m5 (List.mem_of_getElem? (i := 49) (by decide +kernel)) (by decide +kernel), bg_m5 (List.mem_of_getElem? (i := 50) (by decide +kernel)) (by decide +kernel), bg_m5 (List.mem_of_getElem? (i := 51) (by decide +kernel)) (by decide +kernel)⟩
theorem vc_L_43 : VC "ShameAnglesLaw" 43 G_M_read := ⟨bg_m5 (List.mem_of_getElem? (i := 53) (by decide +kernel)) (by decide +kernel), bg_m5 (List.mem_of_getElem? (i := 54) (by decide +kernel)) (by decide +kernel), bg_m5 (List.mem_of_getElem? (i := 55) (by decide +kernel)) (by decide +kernel)⟩
theorem vc_M_183 : VC "ShameAnglesModel" 183 G_M_layAll := ⟨bg_m5 (List.mem_of_getElem? (i := 57) (by decide +kernel)) (by decide +kernel), bg_m5 (List.mem_of_getElem? (i := 59) (by decide +kernel)) (by decide +kernel), bg_m0 (List.mem_of_getElem? (i := 25) (by decide +kernel)) (by decide +kernel)⟩
theorem vc_M_221 : VC "ShameAnglesModel" 221 G_M_lays := ⟨bg_m5 (List.mem_of_getElem? (i := 61) (by decide +kernel)) (by decide +kernel), bg_m5 (List.mem_of_getElem? (i := 63) (by decide +kernel)) (by decide +kernel), bg_m0 (List.mem_of_getElem? (i := 26) (by decide +kernel)) (by decide +kernel)⟩
theorem vc_M_187 : VC "ShameAnglesModel" 187 G_M_readsShip := ⟨bg_m5 (List.mem_of_getElem? (i := 65) (by decide +kernel)) (by decide +kernel), bg_m5 (List.mem_of_getElem? (i := 67) (by decide +kernel)) (by decide +kernel), bg_m0 (List.mem_of_getElem? (i := 27) (by decide +kernel)) (by decide +kernel)⟩
theorem vc_M_177 : VC "ShameAnglesModel" 177 G_M_readsFirst := ⟨bg_m5 (List.mem_of_getElem? (i := 69) (by decide +kernel)) (by decide +kernel), bg_m5 (List.mem_of_getElem? (i := 71) (by decide +kernel)) (by decide +kernel), bg_m0 (List.mem_of_getElem? (i := 28) (by decide +kernel)) (by decide +kernel)⟩
theorem vc_M_129 : VC "ShameAnglesModel" 129 G_M_skip := ⟨bg_m5 (List.mem_of_getElem? (i := 73) (by decide +kernel)) (by decide +kernel), bg_m5 (List.mem_of_getElem? (i := 75) (by decide +kernel)) (by decide +kernel), bg_m0 (List.mem_of_getElem? (i := 29) (by decide +kernel)) (by decide +kernel)⟩
theorem vc_M_116 : VC "ShameAnglesModel" 116 G_M_here := ⟨bg_m5 (List.mem_of_getElem? (i := 77) (by decide +kernel)) (by decide +kernel), bg_m5 (List.mem_of_getElem? (i := 79) (by decide +kernel)) (by decide +kernel), bg_m0 (List.mem_of_getElem? (i := 30) (by decide +kernel)) (by decide +kernel)⟩
theorem vc_M_159 : VC "ShameAnglesModel" 159 G_M_wordHere := ⟨bg_m5 (List.mem_of_getElem? (i := 81) (by decide +kernel)) (by decide +kernel), bg_m5 (List.mem_of_getElem? (i := 83) (by decide +kernel)) (by decide +kernel), bg_m0 (List.mem_of_getElem? (i := 31) (by decide +kernel)) (by decide +kernel)⟩
theorem vc_M_123 : VC "ShameAnglesModel" 123 G_M_wordSize := ⟨bg_m5 (List.mem_of_getElem? (i := 85) (by decide +kernel)) (by decide +kernel), bg_m5 (List.mem_of_getElem? (i := 87) (by decide +kernel)) (by decide +kernel), bg_m0 (List.mem_of_getElem? (i := 32) (by decide +kernel)) (by decide +kernel)⟩
theorem sc_M_119 : SC "ShameAnglesModel" 119 G_M_isLetter := ⟨bg_m5 (List.mem_of_getElem? (i := 89) (by decide +kernel)) (by decide +kernel), bg_m5 (List.mem_of_getElem? (i := 90) (by decide +kernel)) (by decide +kernel)⟩
theorem vc_M_126 : VC "ShameAnglesModel" 126 G_M_letter := ⟨bg_m5 (List.mem_of_getElem? (i := 92) (by decide +kernel)) (by decide +kernel), bg_m5 (List.mem_of_getElem? (i := 94) (by decide +kernel)) (by decide +kernel), bg_m0 (List.mem_of_getElem? (i := 33) (by decide +kernel)) (by decide +kernel)⟩
theorem vc_M_138 : VC "ShameAnglesModel" 138 G_M_number := ⟨bg_m5 (List.mem_of_getElem? (i := 96) (by decide +kernel)) (by decide +kernel), bg_m5 (List.mem_of_getElem? (i := 98) (by decide +kernel)) (by decide +kernel), bg_m0 (List.mem_of_getElem? (i := 34) (by decide +kernel)) (by decide +kernel)⟩
theorem sc_M_132 : SC "ShameAnglesModel" 132 G_M_isFigure := ⟨bg_m5 (List.mem_of_getElem? (i := 100) (by decide +kernel)) (by decide +kernel), bg_m5 (List.mem_of_getElem? (i := 101) (by decide +kernel)) (by decide +kernel)⟩
theorem vc_M_142 : VC "ShameAnglesModel" 142 G_M_ends := ⟨bg_m5 (List.mem_of_getElem? (i := 103) (by decide +kernel)) (by decide +kernel), bg_m5 (List.mem_of_getElem? (i := 105) (by decide +kernel)) (by decide +kernel), bg_m0 (List.mem_of_getElem? (i := 35) (by decide +kernel)) (by decide +kernel)⟩
theorem vc_M_180 : VC "ShameAnglesModel" 180 G_M_readsItem := ⟨bg_m5 (List.mem_of_getElem? (i := 107) (by decide +kernel)) (by decide +kernel), bg_m5 (List.mem_of_getElem? (i := 109) (by decide +kernel)) (by decide +kernel), bg_m0 (List.mem_of_getElem? (i := 36) (by decide +kernel)) (by decide +kernel)⟩
theorem vc_M_162 : VC "ShameAnglesModel" 162 G_M_readsFog := ⟨bg_m5 (List.mem_of_getElem? (i := 111) (by decide +kernel)) (by decide +kernel), bg_m5 (List.mem_of_getElem? (i := 113) (by decide +kernel)) (by decide +kernel), bg_m0 (List.mem_of_getElem? (i := 37) (by decide +kernel)) (by decide +kernel)⟩
theorem vc_M_165 : VC "ShameAnglesModel" 165 G_M_readsMan := ⟨bg_m5 (List.mem_of_getElem? (i := 115) (by decide +kernel)) (by decide +kernel), bg_m5 (List.mem_of_getElem? (i := 117) (by decide +kernel)) (by decide +kernel), bg_m0 (List.mem_of_getElem? (i := 38) (by decide +kernel)) (by decide +kernel)⟩
theorem vc_M_168 : VC "ShameAnglesModel" 168 G_M_readsReader := ⟨bg_m5 (List.mem_of_getElem? (i := 119) (by decide +kernel)) (by decide +kernel), bg_m5 (List.mem_of_getElem? (i := 121) (by decide +kernel)) (by decide +kernel), bg_m0 (List.mem_of_getElem? (i := 39) (by decide +kernel)) (by decide +kernel)⟩
theorem vc_M_171 : VC "ShameAnglesModel" 171 G_M_readsDeed := ⟨bg_m5 (List.mem_of_getElem? (i := 123) (by decide +kernel)) (by decide +kernel), bg_m5 (List.mem_of_getElem? (i := 125) (by decide +kernel)) (by decide +kernel), bg_m0 (List.mem_of_getElem? (i := 40) (by decide +kernel)) (by decide +kernel)⟩
theorem sc_M_146 : SC "ShameAnglesModel" 146 G_M_lesser := ⟨bg_m5 (List.mem_of_getElem? (i := 127) (by decide +kernel)) (by decide +kernel), bg_m5 (List.mem_of_getElem? (i := 128) (by decide +kernel)) (by decide +kernel)⟩
theorem vc_M_174 : VC "ShameAnglesModel" 174 G_M_readsNoon := ⟨bg_m5 (List.mem_of_getElem? (i := 130) (by decide +kernel)) (by decide +kernel), bg_m5 (List.mem_of_getElem? (i := 132) (by decide +kernel)) (by decide +kernel), bg_m0 (List.mem_of_getElem? (i := 41) (by decide +kernel)) (by decide +kernel)⟩
theorem sc_M_149 : SC "ShameAnglesModel" 149 G_M_bits := ⟨bg_m5 (List.mem_of_getElem? (i := 134) (by decide +kernel)) (by decide +kernel), bg_m5 (List.mem_of_getElem? (i := 135) (by decide +kernel)) (by decide +kernel)⟩
theorem sc_M_152 : SC "ShameAnglesModel" 152 G_M_has := ⟨bg_m5 (List.mem_of_getElem? (i := 137) (by decide +kernel)) (by decide +kernel), bg_m5 (List.mem_of_getElem? (i := 138) (by decide +kernel)) (by decide +kernel)⟩
theorem vc_M_155 : VC "ShameAnglesModel" 155 G_M_measures := ⟨bg_m5 (List.mem_of_getElem? (i := 140) (by decide +kernel)) (by decide +kernel), bg_m5 (List.mem_of_getElem? (i := 142) (by decide +kernel)) (by decide +kernel), bg_m0 (List.mem_of_getElem? (i := 42) (by decide +kernel)) (by decide +kernel)⟩
theorem vc_M_215 : VC "ShameAnglesModel" 215 G_M_errorOf := ⟨bg_m5 (List.mem_of_getElem? (i := 144) (by decide +kernel)) (by decide +kernel), bg_m5 (List.mem_of_getElem? (i := 146) (by decide +kernel)) (by decide +kernel), bg_m0 (List.mem_of_getElem? (i := 43) (by decide +kernel)) (by decide +kernel)⟩
theorem vc_M_206 : VC "ShameAnglesModel" 206 G_M_isFog := ⟨bg_m5 (List.mem_of_getElem? (i := 148) (by decide +kernel)) (by decide +kernel), bg_m5 (List.mem_of_getElem? (i := 150) (by decide +kernel)) (by decide +kernel), bg_m0 (List.mem_of_getElem? (i := 44) (by decide +kernel)) (by decide +kernel)⟩
theorem vc_M_209 : VC "ShameAnglesModel" 209 G_M_readOf := ⟨bg_m5 (List.mem_of_getElem? (i := 152) (by decide +kernel)) (by decide +kernel), bg_m5 (List.mem_of_getElem? (i := 154) (by decide +kernel)) (by decide +kernel), bg_m0 (List.mem_of_getElem? (i := 45) (by decide +kernel)) (by decide +kernel)⟩
theorem vc_M_200 : VC "ShameAnglesModel" 200 G_M_angleOf := ⟨bg_m5 (List.mem_of_getElem? (i := 156) (by decide +kernel)) (by decide +kernel), bg_m5 (List.mem_of_getElem? (i := 158) (by decide +kernel)) (by decide +kernel), bg_m0 (List.mem_of_getElem? (i := 46) (by decide +kernel)) (by decide +kernel)⟩
theorem sc_M_196 : SC "ShameAnglesModel" 196 G_M_angleBy := ⟨bg_m5 (List.mem_of_getElem? (i := 160) (by decide +kernel)) (by decide +kernel), bg_m5 (List.mem_of_getElem? (i := 161) (by decide +kernel)) (by decide +kernel)⟩
theorem sc_M_193 : SC "ShameAnglesModel" 193 G_M_greater := ⟨bg_m5 (List.mem_of_getElem? (i := 163) (by decide +kernel)) (by decide +kernel), bg_m5 (List.mem_of_getElem? (i := 164) (by decide +kernel)) (by decide +kernel)⟩
theorem sc_M_203 : SC "ShameAnglesModel" 203 G_M_readBy := ⟨bg_m5 (List.mem_of_getElem? (i := 166) (by decide +kernel)) (by decide +kernel), bg_m5 (List.mem_of_getElem? (i := 167) (by decide +kernel)) (by decide +kernel)⟩
theorem vc_M_218 : VC "ShameAnglesModel" 218 G_M_goesOn := ⟨bg_m5 (List.mem_of_getElem? (i := 169) (by decide +kernel)) (by decide +kernel), bg_m5 (List.mem_of_getElem? (i := 171) (by decide +kernel)) (by decide +kernel), bg_m0 (List.mem_of_getElem? (i := 47) (by decide +kernel)) (by decide +kernel)⟩
theorem sc_M_212 : SC "ShameAnglesModel" 212 G_M_round := ⟨bg_m5 (List.mem_of_getElem? (i := 173) (by decide +kernel)) (by decide +kernel), bg_m5 (List.mem_of_getElem? (i := 174) (by decide +kernel)) (by decide +kernel)⟩
theorem vc_M_190 : VC "ShameAnglesModel" 190 G_M_takeAll := ⟨bg_m5 (List.mem_of_getElem? (i := 176) (by decide +kernel)) (by decide +kernel), bg_m5 (List.mem_of_getElem? (i := 178) (by decide +kernel)) (by decide +kernel), bg_m0 (List.mem_of_getElem? (i := 48) (by decide +kernel)) (by decide +kernel)⟩
theorem vc_M_239 : VC "ShameAnglesModel" 239 G_M_takes := ⟨bg_m5 (List.mem_of_getElem? (i := 180) (by decide +kernel)) (by decide +kernel), bg_m5 (List.mem_of_getElem? (i := 182) (by decide +kernel)) (by decide +kernel), bg_m0 (List.mem_of_getElem? (i := 49) (by decide +kernel)) (by decide +kernel)⟩
theorem vc_L_47 : VC "ShameAnglesLaw" 47 G_M_noon := ⟨bg_m5 (List.mem_of_getElem? (i := 184) (by decide +kernel)) (by decide +kernel), bg_m5 (List.mem_of_getElem? (i := 185) (by decide +kernel)) (by decide +kernel), bg_m5 (List.mem_of_getElem? (i := 186) (by decide +kernel)) (by decide +kernel)⟩
theorem vc_M_224 : VC "ShameAnglesModel" 224 G_M_areMen := ⟨bg_m5 (List.mem_of_getElem? (i := 188) (by decide +kernel)) (by decide +kernel), bg_m5 (List.mem_of_getElem? (i := 190) (by decide +kernel)) (by decide +kernel), bg_m0 (List.mem_of_getElem? (i := 50) (by decide +kernel)) (by decide +kernel)⟩
theorem vc_M_227 : VC "ShameAnglesModel" 227 G_M_isReader := ⟨bg_m5 (List.mem_of_getElem? (i := 192) (by decide +kernel)) (by decide +kernel), bg_m5 (List.mem_of_getElem? (i := 194) (by decide +kernel)) (by decide +kernel), bg_m0 (List.mem_of_getElem? (i := 51) (by decide +kernel)) (by decide +kernel)⟩
theorem vc_M_230 : VC "ShameAnglesModel" 230 G_M_no := ⟨bg_m5 (List.mem_of_getElem? (i := 196) (by decide +kernel)) (by decide +kernel), bg_m5 (List.mem_of_getElem? (i := 198) (by decide +kernel)) (by decide +kernel), bg_m0 (List.mem_of_getElem? (i := 52) (by decide +kernel)) (by decide +kernel)⟩
theorem vc_M_233 : VC "ShameAnglesModel" 233 G_M_notes := ⟨bg_m5 (List.mem_of_getElem? (i := 200) (by decide +kernel)) (by decide +kernel), bg_m5 (List.mem_of_getElem? (i := 202) (by decide +kernel)) (by decide +kernel), bg_m0 (List.mem_of_getElem? (i := 53) (by decide +kernel)) (by decide +kernel)⟩
theorem vc_L_51 : VC "ShameAnglesLaw" 51 G_M_deed := ⟨bg_m5 (List.mem_of_getElem? (i := 204) (by decide +kernel)) (by decide +kernel), bg_m5 (List.mem_of_getElem? (i := 205) (by decide +kernel)) (by decide +kernel), bg_m5 (List.mem_of_getElem? (i := 206) (by decide +kernel)) (by decide +kernel)⟩
theorem vc_M_236 : VC "ShameAnglesModel" 236 G_M_isMan := ⟨bg_m5 (List.mem_of_getElem? (i := 208) (by decide +kernel)) (by decide +kernel), bg_m5 (List.mem_of_getElem? (i := 210) (by decide +kernel)) (by decide +kernel), bg_m0 (List.mem_of_getElem? (i := 54) (by decide +kernel)) (by decide +kernel)⟩
theorem vc_L_55 : VC "ShameAnglesLaw" 55 G_M_undo := ⟨bg_m5 (List.mem_of_getElem? (i := 212) (by decide +kernel)) (by decide +kernel), bg_m5 (List.mem_of_getElem? (i := 213) (by decide +kernel)) (by decide +kernel), bg_m5 (List.mem_of_getElem? (i := 214) (by decide +kernel)) (by decide +kernel)⟩
theorem vc_L_59 : VC "ShameAnglesLaw" 59 G_M_now := ⟨bg_m5 (List.mem_of_getElem? (i := 216) (by decide +kernel)) (by decide +kernel), bg_m5 (List.mem_of_getElem? (i := 217) (by decide +kernel)) (by decide +kernel), bg_m5 (List.mem_of_getElem? (i := 218) (by decide +kernel)) (by decide +kernel)⟩
theorem vc_M_242 : VC "ShameAnglesModel" 242 G_M_nowOf := ⟨bg_m5 (List.mem_of_getElem? (i := 220) (by decide +kernel)) (by decide +kernel), bg_m5 (List.mem_of_getElem? (i := 222) (by decide +kernel)) (by decide +kernel), bg_m0 (List.mem_of_getElem? (i := 55) (by decide +kernel)) (by decide +kernel)⟩
theorem vc_L_63 : VC "ShameAnglesLaw" 63 G_M_of := ⟨bg_m5 (List.mem_of_getElem? (i := 224) (by decide +kernel)) (by decide +kernel), bg_m5 (List.mem_of_getElem? (i := 225) (by decide +kernel)) (by decide +kernel), bg_m5 (List.mem_of_getElem? (i := 226) (by decide +kernel)) (by decide +kernel)⟩
theorem vc_L_67 : VC "ShameAnglesLaw" 67 G_M_angle := ⟨bg_m5 (List.mem_of_getElem? (i := 228) (by decide +kernel)) (by decide +kernel), bg_m5 (List.mem_of_getElem? (i := 229) (by decide +kernel)) (by decide +kernel), bg_m5 (List.mem_of_getElem? (i := 230) (by decide +kernel)) (by decide +kernel)⟩
theorem vc_L_71 : VC "ShameAnglesLaw" 71 G_M_reads := ⟨bg_m5 (List.mem_of_getElem? (i := 232) (by decide +kernel)) (by decide +kernel), bg_m5 (List.mem_of_getElem? (i := 233) (by decide +kernel)) (by decide +kernel), bg_m5 (List.mem_of_getElem? (i := 234) (by decide +kernel)) (by decide +kernel)⟩
theorem vc_L_75 : VC "ShameAnglesLaw" 75 G_M_error := ⟨bg_m5 (List.mem_of_getElem? (i := 236) (by decide +kernel)) (by decide +kernel), bg_m5 (List.mem_of_getElem? (i := 237) (by decide +kernel)) (by decide +kernel), bg_m5 (List.mem_of_getElem? (i := 238) (by decide +kernel)) (by decide +kernel)⟩
theorem vc_M_245 : VC "ShameAnglesModel" 245 G_M_thousand := ⟨bg_m6 (List.mem_of_getElem? (i := 0) (by decide +kernel)) (by decide +kernel), bg_m6 (List.mem_of_getElem? (i := 2) (by decide +kernel)) (by decide +kernel), bg_m0 (List.mem_of_getElem? (i := 56) (by decide +kernel)) (by decide +kernel)⟩
theorem vc_L_79 : VC "ShameAnglesLaw" 79 G_M_off := ⟨bg_m6 (List.mem_of_getElem? (i := 4) (by decide +kernel)) (by decide +kernel), bg_m6 (List.mem_of_getElem? (i := 5) (by decide +kernel)) (by decide +kernel), bg_m6 (List.mem_of_getElem? (i := 6) (by decide +kernel)) (by decide +kernel)⟩
theorem vc_M_248 : VC "ShameAnglesModel" 248 G_M_offNow := ⟨bg_m6 (List.mem_of_getElem? (i := 8) (by decide +kernel)) (by decide +kernel), bg_m6 (List.mem_of_getElem? (i := 10) (by decide +kernel)) (by decide +kernel), bg_m0 (List.mem_of_getElem? (i := 57) (by decide +kernel)) (by decide +kernel)⟩
theorem vc_L_84 : VC "ShameAnglesLaw" 84 G_M_then := ⟨bg_m6 (List.mem_of_getElem? (i := 12) (by decide +kernel)) (by decide +kernel), bg_m6 (List.mem_of_getElem? (i := 13) (by decide +kernel)) (by decide +kernel), bg_m6 (List.mem_of_getElem? (i := 14) (by decide +kernel)) (by decide +kernel)⟩
theorem vc_L_88 : VC "ShameAnglesLaw" 88 G_M_when := ⟨bg_m6 (List.mem_of_getElem? (i := 16) (by decide +kernel)) (by decide +kernel), bg_m6 (List.mem_of_getElem? (i := 17) (by decide +kernel)) (by decide +kernel), bg_m6 (List.mem_of_getElem? (i := 18) (by decide +kernel)) (by decide +kernel)⟩
theorem vc_L_92 : VC "ShameAnglesLaw" 92 G_M_best := ⟨bg_m6 (List.mem_of_getElem? (i := 20) (by decide +kernel)) (by decide +kernel), bg_m6 (List.mem_of_getElem? (i := 21) (by decide +kernel)) (by decide +kernel), bg_m6 (List.mem_of_getElem? (i := 22) (by decide +kernel)) (by decide +kernel)⟩
theorem sc_M_252 : SC "ShameAnglesModel" 252 G_M_far := ⟨bg_m6 (List.mem_of_getElem? (i := 25) (by decide +kernel)) (by decide +kernel), bg_m6 (List.mem_of_getElem? (i := 26) (by decide +kernel)) (by decide +kernel)⟩
theorem vc_L_96 : VC "ShameAnglesLaw" 96 G_M_fewest := ⟨bg_m6 (List.mem_of_getElem? (i := 28) (by decide +kernel)) (by decide +kernel), bg_m6 (List.mem_of_getElem? (i := 29) (by decide +kernel)) (by decide +kernel), bg_m6 (List.mem_of_getElem? (i := 30) (by decide +kernel)) (by decide +kernel)⟩
theorem vc_L_100 : VC "ShameAnglesLaw" 100 G_M_cape := ⟨bg_m6 (List.mem_of_getElem? (i := 32) (by decide +kernel)) (by decide +kernel), bg_m6 (List.mem_of_getElem? (i := 33) (by decide +kernel)) (by decide +kernel), bg_m6 (List.mem_of_getElem? (i := 34) (by decide +kernel)) (by decide +kernel)⟩
theorem vc_M_258 : VC "ShameAnglesModel" 258 G_M_ten := ⟨bg_m6 (List.mem_of_getElem? (i := 36) (by decide +kernel)) (by decide +kernel), bg_m6 (List.mem_of_getElem? (i := 38) (by decide +kernel)) (by decide +kernel), bg_m0 (List.mem_of_getElem? (i := 58) (by decide +kernel)) (by decide +kernel)⟩
theorem vc_M_255 : VC "ShameAnglesModel" 255 G_M_power := ⟨bg_m6 (List.mem_of_getElem? (i := 40) (by decide +kernel)) (by decide +kernel), bg_m6 (List.mem_of_getElem? (i := 42) (by decide +kernel)) (by decide +kernel), bg_m0 (List.mem_of_getElem? (i := 59) (by decide +kernel)) (by decide +kernel)⟩
theorem vc_M_261 : VC "ShameAnglesModel" 261 G_M_placeBy := ⟨bg_m6 (List.mem_of_getElem? (i := 44) (by decide +kernel)) (by decide +kernel), bg_m6 (List.mem_of_getElem? (i := 46) (by decide +kernel)) (by decide +kernel), bg_m0 (List.mem_of_getElem? (i := 60) (by decide +kernel)) (by decide +kernel)⟩
theorem vc_L_104 : VC "ShameAnglesLaw" 104 G_M_watch := ⟨bg_m6 (List.mem_of_getElem? (i := 48) (by decide +kernel)) (by decide +kernel), bg_m6 (List.mem_of_getElem? (i := 49) (by decide +kernel)) (by decide +kernel), bg_m6 (List.mem_of_getElem? (i := 50) (by decide +kernel)) (by decide +kernel)⟩
theorem vc_M_264 : VC "ShameAnglesModel" 264 G_M_isWatch := ⟨bg_m6 (List.mem_of_getElem? (i := 52) (by decide +kernel)) (by decide +kernel), bg_m6 (List.mem_of_getElem? (i := 54) (by decide +kernel)) (by decide +kernel), bg_m0 (List.mem_of_getElem? (i := 61) (by decide +kernel)) (by decide +kernel)⟩
theorem vc_L_108 : VC "ShameAnglesLaw" 108 G_M_mutiny := ⟨bg_m6 (List.mem_of_getElem? (i := 56) (by decide +kernel)) (by decide +kernel), bg_m6 (List.mem_of_getElem? (i := 57) (by decide +kernel)) (by decide +kernel), bg_m6 (List.mem_of_getElem? (i := 58) (by decide +kernel)) (by decide +kernel)⟩
theorem vc_L_112 : VC "ShameAnglesLaw" 112 G_M_seen := ⟨bg_m6 (List.mem_of_getElem? (i := 60) (by decide +kernel)) (by decide +kernel), bg_m6 (List.mem_of_getElem? (i := 61) (by decide +kernel)) (by decide +kernel), bg_m6 (List.mem_of_getElem? (i := 62) (by decide +kernel)) (by decide +kernel)⟩
theorem vc_L_116 : VC "ShameAnglesLaw" 116 G_M_began := ⟨bg_m6 (List.mem_of_getElem? (i := 64) (by decide +kernel)) (by decide +kernel), bg_m6 (List.mem_of_getElem? (i := 65) (by decide +kernel)) (by decide +kernel), bg_m6 (List.mem_of_getElem? (i := 66) (by decide +kernel)) (by decide +kernel)⟩
theorem vc_M_270 : VC "ShameAnglesModel" 270 G_M_mayBegin := ⟨bg_m6 (List.mem_of_getElem? (i := 68) (by decide +kernel)) (by decide +kernel), bg_m6 (List.mem_of_getElem? (i := 70) (by decide +kernel)) (by decide +kernel), bg_m0 (List.mem_of_getElem? (i := 62) (by decide +kernel)) (by decide +kernel)⟩
theorem vc_M_267 : VC "ShameAnglesModel" 267 G_M_shameOn := ⟨bg_m6 (List.mem_of_getElem? (i := 72) (by decide +kernel)) (by decide +kernel), bg_m6 (List.mem_of_getElem? (i := 74) (by decide +kernel)) (by decide +kernel), bg_m0 (List.mem_of_getElem? (i := 63) (by decide +kernel)) (by decide +kernel)⟩
theorem vc_L_121 : VC "ShameAnglesLaw" 121 G_M_note := ⟨bg_m6 (List.mem_of_getElem? (i := 76) (by decide +kernel)) (by decide +kernel), bg_m6 (List.mem_of_getElem? (i := 77) (by decide +kernel)) (by decide +kernel), bg_m6 (List.mem_of_getElem? (i := 78) (by decide +kernel)) (by decide +kernel)⟩
theorem vc_L_125 : VC "ShameAnglesLaw" 125 G_M_mark := ⟨bg_m6 (List.mem_of_getElem? (i := 80) (by decide +kernel)) (by decide +kernel), bg_m6 (List.mem_of_getElem? (i := 81) (by decide +kernel)) (by decide +kernel), bg_m6 (List.mem_of_getElem? (i := 82) (by decide +kernel)) (by decide +kernel)⟩
theorem vc_L_129 : VC "ShameAnglesLaw" 129 G_M_forget := ⟨bg_m6 (List.mem_of_getElem? (i := 84) (by decide +kernel)) (by decide +kernel), bg_m6 (List.mem_of_getElem? (i := 85) (by decide +kernel)) (by decide +kernel), bg_m6 (List.mem_of_getElem? (i := 86) (by decide +kernel)) (by decide +kernel)⟩
theorem vc_L_133 : VC "ShameAnglesLaw" 133 G_M_is := ⟨bg_m6 (List.mem_of_getElem? (i := 88) (by decide +kernel)) (by decide +kernel), bg_m6 (List.mem_of_getElem? (i := 89) (by decide +kernel)) (by decide +kernel), bg_m6 (List.mem_of_getElem? (i := 90) (by decide +kernel)) (by decide +kernel)⟩
theorem vc_M_273 : VC "ShameAnglesModel" 273 G_M_kindsOf := ⟨bg_m6 (List.mem_of_getElem? (i := 92) (by decide +kernel)) (by decide +kernel), bg_m6 (List.mem_of_getElem? (i := 94) (by decide +kernel)) (by decide +kernel), bg_m0 (List.mem_of_getElem? (i := 64) (by decide +kernel)) (by decide +kernel)⟩
theorem vc_L_141 : VC "ShameAnglesLaw" 141 G_M_kinds := ⟨bg_m6 (List.mem_of_getElem? (i := 96) (by decide +kernel)) (by decide +kernel), bg_m6 (List.mem_of_getElem? (i := 97) (by decide +kernel)) (by decide +kernel), bg_m6 (List.mem_of_getElem? (i := 98) (by decide +kernel)) (by decide +kernel)⟩
theorem vc_M_276 : VC "ShameAnglesModel" 276 G_M_kindsBy := ⟨bg_m6 (List.mem_of_getElem? (i := 100) (by decide +kernel)) (by decide +kernel), bg_m6 (List.mem_of_getElem? (i := 102) (by decide +kernel)) (by decide +kernel), bg_m0 (List.mem_of_getElem? (i := 65) (by decide +kernel)) (by decide +kernel)⟩
theorem vc_L_137 : VC "ShameAnglesLaw" 137 G_M_look := ⟨bg_m6 (List.mem_of_getElem? (i := 104) (by decide +kernel)) (by decide +kernel), bg_m6 (List.mem_of_getElem? (i := 105) (by decide +kernel)) (by decide +kernel), bg_m6 (List.mem_of_getElem? (i := 106) (by decide +kernel)) (by decide +kernel)⟩
theorem sc_M_279 : SC "ShameAnglesModel" 279 G_M_alike := ⟨bg_m6 (List.mem_of_getElem? (i := 108) (by decide +kernel)) (by decide +kernel), bg_m6 (List.mem_of_getElem? (i := 109) (by decide +kernel)) (by decide +kernel)⟩
theorem vc_L_145 : VC "ShameAnglesLaw" 145 G_M_ask := ⟨bg_m6 (List.mem_of_getElem? (i := 111) (by decide +kernel)) (by decide +kernel), bg_m6 (List.mem_of_getElem? (i := 112) (by decide +kernel)) (by decide +kernel), bg_m6 (List.mem_of_getElem? (i := 113) (by decide +kernel)) (by decide +kernel)⟩
theorem vc_L_149 : VC "ShameAnglesLaw" 149 G_M_officers := ⟨bg_m6 (List.mem_of_getElem? (i := 115) (by decide +kernel)) (by decide +kernel), bg_m6 (List.mem_of_getElem? (i := 116) (by decide +kernel)) (by decide +kernel), bg_m6 (List.mem_of_getElem? (i := 117) (by decide +kernel)) (by decide +kernel)⟩
theorem vc_M_286 : VC "ShameAnglesModel" 286 G_M_rests := ⟨bg_m6 (List.mem_of_getElem? (i := 119) (by decide +kernel)) (by decide +kernel), bg_m6 (List.mem_of_getElem? (i := 121) (by decide +kernel)) (by decide +kernel), bg_m0 (List.mem_of_getElem? (i := 66) (by decide +kernel)) (by decide +kernel)⟩
theorem vc_M_283 : VC "ShameAnglesModel" 283 G_M_firstGets := ⟨bg_m6 (List.mem_of_getElem? (i := 123) (by decide +kernel)) (by decide +kernel), bg_m6 (List.mem_of_getElem? (i := 125) (by decide +kernel)) (by decide +kernel), bg_m0 (List.mem_of_getElem? (i := 67) (by decide +kernel)) (by decide +kernel)⟩
theorem vc_L_153 : VC "ShameAnglesLaw" 153 G_M_slips := ⟨bg_m6 (List.mem_of_getElem? (i := 127) (by decide +kernel)) (by decide +kernel), bg_m6 (List.mem_of_getElem? (i := 128) (by decide +kernel)) (by decide +kernel), bg_m6 (List.mem_of_getElem? (i := 129) (by decide +kernel)) (by decide +kernel)⟩
theorem vc_M_294 : VC "ShameAnglesModel" 294 G_M_lay := ⟨bg_m6 (List.mem_of_getElem? (i := 132) (by decide +kernel)) (by decide +kernel), bg_m6 (List.mem_of_getElem? (i := 134) (by decide +kernel)) (by decide +kernel), bg_m0 (List.mem_of_getElem? (i := 68) (by decide +kernel)) (by decide +kernel)⟩
theorem vc_L_157 : VC "ShameAnglesLaw" 157 G_M_voyages := ⟨bg_m6 (List.mem_of_getElem? (i := 136) (by decide +kernel)) (by decide +kernel), bg_m6 (List.mem_of_getElem? (i := 137) (by decide +kernel)) (by decide +kernel), bg_m6 (List.mem_of_getElem? (i := 138) (by decide +kernel)) (by decide +kernel)⟩
theorem vc_L_162 : VC "ShameAnglesLaw" 162 G_M_part := ⟨bg_m6 (List.mem_of_getElem? (i := 148) (by decide +kernel)) (by decide +kernel), bg_m6 (List.mem_of_getElem? (i := 149) (by decide +kernel)) (by decide +kernel), bg_m6 (List.mem_of_getElem? (i := 150) (by decide +kernel)) (by decide +kernel)⟩
theorem vc_L_166 : VC "ShameAnglesLaw" 166 G_M_image := ⟨bg_m6 (List.mem_of_getElem? (i := 152) (by decide +kernel)) (by decide +kernel), bg_m6 (List.mem_of_getElem? (i := 153) (by decide +kernel)) (by decide +kernel), bg_m6 (List.mem_of_getElem? (i := 154) (by decide +kernel)) (by decide +kernel)⟩
theorem vc_L_170 : VC "ShameAnglesLaw" 170 G_M_from := ⟨bg_m6 (List.mem_of_getElem? (i := 156) (by decide +kernel)) (by decide +kernel), bg_m6 (List.mem_of_getElem? (i := 157) (by decide +kernel)) (by decide +kernel), bg_m6 (List.mem_of_getElem? (i := 158) (by decide +kernel)) (by decide +kernel)⟩
theorem vc_L_174 : VC "ShameAnglesLaw" 174 G_M_status := ⟨bg_m6 (List.mem_of_getElem? (i := 160) (by decide +kernel)) (by decide +kernel), bg_m6 (List.mem_of_getElem? (i := 161) (by decide +kernel)) (by decide +kernel), bg_m6 (List.mem_of_getElem? (i := 162) (by decide +kernel)) (by decide +kernel)⟩
theorem vc_L_178 : VC "ShameAnglesLaw" 178 G_M_count := ⟨bg_m6 (List.mem_of_getElem? (i := 164) (by decide +kernel)) (by decide +kernel), bg_m6 (List.mem_of_getElem? (i := 165) (by decide +kernel)) (by decide +kernel), bg_m6 (List.mem_of_getElem? (i := 166) (by decide +kernel)) (by decide +kernel)⟩
theorem vc_M_316 : VC "ShameAnglesModel" 316 G_M_countOf := ⟨bg_m6 (List.mem_of_getElem? (i := 168) (by decide +kernel)) (by decide +kernel), bg_m6 (List.mem_of_getElem? (i := 170) (by decide +kernel)) (by decide +kernel), bg_m0 (List.mem_of_getElem? (i := 69) (by decide +kernel)) (by decide +kernel)⟩
theorem vc_M_313 : VC "ShameAnglesModel" 313 G_M_shameAll := ⟨bg_m6 (List.mem_of_getElem? (i := 172) (by decide +kernel)) (by decide +kernel), bg_m6 (List.mem_of_getElem? (i := 174) (by decide +kernel)) (by decide +kernel), bg_m0 (List.mem_of_getElem? (i := 70) (by decide +kernel)) (by decide +kernel)⟩
theorem vc_L_183 : VC "ShameAnglesLaw" 183 G_M_digest := ⟨bg_m6 (List.mem_of_getElem? (i := 176) (by decide +kernel)) (by decide +kernel), bg_m6 (List.mem_of_getElem? (i := 177) (by decide +kernel)) (by decide +kernel), bg_m6 (List.mem_of_getElem? (i := 178) (by decide +kernel)) (by decide +kernel)⟩
theorem vc_M_326 : VC "ShameAnglesModel" 326 G_M_mix := ⟨bg_m6 (List.mem_of_getElem? (i := 181) (by decide +kernel)) (by decide +kernel), bg_m6 (List.mem_of_getElem? (i := 183) (by decide +kernel)) (by decide +kernel), bg_m0 (List.mem_of_getElem? (i := 71) (by decide +kernel)) (by decide +kernel)⟩
theorem inc_S_9 : INC "ShameAngles$State" 9 G_H_init := ⟨by decide +kernel, bg_m1 (List.mem_of_getElem? (i := 38) (by decide +kernel)) (by decide +kernel), rfl, rfl⟩
theorem inc_S_33 : INC "ShameAngles$State" 33 G_P_init := ⟨by decide +kernel, bg_m1 (List.mem_of_getElem? (i := 120) (by decide +kernel)) (by decide +kernel), rfl, rfl⟩
theorem inc_A_26 : INC "ShameAngles" 26 G_H_init := ⟨by decide +kernel, bg_m1 (List.mem_of_getElem? (i := 38) (by decide +kernel)) (by decide +kernel), rfl, rfl⟩
theorem inc_A_33 : INC "ShameAngles" 33 G_T_init := ⟨by decide +kernel, bg_m1 (List.mem_of_getElem? (i := 161) (by decide +kernel)) (by decide +kernel), rfl, rfl⟩
theorem inc_O_21 : INC "ShameAngles$Route" 21 G_H_init := ⟨by decide +kernel, bg_m1 (List.mem_of_getElem? (i := 38) (by decide +kernel)) (by decide +kernel), rfl, rfl⟩
theorem inc_A_47 : INC "ShameAngles" 47 G_W_init := ⟨by decide +kernel, bg_m1 (List.mem_of_getElem? (i := 205) (by decide +kernel)) (by decide +kernel), rfl, rfl⟩
theorem inc_A_54 : INC "ShameAngles" 54 G_G_init := ⟨by decide +kernel, bg_m1 (List.mem_of_getElem? (i := 225) (by decide +kernel)) (by decide +kernel), rfl, rfl⟩
theorem inc_A_61 : INC "ShameAngles" 61 G_C_init := ⟨by decide +kernel, bg_m1 (List.mem_of_getElem? (i := 235) (by decide +kernel)) (by decide +kernel), rfl, rfl⟩
theorem fl_O_22 : FL "ShameAngles$Route" 22 2 0 := ⟨_, rfl, by decide, bg_m1 (List.mem_of_getElem? (i := 41) (by decide +kernel)) (by decide +kernel)⟩
theorem fl_H_24 : FL "ShameAngles$Ship" 24 2 0 := ⟨_, rfl, by decide, bg_m1 (List.mem_of_getElem? (i := 42) (by decide +kernel)) (by decide +kernel)⟩
theorem fl_P_30 : FL "ShameAngles$Past" 30 2 0 := ⟨_, rfl, by decide, bg_m1 (List.mem_of_getElem? (i := 43) (by decide +kernel)) (by decide +kernel)⟩
theorem fl_A_147 : FL "ShameAngles" 147 2 0 := ⟨_, rfl, by decide, bg_m1 (List.mem_of_getElem? (i := 44) (by decide +kernel)) (by decide +kernel)⟩
theorem fl_H_28 : FL "ShameAngles$Ship" 28 2 1 := ⟨_, rfl, by decide, bg_m1 (List.mem_of_getElem? (i := 45) (by decide +kernel)) (by decide +kernel)⟩
theorem fl_P_33 : FL "ShameAngles$Past" 33 2 1 := ⟨_, rfl, by decide, bg_m1 (List.mem_of_getElem? (i := 46) (by decide +kernel)) (by decide +kernel)⟩
theorem fl_A_162 : FL "ShameAngles" 162 2 1 := ⟨_, rfl, by decide, bg_m1 (List.mem_of_getElem? (i := 47) (by decide +kernel)) (by decide +kernel)⟩
theorem fl_S_38 : FL "ShameAngles$State" 38 2 2 := ⟨_, rfl, by decide, bg_m1 (List.mem_of_getElem? (i := 48) (by decide +kernel)) (by decide +kernel)⟩
theorem fl_H_31 : FL "ShameAngles$Ship" 31 2 2 := ⟨_, rfl, by decide, bg_m1 (List.mem_of_getElem? (i := 49) (by decide +kernel)) (by decide +kernel)⟩
theorem fl_O_60 : FL "ShameAngles$Route" 60 2 2 := ⟨_, rfl, by decide, bg_m1 (List.mem_of_getElem? (i := 50) (by decide +kernel)) (by decide +kernel)⟩
theorem fl_A_120 : FL "ShameAngles" 120 2 2 := ⟨_, rfl, by decide, bg_m1 (List.mem_of_getElem? (i := 51) (by decide +kernel)) (by decide +kernel)⟩
theorem fl_H_34 : FL "ShameAngles$Ship" 34 2 3 := ⟨_, rfl, by decide, bg_m1 (List.mem_of_getElem? (i := 52) (by decide +kernel)) (by decide +kernel)⟩
theorem fl_P_36 : FL "ShameAngles$Past" 36 2 3 := ⟨_, rfl, by decide, bg_m1 (List.mem_of_getElem? (i := 53) (by decide +kernel)) (by decide +kernel)⟩
theorem fl_A_134 : FL "ShameAngles" 134 2 3 := ⟨_, rfl, by decide, bg_m1 (List.mem_of_getElem? (i := 54) (by decide +kernel)) (by decide +kernel)⟩
theorem fl_X_9 : FL "ShameAngles$Choices" 9 2 4 := ⟨_, rfl, by decide, bg_m1 (List.mem_of_getElem? (i := 55) (by decide +kernel)) (by decide +kernel)⟩
theorem fl_H_37 : FL "ShameAngles$Ship" 37 2 4 := ⟨_, rfl, by decide, bg_m1 (List.mem_of_getElem? (i := 56) (by decide +kernel)) (by decide +kernel)⟩
theorem fl_A_77 : FL "ShameAngles" 77 2 4 := ⟨_, rfl, by decide, bg_m1 (List.mem_of_getElem? (i := 57) (by decide +kernel)) (by decide +kernel)⟩
theorem fl_W_29 : FL "ShameAngles$Watches" 29 2 4 := ⟨_, rfl, by decide, bg_m1 (List.mem_of_getElem? (i := 58) (by decide +kernel)) (by decide +kernel)⟩
theorem fl_O_38 : FL "ShameAngles$Route" 38 2 4 := ⟨_, rfl, by decide, bg_m1 (List.mem_of_getElem? (i := 59) (by decide +kernel)) (by decide +kernel)⟩
theorem fl_T_52 : FL "ShameAngles$Script" 52 2 4 := ⟨_, rfl, by decide, bg_m1 (List.mem_of_getElem? (i := 60) (by decide +kernel)) (by decide +kernel)⟩
theorem fl_H_40 : FL "ShameAngles$Ship" 40 2 5 := ⟨_, rfl, by decide, bg_m1 (List.mem_of_getElem? (i := 61) (by decide +kernel)) (by decide +kernel)⟩
theorem fl_W_37 : FL "ShameAngles$Watches" 37 2 5 := ⟨_, rfl, by decide, bg_m1 (List.mem_of_getElem? (i := 62) (by decide +kernel)) (by decide +kernel)⟩
theorem fl_T_62 : FL "ShameAngles$Script" 62 2 5 := ⟨_, rfl, by decide, bg_m1 (List.mem_of_getElem? (i := 63) (by decide +kernel)) (by decide +kernel)⟩
theorem fl_A_106 : FL "ShameAngles" 106 2 5 := ⟨_, rfl, by decide, bg_m1 (List.mem_of_getElem? (i := 64) (by decide +kernel)) (by decide +kernel)⟩
theorem fl_H_9 : FL "ShameAngles$Ship" 9 2 6 := ⟨_, rfl, by decide, bg_m1 (List.mem_of_getElem? (i := 65) (by decide +kernel)) (by decide +kernel)⟩
theorem fl_A_85 : FL "ShameAngles" 85 2 6 := ⟨_, rfl, by decide, bg_m1 (List.mem_of_getElem? (i := 66) (by decide +kernel)) (by decide +kernel)⟩
theorem fl_T_90 : FL "ShameAngles$Script" 90 2 6 := ⟨_, rfl, by decide, bg_m1 (List.mem_of_getElem? (i := 67) (by decide +kernel)) (by decide +kernel)⟩
theorem fl_H_15 : FL "ShameAngles$Ship" 15 2 7 := ⟨_, rfl, by decide, bg_m1 (List.mem_of_getElem? (i := 68) (by decide +kernel)) (by decide +kernel)⟩
theorem fl_G_45 : FL "ShameAngles$Guesses" 45 2 7 := ⟨_, rfl, by decide, bg_m1 (List.mem_of_getElem? (i := 69) (by decide +kernel)) (by decide +kernel)⟩
theorem fl_A_169 : FL "ShameAngles" 169 2 7 := ⟨_, rfl, by decide, bg_m1 (List.mem_of_getElem? (i := 70) (by decide +kernel)) (by decide +kernel)⟩
theorem fl_H_18 : FL "ShameAngles$Ship" 18 2 8 := ⟨_, rfl, by decide, bg_m1 (List.mem_of_getElem? (i := 71) (by decide +kernel)) (by decide +kernel)⟩
theorem fl_P_25 : FL "ShameAngles$Past" 25 2 8 := ⟨_, rfl, by decide, bg_m1 (List.mem_of_getElem? (i := 72) (by decide +kernel)) (by decide +kernel)⟩
theorem fl_A_156 : FL "ShameAngles" 156 2 8 := ⟨_, rfl, by decide, bg_m1 (List.mem_of_getElem? (i := 73) (by decide +kernel)) (by decide +kernel)⟩
theorem fl_H_21 : FL "ShameAngles$Ship" 21 2 9 := ⟨_, rfl, by decide, bg_m1 (List.mem_of_getElem? (i := 74) (by decide +kernel)) (by decide +kernel)⟩
theorem fl_O_57 : FL "ShameAngles$Route" 57 2 9 := ⟨_, rfl, by decide, bg_m1 (List.mem_of_getElem? (i := 75) (by decide +kernel)) (by decide +kernel)⟩
theorem fl_R_19 : FL "ShameAngles$Rows" 19 3 0 := ⟨_, rfl, by decide, bg_m1 (List.mem_of_getElem? (i := 104) (by decide +kernel)) (by decide +kernel)⟩
theorem fl_S_45 : FL "ShameAngles$State" 45 3 0 := ⟨_, rfl, by decide, bg_m1 (List.mem_of_getElem? (i := 105) (by decide +kernel)) (by decide +kernel)⟩
theorem fl_G_35 : FL "ShameAngles$Guesses" 35 3 0 := ⟨_, rfl, by decide, bg_m1 (List.mem_of_getElem? (i := 106) (by decide +kernel)) (by decide +kernel)⟩
theorem fl_A_307 : FL "ShameAngles" 307 3 0 := ⟨_, rfl, by decide, bg_m1 (List.mem_of_getElem? (i := 107) (by decide +kernel)) (by decide +kernel)⟩
theorem fl_R_15 : FL "ShameAngles$Rows" 15 3 1 := ⟨_, rfl, by decide, bg_m1 (List.mem_of_getElem? (i := 108) (by decide +kernel)) (by decide +kernel)⟩
theorem fl_R_11 : FL "ShameAngles$Rows" 11 3 2 := ⟨_, rfl, by decide, bg_m1 (List.mem_of_getElem? (i := 109) (by decide +kernel)) (by decide +kernel)⟩
theorem fl_P_15 : FL "ShameAngles$Past" 15 4 0 := ⟨_, rfl, by decide, bg_m1 (List.mem_of_getElem? (i := 123) (by decide +kernel)) (by decide +kernel)⟩
theorem fl_S_48 : FL "ShameAngles$State" 48 4 0 := ⟨_, rfl, by decide, bg_m1 (List.mem_of_getElem? (i := 124) (by decide +kernel)) (by decide +kernel)⟩
theorem fl_A_93 : FL "ShameAngles" 93 4 0 := ⟨_, rfl, by decide, bg_m1 (List.mem_of_getElem? (i := 125) (by decide +kernel)) (by decide +kernel)⟩
theorem fl_P_11 : FL "ShameAngles$Past" 11 4 1 := ⟨_, rfl, by decide, bg_m1 (List.mem_of_getElem? (i := 126) (by decide +kernel)) (by decide +kernel)⟩
theorem fl_S_10 : FL "ShameAngles$State" 10 1 0 := ⟨_, rfl, by decide, bg_m1 (List.mem_of_getElem? (i := 132) (by decide +kernel)) (by decide +kernel)⟩
theorem fl_A_74 : FL "ShameAngles" 74 1 0 := ⟨_, rfl, by decide, bg_m1 (List.mem_of_getElem? (i := 133) (by decide +kernel)) (by decide +kernel)⟩
theorem fl_G_19 : FL "ShameAngles$Guesses" 19 1 0 := ⟨_, rfl, by decide, bg_m1 (List.mem_of_getElem? (i := 134) (by decide +kernel)) (by decide +kernel)⟩
theorem fl_S_21 : FL "ShameAngles$State" 21 1 1 := ⟨_, rfl, by decide, bg_m1 (List.mem_of_getElem? (i := 135) (by decide +kernel)) (by decide +kernel)⟩
theorem fl_G_31 : FL "ShameAngles$Guesses" 31 1 1 := ⟨_, rfl, by decide, bg_m1 (List.mem_of_getElem? (i := 136) (by decide +kernel)) (by decide +kernel)⟩
theorem fl_A_214 : FL "ShameAngles" 214 1 1 := ⟨_, rfl, by decide, bg_m1 (List.mem_of_getElem? (i := 137) (by decide +kernel)) (by decide +kernel)⟩
theorem fl_S_25 : FL "ShameAngles$State" 25 1 2 := ⟨_, rfl, by decide, bg_m1 (List.mem_of_getElem? (i := 138) (by decide +kernel)) (by decide +kernel)⟩
theorem fl_A_236 : FL "ShameAngles" 236 1 2 := ⟨_, rfl, by decide, bg_m1 (List.mem_of_getElem? (i := 139) (by decide +kernel)) (by decide +kernel)⟩
theorem fl_S_28 : FL "ShameAngles$State" 28 1 3 := ⟨_, rfl, by decide, bg_m1 (List.mem_of_getElem? (i := 140) (by decide +kernel)) (by decide +kernel)⟩
theorem fl_A_239 : FL "ShameAngles" 239 1 3 := ⟨_, rfl, by decide, bg_m1 (List.mem_of_getElem? (i := 141) (by decide +kernel)) (by decide +kernel)⟩
theorem fl_S_34 : FL "ShameAngles$State" 34 1 4 := ⟨_, rfl, by decide, bg_m1 (List.mem_of_getElem? (i := 142) (by decide +kernel)) (by decide +kernel)⟩
theorem fl_A_89 : FL "ShameAngles" 89 1 4 := ⟨_, rfl, by decide, bg_m1 (List.mem_of_getElem? (i := 143) (by decide +kernel)) (by decide +kernel)⟩
theorem fl_T_15 : FL "ShameAngles$Script" 15 5 0 := ⟨_, rfl, by decide, bg_m1 (List.mem_of_getElem? (i := 164) (by decide +kernel)) (by decide +kernel)⟩
theorem fl_A_112 : FL "ShameAngles" 112 5 0 := ⟨_, rfl, by decide, bg_m1 (List.mem_of_getElem? (i := 165) (by decide +kernel)) (by decide +kernel)⟩
theorem fl_T_11 : FL "ShameAngles$Script" 11 5 1 := ⟨_, rfl, by decide, bg_m1 (List.mem_of_getElem? (i := 166) (by decide +kernel)) (by decide +kernel)⟩
theorem fl_T_32 : FL "ShameAngles$Script" 32 5 2 := ⟨_, rfl, by decide, bg_m1 (List.mem_of_getElem? (i := 167) (by decide +kernel)) (by decide +kernel)⟩
theorem fl_T_19 : FL "ShameAngles$Script" 19 5 3 := ⟨_, rfl, by decide, bg_m1 (List.mem_of_getElem? (i := 168) (by decide +kernel)) (by decide +kernel)⟩
theorem fl_T_25 : FL "ShameAngles$Script" 25 5 4 := ⟨_, rfl, by decide, bg_m1 (List.mem_of_getElem? (i := 169) (by decide +kernel)) (by decide +kernel)⟩
theorem fl_T_103 : FL "ShameAngles$Script" 103 5 5 := ⟨_, rfl, by decide, bg_m1 (List.mem_of_getElem? (i := 170) (by decide +kernel)) (by decide +kernel)⟩
theorem fl_O_11 : FL "ShameAngles$Route" 11 6 0 := ⟨_, rfl, by decide, bg_m1 (List.mem_of_getElem? (i := 194) (by decide +kernel)) (by decide +kernel)⟩
theorem fl_A_201 : FL "ShameAngles" 201 6 0 := ⟨_, rfl, by decide, bg_m1 (List.mem_of_getElem? (i := 195) (by decide +kernel)) (by decide +kernel)⟩
theorem fl_O_17 : FL "ShameAngles$Route" 17 6 1 := ⟨_, rfl, by decide, bg_m1 (List.mem_of_getElem? (i := 196) (by decide +kernel)) (by decide +kernel)⟩
theorem fl_W_9 : FL "ShameAngles$Watches" 9 7 0 := ⟨_, rfl, by decide, bg_m1 (List.mem_of_getElem? (i := 208) (by decide +kernel)) (by decide +kernel)⟩
theorem fl_A_207 : FL "ShameAngles" 207 7 0 := ⟨_, rfl, by decide, bg_m1 (List.mem_of_getElem? (i := 209) (by decide +kernel)) (by decide +kernel)⟩
theorem fl_W_15 : FL "ShameAngles$Watches" 15 7 1 := ⟨_, rfl, by decide, bg_m1 (List.mem_of_getElem? (i := 210) (by decide +kernel)) (by decide +kernel)⟩
theorem fl_W_18 : FL "ShameAngles$Watches" 18 7 2 := ⟨_, rfl, by decide, bg_m1 (List.mem_of_getElem? (i := 211) (by decide +kernel)) (by decide +kernel)⟩
theorem fl_W_21 : FL "ShameAngles$Watches" 21 7 3 := ⟨_, rfl, by decide, bg_m1 (List.mem_of_getElem? (i := 212) (by decide +kernel)) (by decide +kernel)⟩
theorem fl_G_9 : FL "ShameAngles$Guesses" 9 8 0 := ⟨_, rfl, by decide, bg_m1 (List.mem_of_getElem? (i := 228) (by decide +kernel)) (by decide +kernel)⟩
theorem fl_C_7 : FL "ShameAngles$Chance" 7 9 0 := ⟨_, rfl, by decide, bg_m1 (List.mem_of_getElem? (i := 238) (by decide +kernel)) (by decide +kernel)⟩
theorem fl_A_285 : FL "ShameAngles" 285 9 0 := ⟨_, rfl, by decide, bg_m1 (List.mem_of_getElem? (i := 239) (by decide +kernel)) (by decide +kernel)⟩
theorem fl_C_13 : FL "ShameAngles$Chance" 13 9 1 := ⟨_, rfl, by decide, bg_m2 (List.mem_of_getElem? (i := 0) (by decide +kernel)) (by decide +kernel)⟩
theorem fl_A_289 : FL "ShameAngles" 289 9 1 := ⟨_, rfl, by decide, bg_m2 (List.mem_of_getElem? (i := 1) (by decide +kernel)) (by decide +kernel)⟩
theorem fl_A_10 : FL "ShameAngles" 10 0 0 := ⟨_, rfl, by decide, bg_m2 (List.mem_of_getElem? (i := 7) (by decide +kernel)) (by decide +kernel)⟩
theorem fl_A_16 : FL "ShameAngles" 16 0 1 := ⟨_, rfl, by decide, bg_m2 (List.mem_of_getElem? (i := 8) (by decide +kernel)) (by decide +kernel)⟩
theorem fl_A_20 : FL "ShameAngles" 20 0 2 := ⟨_, rfl, by decide, bg_m2 (List.mem_of_getElem? (i := 9) (by decide +kernel)) (by decide +kernel)⟩
theorem fl_A_27 : FL "ShameAngles" 27 0 3 := ⟨_, rfl, by decide, bg_m2 (List.mem_of_getElem? (i := 10) (by decide +kernel)) (by decide +kernel)⟩
theorem fl_A_34 : FL "ShameAngles" 34 0 4 := ⟨_, rfl, by decide, bg_m2 (List.mem_of_getElem? (i := 11) (by decide +kernel)) (by decide +kernel)⟩
theorem fl_A_41 : FL "ShameAngles" 41 0 5 := ⟨_, rfl, by decide, bg_m2 (List.mem_of_getElem? (i := 12) (by decide +kernel)) (by decide +kernel)⟩
theorem fl_A_48 : FL "ShameAngles" 48 0 6 := ⟨_, rfl, by decide, bg_m2 (List.mem_of_getElem? (i := 13) (by decide +kernel)) (by decide +kernel)⟩
theorem fl_A_55 : FL "ShameAngles" 55 0 7 := ⟨_, rfl, by decide, bg_m2 (List.mem_of_getElem? (i := 14) (by decide +kernel)) (by decide +kernel)⟩
theorem fl_A_62 : FL "ShameAngles" 62 0 8 := ⟨_, rfl, by decide, bg_m2 (List.mem_of_getElem? (i := 15) (by decide +kernel)) (by decide +kernel)⟩
theorem fl_A_295 : FL "ShameAngles" 295 0 9 := ⟨_, rfl, by decide, bg_m2 (List.mem_of_getElem? (i := 16) (by decide +kernel)) (by decide +kernel)⟩
theorem fl_A_298 : FL "ShameAngles" 298 0 10 := ⟨_, rfl, by decide, bg_m2 (List.mem_of_getElem? (i := 17) (by decide +kernel)) (by decide +kernel)⟩
theorem fl_A_301 : FL "ShameAngles" 301 0 11 := ⟨_, rfl, by decide, bg_m2 (List.mem_of_getElem? (i := 18) (by decide +kernel)) (by decide +kernel)⟩
theorem fl_M_1 : FL "ShameAnglesModel" 1 10 0 := ⟨_, rfl, by decide, bg_m4 (List.mem_of_getElem? (i := 159) (by decide +kernel)) (by decide +kernel)⟩
theorem fl_M_60 : FL "ShameAnglesModel" 60 10 1 := ⟨_, rfl, by decide, bg_m4 (List.mem_of_getElem? (i := 160) (by decide +kernel)) (by decide +kernel)⟩
theorem fl_M_64 : FL "ShameAnglesModel" 64 10 2 := ⟨_, rfl, by decide, bg_m4 (List.mem_of_getElem? (i := 161) (by decide +kernel)) (by decide +kernel)⟩
theorem fl_M_67 : FL "ShameAnglesModel" 67 10 3 := ⟨_, rfl, by decide, bg_m4 (List.mem_of_getElem? (i := 162) (by decide +kernel)) (by decide +kernel)⟩
theorem fl_M_70 : FL "ShameAnglesModel" 70 10 4 := ⟨_, rfl, by decide, bg_m4 (List.mem_of_getElem? (i := 163) (by decide +kernel)) (by decide +kernel)⟩
theorem fl_M_73 : FL "ShameAnglesModel" 73 10 5 := ⟨_, rfl, by decide, bg_m4 (List.mem_of_getElem? (i := 164) (by decide +kernel)) (by decide +kernel)⟩
theorem fl_M_76 : FL "ShameAnglesModel" 76 10 6 := ⟨_, rfl, by decide, bg_m4 (List.mem_of_getElem? (i := 165) (by decide +kernel)) (by decide +kernel)⟩
theorem fl_M_79 : FL "ShameAnglesModel" 79 10 7 := ⟨_, rfl, by decide, bg_m4 (List.mem_of_getElem? (i := 166) (by decide +kernel)) (by decide +kernel)⟩
theorem fl_M_82 : FL "ShameAnglesModel" 82 10 8 := ⟨_, rfl, by decide, bg_m4 (List.mem_of_getElem? (i := 167) (by decide +kernel)) (by decide +kernel)⟩
theorem fl_M_85 : FL "ShameAnglesModel" 85 10 9 := ⟨_, rfl, by decide, bg_m4 (List.mem_of_getElem? (i := 168) (by decide +kernel)) (by decide +kernel)⟩
theorem fl_M_13 : FL "ShameAnglesModel" 13 10 10 := ⟨_, rfl, by decide, bg_m4 (List.mem_of_getElem? (i := 169) (by decide +kernel)) (by decide +kernel)⟩
theorem fl_M_16 : FL "ShameAnglesModel" 16 10 11 := ⟨_, rfl, by decide, bg_m4 (List.mem_of_getElem? (i := 170) (by decide +kernel)) (by decide +kernel)⟩
theorem fl_M_19 : FL "ShameAnglesModel" 19 10 12 := ⟨_, rfl, by decide, bg_m4 (List.mem_of_getElem? (i := 171) (by decide +kernel)) (by decide +kernel)⟩
theorem fl_M_22 : FL "ShameAnglesModel" 22 10 13 := ⟨_, rfl, by decide, bg_m4 (List.mem_of_getElem? (i := 172) (by decide +kernel)) (by decide +kernel)⟩
theorem fl_M_25 : FL "ShameAnglesModel" 25 10 14 := ⟨_, rfl, by decide, bg_m4 (List.mem_of_getElem? (i := 173) (by decide +kernel)) (by decide +kernel)⟩
theorem fl_M_28 : FL "ShameAnglesModel" 28 10 15 := ⟨_, rfl, by decide, bg_m4 (List.mem_of_getElem? (i := 174) (by decide +kernel)) (by decide +kernel)⟩
theorem fl_M_31 : FL "ShameAnglesModel" 31 10 16 := ⟨_, rfl, by decide, bg_m4 (List.mem_of_getElem? (i := 175) (by decide +kernel)) (by decide +kernel)⟩
theorem fl_M_34 : FL "ShameAnglesModel" 34 10 17 := ⟨_, rfl, by decide, bg_m4 (List.mem_of_getElem? (i := 176) (by decide +kernel)) (by decide +kernel)⟩
theorem fl_M_110 : FL "ShameAnglesModel" 110 10 18 := ⟨_, rfl, by decide, bg_m4 (List.mem_of_getElem? (i := 177) (by decide +kernel)) (by decide +kernel)⟩
theorem fl_M_113 : FL "ShameAnglesModel" 113 10 19 := ⟨_, rfl, by decide, bg_m4 (List.mem_of_getElem? (i := 178) (by decide +kernel)) (by decide +kernel)⟩
theorem fl_M_135 : FL "ShameAnglesModel" 135 10 20 := ⟨_, rfl, by decide, bg_m4 (List.mem_of_getElem? (i := 179) (by decide +kernel)) (by decide +kernel)⟩
theorem fl_M_37 : FL "ShameAnglesModel" 37 10 21 := ⟨_, rfl, by decide, bg_m4 (List.mem_of_getElem? (i := 180) (by decide +kernel)) (by decide +kernel)⟩
theorem fl_M_40 : FL "ShameAnglesModel" 40 10 22 := ⟨_, rfl, by decide, bg_m4 (List.mem_of_getElem? (i := 181) (by decide +kernel)) (by decide +kernel)⟩
theorem fl_M_88 : FL "ShameAnglesModel" 88 10 23 := ⟨_, rfl, by decide, bg_m4 (List.mem_of_getElem? (i := 182) (by decide +kernel)) (by decide +kernel)⟩
theorem fl_M_43 : FL "ShameAnglesModel" 43 10 24 := ⟨_, rfl, by decide, bg_m4 (List.mem_of_getElem? (i := 183) (by decide +kernel)) (by decide +kernel)⟩
theorem fl_M_289 : FL "ShameAnglesModel" 289 10 25 := ⟨_, rfl, by decide, bg_m4 (List.mem_of_getElem? (i := 184) (by decide +kernel)) (by decide +kernel)⟩
theorem fl_M_46 : FL "ShameAnglesModel" 46 10 26 := ⟨_, rfl, by decide, bg_m4 (List.mem_of_getElem? (i := 185) (by decide +kernel)) (by decide +kernel)⟩
theorem fl_M_50 : FL "ShameAnglesModel" 50 10 27 := ⟨_, rfl, by decide, bg_m4 (List.mem_of_getElem? (i := 186) (by decide +kernel)) (by decide +kernel)⟩
theorem fl_M_53 : FL "ShameAnglesModel" 53 10 28 := ⟨_, rfl, by decide, bg_m4 (List.mem_of_getElem? (i := 187) (by decide +kernel)) (by decide +kernel)⟩
theorem fl_M_321 : FL "ShameAnglesModel" 321 10 29 := ⟨_, rfl, by decide, bg_m4 (List.mem_of_getElem? (i := 188) (by decide +kernel)) (by decide +kernel)⟩
theorem kc_J_265 : Cond.constant "java/lang/Integer" 265 (Int32.ofInt 1431655765) ∈ bg := bg_m3 (List.mem_of_getElem? (i := 123) (by decide +kernel)) (by decide +kernel)
theorem kc_J_266 : Cond.constant "java/lang/Integer" 266 (Int32.ofInt 858993459) ∈ bg := bg_m3 (List.mem_of_getElem? (i := 124) (by decide +kernel)) (by decide +kernel)
theorem kc_J_267 : Cond.constant "java/lang/Integer" 267 (Int32.ofInt 252645135) ∈ bg := bg_m3 (List.mem_of_getElem? (i := 125) (by decide +kernel)) (by decide +kernel)
theorem kc_A_270 : Cond.constant "ShameAngles" 270 (Int32.ofInt 999999) ∈ bg := bg_m4 (List.mem_of_getElem? (i := 84) (by decide +kernel)) (by decide +kernel)
theorem kc_M_251 : Cond.constant "ShameAnglesModel" 251 (Int32.ofInt 1048576) ∈ bg := bg_m6 (List.mem_of_getElem? (i := 24) (by decide +kernel)) (by decide +kernel)
theorem kc_M_298 : Cond.constant "ShameAnglesModel" 298 (Int32.ofInt 999999) ∈ bg := bg_m6 (List.mem_of_getElem? (i := 140) (by decide +kernel)) (by decide +kernel)
theorem kl_C_16 : Cond.constantLong "ShameAngles$Chance" 16 (Int64.ofInt 10) ∈ bg := bg_m4 (List.mem_of_getElem? (i := 73) (by decide +kernel)) (by decide +kernel)
theorem kl_C_22 : Cond.constantLong "ShameAngles$Chance" 22 (Int64.ofInt 2) ∈ bg := bg_m4 (List.mem_of_getElem? (i := 78) (by decide +kernel)) (by decide +kernel)
theorem kl_C_24 : Cond.constantLong "ShameAngles$Chance" 24 (Int64.ofInt 5) ∈ bg := bg_m4 (List.mem_of_getElem? (i := 79) (by decide +kernel)) (by decide +kernel)
theorem kl_A_271 : Cond.constantLong "ShameAngles" 271 (Int64.ofInt 1103515245) ∈ bg := bg_m4 (List.mem_of_getElem? (i := 85) (by decide +kernel)) (by decide +kernel)
theorem kl_A_273 : Cond.constantLong "ShameAngles" 273 (Int64.ofInt 12345) ∈ bg := bg_m4 (List.mem_of_getElem? (i := 86) (by decide +kernel)) (by decide +kernel)
theorem kl_A_275 : Cond.constantLong "ShameAngles" 275 (Int64.ofInt 2147483648) ∈ bg := bg_m4 (List.mem_of_getElem? (i := 87) (by decide +kernel)) (by decide +kernel)
theorem kl_A_277 : Cond.constantLong "ShameAngles" 277 (Int64.ofInt 65536) ∈ bg := bg_m4 (List.mem_of_getElem? (i := 88) (by decide +kernel)) (by decide +kernel)
theorem kl_A_279 : Cond.constantLong "ShameAngles" 279 (Int64.ofInt 6) ∈ bg := bg_m4 (List.mem_of_getElem? (i := 89) (by decide +kernel)) (by decide +kernel)
theorem kl_A_281 : Cond.constantLong "ShameAngles" 281 (Int64.ofInt 1048576) ∈ bg := bg_m4 (List.mem_of_getElem? (i := 90) (by decide +kernel)) (by decide +kernel)
theorem kl_A_283 : Cond.constantLong "ShameAngles" 283 (Int64.ofInt 3) ∈ bg := bg_m4 (List.mem_of_getElem? (i := 91) (by decide +kernel)) (by decide +kernel)
theorem kl_A_308 : Cond.constantLong "ShameAngles" 308 (Int64.ofInt 1543) ∈ bg := bg_m4 (List.mem_of_getElem? (i := 134) (by decide +kernel)) (by decide +kernel)
theorem kl_A_310 : Cond.constantLong "ShameAngles" 310 (Int64.ofInt 31) ∈ bg := bg_m4 (List.mem_of_getElem? (i := 135) (by decide +kernel)) (by decide +kernel)
theorem kl_H_91 : Cond.constantLong "ShameAngles$Ship" 91 (Int64.ofInt 31) ∈ bg := bg_m4 (List.mem_of_getElem? (i := 142) (by decide +kernel)) (by decide +kernel)
theorem kl_R_32 : Cond.constantLong "ShameAngles$Rows" 32 (Int64.ofInt 31) ∈ bg := bg_m4 (List.mem_of_getElem? (i := 147) (by decide +kernel)) (by decide +kernel)
theorem kl_M_292 : Cond.constantLong "ShameAnglesModel" 292 (Int64.ofInt 10) ∈ bg := bg_m6 (List.mem_of_getElem? (i := 131) (by decide +kernel)) (by decide +kernel)
theorem kl_M_299 : Cond.constantLong "ShameAnglesModel" 299 (Int64.ofInt 1103515245) ∈ bg := bg_m6 (List.mem_of_getElem? (i := 141) (by decide +kernel)) (by decide +kernel)
theorem kl_M_301 : Cond.constantLong "ShameAnglesModel" 301 (Int64.ofInt 12345) ∈ bg := bg_m6 (List.mem_of_getElem? (i := 142) (by decide +kernel)) (by decide +kernel)
theorem kl_M_303 : Cond.constantLong "ShameAnglesModel" 303 (Int64.ofInt 2147483648) ∈ bg := bg_m6 (List.mem_of_getElem? (i := 143) (by decide +kernel)) (by decide +kernel)
theorem kl_M_305 : Cond.constantLong "ShameAnglesModel" 305 (Int64.ofInt 65536) ∈ bg := bg_m6 (List.mem_of_getElem? (i := 144) (by decide +kernel)) (by decide +kernel)
theorem kl_M_307 : Cond.constantLong "ShameAnglesModel" 307 (Int64.ofInt 6) ∈ bg := bg_m6 (List.mem_of_getElem? (i := 145) (by decide +kernel)) (by decide +kernel)
theorem kl_M_309 : Cond.constantLong "ShameAnglesModel" 309 (Int64.ofInt 1048576) ∈ bg := bg_m6 (List.mem_of_getElem? (i := 146) (by decide +kernel)) (by decide +kernel)
theorem kl_M_311 : Cond.constantLong "ShameAnglesModel" 311 (Int64.ofInt 3) ∈ bg := bg_m6 (List.mem_of_getElem? (i := 147) (by decide +kernel)) (by decide +kernel)
theorem kl_M_324 : Cond.constantLong "ShameAnglesModel" 324 (Int64.ofInt 1543) ∈ bg := bg_m6 (List.mem_of_getElem? (i := 180) (by decide +kernel)) (by decide +kernel)
theorem kl_M_319 : Cond.constantLong "ShameAnglesModel" 319 (Int64.ofInt 31) ∈ bg := bg_m6 (List.mem_of_getElem? (i := 185) (by decide +kernel)) (by decide +kernel)
theorem cl_L_7 : Cond.classLink "ShameAnglesLaw" 7 "ShameAngles" ∈ bg := bg_m1 (List.mem_of_getElem? (i := 21) (by decide +kernel)) (by decide +kernel)
theorem cl_A_7 : Cond.classLink "ShameAngles" 7 "ShameAngles$State" ∈ bg := bg_m1 (List.mem_of_getElem? (i := 29) (by decide +kernel)) (by decide +kernel)
theorem cl_S_7 : Cond.classLink "ShameAngles$State" 7 "ShameAngles$Ship" ∈ bg := bg_m1 (List.mem_of_getElem? (i := 35) (by decide +kernel)) (by decide +kernel)
theorem cl_S_16 : Cond.classLink "ShameAngles$State" 16 "ShameAngles$Rows" ∈ bg := bg_m1 (List.mem_of_getElem? (i := 98) (by decide +kernel)) (by decide +kernel)
theorem cl_S_31 : Cond.classLink "ShameAngles$State" 31 "ShameAngles$Past" ∈ bg := bg_m1 (List.mem_of_getElem? (i := 117) (by decide +kernel)) (by decide +kernel)
theorem cl_A_24 : Cond.classLink "ShameAngles" 24 "ShameAngles$Ship" ∈ bg := bg_m1 (List.mem_of_getElem? (i := 156) (by decide +kernel)) (by decide +kernel)
theorem cl_A_31 : Cond.classLink "ShameAngles" 31 "ShameAngles$Script" ∈ bg := bg_m1 (List.mem_of_getElem? (i := 158) (by decide +kernel)) (by decide +kernel)
theorem cl_A_38 : Cond.classLink "ShameAngles" 38 "ShameAngles$Route" ∈ bg := bg_m1 (List.mem_of_getElem? (i := 185) (by decide +kernel)) (by decide +kernel)
theorem cl_O_15 : Cond.classLink "ShameAngles$Route" 15 "ShameAngles$Ship" ∈ bg := bg_m1 (List.mem_of_getElem? (i := 191) (by decide +kernel)) (by decide +kernel)
theorem cl_A_45 : Cond.classLink "ShameAngles" 45 "ShameAngles$Watches" ∈ bg := bg_m1 (List.mem_of_getElem? (i := 202) (by decide +kernel)) (by decide +kernel)
theorem cl_A_52 : Cond.classLink "ShameAngles" 52 "ShameAngles$Guesses" ∈ bg := bg_m1 (List.mem_of_getElem? (i := 222) (by decide +kernel)) (by decide +kernel)
theorem cl_A_59 : Cond.classLink "ShameAngles" 59 "ShameAngles$Chance" ∈ bg := bg_m1 (List.mem_of_getElem? (i := 232) (by decide +kernel)) (by decide +kernel)
theorem cl_L_10 : Cond.classLink "ShameAnglesLaw" 10 "ShameAnglesModel" ∈ bg := bg_m4 (List.mem_of_getElem? (i := 149) (by decide +kernel)) (by decide +kernel)
theorem ac_int : Cond.arrayClass .int ∈ bg := bg_m1 (List.mem_of_getElem? (i := 97) (by decide +kernel)) (by decide +kernel)
theorem ac_bool : Cond.arrayClass .boolean ∈ bg := bg_m1 (List.mem_of_getElem? (i := 184) (by decide +kernel)) (by decide +kernel)
theorem oi_code : Cond.code Lib.objectInit ⟨#[0xb1]⟩ 1 none ∈ bg := bg_m1 (List.mem_of_getElem? (i := 28) (by decide +kernel)) (by decide +kernel)
theorem oi_inst : Cond.instanceMethod Lib.objectInit ∈ bg := bg_m1 (List.mem_of_getElem? (i := 27) (by decide +kernel)) (by decide +kernel)
theorem oi_A : Cond.methodLink "ShameAngles" 1 Lib.objectInit ∈ bg := bg_m1 (List.mem_of_getElem? (i := 26) (by decide +kernel)) (by decide +kernel)
theorem oi_S : Cond.methodLink "ShameAngles$State" 1 Lib.objectInit ∈ bg := bg_m1 (List.mem_of_getElem? (i := 34) (by decide +kernel)) (by decide +kernel)
theorem oi_H : Cond.methodLink "ShameAngles$Ship" 3 Lib.objectInit ∈ bg := bg_m1 (List.mem_of_getElem? (i := 40) (by decide +kernel)) (by decide +kernel)
theorem oi_R : Cond.methodLink "ShameAngles$Rows" 3 Lib.objectInit ∈ bg := bg_m1 (List.mem_of_getElem? (i := 103) (by decide +kernel)) (by decide +kernel)
theorem oi_P : Cond.methodLink "ShameAngles$Past" 3 Lib.objectInit ∈ bg := bg_m1 (List.mem_of_getElem? (i := 122) (by decide +kernel)) (by decide +kernel)
theorem oi_T : Cond.methodLink "ShameAngles$Script" 3 Lib.objectInit ∈ bg := bg_m1 (List.mem_of_getElem? (i := 163) (by decide +kernel)) (by decide +kernel)
theorem oi_O : Cond.methodLink "ShameAngles$Route" 3 Lib.objectInit ∈ bg := bg_m1 (List.mem_of_getElem? (i := 190) (by decide +kernel)) (by decide +kernel)
theorem oi_W : Cond.methodLink "ShameAngles$Watches" 3 Lib.objectInit ∈ bg := bg_m1 (List.mem_of_getElem? (i := 207) (by decide +kernel)) (by decide +kernel)
theorem oi_G : Cond.methodLink "ShameAngles$Guesses" 3 Lib.objectInit ∈ bg := bg_m1 (List.mem_of_getElem? (i := 227) (by decide +kernel)) (by decide +kernel)
theorem oi_C : Cond.methodLink "ShameAngles$Chance" 1 Lib.objectInit ∈ bg := bg_m1 (List.mem_of_getElem? (i := 237) (by decide +kernel)) (by decide +kernel)
theorem oi_M : Cond.methodLink "ShameAnglesModel" 7 Lib.objectInit ∈ bg := bg_m4 (List.mem_of_getElem? (i := 154) (by decide +kernel)) (by decide +kernel)
theorem sy_nat : Cond.native arraycopyName ∈ bg := bg_m3 (List.mem_of_getElem? (i := 31) (by decide +kernel)) (by decide +kernel)
theorem sy_stat : Cond.static arraycopyName ∈ bg := bg_m3 (List.mem_of_getElem? (i := 30) (by decide +kernel)) (by decide +kernel)
theorem sy_init : Cond.initialized "java/lang/System" ∈ bg := bg_m1 (List.mem_of_getElem? (i := 18) (by decide +kernel)) (by decide +kernel)
theorem sy_H_43 : Cond.methodLink "ShameAngles$Ship" 43 arraycopyName ∈ bg := bg_m3 (List.mem_of_getElem? (i := 29) (by decide +kernel)) (by decide +kernel)
theorem sy_P_19 : Cond.methodLink "ShameAngles$Past" 19 arraycopyName ∈ bg := bg_m3 (List.mem_of_getElem? (i := 50) (by decide +kernel)) (by decide +kernel)
theorem sy_W_48 : Cond.methodLink "ShameAngles$Watches" 48 arraycopyName ∈ bg := bg_m3 (List.mem_of_getElem? (i := 177) (by decide +kernel)) (by decide +kernel)
theorem sy_R_26 : Cond.methodLink "ShameAngles$Rows" 26 arraycopyName ∈ bg := bg_m4 (List.mem_of_getElem? (i := 109) (by decide +kernel)) (by decide +kernel)
end
section
/-! ===== the judgement GC: a method's body over a picture P of the heap; GG: a method's contract ===== -/
/-- context: class numbers and slots; classes of int[], boolean[], State[], Ship[]; the first new address; tables' addresses; strings' addresses -/
abbrev Kx : Type := va_G × (ClassId × ClassId × ClassId × ClassId) × Nat × (Nat → Nat) × (Nat → Nat) × (Nat → Nat)
abbrev MX : Type := Program × Launch × Env × Room × State × MethodId × Array Value × List Frame × Method × Code
def kD (κ : Kx) : va_G := κ.1
def kI (κ : Kx) : ClassId := κ.2.1.1
def kZ (κ : Kx) : ClassId := κ.2.1.2.1
def kS (κ : Kx) : ClassId := κ.2.1.2.2.1
def kH (κ : Kx) : ClassId := κ.2.1.2.2.2
def kb (κ : Kx) : Nat := κ.2.2.1
def kt (κ : Kx) : Nat → Nat := κ.2.2.2.1
def kK (κ : Kx) : Nat → Nat := κ.2.2.2.2.1
def kV (κ : Kx) : Nat → Nat := κ.2.2.2.2.2
def Ab (κ : Kx) : Nat → Prop := fun q => kb κ ≤ q
def tys (κ : Kx) : List (ClassId × FieldType) := [(kI κ, .int), (kZ κ, .boolean), (kS κ, .object RC1), (kH κ, .object RC2)]
def tabv (k : Nat) (j : Nat) : Int := if k = 0 then [0, 0, -3, 0, -9, -4].getD j 0 else [0, 2, 0, 5, 0, 0].getD j 0
def str_len : List Nat := [4, 3, 3, 6, 4, 4]
def str_byt : List (List Int32) := [[115, 104, 105, 112], [102, 111, 103], [109, 97, 110], [114, 101, 97, 100, 101, 114], [100, 101, 101, 100], [110, 111, 111, 110]]
def str_idx (k : Nat) : Nat := [35, 45, 50, 60, 68, 73].getD k 0
def str_txt (k : Nat) : String := ["ship", "fog", "man", "reader", "deed", "noon"].getD k ""
/-- what nobody writes -/
def KT (κ : Kx) (U : State) (H : Heap) : Prop :=
  (va_Z "ShameAngles$Route" "LEAST" "[I" (.ref (kt κ 0)) (Ab κ) U H ∧ va_T .int (kt κ 0) 6 (fun j => .int (Int32.ofInt (tabv 0 j))) (Ab κ) U H) ∧
  (va_Z "ShameAngles$Route" "GREATEST" "[I" (.ref (kt κ 1)) (Ab κ) U H ∧ va_T .int (kt κ 1) 6 (fun j => .int (Int32.ofInt (tabv 1 j))) (Ab κ) U H) ∧
  va_Z "java/lang/String" "COMPACT_STRINGS" "Z" (.int 1) (Ab κ) U H ∧ va_Zq "jdk/internal/util/Preconditions" "SIOOBE_FORMATTER" "Ljava/util/function/BiFunction;" (Ab κ) U H ∧
  vk_S 6 str_len str_byt (kK κ) (kV κ) (Ab κ) U H
def KN (κ : Kx) (U : State) : Prop :=
  (∀ q ∈ nest_w, va_Nw (.methodLinkNest q.1 q.2.1 q.2.2 "ShameAngles") U) ∧ (∀ i : Nat, i < 6 → vk_R "ShameAngles$Script" (str_idx i) (str_txt i) (kK κ i) U) ∧ va_AO RC1 U ∧ va_AO RC2 U
def KS (κ : Kx) (U : State) : Prop := va_K (kD κ) classes (tys κ) U ∧ kb κ ≤ U.heap.size ∧ KT κ U U.heap ∧ KN κ U
theorem KT.moved {κ : Kx} {u U : State} {H : Heap} (hvm : u.vm.Alike U.vm) (h : KT κ u H) : KT κ U H :=
  ⟨⟨va_Z.moved hvm h.1.1, va_T.moved hvm h.1.2⟩, ⟨va_Z.moved hvm h.2.1.1, va_T.moved hvm h.2.1.2⟩, va_Z.moved hvm h.2.2.1, va_Zq.moved hvm h.2.2.2.1, vk_S.moved hvm h.2.2.2.2⟩
theorem KT.kept {κ : Kx} {U : State} {H H1 : Heap} (h : KT κ U H) (hq : ∀ a : Nat, a < H.size → ¬ Ab κ a → H1[a]? = H[a]?) : KT κ U H1 :=
  ⟨⟨va_Z.kept h.1.1 hq, va_T.kept h.1.2 hq⟩, ⟨va_Z.kept h.2.1.1 hq, va_T.kept h.2.1.2 hq⟩, va_Z.kept h.2.2.1 hq, va_Zq.kept h.2.2.2.1 hq, vk_S.kept h.2.2.2.2 hq⟩
theorem KN.warm {κ : Kx} {s U : State} (hW : s.WarmedH U.vm) (h : KN κ s) : KN κ U :=
  ⟨fun q hq => va_Nw.warmM hW (h.1 q hq), fun i hi => vk_R.warm hW (h.2.1 i hi), va_AO.moved hW.alike h.2.2.1, va_AO.moved hW.alike h.2.2.2⟩
theorem KN.same {κ : Kx} {u U : State} (hv : U.vm = u.vm) (h : KN κ u) : KN κ U :=
  ⟨fun q hq => va_Nw.same rfl hv.symm (h.1 q hq), fun i hi => vk_R.same hv (h.2.1 i hi), va_AO.moved (by rw [hv]; exact Vm.Alike.refl _) h.2.2.1, va_AO.moved (by rw [hv]; exact Vm.Alike.refl _) h.2.2.2⟩
theorem KS.same {κ : Kx} {u U : State} (hv : U.vm = u.vm) (hh : U.heap = u.heap) (h : KS κ u) : KS κ U := by
  have ha : u.vm.Alike U.vm := by rw [hv]; exact Vm.Alike.refl _
  refine ⟨va_K.moved ha h.1, by rw [hh]; exact h.2.1, ?_, KN.same hv h.2.2.2⟩
  rw [hh]
  exact KT.moved ha h.2.2.1
theorem KS.warm {κ : Kx} {s U : State} {H : Heap} {locs : List Loc} (h : KS κ s) (hW : s.WarmedH U.vm) (hH : U.heap = H) (hS : va_S (Ab κ) s.heap H locs) : KS κ U := by
  refine ⟨va_K.moved hW.alike h.1, by rw [hH]; exact Nat.le_trans h.2.1 hS.1, ?_, KN.warm hW h.2.2.2⟩
  rw [hH]
  exact KT.kept (KT.moved hW.alike h.2.2.1) hS.2.1
def mP (μ : MX) : Program := μ.1
def mL (μ : MX) : Launch := μ.2.1
def mE (μ : MX) : Env := μ.2.2.1
def mR (μ : MX) : Room := μ.2.2.2.1
def mS (μ : MX) : State := μ.2.2.2.2.1
def mM (μ : MX) : MethodId := μ.2.2.2.2.2.1
def mA (μ : MX) : Array Value := μ.2.2.2.2.2.2.1
def mB (μ : MX) : List Frame := μ.2.2.2.2.2.2.2.1
def mMe (μ : MX) : Method := μ.2.2.2.2.2.2.2.2.1
def mC (μ : MX) : Code := μ.2.2.2.2.2.2.2.2.2
def WX (μ : MX) (H : Heap) (locs : List Loc) (kc ks : Nat) (Z : State → Prop) (g : JFrame) : Prop :=
  W (mP μ) (mL μ) (mE μ) (mR μ) (mS μ) (mM μ) (mA μ) (mB μ) (mMe μ) (mC μ) H locs kc ks Z g
def slo : Slot → Option Value
  | .val v => some v
  | _ => none
def entl (av : List Value) (n : Nat) : List (Option Value) := (lg_sl av ++ List.replicate (n - (lg_sl av).length) Slot.unset).map slo
def lok (la : Array Slot) (ls : List (Option Value)) : Prop := la.size = ls.length ∧ lv_wf la ∧ ∀ (i : Nat) (v : Value), ls[i]? = some (some v) → la[i]? = some (.val v)
theorem lok.entry (av : List Value) {n : Nat} (h : (lg_sl av).length ≤ n) : lok ((lg_sl av ++ List.replicate (n - (lg_sl av).length) Slot.unset).toArray) (entl av n) := by
  have h1 := lv_entry av h
  refine ⟨by simp [entl], h1.2.1, fun i v hi => ?_⟩
  unfold entl at hi
  rw [List.getElem?_map] at hi
  rw [List.getElem?_toArray]
  cases hs : (lg_sl av ++ List.replicate (n - (lg_sl av).length) Slot.unset)[i]? with
  | none => rw [hs] at hi; cases hi
  | some x =>
    rw [hs] at hi
    cases x with
    | val w => cases hi; rfl
    | _ => cases hi
def prs (ls : List (Option Value)) : List (Nat × Value) := (List.range ls.length).filterMap (fun j => (ls.getD j none).map (fun v => (j, v)))
theorem lok.has {la : Array Slot} {ls : List (Option Value)} (h : lok la ls) : lv_has la ls.length (prs ls) := by
  refine ⟨h.1, h.2.1, fun q hq => ?_⟩
  obtain ⟨j, hj, hq⟩ := List.mem_filterMap.mp hq
  have hj' := List.mem_range.mp hj
  rw [List.getD_eq_getElem?_getD, List.getElem?_eq_getElem hj'] at hq
  cases hv : ls[j] with
  | none => rw [hv] at hq; cases hq
  | some v =>
    rw [hv] at hq
    cases hq
    exact h.2.2 j v (by rw [List.getElem?_eq_getElem hj', hv])
theorem prs_mem {ls : List (Option Value)} {i : Nat} {v : Value} (h : ls[i]? = some (some v)) : (i, v) ∈ prs ls := by
  have hi : i < ls.length := (List.getElem?_eq_some_iff.mp h).1
  refine List.mem_filterMap.mpr ⟨i, List.mem_range.mpr hi, ?_⟩
  rw [List.getD_eq_getElem?_getD, h]
  rfl
/-- the value ahead of the place is no long -/
def pc1 (ls : List (Option Value)) (i : Nat) : Bool := match i with
  | 0 => true
  | i + 1 => match ls.getD i none with
    | some v => v.category == 1
    | none => true
theorem pc1_spec {ls : List (Option Value)} {i j : Nat} {v : Value} (h : pc1 ls i = true) (hj : j + 1 = i) (hv : ls[j]? = some (some v)) : v.category ≠ 2 := by
  subst hj
  have h : (match ls.getD j none with | some v => v.category == 1 | none => true) = true := h
  rw [List.getD_eq_getElem?_getD, hv] at h
  intro e
  simp [e] at h
theorem lok.set1 {la : Array Slot} {ls : List (Option Value)} {i : Nat} {v : Value} (hi : i < ls.length) (hp : pc1 ls i = true) (h : lv_has la ls.length ((i, v) :: (prs ls).filter (fun q => !(q.1 == i) && !(q.1 + 1 == i && q.2.category == 2)))) : lok la (ls.set i (some v)) := by
  refine ⟨by rw [h.1, List.length_set], h.2.1, fun j w hj => ?_⟩
  by_cases e : j = i
  · subst e
    rw [List.getElem?_set_self hi] at hj
    cases hj
    exact h.2.2 _ List.mem_cons_self
  · rw [List.getElem?_set_ne (Ne.symm e)] at hj
    refine h.2.2 (j, w) (List.mem_cons_of_mem _ (List.mem_filter.mpr ⟨prs_mem hj, ?_⟩))
    by_cases e2 : j + 1 = i
    · have := pc1_spec hp e2 hj
      simp [e, this]
    · simp [e, e2]
theorem lok.set2 {la : Array Slot} {ls : List (Option Value)} {i : Nat} {v : Value} (hi : i + 1 < ls.length) (hp : pc1 ls i = true) (h : lv_has la ls.length ((i, v) :: (prs ls).filter (fun q => !(q.1 == i) && (!(q.1 == i + 1) && !(q.1 + 1 == i && q.2.category == 2))))) : lok la ((ls.set i (some v)).set (i + 1) none) := by
  refine ⟨by rw [h.1, List.length_set, List.length_set], h.2.1, fun j w hj => ?_⟩
  by_cases e1 : j = i + 1
  · subst e1
    rw [List.getElem?_set_self (by rw [List.length_set]; exact hi)] at hj
    cases hj
  rw [List.getElem?_set_ne (Ne.symm e1)] at hj
  by_cases e : j = i
  · subst e
    rw [List.getElem?_set_self (by omega)] at hj
    cases hj
    exact h.2.2 _ List.mem_cons_self
  · rw [List.getElem?_set_ne (Ne.symm e)] at hj
    refine h.2.2 (j, w) (List.mem_cons_of_mem _ (List.mem_filter.mpr ⟨prs_mem hj, ?_⟩))
    by_cases e2 : j + 1 = i
    · have := pc1_spec hp e2 hj
      simp [e, e1, this]
    · simp [e, e1, e2]
/-- the body's judgement -/
def GC (κ : Kx) (μ : MX) (Z : State → Prop) (kc ks pc : Nat) (ls : List (Option Value)) (st : List Value) (P : Heap → Prop) : Prop :=
  ∀ (H : Heap) (locs : List Loc) (la : Array Slot), va_S (Ab κ) (mS μ).heap H locs → P H → lok la ls → WX μ H locs kc ks Z (F0 (mM μ) pc la st)
def Fx (κ : Kx) (Γ : Gm) (d mc ms : Nat) (μ : MX) : Prop :=
  (mP μ).tables.exec = Jvm.exec ∧ (mC μ).code = Γ.2.1 ∧ (mC μ).maxLocals = Γ.2.2.1 ∧ (mMe μ).sig.returnType = Γ.2.2.2.1 ∧ (mMe μ).locks = false ∧ (mS μ).vm.findClass Γ.1.cls = some (mM μ).cls ∧ (mMe μ).name = Γ.1.name ∧
  (∀ w ∈ bg, w.before (mA μ) (mS μ) = true) ∧ KS κ (mS μ) ∧ d ≤ (mR μ).frames ∧ 64 * d ≤ (mR μ).locals ∧ mc ≤ (mR μ).cells ∧ ms ≤ (mR μ).slots
def QQ (κ : Kx) (Q : Option Value → (Heap → Prop) → Prop) : Array Value → State → Outcome → State → Prop := fun _ st o t =>
  (∃ (r : Option Value) (P' : Heap → Prop), o = .returned r ∧ P' t.heap ∧ Q r P') ∧ va_F (Ab κ) st t
/-- what comes behind a body -/
def ZZ (κ : Kx) (μ : MX) (mc ms : Nat) (Q : Option Value → (Heap → Prop) → Prop) : State → Prop := MQ (mB μ) (QQ κ Q) (mA μ) (mS μ) mc ms (Ab κ)
def GG (κ : Kx) (Γ : Gm) (d mc ms : Nat) (av : List Value) (P : Heap → Prop) (Q : Option Value → (Heap → Prop) → Prop) : Prop :=
  (lg_sl av).length ≤ Γ.2.2.1 ∧ ∀ μ : MX, Fx κ Γ d mc ms μ → GC κ μ (ZZ κ μ mc ms Q) 0 0 0 (entl av Γ.2.2.1) [] P
theorem GG.intro {κ : Kx} {Γ : Gm} {d mc ms : Nat} {av : List Value} {P : Heap → Prop} {Q : Option Value → (Heap → Prop) → Prop} {ls : List (Option Value)} (h1 : (lg_sl av).length ≤ Γ.2.2.1) (h2 : entl av Γ.2.2.1 = ls)
    (k : ∀ μ : MX, Fx κ Γ d mc ms μ → GC κ μ (ZZ κ μ mc ms Q) 0 0 0 ls [] P) : GG κ Γ d mc ms av P Q := ⟨h1, fun μ F => by rw [h2]; exact k μ F⟩
def codeW (Γ : Gm) : Cond := Cond.code Γ.1 Γ.2.1 Γ.2.2.1 Γ.2.2.2.1
theorem GG.met {κ : Kx} {Γ : Gm} {d mc ms : Nat} {av : List Value} {P : Heap → Prop} {Q : Option Value → (Heap → Prop) → Prop} (l : Launch) (hk : MK Γ) (h : GG κ Γ d mc ms av P Q) :
    Met l Γ.1 (codeW Γ :: bg) ({ frames := d, cells := mc, slots := ms, locals := 64 * d }) (va_Pc av (fun U => P U.heap ∧ KS κ U)) (QQ κ Q) mc ms (Ab κ) := by
  refine va_MetF (cc := Γ.2.1) (maxL := Γ.2.2.1) (ret := Γ.2.2.2.1) hk.2.2.1 rfl ?_
  intro p e s m args below meth c s₁ B hml hv
  obtain ⟨rfl, hP, hK⟩ := hv
  have hts := atoms_spec (ws := codeW Γ :: bg) B.pre
  have F : Fx κ Γ d mc ms (p, l, e, { frames := d, cells := mc, slots := ms, locals := 64 * d }, s, m, av.toArray, below, meth, c) := ⟨B.exec, B.bytes, hml, B.returns, B.notSynchronized, findClass_of_methodNamed B.named, (name_of_methodNamed B.named B.method).1, fun w hw => hts w (List.mem_cons_of_mem _ hw), hK, Nat.le_refl d, Nat.le_refl _, Nat.le_refl mc, Nat.le_refl ms⟩
  rw [lg_entry_eq]
  exact h.2 (p, l, e, { frames := d, cells := mc, slots := ms, locals := 64 * d }, s, m, av.toArray, below, meth, c) F s.heap [] _ va_S.rf hP (lok.entry av h.1)
/-- the instruction at a place, its length, the next place -/
def AT (n : Nat) (cc : ByteArray) (pc : Nat) (i : Instr) (nx : Nat) : Prop := decode cc pc = .ok (i, n) ∧ nx = pc + n
def AJ (cc : ByteArray) (pc : Nat) (f : Int → Instr) (tg nx : Nat) : Prop := (∃ o : Int, decode cc pc = .ok (f o, 3) ∧ (pc : Int) + o = (tg : Int)) ∧ nx = pc + 3
abbrev vi (a : Int) : Value := .int (Int32.ofInt a)
abbrev vl (a : Int) : Value := .long (Int64.ofInt a)
section GR
variable {κ : Kx} {Γ : Gm} {d mc ms : Nat} {μ : MX} {Z : State → Prop} {kc ks pc nx tg : Nat} {ls ls' : List (Option Value)} {st : List Value} {P : Heap → Prop} {a b : Int} {x : Nat} {v u : Value}
theorem b2i (x : Int32) : Int32.ofInt x.toInt = x := Int32.ofInt_toInt x
theorem g_iconst (F : Fx κ Γ d mc ms μ) {n : Int} (hd : AT 1 Γ.2.1 pc (.iconst n) nx) (k : GC κ μ Z kc ks nx ls (vi n :: st) P) : GC κ μ Z kc ks pc ls (st) P := by
  obtain ⟨hd, rfl⟩ := hd
  intro H locs la hS hP hl
  exact lv_iconst F.1 F.2.1 hd rfl (k H locs la hS hP hl)
theorem g_bipush (F : Fx κ Γ d mc ms μ) {n : Int} (hd : AT 2 Γ.2.1 pc (.bipush n) nx) (hv : (Int8.ofInt n).toInt32 = Int32.ofInt n) (k : GC κ μ Z kc ks nx ls (vi n :: st) P) : GC κ μ Z kc ks pc ls (st) P := by
  obtain ⟨hd, rfl⟩ := hd
  intro H locs la hS hP hl
  exact lv_bipush F.1 F.2.1 hd hv (k H locs la hS hP hl)
theorem g_sipush (F : Fx κ Γ d mc ms μ) {n : Int} (hd : AT 3 Γ.2.1 pc (.sipush n) nx) (hv : (Int16.ofInt n).toInt32 = Int32.ofInt n) (k : GC κ μ Z kc ks nx ls (vi n :: st) P) : GC κ μ Z kc ks pc ls (st) P := by
  obtain ⟨hd, rfl⟩ := hd
  intro H locs la hS hP hl
  exact lv_sipush F.1 F.2.1 hd hv (k H locs la hS hP hl)
theorem g_lconst0 (F : Fx κ Γ d mc ms μ) (hd : AT 1 Γ.2.1 pc (.lconst 0) nx) (k : GC κ μ Z kc ks nx ls (vl 0 :: st) P) : GC κ μ Z kc ks pc ls (st) P := by
  obtain ⟨hd, rfl⟩ := hd
  intro H locs la hS hP hl
  exact lv_lconst F.1 F.2.1 hd rfl (k H locs la hS hP hl)
theorem g_lconst1 (F : Fx κ Γ d mc ms μ) (hd : AT 1 Γ.2.1 pc (.lconst 1) nx) (k : GC κ μ Z kc ks nx ls (vl 1 :: st) P) : GC κ μ Z kc ks pc ls (st) P := by
  obtain ⟨hd, rfl⟩ := hd
  intro H locs la hS hP hl
  exact lv_lconst F.1 F.2.1 hd rfl (k H locs la hS hP hl)
theorem g_ldc (F : Fx κ Γ d mc ms μ) {idx : Nat} (hd : AT 2 Γ.2.1 pc (.ldc idx) nx) (hc : Cond.constant Γ.1.cls idx (Int32.ofInt a) ∈ bg) (k : GC κ μ Z kc ks nx ls (vi a :: st) P) : GC κ μ Z kc ks pc ls (st) P := by
  obtain ⟨hd, rfl⟩ := hd
  intro H locs la hS hP hl
  exact lv_ldc F.1 F.2.1 F.2.2.2.2.2.1 (F.2.2.2.2.2.2.2.1 _ hc) hd (k H locs la hS hP hl)
theorem g_ldcw (F : Fx κ Γ d mc ms μ) {idx : Nat} (hd : AT 3 Γ.2.1 pc (.ldc_w idx) nx) (hc : Cond.constant Γ.1.cls idx (Int32.ofInt a) ∈ bg) (k : GC κ μ Z kc ks nx ls (vi a :: st) P) : GC κ μ Z kc ks pc ls (st) P := by
  obtain ⟨hd, rfl⟩ := hd
  intro H locs la hS hP hl
  exact lv_ldcw F.1 F.2.1 F.2.2.2.2.2.1 (F.2.2.2.2.2.2.2.1 _ hc) hd (k H locs la hS hP hl)
theorem g_ldc2 (F : Fx κ Γ d mc ms μ) {idx : Nat} (hd : AT 3 Γ.2.1 pc (.ldc2_w idx) nx) (hc : Cond.constantLong Γ.1.cls idx (Int64.ofInt a) ∈ bg) (k : GC κ μ Z kc ks nx ls (vl a :: st) P) : GC κ μ Z kc ks pc ls (st) P := by
  obtain ⟨hd, rfl⟩ := hd
  intro H locs la hS hP hl
  exact lv_ldc2 F.1 F.2.1 F.2.2.2.2.2.1 (F.2.2.2.2.2.2.2.1 _ hc) hd (k H locs la hS hP hl)
theorem g_iload_n (F : Fx κ Γ d mc ms μ) {n : Fin 4} {z : Int32} (hd : AT 1 Γ.2.1 pc (.iload_n n) nx) (hl0 : ls[(n : Nat)]? = some (some (.int z))) (k : GC κ μ Z kc ks nx ls (.int z :: st) P) : GC κ μ Z kc ks pc ls (st) P := by
  obtain ⟨hd, rfl⟩ := hd
  intro H locs la hS hP hl
  exact lv_iload_n F.1 F.2.1 hd rfl (hl.2.2 _ _ hl0) (k H locs la hS hP hl)
theorem g_iload (F : Fx κ Γ d mc ms μ) {i : Nat} {z : Int32} (hd : AT 2 Γ.2.1 pc (.iload i) nx) (hl0 : ls[i]? = some (some (.int z))) (k : GC κ μ Z kc ks nx ls (.int z :: st) P) : GC κ μ Z kc ks pc ls (st) P := by
  obtain ⟨hd, rfl⟩ := hd
  intro H locs la hS hP hl
  exact lv_iload F.1 F.2.1 hd (hl.2.2 _ _ hl0) (k H locs la hS hP hl)
theorem g_lload_n (F : Fx κ Γ d mc ms μ) {n : Fin 4} {z : Int64} (hd : AT 1 Γ.2.1 pc (.lload_n n) nx) (hl0 : ls[(n : Nat)]? = some (some (.long z))) (k : GC κ μ Z kc ks nx ls (.long z :: st) P) : GC κ μ Z kc ks pc ls (st) P := by
  obtain ⟨hd, rfl⟩ := hd
  intro H locs la hS hP hl
  exact lv_lload_n F.1 F.2.1 hd rfl (hl.2.2 _ _ hl0) (k H locs la hS hP hl)
theorem g_lload (F : Fx κ Γ d mc ms μ) {i : Nat} {z : Int64} (hd : AT 2 Γ.2.1 pc (.lload i) nx) (hl0 : ls[i]? = some (some (.long z))) (k : GC κ μ Z kc ks nx ls (.long z :: st) P) : GC κ μ Z kc ks pc ls (st) P := by
  obtain ⟨hd, rfl⟩ := hd
  intro H locs la hS hP hl
  exact lv_lload F.1 F.2.1 hd (hl.2.2 _ _ hl0) (k H locs la hS hP hl)
theorem g_aload_n (F : Fx κ Γ d mc ms μ) {n : Fin 4} {z : Nat} (hd : AT 1 Γ.2.1 pc (.aload_n n) nx) (hl0 : ls[(n : Nat)]? = some (some (.ref z))) (k : GC κ μ Z kc ks nx ls (.ref z :: st) P) : GC κ μ Z kc ks pc ls (st) P := by
  obtain ⟨hd, rfl⟩ := hd
  intro H locs la hS hP hl
  exact lv_aload_n F.1 F.2.1 hd rfl (hl.2.2 _ _ hl0) (k H locs la hS hP hl)
theorem g_aload (F : Fx κ Γ d mc ms μ) {i : Nat} {z : Nat} (hd : AT 2 Γ.2.1 pc (.aload i) nx) (hl0 : ls[i]? = some (some (.ref z))) (k : GC κ μ Z kc ks nx ls (.ref z :: st) P) : GC κ μ Z kc ks pc ls (st) P := by
  obtain ⟨hd, rfl⟩ := hd
  intro H locs la hS hP hl
  exact lv_aload F.1 F.2.1 hd (hl.2.2 _ _ hl0) (k H locs la hS hP hl)
theorem g_istore_n (F : Fx κ Γ d mc ms μ) {n : Fin 4} {z : Int32} (hd : AT 1 Γ.2.1 pc (.istore_n n) nx) (hi : Nat.ble ((n : Nat) + 1) ls.length = true) (hp : pc1 ls n = true) (hs : ls.set n (some (.int z)) = ls') (k : GC κ μ Z kc ks nx ls' st P) : GC κ μ Z kc ks pc ls (.int z :: st) P := by
  obtain ⟨hd, rfl⟩ := hd
  intro H locs la hS hP hl
  exact lv_istore_n F.1 F.2.1 hd rfl hl.has (Nat.le_of_ble_eq_true hi) rfl (fun la' h' => k H locs la' hS hP (hs ▸ lok.set1 (Nat.le_of_ble_eq_true hi) hp h'))
theorem g_istore (F : Fx κ Γ d mc ms μ) {i : Nat} {z : Int32} (hd : AT 2 Γ.2.1 pc (.istore i) nx) (hi : Nat.ble (i + 1) ls.length = true) (hp : pc1 ls i = true) (hs : ls.set i (some (.int z)) = ls') (k : GC κ μ Z kc ks nx ls' st P) : GC κ μ Z kc ks pc ls (.int z :: st) P := by
  obtain ⟨hd, rfl⟩ := hd
  intro H locs la hS hP hl
  exact lv_istore F.1 F.2.1 hd hl.has (Nat.le_of_ble_eq_true hi) rfl (fun la' h' => k H locs la' hS hP (hs ▸ lok.set1 (Nat.le_of_ble_eq_true hi) hp h'))
theorem g_astore_n (F : Fx κ Γ d mc ms μ) {n : Fin 4} {z : Nat} (hd : AT 1 Γ.2.1 pc (.astore_n n) nx) (hi : Nat.ble ((n : Nat) + 1) ls.length = true) (hp : pc1 ls n = true) (hs : ls.set n (some (.ref z)) = ls') (k : GC κ μ Z kc ks nx ls' st P) : GC κ μ Z kc ks pc ls (.ref z :: st) P := by
  obtain ⟨hd, rfl⟩ := hd
  intro H locs la hS hP hl
  exact lv_astore_n F.1 F.2.1 hd rfl hl.has (Nat.le_of_ble_eq_true hi) rfl (fun la' h' => k H locs la' hS hP (hs ▸ lok.set1 (Nat.le_of_ble_eq_true hi) hp h'))
theorem g_astore (F : Fx κ Γ d mc ms μ) {i : Nat} {z : Nat} (hd : AT 2 Γ.2.1 pc (.astore i) nx) (hi : Nat.ble (i + 1) ls.length = true) (hp : pc1 ls i = true) (hs : ls.set i (some (.ref z)) = ls') (k : GC κ μ Z kc ks nx ls' st P) : GC κ μ Z kc ks pc ls (.ref z :: st) P := by
  obtain ⟨hd, rfl⟩ := hd
  intro H locs la hS hP hl
  exact lv_astore F.1 F.2.1 hd hl.has (Nat.le_of_ble_eq_true hi) rfl (fun la' h' => k H locs la' hS hP (hs ▸ lok.set1 (Nat.le_of_ble_eq_true hi) hp h'))
theorem g_lstore_n (F : Fx κ Γ d mc ms μ) {n : Fin 4} {z : Int64} (hd : AT 1 Γ.2.1 pc (.lstore_n n) nx) (hi : Nat.ble ((n : Nat) + 2) ls.length = true) (hp : pc1 ls n = true) (hs : (ls.set n (some (.long z))).set (n + 1) none = ls') (k : GC κ μ Z kc ks nx ls' st P) : GC κ μ Z kc ks pc ls (.long z :: st) P := by
  obtain ⟨hd, rfl⟩ := hd
  intro H locs la hS hP hl
  exact lv_lstore_n F.1 F.2.1 hd rfl hl.has (Nat.le_of_ble_eq_true hi) rfl (fun la' h' => k H locs la' hS hP (hs ▸ lok.set2 (Nat.le_of_ble_eq_true hi) hp h'))
theorem g_lstore (F : Fx κ Γ d mc ms μ) {i : Nat} {z : Int64} (hd : AT 2 Γ.2.1 pc (.lstore i) nx) (hi : Nat.ble (i + 2) ls.length = true) (hp : pc1 ls i = true) (hs : (ls.set i (some (.long z))).set (i + 1) none = ls') (k : GC κ μ Z kc ks nx ls' st P) : GC κ μ Z kc ks pc ls (.long z :: st) P := by
  obtain ⟨hd, rfl⟩ := hd
  intro H locs la hS hP hl
  exact lv_lstore F.1 F.2.1 hd hl.has (Nat.le_of_ble_eq_true hi) rfl (fun la' h' => k H locs la' hS hP (hs ▸ lok.set2 (Nat.le_of_ble_eq_true hi) hp h'))
theorem g_iinc (F : Fx κ Γ d mc ms μ) {i : Nat} {n : Int} (hd : AT 3 Γ.2.1 pc (.iinc i n) nx) (hl0 : ls[i]? = some (some (vi a))) (hp : pc1 ls i = true) (hs : ls.set i (some (vi (a + n))) = ls') (k : GC κ μ Z kc ks nx ls' st P) : GC κ μ Z kc ks pc ls st P := by
  obtain ⟨hd, rfl⟩ := hd
  intro H locs la hS hP hl
  have hi : i < ls.length := (List.getElem?_eq_some_iff.mp hl0).1
  obtain ⟨j, hj⟩ := List.getElem?_of_mem (prs_mem hl0)
  exact lv_iinc (v := Int32.ofInt (a + n)) F.1 F.2.1 hd hl.has (k := j) hj (by rw [Int32.ofInt_add]) hi rfl (fun la' h' => k H locs la' hS hP (hs ▸ lok.set1 hi hp h'))
theorem g_iadd (F : Fx κ Γ d mc ms μ) (hd : AT 1 Γ.2.1 pc .iadd nx) (k : GC κ μ Z kc ks nx ls (vi (a + b) :: st) P) : GC κ μ Z kc ks pc ls (vi b :: vi a :: st) P := by
  obtain ⟨hd, rfl⟩ := hd
  intro H locs la hS hP hl
  refine lv_iadd F.1 F.2.1 hd ?_
  rw [← Int32.ofInt_add]
  exact k H locs la hS hP hl
theorem g_isub (F : Fx κ Γ d mc ms μ) (hd : AT 1 Γ.2.1 pc .isub nx) (k : GC κ μ Z kc ks nx ls (vi (a - b) :: st) P) : GC κ μ Z kc ks pc ls (vi b :: vi a :: st) P := by
  obtain ⟨hd, rfl⟩ := hd
  intro H locs la hS hP hl
  refine lv_isub F.1 F.2.1 hd ?_
  rw [← Int32.ofInt_sub]
  exact k H locs la hS hP hl
theorem g_imul (F : Fx κ Γ d mc ms μ) (hd : AT 1 Γ.2.1 pc .imul nx) (k : GC κ μ Z kc ks nx ls (vi (a * b) :: st) P) : GC κ μ Z kc ks pc ls (vi b :: vi a :: st) P := by
  obtain ⟨hd, rfl⟩ := hd
  intro H locs la hS hP hl
  refine lv_imul F.1 F.2.1 hd ?_
  rw [← Int32.ofInt_mul]
  exact k H locs la hS hP hl
theorem g_ladd (F : Fx κ Γ d mc ms μ) (hd : AT 1 Γ.2.1 pc .ladd nx) (k : GC κ μ Z kc ks nx ls (vl (a + b) :: st) P) : GC κ μ Z kc ks pc ls (vl b :: vl a :: st) P := by
  obtain ⟨hd, rfl⟩ := hd
  intro H locs la hS hP hl
  refine lv_ladd F.1 F.2.1 hd ?_
  rw [← Int64.ofInt_add]
  exact k H locs la hS hP hl
theorem g_lsub (F : Fx κ Γ d mc ms μ) (hd : AT 1 Γ.2.1 pc .lsub nx) (k : GC κ μ Z kc ks nx ls (vl (a - b) :: st) P) : GC κ μ Z kc ks pc ls (vl b :: vl a :: st) P := by
  obtain ⟨hd, rfl⟩ := hd
  intro H locs la hS hP hl
  refine lv_lsub F.1 F.2.1 hd ?_
  rw [← Int64.ofInt_sub]
  exact k H locs la hS hP hl
theorem g_lmul (F : Fx κ Γ d mc ms μ) (hd : AT 1 Γ.2.1 pc .lmul nx) (k : GC κ μ Z kc ks nx ls (vl (a * b) :: st) P) : GC κ μ Z kc ks pc ls (vl b :: vl a :: st) P := by
  obtain ⟨hd, rfl⟩ := hd
  intro H locs la hS hP hl
  refine lv_lmul F.1 F.2.1 hd ?_
  rw [← Int64.ofInt_mul]
  exact k H locs la hS hP hl
theorem g_ineg (F : Fx κ Γ d mc ms μ) (hd : AT 1 Γ.2.1 pc .ineg nx) (k : GC κ μ Z kc ks nx ls (vi (-a) :: st) P) : GC κ μ Z kc ks pc ls (vi a :: st) P := by
  obtain ⟨hd, rfl⟩ := hd
  intro H locs la hS hP hl
  refine lv_ineg F.1 F.2.1 hd ?_
  rw [← Int32.ofInt_neg]
  exact k H locs la hS hP hl
theorem i2r {a : Int} (h : -2147483648 ≤ a ∧ a ≤ 2147483647) : (Int32.ofInt a).toInt = a := Int32.toInt_ofInt_of_le (by omega) (by omega)
theorem l2r {a : Int} (h : -9223372036854775808 ≤ a ∧ a ≤ 9223372036854775807) : (Int64.ofInt a).toInt = a := Int64.toInt_ofInt_of_le (by omega) (by omega)
theorem i_ne0 {b : Int} (h : -2147483648 ≤ b ∧ b ≤ 2147483647) (h0 : b ≠ 0) : ¬ Int32.ofInt b = 0 := by
  intro e
  have := congrArg Int32.toInt e
  rw [i2r h] at this
  exact h0 (by simpa using this)
theorem l_ne0 {b : Int} (h : -9223372036854775808 ≤ b ∧ b ≤ 9223372036854775807) (h0 : b ≠ 0) : ¬ Int64.ofInt b = 0 := by
  intro e
  have := congrArg Int64.toInt e
  rw [l2r h] at this
  exact h0 (by simpa using this)
theorem i_div {a b : Int} (ha : 0 ≤ a ∧ a ≤ 2147483647) (hb : 0 < b ∧ b ≤ 2147483647) : Int32.ofInt a / Int32.ofInt b = Int32.ofInt (a / b) := by
  rw [← Int32.ofInt_tdiv (by show (-2147483648 : Int) ≤ a; omega) (by show a ≤ (2147483647 : Int); omega) (by show (-2147483648 : Int) ≤ b; omega) (by show b ≤ (2147483647 : Int); omega), Int.tdiv_eq_ediv_of_nonneg ha.1]
theorem l_div {a b : Int} (ha : 0 ≤ a ∧ a ≤ 9223372036854775807) (hb : 0 < b ∧ b ≤ 9223372036854775807) : Int64.ofInt a / Int64.ofInt b = Int64.ofInt (a / b) := by
  rw [← Int64.ofInt_tdiv (by show (-9223372036854775808 : Int) ≤ a; omega) (by show a ≤ (9223372036854775807 : Int); omega) (by show (-9223372036854775808 : Int) ≤ b; omega) (by show b ≤ (9223372036854775807 : Int); omega), Int.tdiv_eq_ediv_of_nonneg ha.1]
theorem i_rem {a b : Int} (ha : -2147483648 ≤ a ∧ a ≤ 2147483647) (hb : 0 < b ∧ b ≤ 2147483647) : Int32.ofInt a - Int32.ofInt a / Int32.ofInt b * Int32.ofInt b = Int32.ofInt (a.tmod b) := by
  rw [← Int32.ofInt_tdiv (by show (-2147483648 : Int) ≤ a; omega) (by show a ≤ (2147483647 : Int); omega) (by show (-2147483648 : Int) ≤ b; omega) (by show b ≤ (2147483647 : Int); omega), ← Int32.ofInt_mul, ← Int32.ofInt_sub]
  congr 1
  have := Int.tmod_add_tdiv_mul a b
  omega
theorem l_rem {a b : Int} (ha : 0 ≤ a ∧ a ≤ 9223372036854775807) (hb : 0 < b ∧ b ≤ 9223372036854775807) : Int64.ofInt a - Int64.ofInt a / Int64.ofInt b * Int64.ofInt b = Int64.ofInt (a % b) := by
  rw [l_div ha hb, ← Int64.ofInt_mul, ← Int64.ofInt_sub]
  congr 1
  have := Int.emod_def a b
  rw [Int.mul_comm] at this
  omega
theorem g_idiv (F : Fx κ Γ d mc ms μ) (ha : 0 ≤ a ∧ a ≤ 2147483647) (hb : 0 < b ∧ b ≤ 2147483647) (hd : AT 1 Γ.2.1 pc .idiv nx) (k : GC κ μ Z kc ks nx ls (vi (a / b) :: st) P) : GC κ μ Z kc ks pc ls (vi b :: vi a :: st) P := by
  obtain ⟨hd, rfl⟩ := hd
  intro H locs la hS hP hl
  refine lv_idiv F.1 F.2.1 hd (i_ne0 (by omega) (by omega)) ?_
  rw [i_div ha hb]
  exact k H locs la hS hP hl
theorem g_irem (F : Fx κ Γ d mc ms μ) (ha : 0 ≤ a ∧ a ≤ 2147483647) (hb : 0 < b ∧ b ≤ 2147483647) (hd : AT 1 Γ.2.1 pc .irem nx) (k : GC κ μ Z kc ks nx ls (vi (a % b) :: st) P) : GC κ μ Z kc ks pc ls (vi b :: vi a :: st) P := by
  obtain ⟨hd, rfl⟩ := hd
  intro H locs la hS hP hl
  refine lv_irem F.1 F.2.1 hd (i_ne0 (by omega) (by omega)) ?_
  rw [i_rem (by omega) hb, Int.tmod_eq_emod_of_nonneg ha.1]
  exact k H locs la hS hP hl
theorem g_iremS (F : Fx κ Γ d mc ms μ) (ha : -2147483648 ≤ a ∧ a ≤ 2147483647) (hb : 0 < b ∧ b ≤ 2147483647) (hd : AT 1 Γ.2.1 pc .irem nx) (k : GC κ μ Z kc ks nx ls (vi (a.tmod b) :: st) P) : GC κ μ Z kc ks pc ls (vi b :: vi a :: st) P := by
  obtain ⟨hd, rfl⟩ := hd
  intro H locs la hS hP hl
  refine lv_irem F.1 F.2.1 hd (i_ne0 (by omega) (by omega)) ?_
  rw [i_rem ha hb]
  exact k H locs la hS hP hl
theorem g_ldiv (F : Fx κ Γ d mc ms μ) (ha : 0 ≤ a ∧ a ≤ 9223372036854775807) (hb : 0 < b ∧ b ≤ 9223372036854775807) (hd : AT 1 Γ.2.1 pc .ldiv nx) (k : GC κ μ Z kc ks nx ls (vl (a / b) :: st) P) : GC κ μ Z kc ks pc ls (vl b :: vl a :: st) P := by
  obtain ⟨hd, rfl⟩ := hd
  intro H locs la hS hP hl
  refine lv_ldiv F.1 F.2.1 hd (l_ne0 (by omega) (by omega)) ?_
  rw [l_div ha hb]
  exact k H locs la hS hP hl
theorem g_lrem (F : Fx κ Γ d mc ms μ) (ha : 0 ≤ a ∧ a ≤ 9223372036854775807) (hb : 0 < b ∧ b ≤ 9223372036854775807) (hd : AT 1 Γ.2.1 pc .lrem nx) (k : GC κ μ Z kc ks nx ls (vl (a % b) :: st) P) : GC κ μ Z kc ks pc ls (vl b :: vl a :: st) P := by
  obtain ⟨hd, rfl⟩ := hd
  intro H locs la hS hP hl
  refine lv_lrem F.1 F.2.1 hd (l_ne0 (by omega) (by omega)) ?_
  rw [l_rem ha hb]
  exact k H locs la hS hP hl
def bAnd (a b : Int) : Int := (Int32.ofInt a &&& Int32.ofInt b).toInt
def bOr (a b : Int) : Int := (Int32.ofInt a ||| Int32.ofInt b).toInt
def bXor (a b : Int) : Int := (Int32.ofInt a ^^^ Int32.ofInt b).toInt
def bShl (a b : Int) : Int := (Int32.ofInt a <<< (Int32.ofInt b &&& 31)).toInt
def bShr (a b : Int) : Int := (Int32.ofInt a >>> (Int32.ofInt b &&& 31)).toInt
def bUsh (a b : Int) : Int := (((Int32.ofInt a).toUInt32 >>> ((Int32.ofInt b).toUInt32 &&& Int32.toUInt32 31)).toInt32).toInt
theorem g_iand (F : Fx κ Γ d mc ms μ) (hd : AT 1 Γ.2.1 pc .iand nx) (k : GC κ μ Z kc ks nx ls (vi (bAnd a b) :: st) P) : GC κ μ Z kc ks pc ls (vi b :: vi a :: st) P := by
  obtain ⟨hd, rfl⟩ := hd
  intro H locs la hS hP hl
  refine lv_iand F.1 F.2.1 hd ?_
  have h := k H locs la hS hP hl
  unfold bAnd at h
  rw [vi, b2i] at h
  exact h
theorem g_ior (F : Fx κ Γ d mc ms μ) (hd : AT 1 Γ.2.1 pc .ior nx) (k : GC κ μ Z kc ks nx ls (vi (bOr a b) :: st) P) : GC κ μ Z kc ks pc ls (vi b :: vi a :: st) P := by
  obtain ⟨hd, rfl⟩ := hd
  intro H locs la hS hP hl
  refine lv_ior F.1 F.2.1 hd ?_
  have h := k H locs la hS hP hl
  unfold bOr at h
  rw [vi, b2i] at h
  exact h
theorem g_ixor (F : Fx κ Γ d mc ms μ) (hd : AT 1 Γ.2.1 pc .ixor nx) (k : GC κ μ Z kc ks nx ls (vi (bXor a b) :: st) P) : GC κ μ Z kc ks pc ls (vi b :: vi a :: st) P := by
  obtain ⟨hd, rfl⟩ := hd
  intro H locs la hS hP hl
  refine lv_ixor F.1 F.2.1 hd ?_
  have h := k H locs la hS hP hl
  unfold bXor at h
  rw [vi, b2i] at h
  exact h
theorem g_ishl (F : Fx κ Γ d mc ms μ) (hd : AT 1 Γ.2.1 pc .ishl nx) (k : GC κ μ Z kc ks nx ls (vi (bShl a b) :: st) P) : GC κ μ Z kc ks pc ls (vi b :: vi a :: st) P := by
  obtain ⟨hd, rfl⟩ := hd
  intro H locs la hS hP hl
  refine lv_ishl F.1 F.2.1 hd ?_
  have h := k H locs la hS hP hl
  unfold bShl at h
  rw [vi, b2i] at h
  exact h
theorem g_ishr (F : Fx κ Γ d mc ms μ) (hd : AT 1 Γ.2.1 pc .ishr nx) (k : GC κ μ Z kc ks nx ls (vi (bShr a b) :: st) P) : GC κ μ Z kc ks pc ls (vi b :: vi a :: st) P := by
  obtain ⟨hd, rfl⟩ := hd
  intro H locs la hS hP hl
  refine lv_ishr F.1 F.2.1 hd ?_
  have h := k H locs la hS hP hl
  unfold bShr at h
  rw [vi, b2i] at h
  exact h
theorem g_iushr (F : Fx κ Γ d mc ms μ) (hd : AT 1 Γ.2.1 pc .iushr nx) (k : GC κ μ Z kc ks nx ls (vi (bUsh a b) :: st) P) : GC κ μ Z kc ks pc ls (vi b :: vi a :: st) P := by
  obtain ⟨hd, rfl⟩ := hd
  intro H locs la hS hP hl
  exact lv_iushr F.1 F.2.1 hd (v := Int32.ofInt (bUsh a b)) (by unfold bUsh; rw [b2i]) (k H locs la hS hP hl)
theorem g_i2l (F : Fx κ Γ d mc ms μ) (ha : -2147483648 ≤ a ∧ a ≤ 2147483647) (hd : AT 1 Γ.2.1 pc .i2l nx) (k : GC κ μ Z kc ks nx ls (vl a :: st) P) : GC κ μ Z kc ks pc ls (vi a :: st) P := by
  obtain ⟨hd, rfl⟩ := hd
  intro H locs la hS hP hl
  exact lv_i2l F.1 F.2.1 hd (v := Int64.ofInt a) (by apply Int64.toInt_inj.mp; rw [Int32.toInt_toInt64, i2r ha, l2r (by omega)]) (k H locs la hS hP hl)
theorem g_l2i (F : Fx κ Γ d mc ms μ) (hd : AT 1 Γ.2.1 pc .l2i nx) (k : GC κ μ Z kc ks nx ls (vi a :: st) P) : GC κ μ Z kc ks pc ls (vl a :: st) P := by
  obtain ⟨hd, rfl⟩ := hd
  intro H locs la hS hP hl
  exact lv_l2i F.1 F.2.1 hd (v := Int32.ofInt a) Int64.toInt32_ofInt (k H locs la hS hP hl)
theorem i_eq {a b : Int} (ha : -2147483648 ≤ a ∧ a ≤ 2147483647) (hb : -2147483648 ≤ b ∧ b ≤ 2147483647) : Int32.ofInt a = Int32.ofInt b ↔ a = b := by
  rw [← Int32.toInt_inj, i2r ha, i2r hb]
theorem i_lt {a b : Int} (ha : -2147483648 ≤ a ∧ a ≤ 2147483647) (hb : -2147483648 ≤ b ∧ b ≤ 2147483647) : Int32.ofInt a < Int32.ofInt b ↔ a < b := by
  rw [Int32.lt_iff_toInt_lt, i2r ha, i2r hb]
theorem i_le {a b : Int} (ha : -2147483648 ≤ a ∧ a ≤ 2147483647) (hb : -2147483648 ≤ b ∧ b ≤ 2147483647) : Int32.ofInt a ≤ Int32.ofInt b ↔ a ≤ b := by
  rw [Int32.le_iff_toInt_le, i2r ha, i2r hb]
theorem i_zero : (0 : Int32) = Int32.ofInt 0 := rfl
theorem r_zero : -2147483648 ≤ (0 : Int) ∧ (0 : Int) ≤ 2147483647 := by omega
theorem g_icmp_eq (F : Fx κ Γ d mc ms μ) (ha : -2147483648 ≤ a ∧ a ≤ 2147483647) (hb : -2147483648 ≤ b ∧ b ≤ 2147483647) (hd : AJ Γ.2.1 pc (.if_icmp .eq) tg nx) (kt : a = b → GC κ μ Z kc ks tg ls st P) (kf : a ≠ b → GC κ μ Z kc ks nx ls st P) : GC κ μ Z kc ks pc ls (vi b :: vi a :: st) P := by
  obtain ⟨⟨o, hd, ho⟩, rfl⟩ := hd
  intro H locs la hS hP hl
  exact lv_icmp_eq F.1 F.2.1 hd ho (fun h => kt ((i_eq ha hb).mp h) H locs la hS hP hl) (fun h => kf (fun e => h ((i_eq ha hb).mpr e)) H locs la hS hP hl)
theorem g_icmp_ne (F : Fx κ Γ d mc ms μ) (ha : -2147483648 ≤ a ∧ a ≤ 2147483647) (hb : -2147483648 ≤ b ∧ b ≤ 2147483647) (hd : AJ Γ.2.1 pc (.if_icmp .ne) tg nx) (kt : a ≠ b → GC κ μ Z kc ks tg ls st P) (kf : a = b → GC κ μ Z kc ks nx ls st P) : GC κ μ Z kc ks pc ls (vi b :: vi a :: st) P := by
  obtain ⟨⟨o, hd, ho⟩, rfl⟩ := hd
  intro H locs la hS hP hl
  exact lv_icmp_ne F.1 F.2.1 hd ho (fun h => kt (fun e => h ((i_eq ha hb).mpr e)) H locs la hS hP hl) (fun h => kf ((i_eq ha hb).mp h) H locs la hS hP hl)
theorem g_icmp_lt (F : Fx κ Γ d mc ms μ) (ha : -2147483648 ≤ a ∧ a ≤ 2147483647) (hb : -2147483648 ≤ b ∧ b ≤ 2147483647) (hd : AJ Γ.2.1 pc (.if_icmp .lt) tg nx) (kt : a < b → GC κ μ Z kc ks tg ls st P) (kf : b ≤ a → GC κ μ Z kc ks nx ls st P) : GC κ μ Z kc ks pc ls (vi b :: vi a :: st) P := by
  obtain ⟨⟨o, hd, ho⟩, rfl⟩ := hd
  intro H locs la hS hP hl
  exact lv_icmp_lt F.1 F.2.1 hd ho (fun h => kt ((i_lt ha hb).mp h) H locs la hS hP hl) (fun h => kf (Int.not_lt.mp (fun e => h ((i_lt ha hb).mpr e))) H locs la hS hP hl)
theorem g_icmp_ge (F : Fx κ Γ d mc ms μ) (ha : -2147483648 ≤ a ∧ a ≤ 2147483647) (hb : -2147483648 ≤ b ∧ b ≤ 2147483647) (hd : AJ Γ.2.1 pc (.if_icmp .ge) tg nx) (kt : b ≤ a → GC κ μ Z kc ks tg ls st P) (kf : a < b → GC κ μ Z kc ks nx ls st P) : GC κ μ Z kc ks pc ls (vi b :: vi a :: st) P := by
  obtain ⟨⟨o, hd, ho⟩, rfl⟩ := hd
  intro H locs la hS hP hl
  exact lv_icmp_ge F.1 F.2.1 hd ho (fun h => kt ((i_le hb ha).mp h) H locs la hS hP hl) (fun h => kf (Int.not_le.mp (fun e => h ((i_le hb ha).mpr e))) H locs la hS hP hl)
theorem g_icmp_gt (F : Fx κ Γ d mc ms μ) (ha : -2147483648 ≤ a ∧ a ≤ 2147483647) (hb : -2147483648 ≤ b ∧ b ≤ 2147483647) (hd : AJ Γ.2.1 pc (.if_icmp .gt) tg nx) (kt : b < a → GC κ μ Z kc ks tg ls st P) (kf : a ≤ b → GC κ μ Z kc ks nx ls st P) : GC κ μ Z kc ks pc ls (vi b :: vi a :: st) P := by
  obtain ⟨⟨o, hd, ho⟩, rfl⟩ := hd
  intro H locs la hS hP hl
  exact lv_icmp_gt F.1 F.2.1 hd ho (fun h => kt ((i_lt hb ha).mp h) H locs la hS hP hl) (fun h => kf (Int.not_lt.mp (fun e => h ((i_lt hb ha).mpr e))) H locs la hS hP hl)
theorem g_icmp_le (F : Fx κ Γ d mc ms μ) (ha : -2147483648 ≤ a ∧ a ≤ 2147483647) (hb : -2147483648 ≤ b ∧ b ≤ 2147483647) (hd : AJ Γ.2.1 pc (.if_icmp .le) tg nx) (kt : a ≤ b → GC κ μ Z kc ks tg ls st P) (kf : b < a → GC κ μ Z kc ks nx ls st P) : GC κ μ Z kc ks pc ls (vi b :: vi a :: st) P := by
  obtain ⟨⟨o, hd, ho⟩, rfl⟩ := hd
  intro H locs la hS hP hl
  exact lv_icmp_le F.1 F.2.1 hd ho (fun h => kt ((i_le ha hb).mp h) H locs la hS hP hl) (fun h => kf (Int.not_le.mp (fun e => h ((i_le ha hb).mpr e))) H locs la hS hP hl)
theorem g_if_eq (F : Fx κ Γ d mc ms μ) (ha : -2147483648 ≤ a ∧ a ≤ 2147483647) (hd : AJ Γ.2.1 pc (.ifCond .eq) tg nx) (kt : a = 0 → GC κ μ Z kc ks tg ls st P) (kf : a ≠ 0 → GC κ μ Z kc ks nx ls st P) : GC κ μ Z kc ks pc ls (vi a :: st) P := by
  obtain ⟨⟨o, hd, ho⟩, rfl⟩ := hd
  intro H locs la hS hP hl
  exact lv_if_eq F.1 F.2.1 hd ho (fun h => kt ((i_eq ha r_zero).mp h) H locs la hS hP hl) (fun h => kf (fun e => h ((i_eq ha r_zero).mpr e)) H locs la hS hP hl)
theorem g_if_ne (F : Fx κ Γ d mc ms μ) (ha : -2147483648 ≤ a ∧ a ≤ 2147483647) (hd : AJ Γ.2.1 pc (.ifCond .ne) tg nx) (kt : a ≠ 0 → GC κ μ Z kc ks tg ls st P) (kf : a = 0 → GC κ μ Z kc ks nx ls st P) : GC κ μ Z kc ks pc ls (vi a :: st) P := by
  obtain ⟨⟨o, hd, ho⟩, rfl⟩ := hd
  intro H locs la hS hP hl
  exact lv_if_ne F.1 F.2.1 hd ho (fun h => kt (fun e => h ((i_eq ha r_zero).mpr e)) H locs la hS hP hl) (fun h => kf ((i_eq ha r_zero).mp h) H locs la hS hP hl)
theorem g_if_lt (F : Fx κ Γ d mc ms μ) (ha : -2147483648 ≤ a ∧ a ≤ 2147483647) (hd : AJ Γ.2.1 pc (.ifCond .lt) tg nx) (kt : a < 0 → GC κ μ Z kc ks tg ls st P) (kf : 0 ≤ a → GC κ μ Z kc ks nx ls st P) : GC κ μ Z kc ks pc ls (vi a :: st) P := by
  obtain ⟨⟨o, hd, ho⟩, rfl⟩ := hd
  intro H locs la hS hP hl
  exact lv_if_lt F.1 F.2.1 hd ho (fun h => kt ((i_lt ha r_zero).mp h) H locs la hS hP hl) (fun h => kf (Int.not_lt.mp (fun e => h ((i_lt ha r_zero).mpr e))) H locs la hS hP hl)
theorem g_if_ge (F : Fx κ Γ d mc ms μ) (ha : -2147483648 ≤ a ∧ a ≤ 2147483647) (hd : AJ Γ.2.1 pc (.ifCond .ge) tg nx) (kt : 0 ≤ a → GC κ μ Z kc ks tg ls st P) (kf : a < 0 → GC κ μ Z kc ks nx ls st P) : GC κ μ Z kc ks pc ls (vi a :: st) P := by
  obtain ⟨⟨o, hd, ho⟩, rfl⟩ := hd
  intro H locs la hS hP hl
  exact lv_if_ge F.1 F.2.1 hd ho (fun h => kt ((i_le r_zero ha).mp h) H locs la hS hP hl) (fun h => kf (Int.not_le.mp (fun e => h ((i_le r_zero ha).mpr e))) H locs la hS hP hl)
theorem g_if_gt (F : Fx κ Γ d mc ms μ) (ha : -2147483648 ≤ a ∧ a ≤ 2147483647) (hd : AJ Γ.2.1 pc (.ifCond .gt) tg nx) (kt : 0 < a → GC κ μ Z kc ks tg ls st P) (kf : a ≤ 0 → GC κ μ Z kc ks nx ls st P) : GC κ μ Z kc ks pc ls (vi a :: st) P := by
  obtain ⟨⟨o, hd, ho⟩, rfl⟩ := hd
  intro H locs la hS hP hl
  exact lv_if_gt F.1 F.2.1 hd ho (fun h => kt ((i_lt r_zero ha).mp h) H locs la hS hP hl) (fun h => kf (Int.not_lt.mp (fun e => h ((i_lt r_zero ha).mpr e))) H locs la hS hP hl)
theorem g_if_le (F : Fx κ Γ d mc ms μ) (ha : -2147483648 ≤ a ∧ a ≤ 2147483647) (hd : AJ Γ.2.1 pc (.ifCond .le) tg nx) (kt : a ≤ 0 → GC κ μ Z kc ks tg ls st P) (kf : 0 < a → GC κ μ Z kc ks nx ls st P) : GC κ μ Z kc ks pc ls (vi a :: st) P := by
  obtain ⟨⟨o, hd, ho⟩, rfl⟩ := hd
  intro H locs la hS hP hl
  exact lv_if_le F.1 F.2.1 hd ho (fun h => kt ((i_le ha r_zero).mp h) H locs la hS hP hl) (fun h => kf (Int.not_le.mp (fun e => h ((i_le ha r_zero).mpr e))) H locs la hS hP hl)
theorem g_ifeq0 (F : Fx κ Γ d mc ms μ) (hd : AJ Γ.2.1 pc (.ifCond .eq) tg nx) (k : GC κ μ Z kc ks tg ls st P) : GC κ μ Z kc ks pc ls (vi 0 :: st) P := g_if_eq F r_zero hd (fun _ => k) (fun h => absurd rfl h)
theorem g_ifeq1 (F : Fx κ Γ d mc ms μ) (hd : AJ Γ.2.1 pc (.ifCond .eq) tg nx) (k : GC κ μ Z kc ks nx ls st P) : GC κ μ Z kc ks pc ls (vi 1 :: st) P := g_if_eq F (by omega) hd (fun h => absurd h (by decide)) (fun _ => k)
theorem g_ifne0 (F : Fx κ Γ d mc ms μ) (hd : AJ Γ.2.1 pc (.ifCond .ne) tg nx) (k : GC κ μ Z kc ks nx ls st P) : GC κ μ Z kc ks pc ls (vi 0 :: st) P := g_if_ne F r_zero hd (fun h => absurd rfl h) (fun _ => k)
theorem g_ifne1 (F : Fx κ Γ d mc ms μ) (hd : AJ Γ.2.1 pc (.ifCond .ne) tg nx) (k : GC κ μ Z kc ks tg ls st P) : GC κ μ Z kc ks pc ls (vi 1 :: st) P := g_if_ne F (by omega) hd (fun _ => k) (fun h => absurd h (by decide))
theorem g_goto (F : Fx κ Γ d mc ms μ) (hd : AJ Γ.2.1 pc .goto tg nx) (k : GC κ μ Z kc ks tg ls st P) : GC κ μ Z kc ks pc ls st P := by
  obtain ⟨⟨o, hd, ho⟩, rfl⟩ := hd
  intro H locs la hS hP hl
  exact lv_goto F.1 F.2.1 hd ho (k H locs la hS hP hl)
theorem g_dup (F : Fx κ Γ d mc ms μ) (hd : AT 1 Γ.2.1 pc .dup nx) (hv : v.category = 1) (k : GC κ μ Z kc ks nx ls (v :: v :: st) P) : GC κ μ Z kc ks pc ls (v :: st) P := by
  obtain ⟨hd, rfl⟩ := hd
  intro H locs la hS hP hl
  exact lv_dup F.1 F.2.1 hd hv (k H locs la hS hP hl)
theorem g_pop (F : Fx κ Γ d mc ms μ) (hd : AT 1 Γ.2.1 pc .pop nx) (hv : v.category = 1) (k : GC κ μ Z kc ks nx ls st P) : GC κ μ Z kc ks pc ls (v :: st) P := by
  obtain ⟨hd, rfl⟩ := hd
  intro H locs la hS hP hl
  exact lv_pop F.1 F.2.1 hd hv (k H locs la hS hP hl)
theorem g_dup2 (F : Fx κ Γ d mc ms μ) (hd : AT 1 Γ.2.1 pc .dup2 nx) (hv : v.category = 1) (hu : u.category = 1) (k : GC κ μ Z kc ks nx ls (v :: u :: v :: u :: st) P) : GC κ μ Z kc ks pc ls (v :: u :: st) P := by
  obtain ⟨hd, rfl⟩ := hd
  intro H locs la hS hP hl
  exact lv_dup2_11 F.1 F.2.1 hd hv hu (k H locs la hS hP hl)
def sw_tab (pc : Nat) (lo : Int) (offs : Array Int) (tgs : List Nat) : Bool := (List.range tgs.length).all (fun j => match offs[j]?, tgs[j]? with | some o, some t => decide ((pc : Int) + o = (t : Int)) | _, _ => false)
theorem g_tsw (F : Fx κ Γ d mc ms μ) {dflt lo hi : Int} {offs : Array Int} {len j : Nat} {o : Int} (ha : -2147483648 ≤ a ∧ a ≤ 2147483647) (hd : decode Γ.2.1 pc = .ok (.tableswitch dflt lo hi offs, len)) (h1 : lo ≤ a) (h2 : a ≤ hi) (hj : (a - lo).toNat = j) (ho : offs[j]? = some o) (ht : (pc : Int) + o = (tg : Int)) (k : GC κ μ Z kc ks tg ls st P) : GC κ μ Z kc ks pc ls (vi a :: st) P := by
  intro H locs la hS hP hl
  exact lv_tableIn F.1 F.2.1 hd (by rw [i2r ha]; omega) (by rw [i2r ha]; omega) (by rw [i2r ha, hj]; exact ho) ht (k H locs la hS hP hl)
theorem g_tswD (F : Fx κ Γ d mc ms μ) {dflt lo hi : Int} {offs : Array Int} {len : Nat} (ha : -2147483648 ≤ a ∧ a ≤ 2147483647) (hd : decode Γ.2.1 pc = .ok (.tableswitch dflt lo hi offs, len)) (h1 : a < lo ∨ hi < a) (ht : (pc : Int) + dflt = (tg : Int)) (k : GC κ μ Z kc ks tg ls st P) : GC κ μ Z kc ks pc ls (vi a :: st) P := by
  intro H locs la hS hP hl
  exact lv_tableOut F.1 F.2.1 hd (by rw [i2r ha]; exact h1) ht (k H locs la hS hP hl)
theorem g_lsw (F : Fx κ Γ d mc ms μ) {dflt : Int} {ps : Array (Int × Int)} {len : Nat} {o : Int} (ha : -2147483648 ≤ a ∧ a ≤ 2147483647) (hd : decode Γ.2.1 pc = .ok (.lookupswitch dflt ps, len)) (hp : (ps.toList.zip (ps.toList.drop 1)).all (fun (a, next) => a.1 < next.1) = true) (ho : Op.lookupswitch.offset ps.toList dflt a = o) (ht : (pc : Int) + o = (tg : Int)) (k : GC κ μ Z kc ks tg ls st P) : GC κ μ Z kc ks pc ls (vi a :: st) P := by
  intro H locs la hS hP hl
  exact lv_lookup F.1 F.2.1 hd hp (by rw [i2r ha]; exact ho) ht (k H locs la hS hP hl)
/-- another place, other locals, told more weakly -/
theorem GC.weak {P' : Heap → Prop} (hp : ∀ H, P H → P' H) (k : GC κ μ Z kc ks pc ls st P') : GC κ μ Z kc ks pc ls st P := fun H locs la hS hP hl => k H locs la hS (hp H hP) hl
theorem GC.room {kc' ks' : Nat} (h1 : kc ≤ kc') (h2 : ks ≤ ks') (k : GC κ μ Z kc' ks' pc ls st P) : GC κ μ Z kc ks pc ls st P := fun H locs la hS hP hl => W.widen h1 h2 (k H locs la hS hP hl)
theorem lok.less {la : Array Slot} (h : lok la ls) (hn : ls.length = ls'.length) (hh : ∀ (i : Nat) (v : Value), ls'[i]? = some (some v) → ls[i]? = some (some v)) : lok la ls' := ⟨h.1.trans hn, h.2.1, fun i v hi => h.2.2 i v (hh i v hi)⟩
/-- fewer locals: those of ls' are among ls, in their places -/
def lsub : List (Option Value) → List (Option Value) → Prop
  | [], [] => True
  | _ :: t, none :: t' => lsub t t'
  | x :: t, some v :: t' => x = some v ∧ lsub t t'
  | _, _ => False
theorem lsub_spec : ∀ (l l' : List (Option Value)), lsub l l' → l.length = l'.length ∧ ∀ (i : Nat) (v : Value), l'[i]? = some (some v) → l[i]? = some (some v)
  | [], [], _ => ⟨rfl, fun _ _ h => h⟩
  | _ :: t, none :: t', h => by
    have q := lsub_spec t t' h
    refine ⟨by simp [q.1], fun i v hi => ?_⟩
    cases i with
    | zero => simp at hi
    | succ i => simp at hi ⊢; exact q.2 i v hi
  | x :: t, some w :: t', h => by
    have q := lsub_spec t t' h.2
    refine ⟨by simp [q.1], fun i v hi => ?_⟩
    cases i with
    | zero => simp at hi ⊢; rw [h.1, hi]
    | succ i => simp at hi ⊢; exact q.2 i v hi
  | [], _ :: _, h => h.elim
  | _ :: _, [], h => h.elim
theorem GC.loc (h : lsub ls ls') (k : GC κ μ Z kc ks pc ls' st P) : GC κ μ Z kc ks pc ls st P := fun H locs la hS hP hl => k H locs la hS hP (hl.less (lsub_spec ls ls' h).1 (lsub_spec ls ls' h).2)
theorem ZZ.ret {Q : Option Value → (Heap → Prop) → Prop} {r : Option Value} {H : Heap} {locs : List Loc} (hS : va_S (Ab κ) (mS μ).heap H locs) (hP : P H) (hQ : Q r P) : ∀ t : State, t.heap = H → (mS μ).WarmedH t.vm → QQ κ Q (mA μ) (mS μ) (.returned r) t := fun t ht _ => ⟨⟨r, P, rfl, by rw [ht]; exact hP, hQ⟩, hS.F ht⟩
theorem g_iret (F : Fx κ Γ d mc ms μ) {Q : Option Value → (Heap → Prop) → Prop} {z : Int32} {kc ks : Nat} (hd : AT 1 Γ.2.1 pc .ireturn nx) (hr : Γ.2.2.2.1 = some .int) (hk : kc ≤ mc ∧ ks ≤ ms) (hQ : Q (some (.int z)) P) : GC κ μ (ZZ κ μ mc ms Q) kc ks pc ls [.int z] P := by
  intro H locs la hS hP hl
  have hlocks := F.2.2.2.2.1
  exact W.widen hk.1 hk.2 (W.iret F.1 F.2.1 (F.2.2.2.1.trans hr) (ZZ.ret hS hP hQ) hS.2.2 hd.1 (hlocks := hlocks))
theorem g_zret (F : Fx κ Γ d mc ms μ) {Q : Option Value → (Heap → Prop) → Prop} {z : Int32} {ty : FieldType} {kc ks : Nat} (hd : AT 1 Γ.2.1 pc .ireturn nx) (hr : Γ.2.2.2.1 = some ty) (hn : narrow ty (.int z) = .int z) (hk : kc ≤ mc ∧ ks ≤ ms) (hQ : Q (some (.int z)) P) : GC κ μ (ZZ κ μ mc ms Q) kc ks pc ls [.int z] P := by
  intro H locs la hS hP hl
  have hlocks := F.2.2.2.2.1
  exact W.widen hk.1 hk.2 (W.zret F.1 F.2.1 (F.2.2.2.1.trans hr) hn (ZZ.ret hS hP hQ) hS.2.2 hd.1 (hlocks := hlocks))
theorem g_lret (F : Fx κ Γ d mc ms μ) {Q : Option Value → (Heap → Prop) → Prop} {z : Int64} {kc ks : Nat} (hd : AT 1 Γ.2.1 pc .lreturn nx) (hr : Γ.2.2.2.1 = some .long) (hk : kc ≤ mc ∧ ks ≤ ms) (hQ : Q (some (.long z)) P) : GC κ μ (ZZ κ μ mc ms Q) kc ks pc ls [.long z] P := by
  intro H locs la hS hP hl
  have hlocks := F.2.2.2.2.1
  exact W.widen hk.1 hk.2 (W.lret F.1 F.2.1 (F.2.2.2.1.trans hr) (ZZ.ret hS hP hQ) hS.2.2 hd.1 (hlocks := hlocks))
theorem g_ret (F : Fx κ Γ d mc ms μ) {Q : Option Value → (Heap → Prop) → Prop} {kc ks : Nat} (hd : AT 1 Γ.2.1 pc .return_ nx) (hr : Γ.2.2.2.1 = none) (hk : kc ≤ mc ∧ ks ≤ ms) (hQ : Q none P) : GC κ μ (ZZ κ μ mc ms Q) kc ks pc ls [] P := by
  intro H locs la hS hP hl
  have hlocks := F.2.2.2.2.1
  exact W.widen hk.1 hk.2 (W.vret F.1 F.2.1 (F.2.2.2.1.trans hr) (ZZ.ret hS hP hQ) hS.2.2 hd.1 (hlocks := hlocks))
end GR
end
section
section CL
variable {κ : Kx} {Γ Γ' : Gm} {d d' mc ms mc' ms' : Nat} {μ : MX} {Z : State → Prop} {kc ks pc nx tg idx ad c : Nat} {ls ls' : List (Option Value)} {st As : List Value} {P : Heap → Prop} {q : vw_C} {ty : Nat → FieldType}
theorem va_callQ {p : Program} {l : Launch} {e : Env} {R : Room} {s : State} {m : MethodId} {args : Array Value} {below : List Frame} {meth : Method} {c : Code} {H : Heap} {locs : List Loc} {cells slots mc ms : Nat} {ZZ : State → Prop} {pc : Nat} {la : Array Slot} {rest st0 : List Value} {a : Array Value} {H0 : Heap} {free : Addr → Prop} {Q : Option Value → (Heap → Prop) → Prop}
    (hr : va_Run p l e R s m args below meth c H locs cells slots mc ms (F0 m pc la st0) rest (QQ κ Q a) free) (hS : va_S (Ab κ) H0 H locs) (hf : ∀ q, free q → Ab κ q)
    (kk : ∀ (r : Option Value) (P' : Heap → Prop) (H1 : Heap) (locs1 : List Loc), P' H1 → Q r P' → va_S (Ab κ) H0 H1 locs1 → W p l e R s m args below meth c H1 locs1 (cells + mc) (slots + ms) ZZ (F0 m (pc + 3) la (r.toList ++ rest))) : W p l e R s m args below meth c H locs cells slots ZZ (F0 m pc la st0) := by
  intro T hT X
  obtain ⟨v, st₀, t, T', L, h0, X', hL, e1, e2, ⟨⟨r, P', hv, hp, hq⟩, hz, hk⟩, st⟩ := hr T hT X
  cases hv
  rw [h0] at hz hk
  obtain ⟨t2, a1, b1⟩ := kk v P' T'.heap (locs ++ L) (by rw [e1]; exact hp) hq
    ⟨Nat.le_trans hS.1 (by rw [e1]; exact hz), fun q h1 h2 => by rw [e1, hk q (Nat.lt_of_lt_of_le h1 hS.1) h2]; exact hS.2.1 q h1 h2, fun q hq => by
      rcases List.mem_append.mp hq with h | h
      · exact hS.2.2 q h
      · exact hf _ (hL q h)⟩ T' rfl X'
  exact ⟨t2, st t2 a1, b1⟩
/-- at the address a P has an object of kind c -/
def OBJ (κ : Kx) (a c : Nat) (P : Heap → Prop) : Prop := ∀ H, P H → ∃ fs : List Value, va_at (kD κ) classes (a, .inr (c, fs)) H
theorem bg_in {l : List Cond} (h : ∀ w ∈ l, w ∈ bg) : GoodIn bg l := fun w hw => ⟨h w hw, bg_good w (h w hw)⟩
theorem Pc_blind {av : List Value} : FrameBlind (va_Pc av (fun U => P U.heap ∧ KS κ U)) := fun _ _ _ _ q => ⟨q.1, q.2.1, KS.same rfl rfl q.2.2⟩
theorem OBJ.recv {H : Heap} {s : State} (ho : OBJ κ ad c P) (hP : P H) (hK : KS κ s) (hc : classes[c]? = some q) : ∃ cellB : Cell, H[ad]? = some cellB ∧ cellB.vm.isStatics = false ∧ s.vm.findClass q.1 = some cellB.cls := by
  obtain ⟨fs, q', h1, cell, g1, g2, g3, -⟩ := ho H hP
  exact ⟨cell, g1, by rw [g3]; rfl, by rw [g2]; exact (hK.1.1 c q hc).2.1⟩
theorem g_callV (F : Fx κ Γ d mc ms μ) (hd : AT 3 Γ.2.1 pc (.invokevirtual idx) nx) (hs : VC Γ.1.cls idx Γ') (hk : MK Γ') (hob : OBJ κ ad c P) (hc : classes[c]? = some q) (hcn : q.1 = Γ'.1.cls) (hL : ls.length = Γ.2.2.1) (hdd : d' + 1 ≤ d) (hm : kc + mc' ≤ mc ∧ ks + ms' ≤ ms) (hn : As.length = Γ'.2.2.2.2) (hst : (st.map fun v => v.category).sum ≤ 8)
    (h : GG κ Γ' d' mc' ms' (.ref ad :: As) P (fun r P' => GC κ μ Z (kc + mc') (ks + ms') nx ls (r.toList ++ st) P')) : GC κ μ Z kc ks pc ls (As.reverse ++ .ref ad :: st) P := by
  obtain ⟨hd, rfl⟩ := hd
  intro H locs la hS hP hl
  obtain ⟨hx, hb, hml, hret, hlk, hown, hnm, hts, hK, r1, r2, r3, r4⟩ := F
  have hM := GG.met (mL μ) hk h
  refine va_callQ (va_runV (As := As) (rest := st) (nL := Γ.2.2.1) (Ts := bg) (C := Γ'.1.cls) ⟨hx, hb, hml, hown, hts⟩ hM
    (cwV (ret := Γ'.2.2.2.1) (bytes := Γ'.2.1) (maxL := Γ'.2.2.1) Γ'.2.2.2.2 hts (bg_in (fun w hw => ?_)) rfl rfl rfl ⟨rfl, hk.2.2.2.1.1, hk.2.2.2.1.2, hk.2.2.2.2.1⟩ ⟨by show d' + 1 ≤ _; omega, by show 8 + (Γ'.2.2.1 + 11) + 64 * d' ≤ _; have := hk.2.2.2.2.2; omega⟩)
    ⟨Pc_blind, by rw [← hcn]; exact hob.recv hP hK hc, fun U hU hW => ⟨rfl, by rw [hU]; exact hP, KS.warm hK hW hU hS⟩⟩ rfl hn (hl.1.trans hL) rfl (lv_room hst) hd ⟨by omega, by omega⟩) hS (fun q h => h) (fun r P' H1 locs1 hp hq hS1 => hq H1 locs1 la hS1 hp hl)
  rcases List.mem_append.mp hw with hw | hw
  · simp only [List.mem_cons, List.not_mem_nil, or_false] at hw
    rcases hw with rfl | rfl | rfl | rfl
    · exact hs.1
    · exact hs.2.1
    · exact hs.2.2
    · exact hk.2.1
  · rcases List.mem_cons.mp hw with rfl | hw
    · exact hk.1
    · exact hw
theorem g_callS (F : Fx κ Γ d mc ms μ) (hd : AT 3 Γ.2.1 pc (.invokestatic idx) nx) (hs : SC Γ.1.cls idx Γ') (hk : MK Γ') (hL : ls.length = Γ.2.2.1) (hdd : d' + 1 ≤ d) (hm : kc + mc' ≤ mc ∧ ks + ms' ≤ ms) (hn : As.length = Γ'.2.2.2.2) (hst : (st.map fun v => v.category).sum ≤ 8)
    (h : GG κ Γ' d' mc' ms' As P (fun r P' => GC κ μ Z (kc + mc') (ks + ms') nx ls (r.toList ++ st) P')) : GC κ μ Z kc ks pc ls (As.reverse ++ st) P := by
  obtain ⟨hd, rfl⟩ := hd
  intro H locs la hS hP hl
  obtain ⟨hx, hb, hml, hret, hlk, hown, hnm, hts, hK, r1, r2, r3, r4⟩ := F
  have hM := GG.met (mL μ) hk h
  refine va_callQ (va_runS (As := As) (rest := st) (nL := Γ.2.2.1) (Ts := bg) ⟨hx, hb, hml, hown, hts⟩ hM
    (va_cwS (ret := Γ'.2.2.2.1) (bytes := Γ'.2.1) (maxL := Γ'.2.2.1) Γ'.2.2.2.2 hts (bg_in (fun w hw => ?_)) rfl rfl rfl ⟨hk.2.2.2.1.1, hk.2.2.2.1.2, hk.2.2.2.2.1⟩ ⟨by show d' + 1 ≤ _; omega, by show 8 + (Γ'.2.2.1 + 11) + 64 * d' ≤ _; have := hk.2.2.2.2.2; omega⟩)
    ⟨Pc_blind, fun U hU hW => ⟨rfl, by rw [hU]; exact hP, KS.warm hK hW hU hS⟩⟩ rfl hn (hl.1.trans hL) rfl (lv_room hst) hd ⟨by omega, by omega⟩) hS (fun q h => h) (fun r P' H1 locs1 hp hq hS1 => hq H1 locs1 la hS1 hp hl)
  rcases List.mem_append.mp hw with hw | hw
  · simp only [List.mem_cons, List.not_mem_nil, or_false] at hw
    rcases hw with rfl | rfl | rfl
    · exact hs.1
    · exact hs.2
    · exact hk.2.1
  · rcases List.mem_cons.mp hw with rfl | hw
    · exact hk.1
    · exact hw
theorem g_callI (F : Fx κ Γ d mc ms μ) (hd : AT 3 Γ.2.1 pc (.invokespecial idx) nx) (hs : IC Γ.1.cls idx Γ') (hk : MK Γ') (hL : ls.length = Γ.2.2.1) (hdd : d' + 1 ≤ d) (hm : kc + mc' ≤ mc ∧ ks + ms' ≤ ms) (hn : As.length = Γ'.2.2.2.2) (hst : (st.map fun v => v.category).sum ≤ 8)
    (h : GG κ Γ' d' mc' ms' (.ref ad :: As) P (fun r P' => GC κ μ Z (kc + mc') (ks + ms') nx ls (r.toList ++ st) P')) : GC κ μ Z kc ks pc ls (As.reverse ++ .ref ad :: st) P := by
  obtain ⟨hd, rfl⟩ := hd
  intro H locs la hS hP hl
  obtain ⟨hx, hb, hml, hret, hlk, hown, hnm, hts, hK, r1, r2, r3, r4⟩ := F
  have hM := GG.met (mL μ) hk h
  refine va_callQ (va_runI (As := As) (rest := st) (nL := Γ.2.2.1) (Ts := bg) ⟨hx, hb, hml, hown, hts⟩ hM
    (cwI (bytes := Γ'.2.1) (maxL := Γ'.2.2.1) Γ'.2.2.2.2 hts (bg_in (fun w hw => ?_)) (by unfold codeW; rw [hs.2.2.2]) rfl rfl (hts _ hk.2.1) (hts _ hs.1) (hts _ hs.2.1) hs.2.2.1 ⟨hk.2.2.2.1.1, hk.2.2.2.1.2, hk.2.2.2.2.1⟩ ⟨by show d' + 1 ≤ _; omega, by show 8 + (Γ'.2.2.1 + 11) + 64 * d' ≤ _; have := hk.2.2.2.2.2; omega⟩)
    ⟨Pc_blind, fun U hU hW => ⟨rfl, by rw [hU]; exact hP, KS.warm hK hW hU hS⟩⟩ rfl hn (hl.1.trans hL) rfl (lv_room hst) hd ⟨by omega, by omega⟩) hS (fun q h => h) (fun r P' H1 locs1 hp hq hS1 => hq H1 locs1 la hS1 hp hl)
  rcases List.mem_cons.mp hw with rfl | hw
  · exact hk.1
  · exact hw
theorem g_callIN (F : Fx κ Γ d mc ms μ) (hd : AT 3 Γ.2.1 pc (.invokespecial idx) nx) (hs : INC Γ.1.cls idx Γ') (hk : MK Γ') (hL : ls.length = Γ.2.2.1) (hdd : d' + 1 ≤ d) (hm : kc + mc' ≤ mc ∧ ks + ms' ≤ ms) (hn : As.length = Γ'.2.2.2.2) (hst : (st.map fun v => v.category).sum ≤ 8)
    (h : GG κ Γ' d' mc' ms' (.ref ad :: As) P (fun r P' => GC κ μ Z (kc + mc') (ks + ms') nx ls (r.toList ++ st) P')) : GC κ μ Z kc ks pc ls (As.reverse ++ .ref ad :: st) P := by
  obtain ⟨hd, rfl⟩ := hd
  intro H locs la hS hP hl
  obtain ⟨hx, hb, hml, hret, hlk, hown, hnm, hts, hK, r1, r2, r3, r4⟩ := F
  have hM := GG.met (mL μ) hk h
  refine va_callQ (va_runIN (As := As) (rest := st) (nL := Γ.2.2.1) (Ts := bg) (host := "ShameAngles") ⟨hx, hb, hml, hown, hts⟩ hM
    ⟨va_cnB (bytes := Γ'.2.1) (maxL := Γ'.2.2.1) Γ'.2.2.2.2 hts (bg_in (fun w hw => ?_)) (by unfold codeW; rw [hs.2.2.2]) rfl rfl (hK.2.2.2.1 _ hs.1) (hts _ hk.2.1) ⟨hk.2.2.2.1.1, hk.2.2.2.1.2, hk.2.2.2.2.1⟩ ⟨by show d' + 1 ≤ _; omega, by show 8 + (Γ'.2.2.1 + 11) + 64 * d' ≤ _; have := hk.2.2.2.2.2; omega⟩, hs.2.2.1, hts _ hs.2.1⟩
    ⟨Pc_blind, fun U hU hW => ⟨rfl, by rw [hU]; exact hP, KS.warm hK hW hU hS⟩⟩ rfl hn (hl.1.trans hL) rfl (lv_room hst) hd ⟨by omega, by omega⟩) hS (fun q h => h) (fun r P' H1 locs1 hp hq hS1 => hq H1 locs1 la hS1 hp hl)
  rcases List.mem_cons.mp hw with rfl | hw
  · exact hk.1
  · exact hw
theorem g_objInit (F : Fx κ Γ d mc ms μ) (hd : AT 3 Γ.2.1 pc (.invokespecial idx) nx) (hs : Cond.methodLink Γ.1.cls idx Lib.objectInit ∈ bg) (hL : ls.length = Γ.2.2.1) (hdd : 1 ≤ d) (hst : (st.map fun v => v.category).sum ≤ 8) (k : GC κ μ Z kc ks nx ls st P) : GC κ μ Z kc ks pc ls (.ref ad :: st) P := by
  obtain ⟨hd, rfl⟩ := hd
  intro H locs la hS hP hl
  obtain ⟨hx, hb, hml, hret, hlk, hown, hnm, hts, hK, r1, r2, r3, r4⟩ := F
  exact W.objInit hx hb hown (hts _ hs) (hts _ oi_inst) (hts _ oi_code) rfl (by rw [hml]; exact hl.1.trans hL) rfl hd (by omega) (by show 2 * 0 + _ + 12 ≤ _; omega) (k H locs la hS hP hl)
end CL
/-! ===== the world: 102 cells, each at its own distance from the first ===== -/
def oo (c i : Nat) : Nat := ([[0], [1, 59, 73], [2, 60, 74, 17, 27, 32, 37, 42, 47], [7, 9, 11, 65, 67, 69, 79, 81, 83], [13, 71, 85], [22], [24], [52], [56], [58], [87]].getD c []).getD i 0
def cnt (c : Nat) : Nat := [1, 3, 9, 9, 3, 1, 1, 1, 1, 1, 1].getD c 0
def acnt (c : Nat) : Nat := [2, 0, 4, 1, 1, 1, 2, 3, 1, 0, 14].getD c 0
def ao (c i j : Nat) : Nat := match c with
  | 0 => 15 + j
  | 6 => 25 + j
  | 7 => 53 + j
  | 10 => 88 + j
  | c => oo c i + 1 + j
def inv (n : Nat) : Nat × Nat × Nat := [(0, 0, 0), (1, 0, 0), (2, 0, 0), (2, 0, 1), (2, 0, 2), (2, 0, 3), (2, 0, 4), (3, 0, 0), (3, 0, 1), (3, 1, 0), (3, 1, 1), (3, 2, 0), (3, 2, 1), (4, 0, 0), (4, 0, 1), (0, 0, 1), (0, 0, 2), (2, 3, 0), (2, 3, 1), (2, 3, 2), (2, 3, 3), (2, 3, 4), (5, 0, 0), (5, 0, 1), (6, 0, 0), (6, 0, 1), (6, 0, 2), (2, 4, 0), (2, 4, 1), (2, 4, 2), (2, 4, 3), (2, 4, 4), (2, 5, 0), (2, 5, 1), (2, 5, 2), (2, 5, 3), (2, 5, 4), (2, 6, 0), (2, 6, 1), (2, 6, 2), (2, 6, 3), (2, 6, 4), (2, 7, 0), (2, 7, 1), (2, 7, 2), (2, 7, 3), (2, 7, 4), (2, 8, 0), (2, 8, 1), (2, 8, 2), (2, 8, 3), (2, 8, 4), (7, 0, 0), (7, 0, 1), (7, 0, 2), (7, 0, 3), (8, 0, 0), (8, 0, 1), (9, 0, 0), (1, 1, 0), (2, 1, 0), (2, 1, 1), (2, 1, 2), (2, 1, 3), (2, 1, 4), (3, 3, 0), (3, 3, 1), (3, 4, 0), (3, 4, 1), (3, 5, 0), (3, 5, 1), (4, 1, 0), (4, 1, 1), (1, 2, 0), (2, 2, 0), (2, 2, 1), (2, 2, 2), (2, 2, 3), (2, 2, 4), (3, 6, 0), (3, 6, 1), (3, 7, 0), (3, 7, 1), (3, 8, 0), (3, 8, 1), (4, 2, 0), (4, 2, 1), (10, 0, 0), (10, 0, 1), (10, 0, 2), (10, 0, 3), (10, 0, 4), (10, 0, 5), (10, 0, 6), (10, 0, 7), (10, 0, 8), (10, 0, 9), (10, 0, 10), (10, 0, 11), (10, 0, 12), (10, 0, 13), (10, 0, 14)].getD n (99, 0, 0)
abbrev Rc : Type := (Nat → Int) × (Nat → Int → Int)
abbrev Mem : Type := Nat → Nat → Rc
def ad (κ : Kx) (c i : Nat) : Nat := kb κ + oo c i
def aa (κ : Kx) (c i j : Nat) : Nat := kb κ + ao c i j
def alen (c j : Nat) : Nat := ([[2, 2], [], [6, 6, 6, 3], [24], [72], [150], [5, 5], [6, 6, 6], [6], [], [3, 6, 6, 3, 6, 18, 24, 24, 150, 180, 72, 9, 360, 2]].getD c []).getD j 0
def objF (κ : Kx) (c i : Nat) (S : Nat → Int) : List Value := match c with
  | 0 => [.ref (ad κ 1 0), .ref (aa κ 0 i 0), .ref (aa κ 0 i 1), .ref (ad κ 2 3), .ref (ad κ 5 0), .ref (ad κ 6 0), .ref (ad κ 7 0), .ref (ad κ 8 0), .ref (ad κ 9 0), vi (S 9), vi (S 10), vi (S 11)]
  | 1 => [.ref (ad κ 2 i), .ref (ad κ 3 (3 * i)), .ref (ad κ 3 (3 * i + 1)), .ref (ad κ 3 (3 * i + 2)), .ref (ad κ 4 i)]
  | 2 => [vi (S 0), vi (S 1), vi (S 2), vi (S 3), vi (S 4), vi (S 5), .ref (aa κ 2 i 0), .ref (aa κ 2 i 1), .ref (aa κ 2 i 2), .ref (aa κ 2 i 3)]
  | 3 => [vi (S 0), vi (S 1), .ref (aa κ 3 i 0)]
  | 4 => [vi (S 0), .ref (aa κ 4 i 0)]
  | 5 => [vi (S 0), .ref (aa κ 5 i 0), vi (S 2), vi (S 3), vi (S 4), vi (S 5)]
  | 6 => [.ref (aa κ 6 i 0), .ref (aa κ 6 i 1)]
  | 7 => [.ref (aa κ 7 i 0), .ref (aa κ 7 i 1), .ref (aa κ 7 i 2), vi (S 3)]
  | 8 => [.ref (aa κ 8 i 0)]
  | 9 => [vl (S 0), vl (S 1)]
  | 10 => [.ref (aa κ 10 i 0), vi (S 1), vi (S 2), vi (S 3), vi (S 4), vi (S 5), vi (S 6), vi (S 7), vi (S 8), vi (S 9), .ref (aa κ 10 i 1), .ref (aa κ 10 i 2), .ref (aa κ 10 i 3), .ref (aa κ 10 i 4), .ref (aa κ 10 i 5), .ref (aa κ 10 i 6), .ref (aa κ 10 i 7), .ref (aa κ 10 i 8), vi (S 18), vi (S 19), vi (S 20), .ref (aa κ 10 i 9), .ref (aa κ 10 i 10), vi (S 23), .ref (aa κ 10 i 11), vl (S 25), vl (S 26), .ref (aa κ 10 i 12), .ref (aa κ 10 i 13), vl (S 29)]
  | _ => []
def isI (c j : Nat) : Bool := !(c == 0) && !(c == 6 && j == 1)
def arrE (κ : Kx) (c j : Nat) (f : Int → Int) : ClassId × vp_A :=
  if c = 0 ∧ j = 0 then (kS κ, 2, .inr (.inr (.inr (.inr (fun k => some (ad κ 1 (k + 1)))))))
  else if c = 6 ∧ j = 1 then (kH κ, 5, .inr (.inr (.inr (.inr (fun k => some (ad κ 2 (k + 4)))))))
  else if c = 0 then (kZ κ, 2, .inl (fun k => Int32.ofInt (f k)))
  else (kI κ, alen c j, .inl (fun k => Int32.ofInt (f k)))
def cellAt (κ : Kx) (m : Mem) (n : Nat) : va_E := match inv n with
  | (c, i, 0) => .inr (c, objF κ c i (m c i).1)
  | (c, i, j + 1) => .inl (arrE κ c j ((m c i).2 j))
def wl (κ : Kx) (m : Mem) : va_W := (List.range 102).map (fun n => (kb κ + n, cellAt κ m n))
def World (κ : Kx) (m : Mem) (H : Heap) : Prop := va_P (kD κ) classes (wl κ m) H
def mset (m : Mem) (c i : Nat) (R : Rc) : Mem := fun c' i' => if c' = c ∧ i' = i then R else m c' i'
theorem mset_same (m : Mem) (c i : Nat) (R : Rc) : mset m c i R c i = R := by simp [mset]
theorem mset_ne {m : Mem} {c i c' i' : Nat} {R : Rc} (h : ¬ (c' = c ∧ i' = i)) : mset m c i R c' i' = m c' i' := by simp [mset, h]
theorem mset_mset (m : Mem) (c i : Nat) (R R' : Rc) : mset (mset m c i R) c i R' = mset m c i R' := by
  funext c' i'
  by_cases h : c' = c ∧ i' = i <;> simp [mset, h]
theorem mset_self (m : Mem) (c i : Nat) : mset m c i (m c i) = m := by
  funext c' i'
  by_cases h : c' = c ∧ i' = i
  · obtain ⟨rfl, rfl⟩ := h
    simp [mset]
  · simp [mset, h]
def fup (f : Nat → Int) (k : Nat) (v : Int) : Nat → Int := fun j => if j = k then v else f j
def gup (f : Int → Int) (x v : Int) : Int → Int := fun y => if y = x then v else f y
def aup (f : Nat → Int → Int) (j : Nat) (g : Int → Int) : Nat → Int → Int := fun k => if k = j then g else f k
theorem inv_lt (c i j : Nat) : ∀ n : Nat, n < 102 → ∀ n' : Nat, n' < 102 → inv n = inv n' → n = n' := by decide +kernel
theorem vo_dec : ∀ c : Nat, c < 11 → ∀ i : Nat, i < cnt c → oo c i < 102 ∧ inv (oo c i) = (c, i, 0) := by decide +kernel
theorem va_dec : ∀ c : Nat, c < 11 → ∀ i : Nat, i < cnt c → ∀ j : Nat, j < acnt c → ao c i j < 102 ∧ inv (ao c i j) = (c, i, j + 1) := by decide +kernel
theorem cnt_lt {c i : Nat} (h : i < cnt c) : c < 11 := by
  apply Nat.lt_of_not_le
  intro hc
  have : cnt c = 0 := by
    unfold cnt
    rw [List.getD_eq_getElem?_getD, List.getElem?_eq_none (by simpa using hc)]
    rfl
  omega
theorem wl_at {κ : Kx} {m : Mem} {n : Nat} (h : n < 102) : (wl κ m)[n]? = some (kb κ + n, cellAt κ m n) := by
  unfold wl
  rw [List.getElem?_map, List.getElem?_range h]
  rfl
theorem wl_obj {κ : Kx} {m : Mem} {c i : Nat} (h : i < cnt c) : (wl κ m)[oo c i]? = some (ad κ c i, .inr (c, objF κ c i (m c i).1)) := by
  obtain ⟨h1, h2⟩ := vo_dec c (cnt_lt h) i h
  rw [wl_at h1]
  unfold cellAt ad
  rw [h2]
theorem wl_arr {κ : Kx} {m : Mem} {c i j : Nat} (h : i < cnt c) (hj : j < acnt c) : (wl κ m)[ao c i j]? = some (aa κ c i j, .inl (arrE κ c j ((m c i).2 j))) := by
  obtain ⟨h1, h2⟩ := va_dec c (cnt_lt h) i h j hj
  rw [wl_at h1]
  unfold cellAt aa
  rw [h2]
theorem wl_set {κ : Kx} {m m' : Mem} {n : Nat} {e : va_E} (h0 : cellAt κ m' n = e) (hne : ∀ k : Nat, k < 102 → k ≠ n → cellAt κ m' k = cellAt κ m k) : (wl κ m).set n (kb κ + n, e) = wl κ m' := by
  apply List.ext_getElem?
  intro k
  by_cases hk : k < 102
  · by_cases e1 : k = n
    · subst e1
      rw [List.getElem?_set_self (by simpa [wl] using hk), wl_at hk, h0]
    · rw [List.getElem?_set_ne (Ne.symm e1), wl_at hk, wl_at hk, hne k hk e1]
  · rw [List.getElem?_eq_none (by simpa [wl] using hk), List.getElem?_eq_none (by simpa [wl] using hk)]
theorem wl_setO {κ : Kx} {m : Mem} {c i : Nat} {S' : Nat → Int} {l : List Value} (h : i < cnt c) (hl : objF κ c i S' = l) : (wl κ m).set (oo c i) (ad κ c i, .inr (c, l)) = wl κ (mset m c i (S', (m c i).2)) := by
  obtain ⟨h1, h2⟩ := vo_dec c (cnt_lt h) i h
  refine wl_set ?_ (fun k hk hne => ?_)
  · unfold cellAt
    rw [h2]
    dsimp only
    rw [mset_same, hl]
  · have hk2 : inv k ≠ (c, i, 0) := fun e => hne (inv_lt 0 0 0 k hk _ h1 (e.trans h2.symm))
    unfold cellAt
    generalize inv k = z at hk2 ⊢
    obtain ⟨c', i', j'⟩ := z
    cases j' with
    | zero =>
      dsimp only
      rw [mset_ne (fun q => hk2 (by rw [q.1, q.2]))]
    | succ j =>
      dsimp only
      by_cases q : c' = c ∧ i' = i
      · rw [q.1, q.2, mset_same]
      · rw [mset_ne q]
theorem wl_setA {κ : Kx} {m : Mem} {c i j : Nat} {g : Int → Int} {x : ClassId × vp_A} (h : i < cnt c) (hj : j < acnt c) (hl : arrE κ c j g = x) : (wl κ m).set (ao c i j) (aa κ c i j, .inl x) = wl κ (mset m c i ((m c i).1, aup (m c i).2 j g)) := by
  obtain ⟨h1, h2⟩ := va_dec c (cnt_lt h) i h j hj
  refine wl_set ?_ (fun k hk hne => ?_)
  · unfold cellAt
    rw [h2]
    dsimp only
    rw [mset_same, ← hl]
    simp [aup]
  · have hk2 : inv k ≠ (c, i, j + 1) := fun e => hne (inv_lt 0 0 0 k hk _ h1 (e.trans h2.symm))
    unfold cellAt
    generalize inv k = z at hk2 ⊢
    obtain ⟨c', i', j'⟩ := z
    cases j' with
    | zero =>
      dsimp only
      by_cases q : c' = c ∧ i' = i
      · rw [q.1, q.2, mset_same]
      · rw [mset_ne q]
    | succ j' =>
      dsimp only
      by_cases q : c' = c ∧ i' = i
      · rw [q.1, q.2, mset_same]
        have : ¬ j' = j := fun e => hk2 (by rw [q.1, q.2, e])
        simp [aup, this]
      · rw [mset_ne q]
theorem wl_D {κ : Kx} {m : Mem} : va_D (Ab κ) (wl κ m) := by
  have key : ∀ (k : Nat) (q : Nat × va_E), (wl κ m)[k]? = some q → q.1 = kb κ + k := by
    intro k q hk
    by_cases h : k < 102
    · rw [wl_at h] at hk
      cases hk
      rfl
    · rw [List.getElem?_eq_none (by simpa [wl] using h)] at hk
      cases hk
  refine ⟨fun i j p q hi hj e => ?_, fun k q hk => ?_⟩
  · have h1 := key i p hi
    have h2 := key j q hj
    omega
  · have h1 := key k q hk
    show kb κ ≤ q.1
    omega
theorem World.OBJ {κ : Kx} {m : Mem} {c i : Nat} (h : i < cnt c) : OBJ κ (ad κ c i) c (World κ m) := fun H hP => ⟨_, hP _ _ (wl_obj h)⟩
section WR
variable {κ : Kx} {Γ : Gm} {d mc ms : Nat} {μ : MX} {Z : State → Prop} {kc ks pc nx idx c i j k : Nat} {ls ls' : List (Option Value)} {st : List Value} {m : Mem} {v : Value} {x y : Int} {q : vw_C} {ty : Nat → FieldType}
theorem g_getf (F : Fx κ Γ d mc ms μ) (hd : AT 3 Γ.2.1 pc (.getfield idx) nx) (hf : FL Γ.1.cls idx c k) (hc : CK c q ty) (hi : i < cnt c) (hv : (objF κ c i (m c i).1)[k]? = some v) (kk : GC κ μ Z kc ks nx ls (v :: st) (World κ m)) : GC κ μ Z kc ks pc ls (.ref (ad κ c i) :: st) (World κ m) := by
  obtain ⟨hd, rfl⟩ := hd
  obtain ⟨q', h1, h2, h3⟩ := hf
  obtain rfl : q' = q := Option.some.inj (h1.symm.trans hc.1)
  intro H locs la hS hP hl
  exact va_get (D := kD κ) (C := q'.1) (T := q'.2.1) (N := q'.2.2) F.1 F.2.1 F.2.2.2.2.2.2.2.1 hc.2.1 F.2.2.2.2.2.1 F.2.2.2.2.2.2.2.2.1.1 hP (oo c i) (wl_obj hi) h1 k h2 (F.2.2.2.2.2.2.2.1 _ h3) (fun _ h => h) hv hd (kk H locs la hS hP hl)
theorem g_putf {S' : Nat → Int} (F : Fx κ Γ d mc ms μ) (hd : AT 3 Γ.2.1 pc (.putfield idx) nx) (hf : FL Γ.1.cls idx c k) (hc : CK c q ty) (hi : i < cnt c) (hfin : (q.2.1 k).2.2.2 = false) (hn : narrow (ty k) v = v) (hft : fits (ty k) v = true) (hk : k < (objF κ c i (m c i).1).length) (hset : objF κ c i S' = (objF κ c i (m c i).1).set k v)
    (kk : GC κ μ Z kc ks nx ls st (World κ (mset m c i (S', (m c i).2)))) : GC κ μ Z kc ks pc ls (v :: .ref (ad κ c i) :: st) (World κ m) := by
  obtain ⟨hd, rfl⟩ := hd
  obtain ⟨q', h1, h2, h3⟩ := hf
  obtain rfl : q' = q := Option.some.inj (h1.symm.trans hc.1)
  intro H locs la hS hP hl
  exact va_put (D := kD κ) (C := q'.1) (T := q'.2.1) (N := q'.2.2) F.1 F.2.1 F.2.2.2.2.2.2.2.1 hc.2.1 ty hc.2.2.1 hc.2.2.2.1 F.2.2.2.2.2.1 F.2.2.2.2.2.2.2.2.1.1 hP wl_D hS (oo c i) (wl_obj hi) h1 k h2 (F.2.2.2.2.2.2.2.1 _ h3) (fun _ h => h) hfin (hc.2.2.1 k h2) hn hft hk hd
    (fun H1 locs1 hP1 _ hS1 => kk H1 locs1 la hS1 (by rw [wl_setO hi hset] at hP1; exact hP1) hl)
theorem vin {x : Int} {n : Nat} (h0 : 0 ≤ x) (h1 : x < n) (hn : n ≤ 1000) : vp_in (Int32.ofInt x) n ∧ (((Int32.ofInt x).toNatClampNeg : Nat) : Int) = x := by
  have e : (Int32.ofInt x).toInt = x := i2r (by omega)
  have e2 : (Int32.ofInt x).toNatClampNeg = x.toNat := by
    show (Int32.ofInt x).toInt.toNat = x.toNat
    rw [e]
  refine ⟨vp_in_iff.mpr (by rw [e]; exact ⟨h0, h1⟩), ?_⟩
  rw [e2]
  omega
theorem g_iald (F : Fx κ Γ d mc ms μ) (hd : AT 1 Γ.2.1 pc .iaload nx) (hi : i < cnt c) (hj : j < acnt c) (hI : ∀ f : Int → Int, arrE κ c j f = (kI κ, alen c j, .inl (fun k => Int32.ofInt (f k)))) (hn : alen c j ≤ 1000) (h0 : 0 ≤ x) (h1 : x < alen c j)
    (kk : GC κ μ Z kc ks nx ls (vi ((m c i).2 j x) :: st) (World κ m)) : GC κ μ Z kc ks pc ls (vi x :: .ref (aa κ c i j) :: st) (World κ m) := by
  obtain ⟨hd, rfl⟩ := hd
  intro H locs la hS hP hl
  have ha := wl_arr (κ := κ) (m := m) hi hj
  rw [hI] at ha
  obtain ⟨g1, g2⟩ := vin h0 h1 hn
  have h := va_iald (D := kD κ) (cl := classes) F.1 F.2.1 F.2.2.2.2.2.2.2.2.1.1 hP (ao c i j) 0 ha rfl g1 hd (Q := Z) (l := mL μ) (e := mE μ) (R := mR μ) (args := mA μ) (m := mM μ) (below := mB μ) (meth := mMe μ) (locs := locs) (cells := kc) (slots := ks) (ls := la) (rest := st)
  rw [g2] at h
  exact h (kk H locs la hS hP hl)
theorem g_iast (F : Fx κ Γ d mc ms μ) (hd : AT 1 Γ.2.1 pc .iastore nx) (hi : i < cnt c) (hj : j < acnt c) (hI : ∀ f : Int → Int, arrE κ c j f = (kI κ, alen c j, .inl (fun k => Int32.ofInt (f k)))) (hn : alen c j ≤ 1000) (h0 : 0 ≤ x) (h1 : x < alen c j)
    (kk : GC κ μ Z kc ks nx ls st (World κ (mset m c i ((m c i).1, aup (m c i).2 j (gup ((m c i).2 j) x y))))) : GC κ μ Z kc ks pc ls (vi y :: vi x :: .ref (aa κ c i j) :: st) (World κ m) := by
  obtain ⟨hd, rfl⟩ := hd
  intro H locs la hS hP hl
  have ha := wl_arr (κ := κ) (m := m) hi hj
  rw [hI] at ha
  obtain ⟨g1, g2⟩ := vin h0 h1 hn
  refine va_iast (D := kD κ) (cl := classes) F.1 F.2.1 F.2.2.2.2.2.2.2.2.1.1 hP wl_D hS (ao c i j) 0 ha rfl g1 hd (fun H1 locs1 hP1 _ hS1 => kk H1 locs1 la hS1 ?_ hl)
  rw [wl_setA (g := gup ((m c i).2 j) x y) hi hj] at hP1
  · exact hP1
  · rw [hI]
    congr 3
    funext n
    by_cases hne : n = (Int32.ofInt x).toNatClampNeg
    · have : (n : Int) = x := by rw [hne]; exact g2
      simp [upd, gup, hne, g2]
    · have : ¬ (n : Int) = x := fun q => hne (by omega)
      simp [upd, gup, hne, this]
end WR
theorem g_get_0_0 {κ : Kx} {Γ : Gm} {d mc ms : Nat} {μ : MX} {Z : State → Prop} {kc ks pc nx idx : Nat} {ls : List (Option Value)} {st : List Value} {m : Mem} (F : Fx κ Γ d mc ms μ) (hd : AT 3 Γ.2.1 pc (.getfield idx) nx) (hf : FL Γ.1.cls idx 0 0) (kk : GC κ μ Z kc ks nx ls (.ref (ad κ 1 0) :: st) (World κ m)) : GC κ μ Z kc ks pc ls (.ref (ad κ 0 0) :: st) (World κ m) := g_getf F hd hf ck_0 (by decide) rfl kk
theorem g_get_0_1 {κ : Kx} {Γ : Gm} {d mc ms : Nat} {μ : MX} {Z : State → Prop} {kc ks pc nx idx : Nat} {ls : List (Option Value)} {st : List Value} {m : Mem} (F : Fx κ Γ d mc ms μ) (hd : AT 3 Γ.2.1 pc (.getfield idx) nx) (hf : FL Γ.1.cls idx 0 1) (kk : GC κ μ Z kc ks nx ls (.ref (aa κ 0 0 0) :: st) (World κ m)) : GC κ μ Z kc ks pc ls (.ref (ad κ 0 0) :: st) (World κ m) := g_getf F hd hf ck_0 (by decide) rfl kk
theorem g_get_0_2 {κ : Kx} {Γ : Gm} {d mc ms : Nat} {μ : MX} {Z : State → Prop} {kc ks pc nx idx : Nat} {ls : List (Option Value)} {st : List Value} {m : Mem} (F : Fx κ Γ d mc ms μ) (hd : AT 3 Γ.2.1 pc (.getfield idx) nx) (hf : FL Γ.1.cls idx 0 2) (kk : GC κ μ Z kc ks nx ls (.ref (aa κ 0 0 1) :: st) (World κ m)) : GC κ μ Z kc ks pc ls (.ref (ad κ 0 0) :: st) (World κ m) := g_getf F hd hf ck_0 (by decide) rfl kk
theorem g_get_0_3 {κ : Kx} {Γ : Gm} {d mc ms : Nat} {μ : MX} {Z : State → Prop} {kc ks pc nx idx : Nat} {ls : List (Option Value)} {st : List Value} {m : Mem} (F : Fx κ Γ d mc ms μ) (hd : AT 3 Γ.2.1 pc (.getfield idx) nx) (hf : FL Γ.1.cls idx 0 3) (kk : GC κ μ Z kc ks nx ls (.ref (ad κ 2 3) :: st) (World κ m)) : GC κ μ Z kc ks pc ls (.ref (ad κ 0 0) :: st) (World κ m) := g_getf F hd hf ck_0 (by decide) rfl kk
theorem g_get_0_4 {κ : Kx} {Γ : Gm} {d mc ms : Nat} {μ : MX} {Z : State → Prop} {kc ks pc nx idx : Nat} {ls : List (Option Value)} {st : List Value} {m : Mem} (F : Fx κ Γ d mc ms μ) (hd : AT 3 Γ.2.1 pc (.getfield idx) nx) (hf : FL Γ.1.cls idx 0 4) (kk : GC κ μ Z kc ks nx ls (.ref (ad κ 5 0) :: st) (World κ m)) : GC κ μ Z kc ks pc ls (.ref (ad κ 0 0) :: st) (World κ m) := g_getf F hd hf ck_0 (by decide) rfl kk
theorem g_get_0_5 {κ : Kx} {Γ : Gm} {d mc ms : Nat} {μ : MX} {Z : State → Prop} {kc ks pc nx idx : Nat} {ls : List (Option Value)} {st : List Value} {m : Mem} (F : Fx κ Γ d mc ms μ) (hd : AT 3 Γ.2.1 pc (.getfield idx) nx) (hf : FL Γ.1.cls idx 0 5) (kk : GC κ μ Z kc ks nx ls (.ref (ad κ 6 0) :: st) (World κ m)) : GC κ μ Z kc ks pc ls (.ref (ad κ 0 0) :: st) (World κ m) := g_getf F hd hf ck_0 (by decide) rfl kk
theorem g_get_0_6 {κ : Kx} {Γ : Gm} {d mc ms : Nat} {μ : MX} {Z : State → Prop} {kc ks pc nx idx : Nat} {ls : List (Option Value)} {st : List Value} {m : Mem} (F : Fx κ Γ d mc ms μ) (hd : AT 3 Γ.2.1 pc (.getfield idx) nx) (hf : FL Γ.1.cls idx 0 6) (kk : GC κ μ Z kc ks nx ls (.ref (ad κ 7 0) :: st) (World κ m)) : GC κ μ Z kc ks pc ls (.ref (ad κ 0 0) :: st) (World κ m) := g_getf F hd hf ck_0 (by decide) rfl kk
theorem g_get_0_7 {κ : Kx} {Γ : Gm} {d mc ms : Nat} {μ : MX} {Z : State → Prop} {kc ks pc nx idx : Nat} {ls : List (Option Value)} {st : List Value} {m : Mem} (F : Fx κ Γ d mc ms μ) (hd : AT 3 Γ.2.1 pc (.getfield idx) nx) (hf : FL Γ.1.cls idx 0 7) (kk : GC κ μ Z kc ks nx ls (.ref (ad κ 8 0) :: st) (World κ m)) : GC κ μ Z kc ks pc ls (.ref (ad κ 0 0) :: st) (World κ m) := g_getf F hd hf ck_0 (by decide) rfl kk
theorem g_get_0_8 {κ : Kx} {Γ : Gm} {d mc ms : Nat} {μ : MX} {Z : State → Prop} {kc ks pc nx idx : Nat} {ls : List (Option Value)} {st : List Value} {m : Mem} (F : Fx κ Γ d mc ms μ) (hd : AT 3 Γ.2.1 pc (.getfield idx) nx) (hf : FL Γ.1.cls idx 0 8) (kk : GC κ μ Z kc ks nx ls (.ref (ad κ 9 0) :: st) (World κ m)) : GC κ μ Z kc ks pc ls (.ref (ad κ 0 0) :: st) (World κ m) := g_getf F hd hf ck_0 (by decide) rfl kk
theorem g_get_0_9 {κ : Kx} {Γ : Gm} {d mc ms : Nat} {μ : MX} {Z : State → Prop} {kc ks pc nx idx : Nat} {ls : List (Option Value)} {st : List Value} {m : Mem} (F : Fx κ Γ d mc ms μ) (hd : AT 3 Γ.2.1 pc (.getfield idx) nx) (hf : FL Γ.1.cls idx 0 9) (kk : GC κ μ Z kc ks nx ls (vi ((m 0 0).1 9) :: st) (World κ m)) : GC κ μ Z kc ks pc ls (.ref (ad κ 0 0) :: st) (World κ m) := g_getf F hd hf ck_0 (by decide) rfl kk
theorem g_put_0_9 {κ : Kx} {Γ : Gm} {d mc ms : Nat} {μ : MX} {Z : State → Prop} {kc ks pc nx idx : Nat} {ls : List (Option Value)} {st : List Value} {m : Mem} {y : Int} (F : Fx κ Γ d mc ms μ) (hd : AT 3 Γ.2.1 pc (.putfield idx) nx) (hf : FL Γ.1.cls idx 0 9) (kk : GC κ μ Z kc ks nx ls st (World κ (mset m 0 0 (fup (m 0 0).1 9 y, (m 0 0).2)))) : GC κ μ Z kc ks pc ls (vi y :: .ref (ad κ 0 0) :: st) (World κ m) := g_putf F hd hf ck_0 (by decide) rfl rfl rfl (Nat.le_of_ble_eq_true rfl) rfl kk
theorem g_get_0_10 {κ : Kx} {Γ : Gm} {d mc ms : Nat} {μ : MX} {Z : State → Prop} {kc ks pc nx idx : Nat} {ls : List (Option Value)} {st : List Value} {m : Mem} (F : Fx κ Γ d mc ms μ) (hd : AT 3 Γ.2.1 pc (.getfield idx) nx) (hf : FL Γ.1.cls idx 0 10) (kk : GC κ μ Z kc ks nx ls (vi ((m 0 0).1 10) :: st) (World κ m)) : GC κ μ Z kc ks pc ls (.ref (ad κ 0 0) :: st) (World κ m) := g_getf F hd hf ck_0 (by decide) rfl kk
theorem g_put_0_10 {κ : Kx} {Γ : Gm} {d mc ms : Nat} {μ : MX} {Z : State → Prop} {kc ks pc nx idx : Nat} {ls : List (Option Value)} {st : List Value} {m : Mem} {y : Int} (F : Fx κ Γ d mc ms μ) (hd : AT 3 Γ.2.1 pc (.putfield idx) nx) (hf : FL Γ.1.cls idx 0 10) (kk : GC κ μ Z kc ks nx ls st (World κ (mset m 0 0 (fup (m 0 0).1 10 y, (m 0 0).2)))) : GC κ μ Z kc ks pc ls (vi y :: .ref (ad κ 0 0) :: st) (World κ m) := g_putf F hd hf ck_0 (by decide) rfl rfl rfl (Nat.le_of_ble_eq_true rfl) rfl kk
theorem g_get_0_11 {κ : Kx} {Γ : Gm} {d mc ms : Nat} {μ : MX} {Z : State → Prop} {kc ks pc nx idx : Nat} {ls : List (Option Value)} {st : List Value} {m : Mem} (F : Fx κ Γ d mc ms μ) (hd : AT 3 Γ.2.1 pc (.getfield idx) nx) (hf : FL Γ.1.cls idx 0 11) (kk : GC κ μ Z kc ks nx ls (vi ((m 0 0).1 11) :: st) (World κ m)) : GC κ μ Z kc ks pc ls (.ref (ad κ 0 0) :: st) (World κ m) := g_getf F hd hf ck_0 (by decide) rfl kk
theorem g_put_0_11 {κ : Kx} {Γ : Gm} {d mc ms : Nat} {μ : MX} {Z : State → Prop} {kc ks pc nx idx : Nat} {ls : List (Option Value)} {st : List Value} {m : Mem} {y : Int} (F : Fx κ Γ d mc ms μ) (hd : AT 3 Γ.2.1 pc (.putfield idx) nx) (hf : FL Γ.1.cls idx 0 11) (kk : GC κ μ Z kc ks nx ls st (World κ (mset m 0 0 (fup (m 0 0).1 11 y, (m 0 0).2)))) : GC κ μ Z kc ks pc ls (vi y :: .ref (ad κ 0 0) :: st) (World κ m) := g_putf F hd hf ck_0 (by decide) rfl rfl rfl (Nat.le_of_ble_eq_true rfl) rfl kk
theorem g_get_1_0 {κ : Kx} {Γ : Gm} {d mc ms : Nat} {μ : MX} {Z : State → Prop} {kc ks pc nx idx : Nat} {ls : List (Option Value)} {st : List Value} {m : Mem} {i : Nat} (F : Fx κ Γ d mc ms μ) (hd : AT 3 Γ.2.1 pc (.getfield idx) nx) (hf : FL Γ.1.cls idx 1 0) (hi : i < 3) (kk : GC κ μ Z kc ks nx ls (.ref (ad κ 2 i) :: st) (World κ m)) : GC κ μ Z kc ks pc ls (.ref (ad κ 1 i) :: st) (World κ m) := g_getf F hd hf ck_1 hi rfl kk
theorem g_get_1_1 {κ : Kx} {Γ : Gm} {d mc ms : Nat} {μ : MX} {Z : State → Prop} {kc ks pc nx idx : Nat} {ls : List (Option Value)} {st : List Value} {m : Mem} {i : Nat} (F : Fx κ Γ d mc ms μ) (hd : AT 3 Γ.2.1 pc (.getfield idx) nx) (hf : FL Γ.1.cls idx 1 1) (hi : i < 3) (kk : GC κ μ Z kc ks nx ls (.ref (ad κ 3 (3 * i)) :: st) (World κ m)) : GC κ μ Z kc ks pc ls (.ref (ad κ 1 i) :: st) (World κ m) := g_getf F hd hf ck_1 hi rfl kk
theorem g_get_1_2 {κ : Kx} {Γ : Gm} {d mc ms : Nat} {μ : MX} {Z : State → Prop} {kc ks pc nx idx : Nat} {ls : List (Option Value)} {st : List Value} {m : Mem} {i : Nat} (F : Fx κ Γ d mc ms μ) (hd : AT 3 Γ.2.1 pc (.getfield idx) nx) (hf : FL Γ.1.cls idx 1 2) (hi : i < 3) (kk : GC κ μ Z kc ks nx ls (.ref (ad κ 3 (3 * i + 1)) :: st) (World κ m)) : GC κ μ Z kc ks pc ls (.ref (ad κ 1 i) :: st) (World κ m) := g_getf F hd hf ck_1 hi rfl kk
theorem g_get_1_3 {κ : Kx} {Γ : Gm} {d mc ms : Nat} {μ : MX} {Z : State → Prop} {kc ks pc nx idx : Nat} {ls : List (Option Value)} {st : List Value} {m : Mem} {i : Nat} (F : Fx κ Γ d mc ms μ) (hd : AT 3 Γ.2.1 pc (.getfield idx) nx) (hf : FL Γ.1.cls idx 1 3) (hi : i < 3) (kk : GC κ μ Z kc ks nx ls (.ref (ad κ 3 (3 * i + 2)) :: st) (World κ m)) : GC κ μ Z kc ks pc ls (.ref (ad κ 1 i) :: st) (World κ m) := g_getf F hd hf ck_1 hi rfl kk
theorem g_get_1_4 {κ : Kx} {Γ : Gm} {d mc ms : Nat} {μ : MX} {Z : State → Prop} {kc ks pc nx idx : Nat} {ls : List (Option Value)} {st : List Value} {m : Mem} {i : Nat} (F : Fx κ Γ d mc ms μ) (hd : AT 3 Γ.2.1 pc (.getfield idx) nx) (hf : FL Γ.1.cls idx 1 4) (hi : i < 3) (kk : GC κ μ Z kc ks nx ls (.ref (ad κ 4 i) :: st) (World κ m)) : GC κ μ Z kc ks pc ls (.ref (ad κ 1 i) :: st) (World κ m) := g_getf F hd hf ck_1 hi rfl kk
theorem g_get_2_0 {κ : Kx} {Γ : Gm} {d mc ms : Nat} {μ : MX} {Z : State → Prop} {kc ks pc nx idx : Nat} {ls : List (Option Value)} {st : List Value} {m : Mem} {i : Nat} (F : Fx κ Γ d mc ms μ) (hd : AT 3 Γ.2.1 pc (.getfield idx) nx) (hf : FL Γ.1.cls idx 2 0) (hi : i < 9) (kk : GC κ μ Z kc ks nx ls (vi ((m 2 i).1 0) :: st) (World κ m)) : GC κ μ Z kc ks pc ls (.ref (ad κ 2 i) :: st) (World κ m) := g_getf F hd hf ck_2 hi rfl kk
theorem g_put_2_0 {κ : Kx} {Γ : Gm} {d mc ms : Nat} {μ : MX} {Z : State → Prop} {kc ks pc nx idx : Nat} {ls : List (Option Value)} {st : List Value} {m : Mem} {i : Nat} {y : Int} (F : Fx κ Γ d mc ms μ) (hd : AT 3 Γ.2.1 pc (.putfield idx) nx) (hf : FL Γ.1.cls idx 2 0) (hi : i < 9) (kk : GC κ μ Z kc ks nx ls st (World κ (mset m 2 i (fup (m 2 i).1 0 y, (m 2 i).2)))) : GC κ μ Z kc ks pc ls (vi y :: .ref (ad κ 2 i) :: st) (World κ m) := g_putf F hd hf ck_2 hi rfl rfl rfl (Nat.le_of_ble_eq_true rfl) rfl kk
theorem g_get_2_1 {κ : Kx} {Γ : Gm} {d mc ms : Nat} {μ : MX} {Z : State → Prop} {kc ks pc nx idx : Nat} {ls : List (Option Value)} {st : List Value} {m : Mem} {i : Nat} (F : Fx κ Γ d mc ms μ) (hd : AT 3 Γ.2.1 pc (.getfield idx) nx) (hf : FL Γ.1.cls idx 2 1) (hi : i < 9) (kk : GC κ μ Z kc ks nx ls (vi ((m 2 i).1 1) :: st) (World κ m)) : GC κ μ Z kc ks pc ls (.ref (ad κ 2 i) :: st) (World κ m) := g_getf F hd hf ck_2 hi rfl kk
theorem g_put_2_1 {κ : Kx} {Γ : Gm} {d mc ms : Nat} {μ : MX} {Z : State → Prop} {kc ks pc nx idx : Nat} {ls : List (Option Value)} {st : List Value} {m : Mem} {i : Nat} {y : Int} (F : Fx κ Γ d mc ms μ) (hd : AT 3 Γ.2.1 pc (.putfield idx) nx) (hf : FL Γ.1.cls idx 2 1) (hi : i < 9) (kk : GC κ μ Z kc ks nx ls st (World κ (mset m 2 i (fup (m 2 i).1 1 y, (m 2 i).2)))) : GC κ μ Z kc ks pc ls (vi y :: .ref (ad κ 2 i) :: st) (World κ m) := g_putf F hd hf ck_2 hi rfl rfl rfl (Nat.le_of_ble_eq_true rfl) rfl kk
theorem g_get_2_2 {κ : Kx} {Γ : Gm} {d mc ms : Nat} {μ : MX} {Z : State → Prop} {kc ks pc nx idx : Nat} {ls : List (Option Value)} {st : List Value} {m : Mem} {i : Nat} (F : Fx κ Γ d mc ms μ) (hd : AT 3 Γ.2.1 pc (.getfield idx) nx) (hf : FL Γ.1.cls idx 2 2) (hi : i < 9) (kk : GC κ μ Z kc ks nx ls (vi ((m 2 i).1 2) :: st) (World κ m)) : GC κ μ Z kc ks pc ls (.ref (ad κ 2 i) :: st) (World κ m) := g_getf F hd hf ck_2 hi rfl kk
theorem g_put_2_2 {κ : Kx} {Γ : Gm} {d mc ms : Nat} {μ : MX} {Z : State → Prop} {kc ks pc nx idx : Nat} {ls : List (Option Value)} {st : List Value} {m : Mem} {i : Nat} {y : Int} (F : Fx κ Γ d mc ms μ) (hd : AT 3 Γ.2.1 pc (.putfield idx) nx) (hf : FL Γ.1.cls idx 2 2) (hi : i < 9) (kk : GC κ μ Z kc ks nx ls st (World κ (mset m 2 i (fup (m 2 i).1 2 y, (m 2 i).2)))) : GC κ μ Z kc ks pc ls (vi y :: .ref (ad κ 2 i) :: st) (World κ m) := g_putf F hd hf ck_2 hi rfl rfl rfl (Nat.le_of_ble_eq_true rfl) rfl kk
theorem g_get_2_3 {κ : Kx} {Γ : Gm} {d mc ms : Nat} {μ : MX} {Z : State → Prop} {kc ks pc nx idx : Nat} {ls : List (Option Value)} {st : List Value} {m : Mem} {i : Nat} (F : Fx κ Γ d mc ms μ) (hd : AT 3 Γ.2.1 pc (.getfield idx) nx) (hf : FL Γ.1.cls idx 2 3) (hi : i < 9) (kk : GC κ μ Z kc ks nx ls (vi ((m 2 i).1 3) :: st) (World κ m)) : GC κ μ Z kc ks pc ls (.ref (ad κ 2 i) :: st) (World κ m) := g_getf F hd hf ck_2 hi rfl kk
theorem g_put_2_3 {κ : Kx} {Γ : Gm} {d mc ms : Nat} {μ : MX} {Z : State → Prop} {kc ks pc nx idx : Nat} {ls : List (Option Value)} {st : List Value} {m : Mem} {i : Nat} {y : Int} (F : Fx κ Γ d mc ms μ) (hd : AT 3 Γ.2.1 pc (.putfield idx) nx) (hf : FL Γ.1.cls idx 2 3) (hi : i < 9) (kk : GC κ μ Z kc ks nx ls st (World κ (mset m 2 i (fup (m 2 i).1 3 y, (m 2 i).2)))) : GC κ μ Z kc ks pc ls (vi y :: .ref (ad κ 2 i) :: st) (World κ m) := g_putf F hd hf ck_2 hi rfl rfl rfl (Nat.le_of_ble_eq_true rfl) rfl kk
theorem g_get_2_4 {κ : Kx} {Γ : Gm} {d mc ms : Nat} {μ : MX} {Z : State → Prop} {kc ks pc nx idx : Nat} {ls : List (Option Value)} {st : List Value} {m : Mem} {i : Nat} (F : Fx κ Γ d mc ms μ) (hd : AT 3 Γ.2.1 pc (.getfield idx) nx) (hf : FL Γ.1.cls idx 2 4) (hi : i < 9) (kk : GC κ μ Z kc ks nx ls (vi ((m 2 i).1 4) :: st) (World κ m)) : GC κ μ Z kc ks pc ls (.ref (ad κ 2 i) :: st) (World κ m) := g_getf F hd hf ck_2 hi rfl kk
theorem g_put_2_4 {κ : Kx} {Γ : Gm} {d mc ms : Nat} {μ : MX} {Z : State → Prop} {kc ks pc nx idx : Nat} {ls : List (Option Value)} {st : List Value} {m : Mem} {i : Nat} {y : Int} (F : Fx κ Γ d mc ms μ) (hd : AT 3 Γ.2.1 pc (.putfield idx) nx) (hf : FL Γ.1.cls idx 2 4) (hi : i < 9) (kk : GC κ μ Z kc ks nx ls st (World κ (mset m 2 i (fup (m 2 i).1 4 y, (m 2 i).2)))) : GC κ μ Z kc ks pc ls (vi y :: .ref (ad κ 2 i) :: st) (World κ m) := g_putf F hd hf ck_2 hi rfl rfl rfl (Nat.le_of_ble_eq_true rfl) rfl kk
theorem g_get_2_5 {κ : Kx} {Γ : Gm} {d mc ms : Nat} {μ : MX} {Z : State → Prop} {kc ks pc nx idx : Nat} {ls : List (Option Value)} {st : List Value} {m : Mem} {i : Nat} (F : Fx κ Γ d mc ms μ) (hd : AT 3 Γ.2.1 pc (.getfield idx) nx) (hf : FL Γ.1.cls idx 2 5) (hi : i < 9) (kk : GC κ μ Z kc ks nx ls (vi ((m 2 i).1 5) :: st) (World κ m)) : GC κ μ Z kc ks pc ls (.ref (ad κ 2 i) :: st) (World κ m) := g_getf F hd hf ck_2 hi rfl kk
theorem g_put_2_5 {κ : Kx} {Γ : Gm} {d mc ms : Nat} {μ : MX} {Z : State → Prop} {kc ks pc nx idx : Nat} {ls : List (Option Value)} {st : List Value} {m : Mem} {i : Nat} {y : Int} (F : Fx κ Γ d mc ms μ) (hd : AT 3 Γ.2.1 pc (.putfield idx) nx) (hf : FL Γ.1.cls idx 2 5) (hi : i < 9) (kk : GC κ μ Z kc ks nx ls st (World κ (mset m 2 i (fup (m 2 i).1 5 y, (m 2 i).2)))) : GC κ μ Z kc ks pc ls (vi y :: .ref (ad κ 2 i) :: st) (World κ m) := g_putf F hd hf ck_2 hi rfl rfl rfl (Nat.le_of_ble_eq_true rfl) rfl kk
theorem g_get_2_6 {κ : Kx} {Γ : Gm} {d mc ms : Nat} {μ : MX} {Z : State → Prop} {kc ks pc nx idx : Nat} {ls : List (Option Value)} {st : List Value} {m : Mem} {i : Nat} (F : Fx κ Γ d mc ms μ) (hd : AT 3 Γ.2.1 pc (.getfield idx) nx) (hf : FL Γ.1.cls idx 2 6) (hi : i < 9) (kk : GC κ μ Z kc ks nx ls (.ref (aa κ 2 i 0) :: st) (World κ m)) : GC κ μ Z kc ks pc ls (.ref (ad κ 2 i) :: st) (World κ m) := g_getf F hd hf ck_2 hi rfl kk
theorem g_get_2_7 {κ : Kx} {Γ : Gm} {d mc ms : Nat} {μ : MX} {Z : State → Prop} {kc ks pc nx idx : Nat} {ls : List (Option Value)} {st : List Value} {m : Mem} {i : Nat} (F : Fx κ Γ d mc ms μ) (hd : AT 3 Γ.2.1 pc (.getfield idx) nx) (hf : FL Γ.1.cls idx 2 7) (hi : i < 9) (kk : GC κ μ Z kc ks nx ls (.ref (aa κ 2 i 1) :: st) (World κ m)) : GC κ μ Z kc ks pc ls (.ref (ad κ 2 i) :: st) (World κ m) := g_getf F hd hf ck_2 hi rfl kk
theorem g_get_2_8 {κ : Kx} {Γ : Gm} {d mc ms : Nat} {μ : MX} {Z : State → Prop} {kc ks pc nx idx : Nat} {ls : List (Option Value)} {st : List Value} {m : Mem} {i : Nat} (F : Fx κ Γ d mc ms μ) (hd : AT 3 Γ.2.1 pc (.getfield idx) nx) (hf : FL Γ.1.cls idx 2 8) (hi : i < 9) (kk : GC κ μ Z kc ks nx ls (.ref (aa κ 2 i 2) :: st) (World κ m)) : GC κ μ Z kc ks pc ls (.ref (ad κ 2 i) :: st) (World κ m) := g_getf F hd hf ck_2 hi rfl kk
theorem g_get_2_9 {κ : Kx} {Γ : Gm} {d mc ms : Nat} {μ : MX} {Z : State → Prop} {kc ks pc nx idx : Nat} {ls : List (Option Value)} {st : List Value} {m : Mem} {i : Nat} (F : Fx κ Γ d mc ms μ) (hd : AT 3 Γ.2.1 pc (.getfield idx) nx) (hf : FL Γ.1.cls idx 2 9) (hi : i < 9) (kk : GC κ μ Z kc ks nx ls (.ref (aa κ 2 i 3) :: st) (World κ m)) : GC κ μ Z kc ks pc ls (.ref (ad κ 2 i) :: st) (World κ m) := g_getf F hd hf ck_2 hi rfl kk
theorem g_ild_2_0 {κ : Kx} {Γ : Gm} {d mc ms : Nat} {μ : MX} {Z : State → Prop} {kc ks pc nx idx : Nat} {ls : List (Option Value)} {st : List Value} {m : Mem} {i : Nat} {x : Int} (F : Fx κ Γ d mc ms μ) (hd : AT 1 Γ.2.1 pc .iaload nx) (hi : i < 9) (hx : 0 ≤ x ∧ x < 6) (kk : GC κ μ Z kc ks nx ls (vi ((m 2 i).2 0 x) :: st) (World κ m)) : GC κ μ Z kc ks pc ls (vi x :: .ref (aa κ 2 i 0) :: st) (World κ m) := g_iald F hd hi (by decide) (fun _ => rfl) (by decide) hx.1 hx.2 kk
theorem g_ist_2_0 {κ : Kx} {Γ : Gm} {d mc ms : Nat} {μ : MX} {Z : State → Prop} {kc ks pc nx idx : Nat} {ls : List (Option Value)} {st : List Value} {m : Mem} {i : Nat} {x y : Int} (F : Fx κ Γ d mc ms μ) (hd : AT 1 Γ.2.1 pc .iastore nx) (hi : i < 9) (hx : 0 ≤ x ∧ x < 6) (kk : GC κ μ Z kc ks nx ls st (World κ (mset m 2 i ((m 2 i).1, aup (m 2 i).2 0 (gup ((m 2 i).2 0) x y))))) : GC κ μ Z kc ks pc ls (vi y :: vi x :: .ref (aa κ 2 i 0) :: st) (World κ m) := g_iast F hd hi (by decide) (fun _ => rfl) (by decide) hx.1 hx.2 kk
theorem g_ild_2_1 {κ : Kx} {Γ : Gm} {d mc ms : Nat} {μ : MX} {Z : State → Prop} {kc ks pc nx idx : Nat} {ls : List (Option Value)} {st : List Value} {m : Mem} {i : Nat} {x : Int} (F : Fx κ Γ d mc ms μ) (hd : AT 1 Γ.2.1 pc .iaload nx) (hi : i < 9) (hx : 0 ≤ x ∧ x < 6) (kk : GC κ μ Z kc ks nx ls (vi ((m 2 i).2 1 x) :: st) (World κ m)) : GC κ μ Z kc ks pc ls (vi x :: .ref (aa κ 2 i 1) :: st) (World κ m) := g_iald F hd hi (by decide) (fun _ => rfl) (by decide) hx.1 hx.2 kk
theorem g_ist_2_1 {κ : Kx} {Γ : Gm} {d mc ms : Nat} {μ : MX} {Z : State → Prop} {kc ks pc nx idx : Nat} {ls : List (Option Value)} {st : List Value} {m : Mem} {i : Nat} {x y : Int} (F : Fx κ Γ d mc ms μ) (hd : AT 1 Γ.2.1 pc .iastore nx) (hi : i < 9) (hx : 0 ≤ x ∧ x < 6) (kk : GC κ μ Z kc ks nx ls st (World κ (mset m 2 i ((m 2 i).1, aup (m 2 i).2 1 (gup ((m 2 i).2 1) x y))))) : GC κ μ Z kc ks pc ls (vi y :: vi x :: .ref (aa κ 2 i 1) :: st) (World κ m) := g_iast F hd hi (by decide) (fun _ => rfl) (by decide) hx.1 hx.2 kk
theorem g_ild_2_2 {κ : Kx} {Γ : Gm} {d mc ms : Nat} {μ : MX} {Z : State → Prop} {kc ks pc nx idx : Nat} {ls : List (Option Value)} {st : List Value} {m : Mem} {i : Nat} {x : Int} (F : Fx κ Γ d mc ms μ) (hd : AT 1 Γ.2.1 pc .iaload nx) (hi : i < 9) (hx : 0 ≤ x ∧ x < 6) (kk : GC κ μ Z kc ks nx ls (vi ((m 2 i).2 2 x) :: st) (World κ m)) : GC κ μ Z kc ks pc ls (vi x :: .ref (aa κ 2 i 2) :: st) (World κ m) := g_iald F hd hi (by decide) (fun _ => rfl) (by decide) hx.1 hx.2 kk
theorem g_ist_2_2 {κ : Kx} {Γ : Gm} {d mc ms : Nat} {μ : MX} {Z : State → Prop} {kc ks pc nx idx : Nat} {ls : List (Option Value)} {st : List Value} {m : Mem} {i : Nat} {x y : Int} (F : Fx κ Γ d mc ms μ) (hd : AT 1 Γ.2.1 pc .iastore nx) (hi : i < 9) (hx : 0 ≤ x ∧ x < 6) (kk : GC κ μ Z kc ks nx ls st (World κ (mset m 2 i ((m 2 i).1, aup (m 2 i).2 2 (gup ((m 2 i).2 2) x y))))) : GC κ μ Z kc ks pc ls (vi y :: vi x :: .ref (aa κ 2 i 2) :: st) (World κ m) := g_iast F hd hi (by decide) (fun _ => rfl) (by decide) hx.1 hx.2 kk
theorem g_ild_2_3 {κ : Kx} {Γ : Gm} {d mc ms : Nat} {μ : MX} {Z : State → Prop} {kc ks pc nx idx : Nat} {ls : List (Option Value)} {st : List Value} {m : Mem} {i : Nat} {x : Int} (F : Fx κ Γ d mc ms μ) (hd : AT 1 Γ.2.1 pc .iaload nx) (hi : i < 9) (hx : 0 ≤ x ∧ x < 3) (kk : GC κ μ Z kc ks nx ls (vi ((m 2 i).2 3 x) :: st) (World κ m)) : GC κ μ Z kc ks pc ls (vi x :: .ref (aa κ 2 i 3) :: st) (World κ m) := g_iald F hd hi (by decide) (fun _ => rfl) (by decide) hx.1 hx.2 kk
theorem g_ist_2_3 {κ : Kx} {Γ : Gm} {d mc ms : Nat} {μ : MX} {Z : State → Prop} {kc ks pc nx idx : Nat} {ls : List (Option Value)} {st : List Value} {m : Mem} {i : Nat} {x y : Int} (F : Fx κ Γ d mc ms μ) (hd : AT 1 Γ.2.1 pc .iastore nx) (hi : i < 9) (hx : 0 ≤ x ∧ x < 3) (kk : GC κ μ Z kc ks nx ls st (World κ (mset m 2 i ((m 2 i).1, aup (m 2 i).2 3 (gup ((m 2 i).2 3) x y))))) : GC κ μ Z kc ks pc ls (vi y :: vi x :: .ref (aa κ 2 i 3) :: st) (World κ m) := g_iast F hd hi (by decide) (fun _ => rfl) (by decide) hx.1 hx.2 kk
theorem g_get_3_0 {κ : Kx} {Γ : Gm} {d mc ms : Nat} {μ : MX} {Z : State → Prop} {kc ks pc nx idx : Nat} {ls : List (Option Value)} {st : List Value} {m : Mem} {i : Nat} (F : Fx κ Γ d mc ms μ) (hd : AT 3 Γ.2.1 pc (.getfield idx) nx) (hf : FL Γ.1.cls idx 3 0) (hi : i < 9) (kk : GC κ μ Z kc ks nx ls (vi ((m 3 i).1 0) :: st) (World κ m)) : GC κ μ Z kc ks pc ls (.ref (ad κ 3 i) :: st) (World κ m) := g_getf F hd hf ck_3 hi rfl kk
theorem g_put_3_0 {κ : Kx} {Γ : Gm} {d mc ms : Nat} {μ : MX} {Z : State → Prop} {kc ks pc nx idx : Nat} {ls : List (Option Value)} {st : List Value} {m : Mem} {i : Nat} {y : Int} (F : Fx κ Γ d mc ms μ) (hd : AT 3 Γ.2.1 pc (.putfield idx) nx) (hf : FL Γ.1.cls idx 3 0) (hi : i < 9) (kk : GC κ μ Z kc ks nx ls st (World κ (mset m 3 i (fup (m 3 i).1 0 y, (m 3 i).2)))) : GC κ μ Z kc ks pc ls (vi y :: .ref (ad κ 3 i) :: st) (World κ m) := g_putf F hd hf ck_3 hi rfl rfl rfl (Nat.le_of_ble_eq_true rfl) rfl kk
theorem g_get_3_1 {κ : Kx} {Γ : Gm} {d mc ms : Nat} {μ : MX} {Z : State → Prop} {kc ks pc nx idx : Nat} {ls : List (Option Value)} {st : List Value} {m : Mem} {i : Nat} (F : Fx κ Γ d mc ms μ) (hd : AT 3 Γ.2.1 pc (.getfield idx) nx) (hf : FL Γ.1.cls idx 3 1) (hi : i < 9) (kk : GC κ μ Z kc ks nx ls (vi ((m 3 i).1 1) :: st) (World κ m)) : GC κ μ Z kc ks pc ls (.ref (ad κ 3 i) :: st) (World κ m) := g_getf F hd hf ck_3 hi rfl kk
theorem g_get_3_2 {κ : Kx} {Γ : Gm} {d mc ms : Nat} {μ : MX} {Z : State → Prop} {kc ks pc nx idx : Nat} {ls : List (Option Value)} {st : List Value} {m : Mem} {i : Nat} (F : Fx κ Γ d mc ms μ) (hd : AT 3 Γ.2.1 pc (.getfield idx) nx) (hf : FL Γ.1.cls idx 3 2) (hi : i < 9) (kk : GC κ μ Z kc ks nx ls (.ref (aa κ 3 i 0) :: st) (World κ m)) : GC κ μ Z kc ks pc ls (.ref (ad κ 3 i) :: st) (World κ m) := g_getf F hd hf ck_3 hi rfl kk
theorem g_ild_3_0 {κ : Kx} {Γ : Gm} {d mc ms : Nat} {μ : MX} {Z : State → Prop} {kc ks pc nx idx : Nat} {ls : List (Option Value)} {st : List Value} {m : Mem} {i : Nat} {x : Int} (F : Fx κ Γ d mc ms μ) (hd : AT 1 Γ.2.1 pc .iaload nx) (hi : i < 9) (hx : 0 ≤ x ∧ x < 24) (kk : GC κ μ Z kc ks nx ls (vi ((m 3 i).2 0 x) :: st) (World κ m)) : GC κ μ Z kc ks pc ls (vi x :: .ref (aa κ 3 i 0) :: st) (World κ m) := g_iald F hd hi (by decide) (fun _ => rfl) (by decide) hx.1 hx.2 kk
theorem g_ist_3_0 {κ : Kx} {Γ : Gm} {d mc ms : Nat} {μ : MX} {Z : State → Prop} {kc ks pc nx idx : Nat} {ls : List (Option Value)} {st : List Value} {m : Mem} {i : Nat} {x y : Int} (F : Fx κ Γ d mc ms μ) (hd : AT 1 Γ.2.1 pc .iastore nx) (hi : i < 9) (hx : 0 ≤ x ∧ x < 24) (kk : GC κ μ Z kc ks nx ls st (World κ (mset m 3 i ((m 3 i).1, aup (m 3 i).2 0 (gup ((m 3 i).2 0) x y))))) : GC κ μ Z kc ks pc ls (vi y :: vi x :: .ref (aa κ 3 i 0) :: st) (World κ m) := g_iast F hd hi (by decide) (fun _ => rfl) (by decide) hx.1 hx.2 kk
theorem g_get_4_0 {κ : Kx} {Γ : Gm} {d mc ms : Nat} {μ : MX} {Z : State → Prop} {kc ks pc nx idx : Nat} {ls : List (Option Value)} {st : List Value} {m : Mem} {i : Nat} (F : Fx κ Γ d mc ms μ) (hd : AT 3 Γ.2.1 pc (.getfield idx) nx) (hf : FL Γ.1.cls idx 4 0) (hi : i < 3) (kk : GC κ μ Z kc ks nx ls (vi ((m 4 i).1 0) :: st) (World κ m)) : GC κ μ Z kc ks pc ls (.ref (ad κ 4 i) :: st) (World κ m) := g_getf F hd hf ck_4 hi rfl kk
theorem g_put_4_0 {κ : Kx} {Γ : Gm} {d mc ms : Nat} {μ : MX} {Z : State → Prop} {kc ks pc nx idx : Nat} {ls : List (Option Value)} {st : List Value} {m : Mem} {i : Nat} {y : Int} (F : Fx κ Γ d mc ms μ) (hd : AT 3 Γ.2.1 pc (.putfield idx) nx) (hf : FL Γ.1.cls idx 4 0) (hi : i < 3) (kk : GC κ μ Z kc ks nx ls st (World κ (mset m 4 i (fup (m 4 i).1 0 y, (m 4 i).2)))) : GC κ μ Z kc ks pc ls (vi y :: .ref (ad κ 4 i) :: st) (World κ m) := g_putf F hd hf ck_4 hi rfl rfl rfl (Nat.le_of_ble_eq_true rfl) rfl kk
theorem g_get_4_1 {κ : Kx} {Γ : Gm} {d mc ms : Nat} {μ : MX} {Z : State → Prop} {kc ks pc nx idx : Nat} {ls : List (Option Value)} {st : List Value} {m : Mem} {i : Nat} (F : Fx κ Γ d mc ms μ) (hd : AT 3 Γ.2.1 pc (.getfield idx) nx) (hf : FL Γ.1.cls idx 4 1) (hi : i < 3) (kk : GC κ μ Z kc ks nx ls (.ref (aa κ 4 i 0) :: st) (World κ m)) : GC κ μ Z kc ks pc ls (.ref (ad κ 4 i) :: st) (World κ m) := g_getf F hd hf ck_4 hi rfl kk
theorem g_ild_4_0 {κ : Kx} {Γ : Gm} {d mc ms : Nat} {μ : MX} {Z : State → Prop} {kc ks pc nx idx : Nat} {ls : List (Option Value)} {st : List Value} {m : Mem} {i : Nat} {x : Int} (F : Fx κ Γ d mc ms μ) (hd : AT 1 Γ.2.1 pc .iaload nx) (hi : i < 3) (hx : 0 ≤ x ∧ x < 72) (kk : GC κ μ Z kc ks nx ls (vi ((m 4 i).2 0 x) :: st) (World κ m)) : GC κ μ Z kc ks pc ls (vi x :: .ref (aa κ 4 i 0) :: st) (World κ m) := g_iald F hd hi (by decide) (fun _ => rfl) (by decide) hx.1 hx.2 kk
theorem g_ist_4_0 {κ : Kx} {Γ : Gm} {d mc ms : Nat} {μ : MX} {Z : State → Prop} {kc ks pc nx idx : Nat} {ls : List (Option Value)} {st : List Value} {m : Mem} {i : Nat} {x y : Int} (F : Fx κ Γ d mc ms μ) (hd : AT 1 Γ.2.1 pc .iastore nx) (hi : i < 3) (hx : 0 ≤ x ∧ x < 72) (kk : GC κ μ Z kc ks nx ls st (World κ (mset m 4 i ((m 4 i).1, aup (m 4 i).2 0 (gup ((m 4 i).2 0) x y))))) : GC κ μ Z kc ks pc ls (vi y :: vi x :: .ref (aa κ 4 i 0) :: st) (World κ m) := g_iast F hd hi (by decide) (fun _ => rfl) (by decide) hx.1 hx.2 kk
theorem g_get_5_0 {κ : Kx} {Γ : Gm} {d mc ms : Nat} {μ : MX} {Z : State → Prop} {kc ks pc nx idx : Nat} {ls : List (Option Value)} {st : List Value} {m : Mem} (F : Fx κ Γ d mc ms μ) (hd : AT 3 Γ.2.1 pc (.getfield idx) nx) (hf : FL Γ.1.cls idx 5 0) (kk : GC κ μ Z kc ks nx ls (vi ((m 5 0).1 0) :: st) (World κ m)) : GC κ μ Z kc ks pc ls (.ref (ad κ 5 0) :: st) (World κ m) := g_getf F hd hf ck_5 (by decide) rfl kk
theorem g_put_5_0 {κ : Kx} {Γ : Gm} {d mc ms : Nat} {μ : MX} {Z : State → Prop} {kc ks pc nx idx : Nat} {ls : List (Option Value)} {st : List Value} {m : Mem} {y : Int} (F : Fx κ Γ d mc ms μ) (hd : AT 3 Γ.2.1 pc (.putfield idx) nx) (hf : FL Γ.1.cls idx 5 0) (kk : GC κ μ Z kc ks nx ls st (World κ (mset m 5 0 (fup (m 5 0).1 0 y, (m 5 0).2)))) : GC κ μ Z kc ks pc ls (vi y :: .ref (ad κ 5 0) :: st) (World κ m) := g_putf F hd hf ck_5 (by decide) rfl rfl rfl (Nat.le_of_ble_eq_true rfl) rfl kk
theorem g_get_5_1 {κ : Kx} {Γ : Gm} {d mc ms : Nat} {μ : MX} {Z : State → Prop} {kc ks pc nx idx : Nat} {ls : List (Option Value)} {st : List Value} {m : Mem} (F : Fx κ Γ d mc ms μ) (hd : AT 3 Γ.2.1 pc (.getfield idx) nx) (hf : FL Γ.1.cls idx 5 1) (kk : GC κ μ Z kc ks nx ls (.ref (aa κ 5 0 0) :: st) (World κ m)) : GC κ μ Z kc ks pc ls (.ref (ad κ 5 0) :: st) (World κ m) := g_getf F hd hf ck_5 (by decide) rfl kk
theorem g_get_5_2 {κ : Kx} {Γ : Gm} {d mc ms : Nat} {μ : MX} {Z : State → Prop} {kc ks pc nx idx : Nat} {ls : List (Option Value)} {st : List Value} {m : Mem} (F : Fx κ Γ d mc ms μ) (hd : AT 3 Γ.2.1 pc (.getfield idx) nx) (hf : FL Γ.1.cls idx 5 2) (kk : GC κ μ Z kc ks nx ls (vi ((m 5 0).1 2) :: st) (World κ m)) : GC κ μ Z kc ks pc ls (.ref (ad κ 5 0) :: st) (World κ m) := g_getf F hd hf ck_5 (by decide) rfl kk
theorem g_put_5_2 {κ : Kx} {Γ : Gm} {d mc ms : Nat} {μ : MX} {Z : State → Prop} {kc ks pc nx idx : Nat} {ls : List (Option Value)} {st : List Value} {m : Mem} {y : Int} (F : Fx κ Γ d mc ms μ) (hd : AT 3 Γ.2.1 pc (.putfield idx) nx) (hf : FL Γ.1.cls idx 5 2) (kk : GC κ μ Z kc ks nx ls st (World κ (mset m 5 0 (fup (m 5 0).1 2 y, (m 5 0).2)))) : GC κ μ Z kc ks pc ls (vi y :: .ref (ad κ 5 0) :: st) (World κ m) := g_putf F hd hf ck_5 (by decide) rfl rfl rfl (Nat.le_of_ble_eq_true rfl) rfl kk
theorem g_get_5_3 {κ : Kx} {Γ : Gm} {d mc ms : Nat} {μ : MX} {Z : State → Prop} {kc ks pc nx idx : Nat} {ls : List (Option Value)} {st : List Value} {m : Mem} (F : Fx κ Γ d mc ms μ) (hd : AT 3 Γ.2.1 pc (.getfield idx) nx) (hf : FL Γ.1.cls idx 5 3) (kk : GC κ μ Z kc ks nx ls (vi ((m 5 0).1 3) :: st) (World κ m)) : GC κ μ Z kc ks pc ls (.ref (ad κ 5 0) :: st) (World κ m) := g_getf F hd hf ck_5 (by decide) rfl kk
theorem g_put_5_3 {κ : Kx} {Γ : Gm} {d mc ms : Nat} {μ : MX} {Z : State → Prop} {kc ks pc nx idx : Nat} {ls : List (Option Value)} {st : List Value} {m : Mem} {y : Int} (F : Fx κ Γ d mc ms μ) (hd : AT 3 Γ.2.1 pc (.putfield idx) nx) (hf : FL Γ.1.cls idx 5 3) (kk : GC κ μ Z kc ks nx ls st (World κ (mset m 5 0 (fup (m 5 0).1 3 y, (m 5 0).2)))) : GC κ μ Z kc ks pc ls (vi y :: .ref (ad κ 5 0) :: st) (World κ m) := g_putf F hd hf ck_5 (by decide) rfl rfl rfl (Nat.le_of_ble_eq_true rfl) rfl kk
theorem g_get_5_4 {κ : Kx} {Γ : Gm} {d mc ms : Nat} {μ : MX} {Z : State → Prop} {kc ks pc nx idx : Nat} {ls : List (Option Value)} {st : List Value} {m : Mem} (F : Fx κ Γ d mc ms μ) (hd : AT 3 Γ.2.1 pc (.getfield idx) nx) (hf : FL Γ.1.cls idx 5 4) (kk : GC κ μ Z kc ks nx ls (vi ((m 5 0).1 4) :: st) (World κ m)) : GC κ μ Z kc ks pc ls (.ref (ad κ 5 0) :: st) (World κ m) := g_getf F hd hf ck_5 (by decide) rfl kk
theorem g_put_5_4 {κ : Kx} {Γ : Gm} {d mc ms : Nat} {μ : MX} {Z : State → Prop} {kc ks pc nx idx : Nat} {ls : List (Option Value)} {st : List Value} {m : Mem} {y : Int} (F : Fx κ Γ d mc ms μ) (hd : AT 3 Γ.2.1 pc (.putfield idx) nx) (hf : FL Γ.1.cls idx 5 4) (kk : GC κ μ Z kc ks nx ls st (World κ (mset m 5 0 (fup (m 5 0).1 4 y, (m 5 0).2)))) : GC κ μ Z kc ks pc ls (vi y :: .ref (ad κ 5 0) :: st) (World κ m) := g_putf F hd hf ck_5 (by decide) rfl rfl rfl (Nat.le_of_ble_eq_true rfl) rfl kk
theorem g_get_5_5 {κ : Kx} {Γ : Gm} {d mc ms : Nat} {μ : MX} {Z : State → Prop} {kc ks pc nx idx : Nat} {ls : List (Option Value)} {st : List Value} {m : Mem} (F : Fx κ Γ d mc ms μ) (hd : AT 3 Γ.2.1 pc (.getfield idx) nx) (hf : FL Γ.1.cls idx 5 5) (kk : GC κ μ Z kc ks nx ls (vi ((m 5 0).1 5) :: st) (World κ m)) : GC κ μ Z kc ks pc ls (.ref (ad κ 5 0) :: st) (World κ m) := g_getf F hd hf ck_5 (by decide) rfl kk
theorem g_put_5_5 {κ : Kx} {Γ : Gm} {d mc ms : Nat} {μ : MX} {Z : State → Prop} {kc ks pc nx idx : Nat} {ls : List (Option Value)} {st : List Value} {m : Mem} {y : Int} (F : Fx κ Γ d mc ms μ) (hd : AT 3 Γ.2.1 pc (.putfield idx) nx) (hf : FL Γ.1.cls idx 5 5) (kk : GC κ μ Z kc ks nx ls st (World κ (mset m 5 0 (fup (m 5 0).1 5 y, (m 5 0).2)))) : GC κ μ Z kc ks pc ls (vi y :: .ref (ad κ 5 0) :: st) (World κ m) := g_putf F hd hf ck_5 (by decide) rfl rfl rfl (Nat.le_of_ble_eq_true rfl) rfl kk
theorem g_ild_5_0 {κ : Kx} {Γ : Gm} {d mc ms : Nat} {μ : MX} {Z : State → Prop} {kc ks pc nx idx : Nat} {ls : List (Option Value)} {st : List Value} {m : Mem} {x : Int} (F : Fx κ Γ d mc ms μ) (hd : AT 1 Γ.2.1 pc .iaload nx) (hx : 0 ≤ x ∧ x < 150) (kk : GC κ μ Z kc ks nx ls (vi ((m 5 0).2 0 x) :: st) (World κ m)) : GC κ μ Z kc ks pc ls (vi x :: .ref (aa κ 5 0 0) :: st) (World κ m) := g_iald F hd (by decide) (by decide) (fun _ => rfl) (by decide) hx.1 hx.2 kk
theorem g_ist_5_0 {κ : Kx} {Γ : Gm} {d mc ms : Nat} {μ : MX} {Z : State → Prop} {kc ks pc nx idx : Nat} {ls : List (Option Value)} {st : List Value} {m : Mem} {x y : Int} (F : Fx κ Γ d mc ms μ) (hd : AT 1 Γ.2.1 pc .iastore nx) (hx : 0 ≤ x ∧ x < 150) (kk : GC κ μ Z kc ks nx ls st (World κ (mset m 5 0 ((m 5 0).1, aup (m 5 0).2 0 (gup ((m 5 0).2 0) x y))))) : GC κ μ Z kc ks pc ls (vi y :: vi x :: .ref (aa κ 5 0 0) :: st) (World κ m) := g_iast F hd (by decide) (by decide) (fun _ => rfl) (by decide) hx.1 hx.2 kk
theorem g_get_6_0 {κ : Kx} {Γ : Gm} {d mc ms : Nat} {μ : MX} {Z : State → Prop} {kc ks pc nx idx : Nat} {ls : List (Option Value)} {st : List Value} {m : Mem} (F : Fx κ Γ d mc ms μ) (hd : AT 3 Γ.2.1 pc (.getfield idx) nx) (hf : FL Γ.1.cls idx 6 0) (kk : GC κ μ Z kc ks nx ls (.ref (aa κ 6 0 0) :: st) (World κ m)) : GC κ μ Z kc ks pc ls (.ref (ad κ 6 0) :: st) (World κ m) := g_getf F hd hf ck_6 (by decide) rfl kk
theorem g_get_6_1 {κ : Kx} {Γ : Gm} {d mc ms : Nat} {μ : MX} {Z : State → Prop} {kc ks pc nx idx : Nat} {ls : List (Option Value)} {st : List Value} {m : Mem} (F : Fx κ Γ d mc ms μ) (hd : AT 3 Γ.2.1 pc (.getfield idx) nx) (hf : FL Γ.1.cls idx 6 1) (kk : GC κ μ Z kc ks nx ls (.ref (aa κ 6 0 1) :: st) (World κ m)) : GC κ μ Z kc ks pc ls (.ref (ad κ 6 0) :: st) (World κ m) := g_getf F hd hf ck_6 (by decide) rfl kk
theorem g_ild_6_0 {κ : Kx} {Γ : Gm} {d mc ms : Nat} {μ : MX} {Z : State → Prop} {kc ks pc nx idx : Nat} {ls : List (Option Value)} {st : List Value} {m : Mem} {x : Int} (F : Fx κ Γ d mc ms μ) (hd : AT 1 Γ.2.1 pc .iaload nx) (hx : 0 ≤ x ∧ x < 5) (kk : GC κ μ Z kc ks nx ls (vi ((m 6 0).2 0 x) :: st) (World κ m)) : GC κ μ Z kc ks pc ls (vi x :: .ref (aa κ 6 0 0) :: st) (World κ m) := g_iald F hd (by decide) (by decide) (fun _ => rfl) (by decide) hx.1 hx.2 kk
theorem g_ist_6_0 {κ : Kx} {Γ : Gm} {d mc ms : Nat} {μ : MX} {Z : State → Prop} {kc ks pc nx idx : Nat} {ls : List (Option Value)} {st : List Value} {m : Mem} {x y : Int} (F : Fx κ Γ d mc ms μ) (hd : AT 1 Γ.2.1 pc .iastore nx) (hx : 0 ≤ x ∧ x < 5) (kk : GC κ μ Z kc ks nx ls st (World κ (mset m 6 0 ((m 6 0).1, aup (m 6 0).2 0 (gup ((m 6 0).2 0) x y))))) : GC κ μ Z kc ks pc ls (vi y :: vi x :: .ref (aa κ 6 0 0) :: st) (World κ m) := g_iast F hd (by decide) (by decide) (fun _ => rfl) (by decide) hx.1 hx.2 kk
theorem g_get_7_0 {κ : Kx} {Γ : Gm} {d mc ms : Nat} {μ : MX} {Z : State → Prop} {kc ks pc nx idx : Nat} {ls : List (Option Value)} {st : List Value} {m : Mem} (F : Fx κ Γ d mc ms μ) (hd : AT 3 Γ.2.1 pc (.getfield idx) nx) (hf : FL Γ.1.cls idx 7 0) (kk : GC κ μ Z kc ks nx ls (.ref (aa κ 7 0 0) :: st) (World κ m)) : GC κ μ Z kc ks pc ls (.ref (ad κ 7 0) :: st) (World κ m) := g_getf F hd hf ck_7 (by decide) rfl kk
theorem g_get_7_1 {κ : Kx} {Γ : Gm} {d mc ms : Nat} {μ : MX} {Z : State → Prop} {kc ks pc nx idx : Nat} {ls : List (Option Value)} {st : List Value} {m : Mem} (F : Fx κ Γ d mc ms μ) (hd : AT 3 Γ.2.1 pc (.getfield idx) nx) (hf : FL Γ.1.cls idx 7 1) (kk : GC κ μ Z kc ks nx ls (.ref (aa κ 7 0 1) :: st) (World κ m)) : GC κ μ Z kc ks pc ls (.ref (ad κ 7 0) :: st) (World κ m) := g_getf F hd hf ck_7 (by decide) rfl kk
theorem g_get_7_2 {κ : Kx} {Γ : Gm} {d mc ms : Nat} {μ : MX} {Z : State → Prop} {kc ks pc nx idx : Nat} {ls : List (Option Value)} {st : List Value} {m : Mem} (F : Fx κ Γ d mc ms μ) (hd : AT 3 Γ.2.1 pc (.getfield idx) nx) (hf : FL Γ.1.cls idx 7 2) (kk : GC κ μ Z kc ks nx ls (.ref (aa κ 7 0 2) :: st) (World κ m)) : GC κ μ Z kc ks pc ls (.ref (ad κ 7 0) :: st) (World κ m) := g_getf F hd hf ck_7 (by decide) rfl kk
theorem g_get_7_3 {κ : Kx} {Γ : Gm} {d mc ms : Nat} {μ : MX} {Z : State → Prop} {kc ks pc nx idx : Nat} {ls : List (Option Value)} {st : List Value} {m : Mem} (F : Fx κ Γ d mc ms μ) (hd : AT 3 Γ.2.1 pc (.getfield idx) nx) (hf : FL Γ.1.cls idx 7 3) (kk : GC κ μ Z kc ks nx ls (vi ((m 7 0).1 3) :: st) (World κ m)) : GC κ μ Z kc ks pc ls (.ref (ad κ 7 0) :: st) (World κ m) := g_getf F hd hf ck_7 (by decide) rfl kk
theorem g_put_7_3 {κ : Kx} {Γ : Gm} {d mc ms : Nat} {μ : MX} {Z : State → Prop} {kc ks pc nx idx : Nat} {ls : List (Option Value)} {st : List Value} {m : Mem} {y : Int} (F : Fx κ Γ d mc ms μ) (hd : AT 3 Γ.2.1 pc (.putfield idx) nx) (hf : FL Γ.1.cls idx 7 3) (kk : GC κ μ Z kc ks nx ls st (World κ (mset m 7 0 (fup (m 7 0).1 3 y, (m 7 0).2)))) : GC κ μ Z kc ks pc ls (vi y :: .ref (ad κ 7 0) :: st) (World κ m) := g_putf F hd hf ck_7 (by decide) rfl rfl rfl (Nat.le_of_ble_eq_true rfl) rfl kk
theorem g_ild_7_0 {κ : Kx} {Γ : Gm} {d mc ms : Nat} {μ : MX} {Z : State → Prop} {kc ks pc nx idx : Nat} {ls : List (Option Value)} {st : List Value} {m : Mem} {x : Int} (F : Fx κ Γ d mc ms μ) (hd : AT 1 Γ.2.1 pc .iaload nx) (hx : 0 ≤ x ∧ x < 6) (kk : GC κ μ Z kc ks nx ls (vi ((m 7 0).2 0 x) :: st) (World κ m)) : GC κ μ Z kc ks pc ls (vi x :: .ref (aa κ 7 0 0) :: st) (World κ m) := g_iald F hd (by decide) (by decide) (fun _ => rfl) (by decide) hx.1 hx.2 kk
theorem g_ist_7_0 {κ : Kx} {Γ : Gm} {d mc ms : Nat} {μ : MX} {Z : State → Prop} {kc ks pc nx idx : Nat} {ls : List (Option Value)} {st : List Value} {m : Mem} {x y : Int} (F : Fx κ Γ d mc ms μ) (hd : AT 1 Γ.2.1 pc .iastore nx) (hx : 0 ≤ x ∧ x < 6) (kk : GC κ μ Z kc ks nx ls st (World κ (mset m 7 0 ((m 7 0).1, aup (m 7 0).2 0 (gup ((m 7 0).2 0) x y))))) : GC κ μ Z kc ks pc ls (vi y :: vi x :: .ref (aa κ 7 0 0) :: st) (World κ m) := g_iast F hd (by decide) (by decide) (fun _ => rfl) (by decide) hx.1 hx.2 kk
theorem g_ild_7_1 {κ : Kx} {Γ : Gm} {d mc ms : Nat} {μ : MX} {Z : State → Prop} {kc ks pc nx idx : Nat} {ls : List (Option Value)} {st : List Value} {m : Mem} {x : Int} (F : Fx κ Γ d mc ms μ) (hd : AT 1 Γ.2.1 pc .iaload nx) (hx : 0 ≤ x ∧ x < 6) (kk : GC κ μ Z kc ks nx ls (vi ((m 7 0).2 1 x) :: st) (World κ m)) : GC κ μ Z kc ks pc ls (vi x :: .ref (aa κ 7 0 1) :: st) (World κ m) := g_iald F hd (by decide) (by decide) (fun _ => rfl) (by decide) hx.1 hx.2 kk
theorem g_ist_7_1 {κ : Kx} {Γ : Gm} {d mc ms : Nat} {μ : MX} {Z : State → Prop} {kc ks pc nx idx : Nat} {ls : List (Option Value)} {st : List Value} {m : Mem} {x y : Int} (F : Fx κ Γ d mc ms μ) (hd : AT 1 Γ.2.1 pc .iastore nx) (hx : 0 ≤ x ∧ x < 6) (kk : GC κ μ Z kc ks nx ls st (World κ (mset m 7 0 ((m 7 0).1, aup (m 7 0).2 1 (gup ((m 7 0).2 1) x y))))) : GC κ μ Z kc ks pc ls (vi y :: vi x :: .ref (aa κ 7 0 1) :: st) (World κ m) := g_iast F hd (by decide) (by decide) (fun _ => rfl) (by decide) hx.1 hx.2 kk
theorem g_ild_7_2 {κ : Kx} {Γ : Gm} {d mc ms : Nat} {μ : MX} {Z : State → Prop} {kc ks pc nx idx : Nat} {ls : List (Option Value)} {st : List Value} {m : Mem} {x : Int} (F : Fx κ Γ d mc ms μ) (hd : AT 1 Γ.2.1 pc .iaload nx) (hx : 0 ≤ x ∧ x < 6) (kk : GC κ μ Z kc ks nx ls (vi ((m 7 0).2 2 x) :: st) (World κ m)) : GC κ μ Z kc ks pc ls (vi x :: .ref (aa κ 7 0 2) :: st) (World κ m) := g_iald F hd (by decide) (by decide) (fun _ => rfl) (by decide) hx.1 hx.2 kk
theorem g_ist_7_2 {κ : Kx} {Γ : Gm} {d mc ms : Nat} {μ : MX} {Z : State → Prop} {kc ks pc nx idx : Nat} {ls : List (Option Value)} {st : List Value} {m : Mem} {x y : Int} (F : Fx κ Γ d mc ms μ) (hd : AT 1 Γ.2.1 pc .iastore nx) (hx : 0 ≤ x ∧ x < 6) (kk : GC κ μ Z kc ks nx ls st (World κ (mset m 7 0 ((m 7 0).1, aup (m 7 0).2 2 (gup ((m 7 0).2 2) x y))))) : GC κ μ Z kc ks pc ls (vi y :: vi x :: .ref (aa κ 7 0 2) :: st) (World κ m) := g_iast F hd (by decide) (by decide) (fun _ => rfl) (by decide) hx.1 hx.2 kk
theorem g_get_8_0 {κ : Kx} {Γ : Gm} {d mc ms : Nat} {μ : MX} {Z : State → Prop} {kc ks pc nx idx : Nat} {ls : List (Option Value)} {st : List Value} {m : Mem} (F : Fx κ Γ d mc ms μ) (hd : AT 3 Γ.2.1 pc (.getfield idx) nx) (hf : FL Γ.1.cls idx 8 0) (kk : GC κ μ Z kc ks nx ls (.ref (aa κ 8 0 0) :: st) (World κ m)) : GC κ μ Z kc ks pc ls (.ref (ad κ 8 0) :: st) (World κ m) := g_getf F hd hf ck_8 (by decide) rfl kk
theorem g_ild_8_0 {κ : Kx} {Γ : Gm} {d mc ms : Nat} {μ : MX} {Z : State → Prop} {kc ks pc nx idx : Nat} {ls : List (Option Value)} {st : List Value} {m : Mem} {x : Int} (F : Fx κ Γ d mc ms μ) (hd : AT 1 Γ.2.1 pc .iaload nx) (hx : 0 ≤ x ∧ x < 6) (kk : GC κ μ Z kc ks nx ls (vi ((m 8 0).2 0 x) :: st) (World κ m)) : GC κ μ Z kc ks pc ls (vi x :: .ref (aa κ 8 0 0) :: st) (World κ m) := g_iald F hd (by decide) (by decide) (fun _ => rfl) (by decide) hx.1 hx.2 kk
theorem g_ist_8_0 {κ : Kx} {Γ : Gm} {d mc ms : Nat} {μ : MX} {Z : State → Prop} {kc ks pc nx idx : Nat} {ls : List (Option Value)} {st : List Value} {m : Mem} {x y : Int} (F : Fx κ Γ d mc ms μ) (hd : AT 1 Γ.2.1 pc .iastore nx) (hx : 0 ≤ x ∧ x < 6) (kk : GC κ μ Z kc ks nx ls st (World κ (mset m 8 0 ((m 8 0).1, aup (m 8 0).2 0 (gup ((m 8 0).2 0) x y))))) : GC κ μ Z kc ks pc ls (vi y :: vi x :: .ref (aa κ 8 0 0) :: st) (World κ m) := g_iast F hd (by decide) (by decide) (fun _ => rfl) (by decide) hx.1 hx.2 kk
theorem g_get_9_0 {κ : Kx} {Γ : Gm} {d mc ms : Nat} {μ : MX} {Z : State → Prop} {kc ks pc nx idx : Nat} {ls : List (Option Value)} {st : List Value} {m : Mem} (F : Fx κ Γ d mc ms μ) (hd : AT 3 Γ.2.1 pc (.getfield idx) nx) (hf : FL Γ.1.cls idx 9 0) (kk : GC κ μ Z kc ks nx ls (vl ((m 9 0).1 0) :: st) (World κ m)) : GC κ μ Z kc ks pc ls (.ref (ad κ 9 0) :: st) (World κ m) := g_getf F hd hf ck_9 (by decide) rfl kk
theorem g_put_9_0 {κ : Kx} {Γ : Gm} {d mc ms : Nat} {μ : MX} {Z : State → Prop} {kc ks pc nx idx : Nat} {ls : List (Option Value)} {st : List Value} {m : Mem} {y : Int} (F : Fx κ Γ d mc ms μ) (hd : AT 3 Γ.2.1 pc (.putfield idx) nx) (hf : FL Γ.1.cls idx 9 0) (kk : GC κ μ Z kc ks nx ls st (World κ (mset m 9 0 (fup (m 9 0).1 0 y, (m 9 0).2)))) : GC κ μ Z kc ks pc ls (vl y :: .ref (ad κ 9 0) :: st) (World κ m) := g_putf F hd hf ck_9 (by decide) rfl rfl rfl (Nat.le_of_ble_eq_true rfl) rfl kk
theorem g_get_9_1 {κ : Kx} {Γ : Gm} {d mc ms : Nat} {μ : MX} {Z : State → Prop} {kc ks pc nx idx : Nat} {ls : List (Option Value)} {st : List Value} {m : Mem} (F : Fx κ Γ d mc ms μ) (hd : AT 3 Γ.2.1 pc (.getfield idx) nx) (hf : FL Γ.1.cls idx 9 1) (kk : GC κ μ Z kc ks nx ls (vl ((m 9 0).1 1) :: st) (World κ m)) : GC κ μ Z kc ks pc ls (.ref (ad κ 9 0) :: st) (World κ m) := g_getf F hd hf ck_9 (by decide) rfl kk
theorem g_put_9_1 {κ : Kx} {Γ : Gm} {d mc ms : Nat} {μ : MX} {Z : State → Prop} {kc ks pc nx idx : Nat} {ls : List (Option Value)} {st : List Value} {m : Mem} {y : Int} (F : Fx κ Γ d mc ms μ) (hd : AT 3 Γ.2.1 pc (.putfield idx) nx) (hf : FL Γ.1.cls idx 9 1) (kk : GC κ μ Z kc ks nx ls st (World κ (mset m 9 0 (fup (m 9 0).1 1 y, (m 9 0).2)))) : GC κ μ Z kc ks pc ls (vl y :: .ref (ad κ 9 0) :: st) (World κ m) := g_putf F hd hf ck_9 (by decide) rfl rfl rfl (Nat.le_of_ble_eq_true rfl) rfl kk
theorem g_get_10_0 {κ : Kx} {Γ : Gm} {d mc ms : Nat} {μ : MX} {Z : State → Prop} {kc ks pc nx idx : Nat} {ls : List (Option Value)} {st : List Value} {m : Mem} (F : Fx κ Γ d mc ms μ) (hd : AT 3 Γ.2.1 pc (.getfield idx) nx) (hf : FL Γ.1.cls idx 10 0) (kk : GC κ μ Z kc ks nx ls (.ref (aa κ 10 0 0) :: st) (World κ m)) : GC κ μ Z kc ks pc ls (.ref (ad κ 10 0) :: st) (World κ m) := g_getf F hd hf ck_10 (by decide) rfl kk
theorem g_get_10_1 {κ : Kx} {Γ : Gm} {d mc ms : Nat} {μ : MX} {Z : State → Prop} {kc ks pc nx idx : Nat} {ls : List (Option Value)} {st : List Value} {m : Mem} (F : Fx κ Γ d mc ms μ) (hd : AT 3 Γ.2.1 pc (.getfield idx) nx) (hf : FL Γ.1.cls idx 10 1) (kk : GC κ μ Z kc ks nx ls (vi ((m 10 0).1 1) :: st) (World κ m)) : GC κ μ Z kc ks pc ls (.ref (ad κ 10 0) :: st) (World κ m) := g_getf F hd hf ck_10 (by decide) rfl kk
theorem g_put_10_1 {κ : Kx} {Γ : Gm} {d mc ms : Nat} {μ : MX} {Z : State → Prop} {kc ks pc nx idx : Nat} {ls : List (Option Value)} {st : List Value} {m : Mem} {y : Int} (F : Fx κ Γ d mc ms μ) (hd : AT 3 Γ.2.1 pc (.putfield idx) nx) (hf : FL Γ.1.cls idx 10 1) (kk : GC κ μ Z kc ks nx ls st (World κ (mset m 10 0 (fup (m 10 0).1 1 y, (m 10 0).2)))) : GC κ μ Z kc ks pc ls (vi y :: .ref (ad κ 10 0) :: st) (World κ m) := g_putf F hd hf ck_10 (by decide) rfl rfl rfl (Nat.le_of_ble_eq_true rfl) rfl kk
theorem g_get_10_2 {κ : Kx} {Γ : Gm} {d mc ms : Nat} {μ : MX} {Z : State → Prop} {kc ks pc nx idx : Nat} {ls : List (Option Value)} {st : List Value} {m : Mem} (F : Fx κ Γ d mc ms μ) (hd : AT 3 Γ.2.1 pc (.getfield idx) nx) (hf : FL Γ.1.cls idx 10 2) (kk : GC κ μ Z kc ks nx ls (vi ((m 10 0).1 2) :: st) (World κ m)) : GC κ μ Z kc ks pc ls (.ref (ad κ 10 0) :: st) (World κ m) := g_getf F hd hf ck_10 (by decide) rfl kk
theorem g_put_10_2 {κ : Kx} {Γ : Gm} {d mc ms : Nat} {μ : MX} {Z : State → Prop} {kc ks pc nx idx : Nat} {ls : List (Option Value)} {st : List Value} {m : Mem} {y : Int} (F : Fx κ Γ d mc ms μ) (hd : AT 3 Γ.2.1 pc (.putfield idx) nx) (hf : FL Γ.1.cls idx 10 2) (kk : GC κ μ Z kc ks nx ls st (World κ (mset m 10 0 (fup (m 10 0).1 2 y, (m 10 0).2)))) : GC κ μ Z kc ks pc ls (vi y :: .ref (ad κ 10 0) :: st) (World κ m) := g_putf F hd hf ck_10 (by decide) rfl rfl rfl (Nat.le_of_ble_eq_true rfl) rfl kk
theorem g_get_10_3 {κ : Kx} {Γ : Gm} {d mc ms : Nat} {μ : MX} {Z : State → Prop} {kc ks pc nx idx : Nat} {ls : List (Option Value)} {st : List Value} {m : Mem} (F : Fx κ Γ d mc ms μ) (hd : AT 3 Γ.2.1 pc (.getfield idx) nx) (hf : FL Γ.1.cls idx 10 3) (kk : GC κ μ Z kc ks nx ls (vi ((m 10 0).1 3) :: st) (World κ m)) : GC κ μ Z kc ks pc ls (.ref (ad κ 10 0) :: st) (World κ m) := g_getf F hd hf ck_10 (by decide) rfl kk
theorem g_put_10_3 {κ : Kx} {Γ : Gm} {d mc ms : Nat} {μ : MX} {Z : State → Prop} {kc ks pc nx idx : Nat} {ls : List (Option Value)} {st : List Value} {m : Mem} {y : Int} (F : Fx κ Γ d mc ms μ) (hd : AT 3 Γ.2.1 pc (.putfield idx) nx) (hf : FL Γ.1.cls idx 10 3) (kk : GC κ μ Z kc ks nx ls st (World κ (mset m 10 0 (fup (m 10 0).1 3 y, (m 10 0).2)))) : GC κ μ Z kc ks pc ls (vi y :: .ref (ad κ 10 0) :: st) (World κ m) := g_putf F hd hf ck_10 (by decide) rfl rfl rfl (Nat.le_of_ble_eq_true rfl) rfl kk
theorem g_get_10_4 {κ : Kx} {Γ : Gm} {d mc ms : Nat} {μ : MX} {Z : State → Prop} {kc ks pc nx idx : Nat} {ls : List (Option Value)} {st : List Value} {m : Mem} (F : Fx κ Γ d mc ms μ) (hd : AT 3 Γ.2.1 pc (.getfield idx) nx) (hf : FL Γ.1.cls idx 10 4) (kk : GC κ μ Z kc ks nx ls (vi ((m 10 0).1 4) :: st) (World κ m)) : GC κ μ Z kc ks pc ls (.ref (ad κ 10 0) :: st) (World κ m) := g_getf F hd hf ck_10 (by decide) rfl kk
theorem g_put_10_4 {κ : Kx} {Γ : Gm} {d mc ms : Nat} {μ : MX} {Z : State → Prop} {kc ks pc nx idx : Nat} {ls : List (Option Value)} {st : List Value} {m : Mem} {y : Int} (F : Fx κ Γ d mc ms μ) (hd : AT 3 Γ.2.1 pc (.putfield idx) nx) (hf : FL Γ.1.cls idx 10 4) (kk : GC κ μ Z kc ks nx ls st (World κ (mset m 10 0 (fup (m 10 0).1 4 y, (m 10 0).2)))) : GC κ μ Z kc ks pc ls (vi y :: .ref (ad κ 10 0) :: st) (World κ m) := g_putf F hd hf ck_10 (by decide) rfl rfl rfl (Nat.le_of_ble_eq_true rfl) rfl kk
theorem g_get_10_5 {κ : Kx} {Γ : Gm} {d mc ms : Nat} {μ : MX} {Z : State → Prop} {kc ks pc nx idx : Nat} {ls : List (Option Value)} {st : List Value} {m : Mem} (F : Fx κ Γ d mc ms μ) (hd : AT 3 Γ.2.1 pc (.getfield idx) nx) (hf : FL Γ.1.cls idx 10 5) (kk : GC κ μ Z kc ks nx ls (vi ((m 10 0).1 5) :: st) (World κ m)) : GC κ μ Z kc ks pc ls (.ref (ad κ 10 0) :: st) (World κ m) := g_getf F hd hf ck_10 (by decide) rfl kk
theorem g_put_10_5 {κ : Kx} {Γ : Gm} {d mc ms : Nat} {μ : MX} {Z : State → Prop} {kc ks pc nx idx : Nat} {ls : List (Option Value)} {st : List Value} {m : Mem} {y : Int} (F : Fx κ Γ d mc ms μ) (hd : AT 3 Γ.2.1 pc (.putfield idx) nx) (hf : FL Γ.1.cls idx 10 5) (kk : GC κ μ Z kc ks nx ls st (World κ (mset m 10 0 (fup (m 10 0).1 5 y, (m 10 0).2)))) : GC κ μ Z kc ks pc ls (vi y :: .ref (ad κ 10 0) :: st) (World κ m) := g_putf F hd hf ck_10 (by decide) rfl rfl rfl (Nat.le_of_ble_eq_true rfl) rfl kk
theorem g_get_10_6 {κ : Kx} {Γ : Gm} {d mc ms : Nat} {μ : MX} {Z : State → Prop} {kc ks pc nx idx : Nat} {ls : List (Option Value)} {st : List Value} {m : Mem} (F : Fx κ Γ d mc ms μ) (hd : AT 3 Γ.2.1 pc (.getfield idx) nx) (hf : FL Γ.1.cls idx 10 6) (kk : GC κ μ Z kc ks nx ls (vi ((m 10 0).1 6) :: st) (World κ m)) : GC κ μ Z kc ks pc ls (.ref (ad κ 10 0) :: st) (World κ m) := g_getf F hd hf ck_10 (by decide) rfl kk
theorem g_put_10_6 {κ : Kx} {Γ : Gm} {d mc ms : Nat} {μ : MX} {Z : State → Prop} {kc ks pc nx idx : Nat} {ls : List (Option Value)} {st : List Value} {m : Mem} {y : Int} (F : Fx κ Γ d mc ms μ) (hd : AT 3 Γ.2.1 pc (.putfield idx) nx) (hf : FL Γ.1.cls idx 10 6) (kk : GC κ μ Z kc ks nx ls st (World κ (mset m 10 0 (fup (m 10 0).1 6 y, (m 10 0).2)))) : GC κ μ Z kc ks pc ls (vi y :: .ref (ad κ 10 0) :: st) (World κ m) := g_putf F hd hf ck_10 (by decide) rfl rfl rfl (Nat.le_of_ble_eq_true rfl) rfl kk
theorem g_get_10_7 {κ : Kx} {Γ : Gm} {d mc ms : Nat} {μ : MX} {Z : State → Prop} {kc ks pc nx idx : Nat} {ls : List (Option Value)} {st : List Value} {m : Mem} (F : Fx κ Γ d mc ms μ) (hd : AT 3 Γ.2.1 pc (.getfield idx) nx) (hf : FL Γ.1.cls idx 10 7) (kk : GC κ μ Z kc ks nx ls (vi ((m 10 0).1 7) :: st) (World κ m)) : GC κ μ Z kc ks pc ls (.ref (ad κ 10 0) :: st) (World κ m) := g_getf F hd hf ck_10 (by decide) rfl kk
theorem g_put_10_7 {κ : Kx} {Γ : Gm} {d mc ms : Nat} {μ : MX} {Z : State → Prop} {kc ks pc nx idx : Nat} {ls : List (Option Value)} {st : List Value} {m : Mem} {y : Int} (F : Fx κ Γ d mc ms μ) (hd : AT 3 Γ.2.1 pc (.putfield idx) nx) (hf : FL Γ.1.cls idx 10 7) (kk : GC κ μ Z kc ks nx ls st (World κ (mset m 10 0 (fup (m 10 0).1 7 y, (m 10 0).2)))) : GC κ μ Z kc ks pc ls (vi y :: .ref (ad κ 10 0) :: st) (World κ m) := g_putf F hd hf ck_10 (by decide) rfl rfl rfl (Nat.le_of_ble_eq_true rfl) rfl kk
theorem g_get_10_8 {κ : Kx} {Γ : Gm} {d mc ms : Nat} {μ : MX} {Z : State → Prop} {kc ks pc nx idx : Nat} {ls : List (Option Value)} {st : List Value} {m : Mem} (F : Fx κ Γ d mc ms μ) (hd : AT 3 Γ.2.1 pc (.getfield idx) nx) (hf : FL Γ.1.cls idx 10 8) (kk : GC κ μ Z kc ks nx ls (vi ((m 10 0).1 8) :: st) (World κ m)) : GC κ μ Z kc ks pc ls (.ref (ad κ 10 0) :: st) (World κ m) := g_getf F hd hf ck_10 (by decide) rfl kk
theorem g_put_10_8 {κ : Kx} {Γ : Gm} {d mc ms : Nat} {μ : MX} {Z : State → Prop} {kc ks pc nx idx : Nat} {ls : List (Option Value)} {st : List Value} {m : Mem} {y : Int} (F : Fx κ Γ d mc ms μ) (hd : AT 3 Γ.2.1 pc (.putfield idx) nx) (hf : FL Γ.1.cls idx 10 8) (kk : GC κ μ Z kc ks nx ls st (World κ (mset m 10 0 (fup (m 10 0).1 8 y, (m 10 0).2)))) : GC κ μ Z kc ks pc ls (vi y :: .ref (ad κ 10 0) :: st) (World κ m) := g_putf F hd hf ck_10 (by decide) rfl rfl rfl (Nat.le_of_ble_eq_true rfl) rfl kk
theorem g_get_10_9 {κ : Kx} {Γ : Gm} {d mc ms : Nat} {μ : MX} {Z : State → Prop} {kc ks pc nx idx : Nat} {ls : List (Option Value)} {st : List Value} {m : Mem} (F : Fx κ Γ d mc ms μ) (hd : AT 3 Γ.2.1 pc (.getfield idx) nx) (hf : FL Γ.1.cls idx 10 9) (kk : GC κ μ Z kc ks nx ls (vi ((m 10 0).1 9) :: st) (World κ m)) : GC κ μ Z kc ks pc ls (.ref (ad κ 10 0) :: st) (World κ m) := g_getf F hd hf ck_10 (by decide) rfl kk
theorem g_put_10_9 {κ : Kx} {Γ : Gm} {d mc ms : Nat} {μ : MX} {Z : State → Prop} {kc ks pc nx idx : Nat} {ls : List (Option Value)} {st : List Value} {m : Mem} {y : Int} (F : Fx κ Γ d mc ms μ) (hd : AT 3 Γ.2.1 pc (.putfield idx) nx) (hf : FL Γ.1.cls idx 10 9) (kk : GC κ μ Z kc ks nx ls st (World κ (mset m 10 0 (fup (m 10 0).1 9 y, (m 10 0).2)))) : GC κ μ Z kc ks pc ls (vi y :: .ref (ad κ 10 0) :: st) (World κ m) := g_putf F hd hf ck_10 (by decide) rfl rfl rfl (Nat.le_of_ble_eq_true rfl) rfl kk
theorem g_get_10_10 {κ : Kx} {Γ : Gm} {d mc ms : Nat} {μ : MX} {Z : State → Prop} {kc ks pc nx idx : Nat} {ls : List (Option Value)} {st : List Value} {m : Mem} (F : Fx κ Γ d mc ms μ) (hd : AT 3 Γ.2.1 pc (.getfield idx) nx) (hf : FL Γ.1.cls idx 10 10) (kk : GC κ μ Z kc ks nx ls (.ref (aa κ 10 0 1) :: st) (World κ m)) : GC κ μ Z kc ks pc ls (.ref (ad κ 10 0) :: st) (World κ m) := g_getf F hd hf ck_10 (by decide) rfl kk
theorem g_get_10_11 {κ : Kx} {Γ : Gm} {d mc ms : Nat} {μ : MX} {Z : State → Prop} {kc ks pc nx idx : Nat} {ls : List (Option Value)} {st : List Value} {m : Mem} (F : Fx κ Γ d mc ms μ) (hd : AT 3 Γ.2.1 pc (.getfield idx) nx) (hf : FL Γ.1.cls idx 10 11) (kk : GC κ μ Z kc ks nx ls (.ref (aa κ 10 0 2) :: st) (World κ m)) : GC κ μ Z kc ks pc ls (.ref (ad κ 10 0) :: st) (World κ m) := g_getf F hd hf ck_10 (by decide) rfl kk
theorem g_get_10_12 {κ : Kx} {Γ : Gm} {d mc ms : Nat} {μ : MX} {Z : State → Prop} {kc ks pc nx idx : Nat} {ls : List (Option Value)} {st : List Value} {m : Mem} (F : Fx κ Γ d mc ms μ) (hd : AT 3 Γ.2.1 pc (.getfield idx) nx) (hf : FL Γ.1.cls idx 10 12) (kk : GC κ μ Z kc ks nx ls (.ref (aa κ 10 0 3) :: st) (World κ m)) : GC κ μ Z kc ks pc ls (.ref (ad κ 10 0) :: st) (World κ m) := g_getf F hd hf ck_10 (by decide) rfl kk
theorem g_get_10_13 {κ : Kx} {Γ : Gm} {d mc ms : Nat} {μ : MX} {Z : State → Prop} {kc ks pc nx idx : Nat} {ls : List (Option Value)} {st : List Value} {m : Mem} (F : Fx κ Γ d mc ms μ) (hd : AT 3 Γ.2.1 pc (.getfield idx) nx) (hf : FL Γ.1.cls idx 10 13) (kk : GC κ μ Z kc ks nx ls (.ref (aa κ 10 0 4) :: st) (World κ m)) : GC κ μ Z kc ks pc ls (.ref (ad κ 10 0) :: st) (World κ m) := g_getf F hd hf ck_10 (by decide) rfl kk
theorem g_get_10_14 {κ : Kx} {Γ : Gm} {d mc ms : Nat} {μ : MX} {Z : State → Prop} {kc ks pc nx idx : Nat} {ls : List (Option Value)} {st : List Value} {m : Mem} (F : Fx κ Γ d mc ms μ) (hd : AT 3 Γ.2.1 pc (.getfield idx) nx) (hf : FL Γ.1.cls idx 10 14) (kk : GC κ μ Z kc ks nx ls (.ref (aa κ 10 0 5) :: st) (World κ m)) : GC κ μ Z kc ks pc ls (.ref (ad κ 10 0) :: st) (World κ m) := g_getf F hd hf ck_10 (by decide) rfl kk
theorem g_get_10_15 {κ : Kx} {Γ : Gm} {d mc ms : Nat} {μ : MX} {Z : State → Prop} {kc ks pc nx idx : Nat} {ls : List (Option Value)} {st : List Value} {m : Mem} (F : Fx κ Γ d mc ms μ) (hd : AT 3 Γ.2.1 pc (.getfield idx) nx) (hf : FL Γ.1.cls idx 10 15) (kk : GC κ μ Z kc ks nx ls (.ref (aa κ 10 0 6) :: st) (World κ m)) : GC κ μ Z kc ks pc ls (.ref (ad κ 10 0) :: st) (World κ m) := g_getf F hd hf ck_10 (by decide) rfl kk
theorem g_get_10_16 {κ : Kx} {Γ : Gm} {d mc ms : Nat} {μ : MX} {Z : State → Prop} {kc ks pc nx idx : Nat} {ls : List (Option Value)} {st : List Value} {m : Mem} (F : Fx κ Γ d mc ms μ) (hd : AT 3 Γ.2.1 pc (.getfield idx) nx) (hf : FL Γ.1.cls idx 10 16) (kk : GC κ μ Z kc ks nx ls (.ref (aa κ 10 0 7) :: st) (World κ m)) : GC κ μ Z kc ks pc ls (.ref (ad κ 10 0) :: st) (World κ m) := g_getf F hd hf ck_10 (by decide) rfl kk
theorem g_get_10_17 {κ : Kx} {Γ : Gm} {d mc ms : Nat} {μ : MX} {Z : State → Prop} {kc ks pc nx idx : Nat} {ls : List (Option Value)} {st : List Value} {m : Mem} (F : Fx κ Γ d mc ms μ) (hd : AT 3 Γ.2.1 pc (.getfield idx) nx) (hf : FL Γ.1.cls idx 10 17) (kk : GC κ μ Z kc ks nx ls (.ref (aa κ 10 0 8) :: st) (World κ m)) : GC κ μ Z kc ks pc ls (.ref (ad κ 10 0) :: st) (World κ m) := g_getf F hd hf ck_10 (by decide) rfl kk
theorem g_get_10_18 {κ : Kx} {Γ : Gm} {d mc ms : Nat} {μ : MX} {Z : State → Prop} {kc ks pc nx idx : Nat} {ls : List (Option Value)} {st : List Value} {m : Mem} (F : Fx κ Γ d mc ms μ) (hd : AT 3 Γ.2.1 pc (.getfield idx) nx) (hf : FL Γ.1.cls idx 10 18) (kk : GC κ μ Z kc ks nx ls (vi ((m 10 0).1 18) :: st) (World κ m)) : GC κ μ Z kc ks pc ls (.ref (ad κ 10 0) :: st) (World κ m) := g_getf F hd hf ck_10 (by decide) rfl kk
theorem g_put_10_18 {κ : Kx} {Γ : Gm} {d mc ms : Nat} {μ : MX} {Z : State → Prop} {kc ks pc nx idx : Nat} {ls : List (Option Value)} {st : List Value} {m : Mem} {y : Int} (F : Fx κ Γ d mc ms μ) (hd : AT 3 Γ.2.1 pc (.putfield idx) nx) (hf : FL Γ.1.cls idx 10 18) (kk : GC κ μ Z kc ks nx ls st (World κ (mset m 10 0 (fup (m 10 0).1 18 y, (m 10 0).2)))) : GC κ μ Z kc ks pc ls (vi y :: .ref (ad κ 10 0) :: st) (World κ m) := g_putf F hd hf ck_10 (by decide) rfl rfl rfl (Nat.le_of_ble_eq_true rfl) rfl kk
theorem g_get_10_19 {κ : Kx} {Γ : Gm} {d mc ms : Nat} {μ : MX} {Z : State → Prop} {kc ks pc nx idx : Nat} {ls : List (Option Value)} {st : List Value} {m : Mem} (F : Fx κ Γ d mc ms μ) (hd : AT 3 Γ.2.1 pc (.getfield idx) nx) (hf : FL Γ.1.cls idx 10 19) (kk : GC κ μ Z kc ks nx ls (vi ((m 10 0).1 19) :: st) (World κ m)) : GC κ μ Z kc ks pc ls (.ref (ad κ 10 0) :: st) (World κ m) := g_getf F hd hf ck_10 (by decide) rfl kk
theorem g_put_10_19 {κ : Kx} {Γ : Gm} {d mc ms : Nat} {μ : MX} {Z : State → Prop} {kc ks pc nx idx : Nat} {ls : List (Option Value)} {st : List Value} {m : Mem} {y : Int} (F : Fx κ Γ d mc ms μ) (hd : AT 3 Γ.2.1 pc (.putfield idx) nx) (hf : FL Γ.1.cls idx 10 19) (kk : GC κ μ Z kc ks nx ls st (World κ (mset m 10 0 (fup (m 10 0).1 19 y, (m 10 0).2)))) : GC κ μ Z kc ks pc ls (vi y :: .ref (ad κ 10 0) :: st) (World κ m) := g_putf F hd hf ck_10 (by decide) rfl rfl rfl (Nat.le_of_ble_eq_true rfl) rfl kk
theorem g_get_10_20 {κ : Kx} {Γ : Gm} {d mc ms : Nat} {μ : MX} {Z : State → Prop} {kc ks pc nx idx : Nat} {ls : List (Option Value)} {st : List Value} {m : Mem} (F : Fx κ Γ d mc ms μ) (hd : AT 3 Γ.2.1 pc (.getfield idx) nx) (hf : FL Γ.1.cls idx 10 20) (kk : GC κ μ Z kc ks nx ls (vi ((m 10 0).1 20) :: st) (World κ m)) : GC κ μ Z kc ks pc ls (.ref (ad κ 10 0) :: st) (World κ m) := g_getf F hd hf ck_10 (by decide) rfl kk
theorem g_put_10_20 {κ : Kx} {Γ : Gm} {d mc ms : Nat} {μ : MX} {Z : State → Prop} {kc ks pc nx idx : Nat} {ls : List (Option Value)} {st : List Value} {m : Mem} {y : Int} (F : Fx κ Γ d mc ms μ) (hd : AT 3 Γ.2.1 pc (.putfield idx) nx) (hf : FL Γ.1.cls idx 10 20) (kk : GC κ μ Z kc ks nx ls st (World κ (mset m 10 0 (fup (m 10 0).1 20 y, (m 10 0).2)))) : GC κ μ Z kc ks pc ls (vi y :: .ref (ad κ 10 0) :: st) (World κ m) := g_putf F hd hf ck_10 (by decide) rfl rfl rfl (Nat.le_of_ble_eq_true rfl) rfl kk
theorem g_get_10_21 {κ : Kx} {Γ : Gm} {d mc ms : Nat} {μ : MX} {Z : State → Prop} {kc ks pc nx idx : Nat} {ls : List (Option Value)} {st : List Value} {m : Mem} (F : Fx κ Γ d mc ms μ) (hd : AT 3 Γ.2.1 pc (.getfield idx) nx) (hf : FL Γ.1.cls idx 10 21) (kk : GC κ μ Z kc ks nx ls (.ref (aa κ 10 0 9) :: st) (World κ m)) : GC κ μ Z kc ks pc ls (.ref (ad κ 10 0) :: st) (World κ m) := g_getf F hd hf ck_10 (by decide) rfl kk
theorem g_get_10_22 {κ : Kx} {Γ : Gm} {d mc ms : Nat} {μ : MX} {Z : State → Prop} {kc ks pc nx idx : Nat} {ls : List (Option Value)} {st : List Value} {m : Mem} (F : Fx κ Γ d mc ms μ) (hd : AT 3 Γ.2.1 pc (.getfield idx) nx) (hf : FL Γ.1.cls idx 10 22) (kk : GC κ μ Z kc ks nx ls (.ref (aa κ 10 0 10) :: st) (World κ m)) : GC κ μ Z kc ks pc ls (.ref (ad κ 10 0) :: st) (World κ m) := g_getf F hd hf ck_10 (by decide) rfl kk
theorem g_get_10_23 {κ : Kx} {Γ : Gm} {d mc ms : Nat} {μ : MX} {Z : State → Prop} {kc ks pc nx idx : Nat} {ls : List (Option Value)} {st : List Value} {m : Mem} (F : Fx κ Γ d mc ms μ) (hd : AT 3 Γ.2.1 pc (.getfield idx) nx) (hf : FL Γ.1.cls idx 10 23) (kk : GC κ μ Z kc ks nx ls (vi ((m 10 0).1 23) :: st) (World κ m)) : GC κ μ Z kc ks pc ls (.ref (ad κ 10 0) :: st) (World κ m) := g_getf F hd hf ck_10 (by decide) rfl kk
theorem g_put_10_23 {κ : Kx} {Γ : Gm} {d mc ms : Nat} {μ : MX} {Z : State → Prop} {kc ks pc nx idx : Nat} {ls : List (Option Value)} {st : List Value} {m : Mem} {y : Int} (F : Fx κ Γ d mc ms μ) (hd : AT 3 Γ.2.1 pc (.putfield idx) nx) (hf : FL Γ.1.cls idx 10 23) (kk : GC κ μ Z kc ks nx ls st (World κ (mset m 10 0 (fup (m 10 0).1 23 y, (m 10 0).2)))) : GC κ μ Z kc ks pc ls (vi y :: .ref (ad κ 10 0) :: st) (World κ m) := g_putf F hd hf ck_10 (by decide) rfl rfl rfl (Nat.le_of_ble_eq_true rfl) rfl kk
theorem g_get_10_24 {κ : Kx} {Γ : Gm} {d mc ms : Nat} {μ : MX} {Z : State → Prop} {kc ks pc nx idx : Nat} {ls : List (Option Value)} {st : List Value} {m : Mem} (F : Fx κ Γ d mc ms μ) (hd : AT 3 Γ.2.1 pc (.getfield idx) nx) (hf : FL Γ.1.cls idx 10 24) (kk : GC κ μ Z kc ks nx ls (.ref (aa κ 10 0 11) :: st) (World κ m)) : GC κ μ Z kc ks pc ls (.ref (ad κ 10 0) :: st) (World κ m) := g_getf F hd hf ck_10 (by decide) rfl kk
theorem g_get_10_25 {κ : Kx} {Γ : Gm} {d mc ms : Nat} {μ : MX} {Z : State → Prop} {kc ks pc nx idx : Nat} {ls : List (Option Value)} {st : List Value} {m : Mem} (F : Fx κ Γ d mc ms μ) (hd : AT 3 Γ.2.1 pc (.getfield idx) nx) (hf : FL Γ.1.cls idx 10 25) (kk : GC κ μ Z kc ks nx ls (vl ((m 10 0).1 25) :: st) (World κ m)) : GC κ μ Z kc ks pc ls (.ref (ad κ 10 0) :: st) (World κ m) := g_getf F hd hf ck_10 (by decide) rfl kk
theorem g_put_10_25 {κ : Kx} {Γ : Gm} {d mc ms : Nat} {μ : MX} {Z : State → Prop} {kc ks pc nx idx : Nat} {ls : List (Option Value)} {st : List Value} {m : Mem} {y : Int} (F : Fx κ Γ d mc ms μ) (hd : AT 3 Γ.2.1 pc (.putfield idx) nx) (hf : FL Γ.1.cls idx 10 25) (kk : GC κ μ Z kc ks nx ls st (World κ (mset m 10 0 (fup (m 10 0).1 25 y, (m 10 0).2)))) : GC κ μ Z kc ks pc ls (vl y :: .ref (ad κ 10 0) :: st) (World κ m) := g_putf F hd hf ck_10 (by decide) rfl rfl rfl (Nat.le_of_ble_eq_true rfl) rfl kk
theorem g_get_10_26 {κ : Kx} {Γ : Gm} {d mc ms : Nat} {μ : MX} {Z : State → Prop} {kc ks pc nx idx : Nat} {ls : List (Option Value)} {st : List Value} {m : Mem} (F : Fx κ Γ d mc ms μ) (hd : AT 3 Γ.2.1 pc (.getfield idx) nx) (hf : FL Γ.1.cls idx 10 26) (kk : GC κ μ Z kc ks nx ls (vl ((m 10 0).1 26) :: st) (World κ m)) : GC κ μ Z kc ks pc ls (.ref (ad κ 10 0) :: st) (World κ m) := g_getf F hd hf ck_10 (by decide) rfl kk
theorem g_put_10_26 {κ : Kx} {Γ : Gm} {d mc ms : Nat} {μ : MX} {Z : State → Prop} {kc ks pc nx idx : Nat} {ls : List (Option Value)} {st : List Value} {m : Mem} {y : Int} (F : Fx κ Γ d mc ms μ) (hd : AT 3 Γ.2.1 pc (.putfield idx) nx) (hf : FL Γ.1.cls idx 10 26) (kk : GC κ μ Z kc ks nx ls st (World κ (mset m 10 0 (fup (m 10 0).1 26 y, (m 10 0).2)))) : GC κ μ Z kc ks pc ls (vl y :: .ref (ad κ 10 0) :: st) (World κ m) := g_putf F hd hf ck_10 (by decide) rfl rfl rfl (Nat.le_of_ble_eq_true rfl) rfl kk
theorem g_get_10_27 {κ : Kx} {Γ : Gm} {d mc ms : Nat} {μ : MX} {Z : State → Prop} {kc ks pc nx idx : Nat} {ls : List (Option Value)} {st : List Value} {m : Mem} (F : Fx κ Γ d mc ms μ) (hd : AT 3 Γ.2.1 pc (.getfield idx) nx) (hf : FL Γ.1.cls idx 10 27) (kk : GC κ μ Z kc ks nx ls (.ref (aa κ 10 0 12) :: st) (World κ m)) : GC κ μ Z kc ks pc ls (.ref (ad κ 10 0) :: st) (World κ m) := g_getf F hd hf ck_10 (by decide) rfl kk
theorem g_get_10_28 {κ : Kx} {Γ : Gm} {d mc ms : Nat} {μ : MX} {Z : State → Prop} {kc ks pc nx idx : Nat} {ls : List (Option Value)} {st : List Value} {m : Mem} (F : Fx κ Γ d mc ms μ) (hd : AT 3 Γ.2.1 pc (.getfield idx) nx) (hf : FL Γ.1.cls idx 10 28) (kk : GC κ μ Z kc ks nx ls (.ref (aa κ 10 0 13) :: st) (World κ m)) : GC κ μ Z kc ks pc ls (.ref (ad κ 10 0) :: st) (World κ m) := g_getf F hd hf ck_10 (by decide) rfl kk
theorem g_get_10_29 {κ : Kx} {Γ : Gm} {d mc ms : Nat} {μ : MX} {Z : State → Prop} {kc ks pc nx idx : Nat} {ls : List (Option Value)} {st : List Value} {m : Mem} (F : Fx κ Γ d mc ms μ) (hd : AT 3 Γ.2.1 pc (.getfield idx) nx) (hf : FL Γ.1.cls idx 10 29) (kk : GC κ μ Z kc ks nx ls (vl ((m 10 0).1 29) :: st) (World κ m)) : GC κ μ Z kc ks pc ls (.ref (ad κ 10 0) :: st) (World κ m) := g_getf F hd hf ck_10 (by decide) rfl kk
theorem g_put_10_29 {κ : Kx} {Γ : Gm} {d mc ms : Nat} {μ : MX} {Z : State → Prop} {kc ks pc nx idx : Nat} {ls : List (Option Value)} {st : List Value} {m : Mem} {y : Int} (F : Fx κ Γ d mc ms μ) (hd : AT 3 Γ.2.1 pc (.putfield idx) nx) (hf : FL Γ.1.cls idx 10 29) (kk : GC κ μ Z kc ks nx ls st (World κ (mset m 10 0 (fup (m 10 0).1 29 y, (m 10 0).2)))) : GC κ μ Z kc ks pc ls (vl y :: .ref (ad κ 10 0) :: st) (World κ m) := g_putf F hd hf ck_10 (by decide) rfl rfl rfl (Nat.le_of_ble_eq_true rfl) rfl kk
theorem g_ild_10_0 {κ : Kx} {Γ : Gm} {d mc ms : Nat} {μ : MX} {Z : State → Prop} {kc ks pc nx idx : Nat} {ls : List (Option Value)} {st : List Value} {m : Mem} {x : Int} (F : Fx κ Γ d mc ms μ) (hd : AT 1 Γ.2.1 pc .iaload nx) (hx : 0 ≤ x ∧ x < 3) (kk : GC κ μ Z kc ks nx ls (vi ((m 10 0).2 0 x) :: st) (World κ m)) : GC κ μ Z kc ks pc ls (vi x :: .ref (aa κ 10 0 0) :: st) (World κ m) := g_iald F hd (by decide) (by decide) (fun _ => rfl) (by decide) hx.1 hx.2 kk
theorem g_ist_10_0 {κ : Kx} {Γ : Gm} {d mc ms : Nat} {μ : MX} {Z : State → Prop} {kc ks pc nx idx : Nat} {ls : List (Option Value)} {st : List Value} {m : Mem} {x y : Int} (F : Fx κ Γ d mc ms μ) (hd : AT 1 Γ.2.1 pc .iastore nx) (hx : 0 ≤ x ∧ x < 3) (kk : GC κ μ Z kc ks nx ls st (World κ (mset m 10 0 ((m 10 0).1, aup (m 10 0).2 0 (gup ((m 10 0).2 0) x y))))) : GC κ μ Z kc ks pc ls (vi y :: vi x :: .ref (aa κ 10 0 0) :: st) (World κ m) := g_iast F hd (by decide) (by decide) (fun _ => rfl) (by decide) hx.1 hx.2 kk
theorem g_ild_10_1 {κ : Kx} {Γ : Gm} {d mc ms : Nat} {μ : MX} {Z : State → Prop} {kc ks pc nx idx : Nat} {ls : List (Option Value)} {st : List Value} {m : Mem} {x : Int} (F : Fx κ Γ d mc ms μ) (hd : AT 1 Γ.2.1 pc .iaload nx) (hx : 0 ≤ x ∧ x < 6) (kk : GC κ μ Z kc ks nx ls (vi ((m 10 0).2 1 x) :: st) (World κ m)) : GC κ μ Z kc ks pc ls (vi x :: .ref (aa κ 10 0 1) :: st) (World κ m) := g_iald F hd (by decide) (by decide) (fun _ => rfl) (by decide) hx.1 hx.2 kk
theorem g_ist_10_1 {κ : Kx} {Γ : Gm} {d mc ms : Nat} {μ : MX} {Z : State → Prop} {kc ks pc nx idx : Nat} {ls : List (Option Value)} {st : List Value} {m : Mem} {x y : Int} (F : Fx κ Γ d mc ms μ) (hd : AT 1 Γ.2.1 pc .iastore nx) (hx : 0 ≤ x ∧ x < 6) (kk : GC κ μ Z kc ks nx ls st (World κ (mset m 10 0 ((m 10 0).1, aup (m 10 0).2 1 (gup ((m 10 0).2 1) x y))))) : GC κ μ Z kc ks pc ls (vi y :: vi x :: .ref (aa κ 10 0 1) :: st) (World κ m) := g_iast F hd (by decide) (by decide) (fun _ => rfl) (by decide) hx.1 hx.2 kk
theorem g_ild_10_2 {κ : Kx} {Γ : Gm} {d mc ms : Nat} {μ : MX} {Z : State → Prop} {kc ks pc nx idx : Nat} {ls : List (Option Value)} {st : List Value} {m : Mem} {x : Int} (F : Fx κ Γ d mc ms μ) (hd : AT 1 Γ.2.1 pc .iaload nx) (hx : 0 ≤ x ∧ x < 6) (kk : GC κ μ Z kc ks nx ls (vi ((m 10 0).2 2 x) :: st) (World κ m)) : GC κ μ Z kc ks pc ls (vi x :: .ref (aa κ 10 0 2) :: st) (World κ m) := g_iald F hd (by decide) (by decide) (fun _ => rfl) (by decide) hx.1 hx.2 kk
theorem g_ist_10_2 {κ : Kx} {Γ : Gm} {d mc ms : Nat} {μ : MX} {Z : State → Prop} {kc ks pc nx idx : Nat} {ls : List (Option Value)} {st : List Value} {m : Mem} {x y : Int} (F : Fx κ Γ d mc ms μ) (hd : AT 1 Γ.2.1 pc .iastore nx) (hx : 0 ≤ x ∧ x < 6) (kk : GC κ μ Z kc ks nx ls st (World κ (mset m 10 0 ((m 10 0).1, aup (m 10 0).2 2 (gup ((m 10 0).2 2) x y))))) : GC κ μ Z kc ks pc ls (vi y :: vi x :: .ref (aa κ 10 0 2) :: st) (World κ m) := g_iast F hd (by decide) (by decide) (fun _ => rfl) (by decide) hx.1 hx.2 kk
theorem g_ild_10_3 {κ : Kx} {Γ : Gm} {d mc ms : Nat} {μ : MX} {Z : State → Prop} {kc ks pc nx idx : Nat} {ls : List (Option Value)} {st : List Value} {m : Mem} {x : Int} (F : Fx κ Γ d mc ms μ) (hd : AT 1 Γ.2.1 pc .iaload nx) (hx : 0 ≤ x ∧ x < 3) (kk : GC κ μ Z kc ks nx ls (vi ((m 10 0).2 3 x) :: st) (World κ m)) : GC κ μ Z kc ks pc ls (vi x :: .ref (aa κ 10 0 3) :: st) (World κ m) := g_iald F hd (by decide) (by decide) (fun _ => rfl) (by decide) hx.1 hx.2 kk
theorem g_ist_10_3 {κ : Kx} {Γ : Gm} {d mc ms : Nat} {μ : MX} {Z : State → Prop} {kc ks pc nx idx : Nat} {ls : List (Option Value)} {st : List Value} {m : Mem} {x y : Int} (F : Fx κ Γ d mc ms μ) (hd : AT 1 Γ.2.1 pc .iastore nx) (hx : 0 ≤ x ∧ x < 3) (kk : GC κ μ Z kc ks nx ls st (World κ (mset m 10 0 ((m 10 0).1, aup (m 10 0).2 3 (gup ((m 10 0).2 3) x y))))) : GC κ μ Z kc ks pc ls (vi y :: vi x :: .ref (aa κ 10 0 3) :: st) (World κ m) := g_iast F hd (by decide) (by decide) (fun _ => rfl) (by decide) hx.1 hx.2 kk
theorem g_ild_10_4 {κ : Kx} {Γ : Gm} {d mc ms : Nat} {μ : MX} {Z : State → Prop} {kc ks pc nx idx : Nat} {ls : List (Option Value)} {st : List Value} {m : Mem} {x : Int} (F : Fx κ Γ d mc ms μ) (hd : AT 1 Γ.2.1 pc .iaload nx) (hx : 0 ≤ x ∧ x < 6) (kk : GC κ μ Z kc ks nx ls (vi ((m 10 0).2 4 x) :: st) (World κ m)) : GC κ μ Z kc ks pc ls (vi x :: .ref (aa κ 10 0 4) :: st) (World κ m) := g_iald F hd (by decide) (by decide) (fun _ => rfl) (by decide) hx.1 hx.2 kk
theorem g_ist_10_4 {κ : Kx} {Γ : Gm} {d mc ms : Nat} {μ : MX} {Z : State → Prop} {kc ks pc nx idx : Nat} {ls : List (Option Value)} {st : List Value} {m : Mem} {x y : Int} (F : Fx κ Γ d mc ms μ) (hd : AT 1 Γ.2.1 pc .iastore nx) (hx : 0 ≤ x ∧ x < 6) (kk : GC κ μ Z kc ks nx ls st (World κ (mset m 10 0 ((m 10 0).1, aup (m 10 0).2 4 (gup ((m 10 0).2 4) x y))))) : GC κ μ Z kc ks pc ls (vi y :: vi x :: .ref (aa κ 10 0 4) :: st) (World κ m) := g_iast F hd (by decide) (by decide) (fun _ => rfl) (by decide) hx.1 hx.2 kk
theorem g_ild_10_5 {κ : Kx} {Γ : Gm} {d mc ms : Nat} {μ : MX} {Z : State → Prop} {kc ks pc nx idx : Nat} {ls : List (Option Value)} {st : List Value} {m : Mem} {x : Int} (F : Fx κ Γ d mc ms μ) (hd : AT 1 Γ.2.1 pc .iaload nx) (hx : 0 ≤ x ∧ x < 18) (kk : GC κ μ Z kc ks nx ls (vi ((m 10 0).2 5 x) :: st) (World κ m)) : GC κ μ Z kc ks pc ls (vi x :: .ref (aa κ 10 0 5) :: st) (World κ m) := g_iald F hd (by decide) (by decide) (fun _ => rfl) (by decide) hx.1 hx.2 kk
theorem g_ist_10_5 {κ : Kx} {Γ : Gm} {d mc ms : Nat} {μ : MX} {Z : State → Prop} {kc ks pc nx idx : Nat} {ls : List (Option Value)} {st : List Value} {m : Mem} {x y : Int} (F : Fx κ Γ d mc ms μ) (hd : AT 1 Γ.2.1 pc .iastore nx) (hx : 0 ≤ x ∧ x < 18) (kk : GC κ μ Z kc ks nx ls st (World κ (mset m 10 0 ((m 10 0).1, aup (m 10 0).2 5 (gup ((m 10 0).2 5) x y))))) : GC κ μ Z kc ks pc ls (vi y :: vi x :: .ref (aa κ 10 0 5) :: st) (World κ m) := g_iast F hd (by decide) (by decide) (fun _ => rfl) (by decide) hx.1 hx.2 kk
theorem g_ild_10_6 {κ : Kx} {Γ : Gm} {d mc ms : Nat} {μ : MX} {Z : State → Prop} {kc ks pc nx idx : Nat} {ls : List (Option Value)} {st : List Value} {m : Mem} {x : Int} (F : Fx κ Γ d mc ms μ) (hd : AT 1 Γ.2.1 pc .iaload nx) (hx : 0 ≤ x ∧ x < 24) (kk : GC κ μ Z kc ks nx ls (vi ((m 10 0).2 6 x) :: st) (World κ m)) : GC κ μ Z kc ks pc ls (vi x :: .ref (aa κ 10 0 6) :: st) (World κ m) := g_iald F hd (by decide) (by decide) (fun _ => rfl) (by decide) hx.1 hx.2 kk
theorem g_ist_10_6 {κ : Kx} {Γ : Gm} {d mc ms : Nat} {μ : MX} {Z : State → Prop} {kc ks pc nx idx : Nat} {ls : List (Option Value)} {st : List Value} {m : Mem} {x y : Int} (F : Fx κ Γ d mc ms μ) (hd : AT 1 Γ.2.1 pc .iastore nx) (hx : 0 ≤ x ∧ x < 24) (kk : GC κ μ Z kc ks nx ls st (World κ (mset m 10 0 ((m 10 0).1, aup (m 10 0).2 6 (gup ((m 10 0).2 6) x y))))) : GC κ μ Z kc ks pc ls (vi y :: vi x :: .ref (aa κ 10 0 6) :: st) (World κ m) := g_iast F hd (by decide) (by decide) (fun _ => rfl) (by decide) hx.1 hx.2 kk
theorem g_ild_10_7 {κ : Kx} {Γ : Gm} {d mc ms : Nat} {μ : MX} {Z : State → Prop} {kc ks pc nx idx : Nat} {ls : List (Option Value)} {st : List Value} {m : Mem} {x : Int} (F : Fx κ Γ d mc ms μ) (hd : AT 1 Γ.2.1 pc .iaload nx) (hx : 0 ≤ x ∧ x < 24) (kk : GC κ μ Z kc ks nx ls (vi ((m 10 0).2 7 x) :: st) (World κ m)) : GC κ μ Z kc ks pc ls (vi x :: .ref (aa κ 10 0 7) :: st) (World κ m) := g_iald F hd (by decide) (by decide) (fun _ => rfl) (by decide) hx.1 hx.2 kk
theorem g_ist_10_7 {κ : Kx} {Γ : Gm} {d mc ms : Nat} {μ : MX} {Z : State → Prop} {kc ks pc nx idx : Nat} {ls : List (Option Value)} {st : List Value} {m : Mem} {x y : Int} (F : Fx κ Γ d mc ms μ) (hd : AT 1 Γ.2.1 pc .iastore nx) (hx : 0 ≤ x ∧ x < 24) (kk : GC κ μ Z kc ks nx ls st (World κ (mset m 10 0 ((m 10 0).1, aup (m 10 0).2 7 (gup ((m 10 0).2 7) x y))))) : GC κ μ Z kc ks pc ls (vi y :: vi x :: .ref (aa κ 10 0 7) :: st) (World κ m) := g_iast F hd (by decide) (by decide) (fun _ => rfl) (by decide) hx.1 hx.2 kk
theorem g_ild_10_8 {κ : Kx} {Γ : Gm} {d mc ms : Nat} {μ : MX} {Z : State → Prop} {kc ks pc nx idx : Nat} {ls : List (Option Value)} {st : List Value} {m : Mem} {x : Int} (F : Fx κ Γ d mc ms μ) (hd : AT 1 Γ.2.1 pc .iaload nx) (hx : 0 ≤ x ∧ x < 150) (kk : GC κ μ Z kc ks nx ls (vi ((m 10 0).2 8 x) :: st) (World κ m)) : GC κ μ Z kc ks pc ls (vi x :: .ref (aa κ 10 0 8) :: st) (World κ m) := g_iald F hd (by decide) (by decide) (fun _ => rfl) (by decide) hx.1 hx.2 kk
theorem g_ist_10_8 {κ : Kx} {Γ : Gm} {d mc ms : Nat} {μ : MX} {Z : State → Prop} {kc ks pc nx idx : Nat} {ls : List (Option Value)} {st : List Value} {m : Mem} {x y : Int} (F : Fx κ Γ d mc ms μ) (hd : AT 1 Γ.2.1 pc .iastore nx) (hx : 0 ≤ x ∧ x < 150) (kk : GC κ μ Z kc ks nx ls st (World κ (mset m 10 0 ((m 10 0).1, aup (m 10 0).2 8 (gup ((m 10 0).2 8) x y))))) : GC κ μ Z kc ks pc ls (vi y :: vi x :: .ref (aa κ 10 0 8) :: st) (World κ m) := g_iast F hd (by decide) (by decide) (fun _ => rfl) (by decide) hx.1 hx.2 kk
theorem g_ild_10_9 {κ : Kx} {Γ : Gm} {d mc ms : Nat} {μ : MX} {Z : State → Prop} {kc ks pc nx idx : Nat} {ls : List (Option Value)} {st : List Value} {m : Mem} {x : Int} (F : Fx κ Γ d mc ms μ) (hd : AT 1 Γ.2.1 pc .iaload nx) (hx : 0 ≤ x ∧ x < 180) (kk : GC κ μ Z kc ks nx ls (vi ((m 10 0).2 9 x) :: st) (World κ m)) : GC κ μ Z kc ks pc ls (vi x :: .ref (aa κ 10 0 9) :: st) (World κ m) := g_iald F hd (by decide) (by decide) (fun _ => rfl) (by decide) hx.1 hx.2 kk
theorem g_ist_10_9 {κ : Kx} {Γ : Gm} {d mc ms : Nat} {μ : MX} {Z : State → Prop} {kc ks pc nx idx : Nat} {ls : List (Option Value)} {st : List Value} {m : Mem} {x y : Int} (F : Fx κ Γ d mc ms μ) (hd : AT 1 Γ.2.1 pc .iastore nx) (hx : 0 ≤ x ∧ x < 180) (kk : GC κ μ Z kc ks nx ls st (World κ (mset m 10 0 ((m 10 0).1, aup (m 10 0).2 9 (gup ((m 10 0).2 9) x y))))) : GC κ μ Z kc ks pc ls (vi y :: vi x :: .ref (aa κ 10 0 9) :: st) (World κ m) := g_iast F hd (by decide) (by decide) (fun _ => rfl) (by decide) hx.1 hx.2 kk
theorem g_ild_10_10 {κ : Kx} {Γ : Gm} {d mc ms : Nat} {μ : MX} {Z : State → Prop} {kc ks pc nx idx : Nat} {ls : List (Option Value)} {st : List Value} {m : Mem} {x : Int} (F : Fx κ Γ d mc ms μ) (hd : AT 1 Γ.2.1 pc .iaload nx) (hx : 0 ≤ x ∧ x < 72) (kk : GC κ μ Z kc ks nx ls (vi ((m 10 0).2 10 x) :: st) (World κ m)) : GC κ μ Z kc ks pc ls (vi x :: .ref (aa κ 10 0 10) :: st) (World κ m) := g_iald F hd (by decide) (by decide) (fun _ => rfl) (by decide) hx.1 hx.2 kk
theorem g_ist_10_10 {κ : Kx} {Γ : Gm} {d mc ms : Nat} {μ : MX} {Z : State → Prop} {kc ks pc nx idx : Nat} {ls : List (Option Value)} {st : List Value} {m : Mem} {x y : Int} (F : Fx κ Γ d mc ms μ) (hd : AT 1 Γ.2.1 pc .iastore nx) (hx : 0 ≤ x ∧ x < 72) (kk : GC κ μ Z kc ks nx ls st (World κ (mset m 10 0 ((m 10 0).1, aup (m 10 0).2 10 (gup ((m 10 0).2 10) x y))))) : GC κ μ Z kc ks pc ls (vi y :: vi x :: .ref (aa κ 10 0 10) :: st) (World κ m) := g_iast F hd (by decide) (by decide) (fun _ => rfl) (by decide) hx.1 hx.2 kk
theorem g_ild_10_11 {κ : Kx} {Γ : Gm} {d mc ms : Nat} {μ : MX} {Z : State → Prop} {kc ks pc nx idx : Nat} {ls : List (Option Value)} {st : List Value} {m : Mem} {x : Int} (F : Fx κ Γ d mc ms μ) (hd : AT 1 Γ.2.1 pc .iaload nx) (hx : 0 ≤ x ∧ x < 9) (kk : GC κ μ Z kc ks nx ls (vi ((m 10 0).2 11 x) :: st) (World κ m)) : GC κ μ Z kc ks pc ls (vi x :: .ref (aa κ 10 0 11) :: st) (World κ m) := g_iald F hd (by decide) (by decide) (fun _ => rfl) (by decide) hx.1 hx.2 kk
theorem g_ist_10_11 {κ : Kx} {Γ : Gm} {d mc ms : Nat} {μ : MX} {Z : State → Prop} {kc ks pc nx idx : Nat} {ls : List (Option Value)} {st : List Value} {m : Mem} {x y : Int} (F : Fx κ Γ d mc ms μ) (hd : AT 1 Γ.2.1 pc .iastore nx) (hx : 0 ≤ x ∧ x < 9) (kk : GC κ μ Z kc ks nx ls st (World κ (mset m 10 0 ((m 10 0).1, aup (m 10 0).2 11 (gup ((m 10 0).2 11) x y))))) : GC κ μ Z kc ks pc ls (vi y :: vi x :: .ref (aa κ 10 0 11) :: st) (World κ m) := g_iast F hd (by decide) (by decide) (fun _ => rfl) (by decide) hx.1 hx.2 kk
theorem g_ild_10_12 {κ : Kx} {Γ : Gm} {d mc ms : Nat} {μ : MX} {Z : State → Prop} {kc ks pc nx idx : Nat} {ls : List (Option Value)} {st : List Value} {m : Mem} {x : Int} (F : Fx κ Γ d mc ms μ) (hd : AT 1 Γ.2.1 pc .iaload nx) (hx : 0 ≤ x ∧ x < 360) (kk : GC κ μ Z kc ks nx ls (vi ((m 10 0).2 12 x) :: st) (World κ m)) : GC κ μ Z kc ks pc ls (vi x :: .ref (aa κ 10 0 12) :: st) (World κ m) := g_iald F hd (by decide) (by decide) (fun _ => rfl) (by decide) hx.1 hx.2 kk
theorem g_ist_10_12 {κ : Kx} {Γ : Gm} {d mc ms : Nat} {μ : MX} {Z : State → Prop} {kc ks pc nx idx : Nat} {ls : List (Option Value)} {st : List Value} {m : Mem} {x y : Int} (F : Fx κ Γ d mc ms μ) (hd : AT 1 Γ.2.1 pc .iastore nx) (hx : 0 ≤ x ∧ x < 360) (kk : GC κ μ Z kc ks nx ls st (World κ (mset m 10 0 ((m 10 0).1, aup (m 10 0).2 12 (gup ((m 10 0).2 12) x y))))) : GC κ μ Z kc ks pc ls (vi y :: vi x :: .ref (aa κ 10 0 12) :: st) (World κ m) := g_iast F hd (by decide) (by decide) (fun _ => rfl) (by decide) hx.1 hx.2 kk
theorem g_ild_10_13 {κ : Kx} {Γ : Gm} {d mc ms : Nat} {μ : MX} {Z : State → Prop} {kc ks pc nx idx : Nat} {ls : List (Option Value)} {st : List Value} {m : Mem} {x : Int} (F : Fx κ Γ d mc ms μ) (hd : AT 1 Γ.2.1 pc .iaload nx) (hx : 0 ≤ x ∧ x < 2) (kk : GC κ μ Z kc ks nx ls (vi ((m 10 0).2 13 x) :: st) (World κ m)) : GC κ μ Z kc ks pc ls (vi x :: .ref (aa κ 10 0 13) :: st) (World κ m) := g_iald F hd (by decide) (by decide) (fun _ => rfl) (by decide) hx.1 hx.2 kk
theorem g_ist_10_13 {κ : Kx} {Γ : Gm} {d mc ms : Nat} {μ : MX} {Z : State → Prop} {kc ks pc nx idx : Nat} {ls : List (Option Value)} {st : List Value} {m : Mem} {x y : Int} (F : Fx κ Γ d mc ms μ) (hd : AT 1 Γ.2.1 pc .iastore nx) (hx : 0 ≤ x ∧ x < 2) (kk : GC κ μ Z kc ks nx ls st (World κ (mset m 10 0 ((m 10 0).1, aup (m 10 0).2 13 (gup ((m 10 0).2 13) x y))))) : GC κ μ Z kc ks pc ls (vi y :: vi x :: .ref (aa κ 10 0 13) :: st) (World κ m) := g_iast F hd (by decide) (by decide) (fun _ => rfl) (by decide) hx.1 hx.2 kk
end
