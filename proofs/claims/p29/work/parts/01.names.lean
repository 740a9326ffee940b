-- ===== PART A: goes FIRST, ahead of the names: the tables' words, and 'selects' of the private methods out of them =====
/-- a private method of a class that the tables say can be made, by its rows of tables_1 -/
def lw_okq (q : MethodName × Nat) : Prop := (q.1.cls ≠ "java/lang/invoke/MethodHandle" ∧ q.1.cls ≠ "java/lang/invoke/VarHandle") ∧ Cond.instantiable q.1.cls q.2 ∈ tables_1 ∧ Cond.privateMethod q.1 ∈ tables_1 ∧ Cond.instanceMethod q.1 ∈ tables_1
theorem lw_p0 : lw_okq (⟨"CloudLaundry$Reader", "step", "()V"⟩, 6) := ⟨⟨by decide +kernel, by decide +kernel⟩, List.mem_of_getElem? (i := 179) (by decide +kernel), List.mem_of_getElem? (i := 358) (by decide +kernel), List.mem_of_getElem? (i := 359) (by decide +kernel)⟩
theorem lw_p1 : lw_okq (⟨"CloudLaundry$Reader", "readsClause", "()Z"⟩, 6) := ⟨⟨by decide +kernel, by decide +kernel⟩, List.mem_of_getElem? (i := 179) (by decide +kernel), List.mem_of_getElem? (i := 369) (by decide +kernel), List.mem_of_getElem? (i := 370) (by decide +kernel)⟩
theorem lw_p2 : lw_okq (⟨"CloudLaundry$Reader", "isWord", "(Ljava/lang/String;)Z"⟩, 6) := ⟨⟨by decide +kernel, by decide +kernel⟩, List.mem_of_getElem? (i := 179) (by decide +kernel), List.mem_of_getElem? (i := 374) (by decide +kernel), List.mem_of_getElem? (i := 375) (by decide +kernel)⟩
theorem lw_p3 : lw_okq (⟨"CloudLaundry$Reader", "readsStain", "()Z"⟩, 6) := ⟨⟨by decide +kernel, by decide +kernel⟩, List.mem_of_getElem? (i := 179) (by decide +kernel), List.mem_of_getElem? (i := 431) (by decide +kernel), List.mem_of_getElem? (i := 432) (by decide +kernel)⟩
theorem lw_p4 : lw_okq (⟨"CloudLaundry$Reader", "number", "(II)I"⟩, 6) := ⟨⟨by decide +kernel, by decide +kernel⟩, List.mem_of_getElem? (i := 179) (by decide +kernel), List.mem_of_getElem? (i := 435) (by decide +kernel), List.mem_of_getElem? (i := 436) (by decide +kernel)⟩
theorem lw_p5 : lw_okq (⟨"CloudLaundry$Reader", "readsWasher", "()Z"⟩, 6) := ⟨⟨by decide +kernel, by decide +kernel⟩, List.mem_of_getElem? (i := 179) (by decide +kernel), List.mem_of_getElem? (i := 444) (by decide +kernel), List.mem_of_getElem? (i := 445) (by decide +kernel)⟩
theorem lw_p6 : lw_okq (⟨"CloudLaundry$Reader", "readsSoap", "()Z"⟩, 6) := ⟨⟨by decide +kernel, by decide +kernel⟩, List.mem_of_getElem? (i := 179) (by decide +kernel), List.mem_of_getElem? (i := 453) (by decide +kernel), List.mem_of_getElem? (i := 454) (by decide +kernel)⟩
theorem lw_p7 : lw_okq (⟨"CloudLaundry$Reader", "readsEye", "()Z"⟩, 6) := ⟨⟨by decide +kernel, by decide +kernel⟩, List.mem_of_getElem? (i := 179) (by decide +kernel), List.mem_of_getElem? (i := 458) (by decide +kernel), List.mem_of_getElem? (i := 459) (by decide +kernel)⟩
theorem lw_p8 : lw_okq (⟨"CloudLaundry$Reader", "readsCloud", "(LCloudLaundry$Kind;)Z"⟩, 6) := ⟨⟨by decide +kernel, by decide +kernel⟩, List.mem_of_getElem? (i := 179) (by decide +kernel), List.mem_of_getElem? (i := 481) (by decide +kernel), List.mem_of_getElem? (i := 482) (by decide +kernel)⟩
theorem lw_p9 : lw_okq (⟨"CloudLaundry", "remember", "()V"⟩, 20) := ⟨⟨by decide +kernel, by decide +kernel⟩, List.mem_of_getElem? (i := 23) (by decide +kernel), List.mem_of_getElem? (i := 597) (by decide +kernel), List.mem_of_getElem? (i := 598) (by decide +kernel)⟩
theorem lw_p10 : lw_okq (⟨"CloudLaundry$Day", "flow", "()V"⟩, 9) := ⟨⟨by decide +kernel, by decide +kernel⟩, List.mem_of_getElem? (i := 80) (by decide +kernel), List.mem_of_getElem? (i := 627) (by decide +kernel), List.mem_of_getElem? (i := 628) (by decide +kernel)⟩
theorem lw_p11 : lw_okq (⟨"CloudLaundry$Day", "rubStone", "(I)V"⟩, 9) := ⟨⟨by decide +kernel, by decide +kernel⟩, List.mem_of_getElem? (i := 80) (by decide +kernel), List.mem_of_getElem? (i := 631) (by decide +kernel), List.mem_of_getElem? (i := 632) (by decide +kernel)⟩
theorem lw_p12 : lw_okq (⟨"CloudLaundry$Day", "rubOnce", "(LCloudLaundry$Cloud;)V"⟩, 9) := ⟨⟨by decide +kernel, by decide +kernel⟩, List.mem_of_getElem? (i := 80) (by decide +kernel), List.mem_of_getElem? (i := 638) (by decide +kernel), List.mem_of_getElem? (i := 639) (by decide +kernel)⟩
theorem lw_p13 : lw_okq (⟨"CloudLaundry", "readAhead", "(I)V"⟩, 20) := ⟨⟨by decide +kernel, by decide +kernel⟩, List.mem_of_getElem? (i := 23) (by decide +kernel), List.mem_of_getElem? (i := 700) (by decide +kernel), List.mem_of_getElem? (i := 701) (by decide +kernel)⟩
theorem lw_p14 : lw_okq (⟨"CloudLaundry", "readFrom", "(I)I"⟩, 20) := ⟨⟨by decide +kernel, by decide +kernel⟩, List.mem_of_getElem? (i := 23) (by decide +kernel), List.mem_of_getElem? (i := 710) (by decide +kernel), List.mem_of_getElem? (i := 711) (by decide +kernel)⟩
theorem lw_p15 : lw_okq (⟨"CloudLaundry$Plan", "sortByDue", "()V"⟩, 7) := ⟨⟨by decide +kernel, by decide +kernel⟩, List.mem_of_getElem? (i := 205) (by decide +kernel), List.mem_of_getElem? (i := 723) (by decide +kernel), List.mem_of_getElem? (i := 724) (by decide +kernel)⟩
def lw_privs_1 : List (MethodName × Nat) := [(⟨"CloudLaundry$Reader", "step", "()V"⟩, 6), (⟨"CloudLaundry$Reader", "readsClause", "()Z"⟩, 6), (⟨"CloudLaundry$Reader", "isWord", "(Ljava/lang/String;)Z"⟩, 6), (⟨"CloudLaundry$Reader", "readsStain", "()Z"⟩, 6), (⟨"CloudLaundry$Reader", "number", "(II)I"⟩, 6), (⟨"CloudLaundry$Reader", "readsWasher", "()Z"⟩, 6), (⟨"CloudLaundry$Reader", "readsSoap", "()Z"⟩, 6), (⟨"CloudLaundry$Reader", "readsEye", "()Z"⟩, 6), (⟨"CloudLaundry$Reader", "readsCloud", "(LCloudLaundry$Kind;)Z"⟩, 6), (⟨"CloudLaundry", "remember", "()V"⟩, 20), (⟨"CloudLaundry$Day", "flow", "()V"⟩, 9), (⟨"CloudLaundry$Day", "rubStone", "(I)V"⟩, 9), (⟨"CloudLaundry$Day", "rubOnce", "(LCloudLaundry$Cloud;)V"⟩, 9), (⟨"CloudLaundry", "readAhead", "(I)V"⟩, 20), (⟨"CloudLaundry", "readFrom", "(I)I"⟩, 20), (⟨"CloudLaundry$Plan", "sortByDue", "()V"⟩, 7)]
theorem lw_r1 : ∀ q ∈ lw_privs_1, lw_okq q := List.forall_mem_cons.mpr ⟨lw_p0, List.forall_mem_cons.mpr ⟨lw_p1, List.forall_mem_cons.mpr ⟨lw_p2, List.forall_mem_cons.mpr ⟨lw_p3, List.forall_mem_cons.mpr ⟨lw_p4, List.forall_mem_cons.mpr ⟨lw_p5, List.forall_mem_cons.mpr ⟨lw_p6, List.forall_mem_cons.mpr ⟨lw_p7, List.forall_mem_cons.mpr ⟨lw_p8, List.forall_mem_cons.mpr ⟨lw_p9, List.forall_mem_cons.mpr ⟨lw_p10, List.forall_mem_cons.mpr ⟨lw_p11, List.forall_mem_cons.mpr ⟨lw_p12, List.forall_mem_cons.mpr ⟨lw_p13, List.forall_mem_cons.mpr ⟨lw_p14, List.forall_mem_cons.mpr ⟨lw_p15, fun _ h => absurd h List.not_mem_nil⟩⟩⟩⟩⟩⟩⟩⟩⟩⟩⟩⟩⟩⟩⟩⟩
theorem lw_p16 : lw_okq (⟨"CloudLaundry$Plan", "dueOf", "(I)I"⟩, 7) := ⟨⟨by decide +kernel, by decide +kernel⟩, List.mem_of_getElem? (i := 205) (by decide +kernel), List.mem_of_getElem? (i := 727) (by decide +kernel), List.mem_of_getElem? (i := 728) (by decide +kernel)⟩
theorem lw_p17 : lw_okq (⟨"CloudLaundry$Plan", "share", "(II)V"⟩, 7) := ⟨⟨by decide +kernel, by decide +kernel⟩, List.mem_of_getElem? (i := 205) (by decide +kernel), List.mem_of_getElem? (i := 733) (by decide +kernel), List.mem_of_getElem? (i := 734) (by decide +kernel)⟩
theorem lw_p18 : lw_okq (⟨"CloudLaundry$Plan", "isInTime", "(I)Z"⟩, 7) := ⟨⟨by decide +kernel, by decide +kernel⟩, List.mem_of_getElem? (i := 205) (by decide +kernel), List.mem_of_getElem? (i := 738) (by decide +kernel), List.mem_of_getElem? (i := 739) (by decide +kernel)⟩
theorem lw_p19 : lw_okq (⟨"CloudLaundry$Plan", "isHers", "(II)Z"⟩, 7) := ⟨⟨by decide +kernel, by decide +kernel⟩, List.mem_of_getElem? (i := 205) (by decide +kernel), List.mem_of_getElem? (i := 742) (by decide +kernel), List.mem_of_getElem? (i := 743) (by decide +kernel)⟩
theorem lw_p20 : lw_okq (⟨"CloudLaundry$Plan", "hoursOf", "(II)I"⟩, 7) := ⟨⟨by decide +kernel, by decide +kernel⟩, List.mem_of_getElem? (i := 205) (by decide +kernel), List.mem_of_getElem? (i := 746) (by decide +kernel), List.mem_of_getElem? (i := 747) (by decide +kernel)⟩
theorem lw_p21 : lw_okq (⟨"CloudLaundry", "agreesWithSeen", "(ILCloudLaundry$Cloud;LCloudLaundry$Kind;)Z"⟩, 20) := ⟨⟨by decide +kernel, by decide +kernel⟩, List.mem_of_getElem? (i := 23) (by decide +kernel), List.mem_of_getElem? (i := 770) (by decide +kernel), List.mem_of_getElem? (i := 771) (by decide +kernel)⟩
theorem lw_p22 : lw_okq (⟨"CloudLaundry", "lineAt", "(I)LCloudLaundry$Line;"⟩, 20) := ⟨⟨by decide +kernel, by decide +kernel⟩, List.mem_of_getElem? (i := 23) (by decide +kernel), List.mem_of_getElem? (i := 791) (by decide +kernel), List.mem_of_getElem? (i := 792) (by decide +kernel)⟩
theorem lw_p23 : lw_okq (⟨"CloudLaundry", "linesThere", "()I"⟩, 20) := ⟨⟨by decide +kernel, by decide +kernel⟩, List.mem_of_getElem? (i := 23) (by decide +kernel), List.mem_of_getElem? (i := 854) (by decide +kernel), List.mem_of_getElem? (i := 855) (by decide +kernel)⟩
theorem lw_p24 : lw_okq (⟨"CloudLaundryModel", "readsAll", "()Z"⟩, 44) := ⟨⟨by decide +kernel, by decide +kernel⟩, List.mem_of_getElem? (i := 862) (by decide +kernel), List.mem_of_getElem? (i := 1017) (by decide +kernel), List.mem_of_getElem? (i := 1018) (by decide +kernel)⟩
theorem lw_p25 : lw_okq (⟨"CloudLaundryModel", "readAsTold", "()V"⟩, 44) := ⟨⟨by decide +kernel, by decide +kernel⟩, List.mem_of_getElem? (i := 862) (by decide +kernel), List.mem_of_getElem? (i := 1021) (by decide +kernel), List.mem_of_getElem? (i := 1022) (by decide +kernel)⟩
theorem lw_p26 : lw_okq (⟨"CloudLaundryModel", "next", "()V"⟩, 44) := ⟨⟨by decide +kernel, by decide +kernel⟩, List.mem_of_getElem? (i := 862) (by decide +kernel), List.mem_of_getElem? (i := 1025) (by decide +kernel), List.mem_of_getElem? (i := 1026) (by decide +kernel)⟩
theorem lw_p27 : lw_okq (⟨"CloudLaundryModel", "isSmall", "(I)Z"⟩, 44) := ⟨⟨by decide +kernel, by decide +kernel⟩, List.mem_of_getElem? (i := 862) (by decide +kernel), List.mem_of_getElem? (i := 1029) (by decide +kernel), List.mem_of_getElem? (i := 1030) (by decide +kernel)⟩
theorem lw_p28 : lw_okq (⟨"CloudLaundryModel", "isDigit", "(I)Z"⟩, 44) := ⟨⟨by decide +kernel, by decide +kernel⟩, List.mem_of_getElem? (i := 862) (by decide +kernel), List.mem_of_getElem? (i := 1035) (by decide +kernel), List.mem_of_getElem? (i := 1036) (by decide +kernel)⟩
theorem lw_p29 : lw_okq (⟨"CloudLaundryModel", "readsClause", "()Z"⟩, 44) := ⟨⟨by decide +kernel, by decide +kernel⟩, List.mem_of_getElem? (i := 862) (by decide +kernel), List.mem_of_getElem? (i := 1041) (by decide +kernel), List.mem_of_getElem? (i := 1042) (by decide +kernel)⟩
theorem lw_p30 : lw_okq (⟨"CloudLaundryModel", "wordNow", "()J"⟩, 44) := ⟨⟨by decide +kernel, by decide +kernel⟩, List.mem_of_getElem? (i := 862) (by decide +kernel), List.mem_of_getElem? (i := 1045) (by decide +kernel), List.mem_of_getElem? (i := 1046) (by decide +kernel)⟩
theorem lw_p31 : lw_okq (⟨"CloudLaundryModel", "readsCloud", "(I)Z"⟩, 44) := ⟨⟨by decide +kernel, by decide +kernel⟩, List.mem_of_getElem? (i := 862) (by decide +kernel), List.mem_of_getElem? (i := 1055) (by decide +kernel), List.mem_of_getElem? (i := 1056) (by decide +kernel)⟩
def lw_privs_2 : List (MethodName × Nat) := [(⟨"CloudLaundry$Plan", "dueOf", "(I)I"⟩, 7), (⟨"CloudLaundry$Plan", "share", "(II)V"⟩, 7), (⟨"CloudLaundry$Plan", "isInTime", "(I)Z"⟩, 7), (⟨"CloudLaundry$Plan", "isHers", "(II)Z"⟩, 7), (⟨"CloudLaundry$Plan", "hoursOf", "(II)I"⟩, 7), (⟨"CloudLaundry", "agreesWithSeen", "(ILCloudLaundry$Cloud;LCloudLaundry$Kind;)Z"⟩, 20), (⟨"CloudLaundry", "lineAt", "(I)LCloudLaundry$Line;"⟩, 20), (⟨"CloudLaundry", "linesThere", "()I"⟩, 20), (⟨"CloudLaundryModel", "readsAll", "()Z"⟩, 44), (⟨"CloudLaundryModel", "readAsTold", "()V"⟩, 44), (⟨"CloudLaundryModel", "next", "()V"⟩, 44), (⟨"CloudLaundryModel", "isSmall", "(I)Z"⟩, 44), (⟨"CloudLaundryModel", "isDigit", "(I)Z"⟩, 44), (⟨"CloudLaundryModel", "readsClause", "()Z"⟩, 44), (⟨"CloudLaundryModel", "wordNow", "()J"⟩, 44), (⟨"CloudLaundryModel", "readsCloud", "(I)Z"⟩, 44)]
theorem lw_r2 : ∀ q ∈ lw_privs_2, lw_okq q := List.forall_mem_cons.mpr ⟨lw_p16, List.forall_mem_cons.mpr ⟨lw_p17, List.forall_mem_cons.mpr ⟨lw_p18, List.forall_mem_cons.mpr ⟨lw_p19, List.forall_mem_cons.mpr ⟨lw_p20, List.forall_mem_cons.mpr ⟨lw_p21, List.forall_mem_cons.mpr ⟨lw_p22, List.forall_mem_cons.mpr ⟨lw_p23, List.forall_mem_cons.mpr ⟨lw_p24, List.forall_mem_cons.mpr ⟨lw_p25, List.forall_mem_cons.mpr ⟨lw_p26, List.forall_mem_cons.mpr ⟨lw_p27, List.forall_mem_cons.mpr ⟨lw_p28, List.forall_mem_cons.mpr ⟨lw_p29, List.forall_mem_cons.mpr ⟨lw_p30, List.forall_mem_cons.mpr ⟨lw_p31, fun _ h => absurd h List.not_mem_nil⟩⟩⟩⟩⟩⟩⟩⟩⟩⟩⟩⟩⟩⟩⟩⟩
theorem lw_p32 : lw_okq (⟨"CloudLaundryModel", "takes0", "(II)Z"⟩, 44) := ⟨⟨by decide +kernel, by decide +kernel⟩, List.mem_of_getElem? (i := 862) (by decide +kernel), List.mem_of_getElem? (i := 1059) (by decide +kernel), List.mem_of_getElem? (i := 1060) (by decide +kernel)⟩
theorem lw_p33 : lw_okq (⟨"CloudLaundryModel", "readsSummer", "()Z"⟩, 44) := ⟨⟨by decide +kernel, by decide +kernel⟩, List.mem_of_getElem? (i := 862) (by decide +kernel), List.mem_of_getElem? (i := 1064) (by decide +kernel), List.mem_of_getElem? (i := 1065) (by decide +kernel)⟩
theorem lw_p34 : lw_okq (⟨"CloudLaundryModel", "readsStain", "()Z"⟩, 44) := ⟨⟨by decide +kernel, by decide +kernel⟩, List.mem_of_getElem? (i := 862) (by decide +kernel), List.mem_of_getElem? (i := 1069) (by decide +kernel), List.mem_of_getElem? (i := 1070) (by decide +kernel)⟩
theorem lw_p35 : lw_okq (⟨"CloudLaundryModel", "readsWasher", "()Z"⟩, 44) := ⟨⟨by decide +kernel, by decide +kernel⟩, List.mem_of_getElem? (i := 862) (by decide +kernel), List.mem_of_getElem? (i := 1074) (by decide +kernel), List.mem_of_getElem? (i := 1075) (by decide +kernel)⟩
theorem lw_p36 : lw_okq (⟨"CloudLaundryModel", "readsSoap", "()Z"⟩, 44) := ⟨⟨by decide +kernel, by decide +kernel⟩, List.mem_of_getElem? (i := 862) (by decide +kernel), List.mem_of_getElem? (i := 1079) (by decide +kernel), List.mem_of_getElem? (i := 1080) (by decide +kernel)⟩
theorem lw_p37 : lw_okq (⟨"CloudLaundryModel", "readsEye", "()Z"⟩, 44) := ⟨⟨by decide +kernel, by decide +kernel⟩, List.mem_of_getElem? (i := 862) (by decide +kernel), List.mem_of_getElem? (i := 1084) (by decide +kernel), List.mem_of_getElem? (i := 1085) (by decide +kernel)⟩
theorem lw_p38 : lw_okq (⟨"CloudLaundryModel", "begin", "()V"⟩, 44) := ⟨⟨by decide +kernel, by decide +kernel⟩, List.mem_of_getElem? (i := 862) (by decide +kernel), List.mem_of_getElem? (i := 1092) (by decide +kernel), List.mem_of_getElem? (i := 1093) (by decide +kernel)⟩
theorem lw_p39 : lw_okq (⟨"CloudLaundryModel", "isCloud", "(I)Z"⟩, 44) := ⟨⟨by decide +kernel, by decide +kernel⟩, List.mem_of_getElem? (i := 862) (by decide +kernel), List.mem_of_getElem? (i := 1100) (by decide +kernel), List.mem_of_getElem? (i := 1101) (by decide +kernel)⟩
theorem lw_p40 : lw_okq (⟨"CloudLaundryModel", "whoHas", "(I)I"⟩, 44) := ⟨⟨by decide +kernel, by decide +kernel⟩, List.mem_of_getElem? (i := 862) (by decide +kernel), List.mem_of_getElem? (i := 1104) (by decide +kernel), List.mem_of_getElem? (i := 1105) (by decide +kernel)⟩
theorem lw_p41 : lw_okq (⟨"CloudLaundryModel", "isClean", "(I)Z"⟩, 44) := ⟨⟨by decide +kernel, by decide +kernel⟩, List.mem_of_getElem? (i := 862) (by decide +kernel), List.mem_of_getElem? (i := 1108) (by decide +kernel), List.mem_of_getElem? (i := 1109) (by decide +kernel)⟩
theorem lw_p42 : lw_okq (⟨"CloudLaundryModel", "isDry", "(I)Z"⟩, 44) := ⟨⟨by decide +kernel, by decide +kernel⟩, List.mem_of_getElem? (i := 862) (by decide +kernel), List.mem_of_getElem? (i := 1112) (by decide +kernel), List.mem_of_getElem? (i := 1113) (by decide +kernel)⟩
theorem lw_p43 : lw_okq (⟨"CloudLaundryModel", "isWasher", "(I)Z"⟩, 44) := ⟨⟨by decide +kernel, by decide +kernel⟩, List.mem_of_getElem? (i := 862) (by decide +kernel), List.mem_of_getElem? (i := 1128) (by decide +kernel), List.mem_of_getElem? (i := 1129) (by decide +kernel)⟩
theorem lw_p44 : lw_okq (⟨"CloudLaundryModel", "remember", "()V"⟩, 44) := ⟨⟨by decide +kernel, by decide +kernel⟩, List.mem_of_getElem? (i := 862) (by decide +kernel), List.mem_of_getElem? (i := 1149) (by decide +kernel), List.mem_of_getElem? (i := 1150) (by decide +kernel)⟩
theorem lw_p45 : lw_okq (⟨"CloudLaundryModel", "allDeep", "(I)I"⟩, 44) := ⟨⟨by decide +kernel, by decide +kernel⟩, List.mem_of_getElem? (i := 862) (by decide +kernel), List.mem_of_getElem? (i := 1153) (by decide +kernel), List.mem_of_getElem? (i := 1154) (by decide +kernel)⟩
theorem lw_p46 : lw_okq (⟨"CloudLaundryModel", "pass", "()V"⟩, 44) := ⟨⟨by decide +kernel, by decide +kernel⟩, List.mem_of_getElem? (i := 862) (by decide +kernel), List.mem_of_getElem? (i := 1179) (by decide +kernel), List.mem_of_getElem? (i := 1180) (by decide +kernel)⟩
theorem lw_p47 : lw_okq (⟨"CloudLaundryModel", "work", "(II)V"⟩, 44) := ⟨⟨by decide +kernel, by decide +kernel⟩, List.mem_of_getElem? (i := 862) (by decide +kernel), List.mem_of_getElem? (i := 1183) (by decide +kernel), List.mem_of_getElem? (i := 1184) (by decide +kernel)⟩
def lw_privs_3 : List (MethodName × Nat) := [(⟨"CloudLaundryModel", "takes0", "(II)Z"⟩, 44), (⟨"CloudLaundryModel", "readsSummer", "()Z"⟩, 44), (⟨"CloudLaundryModel", "readsStain", "()Z"⟩, 44), (⟨"CloudLaundryModel", "readsWasher", "()Z"⟩, 44), (⟨"CloudLaundryModel", "readsSoap", "()Z"⟩, 44), (⟨"CloudLaundryModel", "readsEye", "()Z"⟩, 44), (⟨"CloudLaundryModel", "begin", "()V"⟩, 44), (⟨"CloudLaundryModel", "isCloud", "(I)Z"⟩, 44), (⟨"CloudLaundryModel", "whoHas", "(I)I"⟩, 44), (⟨"CloudLaundryModel", "isClean", "(I)Z"⟩, 44), (⟨"CloudLaundryModel", "isDry", "(I)Z"⟩, 44), (⟨"CloudLaundryModel", "isWasher", "(I)Z"⟩, 44), (⟨"CloudLaundryModel", "remember", "()V"⟩, 44), (⟨"CloudLaundryModel", "allDeep", "(I)I"⟩, 44), (⟨"CloudLaundryModel", "pass", "()V"⟩, 44), (⟨"CloudLaundryModel", "work", "(II)V"⟩, 44)]
theorem lw_r3 : ∀ q ∈ lw_privs_3, lw_okq q := List.forall_mem_cons.mpr ⟨lw_p32, List.forall_mem_cons.mpr ⟨lw_p33, List.forall_mem_cons.mpr ⟨lw_p34, List.forall_mem_cons.mpr ⟨lw_p35, List.forall_mem_cons.mpr ⟨lw_p36, List.forall_mem_cons.mpr ⟨lw_p37, List.forall_mem_cons.mpr ⟨lw_p38, List.forall_mem_cons.mpr ⟨lw_p39, List.forall_mem_cons.mpr ⟨lw_p40, List.forall_mem_cons.mpr ⟨lw_p41, List.forall_mem_cons.mpr ⟨lw_p42, List.forall_mem_cons.mpr ⟨lw_p43, List.forall_mem_cons.mpr ⟨lw_p44, List.forall_mem_cons.mpr ⟨lw_p45, List.forall_mem_cons.mpr ⟨lw_p46, List.forall_mem_cons.mpr ⟨lw_p47, fun _ h => absurd h List.not_mem_nil⟩⟩⟩⟩⟩⟩⟩⟩⟩⟩⟩⟩⟩⟩⟩⟩
theorem lw_p48 : lw_okq (⟨"CloudLaundryModel", "rub", "(I)V"⟩, 44) := ⟨⟨by decide +kernel, by decide +kernel⟩, List.mem_of_getElem? (i := 862) (by decide +kernel), List.mem_of_getElem? (i := 1187) (by decide +kernel), List.mem_of_getElem? (i := 1188) (by decide +kernel)⟩
theorem lw_p49 : lw_okq (⟨"CloudLaundryModel", "deepest", "(IZ)I"⟩, 44) := ⟨⟨by decide +kernel, by decide +kernel⟩, List.mem_of_getElem? (i := 862) (by decide +kernel), List.mem_of_getElem? (i := 1191) (by decide +kernel), List.mem_of_getElem? (i := 1192) (by decide +kernel)⟩
theorem lw_p50 : lw_okq (⟨"CloudLaundryModel", "takesBy", "(III)I"⟩, 44) := ⟨⟨by decide +kernel, by decide +kernel⟩, List.mem_of_getElem? (i := 862) (by decide +kernel), List.mem_of_getElem? (i := 1215) (by decide +kernel), List.mem_of_getElem? (i := 1216) (by decide +kernel)⟩
theorem lw_p51 : lw_okq (⟨"CloudLaundryModel", "areOff", "()Z"⟩, 44) := ⟨⟨by decide +kernel, by decide +kernel⟩, List.mem_of_getElem? (i := 862) (by decide +kernel), List.mem_of_getElem? (i := 1219) (by decide +kernel), List.mem_of_getElem? (i := 1220) (by decide +kernel)⟩
theorem lw_p52 : lw_okq (⟨"CloudLaundryModel", "takesOne", "()Z"⟩, 44) := ⟨⟨by decide +kernel, by decide +kernel⟩, List.mem_of_getElem? (i := 862) (by decide +kernel), List.mem_of_getElem? (i := 1223) (by decide +kernel), List.mem_of_getElem? (i := 1224) (by decide +kernel)⟩
theorem lw_p53 : lw_okq (⟨"CloudLaundryModel", "copyRow", "([I[I)V"⟩, 44) := ⟨⟨by decide +kernel, by decide +kernel⟩, List.mem_of_getElem? (i := 862) (by decide +kernel), List.mem_of_getElem? (i := 1231) (by decide +kernel), List.mem_of_getElem? (i := 1232) (by decide +kernel)⟩
theorem lw_p54 : lw_okq (⟨"CloudLaundryModel", "readAt", "(I)I"⟩, 44) := ⟨⟨by decide +kernel, by decide +kernel⟩, List.mem_of_getElem? (i := 862) (by decide +kernel), List.mem_of_getElem? (i := 1235) (by decide +kernel), List.mem_of_getElem? (i := 1236) (by decide +kernel)⟩
theorem lw_p55 : lw_okq (⟨"CloudLaundryModel", "readBy", "(I)I"⟩, 44) := ⟨⟨by decide +kernel, by decide +kernel⟩, List.mem_of_getElem? (i := 862) (by decide +kernel), List.mem_of_getElem? (i := 1247) (by decide +kernel), List.mem_of_getElem? (i := 1248) (by decide +kernel)⟩
theorem lw_p56 : lw_okq (⟨"CloudLaundryModel", "bestWay", "()I"⟩, 44) := ⟨⟨by decide +kernel, by decide +kernel⟩, List.mem_of_getElem? (i := 862) (by decide +kernel), List.mem_of_getElem? (i := 1258) (by decide +kernel), List.mem_of_getElem? (i := 1259) (by decide +kernel)⟩
theorem lw_p57 : lw_okq (⟨"CloudLaundryModel", "base", "()I"⟩, 44) := ⟨⟨by decide +kernel, by decide +kernel⟩, List.mem_of_getElem? (i := 862) (by decide +kernel), List.mem_of_getElem? (i := 1262) (by decide +kernel), List.mem_of_getElem? (i := 1263) (by decide +kernel)⟩
theorem lw_p58 : lw_okq (⟨"CloudLaundryModel", "washedBy", "(I)I"⟩, 44) := ⟨⟨by decide +kernel, by decide +kernel⟩, List.mem_of_getElem? (i := 862) (by decide +kernel), List.mem_of_getElem? (i := 1266) (by decide +kernel), List.mem_of_getElem? (i := 1267) (by decide +kernel)⟩
theorem lw_p59 : lw_okq (⟨"CloudLaundryModel", "whoOf", "(II)I"⟩, 44) := ⟨⟨by decide +kernel, by decide +kernel⟩, List.mem_of_getElem? (i := 862) (by decide +kernel), List.mem_of_getElem? (i := 1270) (by decide +kernel), List.mem_of_getElem? (i := 1271) (by decide +kernel)⟩
theorem lw_p60 : lw_okq (⟨"CloudLaundryModel", "isInTime", "(II)Z"⟩, 44) := ⟨⟨by decide +kernel, by decide +kernel⟩, List.mem_of_getElem? (i := 862) (by decide +kernel), List.mem_of_getElem? (i := 1274) (by decide +kernel), List.mem_of_getElem? (i := 1275) (by decide +kernel)⟩
theorem lw_p61 : lw_okq (⟨"CloudLaundryModel", "holds", "(II)Z"⟩, 44) := ⟨⟨by decide +kernel, by decide +kernel⟩, List.mem_of_getElem? (i := 862) (by decide +kernel), List.mem_of_getElem? (i := 1325) (by decide +kernel), List.mem_of_getElem? (i := 1326) (by decide +kernel)⟩
theorem lw_p62 : lw_okq (⟨"CloudLaundryModel", "cloudsAt", "(I)I"⟩, 44) := ⟨⟨by decide +kernel, by decide +kernel⟩, List.mem_of_getElem? (i := 862) (by decide +kernel), List.mem_of_getElem? (i := 1350) (by decide +kernel), List.mem_of_getElem? (i := 1351) (by decide +kernel)⟩
theorem lw_p63 : lw_okq (⟨"CloudLaundryModel", "linesThere", "()I"⟩, 44) := ⟨⟨by decide +kernel, by decide +kernel⟩, List.mem_of_getElem? (i := 862) (by decide +kernel), List.mem_of_getElem? (i := 1354) (by decide +kernel), List.mem_of_getElem? (i := 1355) (by decide +kernel)⟩
def lw_privs_4 : List (MethodName × Nat) := [(⟨"CloudLaundryModel", "rub", "(I)V"⟩, 44), (⟨"CloudLaundryModel", "deepest", "(IZ)I"⟩, 44), (⟨"CloudLaundryModel", "takesBy", "(III)I"⟩, 44), (⟨"CloudLaundryModel", "areOff", "()Z"⟩, 44), (⟨"CloudLaundryModel", "takesOne", "()Z"⟩, 44), (⟨"CloudLaundryModel", "copyRow", "([I[I)V"⟩, 44), (⟨"CloudLaundryModel", "readAt", "(I)I"⟩, 44), (⟨"CloudLaundryModel", "readBy", "(I)I"⟩, 44), (⟨"CloudLaundryModel", "bestWay", "()I"⟩, 44), (⟨"CloudLaundryModel", "base", "()I"⟩, 44), (⟨"CloudLaundryModel", "washedBy", "(I)I"⟩, 44), (⟨"CloudLaundryModel", "whoOf", "(II)I"⟩, 44), (⟨"CloudLaundryModel", "isInTime", "(II)Z"⟩, 44), (⟨"CloudLaundryModel", "holds", "(II)Z"⟩, 44), (⟨"CloudLaundryModel", "cloudsAt", "(I)I"⟩, 44), (⟨"CloudLaundryModel", "linesThere", "()I"⟩, 44)]
theorem lw_r4 : ∀ q ∈ lw_privs_4, lw_okq q := List.forall_mem_cons.mpr ⟨lw_p48, List.forall_mem_cons.mpr ⟨lw_p49, List.forall_mem_cons.mpr ⟨lw_p50, List.forall_mem_cons.mpr ⟨lw_p51, List.forall_mem_cons.mpr ⟨lw_p52, List.forall_mem_cons.mpr ⟨lw_p53, List.forall_mem_cons.mpr ⟨lw_p54, List.forall_mem_cons.mpr ⟨lw_p55, List.forall_mem_cons.mpr ⟨lw_p56, List.forall_mem_cons.mpr ⟨lw_p57, List.forall_mem_cons.mpr ⟨lw_p58, List.forall_mem_cons.mpr ⟨lw_p59, List.forall_mem_cons.mpr ⟨lw_p60, List.forall_mem_cons.mpr ⟨lw_p61, List.forall_mem_cons.mpr ⟨lw_p62, List.forall_mem_cons.mpr ⟨lw_p63, fun _ h => absurd h List.not_mem_nil⟩⟩⟩⟩⟩⟩⟩⟩⟩⟩⟩⟩⟩⟩⟩⟩
theorem lw_p64 : lw_okq (⟨"CloudLaundryModel", "allWater", "()I"⟩, 44) := ⟨⟨by decide +kernel, by decide +kernel⟩, List.mem_of_getElem? (i := 862) (by decide +kernel), List.mem_of_getElem? (i := 1358) (by decide +kernel), List.mem_of_getElem? (i := 1359) (by decide +kernel)⟩
def lw_privs_5 : List (MethodName × Nat) := [(⟨"CloudLaundryModel", "allWater", "()I"⟩, 44)]
theorem lw_r5 : ∀ q ∈ lw_privs_5, lw_okq q := List.forall_mem_cons.mpr ⟨lw_p64, fun _ h => absurd h List.not_mem_nil⟩
def lw_privs : List (MethodName × Nat) := lw_privs_1 ++ (lw_privs_2 ++ (lw_privs_3 ++ (lw_privs_4 ++ (lw_privs_5))))
def lw_tbl : List Cond := k2_sels lw_privs ++ tables_1
theorem lw_privs_ok : ∀ q ∈ lw_privs, lw_okq q := by
  show ∀ q ∈ lw_privs_1 ++ (lw_privs_2 ++ (lw_privs_3 ++ (lw_privs_4 ++ (lw_privs_5)))), lw_okq q
  exact List.forall_mem_append.mpr ⟨lw_r1, List.forall_mem_append.mpr ⟨lw_r2, List.forall_mem_append.mpr ⟨lw_r3, List.forall_mem_append.mpr ⟨lw_r4, lw_r5⟩⟩⟩⟩
theorem goodIn_r {big : List Cond} (ws : List Cond) (ps : List Nat) (hp : ws = ps.filterMap (fun i => big[i]?)) (h : ws.all goodWord = true) : GoodIn big ws := by
  intro w hw
  have h1 := List.all_eq_true.mp h w hw
  rw [hp] at hw
  obtain ⟨i, -, hi⟩ := List.mem_filterMap.mp hw
  have hm : w ∈ big := by first | exact List.mem_of_getElem? hi | exact List.getElem?_mem hi
  exact ⟨hm, good_of_word h1⟩
theorem goodIn_app {big a b : List Cond} (ha : GoodIn big a) (hb : GoodIn big b) : GoodIn big (a ++ b) := fun w h => (List.mem_append.mp h).elim (ha w) (hb w)
theorem goodIn_ca {big a b : List Cond} {c : Cond} (ha : GoodIn big (c :: a)) (hb : GoodIn big b) : GoodIn big (c :: (a ++ b)) := fun w h => (List.mem_cons.mp h).elim (fun e => ha w (List.mem_cons.mpr (Or.inl e))) (fun h => (List.mem_append.mp h).elim (fun h => ha w (List.mem_cons.mpr (Or.inr h))) (hb w))
theorem goodIn_sub {big ws : List Cond} (hm : ∀ w ∈ ws, w ∈ big) (h : ws.all goodWord = true) : GoodIn big ws := fun w hw => ⟨hm w hw, good_of_word (List.all_eq_true.mp h w hw)⟩
def RX0 : String := "CloudLaundry$Bride"
def TX0 : u_T := fun k => match k with
  | _ => ("", "", "", false)
def tyX0 : Nat → FieldType := fun k => match k with
  | _ => .int
abbrev wsX00 : List Cond := u_ws RX0 TX0 0
theorem nmX0 : ∀ a, a < 0 → ∀ b, b < 0 → a ≠ b → (TX0 a).2.1 ≠ (TX0 b).2.1 := by decide +kernel
theorem tyX0_ok : ∀ k, k < 0 → parseFieldDescriptor (TX0 k).2.2.1 = some (tyX0 k) := by decide +kernel
abbrev cX0_init : ByteArray := prog_2_method_1_code
def yX0_init : MethodName := ⟨RX0, "<init>", "()V"⟩
abbrev cX0_number : ByteArray := prog_2_method_2_code
def yX0_number : MethodName := ⟨RX0, "number", "()I"⟩
abbrev cX0_word : ByteArray := prog_2_method_3_code
def yX0_word : MethodName := ⟨RX0, "word", "()Ljava/lang/String;"⟩
abbrev cX0_rubs : ByteArray := prog_2_method_4_code
def yX0_rubs : MethodName := ⟨RX0, "rubs", "(I)I"⟩
abbrev cX0_shrinks : ByteArray := prog_2_method_5_code
def yX0_shrinks : MethodName := ⟨RX0, "shrinks", "()I"⟩
abbrev cX0_dries : ByteArray := prog_2_method_6_code
def yX0_dries : MethodName := ⟨RX0, "dries", "()I"⟩
def RX1 : String := "CloudLaundry$Cloud"
def TX1 : u_T := fun k => match k with
  | 0 => ("CloudLaundry$Cloud", "kind", "LCloudLaundry$Kind;", false)
  | 1 => ("CloudLaundry$Cloud", "size", "I", false)
  | 2 => ("CloudLaundry$Cloud", "due", "I", false)
  | 3 => ("CloudLaundry$Cloud", "where", "I", false)
  | 4 => ("CloudLaundry$Cloud", "hung", "I", false)
  | _ => ("CloudLaundry$Cloud", "deep", "[I", true)
def tyX1 : Nat → FieldType := fun k => match k with
  | 0 => .object "CloudLaundry$Kind"
  | 1 => .int
  | 2 => .int
  | 3 => .int
  | 4 => .int
  | _ => .array .int
abbrev wsX10 : List Cond := u_ws RX1 TX1 6
theorem nmX1 : ∀ a, a < 6 → ∀ b, b < 6 → a ≠ b → (TX1 a).2.1 ≠ (TX1 b).2.1 := by decide +kernel
theorem tyX1_ok : ∀ k, k < 6 → parseFieldDescriptor (TX1 k).2.2.1 = some (tyX1 k) := by decide +kernel
abbrev cX1_init : ByteArray := prog_3_method_1_code
def yX1_init : MethodName := ⟨RX1, "<init>", "(LCloudLaundry$Kind;)V"⟩
abbrev cX1_copyFrom : ByteArray := prog_3_method_2_code
def yX1_copyFrom : MethodName := ⟨RX1, "copyFrom", "(LCloudLaundry$Cloud;)V"⟩
abbrev cX1_begin : ByteArray := prog_3_method_3_code
def yX1_begin : MethodName := ⟨RX1, "begin", "(LCloudLaundry$Kind;II)V"⟩
abbrev cX1_allDeep : ByteArray := prog_3_method_4_code
def yX1_allDeep : MethodName := ⟨RX1, "allDeep", "()I"⟩
abbrev cX1_isClean : ByteArray := prog_3_method_5_code
def yX1_isClean : MethodName := ⟨RX1, "isClean", "()Z"⟩
abbrev cX1_isDry : ByteArray := prog_3_method_6_code
def yX1_isDry : MethodName := ⟨RX1, "isDry", "()Z"⟩
abbrev cX1_deepest : ByteArray := prog_3_method_7_code
def yX1_deepest : MethodName := ⟨RX1, "deepest", "(Z)I"⟩
abbrev cX1_hoursAs : ByteArray := prog_3_method_8_code
def yX1_hoursAs : MethodName := ⟨RX1, "hoursAs", "(LCloudLaundry$Kind;I)I"⟩
def RX2 : String := "CloudLaundry$Day"
def TX2 : u_T := fun k => match k with
  | 0 => ("CloudLaundry$Day", "clouds", "[LCloudLaundry$Cloud;", true)
  | 1 => ("CloudLaundry$Day", "cloudCount", "I", false)
  | 2 => ("CloudLaundry$Day", "hands", "[I", true)
  | 3 => ("CloudLaundry$Day", "has", "[I", true)
  | 4 => ("CloudLaundry$Day", "washerCount", "I", false)
  | 5 => ("CloudLaundry$Day", "water", "[[I", true)
  | 6 => ("CloudLaundry$Day", "soap", "I", false)
  | 7 => ("CloudLaundry$Day", "eye", "I", false)
  | _ => ("CloudLaundry$Day", "hour", "I", false)
def tyX2 : Nat → FieldType := fun k => match k with
  | 0 => .array (.object "CloudLaundry$Cloud")
  | 1 => .int
  | 2 => .array .int
  | 3 => .array .int
  | 4 => .int
  | 5 => .array (.array .int)
  | 6 => .int
  | 7 => .int
  | _ => .int
abbrev wsX20 : List Cond := u_ws RX2 TX2 9
theorem nmX2 : ∀ a, a < 9 → ∀ b, b < 9 → a ≠ b → (TX2 a).2.1 ≠ (TX2 b).2.1 := by decide +kernel
theorem tyX2_ok : ∀ k, k < 9 → parseFieldDescriptor (TX2 k).2.2.1 = some (tyX2 k) := by decide +kernel
abbrev cX2_init : ByteArray := prog_4_method_1_code
def yX2_init : MethodName := ⟨RX2, "<init>", "(LCloudLaundry$Kind;)V"⟩
abbrev cX2_copyFrom : ByteArray := prog_4_method_2_code
def yX2_copyFrom : MethodName := ⟨RX2, "copyFrom", "(LCloudLaundry$Day;)V"⟩
abbrev cX2_untell : ByteArray := prog_4_method_3_code
def yX2_untell : MethodName := ⟨RX2, "untell", "()V"⟩
abbrev cX2_addCloud : ByteArray := prog_4_method_4_code
def yX2_addCloud : MethodName := ⟨RX2, "addCloud", "(LCloudLaundry$Kind;II)V"⟩
abbrev cX2_addWasher : ByteArray := prog_4_method_5_code
def yX2_addWasher : MethodName := ⟨RX2, "addWasher", "(I)V"⟩
abbrev cX2_cloudAt : ByteArray := prog_4_method_6_code
def yX2_cloudAt : MethodName := ⟨RX2, "cloudAt", "(I)LCloudLaundry$Cloud;"⟩
abbrev cX2_isWasher : ByteArray := prog_4_method_7_code
def yX2_isWasher : MethodName := ⟨RX2, "isWasher", "(I)Z"⟩
abbrev cX2_washerOf : ByteArray := prog_4_method_8_code
def yX2_washerOf : MethodName := ⟨RX2, "washerOf", "(I)I"⟩
abbrev cX2_cloudsThatAre : ByteArray := prog_4_method_9_code
def yX2_cloudsThatAre : MethodName := ⟨RX2, "cloudsThatAre", "(I)I"⟩
abbrev cX2_allWater : ByteArray := prog_4_method_10_code
def yX2_allWater : MethodName := ⟨RX2, "allWater", "()I"⟩
abbrev cX2_readAt : ByteArray := prog_4_method_11_code
def yX2_readAt : MethodName := ⟨RX2, "readAt", "(I)I"⟩
abbrev cX2_passHour : ByteArray := prog_4_method_12_code
def yX2_passHour : MethodName := ⟨RX2, "passHour", "()V"⟩
abbrev cX2_flow : ByteArray := prog_4_method_13_code
def yX2_flow : MethodName := ⟨RX2, "flow", "()V"⟩
abbrev cX2_rubStone : ByteArray := prog_4_method_14_code
def yX2_rubStone : MethodName := ⟨RX2, "rubStone", "(I)V"⟩
abbrev cX2_rubOnce : ByteArray := prog_4_method_15_code
def yX2_rubOnce : MethodName := ⟨RX2, "rubOnce", "(LCloudLaundry$Cloud;)V"⟩
def RX3 : String := "CloudLaundry$Fog"
def TX3 : u_T := fun k => match k with
  | _ => ("", "", "", false)
def tyX3 : Nat → FieldType := fun k => match k with
  | _ => .int
abbrev wsX30 : List Cond := u_ws RX3 TX3 0
theorem nmX3 : ∀ a, a < 0 → ∀ b, b < 0 → a ≠ b → (TX3 a).2.1 ≠ (TX3 b).2.1 := by decide +kernel
theorem tyX3_ok : ∀ k, k < 0 → parseFieldDescriptor (TX3 k).2.2.1 = some (tyX3 k) := by decide +kernel
abbrev cX3_init : ByteArray := prog_5_method_1_code
def yX3_init : MethodName := ⟨RX3, "<init>", "()V"⟩
abbrev cX3_number : ByteArray := prog_5_method_2_code
def yX3_number : MethodName := ⟨RX3, "number", "()I"⟩
abbrev cX3_word : ByteArray := prog_5_method_3_code
def yX3_word : MethodName := ⟨RX3, "word", "()Ljava/lang/String;"⟩
abbrev cX3_shrinks : ByteArray := prog_5_method_4_code
def yX3_shrinks : MethodName := ⟨RX3, "shrinks", "()I"⟩
abbrev cX3_dries : ByteArray := prog_5_method_5_code
def yX3_dries : MethodName := ⟨RX3, "dries", "()I"⟩
def RX4 : String := "CloudLaundry$Kind"
def TX4 : u_T := fun k => match k with
  | _ => ("", "", "", false)
def tyX4 : Nat → FieldType := fun k => match k with
  | _ => .int
abbrev wsX40 : List Cond := u_ws RX4 TX4 0
theorem nmX4 : ∀ a, a < 0 → ∀ b, b < 0 → a ≠ b → (TX4 a).2.1 ≠ (TX4 b).2.1 := by decide +kernel
theorem tyX4_ok : ∀ k, k < 0 → parseFieldDescriptor (TX4 k).2.2.1 = some (tyX4 k) := by decide +kernel
abbrev cX4_init : ByteArray := prog_6_method_1_code
def yX4_init : MethodName := ⟨RX4, "<init>", "()V"⟩
def RX5 : String := "CloudLaundry$Line"
def TX5 : u_T := fun k => match k with
  | 0 => ("CloudLaundry$Line", "there", "Z", false)
  | 1 => ("CloudLaundry$Line", "sort", "I", false)
  | 2 => ("CloudLaundry$Line", "pegs", "I", false)
  | 3 => ("CloudLaundry$Line", "things", "[I", true)
  | _ => ("CloudLaundry$Line", "values", "[I", true)
def tyX5 : Nat → FieldType := fun k => match k with
  | 0 => .boolean
  | 1 => .int
  | 2 => .int
  | 3 => .array .int
  | _ => .array .int
abbrev wsX50 : List Cond := u_ws RX5 TX5 5
theorem nmX5 : ∀ a, a < 5 → ∀ b, b < 5 → a ≠ b → (TX5 a).2.1 ≠ (TX5 b).2.1 := by decide +kernel
theorem tyX5_ok : ∀ k, k < 5 → parseFieldDescriptor (TX5 k).2.2.1 = some (tyX5 k) := by decide +kernel
abbrev cX5_init : ByteArray := prog_7_method_1_code
def yX5_init : MethodName := ⟨RX5, "<init>", "()V"⟩
abbrev cX5_stretch : ByteArray := prog_7_method_2_code
def yX5_stretch : MethodName := ⟨RX5, "stretch", "(II)V"⟩
abbrev cX5_hasPegs : ByteArray := prog_7_method_3_code
def yX5_hasPegs : MethodName := ⟨RX5, "hasPegs", "(II)Z"⟩
abbrev cX5_mayHold : ByteArray := prog_7_method_4_code
def yX5_mayHold : MethodName := ⟨RX5, "mayHold", "(I)Z"⟩
abbrev cX5_put : ByteArray := prog_7_method_5_code
def yX5_put : MethodName := ⟨RX5, "put", "(III)V"⟩
abbrev cX5_take : ByteArray := prog_7_method_6_code
def yX5_take : MethodName := ⟨RX5, "take", "(LCloudLaundry$Line;II)V"⟩
abbrev cX5_heldPegs : ByteArray := prog_7_method_7_code
def yX5_heldPegs : MethodName := ⟨RX5, "heldPegs", "()I"⟩
def RX6 : String := "CloudLaundry$Plan"
def TX6 : u_T := fun k => match k with
  | 0 => ("CloudLaundry$Plan", "day", "LCloudLaundry$Day;", true)
  | 1 => ("CloudLaundry$Plan", "byDue", "[I", true)
  | 2 => ("CloudLaundry$Plan", "sets", "[I", true)
  | 3 => ("CloudLaundry$Plan", "way", "[I", true)
  | 4 => ("CloudLaundry$Plan", "best", "[I", true)
  | 5 => ("CloudLaundry$Plan", "hours", "[[I", true)
  | _ => ("CloudLaundry$Plan", "most", "I", false)
def tyX6 : Nat → FieldType := fun k => match k with
  | 0 => .object "CloudLaundry$Day"
  | 1 => .array .int
  | 2 => .array .int
  | 3 => .array .int
  | 4 => .array .int
  | 5 => .array (.array .int)
  | _ => .int
abbrev wsX60 : List Cond := u_ws RX6 TX6 7
theorem nmX6 : ∀ a, a < 7 → ∀ b, b < 7 → a ≠ b → (TX6 a).2.1 ≠ (TX6 b).2.1 := by decide +kernel
theorem tyX6_ok : ∀ k, k < 7 → parseFieldDescriptor (TX6 k).2.2.1 = some (tyX6 k) := by decide +kernel
abbrev cX6_init : ByteArray := prog_8_method_1_code
def yX6_init : MethodName := ⟨RX6, "<init>", "(LCloudLaundry$Day;)V"⟩
abbrev cX6_washerFor : ByteArray := prog_8_method_2_code
def yX6_washerFor : MethodName := ⟨RX6, "washerFor", "(I)I"⟩
abbrev cX6_make : ByteArray := prog_8_method_3_code
def yX6_make : MethodName := ⟨RX6, "make", "()V"⟩
abbrev cX6_sortByDue : ByteArray := prog_8_method_4_code
def yX6_sortByDue : MethodName := ⟨RX6, "sortByDue", "()V"⟩
abbrev cX6_dueOf : ByteArray := prog_8_method_5_code
def yX6_dueOf : MethodName := ⟨RX6, "dueOf", "(I)I"⟩
abbrev cX6_hoursOf : ByteArray := prog_8_method_6_code
def yX6_hoursOf : MethodName := ⟨RX6, "hoursOf", "(II)I"⟩
abbrev cX6_isHers : ByteArray := prog_8_method_7_code
def yX6_isHers : MethodName := ⟨RX6, "isHers", "(II)Z"⟩
abbrev cX6_share : ByteArray := prog_8_method_8_code
def yX6_share : MethodName := ⟨RX6, "share", "(II)V"⟩
abbrev cX6_isInTime : ByteArray := prog_8_method_9_code
def yX6_isInTime : MethodName := ⟨RX6, "isInTime", "(I)Z"⟩
def RX7 : String := "CloudLaundry$Reader"
def TX7 : u_T := fun k => match k with
  | 0 => ("CloudLaundry$Reader", "text", "LCloudLaundry$Text;", true)
  | 1 => ("CloudLaundry$Reader", "draft", "LCloudLaundry$Day;", true)
  | 2 => ("CloudLaundry$Reader", "sorts", "[LCloudLaundry$Kind;", true)
  | 3 => ("CloudLaundry$Reader", "start", "I", false)
  | 4 => ("CloudLaundry$Reader", "end", "I", false)
  | _ => ("CloudLaundry$Reader", "clauses", "I", false)
def tyX7 : Nat → FieldType := fun k => match k with
  | 0 => .object "CloudLaundry$Text"
  | 1 => .object "CloudLaundry$Day"
  | 2 => .array (.object "CloudLaundry$Kind")
  | 3 => .int
  | 4 => .int
  | _ => .int
abbrev wsX70 : List Cond := u_ws RX7 TX7 6
theorem nmX7 : ∀ a, a < 6 → ∀ b, b < 6 → a ≠ b → (TX7 a).2.1 ≠ (TX7 b).2.1 := by decide +kernel
theorem tyX7_ok : ∀ k, k < 6 → parseFieldDescriptor (TX7 k).2.2.1 = some (tyX7 k) := by decide +kernel
abbrev cX7_init : ByteArray := prog_9_method_1_code
def yX7_init : MethodName := ⟨RX7, "<init>", "(LCloudLaundry$Text;LCloudLaundry$Day;[LCloudLaundry$Kind;)V"⟩
abbrev cX7_read : ByteArray := prog_9_method_2_code
def yX7_read : MethodName := ⟨RX7, "read", "(LCloudLaundry$Day;)I"⟩
abbrev cX7_step : ByteArray := prog_9_method_3_code
def yX7_step : MethodName := ⟨RX7, "step", "()V"⟩
abbrev cX7_sortOf : ByteArray := prog_9_method_4_code
def yX7_sortOf : MethodName := ⟨RX7, "sortOf", "(C)I"⟩
abbrev cX7_isWord : ByteArray := prog_9_method_5_code
def yX7_isWord : MethodName := ⟨RX7, "isWord", "(Ljava/lang/String;)Z"⟩
abbrev cX7_number : ByteArray := prog_9_method_6_code
def yX7_number : MethodName := ⟨RX7, "number", "(II)I"⟩
abbrev cX7_readsClause : ByteArray := prog_9_method_7_code
def yX7_readsClause : MethodName := ⟨RX7, "readsClause", "()Z"⟩
abbrev cX7_readsCloud : ByteArray := prog_9_method_8_code
def yX7_readsCloud : MethodName := ⟨RX7, "readsCloud", "(LCloudLaundry$Kind;)Z"⟩
abbrev cX7_readsStain : ByteArray := prog_9_method_9_code
def yX7_readsStain : MethodName := ⟨RX7, "readsStain", "()Z"⟩
abbrev cX7_readsWasher : ByteArray := prog_9_method_10_code
def yX7_readsWasher : MethodName := ⟨RX7, "readsWasher", "()Z"⟩
abbrev cX7_readsSoap : ByteArray := prog_9_method_11_code
def yX7_readsSoap : MethodName := ⟨RX7, "readsSoap", "()Z"⟩
abbrev cX7_readsEye : ByteArray := prog_9_method_12_code
def yX7_readsEye : MethodName := ⟨RX7, "readsEye", "()Z"⟩
def RX8 : String := "CloudLaundry$Text"
def TX8 : u_T := fun k => match k with
  | 0 => ("CloudLaundry$Text", "letters", "[C", true)
  | _ => ("CloudLaundry$Text", "length", "I", false)
def tyX8 : Nat → FieldType := fun k => match k with
  | 0 => .array .char
  | _ => .int
abbrev wsX80 : List Cond := u_ws RX8 TX8 2
theorem nmX8 : ∀ a, a < 2 → ∀ b, b < 2 → a ≠ b → (TX8 a).2.1 ≠ (TX8 b).2.1 := by decide +kernel
theorem tyX8_ok : ∀ k, k < 2 → parseFieldDescriptor (TX8 k).2.2.1 = some (tyX8 k) := by decide +kernel
abbrev cX8_init : ByteArray := prog_10_method_1_code
def yX8_init : MethodName := ⟨RX8, "<init>", "()V"⟩
abbrev cX8_add : ByteArray := prog_10_method_2_code
def yX8_add : MethodName := ⟨RX8, "add", "(C)Z"⟩
abbrev cX8_copyFrom : ByteArray := prog_10_method_3_code
def yX8_copyFrom : MethodName := ⟨RX8, "copyFrom", "(LCloudLaundry$Text;)V"⟩
abbrev cX8_at : ByteArray := prog_10_method_4_code
def yX8_at : MethodName := ⟨RX8, "at", "(I)C"⟩
def RX9 : String := "CloudLaundry$Thunder"
def TX9 : u_T := fun k => match k with
  | _ => ("", "", "", false)
def tyX9 : Nat → FieldType := fun k => match k with
  | _ => .int
abbrev wsX90 : List Cond := u_ws RX9 TX9 0
theorem nmX9 : ∀ a, a < 0 → ∀ b, b < 0 → a ≠ b → (TX9 a).2.1 ≠ (TX9 b).2.1 := by decide +kernel
theorem tyX9_ok : ∀ k, k < 0 → parseFieldDescriptor (TX9 k).2.2.1 = some (tyX9 k) := by decide +kernel
abbrev cX9_init : ByteArray := prog_11_method_1_code
def yX9_init : MethodName := ⟨RX9, "<init>", "()V"⟩
abbrev cX9_number : ByteArray := prog_11_method_2_code
def yX9_number : MethodName := ⟨RX9, "number", "()I"⟩
abbrev cX9_word : ByteArray := prog_11_method_3_code
def yX9_word : MethodName := ⟨RX9, "word", "()Ljava/lang/String;"⟩
abbrev cX9_rubs : ByteArray := prog_11_method_4_code
def yX9_rubs : MethodName := ⟨RX9, "rubs", "(I)I"⟩
abbrev cX9_dries : ByteArray := prog_11_method_5_code
def yX9_dries : MethodName := ⟨RX9, "dries", "()I"⟩
def RX10 : String := "CloudLaundry$White"
def TX10 : u_T := fun k => match k with
  | _ => ("", "", "", false)
def tyX10 : Nat → FieldType := fun k => match k with
  | _ => .int
abbrev wsX100 : List Cond := u_ws RX10 TX10 0
theorem nmX10 : ∀ a, a < 0 → ∀ b, b < 0 → a ≠ b → (TX10 a).2.1 ≠ (TX10 b).2.1 := by decide +kernel
theorem tyX10_ok : ∀ k, k < 0 → parseFieldDescriptor (TX10 k).2.2.1 = some (tyX10 k) := by decide +kernel
abbrev cX10_init : ByteArray := prog_12_method_1_code
def yX10_init : MethodName := ⟨RX10, "<init>", "()V"⟩
abbrev cX10_number : ByteArray := prog_12_method_2_code
def yX10_number : MethodName := ⟨RX10, "number", "()I"⟩
abbrev cX10_word : ByteArray := prog_12_method_3_code
def yX10_word : MethodName := ⟨RX10, "word", "()Ljava/lang/String;"⟩
abbrev cX10_rubs : ByteArray := prog_12_method_4_code
def yX10_rubs : MethodName := ⟨RX10, "rubs", "(I)I"⟩
abbrev cX10_shrinks : ByteArray := prog_12_method_5_code
def yX10_shrinks : MethodName := ⟨RX10, "shrinks", "()I"⟩
abbrev cX10_dries : ByteArray := prog_12_method_6_code
def yX10_dries : MethodName := ⟨RX10, "dries", "()I"⟩
def RX11 : String := "CloudLaundry"
def TX11 : u_T := fun k => match k with
  | 0 => ("CloudLaundry", "sorts", "[LCloudLaundry$Kind;", true)
  | 1 => ("CloudLaundry", "text", "LCloudLaundry$Text;", true)
  | 2 => ("CloudLaundry", "reader", "LCloudLaundry$Reader;", true)
  | 3 => ("CloudLaundry", "told", "LCloudLaundry$Day;", true)
  | 4 => ("CloudLaundry", "draft", "LCloudLaundry$Day;", true)
  | 5 => ("CloudLaundry", "day", "LCloudLaundry$Day;", true)
  | 6 => ("CloudLaundry", "foretold", "LCloudLaundry$Day;", true)
  | 7 => ("CloudLaundry", "plan", "LCloudLaundry$Plan;", true)
  | 8 => ("CloudLaundry", "readable", "[I", true)
  | 9 => ("CloudLaundry", "past", "[LCloudLaundry$Day;", true)
  | 10 => ("CloudLaundry", "pasts", "I", false)
  | 11 => ("CloudLaundry", "keptDays", "[LCloudLaundry$Day;", true)
  | 12 => ("CloudLaundry", "keptTexts", "[LCloudLaundry$Text;", true)
  | 13 => ("CloudLaundry", "isKept", "[Z", true)
  | 14 => ("CloudLaundry", "seenCloud", "[I", true)
  | 15 => ("CloudLaundry", "seenHands", "[I", true)
  | 16 => ("CloudLaundry", "seenHours", "[I", true)
  | 17 => ("CloudLaundry", "seenCount", "I", false)
  | 18 => ("CloudLaundry", "lines", "[LCloudLaundry$Line;", true)
  | _ => ("CloudLaundry", "basket", "LCloudLaundry$Line;", true)
def tyX11 : Nat → FieldType := fun k => match k with
  | 0 => .array (.object "CloudLaundry$Kind")
  | 1 => .object "CloudLaundry$Text"
  | 2 => .object "CloudLaundry$Reader"
  | 3 => .object "CloudLaundry$Day"
  | 4 => .object "CloudLaundry$Day"
  | 5 => .object "CloudLaundry$Day"
  | 6 => .object "CloudLaundry$Day"
  | 7 => .object "CloudLaundry$Plan"
  | 8 => .array .int
  | 9 => .array (.object "CloudLaundry$Day")
  | 10 => .int
  | 11 => .array (.object "CloudLaundry$Day")
  | 12 => .array (.object "CloudLaundry$Text")
  | 13 => .array .boolean
  | 14 => .array .int
  | 15 => .array .int
  | 16 => .array .int
  | 17 => .int
  | 18 => .array (.object "CloudLaundry$Line")
  | _ => .object "CloudLaundry$Line"
abbrev wsX110 : List Cond := u_ws RX11 TX11 20
theorem nmX11 : ∀ a, a < 20 → ∀ b, b < 20 → a ≠ b → (TX11 a).2.1 ≠ (TX11 b).2.1 := by decide +kernel
theorem tyX11_ok : ∀ k, k < 20 → parseFieldDescriptor (TX11 k).2.2.1 = some (tyX11 k) := by decide +kernel
abbrev cX11_init : ByteArray := prog_1_method_1_code
def yX11_init : MethodName := ⟨RX11, "<init>", "()V"⟩
abbrev cX11_write : ByteArray := prog_1_method_2_code
def yX11_write : MethodName := ⟨RX11, "write", "(I)I"⟩
abbrev cX11_erase : ByteArray := prog_1_method_3_code
def yX11_erase : MethodName := ⟨RX11, "erase", "()I"⟩
abbrev cX11_fault : ByteArray := prog_1_method_4_code
def yX11_fault : MethodName := ⟨RX11, "fault", "()I"⟩
abbrev cX11_summer : ByteArray := prog_1_method_5_code
def yX11_summer : MethodName := ⟨RX11, "summer", "()I"⟩
abbrev cX11_cloud : ByteArray := prog_1_method_6_code
def yX11_cloud : MethodName := ⟨RX11, "cloud", "(II)I"⟩
abbrev cX11_deep : ByteArray := prog_1_method_7_code
def yX11_deep : MethodName := ⟨RX11, "deep", "(II)I"⟩
abbrev cX11_washer : ByteArray := prog_1_method_8_code
def yX11_washer : MethodName := ⟨RX11, "washer", "(II)I"⟩
abbrev cX11_water : ByteArray := prog_1_method_9_code
def yX11_water : MethodName := ⟨RX11, "water", "(II)I"⟩
abbrev cX11_as : ByteArray := prog_1_method_10_code
def yX11_as : MethodName := ⟨RX11, "as", "(II)I"⟩
abbrev cX11_wash : ByteArray := prog_1_method_11_code
def yX11_wash : MethodName := ⟨RX11, "wash", "(II)I"⟩
abbrev cX11_hang : ByteArray := prog_1_method_12_code
def yX11_hang : MethodName := ⟨RX11, "hang", "(I)I"⟩
abbrev cX11_again : ByteArray := prog_1_method_13_code
def yX11_again : MethodName := ⟨RX11, "again", "(I)I"⟩
abbrev cX11_send : ByteArray := prog_1_method_14_code
def yX11_send : MethodName := ⟨RX11, "send", "(I)I"⟩
abbrev cX11_soap : ByteArray := prog_1_method_15_code
def yX11_soap : MethodName := ⟨RX11, "soap", "(I)I"⟩
abbrev cX11_hour : ByteArray := prog_1_method_16_code
def yX11_hour : MethodName := ⟨RX11, "hour", "(I)I"⟩
abbrev cX11_undo : ByteArray := prog_1_method_17_code
def yX11_undo : MethodName := ⟨RX11, "undo", "()I"⟩
abbrev cX11_keep : ByteArray := prog_1_method_18_code
def yX11_keep : MethodName := ⟨RX11, "keep", "(I)I"⟩
abbrev cX11_back : ByteArray := prog_1_method_19_code
def yX11_back : MethodName := ⟨RX11, "back", "(I)I"⟩
abbrev cX11_takes : ByteArray := prog_1_method_20_code
def yX11_takes : MethodName := ⟨RX11, "takes", "(II)I"⟩
abbrev cX11_later : ByteArray := prog_1_method_21_code
def yX11_later : MethodName := ⟨RX11, "later", "(II)I"⟩
abbrev cX11_stands : ByteArray := prog_1_method_22_code
def yX11_stands : MethodName := ⟨RX11, "stands", "(II)I"⟩
abbrev cX11_plan : ByteArray := prog_1_method_23_code
def yX11_plan : MethodName := ⟨RX11, "plan", "(I)I"⟩
abbrev cX11_needed : ByteArray := prog_1_method_24_code
def yX11_needed : MethodName := ⟨RX11, "needed", "(I)I"⟩
abbrev cX11_seen : ByteArray := prog_1_method_25_code
def yX11_seen : MethodName := ⟨RX11, "seen", "(III)I"⟩
abbrev cX11_forget : ByteArray := prog_1_method_26_code
def yX11_forget : MethodName := ⟨RX11, "forget", "()I"⟩
abbrev cX11_kinds : ByteArray := prog_1_method_27_code
def yX11_kinds : MethodName := ⟨RX11, "kinds", "(I)I"⟩
abbrev cX11_lightning : ByteArray := prog_1_method_28_code
def yX11_lightning : MethodName := ⟨RX11, "lightning", "(IIII)I"⟩
abbrev cX11_line : ByteArray := prog_1_method_29_code
def yX11_line : MethodName := ⟨RX11, "line", "(III)I"⟩
abbrev cX11_pin : ByteArray := prog_1_method_30_code
def yX11_pin : MethodName := ⟨RX11, "pin", "(IIII)I"⟩
abbrev cX11_peg : ByteArray := prog_1_method_31_code
def yX11_peg : MethodName := ⟨RX11, "peg", "(III)I"⟩
abbrev cX11_move : ByteArray := prog_1_method_32_code
def yX11_move : MethodName := ⟨RX11, "move", "(IIIII)I"⟩
abbrev cX11_drop : ByteArray := prog_1_method_33_code
def yX11_drop : MethodName := ⟨RX11, "drop", "(I)I"⟩
abbrev cX11_sum : ByteArray := prog_1_method_34_code
def yX11_sum : MethodName := ⟨RX11, "sum", "(I)I"⟩
abbrev cX11_count : ByteArray := prog_1_method_35_code
def yX11_count : MethodName := ⟨RX11, "count", "(I)I"⟩
abbrev cX11_remember : ByteArray := prog_1_method_36_code
def yX11_remember : MethodName := ⟨RX11, "remember", "()V"⟩
abbrev cX11_isOne : ByteArray := prog_1_method_37_code
def yX11_isOne : MethodName := ⟨RX11, "isOne", "(LCloudLaundry$Kind;I)Z"⟩
abbrev cX11_readAhead : ByteArray := prog_1_method_38_code
def yX11_readAhead : MethodName := ⟨RX11, "readAhead", "(I)V"⟩
abbrev cX11_readFrom : ByteArray := prog_1_method_39_code
def yX11_readFrom : MethodName := ⟨RX11, "readFrom", "(I)I"⟩
abbrev cX11_agreesWithSeen : ByteArray := prog_1_method_40_code
def yX11_agreesWithSeen : MethodName := ⟨RX11, "agreesWithSeen", "(ILCloudLaundry$Cloud;LCloudLaundry$Kind;)Z"⟩
abbrev cX11_choices : ByteArray := prog_1_method_41_code
def yX11_choices : MethodName := ⟨RX11, "choices", "(II)J"⟩
abbrev cX11_power : ByteArray := prog_1_method_42_code
def yX11_power : MethodName := ⟨RX11, "power", "(II)J"⟩
abbrev cX11_commonDivisor : ByteArray := prog_1_method_43_code
def yX11_commonDivisor : MethodName := ⟨RX11, "commonDivisor", "(JJ)J"⟩
abbrev cX11_lineAt : ByteArray := prog_1_method_44_code
def yX11_lineAt : MethodName := ⟨RX11, "lineAt", "(I)LCloudLaundry$Line;"⟩
abbrev cX11_linesThere : ByteArray := prog_1_method_45_code
def yX11_linesThere : MethodName := ⟨RX11, "linesThere", "()I"⟩
def RX12 : String := "CloudLaundryModel"
def TX12 : u_T := fun k => match k with
  | 0 => ("CloudLaundryModel", "clouds", "I", false)
  | 1 => ("CloudLaundryModel", "kind", "[I", true)
  | 2 => ("CloudLaundryModel", "sizeTold", "[I", true)
  | 3 => ("CloudLaundryModel", "due", "[I", true)
  | 4 => ("CloudLaundryModel", "deepTold", "[I", true)
  | 5 => ("CloudLaundryModel", "washers", "I", false)
  | 6 => ("CloudLaundryModel", "hands", "[I", true)
  | 7 => ("CloudLaundryModel", "soapTold", "I", false)
  | 8 => ("CloudLaundryModel", "eye", "I", false)
  | 9 => ("CloudLaundryModel", "now", "[I", true)
  | 10 => ("CloudLaundryModel", "text", "[I", true)
  | 11 => ("CloudLaundryModel", "written", "I", false)
  | 12 => ("CloudLaundryModel", "at", "I", false)
  | 13 => ("CloudLaundryModel", "token", "I", false)
  | 14 => ("CloudLaundryModel", "tokenAt", "I", false)
  | 15 => ("CloudLaundryModel", "tokenEnd", "I", false)
  | 16 => ("CloudLaundryModel", "number", "I", false)
  | 17 => ("CloudLaundryModel", "readClouds", "I", false)
  | 18 => ("CloudLaundryModel", "readKind", "[I", true)
  | 19 => ("CloudLaundryModel", "readSize", "[I", true)
  | 20 => ("CloudLaundryModel", "readDue", "[I", true)
  | 21 => ("CloudLaundryModel", "readDeep", "[I", true)
  | 22 => ("CloudLaundryModel", "readWashers", "I", false)
  | 23 => ("CloudLaundryModel", "readHands", "[I", true)
  | 24 => ("CloudLaundryModel", "readSoap", "I", false)
  | 25 => ("CloudLaundryModel", "readEye", "I", false)
  | 26 => ("CloudLaundryModel", "readMany", "I", false)
  | 27 => ("CloudLaundryModel", "undos", "I", false)
  | 28 => ("CloudLaundryModel", "past", "[I", true)
  | 29 => ("CloudLaundryModel", "kept", "[I", true)
  | 30 => ("CloudLaundryModel", "isKept", "[Z", true)
  | 31 => ("CloudLaundryModel", "spots", "[I", true)
  | 32 => ("CloudLaundryModel", "before", "[I", true)
  | 33 => ("CloudLaundryModel", "readThere", "[I", true)
  | 34 => ("CloudLaundryModel", "takesOf", "[I", true)
  | 35 => ("CloudLaundryModel", "sights", "I", false)
  | 36 => ("CloudLaundryModel", "sightOf", "[I", true)
  | 37 => ("CloudLaundryModel", "sightHands", "[I", true)
  | 38 => ("CloudLaundryModel", "sightHours", "[I", true)
  | 39 => ("CloudLaundryModel", "isLine", "[Z", true)
  | 40 => ("CloudLaundryModel", "sort", "[I", true)
  | 41 => ("CloudLaundryModel", "length", "[I", true)
  | 42 => ("CloudLaundryModel", "pegs", "[I", true)
  | _ => ("CloudLaundryModel", "moved", "[I", true)
def tyX12 : Nat → FieldType := fun k => match k with
  | 0 => .int
  | 1 => .array .int
  | 2 => .array .int
  | 3 => .array .int
  | 4 => .array .int
  | 5 => .int
  | 6 => .array .int
  | 7 => .int
  | 8 => .int
  | 9 => .array .int
  | 10 => .array .int
  | 11 => .int
  | 12 => .int
  | 13 => .int
  | 14 => .int
  | 15 => .int
  | 16 => .int
  | 17 => .int
  | 18 => .array .int
  | 19 => .array .int
  | 20 => .array .int
  | 21 => .array .int
  | 22 => .int
  | 23 => .array .int
  | 24 => .int
  | 25 => .int
  | 26 => .int
  | 27 => .int
  | 28 => .array .int
  | 29 => .array .int
  | 30 => .array .boolean
  | 31 => .array .int
  | 32 => .array .int
  | 33 => .array .int
  | 34 => .array .int
  | 35 => .int
  | 36 => .array .int
  | 37 => .array .int
  | 38 => .array .int
  | 39 => .array .boolean
  | 40 => .array .int
  | 41 => .array .int
  | 42 => .array .int
  | _ => .array .int
abbrev wsX120 : List Cond := u_ws RX12 TX12 44
theorem nmX12 : ∀ a, a < 44 → ∀ b, b < 44 → a ≠ b → (TX12 a).2.1 ≠ (TX12 b).2.1 := by decide +kernel
theorem tyX12_ok : ∀ k, k < 44 → parseFieldDescriptor (TX12 k).2.2.1 = some (tyX12 k) := by decide +kernel
abbrev cX12_init : ByteArray := prog_14_method_1_code
def yX12_init : MethodName := ⟨RX12, "<init>", "()V"⟩
abbrev cX12_in : ByteArray := prog_14_method_3_code
def yX12_in : MethodName := ⟨RX12, "in", "(JJJ)Z"⟩
abbrev cX12_isBit : ByteArray := prog_14_method_4_code
def yX12_isBit : MethodName := ⟨RX12, "isBit", "(II)Z"⟩
abbrev cX12_bits : ByteArray := prog_14_method_5_code
def yX12_bits : MethodName := ⟨RX12, "bits", "(I)I"⟩
abbrev cX12_isCloud : ByteArray := prog_14_method_6_code
def yX12_isCloud : MethodName := ⟨RX12, "isCloud", "(I)Z"⟩
abbrev cX12_isWasher : ByteArray := prog_14_method_7_code
def yX12_isWasher : MethodName := ⟨RX12, "isWasher", "(I)Z"⟩
abbrev cX12_rubsBy : ByteArray := prog_14_method_8_code
def yX12_rubsBy : MethodName := ⟨RX12, "rubsBy", "(II)I"⟩
abbrev cX12_shrinksBy : ByteArray := prog_14_method_9_code
def yX12_shrinksBy : MethodName := ⟨RX12, "shrinksBy", "(I)I"⟩
abbrev cX12_driesBy : ByteArray := prog_14_method_10_code
def yX12_driesBy : MethodName := ⟨RX12, "driesBy", "(I)I"⟩
abbrev cX12_write : ByteArray := prog_14_method_11_code
def yX12_write : MethodName := ⟨RX12, "write", "(I)I"⟩
abbrev cX12_erase : ByteArray := prog_14_method_12_code
def yX12_erase : MethodName := ⟨RX12, "erase", "()I"⟩
abbrev cX12_isSmall : ByteArray := prog_14_method_13_code
def yX12_isSmall : MethodName := ⟨RX12, "isSmall", "(I)Z"⟩
abbrev cX12_isDigit : ByteArray := prog_14_method_14_code
def yX12_isDigit : MethodName := ⟨RX12, "isDigit", "(I)Z"⟩
abbrev cX12_next : ByteArray := prog_14_method_15_code
def yX12_next : MethodName := ⟨RX12, "next", "()V"⟩
abbrev cX12_wordNow : ByteArray := prog_14_method_16_code
def yX12_wordNow : MethodName := ⟨RX12, "wordNow", "()J"⟩
abbrev cX12_readAsTold : ByteArray := prog_14_method_17_code
def yX12_readAsTold : MethodName := ⟨RX12, "readAsTold", "()V"⟩
abbrev cX12_takes0 : ByteArray := prog_14_method_18_code
def yX12_takes0 : MethodName := ⟨RX12, "takes0", "(II)Z"⟩
abbrev cX12_readsCloud : ByteArray := prog_14_method_19_code
def yX12_readsCloud : MethodName := ⟨RX12, "readsCloud", "(I)Z"⟩
abbrev cX12_readsStain : ByteArray := prog_14_method_20_code
def yX12_readsStain : MethodName := ⟨RX12, "readsStain", "()Z"⟩
abbrev cX12_readsWasher : ByteArray := prog_14_method_21_code
def yX12_readsWasher : MethodName := ⟨RX12, "readsWasher", "()Z"⟩
abbrev cX12_readsSummer : ByteArray := prog_14_method_22_code
def yX12_readsSummer : MethodName := ⟨RX12, "readsSummer", "()Z"⟩
abbrev cX12_readsSoap : ByteArray := prog_14_method_23_code
def yX12_readsSoap : MethodName := ⟨RX12, "readsSoap", "()Z"⟩
abbrev cX12_readsEye : ByteArray := prog_14_method_24_code
def yX12_readsEye : MethodName := ⟨RX12, "readsEye", "()Z"⟩
abbrev cX12_readsClause : ByteArray := prog_14_method_25_code
def yX12_readsClause : MethodName := ⟨RX12, "readsClause", "()Z"⟩
abbrev cX12_readsAll : ByteArray := prog_14_method_26_code
def yX12_readsAll : MethodName := ⟨RX12, "readsAll", "()Z"⟩
abbrev cX12_fault : ByteArray := prog_14_method_27_code
def yX12_fault : MethodName := ⟨RX12, "fault", "()I"⟩
abbrev cX12_begin : ByteArray := prog_14_method_28_code
def yX12_begin : MethodName := ⟨RX12, "begin", "()V"⟩
abbrev cX12_summer : ByteArray := prog_14_method_29_code
def yX12_summer : MethodName := ⟨RX12, "summer", "()I"⟩
abbrev cX12_isClean : ByteArray := prog_14_method_30_code
def yX12_isClean : MethodName := ⟨RX12, "isClean", "(I)Z"⟩
abbrev cX12_isDry : ByteArray := prog_14_method_31_code
def yX12_isDry : MethodName := ⟨RX12, "isDry", "(I)Z"⟩
abbrev cX12_whoHas : ByteArray := prog_14_method_32_code
def yX12_whoHas : MethodName := ⟨RX12, "whoHas", "(I)I"⟩
abbrev cX12_cloud : ByteArray := prog_14_method_33_code
def yX12_cloud : MethodName := ⟨RX12, "cloud", "(II)I"⟩
abbrev cX12_deep : ByteArray := prog_14_method_34_code
def yX12_deep : MethodName := ⟨RX12, "deep", "(II)I"⟩
abbrev cX12_washer : ByteArray := prog_14_method_35_code
def yX12_washer : MethodName := ⟨RX12, "washer", "(II)I"⟩
abbrev cX12_water : ByteArray := prog_14_method_36_code
def yX12_water : MethodName := ⟨RX12, "water", "(II)I"⟩
abbrev cX12_as : ByteArray := prog_14_method_37_code
def yX12_as : MethodName := ⟨RX12, "as", "(II)I"⟩
abbrev cX12_deepest : ByteArray := prog_14_method_38_code
def yX12_deepest : MethodName := ⟨RX12, "deepest", "(IZ)I"⟩
abbrev cX12_rub : ByteArray := prog_14_method_39_code
def yX12_rub : MethodName := ⟨RX12, "rub", "(I)V"⟩
abbrev cX12_work : ByteArray := prog_14_method_40_code
def yX12_work : MethodName := ⟨RX12, "work", "(II)V"⟩
abbrev cX12_pass : ByteArray := prog_14_method_41_code
def yX12_pass : MethodName := ⟨RX12, "pass", "()V"⟩
abbrev cX12_remember : ByteArray := prog_14_method_42_code
def yX12_remember : MethodName := ⟨RX12, "remember", "()V"⟩
abbrev cX12_allDeep : ByteArray := prog_14_method_43_code
def yX12_allDeep : MethodName := ⟨RX12, "allDeep", "(I)I"⟩
abbrev cX12_wash : ByteArray := prog_14_method_44_code
def yX12_wash : MethodName := ⟨RX12, "wash", "(II)I"⟩
abbrev cX12_hang : ByteArray := prog_14_method_45_code
def yX12_hang : MethodName := ⟨RX12, "hang", "(I)I"⟩
abbrev cX12_again : ByteArray := prog_14_method_46_code
def yX12_again : MethodName := ⟨RX12, "again", "(I)I"⟩
abbrev cX12_send : ByteArray := prog_14_method_47_code
def yX12_send : MethodName := ⟨RX12, "send", "(I)I"⟩
abbrev cX12_soap : ByteArray := prog_14_method_48_code
def yX12_soap : MethodName := ⟨RX12, "soap", "(I)I"⟩
abbrev cX12_hour : ByteArray := prog_14_method_49_code
def yX12_hour : MethodName := ⟨RX12, "hour", "(I)I"⟩
abbrev cX12_undo : ByteArray := prog_14_method_50_code
def yX12_undo : MethodName := ⟨RX12, "undo", "()I"⟩
abbrev cX12_keep : ByteArray := prog_14_method_51_code
def yX12_keep : MethodName := ⟨RX12, "keep", "(I)I"⟩
abbrev cX12_back : ByteArray := prog_14_method_52_code
def yX12_back : MethodName := ⟨RX12, "back", "(I)I"⟩
abbrev cX12_takesOne : ByteArray := prog_14_method_53_code
def yX12_takesOne : MethodName := ⟨RX12, "takesOne", "()Z"⟩
abbrev cX12_areOff : ByteArray := prog_14_method_54_code
def yX12_areOff : MethodName := ⟨RX12, "areOff", "()Z"⟩
abbrev cX12_takesBy : ByteArray := prog_14_method_55_code
def yX12_takesBy : MethodName := ⟨RX12, "takesBy", "(III)I"⟩
abbrev cX12_takes : ByteArray := prog_14_method_56_code
def yX12_takes : MethodName := ⟨RX12, "takes", "(II)I"⟩
abbrev cX12_copyRow : ByteArray := prog_14_method_57_code
def yX12_copyRow : MethodName := ⟨RX12, "copyRow", "([I[I)V"⟩
abbrev cX12_readAt : ByteArray := prog_14_method_58_code
def yX12_readAt : MethodName := ⟨RX12, "readAt", "(I)I"⟩
abbrev cX12_later : ByteArray := prog_14_method_59_code
def yX12_later : MethodName := ⟨RX12, "later", "(II)I"⟩
abbrev cX12_readBy : ByteArray := prog_14_method_60_code
def yX12_readBy : MethodName := ⟨RX12, "readBy", "(I)I"⟩
abbrev cX12_stands : ByteArray := prog_14_method_61_code
def yX12_stands : MethodName := ⟨RX12, "stands", "(II)I"⟩
abbrev cX12_base : ByteArray := prog_14_method_62_code
def yX12_base : MethodName := ⟨RX12, "base", "()I"⟩
abbrev cX12_whoOf : ByteArray := prog_14_method_63_code
def yX12_whoOf : MethodName := ⟨RX12, "whoOf", "(II)I"⟩
abbrev cX12_isInTime : ByteArray := prog_14_method_64_code
def yX12_isInTime : MethodName := ⟨RX12, "isInTime", "(II)Z"⟩
abbrev cX12_washedBy : ByteArray := prog_14_method_65_code
def yX12_washedBy : MethodName := ⟨RX12, "washedBy", "(I)I"⟩
abbrev cX12_bestWay : ByteArray := prog_14_method_66_code
def yX12_bestWay : MethodName := ⟨RX12, "bestWay", "()I"⟩
abbrev cX12_plan : ByteArray := prog_14_method_67_code
def yX12_plan : MethodName := ⟨RX12, "plan", "(I)I"⟩
abbrev cX12_needed : ByteArray := prog_14_method_68_code
def yX12_needed : MethodName := ⟨RX12, "needed", "(I)I"⟩
abbrev cX12_seen : ByteArray := prog_14_method_69_code
def yX12_seen : MethodName := ⟨RX12, "seen", "(III)I"⟩
abbrev cX12_forget : ByteArray := prog_14_method_70_code
def yX12_forget : MethodName := ⟨RX12, "forget", "()I"⟩
abbrev cX12_kinds : ByteArray := prog_14_method_71_code
def yX12_kinds : MethodName := ⟨RX12, "kinds", "(I)I"⟩
abbrev cX12_common : ByteArray := prog_14_method_72_code
def yX12_common : MethodName := ⟨RX12, "common", "(JJ)J"⟩
abbrev cX12_over : ByteArray := prog_14_method_73_code
def yX12_over : MethodName := ⟨RX12, "over", "(II)J"⟩
abbrev cX12_power : ByteArray := prog_14_method_74_code
def yX12_power : MethodName := ⟨RX12, "power", "(JI)J"⟩
abbrev cX12_lightning : ByteArray := prog_14_method_75_code
def yX12_lightning : MethodName := ⟨RX12, "lightning", "(IIII)I"⟩
abbrev cX12_isRow : ByteArray := prog_14_method_76_code
def yX12_isRow : MethodName := ⟨RX12, "isRow", "(I)Z"⟩
abbrev cX12_line : ByteArray := prog_14_method_77_code
def yX12_line : MethodName := ⟨RX12, "line", "(III)I"⟩
abbrev cX12_holds : ByteArray := prog_14_method_78_code
def yX12_holds : MethodName := ⟨RX12, "holds", "(II)Z"⟩
abbrev cX12_pin : ByteArray := prog_14_method_79_code
def yX12_pin : MethodName := ⟨RX12, "pin", "(IIII)I"⟩
abbrev cX12_peg : ByteArray := prog_14_method_80_code
def yX12_peg : MethodName := ⟨RX12, "peg", "(III)I"⟩
abbrev cX12_move : ByteArray := prog_14_method_81_code
def yX12_move : MethodName := ⟨RX12, "move", "(IIIII)I"⟩
abbrev cX12_drop : ByteArray := prog_14_method_82_code
def yX12_drop : MethodName := ⟨RX12, "drop", "(I)I"⟩
abbrev cX12_sum : ByteArray := prog_14_method_83_code
def yX12_sum : MethodName := ⟨RX12, "sum", "(I)I"⟩
abbrev cX12_cloudsAt : ByteArray := prog_14_method_84_code
def yX12_cloudsAt : MethodName := ⟨RX12, "cloudsAt", "(I)I"⟩
abbrev cX12_linesThere : ByteArray := prog_14_method_85_code
def yX12_linesThere : MethodName := ⟨RX12, "linesThere", "()I"⟩
abbrev cX12_allWater : ByteArray := prog_14_method_86_code
def yX12_allWater : MethodName := ⟨RX12, "allWater", "()I"⟩
abbrev cX12_count : ByteArray := prog_14_method_87_code
def yX12_count : MethodName := ⟨RX12, "count", "(I)I"⟩
def RJx145de : String := "java/io/Serializable"
def TJx145de : u_T := fun k => match k with
  | _ => ("", "", "", false)
def tyJx145de : Nat → FieldType := fun k => match k with
  | _ => .int
abbrev wsJx145de0 : List Cond := u_ws RJx145de TJx145de 0
theorem nmJx145de : ∀ a, a < 0 → ∀ b, b < 0 → a ≠ b → (TJx145de a).2.1 ≠ (TJx145de b).2.1 := by decide +kernel
theorem tyJx145de_ok : ∀ k, k < 0 → parseFieldDescriptor (TJx145de k).2.2.1 = some (tyJx145de k) := by decide +kernel
def RJx9f9b0 : String := "java/lang/CharSequence"
def TJx9f9b0 : u_T := fun k => match k with
  | _ => ("", "", "", false)
def tyJx9f9b0 : Nat → FieldType := fun k => match k with
  | _ => .int
abbrev wsJx9f9b00 : List Cond := u_ws RJx9f9b0 TJx9f9b0 0
theorem nmJx9f9b0 : ∀ a, a < 0 → ∀ b, b < 0 → a ≠ b → (TJx9f9b0 a).2.1 ≠ (TJx9f9b0 b).2.1 := by decide +kernel
theorem tyJx9f9b0_ok : ∀ k, k < 0 → parseFieldDescriptor (TJx9f9b0 k).2.2.1 = some (tyJx9f9b0 k) := by decide +kernel
def RJxb160c : String := "java/lang/Comparable"
def TJxb160c : u_T := fun k => match k with
  | _ => ("", "", "", false)
def tyJxb160c : Nat → FieldType := fun k => match k with
  | _ => .int
abbrev wsJxb160c0 : List Cond := u_ws RJxb160c TJxb160c 0
theorem nmJxb160c : ∀ a, a < 0 → ∀ b, b < 0 → a ≠ b → (TJxb160c a).2.1 ≠ (TJxb160c b).2.1 := by decide +kernel
theorem tyJxb160c_ok : ∀ k, k < 0 → parseFieldDescriptor (TJxb160c k).2.2.1 = some (tyJxb160c k) := by decide +kernel
def RJ6 : String := "java/lang/Integer"
def TJ6 : u_T := fun k => match k with
  | _ => ("", "", "", false)
def tyJ6 : Nat → FieldType := fun k => match k with
  | _ => .int
abbrev wsJ60 : List Cond := u_ws RJ6 TJ6 0
theorem nmJ6 : ∀ a, a < 0 → ∀ b, b < 0 → a ≠ b → (TJ6 a).2.1 ≠ (TJ6 b).2.1 := by decide +kernel
theorem tyJ6_ok : ∀ k, k < 0 → parseFieldDescriptor (TJ6 k).2.2.1 = some (tyJ6 k) := by decide +kernel
abbrev cJ6_bitCount_0f7a4 : ByteArray := prog_15_method_49_code
def yJ6_bitCount_0f7a4 : MethodName := ⟨RJ6, "bitCount", "(I)I"⟩
def RJ9 : String := "java/lang/Math"
def TJ9 : u_T := fun k => match k with
  | _ => ("", "", "", false)
def tyJ9 : Nat → FieldType := fun k => match k with
  | _ => .int
abbrev wsJ90 : List Cond := u_ws RJ9 TJ9 0
theorem nmJ9 : ∀ a, a < 0 → ∀ b, b < 0 → a ≠ b → (TJ9 a).2.1 ≠ (TJ9 b).2.1 := by decide +kernel
theorem tyJ9_ok : ∀ k, k < 0 → parseFieldDescriptor (TJ9 k).2.2.1 = some (tyJ9 k) := by decide +kernel
abbrev cJ9_max_7cf53 : ByteArray := prog_16_method_65_code
def yJ9_max_7cf53 : MethodName := ⟨RJ9, "max", "(II)I"⟩
abbrev cJ9_min_7cf53 : ByteArray := prog_16_method_69_code
def yJ9_min_7cf53 : MethodName := ⟨RJ9, "min", "(II)I"⟩
def RJ0 : String := "java/lang/String"
def TJ0 : u_T := fun k => match k with
  | _ => ("", "", "", false)
def tyJ0 : Nat → FieldType := fun k => match k with
  | _ => .int
abbrev wsJ00 : List Cond := u_ws RJ0 TJ0 0
theorem nmJ0 : ∀ a, a < 0 → ∀ b, b < 0 → a ≠ b → (TJ0 a).2.1 ≠ (TJ0 b).2.1 := by decide +kernel
theorem tyJ0_ok : ∀ k, k < 0 → parseFieldDescriptor (TJ0 k).2.2.1 = some (tyJ0 k) := by decide +kernel
abbrev cJ0_length_8abf5 : ByteArray := prog_17_method_54_code
def yJ0_length_8abf5 : MethodName := ⟨RJ0, "length", "()I"⟩
abbrev cJ0_charAt_5068e : ByteArray := prog_17_method_56_code
def yJ0_charAt_5068e : MethodName := ⟨RJ0, "charAt", "(I)C"⟩
abbrev cJ0_coder_7d493 : ByteArray := prog_17_method_152_code
def yJ0_coder_7d493 : MethodName := ⟨RJ0, "coder", "()B"⟩
abbrev cJ0_isLatin1_aae02 : ByteArray := prog_17_method_154_code
def yJ0_isLatin1_aae02 : MethodName := ⟨RJ0, "isLatin1", "()Z"⟩
abbrev cJ0_checkIndex_df160 : ByteArray := prog_17_method_155_code
def yJ0_checkIndex_df160 : MethodName := ⟨RJ0, "checkIndex", "(II)V"⟩
def RJ1 : String := "java/lang/StringLatin1"
def TJ1 : u_T := fun k => match k with
  | _ => ("", "", "", false)
def tyJ1 : Nat → FieldType := fun k => match k with
  | _ => .int
abbrev wsJ10 : List Cond := u_ws RJ1 TJ1 0
theorem nmJ1 : ∀ a, a < 0 → ∀ b, b < 0 → a ≠ b → (TJ1 a).2.1 ≠ (TJ1 b).2.1 := by decide +kernel
theorem tyJ1_ok : ∀ k, k < 0 → parseFieldDescriptor (TJ1 k).2.2.1 = some (tyJ1 k) := by decide +kernel
abbrev cJ1_charAt_3b067 : ByteArray := prog_18_method_2_code
def yJ1_charAt_3b067 : MethodName := ⟨RJ1, "charAt", "([BI)C"⟩
def RJ2 : String := "java/lang/StringUTF16"
def TJ2 : u_T := fun k => match k with
  | _ => ("", "", "", false)
def tyJ2 : Nat → FieldType := fun k => match k with
  | _ => .int
abbrev wsJ20 : List Cond := u_ws RJ2 TJ2 0
theorem nmJ2 : ∀ a, a < 0 → ∀ b, b < 0 → a ≠ b → (TJ2 a).2.1 ≠ (TJ2 b).2.1 := by decide +kernel
theorem tyJ2_ok : ∀ k, k < 0 → parseFieldDescriptor (TJ2 k).2.2.1 = some (tyJ2 k) := by decide +kernel
abbrev cJ2_getChar_3b067 : ByteArray := prog_19_method_5_code
def yJ2_getChar_3b067 : MethodName := ⟨RJ2, "getChar", "([BI)C"⟩
abbrev cJ2_length_9d52b : ByteArray := prog_19_method_6_code
def yJ2_length_9d52b : MethodName := ⟨RJ2, "length", "([B)I"⟩
abbrev cJ2_charAt_3b067 : ByteArray := prog_19_method_83_code
def yJ2_charAt_3b067 : MethodName := ⟨RJ2, "charAt", "([BI)C"⟩
abbrev cJ2_checkIndex_2214a : ByteArray := prog_19_method_91_code
def yJ2_checkIndex_2214a : MethodName := ⟨RJ2, "checkIndex", "(I[B)V"⟩
def RJ10 : String := "java/lang/System"
def TJ10 : u_T := fun k => match k with
  | _ => ("", "", "", false)
def tyJ10 : Nat → FieldType := fun k => match k with
  | _ => .int
abbrev wsJ100 : List Cond := u_ws RJ10 TJ10 0
theorem nmJ10 : ∀ a, a < 0 → ∀ b, b < 0 → a ≠ b → (TJ10 a).2.1 ≠ (TJ10 b).2.1 := by decide +kernel
theorem tyJ10_ok : ∀ k, k < 0 → parseFieldDescriptor (TJ10 k).2.2.1 = some (tyJ10 k) := by decide +kernel
def RJxfd54e : String := "java/lang/constant/Constable"
def TJxfd54e : u_T := fun k => match k with
  | _ => ("", "", "", false)
def tyJxfd54e : Nat → FieldType := fun k => match k with
  | _ => .int
abbrev wsJxfd54e0 : List Cond := u_ws RJxfd54e TJxfd54e 0
theorem nmJxfd54e : ∀ a, a < 0 → ∀ b, b < 0 → a ≠ b → (TJxfd54e a).2.1 ≠ (TJxfd54e b).2.1 := by decide +kernel
theorem tyJxfd54e_ok : ∀ k, k < 0 → parseFieldDescriptor (TJxfd54e k).2.2.1 = some (tyJxfd54e k) := by decide +kernel
def RJx3cf43 : String := "java/lang/constant/ConstantDesc"
def TJx3cf43 : u_T := fun k => match k with
  | _ => ("", "", "", false)
def tyJx3cf43 : Nat → FieldType := fun k => match k with
  | _ => .int
abbrev wsJx3cf430 : List Cond := u_ws RJx3cf43 TJx3cf43 0
theorem nmJx3cf43 : ∀ a, a < 0 → ∀ b, b < 0 → a ≠ b → (TJx3cf43 a).2.1 ≠ (TJx3cf43 b).2.1 := by decide +kernel
theorem tyJx3cf43_ok : ∀ k, k < 0 → parseFieldDescriptor (TJx3cf43 k).2.2.1 = some (tyJx3cf43 k) := by decide +kernel
def RJ7 : String := "java/util/Arrays"
def TJ7 : u_T := fun k => match k with
  | _ => ("", "", "", false)
def tyJ7 : Nat → FieldType := fun k => match k with
  | _ => .int
abbrev wsJ70 : List Cond := u_ws RJ7 TJ7 0
theorem nmJ7 : ∀ a, a < 0 → ∀ b, b < 0 → a ≠ b → (TJ7 a).2.1 ≠ (TJ7 b).2.1 := by decide +kernel
theorem tyJ7_ok : ∀ k, k < 0 → parseFieldDescriptor (TJ7 k).2.2.1 = some (tyJ7 k) := by decide +kernel
abbrev cJ7_fill_53178 : ByteArray := prog_21_method_103_code
def yJ7_fill_53178 : MethodName := ⟨RJ7, "fill", "([II)V"⟩
def RJ3 : String := "jdk/internal/util/Preconditions"
def TJ3 : u_T := fun k => match k with
  | _ => ("", "", "", false)
def tyJ3 : Nat → FieldType := fun k => match k with
  | _ => .int
abbrev wsJ30 : List Cond := u_ws RJ3 TJ3 0
theorem nmJ3 : ∀ a, a < 0 → ∀ b, b < 0 → a ≠ b → (TJ3 a).2.1 ≠ (TJ3 b).2.1 := by decide +kernel
theorem tyJ3_ok : ∀ k, k < 0 → parseFieldDescriptor (TJ3 k).2.2.1 = some (tyJ3 k) := by decide +kernel
abbrev cJ3_checkIndex_8e157 : ByteArray := prog_22_method_11_code
def yJ3_checkIndex_8e157 : MethodName := ⟨RJ3, "checkIndex", "(IILjava/util/function/BiFunction;)I"⟩
def RL : String := "CloudLaundryLaw"
abbrev cL_law : ByteArray := code
def yL_law : MethodName := ⟨RL, "law", "([I)Z"⟩
def wsL_law_r1 : List Cond := [Cond.classLink RL 7 RX11, Cond.instantiable RX11 20, Cond.initialized RX11, Cond.classLink RL 10 RX12, Cond.instantiable RX12 44, Cond.initialized RX12, Cond.methodLink RL 9 yX11_init, Cond.instanceMethod yX11_init, Cond.code yX11_init cX11_init 3 none, Cond.methodLink RX11 1 objectInit, Cond.instanceMethod objectInit, Cond.code objectInit ⟨#[0xb1]⟩ 1 none, Cond.classLink RX11 7 RX10, Cond.instantiable RX10 0, Cond.initialized RX10, Cond.classLink RX11 10 RX4, Cond.classLink RX11 12 RX9, Cond.instantiable RX9 0, Cond.initialized RX9, Cond.classLink RX11 15 RX3, Cond.instantiable RX3 0, Cond.initialized RX3, Cond.classLink RX11 18 RX0, Cond.instantiable RX0 0]
def wsL_law_r2 : List Cond := [Cond.initialized RX0, Cond.fieldLink RX11 21 "CloudLaundry" "sorts" "[LCloudLaundry$Kind;", Cond.classLink RX11 27 RX8, Cond.instantiable RX8 2, Cond.initialized RX8, Cond.fieldLink RX11 30 "CloudLaundry" "text" "LCloudLaundry$Text;", Cond.classLink RX11 34 RX2, Cond.instantiable RX2 9, Cond.initialized RX2, Cond.fieldLink RX11 39 "CloudLaundry" "told" "LCloudLaundry$Day;", Cond.fieldLink RX11 43 "CloudLaundry" "draft" "LCloudLaundry$Day;", Cond.fieldLink RX11 46 "CloudLaundry" "day" "LCloudLaundry$Day;", Cond.fieldLink RX11 49 "CloudLaundry" "foretold" "LCloudLaundry$Day;", Cond.classLink RX11 52 RX7, Cond.instantiable RX7 6, Cond.initialized RX7, Cond.fieldLink RX11 57 "CloudLaundry" "reader" "LCloudLaundry$Reader;", Cond.classLink RX11 61 RX6, Cond.instantiable RX6 7, Cond.initialized RX6, Cond.fieldLink RX11 66 "CloudLaundry" "plan" "LCloudLaundry$Plan;", Cond.arrayClass .int, Cond.fieldLink RX11 70 "CloudLaundry" "readable" "[I", Cond.fieldLink RX11 74 "CloudLaundry" "past" "[LCloudLaundry$Day;"]
def wsL_law_r3 : List Cond := [Cond.fieldLink RX11 78 "CloudLaundry" "keptDays" "[LCloudLaundry$Day;", Cond.fieldLink RX11 81 "CloudLaundry" "keptTexts" "[LCloudLaundry$Text;", Cond.arrayClass .boolean, Cond.fieldLink RX11 85 "CloudLaundry" "isKept" "[Z", Cond.fieldLink RX11 89 "CloudLaundry" "seenCloud" "[I", Cond.fieldLink RX11 92 "CloudLaundry" "seenHands" "[I", Cond.fieldLink RX11 95 "CloudLaundry" "seenHours" "[I", Cond.classLink RX11 98 RX5, Cond.fieldLink RX11 100 "CloudLaundry" "lines" "[LCloudLaundry$Line;", Cond.instantiable RX5 5, Cond.initialized RX5, Cond.fieldLink RX11 105 "CloudLaundry" "basket" "LCloudLaundry$Line;", Cond.instanceMethod yX10_init, Cond.code yX10_init cX10_init 1 none, Cond.instanceMethod yX4_init, Cond.initialized RX4, Cond.code yX4_init cX4_init 1 none, Cond.methodLink RX4 1 objectInit, Cond.instanceMethod yX9_init, Cond.code yX9_init cX9_init 1 none, Cond.instanceMethod yX3_init, Cond.code yX3_init cX3_init 1 none, Cond.instanceMethod yX0_init, Cond.code yX0_init cX0_init 1 none]
def wsL_law_r4 : List Cond := [Cond.methodLink RX11 29 yX8_init, Cond.instanceMethod yX8_init, Cond.code yX8_init cX8_init 1 none, Cond.methodLink RX8 3 objectInit, Cond.arrayClass .char, Cond.fieldLink RX8 9 "CloudLaundry$Text" "letters" "[C", Cond.methodLink RX11 36 yX2_init, Cond.instanceMethod yX2_init, Cond.code yX2_init cX2_init 3 none, Cond.methodLink RX2 3 objectInit, Cond.classLink RX2 9 RX1, Cond.fieldLink RX2 11 "CloudLaundry$Day" "clouds" "[LCloudLaundry$Cloud;", Cond.instantiable RX1 6, Cond.initialized RX1, Cond.fieldLink RX2 20 "CloudLaundry$Day" "hands" "[I", Cond.fieldLink RX2 24 "CloudLaundry$Day" "has" "[I", Cond.classLink RX2 33 "[[I", Cond.fieldLink RX2 35 "CloudLaundry$Day" "water" "[[I", Cond.fieldLink RX2 38 "CloudLaundry$Day" "eye" "I", Cond.methodLink RX2 17 yX1_init, Cond.instanceMethod yX1_init, Cond.code yX1_init cX1_init 2 none, Cond.methodLink RX1 3 objectInit, Cond.fieldLink RX1 9 "CloudLaundry$Cloud" "kind" "LCloudLaundry$Kind;"]
def wsL_law_r5 : List Cond := [Cond.fieldLink RX1 15 "CloudLaundry$Cloud" "deep" "[I", Cond.methodLink RX2 27 yJ7_fill_53178, Cond.static yJ7_fill_53178, Cond.initialized RJ7, Cond.code yJ7_fill_53178 cJ7_fill_53178 4 none, Cond.methodLink RX11 54 yX7_init, Cond.instanceMethod yX7_init, Cond.code yX7_init cX7_init 4 none, Cond.methodLink RX7 3 objectInit, Cond.fieldLink RX7 9 "CloudLaundry$Reader" "text" "LCloudLaundry$Text;", Cond.fieldLink RX7 15 "CloudLaundry$Reader" "draft" "LCloudLaundry$Day;", Cond.fieldLink RX7 19 "CloudLaundry$Reader" "sorts" "[LCloudLaundry$Kind;", Cond.methodLink RX11 63 yX6_init, Cond.instanceMethod yX6_init, Cond.code yX6_init cX6_init 2 none, Cond.methodLink RX6 3 objectInit, Cond.fieldLink RX6 9 "CloudLaundry$Plan" "day" "LCloudLaundry$Day;", Cond.fieldLink RX6 15 "CloudLaundry$Plan" "byDue" "[I", Cond.fieldLink RX6 19 "CloudLaundry$Plan" "sets" "[I", Cond.fieldLink RX6 22 "CloudLaundry$Plan" "way" "[I", Cond.fieldLink RX6 25 "CloudLaundry$Plan" "best" "[I", Cond.classLink RX6 28 "[[I", Cond.fieldLink RX6 30 "CloudLaundry$Plan" "hours" "[[I", Cond.methodLink RX11 104 yX5_init]
def wsL_law_r6 : List Cond := [Cond.instanceMethod yX5_init, Cond.code yX5_init cX5_init 1 none, Cond.methodLink RX5 3 objectInit, Cond.fieldLink RX5 9 "CloudLaundry$Line" "things" "[I", Cond.fieldLink RX5 15 "CloudLaundry$Line" "values" "[I", Cond.methodLink RL 12 yX12_init, Cond.instanceMethod yX12_init, Cond.code yX12_init cX12_init 2 none, Cond.methodLink RX12 1 objectInit, Cond.fieldLink RX12 7 "CloudLaundryModel" "kind" "[I", Cond.fieldLink RX12 13 "CloudLaundryModel" "sizeTold" "[I", Cond.fieldLink RX12 16 "CloudLaundryModel" "due" "[I", Cond.fieldLink RX12 19 "CloudLaundryModel" "deepTold" "[I", Cond.fieldLink RX12 22 "CloudLaundryModel" "hands" "[I", Cond.fieldLink RX12 25 "CloudLaundryModel" "eye" "I", Cond.fieldLink RX12 29 "CloudLaundryModel" "now" "[I", Cond.fieldLink RX12 32 "CloudLaundryModel" "text" "[I", Cond.fieldLink RX12 35 "CloudLaundryModel" "readKind" "[I", Cond.fieldLink RX12 38 "CloudLaundryModel" "readSize" "[I", Cond.fieldLink RX12 41 "CloudLaundryModel" "readDue" "[I", Cond.fieldLink RX12 44 "CloudLaundryModel" "readDeep" "[I", Cond.fieldLink RX12 47 "CloudLaundryModel" "readHands" "[I", Cond.fieldLink RX12 50 "CloudLaundryModel" "past" "[I", Cond.fieldLink RX12 53 "CloudLaundryModel" "kept" "[I"]
def wsL_law_r7 : List Cond := [Cond.fieldLink RX12 56 "CloudLaundryModel" "isKept" "[Z", Cond.fieldLink RX12 60 "CloudLaundryModel" "spots" "[I", Cond.fieldLink RX12 63 "CloudLaundryModel" "before" "[I", Cond.fieldLink RX12 66 "CloudLaundryModel" "readThere" "[I", Cond.fieldLink RX12 69 "CloudLaundryModel" "takesOf" "[I", Cond.fieldLink RX12 72 "CloudLaundryModel" "sightOf" "[I", Cond.fieldLink RX12 75 "CloudLaundryModel" "sightHands" "[I", Cond.fieldLink RX12 78 "CloudLaundryModel" "sightHours" "[I", Cond.fieldLink RX12 81 "CloudLaundryModel" "isLine" "[Z", Cond.fieldLink RX12 84 "CloudLaundryModel" "sort" "[I", Cond.fieldLink RX12 87 "CloudLaundryModel" "length" "[I", Cond.fieldLink RX12 90 "CloudLaundryModel" "pegs" "[I", Cond.fieldLink RX12 93 "CloudLaundryModel" "moved" "[I", Cond.methodLink RL 13 yX11_write, Cond.instanceMethod yX11_write, Cond.selects RX11 yX11_write yX11_write, Cond.code yX11_write cX11_write 2 (some .int), Cond.methodLink RX11 109 yX8_add, Cond.instanceMethod yX8_add, Cond.selects RX8 yX8_add yX8_add, Cond.code yX8_add cX8_add 2 (some .boolean), Cond.fieldLink RX8 15 "CloudLaundry$Text" "length" "I", Cond.methodLink RL 17 yX12_write, Cond.instanceMethod yX12_write]
def wsL_law_r8 : List Cond := [Cond.selects RX12 yX12_write yX12_write, Cond.code yX12_write cX12_write 2 (some .int), Cond.constantLong RX12 106 (255), Cond.fieldLink RX12 108 "CloudLaundryModel" "written" "I", Cond.methodLink RX12 99 yX12_in, Cond.static yX12_in, Cond.code yX12_in cX12_in 6 (some .boolean), Cond.methodLink RL 18 yX11_erase, Cond.instanceMethod yX11_erase, Cond.selects RX11 yX11_erase yX11_erase, Cond.code yX11_erase cX11_erase 2 (some .int), Cond.methodLink RL 22 yX12_erase, Cond.instanceMethod yX12_erase, Cond.selects RX12 yX12_erase yX12_erase, Cond.code yX12_erase cX12_erase 2 (some .int), Cond.methodLink RL 23 yX11_fault, Cond.instanceMethod yX11_fault, Cond.selects RX11 yX11_fault yX11_fault, Cond.code yX11_fault cX11_fault 1 (some .int), Cond.methodLink RX11 117 yX7_read, Cond.instanceMethod yX7_read, Cond.selects RX7 yX7_read yX7_read, Cond.code yX7_read cX7_read 2 (some .int), Cond.fieldLink RX7 29 "CloudLaundry$Reader" "end" "I"]
def wsL_law_r9 : List Cond := [Cond.fieldLink RX7 36 "CloudLaundry$Reader" "clauses" "I", Cond.fieldLink RX7 43 "CloudLaundry$Reader" "start" "I", Cond.methodLink RX7 23 yX2_copyFrom, Cond.instanceMethod yX2_copyFrom, Cond.selects RX2 yX2_copyFrom yX2_copyFrom, Cond.code yX2_copyFrom cX2_copyFrom 3 none, Cond.fieldLink RX2 42 "CloudLaundry$Day" "cloudCount" "I", Cond.fieldLink RX2 49 "CloudLaundry$Day" "washerCount" "I", Cond.methodLink RX2 52 arraycopyName, Cond.native arraycopyName, Cond.static arraycopyName, Cond.initialized "java/lang/System", Cond.fieldLink RX2 58 "CloudLaundry$Day" "soap" "I", Cond.fieldLink RX2 61 "CloudLaundry$Day" "hour" "I", Cond.methodLink RX2 45 yX1_copyFrom, Cond.instanceMethod yX1_copyFrom, Cond.selects RX1 yX1_copyFrom yX1_copyFrom, Cond.code yX1_copyFrom cX1_copyFrom 2 none, Cond.fieldLink RX1 19 "CloudLaundry$Cloud" "size" "I", Cond.fieldLink RX1 23 "CloudLaundry$Cloud" "due" "I", Cond.fieldLink RX1 26 "CloudLaundry$Cloud" "where" "I", Cond.fieldLink RX1 29 "CloudLaundry$Cloud" "hung" "I", Cond.methodLink RX1 32 arraycopyName, Cond.methodLink RX7 33 yX7_step]
def wsL_law_r10 : List Cond := [Cond.instanceMethod yX7_step, Cond.selects RX7 yX7_step yX7_step, Cond.code yX7_step cX7_step 2 none, Cond.methodLink RX7 51 yX8_at, Cond.instanceMethod yX8_at, Cond.selects RX8 yX8_at yX8_at, Cond.code yX8_at cX8_at 2 (some .char), Cond.methodLink RX7 55 yX7_sortOf, Cond.static yX7_sortOf, Cond.code yX7_sortOf cX7_sortOf 1 (some .int), Cond.methodLink RX7 39 yX7_readsClause, Cond.instanceMethod yX7_readsClause, Cond.selects RX7 yX7_readsClause yX7_readsClause, Cond.code yX7_readsClause cX7_readsClause 2 (some .boolean), Cond.methodLink RX7 69 yX7_isWord, Cond.instanceMethod yX7_isWord, Cond.selects RX7 yX7_isWord yX7_isWord, Cond.code yX7_isWord cX7_isWord 3 (some .boolean), Cond.methodLink RX7 59 yJ0_length_8abf5, Cond.instanceMethod yJ0_length_8abf5, Cond.selects RJ0 yJ0_length_8abf5 yJ0_length_8abf5, Cond.initialized RJ0, Cond.code yJ0_length_8abf5 cJ0_length_8abf5 1 (some .int), Cond.fieldLink RJ0 9 "java/lang/String" "value" "[B"]
def wsL_law_r11 : List Cond := [Cond.methodLink RJ0 335 yJ0_coder_7d493, Cond.instanceMethod yJ0_coder_7d493, Cond.selects RJ0 yJ0_coder_7d493 yJ0_coder_7d493, Cond.code yJ0_coder_7d493 cJ0_coder_7d493 1 (some .byte), Cond.fieldLink RJ0 38 "java/lang/String" "COMPACT_STRINGS" "Z", Cond.fieldLink RJ0 15 "java/lang/String" "coder" "B", Cond.methodLink RX7 64 yJ0_charAt_5068e, Cond.instanceMethod yJ0_charAt_5068e, Cond.selects RJ0 yJ0_charAt_5068e yJ0_charAt_5068e, Cond.code yJ0_charAt_5068e cJ0_charAt_5068e 2 (some .char), Cond.methodLink RJ0 492 yJ0_isLatin1_aae02, Cond.instanceMethod yJ0_isLatin1_aae02, Cond.selects RJ0 yJ0_isLatin1_aae02 yJ0_isLatin1_aae02, Cond.code yJ0_isLatin1_aae02 cJ0_isLatin1_aae02 1 (some .boolean), Cond.methodLink RJ0 495 yJ1_charAt_3b067, Cond.static yJ1_charAt_3b067, Cond.initialized RJ1, Cond.code yJ1_charAt_3b067 cJ1_charAt_3b067 2 (some .char), Cond.methodLink RJ1 9 yJ0_checkIndex_df160, Cond.static yJ0_checkIndex_df160, Cond.code yJ0_checkIndex_df160 cJ0_checkIndex_df160 2 none, Cond.fieldLink RJ0 1053 "jdk/internal/util/Preconditions" "SIOOBE_FORMATTER" "Ljava/util/function/BiFunction;", Cond.methodLink RJ0 1059 yJ3_checkIndex_8e157, Cond.static yJ3_checkIndex_8e157]
def wsL_law_r12 : List Cond := [Cond.initialized RJ3, Cond.code yJ3_checkIndex_8e157 cJ3_checkIndex_8e157 3 (some .int), Cond.methodLink RJ0 498 yJ2_charAt_3b067, Cond.static yJ2_charAt_3b067, Cond.initialized RJ2, Cond.code yJ2_charAt_3b067 cJ2_charAt_3b067 2 (some .char), Cond.methodLink RJ2 67 yJ2_checkIndex_2214a, Cond.static yJ2_checkIndex_2214a, Cond.code yJ2_checkIndex_2214a cJ2_checkIndex_2214a 2 none, Cond.methodLink RJ2 48 yJ2_length_9d52b, Cond.static yJ2_length_9d52b, Cond.code yJ2_length_9d52b cJ2_length_9d52b 1 (some .int), Cond.methodLink RJ2 414 yJ0_checkIndex_df160, Cond.methodLink RJ2 71 yJ2_getChar_3b067, Cond.static yJ2_getChar_3b067, Cond.code yJ2_getChar_3b067 cJ2_getChar_3b067 2 (some .char), Cond.fieldLink RJ2 44 "java/lang/StringUTF16" "$assertionsDisabled" "Z", Cond.fieldLink RJ2 59 "java/lang/StringUTF16" "HI_BYTE_SHIFT" "I", Cond.fieldLink RJ2 63 "java/lang/StringUTF16" "LO_BYTE_SHIFT" "I", Cond.methodLink RX7 73 yX2_untell, Cond.instanceMethod yX2_untell, Cond.selects RX2 yX2_untell yX2_untell, Cond.code yX2_untell cX2_untell 1 none, Cond.methodLink RX7 78 yX7_readsStain]
def wsL_law_r13 : List Cond := [Cond.instanceMethod yX7_readsStain, Cond.selects RX7 yX7_readsStain yX7_readsStain, Cond.code yX7_readsStain cX7_readsStain 4 (some .boolean), Cond.methodLink RX7 109 yX7_number, Cond.instanceMethod yX7_number, Cond.selects RX7 yX7_number yX7_number, Cond.code yX7_number cX7_number 6 (some .int), Cond.methodLink RX7 117 yX2_cloudAt, Cond.instanceMethod yX2_cloudAt, Cond.selects RX2 yX2_cloudAt yX2_cloudAt, Cond.code yX2_cloudAt cX2_cloudAt 2 (some (.object "CloudLaundry$Cloud")), Cond.methodLink RX7 83 yX7_readsWasher, Cond.instanceMethod yX7_readsWasher, Cond.selects RX7 yX7_readsWasher yX7_readsWasher, Cond.code yX7_readsWasher cX7_readsWasher 2 (some .boolean), Cond.methodLink RX7 130 yX2_addWasher, Cond.instanceMethod yX2_addWasher, Cond.selects RX2 yX2_addWasher yX2_addWasher, Cond.code yX2_addWasher cX2_addWasher 2 none, Cond.methodLink RX7 88 yX7_readsSoap, Cond.instanceMethod yX7_readsSoap, Cond.selects RX7 yX7_readsSoap yX7_readsSoap, Cond.code yX7_readsSoap cX7_readsSoap 2 (some .boolean), Cond.methodLink RX7 93 yX7_readsEye]
def wsL_law_r14 : List Cond := [Cond.instanceMethod yX7_readsEye, Cond.selects RX7 yX7_readsEye yX7_readsEye, Cond.code yX7_readsEye cX7_readsEye 2 (some .boolean), Cond.methodLink RX7 96 ⟨"CloudLaundry$Kind", "word", "()Ljava/lang/String;"⟩, Cond.sameMethod "CloudLaundry$Kind" "CloudLaundry$Kind" "word" "()Ljava/lang/String;", Cond.selects RX0 ⟨"CloudLaundry$Kind", "word", "()Ljava/lang/String;"⟩ yX0_word, Cond.instanceMethod yX0_word, Cond.code yX0_word cX0_word 1 (some (.object "java/lang/String")), Cond.selects RX3 ⟨"CloudLaundry$Kind", "word", "()Ljava/lang/String;"⟩ yX3_word, Cond.instanceMethod yX3_word, Cond.code yX3_word cX3_word 1 (some (.object "java/lang/String")), Cond.selects RX9 ⟨"CloudLaundry$Kind", "word", "()Ljava/lang/String;"⟩ yX9_word, Cond.instanceMethod yX9_word, Cond.code yX9_word cX9_word 1 (some (.object "java/lang/String")), Cond.selects RX10 ⟨"CloudLaundry$Kind", "word", "()Ljava/lang/String;"⟩ yX10_word, Cond.instanceMethod yX10_word, Cond.code yX10_word cX10_word 1 (some (.object "java/lang/String")), Cond.methodLink RX7 102 yX7_readsCloud, Cond.instanceMethod yX7_readsCloud, Cond.selects RX7 yX7_readsCloud yX7_readsCloud, Cond.code yX7_readsCloud cX7_readsCloud 4 (some .boolean), Cond.methodLink RX7 113 yX2_addCloud, Cond.instanceMethod yX2_addCloud, Cond.selects RX2 yX2_addCloud yX2_addCloud]
def wsL_law_r15 : List Cond := [Cond.code yX2_addCloud cX2_addCloud 4 none, Cond.methodLink RX2 64 yX1_begin, Cond.instanceMethod yX1_begin, Cond.selects RX1 yX1_begin yX1_begin, Cond.code yX1_begin cX1_begin 4 none, Cond.methodLink RX1 38 yJ7_fill_53178, Cond.methodLink RL 26 yX12_fault, Cond.instanceMethod yX12_fault, Cond.selects RX12 yX12_fault yX12_fault, Cond.code yX12_fault cX12_fault 1 (some .int), Cond.fieldLink RX12 122 "CloudLaundryModel" "tokenAt" "I", Cond.methodLink RX12 217 yX12_readsAll, Cond.instanceMethod yX12_readsAll, Cond.selects RX12 yX12_readsAll yX12_readsAll, Cond.code yX12_readsAll cX12_readsAll 3 (some .boolean), Cond.fieldLink RX12 119 "CloudLaundryModel" "at" "I", Cond.fieldLink RX12 135 "CloudLaundryModel" "token" "I", Cond.fieldLink RX12 160 "CloudLaundryModel" "readMany" "I", Cond.methodLink RX12 211 yX12_readAsTold, Cond.instanceMethod yX12_readAsTold, Cond.selects RX12 yX12_readAsTold yX12_readAsTold, Cond.code yX12_readAsTold cX12_readAsTold 2 none, Cond.fieldLink RX12 96 "CloudLaundryModel" "clouds" "I", Cond.fieldLink RX12 145 "CloudLaundryModel" "readClouds" "I"]
def wsL_law_r16 : List Cond := [Cond.fieldLink RX12 103 "CloudLaundryModel" "washers" "I", Cond.fieldLink RX12 148 "CloudLaundryModel" "readWashers" "I", Cond.fieldLink RX12 151 "CloudLaundryModel" "soapTold" "I", Cond.fieldLink RX12 154 "CloudLaundryModel" "readSoap" "I", Cond.fieldLink RX12 157 "CloudLaundryModel" "readEye" "I", Cond.methodLink RX12 163 yX12_next, Cond.instanceMethod yX12_next, Cond.selects RX12 yX12_next yX12_next, Cond.code yX12_next cX12_next 2 none, Cond.fieldLink RX12 125 "CloudLaundryModel" "tokenEnd" "I", Cond.fieldLink RX12 138 "CloudLaundryModel" "number" "I", Cond.methodLink RX12 128 yX12_isSmall, Cond.instanceMethod yX12_isSmall, Cond.selects RX12 yX12_isSmall yX12_isSmall, Cond.code yX12_isSmall cX12_isSmall 2 (some .boolean), Cond.constantLong RX12 111 (97), Cond.constantLong RX12 113 (122), Cond.methodLink RX12 132 yX12_isDigit, Cond.instanceMethod yX12_isDigit, Cond.selects RX12 yX12_isDigit yX12_isDigit, Cond.code yX12_isDigit cX12_isDigit 2 (some .boolean), Cond.constantLong RX12 115 (48), Cond.constantLong RX12 117 (57), Cond.methodLink RX12 214 yX12_readsClause]
def wsL_law_r17 : List Cond := [Cond.instanceMethod yX12_readsClause, Cond.selects RX12 yX12_readsClause yX12_readsClause, Cond.code yX12_readsClause cX12_readsClause 3 (some .boolean), Cond.constantLong RX12 174 (12387713), Cond.constantLong RX12 176 (7874639928), Cond.constantLong RX12 178 (4786), Cond.constantLong RX12 180 (1423850), Cond.constantLong RX12 185 (284055003), Cond.constantLong RX12 191 (10492025), Cond.constantLong RX12 196 (330936264), Cond.constantLong RX12 201 (384955), Cond.constantLong RX12 206 (4325), Cond.methodLink RX12 170 yX12_wordNow, Cond.instanceMethod yX12_wordNow, Cond.selects RX12 yX12_wordNow yX12_wordNow, Cond.code yX12_wordNow cX12_wordNow 4 (some .long), Cond.constantLong RX12 141 (100000000000), Cond.constantLong RX12 143 (27), Cond.methodLink RX12 182 yX12_readsCloud, Cond.instanceMethod yX12_readsCloud, Cond.selects RX12 yX12_readsCloud yX12_readsCloud, Cond.code yX12_readsCloud cX12_readsCloud 5 (some .boolean), Cond.methodLink RX12 166 yX12_takes0, Cond.instanceMethod yX12_takes0]
def wsL_law_r18 : List Cond := [Cond.selects RX12 yX12_takes0 yX12_takes0, Cond.code yX12_takes0 cX12_takes0 3 (some .boolean), Cond.methodLink RX12 187 yX12_readsSummer, Cond.instanceMethod yX12_readsSummer, Cond.selects RX12 yX12_readsSummer yX12_readsSummer, Cond.code yX12_readsSummer cX12_readsSummer 1 (some .boolean), Cond.methodLink RX12 193 yX12_readsStain, Cond.instanceMethod yX12_readsStain, Cond.selects RX12 yX12_readsStain yX12_readsStain, Cond.code yX12_readsStain cX12_readsStain 4 (some .boolean), Cond.methodLink RX12 198 yX12_readsWasher, Cond.instanceMethod yX12_readsWasher, Cond.selects RX12 yX12_readsWasher yX12_readsWasher, Cond.code yX12_readsWasher cX12_readsWasher 1 (some .boolean), Cond.methodLink RX12 203 yX12_readsSoap, Cond.instanceMethod yX12_readsSoap, Cond.selects RX12 yX12_readsSoap yX12_readsSoap, Cond.code yX12_readsSoap cX12_readsSoap 2 (some .boolean), Cond.methodLink RX12 208 yX12_readsEye, Cond.instanceMethod yX12_readsEye, Cond.selects RX12 yX12_readsEye yX12_readsEye, Cond.code yX12_readsEye cX12_readsEye 2 (some .boolean), Cond.methodLink RL 27 yX11_summer, Cond.instanceMethod yX11_summer]
def wsL_law_r19 : List Cond := [Cond.selects RX11 yX11_summer yX11_summer, Cond.code yX11_summer cX11_summer 2 (some .int), Cond.fieldLink RX11 128 "CloudLaundry" "seenCount" "I", Cond.fieldLink RX11 131 "CloudLaundry" "pasts" "I", Cond.methodLink RX11 121 yX2_copyFrom, Cond.methodLink RL 30 yX12_summer, Cond.instanceMethod yX12_summer, Cond.selects RX12 yX12_summer yX12_summer, Cond.code yX12_summer cX12_summer 2 (some .int), Cond.methodLink RX12 226 yX12_begin, Cond.instanceMethod yX12_begin, Cond.selects RX12 yX12_begin yX12_begin, Cond.code yX12_begin cX12_begin 2 none, Cond.fieldLink RX12 220 "CloudLaundryModel" "sights" "I", Cond.fieldLink RX12 223 "CloudLaundryModel" "undos" "I", Cond.methodLink RL 31 yX11_cloud, Cond.instanceMethod yX11_cloud, Cond.selects RX11 yX11_cloud yX11_cloud, Cond.code yX11_cloud cX11_cloud 4 (some .int), Cond.methodLink RX11 137 yX2_cloudAt, Cond.methodLink RX11 147 ⟨"CloudLaundry$Kind", "number", "()I"⟩, Cond.sameMethod "CloudLaundry$Kind" "CloudLaundry$Kind" "number" "()I", Cond.selects RX0 ⟨"CloudLaundry$Kind", "number", "()I"⟩ yX0_number, Cond.instanceMethod yX0_number]
def wsL_law_r20 : List Cond := [Cond.code yX0_number cX0_number 1 (some .int), Cond.selects RX3 ⟨"CloudLaundry$Kind", "number", "()I"⟩ yX3_number, Cond.instanceMethod yX3_number, Cond.code yX3_number cX3_number 1 (some .int), Cond.selects RX9 ⟨"CloudLaundry$Kind", "number", "()I"⟩ yX9_number, Cond.instanceMethod yX9_number, Cond.code yX9_number cX9_number 1 (some .int), Cond.selects RX10 ⟨"CloudLaundry$Kind", "number", "()I"⟩ yX10_number, Cond.instanceMethod yX10_number, Cond.code yX10_number cX10_number 1 (some .int), Cond.methodLink RX11 160 yX2_washerOf, Cond.instanceMethod yX2_washerOf, Cond.selects RX2 yX2_washerOf yX2_washerOf, Cond.code yX2_washerOf cX2_washerOf 3 (some .int), Cond.methodLink RX11 167 yX1_isClean, Cond.instanceMethod yX1_isClean, Cond.selects RX1 yX1_isClean yX1_isClean, Cond.code yX1_isClean cX1_isClean 1 (some .boolean), Cond.methodLink RX1 44 yX1_allDeep, Cond.instanceMethod yX1_allDeep, Cond.selects RX1 yX1_allDeep yX1_allDeep, Cond.code yX1_allDeep cX1_allDeep 3 (some .int), Cond.methodLink RX11 171 yX1_isDry, Cond.instanceMethod yX1_isDry]
def wsL_law_r21 : List Cond := [Cond.selects RX1 yX1_isDry yX1_isDry, Cond.code yX1_isDry cX1_isDry 1 (some .boolean), Cond.methodLink RX1 48 ⟨"CloudLaundry$Kind", "dries", "()I"⟩, Cond.sameMethod "CloudLaundry$Kind" "CloudLaundry$Kind" "dries" "()I", Cond.selects RX0 ⟨"CloudLaundry$Kind", "dries", "()I"⟩ yX0_dries, Cond.instanceMethod yX0_dries, Cond.code yX0_dries cX0_dries 1 (some .int), Cond.selects RX3 ⟨"CloudLaundry$Kind", "dries", "()I"⟩ yX3_dries, Cond.instanceMethod yX3_dries, Cond.code yX3_dries cX3_dries 1 (some .int), Cond.methodLink RX3 13 yX10_dries, Cond.sameMethod "CloudLaundry$White" "CloudLaundry$White" "dries" "()I", Cond.superclass RX3 RX10, Cond.instanceMethod yX10_dries, Cond.code yX10_dries cX10_dries 1 (some .int), Cond.selects RX9 ⟨"CloudLaundry$Kind", "dries", "()I"⟩ yX9_dries, Cond.instanceMethod yX9_dries, Cond.code yX9_dries cX9_dries 1 (some .int), Cond.methodLink RX9 19 yX10_dries, Cond.superclass RX9 RX10, Cond.selects RX10 ⟨"CloudLaundry$Kind", "dries", "()I"⟩ yX10_dries, Cond.methodLink RL 35 yX12_cloud, Cond.instanceMethod yX12_cloud, Cond.selects RX12 yX12_cloud yX12_cloud]
def wsL_law_r22 : List Cond := [Cond.code yX12_cloud cX12_cloud 3 (some .int), Cond.methodLink RX12 233 yX12_isCloud, Cond.instanceMethod yX12_isCloud, Cond.selects RX12 yX12_isCloud yX12_isCloud, Cond.code yX12_isCloud cX12_isCloud 2 (some .boolean), Cond.methodLink RX12 236 yX12_whoHas, Cond.instanceMethod yX12_whoHas, Cond.selects RX12 yX12_whoHas yX12_whoHas, Cond.code yX12_whoHas cX12_whoHas 4 (some .int), Cond.methodLink RX12 239 yX12_isClean, Cond.instanceMethod yX12_isClean, Cond.selects RX12 yX12_isClean yX12_isClean, Cond.code yX12_isClean cX12_isClean 4 (some .boolean), Cond.methodLink RX12 242 yX12_isDry, Cond.instanceMethod yX12_isDry, Cond.selects RX12 yX12_isDry yX12_isDry, Cond.code yX12_isDry cX12_isDry 2 (some .boolean), Cond.methodLink RX12 229 yX12_driesBy, Cond.static yX12_driesBy, Cond.code yX12_driesBy cX12_driesBy 1 (some .int), Cond.methodLink RL 36 yX11_deep, Cond.instanceMethod yX11_deep, Cond.selects RX11 yX11_deep yX11_deep, Cond.code yX11_deep cX11_deep 4 (some .int)]
def wsL_law_r23 : List Cond := [Cond.methodLink RL 39 yX12_deep, Cond.instanceMethod yX12_deep, Cond.selects RX12 yX12_deep yX12_deep, Cond.code yX12_deep cX12_deep 3 (some .int), Cond.constantLong RX12 245 (5), Cond.methodLink RL 40 yX11_washer, Cond.instanceMethod yX11_washer, Cond.selects RX11 yX11_washer yX11_washer, Cond.code yX11_washer cX11_washer 3 (some .int), Cond.methodLink RX11 177 yX2_isWasher, Cond.instanceMethod yX2_isWasher, Cond.selects RX2 yX2_isWasher yX2_isWasher, Cond.code yX2_isWasher cX2_isWasher 2 (some .boolean), Cond.methodLink RL 43 yX12_washer, Cond.instanceMethod yX12_washer, Cond.selects RX12 yX12_washer yX12_washer, Cond.code yX12_washer cX12_washer 3 (some .int), Cond.methodLink RX12 247 yX12_isWasher, Cond.instanceMethod yX12_isWasher, Cond.selects RX12 yX12_isWasher yX12_isWasher, Cond.code yX12_isWasher cX12_isWasher 2 (some .boolean), Cond.methodLink RL 44 yX11_water, Cond.instanceMethod yX11_water, Cond.selects RX11 yX11_water yX11_water]
def wsL_law_r24 : List Cond := [Cond.code yX11_water cX11_water 3 (some .int), Cond.methodLink RL 47 yX12_water, Cond.instanceMethod yX12_water, Cond.selects RX12 yX12_water yX12_water, Cond.code yX12_water cX12_water 3 (some .int), Cond.constantLong RX12 250 (6), Cond.methodLink RL 48 yX11_as, Cond.instanceMethod yX11_as, Cond.selects RX11 yX11_as yX11_as, Cond.code yX11_as cX11_as 4 (some .int), Cond.methodLink RX11 191 yX11_isOne, Cond.static yX11_isOne, Cond.code yX11_isOne cX11_isOne 2 (some .boolean), Cond.classLink RX11 7 "CloudLaundry$White", Cond.classLink RX11 12 "CloudLaundry$Thunder", Cond.classLink RX11 15 "CloudLaundry$Fog", Cond.classLink RX11 18 "CloudLaundry$Bride", Cond.methodLink RX11 195 ⟨"CloudLaundry$Kind", "rubs", "(I)I"⟩, Cond.sameMethod "CloudLaundry$Kind" "CloudLaundry$Kind" "rubs" "(I)I", Cond.selects RX0 ⟨"CloudLaundry$Kind", "rubs", "(I)I"⟩ yX0_rubs, Cond.instanceMethod yX0_rubs, Cond.code yX0_rubs cX0_rubs 2 (some .int), Cond.selects RX3 ⟨"CloudLaundry$Kind", "rubs", "(I)I"⟩ yX10_rubs, Cond.instanceMethod yX10_rubs]
def wsL_law_r25 : List Cond := [Cond.code yX10_rubs cX10_rubs 2 (some .int), Cond.selects RX9 ⟨"CloudLaundry$Kind", "rubs", "(I)I"⟩ yX9_rubs, Cond.instanceMethod yX9_rubs, Cond.code yX9_rubs cX9_rubs 2 (some .int), Cond.methodLink RX9 13 Lib.Math.max.name, Cond.static Lib.Math.max.name, Cond.initialized "java/lang/Math", Cond.code Lib.Math.max.name Lib.Math.max.code 2 (some .int), Cond.methodLink RX9 9 yX10_rubs, Cond.sameMethod "CloudLaundry$White" "CloudLaundry$White" "rubs" "(I)I", Cond.selects RX10 ⟨"CloudLaundry$Kind", "rubs", "(I)I"⟩ yX10_rubs, Cond.methodLink RL 51 yX12_as, Cond.instanceMethod yX12_as, Cond.selects RX12 yX12_as yX12_as, Cond.code yX12_as cX12_as 5 (some .int), Cond.constantLong RX12 252 (4), Cond.methodLink RX12 254 yX12_rubsBy, Cond.static yX12_rubsBy, Cond.code yX12_rubsBy cX12_rubsBy 2 (some .int), Cond.methodLink RL 52 yX11_wash, Cond.instanceMethod yX11_wash, Cond.selects RX11 yX11_wash yX11_wash, Cond.code yX11_wash cX11_wash 4 (some .int), Cond.methodLink RX11 198 yX11_remember]
def wsL_law_r26 : List Cond := [Cond.instanceMethod yX11_remember, Cond.selects RX11 yX11_remember yX11_remember, Cond.code yX11_remember cX11_remember 3 none, Cond.methodLink RX11 201 yX1_allDeep, Cond.methodLink RL 55 yX12_wash, Cond.instanceMethod yX12_wash, Cond.selects RX12 yX12_wash yX12_wash, Cond.code yX12_wash cX12_wash 3 (some .int), Cond.methodLink RX12 273 yX12_remember, Cond.instanceMethod yX12_remember, Cond.selects RX12 yX12_remember yX12_remember, Cond.code yX12_remember cX12_remember 2 none, Cond.methodLink RX12 276 yX12_allDeep, Cond.instanceMethod yX12_allDeep, Cond.selects RX12 yX12_allDeep yX12_allDeep, Cond.code yX12_allDeep cX12_allDeep 4 (some .int), Cond.methodLink RL 56 yX11_hang, Cond.instanceMethod yX11_hang, Cond.selects RX11 yX11_hang yX11_hang, Cond.code yX11_hang cX11_hang 4 (some .int), Cond.methodLink RL 59 yX12_hang, Cond.instanceMethod yX12_hang, Cond.selects RX12 yX12_hang yX12_hang, Cond.code yX12_hang cX12_hang 3 (some .int)]
def wsL_law_r27 : List Cond := [Cond.methodLink RL 60 yX11_again, Cond.instanceMethod yX11_again, Cond.selects RX11 yX11_again yX11_again, Cond.code yX11_again cX11_again 4 (some .int), Cond.methodLink RL 63 yX12_again, Cond.instanceMethod yX12_again, Cond.selects RX12 yX12_again yX12_again, Cond.code yX12_again cX12_again 3 (some .int), Cond.methodLink RL 64 yX11_send, Cond.instanceMethod yX11_send, Cond.selects RX11 yX11_send yX11_send, Cond.code yX11_send cX11_send 3 (some .int), Cond.methodLink RX11 207 Lib.Math.max.name, Cond.methodLink RL 67 yX12_send, Cond.instanceMethod yX12_send, Cond.selects RX12 yX12_send yX12_send, Cond.code yX12_send cX12_send 2 (some .int), Cond.methodLink RL 68 yX11_soap, Cond.instanceMethod yX11_soap, Cond.selects RX11 yX11_soap yX11_soap, Cond.code yX11_soap cX11_soap 2 (some .int), Cond.methodLink RL 71 yX12_soap, Cond.instanceMethod yX12_soap, Cond.selects RX12 yX12_soap yX12_soap]
def wsL_law_r28 : List Cond := [Cond.code yX12_soap cX12_soap 2 (some .int), Cond.constantLong RX12 279 (20), Cond.methodLink RL 72 yX11_hour, Cond.instanceMethod yX11_hour, Cond.selects RX11 yX11_hour yX11_hour, Cond.code yX11_hour cX11_hour 3 (some .int), Cond.methodLink RX11 216 yX2_passHour, Cond.instanceMethod yX2_passHour, Cond.selects RX2 yX2_passHour yX2_passHour, Cond.code yX2_passHour cX2_passHour 2 none, Cond.methodLink RX2 71 yX2_flow, Cond.instanceMethod yX2_flow, Cond.selects RX2 yX2_flow yX2_flow, Cond.code yX2_flow cX2_flow 3 none, Cond.methodLink RX2 74 yX2_rubStone, Cond.instanceMethod yX2_rubStone, Cond.selects RX2 yX2_rubStone yX2_rubStone, Cond.code yX2_rubStone cX2_rubStone 5 none, Cond.methodLink RX2 109 Lib.Math.max.name, Cond.methodLink RX2 81 yX2_isWasher, Cond.methodLink RX2 85 yX2_cloudAt, Cond.methodLink RX2 93 ⟨"CloudLaundry$Kind", "rubs", "(I)I"⟩, Cond.methodLink RX2 99 yX2_rubOnce, Cond.instanceMethod yX2_rubOnce]
def wsL_law_r29 : List Cond := [Cond.selects RX2 yX2_rubOnce yX2_rubOnce, Cond.code yX2_rubOnce cX2_rubOnce 3 none, Cond.methodLink RX2 115 yX1_deepest, Cond.instanceMethod yX1_deepest, Cond.selects RX1 yX1_deepest yX1_deepest, Cond.code yX1_deepest cX1_deepest 5 (some .int), Cond.methodLink RX2 105 ⟨"CloudLaundry$Kind", "shrinks", "()I"⟩, Cond.sameMethod "CloudLaundry$Kind" "CloudLaundry$Kind" "shrinks" "()I", Cond.selects RX0 ⟨"CloudLaundry$Kind", "shrinks", "()I"⟩ yX0_shrinks, Cond.instanceMethod yX0_shrinks, Cond.code yX0_shrinks cX0_shrinks 1 (some .int), Cond.selects RX3 ⟨"CloudLaundry$Kind", "shrinks", "()I"⟩ yX3_shrinks, Cond.instanceMethod yX3_shrinks, Cond.code yX3_shrinks cX3_shrinks 1 (some .int), Cond.methodLink RX3 9 yX10_shrinks, Cond.sameMethod "CloudLaundry$White" "CloudLaundry$White" "shrinks" "()I", Cond.instanceMethod yX10_shrinks, Cond.code yX10_shrinks cX10_shrinks 1 (some .int), Cond.selects RX9 ⟨"CloudLaundry$Kind", "shrinks", "()I"⟩ yX10_shrinks, Cond.selects RX10 ⟨"CloudLaundry$Kind", "shrinks", "()I"⟩ yX10_shrinks, Cond.methodLink RL 75 yX12_hour, Cond.instanceMethod yX12_hour, Cond.selects RX12 yX12_hour yX12_hour, Cond.code yX12_hour cX12_hour 3 (some .int)]
def wsL_law_r30 : List Cond := [Cond.constantLong RX12 281 (12), Cond.methodLink RX12 283 yX12_pass, Cond.instanceMethod yX12_pass, Cond.selects RX12 yX12_pass yX12_pass, Cond.code yX12_pass cX12_pass 3 none, Cond.methodLink RX12 269 yX12_work, Cond.instanceMethod yX12_work, Cond.selects RX12 yX12_work yX12_work, Cond.code yX12_work cX12_work 5 none, Cond.methodLink RX12 262 yX12_rub, Cond.instanceMethod yX12_rub, Cond.selects RX12 yX12_rub yX12_rub, Cond.code yX12_rub cX12_rub 3 none, Cond.methodLink RX12 258 yX12_deepest, Cond.instanceMethod yX12_deepest, Cond.selects RX12 yX12_deepest yX12_deepest, Cond.code yX12_deepest cX12_deepest 7 (some .int), Cond.methodLink RX12 266 yX12_shrinksBy, Cond.static yX12_shrinksBy, Cond.code yX12_shrinksBy cX12_shrinksBy 1 (some .int), Cond.methodLink RL 76 yX11_undo, Cond.instanceMethod yX11_undo, Cond.selects RX11 yX11_undo yX11_undo, Cond.code yX11_undo cX11_undo 1 (some .int)]
def wsL_law_r31 : List Cond := [Cond.methodLink RL 79 yX12_undo, Cond.instanceMethod yX12_undo, Cond.selects RX12 yX12_undo yX12_undo, Cond.code yX12_undo cX12_undo 2 (some .int), Cond.methodLink RL 80 yX11_keep, Cond.instanceMethod yX11_keep, Cond.selects RX11 yX11_keep yX11_keep, Cond.code yX11_keep cX11_keep 2 (some .int), Cond.methodLink RX11 219 yX8_copyFrom, Cond.instanceMethod yX8_copyFrom, Cond.selects RX8 yX8_copyFrom yX8_copyFrom, Cond.code yX8_copyFrom cX8_copyFrom 2 none, Cond.methodLink RX8 19 arraycopyName, Cond.methodLink RL 83 yX12_keep, Cond.instanceMethod yX12_keep, Cond.selects RX12 yX12_keep yX12_keep, Cond.code yX12_keep cX12_keep 3 (some .int), Cond.methodLink RL 84 yX11_back, Cond.instanceMethod yX11_back, Cond.selects RX11 yX11_back yX11_back, Cond.code yX11_back cX11_back 2 (some .int), Cond.methodLink RL 87 yX12_back, Cond.instanceMethod yX12_back, Cond.selects RX12 yX12_back yX12_back]
def wsL_law_r32 : List Cond := [Cond.code yX12_back cX12_back 3 (some .int), Cond.methodLink RL 88 yX11_takes, Cond.instanceMethod yX11_takes, Cond.selects RX11 yX11_takes yX11_takes, Cond.code yX11_takes cX11_takes 4 (some .int), Cond.methodLink RX11 222 yX1_hoursAs, Cond.instanceMethod yX1_hoursAs, Cond.selects RX1 yX1_hoursAs yX1_hoursAs, Cond.code yX1_hoursAs cX1_hoursAs 6 (some .int), Cond.methodLink RX1 53 ⟨"CloudLaundry$Kind", "rubs", "(I)I"⟩, Cond.methodLink RX1 57 ⟨"CloudLaundry$Kind", "shrinks", "()I"⟩, Cond.methodLink RL 91 yX12_takes, Cond.instanceMethod yX12_takes, Cond.selects RX12 yX12_takes yX12_takes, Cond.code yX12_takes cX12_takes 3 (some .int), Cond.constantLong RX12 292 (3), Cond.methodLink RX12 294 yX12_takesBy, Cond.instanceMethod yX12_takesBy, Cond.selects RX12 yX12_takesBy yX12_takesBy, Cond.code yX12_takesBy cX12_takesBy 9 (some .int), Cond.methodLink RX12 286 yX12_areOff, Cond.instanceMethod yX12_areOff, Cond.selects RX12 yX12_areOff yX12_areOff, Cond.code yX12_areOff cX12_areOff 3 (some .boolean)]
def wsL_law_r33 : List Cond := [Cond.methodLink RX12 289 yX12_takesOne, Cond.instanceMethod yX12_takesOne, Cond.selects RX12 yX12_takesOne yX12_takesOne, Cond.code yX12_takesOne cX12_takesOne 4 (some .boolean), Cond.methodLink RL 92 yX11_later, Cond.instanceMethod yX11_later, Cond.selects RX11 yX11_later yX11_later, Cond.code yX11_later cX11_later 4 (some .int), Cond.methodLink RX11 226 yX2_readAt, Cond.instanceMethod yX2_readAt, Cond.selects RX2 yX2_readAt yX2_readAt, Cond.code yX2_readAt cX2_readAt 4 (some .int), Cond.methodLink RL 95 yX12_later, Cond.instanceMethod yX12_later, Cond.selects RX12 yX12_later yX12_later, Cond.code yX12_later cX12_later 4 (some .int), Cond.methodLink RX12 298 yX12_copyRow, Cond.instanceMethod yX12_copyRow, Cond.selects RX12 yX12_copyRow yX12_copyRow, Cond.code yX12_copyRow cX12_copyRow 4 none, Cond.methodLink RX12 302 yX12_readAt, Cond.instanceMethod yX12_readAt, Cond.selects RX12 yX12_readAt yX12_readAt, Cond.code yX12_readAt cX12_readAt 4 (some .int)]
def wsL_law_r34 : List Cond := [Cond.methodLink RL 96 yX11_stands, Cond.instanceMethod yX11_stands, Cond.selects RX11 yX11_stands yX11_stands, Cond.code yX11_stands cX11_stands 6 (some .int), Cond.methodLink RX11 229 yX11_readAhead, Cond.instanceMethod yX11_readAhead, Cond.selects RX11 yX11_readAhead yX11_readAhead, Cond.code yX11_readAhead cX11_readAhead 4 none, Cond.methodLink RX11 233 yJ6_bitCount_0f7a4, Cond.static yJ6_bitCount_0f7a4, Cond.initialized RJ6, Cond.code yJ6_bitCount_0f7a4 cJ6_bitCount_0f7a4 1 (some .int), Cond.constant RJ6 265 (1431655765), Cond.constant RJ6 266 (858993459), Cond.constant RJ6 267 (252645135), Cond.methodLink RX11 238 yX11_readFrom, Cond.instanceMethod yX11_readFrom, Cond.selects RX11 yX11_readFrom yX11_readFrom, Cond.code yX11_readFrom cX11_readFrom 4 (some .int), Cond.methodLink RL 99 yX12_stands, Cond.instanceMethod yX12_stands, Cond.selects RX12 yX12_stands yX12_stands, Cond.code yX12_stands cX12_stands 6 (some .int), Cond.constantLong RX12 308 (63)]
def wsL_law_r35 : List Cond := [Cond.methodLink RX12 310 yX12_bits, Cond.static yX12_bits, Cond.code yX12_bits cX12_bits 3 (some .int), Cond.methodLink RX12 313 yX12_readBy, Cond.instanceMethod yX12_readBy, Cond.selects RX12 yX12_readBy yX12_readBy, Cond.code yX12_readBy cX12_readBy 4 (some .int), Cond.methodLink RX12 305 yX12_isBit, Cond.static yX12_isBit, Cond.code yX12_isBit cX12_isBit 2 (some .boolean), Cond.methodLink RL 100 yX11_plan, Cond.instanceMethod yX11_plan, Cond.selects RX11 yX11_plan yX11_plan, Cond.code yX11_plan cX11_plan 2 (some .int), Cond.methodLink RX11 241 yX6_make, Cond.instanceMethod yX6_make, Cond.selects RX6 yX6_make yX6_make, Cond.code yX6_make cX6_make 3 none, Cond.fieldLink RX6 33 "CloudLaundry$Plan" "most" "I", Cond.methodLink RX6 37 yJ7_fill_53178, Cond.methodLink RX6 43 yX6_sortByDue, Cond.instanceMethod yX6_sortByDue, Cond.selects RX6 yX6_sortByDue yX6_sortByDue, Cond.code yX6_sortByDue cX6_sortByDue 3 none]
def wsL_law_r36 : List Cond := [Cond.methodLink RX6 75 yX6_dueOf, Cond.instanceMethod yX6_dueOf, Cond.selects RX6 yX6_dueOf yX6_dueOf, Cond.code yX6_dueOf cX6_dueOf 3 (some .int), Cond.methodLink RX6 79 yX2_cloudAt, Cond.methodLink RX6 67 yX1_hoursAs, Cond.methodLink RX6 71 yX6_share, Cond.instanceMethod yX6_share, Cond.selects RX6 yX6_share yX6_share, Cond.code yX6_share cX6_share 5 none, Cond.methodLink RX6 86 arraycopyName, Cond.methodLink RX6 95 yX6_isInTime, Cond.instanceMethod yX6_isInTime, Cond.selects RX6 yX6_isInTime yX6_isInTime, Cond.code yX6_isInTime cX6_isInTime 6 (some .boolean), Cond.methodLink RX6 102 yX6_isHers, Cond.instanceMethod yX6_isHers, Cond.selects RX6 yX6_isHers yX6_isHers, Cond.code yX6_isHers cX6_isHers 3 (some .boolean), Cond.methodLink RX6 106 yX6_hoursOf, Cond.instanceMethod yX6_hoursOf, Cond.selects RX6 yX6_hoursOf yX6_hoursOf, Cond.code yX6_hoursOf cX6_hoursOf 3 (some .int), Cond.methodLink RX11 247 yX6_washerFor]
def wsL_law_r37 : List Cond := [Cond.instanceMethod yX6_washerFor, Cond.selects RX6 yX6_washerFor yX6_washerFor, Cond.code yX6_washerFor cX6_washerFor 2 (some .int), Cond.methodLink RL 103 yX12_plan, Cond.instanceMethod yX12_plan, Cond.selects RX12 yX12_plan yX12_plan, Cond.code yX12_plan cX12_plan 4 (some .int), Cond.methodLink RX12 329 yX12_bestWay, Cond.instanceMethod yX12_bestWay, Cond.selects RX12 yX12_bestWay yX12_bestWay, Cond.code yX12_bestWay cX12_bestWay 6 (some .int), Cond.methodLink RX12 316 yX12_base, Cond.instanceMethod yX12_base, Cond.selects RX12 yX12_base yX12_base, Cond.code yX12_base cX12_base 1 (some .int), Cond.methodLink RX12 326 yX12_washedBy, Cond.instanceMethod yX12_washedBy, Cond.selects RX12 yX12_washedBy yX12_washedBy, Cond.code yX12_washedBy cX12_washedBy 5 (some .int), Cond.methodLink RX12 320 yX12_whoOf, Cond.instanceMethod yX12_whoOf, Cond.selects RX12 yX12_whoOf yX12_whoOf, Cond.code yX12_whoOf cX12_whoOf 5 (some .int), Cond.methodLink RX12 323 yX12_isInTime]
def wsL_law_r38 : List Cond := [Cond.instanceMethod yX12_isInTime, Cond.selects RX12 yX12_isInTime yX12_isInTime, Cond.code yX12_isInTime cX12_isInTime 9 (some .boolean), Cond.methodLink RL 104 yX11_needed, Cond.instanceMethod yX11_needed, Cond.selects RX11 yX11_needed yX11_needed, Cond.code yX11_needed cX11_needed 4 (some .int), Cond.methodLink RL 107 yX12_needed, Cond.instanceMethod yX12_needed, Cond.selects RX12 yX12_needed yX12_needed, Cond.code yX12_needed cX12_needed 4 (some .int), Cond.methodLink RL 108 yX11_seen, Cond.instanceMethod yX11_seen, Cond.selects RX11 yX11_seen yX11_seen, Cond.code yX11_seen cX11_seen 4 (some .int), Cond.methodLink RL 112 yX12_seen, Cond.instanceMethod yX12_seen, Cond.selects RX12 yX12_seen yX12_seen, Cond.code yX12_seen cX12_seen 4 (some .int), Cond.constantLong RX12 332 (60), Cond.methodLink RL 113 yX11_forget, Cond.instanceMethod yX11_forget, Cond.selects RX11 yX11_forget yX11_forget, Cond.code yX11_forget cX11_forget 2 (some .int)]
def wsL_law_r39 : List Cond := [Cond.methodLink RL 116 yX12_forget, Cond.instanceMethod yX12_forget, Cond.selects RX12 yX12_forget yX12_forget, Cond.code yX12_forget cX12_forget 2 (some .int), Cond.methodLink RL 117 yX11_kinds, Cond.instanceMethod yX11_kinds, Cond.selects RX11 yX11_kinds yX11_kinds, Cond.code yX11_kinds cX11_kinds 5 (some .int), Cond.methodLink RX11 257 yX11_agreesWithSeen, Cond.instanceMethod yX11_agreesWithSeen, Cond.selects RX11 yX11_agreesWithSeen yX11_agreesWithSeen, Cond.code yX11_agreesWithSeen cX11_agreesWithSeen 6 (some .boolean), Cond.methodLink RL 120 yX12_kinds, Cond.instanceMethod yX12_kinds, Cond.selects RX12 yX12_kinds yX12_kinds, Cond.code yX12_kinds cX12_kinds 7 (some .int), Cond.methodLink RL 121 yX11_lightning, Cond.instanceMethod yX11_lightning, Cond.selects RX11 yX11_lightning yX11_lightning, Cond.code yX11_lightning cX11_lightning 12 (some .int), Cond.methodLink RX11 261 yX11_choices, Cond.static yX11_choices, Cond.code yX11_choices cX11_choices 5 (some .long), Cond.methodLink RX11 265 yX11_power]
def wsL_law_r40 : List Cond := [Cond.static yX11_power, Cond.code yX11_power cX11_power 5 (some .long), Cond.methodLink RX11 268 yX11_commonDivisor, Cond.static yX11_commonDivisor, Cond.code yX11_commonDivisor cX11_commonDivisor 11 (some .long), Cond.methodLink RL 125 yX12_lightning, Cond.instanceMethod yX12_lightning, Cond.selects RX12 yX12_lightning yX12_lightning, Cond.code yX12_lightning cX12_lightning 11 (some .int), Cond.constantLong RX12 334 (8), Cond.constantLong RX12 336 (10), Cond.constantLong RX12 338 (9), Cond.methodLink RX12 340 yX12_over, Cond.static yX12_over, Cond.code yX12_over cX12_over 5 (some .long), Cond.methodLink RX12 344 yX12_power, Cond.static yX12_power, Cond.code yX12_power cX12_power 6 (some .long), Cond.methodLink RX12 348 yX12_common, Cond.static yX12_common, Cond.code yX12_common cX12_common 10 (some .long), Cond.methodLink RL 126 yX11_line, Cond.instanceMethod yX11_line, Cond.selects RX11 yX11_line yX11_line]
def wsL_law_r41 : List Cond := [Cond.code yX11_line cX11_line 5 (some .int), Cond.methodLink RX11 272 yX11_lineAt, Cond.instanceMethod yX11_lineAt, Cond.selects RX11 yX11_lineAt yX11_lineAt, Cond.code yX11_lineAt cX11_lineAt 2 (some (.object "CloudLaundry$Line")), Cond.methodLink RX11 276 yX5_stretch, Cond.instanceMethod yX5_stretch, Cond.selects RX5 yX5_stretch yX5_stretch, Cond.code yX5_stretch cX5_stretch 3 none, Cond.fieldLink RX5 18 "CloudLaundry$Line" "there" "Z", Cond.fieldLink RX5 22 "CloudLaundry$Line" "sort" "I", Cond.fieldLink RX5 26 "CloudLaundry$Line" "pegs" "I", Cond.methodLink RX5 29 yJ7_fill_53178, Cond.methodLink RL 129 yX12_line, Cond.instanceMethod yX12_line, Cond.selects RX12 yX12_line yX12_line, Cond.code yX12_line cX12_line 5 (some .int), Cond.constantLong RX12 352 (2), Cond.methodLink RX12 354 yX12_isRow, Cond.static yX12_isRow, Cond.code yX12_isRow cX12_isRow 1 (some .boolean), Cond.methodLink RL 130 yX11_pin, Cond.instanceMethod yX11_pin, Cond.selects RX11 yX11_pin yX11_pin]
def wsL_law_r42 : List Cond := [Cond.code yX11_pin cX11_pin 7 (some .int), Cond.methodLink RX11 280 yX5_hasPegs, Cond.instanceMethod yX5_hasPegs, Cond.selects RX5 yX5_hasPegs yX5_hasPegs, Cond.code yX5_hasPegs cX5_hasPegs 3 (some .boolean), Cond.methodLink RX5 35 Lib.Math.min.name, Cond.static Lib.Math.min.name, Cond.code Lib.Math.min.name Lib.Math.min.code 2 (some .int), Cond.methodLink RX11 284 yX5_mayHold, Cond.instanceMethod yX5_mayHold, Cond.selects RX5 yX5_mayHold yX5_mayHold, Cond.code yX5_mayHold cX5_mayHold 2 (some .boolean), Cond.methodLink RX11 287 yX5_put, Cond.instanceMethod yX5_put, Cond.selects RX5 yX5_put yX5_put, Cond.code yX5_put cX5_put 4 none, Cond.methodLink RX5 41 yX5_hasPegs, Cond.methodLink RL 133 yX12_pin, Cond.instanceMethod yX12_pin, Cond.selects RX12 yX12_pin yX12_pin, Cond.code yX12_pin cX12_pin 6 (some .int), Cond.constantLong RX12 357 (-999), Cond.constantLong RX12 359 (999), Cond.methodLink RX12 361 yX12_holds]
def wsL_law_r43 : List Cond := [Cond.instanceMethod yX12_holds, Cond.selects RX12 yX12_holds yX12_holds, Cond.code yX12_holds cX12_holds 3 (some .boolean), Cond.methodLink RL 134 yX11_peg, Cond.instanceMethod yX11_peg, Cond.selects RX11 yX11_peg yX11_peg, Cond.code yX11_peg cX11_peg 6 (some .int), Cond.methodLink RL 137 yX12_peg, Cond.instanceMethod yX12_peg, Cond.selects RX12 yX12_peg yX12_peg, Cond.code yX12_peg cX12_peg 6 (some .int), Cond.methodLink RL 138 yX11_move, Cond.instanceMethod yX11_move, Cond.selects RX11 yX11_move yX11_move, Cond.code yX11_move cX11_move 9 (some .int), Cond.methodLink RX11 297 yX5_take, Cond.instanceMethod yX5_take, Cond.selects RX5 yX5_take yX5_take, Cond.code yX5_take cX5_take 4 none, Cond.methodLink RX5 45 arraycopyName, Cond.methodLink RL 142 yX12_move, Cond.instanceMethod yX12_move, Cond.selects RX12 yX12_move yX12_move, Cond.code yX12_move cX12_move 7 (some .int)]
def wsL_law_r44 : List Cond := [Cond.methodLink RL 143 yX11_drop, Cond.instanceMethod yX11_drop, Cond.selects RX11 yX11_drop yX11_drop, Cond.code yX11_drop cX11_drop 3 (some .int), Cond.methodLink RX11 301 yX5_heldPegs, Cond.instanceMethod yX5_heldPegs, Cond.selects RX5 yX5_heldPegs yX5_heldPegs, Cond.code yX5_heldPegs cX5_heldPegs 3 (some .int), Cond.methodLink RL 146 yX12_drop, Cond.instanceMethod yX12_drop, Cond.selects RX12 yX12_drop yX12_drop, Cond.code yX12_drop cX12_drop 4 (some .int), Cond.methodLink RL 147 yX11_sum, Cond.instanceMethod yX11_sum, Cond.selects RX11 yX11_sum yX11_sum, Cond.code yX11_sum cX11_sum 6 (some .int), Cond.constant RX11 307 (100000), Cond.methodLink RL 150 yX12_sum, Cond.instanceMethod yX12_sum, Cond.selects RX12 yX12_sum yX12_sum, Cond.code yX12_sum cX12_sum 5 (some .int), Cond.constant RX12 364 (100000), Cond.methodLink RL 151 yX11_count, Cond.instanceMethod yX11_count]
def wsL_law_r45 : List Cond := [Cond.selects RX11 yX11_count yX11_count, Cond.code yX11_count cX11_count 2 (some .int), Cond.methodLink RX11 311 yX2_cloudsThatAre, Cond.instanceMethod yX2_cloudsThatAre, Cond.selects RX2 yX2_cloudsThatAre yX2_cloudsThatAre, Cond.code yX2_cloudsThatAre cX2_cloudsThatAre 4 (some .int), Cond.methodLink RX11 314 yX11_linesThere, Cond.instanceMethod yX11_linesThere, Cond.selects RX11 yX11_linesThere yX11_linesThere, Cond.code yX11_linesThere cX11_linesThere 3 (some .int), Cond.methodLink RX11 320 yX2_allWater, Cond.instanceMethod yX2_allWater, Cond.selects RX2 yX2_allWater yX2_allWater, Cond.code yX2_allWater cX2_allWater 4 (some .int), Cond.methodLink RL 154 yX12_count, Cond.instanceMethod yX12_count, Cond.selects RX12 yX12_count yX12_count, Cond.code yX12_count cX12_count 2 (some .int), Cond.methodLink RX12 365 yX12_cloudsAt, Cond.instanceMethod yX12_cloudsAt, Cond.selects RX12 yX12_cloudsAt yX12_cloudsAt, Cond.code yX12_cloudsAt cX12_cloudsAt 4 (some .int), Cond.methodLink RX12 368 yX12_linesThere, Cond.instanceMethod yX12_linesThere]
def wsL_law_r46 : List Cond := [Cond.selects RX12 yX12_linesThere yX12_linesThere, Cond.code yX12_linesThere cX12_linesThere 3 (some .int), Cond.methodLink RX12 371 yX12_allWater, Cond.instanceMethod yX12_allWater, Cond.selects RX12 yX12_allWater yX12_allWater, Cond.code yX12_allWater cX12_allWater 3 (some .int)]
def wsL_law : List Cond := (wsL_law_r1 ++ (wsL_law_r2 ++ (wsL_law_r3 ++ (wsL_law_r4 ++ (wsL_law_r5 ++ (wsL_law_r6 ++ (wsL_law_r7 ++ (wsL_law_r8 ++ (wsL_law_r9 ++ (wsL_law_r10 ++ (wsL_law_r11 ++ (wsL_law_r12 ++ (wsL_law_r13 ++ (wsL_law_r14 ++ (wsL_law_r15 ++ (wsL_law_r16 ++ (wsL_law_r17 ++ (wsL_law_r18 ++ (wsL_law_r19 ++ (wsL_law_r20 ++ (wsL_law_r21 ++ (wsL_law_r22 ++ (wsL_law_r23 ++ (wsL_law_r24 ++ (wsL_law_r25 ++ (wsL_law_r26 ++ (wsL_law_r27 ++ (wsL_law_r28 ++ (wsL_law_r29 ++ (wsL_law_r30 ++ (wsL_law_r31 ++ (wsL_law_r32 ++ (wsL_law_r33 ++ (wsL_law_r34 ++ (wsL_law_r35 ++ (wsL_law_r36 ++ (wsL_law_r37 ++ (wsL_law_r38 ++ (wsL_law_r39 ++ (wsL_law_r40 ++ (wsL_law_r41 ++ (wsL_law_r42 ++ (wsL_law_r43 ++ (wsL_law_r44 ++ (wsL_law_r45 ++ wsL_law_r46))))))))))))))))))))))))))))))))))))))))))))) ++ wsX110 ++ wsX120 ++ wsX100 ++ wsX90 ++ wsX30 ++ wsX00 ++ wsX80 ++ wsX20 ++ wsX70 ++ wsX60 ++ wsX50 ++ wsX10 ++ ([] : List Cond)
theorem inlX0 : ∀ w ∈ wsX00, w ∈ wsL_law := fun _ h => List.mem_append_left _ (List.mem_append_left _ (List.mem_append_left _ (List.mem_append_left _ (List.mem_append_left _ (List.mem_append_left _ (List.mem_append_left _ (List.mem_append_right _ h)))))))
theorem inlX1 : ∀ w ∈ wsX10, w ∈ wsL_law := fun _ h => List.mem_append_left _ (List.mem_append_right _ h)
theorem inlX2 : ∀ w ∈ wsX20, w ∈ wsL_law := fun _ h => List.mem_append_left _ (List.mem_append_left _ (List.mem_append_left _ (List.mem_append_left _ (List.mem_append_left _ (List.mem_append_right _ h)))))
theorem inlX3 : ∀ w ∈ wsX30, w ∈ wsL_law := fun _ h => List.mem_append_left _ (List.mem_append_left _ (List.mem_append_left _ (List.mem_append_left _ (List.mem_append_left _ (List.mem_append_left _ (List.mem_append_left _ (List.mem_append_left _ (List.mem_append_right _ h))))))))
theorem inlX5 : ∀ w ∈ wsX50, w ∈ wsL_law := fun _ h => List.mem_append_left _ (List.mem_append_left _ (List.mem_append_right _ h))
theorem inlX6 : ∀ w ∈ wsX60, w ∈ wsL_law := fun _ h => List.mem_append_left _ (List.mem_append_left _ (List.mem_append_left _ (List.mem_append_right _ h)))
theorem inlX7 : ∀ w ∈ wsX70, w ∈ wsL_law := fun _ h => List.mem_append_left _ (List.mem_append_left _ (List.mem_append_left _ (List.mem_append_left _ (List.mem_append_right _ h))))
theorem inlX8 : ∀ w ∈ wsX80, w ∈ wsL_law := fun _ h => List.mem_append_left _ (List.mem_append_left _ (List.mem_append_left _ (List.mem_append_left _ (List.mem_append_left _ (List.mem_append_left _ (List.mem_append_right _ h))))))
theorem inlX9 : ∀ w ∈ wsX90, w ∈ wsL_law := fun _ h => List.mem_append_left _ (List.mem_append_left _ (List.mem_append_left _ (List.mem_append_left _ (List.mem_append_left _ (List.mem_append_left _ (List.mem_append_left _ (List.mem_append_left _ (List.mem_append_left _ (List.mem_append_right _ h)))))))))
theorem inlX10 : ∀ w ∈ wsX100, w ∈ wsL_law := fun _ h => List.mem_append_left _ (List.mem_append_left _ (List.mem_append_left _ (List.mem_append_left _ (List.mem_append_left _ (List.mem_append_left _ (List.mem_append_left _ (List.mem_append_left _ (List.mem_append_left _ (List.mem_append_left _ (List.mem_append_right _ h))))))))))
theorem inlX11 : ∀ w ∈ wsX110, w ∈ wsL_law := fun _ h => List.mem_append_left _ (List.mem_append_left _ (List.mem_append_left _ (List.mem_append_left _ (List.mem_append_left _ (List.mem_append_left _ (List.mem_append_left _ (List.mem_append_left _ (List.mem_append_left _ (List.mem_append_left _ (List.mem_append_left _ (List.mem_append_left _ (List.mem_append_right _ h))))))))))))
theorem inlX12 : ∀ w ∈ wsX120, w ∈ wsL_law := fun _ h => List.mem_append_left _ (List.mem_append_left _ (List.mem_append_left _ (List.mem_append_left _ (List.mem_append_left _ (List.mem_append_left _ (List.mem_append_left _ (List.mem_append_left _ (List.mem_append_left _ (List.mem_append_left _ (List.mem_append_left _ (List.mem_append_right _ h)))))))))))
abbrev vwCl : List vw_C := [(RX0, TX0, 0), (RX1, TX1, 6), (RX2, TX2, 9), (RX3, TX3, 0), (RX5, TX5, 5), (RX6, TX6, 7), (RX7, TX7, 6), (RX8, TX8, 2), (RX9, TX9, 0), (RX10, TX10, 0), (RX11, TX11, 20), (RX12, TX12, 44)]
