section
-- ===== PART A: goes FIRST, ahead of the names: the tables' words, and 'selects' of the private methods out of them =====
/-- a private method of a class that the tables say can be made, by its rows of tables_1 -/
def lw_okq (q : MethodName × Nat) : Prop := (q.1.cls ≠ "java/lang/invoke/MethodHandle" ∧ q.1.cls ≠ "java/lang/invoke/VarHandle") ∧ Cond.instantiable q.1.cls q.2 ∈ tables_1 ∧ Cond.privateMethod q.1 ∈ tables_1 ∧ Cond.instanceMethod q.1 ∈ tables_1
theorem lw_p0 : lw_okq (⟨"IceFair$CustomsReader", "takeToken", "()V"⟩, 9) := ⟨⟨by decide +kernel, by decide +kernel⟩, List.mem_of_getElem? (i := 49) (by decide +kernel), List.mem_of_getElem? (i := 344) (by decide +kernel), List.mem_of_getElem? (i := 345) (by decide +kernel)⟩
theorem lw_p1 : lw_okq (⟨"IceFair$CustomsReader", "signAt", "(I)I"⟩, 9) := ⟨⟨by decide +kernel, by decide +kernel⟩, List.mem_of_getElem? (i := 49) (by decide +kernel), List.mem_of_getElem? (i := 348) (by decide +kernel), List.mem_of_getElem? (i := 349) (by decide +kernel)⟩
theorem lw_p2 : lw_okq (⟨"IceFair$CustomsReader", "takeWord", "()V"⟩, 9) := ⟨⟨by decide +kernel, by decide +kernel⟩, List.mem_of_getElem? (i := 49) (by decide +kernel), List.mem_of_getElem? (i := 358) (by decide +kernel), List.mem_of_getElem? (i := 359) (by decide +kernel)⟩
theorem lw_p3 : lw_okq (⟨"IceFair$CustomsReader", "takeNumber", "()V"⟩, 9) := ⟨⟨by decide +kernel, by decide +kernel⟩, List.mem_of_getElem? (i := 49) (by decide +kernel), List.mem_of_getElem? (i := 365) (by decide +kernel), List.mem_of_getElem? (i := 366) (by decide +kernel)⟩
theorem lw_p4 : lw_okq (⟨"IceFair$CustomsReader", "readLine", "(LIceFair$Customs;)Z"⟩, 9) := ⟨⟨by decide +kernel, by decide +kernel⟩, List.mem_of_getElem? (i := 49) (by decide +kernel), List.mem_of_getElem? (i := 372) (by decide +kernel), List.mem_of_getElem? (i := 373) (by decide +kernel)⟩
theorem lw_p5 : lw_okq (⟨"IceFair$CustomsReader", "kindOfWord", "()LIceFair$LineKind;"⟩, 9) := ⟨⟨by decide +kernel, by decide +kernel⟩, List.mem_of_getElem? (i := 49) (by decide +kernel), List.mem_of_getElem? (i := 376) (by decide +kernel), List.mem_of_getElem? (i := 377) (by decide +kernel)⟩
theorem lw_p6 : lw_okq (⟨"IceFair$CustomsReader", "isWord", "(Ljava/lang/String;)Z"⟩, 9) := ⟨⟨by decide +kernel, by decide +kernel⟩, List.mem_of_getElem? (i := 49) (by decide +kernel), List.mem_of_getElem? (i := 382) (by decide +kernel), List.mem_of_getElem? (i := 383) (by decide +kernel)⟩
theorem lw_p7 : lw_okq (⟨"IceFair$CustomsReader", "refuse", "(II)Z"⟩, 9) := ⟨⟨by decide +kernel, by decide +kernel⟩, List.mem_of_getElem? (i := 49) (by decide +kernel), List.mem_of_getElem? (i := 434) (by decide +kernel), List.mem_of_getElem? (i := 435) (by decide +kernel)⟩
theorem lw_p8 : lw_okq (⟨"IceFair$CustomsReader", "readNumbers", "(LIceFair$LineKind;LIceFair$Customs;)Z"⟩, 9) := ⟨⟨by decide +kernel, by decide +kernel⟩, List.mem_of_getElem? (i := 49) (by decide +kernel), List.mem_of_getElem? (i := 444) (by decide +kernel), List.mem_of_getElem? (i := 445) (by decide +kernel)⟩
theorem lw_p9 : lw_okq (⟨"IceFair$Customs", "addStair", "([I)V"⟩, 6) := ⟨⟨by decide +kernel, by decide +kernel⟩, List.mem_of_getElem? (i := 85) (by decide +kernel), List.mem_of_getElem? (i := 462) (by decide +kernel), List.mem_of_getElem? (i := 463) (by decide +kernel)⟩
theorem lw_p10 : lw_okq (⟨"IceFair$Fair", "hasFireNearerThan", "(III)Z"⟩, 6) := ⟨⟨by decide +kernel, by decide +kernel⟩, List.mem_of_getElem? (i := 125) (by decide +kernel), List.mem_of_getElem? (i := 556) (by decide +kernel), List.mem_of_getElem? (i := 557) (by decide +kernel)⟩
theorem lw_p11 : lw_okq (⟨"IceFair$Fair", "meltAt", "(II)I"⟩, 6) := ⟨⟨by decide +kernel, by decide +kernel⟩, List.mem_of_getElem? (i := 125) (by decide +kernel), List.mem_of_getElem? (i := 619) (by decide +kernel), List.mem_of_getElem? (i := 620) (by decide +kernel)⟩
theorem lw_p12 : lw_okq (⟨"IceFair$Fair", "fireAt", "(II)I"⟩, 6) := ⟨⟨by decide +kernel, by decide +kernel⟩, List.mem_of_getElem? (i := 125) (by decide +kernel), List.mem_of_getElem? (i := 623) (by decide +kernel), List.mem_of_getElem? (i := 624) (by decide +kernel)⟩
theorem lw_p13 : lw_okq (⟨"IceFair$Fair", "breakMarked", "()I"⟩, 6) := ⟨⟨by decide +kernel, by decide +kernel⟩, List.mem_of_getElem? (i := 125) (by decide +kernel), List.mem_of_getElem? (i := 654) (by decide +kernel), List.mem_of_getElem? (i := 655) (by decide +kernel)⟩
theorem lw_p14 : lw_okq (⟨"IceFair$Fair", "sinkAt", "(II)I"⟩, 6) := ⟨⟨by decide +kernel, by decide +kernel⟩, List.mem_of_getElem? (i := 125) (by decide +kernel), List.mem_of_getElem? (i := 662) (by decide +kernel), List.mem_of_getElem? (i := 663) (by decide +kernel)⟩
theorem lw_p15 : lw_okq (⟨"IceFair$Laying", "gatherWaiting", "(LIceFair$Fair;)V"⟩, 9) := ⟨⟨by decide +kernel, by decide +kernel⟩, List.mem_of_getElem? (i := 248) (by decide +kernel), List.mem_of_getElem? (i := 675) (by decide +kernel), List.mem_of_getElem? (i := 676) (by decide +kernel)⟩
def lw_privs_1 : List (MethodName × Nat) := [(⟨"IceFair$CustomsReader", "takeToken", "()V"⟩, 9), (⟨"IceFair$CustomsReader", "signAt", "(I)I"⟩, 9), (⟨"IceFair$CustomsReader", "takeWord", "()V"⟩, 9), (⟨"IceFair$CustomsReader", "takeNumber", "()V"⟩, 9), (⟨"IceFair$CustomsReader", "readLine", "(LIceFair$Customs;)Z"⟩, 9), (⟨"IceFair$CustomsReader", "kindOfWord", "()LIceFair$LineKind;"⟩, 9), (⟨"IceFair$CustomsReader", "isWord", "(Ljava/lang/String;)Z"⟩, 9), (⟨"IceFair$CustomsReader", "refuse", "(II)Z"⟩, 9), (⟨"IceFair$CustomsReader", "readNumbers", "(LIceFair$LineKind;LIceFair$Customs;)Z"⟩, 9), (⟨"IceFair$Customs", "addStair", "([I)V"⟩, 6), (⟨"IceFair$Fair", "hasFireNearerThan", "(III)Z"⟩, 6), (⟨"IceFair$Fair", "meltAt", "(II)I"⟩, 6), (⟨"IceFair$Fair", "fireAt", "(II)I"⟩, 6), (⟨"IceFair$Fair", "breakMarked", "()I"⟩, 6), (⟨"IceFair$Fair", "sinkAt", "(II)I"⟩, 6), (⟨"IceFair$Laying", "gatherWaiting", "(LIceFair$Fair;)V"⟩, 9)]
theorem lw_r1 : ∀ q ∈ lw_privs_1, lw_okq q := List.forall_mem_cons.mpr ⟨lw_p0, List.forall_mem_cons.mpr ⟨lw_p1, List.forall_mem_cons.mpr ⟨lw_p2, List.forall_mem_cons.mpr ⟨lw_p3, List.forall_mem_cons.mpr ⟨lw_p4, List.forall_mem_cons.mpr ⟨lw_p5, List.forall_mem_cons.mpr ⟨lw_p6, List.forall_mem_cons.mpr ⟨lw_p7, List.forall_mem_cons.mpr ⟨lw_p8, List.forall_mem_cons.mpr ⟨lw_p9, List.forall_mem_cons.mpr ⟨lw_p10, List.forall_mem_cons.mpr ⟨lw_p11, List.forall_mem_cons.mpr ⟨lw_p12, List.forall_mem_cons.mpr ⟨lw_p13, List.forall_mem_cons.mpr ⟨lw_p14, List.forall_mem_cons.mpr ⟨lw_p15, fun _ h => absurd h List.not_mem_nil⟩⟩⟩⟩⟩⟩⟩⟩⟩⟩⟩⟩⟩⟩⟩⟩
theorem lw_p16 : lw_okq (⟨"IceFair$Laying", "gatherOpen", "(LIceFair$Fair;)V"⟩, 9) := ⟨⟨by decide +kernel, by decide +kernel⟩, List.mem_of_getElem? (i := 248) (by decide +kernel), List.mem_of_getElem? (i := 679) (by decide +kernel), List.mem_of_getElem? (i := 680) (by decide +kernel)⟩
theorem lw_p17 : lw_okq (⟨"IceFair$Laying", "findRow", "(LIceFair$Fair;)Z"⟩, 9) := ⟨⟨by decide +kernel, by decide +kernel⟩, List.mem_of_getElem? (i := 248) (by decide +kernel), List.mem_of_getElem? (i := 688) (by decide +kernel), List.mem_of_getElem? (i := 689) (by decide +kernel)⟩
theorem lw_p18 : lw_okq (⟨"IceFair$Laying", "setNext", "(LIceFair$Fair;I)Z"⟩, 9) := ⟨⟨by decide +kernel, by decide +kernel⟩, List.mem_of_getElem? (i := 248) (by decide +kernel), List.mem_of_getElem? (i := 693) (by decide +kernel), List.mem_of_getElem? (i := 694) (by decide +kernel)⟩
theorem lw_p19 : lw_okq (⟨"IceFair$Laying", "takeBack", "(LIceFair$Fair;I)V"⟩, 9) := ⟨⟨by decide +kernel, by decide +kernel⟩, List.mem_of_getElem? (i := 248) (by decide +kernel), List.mem_of_getElem? (i := 701) (by decide +kernel), List.mem_of_getElem? (i := 702) (by decide +kernel)⟩
theorem lw_p20 : lw_okq (⟨"IceFair$Laying", "takeBackAll", "(LIceFair$Fair;)V"⟩, 9) := ⟨⟨by decide +kernel, by decide +kernel⟩, List.mem_of_getElem? (i := 248) (by decide +kernel), List.mem_of_getElem? (i := 706) (by decide +kernel), List.mem_of_getElem? (i := 707) (by decide +kernel)⟩
theorem lw_p21 : lw_okq (⟨"IceFair$Laying", "takeFees", "(LIceFair$Fair;)V"⟩, 9) := ⟨⟨by decide +kernel, by decide +kernel⟩, List.mem_of_getElem? (i := 248) (by decide +kernel), List.mem_of_getElem? (i := 710) (by decide +kernel), List.mem_of_getElem? (i := 711) (by decide +kernel)⟩
theorem lw_p22 : lw_okq (⟨"IceFair$WayOff", "measure", "(LIceFair$Fair;)V"⟩, 6) := ⟨⟨by decide +kernel, by decide +kernel⟩, List.mem_of_getElem? (i := 283) (by decide +kernel), List.mem_of_getElem? (i := 723) (by decide +kernel), List.mem_of_getElem? (i := 724) (by decide +kernel)⟩
theorem lw_p23 : lw_okq (⟨"IceFair$WayOff", "spreadFrom", "(LIceFair$Fair;I)V"⟩, 6) := ⟨⟨by decide +kernel, by decide +kernel⟩, List.mem_of_getElem? (i := 283) (by decide +kernel), List.mem_of_getElem? (i := 727) (by decide +kernel), List.mem_of_getElem? (i := 728) (by decide +kernel)⟩
theorem lw_p24 : lw_okq (⟨"IceFair$WayOff", "reach", "(LIceFair$River;III)V"⟩, 6) := ⟨⟨by decide +kernel, by decide +kernel⟩, List.mem_of_getElem? (i := 283) (by decide +kernel), List.mem_of_getElem? (i := 731) (by decide +kernel), List.mem_of_getElem? (i := 732) (by decide +kernel)⟩
theorem lw_p25 : lw_okq (⟨"IceFair$WayOff", "stepsFrom", "(LIceFair$River;II)I"⟩, 6) := ⟨⟨by decide +kernel, by decide +kernel⟩, List.mem_of_getElem? (i := 283) (by decide +kernel), List.mem_of_getElem? (i := 737) (by decide +kernel), List.mem_of_getElem? (i := 738) (by decide +kernel)⟩
theorem lw_p26 : lw_okq (⟨"IceFair$WayOff", "stepsAt", "(LIceFair$River;II)I"⟩, 6) := ⟨⟨by decide +kernel, by decide +kernel⟩, List.mem_of_getElem? (i := 283) (by decide +kernel), List.mem_of_getElem? (i := 741) (by decide +kernel), List.mem_of_getElem? (i := 742) (by decide +kernel)⟩
theorem lw_p27 : lw_okq (⟨"IceFair$WayOff", "hasSomebodyStuck", "(LIceFair$Fair;)Z"⟩, 6) := ⟨⟨by decide +kernel, by decide +kernel⟩, List.mem_of_getElem? (i := 283) (by decide +kernel), List.mem_of_getElem? (i := 750) (by decide +kernel), List.mem_of_getElem? (i := 751) (by decide +kernel)⟩
theorem lw_p28 : lw_okq (⟨"IceFair$WayOff", "reachesSomeStair", "(LIceFair$Fair;I)Z"⟩, 6) := ⟨⟨by decide +kernel, by decide +kernel⟩, List.mem_of_getElem? (i := 283) (by decide +kernel), List.mem_of_getElem? (i := 754) (by decide +kernel), List.mem_of_getElem? (i := 755) (by decide +kernel)⟩
theorem lw_p29 : lw_okq (⟨"IceFair$WayOff", "noteFirstSteps", "(LIceFair$Fair;I)V"⟩, 6) := ⟨⟨by decide +kernel, by decide +kernel⟩, List.mem_of_getElem? (i := 283) (by decide +kernel), List.mem_of_getElem? (i := 758) (by decide +kernel), List.mem_of_getElem? (i := 759) (by decide +kernel)⟩
theorem lw_p30 : lw_okq (⟨"IceFair$WayOff", "minutesFor", "(LIceFair$Fair;II)I"⟩, 6) := ⟨⟨by decide +kernel, by decide +kernel⟩, List.mem_of_getElem? (i := 283) (by decide +kernel), List.mem_of_getElem? (i := 765) (by decide +kernel), List.mem_of_getElem? (i := 766) (by decide +kernel)⟩
theorem lw_p31 : lw_okq (⟨"IceFair$WayOff", "menLetOff", "(LIceFair$Fair;I)I"⟩, 6) := ⟨⟨by decide +kernel, by decide +kernel⟩, List.mem_of_getElem? (i := 283) (by decide +kernel), List.mem_of_getElem? (i := 769) (by decide +kernel), List.mem_of_getElem? (i := 770) (by decide +kernel)⟩
def lw_privs_2 : List (MethodName × Nat) := [(⟨"IceFair$Laying", "gatherOpen", "(LIceFair$Fair;)V"⟩, 9), (⟨"IceFair$Laying", "findRow", "(LIceFair$Fair;)Z"⟩, 9), (⟨"IceFair$Laying", "setNext", "(LIceFair$Fair;I)Z"⟩, 9), (⟨"IceFair$Laying", "takeBack", "(LIceFair$Fair;I)V"⟩, 9), (⟨"IceFair$Laying", "takeBackAll", "(LIceFair$Fair;)V"⟩, 9), (⟨"IceFair$Laying", "takeFees", "(LIceFair$Fair;)V"⟩, 9), (⟨"IceFair$WayOff", "measure", "(LIceFair$Fair;)V"⟩, 6), (⟨"IceFair$WayOff", "spreadFrom", "(LIceFair$Fair;I)V"⟩, 6), (⟨"IceFair$WayOff", "reach", "(LIceFair$River;III)V"⟩, 6), (⟨"IceFair$WayOff", "stepsFrom", "(LIceFair$River;II)I"⟩, 6), (⟨"IceFair$WayOff", "stepsAt", "(LIceFair$River;II)I"⟩, 6), (⟨"IceFair$WayOff", "hasSomebodyStuck", "(LIceFair$Fair;)Z"⟩, 6), (⟨"IceFair$WayOff", "reachesSomeStair", "(LIceFair$Fair;I)Z"⟩, 6), (⟨"IceFair$WayOff", "noteFirstSteps", "(LIceFair$Fair;I)V"⟩, 6), (⟨"IceFair$WayOff", "minutesFor", "(LIceFair$Fair;II)I"⟩, 6), (⟨"IceFair$WayOff", "menLetOff", "(LIceFair$Fair;I)I"⟩, 6)]
theorem lw_r2 : ∀ q ∈ lw_privs_2, lw_okq q := List.forall_mem_cons.mpr ⟨lw_p16, List.forall_mem_cons.mpr ⟨lw_p17, List.forall_mem_cons.mpr ⟨lw_p18, List.forall_mem_cons.mpr ⟨lw_p19, List.forall_mem_cons.mpr ⟨lw_p20, List.forall_mem_cons.mpr ⟨lw_p21, List.forall_mem_cons.mpr ⟨lw_p22, List.forall_mem_cons.mpr ⟨lw_p23, List.forall_mem_cons.mpr ⟨lw_p24, List.forall_mem_cons.mpr ⟨lw_p25, List.forall_mem_cons.mpr ⟨lw_p26, List.forall_mem_cons.mpr ⟨lw_p27, List.forall_mem_cons.mpr ⟨lw_p28, List.forall_mem_cons.mpr ⟨lw_p29, List.forall_mem_cons.mpr ⟨lw_p30, List.forall_mem_cons.mpr ⟨lw_p31, fun _ h => absurd h List.not_mem_nil⟩⟩⟩⟩⟩⟩⟩⟩⟩⟩⟩⟩⟩⟩⟩⟩
theorem lw_p32 : lw_okq (⟨"java/lang/Throwable", "fillInStackTrace", "(I)Ljava/lang/Throwable;"⟩, 6) := ⟨⟨by decide +kernel, by decide +kernel⟩, List.mem_of_getElem? (i := 847) (by decide +kernel), List.mem_of_getElem? (i := 845) (by decide +kernel), List.mem_of_getElem? (i := 846) (by decide +kernel)⟩
theorem lw_p33 : lw_okq (⟨"IceFairModel", "take", "()V"⟩, 37) := ⟨⟨by decide +kernel, by decide +kernel⟩, List.mem_of_getElem? (i := 910) (by decide +kernel), List.mem_of_getElem? (i := 1040) (by decide +kernel), List.mem_of_getElem? (i := 1041) (by decide +kernel)⟩
theorem lw_p34 : lw_okq (⟨"IceFairModel", "isSmall", "(I)Z"⟩, 37) := ⟨⟨by decide +kernel, by decide +kernel⟩, List.mem_of_getElem? (i := 910) (by decide +kernel), List.mem_of_getElem? (i := 1044) (by decide +kernel), List.mem_of_getElem? (i := 1045) (by decide +kernel)⟩
theorem lw_p35 : lw_okq (⟨"IceFairModel", "wordAt", "(II)I"⟩, 37) := ⟨⟨by decide +kernel, by decide +kernel⟩, List.mem_of_getElem? (i := 910) (by decide +kernel), List.mem_of_getElem? (i := 1048) (by decide +kernel), List.mem_of_getElem? (i := 1049) (by decide +kernel)⟩
theorem lw_p36 : lw_okq (⟨"IceFairModel", "isDigit", "(I)Z"⟩, 37) := ⟨⟨by decide +kernel, by decide +kernel⟩, List.mem_of_getElem? (i := 910) (by decide +kernel), List.mem_of_getElem? (i := 1052) (by decide +kernel), List.mem_of_getElem? (i := 1053) (by decide +kernel)⟩
theorem lw_p37 : lw_okq (⟨"IceFairModel", "line", "()Z"⟩, 37) := ⟨⟨by decide +kernel, by decide +kernel⟩, List.mem_of_getElem? (i := 910) (by decide +kernel), List.mem_of_getElem? (i := 1056) (by decide +kernel), List.mem_of_getElem? (i := 1057) (by decide +kernel)⟩
theorem lw_p38 : lw_okq (⟨"IceFairModel", "wrong", "(II)Z"⟩, 37) := ⟨⟨by decide +kernel, by decide +kernel⟩, List.mem_of_getElem? (i := 910) (by decide +kernel), List.mem_of_getElem? (i := 1060) (by decide +kernel), List.mem_of_getElem? (i := 1061) (by decide +kernel)⟩
theorem lw_p39 : lw_okq (⟨"IceFairModel", "stairLine", "()Z"⟩, 37) := ⟨⟨by decide +kernel, by decide +kernel⟩, List.mem_of_getElem? (i := 910) (by decide +kernel), List.mem_of_getElem? (i := 1064) (by decide +kernel), List.mem_of_getElem? (i := 1065) (by decide +kernel)⟩
theorem lw_p40 : lw_okq (⟨"IceFairModel", "number", "(II)Z"⟩, 37) := ⟨⟨by decide +kernel, by decide +kernel⟩, List.mem_of_getElem? (i := 910) (by decide +kernel), List.mem_of_getElem? (i := 1068) (by decide +kernel), List.mem_of_getElem? (i := 1069) (by decide +kernel)⟩
theorem lw_p41 : lw_okq (⟨"IceFairModel", "single", "(III)Z"⟩, 37) := ⟨⟨by decide +kernel, by decide +kernel⟩, List.mem_of_getElem? (i := 910) (by decide +kernel), List.mem_of_getElem? (i := 1072) (by decide +kernel), List.mem_of_getElem? (i := 1073) (by decide +kernel)⟩
theorem lw_p42 : lw_okq (⟨"IceFairModel", "pair", "(II)Z"⟩, 37) := ⟨⟨by decide +kernel, by decide +kernel⟩, List.mem_of_getElem? (i := 910) (by decide +kernel), List.mem_of_getElem? (i := 1076) (by decide +kernel), List.mem_of_getElem? (i := 1077) (by decide +kernel)⟩
theorem lw_p43 : lw_okq (⟨"IceFairModel", "isCell", "(II)Z"⟩, 37) := ⟨⟨by decide +kernel, by decide +kernel⟩, List.mem_of_getElem? (i := 910) (by decide +kernel), List.mem_of_getElem? (i := 1092) (by decide +kernel), List.mem_of_getElem? (i := 1093) (by decide +kernel)⟩
theorem lw_p44 : lw_okq (⟨"IceFairModel", "isBooth", "(II)Z"⟩, 37) := ⟨⟨by decide +kernel, by decide +kernel⟩, List.mem_of_getElem? (i := 910) (by decide +kernel), List.mem_of_getElem? (i := 1104) (by decide +kernel), List.mem_of_getElem? (i := 1105) (by decide +kernel)⟩
theorem lw_p45 : lw_okq (⟨"IceFairModel", "isOpen", "(I)Z"⟩, 37) := ⟨⟨by decide +kernel, by decide +kernel⟩, List.mem_of_getElem? (i := 910) (by decide +kernel), List.mem_of_getElem? (i := 1108) (by decide +kernel), List.mem_of_getElem? (i := 1109) (by decide +kernel)⟩
theorem lw_p46 : lw_okq (⟨"IceFairModel", "boothAt", "(I)I"⟩, 37) := ⟨⟨by decide +kernel, by decide +kernel⟩, List.mem_of_getElem? (i := 910) (by decide +kernel), List.mem_of_getElem? (i := 1112) (by decide +kernel), List.mem_of_getElem? (i := 1113) (by decide +kernel)⟩
theorem lw_p47 : lw_okq (⟨"IceFairModel", "may", "(II)Z"⟩, 37) := ⟨⟨by decide +kernel, by decide +kernel⟩, List.mem_of_getElem? (i := 910) (by decide +kernel), List.mem_of_getElem? (i := 1116) (by decide +kernel), List.mem_of_getElem? (i := 1117) (by decide +kernel)⟩
def lw_privs_3 : List (MethodName × Nat) := [(⟨"java/lang/Throwable", "fillInStackTrace", "(I)Ljava/lang/Throwable;"⟩, 6), (⟨"IceFairModel", "take", "()V"⟩, 37), (⟨"IceFairModel", "isSmall", "(I)Z"⟩, 37), (⟨"IceFairModel", "wordAt", "(II)I"⟩, 37), (⟨"IceFairModel", "isDigit", "(I)Z"⟩, 37), (⟨"IceFairModel", "line", "()Z"⟩, 37), (⟨"IceFairModel", "wrong", "(II)Z"⟩, 37), (⟨"IceFairModel", "stairLine", "()Z"⟩, 37), (⟨"IceFairModel", "number", "(II)Z"⟩, 37), (⟨"IceFairModel", "single", "(III)Z"⟩, 37), (⟨"IceFairModel", "pair", "(II)Z"⟩, 37), (⟨"IceFairModel", "isCell", "(II)Z"⟩, 37), (⟨"IceFairModel", "isBooth", "(II)Z"⟩, 37), (⟨"IceFairModel", "isOpen", "(I)Z"⟩, 37), (⟨"IceFairModel", "boothAt", "(I)I"⟩, 37), (⟨"IceFairModel", "may", "(II)Z"⟩, 37)]
theorem lw_r3 : ∀ q ∈ lw_privs_3, lw_okq q := List.forall_mem_cons.mpr ⟨lw_p32, List.forall_mem_cons.mpr ⟨lw_p33, List.forall_mem_cons.mpr ⟨lw_p34, List.forall_mem_cons.mpr ⟨lw_p35, List.forall_mem_cons.mpr ⟨lw_p36, List.forall_mem_cons.mpr ⟨lw_p37, List.forall_mem_cons.mpr ⟨lw_p38, List.forall_mem_cons.mpr ⟨lw_p39, List.forall_mem_cons.mpr ⟨lw_p40, List.forall_mem_cons.mpr ⟨lw_p41, List.forall_mem_cons.mpr ⟨lw_p42, List.forall_mem_cons.mpr ⟨lw_p43, List.forall_mem_cons.mpr ⟨lw_p44, List.forall_mem_cons.mpr ⟨lw_p45, List.forall_mem_cons.mpr ⟨lw_p46, List.forall_mem_cons.mpr ⟨lw_p47, fun _ h => absurd h List.not_mem_nil⟩⟩⟩⟩⟩⟩⟩⟩⟩⟩⟩⟩⟩⟩⟩⟩
theorem lw_p48 : lw_okq (⟨"IceFairModel", "strain", "(I)I"⟩, 37) := ⟨⟨by decide +kernel, by decide +kernel⟩, List.mem_of_getElem? (i := 910) (by decide +kernel), List.mem_of_getElem? (i := 1126) (by decide +kernel), List.mem_of_getElem? (i := 1127) (by decide +kernel)⟩
theorem lw_p49 : lw_okq (⟨"IceFairModel", "bears", "(I)I"⟩, 37) := ⟨⟨by decide +kernel, by decide +kernel⟩, List.mem_of_getElem? (i := 910) (by decide +kernel), List.mem_of_getElem? (i := 1130) (by decide +kernel), List.mem_of_getElem? (i := 1131) (by decide +kernel)⟩
theorem lw_p50 : lw_okq (⟨"IceFairModel", "feeOf", "(I)I"⟩, 37) := ⟨⟨by decide +kernel, by decide +kernel⟩, List.mem_of_getElem? (i := 910) (by decide +kernel), List.mem_of_getElem? (i := 1134) (by decide +kernel), List.mem_of_getElem? (i := 1135) (by decide +kernel)⟩
theorem lw_p51 : lw_okq (⟨"IceFairModel", "fires", "(I)I"⟩, 37) := ⟨⟨by decide +kernel, by decide +kernel⟩, List.mem_of_getElem? (i := 910) (by decide +kernel), List.mem_of_getElem? (i := 1146) (by decide +kernel), List.mem_of_getElem? (i := 1147) (by decide +kernel)⟩
theorem lw_p52 : lw_okq (⟨"IceFairModel", "soonest", "()I"⟩, 37) := ⟨⟨by decide +kernel, by decide +kernel⟩, List.mem_of_getElem? (i := 910) (by decide +kernel), List.mem_of_getElem? (i := 1161) (by decide +kernel), List.mem_of_getElem? (i := 1162) (by decide +kernel)⟩
theorem lw_p53 : lw_okq (⟨"IceFairModel", "pathAll", "()V"⟩, 37) := ⟨⟨by decide +kernel, by decide +kernel⟩, List.mem_of_getElem? (i := 910) (by decide +kernel), List.mem_of_getElem? (i := 1165) (by decide +kernel), List.mem_of_getElem? (i := 1166) (by decide +kernel)⟩
theorem lw_p54 : lw_okq (⟨"IceFairModel", "walks", "()V"⟩, 37) := ⟨⟨by decide +kernel, by decide +kernel⟩, List.mem_of_getElem? (i := 910) (by decide +kernel), List.mem_of_getElem? (i := 1169) (by decide +kernel), List.mem_of_getElem? (i := 1170) (by decide +kernel)⟩
theorem lw_p55 : lw_okq (⟨"IceFairModel", "isStair", "(I)Z"⟩, 37) := ⟨⟨by decide +kernel, by decide +kernel⟩, List.mem_of_getElem? (i := 910) (by decide +kernel), List.mem_of_getElem? (i := 1173) (by decide +kernel), List.mem_of_getElem? (i := 1174) (by decide +kernel)⟩
theorem lw_p56 : lw_okq (⟨"IceFairModel", "beside", "(III)I"⟩, 37) := ⟨⟨by decide +kernel, by decide +kernel⟩, List.mem_of_getElem? (i := 910) (by decide +kernel), List.mem_of_getElem? (i := 1177) (by decide +kernel), List.mem_of_getElem? (i := 1178) (by decide +kernel)⟩
theorem lw_p57 : lw_okq (⟨"IceFairModel", "stepsOf", "(II)I"⟩, 37) := ⟨⟨by decide +kernel, by decide +kernel⟩, List.mem_of_getElem? (i := 910) (by decide +kernel), List.mem_of_getElem? (i := 1181) (by decide +kernel), List.mem_of_getElem? (i := 1182) (by decide +kernel)⟩
theorem lw_p58 : lw_okq (⟨"IceFairModel", "canBe", "(I)Z"⟩, 37) := ⟨⟨by decide +kernel, by decide +kernel⟩, List.mem_of_getElem? (i := 910) (by decide +kernel), List.mem_of_getElem? (i := 1185) (by decide +kernel), List.mem_of_getElem? (i := 1186) (by decide +kernel)⟩
theorem lw_p59 : lw_okq (⟨"IceFairModel", "isSet", "(I)Z"⟩, 37) := ⟨⟨by decide +kernel, by decide +kernel⟩, List.mem_of_getElem? (i := 910) (by decide +kernel), List.mem_of_getElem? (i := 1189) (by decide +kernel), List.mem_of_getElem? (i := 1190) (by decide +kernel)⟩
theorem lw_p60 : lw_okq (⟨"IceFairModel", "over", "(II)I"⟩, 37) := ⟨⟨by decide +kernel, by decide +kernel⟩, List.mem_of_getElem? (i := 910) (by decide +kernel), List.mem_of_getElem? (i := 1193) (by decide +kernel), List.mem_of_getElem? (i := 1194) (by decide +kernel)⟩
theorem lw_p61 : lw_okq (⟨"IceFairModel", "fails", "(I)I"⟩, 37) := ⟨⟨by decide +kernel, by decide +kernel⟩, List.mem_of_getElem? (i := 910) (by decide +kernel), List.mem_of_getElem? (i := 1205) (by decide +kernel), List.mem_of_getElem? (i := 1206) (by decide +kernel)⟩
theorem lw_p62 : lw_okq (⟨"IceFairModel", "moves", "(I)Z"⟩, 37) := ⟨⟨by decide +kernel, by decide +kernel⟩, List.mem_of_getElem? (i := 910) (by decide +kernel), List.mem_of_getElem? (i := 1213) (by decide +kernel), List.mem_of_getElem? (i := 1214) (by decide +kernel)⟩
theorem lw_p63 : lw_okq (⟨"IceFairModel", "nearest", "(I)I"⟩, 37) := ⟨⟨by decide +kernel, by decide +kernel⟩, List.mem_of_getElem? (i := 910) (by decide +kernel), List.mem_of_getElem? (i := 1217) (by decide +kernel), List.mem_of_getElem? (i := 1218) (by decide +kernel)⟩
def lw_privs_4 : List (MethodName × Nat) := [(⟨"IceFairModel", "strain", "(I)I"⟩, 37), (⟨"IceFairModel", "bears", "(I)I"⟩, 37), (⟨"IceFairModel", "feeOf", "(I)I"⟩, 37), (⟨"IceFairModel", "fires", "(I)I"⟩, 37), (⟨"IceFairModel", "soonest", "()I"⟩, 37), (⟨"IceFairModel", "pathAll", "()V"⟩, 37), (⟨"IceFairModel", "walks", "()V"⟩, 37), (⟨"IceFairModel", "isStair", "(I)Z"⟩, 37), (⟨"IceFairModel", "beside", "(III)I"⟩, 37), (⟨"IceFairModel", "stepsOf", "(II)I"⟩, 37), (⟨"IceFairModel", "canBe", "(I)Z"⟩, 37), (⟨"IceFairModel", "isSet", "(I)Z"⟩, 37), (⟨"IceFairModel", "over", "(II)I"⟩, 37), (⟨"IceFairModel", "fails", "(I)I"⟩, 37), (⟨"IceFairModel", "moves", "(I)Z"⟩, 37), (⟨"IceFairModel", "nearest", "(I)I"⟩, 37)]
theorem lw_r4 : ∀ q ∈ lw_privs_4, lw_okq q := List.forall_mem_cons.mpr ⟨lw_p48, List.forall_mem_cons.mpr ⟨lw_p49, List.forall_mem_cons.mpr ⟨lw_p50, List.forall_mem_cons.mpr ⟨lw_p51, List.forall_mem_cons.mpr ⟨lw_p52, List.forall_mem_cons.mpr ⟨lw_p53, List.forall_mem_cons.mpr ⟨lw_p54, List.forall_mem_cons.mpr ⟨lw_p55, List.forall_mem_cons.mpr ⟨lw_p56, List.forall_mem_cons.mpr ⟨lw_p57, List.forall_mem_cons.mpr ⟨lw_p58, List.forall_mem_cons.mpr ⟨lw_p59, List.forall_mem_cons.mpr ⟨lw_p60, List.forall_mem_cons.mpr ⟨lw_p61, List.forall_mem_cons.mpr ⟨lw_p62, List.forall_mem_cons.mpr ⟨lw_p63, fun _ h => absurd h List.not_mem_nil⟩⟩⟩⟩⟩⟩⟩⟩⟩⟩⟩⟩⟩⟩⟩⟩
def lw_privs : List (MethodName × Nat) := lw_privs_1 ++ (lw_privs_2 ++ (lw_privs_3 ++ (lw_privs_4)))
def lw_tbl : List Cond := k2_sels lw_privs ++ tables_1
theorem lw_privs_ok : ∀ q ∈ lw_privs, lw_okq q := by
  show ∀ q ∈ lw_privs_1 ++ (lw_privs_2 ++ (lw_privs_3 ++ (lw_privs_4))), lw_okq q
  exact List.forall_mem_append.mpr ⟨lw_r1, List.forall_mem_append.mpr ⟨lw_r2, List.forall_mem_append.mpr ⟨lw_r3, lw_r4⟩⟩⟩
end
section
section MX
/-- one row of a table whose range holds the pc, her class linked (cold or warm): she takes the object if its class fits, else the search goes on; the link is noted -/
theorem mx_row {Q : Handler → Pre} {E : CtlPost} {e : Env} {d : Bool} {acts : List Action} {s : State} {f : JFrame} {a : Addr} {x : ExceptionTableEntry} {t : List ExceptionTableEntry} {c : ClassId} {cell : Cell}
    (hx : covers x f.pc = true) (h0 : x.catchType ≠ 0) (hl : s.vm.ClassLinks e.platform f.method.cls x.catchType c) (hcell : s.heap[a]? = some cell) (hobj : ∀ k, cell.vm ≠ .statics k)
    (hk : ∃ k, s.vm.classes[cell.cls]? = some k) (hc : ∃ k, s.vm.classes[c]? = some k) :
    wp (findHandler.go f a (x :: t)) Q E e d acts s ↔
      if s.vm.assignable cell.cls c = true then Q (.found x.handlerPc) d acts (s.setVm (s.vm.noted f.method.cls x.catchType (.cls c)))
      else wp (findHandler.go f a t) Q E e d acts (s.setVm (s.vm.noted f.method.cls x.catchType (.cls c))) := by
  simp only [covers] at hx
  obtain ⟨r1, r2⟩ := (resolveClass_links e.toSetting hl).op (op := VmOp.resolveClass f.method.cls x.catchType) rfl
  have al : s.vm.Alike (s.vm.noted f.method.cls x.catchType (.cls c)) := (Vm.Alike.refl s.vm).noted _ _ _
  obtain ⟨_, g1⟩ := hk
  obtain ⟨_, g2⟩ := hc
  obtain ⟨_, g1', -⟩ := al.2.2 _ _ g1
  obtain ⟨_, g2', -⟩ := al.2.2 _ _ g2
  have ea := al.assignable cell.cls c
  cases hq : s.vm.assignable cell.cls c <;> rw [hq] at ea <;> simp [findHandler.go, hx, h0, r1, r2, hcell, hobj, g1', g2', ea, VmOp.dirties, VmOp.acts]
/-- how a row lets an object of the class 'th' pass -/
def mx_pass (pl : Platform) (s₀ : State) (d : ClassId) (pc : Nat) (th : ClassId) (y : ExceptionTableEntry) : Prop :=
  covers y pc = false ∨ (y.catchType ≠ 0 ∧ ∃ c, s₀.vm.ClassLinks pl d y.catchType c ∧ s₀.vm.assignable th c = false)
/-- the search through rows that let it pass, up to one that takes it -/
theorem mx_search {e : Env} {s₀ : State} {f : JFrame} {a : Addr} {cell : Cell} (hobj : ∀ k, cell.vm ≠ .statics k) (hk0 : ∃ k, s₀.vm.classes[cell.cls]? = some k)
    (x : ExceptionTableEntry) (suf : List ExceptionTableEntry) (hx : covers x f.pc = true) (h0 : x.catchType ≠ 0) {c : ClassId} (hl : s₀.vm.ClassLinks e.platform f.method.cls x.catchType c) (hfit : s₀.vm.assignable cell.cls c = true) :
    ∀ (pre : List ExceptionTableEntry) (S : State), s₀.WarmedH S.vm → S.heap[a]? = some cell → (∀ y ∈ pre, mx_pass e.platform s₀ f.method.cls f.pc cell.cls y) →
      ∃ vm', s₀.WarmedH vm' ∧ ∀ (Q : Handler → Pre) (E : CtlPost) (d : Bool) (acts : List Action), wp (findHandler.go f a (pre ++ x :: suf)) Q E e d acts S ↔ Q (.found x.handlerPc) d acts (S.setVm vm') := by
  obtain ⟨k0, hk0⟩ := hk0
  have one : ∀ (y : ExceptionTableEntry) (t : List ExceptionTableEntry) (c' : ClassId) (S : State), s₀.WarmedH S.vm → S.heap[a]? = some cell → covers y f.pc = true → y.catchType ≠ 0 → s₀.vm.ClassLinks e.platform f.method.cls y.catchType c' →
      s₀.WarmedH (S.vm.noted f.method.cls y.catchType (.cls c')) ∧ ∀ (Q : Handler → Pre) (E : CtlPost) (d : Bool) (acts : List Action), wp (findHandler.go f a (y :: t)) Q E e d acts S ↔
        if s₀.vm.assignable cell.cls c' = true then Q (.found y.handlerPc) d acts (S.setVm (S.vm.noted f.method.cls y.catchType (.cls c'))) else wp (findHandler.go f a t) Q E e d acts (S.setVm (S.vm.noted f.method.cls y.catchType (.cls c'))) := by
    intro y t c' S hW hcell hy hy0 hl'
    obtain ⟨_, h1, -⟩ := hW.alike.2.2 _ _ hk0
    obtain ⟨dk, _, _, kt, hd, _, _, _, _, hkt, _, hopen⟩ := hl'.here
    obtain ⟨_, h2, -⟩ := hW.alike.2.2 _ _ hkt
    refine ⟨hW.noted hd hopen (State.rightAt_cls hl'), fun Q E d acts => ?_⟩
    rw [← hW.alike.assignable]
    exact mx_row hy hy0 (hW.classLinks hl') hcell hobj ⟨_, h1⟩ ⟨_, h2⟩
  intro pre
  induction pre with
  | nil =>
    intro S hW hcell _
    obtain ⟨w, r⟩ := one x suf c S hW hcell hx h0 hl
    exact ⟨_, w, fun Q E d acts => by rw [List.nil_append, r, if_pos hfit]⟩
  | cons y ys ih =>
    intro S hW hcell hp
    have hys : ∀ z ∈ ys, mx_pass e.platform s₀ f.method.cls f.pc cell.cls z := fun z hz => hp z (List.mem_cons_of_mem _ hz)
    cases hcov : covers y f.pc with
    | false =>
      obtain ⟨vm', w, r⟩ := ih S hW hcell hys
      exact ⟨vm', w, fun Q E d acts => by rw [List.cons_append, W.findHandler_go_skip hcov]; exact r Q E d acts⟩
    | true =>
      rcases hp y List.mem_cons_self with h | ⟨hy0, c', hl', hno⟩
      · rw [h] at hcov; cases hcov
      · obtain ⟨w1, r1⟩ := one y (ys ++ x :: suf) c' S hW hcell hcov hy0 hl'
        obtain ⟨vm', w, r⟩ := ih (S.setVm (S.vm.noted f.method.cls y.catchType (.cls c'))) w1 hcell hys
        exact ⟨vm', w, fun Q E d acts => by rw [List.cons_append, r1, if_neg (by rw [hno]; exact Bool.false_ne_true)]; exact r Q E d acts⟩
/-- from the note 'q is being thrown' over this method's frame to the handler -/
theorem mx_caught {p : Program} {l : Launch} {e : Env} {R : Room} {s : State} {m : MethodId} {args : Array Value} {below : List Frame} {meth : Method} {c : Code} {T : State} {locs : List Loc} {cells slots : Nat} (X : Stand p l e R s m args below meth c T locs cells slots) (a : Addr) {g : JFrame} (hg : g.method = m)
    {cell : Cell} (hcell : T.heap[a]? = some cell) (hobj : cell.vm.isStatics = false) (hk0 : ∃ k, s.vm.classes[cell.cls]? = some k)
    (pre : List ExceptionTableEntry) (x : ExceptionTableEntry) (suf : List ExceptionTableEntry) (hsplit : c.exceptionTable.toList = pre ++ x :: suf)
    (hpass : ∀ y ∈ pre, mx_pass e.platform s m.cls g.pc cell.cls y) (hx : covers x g.pc = true) (h0 : x.catchType ≠ 0) {cT : ClassId} (hl : s.vm.ClassLinks e.platform m.cls x.catchType cT) (hfit : s.vm.assignable cell.cls cT = true) :
    ∃ vm', Stand p l e R s m args below meth c (T.setVm vm') locs cells slots ∧ Steps p.tables e below ((T.setTop g).pushFrame (.throwing a)) ((T.setVm vm').setTop { g with pc := x.handlerPc, stack := [.ref a] }) := by
  subst hg
  have hm : ((T.setTop g).pushFrame (.throwing a)).vm.method? g.method = some meth := X.method'
  obtain ⟨vm', w, r⟩ := mx_search (e := e) (f := g) (a := a) (VmData.ne_statics_of hobj) hk0 x suf hx h0 hl hfit pre ((T.setTop g).pushFrame (.throwing a)) X.warmed hcell hpass
  refine ⟨vm', X.noted w, ?_⟩
  have h := X.here
  obtain ⟨hgo, hw⟩ := h.throwing a
  refine Steps.head hgo hw ?_
  have hstep : (stepThrowing e ((T.setTop g).pushFrame (.throwing a)) a (.java g :: T.frames.tail)).Is ((((T.setTop g).pushFrame (.throwing a)).setVm vm').setFrames (.java { g with pc := x.handlerPc, stack := [.ref a] } :: T.frames.tail)) [] := by
    simp only [stepThrowing, searchFrame, vmDo]
    generalize hr : Sem.go _ e false [] ((T.setTop g).pushFrame (.throwing a)) = res
    obtain ⟨as, rfl, ha⟩ := Sem.eq_ok_of hr (a := Handler.found x.handlerPc) (s' := ((T.setTop g).pushFrame (.throwing a)).setVm vm') (acts' := []) (by simp [W.findHandler_eq hm X.code, hsplit, r])
    exact ⟨rfl, ha⟩
  rw [stepThread_throwing (frames_entered h.top _), hstep.1]
  obtain ⟨g₀, hg0⟩ := Option.isSome_iff_exists.mp h.top
  obtain ⟨tl, htl⟩ := State.topJava?_eq_some.mp hg0
  have htl' : (T.setVm vm').frames = .java g₀ :: tl := htl
  have e1 : ∀ (u : State) (F G : List Frame), ((u.setFrames F).setVm vm').setFrames G = (u.setVm vm').setFrames G := fun u F G => by
    rw [show (u.setFrames F).setVm vm' = (u.setVm vm').setFrames F from rfl, State.setFrames_setFrames]
  rw [State.setTop_of_frames _ htl', htl, List.tail_cons, State.pushFrame, e1, State.setTop_of_frames _ htl, e1]
  exact Steps.refl _
end MX
/-! ===== BEGIN words of one list among another's, by their places ===== -/
theorem goodIn_r {big : List Cond} (ws : List Cond) (ps : List Nat) (hp : ws = ps.filterMap (fun i => big[i]?)) (h : ws.all goodWord = true) : GoodIn big ws := by
  intro w hw
  have h1 := List.all_eq_true.mp h w hw
  rw [hp] at hw
  obtain ⟨i, -, hi⟩ := List.mem_filterMap.mp hw
  have hm : w ∈ big := by first | exact List.mem_of_getElem? hi | exact List.getElem?_mem hi
  exact ⟨hm, good_of_word h1⟩
theorem goodIn_app {big a b : List Cond} (ha : GoodIn big a) (hb : GoodIn big b) : GoodIn big (a ++ b) := fun w h => (List.mem_append.mp h).elim (ha w) (hb w)
theorem goodIn_ca {big a b : List Cond} {c : Cond} (ha : GoodIn big (c :: a)) (hb : GoodIn big b) : GoodIn big (c :: (a ++ b)) := fun w h => (List.mem_cons.mp h).elim (fun e => ha w (List.mem_cons.mpr (Or.inl e))) (fun h => (List.mem_append.mp h).elim (fun h => ha w (List.mem_cons.mpr (Or.inr h))) (hb w))
theorem goodIn_sub {big ws : List Cond} (hm : ∀ w ∈ ws, w ∈ big) (h : ws.all goodWord = true) : GoodIn big ws := fun w hw => ⟨hm w hw, good_of_word (List.all_eq_true.mp h w hw)⟩
/-! ===== END ===== -/

/-! ===== BEGIN exceptions that leave a method, and their catching by the caller (launches without stack traces) ===== -/
section VXA
/-! The laws vx_back, vx_callV, vx_callS, vx_callSW, vx_throw0, vx_throwS follow proofs of the library, with one case more: JvmDerived/Free/Laws.lean (Back.of_free), Shelf42/LK1.lean (callV, callS), Shelf/KitTraced.lean (throwNew0V, throwNewS). -/
/-- where a method has thrown q: the class by its name, the cell, what was written, the world -/
def vx_T (XC : String → State → State → Prop) (st : State) (q : Addr) (t : State) (mc ms : Nat) (free : Addr → Prop) : Prop :=
  ∃ (E : String) (ce : Cell) (L : List Loc), XC E st t ∧ t.heap[q]? = some ce ∧ ce.vm = .none ∧ st.vm.findClass E = some ce.cls ∧ st.WarmedH t.vm ∧ st.sameButNew ({ t with vm := st.vm } : State) L mc ms ∧ ∀ z ∈ L, free z.base
def vx_Q (Qc : Array Value → State → Outcome → State → Prop) (XC : String → State → State → Prop) (mc ms : Nat) (free : Addr → Prop) : Array Value → State → Outcome → State → Prop := fun a st o t =>
  (Qc a st o t ∧ ∃ L, FrameEnd st o t L mc ms ∧ ∀ q ∈ L, free q.base) ∨ ∃ q, o = .threw q ∧ vx_T XC st q t mc ms free
/-- a callee that returns or throws -/
def vx_Met (l : Launch) (y : MethodName) (ws : List Cond) (rm : Room) (Pc : Array Value → State → Prop) (Qc : Array Value → State → Outcome → State → Prop) (XC : String → State → State → Prop) (mc ms : Nat) (free : Addr → Prop) : Prop :=
  MetFree l y (headSpec ws rm) Pc (fun _ _ _ _ _ => True) (vx_Q Qc XC mc ms free)
def vx_Post (XC : String → State → State → Prop) (mc ms : Nat) (free : Addr → Prop) : Pt → Array Value → Addr → Pt → Prop := fun A a q B =>
  ∃ (g : JFrame) (mk : MethodId) (t : State) (L : List Loc) (E : String) (ce : Cell), B.U.heap = t.heap ∧ B.U.vm = t.vm ∧ XC E (A.U.calling g mk a) t ∧ t.heap[q]? = some ce ∧ ce.vm = .none ∧ A.U.vm.findClass E = some ce.cls ∧ B.locs = A.locs ++ L ∧ (∀ z ∈ L, free z.base) ∧ B.cells = A.cells + mc ∧ B.slots = A.slots + ms
def vx_Back (l : Launch) (R : Room) (p : Program) (e : Env) (below : List Frame) (s : State) (sargs : Array Value) (y : MethodName) (len W9 : Nat)
    (Pre : Pt → Array Value → Prop) (Post : Pt → Array Value → Option Value → Pt → Prop) (PostX : Pt → Array Value → Addr → Pt → Prop) : Prop :=
  ∀ (m : MethodId) (meth : Method) (c : Code) (A : Pt) (g : JFrame) (ig : Instr) (mk : MethodId) (a : Array Value),
    Stand p l e R s m sargs below meth c A.U A.locs A.cells A.slots → g.method = m → g.locals.size = c.maxLocals → decode c.code g.pc = .ok (ig, len) →
    2 * g.monitorRoom + (g.stack.map fun v => v.category).sum ≤ W9 → A.U.methodNamed? y = some mk → Pre A a →
    (∃ (v : Option Value) (B : Pt), Stand p l e R s m sargs below meth c B.U B.locs B.cells B.slots ∧ Post A a v B ∧
      Steps p.tables e below (doInvoke e (A.U.setTop g) [] mk a).1 (B.U.setTop { g with pc := g.pc + len, stack := v.toList ++ g.stack })) ∨
    (∃ (q : Addr) (B : Pt), Stand p l e R s m sargs below meth c B.U B.locs B.cells B.slots ∧ PostX A a q B ∧
      Steps p.tables e below (doInvoke e (A.U.setTop g) [] mk a).1 ((B.U.setTop g).pushFrame (.throwing q)))
section Payer
variable {l : Launch} {R : Room} {p : Program} {e : Env} {below : List Frame} {s : State} {sargs : Array Value} {y : MethodName} {len W9 : Nat}
theorem vx_back {ws : List Cond} {rm : Room} {Pc : Array Value → State → Prop} {Qc : Array Value → State → Outcome → State → Prop} {XC : String → State → State → Prop} {mc ms : Nat} {free : Addr → Prop} {bytes : ByteArray} {maxL : Nat} {ret : Option FieldType}
    (hM : vx_Met l y ws rm Pc Qc XC mc ms free) (hblind : FrameBlind Pc) (hrc : rm.cells = mc) (hrs : rm.slots = ms)
    (hframes : rm.frames + 1 ≤ R.frames) (hlocals : W9 + (maxL + 11) + rm.locals ≤ R.locals)
    (hws : ∀ w ∈ ws, ∀ a' U, s.WarmedH U.vm → w.before a' U = true) (hcode : Cond.code y bytes maxL ret ∈ ws) (hinit : ∀ a' U, s.WarmedH U.vm → (Cond.initialized y.cls).before a' U = true) :
    vx_Back l R p e below s sargs y len W9 (PreOf R mc ms Pc) (PostOf Qc mc ms free) (vx_Post XC mc ms free) := by
  intro m meth c A g ig mk a X hg hsize hdg hW hn hp
  have h1 : (headSpec ws rm).pre.before a A.U = true := atoms_intro fun w hw => hws w hw _ _ X.warmed
  have h2 : (Cond.code y bytes maxL ret).before a A.U = true := hws _ hcode _ _ X.warmed
  have h3 : (Cond.initialized y.cls).before a A.U = true := hinit _ _ X.warmed
  have h4 : A.cells + (headSpec ws rm).room.cells ≤ R.cells := by rw [show (headSpec ws rm).room.cells = mc from hrc]; exact hp.1
  have h5 : A.slots + (headSpec ws rm).room.slots ≤ R.slots := by rw [show (headSpec ws rm).room.slots = ms from hrs]; exact hp.2.1
  have hPc : Pc a (A.U.calling g mk a) := hblind _ _ _ _ hp.2.2
  obtain ⟨U, Ls, c0, s0⟩ := A
  dsimp only [Pt.U, Pt.locs, Pt.cells, Pt.slots] at h1 h2 h3 h4 h5 X hn hPc ⊢
  obtain ⟨methY, cY, hmY, hcY, -, hlY, -, -, -, -⟩ := Cond.code_spec hn h2
  obtain ⟨kY, hkY, -⟩ := className_of_methodNamed hn
  have hinitY : kY.init = .initialized := Cond.initialized_spec (findClass_of_methodNamed hn) hkY h3
  have h : At U g.method c below := by rw [hg]; exact X.here
  have hlocals9 : W9 + (maxL + 11) + (headSpec ws rm).room.locals ≤ R.locals := hlocals
  have happ : (headSpec ws rm).appliesLoose y e.platform (U.calling g mk a) = true :=
    Spec.appliesLoose_calling (g := g) h hdg hn hkY hinitY
      (X.room_calling (g := g) (R' := (headSpec ws rm).room) hsize hmY hcY hframes (by rw [hlY]; omega) h4 h5) h1
  obtain ⟨mid, hmid⟩ := h.above
  have hfr : (U.setTop g).frames = (.java g :: mid) ++ below := by rw [State.frames_setTop' g h.top, hmid]; rfl
  obtain ⟨o, s₂, hsteps, -, hend, hq⟩ := Steps.callFree hM p X.admits X.cas X.clock (acts := []) hfr happ hPc trivial
  have hq' : vx_Q Qc XC mc ms free a (U.calling g mk a) o s₂ := hq
  rw [State.frames_setTop' g h.top] at hend
  obtain ⟨g₀, hg0⟩ := Option.isSome_iff_exists.mp h.top
  obtain ⟨r, hr⟩ := State.topJava?_eq_some.mp hg0
  have hr' : (({ U with heap := s₂.heap, slotsUsed := s₂.slotsUsed } : State).setVm s₂.vm).frames = .java g₀ :: r := hr
  rcases hq' with ⟨hqc, L, hfe, hL⟩ | ⟨q, rfl, E, ce, L, hx, hce, hcv, hcl, hW₂, hsm, hL⟩
  · obtain ⟨⟨v, rfl⟩, hW₂, e2, q2, q3, q4, q5, q6⟩ := id hfe
    have e3 : s₂ = ({ (U.calling g mk a).setFrames s₂.frames with heap := s₂.heap, slotsUsed := s₂.slotsUsed } : State).setVm s₂.vm := by
      have : s₂ = ({ s₂ with vm := (U.calling g mk a).vm } : State).setVm s₂.vm := rfl
      rw [e2] at this
      exact this
    obtain ⟨c₂, i₂, len₂, hc₂, hd₂, hf₂⟩ := hend
    have hW' : U.WarmedH s₂.vm := hW₂
    have hcc : c₂ = c := by
      have h1 : s₂.code? g.method = U.code? g.method := by
        rw [State.code?_eq, State.code?_eq, hW'.alike.method?]
      exact Option.some.inj (hc₂.symm.trans (h1.trans h.code))
    subst hcc
    have hlen : len₂ = len := by rw [hdg] at hd₂; cases hd₂; rfl
    subst hlen
    have hs₂ : s₂ = (({ U with heap := s₂.heap, slotsUsed := s₂.slotsUsed } : State).setVm s₂.vm).setTop { g with pc := g.pc + len₂, stack := v.toList ++ g.stack } := by
      refine e3.trans ?_
      rw [hf₂, State.calling_eq h.top, State.setFrames_setFrames, State.setTop_of_frames _ hr', hr]
      rfl
    have hsame : U.sameButNew ({ U with heap := s₂.heap, slotsUsed := s₂.slotsUsed } : State) L mc ms := by
      refine ⟨?_, q2, q3, q4, q5, q6⟩
      obtain ⟨t, ht, -⟩ := State.frames_cons hr
      show ({ U with heap := s₂.heap, slotsUsed := s₂.slotsUsed } : State) = { U.setFrames U.frames with heap := s₂.heap, slotsUsed := s₂.slotsUsed }
      rw [State.setFrames_self ht]
    subst hg
    refine Or.inl ⟨v, ⟨(({ U with heap := s₂.heap, slotsUsed := s₂.slotsUsed } : State).setVm s₂.vm), Ls ++ L, c0 + mc, s0 + ms⟩,
      ⟨X.admits, X.cas, X.clock, X.frames, X.room, X.hears, X.method, X.code, (X.here.setHeapUsed s₂.heap s₂.slotsUsed).setVm hW'.alike, X.tail, State.WarmedH.trans X.warmed hW', X.limits, X.bytes, X.same.trans (hsame.setVm s.vm)⟩,
      ⟨g, mk, s₂, L, rfl, rfl, hqc, rfl, hL, rfl, rfl⟩, ?_⟩
    show Steps p.tables e below _ ((({ U with heap := s₂.heap, slotsUsed := s₂.slotsUsed } : State).setVm s₂.vm).setTop { g with pc := g.pc + len₂, stack := v.toList ++ g.stack })
    rw [← hs₂]
    exact hsteps
  · obtain ⟨e2, q2, q3, q4, q5, q6⟩ := id hsm
    have e3 : s₂ = ({ (U.calling g mk a).setFrames s₂.frames with heap := s₂.heap, slotsUsed := s₂.slotsUsed } : State).setVm s₂.vm := by
      have : s₂ = ({ s₂ with vm := (U.calling g mk a).vm } : State).setVm s₂.vm := rfl
      rw [e2] at this
      exact this
    have hf₂ : s₂.frames = .throwing q :: .java g :: U.frames.tail := hend
    have hW' : U.WarmedH s₂.vm := hW₂
    have hs₂ : s₂ = ((({ U with heap := s₂.heap, slotsUsed := s₂.slotsUsed } : State).setVm s₂.vm).setTop g).pushFrame (.throwing q) := by
      refine e3.trans ?_
      rw [hf₂, State.calling_eq h.top, State.setFrames_setFrames, State.pushFrame, State.frames_setTop _ hr', State.setTop_of_frames _ hr', State.setFrames_setFrames, hr]
      rfl
    have hsame : U.sameButNew ({ U with heap := s₂.heap, slotsUsed := s₂.slotsUsed } : State) L mc ms := by
      refine ⟨?_, q2, q3, q4, q5, q6⟩
      obtain ⟨t, ht, -⟩ := State.frames_cons hr
      show ({ U with heap := s₂.heap, slotsUsed := s₂.slotsUsed } : State) = { U.setFrames U.frames with heap := s₂.heap, slotsUsed := s₂.slotsUsed }
      rw [State.setFrames_self ht]
    subst hg
    refine Or.inr ⟨q, ⟨(({ U with heap := s₂.heap, slotsUsed := s₂.slotsUsed } : State).setVm s₂.vm), Ls ++ L, c0 + mc, s0 + ms⟩,
      ⟨X.admits, X.cas, X.clock, X.frames, X.room, X.hears, X.method, X.code, (X.here.setHeapUsed s₂.heap s₂.slotsUsed).setVm hW'.alike, X.tail, State.WarmedH.trans X.warmed hW', X.limits, X.bytes, X.same.trans (hsame.setVm s.vm)⟩,
      ⟨g, mk, s₂, L, E, ce, rfl, rfl, hx, hce, hcv, hcl, rfl, hL, rfl, rfl⟩, ?_⟩
    show Steps p.tables e below _ (((({ U with heap := s₂.heap, slotsUsed := s₂.slotsUsed } : State).setVm s₂.vm).setTop g).pushFrame (.throwing q))
    rw [← hs₂]
    exact hsteps
end Payer
section Calls
variable {p : Program} {l : Launch} {e : Env} {R : Room} {s : State} {m : MethodId} {args : Array Value} {below : List Frame} {meth : Method} {c : Code} {T : State} {locs : List Loc} {cells slots : Nat}
theorem vx_callV (X : Stand p l e R s m args below meth c T locs cells slots) (hexec : p.tables.exec = Jvm.exec) {own C : String} {index : Nat} {y : MethodName} {bytes : ByteArray} {maxL : Nat} {ret : Option FieldType}
    (hown : s.vm.findClass own = some m.cls) (hlink : (Cond.methodLink own index y).before args s = true) (hinst : (Cond.instanceMethod y).before args s = true) (hsel : (Cond.selects C y y).before args s = true)
    (hcode : (Cond.code y bytes maxL ret).before args s = true) (hy : y.cls ≠ "java/lang/invoke/MethodHandle" ∧ y.cls ≠ "java/lang/invoke/VarHandle")
    {W9 : Nat} {Pre : Pt → Array Value → Prop} {Post : Pt → Array Value → Option Value → Pt → Prop} {PostX : Pt → Array Value → Addr → Pt → Prop} (hK : vx_Back l R p e below s args y 3 W9 Pre Post PostX)
    {b : Addr} {cellB : Cell} (hcell : T.heap[b]? = some cellB) (hobj : cellB.vm.isStatics = false) (hcls : s.vm.findClass C = some cellB.cls)
    {g : JFrame} (hg : g.method = m) (hsize : g.locals.size = c.maxLocals) {argsL rest : List Value} (hlen : ∀ sig, parseMethodDescriptor y.desc = some sig → argsL.length = sig.parameters.length)
    (hstack : g.stack = argsL.reverse ++ .ref b :: rest) (hW : 2 * g.monitorRoom + (rest.map fun v => v.category).sum ≤ W9) (hdg : decode c.code g.pc = .ok (.invokevirtual index, 3))
    (hpre : ∀ vm₁, s.WarmedH vm₁ → Pre ⟨T.setVm vm₁, locs, cells, slots⟩ (Value.ref b :: argsL).toArray) :
    (∃ (v : Option Value) (vm₁ : Vm) (B : Pt), s.WarmedH vm₁ ∧ Stand p l e R s m args below meth c B.U B.locs B.cells B.slots ∧ Post ⟨T.setVm vm₁, locs, cells, slots⟩ (Value.ref b :: argsL).toArray v B ∧
      ∀ target, Steps p.tables e below (B.U.setTop { g with pc := g.pc + 3, stack := v.toList ++ rest }) target → Steps p.tables e below (T.setTop g) target) ∨
    (∃ (q : Addr) (vm₁ : Vm) (B : Pt), s.WarmedH vm₁ ∧ Stand p l e R s m args below meth c B.U B.locs B.cells B.slots ∧ PostX ⟨T.setVm vm₁, locs, cells, slots⟩ (Value.ref b :: argsL).toArray q B ∧
      Steps p.tables e below (T.setTop g) ((B.U.setTop { g with stack := rest }).pushFrame (.throwing q))) := by
  obtain ⟨mk, methM, hnamed, hmethM, hstM, habM⟩ := Cond.instanceMethod_spec hinst
  obtain ⟨methM', cM, hmethM', -, -, -, -, -, -, hsigM⟩ := Cond.code_spec hnamed hcode
  cases hmethM.symm.trans hmethM'
  obtain ⟨c2, r2, m2, q1, q2, q3, q4, kP, hkP, hkPi⟩ := Cond.selects_spec hsel
  cases hcls.symm.trans q1
  cases (State.methodFound?_of_named hnamed hy).symm.trans q2
  cases hnamed.symm.trans q3
  have hselP : selectMethod e.platform s.vm cellB.cls mk = .method mk := by rw [Launch.admits_selectMethod X.admits]; exact q4
  obtain ⟨vm₁, X₁, hstep₁⟩ := X.invokevirtual hexec hown hlink hnamed hmethM hstM hkP hkPi hy (a := b) (cell := cellB) hcell
    (fun z h => by rw [h] at hobj; cases hobj) hselP hmethM habM hkP hkPi (g := g) hg (argsL := argsL) (rest := rest) (hlen _ hsigM) hstack hdg
  rcases hK m meth c ⟨T.setVm vm₁, locs, cells, slots⟩ { g with stack := rest } (.invokevirtual index) mk (Value.ref b :: argsL).toArray X₁ hg hsize hdg hW (X₁.named hnamed) (hpre vm₁ X₁.warmed) with ⟨v, B, X', hpost, hsteps⟩ | ⟨q, B, X', hpost, hsteps⟩
  · exact Or.inl ⟨v, vm₁, B, X₁.warmed, X', hpost, fun target h => hstep₁ _ fun acts => by rw [doInvoke_state]; exact hsteps.trans h⟩
  · exact Or.inr ⟨q, vm₁, B, X₁.warmed, X', hpost, hstep₁ _ fun acts => by rw [doInvoke_state]; exact hsteps⟩
theorem vx_callS (X : Stand p l e R s m args below meth c T locs cells slots) (hexec : p.tables.exec = Jvm.exec) {own : String} {index : Nat} {y : MethodName} {bytes : ByteArray} {maxL : Nat} {ret : Option FieldType}
    (hown : s.vm.findClass own = some m.cls) (hlink : (Cond.methodLink own index y).before args s = true) (hstat : (Cond.static y).before args s = true) (hinit : (Cond.initialized y.cls).before args s = true)
    (hcode : (Cond.code y bytes maxL ret).before args s = true) (hy : y.cls ≠ "java/lang/invoke/MethodHandle" ∧ y.cls ≠ "java/lang/invoke/VarHandle")
    {W9 : Nat} {Pre : Pt → Array Value → Prop} {Post : Pt → Array Value → Option Value → Pt → Prop} {PostX : Pt → Array Value → Addr → Pt → Prop} (hK : vx_Back l R p e below s args y 3 W9 Pre Post PostX)
    {g : JFrame} (hg : g.method = m) (hsize : g.locals.size = c.maxLocals) {argsL rest : List Value} (hlen : ∀ sig, parseMethodDescriptor y.desc = some sig → argsL.length = sig.parameters.length)
    (hstack : g.stack = argsL.reverse ++ rest) (hW : 2 * g.monitorRoom + (rest.map fun v => v.category).sum ≤ W9) (hdg : decode c.code g.pc = .ok (.invokestatic index, 3))
    (hpre : ∀ vm₁, s.WarmedH vm₁ → Pre ⟨T.setVm vm₁, locs, cells, slots⟩ argsL.toArray) :
    (∃ (v : Option Value) (vm₁ : Vm) (B : Pt), s.WarmedH vm₁ ∧ Stand p l e R s m args below meth c B.U B.locs B.cells B.slots ∧ Post ⟨T.setVm vm₁, locs, cells, slots⟩ argsL.toArray v B ∧
      ∀ target, Steps p.tables e below (B.U.setTop { g with pc := g.pc + 3, stack := v.toList ++ rest }) target → Steps p.tables e below (T.setTop g) target) ∨
    (∃ (q : Addr) (vm₁ : Vm) (B : Pt), s.WarmedH vm₁ ∧ Stand p l e R s m args below meth c B.U B.locs B.cells B.slots ∧ PostX ⟨T.setVm vm₁, locs, cells, slots⟩ argsL.toArray q B ∧
      Steps p.tables e below (T.setTop g) ((B.U.setTop { g with stack := rest }).pushFrame (.throwing q))) := by
  obtain ⟨mk, hnamed⟩ := Cond.code_named hcode
  obtain ⟨methM, cM, hmethM, -, -, -, -, -, -, hsigM⟩ := Cond.code_spec hnamed hcode
  have hstatic : methM.isStatic = true := Cond.static_spec hnamed hmethM hstat
  obtain ⟨kP, hkP, -⟩ := className_of_methodNamed hnamed
  have hinitP : kP.init = .initialized := Cond.initialized_spec (findClass_of_methodNamed hnamed) hkP hinit
  obtain ⟨vm₁, X₁, hstep₁⟩ := X.invokestatic hexec hown hlink hnamed hmethM hstatic hkP hinitP hy (g := g) hg (argsL := argsL) (rest := rest) (hlen _ hsigM) hstack hdg
  rcases hK m meth c ⟨T.setVm vm₁, locs, cells, slots⟩ { g with stack := rest } (.invokestatic index) mk argsL.toArray X₁ hg hsize hdg hW (X₁.named hnamed) (hpre vm₁ X₁.warmed) with ⟨v, B, X', hpost, hsteps⟩ | ⟨q, B, X', hpost, hsteps⟩
  · exact Or.inl ⟨v, vm₁, B, X₁.warmed, X', hpost, fun target h => hstep₁ _ fun acts => by rw [doInvoke_state]; exact hsteps.trans h⟩
  · exact Or.inr ⟨q, vm₁, B, X₁.warmed, X', hpost, hstep₁ _ fun acts => by rw [doInvoke_state]; exact hsteps⟩
end Calls
theorem vx_cls {s : State} {T : State} {vm₁ : Vm} {E : String} {k : ClassId} (hW : s.WarmedH vm₁) (h : (T.setVm vm₁).vm.findClass E = some k) : s.vm.findClass E = some k := by
  have h1 : vm₁.findClass E = some k := h
  rw [hW.alike.findClass] at h1
  exact h1
/-- the method's frame g, with q thrown over it -/
def vx_W (p : Program) (l : Launch) (e : Env) (R : Room) (s : State) (m : MethodId) (args : Array Value) (below : List Frame) (meth : Method) (c : Code) (H : Heap) (locs : List Loc) (cells slots : Nat) (Q : State → Prop) (g : JFrame) (q : Addr) : Prop :=
  ∀ T : State, T.heap = H → Stand p l e R s m args below meth c T locs cells slots → ∃ t, Steps p.tables e below ((T.setTop g).pushFrame (.throwing q)) t ∧ Q t
def vx_Run (p : Program) (l : Launch) (e : Env) (R : Room) (s : State) (m : MethodId) (args : Array Value) (below : List Frame) (meth : Method) (c : Code) (H : Heap) (locs : List Loc) (cells slots mc ms : Nat) (g : JFrame) (rest : List Value) (Qa : State → Outcome → State → Prop) (XC : String → State → State → Prop) (free : Addr → Prop) : Prop :=
  ∀ T : State, T.heap = H → Stand p l e R s m args below meth c T locs cells slots →
    (∃ (v : Option Value) (st₀ t T' : State) (L : List Loc), st₀.heap = H ∧ Stand p l e R s m args below meth c T' (locs ++ L) (cells + mc) (slots + ms) ∧ (∀ q ∈ L, free q.base) ∧ T'.heap = t.heap ∧ T'.vm = t.vm ∧ Qa st₀ (.returned v) t ∧
      Goes p e below T g T' { g with pc := g.pc + 3, stack := v.toList ++ rest }) ∨
    (∃ (q : Addr) (st₀ t T' : State) (L : List Loc) (E : String) (ce : Cell), st₀.heap = H ∧ Stand p l e R s m args below meth c T' (locs ++ L) (cells + mc) (slots + ms) ∧ (∀ z ∈ L, free z.base) ∧ T'.heap = t.heap ∧ T'.vm = t.vm ∧ XC E st₀ t ∧ t.heap[q]? = some ce ∧ ce.vm = .none ∧ s.vm.findClass E = some ce.cls ∧
      Steps p.tables e below (T.setTop g) ((T'.setTop { g with stack := rest }).pushFrame (.throwing q)))
def vx_X {S : Type} (px : S → Prop) (B : String → S → State → Prop) (A : Nat → Prop) : String → State → State → Prop := fun E st t => ∃ u : S, px u ∧ B E u t ∧ va_F A st t
section Runs
variable {p : Program} {l : Launch} {e : Env} {R : Room} {s : State} {m : MethodId} {args : Array Value} {below : List Frame} {meth : Method} {c : Code} {H : Heap} {locs : List Loc} {cells slots : Nat}
variable {y : MethodName} {bytes cc : ByteArray} {maxL nL mc ms n index : Nat} {ret : Option FieldType} {ws : List Cond} {rm : Room} {Pc : Array Value → State → Prop} {Qc : Array Value → State → Outcome → State → Prop} {XC : String → State → State → Prop} {free : Addr → Prop} {Ts : List Cond} {own C : String} {b : Addr} {As rest : List Value} {g : JFrame}
theorem vx_callBack (cb : CallB R s args own index y bytes maxL ret ws rm mc ms n) (hM : vx_Met l y ws rm Pc Qc XC mc ms free) (hbl : FrameBlind Pc) : vx_Back l R p e below s args y 3 8 (PreOf R mc ms Pc) (PostOf Qc mc ms free) (vx_Post XC mc ms free) := by
  obtain ⟨hrc, hrs, hfr, hlo, hws, hcw, -, hini, -⟩ := cb
  exact vx_back (bytes := bytes) (maxL := maxL) (ret := ret) hM hbl hrc hrs hfr hlo hws hcw (fun a' U hW => word_at hW (Or.inl (by first | rfl | simp [Cond.onTables, Cond.keeps, Cond.steady])) hini)
theorem vx_runV (S : CallFix p m c cc nL s args Ts own) (hM : vx_Met l y ws rm Pc Qc XC mc ms free) (cw : CallW R s args own C index y bytes maxL ret ws rm mc ms n) (hp : PreV s H C b Pc As)
    (hg : g.method = m) (hn : As.length = n) (hsize : g.locals.size = nL) (hstack : g.stack = As.reverse ++ .ref b :: rest) (hW : 2 * g.monitorRoom + (rest.map fun v => v.category).sum ≤ 8) (hdg : decode cc g.pc = .ok (.invokevirtual index, 3)) (hf : cells + mc ≤ R.cells ∧ slots + ms ≤ R.slots) :
    vx_Run p l e R s m args below meth c H locs cells slots mc ms g rest (Qc (Value.ref b :: As).toArray) XC free := by
  have hK : vx_Back l R p e below s args y 3 8 (PreOf R mc ms Pc) (PostOf Qc mc ms free) (vx_Post XC mc ms free) := vx_callBack cw.1 hM hp.1
  obtain ⟨⟨-, -, -, -, -, -, hcode, -, hy, hlen, hl⟩, hin, hse⟩ := cw
  obtain ⟨hx, hb, hml, ho, -⟩ := S
  obtain ⟨-, ⟨cellB, hcB, hoB, hclB⟩, hPc⟩ := hp
  intro T hT X
  rcases vx_callV X hx (C := C) (bytes := bytes) (maxL := maxL) (ret := ret) ho hl hin hse hcode hy hK (by rw [hT]; exact hcB) hoB hclB hg (hsize.trans hml.symm) (argsL := As) (rest := rest) (fun sig h => hn.trans (hlen sig h)) hstack hW (by rw [hb]; exact hdg)
    (fun vm₁ hW₁ => ⟨hf.1, hf.2, hPc (T.setVm vm₁) hT hW₁⟩) with ⟨v, vm₁, ⟨U', l2, c2, s2⟩, hW₁, X', ⟨g', mk, t, L, e1, e2, hq, h1, hL, h2, h3⟩, st⟩ | ⟨q, vm₁, ⟨U', l2, c2, s2⟩, hW₁, X', ⟨g', mk, t, L, E, ce, e1, e2, hq, hce, hcv, hcl, h1, hL, h2, h3⟩, st⟩
  · dsimp only [Pt.U, Pt.locs, Pt.cells, Pt.slots] at X' e1 e2 h1 h2 h3 st
    subst h1; subst h2; subst h3
    exact Or.inl ⟨v, (T.setVm vm₁).calling g' mk (Value.ref b :: As).toArray, t, U', L, hT, X', hL, e1, e2, hq, st⟩
  · dsimp only [Pt.U, Pt.locs, Pt.cells, Pt.slots] at X' e1 e2 h1 h2 h3 st hcl
    subst h1; subst h2; subst h3
    exact Or.inr ⟨q, (T.setVm vm₁).calling g' mk (Value.ref b :: As).toArray, t, U', L, E, ce, hT, X', hL, e1, e2, hq, hce, hcv, vx_cls hW₁ hcl, st⟩
theorem vx_runS (S : CallFix p m c cc nL s args Ts own) (hM : vx_Met l y ws rm Pc Qc XC mc ms free) (cw : CallB R s args own index y bytes maxL ret ws rm mc ms n ∧ (Cond.static y).before args s = true) (hp : PreS s H Pc As)
    (hg : g.method = m) (hn : As.length = n) (hsize : g.locals.size = nL) (hstack : g.stack = As.reverse ++ rest) (hW : 2 * g.monitorRoom + (rest.map fun v => v.category).sum ≤ 8) (hdg : decode cc g.pc = .ok (.invokestatic index, 3)) (hf : cells + mc ≤ R.cells ∧ slots + ms ≤ R.slots) :
    vx_Run p l e R s m args below meth c H locs cells slots mc ms g rest (Qc As.toArray) XC free := by
  have hK : vx_Back l R p e below s args y 3 8 (PreOf R mc ms Pc) (PostOf Qc mc ms free) (vx_Post XC mc ms free) := vx_callBack cw.1 hM hp.1
  obtain ⟨⟨-, -, -, -, -, -, hcode, hini, hy, hlen, hl⟩, hstt⟩ := cw
  obtain ⟨hx, hb, hml, ho, -⟩ := S
  intro T hT X
  rcases vx_callS X hx (bytes := bytes) (maxL := maxL) (ret := ret) ho hl hstt hini hcode hy hK hg (hsize.trans hml.symm) (argsL := As) (rest := rest) (fun sig h => hn.trans (hlen sig h)) hstack hW (by rw [hb]; exact hdg)
    (fun vm₁ hW₁ => ⟨hf.1, hf.2, hp.2 (T.setVm vm₁) hT hW₁⟩) with ⟨v, vm₁, ⟨U', l2, c2, s2⟩, hW₁, X', ⟨g', mk, t, L, e1, e2, hq, h1, hL, h2, h3⟩, st⟩ | ⟨q, vm₁, ⟨U', l2, c2, s2⟩, hW₁, X', ⟨g', mk, t, L, E, ce, e1, e2, hq, hce, hcv, hcl, h1, hL, h2, h3⟩, st⟩
  · dsimp only [Pt.U, Pt.locs, Pt.cells, Pt.slots] at X' e1 e2 h1 h2 h3 st
    subst h1; subst h2; subst h3
    exact Or.inl ⟨v, (T.setVm vm₁).calling g' mk As.toArray, t, U', L, hT, X', hL, e1, e2, hq, st⟩
  · dsimp only [Pt.U, Pt.locs, Pt.cells, Pt.slots] at X' e1 e2 h1 h2 h3 st hcl
    subst h1; subst h2; subst h3
    exact Or.inr ⟨q, (T.setVm vm₁).calling g' mk As.toArray, t, U', L, E, ce, hT, X', hL, e1, e2, hq, hce, hcv, vx_cls hW₁ hcl, st⟩
end Runs
section Rows
variable {p : Program} {l : Launch} {e : Env} {R : Room} {s : State} {m : MethodId} {args : Array Value} {below : List Frame} {meth : Method} {c : Code} {H : Heap} {locs : List Loc} {cells slots : Nat} {Q : State → Prop}
variable {mc ms : Nat} {free : Addr → Prop} {A0 A1 : Nat → Prop} {H0 : Heap} {a : Array Value} {pc : Nat} {ls : Array Slot} {st0 rest : List Value}
theorem vx_keep {st₀ t T' : State} {L : List Loc} (h0 : st₀.heap = H) (e1 : T'.heap = t.heap) (hS : va_S A0 H0 H locs) (hA : ∀ q, q < H.size → A1 q → A0 q) (hf : ∀ q, free q → A0 q) (hL : ∀ q ∈ L, free q.base) (hF : va_F A1 st₀ t) :
    H.size ≤ T'.heap.size ∧ (∀ q : Nat, q < H.size → ¬ A1 q → T'.heap[q]? = H[q]?) ∧ va_S A0 H0 T'.heap (locs ++ L) := by
  obtain ⟨hz, hk⟩ := hF
  rw [h0] at hz hk
  exact ⟨by rw [e1]; exact hz, fun q h1 h2 => by rw [e1]; exact hk q h1 h2,
    ⟨Nat.le_trans hS.1 (by rw [e1]; exact hz), fun q h1 h2 => by rw [e1, hk q (Nat.lt_of_lt_of_le h1 hS.1) (fun z => h2 (hA q (Nat.lt_of_lt_of_le h1 hS.1) z))]; exact hS.2.1 q h1 h2, fun q hq => by
      rcases List.mem_append.mp hq with h | h
      · exact hS.2.2 q h
      · exact hf _ (hL q h)⟩⟩
theorem vx_calli {S SX : Type} {post : Int32 → S → Prop} {px : SX → Prop} {B : S → State → Prop} {BX : String → SX → State → Prop} {AX : Nat → Prop} (hr : vx_Run p l e R s m args below meth c H locs cells slots mc ms (F0 m pc ls st0) rest (va_Qi post B A1 a) (vx_X px BX AX) free) (hS : va_S A0 H0 H locs) (hA : ∀ q, q < H.size → A1 q → A0 q) (hf : ∀ q, free q → A0 q) (hAX : ∀ q, q < H.size → AX q → A0 q)
    (kx : ∀ (E : String) (ce : Cell) (q9 : Addr) (u : SX) (t : State) (H1 : Heap) (locs1 : List Loc), t.heap = H1 → s.vm.Alike t.vm → px u → BX E u t → H.size ≤ H1.size → (∀ q : Nat, q < H.size → ¬ AX q → H1[q]? = H[q]?) → va_S A0 H0 H1 locs1 → H1[q9]? = some ce → ce.vm = .none → s.vm.findClass E = some ce.cls → vx_W p l e R s m args below meth c H1 locs1 (cells + mc) (slots + ms) Q (F0 m pc ls rest) q9)
    (kk : ∀ (r : Int32) (u : S) (t : State) (H1 : Heap) (locs1 : List Loc), t.heap = H1 → s.vm.Alike t.vm → post r u → B u t → H.size ≤ H1.size → (∀ q : Nat, q < H.size → ¬ A1 q → H1[q]? = H[q]?) → va_S A0 H0 H1 locs1 → W p l e R s m args below meth c H1 locs1 (cells + mc) (slots + ms) Q (F0 m (pc + 3) ls (.int r :: rest))) : W p l e R s m args below meth c H locs cells slots Q (F0 m pc ls st0) := by
  intro T hT X
  rcases hr T hT X with ⟨v, st₀, t, T', L, h0, X', hL, e1, e2, ⟨⟨r, u, hv, hp, hb⟩, hF⟩, st⟩ | ⟨q, st₀, t, T', L, E, ce, h0, X', hL, e1, e2, ⟨u, hp, hb, hF⟩, hce, hcv, hcl, st⟩
  · cases hv
    obtain ⟨k1, k2, k3⟩ := vx_keep h0 e1 hS hA hf hL hF
    obtain ⟨t2, a1, b1⟩ := kk r u t T'.heap (locs ++ L) e1.symm (by rw [← e2]; exact X'.warmed.alike) hp hb k1 k2 k3 T' rfl X'
    exact ⟨t2, st t2 a1, b1⟩
  · obtain ⟨k1, k2, k3⟩ := vx_keep h0 e1 hS hAX hf hL hF
    obtain ⟨t2, a1, b1⟩ := kx E ce q u t T'.heap (locs ++ L) e1.symm (by rw [← e2]; exact X'.warmed.alike) hp hb k1 k2 k3 (by rw [e1]; exact hce) hcv hcl T' rfl X'
    exact ⟨t2, st.trans a1, b1⟩
theorem vx_calll {S SX : Type} {post : Int64 → S → Prop} {px : SX → Prop} {B : S → State → Prop} {BX : String → SX → State → Prop} {AX : Nat → Prop} (hr : vx_Run p l e R s m args below meth c H locs cells slots mc ms (F0 m pc ls st0) rest (va_Ql post B A1 a) (vx_X px BX AX) free) (hS : va_S A0 H0 H locs) (hA : ∀ q, q < H.size → A1 q → A0 q) (hf : ∀ q, free q → A0 q) (hAX : ∀ q, q < H.size → AX q → A0 q)
    (kx : ∀ (E : String) (ce : Cell) (q9 : Addr) (u : SX) (t : State) (H1 : Heap) (locs1 : List Loc), t.heap = H1 → s.vm.Alike t.vm → px u → BX E u t → H.size ≤ H1.size → (∀ q : Nat, q < H.size → ¬ AX q → H1[q]? = H[q]?) → va_S A0 H0 H1 locs1 → H1[q9]? = some ce → ce.vm = .none → s.vm.findClass E = some ce.cls → vx_W p l e R s m args below meth c H1 locs1 (cells + mc) (slots + ms) Q (F0 m pc ls rest) q9)
    (kk : ∀ (r : Int64) (u : S) (t : State) (H1 : Heap) (locs1 : List Loc), t.heap = H1 → s.vm.Alike t.vm → post r u → B u t → H.size ≤ H1.size → (∀ q : Nat, q < H.size → ¬ A1 q → H1[q]? = H[q]?) → va_S A0 H0 H1 locs1 → W p l e R s m args below meth c H1 locs1 (cells + mc) (slots + ms) Q (F0 m (pc + 3) ls (.long r :: rest))) : W p l e R s m args below meth c H locs cells slots Q (F0 m pc ls st0) := by
  intro T hT X
  rcases hr T hT X with ⟨v, st₀, t, T', L, h0, X', hL, e1, e2, ⟨⟨r, u, hv, hp, hb⟩, hF⟩, st⟩ | ⟨q, st₀, t, T', L, E, ce, h0, X', hL, e1, e2, ⟨u, hp, hb, hF⟩, hce, hcv, hcl, st⟩
  · cases hv
    obtain ⟨k1, k2, k3⟩ := vx_keep h0 e1 hS hA hf hL hF
    obtain ⟨t2, a1, b1⟩ := kk r u t T'.heap (locs ++ L) e1.symm (by rw [← e2]; exact X'.warmed.alike) hp hb k1 k2 k3 T' rfl X'
    exact ⟨t2, st t2 a1, b1⟩
  · obtain ⟨k1, k2, k3⟩ := vx_keep h0 e1 hS hAX hf hL hF
    obtain ⟨t2, a1, b1⟩ := kx E ce q u t T'.heap (locs ++ L) e1.symm (by rw [← e2]; exact X'.warmed.alike) hp hb k1 k2 k3 (by rw [e1]; exact hce) hcv hcl T' rfl X'
    exact ⟨t2, st.trans a1, b1⟩
theorem vx_callf {S SX : Type} {post : UInt32 → S → Prop} {px : SX → Prop} {B : S → State → Prop} {BX : String → SX → State → Prop} {AX : Nat → Prop} (hr : vx_Run p l e R s m args below meth c H locs cells slots mc ms (F0 m pc ls st0) rest (va_Qf post B A1 a) (vx_X px BX AX) free) (hS : va_S A0 H0 H locs) (hA : ∀ q, q < H.size → A1 q → A0 q) (hf : ∀ q, free q → A0 q) (hAX : ∀ q, q < H.size → AX q → A0 q)
    (kx : ∀ (E : String) (ce : Cell) (q9 : Addr) (u : SX) (t : State) (H1 : Heap) (locs1 : List Loc), t.heap = H1 → s.vm.Alike t.vm → px u → BX E u t → H.size ≤ H1.size → (∀ q : Nat, q < H.size → ¬ AX q → H1[q]? = H[q]?) → va_S A0 H0 H1 locs1 → H1[q9]? = some ce → ce.vm = .none → s.vm.findClass E = some ce.cls → vx_W p l e R s m args below meth c H1 locs1 (cells + mc) (slots + ms) Q (F0 m pc ls rest) q9)
    (kk : ∀ (r : UInt32) (u : S) (t : State) (H1 : Heap) (locs1 : List Loc), t.heap = H1 → s.vm.Alike t.vm → post r u → B u t → H.size ≤ H1.size → (∀ q : Nat, q < H.size → ¬ A1 q → H1[q]? = H[q]?) → va_S A0 H0 H1 locs1 → W p l e R s m args below meth c H1 locs1 (cells + mc) (slots + ms) Q (F0 m (pc + 3) ls (.float r :: rest))) : W p l e R s m args below meth c H locs cells slots Q (F0 m pc ls st0) := by
  intro T hT X
  rcases hr T hT X with ⟨v, st₀, t, T', L, h0, X', hL, e1, e2, ⟨⟨r, u, hv, hp, hb⟩, hF⟩, st⟩ | ⟨q, st₀, t, T', L, E, ce, h0, X', hL, e1, e2, ⟨u, hp, hb, hF⟩, hce, hcv, hcl, st⟩
  · cases hv
    obtain ⟨k1, k2, k3⟩ := vx_keep h0 e1 hS hA hf hL hF
    obtain ⟨t2, a1, b1⟩ := kk r u t T'.heap (locs ++ L) e1.symm (by rw [← e2]; exact X'.warmed.alike) hp hb k1 k2 k3 T' rfl X'
    exact ⟨t2, st t2 a1, b1⟩
  · obtain ⟨k1, k2, k3⟩ := vx_keep h0 e1 hS hAX hf hL hF
    obtain ⟨t2, a1, b1⟩ := kx E ce q u t T'.heap (locs ++ L) e1.symm (by rw [← e2]; exact X'.warmed.alike) hp hb k1 k2 k3 (by rw [e1]; exact hce) hcv hcl T' rfl X'
    exact ⟨t2, st.trans a1, b1⟩
theorem vx_calld {S SX : Type} {post : UInt64 → S → Prop} {px : SX → Prop} {B : S → State → Prop} {BX : String → SX → State → Prop} {AX : Nat → Prop} (hr : vx_Run p l e R s m args below meth c H locs cells slots mc ms (F0 m pc ls st0) rest (va_Qd post B A1 a) (vx_X px BX AX) free) (hS : va_S A0 H0 H locs) (hA : ∀ q, q < H.size → A1 q → A0 q) (hf : ∀ q, free q → A0 q) (hAX : ∀ q, q < H.size → AX q → A0 q)
    (kx : ∀ (E : String) (ce : Cell) (q9 : Addr) (u : SX) (t : State) (H1 : Heap) (locs1 : List Loc), t.heap = H1 → s.vm.Alike t.vm → px u → BX E u t → H.size ≤ H1.size → (∀ q : Nat, q < H.size → ¬ AX q → H1[q]? = H[q]?) → va_S A0 H0 H1 locs1 → H1[q9]? = some ce → ce.vm = .none → s.vm.findClass E = some ce.cls → vx_W p l e R s m args below meth c H1 locs1 (cells + mc) (slots + ms) Q (F0 m pc ls rest) q9)
    (kk : ∀ (r : UInt64) (u : S) (t : State) (H1 : Heap) (locs1 : List Loc), t.heap = H1 → s.vm.Alike t.vm → post r u → B u t → H.size ≤ H1.size → (∀ q : Nat, q < H.size → ¬ A1 q → H1[q]? = H[q]?) → va_S A0 H0 H1 locs1 → W p l e R s m args below meth c H1 locs1 (cells + mc) (slots + ms) Q (F0 m (pc + 3) ls (.double r :: rest))) : W p l e R s m args below meth c H locs cells slots Q (F0 m pc ls st0) := by
  intro T hT X
  rcases hr T hT X with ⟨v, st₀, t, T', L, h0, X', hL, e1, e2, ⟨⟨r, u, hv, hp, hb⟩, hF⟩, st⟩ | ⟨q, st₀, t, T', L, E, ce, h0, X', hL, e1, e2, ⟨u, hp, hb, hF⟩, hce, hcv, hcl, st⟩
  · cases hv
    obtain ⟨k1, k2, k3⟩ := vx_keep h0 e1 hS hA hf hL hF
    obtain ⟨t2, a1, b1⟩ := kk r u t T'.heap (locs ++ L) e1.symm (by rw [← e2]; exact X'.warmed.alike) hp hb k1 k2 k3 T' rfl X'
    exact ⟨t2, st t2 a1, b1⟩
  · obtain ⟨k1, k2, k3⟩ := vx_keep h0 e1 hS hAX hf hL hF
    obtain ⟨t2, a1, b1⟩ := kx E ce q u t T'.heap (locs ++ L) e1.symm (by rw [← e2]; exact X'.warmed.alike) hp hb k1 k2 k3 (by rw [e1]; exact hce) hcv hcl T' rfl X'
    exact ⟨t2, st.trans a1, b1⟩
theorem vx_callv {S SX : Type} {post : S → Prop} {px : SX → Prop} {B : S → State → Prop} {BX : String → SX → State → Prop} {AX : Nat → Prop} (hr : vx_Run p l e R s m args below meth c H locs cells slots mc ms (F0 m pc ls st0) rest (va_Qv post B A1 a) (vx_X px BX AX) free) (hS : va_S A0 H0 H locs) (hA : ∀ q, q < H.size → A1 q → A0 q) (hf : ∀ q, free q → A0 q) (hAX : ∀ q, q < H.size → AX q → A0 q)
    (kx : ∀ (E : String) (ce : Cell) (q9 : Addr) (u : SX) (t : State) (H1 : Heap) (locs1 : List Loc), t.heap = H1 → s.vm.Alike t.vm → px u → BX E u t → H.size ≤ H1.size → (∀ q : Nat, q < H.size → ¬ AX q → H1[q]? = H[q]?) → va_S A0 H0 H1 locs1 → H1[q9]? = some ce → ce.vm = .none → s.vm.findClass E = some ce.cls → vx_W p l e R s m args below meth c H1 locs1 (cells + mc) (slots + ms) Q (F0 m pc ls rest) q9)
    (kk : ∀ (u : S) (t : State) (H1 : Heap) (locs1 : List Loc), t.heap = H1 → s.vm.Alike t.vm → post u → B u t → H.size ≤ H1.size → (∀ q : Nat, q < H.size → ¬ A1 q → H1[q]? = H[q]?) → va_S A0 H0 H1 locs1 → W p l e R s m args below meth c H1 locs1 (cells + mc) (slots + ms) Q (F0 m (pc + 3) ls (rest))) : W p l e R s m args below meth c H locs cells slots Q (F0 m pc ls st0) := by
  intro T hT X
  rcases hr T hT X with ⟨v, st₀, t, T', L, h0, X', hL, e1, e2, ⟨⟨u, hv, hp, hb⟩, hF⟩, st⟩ | ⟨q, st₀, t, T', L, E, ce, h0, X', hL, e1, e2, ⟨u, hp, hb, hF⟩, hce, hcv, hcl, st⟩
  · cases hv
    obtain ⟨k1, k2, k3⟩ := vx_keep h0 e1 hS hA hf hL hF
    obtain ⟨t2, a1, b1⟩ := kk u t T'.heap (locs ++ L) e1.symm (by rw [← e2]; exact X'.warmed.alike) hp hb k1 k2 k3 T' rfl X'
    exact ⟨t2, st t2 a1, b1⟩
  · obtain ⟨k1, k2, k3⟩ := vx_keep h0 e1 hS hAX hf hL hF
    obtain ⟨t2, a1, b1⟩ := kx E ce q u t T'.heap (locs ++ L) e1.symm (by rw [← e2]; exact X'.warmed.alike) hp hb k1 k2 k3 (by rw [e1]; exact hce) hcv hcl T' rfl X'
    exact ⟨t2, st.trans a1, b1⟩
/-- caught by the row x of this method's table; the rows ahead don't take it -/
theorem vx_catch {own name : String} {E : String} {ce : Cell} {q : Addr} (hown : s.vm.findClass own = some m.cls) (pre : List ExceptionTableEntry) (x : ExceptionTableEntry) (suf : List ExceptionTableEntry) (hsplit : c.exceptionTable.toList = pre ++ x :: suf)
    (hpass : ∀ z ∈ pre, covers z pc = false ∨ (z.catchType ≠ 0 ∧ ∃ nm : String, (Cond.classLink own z.catchType nm).before args s = true ∧ va_Nc E nm s)) (hx : covers x pc = true) (h0 : x.catchType ≠ 0)
    (hlink : (Cond.classLink own x.catchType name).before args s = true) (hcast : (Cond.castable E name).before args s = true) (hcell : H[q]? = some ce) (hv : ce.vm = .none) (hcl : s.vm.findClass E = some ce.cls)
    (kk : W p l e R s m args below meth c H locs cells slots Q (F0 m x.handlerPc ls [.ref q])) : vx_W p l e R s m args below meth c H locs cells slots Q (F0 m pc ls rest) q := by
  intro T hT X
  have hpl : e.platform.magicAccessors = ({} : Platform).magicAccessors := by rw [X.admits.platform]
  obtain ⟨c3, c4, hc3, hc4, hasg⟩ := Cond.castable_spec hcast
  cases Option.some.inj (hc3.symm.trans hcl)
  obtain ⟨c5, hc5, hcl5⟩ := Cond.classLink_spec hown hlink e.platform hpl
  cases Option.some.inj (hc4.symm.trans hc5)
  obtain ⟨vm', X', st⟩ := mx_caught X q (g := F0 m pc ls rest) rfl (by rw [hT]; exact hcell) (by rw [hv]; rfl) (by obtain ⟨k9, h9, -⟩ := Vm.findClass_spec hcl; exact ⟨k9, h9⟩) pre x suf hsplit
    (fun z hz => by
      rcases hpass z hz with h | ⟨hz0, nm, hl1, hn1⟩
      · exact Or.inl h
      · obtain ⟨c6, hc6, hcl6⟩ := Cond.classLink_spec hown hl1 e.platform hpl
        obtain ⟨a8, b8, h1, h2, h3⟩ := hn1
        cases Option.some.inj (h1.symm.trans hcl)
        cases Option.some.inj (h2.symm.trans hc6)
        exact Or.inr ⟨hz0, _, hcl6, h3⟩) hx h0 hcl5 hasg
  obtain ⟨t, a1, b1⟩ := kk (T.setVm vm') hT X'
  exact ⟨t, st.trans a1, b1⟩
end Rows
section Ends
variable {p : Program} {l : Launch} {e : Env} {R : Room} {s : State} {m : MethodId} {args : Array Value} {below : List Frame} {meth : Method} {c : Code} {H : Heap} {locs : List Loc} {cells slots : Nat} {Q : State → Prop}
variable {mc ms : Nat} {free : Addr → Prop} {A0 A1 : Nat → Prop} {H0 : Heap} {a : Array Value} {ls : Array Slot} {st0 rest : List Value}
variable {Qc : Array Value → State → Outcome → State → Prop} {XC : String → State → State → Prop}
/-- what a body that may throw owes at its end -/
def vx_MQ (below : List Frame) (Qc : Array Value → State → Outcome → State → Prop) (XC : String → State → State → Prop) (a : Array Value) (s : State) (mc ms : Nat) (free : Addr → Prop) : State → Prop := fun t =>
  ∃ o, t.status = .running ∧ Ended t below o ∧ vx_Q Qc XC mc ms free a s o t
theorem vx_ret {g : JFrame} {mc ms : Nat} (k : W p l e R s m args below meth c H locs cells slots (MQ below Qc args s mc ms free) g) : W p l e R s m args below meth c H locs cells slots (vx_MQ below Qc XC args s mc ms free) g := by
  intro T hT X
  obtain ⟨t, a1, o, b1, b2, b3, b4⟩ := k T hT X
  exact ⟨t, a1, o, b1, b2, Or.inl ⟨b3, b4⟩⟩
/-- not caught here: it goes on to the caller -/
theorem vx_widen {g : JFrame} {q : Addr} {k n : Nat} (h1 : cells ≤ k) (h2 : slots ≤ n) (kk : vx_W p l e R s m args below meth c H locs k n Q g q) : vx_W p l e R s m args below meth c H locs cells slots Q g q := fun T hT X => kk T hT (stand_widen X h1 h2)
theorem vx_out {pc : Nat} {E : String} {ce : Cell} {q : Addr} {mc ms : Nat} (hout : ∀ x ∈ c.exceptionTable.toList, covers x pc = false) (hlocks : meth.locks = false) (hcell : H[q]? = some ce) (hv : ce.vm = .none) (hcl : s.vm.findClass E = some ce.cls)
    (hx : ∀ t : State, t.heap = H → s.vm.Alike t.vm → XC E s t) (hf : ∀ z ∈ locs, free z.base) (hc : cells ≤ mc) (hs : slots ≤ ms) :
    vx_W p l e R s m args below meth c H locs cells slots (vx_MQ below Qc XC args s mc ms free) (F0 m pc ls rest) q := by
  intro T hT X
  obtain ⟨st1, hrun, hend, hW, hsm⟩ := X.leaveThrown q (g := F0 m pc ls rest) rfl rfl rfl hout hlocks
  have hcell9 : (T.setFrames (.throwing q :: below)).heap[q]? = some ce := by
    show T.heap[q]? = some ce
    rw [hT]; exact hcell
  exact ⟨_, st1, .threw q, hrun, hend, Or.inr ⟨q, rfl, E, ce, locs, hx _ hT hW.alike, hcell9, hv, hcl, hW, hsm.mono hc hs, hf⟩⟩
theorem vx_frame {U : State} {k n : Nat} (h : s.sameButNew ({ U with vm := s.vm } : State) locs k n) : s.heap.size ≤ U.heap.size ∧ ∀ q : Nat, q < s.heap.size → (∀ z ∈ locs, z.base ≠ q) → U.heap[q]? = s.heap[q]? := by
  obtain ⟨-, h2, -, -, -, h6⟩ := h
  refine ⟨h2, fun q hq hz => ?_⟩
  obtain ⟨c9, e1, e2, e3, e4⟩ := h6 q _ (Array.getElem?_eq_getElem hq)
  have hs : c9.slots = (s.heap[q]).slots := Array.ext_getElem? fun i => e4 i fun hm => hz _ hm rfl
  have h9 : c9 = s.heap[q] := by
    rw [hs] at e2
    exact e2
  have e5 : U.heap[q]? = some c9 := e1
  rw [e5, h9, Array.getElem?_eq_getElem hq]
/-- the words of a throw but the four that speak of the heap -/
def vx_no (w : Cond) : Bool := decide (w ≠ .isRef (.static Bundle.tN "UNASSIGNED_STACK" Bundle.steD)) && decide (w ≠ .isRef (.static Bundle.tN "SUPPRESSED_SENTINEL" Bundle.listD)) && decide (w ≠ .laysStatic Bundle.tN "UNASSIGNED_STACK" Bundle.steD) && decide (w ≠ .laysStatic Bundle.tN "SUPPRESSED_SENTINEL" Bundle.listD)
def vx_at0 (own : String) (ic : Nat) (X : String) (names : List String) : List Cond := (Bundle.ownAtoms0 own ic X names).filter vx_no
def vx_atS (own : String) (ic : Nat) (X : String) (names : List String) : List Cond := (Bundle.ownAtoms own ic X names).filter vx_no
/-- a word that the tables alone decide, or a good one -/
def vx_ot (w : Cond) : Bool := w.onTables || goodWord w
theorem vx_ot_at {args a' : Array Value} {s U : State} {w : Cond} (hW : s.WarmedH U.vm) (hvm : s.vm = U.vm) (hg : vx_ot w = true) (h : w.before args s = true) : w.before a' U = true := by
  simp only [vx_ot, Bool.or_eq_true] at hg
  rcases hg with hg | hg
  · exact va_tabs hg hvm h
  · exact word_at hW (good_of_word hg) h
/-- a list's words: the good ones out of the method's own list, the others by premises of their own -/
theorem vx_hat {args : Array Value} {s : State} {L B : List Cond} (h1 : ∀ w ∈ L.filter goodWord, w.before args s = true) (h2 : ∀ w ∈ L.filter (fun w => !goodWord w), w ∈ B) (h3 : ∀ w ∈ B, w.before args s = true) : ∀ w ∈ L, w.before args s = true := by
  intro w hw
  by_cases g : goodWord w = true
  · exact h1 w (List.mem_filter.mpr ⟨hw, g⟩)
  · refine h3 w (h2 w (List.mem_filter.mpr ⟨hw, ?_⟩))
    show (!goodWord w) = true
    cases hgw : goodWord w
    · rfl
    · exact absurd hgw g
theorem vx_c {args : Array Value} {s : State} {w : Cond} {B : List Cond} (h : w.before args s = true) (t : ∀ w ∈ B, w.before args s = true) : ∀ w' ∈ w :: B, w'.before args s = true := fun w' h' => (List.mem_cons.mp h').elim (fun e => by rw [e]; exact h) (t w')
theorem vx_n {args : Array Value} {s : State} : ∀ w ∈ ([] : List Cond), w.before args s = true := fun _ h => nomatch h
theorem vx_own {args : Array Value} {s : State} {L : List Cond} (h1 : ∀ w ∈ L.filter vx_no, w.before args s = true)
    (hU : (Cond.isRef (.static Bundle.tN "UNASSIGNED_STACK" Bundle.steD)).before args s = true) (hN : (Cond.isRef (.static Bundle.tN "SUPPRESSED_SENTINEL" Bundle.listD)).before args s = true)
    (lU : (Cond.laysStatic Bundle.tN "UNASSIGNED_STACK" Bundle.steD).before args s = true) (lN : (Cond.laysStatic Bundle.tN "SUPPRESSED_SENTINEL" Bundle.listD).before args s = true) : ∀ w ∈ L, w.before args s = true := by
  intro w hw
  by_cases e1 : w = .isRef (.static Bundle.tN "UNASSIGNED_STACK" Bundle.steD)
  · rw [e1]; exact hU
  · by_cases e2 : w = .isRef (.static Bundle.tN "SUPPRESSED_SENTINEL" Bundle.listD)
    · rw [e2]; exact hN
    · by_cases e3 : w = .laysStatic Bundle.tN "UNASSIGNED_STACK" Bundle.steD
      · rw [e3]; exact lU
      · by_cases e4 : w = .laysStatic Bundle.tN "SUPPRESSED_SENTINEL" Bundle.listD
        · rw [e4]; exact lN
        · exact h1 w (List.mem_filter.mpr ⟨hw, by unfold vx_no; rw [decide_eq_true e1, decide_eq_true e2, decide_eq_true e3, decide_eq_true e4]; rfl⟩)
/-- where a static field lies, its class's statics cell in H -/
def vx_L (C n d : String) (A : Nat → Prop) (U : State) (H : Heap) : Prop := ∃ (c : ClassId) (k : Class) (i : Nat) (f : Field) (a : Nat) (cell : Cell), U.vm.findClass C = some c ∧ U.fieldFound? C n d = some (c, k, i, f) ∧ f.isStatic = true ∧ k.statics = some a ∧ H[a]? = some cell ∧ cell.vm.isStatics = true ∧ cell.cls = c ∧ f.slot < cell.slots.size ∧ k.staticTypes[f.slot]? = some f.type ∧ ¬ A a
theorem vx_L.moved {C n d : String} {A : Nat → Prop} {u U : State} {H : Heap} (hvm : u.vm.Alike U.vm) (h : vx_L C n d A u H) : vx_L C n d A U H := by
  obtain ⟨c, k, i, f, a, cell, h1, h2, h3, h4, h5, h6, h7, h8, h9, h10⟩ := h
  obtain ⟨k', hi', he⟩ := State.fieldFound?_setVm hvm h2
  exact ⟨c, k', i, f, a, cell, by rw [hvm.findClass]; exact h1, hi', h3, by rw [he]; exact h4, h5, h6, h7, h8, by rw [he]; exact h9, h10⟩
theorem vx_L.kept {C n d : String} {A : Nat → Prop} {U : State} {H H1 : Heap} (h : vx_L C n d A U H) (hq : ∀ a : Nat, a < H.size → ¬ A a → H1[a]? = H[a]?) : vx_L C n d A U H1 := by
  obtain ⟨c, k, i, f, a, cell, h1, h2, h3, h4, h5, h6, h7, h8, h9, h10⟩ := h
  exact ⟨c, k, i, f, a, cell, h1, h2, h3, h4, by rw [hq a (Array.getElem?_eq_some_iff.mp h5).1 h10]; exact h5, h6, h7, h8, h9, h10⟩
theorem vx_L.narrow {C n d : String} {A B : Nat → Prop} {U : State} {H : Heap} (h : vx_L C n d A U H) (hAB : ∀ q, B q → A q) : vx_L C n d B U H := by
  obtain ⟨c, k, i, f, a, cell, h1, h2, h3, h4, h5, h6, h7, h8, h9, h10⟩ := h
  exact ⟨c, k, i, f, a, cell, h1, h2, h3, h4, h5, h6, h7, h8, h9, fun z => h10 (hAB _ z)⟩
theorem vx_L.word {C n d : String} {A : Nat → Prop} {s : State} {args : Array Value} (h : vx_L C n d A s s.heap) : (Cond.laysStatic C n d).before args s = true := by
  obtain ⟨c, k, i, f, a, cell, h1, h2, h3, h4, h5, h6, h7, h8, h9, -⟩ := h
  show (Cond.laysStatic C n d).holds args s none s [] = true
  exact Cond.laysStatic_of h1 h2 h3 h4 h5 h6 h7 h8 h9
/-- .. and what it holds: null or some reference -/
def vx_Zq (C n d : String) (A : Nat → Prop) (U : State) (H : Heap) : Prop := va_Zq C n d A U H ∧ vx_L C n d A U H
theorem vx_Zq.moved {C n d : String} {A : Nat → Prop} {u U : State} {H : Heap} (hvm : u.vm.Alike U.vm) (h : vx_Zq C n d A u H) : vx_Zq C n d A U H := ⟨va_Zq.moved hvm h.1, vx_L.moved hvm h.2⟩
theorem vx_Zq.kept {C n d : String} {A : Nat → Prop} {U : State} {H H1 : Heap} (h : vx_Zq C n d A U H) (hq : ∀ a : Nat, a < H.size → ¬ A a → H1[a]? = H[a]?) : vx_Zq C n d A U H1 := ⟨va_Zq.kept h.1 hq, vx_L.kept h.2 hq⟩
theorem vx_Zq.narrow {C n d : String} {A B : Nat → Prop} {U : State} {H : Heap} (h : vx_Zq C n d A U H) (hAB : ∀ q, B q → A q) : vx_Zq C n d B U H := ⟨va_Zq.narrow h.1 hAB, vx_L.narrow h.2 hAB⟩
theorem vx_Zqof {args : Array Value} {s : State} {C n d : String} {A : Nat → Prop} (hl : (Cond.laysStatic C n d).before args s = true) (hini : (Cond.initialized C).before args s = true) (h : (Cond.isRef (.static C n d)).before args s = true) (hA : ∀ a : Nat, a < s.heap.size → ¬ A a) : vx_Zq C n d A s s.heap := by
  refine ⟨va_Zqof hl hini h hA, ?_⟩
  obtain ⟨c, k, i, f, a, cell, h1, h2, h3, h4, h5, h6, h7, h8, h9⟩ := Cond.laysStatic_spec hl
  exact ⟨c, k, i, f, a, cell, h1, h2, h3, h4, h5, h6, h7, h8, h9, hA a (Array.getElem?_eq_some_iff.mp h5).1⟩
theorem vx_isRef {C n d : String} {v : Value} {A : Nat → Prop} {s : State} {args : Array Value} (h : va_Z C n d v A s s.heap) (hv : v.isRef = true) : (Cond.isRef (.static C n d)).before args s = true := by
  obtain ⟨cf, kf, fi, f, a, cell, h1, h2, h3, h4, h5, h6, h7, -⟩ := h
  have he : (Term.static C n d).eval args s none [] s = some v := by
    simp [Term.eval, State.fieldNamed?, h1, h2, h4, h5, h6, h7]
  simp only [Cond.before, Cond.holds, Cond.value, he]
  cases v <;> simp_all [Value.isRef]
theorem vx_isRefq {C n d : String} {A : Nat → Prop} {s : State} {args : Array Value} (h : va_Zq C n d A s s.heap) : (Cond.isRef (.static C n d)).before args s = true := by
  rcases h with h | ⟨t, h⟩
  · exact vx_isRef h rfl
  · exact vx_isRef h rfl
/-- the same frame, seen from here: as if the method were called anew in this heap -/
theorem vx_rebase {T : State} (X : Stand p l e R s m args below meth c T locs cells slots) {R' : Room} (hf : R'.frames ≤ R.frames) (hl : R'.locals ≤ R.locals) (hc : cells + R'.cells ≤ R.cells) (hs : slots + R'.slots ≤ R.slots) :
    Stand p l e R' ((T.setVm s.vm).setFrames (.invoking m args :: below)) m args below meth c T [] 0 0 := by
  have htop : (T.setVm s.vm).topJava?.isSome := X.here.top
  have hF : ((T.setVm s.vm).setFrames (.invoking m args :: below)).frames = .invoking m args :: below := State.frames_setFrames _ (State.cur_lt_of_top htop)
  obtain ⟨g₀, hg0⟩ := Option.isSome_iff_exists.mp htop
  obtain ⟨r, hr⟩ := State.topJava?_eq_some.mp hg0
  have hl9 : e.platform.stackLimits (T.setVm s.vm).me = e.platform.stackLimits s.me := X.limits
  have hb9 : (T.setVm s.vm).me.stackBytes = s.me.stackBytes := X.bytes
  refine ⟨X.admits, X.cas, X.clock, hF, ?_, X.hears, X.method, X.code, X.here, X.tail, X.warmed, ?_, ?_, ?_⟩
  · have h := X.room
    have hU : ((T.setVm s.vm).setFrames (.invoking m args :: below)).localsInUse = s.localsInUse := by
      rw [State.localsInUse_invoking hF (meth := meth) (c := c) X.method X.code, State.localsInUse_invoking X.frames X.method X.code]
    simp only [State.hasRoom, Bool.and_eq_true, decide_eq_true_eq] at h ⊢
    obtain ⟨⟨⟨⟨h1, h2, h3, h4, h5, h6⟩, h7⟩, h8⟩, h9⟩ := h
    rw [X.frames, List.length_cons] at h2 h3
    have q1 := X.heapSize
    have q2 := X.used
    simp only [hF, hU, List.length_cons, State.stackLimits_setFrames, State.stackBytes_setFrames, hl9, hb9]
    refine ⟨⟨⟨⟨by omega, by omega, by omega, by omega, by omega, h6⟩, ?_⟩, ?_⟩, X.book⟩
    · show T.heap.size + R'.cells ≤ e.platform.maxCells
      omega
    · show T.slotsUsed + R'.slots ≤ e.platform.maxSlots
      omega
  · rw [State.stackLimits_setFrames]; rfl
  · rw [State.stackBytes_setFrames]; rfl
  · refine ⟨?_, Nat.le_refl _, Nat.le_refl _, ?_, ?_, fun a c9 h9 => ⟨c9, h9, rfl, rfl, fun _ _ => rfl⟩⟩
    · obtain ⟨t, ht, -⟩ := State.frames_cons hr
      show T.setVm s.vm = { ((T.setVm s.vm).setFrames (.invoking m args :: below)).setFrames (T.setVm s.vm).frames with heap := T.heap, slotsUsed := T.slotsUsed }
      rw [State.setFrames_setFrames, State.setFrames_self ht]
      rfl
    · show T.slotsUsed = T.slotsUsed + ((T.heap.toList.drop T.heap.size).map (·.slots.size)).sum
      rw [List.drop_eq_nil_of_le (Nat.le_of_eq Array.length_toList)]
      rfl
    · show ((T.heap.toList.drop T.heap.size).map (·.slots.size)).sum ≤ 0
      rw [List.drop_eq_nil_of_le (Nat.le_of_eq Array.length_toList)]
      exact Nat.le_refl _
/-- 'throw new E()': new; dup; invokespecial; athrow -/
theorem vx_throw0 {cc : ByteArray} {pc : Nat} (hexec : p.tables.exec = Jvm.exec) (hb : c.code = cc) (hl : l.stackTraces = false) {own cls : String} {names : List String} {ik ic mc ms : Nat} {A : Nat → Prop}
    (hown : s.vm.findClass own = some m.cls) (hcls : Bundle.fit cls = true) (hnames : ∀ n ∈ names, Bundle.fit n = true)
    (hk : (Cond.classLink own ik cls).before args s = true) (hini : (Cond.initialized cls).before args s = true) (hat : ∀ w ∈ vx_at0 own ic cls names, w.before args s = true)
    (hgood : ∀ w ∈ Cond.classLink own ik cls :: Cond.initialized cls :: vx_at0 own ic cls names, vx_ot w = true)
    (hU : vx_Zq Bundle.tN "UNASSIGNED_STACK" Bundle.steD A s s.heap) (hN : vx_Zq Bundle.tN "SUPPRESSED_SENTINEL" Bundle.listD A s s.heap) (hS : va_S A s.heap H locs) (hsize : ls.size = c.maxLocals)
    (d0 : decode cc pc = .ok (.new ik, 3)) (d3 : decode cc (pc + 3) = .ok (.dup, 1)) (d4 : decode cc (pc + 4) = .ok (.invokespecial ic, 3)) (d7 : decode cc (pc + 7) = .ok (.athrow, 1))
    (hout : ∀ x ∈ c.exceptionTable.toList, covers x (pc + 7) = false)
    (hRframes : names.length + 3 < R.frames) (hRlocals : (rest.map fun v => v.category).sum + (13 * (names.length + 1) + 42) ≤ R.locals) (hRcells : cells + 1 ≤ R.cells) (hRslots : slots + 6 ≤ R.slots) (hlocks : meth.locks = false)
    (hx : ∀ t : State, s.vm.Alike t.vm → H.size ≤ t.heap.size → (∀ q : Nat, q < H.size → t.heap[q]? = H[q]?) → XC cls s t)
    (hf : ∀ z ∈ locs, free z.base) (hc : cells + 1 ≤ mc) (hs : slots + 6 ≤ ms) :
    W p l e R s m args below meth c H locs cells slots (vx_MQ below Qc XC args s mc ms free) (F0 m pc ls rest) := by
  intro T hT X
  have htr : e.platform.stackTraces = false := (show e.platform.stackTraces = l.stackTraces by rw [X.admits.platform]).trans hl
  have Y := vx_rebase X (R' := { frames := R.frames, locals := R.locals, cells := 1, slots := 6 }) (Nat.le_refl _) (Nat.le_refl _) hRcells hRslots
  obtain ⟨s', hA⟩ : ∃ z, z = (T.setVm s.vm).setFrames (.invoking m args :: below) := ⟨_, rfl⟩
  rw [← hA] at Y
  have hvm : s'.vm = s.vm := by rw [hA]; rfl
  have hhp : s'.heap = H := by rw [hA]; exact hT
  have hW0 : s.WarmedH s'.vm := by rw [hvm]; exact State.WarmedH.refl s
  have hat' : ∀ w ∈ vx_at0 own ic cls names, w.before args s' = true := fun w hw => vx_ot_at hW0 hvm.symm (hgood w (List.mem_cons_of_mem _ (List.mem_cons_of_mem _ hw))) (hat w hw)
  have hk' : (Cond.classLink own ik cls).before args s' = true := vx_ot_at hW0 hvm.symm (hgood _ List.mem_cons_self) hk
  have hini' : (Cond.initialized cls).before args s' = true := vx_ot_at hW0 hvm.symm (hgood _ (List.mem_cons_of_mem _ List.mem_cons_self)) hini
  have hU' : vx_Zq Bundle.tN "UNASSIGNED_STACK" Bundle.steD A s' s'.heap := by rw [hhp]; exact vx_Zq.moved hW0.alike (hU.kept hS.2.1)
  have hN' : vx_Zq Bundle.tN "SUPPRESSED_SENTINEL" Bundle.listD A s' s'.heap := by rw [hhp]; exact vx_Zq.moved hW0.alike (hN.kept hS.2.1)
  have h : ∀ w ∈ Bundle.ownAtoms0 own ic cls names, w.before args s' = true := vx_own hat' (vx_isRefq hU'.1) (vx_isRefq hN'.1) hU'.2.word hN'.2.word
  have hown' : s'.vm.findClass own = some m.cls := by rw [hvm]; exact hown
  have hins : (Cond.instantiable cls 6).before args s' = true := h _ (by simp [Bundle.ownAtoms0])
  obtain ⟨vm₁, cX, kX, hfX, hkX, -, -, X₁, st1⟩ := Y.newCold hexec (own := own) (C := cls) (index := ik) (n := 6) hown' hk' hins hini'
    (g := F0 m pc ls rest) rfl (by rw [hb]; exact d0) (Nat.le_refl _) (Nat.le_refl _)
  generalize hT1 : (T.setVm vm₁).pushCell { cls := cX, slots := kX.instanceTypes.map defaultValue, vm := .none } = T1 at X₁ st1
  have hcat : (Value.ref T.heap.size).category = 1 := rfl
  have hcellA : T1.heap[T.heap.size]? = some (freshCell cX kX) := by rw [← hT1]; exact State.heap_pushCell_size _ _
  have d3' : decode c.code (pc + 3) = .ok (.dup, 1) := by rw [hb]; exact d3
  obtain ⟨U, hsteps, hrun, hend, hW, hsame, ce, hce, hO⟩ := X₁.ctorThrow0 hexec htr (own := own) (cls := cls) (names := names) (ic := ic) hown' hcls hnames h (fun x hx => nomatch hx) hfX hkX hcellA (by rw [hhp, hT]; exact Nat.le_refl _)
    (g := { method := m, pc := pc + 4, locals := ls, stack := .ref T.heap.size :: .ref T.heap.size :: rest, locked := none }) rfl hsize rfl rfl (rest := rest) rfl
    (by rw [hb]; exact d4) (by rw [hb]; exact d7) hout hRframes (by simp only [List.map_cons, List.sum_cons, hcat]; omega) hlocks
  obtain ⟨f1, f2⟩ := vx_frame hsame
  rw [hhp] at f1 f2
  have hWs : s.WarmedH U.vm := State.WarmedH.trans hW0 hW
  have hcl : s.vm.findClass cls = some ce.cls := by
    have h9 := hO.cls
    rw [hvm] at h9
    exact h9
  have hall : s.sameButNew ({ U with vm := s.vm } : State) locs mc ms := by
    subst hA
    obtain ⟨e1, e2⟩ := hsame
    rw [State.setFrames_setFrames] at e1
    have h2 : (T.setVm s.vm).sameButNew ({ U with vm := s.vm } : State) [] (0 + 1) (0 + 6) := ⟨e1, e2⟩
    have h3 := X.same.trans h2
    rw [List.append_nil] at h3
    exact h3.mono hc hs
  refine ⟨U, ?_, .threw T.heap.size, hrun, hend, Or.inr ⟨T.heap.size, rfl, cls, ce, locs, hx U hWs.alike f1 (fun q hq => f2 q hq (fun z hz => nomatch hz)), hce, hO.vm, hcl, hWs, hall, hf⟩⟩
  refine st1 _ ?_
  show Steps p.tables e below (T1.setTop { method := m, pc := pc + 3, locals := ls, stack := .ref T.heap.size :: rest, locked := none }) _
  jvm_step X₁.here [X₁.here.top, hexec, d3', Value.category]
  exact hsteps
/-- 'throw new E("text")': new; dup; ldc; invokespecial; athrow -/
theorem vx_throwS {cc : ByteArray} {pc : Nat} (hexec : p.tables.exec = Jvm.exec) (hb : c.code = cc) (hl : l.stackTraces = false) {own cls text : String} {names : List String} {ik is ic mc ms sa : Nat} {A : Nat → Prop}
    (hown : s.vm.findClass own = some m.cls) (hcls : Bundle.fit cls = true) (hnames : ∀ n ∈ names, Bundle.fit n = true)
    (hk : (Cond.classLink own ik cls).before args s = true) (hini : (Cond.initialized cls).before args s = true) (hstr : vk_R own is text sa s) (hat : ∀ w ∈ vx_atS own ic cls names, w.before args s = true)
    (hgood : ∀ w ∈ Cond.classLink own ik cls :: Cond.initialized cls :: vx_atS own ic cls names, vx_ot w = true)
    (hU : vx_Zq Bundle.tN "UNASSIGNED_STACK" Bundle.steD A s s.heap) (hN : vx_Zq Bundle.tN "SUPPRESSED_SENTINEL" Bundle.listD A s s.heap) (hS : va_S A s.heap H locs) (hsize : ls.size = c.maxLocals)
    (d0 : decode cc pc = .ok (.new ik, 3)) (d3 : decode cc (pc + 3) = .ok (.dup, 1)) (d4 : decode cc (pc + 4) = .ok (.ldc is, 2)) (d6 : decode cc (pc + 6) = .ok (.invokespecial ic, 3)) (d9 : decode cc (pc + 9) = .ok (.athrow, 1))
    (hout : ∀ x ∈ c.exceptionTable.toList, covers x (pc + 9) = false)
    (hRframes : names.length + 3 < R.frames) (hRlocals : (rest.map fun v => v.category).sum + (13 * (names.length + 1) + 43) ≤ R.locals) (hRcells : cells + 1 ≤ R.cells) (hRslots : slots + 6 ≤ R.slots) (hlocks : meth.locks = false)
    (hx : ∀ t : State, s.vm.Alike t.vm → H.size ≤ t.heap.size → (∀ q : Nat, q < H.size → t.heap[q]? = H[q]?) → XC cls s t)
    (hf : ∀ z ∈ locs, free z.base) (hc : cells + 1 ≤ mc) (hs : slots + 6 ≤ ms) :
    W p l e R s m args below meth c H locs cells slots (vx_MQ below Qc XC args s mc ms free) (F0 m pc ls rest) := by
  intro T hT X
  have htr : e.platform.stackTraces = false := (show e.platform.stackTraces = l.stackTraces by rw [X.admits.platform]).trans hl
  have Y := vx_rebase X (R' := { frames := R.frames, locals := R.locals, cells := 1, slots := 6 }) (Nat.le_refl _) (Nat.le_refl _) hRcells hRslots
  obtain ⟨s', hA⟩ : ∃ z, z = (T.setVm s.vm).setFrames (.invoking m args :: below) := ⟨_, rfl⟩
  rw [← hA] at Y
  have hvm : s'.vm = s.vm := by rw [hA]; rfl
  have hhp : s'.heap = H := by rw [hA]; exact hT
  have hW0 : s.WarmedH s'.vm := by rw [hvm]; exact State.WarmedH.refl s
  have hat' : ∀ w ∈ vx_atS own ic cls names, w.before args s' = true := fun w hw => vx_ot_at hW0 hvm.symm (hgood w (List.mem_cons_of_mem _ (List.mem_cons_of_mem _ hw))) (hat w hw)
  have hk' : (Cond.classLink own ik cls).before args s' = true := vx_ot_at hW0 hvm.symm (hgood _ List.mem_cons_self) hk
  have hini' : (Cond.initialized cls).before args s' = true := vx_ot_at hW0 hvm.symm (hgood _ (List.mem_cons_of_mem _ List.mem_cons_self)) hini
  have hU' : vx_Zq Bundle.tN "UNASSIGNED_STACK" Bundle.steD A s' s'.heap := by rw [hhp]; exact vx_Zq.moved hW0.alike (hU.kept hS.2.1)
  have hN' : vx_Zq Bundle.tN "SUPPRESSED_SENTINEL" Bundle.listD A s' s'.heap := by rw [hhp]; exact vx_Zq.moved hW0.alike (hN.kept hS.2.1)
  have h : ∀ w ∈ Bundle.ownAtoms own ic cls names, w.before args s' = true := vx_own hat' (vx_isRefq hU'.1) (vx_isRefq hN'.1) hU'.2.word hN'.2.word
  have hown' : s'.vm.findClass own = some m.cls := by rw [hvm]; exact hown
  have hins : (Cond.instantiable cls 6).before args s' = true := h _ (by simp [Bundle.ownAtoms])
  obtain ⟨vm₁, cX, kX, hfX, hkX, -, -, X₁, st1⟩ := Y.newCold hexec (own := own) (C := cls) (index := ik) (n := 6) hown' hk' hins hini'
    (g := F0 m pc ls rest) rfl (by rw [hb]; exact d0) (Nat.le_refl _) (Nat.le_refl _)
  generalize hT1 : (T.setVm vm₁).pushCell { cls := cX, slots := kX.instanceTypes.map defaultValue, vm := .none } = T1 at X₁ st1
  have hcat : (Value.ref T.heap.size).category = 1 := rfl
  have hcellA : T1.heap[T.heap.size]? = some (freshCell cX kX) := by rw [← hT1]; exact State.heap_pushCell_size _ _
  have d3' : decode c.code (pc + 3) = .ok (.dup, 1) := by rw [hb]; exact d3
  have d4' : decode c.code (pc + 4) = .ok (.ldc is, 2) := by rw [hb]; exact d4
  have hstr' : vk_R own is text sa s' := vk_R.warm hW0 hstr
  obtain ⟨U, hsteps, hrun, hend, hW, hsame, ce, hce, hO⟩ := X₁.ctorThrowS hexec htr (own := own) (cls := cls) (names := names) (ic := ic) hown' hcls hnames h (fun x hx => nomatch hx) hfX hkX hcellA (by rw [hhp, hT]; exact Nat.le_refl _) (msg := .ref sa) rfl
    (g := { method := m, pc := pc + 6, locals := ls, stack := .ref sa :: .ref T.heap.size :: .ref T.heap.size :: rest, locked := none }) rfl hsize rfl rfl (rest := rest) rfl
    (by rw [hb]; exact d6) (by rw [hb]; exact d9) hout hRframes (by simp only [List.map_cons, List.sum_cons, hcat]; omega) hlocks
  obtain ⟨f1, f2⟩ := vx_frame hsame
  rw [hhp] at f1 f2
  have hWs : s.WarmedH U.vm := State.WarmedH.trans hW0 hW
  have hcl : s.vm.findClass cls = some ce.cls := by
    have h9 := hO.cls
    rw [hvm] at h9
    exact h9
  have hall : s.sameButNew ({ U with vm := s.vm } : State) locs mc ms := by
    subst hA
    obtain ⟨e1, e2⟩ := hsame
    rw [State.setFrames_setFrames] at e1
    have h2 : (T.setVm s.vm).sameButNew ({ U with vm := s.vm } : State) [] (0 + 1) (0 + 6) := ⟨e1, e2⟩
    have h3 := X.same.trans h2
    rw [List.append_nil] at h3
    exact h3.mono hc hs
  refine ⟨U, ?_, .threw T.heap.size, hrun, hend, Or.inr ⟨T.heap.size, rfl, cls, ce, locs, hx U hWs.alike f1 (fun q hq => f2 q hq (fun z hz => nomatch hz)), hce, hO.vm, hcl, hWs, hall, hf⟩⟩
  refine st1 _ ?_
  show Steps p.tables e below (T1.setTop { method := m, pc := pc + 3, locals := ls, stack := .ref T.heap.size :: rest, locked := none }) _
  jvm_step X₁.here [X₁.here.top, hexec, d3', Value.category]
  exact X₁.ldcString hexec (own := own) (text := text) (index := is) (a := sa) hown' hstr'.1 hstr'.2
    (g := { method := m, pc := pc + 4, locals := ls, stack := .ref T.heap.size :: .ref T.heap.size :: rest, locked := none }) rfl d4' _ hsteps
/-- 'throw new E("text")', the text by a wide index -/
theorem vx_throwSW {cc : ByteArray} {pc : Nat} (hexec : p.tables.exec = Jvm.exec) (hb : c.code = cc) (hl : l.stackTraces = false) {own cls text : String} {names : List String} {ik is ic mc ms sa : Nat} {A : Nat → Prop}
    (hown : s.vm.findClass own = some m.cls) (hcls : Bundle.fit cls = true) (hnames : ∀ n ∈ names, Bundle.fit n = true)
    (hk : (Cond.classLink own ik cls).before args s = true) (hini : (Cond.initialized cls).before args s = true) (hstr : vk_R own is text sa s) (hat : ∀ w ∈ vx_atS own ic cls names, w.before args s = true)
    (hgood : ∀ w ∈ Cond.classLink own ik cls :: Cond.initialized cls :: vx_atS own ic cls names, vx_ot w = true)
    (hU : vx_Zq Bundle.tN "UNASSIGNED_STACK" Bundle.steD A s s.heap) (hN : vx_Zq Bundle.tN "SUPPRESSED_SENTINEL" Bundle.listD A s s.heap) (hS : va_S A s.heap H locs) (hsize : ls.size = c.maxLocals)
    (d0 : decode cc pc = .ok (.new ik, 3)) (d3 : decode cc (pc + 3) = .ok (.dup, 1)) (d4 : decode cc (pc + 4) = .ok (.ldc_w is, 3)) (d7 : decode cc (pc + 7) = .ok (.invokespecial ic, 3)) (d10 : decode cc (pc + 10) = .ok (.athrow, 1))
    (hout : ∀ x ∈ c.exceptionTable.toList, covers x (pc + 10) = false)
    (hRframes : names.length + 3 < R.frames) (hRlocals : (rest.map fun v => v.category).sum + (13 * (names.length + 1) + 43) ≤ R.locals) (hRcells : cells + 1 ≤ R.cells) (hRslots : slots + 6 ≤ R.slots) (hlocks : meth.locks = false)
    (hx : ∀ t : State, s.vm.Alike t.vm → H.size ≤ t.heap.size → (∀ q : Nat, q < H.size → t.heap[q]? = H[q]?) → XC cls s t)
    (hf : ∀ z ∈ locs, free z.base) (hc : cells + 1 ≤ mc) (hs : slots + 6 ≤ ms) :
    W p l e R s m args below meth c H locs cells slots (vx_MQ below Qc XC args s mc ms free) (F0 m pc ls rest) := by
  intro T hT X
  have htr : e.platform.stackTraces = false := (show e.platform.stackTraces = l.stackTraces by rw [X.admits.platform]).trans hl
  have Y := vx_rebase X (R' := { frames := R.frames, locals := R.locals, cells := 1, slots := 6 }) (Nat.le_refl _) (Nat.le_refl _) hRcells hRslots
  obtain ⟨s', hA⟩ : ∃ z, z = (T.setVm s.vm).setFrames (.invoking m args :: below) := ⟨_, rfl⟩
  rw [← hA] at Y
  have hvm : s'.vm = s.vm := by rw [hA]; rfl
  have hhp : s'.heap = H := by rw [hA]; exact hT
  have hW0 : s.WarmedH s'.vm := by rw [hvm]; exact State.WarmedH.refl s
  have hat' : ∀ w ∈ vx_atS own ic cls names, w.before args s' = true := fun w hw => vx_ot_at hW0 hvm.symm (hgood w (List.mem_cons_of_mem _ (List.mem_cons_of_mem _ hw))) (hat w hw)
  have hk' : (Cond.classLink own ik cls).before args s' = true := vx_ot_at hW0 hvm.symm (hgood _ List.mem_cons_self) hk
  have hini' : (Cond.initialized cls).before args s' = true := vx_ot_at hW0 hvm.symm (hgood _ (List.mem_cons_of_mem _ List.mem_cons_self)) hini
  have hU' : vx_Zq Bundle.tN "UNASSIGNED_STACK" Bundle.steD A s' s'.heap := by rw [hhp]; exact vx_Zq.moved hW0.alike (hU.kept hS.2.1)
  have hN' : vx_Zq Bundle.tN "SUPPRESSED_SENTINEL" Bundle.listD A s' s'.heap := by rw [hhp]; exact vx_Zq.moved hW0.alike (hN.kept hS.2.1)
  have h : ∀ w ∈ Bundle.ownAtoms own ic cls names, w.before args s' = true := vx_own hat' (vx_isRefq hU'.1) (vx_isRefq hN'.1) hU'.2.word hN'.2.word
  have hown' : s'.vm.findClass own = some m.cls := by rw [hvm]; exact hown
  have hins : (Cond.instantiable cls 6).before args s' = true := h _ (by simp [Bundle.ownAtoms])
  obtain ⟨vm₁, cX, kX, hfX, hkX, -, -, X₁, st1⟩ := Y.newCold hexec (own := own) (C := cls) (index := ik) (n := 6) hown' hk' hins hini'
    (g := F0 m pc ls rest) rfl (by rw [hb]; exact d0) (Nat.le_refl _) (Nat.le_refl _)
  generalize hT1 : (T.setVm vm₁).pushCell { cls := cX, slots := kX.instanceTypes.map defaultValue, vm := .none } = T1 at X₁ st1
  have hcat : (Value.ref T.heap.size).category = 1 := rfl
  have hcellA : T1.heap[T.heap.size]? = some (freshCell cX kX) := by rw [← hT1]; exact State.heap_pushCell_size _ _
  have d3' : decode c.code (pc + 3) = .ok (.dup, 1) := by rw [hb]; exact d3
  have d4' : decode c.code (pc + 4) = .ok (.ldc_w is, 3) := by rw [hb]; exact d4
  have hstr' : vk_R own is text sa s' := vk_R.warm hW0 hstr
  obtain ⟨U, hsteps, hrun, hend, hW, hsame, ce, hce, hO⟩ := X₁.ctorThrowS hexec htr (own := own) (cls := cls) (names := names) (ic := ic) hown' hcls hnames h (fun x hx => nomatch hx) hfX hkX hcellA (by rw [hhp, hT]; exact Nat.le_refl _) (msg := .ref sa) rfl
    (g := { method := m, pc := pc + 7, locals := ls, stack := .ref sa :: .ref T.heap.size :: .ref T.heap.size :: rest, locked := none }) rfl hsize rfl rfl (rest := rest) rfl
    (by rw [hb]; exact d7) (by rw [hb]; exact d10) hout hRframes (by simp only [List.map_cons, List.sum_cons, hcat]; omega) hlocks
  obtain ⟨f1, f2⟩ := vx_frame hsame
  rw [hhp] at f1 f2
  have hWs : s.WarmedH U.vm := State.WarmedH.trans hW0 hW
  have hcl : s.vm.findClass cls = some ce.cls := by
    have h9 := hO.cls
    rw [hvm] at h9
    exact h9
  have hall : s.sameButNew ({ U with vm := s.vm } : State) locs mc ms := by
    subst hA
    obtain ⟨e1, e2⟩ := hsame
    rw [State.setFrames_setFrames] at e1
    have h2 : (T.setVm s.vm).sameButNew ({ U with vm := s.vm } : State) [] (0 + 1) (0 + 6) := ⟨e1, e2⟩
    have h3 := X.same.trans h2
    rw [List.append_nil] at h3
    exact h3.mono hc hs
  refine ⟨U, ?_, .threw T.heap.size, hrun, hend, Or.inr ⟨T.heap.size, rfl, cls, ce, locs, hx U hWs.alike f1 (fun q hq => f2 q hq (fun z hz => nomatch hz)), hce, hO.vm, hcl, hWs, hall, hf⟩⟩
  refine st1 _ ?_
  show Steps p.tables e below (T1.setTop { method := m, pc := pc + 3, locals := ls, stack := .ref T.heap.size :: rest, locked := none }) _
  jvm_step X₁.here [X₁.here.top, hexec, d3', Value.category]
  exact X₁.ldcStringW hexec (own := own) (text := text) (index := is) (a := sa) hown' hstr'.1 hstr'.2
    (g := { method := m, pc := pc + 4, locals := ls, stack := .ref T.heap.size :: .ref T.heap.size :: rest, locked := none }) rfl d4' _ hsteps
end Ends
section Bodies
variable {l : Launch}
theorem vx_ofW {y : MethodName} {ws ws' : List Cond} {rm : Room} {Pc : Array Value → State → Prop} {Qc : Array Value → State → Outcome → State → Prop} {XC : String → State → State → Prop} {mc ms : Nat} {free : Addr → Prop} {cc : ByteArray} {maxL : Nat} {ret : Option FieldType}
    (hy : plainName y.cls = true) (hw : ws = Cond.code y cc maxL ret :: ws')
    (body : ∀ p e s m args below meth c s₁, BodyLoose p l y (headSpec ws rm) cc maxL ret e s m args below meth c s₁ → c.maxLocals = maxL → (∀ x ∈ c.exceptionTable.toList, False) → Pc args s →
      W p l e (headSpec ws rm).room s m args below meth c s.heap [] 0 0 (vx_MQ below Qc XC args s mc ms free) (entryFrame m args maxL)) : vx_Met l y ws rm Pc Qc XC mc ms free := by
  refine MetFree.of_bodyS (code := cc) (maxLocals := maxL) (ret := ret) hy ?_ ?_
  · intro args s m h hn
    obtain ⟨meth, c, h1, h2, h3, h4, h5, h6, -, -⟩ := Cond.code_spec hn (atoms_spec (ws := ws) h _ (by rw [hw]; exact List.mem_cons_self))
    exact ⟨meth, c, h1, h2, h3, h4, h5, h6⟩
  · intro p e s m args below meth c s₁ B hml hP _
    have hh0 : s₁.heap = s.heap := by rw [B.state]; rfl
    have ht : ∀ x ∈ c.exceptionTable.toList, False := by
      obtain ⟨meth9, c9, h1, h2, -, -, -, -, h7, -⟩ := Cond.code_spec B.named (atoms_spec (ws := ws) B.pre _ (by rw [hw]; exact List.mem_cons_self))
      cases Option.some.inj (h1.symm.trans B.method)
      cases Option.some.inj (h2.symm.trans (Stand.of_body B).code)
      intro x hx
      rw [Array.isEmpty_iff.mp h7] at hx
      cases hx
    obtain ⟨t, a1, o, b1, b2, b3⟩ := body p e s m args below meth c s₁ B hml ht hP s₁ hh0 (Stand.of_body B)
    exact ⟨t, o, a1, b1, b2, b3⟩
/-- the table of a body with handlers -/
theorem vx_table {p : Program} {x y : MethodName} {S : Spec} {cc bytes : ByteArray} {maxL maxL' : Nat} {ret ret' : Option FieldType} {e : Env} {s s₁ : State} {m : MethodId} {args : Array Value} {below : List Frame} {meth : Method} {c : Code} {hh : List (Nat × Nat × Nat × Nat)}
    (B : BodyLoose p l y S cc maxL ret e s m args below meth c s₁) (h : (Cond.codeWith y bytes maxL' ret' hh).before args s = true) : c.exceptionTable.toList = tableOf hh := by
  obtain ⟨m9, meth9, c9, hn9, h1, h2, -, -, h6, -⟩ := Cond.codeWith_spec h
  cases Option.some.inj (hn9.symm.trans B.named)
  cases Option.some.inj (h1.symm.trans B.method)
  cases Option.some.inj (h2.symm.trans (Stand.of_body B).code)
  rw [← h6, table_eq]
end Bodies
end VXA
/-! ===== END ===== -/
/-! ===== BEGIN a static call of a method with an exception table ===== -/
section VXS
variable {p : Program} {l : Launch} {e : Env} {R : Room} {s : State} {m : MethodId} {args : Array Value} {below : List Frame} {meth : Method} {c : Code} {T : State} {H : Heap} {locs : List Loc} {cells slots : Nat}
abbrev vx_CSW (R : Room) (s : State) (args : Array Value) (own : String) (index : Nat) (y : MethodName) (bytes : ByteArray) (maxL : Nat) (ret : Option FieldType) (hh : List (Nat × Nat × Nat × Nat)) (ws : List Cond) (rm : Room) (mc ms n : Nat) : Prop :=
  (rm.cells = mc ∧ rm.slots = ms ∧ rm.frames + 1 ≤ R.frames ∧ 8 + (maxL + 11) + rm.locals ≤ R.locals ∧ (∀ w ∈ ws, ∀ (a' : Array Value) (U : State), s.WarmedH U.vm → w.before a' U = true) ∧ Cond.codeWith y bytes maxL ret hh ∈ ws) ∧
  (Cond.codeWith y bytes maxL ret hh).before args s = true ∧ (Cond.initialized y.cls).before args s = true ∧ (y.cls ≠ "java/lang/invoke/MethodHandle" ∧ y.cls ≠ "java/lang/invoke/VarHandle") ∧
  (∀ sig, parseMethodDescriptor y.desc = some sig → n = sig.parameters.length) ∧ (Cond.methodLink own index y).before args s = true ∧ (Cond.static y).before args s = true
theorem vx_cwSW {own : String} {index maxL mc ms : Nat} {y : MethodName} {bytes : ByteArray} {ret : Option FieldType} {hh : List (Nat × Nat × Nat × Nat)} {Ts ws ws' : List Cond} {rm : Room} (n : Nat) (ht : ∀ w ∈ Ts, w.before args s = true) (hT : GoodIn Ts (va_wsS own index y ws)) (hw : ws = Cond.codeWith y bytes maxL ret hh :: ws') (hrc : rm.cells = mc) (hrs : rm.slots = ms)
    (hd : y.cls ≠ "java/lang/invoke/MethodHandle" ∧ y.cls ≠ "java/lang/invoke/VarHandle" ∧ (parseMethodDescriptor y.desc).map (fun d => d.parameters.length) = some n) (hR : rm.frames + 1 ≤ R.frames ∧ 8 + (maxL + 11) + rm.locals ≤ R.locals) :
    vx_CSW R s args own index y bytes maxL ret hh ws rm mc ms n := by
  have ok : ∀ w ∈ va_wsS own index y ws, w.before args s = true := fun w h => ht w (hT w h).1
  have hG : GoodIn Ts ws := fun w h => hT w (by unfold va_wsS; exact List.mem_append_right _ h)
  have hc : Cond.codeWith y bytes maxL ret hh ∈ ws := by rw [hw]; exact List.mem_cons_self
  refine ⟨⟨hrc, hrs, hR.1, hR.2, pay_in ht hG, hc⟩, ht _ (hG _ hc).1, ok _ (by simp [va_wsS]), ⟨hd.1, hd.2.1⟩, fun sig h => ?_, ok _ (by simp [va_wsS]), ok _ (by simp [va_wsS])⟩
  have h2 := hd.2.2
  rw [h] at h2
  exact (Option.some.inj h2).symm
theorem vx_callSW (X : Stand p l e R s m args below meth c T locs cells slots) (hexec : p.tables.exec = Jvm.exec) {own : String} {index : Nat} {y : MethodName} {bytes : ByteArray} {maxL : Nat} {ret : Option FieldType} {hh : List (Nat × Nat × Nat × Nat)}
    (hown : s.vm.findClass own = some m.cls) (hlink : (Cond.methodLink own index y).before args s = true) (hstat : (Cond.static y).before args s = true) (hinit : (Cond.initialized y.cls).before args s = true)
    (hcode : (Cond.codeWith y bytes maxL ret hh).before args s = true) (hy : y.cls ≠ "java/lang/invoke/MethodHandle" ∧ y.cls ≠ "java/lang/invoke/VarHandle")
    {W9 : Nat} {Pre : Pt → Array Value → Prop} {Post : Pt → Array Value → Option Value → Pt → Prop} (hK : Back l R p e below s args y 3 W9 Pre Post)
    {g : JFrame} (hg : g.method = m) (hsize : g.locals.size = c.maxLocals) {argsL rest : List Value} (hlen : ∀ sig, parseMethodDescriptor y.desc = some sig → argsL.length = sig.parameters.length)
    (hstack : g.stack = argsL.reverse ++ rest) (hW : 2 * g.monitorRoom + (rest.map fun v => v.category).sum ≤ W9) (hdg : decode c.code g.pc = .ok (.invokestatic index, 3))
    (hpre : ∀ vm₁, s.WarmedH vm₁ → Pre ⟨T.setVm vm₁, locs, cells, slots⟩ argsL.toArray) :
    ∃ (v : Option Value) (vm₁ : Vm) (B : Pt), s.WarmedH vm₁ ∧ Stand p l e R s m args below meth c B.U B.locs B.cells B.slots ∧ Post ⟨T.setVm vm₁, locs, cells, slots⟩ argsL.toArray v B ∧
      ∀ target, Steps p.tables e below (B.U.setTop { g with pc := g.pc + 3, stack := v.toList ++ rest }) target → Steps p.tables e below (T.setTop g) target := by
  obtain ⟨mk, methM, cM, hnamed, hmethM, -, -, -, -, -, -, hsigM⟩ := Cond.codeWith_spec hcode
  have hstatic : methM.isStatic = true := Cond.static_spec hnamed hmethM hstat
  obtain ⟨kP, hkP, -⟩ := className_of_methodNamed hnamed
  have hinitP : kP.init = .initialized := Cond.initialized_spec (findClass_of_methodNamed hnamed) hkP hinit
  obtain ⟨vm₁, X₁, hstep₁⟩ := X.invokestatic hexec hown hlink hnamed hmethM hstatic hkP hinitP hy (g := g) hg (argsL := argsL) (rest := rest) (hlen _ hsigM) hstack hdg
  obtain ⟨v, B, X', hpost, hsteps⟩ := hK m meth c ⟨T.setVm vm₁, locs, cells, slots⟩ { g with stack := rest } (.invokestatic index) mk argsL.toArray X₁ hg hsize hdg hW (X₁.named hnamed) (hpre vm₁ X₁.warmed)
  exact ⟨v, vm₁, B, X₁.warmed, X', hpost, fun target h => hstep₁ _ fun acts => by rw [doInvoke_state]; exact hsteps.trans h⟩
theorem vx_runSW {y : MethodName} {bytes cc : ByteArray} {maxL nL mc ms n index : Nat} {ret : Option FieldType} {hh : List (Nat × Nat × Nat × Nat)} {ws : List Cond} {rm : Room} {Pc : Array Value → State → Prop} {Qc : Array Value → State → Outcome → State → Prop} {free : Addr → Prop} {Ts : List Cond} {own : String} {As rest : List Value} {g : JFrame}
    (S : CallFix p m c cc nL s args Ts own) (hM : Met l y ws rm Pc Qc mc ms free) (cw : vx_CSW R s args own index y bytes maxL ret hh ws rm mc ms n) (hp : PreS s H Pc As)
    (hg : g.method = m) (hn : As.length = n) (hsize : g.locals.size = nL) (hstack : g.stack = As.reverse ++ rest) (hW : 2 * g.monitorRoom + (rest.map fun v => v.category).sum ≤ 8) (hdg : decode cc g.pc = .ok (.invokestatic index, 3)) (hf : cells + mc ≤ R.cells ∧ slots + ms ≤ R.slots) :
    va_Run p l e R s m args below meth c H locs cells slots mc ms g rest (Qc As.toArray) (free) := by
  obtain ⟨⟨hrc, hrs, hfr, hlo, hws, hcw⟩, hcode, hini, hy, hlen, hl, hstt⟩ := cw
  have hK : Back l R p e below s args y 3 8 (PreOf R mc ms Pc) (PostOf Qc mc ms free) := va_backW (hh := hh) (bytes := bytes) (maxL := maxL) (ret := ret) hM hp.1 hrc hrs hfr hlo hws hcw (fun a' U hW => word_at hW (Or.inl (by first | rfl | simp [Cond.onTables, Cond.keeps, Cond.steady])) hini)
  obtain ⟨hx, hb, hml, ho, -⟩ := S
  intro T hT X
  obtain ⟨v, vm₁, ⟨U', l2, c2, s2⟩, hW₁, X', ⟨g', mk, t, L, e1, e2, hq, h1, hL, h2, h3⟩, st⟩ := vx_callSW X hx (hh := hh) (bytes := bytes) (maxL := maxL) (ret := ret) ho hl hstt hini hcode hy hK hg (hsize.trans hml.symm) (argsL := As) (rest := rest) (fun sig h => hn.trans (hlen sig h)) hstack hW (by rw [hb]; exact hdg)
    (fun vm₁ hW₁ => ⟨hf.1, hf.2, hp.2 (T.setVm vm₁) hT hW₁⟩)
  dsimp only [Pt.U, Pt.locs, Pt.cells, Pt.slots] at X' e1 e2 h1 h2 h3 st
  subst h1; subst h2; subst h3
  exact ⟨v, (T.setVm vm₁).calling g' mk As.toArray, t, U', L, hT, X', hL, e1, e2, hq, st⟩
/-- a thing of a world lies in the heap -/
theorem vx_lt {D : va_G} {cl : List vw_C} {ws : va_W} {H1 : Heap} (h : va_P D cl ws H1) {k : Nat} {q : Nat × va_E} (hk : ws[k]? = some q) : q.1 < H1.size := (h k q hk).lt
end VXS
/-! ===== END ===== -/
/-! ===== BEGIN methods with a table of their own: called by a name, returning or throwing ===== -/
section VXH
/-! vx_backW, vx_callVX, vx_callSX, vx_callVW, vx_runVW, vx_runVX, vx_runSX, vx_ofWH follow the same proofs as their sisters above (Free/Laws.lean, Shelf42/LK1.lean); vx_outP calls Shelf42/NT130.lean (outThrough). -/
section
variable {l : Launch} {R : Room} {p : Program} {e : Env} {below : List Frame} {s : State} {sargs : Array Value} {y : MethodName} {len W9 : Nat}
theorem vx_backW {ws : List Cond} {rm : Room} {Pc : Array Value → State → Prop} {Qc : Array Value → State → Outcome → State → Prop} {XC : String → State → State → Prop} {mc ms : Nat} {free : Addr → Prop} {bytes : ByteArray} {maxL : Nat} {ret : Option FieldType} {hh : List (Nat × Nat × Nat × Nat)}
    (hM : vx_Met l y ws rm Pc Qc XC mc ms free) (hblind : FrameBlind Pc) (hrc : rm.cells = mc) (hrs : rm.slots = ms)
    (hframes : rm.frames + 1 ≤ R.frames) (hlocals : W9 + (maxL + 11) + rm.locals ≤ R.locals)
    (hws : ∀ w ∈ ws, ∀ a' U, s.WarmedH U.vm → w.before a' U = true) (hcode : Cond.codeWith y bytes maxL ret hh ∈ ws) (hinit : ∀ a' U, s.WarmedH U.vm → (Cond.initialized y.cls).before a' U = true) :
    vx_Back l R p e below s sargs y len W9 (PreOf R mc ms Pc) (PostOf Qc mc ms free) (vx_Post XC mc ms free) := by
  intro m meth c A g ig mk a X hg hsize hdg hW hn hp
  have h1 : (headSpec ws rm).pre.before a A.U = true := atoms_intro fun w hw => hws w hw _ _ X.warmed
  have h2 : (Cond.codeWith y bytes maxL ret hh).before a A.U = true := hws _ hcode _ _ X.warmed
  have h3 : (Cond.initialized y.cls).before a A.U = true := hinit _ _ X.warmed
  have h4 : A.cells + (headSpec ws rm).room.cells ≤ R.cells := by rw [show (headSpec ws rm).room.cells = mc from hrc]; exact hp.1
  have h5 : A.slots + (headSpec ws rm).room.slots ≤ R.slots := by rw [show (headSpec ws rm).room.slots = ms from hrs]; exact hp.2.1
  have hPc : Pc a (A.U.calling g mk a) := hblind _ _ _ _ hp.2.2
  obtain ⟨U, Ls, c0, s0⟩ := A
  dsimp only [Pt.U, Pt.locs, Pt.cells, Pt.slots] at h1 h2 h3 h4 h5 X hn hPc ⊢
  obtain ⟨m9, methY, cY, hn9, hmY, hcY, -, hlY, -⟩ := Cond.codeWith_spec h2
  cases Option.some.inj (hn9.symm.trans hn)
  obtain ⟨kY, hkY, -⟩ := className_of_methodNamed hn
  have hinitY : kY.init = .initialized := Cond.initialized_spec (findClass_of_methodNamed hn) hkY h3
  have h : At U g.method c below := by rw [hg]; exact X.here
  have hlocals9 : W9 + (maxL + 11) + (headSpec ws rm).room.locals ≤ R.locals := hlocals
  have happ : (headSpec ws rm).appliesLoose y e.platform (U.calling g mk a) = true :=
    Spec.appliesLoose_calling (g := g) h hdg hn hkY hinitY
      (X.room_calling (g := g) (R' := (headSpec ws rm).room) hsize hmY hcY hframes (by rw [hlY]; omega) h4 h5) h1
  obtain ⟨mid, hmid⟩ := h.above
  have hfr : (U.setTop g).frames = (.java g :: mid) ++ below := by rw [State.frames_setTop' g h.top, hmid]; rfl
  obtain ⟨o, s₂, hsteps, -, hend, hq⟩ := Steps.callFree hM p X.admits X.cas X.clock (acts := []) hfr happ hPc trivial
  have hq' : vx_Q Qc XC mc ms free a (U.calling g mk a) o s₂ := hq
  rw [State.frames_setTop' g h.top] at hend
  obtain ⟨g₀, hg0⟩ := Option.isSome_iff_exists.mp h.top
  obtain ⟨r, hr⟩ := State.topJava?_eq_some.mp hg0
  have hr' : (({ U with heap := s₂.heap, slotsUsed := s₂.slotsUsed } : State).setVm s₂.vm).frames = .java g₀ :: r := hr
  rcases hq' with ⟨hqc, L, hfe, hL⟩ | ⟨q, rfl, E, ce, L, hx, hce, hcv, hcl, hW₂, hsm, hL⟩
  · obtain ⟨⟨v, rfl⟩, hW₂, e2, q2, q3, q4, q5, q6⟩ := id hfe
    have e3 : s₂ = ({ (U.calling g mk a).setFrames s₂.frames with heap := s₂.heap, slotsUsed := s₂.slotsUsed } : State).setVm s₂.vm := by
      have : s₂ = ({ s₂ with vm := (U.calling g mk a).vm } : State).setVm s₂.vm := rfl
      rw [e2] at this
      exact this
    obtain ⟨c₂, i₂, len₂, hc₂, hd₂, hf₂⟩ := hend
    have hW' : U.WarmedH s₂.vm := hW₂
    have hcc : c₂ = c := by
      have h1 : s₂.code? g.method = U.code? g.method := by
        rw [State.code?_eq, State.code?_eq, hW'.alike.method?]
      exact Option.some.inj (hc₂.symm.trans (h1.trans h.code))
    subst hcc
    have hlen : len₂ = len := by rw [hdg] at hd₂; cases hd₂; rfl
    subst hlen
    have hs₂ : s₂ = (({ U with heap := s₂.heap, slotsUsed := s₂.slotsUsed } : State).setVm s₂.vm).setTop { g with pc := g.pc + len₂, stack := v.toList ++ g.stack } := by
      refine e3.trans ?_
      rw [hf₂, State.calling_eq h.top, State.setFrames_setFrames, State.setTop_of_frames _ hr', hr]
      rfl
    have hsame : U.sameButNew ({ U with heap := s₂.heap, slotsUsed := s₂.slotsUsed } : State) L mc ms := by
      refine ⟨?_, q2, q3, q4, q5, q6⟩
      obtain ⟨t, ht, -⟩ := State.frames_cons hr
      show ({ U with heap := s₂.heap, slotsUsed := s₂.slotsUsed } : State) = { U.setFrames U.frames with heap := s₂.heap, slotsUsed := s₂.slotsUsed }
      rw [State.setFrames_self ht]
    subst hg
    refine Or.inl ⟨v, ⟨(({ U with heap := s₂.heap, slotsUsed := s₂.slotsUsed } : State).setVm s₂.vm), Ls ++ L, c0 + mc, s0 + ms⟩,
      ⟨X.admits, X.cas, X.clock, X.frames, X.room, X.hears, X.method, X.code, (X.here.setHeapUsed s₂.heap s₂.slotsUsed).setVm hW'.alike, X.tail, State.WarmedH.trans X.warmed hW', X.limits, X.bytes, X.same.trans (hsame.setVm s.vm)⟩,
      ⟨g, mk, s₂, L, rfl, rfl, hqc, rfl, hL, rfl, rfl⟩, ?_⟩
    show Steps p.tables e below _ ((({ U with heap := s₂.heap, slotsUsed := s₂.slotsUsed } : State).setVm s₂.vm).setTop { g with pc := g.pc + len₂, stack := v.toList ++ g.stack })
    rw [← hs₂]
    exact hsteps
  · obtain ⟨e2, q2, q3, q4, q5, q6⟩ := id hsm
    have e3 : s₂ = ({ (U.calling g mk a).setFrames s₂.frames with heap := s₂.heap, slotsUsed := s₂.slotsUsed } : State).setVm s₂.vm := by
      have : s₂ = ({ s₂ with vm := (U.calling g mk a).vm } : State).setVm s₂.vm := rfl
      rw [e2] at this
      exact this
    have hf₂ : s₂.frames = .throwing q :: .java g :: U.frames.tail := hend
    have hW' : U.WarmedH s₂.vm := hW₂
    have hs₂ : s₂ = ((({ U with heap := s₂.heap, slotsUsed := s₂.slotsUsed } : State).setVm s₂.vm).setTop g).pushFrame (.throwing q) := by
      refine e3.trans ?_
      rw [hf₂, State.calling_eq h.top, State.setFrames_setFrames, State.pushFrame, State.frames_setTop _ hr', State.setTop_of_frames _ hr', State.setFrames_setFrames, hr]
      rfl
    have hsame : U.sameButNew ({ U with heap := s₂.heap, slotsUsed := s₂.slotsUsed } : State) L mc ms := by
      refine ⟨?_, q2, q3, q4, q5, q6⟩
      obtain ⟨t, ht, -⟩ := State.frames_cons hr
      show ({ U with heap := s₂.heap, slotsUsed := s₂.slotsUsed } : State) = { U.setFrames U.frames with heap := s₂.heap, slotsUsed := s₂.slotsUsed }
      rw [State.setFrames_self ht]
    subst hg
    refine Or.inr ⟨q, ⟨(({ U with heap := s₂.heap, slotsUsed := s₂.slotsUsed } : State).setVm s₂.vm), Ls ++ L, c0 + mc, s0 + ms⟩,
      ⟨X.admits, X.cas, X.clock, X.frames, X.room, X.hears, X.method, X.code, (X.here.setHeapUsed s₂.heap s₂.slotsUsed).setVm hW'.alike, X.tail, State.WarmedH.trans X.warmed hW', X.limits, X.bytes, X.same.trans (hsame.setVm s.vm)⟩,
      ⟨g, mk, s₂, L, E, ce, rfl, rfl, hx, hce, hcv, hcl, rfl, hL, rfl, rfl⟩, ?_⟩
    show Steps p.tables e below _ (((({ U with heap := s₂.heap, slotsUsed := s₂.slotsUsed } : State).setVm s₂.vm).setTop g).pushFrame (.throwing q))
    rw [← hs₂]
    exact hsteps
end
variable {p : Program} {l : Launch} {e : Env} {R : Room} {s : State} {m : MethodId} {args : Array Value} {below : List Frame} {meth : Method} {c : Code} {T : State} {H : Heap} {locs : List Loc} {cells slots : Nat}
theorem vx_callVX (X : Stand p l e R s m args below meth c T locs cells slots) (hexec : p.tables.exec = Jvm.exec) {own C : String} {index : Nat} {y : MethodName} {bytes : ByteArray} {maxL : Nat} {ret : Option FieldType} {hh : List (Nat × Nat × Nat × Nat)}
    (hown : s.vm.findClass own = some m.cls) (hlink : (Cond.methodLink own index y).before args s = true) (hinst : (Cond.instanceMethod y).before args s = true) (hsel : (Cond.selects C y y).before args s = true)
    (hcode : (Cond.codeWith y bytes maxL ret hh).before args s = true) (hy : y.cls ≠ "java/lang/invoke/MethodHandle" ∧ y.cls ≠ "java/lang/invoke/VarHandle")
    {W9 : Nat} {Pre : Pt → Array Value → Prop} {Post : Pt → Array Value → Option Value → Pt → Prop} {PostX : Pt → Array Value → Addr → Pt → Prop} (hK : vx_Back l R p e below s args y 3 W9 Pre Post PostX)
    {b : Addr} {cellB : Cell} (hcell : T.heap[b]? = some cellB) (hobj : cellB.vm.isStatics = false) (hcls : s.vm.findClass C = some cellB.cls)
    {g : JFrame} (hg : g.method = m) (hsize : g.locals.size = c.maxLocals) {argsL rest : List Value} (hlen : ∀ sig, parseMethodDescriptor y.desc = some sig → argsL.length = sig.parameters.length)
    (hstack : g.stack = argsL.reverse ++ .ref b :: rest) (hW : 2 * g.monitorRoom + (rest.map fun v => v.category).sum ≤ W9) (hdg : decode c.code g.pc = .ok (.invokevirtual index, 3))
    (hpre : ∀ vm₁, s.WarmedH vm₁ → Pre ⟨T.setVm vm₁, locs, cells, slots⟩ (Value.ref b :: argsL).toArray) :
    (∃ (v : Option Value) (vm₁ : Vm) (B : Pt), s.WarmedH vm₁ ∧ Stand p l e R s m args below meth c B.U B.locs B.cells B.slots ∧ Post ⟨T.setVm vm₁, locs, cells, slots⟩ (Value.ref b :: argsL).toArray v B ∧
      ∀ target, Steps p.tables e below (B.U.setTop { g with pc := g.pc + 3, stack := v.toList ++ rest }) target → Steps p.tables e below (T.setTop g) target) ∨
    (∃ (q : Addr) (vm₁ : Vm) (B : Pt), s.WarmedH vm₁ ∧ Stand p l e R s m args below meth c B.U B.locs B.cells B.slots ∧ PostX ⟨T.setVm vm₁, locs, cells, slots⟩ (Value.ref b :: argsL).toArray q B ∧
      Steps p.tables e below (T.setTop g) ((B.U.setTop { g with stack := rest }).pushFrame (.throwing q))) := by
  obtain ⟨mk, methM, hnamed, hmethM, hstM, habM⟩ := Cond.instanceMethod_spec hinst
  obtain ⟨m8, methM', cM, hn8, hmethM', -, -, -, -, -, -, hsigM⟩ := Cond.codeWith_spec hcode
  cases Option.some.inj (hn8.symm.trans hnamed)
  cases hmethM.symm.trans hmethM'
  obtain ⟨c2, r2, m2, q1, q2, q3, q4, kP, hkP, hkPi⟩ := Cond.selects_spec hsel
  cases hcls.symm.trans q1
  cases (State.methodFound?_of_named hnamed hy).symm.trans q2
  cases hnamed.symm.trans q3
  have hselP : selectMethod e.platform s.vm cellB.cls mk = .method mk := by rw [Launch.admits_selectMethod X.admits]; exact q4
  obtain ⟨vm₁, X₁, hstep₁⟩ := X.invokevirtual hexec hown hlink hnamed hmethM hstM hkP hkPi hy (a := b) (cell := cellB) hcell
    (fun z h => by rw [h] at hobj; cases hobj) hselP hmethM habM hkP hkPi (g := g) hg (argsL := argsL) (rest := rest) (hlen _ hsigM) hstack hdg
  rcases hK m meth c ⟨T.setVm vm₁, locs, cells, slots⟩ { g with stack := rest } (.invokevirtual index) mk (Value.ref b :: argsL).toArray X₁ hg hsize hdg hW (X₁.named hnamed) (hpre vm₁ X₁.warmed) with ⟨v, B, X', hpost, hsteps⟩ | ⟨q, B, X', hpost, hsteps⟩
  · exact Or.inl ⟨v, vm₁, B, X₁.warmed, X', hpost, fun target h => hstep₁ _ fun acts => by rw [doInvoke_state]; exact hsteps.trans h⟩
  · exact Or.inr ⟨q, vm₁, B, X₁.warmed, X', hpost, hstep₁ _ fun acts => by rw [doInvoke_state]; exact hsteps⟩
theorem vx_callSX (X : Stand p l e R s m args below meth c T locs cells slots) (hexec : p.tables.exec = Jvm.exec) {own : String} {index : Nat} {y : MethodName} {bytes : ByteArray} {maxL : Nat} {ret : Option FieldType} {hh : List (Nat × Nat × Nat × Nat)}
    (hown : s.vm.findClass own = some m.cls) (hlink : (Cond.methodLink own index y).before args s = true) (hstat : (Cond.static y).before args s = true) (hinit : (Cond.initialized y.cls).before args s = true)
    (hcode : (Cond.codeWith y bytes maxL ret hh).before args s = true) (hy : y.cls ≠ "java/lang/invoke/MethodHandle" ∧ y.cls ≠ "java/lang/invoke/VarHandle")
    {W9 : Nat} {Pre : Pt → Array Value → Prop} {Post : Pt → Array Value → Option Value → Pt → Prop} {PostX : Pt → Array Value → Addr → Pt → Prop} (hK : vx_Back l R p e below s args y 3 W9 Pre Post PostX)
    {g : JFrame} (hg : g.method = m) (hsize : g.locals.size = c.maxLocals) {argsL rest : List Value} (hlen : ∀ sig, parseMethodDescriptor y.desc = some sig → argsL.length = sig.parameters.length)
    (hstack : g.stack = argsL.reverse ++ rest) (hW : 2 * g.monitorRoom + (rest.map fun v => v.category).sum ≤ W9) (hdg : decode c.code g.pc = .ok (.invokestatic index, 3))
    (hpre : ∀ vm₁, s.WarmedH vm₁ → Pre ⟨T.setVm vm₁, locs, cells, slots⟩ argsL.toArray) :
    (∃ (v : Option Value) (vm₁ : Vm) (B : Pt), s.WarmedH vm₁ ∧ Stand p l e R s m args below meth c B.U B.locs B.cells B.slots ∧ Post ⟨T.setVm vm₁, locs, cells, slots⟩ argsL.toArray v B ∧
      ∀ target, Steps p.tables e below (B.U.setTop { g with pc := g.pc + 3, stack := v.toList ++ rest }) target → Steps p.tables e below (T.setTop g) target) ∨
    (∃ (q : Addr) (vm₁ : Vm) (B : Pt), s.WarmedH vm₁ ∧ Stand p l e R s m args below meth c B.U B.locs B.cells B.slots ∧ PostX ⟨T.setVm vm₁, locs, cells, slots⟩ argsL.toArray q B ∧
      Steps p.tables e below (T.setTop g) ((B.U.setTop { g with stack := rest }).pushFrame (.throwing q))) := by
  obtain ⟨mk, methM, cM, hnamed, hmethM, -, -, -, -, -, -, hsigM⟩ := Cond.codeWith_spec hcode
  have hstatic : methM.isStatic = true := Cond.static_spec hnamed hmethM hstat
  obtain ⟨kP, hkP, -⟩ := className_of_methodNamed hnamed
  have hinitP : kP.init = .initialized := Cond.initialized_spec (findClass_of_methodNamed hnamed) hkP hinit
  obtain ⟨vm₁, X₁, hstep₁⟩ := X.invokestatic hexec hown hlink hnamed hmethM hstatic hkP hinitP hy (g := g) hg (argsL := argsL) (rest := rest) (hlen _ hsigM) hstack hdg
  rcases hK m meth c ⟨T.setVm vm₁, locs, cells, slots⟩ { g with stack := rest } (.invokestatic index) mk argsL.toArray X₁ hg hsize hdg hW (X₁.named hnamed) (hpre vm₁ X₁.warmed) with ⟨v, B, X', hpost, hsteps⟩ | ⟨q, B, X', hpost, hsteps⟩
  · exact Or.inl ⟨v, vm₁, B, X₁.warmed, X', hpost, fun target h => hstep₁ _ fun acts => by rw [doInvoke_state]; exact hsteps.trans h⟩
  · exact Or.inr ⟨q, vm₁, B, X₁.warmed, X', hpost, hstep₁ _ fun acts => by rw [doInvoke_state]; exact hsteps⟩
theorem vx_callVW (X : Stand p l e R s m args below meth c T locs cells slots) (hexec : p.tables.exec = Jvm.exec) {own C : String} {index : Nat} {y : MethodName} {bytes : ByteArray} {maxL : Nat} {ret : Option FieldType} {hh : List (Nat × Nat × Nat × Nat)}
    (hown : s.vm.findClass own = some m.cls) (hlink : (Cond.methodLink own index y).before args s = true) (hinst : (Cond.instanceMethod y).before args s = true) (hsel : (Cond.selects C y y).before args s = true)
    (hcode : (Cond.codeWith y bytes maxL ret hh).before args s = true) (hy : y.cls ≠ "java/lang/invoke/MethodHandle" ∧ y.cls ≠ "java/lang/invoke/VarHandle")
    {W9 : Nat} {Pre : Pt → Array Value → Prop} {Post : Pt → Array Value → Option Value → Pt → Prop} (hK : Back l R p e below s args y 3 W9 Pre Post)
    {b : Addr} {cellB : Cell} (hcell : T.heap[b]? = some cellB) (hobj : cellB.vm.isStatics = false) (hcls : s.vm.findClass C = some cellB.cls)
    {g : JFrame} (hg : g.method = m) (hsize : g.locals.size = c.maxLocals) {argsL rest : List Value} (hlen : ∀ sig, parseMethodDescriptor y.desc = some sig → argsL.length = sig.parameters.length)
    (hstack : g.stack = argsL.reverse ++ .ref b :: rest) (hW : 2 * g.monitorRoom + (rest.map fun v => v.category).sum ≤ W9) (hdg : decode c.code g.pc = .ok (.invokevirtual index, 3))
    (hpre : ∀ vm₁, s.WarmedH vm₁ → Pre ⟨T.setVm vm₁, locs, cells, slots⟩ (Value.ref b :: argsL).toArray) :
    ∃ (v : Option Value) (vm₁ : Vm) (B : Pt), s.WarmedH vm₁ ∧ Stand p l e R s m args below meth c B.U B.locs B.cells B.slots ∧ Post ⟨T.setVm vm₁, locs, cells, slots⟩ (Value.ref b :: argsL).toArray v B ∧
      ∀ target, Steps p.tables e below (B.U.setTop { g with pc := g.pc + 3, stack := v.toList ++ rest }) target → Steps p.tables e below (T.setTop g) target := by
  obtain ⟨mk, methM, hnamed, hmethM, hstM, habM⟩ := Cond.instanceMethod_spec hinst
  obtain ⟨m8, methM', cM, hn8, hmethM', -, -, -, -, -, -, hsigM⟩ := Cond.codeWith_spec hcode
  cases Option.some.inj (hn8.symm.trans hnamed)
  cases hmethM.symm.trans hmethM'
  obtain ⟨c2, r2, m2, q1, q2, q3, q4, kP, hkP, hkPi⟩ := Cond.selects_spec hsel
  cases hcls.symm.trans q1
  cases (State.methodFound?_of_named hnamed hy).symm.trans q2
  cases hnamed.symm.trans q3
  have hselP : selectMethod e.platform s.vm cellB.cls mk = .method mk := by rw [Launch.admits_selectMethod X.admits]; exact q4
  obtain ⟨vm₁, X₁, hstep₁⟩ := X.invokevirtual hexec hown hlink hnamed hmethM hstM hkP hkPi hy (a := b) (cell := cellB) hcell
    (fun z h => by rw [h] at hobj; cases hobj) hselP hmethM habM hkP hkPi (g := g) hg (argsL := argsL) (rest := rest) (hlen _ hsigM) hstack hdg
  obtain ⟨v, B, X', hpost, hsteps⟩ := hK m meth c ⟨T.setVm vm₁, locs, cells, slots⟩ { g with stack := rest } (.invokevirtual index) mk (Value.ref b :: argsL).toArray X₁ hg hsize hdg hW (X₁.named hnamed) (hpre vm₁ X₁.warmed)
  exact ⟨v, vm₁, B, X₁.warmed, X', hpost, fun target h => hstep₁ _ fun acts => by rw [doInvoke_state]; exact hsteps.trans h⟩
abbrev vx_CVW (R : Room) (s : State) (args : Array Value) (own C : String) (index : Nat) (y : MethodName) (bytes : ByteArray) (maxL : Nat) (ret : Option FieldType) (hh : List (Nat × Nat × Nat × Nat)) (ws : List Cond) (rm : Room) (mc ms n : Nat) : Prop :=
  (rm.cells = mc ∧ rm.slots = ms ∧ rm.frames + 1 ≤ R.frames ∧ 8 + (maxL + 11) + rm.locals ≤ R.locals ∧ (∀ w ∈ ws, ∀ (a' : Array Value) (U : State), s.WarmedH U.vm → w.before a' U = true) ∧ Cond.codeWith y bytes maxL ret hh ∈ ws) ∧
  (Cond.codeWith y bytes maxL ret hh).before args s = true ∧ (Cond.initialized y.cls).before args s = true ∧ (y.cls ≠ "java/lang/invoke/MethodHandle" ∧ y.cls ≠ "java/lang/invoke/VarHandle") ∧
  (∀ sig, parseMethodDescriptor y.desc = some sig → n = sig.parameters.length) ∧ (Cond.methodLink own index y).before args s = true ∧ (Cond.instanceMethod y).before args s = true ∧ (Cond.selects C y y).before args s = true
theorem vx_cwVW {own C : String} {index maxL mc ms : Nat} {y : MethodName} {bytes : ByteArray} {ret : Option FieldType} {hh : List (Nat × Nat × Nat × Nat)} {Ts ws ws' : List Cond} {rm : Room} (n : Nat) (ht : ∀ w ∈ Ts, w.before args s = true) (hT : GoodIn Ts (wsV own index C y ws)) (hw : ws = Cond.codeWith y bytes maxL ret hh :: ws') (hrc : rm.cells = mc) (hrs : rm.slots = ms)
    (hd : y.cls = C ∧ y.cls ≠ "java/lang/invoke/MethodHandle" ∧ y.cls ≠ "java/lang/invoke/VarHandle" ∧ (parseMethodDescriptor y.desc).map (fun d => d.parameters.length) = some n) (hR : rm.frames + 1 ≤ R.frames ∧ 8 + (maxL + 11) + rm.locals ≤ R.locals) :
    vx_CVW R s args own C index y bytes maxL ret hh ws rm mc ms n := by
  obtain ⟨hC, hd⟩ := hd
  subst hC
  have ok : ∀ w ∈ wsV own index y.cls y ws, w.before args s = true := fun w h => ht w (hT w h).1
  have hG : GoodIn Ts ws := fun w h => hT w (by unfold wsV; exact List.mem_append_right _ h)
  have hc : Cond.codeWith y bytes maxL ret hh ∈ ws := by rw [hw]; exact List.mem_cons_self
  refine ⟨⟨hrc, hrs, hR.1, hR.2, pay_in ht hG, hc⟩, ht _ (hG _ hc).1, ok _ (by simp [wsV]), ⟨hd.1, hd.2.1⟩, fun sig h => ?_, ok _ (by simp [wsV]), ok _ (by simp [wsV]), ok _ (by simp [wsV])⟩
  have h2 := hd.2.2
  rw [h] at h2
  exact (Option.some.inj h2).symm
theorem vx_runVW {y : MethodName} {bytes cc : ByteArray} {maxL nL mc ms n index : Nat} {ret : Option FieldType} {hh : List (Nat × Nat × Nat × Nat)} {ws : List Cond} {rm : Room} {Pc : Array Value → State → Prop} {Qc : Array Value → State → Outcome → State → Prop} {free : Addr → Prop} {Ts : List Cond} {own C : String} {b : Addr} {As rest : List Value} {g : JFrame}
    (S : CallFix p m c cc nL s args Ts own) (hM : Met l y ws rm Pc Qc mc ms free) (cw : vx_CVW R s args own C index y bytes maxL ret hh ws rm mc ms n) (hp : PreV s H C b Pc As)
    (hg : g.method = m) (hn : As.length = n) (hsize : g.locals.size = nL) (hstack : g.stack = As.reverse ++ .ref b :: rest) (hW : 2 * g.monitorRoom + (rest.map fun v => v.category).sum ≤ 8) (hdg : decode cc g.pc = .ok (.invokevirtual index, 3)) (hf : cells + mc ≤ R.cells ∧ slots + ms ≤ R.slots) :
    va_Run p l e R s m args below meth c H locs cells slots mc ms g rest (Qc (Value.ref b :: As).toArray) free := by
  obtain ⟨⟨hrc, hrs, hfr, hlo, hws, hcw⟩, hcode, hini, hy, hlen, hl, hin, hse⟩ := cw
  have hK : Back l R p e below s args y 3 8 (PreOf R mc ms Pc) (PostOf Qc mc ms free) := va_backW (hh := hh) (bytes := bytes) (maxL := maxL) (ret := ret) hM hp.1 hrc hrs hfr hlo hws hcw (fun a' U hW => word_at hW (Or.inl (by first | rfl | simp [Cond.onTables, Cond.keeps, Cond.steady])) hini)
  obtain ⟨hx, hb, hml, ho, -⟩ := S
  obtain ⟨-, ⟨cellB, hcB, hoB, hclB⟩, hPc⟩ := hp
  intro T hT X
  obtain ⟨v, vm₁, ⟨U', l2, c2, s2⟩, hW₁, X', ⟨g', mk, t, L, e1, e2, hq, h1, hL, h2, h3⟩, st⟩ := vx_callVW X hx (C := C) (hh := hh) (bytes := bytes) (maxL := maxL) (ret := ret) ho hl hin hse hcode hy hK (by rw [hT]; exact hcB) hoB hclB hg (hsize.trans hml.symm) (argsL := As) (rest := rest) (fun sig h => hn.trans (hlen sig h)) hstack hW (by rw [hb]; exact hdg)
    (fun vm₁ hW₁ => ⟨hf.1, hf.2, hPc (T.setVm vm₁) hT hW₁⟩)
  dsimp only [Pt.U, Pt.locs, Pt.cells, Pt.slots] at X' e1 e2 h1 h2 h3 st
  subst h1; subst h2; subst h3
  exact ⟨v, (T.setVm vm₁).calling g' mk (Value.ref b :: As).toArray, t, U', L, hT, X', hL, e1, e2, hq, st⟩
section
variable {y : MethodName} {bytes cc : ByteArray} {maxL nL mc ms n index : Nat} {ret : Option FieldType} {ws : List Cond} {rm : Room} {Pc : Array Value → State → Prop} {Qc : Array Value → State → Outcome → State → Prop} {XC : String → State → State → Prop} {free : Addr → Prop} {Ts : List Cond} {own C : String} {b : Addr} {As rest : List Value} {g : JFrame}
theorem vx_runVX {hh : List (Nat × Nat × Nat × Nat)} (S : CallFix p m c cc nL s args Ts own) (hM : vx_Met l y ws rm Pc Qc XC mc ms free) (cw : vx_CVW R s args own C index y bytes maxL ret hh ws rm mc ms n) (hp : PreV s H C b Pc As)
    (hg : g.method = m) (hn : As.length = n) (hsize : g.locals.size = nL) (hstack : g.stack = As.reverse ++ .ref b :: rest) (hW : 2 * g.monitorRoom + (rest.map fun v => v.category).sum ≤ 8) (hdg : decode cc g.pc = .ok (.invokevirtual index, 3)) (hf : cells + mc ≤ R.cells ∧ slots + ms ≤ R.slots) :
    vx_Run p l e R s m args below meth c H locs cells slots mc ms g rest (Qc (Value.ref b :: As).toArray) XC free := by
  obtain ⟨⟨hrc, hrs, hfr, hlo, hws, hcw⟩, hcode, hini, hy, hlen, hl, hin, hse⟩ := cw
  have hK : vx_Back l R p e below s args y 3 8 (PreOf R mc ms Pc) (PostOf Qc mc ms free) (vx_Post XC mc ms free) := vx_backW (hh := hh) (bytes := bytes) (maxL := maxL) (ret := ret) hM hp.1 hrc hrs hfr hlo hws hcw (fun a' U hW => word_at hW (Or.inl (by first | rfl | simp [Cond.onTables, Cond.keeps, Cond.steady])) hini)
  obtain ⟨hx, hb, hml, ho, -⟩ := S
  obtain ⟨-, ⟨cellB, hcB, hoB, hclB⟩, hPc⟩ := hp
  intro T hT X
  rcases vx_callVX X hx (C := C) (hh := hh) (bytes := bytes) (maxL := maxL) (ret := ret) ho hl hin hse hcode hy hK (by rw [hT]; exact hcB) hoB hclB hg (hsize.trans hml.symm) (argsL := As) (rest := rest) (fun sig h => hn.trans (hlen sig h)) hstack hW (by rw [hb]; exact hdg)
    (fun vm₁ hW₁ => ⟨hf.1, hf.2, hPc (T.setVm vm₁) hT hW₁⟩) with ⟨v, vm₁, ⟨U', l2, c2, s2⟩, hW₁, X', ⟨g', mk, t, L, e1, e2, hq, h1, hL, h2, h3⟩, st⟩ | ⟨q, vm₁, ⟨U', l2, c2, s2⟩, hW₁, X', ⟨g', mk, t, L, E, ce, e1, e2, hq, hce, hcv, hcl, h1, hL, h2, h3⟩, st⟩
  · dsimp only [Pt.U, Pt.locs, Pt.cells, Pt.slots] at X' e1 e2 h1 h2 h3 st
    subst h1; subst h2; subst h3
    exact Or.inl ⟨v, (T.setVm vm₁).calling g' mk (Value.ref b :: As).toArray, t, U', L, hT, X', hL, e1, e2, hq, st⟩
  · dsimp only [Pt.U, Pt.locs, Pt.cells, Pt.slots] at X' e1 e2 h1 h2 h3 st hcl
    subst h1; subst h2; subst h3
    exact Or.inr ⟨q, (T.setVm vm₁).calling g' mk (Value.ref b :: As).toArray, t, U', L, E, ce, hT, X', hL, e1, e2, hq, hce, hcv, vx_cls hW₁ hcl, st⟩
theorem vx_runSX {hh : List (Nat × Nat × Nat × Nat)} (S : CallFix p m c cc nL s args Ts own) (hM : vx_Met l y ws rm Pc Qc XC mc ms free) (cw : vx_CSW R s args own index y bytes maxL ret hh ws rm mc ms n) (hp : PreS s H Pc As)
    (hg : g.method = m) (hn : As.length = n) (hsize : g.locals.size = nL) (hstack : g.stack = As.reverse ++ rest) (hW : 2 * g.monitorRoom + (rest.map fun v => v.category).sum ≤ 8) (hdg : decode cc g.pc = .ok (.invokestatic index, 3)) (hf : cells + mc ≤ R.cells ∧ slots + ms ≤ R.slots) :
    vx_Run p l e R s m args below meth c H locs cells slots mc ms g rest (Qc As.toArray) XC free := by
  obtain ⟨⟨hrc, hrs, hfr, hlo, hws, hcw⟩, hcode, hini, hy, hlen, hl, hstt⟩ := cw
  have hK : vx_Back l R p e below s args y 3 8 (PreOf R mc ms Pc) (PostOf Qc mc ms free) (vx_Post XC mc ms free) := vx_backW (hh := hh) (bytes := bytes) (maxL := maxL) (ret := ret) hM hp.1 hrc hrs hfr hlo hws hcw (fun a' U hW => word_at hW (Or.inl (by first | rfl | simp [Cond.onTables, Cond.keeps, Cond.steady])) hini)
  obtain ⟨hx, hb, hml, ho, -⟩ := S
  intro T hT X
  rcases vx_callSX X hx (hh := hh) (bytes := bytes) (maxL := maxL) (ret := ret) ho hl hstt hini hcode hy hK hg (hsize.trans hml.symm) (argsL := As) (rest := rest) (fun sig h => hn.trans (hlen sig h)) hstack hW (by rw [hb]; exact hdg)
    (fun vm₁ hW₁ => ⟨hf.1, hf.2, hp.2 (T.setVm vm₁) hT hW₁⟩) with ⟨v, vm₁, ⟨U', l2, c2, s2⟩, hW₁, X', ⟨g', mk, t, L, e1, e2, hq, h1, hL, h2, h3⟩, st⟩ | ⟨q, vm₁, ⟨U', l2, c2, s2⟩, hW₁, X', ⟨g', mk, t, L, E, ce, e1, e2, hq, hce, hcv, hcl, h1, hL, h2, h3⟩, st⟩
  · dsimp only [Pt.U, Pt.locs, Pt.cells, Pt.slots] at X' e1 e2 h1 h2 h3 st
    subst h1; subst h2; subst h3
    exact Or.inl ⟨v, (T.setVm vm₁).calling g' mk As.toArray, t, U', L, hT, X', hL, e1, e2, hq, st⟩
  · dsimp only [Pt.U, Pt.locs, Pt.cells, Pt.slots] at X' e1 e2 h1 h2 h3 st hcl
    subst h1; subst h2; subst h3
    exact Or.inr ⟨q, (T.setVm vm₁).calling g' mk As.toArray, t, U', L, E, ce, hT, X', hL, e1, e2, hq, hce, hcv, vx_cls hW₁ hcl, st⟩
end
end VXH
theorem vx_ofWH {l : Launch} {y : MethodName} {ws ws' : List Cond} {rm : Room} {Pc : Array Value → State → Prop} {Qc : Array Value → State → Outcome → State → Prop} {XC : String → State → State → Prop} {mc ms : Nat} {free : Addr → Prop} {cc : ByteArray} {maxL : Nat} {ret : Option FieldType} {hh : List (Nat × Nat × Nat × Nat)}
    (hy : plainName y.cls = true) (hw : ws = Cond.codeWith y cc maxL ret hh :: ws')
    (body : ∀ p e s m args below meth c s₁, BodyLoose p l y (headSpec ws rm) cc maxL ret e s m args below meth c s₁ → c.maxLocals = maxL → Pc args s →
      W p l e (headSpec ws rm).room s m args below meth c s.heap [] 0 0 (vx_MQ below Qc XC args s mc ms free) (entryFrame m args maxL)) : vx_Met l y ws rm Pc Qc XC mc ms free := by
  refine MetFree.of_bodyS (code := cc) (maxLocals := maxL) (ret := ret) hy ?_ ?_
  · intro args s m h hn
    obtain ⟨m9, meth, c, hn9, h1, h2, h3, h4, -, h5, h6, -⟩ := Cond.codeWith_spec (atoms_spec (ws := ws) h _ (by rw [hw]; exact List.mem_cons_self))
    cases hn.symm.trans hn9
    exact ⟨meth, c, h1, h2, h3, h4, h5, h6⟩
  · intro p e s m args below meth c s₁ B hml hP _
    have hh0 : s₁.heap = s.heap := by rw [B.state]; rfl
    obtain ⟨t, a1, o, b1, b2, b3⟩ := body p e s m args below meth c s₁ B hml hP s₁ hh0 (Stand.of_body B)
    exact ⟨t, o, a1, b1, b2, b3⟩
/-! ===== END ===== -/
end
section
/-! ===== BEGIN printed: names, fields, word lists, decode rows ===== -/
def RX0 : String := "IceFair$Booth"
def TX0 : u_T := fun k => match k with
  | 0 => ("IceFair$Booth", "number", "I", false)
  | 1 => ("IceFair$Booth", "weight", "I", false)
  | 2 => ("IceFair$Booth", "fire", "Z", false)
  | 3 => ("IceFair$Booth", "crowd", "I", false)
  | 4 => ("IceFair$Booth", "state", "I", false)
  | 5 => ("IceFair$Booth", "x", "I", false)
  | _ => ("IceFair$Booth", "y", "I", false)
def tyX0 : Nat → FieldType := fun k => match k with
  | 0 => .int
  | 1 => .int
  | 2 => .boolean
  | 3 => .int
  | 4 => .int
  | 5 => .int
  | _ => .int
abbrev wsX00 : List Cond := u_ws RX0 TX0 7
theorem nmX0 : ∀ a, a < 7 → ∀ b, b < 7 → a ≠ b → (TX0 a).2.1 ≠ (TX0 b).2.1 := by decide +kernel
theorem tyX0_ok : ∀ k, k < 7 → parseFieldDescriptor (TX0 k).2.2.1 = some (tyX0 k) := by decide +kernel
abbrev cX0_init : ByteArray := prog_2_method_1_code
def yX0_init : MethodName := ⟨RX0, "<init>", "()V"⟩
def RX1 : String := "IceFair$Customs"
def TX1 : u_T := fun k => match k with
  | 0 => ("IceFair$Customs", "numbers", "[I", true)
  | 1 => ("IceFair$Customs", "stairX", "[I", true)
  | 2 => ("IceFair$Customs", "stairY", "[I", true)
  | 3 => ("IceFair$Customs", "stairMen", "[I", true)
  | 4 => ("IceFair$Customs", "stairCount", "I", false)
  | _ => ("IceFair$Customs", "told", "I", false)
def tyX1 : Nat → FieldType := fun k => match k with
  | 0 => .array .int
  | 1 => .array .int
  | 2 => .array .int
  | 3 => .array .int
  | 4 => .int
  | _ => .int
abbrev wsX10 : List Cond := u_ws RX1 TX1 6
theorem nmX1 : ∀ a, a < 6 → ∀ b, b < 6 → a ≠ b → (TX1 a).2.1 ≠ (TX1 b).2.1 := by decide +kernel
theorem tyX1_ok : ∀ k, k < 6 → parseFieldDescriptor (TX1 k).2.2.1 = some (tyX1 k) := by decide +kernel
abbrev cX1_init : ByteArray := prog_3_method_1_code
def yX1_init : MethodName := ⟨RX1, "<init>", "()V"⟩
abbrev cX1_forget : ByteArray := prog_3_method_2_code
def yX1_forget : MethodName := ⟨RX1, "forget", "()V"⟩
abbrev cX1_copyFrom : ByteArray := prog_3_method_3_code
def yX1_copyFrom : MethodName := ⟨RX1, "copyFrom", "(LIceFair$Customs;)V"⟩
abbrev cX1_isTold : ByteArray := prog_3_method_4_code
def yX1_isTold : MethodName := ⟨RX1, "isTold", "(LIceFair$LineKind;)Z"⟩
abbrev cX1_hasStairAt : ByteArray := prog_3_method_5_code
def yX1_hasStairAt : MethodName := ⟨RX1, "hasStairAt", "(II)Z"⟩
abbrev cX1_tell : ByteArray := prog_3_method_6_code
def yX1_tell : MethodName := ⟨RX1, "tell", "(LIceFair$LineKind;[I)V"⟩
abbrev cX1_addStair : ByteArray := prog_3_method_7_code
def yX1_addStair : MethodName := ⟨RX1, "addStair", "([I)V"⟩
abbrev cX1_bear : ByteArray := prog_3_method_8_code
def yX1_bear : MethodName := ⟨RX1, "bear", "()I"⟩
abbrev cX1_meltOn : ByteArray := prog_3_method_9_code
def yX1_meltOn : MethodName := ⟨RX1, "meltOn", "()I"⟩
abbrev cX1_meltBeside : ByteArray := prog_3_method_10_code
def yX1_meltBeside : MethodName := ⟨RX1, "meltBeside", "()I"⟩
abbrev cX1_apart : ByteArray := prog_3_method_11_code
def yX1_apart : MethodName := ⟨RX1, "apart", "()I"⟩
abbrev cX1_near : ByteArray := prog_3_method_12_code
def yX1_near : MethodName := ⟨RX1, "near", "()I"⟩
abbrev cX1_heal : ByteArray := prog_3_method_13_code
def yX1_heal : MethodName := ⟨RX1, "heal", "()I"⟩
abbrev cX1_feeByWeight : ByteArray := prog_3_method_14_code
def yX1_feeByWeight : MethodName := ⟨RX1, "feeByWeight", "()I"⟩
abbrev cX1_feeForFire : ByteArray := prog_3_method_15_code
def yX1_feeForFire : MethodName := ⟨RX1, "feeForFire", "()I"⟩
def RX2 : String := "IceFair$CustomsReader"
def TX2 : u_T := fun k => match k with
  | 0 => ("IceFair$CustomsReader", "faultKind", "I", false)
  | 1 => ("IceFair$CustomsReader", "faultPlace", "I", false)
  | 2 => ("IceFair$CustomsReader", "values", "[I", true)
  | 3 => ("IceFair$CustomsReader", "text", "[I", false)
  | 4 => ("IceFair$CustomsReader", "length", "I", false)
  | 5 => ("IceFair$CustomsReader", "next", "I", false)
  | 6 => ("IceFair$CustomsReader", "token", "I", false)
  | 7 => ("IceFair$CustomsReader", "start", "I", false)
  | _ => ("IceFair$CustomsReader", "value", "I", false)
def tyX2 : Nat → FieldType := fun k => match k with
  | 0 => .int
  | 1 => .int
  | 2 => .array .int
  | 3 => .array .int
  | 4 => .int
  | 5 => .int
  | 6 => .int
  | 7 => .int
  | _ => .int
abbrev wsX20 : List Cond := u_ws RX2 TX2 9
theorem nmX2 : ∀ a, a < 9 → ∀ b, b < 9 → a ≠ b → (TX2 a).2.1 ≠ (TX2 b).2.1 := by decide +kernel
theorem tyX2_ok : ∀ k, k < 9 → parseFieldDescriptor (TX2 k).2.2.1 = some (tyX2 k) := by decide +kernel
abbrev cX2_init : ByteArray := prog_4_method_1_code
def yX2_init : MethodName := ⟨RX2, "<init>", "()V"⟩
abbrev cX2_read : ByteArray := prog_4_method_2_code
def yX2_read : MethodName := ⟨RX2, "read", "([IILIceFair$Customs;)I"⟩
abbrev cX2_readLine : ByteArray := prog_4_method_3_code
def yX2_readLine : MethodName := ⟨RX2, "readLine", "(LIceFair$Customs;)Z"⟩
abbrev cX2_readNumbers : ByteArray := prog_4_method_4_code
def yX2_readNumbers : MethodName := ⟨RX2, "readNumbers", "(LIceFair$LineKind;LIceFair$Customs;)Z"⟩
abbrev cX2_refuse : ByteArray := prog_4_method_5_code
def yX2_refuse : MethodName := ⟨RX2, "refuse", "(II)Z"⟩
abbrev cX2_kindOfWord : ByteArray := prog_4_method_6_code
def yX2_kindOfWord : MethodName := ⟨RX2, "kindOfWord", "()LIceFair$LineKind;"⟩
abbrev cX2_isWord : ByteArray := prog_4_method_7_code
def yX2_isWord : MethodName := ⟨RX2, "isWord", "(Ljava/lang/String;)Z"⟩
abbrev cX2_takeToken : ByteArray := prog_4_method_8_code
def yX2_takeToken : MethodName := ⟨RX2, "takeToken", "()V"⟩
abbrev cX2_takeWord : ByteArray := prog_4_method_9_code
def yX2_takeWord : MethodName := ⟨RX2, "takeWord", "()V"⟩
abbrev cX2_takeNumber : ByteArray := prog_4_method_10_code
def yX2_takeNumber : MethodName := ⟨RX2, "takeNumber", "()V"⟩
abbrev cX2_signAt : ByteArray := prog_4_method_11_code
def yX2_signAt : MethodName := ⟨RX2, "signAt", "(I)I"⟩
abbrev cX2_isBlank : ByteArray := prog_4_method_12_code
def yX2_isBlank : MethodName := ⟨RX2, "isBlank", "(I)Z"⟩
abbrev cX2_isLetter : ByteArray := prog_4_method_13_code
def yX2_isLetter : MethodName := ⟨RX2, "isLetter", "(I)Z"⟩
abbrev cX2_isDigit : ByteArray := prog_4_method_14_code
def yX2_isDigit : MethodName := ⟨RX2, "isDigit", "(I)Z"⟩
def RX3 : String := "IceFair$Fair"
def TX3 : u_T := fun k => match k with
  | 0 => ("IceFair$Fair", "customs", "LIceFair$Customs;", true)
  | 1 => ("IceFair$Fair", "river", "LIceFair$River;", true)
  | 2 => ("IceFair$Fair", "booths", "[LIceFair$Booth;", true)
  | 3 => ("IceFair$Fair", "boothCount", "I", false)
  | 4 => ("IceFair$Fair", "hours", "I", false)
  | _ => ("IceFair$Fair", "fees", "I", false)
def tyX3 : Nat → FieldType := fun k => match k with
  | 0 => .object "IceFair$Customs"
  | 1 => .object "IceFair$River"
  | 2 => .array (.object "IceFair$Booth")
  | 3 => .int
  | 4 => .int
  | _ => .int
abbrev wsX30 : List Cond := u_ws RX3 TX3 6
theorem nmX3 : ∀ a, a < 6 → ∀ b, b < 6 → a ≠ b → (TX3 a).2.1 ≠ (TX3 b).2.1 := by decide +kernel
theorem tyX3_ok : ∀ k, k < 6 → parseFieldDescriptor (TX3 k).2.2.1 = some (tyX3 k) := by decide +kernel
abbrev cX3_init : ByteArray := prog_5_method_1_code
def yX3_init : MethodName := ⟨RX3, "<init>", "()V"⟩
abbrev cX3_renew : ByteArray := prog_5_method_2_code
def yX3_renew : MethodName := ⟨RX3, "renew", "(II)V"⟩
abbrev cX3_boothNumbered : ByteArray := prog_5_method_3_code
def yX3_boothNumbered : MethodName := ⟨RX3, "boothNumbered", "(I)LIceFair$Booth;"⟩
abbrev cX3_addBooth : ByteArray := prog_5_method_4_code
def yX3_addBooth : MethodName := ⟨RX3, "addBooth", "(IZI)I"⟩
abbrev cX3_maySet : ByteArray := prog_5_method_5_code
def yX3_maySet : MethodName := ⟨RX3, "maySet", "(LIceFair$Booth;II)Z"⟩
abbrev cX3_suits : ByteArray := prog_5_method_6_code
def yX3_suits : MethodName := ⟨RX3, "suits", "(LIceFair$Booth;II)Z"⟩
abbrev cX3_hasFireNearerThan : ByteArray := prog_5_method_7_code
def yX3_hasFireNearerThan : MethodName := ⟨RX3, "hasFireNearerThan", "(III)Z"⟩
abbrev cX3_put : ByteArray := prog_5_method_8_code
def yX3_put : MethodName := ⟨RX3, "put", "(LIceFair$Booth;II)V"⟩
abbrev cX3_lift : ByteArray := prog_5_method_9_code
def yX3_lift : MethodName := ⟨RX3, "lift", "(LIceFair$Booth;I)V"⟩
abbrev cX3_takeFee : ByteArray := prog_5_method_10_code
def yX3_takeFee : MethodName := ⟨RX3, "takeFee", "(LIceFair$Booth;)I"⟩
abbrev cX3_hasToMove : ByteArray := prog_5_method_11_code
def yX3_hasToMove : MethodName := ⟨RX3, "hasToMove", "(LIceFair$Booth;)Z"⟩
abbrev cX3_boothsToMove : ByteArray := prog_5_method_12_code
def yX3_boothsToMove : MethodName := ⟨RX3, "boothsToMove", "()I"⟩
abbrev cX3_boothsInState : ByteArray := prog_5_method_13_code
def yX3_boothsInState : MethodName := ⟨RX3, "boothsInState", "(I)I"⟩
abbrev cX3_passHour : ByteArray := prog_5_method_14_code
def yX3_passHour : MethodName := ⟨RX3, "passHour", "(I)I"⟩
abbrev cX3_meltAt : ByteArray := prog_5_method_15_code
def yX3_meltAt : MethodName := ⟨RX3, "meltAt", "(II)I"⟩
abbrev cX3_fireAt : ByteArray := prog_5_method_16_code
def yX3_fireAt : MethodName := ⟨RX3, "fireAt", "(II)I"⟩
abbrev cX3_breakMarked : ByteArray := prog_5_method_17_code
def yX3_breakMarked : MethodName := ⟨RX3, "breakMarked", "()I"⟩
abbrev cX3_sinkAt : ByteArray := prog_5_method_18_code
def yX3_sinkAt : MethodName := ⟨RX3, "sinkAt", "(II)I"⟩
def RX4 : String := "IceFair$Laying"
def TX4 : u_T := fun k => match k with
  | 0 => ("IceFair$Laying", "looks", "I", false)
  | 1 => ("IceFair$Laying", "waiting", "[I", true)
  | 2 => ("IceFair$Laying", "waitingCount", "I", false)
  | 3 => ("IceFair$Laying", "openX", "[I", true)
  | 4 => ("IceFair$Laying", "openY", "[I", true)
  | 5 => ("IceFair$Laying", "farFromCracks", "[Z", true)
  | 6 => ("IceFair$Laying", "openCount", "I", false)
  | 7 => ("IceFair$Laying", "tried", "[I", true)
  | _ => ("IceFair$Laying", "allBears", "Z", false)
def tyX4 : Nat → FieldType := fun k => match k with
  | 0 => .int
  | 1 => .array .int
  | 2 => .int
  | 3 => .array .int
  | 4 => .array .int
  | 5 => .array .boolean
  | 6 => .int
  | 7 => .array .int
  | _ => .boolean
abbrev wsX40 : List Cond := u_ws RX4 TX4 9
theorem nmX4 : ∀ a, a < 9 → ∀ b, b < 9 → a ≠ b → (TX4 a).2.1 ≠ (TX4 b).2.1 := by decide +kernel
theorem tyX4_ok : ∀ k, k < 9 → parseFieldDescriptor (TX4 k).2.2.1 = some (tyX4 k) := by decide +kernel
abbrev cX4_init : ByteArray := prog_6_method_1_code
def yX4_init : MethodName := ⟨RX4, "<init>", "()V"⟩
abbrev cX4_layAll : ByteArray := prog_6_method_2_code
def yX4_layAll : MethodName := ⟨RX4, "layAll", "(LIceFair$Fair;)I"⟩
abbrev cX4_gatherWaiting : ByteArray := prog_6_method_3_code
def yX4_gatherWaiting : MethodName := ⟨RX4, "gatherWaiting", "(LIceFair$Fair;)V"⟩
abbrev cX4_gatherOpen : ByteArray := prog_6_method_4_code
def yX4_gatherOpen : MethodName := ⟨RX4, "gatherOpen", "(LIceFair$Fair;)V"⟩
abbrev cX4_findRow : ByteArray := prog_6_method_5_code
def yX4_findRow : MethodName := ⟨RX4, "findRow", "(LIceFair$Fair;)Z"⟩
abbrev cX4_setNext : ByteArray := prog_6_method_6_code
def yX4_setNext : MethodName := ⟨RX4, "setNext", "(LIceFair$Fair;I)Z"⟩
abbrev cX4_takeBack : ByteArray := prog_6_method_7_code
def yX4_takeBack : MethodName := ⟨RX4, "takeBack", "(LIceFair$Fair;I)V"⟩
abbrev cX4_takeBackAll : ByteArray := prog_6_method_8_code
def yX4_takeBackAll : MethodName := ⟨RX4, "takeBackAll", "(LIceFair$Fair;)V"⟩
abbrev cX4_takeFees : ByteArray := prog_6_method_9_code
def yX4_takeFees : MethodName := ⟨RX4, "takeFees", "(LIceFair$Fair;)V"⟩
def RX5 : String := "IceFair$LineKind"
def TX5 : u_T := fun k => match k with
  | _ => ("", "", "", false)
def tyX5 : Nat → FieldType := fun k => match k with
  | _ => .int
abbrev wsX50 : List Cond := u_ws RX5 TX5 0
theorem nmX5 : ∀ a, a < 0 → ∀ b, b < 0 → a ≠ b → (TX5 a).2.1 ≠ (TX5 b).2.1 := by decide +kernel
theorem tyX5_ok : ∀ k, k < 0 → parseFieldDescriptor (TX5 k).2.2.1 = some (tyX5 k) := by decide +kernel
abbrev cX5_allows : ByteArray := prog_7_method_4_code
def yX5_allows : MethodName := ⟨RX5, "allows", "(II)Z"⟩
def RX6 : String := "IceFair$River"
def TX6 : u_T := fun k => match k with
  | 0 => ("IceFair$River", "width", "I", false)
  | 1 => ("IceFair$River", "height", "I", false)
  | 2 => ("IceFair$River", "low", "[I", true)
  | 3 => ("IceFair$River", "high", "[I", true)
  | 4 => ("IceFair$River", "strain", "[I", true)
  | 5 => ("IceFair$River", "guest", "[I", true)
  | 6 => ("IceFair$River", "cracked", "[Z", true)
  | _ => ("IceFair$River", "breaking", "[Z", true)
def tyX6 : Nat → FieldType := fun k => match k with
  | 0 => .int
  | 1 => .int
  | 2 => .array .int
  | 3 => .array .int
  | 4 => .array .int
  | 5 => .array .int
  | 6 => .array .boolean
  | _ => .array .boolean
abbrev wsX60 : List Cond := u_ws RX6 TX6 8
theorem nmX6 : ∀ a, a < 8 → ∀ b, b < 8 → a ≠ b → (TX6 a).2.1 ≠ (TX6 b).2.1 := by decide +kernel
theorem tyX6_ok : ∀ k, k < 8 → parseFieldDescriptor (TX6 k).2.2.1 = some (tyX6 k) := by decide +kernel
abbrev cX6_init : ByteArray := prog_8_method_1_code
def yX6_init : MethodName := ⟨RX6, "<init>", "()V"⟩
abbrev cX6_renew : ByteArray := prog_8_method_2_code
def yX6_renew : MethodName := ⟨RX6, "renew", "(II)V"⟩
abbrev cX6_has : ByteArray := prog_8_method_3_code
def yX6_has : MethodName := ⟨RX6, "has", "(II)Z"⟩
abbrev cX6_spotOf : ByteArray := prog_8_method_4_code
def yX6_spotOf : MethodName := ⟨RX6, "spotOf", "(II)I"⟩
abbrev cX6_isFirm : ByteArray := prog_8_method_5_code
def yX6_isFirm : MethodName := ⟨RX6, "isFirm", "(II)Z"⟩
abbrev cX6_isOpen : ByteArray := prog_8_method_6_code
def yX6_isOpen : MethodName := ⟨RX6, "isOpen", "(II)Z"⟩
abbrev cX6_guestAt : ByteArray := prog_8_method_7_code
def yX6_guestAt : MethodName := ⟨RX6, "guestAt", "(II)I"⟩
abbrev cX6_bearing : ByteArray := prog_8_method_8_code
def yX6_bearing : MethodName := ⟨RX6, "bearing", "(II)I"⟩
abbrev cX6_makeThick : ByteArray := prog_8_method_9_code
def yX6_makeThick : MethodName := ⟨RX6, "makeThick", "(IIII)V"⟩
abbrev cX6_thicken : ByteArray := prog_8_method_10_code
def yX6_thicken : MethodName := ⟨RX6, "thicken", "(III)V"⟩
abbrev cX6_withinBounds : ByteArray := prog_8_method_11_code
def yX6_withinBounds : MethodName := ⟨RX6, "withinBounds", "(I)I"⟩
abbrev cX6_share : ByteArray := prog_8_method_12_code
def yX6_share : MethodName := ⟨RX6, "share", "(II)I"⟩
abbrev cX6_load : ByteArray := prog_8_method_13_code
def yX6_load : MethodName := ⟨RX6, "load", "(III)V"⟩
abbrev cX6_bearsAlso : ByteArray := prog_8_method_14_code
def yX6_bearsAlso : MethodName := ⟨RX6, "bearsAlso", "(IIII)Z"⟩
abbrev cX6_bearsAll : ByteArray := prog_8_method_15_code
def yX6_bearsAll : MethodName := ⟨RX6, "bearsAll", "(I)Z"⟩
abbrev cX6_hasCrackNearerThan : ByteArray := prog_8_method_16_code
def yX6_hasCrackNearerThan : MethodName := ⟨RX6, "hasCrackNearerThan", "(III)Z"⟩
abbrev cX6_crackCount : ByteArray := prog_8_method_17_code
def yX6_crackCount : MethodName := ⟨RX6, "crackCount", "()I"⟩
abbrev cX6_healFrom : ByteArray := prog_8_method_18_code
def yX6_healFrom : MethodName := ⟨RX6, "healFrom", "(I)V"⟩
abbrev cX6_markBreaking : ByteArray := prog_8_method_19_code
def yX6_markBreaking : MethodName := ⟨RX6, "markBreaking", "(I)Z"⟩
abbrev cX6_crackIfMarked : ByteArray := prog_8_method_20_code
def yX6_crackIfMarked : MethodName := ⟨RX6, "crackIfMarked", "(II)Z"⟩
def RX7 : String := "IceFair$Tape"
def TX7 : u_T := fun k => match k with
  | 0 => ("IceFair$Tape", "bytes", "[I", true)
  | _ => ("IceFair$Tape", "length", "I", false)
def tyX7 : Nat → FieldType := fun k => match k with
  | 0 => .array .int
  | _ => .int
abbrev wsX70 : List Cond := u_ws RX7 TX7 2
theorem nmX7 : ∀ a, a < 2 → ∀ b, b < 2 → a ≠ b → (TX7 a).2.1 ≠ (TX7 b).2.1 := by decide +kernel
theorem tyX7_ok : ∀ k, k < 2 → parseFieldDescriptor (TX7 k).2.2.1 = some (tyX7 k) := by decide +kernel
abbrev cX7_init : ByteArray := prog_9_method_1_code
def yX7_init : MethodName := ⟨RX7, "<init>", "()V"⟩
abbrev cX7_append : ByteArray := prog_9_method_2_code
def yX7_append : MethodName := ⟨RX7, "append", "(I)V"⟩
def RX8 : String := "IceFair$WayOff"
def TX8 : u_T := fun k => match k with
  | 0 => ("IceFair$WayOff", "steps", "[I", true)
  | 1 => ("IceFair$WayOff", "queue", "[I", true)
  | 2 => ("IceFair$WayOff", "queued", "I", false)
  | 3 => ("IceFair$WayOff", "stepsOfBooth", "[I", true)
  | 4 => ("IceFair$WayOff", "firstSteps", "[I", true)
  | _ => ("IceFair$WayOff", "crowded", "I", false)
def tyX8 : Nat → FieldType := fun k => match k with
  | 0 => .array .int
  | 1 => .array .int
  | 2 => .int
  | 3 => .array .int
  | 4 => .array .int
  | _ => .int
abbrev wsX80 : List Cond := u_ws RX8 TX8 6
theorem nmX8 : ∀ a, a < 6 → ∀ b, b < 6 → a ≠ b → (TX8 a).2.1 ≠ (TX8 b).2.1 := by decide +kernel
theorem tyX8_ok : ∀ k, k < 6 → parseFieldDescriptor (TX8 k).2.2.1 = some (tyX8 k) := by decide +kernel
abbrev cX8_init : ByteArray := prog_10_method_1_code
def yX8_init : MethodName := ⟨RX8, "<init>", "()V"⟩
abbrev cX8_stepsToNearest : ByteArray := prog_10_method_2_code
def yX8_stepsToNearest : MethodName := ⟨RX8, "stepsToNearest", "(LIceFair$Fair;LIceFair$Booth;)I"⟩
abbrev cX8_leastMinutes : ByteArray := prog_10_method_3_code
def yX8_leastMinutes : MethodName := ⟨RX8, "leastMinutes", "(LIceFair$Fair;)I"⟩
abbrev cX8_leastLateGroup : ByteArray := prog_10_method_4_code
def yX8_leastLateGroup : MethodName := ⟨RX8, "leastLateGroup", "(LIceFair$Fair;I)I"⟩
abbrev cX8_measure : ByteArray := prog_10_method_5_code
def yX8_measure : MethodName := ⟨RX8, "measure", "(LIceFair$Fair;)V"⟩
abbrev cX8_hasSomebodyStuck : ByteArray := prog_10_method_6_code
def yX8_hasSomebodyStuck : MethodName := ⟨RX8, "hasSomebodyStuck", "(LIceFair$Fair;)Z"⟩
abbrev cX8_reachesSomeStair : ByteArray := prog_10_method_7_code
def yX8_reachesSomeStair : MethodName := ⟨RX8, "reachesSomeStair", "(LIceFair$Fair;I)Z"⟩
abbrev cX8_spreadFrom : ByteArray := prog_10_method_8_code
def yX8_spreadFrom : MethodName := ⟨RX8, "spreadFrom", "(LIceFair$Fair;I)V"⟩
abbrev cX8_reach : ByteArray := prog_10_method_9_code
def yX8_reach : MethodName := ⟨RX8, "reach", "(LIceFair$River;III)V"⟩
abbrev cX8_stepsFrom : ByteArray := prog_10_method_10_code
def yX8_stepsFrom : MethodName := ⟨RX8, "stepsFrom", "(LIceFair$River;II)I"⟩
abbrev cX8_stepsAt : ByteArray := prog_10_method_11_code
def yX8_stepsAt : MethodName := ⟨RX8, "stepsAt", "(LIceFair$River;II)I"⟩
abbrev cX8_nearer : ByteArray := prog_10_method_12_code
def yX8_nearer : MethodName := ⟨RX8, "nearer", "(II)I"⟩
abbrev cX8_noteFirstSteps : ByteArray := prog_10_method_13_code
def yX8_noteFirstSteps : MethodName := ⟨RX8, "noteFirstSteps", "(LIceFair$Fair;I)V"⟩
abbrev cX8_menOf : ByteArray := prog_10_method_14_code
def yX8_menOf : MethodName := ⟨RX8, "menOf", "(LIceFair$Fair;I)I"⟩
abbrev cX8_menLetOff : ByteArray := prog_10_method_15_code
def yX8_menLetOff : MethodName := ⟨RX8, "menLetOff", "(LIceFair$Fair;I)I"⟩
abbrev cX8_minutesFor : ByteArray := prog_10_method_16_code
def yX8_minutesFor : MethodName := ⟨RX8, "minutesFor", "(LIceFair$Fair;II)I"⟩
def RX9 : String := "IceFair"
def TX9 : u_T := fun k => match k with
  | 0 => ("IceFair", "tape", "LIceFair$Tape;", true)
  | 1 => ("IceFair", "reader", "LIceFair$CustomsReader;", true)
  | 2 => ("IceFair", "draft", "LIceFair$Customs;", true)
  | 3 => ("IceFair", "fair", "LIceFair$Fair;", true)
  | 4 => ("IceFair", "laying", "LIceFair$Laying;", true)
  | _ => ("IceFair", "wayOff", "LIceFair$WayOff;", true)
def tyX9 : Nat → FieldType := fun k => match k with
  | 0 => .object "IceFair$Tape"
  | 1 => .object "IceFair$CustomsReader"
  | 2 => .object "IceFair$Customs"
  | 3 => .object "IceFair$Fair"
  | 4 => .object "IceFair$Laying"
  | _ => .object "IceFair$WayOff"
abbrev wsX90 : List Cond := u_ws RX9 TX9 6
theorem nmX9 : ∀ a, a < 6 → ∀ b, b < 6 → a ≠ b → (TX9 a).2.1 ≠ (TX9 b).2.1 := by decide +kernel
theorem tyX9_ok : ∀ k, k < 6 → parseFieldDescriptor (TX9 k).2.2.1 = some (tyX9 k) := by decide +kernel
abbrev cX9_init : ByteArray := prog_1_method_1_code
def yX9_init : MethodName := ⟨RX9, "<init>", "()V"⟩
abbrev cX9_feed : ByteArray := prog_1_method_2_code
def yX9_feed : MethodName := ⟨RX9, "feed", "(IIIII)I"⟩
abbrev cX9_customs : ByteArray := prog_1_method_3_code
def yX9_customs : MethodName := ⟨RX9, "customs", "(I)I"⟩
abbrev cX9_fault : ByteArray := prog_1_method_4_code
def yX9_fault : MethodName := ⟨RX9, "fault", "(I)I"⟩
abbrev cX9_ice : ByteArray := prog_1_method_5_code
def yX9_ice : MethodName := ⟨RX9, "ice", "(II)Z"⟩
abbrev cX9_sound : ByteArray := prog_1_method_6_code
def yX9_sound : MethodName := ⟨RX9, "sound", "(IIIIII)Z"⟩
abbrev cX9_booth : ByteArray := prog_1_method_7_code
def yX9_booth : MethodName := ⟨RX9, "booth", "(IZI)I"⟩
abbrev cX9_set : ByteArray := prog_1_method_8_code
def yX9_set : MethodName := ⟨RX9, "set", "(III)I"⟩
abbrev cX9_clear : ByteArray := prog_1_method_9_code
def yX9_clear : MethodName := ⟨RX9, "clear", "(I)Z"⟩
abbrev cX9_hour : ByteArray := prog_1_method_10_code
def yX9_hour : MethodName := ⟨RX9, "hour", "(I)I"⟩
abbrev cX9_lay : ByteArray := prog_1_method_11_code
def yX9_lay : MethodName := ⟨RX9, "lay", "()I"⟩
abbrev cX9_soon : ByteArray := prog_1_method_12_code
def yX9_soon : MethodName := ⟨RX9, "soon", "()I"⟩
abbrev cX9_proof : ByteArray := prog_1_method_13_code
def yX9_proof : MethodName := ⟨RX9, "proof", "()I"⟩
abbrev cX9_cell : ByteArray := prog_1_method_14_code
def yX9_cell : MethodName := ⟨RX9, "cell", "(III)I"⟩
abbrev cX9_look : ByteArray := prog_1_method_15_code
def yX9_look : MethodName := ⟨RX9, "look", "(II)I"⟩
abbrev cX9_count : ByteArray := prog_1_method_16_code
def yX9_count : MethodName := ⟨RX9, "count", "(I)I"⟩
def RX10 : String := "IceFairModel"
def TX10 : u_T := fun k => match k with
  | 0 => ("IceFairModel", "tape", "[I", true)
  | 1 => ("IceFairModel", "tapeSize", "I", false)
  | 2 => ("IceFairModel", "thrown", "I", false)
  | 3 => ("IceFairModel", "rule", "[I", true)
  | 4 => ("IceFairModel", "rules", "[I", true)
  | 5 => ("IceFairModel", "stairs", "I", false)
  | 6 => ("IceFairModel", "stair", "[I", true)
  | 7 => ("IceFairModel", "readStairs", "I", false)
  | 8 => ("IceFairModel", "fault", "I", false)
  | 9 => ("IceFairModel", "faultPlace", "I", false)
  | 10 => ("IceFairModel", "wide", "I", false)
  | 11 => ("IceFairModel", "tall", "I", false)
  | 12 => ("IceFairModel", "low", "[I", true)
  | 13 => ("IceFairModel", "high", "[I", true)
  | 14 => ("IceFairModel", "crack", "[Z", true)
  | 15 => ("IceFairModel", "booths", "I", false)
  | 16 => ("IceFairModel", "weight", "[I", true)
  | 17 => ("IceFairModel", "fire", "[Z", true)
  | 18 => ("IceFairModel", "crowd", "[I", true)
  | 19 => ("IceFairModel", "state", "[I", true)
  | 20 => ("IceFairModel", "where", "[I", true)
  | 21 => ("IceFairModel", "hours", "I", false)
  | 22 => ("IceFairModel", "fees", "I", false)
  | 23 => ("IceFairModel", "looks", "I", false)
  | 24 => ("IceFairModel", "words", "[I", true)
  | 25 => ("IceFairModel", "end", "I", false)
  | 26 => ("IceFairModel", "next", "I", false)
  | 27 => ("IceFairModel", "kind", "I", false)
  | 28 => ("IceFairModel", "which", "I", false)
  | 29 => ("IceFairModel", "place", "I", false)
  | 30 => ("IceFairModel", "read", "I", false)
  | 31 => ("IceFairModel", "told", "[Z", true)
  | 32 => ("IceFairModel", "breaks", "[Z", true)
  | 33 => ("IceFairModel", "row", "[I", true)
  | 34 => ("IceFairModel", "tried", "[I", true)
  | 35 => ("IceFairModel", "steps", "[I", true)
  | _ => ("IceFairModel", "paths", "[I", true)
def tyX10 : Nat → FieldType := fun k => match k with
  | 0 => .array .int
  | 1 => .int
  | 2 => .int
  | 3 => .array .int
  | 4 => .array .int
  | 5 => .int
  | 6 => .array .int
  | 7 => .int
  | 8 => .int
  | 9 => .int
  | 10 => .int
  | 11 => .int
  | 12 => .array .int
  | 13 => .array .int
  | 14 => .array .boolean
  | 15 => .int
  | 16 => .array .int
  | 17 => .array .boolean
  | 18 => .array .int
  | 19 => .array .int
  | 20 => .array .int
  | 21 => .int
  | 22 => .int
  | 23 => .int
  | 24 => .array .int
  | 25 => .int
  | 26 => .int
  | 27 => .int
  | 28 => .int
  | 29 => .int
  | 30 => .int
  | 31 => .array .boolean
  | 32 => .array .boolean
  | 33 => .array .int
  | 34 => .array .int
  | 35 => .array .int
  | _ => .array .int
abbrev wsX100 : List Cond := u_ws RX10 TX10 37
theorem nmX10 : ∀ a, a < 37 → ∀ b, b < 37 → a ≠ b → (TX10 a).2.1 ≠ (TX10 b).2.1 := by decide +kernel
theorem tyX10_ok : ∀ k, k < 37 → parseFieldDescriptor (TX10 k).2.2.1 = some (tyX10 k) := by decide +kernel
abbrev cX10_init : ByteArray := prog_12_method_1_code
def yX10_init : MethodName := ⟨RX10, "<init>", "()V"⟩
abbrev cX10_thrown : ByteArray := prog_12_method_2_code
def yX10_thrown : MethodName := ⟨RX10, "thrown", "()I"⟩
abbrev cX10_feed : ByteArray := prog_12_method_3_code
def yX10_feed : MethodName := ⟨RX10, "feed", "(IIIII)I"⟩
abbrev cX10_wrong : ByteArray := prog_12_method_4_code
def yX10_wrong : MethodName := ⟨RX10, "wrong", "(II)Z"⟩
abbrev cX10_wordAt : ByteArray := prog_12_method_5_code
def yX10_wordAt : MethodName := ⟨RX10, "wordAt", "(II)I"⟩
abbrev cX10_isSmall : ByteArray := prog_12_method_6_code
def yX10_isSmall : MethodName := ⟨RX10, "isSmall", "(I)Z"⟩
abbrev cX10_isDigit : ByteArray := prog_12_method_7_code
def yX10_isDigit : MethodName := ⟨RX10, "isDigit", "(I)Z"⟩
abbrev cX10_take : ByteArray := prog_12_method_8_code
def yX10_take : MethodName := ⟨RX10, "take", "()V"⟩
abbrev cX10_number : ByteArray := prog_12_method_9_code
def yX10_number : MethodName := ⟨RX10, "number", "(II)Z"⟩
abbrev cX10_pair : ByteArray := prog_12_method_10_code
def yX10_pair : MethodName := ⟨RX10, "pair", "(II)Z"⟩
abbrev cX10_stairLine : ByteArray := prog_12_method_11_code
def yX10_stairLine : MethodName := ⟨RX10, "stairLine", "()Z"⟩
abbrev cX10_single : ByteArray := prog_12_method_12_code
def yX10_single : MethodName := ⟨RX10, "single", "(III)Z"⟩
abbrev cX10_line : ByteArray := prog_12_method_13_code
def yX10_line : MethodName := ⟨RX10, "line", "()Z"⟩
abbrev cX10_customs : ByteArray := prog_12_method_14_code
def yX10_customs : MethodName := ⟨RX10, "customs", "(I)I"⟩
abbrev cX10_fault : ByteArray := prog_12_method_15_code
def yX10_fault : MethodName := ⟨RX10, "fault", "(I)I"⟩
abbrev cX10_ice : ByteArray := prog_12_method_16_code
def yX10_ice : MethodName := ⟨RX10, "ice", "(II)Z"⟩
abbrev cX10_isCell : ByteArray := prog_12_method_17_code
def yX10_isCell : MethodName := ⟨RX10, "isCell", "(II)Z"⟩
abbrev cX10_sound : ByteArray := prog_12_method_18_code
def yX10_sound : MethodName := ⟨RX10, "sound", "(IIIIII)Z"⟩
abbrev cX10_booth : ByteArray := prog_12_method_19_code
def yX10_booth : MethodName := ⟨RX10, "booth", "(IZI)I"⟩
abbrev cX10_size : ByteArray := prog_12_method_20_code
def yX10_size : MethodName := ⟨RX10, "size", "(I)I"⟩
abbrev cX10_far : ByteArray := prog_12_method_21_code
def yX10_far : MethodName := ⟨RX10, "far", "(II)I"⟩
abbrev cX10_strain : ByteArray := prog_12_method_22_code
def yX10_strain : MethodName := ⟨RX10, "strain", "(I)I"⟩
abbrev cX10_bears : ByteArray := prog_12_method_23_code
def yX10_bears : MethodName := ⟨RX10, "bears", "(I)I"⟩
abbrev cX10_boothAt : ByteArray := prog_12_method_24_code
def yX10_boothAt : MethodName := ⟨RX10, "boothAt", "(I)I"⟩
abbrev cX10_isOpen : ByteArray := prog_12_method_25_code
def yX10_isOpen : MethodName := ⟨RX10, "isOpen", "(I)Z"⟩
abbrev cX10_may : ByteArray := prog_12_method_26_code
def yX10_may : MethodName := ⟨RX10, "may", "(II)Z"⟩
abbrev cX10_feeOf : ByteArray := prog_12_method_27_code
def yX10_feeOf : MethodName := ⟨RX10, "feeOf", "(I)I"⟩
abbrev cX10_isBooth : ByteArray := prog_12_method_28_code
def yX10_isBooth : MethodName := ⟨RX10, "isBooth", "(II)Z"⟩
abbrev cX10_set : ByteArray := prog_12_method_29_code
def yX10_set : MethodName := ⟨RX10, "set", "(III)I"⟩
abbrev cX10_clear : ByteArray := prog_12_method_30_code
def yX10_clear : MethodName := ⟨RX10, "clear", "(I)Z"⟩
abbrev cX10_fires : ByteArray := prog_12_method_31_code
def yX10_fires : MethodName := ⟨RX10, "fires", "(I)I"⟩
abbrev cX10_within : ByteArray := prog_12_method_32_code
def yX10_within : MethodName := ⟨RX10, "within", "(I)I"⟩
abbrev cX10_hour : ByteArray := prog_12_method_33_code
def yX10_hour : MethodName := ⟨RX10, "hour", "(I)I"⟩
abbrev cX10_lay : ByteArray := prog_12_method_34_code
def yX10_lay : MethodName := ⟨RX10, "lay", "()I"⟩
abbrev cX10_isStair : ByteArray := prog_12_method_35_code
def yX10_isStair : MethodName := ⟨RX10, "isStair", "(I)Z"⟩
abbrev cX10_walks : ByteArray := prog_12_method_36_code
def yX10_walks : MethodName := ⟨RX10, "walks", "()V"⟩
abbrev cX10_beside : ByteArray := prog_12_method_37_code
def yX10_beside : MethodName := ⟨RX10, "beside", "(III)I"⟩
abbrev cX10_stepsOf : ByteArray := prog_12_method_38_code
def yX10_stepsOf : MethodName := ⟨RX10, "stepsOf", "(II)I"⟩
abbrev cX10_pathAll : ByteArray := prog_12_method_39_code
def yX10_pathAll : MethodName := ⟨RX10, "pathAll", "()V"⟩
abbrev cX10_isSet : ByteArray := prog_12_method_40_code
def yX10_isSet : MethodName := ⟨RX10, "isSet", "(I)Z"⟩
abbrev cX10_over : ByteArray := prog_12_method_41_code
def yX10_over : MethodName := ⟨RX10, "over", "(II)I"⟩
abbrev cX10_canBe : ByteArray := prog_12_method_42_code
def yX10_canBe : MethodName := ⟨RX10, "canBe", "(I)Z"⟩
abbrev cX10_soonest : ByteArray := prog_12_method_43_code
def yX10_soonest : MethodName := ⟨RX10, "soonest", "()I"⟩
abbrev cX10_soon : ByteArray := prog_12_method_44_code
def yX10_soon : MethodName := ⟨RX10, "soon", "()I"⟩
abbrev cX10_proof : ByteArray := prog_12_method_45_code
def yX10_proof : MethodName := ⟨RX10, "proof", "()I"⟩
abbrev cX10_fails : ByteArray := prog_12_method_46_code
def yX10_fails : MethodName := ⟨RX10, "fails", "(I)I"⟩
abbrev cX10_cell : ByteArray := prog_12_method_47_code
def yX10_cell : MethodName := ⟨RX10, "cell", "(III)I"⟩
abbrev cX10_moves : ByteArray := prog_12_method_48_code
def yX10_moves : MethodName := ⟨RX10, "moves", "(I)Z"⟩
abbrev cX10_look : ByteArray := prog_12_method_49_code
def yX10_look : MethodName := ⟨RX10, "look", "(II)I"⟩
abbrev cX10_nearest : ByteArray := prog_12_method_50_code
def yX10_nearest : MethodName := ⟨RX10, "nearest", "(I)I"⟩
abbrev cX10_count : ByteArray := prog_12_method_51_code
def yX10_count : MethodName := ⟨RX10, "count", "(I)I"⟩
def RJx29ce0 : String := "java/lang/Enum"
def TJx29ce0 : u_T := fun k => match k with
  | _ => ("", "", "", false)
def tyJx29ce0 : Nat → FieldType := fun k => match k with
  | _ => .int
abbrev wsJx29ce00 : List Cond := u_ws RJx29ce0 TJx29ce0 0
theorem nmJx29ce0 : ∀ a, a < 0 → ∀ b, b < 0 → a ≠ b → (TJx29ce0 a).2.1 ≠ (TJx29ce0 b).2.1 := by decide +kernel
theorem tyJx29ce0_ok : ∀ k, k < 0 → parseFieldDescriptor (TJx29ce0 k).2.2.1 = some (tyJx29ce0 k) := by decide +kernel
def RJ9 : String := "java/lang/Math"
def TJ9 : u_T := fun k => match k with
  | _ => ("", "", "", false)
def tyJ9 : Nat → FieldType := fun k => match k with
  | _ => .int
abbrev wsJ90 : List Cond := u_ws RJ9 TJ9 0
theorem nmJ9 : ∀ a, a < 0 → ∀ b, b < 0 → a ≠ b → (TJ9 a).2.1 ≠ (TJ9 b).2.1 := by decide +kernel
theorem tyJ9_ok : ∀ k, k < 0 → parseFieldDescriptor (TJ9 k).2.2.1 = some (tyJ9 k) := by decide +kernel
abbrev cJ9_abs_0f7a4 : ByteArray := prog_16_method_59_code
def yJ9_abs_0f7a4 : MethodName := ⟨RJ9, "abs", "(I)I"⟩
abbrev cJ9_max_7cf53 : ByteArray := prog_16_method_65_code
def yJ9_max_7cf53 : MethodName := ⟨RJ9, "max", "(II)I"⟩
abbrev cJ9_min_7cf53 : ByteArray := prog_16_method_69_code
def yJ9_min_7cf53 : MethodName := ⟨RJ9, "min", "(II)I"⟩
def RJ0 : String := "java/lang/String"
def TJ0 : u_T := fun k => match k with
  | _ => ("", "", "", false)
def tyJ0 : Nat → FieldType := fun k => match k with
  | _ => .int
abbrev wsJ00 : List Cond := u_ws RJ0 TJ0 0
theorem nmJ0 : ∀ a, a < 0 → ∀ b, b < 0 → a ≠ b → (TJ0 a).2.1 ≠ (TJ0 b).2.1 := by decide +kernel
theorem tyJ0_ok : ∀ k, k < 0 → parseFieldDescriptor (TJ0 k).2.2.1 = some (tyJ0 k) := by decide +kernel
abbrev cJ0_length_8abf5 : ByteArray := prog_18_method_54_code
def yJ0_length_8abf5 : MethodName := ⟨RJ0, "length", "()I"⟩
abbrev cJ0_charAt_5068e : ByteArray := prog_18_method_56_code
def yJ0_charAt_5068e : MethodName := ⟨RJ0, "charAt", "(I)C"⟩
abbrev cJ0_coder_7d493 : ByteArray := prog_18_method_152_code
def yJ0_coder_7d493 : MethodName := ⟨RJ0, "coder", "()B"⟩
abbrev cJ0_isLatin1_aae02 : ByteArray := prog_18_method_154_code
def yJ0_isLatin1_aae02 : MethodName := ⟨RJ0, "isLatin1", "()Z"⟩
abbrev cJ0_checkIndex_df160 : ByteArray := prog_18_method_155_code
def yJ0_checkIndex_df160 : MethodName := ⟨RJ0, "checkIndex", "(II)V"⟩
def RJ1 : String := "java/lang/StringLatin1"
def TJ1 : u_T := fun k => match k with
  | _ => ("", "", "", false)
def tyJ1 : Nat → FieldType := fun k => match k with
  | _ => .int
abbrev wsJ10 : List Cond := u_ws RJ1 TJ1 0
theorem nmJ1 : ∀ a, a < 0 → ∀ b, b < 0 → a ≠ b → (TJ1 a).2.1 ≠ (TJ1 b).2.1 := by decide +kernel
theorem tyJ1_ok : ∀ k, k < 0 → parseFieldDescriptor (TJ1 k).2.2.1 = some (tyJ1 k) := by decide +kernel
abbrev cJ1_charAt_3b067 : ByteArray := prog_19_method_2_code
def yJ1_charAt_3b067 : MethodName := ⟨RJ1, "charAt", "([BI)C"⟩
def RJ2 : String := "java/lang/StringUTF16"
def TJ2 : u_T := fun k => match k with
  | _ => ("", "", "", false)
def tyJ2 : Nat → FieldType := fun k => match k with
  | _ => .int
abbrev wsJ20 : List Cond := u_ws RJ2 TJ2 0
theorem nmJ2 : ∀ a, a < 0 → ∀ b, b < 0 → a ≠ b → (TJ2 a).2.1 ≠ (TJ2 b).2.1 := by decide +kernel
theorem tyJ2_ok : ∀ k, k < 0 → parseFieldDescriptor (TJ2 k).2.2.1 = some (tyJ2 k) := by decide +kernel
abbrev cJ2_getChar_3b067 : ByteArray := prog_20_method_5_code
def yJ2_getChar_3b067 : MethodName := ⟨RJ2, "getChar", "([BI)C"⟩
abbrev cJ2_length_9d52b : ByteArray := prog_20_method_6_code
def yJ2_length_9d52b : MethodName := ⟨RJ2, "length", "([B)I"⟩
abbrev cJ2_charAt_3b067 : ByteArray := prog_20_method_83_code
def yJ2_charAt_3b067 : MethodName := ⟨RJ2, "charAt", "([BI)C"⟩
abbrev cJ2_checkIndex_2214a : ByteArray := prog_20_method_91_code
def yJ2_checkIndex_2214a : MethodName := ⟨RJ2, "checkIndex", "(I[B)V"⟩
def RJ10 : String := "java/lang/System"
def TJ10 : u_T := fun k => match k with
  | _ => ("", "", "", false)
def tyJ10 : Nat → FieldType := fun k => match k with
  | _ => .int
abbrev wsJ100 : List Cond := u_ws RJ10 TJ10 0
theorem nmJ10 : ∀ a, a < 0 → ∀ b, b < 0 → a ≠ b → (TJ10 a).2.1 ≠ (TJ10 b).2.1 := by decide +kernel
theorem tyJ10_ok : ∀ k, k < 0 → parseFieldDescriptor (TJ10 k).2.2.1 = some (tyJ10 k) := by decide +kernel
def RJ3 : String := "jdk/internal/util/Preconditions"
def TJ3 : u_T := fun k => match k with
  | _ => ("", "", "", false)
def tyJ3 : Nat → FieldType := fun k => match k with
  | _ => .int
abbrev wsJ30 : List Cond := u_ws RJ3 TJ3 0
theorem nmJ3 : ∀ a, a < 0 → ∀ b, b < 0 → a ≠ b → (TJ3 a).2.1 ≠ (TJ3 b).2.1 := by decide +kernel
theorem tyJ3_ok : ∀ k, k < 0 → parseFieldDescriptor (TJ3 k).2.2.1 = some (tyJ3 k) := by decide +kernel
abbrev cJ3_checkIndex_8e157 : ByteArray := prog_24_method_11_code
def yJ3_checkIndex_8e157 : MethodName := ⟨RJ3, "checkIndex", "(IILjava/util/function/BiFunction;)I"⟩
def RL : String := "IceFairLaw"
abbrev cL_cell : ByteArray := method_3_code
def yL_cell : MethodName := ⟨RL, "cell", "(LIceFair;III[J)I"⟩
abbrev cL_look : ByteArray := method_4_code
def yL_look : MethodName := ⟨RL, "look", "(LIceFair;II[J)I"⟩
abbrev cL_law : ByteArray := code
def yL_law : MethodName := ⟨RL, "law", "([I)Z"⟩
abbrev vwCl : List vw_C := [(RX0, TX0, 7), (RX1, TX1, 6), (RX2, TX2, 9), (RX3, TX3, 6), (RX4, TX4, 9), (RX6, TX6, 8), (RX7, TX7, 2), (RX8, TX8, 6), (RX9, TX9, 6), (RX10, TX10, 37)]
end
section
section HELP
/-- the good words of the tables: every method of the system is proved over them all -/
def gw : List Cond := lw_tbl.filter goodWord
theorem gw_in {w : Cond} (h : w ∈ lw_tbl) (g : goodWord w = true) : w ∈ gw := List.mem_filter.mpr ⟨h, g⟩
theorem gw_t {w : Cond} (h : w ∈ tables_1) (g : goodWord w = true) : w ∈ gw := gw_in (List.mem_append_right _ h) g
theorem gw_t1 {w : Cond} (h : w ∈ tables_1_1) (g : goodWord w = true) : w ∈ gw := gw_t (List.mem_append_left _ h) g
theorem gw_t2 {w : Cond} (h : w ∈ tables_1_2) (g : goodWord w = true) : w ∈ gw := gw_t (List.mem_append_right _ (List.mem_append_left _ h)) g
theorem gw_t3 {w : Cond} (h : w ∈ tables_1_3) (g : goodWord w = true) : w ∈ gw := gw_t (List.mem_append_right _ (List.mem_append_right _ (List.mem_append_left _ h))) g
theorem gw_t4 {w : Cond} (h : w ∈ tables_1_4) (g : goodWord w = true) : w ∈ gw := gw_t (List.mem_append_right _ (List.mem_append_right _ (List.mem_append_right _ (List.mem_append_left _ h)))) g
theorem gw_t5 {w : Cond} (h : w ∈ tables_1_5) (g : goodWord w = true) : w ∈ gw := gw_t (List.mem_append_right _ (List.mem_append_right _ (List.mem_append_right _ (List.mem_append_right _ (List.mem_append_left _ h))))) g
theorem gw_t6 {w : Cond} (h : w ∈ tables_1_6) (g : goodWord w = true) : w ∈ gw := gw_t (List.mem_append_right _ (List.mem_append_right _ (List.mem_append_right _ (List.mem_append_right _ (List.mem_append_right _ h))))) g
theorem gw_s {y : MethodName} {n : Nat} (h : (y, n) ∈ lw_privs) : Cond.selects y.cls y y ∈ gw := gw_in (List.mem_append_left _ (List.mem_map.mpr ⟨_, h, rfl⟩)) rfl
theorem gi_c {c : Cond} (h : c ∈ gw) : GoodIn gw (c :: gw) := by
  intro w hw
  have hm : w ∈ gw := (List.mem_cons.mp hw).elim (fun e => e ▸ h) id
  exact ⟨hm, good_of_word (List.mem_filter.mp hm).2⟩
theorem gi_more {c : Cond} {l : List Cond} (hl : ∀ w ∈ l, w ∈ gw) (h : c ∈ gw) : GoodIn gw (l ++ c :: gw) := by
  intro w hw
  have hm : w ∈ gw := (List.mem_append.mp hw).elim (hl w) (fun h2 => (List.mem_cons.mp h2).elim (fun e => e ▸ h) id)
  exact ⟨hm, good_of_word (List.mem_filter.mp hm).2⟩
theorem gi_V {own C : String} {idx : Nat} {y : MethodName} {c : Cond} (h1 : Cond.methodLink own idx y ∈ gw) (h2 : Cond.instanceMethod y ∈ gw) (h3 : Cond.selects C y y ∈ gw) (h4 : Cond.initialized C ∈ gw) (hc : c ∈ gw) : GoodIn gw (wsV own idx C y (c :: gw)) :=
  gi_more (fun w h => by
    rcases List.mem_cons.mp h with rfl | h
    · exact h1
    rcases List.mem_cons.mp h with rfl | h
    · exact h2
    rcases List.mem_cons.mp h with rfl | h
    · exact h3
    rcases List.mem_cons.mp h with rfl | h
    · exact h4
    · cases h) hc
theorem gi_S {own : String} {idx : Nat} {y : MethodName} {c : Cond} (h1 : Cond.methodLink own idx y ∈ gw) (h2 : Cond.static y ∈ gw) (h3 : Cond.initialized own ∈ gw) (hc : c ∈ gw) : GoodIn gw (wsS own idx y (c :: gw)) :=
  gi_more (fun w h => by
    rcases List.mem_cons.mp h with rfl | h
    · exact h1
    rcases List.mem_cons.mp h with rfl | h
    · exact h2
    rcases List.mem_cons.mp h with rfl | h
    · exact h3
    · cases h) hc
/-- a contract's start: the world ws and its tables, and what else is asked of the state (X, of the cells that the method may change) -/
def mPre (D : va_G) (tys : List (ClassId × FieldType)) (ws : va_W) (X : State → Prop) (av : List Value) (sz : Nat) : Array Value → State → Prop :=
  va_Pc av (fun U => U.heap.size = sz ∧ va_P D vwCl ws U.heap ∧ va_K D vwCl tys U ∧ va_D (fun _ => True) ws ∧ X U)
def mB (D : va_G) (A : Nat → Prop) {S : Type} (tys1 : S → List (ClassId × FieldType)) (w1 : S → va_W) : S → State → Prop := fun u t => va_P D vwCl (w1 u) t.heap ∧ va_K D vwCl (tys1 u) t ∧ va_D A (w1 u)
/-- the contract of a method that answers an int (or a boolean) -/
def cI (l : Launch) (y : MethodName) (cw : Cond) (rm : Room) (D : va_G) (tys : List (ClassId × FieldType)) (ws : va_W) (X : (Nat → Prop) → State → Prop) (av : List Value) {S : Type} (post : Int32 → S → Prop) (tys1 : S → List (ClassId × FieldType)) (w1 : S → va_W) : Prop :=
  ∀ sz : Nat, Met l y (cw :: gw) rm (mPre D tys ws (X (va_A ws sz)) av sz) (va_Qi post (mB D (va_A ws sz) tys1 w1) (va_A ws sz)) rm.cells rm.slots (va_A ws sz)
/-- the contract of a method that answers nothing -/
def cV (l : Launch) (y : MethodName) (cw : Cond) (rm : Room) (D : va_G) (tys : List (ClassId × FieldType)) (ws : va_W) (X : (Nat → Prop) → State → Prop) (av : List Value) {S : Type} (post : S → Prop) (tys1 : S → List (ClassId × FieldType)) (w1 : S → va_W) : Prop :=
  ∀ sz : Nat, Met l y (cw :: gw) rm (mPre D tys ws (X (va_A ws sz)) av sz) (va_Qv post (mB D (va_A ws sz) tys1 w1) (va_A ws sz)) rm.cells rm.slots (va_A ws sz)
/-- the contract of a method that answers a reference or null -/
def cQ (l : Launch) (y : MethodName) (cw : Cond) (rm : Room) (D : va_G) (tys : List (ClassId × FieldType)) (ws : va_W) (X : (Nat → Prop) → State → Prop) (av : List Value) {S : Type} (post : Option Nat → S → Prop) (tys1 : S → List (ClassId × FieldType)) (w1 : S → va_W) : Prop :=
  ∀ sz : Nat, Met l y (cw :: gw) rm (mPre D tys ws (X (va_A ws sz)) av sz) (va_Qq post (mB D (va_A ws sz) tys1 w1) (va_A ws sz)) rm.cells rm.slots (va_A ws sz)
/-- nothing more is asked of the state -/
def xT : (Nat → Prop) → State → Prop := fun _ _ => True
def xMove (X : (Nat → Prop) → State → Prop) : Prop := ∀ (A : Nat → Prop) (U V : State), U.vm = V.vm → V.heap = U.heap → X A U → X A V
theorem xT_move : xMove xT := fun _ _ _ _ _ _ => trivial
theorem mPre_blind {D : va_G} {tys : List (ClassId × FieldType)} {ws : va_W} {X : (Nat → Prop) → State → Prop} (hX : xMove X) {av : List Value} {sz : Nat} : FrameBlind (mPre D tys ws (X (va_A ws sz)) av sz) := by
  intro a U g mk q
  obtain ⟨q0, q1, qP, qK, qD, qX⟩ := q
  exact ⟨q0, q1, qP, va_K.moved (u := U) (U := U.calling g mk a) (Vm.Alike.refl U.vm) qK, qD, hX _ U (U.calling g mk a) rfl rfl qX⟩
/-- a world with the same addresses is apart as the first is -/
theorem va_D_same {A : Nat → Prop} {ws ws' : va_W} (h : va_D A ws) (e : ws'.map (·.1) = ws.map (·.1)) : va_D A ws' := by
  have at' : ∀ (k : Nat) (q : Nat × va_E), ws'[k]? = some q → ∃ q', ws[k]? = some q' ∧ q'.1 = q.1 := by
    intro k q hq
    have h1 : (ws'.map (·.1))[k]? = some q.1 := by rw [List.getElem?_map, hq]; rfl
    rw [e, List.getElem?_map] at h1
    cases hw : ws[k]? with
    | none => rw [hw] at h1; cases h1
    | some q' => rw [hw] at h1; exact ⟨q', rfl, Option.some.inj h1⟩
  refine ⟨fun i j p q hp hq hpq => ?_, fun k q hq => ?_⟩
  · obtain ⟨p', hp', e1⟩ := at' i p hp
    obtain ⟨q', hq', e2⟩ := at' j q hq
    exact h.1 i j p' q' hp' hq' (by rw [e1, e2, hpq])
  · obtain ⟨q', hq', e2⟩ := at' k q hq
    rw [← e2]
    exact h.2 k q' hq'
end HELP
section CALLS
variable {p : Program} {l : Launch} {e : Env} {R : Room} {s : State} {m : MethodId} {args : Array Value} {below : List Frame} {meth : Method} {c : Code} {H : Heap} {locs : List Loc} {cells slots : Nat} {Q : State → Prop}
variable {cc : ByteArray} {nL pc : Nat} {ls : Array Slot} {rest st : List Value} {D : va_G} {A : Nat → Prop} {tys : List (ClassId × FieldType)} {ws : va_W} {own : String}
/-- what stands all through a method's walk -/
def mFix (p : Program) (s : State) (m : MethodId) (args : Array Value) (c : Code) (cc : ByteArray) (nL : Nat) (own : String) : Prop :=
  p.tables.exec = Jvm.exec ∧ c.code = cc ∧ c.maxLocals = nL ∧ s.vm.findClass own = some m.cls ∧ ∀ w ∈ gw, w.before args s = true
/-- the words and the room of a call by a virtual invocation -/
def kV (R : Room) (own C : String) (idx : Nat) (y : MethodName) (bytes : ByteArray) (maxL : Nat) (ret : Option FieldType) (rm : Room) (n : Nat) : Prop :=
  GoodIn gw (wsV own idx C y (.code y bytes maxL ret :: gw)) ∧ (y.cls = C ∧ y.cls ≠ "java/lang/invoke/MethodHandle" ∧ y.cls ≠ "java/lang/invoke/VarHandle" ∧ (parseMethodDescriptor y.desc).map (fun d => d.parameters.length) = some n) ∧ rm.frames + 1 ≤ R.frames ∧ 8 + (maxL + 11) + rm.locals ≤ R.locals
def kS (R : Room) (own : String) (idx : Nat) (y : MethodName) (bytes : ByteArray) (maxL : Nat) (ret : Option FieldType) (rm : Room) (n : Nat) : Prop :=
  GoodIn gw (wsS own idx y (.code y bytes maxL ret :: gw)) ∧ (y.cls = own ∧ y.cls ≠ "java/lang/invoke/MethodHandle" ∧ y.cls ≠ "java/lang/invoke/VarHandle" ∧ (parseMethodDescriptor y.desc).map (fun d => d.parameters.length) = some n) ∧ rm.frames + 1 ≤ R.frames ∧ 8 + (maxL + 11) + rm.locals ≤ R.locals
def kI (R : Room) (own : String) (idx : Nat) (y : MethodName) (bytes : ByteArray) (maxL : Nat) (rm : Room) (n : Nat) : Prop :=
  (Cond.code y bytes maxL none ∈ gw ∧ Cond.methodLink own idx y ∈ gw ∧ Cond.instanceMethod y ∈ gw ∧ Cond.initialized y.cls ∈ gw) ∧ y.name = "<init>" ∧ (y.cls ≠ "java/lang/invoke/MethodHandle" ∧ y.cls ≠ "java/lang/invoke/VarHandle" ∧ (parseMethodDescriptor y.desc).map (fun d => d.parameters.length) = some n) ∧ rm.frames + 1 ≤ R.frames ∧ 8 + (maxL + 11) + rm.locals ≤ R.locals
/-- the places of a call's cells: the callee's, the rest, apart -/
def mCut (ws wc wr : va_W) (isC isR : List Nat) : Prop := isC.map (fun i => ws[i]?) = wc.map some ∧ isR.map (fun i => ws[i]?) = wr.map some ∧ va_nd isC = true ∧ va_nd isR = true ∧ ∀ i ∈ isR, i ∉ isC
theorem mCut_P {wc wr : va_W} {isC isR : List Nat} (h : mCut ws wc wr isC isR) (hP : va_P D vwCl ws H) : va_P D vwCl wc H := by
  intro k q hq
  have h1 : (isC.map (fun i => ws[i]?))[k]? = some (some q) := by rw [h.1, List.getElem?_map, hq]; rfl
  rw [List.getElem?_map] at h1
  cases hi : isC[k]? with
  | none => rw [hi] at h1; cases h1
  | some i => rw [hi] at h1; exact hP i q (Option.some.inj h1)
theorem m_pre {wc wr : va_W} {isC isR : List Nat} {tyc : List (ClassId × FieldType)} {isT : List Nat} {X : (Nat → Prop) → State → Prop} {av : List Value} (hK : va_K D vwCl tys s) (hP : va_P D vwCl ws H) (hD : va_D A ws) (hC : mCut ws wc wr isC isR) (hT : isT.filterMap (fun i => tys[i]?) = tyc)
    (hX : ∀ U : State, U.heap = H → s.WarmedH U.vm → X (va_A wc H.size) U) (U : State) (hU : U.heap = H) (hW : s.WarmedH U.vm) : mPre D tyc wc (X (va_A wc H.size)) av H.size av.toArray U :=
  ⟨rfl, by rw [hU], by rw [hU]; exact mCut_P hC hP, va_K.moved hW.alike (hK.sub isT hT), (hD.sub isC hC.2.2.1 hC.1).weaken (fun _ _ _ _ => trivial), hX U hU hW⟩
theorem m_back {S : Type} {tys1 : S → List (ClassId × FieldType)} {w1 : S → va_W} {wc wr : va_W} {isC isR : List Nat} {u : S} {t : State} {H1 : Heap} (hP : va_P D vwCl ws H) (hD : va_D A ws) (hS : va_S A s.heap H locs) (hA : ∀ q, s.heap.size ≤ q → A q) (hC : mCut ws wc wr isC isR)
    (ht : t.heap = H1) (hvm : s.vm.Alike t.vm) (hB : mB D (va_A wc H.size) tys1 w1 u t) (hk : ∀ q : Nat, q < H.size → ¬ va_A wc H.size q → H1[q]? = H[q]?) : va_K D vwCl (tys1 u) s ∧ va_P D vwCl (wr ++ w1 u) H1 ∧ va_D A (wr ++ w1 u) := by
  obtain ⟨hP1, hK1, hD1⟩ := hB
  rw [ht] at hP1
  exact ⟨va_K.moved hvm.symm hK1, va_join hP hD isC isR hC.1 hC.2.1 hC.2.2.2.1 hC.2.2.2.2 hk (va_free hD hS hA isC hC.1) hP1 hD1⟩
theorem mc_Vi {C : String} {idx : Nat} {y : MethodName} {bytes : ByteArray} {maxL n : Nat} {ret : Option FieldType} {rm : Room} {tyc : List (ClassId × FieldType)} {wc wr : va_W} {X : (Nat → Prop) → State → Prop} {As : List Value} {S : Type} {post : Int32 → S → Prop} {tys1 : S → List (ClassId × FieldType)} {w1 : S → va_W} {b ci : Nat} {fs : List Value} {T : u_T} {N : Nat}
    (F : mFix p s m args c cc nL own) (hK : va_K D vwCl tys s) (hP : va_P D vwCl ws H) (hD : va_D A ws) (hS : va_S A s.heap H locs) (hA : ∀ q, s.heap.size ≤ q → A q)
    (hM : cI l y (.code y bytes maxL ret) rm D tyc wc X (.ref b :: As) post tys1 w1) (k : kV R own C idx y bytes maxL ret rm n) (isC isR isT : List Nat) (hC : mCut ws wc wr isC isR) (hT : isT.filterMap (fun i => tys[i]?) = tyc) (hXm : xMove X) (hX : ∀ U : State, U.heap = H → s.WarmedH U.vm → X (va_A wc H.size) U)
    (q0 : Nat) (hq : ws[q0]? = some (b, .inr (ci, fs))) (hcl : vwCl[ci]? = some (C, T, N)) (hn : As.length = n) (hls : ls.size = nL) (hst : st = As.reverse ++ .ref b :: rest) (hroom : (rest.map fun v => v.category).sum ≤ 8) (hdg : decode cc pc = .ok (.invokevirtual idx, 3)) (hf : cells + rm.cells ≤ R.cells ∧ slots + rm.slots ≤ R.slots)
    (kk : ∀ (r : Int32) (u : S) (H1 : Heap) (locs1 : List Loc), post r u → va_K D vwCl (tys1 u) s → va_P D vwCl (wr ++ w1 u) H1 → va_D A (wr ++ w1 u) → va_S A s.heap H1 locs1 → W p l e R s m args below meth c H1 locs1 (cells + rm.cells) (slots + rm.slots) Q (F0 m (pc + 3) ls (.int r :: rest))) :
    W p l e R s m args below meth c H locs cells slots Q (F0 m pc ls st) := by
  subst hst
  obtain ⟨hx, hb, hml, hown, hts⟩ := F
  have hFc := va_free (wc := wc) hD hS hA isC hC.1
  have hrv : ∃ cellB : Cell, H[b]? = some cellB ∧ cellB.vm.isStatics = false ∧ s.vm.findClass C = some cellB.cls := va_recv hK hP hcl hq
  exact va_calli (va_runV (As := As) (rest := rest) ⟨hx, hb, hml, hown, hts⟩ (hM H.size) (cwV n hts k.1 rfl rfl rfl k.2.1 k.2.2) ⟨mPre_blind hXm, hrv, m_pre hK hP hD hC hT hX⟩ rfl hn hls rfl (lv_room hroom) hdg hf) hS (fun q _ h => hFc q h) hFc
    (fun r u t H1 locs1 ht hvm hw hB _ hk1 hS1 => by
      obtain ⟨a1, a2, a3⟩ := m_back hP hD hS hA hC ht hvm hB hk1
      exact kk r u H1 locs1 hw a1 a2 a3 hS1)
theorem mc_Vv {C : String} {idx : Nat} {y : MethodName} {bytes : ByteArray} {maxL n : Nat} {ret : Option FieldType} {rm : Room} {tyc : List (ClassId × FieldType)} {wc wr : va_W} {X : (Nat → Prop) → State → Prop} {As : List Value} {S : Type} {post : S → Prop} {tys1 : S → List (ClassId × FieldType)} {w1 : S → va_W} {b ci : Nat} {fs : List Value} {T : u_T} {N : Nat}
    (F : mFix p s m args c cc nL own) (hK : va_K D vwCl tys s) (hP : va_P D vwCl ws H) (hD : va_D A ws) (hS : va_S A s.heap H locs) (hA : ∀ q, s.heap.size ≤ q → A q)
    (hM : cV l y (.code y bytes maxL ret) rm D tyc wc X (.ref b :: As) post tys1 w1) (k : kV R own C idx y bytes maxL ret rm n) (isC isR isT : List Nat) (hC : mCut ws wc wr isC isR) (hT : isT.filterMap (fun i => tys[i]?) = tyc) (hXm : xMove X) (hX : ∀ U : State, U.heap = H → s.WarmedH U.vm → X (va_A wc H.size) U)
    (q0 : Nat) (hq : ws[q0]? = some (b, .inr (ci, fs))) (hcl : vwCl[ci]? = some (C, T, N)) (hn : As.length = n) (hls : ls.size = nL) (hst : st = As.reverse ++ .ref b :: rest) (hroom : (rest.map fun v => v.category).sum ≤ 8) (hdg : decode cc pc = .ok (.invokevirtual idx, 3)) (hf : cells + rm.cells ≤ R.cells ∧ slots + rm.slots ≤ R.slots)
    (kk : ∀ (u : S) (H1 : Heap) (locs1 : List Loc), post u → va_K D vwCl (tys1 u) s → va_P D vwCl (wr ++ w1 u) H1 → va_D A (wr ++ w1 u) → va_S A s.heap H1 locs1 → W p l e R s m args below meth c H1 locs1 (cells + rm.cells) (slots + rm.slots) Q (F0 m (pc + 3) ls rest)) :
    W p l e R s m args below meth c H locs cells slots Q (F0 m pc ls st) := by
  subst hst
  obtain ⟨hx, hb, hml, hown, hts⟩ := F
  have hFc := va_free (wc := wc) hD hS hA isC hC.1
  have hrv : ∃ cellB : Cell, H[b]? = some cellB ∧ cellB.vm.isStatics = false ∧ s.vm.findClass C = some cellB.cls := va_recv hK hP hcl hq
  exact va_callv (va_runV (As := As) (rest := rest) ⟨hx, hb, hml, hown, hts⟩ (hM H.size) (cwV n hts k.1 rfl rfl rfl k.2.1 k.2.2) ⟨mPre_blind hXm, hrv, m_pre hK hP hD hC hT hX⟩ rfl hn hls rfl (lv_room hroom) hdg hf) hS (fun q _ h => hFc q h) hFc
    (fun u t H1 locs1 ht hvm hw hB _ hk1 hS1 => by
      obtain ⟨a1, a2, a3⟩ := m_back hP hD hS hA hC ht hvm hB hk1
      exact kk u H1 locs1 hw a1 a2 a3 hS1)
theorem mc_Vq {C : String} {idx : Nat} {y : MethodName} {bytes : ByteArray} {maxL n : Nat} {ret : Option FieldType} {rm : Room} {tyc : List (ClassId × FieldType)} {wc wr : va_W} {X : (Nat → Prop) → State → Prop} {As : List Value} {S : Type} {post : Option Nat → S → Prop} {tys1 : S → List (ClassId × FieldType)} {w1 : S → va_W} {b ci : Nat} {fs : List Value} {T : u_T} {N : Nat}
    (F : mFix p s m args c cc nL own) (hK : va_K D vwCl tys s) (hP : va_P D vwCl ws H) (hD : va_D A ws) (hS : va_S A s.heap H locs) (hA : ∀ q, s.heap.size ≤ q → A q)
    (hM : cQ l y (.code y bytes maxL ret) rm D tyc wc X (.ref b :: As) post tys1 w1) (k : kV R own C idx y bytes maxL ret rm n) (isC isR isT : List Nat) (hC : mCut ws wc wr isC isR) (hT : isT.filterMap (fun i => tys[i]?) = tyc) (hXm : xMove X) (hX : ∀ U : State, U.heap = H → s.WarmedH U.vm → X (va_A wc H.size) U)
    (q0 : Nat) (hq : ws[q0]? = some (b, .inr (ci, fs))) (hcl : vwCl[ci]? = some (C, T, N)) (hn : As.length = n) (hls : ls.size = nL) (hst : st = As.reverse ++ .ref b :: rest) (hroom : (rest.map fun v => v.category).sum ≤ 8) (hdg : decode cc pc = .ok (.invokevirtual idx, 3)) (hf : cells + rm.cells ≤ R.cells ∧ slots + rm.slots ≤ R.slots)
    (kk : ∀ (r : Option Nat) (u : S) (H1 : Heap) (locs1 : List Loc), post r u → va_K D vwCl (tys1 u) s → va_P D vwCl (wr ++ w1 u) H1 → va_D A (wr ++ w1 u) → va_S A s.heap H1 locs1 → W p l e R s m args below meth c H1 locs1 (cells + rm.cells) (slots + rm.slots) Q (F0 m (pc + 3) ls (va_rf r :: rest))) :
    W p l e R s m args below meth c H locs cells slots Q (F0 m pc ls st) := by
  subst hst
  obtain ⟨hx, hb, hml, hown, hts⟩ := F
  have hFc := va_free (wc := wc) hD hS hA isC hC.1
  have hrv : ∃ cellB : Cell, H[b]? = some cellB ∧ cellB.vm.isStatics = false ∧ s.vm.findClass C = some cellB.cls := va_recv hK hP hcl hq
  exact va_callq (va_runV (As := As) (rest := rest) ⟨hx, hb, hml, hown, hts⟩ (hM H.size) (cwV n hts k.1 rfl rfl rfl k.2.1 k.2.2) ⟨mPre_blind hXm, hrv, m_pre hK hP hD hC hT hX⟩ rfl hn hls rfl (lv_room hroom) hdg hf) hS (fun q _ h => hFc q h) hFc
    (fun r u t H1 locs1 ht hvm hw hB _ hk1 hS1 => by
      obtain ⟨a1, a2, a3⟩ := m_back hP hD hS hA hC ht hvm hB hk1
      exact kk r u H1 locs1 hw a1 a2 a3 hS1)
theorem mc_Si {idx : Nat} {y : MethodName} {bytes : ByteArray} {maxL n : Nat} {ret : Option FieldType} {rm : Room} {tyc : List (ClassId × FieldType)} {wc wr : va_W} {X : (Nat → Prop) → State → Prop} {As : List Value} {S : Type} {post : Int32 → S → Prop} {tys1 : S → List (ClassId × FieldType)} {w1 : S → va_W}
    (F : mFix p s m args c cc nL own) (hK : va_K D vwCl tys s) (hP : va_P D vwCl ws H) (hD : va_D A ws) (hS : va_S A s.heap H locs) (hA : ∀ q, s.heap.size ≤ q → A q)
    (hM : cI l y (.code y bytes maxL ret) rm D tyc wc X As post tys1 w1) (k : kS R own idx y bytes maxL ret rm n) (isC isR isT : List Nat) (hC : mCut ws wc wr isC isR) (hT : isT.filterMap (fun i => tys[i]?) = tyc) (hXm : xMove X) (hX : ∀ U : State, U.heap = H → s.WarmedH U.vm → X (va_A wc H.size) U)
    (hn : As.length = n) (hls : ls.size = nL) (hst : st = As.reverse ++ rest) (hroom : (rest.map fun v => v.category).sum ≤ 8) (hdg : decode cc pc = .ok (.invokestatic idx, 3)) (hf : cells + rm.cells ≤ R.cells ∧ slots + rm.slots ≤ R.slots)
    (kk : ∀ (r : Int32) (u : S) (H1 : Heap) (locs1 : List Loc), post r u → va_K D vwCl (tys1 u) s → va_P D vwCl (wr ++ w1 u) H1 → va_D A (wr ++ w1 u) → va_S A s.heap H1 locs1 → W p l e R s m args below meth c H1 locs1 (cells + rm.cells) (slots + rm.slots) Q (F0 m (pc + 3) ls (.int r :: rest))) :
    W p l e R s m args below meth c H locs cells slots Q (F0 m pc ls st) := by
  subst hst
  obtain ⟨hx, hb, hml, hown, hts⟩ := F
  have hFc := va_free (wc := wc) hD hS hA isC hC.1
  exact va_calli (va_runS (As := As) (rest := rest) ⟨hx, hb, hml, hown, hts⟩ (hM H.size) (cwS n hts k.1 rfl rfl rfl k.2.1 k.2.2) ⟨mPre_blind hXm, m_pre hK hP hD hC hT hX⟩ rfl hn hls rfl (lv_room hroom) hdg hf) hS (fun q _ h => hFc q h) hFc
    (fun r u t H1 locs1 ht hvm hw hB _ hk1 hS1 => by
      obtain ⟨a1, a2, a3⟩ := m_back hP hD hS hA hC ht hvm hB hk1
      exact kk r u H1 locs1 hw a1 a2 a3 hS1)
theorem mc_Iv {idx : Nat} {y : MethodName} {bytes : ByteArray} {maxL n : Nat} {rm : Room} {tyc : List (ClassId × FieldType)} {wc wr : va_W} {X : (Nat → Prop) → State → Prop} {As : List Value} {S : Type} {post : S → Prop} {tys1 : S → List (ClassId × FieldType)} {w1 : S → va_W} {b : Nat}
    (F : mFix p s m args c cc nL own) (hK : va_K D vwCl tys s) (hP : va_P D vwCl ws H) (hD : va_D A ws) (hS : va_S A s.heap H locs) (hA : ∀ q, s.heap.size ≤ q → A q)
    (hM : cV l y (.code y bytes maxL none) rm D tyc wc X (.ref b :: As) post tys1 w1) (k : kI R own idx y bytes maxL rm n) (isC isR isT : List Nat) (hC : mCut ws wc wr isC isR) (hT : isT.filterMap (fun i => tys[i]?) = tyc) (hXm : xMove X) (hX : ∀ U : State, U.heap = H → s.WarmedH U.vm → X (va_A wc H.size) U)
    (hn : As.length = n) (hls : ls.size = nL) (hst : st = As.reverse ++ .ref b :: rest) (hroom : (rest.map fun v => v.category).sum ≤ 8) (hdg : decode cc pc = .ok (.invokespecial idx, 3)) (hf : cells + rm.cells ≤ R.cells ∧ slots + rm.slots ≤ R.slots)
    (kk : ∀ (u : S) (H1 : Heap) (locs1 : List Loc), post u → va_K D vwCl (tys1 u) s → va_P D vwCl (wr ++ w1 u) H1 → va_D A (wr ++ w1 u) → va_S A s.heap H1 locs1 → W p l e R s m args below meth c H1 locs1 (cells + rm.cells) (slots + rm.slots) Q (F0 m (pc + 3) ls rest)) :
    W p l e R s m args below meth c H locs cells slots Q (F0 m pc ls st) := by
  subst hst
  obtain ⟨hx, hb, hml, hown, hts⟩ := F
  have hFc := va_free (wc := wc) hD hS hA isC hC.1
  exact va_callv (va_runI (As := As) (rest := rest) ⟨hx, hb, hml, hown, hts⟩ (hM H.size) (cwI n hts (gi_c k.1.1) rfl rfl rfl (hts _ k.1.2.2.2) (hts _ k.1.2.1) (hts _ k.1.2.2.1) k.2.1 k.2.2.1 k.2.2.2) ⟨mPre_blind hXm, m_pre hK hP hD hC hT hX⟩ rfl hn hls rfl (lv_room hroom) hdg hf) hS (fun q _ h => hFc q h) hFc
    (fun u t H1 locs1 ht hvm hw hB _ hk1 hS1 => by
      obtain ⟨a1, a2, a3⟩ := m_back hP hD hS hA hC ht hvm hB hk1
      exact kk u H1 locs1 hw a1 a2 a3 hS1)
end CALLS
end
section
section ARR
variable {p : Program} {l : Launch} {e : Env} {R : Room} {s : State} {m : MethodId} {args : Array Value} {below : List Frame} {meth : Method} {c : Code} {H : Heap} {locs : List Loc} {cells slots : Nat} {Q : State → Prop}
variable {cc : ByteArray} {pc : Nat} {ls : Array Slot} {rest : List Value} {D : va_G} {cl : List vw_C} {A : Nat → Prop} {a : Nat} {tys : List (ClassId × FieldType)} {ws : va_W} {H0 : Heap}
theorem m_iald (hexec : p.tables.exec = Jvm.exec) (hb : c.code = cc) (hK : va_K D cl tys s) (hP : va_P D cl ws H) (q0 t0 : Nat) {cA : ClassId} {n : Nat} {f : Nat → Int32} (ha : ws[q0]? = some (a, .inl (cA, n, .inl f))) (ht : tys[t0]? = some (cA, .int)) {i : Int32} (j : Nat) (hi : i = nI j) (hj : j < n) (hn : n < 2 ^ 31) (hdg : decode cc pc = .ok (.iaload, 1))
    (kk : W p l e R s m args below meth c H locs cells slots Q (F0 m (pc + 1) ls (.int (f j) :: rest))) : W p l e R s m args below meth c H locs cells slots Q (F0 m pc ls (.int i :: .ref a :: rest)) := by
  subst hi
  refine va_iald hexec hb hK hP q0 t0 ha ht (vp_in_nI hj hn) hdg ?_
  rw [nI_clamp (Nat.lt_trans hj hn)]
  exact kk
theorem m_zald (hexec : p.tables.exec = Jvm.exec) (hb : c.code = cc) (hK : va_K D cl tys s) (hP : va_P D cl ws H) (q0 t0 : Nat) {cA : ClassId} {n : Nat} {f : Nat → Int32} (ha : ws[q0]? = some (a, .inl (cA, n, .inl f))) (ht : tys[t0]? = some (cA, .boolean)) {i : Int32} (j : Nat) (hi : i = nI j) (hj : j < n) (hn : n < 2 ^ 31) (hdg : decode cc pc = .ok (.baload, 1))
    (kk : W p l e R s m args below meth c H locs cells slots Q (F0 m (pc + 1) ls (.int (f j) :: rest))) : W p l e R s m args below meth c H locs cells slots Q (F0 m pc ls (.int i :: .ref a :: rest)) := by
  subst hi
  refine va_zald hexec hb hK hP q0 t0 ha ht (vp_in_nI hj hn) hdg ?_
  rw [nI_clamp (Nat.lt_trans hj hn)]
  exact kk
theorem m_iast (hexec : p.tables.exec = Jvm.exec) (hb : c.code = cc) (hK : va_K D cl tys s) (hP : va_P D cl ws H) (hD : va_D A ws) (hS : va_S A H0 H locs) (q0 t0 : Nat) {cA : ClassId} {n : Nat} {f : Nat → Int32} (ha : ws[q0]? = some (a, .inl (cA, n, .inl f))) (ht : tys[t0]? = some (cA, .int)) {i : Int32} {x : Int32} (j : Nat) (hi : i = nI j) (hj : j < n) (hn : n < 2 ^ 31) (hdg : decode cc pc = .ok (.iastore, 1))
    (kk : ∀ (g : Nat → Int32) (H1 : Heap) (locs1 : List Loc), g = upd f j x → va_P D cl (ws.set q0 (a, .inl (cA, n, .inl g))) H1 → va_D A (ws.set q0 (a, .inl (cA, n, .inl g))) → va_S A H0 H1 locs1 → W p l e R s m args below meth c H1 locs1 cells slots Q (F0 m (pc + 1) ls rest)) : W p l e R s m args below meth c H locs cells slots Q (F0 m pc ls (.int x :: .int i :: .ref a :: rest)) := by
  subst hi
  refine va_iast hexec hb hK hP hD hS q0 t0 ha ht (vp_in_nI hj hn) hdg (fun H1 locs1 h1 h2 h3 => ?_)
  rw [nI_clamp (Nat.lt_trans hj hn)] at h1 h2
  exact kk _ H1 locs1 rfl h1 h2 h3
theorem m_zast (hexec : p.tables.exec = Jvm.exec) (hb : c.code = cc) (hK : va_K D cl tys s) (hP : va_P D cl ws H) (hD : va_D A ws) (hS : va_S A H0 H locs) (q0 t0 : Nat) {cA : ClassId} {n : Nat} {f : Nat → Int32} (ha : ws[q0]? = some (a, .inl (cA, n, .inl f))) (ht : tys[t0]? = some (cA, .boolean)) {i : Int32} {x : Int32} (j : Nat) (hi : i = nI j) (hj : j < n) (hn : n < 2 ^ 31) (hdg : decode cc pc = .ok (.bastore, 1))
    (kk : ∀ (g : Nat → Int32) (H1 : Heap) (locs1 : List Loc), g = upd f j (vp_nar .boolean x) → va_P D cl (ws.set q0 (a, .inl (cA, n, .inl g))) H1 → va_D A (ws.set q0 (a, .inl (cA, n, .inl g))) → va_S A H0 H1 locs1 → W p l e R s m args below meth c H1 locs1 cells slots Q (F0 m (pc + 1) ls rest)) : W p l e R s m args below meth c H locs cells slots Q (F0 m pc ls (.int x :: .int i :: .ref a :: rest)) := by
  subst hi
  refine va_zast hexec hb hK hP hD hS q0 t0 ha ht (vp_in_nI hj hn) hdg (fun H1 locs1 h1 h2 h3 => ?_)
  rw [nI_clamp (Nat.lt_trans hj hn)] at h1 h2
  exact kk _ H1 locs1 rfl h1 h2 h3
/-- a condition over nI numbers, as one over naturals -/
theorem nb_le {a b : Nat} (ha : a < 2 ^ 31) (hb : b < 2 ^ 31) (h : ¬ nI a ≤ nI b) : b < a := Nat.lt_of_not_le (fun q => h ((nI_leI ha hb).mpr q))
theorem nb_lt {a b : Nat} (ha : a < 2 ^ 31) (hb : b < 2 ^ 31) (h : ¬ nI a < nI b) : b ≤ a := Nat.le_of_not_lt (fun q => h ((nI_ltI ha hb).mpr q))
theorem nb_eq {a b : Nat} (ha : a < 2 ^ 31) (hb : b < 2 ^ 31) (h : ¬ nI a = nI b) : ¬ a = b := fun q => h ((nI_eq ha hb).mpr q)
theorem rm_nI {a d : Nat} (ha : a < 2 ^ 31) (h0 : 0 < d) (hd : d < 2 ^ 31) : nI a - nI a / nI d * nI d = nI (a % d) := pk_rem ha h0 hd
/-- a number that isn't negative and isn't N or more -/
theorem n_lt {x : Int32} {N : Nat} (h0 : ¬ x < 0) (h1 : ¬ nI N ≤ x) (hN : N < 2 ^ 31) : ∃ j : Nat, j < N ∧ x = nI j := by
  rcases pk_ix x hN with h | h | h
  · exact absurd h h0
  · exact absurd h h1
  · exact h
end ARR
theorem upd_all {f g : Nat → Int32} {i : Nat} {v : Int32} (e : g = upd f i v) (h : ∀ j, j < i → f j = v) : ∀ j, j < i + 1 → g j = v := by
  intro j hj
  subst e
  by_cases q : j = i
  · subst q; exact pk_us
  · rw [pk_un q]; exact h j (by omega)
theorem cnt_out {w : Int32} (h0 : ¬ w = 0) (h1 : ¬ w = 1) (h2 : ¬ w = 2) (h3 : ¬ w = 3) (h4 : ¬ w = 4) (h5 : ¬ w = 5) (h6 : ¬ w = 6) (h7 : ¬ w = 7) (h8 : ¬ w = 8) : w < 0 ∨ 8 < w := by
  rcases Int32.lt_or_le w 0 with h | h
  · exact Or.inl h
  rcases Int32.lt_or_le 8 w with g | g
  · exact Or.inr g
  obtain ⟨j, hj, rfl⟩ := nI_of2 (M := 8) (n := 8) rfl (Int32.not_lt.mpr h) g
  rcases (show j = 0 ∨ j = 1 ∨ j = 2 ∨ j = 3 ∨ j = 4 ∨ j = 5 ∨ j = 6 ∨ j = 7 ∨ j = 8 by omega) with rfl | rfl | rfl | rfl | rfl | rfl | rfl | rfl | rfl
  · exact absurd rfl h0
  · exact absurd rfl h1
  · exact absurd rfl h2
  · exact absurd rfl h3
  · exact absurd rfl h4
  · exact absurd rfl h5
  · exact absurd rfl h6
  · exact absurd rfl h7
  · exact absurd rfl h8
end
section
section XS
/-- what the static row of the usual numbers holds -/
def uF : Nat → Int32 := fun j => match j with
  | 0 => 100 | 1 => 1 | 2 => 0 | 3 => 0 | 4 => 1 | 5 => 99 | 6 => 1 | _ => 0
/-- the static row of the usual numbers lies at us, out of the way of the cells that may change -/
def xU (us : Nat) : (Nat → Prop) → State → Prop := fun A U => va_Z "IceFair$Customs" "USUAL" "[I" (.ref us) A U U.heap ∧ va_X us 8 uF U U.heap ∧ us < U.heap.size ∧ ¬ A us
theorem xU_move (us : Nat) : xMove (xU us) := by
  intro A U V hvm hh h
  obtain ⟨h1, h2, h3, h4⟩ := h
  have al : U.vm.Alike V.vm := by rw [hvm]; exact Vm.Alike.refl _
  exact ⟨by rw [hh]; exact va_Z.moved al h1, by rw [hh]; exact va_X.moved al h2, by rw [hh]; exact h3, h4⟩
theorem xU_use {us : Nat} {s : State} {A : Nat → Prop} {H : Heap} {locs : List Loc} {wc : va_W} (hX : xU us A s) (hS : va_S A s.heap H locs) (hF : ∀ q, va_A wc H.size q → A q) : ∀ U : State, U.heap = H → s.WarmedH U.vm → xU us (va_A wc H.size) U := by
  intro U hU hW
  obtain ⟨h1, h2, h3, h4⟩ := hX
  have hlt : us < H.size := Nat.lt_of_lt_of_le h3 hS.1
  exact ⟨by rw [hU]; exact va_Z.moved hW.alike ((h1.kept hS.2.1).narrow hF), by rw [hU]; exact va_X.moved hW.alike (h2.kept (hS.2.1 us h3 h4)), by rw [hU]; exact hlt, fun q => h4 (hF us q)⟩
/-- what Fair() asks beside: the nest mate's constructor, the class of its row of booths -/
def xF (us : Nat) : (Nat → Prop) → State → Prop := fun A U => xU us A U ∧ va_Nw (.methodLinkNest RX3 31 yX0_init "IceFair") U ∧ va_AO RX0 U
theorem xF_move (us : Nat) : xMove (xF us) := by
  intro A U V hvm hh h
  have al : U.vm.Alike V.vm := by rw [hvm]; exact Vm.Alike.refl _
  exact ⟨xU_move us A U V hvm hh h.1, va_Nw.same rfl hvm h.2.1, va_AO.moved al h.2.2⟩
theorem xF_use {us : Nat} {s : State} {A : Nat → Prop} {H : Heap} {locs : List Loc} {wc : va_W} (hX : xF us A s) (hS : va_S A s.heap H locs) (hF : ∀ q, va_A wc H.size q → A q) : ∀ U : State, U.heap = H → s.WarmedH U.vm → xF us (va_A wc H.size) U :=
  fun U hU hW => ⟨xU_use hX.1 hS hF U hU hW, va_Nw.warmM hW hX.2.1, va_AO.moved hW.alike hX.2.2⟩
/-- an array's numbers may be told by another function that says the same of its places -/
theorem vp_cell_c {cA : ClassId} {n : Nat} {f g : Nat → Int32} (h : ∀ j, j < n → f j = g j) : vp_cell cA (n, .inl f) = vp_cell cA (n, .inl g) := by
  rw [vp_cell_i, vp_cell_i]
  unfold arrV
  congr 1
  apply Array.ext (by simp)
  intro i h1 h2
  simp only [Array.getElem_ofFn]
  rw [h i (by simpa using h1)]
theorem va_P_arr {D : va_G} {cl : List vw_C} {ws : va_W} {H : Heap} (hP : va_P D cl ws H) (k : Nat) {a : Nat} {cA : ClassId} {n : Nat} {f : Nat → Int32} (g : Nat → Int32) (hk : ws[k]? = some (a, .inl (cA, n, .inl f))) (h : ∀ j, j < n → f j = g j) : va_P D cl (ws.set k (a, .inl (cA, n, .inl g))) H := by
  intro i q hq
  by_cases hi : k = i
  · subst hi
    have hlt : k < ws.length := (List.getElem?_eq_some_iff.mp hk).1
    rw [List.getElem?_set_self hlt] at hq
    cases hq
    have h0 := hP k _ hk
    show H[a]? = some (vp_cell cA (n, .inl g))
    rw [← vp_cell_c h]
    exact h0
  · rw [List.getElem?_set_ne hi] at hq
    exact hP i q hq
theorem m_out (x : Int32) {lo hi : Int} (h1 : -2147483648 ≤ lo) (h2 : hi < 2147483648) (h : ∀ j : Int, lo ≤ j → j ≤ hi → ¬ x = Int32.ofInt j) : x.toInt < lo ∨ hi < x.toInt := by
  rcases Int.lt_or_le x.toInt lo with a | a
  · exact Or.inl a
  rcases Int.lt_or_le hi x.toInt with b | b
  · exact Or.inr b
  exact absurd (Int32.ofInt_toInt x).symm (h x.toInt a b)
variable {p : Program} {l : Launch} {e : Env} {R : Room} {s : State} {m : MethodId} {args : Array Value} {below : List Frame} {meth : Method} {c : Code} {H : Heap} {locs : List Loc} {cells slots : Nat} {Q : State → Prop}
variable {cc : ByteArray} {nL pc : Nat} {ls : Array Slot} {rest st : List Value} {D : va_G} {A : Nat → Prop} {tys : List (ClassId × FieldType)} {ws : va_W} {own : String}
def kN (R : Room) (y : MethodName) (bytes : ByteArray) (maxL : Nat) (rm : Room) (n : Nat) : Prop :=
  (Cond.code y bytes maxL none ∈ gw ∧ Cond.instanceMethod y ∈ gw ∧ Cond.initialized y.cls ∈ gw) ∧ y.name = "<init>" ∧ (y.cls ≠ "java/lang/invoke/MethodHandle" ∧ y.cls ≠ "java/lang/invoke/VarHandle" ∧ (parseMethodDescriptor y.desc).map (fun d => d.parameters.length) = some n) ∧ rm.frames + 1 ≤ R.frames ∧ 8 + (maxL + 11) + rm.locals ≤ R.locals
/-- a call of a nest mate's private constructor -/
theorem mc_Nv {idx : Nat} {host : String} {y : MethodName} {bytes : ByteArray} {maxL n : Nat} {rm : Room} {tyc : List (ClassId × FieldType)} {wc wr : va_W} {X : (Nat → Prop) → State → Prop} {As : List Value} {S : Type} {post : S → Prop} {tys1 : S → List (ClassId × FieldType)} {w1 : S → va_W} {b : Nat}
    (F : mFix p s m args c cc nL own) (hK : va_K D vwCl tys s) (hP : va_P D vwCl ws H) (hD : va_D A ws) (hS : va_S A s.heap H locs) (hA : ∀ q, s.heap.size ≤ q → A q)
    (hM : cV l y (.code y bytes maxL none) rm D tyc wc X (.ref b :: As) post tys1 w1) (k : kN R y bytes maxL rm n) (hN : va_Nw (.methodLinkNest own idx y host) s) (isC isR isT : List Nat) (hC : mCut ws wc wr isC isR) (hT : isT.filterMap (fun i => tys[i]?) = tyc) (hXm : xMove X) (hX : ∀ U : State, U.heap = H → s.WarmedH U.vm → X (va_A wc H.size) U)
    (hn : As.length = n) (hls : ls.size = nL) (hst : st = As.reverse ++ .ref b :: rest) (hroom : (rest.map fun v => v.category).sum ≤ 8) (hdg : decode cc pc = .ok (.invokespecial idx, 3)) (hf : cells + rm.cells ≤ R.cells ∧ slots + rm.slots ≤ R.slots)
    (kk : ∀ (u : S) (H1 : Heap) (locs1 : List Loc), post u → va_K D vwCl (tys1 u) s → va_P D vwCl (wr ++ w1 u) H1 → va_D A (wr ++ w1 u) → va_S A s.heap H1 locs1 → W p l e R s m args below meth c H1 locs1 (cells + rm.cells) (slots + rm.slots) Q (F0 m (pc + 3) ls rest)) :
    W p l e R s m args below meth c H locs cells slots Q (F0 m pc ls st) := by
  subst hst
  obtain ⟨hx, hb, hml, hown, hts⟩ := F
  have hFc := va_free (wc := wc) hD hS hA isC hC.1
  exact va_callv (va_runIN (As := As) (rest := rest) ⟨hx, hb, hml, hown, hts⟩ (hM H.size) ⟨va_cnB n hts (gi_c k.1.1) rfl rfl rfl hN (hts _ k.1.2.2) k.2.2.1 k.2.2.2, k.2.1, hts _ k.1.2.1⟩ ⟨mPre_blind hXm, m_pre hK hP hD hC hT hX⟩ rfl hn hls rfl (lv_room hroom) hdg hf) hS (fun q _ h => hFc q h) hFc
    (fun u t H1 locs1 ht hvm hw hB _ hk1 hS1 => by
      obtain ⟨a1, a2, a3⟩ := m_back hP hD hS hA hC ht hvm hB hk1
      exact kk u H1 locs1 hw a1 a2 a3 hS1)
end XS
end
section
theorem dX7_init_0 : decode cX7_init 0 = .ok (.aload_n 0, 1) := by decide +kernel
theorem kw_1_37 : Cond.methodLink RX7 3 Lib.objectInit ∈ gw := gw_t1 (List.mem_of_getElem? (i := 37) (by decide +kernel)) (by decide +kernel)
theorem kw_1_30 : Cond.instanceMethod Lib.objectInit ∈ gw := gw_t1 (List.mem_of_getElem? (i := 30) (by decide +kernel)) (by decide +kernel)
theorem kw_1_31 : Cond.code Lib.objectInit ⟨#[0xb1]⟩ 1 none ∈ gw := gw_t1 (List.mem_of_getElem? (i := 31) (by decide +kernel)) (by decide +kernel)
theorem dX7_init_1 : decode cX7_init 1 = .ok (.invokespecial 3, 3) := by decide +kernel
theorem dX7_init_4 : decode cX7_init 4 = .ok (.aload_n 0, 1) := by decide +kernel
theorem dX7_init_5 : decode cX7_init 5 = .ok (.sipush 400, 3) := by decide +kernel
theorem kw_1_47 : Cond.arrayClass .int ∈ gw := gw_t1 (List.mem_of_getElem? (i := 47) (by decide +kernel)) (by decide +kernel)
theorem dX7_init_8 : decode cX7_init 8 = .ok (.newarray .int, 2) := by decide +kernel
theorem inG_X7 : ∀ w ∈ u_ws RX7 TX7 2, w ∈ gw := fun w h => gw_in ((by decide +kernel : ∀ w ∈ u_ws RX7 TX7 2, w ∈ lw_tbl) w h) ((by decide +kernel : ∀ w ∈ u_ws RX7 TX7 2, goodWord w = true) w h)
theorem kw_1_38 : Cond.fieldLink RX7 9 "IceFair$Tape" "bytes" "[I" ∈ gw := gw_t1 (List.mem_of_getElem? (i := 38) (by decide +kernel)) (by decide +kernel)
theorem dX7_init_10 : decode cX7_init 10 = .ok (.putfield 9, 3) := by decide +kernel
theorem dX7_init_13 : decode cX7_init 13 = .ok (.aload_n 0, 1) := by decide +kernel
theorem dX7_init_14 : decode cX7_init 14 = .ok (.iconst 0, 1) := by decide +kernel
theorem kw_1_40 : Cond.fieldLink RX7 15 "IceFair$Tape" "length" "I" ∈ gw := gw_t1 (List.mem_of_getElem? (i := 40) (by decide +kernel)) (by decide +kernel)
theorem dX7_init_15 : decode cX7_init 15 = .ok (.putfield 15, 3) := by decide +kernel
theorem dX7_init_18 : decode cX7_init 18 = .ok (.return_, 1) := by decide +kernel
set_option maxHeartbeats 4000000 in
set_option maxRecDepth 100000 in
theorem c_Tape_init (l : Launch) (D : va_G) (h0 : Nat) : cV l yX7_init (.code yX7_init cX7_init 1 none) ({ frames := 1, cells := 1, slots := 400, locals := 20 }) D [] [(h0, .inr (6, [.null, .int 0]))] xT [.ref h0] (S := Nat × ClassId) (fun u => match u with | (q1, cy1) => True) (fun u => match u with | (q1, cy1) => [(cy1, .int)]) (fun u => match u with | (q1, cy1) => [(h0, .inr (6, [.ref q1, .int 0])), (q1, .inl (cy1, 400, .inl (fun _ => 0)))]) := by
  intro sz
  refine Met.ofW (cc := cX7_init) (maxL := 1) (ret := none) (by decide) rfl ?_
  intro p e s m args below meth c s₁ B hml hv
  obtain ⟨rfl, hsz, hP, hK, hD0, hX⟩ := hv
  have hx := B.exec
  have hb := B.bytes
  have hr := B.returns
  have hts0 := atoms_spec (ws := .code yX7_init cX7_init 1 none :: gw) B.pre
  have hts := fun (w : Cond) (h : w ∈ gw) => hts0 w (List.mem_cons_of_mem _ h)
  have hown : s.vm.findClass RX7 = some m.cls := findClass_of_methodNamed B.named
  have hlocks := B.notSynchronized
  have hin : meth.name = "<init>" := (name_of_methodNamed B.named B.method).1
  have F : mFix p s m _ c cX7_init 1 RX7 := ⟨hx, hb, hml, hown, hts⟩
  subst hsz
  have hD := hD0.self (sz := s.heap.size)
  generalize hAe : va_A [(h0, .inr (6, [.null, .int 0]))] s.heap.size = A at hD hX ⊢
  have hA : ∀ q : Nat, s.heap.size ≤ q → A q := fun q h => by rw [← hAe]; exact Or.inr h
  have hS : va_S A s.heap s.heap [] := va_S.rf
  have hl := lv_entry ([.ref h0]) (n := 1) (Nat.le_of_ble_eq_true rfl)
  rw [lg_entry_eq]
  generalize (lg_sl ([.ref h0]) ++ List.replicate (1 - (lg_sl ([.ref h0])).length) Slot.unset).toArray = ls at hl ⊢
  have hl : lv_has ls 1 [(0, .ref h0)] := hl
  have hP : va_P D vwCl [(h0, .inr (6, [.null, .int 0]))] s.heap := hP
  refine lv_aload_n hx hb dX7_init_0 rfl (lv_at hl 0 rfl) ?_
  refine W.objInit hx hb hown (hts _ kw_1_37) (hts _ kw_1_30) (hts _ kw_1_31) rfl (by rw [hml]; exact hl.1) rfl dX7_init_1 (Nat.le_of_ble_eq_true rfl) (Nat.le_of_ble_eq_true rfl) ?_
  refine W.eq (g2 := F0 m 4 ls []) rfl ?_
  refine lv_aload_n hx hb dX7_init_4 rfl (lv_at hl 0 rfl) ?_
  refine lv_sipush (v := 400) hx hb dX7_init_5 (by decide) ?_
  refine va_newa (atype := .int) (a0 := (400, .inl (fun _ => 0))) (N' := 400) hx hb (hts _ kw_1_47) (ty := .int) rfl hK hP hD hS hA (fun _ => rfl) (by decide) (by decide) (by decide) (Nat.le_of_ble_eq_true rfl) (Nat.le_of_ble_eq_true rfl) dX7_init_8 (fun q_1 cy_2 H hK hP hD hS => ?_)
  have hK : va_K D vwCl [(cy_2, .int)] s := hK
  have hP : va_P D vwCl [(h0, .inr (6, [.null, .int 0])), (q_1, .inl (cy_2, 400, .inl (fun _ => 0)))] H := hP
  have hD : va_D A [(h0, .inr (6, [.null, .int 0])), (q_1, .inl (cy_2, 400, .inl (fun _ => 0)))] := hD
  refine W.widen (k := 1) (n := 400) (by decide) (by decide) ?_
  refine va_putF (D := D) (ci := 6) (v := .ref q_1) (ty := .array .int) (C := RX7) (T := TX7) (N := 2) hx hb hts inG_X7 tyX7 tyX7_ok nmX7 hown hK hP hD hS 0 rfl rfl 0 (by decide) (hts _ kw_1_38) (fun _ h9 => h9) rfl hin rfl (by decide +kernel) rfl rfl (Nat.le_of_ble_eq_true rfl) dX7_init_10 (fun H locs hP hD hS => ?_)
  have hP : va_P D vwCl [(h0, .inr (6, [.ref q_1, .int 0])), (q_1, .inl (cy_2, 400, .inl (fun _ => 0)))] H := hP
  have hD : va_D A [(h0, .inr (6, [.ref q_1, .int 0])), (q_1, .inl (cy_2, 400, .inl (fun _ => 0)))] := hD
  refine lv_aload_n hx hb dX7_init_13 rfl (lv_at hl 0 rfl) ?_
  refine lv_iconst (v := 0) hx hb dX7_init_14 (by decide) ?_
  refine va_put (D := D) (ci := 6) (v := .int 0) (ty := .int) (C := RX7) (T := TX7) (N := 2) hx hb hts inG_X7 tyX7 tyX7_ok nmX7 hown hK hP hD hS 0 rfl rfl 1 (by decide) (hts _ kw_1_40) (fun _ h9 => h9) rfl (by decide +kernel) rfl rfl (Nat.le_of_ble_eq_true rfl) dX7_init_15 (fun H locs hP hD hS => ?_)
  have hP : va_P D vwCl [(h0, .inr (6, [.ref q_1, .int 0])), (q_1, .inl (cy_2, 400, .inl (fun _ => 0)))] H := hP
  have hD : va_D A [(h0, .inr (6, [.ref q_1, .int 0])), (q_1, .inl (cy_2, 400, .inl (fun _ => 0)))] := hD
  have hP9 := hP.sub (ws' := [(h0, .inr (6, [.ref q_1, .int 0])), (q_1, .inl (cy_2, 400, .inl (fun _ => 0)))]) [0, 1] rfl
  have hD9 := hD.sub (ws' := [(h0, .inr (6, [.ref q_1, .int 0])), (q_1, .inl (cy_2, 400, .inl (fun _ => 0)))]) [0, 1] (by decide) rfl
  have hK9 := hK.sub (tys' := [(cy_2, .int)]) [0] rfl
  refine W.widen (k := 1) (n := 400) (by decide) (by decide) ?_
  exact W.vret hx hb hr (fun t ht hW => ⟨⟨(q_1, cy_2), rfl, trivial, by rw [ht]; exact hP9, va_K.moved hW.alike hK9, hD9⟩, hS.F ht⟩) hS.2.2 dX7_init_18
theorem dX7_append_0 : decode cX7_append 0 = .ok (.aload_n 0, 1) := by decide +kernel
theorem dX7_append_1 : decode cX7_append 1 = .ok (.getfield 15, 3) := by decide +kernel
theorem dX7_append_4 : decode cX7_append 4 = .ok (.ifCond .lt 13, 3) := by decide +kernel
theorem dX7_append_7 : decode cX7_append 7 = .ok (.aload_n 0, 1) := by decide +kernel
theorem dX7_append_8 : decode cX7_append 8 = .ok (.getfield 15, 3) := by decide +kernel
theorem dX7_append_11 : decode cX7_append 11 = .ok (.sipush 396, 3) := by decide +kernel
theorem dX7_append_14 : decode cX7_append 14 = .ok (.if_icmp .le 4, 3) := by decide +kernel
theorem dX7_append_18 : decode cX7_append 18 = .ok (.aload_n 0, 1) := by decide +kernel
theorem dX7_append_19 : decode cX7_append 19 = .ok (.getfield 9, 3) := by decide +kernel
theorem dX7_append_22 : decode cX7_append 22 = .ok (.aload_n 0, 1) := by decide +kernel
theorem dX7_append_23 : decode cX7_append 23 = .ok (.getfield 15, 3) := by decide +kernel
theorem dX7_append_26 : decode cX7_append 26 = .ok (.iload_n 1, 1) := by decide +kernel
theorem dX7_append_27 : decode cX7_append 27 = .ok (.bipush 24, 2) := by decide +kernel
theorem dX7_append_29 : decode cX7_append 29 = .ok (.iushr, 1) := by decide +kernel
theorem dX7_append_30 : decode cX7_append 30 = .ok (.sipush 255, 3) := by decide +kernel
theorem dX7_append_33 : decode cX7_append 33 = .ok (.iand, 1) := by decide +kernel
theorem dX7_append_34 : decode cX7_append 34 = .ok (.iastore, 1) := by decide +kernel
theorem dX7_append_35 : decode cX7_append 35 = .ok (.aload_n 0, 1) := by decide +kernel
theorem dX7_append_36 : decode cX7_append 36 = .ok (.getfield 9, 3) := by decide +kernel
theorem dX7_append_39 : decode cX7_append 39 = .ok (.aload_n 0, 1) := by decide +kernel
theorem dX7_append_40 : decode cX7_append 40 = .ok (.getfield 15, 3) := by decide +kernel
theorem dX7_append_43 : decode cX7_append 43 = .ok (.iconst 1, 1) := by decide +kernel
theorem dX7_append_44 : decode cX7_append 44 = .ok (.iadd, 1) := by decide +kernel
theorem dX7_append_45 : decode cX7_append 45 = .ok (.iload_n 1, 1) := by decide +kernel
theorem dX7_append_46 : decode cX7_append 46 = .ok (.bipush 16, 2) := by decide +kernel
theorem dX7_append_48 : decode cX7_append 48 = .ok (.iushr, 1) := by decide +kernel
theorem dX7_append_49 : decode cX7_append 49 = .ok (.sipush 255, 3) := by decide +kernel
theorem dX7_append_52 : decode cX7_append 52 = .ok (.iand, 1) := by decide +kernel
theorem dX7_append_53 : decode cX7_append 53 = .ok (.iastore, 1) := by decide +kernel
theorem dX7_append_54 : decode cX7_append 54 = .ok (.aload_n 0, 1) := by decide +kernel
theorem dX7_append_55 : decode cX7_append 55 = .ok (.getfield 9, 3) := by decide +kernel
theorem dX7_append_58 : decode cX7_append 58 = .ok (.aload_n 0, 1) := by decide +kernel
theorem dX7_append_59 : decode cX7_append 59 = .ok (.getfield 15, 3) := by decide +kernel
theorem dX7_append_62 : decode cX7_append 62 = .ok (.iconst 2, 1) := by decide +kernel
theorem dX7_append_63 : decode cX7_append 63 = .ok (.iadd, 1) := by decide +kernel
theorem dX7_append_64 : decode cX7_append 64 = .ok (.iload_n 1, 1) := by decide +kernel
theorem dX7_append_65 : decode cX7_append 65 = .ok (.bipush 8, 2) := by decide +kernel
theorem dX7_append_67 : decode cX7_append 67 = .ok (.iushr, 1) := by decide +kernel
theorem dX7_append_68 : decode cX7_append 68 = .ok (.sipush 255, 3) := by decide +kernel
theorem dX7_append_71 : decode cX7_append 71 = .ok (.iand, 1) := by decide +kernel
theorem dX7_append_72 : decode cX7_append 72 = .ok (.iastore, 1) := by decide +kernel
theorem dX7_append_73 : decode cX7_append 73 = .ok (.aload_n 0, 1) := by decide +kernel
theorem dX7_append_74 : decode cX7_append 74 = .ok (.getfield 9, 3) := by decide +kernel
theorem dX7_append_77 : decode cX7_append 77 = .ok (.aload_n 0, 1) := by decide +kernel
theorem dX7_append_78 : decode cX7_append 78 = .ok (.getfield 15, 3) := by decide +kernel
theorem dX7_append_81 : decode cX7_append 81 = .ok (.iconst 3, 1) := by decide +kernel
theorem dX7_append_82 : decode cX7_append 82 = .ok (.iadd, 1) := by decide +kernel
theorem dX7_append_83 : decode cX7_append 83 = .ok (.iload_n 1, 1) := by decide +kernel
theorem dX7_append_84 : decode cX7_append 84 = .ok (.sipush 255, 3) := by decide +kernel
theorem dX7_append_87 : decode cX7_append 87 = .ok (.iand, 1) := by decide +kernel
theorem dX7_append_88 : decode cX7_append 88 = .ok (.iastore, 1) := by decide +kernel
theorem dX7_append_89 : decode cX7_append 89 = .ok (.aload_n 0, 1) := by decide +kernel
theorem dX7_append_90 : decode cX7_append 90 = .ok (.dup, 1) := by decide +kernel
theorem dX7_append_91 : decode cX7_append 91 = .ok (.getfield 15, 3) := by decide +kernel
theorem dX7_append_94 : decode cX7_append 94 = .ok (.iconst 4, 1) := by decide +kernel
theorem dX7_append_95 : decode cX7_append 95 = .ok (.iadd, 1) := by decide +kernel
theorem dX7_append_96 : decode cX7_append 96 = .ok (.putfield 15, 3) := by decide +kernel
theorem dX7_append_99 : decode cX7_append 99 = .ok (.return_, 1) := by decide +kernel
set_option maxHeartbeats 4000000 in
set_option maxRecDepth 100000 in
theorem c_Tape_append (l : Launch) (D : va_G) (h0 : Nat) (q1 : Nat) (cy1 : ClassId) (k : Nat) (v : Int32) (f : Nat → Int32) (hk : k ≤ 396) : cV l yX7_append (.code yX7_append cX7_append 2 none) ({ frames := 0, cells := 0, slots := 0, locals := 0 }) D [(cy1, .int)] [(h0, .inr (6, [.ref q1, .int (nI k)])), (q1, .inl (cy1, 400, .inl f))] xT [.ref h0, .int v] (S := Nat → Int32) (fun u => match u with | f1 => True) (fun u => match u with | f1 => []) (fun u => match u with | f1 => [(h0, .inr (6, [.ref q1, .int (nI (k + 4))])), (q1, .inl (cy1, 400, .inl f1))]) := by
  intro sz
  refine Met.ofW (cc := cX7_append) (maxL := 2) (ret := none) (by decide) rfl ?_
  intro p e s m args below meth c s₁ B hml hv
  obtain ⟨rfl, hsz, hP, hK, hD0, hX⟩ := hv
  have hx := B.exec
  have hb := B.bytes
  have hr := B.returns
  have hts0 := atoms_spec (ws := .code yX7_append cX7_append 2 none :: gw) B.pre
  have hts := fun (w : Cond) (h : w ∈ gw) => hts0 w (List.mem_cons_of_mem _ h)
  have hown : s.vm.findClass RX7 = some m.cls := findClass_of_methodNamed B.named
  have hlocks := B.notSynchronized
  have F : mFix p s m _ c cX7_append 2 RX7 := ⟨hx, hb, hml, hown, hts⟩
  subst hsz
  have hD := hD0.self (sz := s.heap.size)
  generalize hAe : va_A [(h0, .inr (6, [.ref q1, .int (nI k)])), (q1, .inl (cy1, 400, .inl f))] s.heap.size = A at hD hX ⊢
  have hA : ∀ q : Nat, s.heap.size ≤ q → A q := fun q h => by rw [← hAe]; exact Or.inr h
  have hS : va_S A s.heap s.heap [] := va_S.rf
  have hl := lv_entry ([.ref h0, .int v]) (n := 2) (Nat.le_of_ble_eq_true rfl)
  rw [lg_entry_eq]
  generalize (lg_sl ([.ref h0, .int v]) ++ List.replicate (2 - (lg_sl ([.ref h0, .int v])).length) Slot.unset).toArray = ls at hl ⊢
  have hl : lv_has ls 2 [(0, .ref h0), (1, .int v)] := hl
  have hP : va_P D vwCl [(h0, .inr (6, [.ref q1, .int (nI k)])), (q1, .inl (cy1, 400, .inl f))] s.heap := hP
  refine lv_aload_n hx hb dX7_append_0 rfl (lv_at hl 0 rfl) ?_
  refine va_get (D := D) (ci := 6) (v := .int (nI k)) (C := RX7) (T := TX7) (N := 2) hx hb hts inG_X7 hown hK hP 0 rfl rfl 1 (by decide) (hts _ kw_1_40) (fun _ h9 => h9) rfl dX7_append_1 ?_
  refine lv_if_lt (tgt := 17) hx hb dX7_append_4 (by decide) (fun c_1 => absurd c_1 (nI_pos (by omega))) (fun c_1 => ?_)
  have c_1n : 0 ≤ k := nb_lt (by omega) (by omega) c_1
  refine lv_aload_n hx hb dX7_append_7 rfl (lv_at hl 0 rfl) ?_
  refine va_get (D := D) (ci := 6) (v := .int (nI k)) (C := RX7) (T := TX7) (N := 2) hx hb hts inG_X7 hown hK hP 0 rfl rfl 1 (by decide) (hts _ kw_1_40) (fun _ h9 => h9) rfl dX7_append_8 ?_
  refine lv_sipush (v := 396) hx hb dX7_append_11 (by decide) ?_
  refine lv_icmp_le (tgt := 18) hx hb dX7_append_14 (by decide) (fun c_2 => ?_) (fun c_2 => absurd ((nI_leI (by omega) (by decide)).mpr hk) c_2)
  have c_2n : k ≤ 396 := (nI_leI (by omega) (by omega)).mp c_2
  have c_2 := Int32.not_lt.mpr c_2
  refine lv_aload_n hx hb dX7_append_18 rfl (lv_at hl 0 rfl) ?_
  refine va_get (D := D) (ci := 6) (v := .ref q1) (C := RX7) (T := TX7) (N := 2) hx hb hts inG_X7 hown hK hP 0 rfl rfl 0 (by decide) (hts _ kw_1_38) (fun _ h9 => h9) rfl dX7_append_19 ?_
  refine lv_aload_n hx hb dX7_append_22 rfl (lv_at hl 0 rfl) ?_
  refine va_get (D := D) (ci := 6) (v := .int (nI k)) (C := RX7) (T := TX7) (N := 2) hx hb hts inG_X7 hown hK hP 0 rfl rfl 1 (by decide) (hts _ kw_1_40) (fun _ h9 => h9) rfl dX7_append_23 ?_
  refine lv_iload_n hx hb dX7_append_26 rfl (lv_at hl 1 rfl) ?_
  refine lv_bipush (v := 24) hx hb dX7_append_27 (by decide) ?_
  obtain ⟨z_3, ez_3⟩ : ∃ z : Int32, (v.toUInt32 >>> ((24 : Int32).toUInt32 &&& Int32.toUInt32 31)).toInt32 = z := ⟨_, rfl⟩
  refine lv_iushr hx hb dX7_append_29 ez_3 ?_
  refine lv_sipush (v := 255) hx hb dX7_append_30 (by decide) ?_
  refine lv_iand hx hb dX7_append_33 ?_
  refine lv_topi (fun z_4 ez_4 => ?_)
  refine m_iast hx hb hK hP hD hS 1 0 rfl rfl k rfl (by omega) (by decide) dX7_append_34 (fun g_5 H locs eg_5 hP hD hS => ?_)
  have hP : va_P D vwCl [(h0, .inr (6, [.ref q1, .int (nI k)])), (q1, .inl (cy1, 400, .inl g_5))] H := hP
  have hD : va_D A [(h0, .inr (6, [.ref q1, .int (nI k)])), (q1, .inl (cy1, 400, .inl g_5))] := hD
  refine lv_aload_n hx hb dX7_append_35 rfl (lv_at hl 0 rfl) ?_
  refine va_get (D := D) (ci := 6) (v := .ref q1) (C := RX7) (T := TX7) (N := 2) hx hb hts inG_X7 hown hK hP 0 rfl rfl 0 (by decide) (hts _ kw_1_38) (fun _ h9 => h9) rfl dX7_append_36 ?_
  refine lv_aload_n hx hb dX7_append_39 rfl (lv_at hl 0 rfl) ?_
  refine va_get (D := D) (ci := 6) (v := .int (nI k)) (C := RX7) (T := TX7) (N := 2) hx hb hts inG_X7 hown hK hP 0 rfl rfl 1 (by decide) (hts _ kw_1_40) (fun _ h9 => h9) rfl dX7_append_40 ?_
  refine lv_iconst (v := 1) hx hb dX7_append_43 (by decide) ?_
  refine lv_iadd hx hb dX7_append_44 ?_
  refine lv_topi (fun z_6 ez_6 => ?_)
  obtain rfl : z_6 = nI (k + 1) := ez_6.trans (nI_add k 1)
  refine lv_iload_n hx hb dX7_append_45 rfl (lv_at hl 1 rfl) ?_
  refine lv_bipush (v := 16) hx hb dX7_append_46 (by decide) ?_
  obtain ⟨z_7, ez_7⟩ : ∃ z : Int32, (v.toUInt32 >>> ((16 : Int32).toUInt32 &&& Int32.toUInt32 31)).toInt32 = z := ⟨_, rfl⟩
  refine lv_iushr hx hb dX7_append_48 ez_7 ?_
  refine lv_sipush (v := 255) hx hb dX7_append_49 (by decide) ?_
  refine lv_iand hx hb dX7_append_52 ?_
  refine lv_topi (fun z_8 ez_8 => ?_)
  refine m_iast hx hb hK hP hD hS 1 0 rfl rfl (k + 1) rfl (by omega) (by decide) dX7_append_53 (fun g_9 H locs eg_9 hP hD hS => ?_)
  have hP : va_P D vwCl [(h0, .inr (6, [.ref q1, .int (nI k)])), (q1, .inl (cy1, 400, .inl g_9))] H := hP
  have hD : va_D A [(h0, .inr (6, [.ref q1, .int (nI k)])), (q1, .inl (cy1, 400, .inl g_9))] := hD
  refine lv_aload_n hx hb dX7_append_54 rfl (lv_at hl 0 rfl) ?_
  refine va_get (D := D) (ci := 6) (v := .ref q1) (C := RX7) (T := TX7) (N := 2) hx hb hts inG_X7 hown hK hP 0 rfl rfl 0 (by decide) (hts _ kw_1_38) (fun _ h9 => h9) rfl dX7_append_55 ?_
  refine lv_aload_n hx hb dX7_append_58 rfl (lv_at hl 0 rfl) ?_
  refine va_get (D := D) (ci := 6) (v := .int (nI k)) (C := RX7) (T := TX7) (N := 2) hx hb hts inG_X7 hown hK hP 0 rfl rfl 1 (by decide) (hts _ kw_1_40) (fun _ h9 => h9) rfl dX7_append_59 ?_
  refine lv_iconst (v := 2) hx hb dX7_append_62 (by decide) ?_
  refine lv_iadd hx hb dX7_append_63 ?_
  refine lv_topi (fun z_10 ez_10 => ?_)
  obtain rfl : z_10 = nI (k + 2) := ez_10.trans (nI_add k 2)
  refine lv_iload_n hx hb dX7_append_64 rfl (lv_at hl 1 rfl) ?_
  refine lv_bipush (v := 8) hx hb dX7_append_65 (by decide) ?_
  obtain ⟨z_11, ez_11⟩ : ∃ z : Int32, (v.toUInt32 >>> ((8 : Int32).toUInt32 &&& Int32.toUInt32 31)).toInt32 = z := ⟨_, rfl⟩
  refine lv_iushr hx hb dX7_append_67 ez_11 ?_
  refine lv_sipush (v := 255) hx hb dX7_append_68 (by decide) ?_
  refine lv_iand hx hb dX7_append_71 ?_
  refine lv_topi (fun z_12 ez_12 => ?_)
  refine m_iast hx hb hK hP hD hS 1 0 rfl rfl (k + 2) rfl (by omega) (by decide) dX7_append_72 (fun g_13 H locs eg_13 hP hD hS => ?_)
  have hP : va_P D vwCl [(h0, .inr (6, [.ref q1, .int (nI k)])), (q1, .inl (cy1, 400, .inl g_13))] H := hP
  have hD : va_D A [(h0, .inr (6, [.ref q1, .int (nI k)])), (q1, .inl (cy1, 400, .inl g_13))] := hD
  refine lv_aload_n hx hb dX7_append_73 rfl (lv_at hl 0 rfl) ?_
  refine va_get (D := D) (ci := 6) (v := .ref q1) (C := RX7) (T := TX7) (N := 2) hx hb hts inG_X7 hown hK hP 0 rfl rfl 0 (by decide) (hts _ kw_1_38) (fun _ h9 => h9) rfl dX7_append_74 ?_
  refine lv_aload_n hx hb dX7_append_77 rfl (lv_at hl 0 rfl) ?_
  refine va_get (D := D) (ci := 6) (v := .int (nI k)) (C := RX7) (T := TX7) (N := 2) hx hb hts inG_X7 hown hK hP 0 rfl rfl 1 (by decide) (hts _ kw_1_40) (fun _ h9 => h9) rfl dX7_append_78 ?_
  refine lv_iconst (v := 3) hx hb dX7_append_81 (by decide) ?_
  refine lv_iadd hx hb dX7_append_82 ?_
  refine lv_topi (fun z_14 ez_14 => ?_)
  obtain rfl : z_14 = nI (k + 3) := ez_14.trans (nI_add k 3)
  refine lv_iload_n hx hb dX7_append_83 rfl (lv_at hl 1 rfl) ?_
  refine lv_sipush (v := 255) hx hb dX7_append_84 (by decide) ?_
  refine lv_iand hx hb dX7_append_87 ?_
  refine lv_topi (fun z_15 ez_15 => ?_)
  refine m_iast hx hb hK hP hD hS 1 0 rfl rfl (k + 3) rfl (by omega) (by decide) dX7_append_88 (fun g_16 H locs eg_16 hP hD hS => ?_)
  have hP : va_P D vwCl [(h0, .inr (6, [.ref q1, .int (nI k)])), (q1, .inl (cy1, 400, .inl g_16))] H := hP
  have hD : va_D A [(h0, .inr (6, [.ref q1, .int (nI k)])), (q1, .inl (cy1, 400, .inl g_16))] := hD
  refine lv_aload_n hx hb dX7_append_89 rfl (lv_at hl 0 rfl) ?_
  refine lv_dup hx hb dX7_append_90 rfl ?_
  refine va_get (D := D) (ci := 6) (v := .int (nI k)) (C := RX7) (T := TX7) (N := 2) hx hb hts inG_X7 hown hK hP 0 rfl rfl 1 (by decide) (hts _ kw_1_40) (fun _ h9 => h9) rfl dX7_append_91 ?_
  refine lv_iconst (v := 4) hx hb dX7_append_94 (by decide) ?_
  refine lv_iadd hx hb dX7_append_95 ?_
  refine lv_topi (fun z_17 ez_17 => ?_)
  obtain rfl : z_17 = nI (k + 4) := ez_17.trans (nI_add k 4)
  refine va_put (D := D) (ci := 6) (v := .int (nI (k + 4))) (ty := .int) (C := RX7) (T := TX7) (N := 2) hx hb hts inG_X7 tyX7 tyX7_ok nmX7 hown hK hP hD hS 0 rfl rfl 1 (by decide) (hts _ kw_1_40) (fun _ h9 => h9) rfl (by decide +kernel) rfl rfl (Nat.le_of_ble_eq_true rfl) dX7_append_96 (fun H locs hP hD hS => ?_)
  have hP : va_P D vwCl [(h0, .inr (6, [.ref q1, .int (nI (k + 4))])), (q1, .inl (cy1, 400, .inl g_16))] H := hP
  have hD : va_D A [(h0, .inr (6, [.ref q1, .int (nI (k + 4))])), (q1, .inl (cy1, 400, .inl g_16))] := hD
  have hP9 := hP.sub (ws' := [(h0, .inr (6, [.ref q1, .int (nI (k + 4))])), (q1, .inl (cy1, 400, .inl g_16))]) [0, 1] rfl
  have hD9 := hD.sub (ws' := [(h0, .inr (6, [.ref q1, .int (nI (k + 4))])), (q1, .inl (cy1, 400, .inl g_16))]) [0, 1] (by decide) rfl
  have hK9 := hK.sub (tys' := []) [] rfl
  refine W.widen (k := 0) (n := 0) (by decide) (by decide) ?_
  exact W.vret hx hb hr (fun t ht hW => ⟨⟨g_16, rfl, trivial, by rw [ht]; exact hP9, va_K.moved hW.alike hK9, hD9⟩, hS.F ht⟩) hS.2.2 dX7_append_99
theorem dX9_feed_0 : decode cX9_feed 0 = .ok (.aload_n 0, 1) := by decide +kernel
theorem inG_X9 : ∀ w ∈ u_ws RX9 TX9 6, w ∈ gw := fun w h => gw_in ((by decide +kernel : ∀ w ∈ u_ws RX9 TX9 6, w ∈ lw_tbl) w h) ((by decide +kernel : ∀ w ∈ u_ws RX9 TX9 6, goodWord w = true) w h)
theorem kw_2_67 : Cond.fieldLink RX9 12 "IceFair" "tape" "LIceFair$Tape;" ∈ gw := gw_t2 (List.mem_of_getElem? (i := 67) (by decide +kernel)) (by decide +kernel)
theorem dX9_feed_1 : decode cX9_feed 1 = .ok (.getfield 12, 3) := by decide +kernel
theorem kw_1_41 : Cond.fieldLink RX9 51 "IceFair$Tape" "length" "I" ∈ gw := gw_t1 (List.mem_of_getElem? (i := 41) (by decide +kernel)) (by decide +kernel)
theorem dX9_feed_4 : decode cX9_feed 4 = .ok (.getfield 51, 3) := by decide +kernel
theorem dX9_feed_7 : decode cX9_feed 7 = .ok (.sipush 380, 3) := by decide +kernel
theorem dX9_feed_10 : decode cX9_feed 10 = .ok (.if_icmp .le 5, 3) := by decide +kernel
theorem dX9_feed_15 : decode cX9_feed 15 = .ok (.aload_n 0, 1) := by decide +kernel
theorem dX9_feed_16 : decode cX9_feed 16 = .ok (.getfield 12, 3) := by decide +kernel
theorem dX9_feed_19 : decode cX9_feed 19 = .ok (.iload_n 1, 1) := by decide +kernel
theorem kw_2_90 : Cond.methodLink RX9 55 yX7_append ∈ gw := gw_t2 (List.mem_of_getElem? (i := 90) (by decide +kernel)) (by decide +kernel)
theorem kw_2_91 : Cond.instanceMethod yX7_append ∈ gw := gw_t2 (List.mem_of_getElem? (i := 91) (by decide +kernel)) (by decide +kernel)
theorem kw_2_92 : Cond.selects RX7 yX7_append yX7_append ∈ gw := gw_t2 (List.mem_of_getElem? (i := 92) (by decide +kernel)) (by decide +kernel)
theorem kw_1_2 : Cond.initialized RX7 ∈ gw := gw_t1 (List.mem_of_getElem? (i := 2) (by decide +kernel)) (by decide +kernel)
theorem kw_2_93 : Cond.code yX7_append cX7_append 2 none ∈ gw := gw_t2 (List.mem_of_getElem? (i := 93) (by decide +kernel)) (by decide +kernel)
theorem gk_X9_55 : GoodIn gw (wsV RX9 55 RX7 yX7_append (.code yX7_append cX7_append 2 none :: gw)) ∧ (yX7_append.cls = RX7 ∧ yX7_append.cls ≠ "java/lang/invoke/MethodHandle" ∧ yX7_append.cls ≠ "java/lang/invoke/VarHandle" ∧ (parseMethodDescriptor yX7_append.desc).map (fun d => d.parameters.length) = some 1) := ⟨gi_V kw_2_90 kw_2_91 kw_2_92 kw_1_2 kw_2_93, by decide +kernel⟩
theorem dX9_feed_20 : decode cX9_feed 20 = .ok (.invokevirtual 55, 3) := by decide +kernel
theorem dX9_feed_23 : decode cX9_feed 23 = .ok (.aload_n 0, 1) := by decide +kernel
theorem dX9_feed_24 : decode cX9_feed 24 = .ok (.getfield 12, 3) := by decide +kernel
theorem dX9_feed_27 : decode cX9_feed 27 = .ok (.iload_n 2, 1) := by decide +kernel
theorem dX9_feed_28 : decode cX9_feed 28 = .ok (.invokevirtual 55, 3) := by decide +kernel
theorem dX9_feed_31 : decode cX9_feed 31 = .ok (.aload_n 0, 1) := by decide +kernel
theorem dX9_feed_32 : decode cX9_feed 32 = .ok (.getfield 12, 3) := by decide +kernel
theorem dX9_feed_35 : decode cX9_feed 35 = .ok (.iload_n 3, 1) := by decide +kernel
theorem dX9_feed_36 : decode cX9_feed 36 = .ok (.invokevirtual 55, 3) := by decide +kernel
theorem dX9_feed_39 : decode cX9_feed 39 = .ok (.aload_n 0, 1) := by decide +kernel
theorem dX9_feed_40 : decode cX9_feed 40 = .ok (.getfield 12, 3) := by decide +kernel
theorem dX9_feed_43 : decode cX9_feed 43 = .ok (.iload 4, 2) := by decide +kernel
theorem dX9_feed_45 : decode cX9_feed 45 = .ok (.invokevirtual 55, 3) := by decide +kernel
theorem dX9_feed_48 : decode cX9_feed 48 = .ok (.aload_n 0, 1) := by decide +kernel
theorem dX9_feed_49 : decode cX9_feed 49 = .ok (.getfield 12, 3) := by decide +kernel
theorem dX9_feed_52 : decode cX9_feed 52 = .ok (.iload 5, 2) := by decide +kernel
theorem dX9_feed_54 : decode cX9_feed 54 = .ok (.invokevirtual 55, 3) := by decide +kernel
theorem dX9_feed_57 : decode cX9_feed 57 = .ok (.aload_n 0, 1) := by decide +kernel
theorem dX9_feed_58 : decode cX9_feed 58 = .ok (.getfield 12, 3) := by decide +kernel
theorem dX9_feed_61 : decode cX9_feed 61 = .ok (.getfield 51, 3) := by decide +kernel
theorem dX9_feed_64 : decode cX9_feed 64 = .ok (.ireturn, 1) := by decide +kernel
set_option maxHeartbeats 4000000 in
set_option maxRecDepth 100000 in
theorem c_IceFair_feed (l : Launch) (D : va_G) (h0 : Nat) (q0 : Nat) (q1 : Nat) (q2 : Nat) (q3 : Nat) (q4 : Nat) (q5 : Nat) (q6 : Nat) (cy1 : ClassId) (a1 : Int32) (a2 : Int32) (a3 : Int32) (a4 : Int32) (a5 : Int32) (f0 : Nat → Int32) : cI l yX9_feed (.code yX9_feed cX9_feed 6 (some .int)) ({ frames := 1, cells := 0, slots := 0, locals := 21 }) D [(cy1, .int)] [(h0, .inr (8, [.ref q0, .ref q1, .ref q2, .ref q3, .ref q4, .ref q5])), (q0, .inr (6, [.ref q6, .int 0])), (q6, .inl (cy1, 400, .inl f0))] xT [.ref h0, .int a1, .int a2, .int a3, .int a4, .int a5] (S := Unit) (fun r _ => r = 20) (fun _ => []) (fun _ => []) := by
  intro sz
  refine Met.ofW (cc := cX9_feed) (maxL := 6) (ret := (some .int)) (by decide) rfl ?_
  intro p e s m args below meth c s₁ B hml hv
  obtain ⟨rfl, hsz, hP, hK, hD0, hX⟩ := hv
  have hx := B.exec
  have hb := B.bytes
  have hr := B.returns
  have hts0 := atoms_spec (ws := .code yX9_feed cX9_feed 6 (some .int) :: gw) B.pre
  have hts := fun (w : Cond) (h : w ∈ gw) => hts0 w (List.mem_cons_of_mem _ h)
  have hown : s.vm.findClass RX9 = some m.cls := findClass_of_methodNamed B.named
  have hlocks := B.notSynchronized
  have F : mFix p s m _ c cX9_feed 6 RX9 := ⟨hx, hb, hml, hown, hts⟩
  subst hsz
  have hD := hD0.self (sz := s.heap.size)
  generalize hAe : va_A [(h0, .inr (8, [.ref q0, .ref q1, .ref q2, .ref q3, .ref q4, .ref q5])), (q0, .inr (6, [.ref q6, .int 0])), (q6, .inl (cy1, 400, .inl f0))] s.heap.size = A at hD hX ⊢
  have hA : ∀ q : Nat, s.heap.size ≤ q → A q := fun q h => by rw [← hAe]; exact Or.inr h
  have hS : va_S A s.heap s.heap [] := va_S.rf
  have hl := lv_entry ([.ref h0, .int a1, .int a2, .int a3, .int a4, .int a5]) (n := 6) (Nat.le_of_ble_eq_true rfl)
  rw [lg_entry_eq]
  generalize (lg_sl ([.ref h0, .int a1, .int a2, .int a3, .int a4, .int a5]) ++ List.replicate (6 - (lg_sl ([.ref h0, .int a1, .int a2, .int a3, .int a4, .int a5])).length) Slot.unset).toArray = ls at hl ⊢
  have hl : lv_has ls 6 [(0, .ref h0), (1, .int a1), (2, .int a2), (3, .int a3), (4, .int a4), (5, .int a5)] := hl
  have hP : va_P D vwCl [(h0, .inr (8, [.ref q0, .ref q1, .ref q2, .ref q3, .ref q4, .ref q5])), (q0, .inr (6, [.ref q6, .int 0])), (q6, .inl (cy1, 400, .inl f0))] s.heap := hP
  refine lv_aload_n hx hb dX9_feed_0 rfl (lv_at hl 0 rfl) ?_
  refine va_get (D := D) (ci := 8) (v := .ref q0) (C := RX9) (T := TX9) (N := 6) hx hb hts inG_X9 hown hK hP 0 rfl rfl 0 (by decide) (hts _ kw_2_67) (fun _ h9 => h9) rfl dX9_feed_1 ?_
  refine va_get (D := D) (ci := 6) (v := .int 0) (C := RX7) (T := TX7) (N := 2) hx hb hts inG_X7 hown hK hP 1 rfl rfl 1 (by decide) (hts _ kw_1_41) (fun _ h9 => h9) rfl dX9_feed_4 ?_
  refine lv_sipush (v := 380) hx hb dX9_feed_7 (by decide) ?_
  refine lv_icmp_le (tgt := 15) hx hb dX9_feed_10 (by decide) (fun c_1 => ?_) (fun c_1 => absurd c_1 (by decide))
  refine lv_aload_n hx hb dX9_feed_15 rfl (lv_at hl 0 rfl) ?_
  refine va_get (D := D) (ci := 8) (v := .ref q0) (C := RX9) (T := TX9) (N := 6) hx hb hts inG_X9 hown hK hP 0 rfl rfl 0 (by decide) (hts _ kw_2_67) (fun _ h9 => h9) rfl dX9_feed_16 ?_
  refine lv_iload_n hx hb dX9_feed_19 rfl (lv_at hl 1 rfl) ?_
  refine mc_Vv (rest := []) (wr := [(h0, .inr (8, [.ref q0, .ref q1, .ref q2, .ref q3, .ref q4, .ref q5]))]) F hK hP hD hS hA (c_Tape_append l D q0 q6 cy1 0 a1 f0 (by omega)) ⟨gk_X9_55.1, gk_X9_55.2, Nat.le_of_ble_eq_true rfl, Nat.le_of_ble_eq_true rfl⟩ [1, 2] [0] [0] ⟨rfl, rfl, rfl, rfl, by decide⟩ rfl xT_move (fun _ _ _ => trivial) 1 rfl rfl rfl hl.1 rfl (Nat.le_of_ble_eq_true rfl) dX9_feed_20 ⟨Nat.le_of_ble_eq_true rfl, Nat.le_of_ble_eq_true rfl⟩ (fun f1_2 H locs hw hK1 hP hD hS => ?_)
  have hP : va_P D vwCl [(h0, .inr (8, [.ref q0, .ref q1, .ref q2, .ref q3, .ref q4, .ref q5])), (q0, .inr (6, [.ref q6, .int (nI (0 + 4))])), (q6, .inl (cy1, 400, .inl f1_2))] H := hP
  have hD : va_D A [(h0, .inr (8, [.ref q0, .ref q1, .ref q2, .ref q3, .ref q4, .ref q5])), (q0, .inr (6, [.ref q6, .int (nI (0 + 4))])), (q6, .inl (cy1, 400, .inl f1_2))] := hD
  refine lv_aload_n hx hb dX9_feed_23 rfl (lv_at hl 0 rfl) ?_
  refine va_get (D := D) (ci := 8) (v := .ref q0) (C := RX9) (T := TX9) (N := 6) hx hb hts inG_X9 hown hK hP 0 rfl rfl 0 (by decide) (hts _ kw_2_67) (fun _ h9 => h9) rfl dX9_feed_24 ?_
  refine lv_iload_n hx hb dX9_feed_27 rfl (lv_at hl 2 rfl) ?_
  refine mc_Vv (rest := []) (wr := [(h0, .inr (8, [.ref q0, .ref q1, .ref q2, .ref q3, .ref q4, .ref q5]))]) F hK hP hD hS hA (c_Tape_append l D q0 q6 cy1 (0 + 4) a2 f1_2 (by omega)) ⟨gk_X9_55.1, gk_X9_55.2, Nat.le_of_ble_eq_true rfl, Nat.le_of_ble_eq_true rfl⟩ [1, 2] [0] [0] ⟨rfl, rfl, rfl, rfl, by decide⟩ rfl xT_move (fun _ _ _ => trivial) 1 rfl rfl rfl hl.1 rfl (Nat.le_of_ble_eq_true rfl) dX9_feed_28 ⟨Nat.le_of_ble_eq_true rfl, Nat.le_of_ble_eq_true rfl⟩ (fun f1_5 H locs hw hK1 hP hD hS => ?_)
  have hP : va_P D vwCl [(h0, .inr (8, [.ref q0, .ref q1, .ref q2, .ref q3, .ref q4, .ref q5])), (q0, .inr (6, [.ref q6, .int (nI ((0 + 4) + 4))])), (q6, .inl (cy1, 400, .inl f1_5))] H := hP
  have hD : va_D A [(h0, .inr (8, [.ref q0, .ref q1, .ref q2, .ref q3, .ref q4, .ref q5])), (q0, .inr (6, [.ref q6, .int (nI ((0 + 4) + 4))])), (q6, .inl (cy1, 400, .inl f1_5))] := hD
  refine lv_aload_n hx hb dX9_feed_31 rfl (lv_at hl 0 rfl) ?_
  refine va_get (D := D) (ci := 8) (v := .ref q0) (C := RX9) (T := TX9) (N := 6) hx hb hts inG_X9 hown hK hP 0 rfl rfl 0 (by decide) (hts _ kw_2_67) (fun _ h9 => h9) rfl dX9_feed_32 ?_
  refine lv_iload_n hx hb dX9_feed_35 rfl (lv_at hl 3 rfl) ?_
  refine mc_Vv (rest := []) (wr := [(h0, .inr (8, [.ref q0, .ref q1, .ref q2, .ref q3, .ref q4, .ref q5]))]) F hK hP hD hS hA (c_Tape_append l D q0 q6 cy1 ((0 + 4) + 4) a3 f1_5 (by omega)) ⟨gk_X9_55.1, gk_X9_55.2, Nat.le_of_ble_eq_true rfl, Nat.le_of_ble_eq_true rfl⟩ [1, 2] [0] [0] ⟨rfl, rfl, rfl, rfl, by decide⟩ rfl xT_move (fun _ _ _ => trivial) 1 rfl rfl rfl hl.1 rfl (Nat.le_of_ble_eq_true rfl) dX9_feed_36 ⟨Nat.le_of_ble_eq_true rfl, Nat.le_of_ble_eq_true rfl⟩ (fun f1_8 H locs hw hK1 hP hD hS => ?_)
  have hP : va_P D vwCl [(h0, .inr (8, [.ref q0, .ref q1, .ref q2, .ref q3, .ref q4, .ref q5])), (q0, .inr (6, [.ref q6, .int (nI (((0 + 4) + 4) + 4))])), (q6, .inl (cy1, 400, .inl f1_8))] H := hP
  have hD : va_D A [(h0, .inr (8, [.ref q0, .ref q1, .ref q2, .ref q3, .ref q4, .ref q5])), (q0, .inr (6, [.ref q6, .int (nI (((0 + 4) + 4) + 4))])), (q6, .inl (cy1, 400, .inl f1_8))] := hD
  refine lv_aload_n hx hb dX9_feed_39 rfl (lv_at hl 0 rfl) ?_
  refine va_get (D := D) (ci := 8) (v := .ref q0) (C := RX9) (T := TX9) (N := 6) hx hb hts inG_X9 hown hK hP 0 rfl rfl 0 (by decide) (hts _ kw_2_67) (fun _ h9 => h9) rfl dX9_feed_40 ?_
  refine lv_iload hx hb dX9_feed_43 (lv_at hl 4 rfl) ?_
  refine mc_Vv (rest := []) (wr := [(h0, .inr (8, [.ref q0, .ref q1, .ref q2, .ref q3, .ref q4, .ref q5]))]) F hK hP hD hS hA (c_Tape_append l D q0 q6 cy1 (((0 + 4) + 4) + 4) a4 f1_8 (by omega)) ⟨gk_X9_55.1, gk_X9_55.2, Nat.le_of_ble_eq_true rfl, Nat.le_of_ble_eq_true rfl⟩ [1, 2] [0] [0] ⟨rfl, rfl, rfl, rfl, by decide⟩ rfl xT_move (fun _ _ _ => trivial) 1 rfl rfl rfl hl.1 rfl (Nat.le_of_ble_eq_true rfl) dX9_feed_45 ⟨Nat.le_of_ble_eq_true rfl, Nat.le_of_ble_eq_true rfl⟩ (fun f1_11 H locs hw hK1 hP hD hS => ?_)
  have hP : va_P D vwCl [(h0, .inr (8, [.ref q0, .ref q1, .ref q2, .ref q3, .ref q4, .ref q5])), (q0, .inr (6, [.ref q6, .int (nI ((((0 + 4) + 4) + 4) + 4))])), (q6, .inl (cy1, 400, .inl f1_11))] H := hP
  have hD : va_D A [(h0, .inr (8, [.ref q0, .ref q1, .ref q2, .ref q3, .ref q4, .ref q5])), (q0, .inr (6, [.ref q6, .int (nI ((((0 + 4) + 4) + 4) + 4))])), (q6, .inl (cy1, 400, .inl f1_11))] := hD
  refine lv_aload_n hx hb dX9_feed_48 rfl (lv_at hl 0 rfl) ?_
  refine va_get (D := D) (ci := 8) (v := .ref q0) (C := RX9) (T := TX9) (N := 6) hx hb hts inG_X9 hown hK hP 0 rfl rfl 0 (by decide) (hts _ kw_2_67) (fun _ h9 => h9) rfl dX9_feed_49 ?_
  refine lv_iload hx hb dX9_feed_52 (lv_at hl 5 rfl) ?_
  refine mc_Vv (rest := []) (wr := [(h0, .inr (8, [.ref q0, .ref q1, .ref q2, .ref q3, .ref q4, .ref q5]))]) F hK hP hD hS hA (c_Tape_append l D q0 q6 cy1 ((((0 + 4) + 4) + 4) + 4) a5 f1_11 (by omega)) ⟨gk_X9_55.1, gk_X9_55.2, Nat.le_of_ble_eq_true rfl, Nat.le_of_ble_eq_true rfl⟩ [1, 2] [0] [0] ⟨rfl, rfl, rfl, rfl, by decide⟩ rfl xT_move (fun _ _ _ => trivial) 1 rfl rfl rfl hl.1 rfl (Nat.le_of_ble_eq_true rfl) dX9_feed_54 ⟨Nat.le_of_ble_eq_true rfl, Nat.le_of_ble_eq_true rfl⟩ (fun f1_14 H locs hw hK1 hP hD hS => ?_)
  have hP : va_P D vwCl [(h0, .inr (8, [.ref q0, .ref q1, .ref q2, .ref q3, .ref q4, .ref q5])), (q0, .inr (6, [.ref q6, .int (nI (((((0 + 4) + 4) + 4) + 4) + 4))])), (q6, .inl (cy1, 400, .inl f1_14))] H := hP
  have hD : va_D A [(h0, .inr (8, [.ref q0, .ref q1, .ref q2, .ref q3, .ref q4, .ref q5])), (q0, .inr (6, [.ref q6, .int (nI (((((0 + 4) + 4) + 4) + 4) + 4))])), (q6, .inl (cy1, 400, .inl f1_14))] := hD
  refine lv_aload_n hx hb dX9_feed_57 rfl (lv_at hl 0 rfl) ?_
  refine va_get (D := D) (ci := 8) (v := .ref q0) (C := RX9) (T := TX9) (N := 6) hx hb hts inG_X9 hown hK hP 0 rfl rfl 0 (by decide) (hts _ kw_2_67) (fun _ h9 => h9) rfl dX9_feed_58 ?_
  refine va_get (D := D) (ci := 6) (v := .int (nI (((((0 + 4) + 4) + 4) + 4) + 4))) (C := RX7) (T := TX7) (N := 2) hx hb hts inG_X7 hown hK hP 1 rfl rfl 1 (by decide) (hts _ kw_1_41) (fun _ h9 => h9) rfl dX9_feed_61 ?_
  have hP9 := hP.sub (ws' := []) [] rfl
  have hD9 := hD.sub (ws' := []) [] (by decide) rfl
  have hK9 := hK.sub (tys' := []) [] rfl
  refine W.widen (k := 0) (n := 0) (by decide) (by decide) ?_
  exact W.iret (v := nI (((((0 + 4) + 4) + 4) + 4) + 4)) hx hb hr (fun t ht hW => ⟨⟨(nI (((((0 + 4) + 4) + 4) + 4) + 4)), (), rfl, rfl, by rw [ht]; exact hP9, va_K.moved hW.alike hK9, hD9⟩, hS.F ht⟩) hS.2.2 dX9_feed_64
end
section
theorem kw_1_90 : Cond.fieldLink RX1 9 "IceFair$Customs" "USUAL" "[I" ∈ gw := gw_t1 (List.mem_of_getElem? (i := 90) (by decide +kernel)) (by decide +kernel)
theorem dX1_forget_0 : decode cX1_forget 0 = .ok (.getstatic 9, 3) := by decide +kernel
theorem dX1_forget_3 : decode cX1_forget 3 = .ok (.iconst 0, 1) := by decide +kernel
theorem dX1_forget_4 : decode cX1_forget 4 = .ok (.aload_n 0, 1) := by decide +kernel
theorem inG_X1 : ∀ w ∈ u_ws RX1 TX1 6, w ∈ gw := fun w h => gw_in ((by decide +kernel : ∀ w ∈ u_ws RX1 TX1 6, w ∈ lw_tbl) w h) ((by decide +kernel : ∀ w ∈ u_ws RX1 TX1 6, goodWord w = true) w h)
theorem kw_1_99 : Cond.fieldLink RX1 15 "IceFair$Customs" "numbers" "[I" ∈ gw := gw_t1 (List.mem_of_getElem? (i := 99) (by decide +kernel)) (by decide +kernel)
theorem dX1_forget_5 : decode cX1_forget 5 = .ok (.getfield 15, 3) := by decide +kernel
theorem dX1_forget_8 : decode cX1_forget 8 = .ok (.iconst 0, 1) := by decide +kernel
theorem dX1_forget_9 : decode cX1_forget 9 = .ok (.getstatic 9, 3) := by decide +kernel
theorem dX1_forget_12 : decode cX1_forget 12 = .ok (.arraylength, 1) := by decide +kernel
theorem kw_1_96 : Cond.methodLink RX1 30 arraycopyName ∈ gw := gw_t1 (List.mem_of_getElem? (i := 96) (by decide +kernel)) (by decide +kernel)
theorem kw_1_98 : Cond.native arraycopyName ∈ gw := gw_t1 (List.mem_of_getElem? (i := 98) (by decide +kernel)) (by decide +kernel)
theorem kw_1_97 : Cond.static arraycopyName ∈ gw := gw_t1 (List.mem_of_getElem? (i := 97) (by decide +kernel)) (by decide +kernel)
theorem kw_1_5 : Cond.initialized RJ10 ∈ gw := gw_t1 (List.mem_of_getElem? (i := 5) (by decide +kernel)) (by decide +kernel)
theorem dX1_forget_13 : decode cX1_forget 13 = .ok (.invokestatic 30, 3) := by decide +kernel
theorem dX1_forget_16 : decode cX1_forget 16 = .ok (.aload_n 0, 1) := by decide +kernel
theorem dX1_forget_17 : decode cX1_forget 17 = .ok (.iconst 0, 1) := by decide +kernel
theorem kw_1_106 : Cond.fieldLink RX1 36 "IceFair$Customs" "stairCount" "I" ∈ gw := gw_t1 (List.mem_of_getElem? (i := 106) (by decide +kernel)) (by decide +kernel)
theorem dX1_forget_18 : decode cX1_forget 18 = .ok (.putfield 36, 3) := by decide +kernel
theorem dX1_forget_21 : decode cX1_forget 21 = .ok (.aload_n 0, 1) := by decide +kernel
theorem dX1_forget_22 : decode cX1_forget 22 = .ok (.iconst 0, 1) := by decide +kernel
theorem kw_1_110 : Cond.fieldLink RX1 40 "IceFair$Customs" "told" "I" ∈ gw := gw_t1 (List.mem_of_getElem? (i := 110) (by decide +kernel)) (by decide +kernel)
theorem dX1_forget_23 : decode cX1_forget 23 = .ok (.putfield 40, 3) := by decide +kernel
theorem dX1_forget_26 : decode cX1_forget 26 = .ok (.return_, 1) := by decide +kernel
set_option maxHeartbeats 4000000 in
set_option maxRecDepth 100000 in
theorem c_Customs_forget (l : Launch) (D : va_G) (us : Nat) (h0 : Nat) (q1 : Nat) (q2 : Nat) (q3 : Nat) (q4 : Nat) (cy1 : ClassId) (cy2 : ClassId) (cy3 : ClassId) (cy4 : ClassId) (f1 : Nat → Int32) (f2 : Nat → Int32) (f3 : Nat → Int32) (f4 : Nat → Int32) (n1 : Int32) (n2 : Int32) : cV l yX1_forget (.code yX1_forget cX1_forget 1 none) ({ frames := 1, cells := 0, slots := 0, locals := 60 }) D [(cy1, .int), (cy2, .int), (cy3, .int), (cy4, .int)] [(h0, .inr (1, [.ref q1, .ref q2, .ref q3, .ref q4, .int n1, .int n2])), (q1, .inl (cy1, 8, .inl f1)), (q2, .inl (cy2, 4, .inl f2)), (q3, .inl (cy3, 4, .inl f3)), (q4, .inl (cy4, 4, .inl f4))] (xU us) [.ref h0] (S := Unit) (fun _ => True) (fun _ => []) (fun _ => [(h0, .inr (1, [.ref q1, .ref q2, .ref q3, .ref q4, .int 0, .int 0])), (q1, .inl (cy1, 8, .inl uF)), (q2, .inl (cy2, 4, .inl f2)), (q3, .inl (cy3, 4, .inl f3)), (q4, .inl (cy4, 4, .inl f4))]) := by
  intro sz
  refine Met.ofW (cc := cX1_forget) (maxL := 1) (ret := none) (by decide) rfl ?_
  intro p e s m args below meth c s₁ B hml hv
  obtain ⟨rfl, hsz, hP, hK, hD0, hX⟩ := hv
  have hx := B.exec
  have hb := B.bytes
  have hr := B.returns
  have hts0 := atoms_spec (ws := .code yX1_forget cX1_forget 1 none :: gw) B.pre
  have hts := fun (w : Cond) (h : w ∈ gw) => hts0 w (List.mem_cons_of_mem _ h)
  have hown : s.vm.findClass RX1 = some m.cls := findClass_of_methodNamed B.named
  have hlocks := B.notSynchronized
  have F : mFix p s m _ c cX1_forget 1 RX1 := ⟨hx, hb, hml, hown, hts⟩
  subst hsz
  have hD := hD0.self (sz := s.heap.size)
  generalize hAe : va_A [(h0, .inr (1, [.ref q1, .ref q2, .ref q3, .ref q4, .int n1, .int n2])), (q1, .inl (cy1, 8, .inl f1)), (q2, .inl (cy2, 4, .inl f2)), (q3, .inl (cy3, 4, .inl f3)), (q4, .inl (cy4, 4, .inl f4))] s.heap.size = A at hD hX ⊢
  have hA : ∀ q : Nat, s.heap.size ≤ q → A q := fun q h => by rw [← hAe]; exact Or.inr h
  have hS : va_S A s.heap s.heap [] := va_S.rf
  have hl := lv_entry ([.ref h0]) (n := 1) (Nat.le_of_ble_eq_true rfl)
  rw [lg_entry_eq]
  generalize (lg_sl ([.ref h0]) ++ List.replicate (1 - (lg_sl ([.ref h0])).length) Slot.unset).toArray = ls at hl ⊢
  have hl : lv_has ls 1 [(0, .ref h0)] := hl
  have hP : va_P D vwCl [(h0, .inr (1, [.ref q1, .ref q2, .ref q3, .ref q4, .int n1, .int n2])), (q1, .inl (cy1, 8, .inl f1)), (q2, .inl (cy2, 4, .inl f2)), (q3, .inl (cy3, 4, .inl f3)), (q4, .inl (cy4, 4, .inl f4))] s.heap := hP
  refine va_gets hx hb hX.1 hS hown (hts _ kw_1_90) (fun _ h9 => h9) dX1_forget_0 ?_
  refine lv_iconst (v := 0) hx hb dX1_forget_3 (by decide) ?_
  refine lv_aload_n hx hb dX1_forget_4 rfl (lv_at hl 0 rfl) ?_
  refine va_get (D := D) (ci := 1) (v := .ref q1) (C := RX1) (T := TX1) (N := 6) hx hb hts inG_X1 hown hK hP 0 rfl rfl 0 (by decide) (hts _ kw_1_99) (fun _ h9 => h9) rfl dX1_forget_5 ?_
  refine lv_iconst (v := 0) hx hb dX1_forget_8 (by decide) ?_
  refine va_gets hx hb hX.1 hS hown (hts _ kw_1_90) (fun _ h9 => h9) dX1_forget_9 ?_
  refine va_slen hx hb hX.2.1 hX.2.2.1 hX.2.2.2 hS dX1_forget_12 ?_
  refine lv_topi (fun z_1 ez_1 => ?_)
  obtain rfl : z_1 = (8 : Int32) := ez_1.trans (by decide)
  refine va_copyx hx hb (by rw [hml]; exact hl.1.symm) hown (hts _ kw_1_96) (hts _ kw_1_98) (hts _ kw_1_97) (hts _ kw_1_5) hK hP hD hS hX.2.1 hX.2.2.1 hX.2.2.2 1 0 rfl rfl (by decide) (by decide) (by decide) (by decide) (by decide) (Nat.le_of_ble_eq_true rfl) (Nat.le_of_ble_eq_true rfl) dX1_forget_13 (fun H locs hP hD hS => ?_)
  have hP : va_P D vwCl [(h0, .inr (1, [.ref q1, .ref q2, .ref q3, .ref q4, .int n1, .int n2])), (q1, .inl (cy1, 8, .inl (va_cpy uF f1 0 0 8))), (q2, .inl (cy2, 4, .inl f2)), (q3, .inl (cy3, 4, .inl f3)), (q4, .inl (cy4, 4, .inl f4))] H := hP
  have hD : va_D A [(h0, .inr (1, [.ref q1, .ref q2, .ref q3, .ref q4, .int n1, .int n2])), (q1, .inl (cy1, 8, .inl (va_cpy uF f1 0 0 8))), (q2, .inl (cy2, 4, .inl f2)), (q3, .inl (cy3, 4, .inl f3)), (q4, .inl (cy4, 4, .inl f4))] := hD
  have hP := va_P_arr hP 1 uF rfl (fun j hj => sb_cpy0 hj)
  have hP : va_P D vwCl [(h0, .inr (1, [.ref q1, .ref q2, .ref q3, .ref q4, .int n1, .int n2])), (q1, .inl (cy1, 8, .inl uF)), (q2, .inl (cy2, 4, .inl f2)), (q3, .inl (cy3, 4, .inl f3)), (q4, .inl (cy4, 4, .inl f4))] H := hP
  have hD : va_D A [(h0, .inr (1, [.ref q1, .ref q2, .ref q3, .ref q4, .int n1, .int n2])), (q1, .inl (cy1, 8, .inl uF)), (q2, .inl (cy2, 4, .inl f2)), (q3, .inl (cy3, 4, .inl f3)), (q4, .inl (cy4, 4, .inl f4))] := va_D_same hD rfl
  refine lv_aload_n hx hb dX1_forget_16 rfl (lv_at hl 0 rfl) ?_
  refine lv_iconst (v := 0) hx hb dX1_forget_17 (by decide) ?_
  refine va_put (D := D) (ci := 1) (v := .int 0) (ty := .int) (C := RX1) (T := TX1) (N := 6) hx hb hts inG_X1 tyX1 tyX1_ok nmX1 hown hK hP hD hS 0 rfl rfl 4 (by decide) (hts _ kw_1_106) (fun _ h9 => h9) rfl (by decide +kernel) rfl rfl (Nat.le_of_ble_eq_true rfl) dX1_forget_18 (fun H locs hP hD hS => ?_)
  have hP : va_P D vwCl [(h0, .inr (1, [.ref q1, .ref q2, .ref q3, .ref q4, .int 0, .int n2])), (q1, .inl (cy1, 8, .inl uF)), (q2, .inl (cy2, 4, .inl f2)), (q3, .inl (cy3, 4, .inl f3)), (q4, .inl (cy4, 4, .inl f4))] H := hP
  have hD : va_D A [(h0, .inr (1, [.ref q1, .ref q2, .ref q3, .ref q4, .int 0, .int n2])), (q1, .inl (cy1, 8, .inl uF)), (q2, .inl (cy2, 4, .inl f2)), (q3, .inl (cy3, 4, .inl f3)), (q4, .inl (cy4, 4, .inl f4))] := hD
  refine lv_aload_n hx hb dX1_forget_21 rfl (lv_at hl 0 rfl) ?_
  refine lv_iconst (v := 0) hx hb dX1_forget_22 (by decide) ?_
  refine va_put (D := D) (ci := 1) (v := .int 0) (ty := .int) (C := RX1) (T := TX1) (N := 6) hx hb hts inG_X1 tyX1 tyX1_ok nmX1 hown hK hP hD hS 0 rfl rfl 5 (by decide) (hts _ kw_1_110) (fun _ h9 => h9) rfl (by decide +kernel) rfl rfl (Nat.le_of_ble_eq_true rfl) dX1_forget_23 (fun H locs hP hD hS => ?_)
  have hP : va_P D vwCl [(h0, .inr (1, [.ref q1, .ref q2, .ref q3, .ref q4, .int 0, .int 0])), (q1, .inl (cy1, 8, .inl uF)), (q2, .inl (cy2, 4, .inl f2)), (q3, .inl (cy3, 4, .inl f3)), (q4, .inl (cy4, 4, .inl f4))] H := hP
  have hD : va_D A [(h0, .inr (1, [.ref q1, .ref q2, .ref q3, .ref q4, .int 0, .int 0])), (q1, .inl (cy1, 8, .inl uF)), (q2, .inl (cy2, 4, .inl f2)), (q3, .inl (cy3, 4, .inl f3)), (q4, .inl (cy4, 4, .inl f4))] := hD
  have hP9 := hP.sub (ws' := [(h0, .inr (1, [.ref q1, .ref q2, .ref q3, .ref q4, .int 0, .int 0])), (q1, .inl (cy1, 8, .inl uF)), (q2, .inl (cy2, 4, .inl f2)), (q3, .inl (cy3, 4, .inl f3)), (q4, .inl (cy4, 4, .inl f4))]) [0, 1, 2, 3, 4] rfl
  have hD9 := hD.sub (ws' := [(h0, .inr (1, [.ref q1, .ref q2, .ref q3, .ref q4, .int 0, .int 0])), (q1, .inl (cy1, 8, .inl uF)), (q2, .inl (cy2, 4, .inl f2)), (q3, .inl (cy3, 4, .inl f3)), (q4, .inl (cy4, 4, .inl f4))]) [0, 1, 2, 3, 4] (by decide) rfl
  have hK9 := hK.sub (tys' := []) [] rfl
  refine W.widen (k := 0) (n := 0) (by decide) (by decide) ?_
  exact W.vret hx hb hr (fun t ht hW => ⟨⟨(), rfl, trivial, by rw [ht]; exact hP9, va_K.moved hW.alike hK9, hD9⟩, hS.F ht⟩) hS.2.2 dX1_forget_26
theorem dX1_init_0 : decode cX1_init 0 = .ok (.aload_n 0, 1) := by decide +kernel
theorem kw_1_89 : Cond.methodLink RX1 3 Lib.objectInit ∈ gw := gw_t1 (List.mem_of_getElem? (i := 89) (by decide +kernel)) (by decide +kernel)
theorem dX1_init_1 : decode cX1_init 1 = .ok (.invokespecial 3, 3) := by decide +kernel
theorem dX1_init_4 : decode cX1_init 4 = .ok (.aload_n 0, 1) := by decide +kernel
theorem dX1_init_5 : decode cX1_init 5 = .ok (.getstatic 9, 3) := by decide +kernel
theorem dX1_init_8 : decode cX1_init 8 = .ok (.arraylength, 1) := by decide +kernel
theorem dX1_init_9 : decode cX1_init 9 = .ok (.newarray .int, 2) := by decide +kernel
theorem dX1_init_11 : decode cX1_init 11 = .ok (.putfield 15, 3) := by decide +kernel
theorem dX1_init_14 : decode cX1_init 14 = .ok (.aload_n 0, 1) := by decide +kernel
theorem dX1_init_15 : decode cX1_init 15 = .ok (.iconst 4, 1) := by decide +kernel
theorem dX1_init_16 : decode cX1_init 16 = .ok (.newarray .int, 2) := by decide +kernel
theorem kw_1_100 : Cond.fieldLink RX1 18 "IceFair$Customs" "stairX" "[I" ∈ gw := gw_t1 (List.mem_of_getElem? (i := 100) (by decide +kernel)) (by decide +kernel)
theorem dX1_init_18 : decode cX1_init 18 = .ok (.putfield 18, 3) := by decide +kernel
theorem dX1_init_21 : decode cX1_init 21 = .ok (.aload_n 0, 1) := by decide +kernel
theorem dX1_init_22 : decode cX1_init 22 = .ok (.iconst 4, 1) := by decide +kernel
theorem dX1_init_23 : decode cX1_init 23 = .ok (.newarray .int, 2) := by decide +kernel
theorem kw_1_102 : Cond.fieldLink RX1 21 "IceFair$Customs" "stairY" "[I" ∈ gw := gw_t1 (List.mem_of_getElem? (i := 102) (by decide +kernel)) (by decide +kernel)
theorem dX1_init_25 : decode cX1_init 25 = .ok (.putfield 21, 3) := by decide +kernel
theorem dX1_init_28 : decode cX1_init 28 = .ok (.aload_n 0, 1) := by decide +kernel
theorem dX1_init_29 : decode cX1_init 29 = .ok (.iconst 4, 1) := by decide +kernel
theorem dX1_init_30 : decode cX1_init 30 = .ok (.newarray .int, 2) := by decide +kernel
theorem kw_1_104 : Cond.fieldLink RX1 24 "IceFair$Customs" "stairMen" "[I" ∈ gw := gw_t1 (List.mem_of_getElem? (i := 104) (by decide +kernel)) (by decide +kernel)
theorem dX1_init_32 : decode cX1_init 32 = .ok (.putfield 24, 3) := by decide +kernel
theorem dX1_init_35 : decode cX1_init 35 = .ok (.aload_n 0, 1) := by decide +kernel
theorem kw_1_92 : Cond.methodLink RX1 27 yX1_forget ∈ gw := gw_t1 (List.mem_of_getElem? (i := 92) (by decide +kernel)) (by decide +kernel)
theorem kw_1_93 : Cond.instanceMethod yX1_forget ∈ gw := gw_t1 (List.mem_of_getElem? (i := 93) (by decide +kernel)) (by decide +kernel)
theorem kw_1_94 : Cond.selects RX1 yX1_forget yX1_forget ∈ gw := gw_t1 (List.mem_of_getElem? (i := 94) (by decide +kernel)) (by decide +kernel)
theorem kw_1_4 : Cond.initialized RX1 ∈ gw := gw_t1 (List.mem_of_getElem? (i := 4) (by decide +kernel)) (by decide +kernel)
theorem kw_1_95 : Cond.code yX1_forget cX1_forget 1 none ∈ gw := gw_t1 (List.mem_of_getElem? (i := 95) (by decide +kernel)) (by decide +kernel)
theorem gk_X1_27 : GoodIn gw (wsV RX1 27 RX1 yX1_forget (.code yX1_forget cX1_forget 1 none :: gw)) ∧ (yX1_forget.cls = RX1 ∧ yX1_forget.cls ≠ "java/lang/invoke/MethodHandle" ∧ yX1_forget.cls ≠ "java/lang/invoke/VarHandle" ∧ (parseMethodDescriptor yX1_forget.desc).map (fun d => d.parameters.length) = some 0) := ⟨gi_V kw_1_92 kw_1_93 kw_1_94 kw_1_4 kw_1_95, by decide +kernel⟩
theorem dX1_init_36 : decode cX1_init 36 = .ok (.invokevirtual 27, 3) := by decide +kernel
theorem dX1_init_39 : decode cX1_init 39 = .ok (.return_, 1) := by decide +kernel
set_option maxHeartbeats 4000000 in
set_option maxRecDepth 100000 in
theorem c_Customs_init (l : Launch) (D : va_G) (us : Nat) (h0 : Nat) : cV l yX1_init (.code yX1_init cX1_init 1 none) ({ frames := 2, cells := 4, slots := 20, locals := 80 }) D [] [(h0, .inr (1, [.null, .null, .null, .null, .int 0, .int 0]))] (xU us) [.ref h0] (S := Nat × Nat × Nat × Nat × ClassId × ClassId × ClassId × ClassId) (fun u => match u with | (q1, q2, q3, q4, cy1, cy2, cy3, cy4) => True) (fun u => match u with | (q1, q2, q3, q4, cy1, cy2, cy3, cy4) => [(cy1, .int), (cy2, .int), (cy3, .int), (cy4, .int)]) (fun u => match u with | (q1, q2, q3, q4, cy1, cy2, cy3, cy4) => [(h0, .inr (1, [.ref q1, .ref q2, .ref q3, .ref q4, .int 0, .int 0])), (q1, .inl (cy1, 8, .inl uF)), (q2, .inl (cy2, 4, .inl (fun _ => 0))), (q3, .inl (cy3, 4, .inl (fun _ => 0))), (q4, .inl (cy4, 4, .inl (fun _ => 0)))]) := by
  intro sz
  refine Met.ofW (cc := cX1_init) (maxL := 1) (ret := none) (by decide) rfl ?_
  intro p e s m args below meth c s₁ B hml hv
  obtain ⟨rfl, hsz, hP, hK, hD0, hX⟩ := hv
  have hx := B.exec
  have hb := B.bytes
  have hr := B.returns
  have hts0 := atoms_spec (ws := .code yX1_init cX1_init 1 none :: gw) B.pre
  have hts := fun (w : Cond) (h : w ∈ gw) => hts0 w (List.mem_cons_of_mem _ h)
  have hown : s.vm.findClass RX1 = some m.cls := findClass_of_methodNamed B.named
  have hlocks := B.notSynchronized
  have hin : meth.name = "<init>" := (name_of_methodNamed B.named B.method).1
  have F : mFix p s m _ c cX1_init 1 RX1 := ⟨hx, hb, hml, hown, hts⟩
  subst hsz
  have hD := hD0.self (sz := s.heap.size)
  generalize hAe : va_A [(h0, .inr (1, [.null, .null, .null, .null, .int 0, .int 0]))] s.heap.size = A at hD hX ⊢
  have hA : ∀ q : Nat, s.heap.size ≤ q → A q := fun q h => by rw [← hAe]; exact Or.inr h
  have hS : va_S A s.heap s.heap [] := va_S.rf
  have hl := lv_entry ([.ref h0]) (n := 1) (Nat.le_of_ble_eq_true rfl)
  rw [lg_entry_eq]
  generalize (lg_sl ([.ref h0]) ++ List.replicate (1 - (lg_sl ([.ref h0])).length) Slot.unset).toArray = ls at hl ⊢
  have hl : lv_has ls 1 [(0, .ref h0)] := hl
  have hP : va_P D vwCl [(h0, .inr (1, [.null, .null, .null, .null, .int 0, .int 0]))] s.heap := hP
  refine lv_aload_n hx hb dX1_init_0 rfl (lv_at hl 0 rfl) ?_
  refine W.objInit hx hb hown (hts _ kw_1_89) (hts _ kw_1_30) (hts _ kw_1_31) rfl (by rw [hml]; exact hl.1) rfl dX1_init_1 (Nat.le_of_ble_eq_true rfl) (Nat.le_of_ble_eq_true rfl) ?_
  refine W.eq (g2 := F0 m 4 ls []) rfl ?_
  refine lv_aload_n hx hb dX1_init_4 rfl (lv_at hl 0 rfl) ?_
  refine va_gets hx hb hX.1 hS hown (hts _ kw_1_90) (fun _ h9 => h9) dX1_init_5 ?_
  refine va_slen hx hb hX.2.1 hX.2.2.1 hX.2.2.2 hS dX1_init_8 ?_
  refine lv_topi (fun z_1 ez_1 => ?_)
  obtain rfl : z_1 = (8 : Int32) := ez_1.trans (by decide)
  refine va_newa (atype := .int) (a0 := (8, .inl (fun _ => 0))) (N' := 8) hx hb (hts _ kw_1_47) (ty := .int) rfl hK hP hD hS hA (fun _ => rfl) (by decide) (by decide) (by decide) (Nat.le_of_ble_eq_true rfl) (Nat.le_of_ble_eq_true rfl) dX1_init_9 (fun q_2 cy_3 H hK hP hD hS => ?_)
  have hK : va_K D vwCl [(cy_3, .int)] s := hK
  have hP : va_P D vwCl [(h0, .inr (1, [.null, .null, .null, .null, .int 0, .int 0])), (q_2, .inl (cy_3, 8, .inl (fun _ => 0)))] H := hP
  have hD : va_D A [(h0, .inr (1, [.null, .null, .null, .null, .int 0, .int 0])), (q_2, .inl (cy_3, 8, .inl (fun _ => 0)))] := hD
  refine W.widen (k := 1) (n := 8) (by decide) (by decide) ?_
  refine va_putF (D := D) (ci := 1) (v := .ref q_2) (ty := .array .int) (C := RX1) (T := TX1) (N := 6) hx hb hts inG_X1 tyX1 tyX1_ok nmX1 hown hK hP hD hS 0 rfl rfl 0 (by decide) (hts _ kw_1_99) (fun _ h9 => h9) rfl hin rfl (by decide +kernel) rfl rfl (Nat.le_of_ble_eq_true rfl) dX1_init_11 (fun H locs hP hD hS => ?_)
  have hP : va_P D vwCl [(h0, .inr (1, [.ref q_2, .null, .null, .null, .int 0, .int 0])), (q_2, .inl (cy_3, 8, .inl (fun _ => 0)))] H := hP
  have hD : va_D A [(h0, .inr (1, [.ref q_2, .null, .null, .null, .int 0, .int 0])), (q_2, .inl (cy_3, 8, .inl (fun _ => 0)))] := hD
  refine lv_aload_n hx hb dX1_init_14 rfl (lv_at hl 0 rfl) ?_
  refine lv_iconst (v := 4) hx hb dX1_init_15 (by decide) ?_
  refine va_newa (atype := .int) (a0 := (4, .inl (fun _ => 0))) (N' := 4) hx hb (hts _ kw_1_47) (ty := .int) rfl hK hP hD hS hA (fun _ => rfl) (by decide) (by decide) (by decide) (Nat.le_of_ble_eq_true rfl) (Nat.le_of_ble_eq_true rfl) dX1_init_16 (fun q_4 cy_5 H hK hP hD hS => ?_)
  have hK : va_K D vwCl [(cy_3, .int), (cy_5, .int)] s := hK
  have hP : va_P D vwCl [(h0, .inr (1, [.ref q_2, .null, .null, .null, .int 0, .int 0])), (q_2, .inl (cy_3, 8, .inl (fun _ => 0))), (q_4, .inl (cy_5, 4, .inl (fun _ => 0)))] H := hP
  have hD : va_D A [(h0, .inr (1, [.ref q_2, .null, .null, .null, .int 0, .int 0])), (q_2, .inl (cy_3, 8, .inl (fun _ => 0))), (q_4, .inl (cy_5, 4, .inl (fun _ => 0)))] := hD
  refine W.widen (k := 2) (n := 12) (by decide) (by decide) ?_
  refine va_putF (D := D) (ci := 1) (v := .ref q_4) (ty := .array .int) (C := RX1) (T := TX1) (N := 6) hx hb hts inG_X1 tyX1 tyX1_ok nmX1 hown hK hP hD hS 0 rfl rfl 1 (by decide) (hts _ kw_1_100) (fun _ h9 => h9) rfl hin rfl (by decide +kernel) rfl rfl (Nat.le_of_ble_eq_true rfl) dX1_init_18 (fun H locs hP hD hS => ?_)
  have hP : va_P D vwCl [(h0, .inr (1, [.ref q_2, .ref q_4, .null, .null, .int 0, .int 0])), (q_2, .inl (cy_3, 8, .inl (fun _ => 0))), (q_4, .inl (cy_5, 4, .inl (fun _ => 0)))] H := hP
  have hD : va_D A [(h0, .inr (1, [.ref q_2, .ref q_4, .null, .null, .int 0, .int 0])), (q_2, .inl (cy_3, 8, .inl (fun _ => 0))), (q_4, .inl (cy_5, 4, .inl (fun _ => 0)))] := hD
  refine lv_aload_n hx hb dX1_init_21 rfl (lv_at hl 0 rfl) ?_
  refine lv_iconst (v := 4) hx hb dX1_init_22 (by decide) ?_
  refine va_newa (atype := .int) (a0 := (4, .inl (fun _ => 0))) (N' := 4) hx hb (hts _ kw_1_47) (ty := .int) rfl hK hP hD hS hA (fun _ => rfl) (by decide) (by decide) (by decide) (Nat.le_of_ble_eq_true rfl) (Nat.le_of_ble_eq_true rfl) dX1_init_23 (fun q_6 cy_7 H hK hP hD hS => ?_)
  have hK : va_K D vwCl [(cy_3, .int), (cy_5, .int), (cy_7, .int)] s := hK
  have hP : va_P D vwCl [(h0, .inr (1, [.ref q_2, .ref q_4, .null, .null, .int 0, .int 0])), (q_2, .inl (cy_3, 8, .inl (fun _ => 0))), (q_4, .inl (cy_5, 4, .inl (fun _ => 0))), (q_6, .inl (cy_7, 4, .inl (fun _ => 0)))] H := hP
  have hD : va_D A [(h0, .inr (1, [.ref q_2, .ref q_4, .null, .null, .int 0, .int 0])), (q_2, .inl (cy_3, 8, .inl (fun _ => 0))), (q_4, .inl (cy_5, 4, .inl (fun _ => 0))), (q_6, .inl (cy_7, 4, .inl (fun _ => 0)))] := hD
  refine W.widen (k := 3) (n := 16) (by decide) (by decide) ?_
  refine va_putF (D := D) (ci := 1) (v := .ref q_6) (ty := .array .int) (C := RX1) (T := TX1) (N := 6) hx hb hts inG_X1 tyX1 tyX1_ok nmX1 hown hK hP hD hS 0 rfl rfl 2 (by decide) (hts _ kw_1_102) (fun _ h9 => h9) rfl hin rfl (by decide +kernel) rfl rfl (Nat.le_of_ble_eq_true rfl) dX1_init_25 (fun H locs hP hD hS => ?_)
  have hP : va_P D vwCl [(h0, .inr (1, [.ref q_2, .ref q_4, .ref q_6, .null, .int 0, .int 0])), (q_2, .inl (cy_3, 8, .inl (fun _ => 0))), (q_4, .inl (cy_5, 4, .inl (fun _ => 0))), (q_6, .inl (cy_7, 4, .inl (fun _ => 0)))] H := hP
  have hD : va_D A [(h0, .inr (1, [.ref q_2, .ref q_4, .ref q_6, .null, .int 0, .int 0])), (q_2, .inl (cy_3, 8, .inl (fun _ => 0))), (q_4, .inl (cy_5, 4, .inl (fun _ => 0))), (q_6, .inl (cy_7, 4, .inl (fun _ => 0)))] := hD
  refine lv_aload_n hx hb dX1_init_28 rfl (lv_at hl 0 rfl) ?_
  refine lv_iconst (v := 4) hx hb dX1_init_29 (by decide) ?_
  refine va_newa (atype := .int) (a0 := (4, .inl (fun _ => 0))) (N' := 4) hx hb (hts _ kw_1_47) (ty := .int) rfl hK hP hD hS hA (fun _ => rfl) (by decide) (by decide) (by decide) (Nat.le_of_ble_eq_true rfl) (Nat.le_of_ble_eq_true rfl) dX1_init_30 (fun q_8 cy_9 H hK hP hD hS => ?_)
  have hK : va_K D vwCl [(cy_3, .int), (cy_5, .int), (cy_7, .int), (cy_9, .int)] s := hK
  have hP : va_P D vwCl [(h0, .inr (1, [.ref q_2, .ref q_4, .ref q_6, .null, .int 0, .int 0])), (q_2, .inl (cy_3, 8, .inl (fun _ => 0))), (q_4, .inl (cy_5, 4, .inl (fun _ => 0))), (q_6, .inl (cy_7, 4, .inl (fun _ => 0))), (q_8, .inl (cy_9, 4, .inl (fun _ => 0)))] H := hP
  have hD : va_D A [(h0, .inr (1, [.ref q_2, .ref q_4, .ref q_6, .null, .int 0, .int 0])), (q_2, .inl (cy_3, 8, .inl (fun _ => 0))), (q_4, .inl (cy_5, 4, .inl (fun _ => 0))), (q_6, .inl (cy_7, 4, .inl (fun _ => 0))), (q_8, .inl (cy_9, 4, .inl (fun _ => 0)))] := hD
  refine W.widen (k := 4) (n := 20) (by decide) (by decide) ?_
  refine va_putF (D := D) (ci := 1) (v := .ref q_8) (ty := .array .int) (C := RX1) (T := TX1) (N := 6) hx hb hts inG_X1 tyX1 tyX1_ok nmX1 hown hK hP hD hS 0 rfl rfl 3 (by decide) (hts _ kw_1_104) (fun _ h9 => h9) rfl hin rfl (by decide +kernel) rfl rfl (Nat.le_of_ble_eq_true rfl) dX1_init_32 (fun H locs hP hD hS => ?_)
  have hP : va_P D vwCl [(h0, .inr (1, [.ref q_2, .ref q_4, .ref q_6, .ref q_8, .int 0, .int 0])), (q_2, .inl (cy_3, 8, .inl (fun _ => 0))), (q_4, .inl (cy_5, 4, .inl (fun _ => 0))), (q_6, .inl (cy_7, 4, .inl (fun _ => 0))), (q_8, .inl (cy_9, 4, .inl (fun _ => 0)))] H := hP
  have hD : va_D A [(h0, .inr (1, [.ref q_2, .ref q_4, .ref q_6, .ref q_8, .int 0, .int 0])), (q_2, .inl (cy_3, 8, .inl (fun _ => 0))), (q_4, .inl (cy_5, 4, .inl (fun _ => 0))), (q_6, .inl (cy_7, 4, .inl (fun _ => 0))), (q_8, .inl (cy_9, 4, .inl (fun _ => 0)))] := hD
  refine lv_aload_n hx hb dX1_init_35 rfl (lv_at hl 0 rfl) ?_
  refine mc_Vv (rest := []) (wr := []) F hK hP hD hS hA (c_Customs_forget l D us h0 q_2 q_4 q_6 q_8 cy_3 cy_5 cy_7 cy_9 (fun _ => 0) (fun _ => 0) (fun _ => 0) (fun _ => 0) 0 0 ) ⟨gk_X1_27.1, gk_X1_27.2, Nat.le_of_ble_eq_true rfl, Nat.le_of_ble_eq_true rfl⟩ [0, 1, 2, 3, 4] [] [0, 1, 2, 3] ⟨rfl, rfl, rfl, rfl, by decide⟩ rfl (xU_move us) (xU_use hX hS (va_free hD hS hA [0, 1, 2, 3, 4] rfl)) 0 rfl rfl rfl hl.1 rfl (Nat.le_of_ble_eq_true rfl) dX1_init_36 ⟨Nat.le_of_ble_eq_true rfl, Nat.le_of_ble_eq_true rfl⟩ (fun _ H locs hw hK1 hP hD hS => ?_)
  have hP : va_P D vwCl [(h0, .inr (1, [.ref q_2, .ref q_4, .ref q_6, .ref q_8, .int 0, .int 0])), (q_2, .inl (cy_3, 8, .inl uF)), (q_4, .inl (cy_5, 4, .inl ((fun _ => 0)))), (q_6, .inl (cy_7, 4, .inl ((fun _ => 0)))), (q_8, .inl (cy_9, 4, .inl ((fun _ => 0))))] H := hP
  have hD : va_D A [(h0, .inr (1, [.ref q_2, .ref q_4, .ref q_6, .ref q_8, .int 0, .int 0])), (q_2, .inl (cy_3, 8, .inl uF)), (q_4, .inl (cy_5, 4, .inl ((fun _ => 0)))), (q_6, .inl (cy_7, 4, .inl ((fun _ => 0)))), (q_8, .inl (cy_9, 4, .inl ((fun _ => 0))))] := hD
  have hP9 := hP.sub (ws' := [(h0, .inr (1, [.ref q_2, .ref q_4, .ref q_6, .ref q_8, .int 0, .int 0])), (q_2, .inl (cy_3, 8, .inl uF)), (q_4, .inl (cy_5, 4, .inl (fun _ => 0))), (q_6, .inl (cy_7, 4, .inl (fun _ => 0))), (q_8, .inl (cy_9, 4, .inl (fun _ => 0)))]) [0, 1, 2, 3, 4] rfl
  have hD9 := hD.sub (ws' := [(h0, .inr (1, [.ref q_2, .ref q_4, .ref q_6, .ref q_8, .int 0, .int 0])), (q_2, .inl (cy_3, 8, .inl uF)), (q_4, .inl (cy_5, 4, .inl (fun _ => 0))), (q_6, .inl (cy_7, 4, .inl (fun _ => 0))), (q_8, .inl (cy_9, 4, .inl (fun _ => 0)))]) [0, 1, 2, 3, 4] (by decide) rfl
  have hK9 := hK.sub (tys' := [(cy_3, .int), (cy_5, .int), (cy_7, .int), (cy_9, .int)]) [0, 1, 2, 3] rfl
  refine W.widen (k := 4) (n := 20) (by decide) (by decide) ?_
  exact W.vret hx hb hr (fun t ht hW => ⟨⟨(q_2, q_4, q_6, q_8, cy_3, cy_5, cy_7, cy_9), rfl, trivial, by rw [ht]; exact hP9, va_K.moved hW.alike hK9, hD9⟩, hS.F ht⟩) hS.2.2 dX1_init_39
end
section
theorem dX6_renew_12 : decode cX6_renew 12 = .ok (.iload_n 3, 1) := by decide +kernel
theorem dX6_renew_13 : decode cX6_renew 13 = .ok (.bipush 100, 2) := by decide +kernel
theorem dX6_renew_15 : decode cX6_renew 15 = .ok (.if_icmp .ge 44, 3) := by decide +kernel
theorem dX6_renew_18 : decode cX6_renew 18 = .ok (.aload_n 0, 1) := by decide +kernel
theorem inG_X6 : ∀ w ∈ u_ws RX6 TX6 8, w ∈ gw := fun w h => gw_in ((by decide +kernel : ∀ w ∈ u_ws RX6 TX6 8, w ∈ lw_tbl) w h) ((by decide +kernel : ∀ w ∈ u_ws RX6 TX6 8, goodWord w = true) w h)
theorem kw_1_148 : Cond.fieldLink RX6 9 "IceFair$River" "low" "[I" ∈ gw := gw_t1 (List.mem_of_getElem? (i := 148) (by decide +kernel)) (by decide +kernel)
theorem dX6_renew_19 : decode cX6_renew 19 = .ok (.getfield 9, 3) := by decide +kernel
theorem dX6_renew_22 : decode cX6_renew 22 = .ok (.iload_n 3, 1) := by decide +kernel
theorem dX6_renew_23 : decode cX6_renew 23 = .ok (.iconst 0, 1) := by decide +kernel
theorem dX6_renew_24 : decode cX6_renew 24 = .ok (.iastore, 1) := by decide +kernel
theorem dX6_renew_25 : decode cX6_renew 25 = .ok (.aload_n 0, 1) := by decide +kernel
theorem kw_1_150 : Cond.fieldLink RX6 15 "IceFair$River" "high" "[I" ∈ gw := gw_t1 (List.mem_of_getElem? (i := 150) (by decide +kernel)) (by decide +kernel)
theorem dX6_renew_26 : decode cX6_renew 26 = .ok (.getfield 15, 3) := by decide +kernel
theorem dX6_renew_29 : decode cX6_renew 29 = .ok (.iload_n 3, 1) := by decide +kernel
theorem dX6_renew_30 : decode cX6_renew 30 = .ok (.iconst 0, 1) := by decide +kernel
theorem dX6_renew_31 : decode cX6_renew 31 = .ok (.iastore, 1) := by decide +kernel
theorem dX6_renew_32 : decode cX6_renew 32 = .ok (.aload_n 0, 1) := by decide +kernel
theorem kw_1_152 : Cond.fieldLink RX6 18 "IceFair$River" "strain" "[I" ∈ gw := gw_t1 (List.mem_of_getElem? (i := 152) (by decide +kernel)) (by decide +kernel)
theorem dX6_renew_33 : decode cX6_renew 33 = .ok (.getfield 18, 3) := by decide +kernel
theorem dX6_renew_36 : decode cX6_renew 36 = .ok (.iload_n 3, 1) := by decide +kernel
theorem dX6_renew_37 : decode cX6_renew 37 = .ok (.iconst 0, 1) := by decide +kernel
theorem dX6_renew_38 : decode cX6_renew 38 = .ok (.iastore, 1) := by decide +kernel
theorem dX6_renew_39 : decode cX6_renew 39 = .ok (.aload_n 0, 1) := by decide +kernel
theorem kw_1_154 : Cond.fieldLink RX6 21 "IceFair$River" "guest" "[I" ∈ gw := gw_t1 (List.mem_of_getElem? (i := 154) (by decide +kernel)) (by decide +kernel)
theorem dX6_renew_40 : decode cX6_renew 40 = .ok (.getfield 21, 3) := by decide +kernel
theorem dX6_renew_43 : decode cX6_renew 43 = .ok (.iload_n 3, 1) := by decide +kernel
theorem dX6_renew_44 : decode cX6_renew 44 = .ok (.iconst (-1), 1) := by decide +kernel
theorem dX6_renew_45 : decode cX6_renew 45 = .ok (.iastore, 1) := by decide +kernel
theorem dX6_renew_46 : decode cX6_renew 46 = .ok (.aload_n 0, 1) := by decide +kernel
theorem kw_1_157 : Cond.fieldLink RX6 24 "IceFair$River" "cracked" "[Z" ∈ gw := gw_t1 (List.mem_of_getElem? (i := 157) (by decide +kernel)) (by decide +kernel)
theorem dX6_renew_47 : decode cX6_renew 47 = .ok (.getfield 24, 3) := by decide +kernel
theorem dX6_renew_50 : decode cX6_renew 50 = .ok (.iload_n 3, 1) := by decide +kernel
theorem dX6_renew_51 : decode cX6_renew 51 = .ok (.iconst 0, 1) := by decide +kernel
theorem dX6_renew_52 : decode cX6_renew 52 = .ok (.bastore, 1) := by decide +kernel
theorem dX6_renew_53 : decode cX6_renew 53 = .ok (.iinc 3 1, 3) := by decide +kernel
theorem dX6_renew_56 : decode cX6_renew 56 = .ok (.goto (-44), 3) := by decide +kernel
set_option maxHeartbeats 4000000 in
set_option maxRecDepth 100000 in
theorem lp_River_renew {p : Program} {l : Launch} {e : Env} {s : State} {m : MethodId} {args : Array Value} {below : List Frame} {meth : Method} {c : Code} {Q : State → Prop} {A : Nat → Prop} {D : va_G} (F : mFix p s m args c cX6_renew 4 RX6) (hA : ∀ q, s.heap.size ≤ q → A q) (h0 : Nat) (q1 : Nat) (q2 : Nat) (q3 : Nat) (q4 : Nat) (q5 : Nat) (q6 : Nat) (cy1 : ClassId) (cy2 : ClassId) (cy3 : ClassId) (cy4 : ClassId) (cy5 : ClassId) (cy6 : ClassId) (f6 : Nat → Int32) (w1 : Int32) (h1 : Int32) (hK : va_K D vwCl [(cy1, .int), (cy2, .int), (cy3, .int), (cy4, .int), (cy5, .boolean), (cy6, .boolean)] s)
    (kx_59 : ∀ (f1 : Nat → Int32) (f2 : Nat → Int32) (f3 : Nat → Int32) (f4 : Nat → Int32) (f5 : Nat → Int32), (∀ j, j < 100 → f1 j = 0) → (∀ j, j < 100 → f2 j = 0) → (∀ j, j < 100 → f3 j = 0) → (∀ j, j < 100 → f4 j = (-1)) → (∀ j, j < 100 → f5 j = 0) → ∀ (H : Heap) (locs : List Loc), va_P D vwCl [(h0, .inr (5, [.int w1, .int h1, .ref q1, .ref q2, .ref q3, .ref q4, .ref q5, .ref q6])), (q1, .inl (cy1, 100, .inl f1)), (q2, .inl (cy2, 100, .inl f2)), (q3, .inl (cy3, 100, .inl f3)), (q4, .inl (cy4, 100, .inl f4)), (q5, .inl (cy5, 100, .inl f5)), (q6, .inl (cy6, 100, .inl f6))] H → va_D A [(h0, .inr (5, [.int w1, .int h1, .ref q1, .ref q2, .ref q3, .ref q4, .ref q5, .ref q6])), (q1, .inl (cy1, 100, .inl f1)), (q2, .inl (cy2, 100, .inl f2)), (q3, .inl (cy3, 100, .inl f3)), (q4, .inl (cy4, 100, .inl f4)), (q5, .inl (cy5, 100, .inl f5)), (q6, .inl (cy6, 100, .inl f6))] → va_S A s.heap H locs → ∀ ls : Array Slot, lv_has ls 4 [] → W p l e ({ frames := 0, cells := 0, slots := 0, locals := 0 }) s m args below meth c H locs 0 0 Q (F0 m 59 ls [])) :
    ∀ n : Nat, ∀ (f1 : Nat → Int32) (f2 : Nat → Int32) (f3 : Nat → Int32) (f4 : Nat → Int32) (f5 : Nat → Int32) (i : Nat), (i ≤ 100) → (∀ j, j < i → f1 j = 0) → (∀ j, j < i → f2 j = 0) → (∀ j, j < i → f3 j = 0) → (∀ j, j < i → f4 j = (-1)) → (∀ j, j < i → f5 j = 0) → (100 - i) < n → ∀ (H : Heap) (locs : List Loc), va_P D vwCl [(h0, .inr (5, [.int w1, .int h1, .ref q1, .ref q2, .ref q3, .ref q4, .ref q5, .ref q6])), (q1, .inl (cy1, 100, .inl f1)), (q2, .inl (cy2, 100, .inl f2)), (q3, .inl (cy3, 100, .inl f3)), (q4, .inl (cy4, 100, .inl f4)), (q5, .inl (cy5, 100, .inl f5)), (q6, .inl (cy6, 100, .inl f6))] H → va_D A [(h0, .inr (5, [.int w1, .int h1, .ref q1, .ref q2, .ref q3, .ref q4, .ref q5, .ref q6])), (q1, .inl (cy1, 100, .inl f1)), (q2, .inl (cy2, 100, .inl f2)), (q3, .inl (cy3, 100, .inl f3)), (q4, .inl (cy4, 100, .inl f4)), (q5, .inl (cy5, 100, .inl f5)), (q6, .inl (cy6, 100, .inl f6))] → va_S A s.heap H locs → ∀ ls : Array Slot, lv_has ls 4 [(0, .ref h0), (3, .int (nI i))] → W p l e ({ frames := 0, cells := 0, slots := 0, locals := 0 }) s m args below meth c H locs 0 0 Q (F0 m 12 ls []) := by
  intro n
  induction n with
  | zero => intro f1 f2 f3 f4 f5 i hi v1 v2 v3 v4 v5 hn; exact absurd hn (Nat.not_lt_zero _)
  | succ n ih =>
    intro f1 f2 f3 f4 f5 i hi v1 v2 v3 v4 v5 hn H locs hP hD hS ls hl
    obtain ⟨hx, hb, hml, hown, hts⟩ := id F
    refine lv_iload_n hx hb dX6_renew_12 rfl (lv_at hl 1 rfl) ?_
    refine lv_bipush (v := 100) hx hb dX6_renew_13 (by decide) ?_
    refine lv_icmp_ge (tgt := 59) hx hb dX6_renew_15 (by decide) (fun c_1 => ?_) (fun c_1 => ?_)
    · skip
      have c_1n : 100 ≤ i := (nI_leI (by omega) (by omega)).mp c_1
      have c_1 := Int32.not_lt.mpr c_1
      exact kx_59 f1 f2 f3 f4 f5 (fun j hj => v1 j (by omega)) (fun j hj => v2 j (by omega)) (fun j hj => v3 j (by omega)) (fun j hj => v4 j (by omega)) (fun j hj => v5 j (by omega)) H locs (hP.sub [0, 1, 2, 3, 4, 5, 6] rfl) (hD.sub [0, 1, 2, 3, 4, 5, 6] (by decide) rfl) hS ls (lv_sub hl [] rfl)
    · skip
      have c_1n : i < 100 := nb_le (by omega) (by omega) c_1
      have c_1 := Int32.not_le.mp c_1
      refine lv_aload_n hx hb dX6_renew_18 rfl (lv_at hl 0 rfl) ?_
      refine va_get (D := D) (ci := 5) (v := .ref q1) (C := RX6) (T := TX6) (N := 8) hx hb hts inG_X6 hown hK hP 0 rfl rfl 2 (by decide) (hts _ kw_1_148) (fun _ h9 => h9) rfl dX6_renew_19 ?_
      refine lv_iload_n hx hb dX6_renew_22 rfl (lv_at hl 1 rfl) ?_
      refine lv_iconst (v := 0) hx hb dX6_renew_23 (by decide) ?_
      refine m_iast hx hb hK hP hD hS 1 0 rfl rfl i rfl (by omega) (by decide) dX6_renew_24 (fun g_2 H locs eg_2 hP hD hS => ?_)
      have hP : va_P D vwCl [(h0, .inr (5, [.int w1, .int h1, .ref q1, .ref q2, .ref q3, .ref q4, .ref q5, .ref q6])), (q1, .inl (cy1, 100, .inl g_2)), (q2, .inl (cy2, 100, .inl f2)), (q3, .inl (cy3, 100, .inl f3)), (q4, .inl (cy4, 100, .inl f4)), (q5, .inl (cy5, 100, .inl f5)), (q6, .inl (cy6, 100, .inl f6))] H := hP
      have hD : va_D A [(h0, .inr (5, [.int w1, .int h1, .ref q1, .ref q2, .ref q3, .ref q4, .ref q5, .ref q6])), (q1, .inl (cy1, 100, .inl g_2)), (q2, .inl (cy2, 100, .inl f2)), (q3, .inl (cy3, 100, .inl f3)), (q4, .inl (cy4, 100, .inl f4)), (q5, .inl (cy5, 100, .inl f5)), (q6, .inl (cy6, 100, .inl f6))] := hD
      refine lv_aload_n hx hb dX6_renew_25 rfl (lv_at hl 0 rfl) ?_
      refine va_get (D := D) (ci := 5) (v := .ref q2) (C := RX6) (T := TX6) (N := 8) hx hb hts inG_X6 hown hK hP 0 rfl rfl 3 (by decide) (hts _ kw_1_150) (fun _ h9 => h9) rfl dX6_renew_26 ?_
      refine lv_iload_n hx hb dX6_renew_29 rfl (lv_at hl 1 rfl) ?_
      refine lv_iconst (v := 0) hx hb dX6_renew_30 (by decide) ?_
      refine m_iast hx hb hK hP hD hS 2 1 rfl rfl i rfl (by omega) (by decide) dX6_renew_31 (fun g_3 H locs eg_3 hP hD hS => ?_)
      have hP : va_P D vwCl [(h0, .inr (5, [.int w1, .int h1, .ref q1, .ref q2, .ref q3, .ref q4, .ref q5, .ref q6])), (q1, .inl (cy1, 100, .inl g_2)), (q2, .inl (cy2, 100, .inl g_3)), (q3, .inl (cy3, 100, .inl f3)), (q4, .inl (cy4, 100, .inl f4)), (q5, .inl (cy5, 100, .inl f5)), (q6, .inl (cy6, 100, .inl f6))] H := hP
      have hD : va_D A [(h0, .inr (5, [.int w1, .int h1, .ref q1, .ref q2, .ref q3, .ref q4, .ref q5, .ref q6])), (q1, .inl (cy1, 100, .inl g_2)), (q2, .inl (cy2, 100, .inl g_3)), (q3, .inl (cy3, 100, .inl f3)), (q4, .inl (cy4, 100, .inl f4)), (q5, .inl (cy5, 100, .inl f5)), (q6, .inl (cy6, 100, .inl f6))] := hD
      refine lv_aload_n hx hb dX6_renew_32 rfl (lv_at hl 0 rfl) ?_
      refine va_get (D := D) (ci := 5) (v := .ref q3) (C := RX6) (T := TX6) (N := 8) hx hb hts inG_X6 hown hK hP 0 rfl rfl 4 (by decide) (hts _ kw_1_152) (fun _ h9 => h9) rfl dX6_renew_33 ?_
      refine lv_iload_n hx hb dX6_renew_36 rfl (lv_at hl 1 rfl) ?_
      refine lv_iconst (v := 0) hx hb dX6_renew_37 (by decide) ?_
      refine m_iast hx hb hK hP hD hS 3 2 rfl rfl i rfl (by omega) (by decide) dX6_renew_38 (fun g_4 H locs eg_4 hP hD hS => ?_)
      have hP : va_P D vwCl [(h0, .inr (5, [.int w1, .int h1, .ref q1, .ref q2, .ref q3, .ref q4, .ref q5, .ref q6])), (q1, .inl (cy1, 100, .inl g_2)), (q2, .inl (cy2, 100, .inl g_3)), (q3, .inl (cy3, 100, .inl g_4)), (q4, .inl (cy4, 100, .inl f4)), (q5, .inl (cy5, 100, .inl f5)), (q6, .inl (cy6, 100, .inl f6))] H := hP
      have hD : va_D A [(h0, .inr (5, [.int w1, .int h1, .ref q1, .ref q2, .ref q3, .ref q4, .ref q5, .ref q6])), (q1, .inl (cy1, 100, .inl g_2)), (q2, .inl (cy2, 100, .inl g_3)), (q3, .inl (cy3, 100, .inl g_4)), (q4, .inl (cy4, 100, .inl f4)), (q5, .inl (cy5, 100, .inl f5)), (q6, .inl (cy6, 100, .inl f6))] := hD
      refine lv_aload_n hx hb dX6_renew_39 rfl (lv_at hl 0 rfl) ?_
      refine va_get (D := D) (ci := 5) (v := .ref q4) (C := RX6) (T := TX6) (N := 8) hx hb hts inG_X6 hown hK hP 0 rfl rfl 5 (by decide) (hts _ kw_1_154) (fun _ h9 => h9) rfl dX6_renew_40 ?_
      refine lv_iload_n hx hb dX6_renew_43 rfl (lv_at hl 1 rfl) ?_
      refine lv_iconst (v := -1) hx hb dX6_renew_44 (by decide) ?_
      refine m_iast hx hb hK hP hD hS 4 3 rfl rfl i rfl (by omega) (by decide) dX6_renew_45 (fun g_5 H locs eg_5 hP hD hS => ?_)
      have hP : va_P D vwCl [(h0, .inr (5, [.int w1, .int h1, .ref q1, .ref q2, .ref q3, .ref q4, .ref q5, .ref q6])), (q1, .inl (cy1, 100, .inl g_2)), (q2, .inl (cy2, 100, .inl g_3)), (q3, .inl (cy3, 100, .inl g_4)), (q4, .inl (cy4, 100, .inl g_5)), (q5, .inl (cy5, 100, .inl f5)), (q6, .inl (cy6, 100, .inl f6))] H := hP
      have hD : va_D A [(h0, .inr (5, [.int w1, .int h1, .ref q1, .ref q2, .ref q3, .ref q4, .ref q5, .ref q6])), (q1, .inl (cy1, 100, .inl g_2)), (q2, .inl (cy2, 100, .inl g_3)), (q3, .inl (cy3, 100, .inl g_4)), (q4, .inl (cy4, 100, .inl g_5)), (q5, .inl (cy5, 100, .inl f5)), (q6, .inl (cy6, 100, .inl f6))] := hD
      refine lv_aload_n hx hb dX6_renew_46 rfl (lv_at hl 0 rfl) ?_
      refine va_get (D := D) (ci := 5) (v := .ref q5) (C := RX6) (T := TX6) (N := 8) hx hb hts inG_X6 hown hK hP 0 rfl rfl 6 (by decide) (hts _ kw_1_157) (fun _ h9 => h9) rfl dX6_renew_47 ?_
      refine lv_iload_n hx hb dX6_renew_50 rfl (lv_at hl 1 rfl) ?_
      refine lv_iconst (v := 0) hx hb dX6_renew_51 (by decide) ?_
      refine m_zast hx hb hK hP hD hS 5 4 rfl rfl i rfl (by omega) (by decide) dX6_renew_52 (fun g_6 H locs eg_6 hP hD hS => ?_)
      have hP : va_P D vwCl [(h0, .inr (5, [.int w1, .int h1, .ref q1, .ref q2, .ref q3, .ref q4, .ref q5, .ref q6])), (q1, .inl (cy1, 100, .inl g_2)), (q2, .inl (cy2, 100, .inl g_3)), (q3, .inl (cy3, 100, .inl g_4)), (q4, .inl (cy4, 100, .inl g_5)), (q5, .inl (cy5, 100, .inl g_6)), (q6, .inl (cy6, 100, .inl f6))] H := hP
      have hD : va_D A [(h0, .inr (5, [.int w1, .int h1, .ref q1, .ref q2, .ref q3, .ref q4, .ref q5, .ref q6])), (q1, .inl (cy1, 100, .inl g_2)), (q2, .inl (cy2, 100, .inl g_3)), (q3, .inl (cy3, 100, .inl g_4)), (q4, .inl (cy4, 100, .inl g_5)), (q5, .inl (cy5, 100, .inl g_6)), (q6, .inl (cy6, 100, .inl f6))] := hD
      refine lv_iinc (v := nI (i + 1)) (lv' := [(3, .int (nI (i + 1))), (0, .ref h0)]) hx hb dX6_renew_53 hl (k := 1) rfl (nI_add i 1) (by decide) rfl (fun ls hl => ?_)
      refine lv_goto (tgt := 12) hx hb dX6_renew_56 (by decide) ?_
      exact ih g_2 g_3 g_4 g_5 g_6 (i + 1) (by omega) (upd_all eg_2 v1) (upd_all eg_3 v2) (upd_all eg_4 v3) (upd_all eg_5 v4) (upd_all eg_6 v5) (by omega) H locs (hP.sub [0, 1, 2, 3, 4, 5, 6] rfl) (hD.sub [0, 1, 2, 3, 4, 5, 6] (by decide) rfl) hS ls (lv_sub hl [1, 0] rfl)
theorem dX6_renew_0 : decode cX6_renew 0 = .ok (.aload_n 0, 1) := by decide +kernel
theorem dX6_renew_1 : decode cX6_renew 1 = .ok (.iload_n 1, 1) := by decide +kernel
theorem kw_1_142 : Cond.fieldLink RX6 35 "IceFair$River" "width" "I" ∈ gw := gw_t1 (List.mem_of_getElem? (i := 142) (by decide +kernel)) (by decide +kernel)
theorem dX6_renew_2 : decode cX6_renew 2 = .ok (.putfield 35, 3) := by decide +kernel
theorem dX6_renew_5 : decode cX6_renew 5 = .ok (.aload_n 0, 1) := by decide +kernel
theorem dX6_renew_6 : decode cX6_renew 6 = .ok (.iload_n 2, 1) := by decide +kernel
theorem kw_1_145 : Cond.fieldLink RX6 39 "IceFair$River" "height" "I" ∈ gw := gw_t1 (List.mem_of_getElem? (i := 145) (by decide +kernel)) (by decide +kernel)
theorem dX6_renew_7 : decode cX6_renew 7 = .ok (.putfield 39, 3) := by decide +kernel
theorem dX6_renew_10 : decode cX6_renew 10 = .ok (.iconst 0, 1) := by decide +kernel
theorem dX6_renew_11 : decode cX6_renew 11 = .ok (.istore_n 3, 1) := by decide +kernel
theorem dX6_renew_59 : decode cX6_renew 59 = .ok (.return_, 1) := by decide +kernel
set_option maxHeartbeats 4000000 in
set_option maxRecDepth 100000 in
theorem c_River_renew (l : Launch) (D : va_G) (h0 : Nat) (q1 : Nat) (q2 : Nat) (q3 : Nat) (q4 : Nat) (q5 : Nat) (q6 : Nat) (cy1 : ClassId) (cy2 : ClassId) (cy3 : ClassId) (cy4 : ClassId) (cy5 : ClassId) (cy6 : ClassId) (f1 : Nat → Int32) (f2 : Nat → Int32) (f3 : Nat → Int32) (f4 : Nat → Int32) (f5 : Nat → Int32) (f6 : Nat → Int32) (w0 : Int32) (h9 : Int32) (w1 : Int32) (h1 : Int32) : cV l yX6_renew (.code yX6_renew cX6_renew 4 none) ({ frames := 0, cells := 0, slots := 0, locals := 0 }) D [(cy1, .int), (cy2, .int), (cy3, .int), (cy4, .int), (cy5, .boolean), (cy6, .boolean)] [(h0, .inr (5, [.int w0, .int h9, .ref q1, .ref q2, .ref q3, .ref q4, .ref q5, .ref q6])), (q1, .inl (cy1, 100, .inl f1)), (q2, .inl (cy2, 100, .inl f2)), (q3, .inl (cy3, 100, .inl f3)), (q4, .inl (cy4, 100, .inl f4)), (q5, .inl (cy5, 100, .inl f5)), (q6, .inl (cy6, 100, .inl f6))] xT [.ref h0, .int w1, .int h1] (S := Unit) (fun _ => True) (fun _ => []) (fun _ => [(h0, .inr (5, [.int w1, .int h1, .ref q1, .ref q2, .ref q3, .ref q4, .ref q5, .ref q6])), (q1, .inl (cy1, 100, .inl (fun _ => 0))), (q2, .inl (cy2, 100, .inl (fun _ => 0))), (q3, .inl (cy3, 100, .inl (fun _ => 0))), (q4, .inl (cy4, 100, .inl (fun _ => (-1)))), (q5, .inl (cy5, 100, .inl (fun _ => 0))), (q6, .inl (cy6, 100, .inl f6))]) := by
  intro sz
  refine Met.ofW (cc := cX6_renew) (maxL := 4) (ret := none) (by decide) rfl ?_
  intro p e s m args below meth c s₁ B hml hv
  obtain ⟨rfl, hsz, hP, hK, hD0, hX⟩ := hv
  have hx := B.exec
  have hb := B.bytes
  have hr := B.returns
  have hts0 := atoms_spec (ws := .code yX6_renew cX6_renew 4 none :: gw) B.pre
  have hts := fun (w : Cond) (h : w ∈ gw) => hts0 w (List.mem_cons_of_mem _ h)
  have hown : s.vm.findClass RX6 = some m.cls := findClass_of_methodNamed B.named
  have hlocks := B.notSynchronized
  have F : mFix p s m _ c cX6_renew 4 RX6 := ⟨hx, hb, hml, hown, hts⟩
  subst hsz
  have hD := hD0.self (sz := s.heap.size)
  generalize hAe : va_A [(h0, .inr (5, [.int w0, .int h9, .ref q1, .ref q2, .ref q3, .ref q4, .ref q5, .ref q6])), (q1, .inl (cy1, 100, .inl f1)), (q2, .inl (cy2, 100, .inl f2)), (q3, .inl (cy3, 100, .inl f3)), (q4, .inl (cy4, 100, .inl f4)), (q5, .inl (cy5, 100, .inl f5)), (q6, .inl (cy6, 100, .inl f6))] s.heap.size = A at hD hX ⊢
  have hA : ∀ q : Nat, s.heap.size ≤ q → A q := fun q h => by rw [← hAe]; exact Or.inr h
  have hS : va_S A s.heap s.heap [] := va_S.rf
  have hl := lv_entry ([.ref h0, .int w1, .int h1]) (n := 4) (Nat.le_of_ble_eq_true rfl)
  rw [lg_entry_eq]
  generalize (lg_sl ([.ref h0, .int w1, .int h1]) ++ List.replicate (4 - (lg_sl ([.ref h0, .int w1, .int h1])).length) Slot.unset).toArray = ls at hl ⊢
  have hl : lv_has ls 4 [(0, .ref h0), (1, .int w1), (2, .int h1)] := hl
  have hP : va_P D vwCl [(h0, .inr (5, [.int w0, .int h9, .ref q1, .ref q2, .ref q3, .ref q4, .ref q5, .ref q6])), (q1, .inl (cy1, 100, .inl f1)), (q2, .inl (cy2, 100, .inl f2)), (q3, .inl (cy3, 100, .inl f3)), (q4, .inl (cy4, 100, .inl f4)), (q5, .inl (cy5, 100, .inl f5)), (q6, .inl (cy6, 100, .inl f6))] s.heap := hP
  refine lv_aload_n hx hb dX6_renew_0 rfl (lv_at hl 0 rfl) ?_
  refine lv_iload_n hx hb dX6_renew_1 rfl (lv_at hl 1 rfl) ?_
  refine va_put (D := D) (ci := 5) (v := .int w1) (ty := .int) (C := RX6) (T := TX6) (N := 8) hx hb hts inG_X6 tyX6 tyX6_ok nmX6 hown hK hP hD hS 0 rfl rfl 0 (by decide) (hts _ kw_1_142) (fun _ h9 => h9) rfl (by decide +kernel) rfl rfl (Nat.le_of_ble_eq_true rfl) dX6_renew_2 (fun H locs hP hD hS => ?_)
  have hP : va_P D vwCl [(h0, .inr (5, [.int w1, .int h9, .ref q1, .ref q2, .ref q3, .ref q4, .ref q5, .ref q6])), (q1, .inl (cy1, 100, .inl f1)), (q2, .inl (cy2, 100, .inl f2)), (q3, .inl (cy3, 100, .inl f3)), (q4, .inl (cy4, 100, .inl f4)), (q5, .inl (cy5, 100, .inl f5)), (q6, .inl (cy6, 100, .inl f6))] H := hP
  have hD : va_D A [(h0, .inr (5, [.int w1, .int h9, .ref q1, .ref q2, .ref q3, .ref q4, .ref q5, .ref q6])), (q1, .inl (cy1, 100, .inl f1)), (q2, .inl (cy2, 100, .inl f2)), (q3, .inl (cy3, 100, .inl f3)), (q4, .inl (cy4, 100, .inl f4)), (q5, .inl (cy5, 100, .inl f5)), (q6, .inl (cy6, 100, .inl f6))] := hD
  refine lv_aload_n hx hb dX6_renew_5 rfl (lv_at hl 0 rfl) ?_
  refine lv_iload_n hx hb dX6_renew_6 rfl (lv_at hl 2 rfl) ?_
  refine va_put (D := D) (ci := 5) (v := .int h1) (ty := .int) (C := RX6) (T := TX6) (N := 8) hx hb hts inG_X6 tyX6 tyX6_ok nmX6 hown hK hP hD hS 0 rfl rfl 1 (by decide) (hts _ kw_1_145) (fun _ h9 => h9) rfl (by decide +kernel) rfl rfl (Nat.le_of_ble_eq_true rfl) dX6_renew_7 (fun H locs hP hD hS => ?_)
  have hP : va_P D vwCl [(h0, .inr (5, [.int w1, .int h1, .ref q1, .ref q2, .ref q3, .ref q4, .ref q5, .ref q6])), (q1, .inl (cy1, 100, .inl f1)), (q2, .inl (cy2, 100, .inl f2)), (q3, .inl (cy3, 100, .inl f3)), (q4, .inl (cy4, 100, .inl f4)), (q5, .inl (cy5, 100, .inl f5)), (q6, .inl (cy6, 100, .inl f6))] H := hP
  have hD : va_D A [(h0, .inr (5, [.int w1, .int h1, .ref q1, .ref q2, .ref q3, .ref q4, .ref q5, .ref q6])), (q1, .inl (cy1, 100, .inl f1)), (q2, .inl (cy2, 100, .inl f2)), (q3, .inl (cy3, 100, .inl f3)), (q4, .inl (cy4, 100, .inl f4)), (q5, .inl (cy5, 100, .inl f5)), (q6, .inl (cy6, 100, .inl f6))] := hD
  refine lv_iconst (v := 0) hx hb dX6_renew_10 (by decide) ?_
  refine lv_istore_n (lv' := [(3, .int 0), (0, .ref h0), (1, .int w1), (2, .int h1)]) hx hb dX6_renew_11 rfl hl (by decide) rfl (fun ls hl => ?_)
  refine lp_River_renew F hA h0 q1 q2 q3 q4 q5 q6 cy1 cy2 cy3 cy4 cy5 cy6 f6 w1 h1 (hK.sub [0, 1, 2, 3, 4, 5] rfl) (fun f1_1 f2_2 f3_3 f4_4 f5_5 h_6 h_7 h_8 h_9 h_10 H locs hP hD hS ls hl => ?_) _ f1 f2 f3 f4 f5 0 (by omega) (fun j hj => absurd hj (Nat.not_lt_zero j)) (fun j hj => absurd hj (Nat.not_lt_zero j)) (fun j hj => absurd hj (Nat.not_lt_zero j)) (fun j hj => absurd hj (Nat.not_lt_zero j)) (fun j hj => absurd hj (Nat.not_lt_zero j)) (Nat.lt_succ_self _) _ _ (hP.sub [0, 1, 2, 3, 4, 5, 6] rfl) (hD.sub [0, 1, 2, 3, 4, 5, 6] (by decide) rfl) hS ls (lv_sub hl [1, 0] rfl)
  have h_6 : ∀ j, j < 100 → f1_1 j = 0 := h_6
  have h_7 : ∀ j, j < 100 → f2_2 j = 0 := h_7
  have h_8 : ∀ j, j < 100 → f3_3 j = 0 := h_8
  have h_9 : ∀ j, j < 100 → f4_4 j = (-1) := h_9
  have h_10 : ∀ j, j < 100 → f5_5 j = 0 := h_10
  have hP := va_P_arr hP 1 (fun _ => 0) rfl h_6
  have hP := va_P_arr hP 2 (fun _ => 0) rfl h_7
  have hP := va_P_arr hP 3 (fun _ => 0) rfl h_8
  have hP := va_P_arr hP 4 (fun _ => (-1)) rfl h_9
  have hP := va_P_arr hP 5 (fun _ => 0) rfl h_10
  have hP : va_P D vwCl [(h0, .inr (5, [.int w1, .int h1, .ref q1, .ref q2, .ref q3, .ref q4, .ref q5, .ref q6])), (q1, .inl (cy1, 100, .inl (fun _ => 0))), (q2, .inl (cy2, 100, .inl (fun _ => 0))), (q3, .inl (cy3, 100, .inl (fun _ => 0))), (q4, .inl (cy4, 100, .inl (fun _ => (-1)))), (q5, .inl (cy5, 100, .inl (fun _ => 0))), (q6, .inl (cy6, 100, .inl f6))] H := hP
  have hD : va_D A [(h0, .inr (5, [.int w1, .int h1, .ref q1, .ref q2, .ref q3, .ref q4, .ref q5, .ref q6])), (q1, .inl (cy1, 100, .inl (fun _ => 0))), (q2, .inl (cy2, 100, .inl (fun _ => 0))), (q3, .inl (cy3, 100, .inl (fun _ => 0))), (q4, .inl (cy4, 100, .inl (fun _ => (-1)))), (q5, .inl (cy5, 100, .inl (fun _ => 0))), (q6, .inl (cy6, 100, .inl f6))] := va_D_same hD rfl
  have hP9 := hP.sub (ws' := [(h0, .inr (5, [.int w1, .int h1, .ref q1, .ref q2, .ref q3, .ref q4, .ref q5, .ref q6])), (q1, .inl (cy1, 100, .inl (fun _ => 0))), (q2, .inl (cy2, 100, .inl (fun _ => 0))), (q3, .inl (cy3, 100, .inl (fun _ => 0))), (q4, .inl (cy4, 100, .inl (fun _ => (-1)))), (q5, .inl (cy5, 100, .inl (fun _ => 0))), (q6, .inl (cy6, 100, .inl f6))]) [0, 1, 2, 3, 4, 5, 6] rfl
  have hD9 := hD.sub (ws' := [(h0, .inr (5, [.int w1, .int h1, .ref q1, .ref q2, .ref q3, .ref q4, .ref q5, .ref q6])), (q1, .inl (cy1, 100, .inl (fun _ => 0))), (q2, .inl (cy2, 100, .inl (fun _ => 0))), (q3, .inl (cy3, 100, .inl (fun _ => 0))), (q4, .inl (cy4, 100, .inl (fun _ => (-1)))), (q5, .inl (cy5, 100, .inl (fun _ => 0))), (q6, .inl (cy6, 100, .inl f6))]) [0, 1, 2, 3, 4, 5, 6] (by decide) rfl
  have hK9 := hK.sub (tys' := []) [] rfl
  refine W.widen (k := 0) (n := 0) (by decide) (by decide) ?_
  exact W.vret hx hb hr (fun t ht hW => ⟨⟨(), rfl, trivial, by rw [ht]; exact hP9, va_K.moved hW.alike hK9, hD9⟩, hS.F ht⟩) hS.2.2 dX6_renew_59
theorem dX6_init_0 : decode cX6_init 0 = .ok (.aload_n 0, 1) := by decide +kernel
theorem kw_1_137 : Cond.methodLink RX6 3 Lib.objectInit ∈ gw := gw_t1 (List.mem_of_getElem? (i := 137) (by decide +kernel)) (by decide +kernel)
theorem dX6_init_1 : decode cX6_init 1 = .ok (.invokespecial 3, 3) := by decide +kernel
theorem dX6_init_4 : decode cX6_init 4 = .ok (.aload_n 0, 1) := by decide +kernel
theorem dX6_init_5 : decode cX6_init 5 = .ok (.bipush 100, 2) := by decide +kernel
theorem dX6_init_7 : decode cX6_init 7 = .ok (.newarray .int, 2) := by decide +kernel
theorem dX6_init_9 : decode cX6_init 9 = .ok (.putfield 9, 3) := by decide +kernel
theorem dX6_init_12 : decode cX6_init 12 = .ok (.aload_n 0, 1) := by decide +kernel
theorem dX6_init_13 : decode cX6_init 13 = .ok (.bipush 100, 2) := by decide +kernel
theorem dX6_init_15 : decode cX6_init 15 = .ok (.newarray .int, 2) := by decide +kernel
theorem dX6_init_17 : decode cX6_init 17 = .ok (.putfield 15, 3) := by decide +kernel
theorem dX6_init_20 : decode cX6_init 20 = .ok (.aload_n 0, 1) := by decide +kernel
theorem dX6_init_21 : decode cX6_init 21 = .ok (.bipush 100, 2) := by decide +kernel
theorem dX6_init_23 : decode cX6_init 23 = .ok (.newarray .int, 2) := by decide +kernel
theorem dX6_init_25 : decode cX6_init 25 = .ok (.putfield 18, 3) := by decide +kernel
theorem dX6_init_28 : decode cX6_init 28 = .ok (.aload_n 0, 1) := by decide +kernel
theorem dX6_init_29 : decode cX6_init 29 = .ok (.bipush 100, 2) := by decide +kernel
theorem dX6_init_31 : decode cX6_init 31 = .ok (.newarray .int, 2) := by decide +kernel
theorem dX6_init_33 : decode cX6_init 33 = .ok (.putfield 21, 3) := by decide +kernel
theorem dX6_init_36 : decode cX6_init 36 = .ok (.aload_n 0, 1) := by decide +kernel
theorem dX6_init_37 : decode cX6_init 37 = .ok (.bipush 100, 2) := by decide +kernel
theorem kw_1_177 : Cond.arrayClass .boolean ∈ gw := gw_t1 (List.mem_of_getElem? (i := 177) (by decide +kernel)) (by decide +kernel)
theorem dX6_init_39 : decode cX6_init 39 = .ok (.newarray .boolean, 2) := by decide +kernel
theorem dX6_init_41 : decode cX6_init 41 = .ok (.putfield 24, 3) := by decide +kernel
theorem dX6_init_44 : decode cX6_init 44 = .ok (.aload_n 0, 1) := by decide +kernel
theorem dX6_init_45 : decode cX6_init 45 = .ok (.bipush 100, 2) := by decide +kernel
theorem dX6_init_47 : decode cX6_init 47 = .ok (.newarray .boolean, 2) := by decide +kernel
theorem kw_1_159 : Cond.fieldLink RX6 28 "IceFair$River" "breaking" "[Z" ∈ gw := gw_t1 (List.mem_of_getElem? (i := 159) (by decide +kernel)) (by decide +kernel)
theorem dX6_init_49 : decode cX6_init 49 = .ok (.putfield 28, 3) := by decide +kernel
theorem dX6_init_52 : decode cX6_init 52 = .ok (.aload_n 0, 1) := by decide +kernel
theorem dX6_init_53 : decode cX6_init 53 = .ok (.iconst 5, 1) := by decide +kernel
theorem dX6_init_54 : decode cX6_init 54 = .ok (.iconst 5, 1) := by decide +kernel
theorem kw_1_138 : Cond.methodLink RX6 31 yX6_renew ∈ gw := gw_t1 (List.mem_of_getElem? (i := 138) (by decide +kernel)) (by decide +kernel)
theorem kw_1_139 : Cond.instanceMethod yX6_renew ∈ gw := gw_t1 (List.mem_of_getElem? (i := 139) (by decide +kernel)) (by decide +kernel)
theorem kw_1_140 : Cond.selects RX6 yX6_renew yX6_renew ∈ gw := gw_t1 (List.mem_of_getElem? (i := 140) (by decide +kernel)) (by decide +kernel)
theorem kw_1_7 : Cond.initialized RX6 ∈ gw := gw_t1 (List.mem_of_getElem? (i := 7) (by decide +kernel)) (by decide +kernel)
theorem kw_1_141 : Cond.code yX6_renew cX6_renew 4 none ∈ gw := gw_t1 (List.mem_of_getElem? (i := 141) (by decide +kernel)) (by decide +kernel)
theorem gk_X6_31 : GoodIn gw (wsV RX6 31 RX6 yX6_renew (.code yX6_renew cX6_renew 4 none :: gw)) ∧ (yX6_renew.cls = RX6 ∧ yX6_renew.cls ≠ "java/lang/invoke/MethodHandle" ∧ yX6_renew.cls ≠ "java/lang/invoke/VarHandle" ∧ (parseMethodDescriptor yX6_renew.desc).map (fun d => d.parameters.length) = some 2) := ⟨gi_V kw_1_138 kw_1_139 kw_1_140 kw_1_7 kw_1_141, by decide +kernel⟩
theorem dX6_init_55 : decode cX6_init 55 = .ok (.invokevirtual 31, 3) := by decide +kernel
theorem dX6_init_58 : decode cX6_init 58 = .ok (.return_, 1) := by decide +kernel
set_option maxHeartbeats 4000000 in
set_option maxRecDepth 100000 in
theorem c_River_init (l : Launch) (D : va_G) (h0 : Nat) : cV l yX6_init (.code yX6_init cX6_init 1 none) ({ frames := 1, cells := 6, slots := 600, locals := 23 }) D [] [(h0, .inr (5, [.int 0, .int 0, .null, .null, .null, .null, .null, .null]))] xT [.ref h0] (S := Nat × Nat × Nat × Nat × Nat × Nat × ClassId × ClassId × ClassId × ClassId × ClassId × ClassId) (fun u => match u with | (q1, q2, q3, q4, q5, q6, cy1, cy2, cy3, cy4, cy5, cy6) => True) (fun u => match u with | (q1, q2, q3, q4, q5, q6, cy1, cy2, cy3, cy4, cy5, cy6) => [(cy1, .int), (cy2, .int), (cy3, .int), (cy4, .int), (cy5, .boolean), (cy6, .boolean)]) (fun u => match u with | (q1, q2, q3, q4, q5, q6, cy1, cy2, cy3, cy4, cy5, cy6) => [(h0, .inr (5, [.int 5, .int 5, .ref q1, .ref q2, .ref q3, .ref q4, .ref q5, .ref q6])), (q1, .inl (cy1, 100, .inl (fun _ => 0))), (q2, .inl (cy2, 100, .inl (fun _ => 0))), (q3, .inl (cy3, 100, .inl (fun _ => 0))), (q4, .inl (cy4, 100, .inl (fun _ => (-1)))), (q5, .inl (cy5, 100, .inl (fun _ => 0))), (q6, .inl (cy6, 100, .inl (fun _ => 0)))]) := by
  intro sz
  refine Met.ofW (cc := cX6_init) (maxL := 1) (ret := none) (by decide) rfl ?_
  intro p e s m args below meth c s₁ B hml hv
  obtain ⟨rfl, hsz, hP, hK, hD0, hX⟩ := hv
  have hx := B.exec
  have hb := B.bytes
  have hr := B.returns
  have hts0 := atoms_spec (ws := .code yX6_init cX6_init 1 none :: gw) B.pre
  have hts := fun (w : Cond) (h : w ∈ gw) => hts0 w (List.mem_cons_of_mem _ h)
  have hown : s.vm.findClass RX6 = some m.cls := findClass_of_methodNamed B.named
  have hlocks := B.notSynchronized
  have hin : meth.name = "<init>" := (name_of_methodNamed B.named B.method).1
  have F : mFix p s m _ c cX6_init 1 RX6 := ⟨hx, hb, hml, hown, hts⟩
  subst hsz
  have hD := hD0.self (sz := s.heap.size)
  generalize hAe : va_A [(h0, .inr (5, [.int 0, .int 0, .null, .null, .null, .null, .null, .null]))] s.heap.size = A at hD hX ⊢
  have hA : ∀ q : Nat, s.heap.size ≤ q → A q := fun q h => by rw [← hAe]; exact Or.inr h
  have hS : va_S A s.heap s.heap [] := va_S.rf
  have hl := lv_entry ([.ref h0]) (n := 1) (Nat.le_of_ble_eq_true rfl)
  rw [lg_entry_eq]
  generalize (lg_sl ([.ref h0]) ++ List.replicate (1 - (lg_sl ([.ref h0])).length) Slot.unset).toArray = ls at hl ⊢
  have hl : lv_has ls 1 [(0, .ref h0)] := hl
  have hP : va_P D vwCl [(h0, .inr (5, [.int 0, .int 0, .null, .null, .null, .null, .null, .null]))] s.heap := hP
  refine lv_aload_n hx hb dX6_init_0 rfl (lv_at hl 0 rfl) ?_
  refine W.objInit hx hb hown (hts _ kw_1_137) (hts _ kw_1_30) (hts _ kw_1_31) rfl (by rw [hml]; exact hl.1) rfl dX6_init_1 (Nat.le_of_ble_eq_true rfl) (Nat.le_of_ble_eq_true rfl) ?_
  refine W.eq (g2 := F0 m 4 ls []) rfl ?_
  refine lv_aload_n hx hb dX6_init_4 rfl (lv_at hl 0 rfl) ?_
  refine lv_bipush (v := 100) hx hb dX6_init_5 (by decide) ?_
  refine va_newa (atype := .int) (a0 := (100, .inl (fun _ => 0))) (N' := 100) hx hb (hts _ kw_1_47) (ty := .int) rfl hK hP hD hS hA (fun _ => rfl) (by decide) (by decide) (by decide) (Nat.le_of_ble_eq_true rfl) (Nat.le_of_ble_eq_true rfl) dX6_init_7 (fun q_1 cy_2 H hK hP hD hS => ?_)
  have hK : va_K D vwCl [(cy_2, .int)] s := hK
  have hP : va_P D vwCl [(h0, .inr (5, [.int 0, .int 0, .null, .null, .null, .null, .null, .null])), (q_1, .inl (cy_2, 100, .inl (fun _ => 0)))] H := hP
  have hD : va_D A [(h0, .inr (5, [.int 0, .int 0, .null, .null, .null, .null, .null, .null])), (q_1, .inl (cy_2, 100, .inl (fun _ => 0)))] := hD
  refine W.widen (k := 1) (n := 100) (by decide) (by decide) ?_
  refine va_putF (D := D) (ci := 5) (v := .ref q_1) (ty := .array .int) (C := RX6) (T := TX6) (N := 8) hx hb hts inG_X6 tyX6 tyX6_ok nmX6 hown hK hP hD hS 0 rfl rfl 2 (by decide) (hts _ kw_1_148) (fun _ h9 => h9) rfl hin rfl (by decide +kernel) rfl rfl (Nat.le_of_ble_eq_true rfl) dX6_init_9 (fun H locs hP hD hS => ?_)
  have hP : va_P D vwCl [(h0, .inr (5, [.int 0, .int 0, .ref q_1, .null, .null, .null, .null, .null])), (q_1, .inl (cy_2, 100, .inl (fun _ => 0)))] H := hP
  have hD : va_D A [(h0, .inr (5, [.int 0, .int 0, .ref q_1, .null, .null, .null, .null, .null])), (q_1, .inl (cy_2, 100, .inl (fun _ => 0)))] := hD
  refine lv_aload_n hx hb dX6_init_12 rfl (lv_at hl 0 rfl) ?_
  refine lv_bipush (v := 100) hx hb dX6_init_13 (by decide) ?_
  refine va_newa (atype := .int) (a0 := (100, .inl (fun _ => 0))) (N' := 100) hx hb (hts _ kw_1_47) (ty := .int) rfl hK hP hD hS hA (fun _ => rfl) (by decide) (by decide) (by decide) (Nat.le_of_ble_eq_true rfl) (Nat.le_of_ble_eq_true rfl) dX6_init_15 (fun q_3 cy_4 H hK hP hD hS => ?_)
  have hK : va_K D vwCl [(cy_2, .int), (cy_4, .int)] s := hK
  have hP : va_P D vwCl [(h0, .inr (5, [.int 0, .int 0, .ref q_1, .null, .null, .null, .null, .null])), (q_1, .inl (cy_2, 100, .inl (fun _ => 0))), (q_3, .inl (cy_4, 100, .inl (fun _ => 0)))] H := hP
  have hD : va_D A [(h0, .inr (5, [.int 0, .int 0, .ref q_1, .null, .null, .null, .null, .null])), (q_1, .inl (cy_2, 100, .inl (fun _ => 0))), (q_3, .inl (cy_4, 100, .inl (fun _ => 0)))] := hD
  refine W.widen (k := 2) (n := 200) (by decide) (by decide) ?_
  refine va_putF (D := D) (ci := 5) (v := .ref q_3) (ty := .array .int) (C := RX6) (T := TX6) (N := 8) hx hb hts inG_X6 tyX6 tyX6_ok nmX6 hown hK hP hD hS 0 rfl rfl 3 (by decide) (hts _ kw_1_150) (fun _ h9 => h9) rfl hin rfl (by decide +kernel) rfl rfl (Nat.le_of_ble_eq_true rfl) dX6_init_17 (fun H locs hP hD hS => ?_)
  have hP : va_P D vwCl [(h0, .inr (5, [.int 0, .int 0, .ref q_1, .ref q_3, .null, .null, .null, .null])), (q_1, .inl (cy_2, 100, .inl (fun _ => 0))), (q_3, .inl (cy_4, 100, .inl (fun _ => 0)))] H := hP
  have hD : va_D A [(h0, .inr (5, [.int 0, .int 0, .ref q_1, .ref q_3, .null, .null, .null, .null])), (q_1, .inl (cy_2, 100, .inl (fun _ => 0))), (q_3, .inl (cy_4, 100, .inl (fun _ => 0)))] := hD
  refine lv_aload_n hx hb dX6_init_20 rfl (lv_at hl 0 rfl) ?_
  refine lv_bipush (v := 100) hx hb dX6_init_21 (by decide) ?_
  refine va_newa (atype := .int) (a0 := (100, .inl (fun _ => 0))) (N' := 100) hx hb (hts _ kw_1_47) (ty := .int) rfl hK hP hD hS hA (fun _ => rfl) (by decide) (by decide) (by decide) (Nat.le_of_ble_eq_true rfl) (Nat.le_of_ble_eq_true rfl) dX6_init_23 (fun q_5 cy_6 H hK hP hD hS => ?_)
  have hK : va_K D vwCl [(cy_2, .int), (cy_4, .int), (cy_6, .int)] s := hK
  have hP : va_P D vwCl [(h0, .inr (5, [.int 0, .int 0, .ref q_1, .ref q_3, .null, .null, .null, .null])), (q_1, .inl (cy_2, 100, .inl (fun _ => 0))), (q_3, .inl (cy_4, 100, .inl (fun _ => 0))), (q_5, .inl (cy_6, 100, .inl (fun _ => 0)))] H := hP
  have hD : va_D A [(h0, .inr (5, [.int 0, .int 0, .ref q_1, .ref q_3, .null, .null, .null, .null])), (q_1, .inl (cy_2, 100, .inl (fun _ => 0))), (q_3, .inl (cy_4, 100, .inl (fun _ => 0))), (q_5, .inl (cy_6, 100, .inl (fun _ => 0)))] := hD
  refine W.widen (k := 3) (n := 300) (by decide) (by decide) ?_
  refine va_putF (D := D) (ci := 5) (v := .ref q_5) (ty := .array .int) (C := RX6) (T := TX6) (N := 8) hx hb hts inG_X6 tyX6 tyX6_ok nmX6 hown hK hP hD hS 0 rfl rfl 4 (by decide) (hts _ kw_1_152) (fun _ h9 => h9) rfl hin rfl (by decide +kernel) rfl rfl (Nat.le_of_ble_eq_true rfl) dX6_init_25 (fun H locs hP hD hS => ?_)
  have hP : va_P D vwCl [(h0, .inr (5, [.int 0, .int 0, .ref q_1, .ref q_3, .ref q_5, .null, .null, .null])), (q_1, .inl (cy_2, 100, .inl (fun _ => 0))), (q_3, .inl (cy_4, 100, .inl (fun _ => 0))), (q_5, .inl (cy_6, 100, .inl (fun _ => 0)))] H := hP
  have hD : va_D A [(h0, .inr (5, [.int 0, .int 0, .ref q_1, .ref q_3, .ref q_5, .null, .null, .null])), (q_1, .inl (cy_2, 100, .inl (fun _ => 0))), (q_3, .inl (cy_4, 100, .inl (fun _ => 0))), (q_5, .inl (cy_6, 100, .inl (fun _ => 0)))] := hD
  refine lv_aload_n hx hb dX6_init_28 rfl (lv_at hl 0 rfl) ?_
  refine lv_bipush (v := 100) hx hb dX6_init_29 (by decide) ?_
  refine va_newa (atype := .int) (a0 := (100, .inl (fun _ => 0))) (N' := 100) hx hb (hts _ kw_1_47) (ty := .int) rfl hK hP hD hS hA (fun _ => rfl) (by decide) (by decide) (by decide) (Nat.le_of_ble_eq_true rfl) (Nat.le_of_ble_eq_true rfl) dX6_init_31 (fun q_7 cy_8 H hK hP hD hS => ?_)
  have hK : va_K D vwCl [(cy_2, .int), (cy_4, .int), (cy_6, .int), (cy_8, .int)] s := hK
  have hP : va_P D vwCl [(h0, .inr (5, [.int 0, .int 0, .ref q_1, .ref q_3, .ref q_5, .null, .null, .null])), (q_1, .inl (cy_2, 100, .inl (fun _ => 0))), (q_3, .inl (cy_4, 100, .inl (fun _ => 0))), (q_5, .inl (cy_6, 100, .inl (fun _ => 0))), (q_7, .inl (cy_8, 100, .inl (fun _ => 0)))] H := hP
  have hD : va_D A [(h0, .inr (5, [.int 0, .int 0, .ref q_1, .ref q_3, .ref q_5, .null, .null, .null])), (q_1, .inl (cy_2, 100, .inl (fun _ => 0))), (q_3, .inl (cy_4, 100, .inl (fun _ => 0))), (q_5, .inl (cy_6, 100, .inl (fun _ => 0))), (q_7, .inl (cy_8, 100, .inl (fun _ => 0)))] := hD
  refine W.widen (k := 4) (n := 400) (by decide) (by decide) ?_
  refine va_putF (D := D) (ci := 5) (v := .ref q_7) (ty := .array .int) (C := RX6) (T := TX6) (N := 8) hx hb hts inG_X6 tyX6 tyX6_ok nmX6 hown hK hP hD hS 0 rfl rfl 5 (by decide) (hts _ kw_1_154) (fun _ h9 => h9) rfl hin rfl (by decide +kernel) rfl rfl (Nat.le_of_ble_eq_true rfl) dX6_init_33 (fun H locs hP hD hS => ?_)
  have hP : va_P D vwCl [(h0, .inr (5, [.int 0, .int 0, .ref q_1, .ref q_3, .ref q_5, .ref q_7, .null, .null])), (q_1, .inl (cy_2, 100, .inl (fun _ => 0))), (q_3, .inl (cy_4, 100, .inl (fun _ => 0))), (q_5, .inl (cy_6, 100, .inl (fun _ => 0))), (q_7, .inl (cy_8, 100, .inl (fun _ => 0)))] H := hP
  have hD : va_D A [(h0, .inr (5, [.int 0, .int 0, .ref q_1, .ref q_3, .ref q_5, .ref q_7, .null, .null])), (q_1, .inl (cy_2, 100, .inl (fun _ => 0))), (q_3, .inl (cy_4, 100, .inl (fun _ => 0))), (q_5, .inl (cy_6, 100, .inl (fun _ => 0))), (q_7, .inl (cy_8, 100, .inl (fun _ => 0)))] := hD
  refine lv_aload_n hx hb dX6_init_36 rfl (lv_at hl 0 rfl) ?_
  refine lv_bipush (v := 100) hx hb dX6_init_37 (by decide) ?_
  refine va_newa (atype := .boolean) (a0 := (100, .inl (fun _ => 0))) (N' := 100) hx hb (hts _ kw_1_177) (ty := .boolean) rfl hK hP hD hS hA (fun _ => rfl) (by decide) (by decide) (by decide) (Nat.le_of_ble_eq_true rfl) (Nat.le_of_ble_eq_true rfl) dX6_init_39 (fun q_9 cy_10 H hK hP hD hS => ?_)
  have hK : va_K D vwCl [(cy_2, .int), (cy_4, .int), (cy_6, .int), (cy_8, .int), (cy_10, .boolean)] s := hK
  have hP : va_P D vwCl [(h0, .inr (5, [.int 0, .int 0, .ref q_1, .ref q_3, .ref q_5, .ref q_7, .null, .null])), (q_1, .inl (cy_2, 100, .inl (fun _ => 0))), (q_3, .inl (cy_4, 100, .inl (fun _ => 0))), (q_5, .inl (cy_6, 100, .inl (fun _ => 0))), (q_7, .inl (cy_8, 100, .inl (fun _ => 0))), (q_9, .inl (cy_10, 100, .inl (fun _ => 0)))] H := hP
  have hD : va_D A [(h0, .inr (5, [.int 0, .int 0, .ref q_1, .ref q_3, .ref q_5, .ref q_7, .null, .null])), (q_1, .inl (cy_2, 100, .inl (fun _ => 0))), (q_3, .inl (cy_4, 100, .inl (fun _ => 0))), (q_5, .inl (cy_6, 100, .inl (fun _ => 0))), (q_7, .inl (cy_8, 100, .inl (fun _ => 0))), (q_9, .inl (cy_10, 100, .inl (fun _ => 0)))] := hD
  refine W.widen (k := 5) (n := 500) (by decide) (by decide) ?_
  refine va_putF (D := D) (ci := 5) (v := .ref q_9) (ty := .array .boolean) (C := RX6) (T := TX6) (N := 8) hx hb hts inG_X6 tyX6 tyX6_ok nmX6 hown hK hP hD hS 0 rfl rfl 6 (by decide) (hts _ kw_1_157) (fun _ h9 => h9) rfl hin rfl (by decide +kernel) rfl rfl (Nat.le_of_ble_eq_true rfl) dX6_init_41 (fun H locs hP hD hS => ?_)
  have hP : va_P D vwCl [(h0, .inr (5, [.int 0, .int 0, .ref q_1, .ref q_3, .ref q_5, .ref q_7, .ref q_9, .null])), (q_1, .inl (cy_2, 100, .inl (fun _ => 0))), (q_3, .inl (cy_4, 100, .inl (fun _ => 0))), (q_5, .inl (cy_6, 100, .inl (fun _ => 0))), (q_7, .inl (cy_8, 100, .inl (fun _ => 0))), (q_9, .inl (cy_10, 100, .inl (fun _ => 0)))] H := hP
  have hD : va_D A [(h0, .inr (5, [.int 0, .int 0, .ref q_1, .ref q_3, .ref q_5, .ref q_7, .ref q_9, .null])), (q_1, .inl (cy_2, 100, .inl (fun _ => 0))), (q_3, .inl (cy_4, 100, .inl (fun _ => 0))), (q_5, .inl (cy_6, 100, .inl (fun _ => 0))), (q_7, .inl (cy_8, 100, .inl (fun _ => 0))), (q_9, .inl (cy_10, 100, .inl (fun _ => 0)))] := hD
  refine lv_aload_n hx hb dX6_init_44 rfl (lv_at hl 0 rfl) ?_
  refine lv_bipush (v := 100) hx hb dX6_init_45 (by decide) ?_
  refine va_newa (atype := .boolean) (a0 := (100, .inl (fun _ => 0))) (N' := 100) hx hb (hts _ kw_1_177) (ty := .boolean) rfl hK hP hD hS hA (fun _ => rfl) (by decide) (by decide) (by decide) (Nat.le_of_ble_eq_true rfl) (Nat.le_of_ble_eq_true rfl) dX6_init_47 (fun q_11 cy_12 H hK hP hD hS => ?_)
  have hK : va_K D vwCl [(cy_2, .int), (cy_4, .int), (cy_6, .int), (cy_8, .int), (cy_10, .boolean), (cy_12, .boolean)] s := hK
  have hP : va_P D vwCl [(h0, .inr (5, [.int 0, .int 0, .ref q_1, .ref q_3, .ref q_5, .ref q_7, .ref q_9, .null])), (q_1, .inl (cy_2, 100, .inl (fun _ => 0))), (q_3, .inl (cy_4, 100, .inl (fun _ => 0))), (q_5, .inl (cy_6, 100, .inl (fun _ => 0))), (q_7, .inl (cy_8, 100, .inl (fun _ => 0))), (q_9, .inl (cy_10, 100, .inl (fun _ => 0))), (q_11, .inl (cy_12, 100, .inl (fun _ => 0)))] H := hP
  have hD : va_D A [(h0, .inr (5, [.int 0, .int 0, .ref q_1, .ref q_3, .ref q_5, .ref q_7, .ref q_9, .null])), (q_1, .inl (cy_2, 100, .inl (fun _ => 0))), (q_3, .inl (cy_4, 100, .inl (fun _ => 0))), (q_5, .inl (cy_6, 100, .inl (fun _ => 0))), (q_7, .inl (cy_8, 100, .inl (fun _ => 0))), (q_9, .inl (cy_10, 100, .inl (fun _ => 0))), (q_11, .inl (cy_12, 100, .inl (fun _ => 0)))] := hD
  refine W.widen (k := 6) (n := 600) (by decide) (by decide) ?_
  refine va_putF (D := D) (ci := 5) (v := .ref q_11) (ty := .array .boolean) (C := RX6) (T := TX6) (N := 8) hx hb hts inG_X6 tyX6 tyX6_ok nmX6 hown hK hP hD hS 0 rfl rfl 7 (by decide) (hts _ kw_1_159) (fun _ h9 => h9) rfl hin rfl (by decide +kernel) rfl rfl (Nat.le_of_ble_eq_true rfl) dX6_init_49 (fun H locs hP hD hS => ?_)
  have hP : va_P D vwCl [(h0, .inr (5, [.int 0, .int 0, .ref q_1, .ref q_3, .ref q_5, .ref q_7, .ref q_9, .ref q_11])), (q_1, .inl (cy_2, 100, .inl (fun _ => 0))), (q_3, .inl (cy_4, 100, .inl (fun _ => 0))), (q_5, .inl (cy_6, 100, .inl (fun _ => 0))), (q_7, .inl (cy_8, 100, .inl (fun _ => 0))), (q_9, .inl (cy_10, 100, .inl (fun _ => 0))), (q_11, .inl (cy_12, 100, .inl (fun _ => 0)))] H := hP
  have hD : va_D A [(h0, .inr (5, [.int 0, .int 0, .ref q_1, .ref q_3, .ref q_5, .ref q_7, .ref q_9, .ref q_11])), (q_1, .inl (cy_2, 100, .inl (fun _ => 0))), (q_3, .inl (cy_4, 100, .inl (fun _ => 0))), (q_5, .inl (cy_6, 100, .inl (fun _ => 0))), (q_7, .inl (cy_8, 100, .inl (fun _ => 0))), (q_9, .inl (cy_10, 100, .inl (fun _ => 0))), (q_11, .inl (cy_12, 100, .inl (fun _ => 0)))] := hD
  refine lv_aload_n hx hb dX6_init_52 rfl (lv_at hl 0 rfl) ?_
  refine lv_iconst (v := 5) hx hb dX6_init_53 (by decide) ?_
  refine lv_iconst (v := 5) hx hb dX6_init_54 (by decide) ?_
  refine mc_Vv (rest := []) (wr := []) F hK hP hD hS hA (c_River_renew l D h0 q_1 q_3 q_5 q_7 q_9 q_11 cy_2 cy_4 cy_6 cy_8 cy_10 cy_12 (fun _ => 0) (fun _ => 0) (fun _ => 0) (fun _ => 0) (fun _ => 0) (fun _ => 0) 0 0 5 5 ) ⟨gk_X6_31.1, gk_X6_31.2, Nat.le_of_ble_eq_true rfl, Nat.le_of_ble_eq_true rfl⟩ [0, 1, 2, 3, 4, 5, 6] [] [0, 1, 2, 3, 4, 5] ⟨rfl, rfl, rfl, rfl, by decide⟩ rfl xT_move (fun _ _ _ => trivial) 0 rfl rfl rfl hl.1 rfl (Nat.le_of_ble_eq_true rfl) dX6_init_55 ⟨Nat.le_of_ble_eq_true rfl, Nat.le_of_ble_eq_true rfl⟩ (fun _ H locs hw hK1 hP hD hS => ?_)
  have hP : va_P D vwCl [(h0, .inr (5, [.int 5, .int 5, .ref q_1, .ref q_3, .ref q_5, .ref q_7, .ref q_9, .ref q_11])), (q_1, .inl (cy_2, 100, .inl (fun _ => 0))), (q_3, .inl (cy_4, 100, .inl (fun _ => 0))), (q_5, .inl (cy_6, 100, .inl (fun _ => 0))), (q_7, .inl (cy_8, 100, .inl (fun _ => (-1)))), (q_9, .inl (cy_10, 100, .inl (fun _ => 0))), (q_11, .inl (cy_12, 100, .inl ((fun _ => 0))))] H := hP
  have hD : va_D A [(h0, .inr (5, [.int 5, .int 5, .ref q_1, .ref q_3, .ref q_5, .ref q_7, .ref q_9, .ref q_11])), (q_1, .inl (cy_2, 100, .inl (fun _ => 0))), (q_3, .inl (cy_4, 100, .inl (fun _ => 0))), (q_5, .inl (cy_6, 100, .inl (fun _ => 0))), (q_7, .inl (cy_8, 100, .inl (fun _ => (-1)))), (q_9, .inl (cy_10, 100, .inl (fun _ => 0))), (q_11, .inl (cy_12, 100, .inl ((fun _ => 0))))] := hD
  have hP9 := hP.sub (ws' := [(h0, .inr (5, [.int 5, .int 5, .ref q_1, .ref q_3, .ref q_5, .ref q_7, .ref q_9, .ref q_11])), (q_1, .inl (cy_2, 100, .inl (fun _ => 0))), (q_3, .inl (cy_4, 100, .inl (fun _ => 0))), (q_5, .inl (cy_6, 100, .inl (fun _ => 0))), (q_7, .inl (cy_8, 100, .inl (fun _ => (-1)))), (q_9, .inl (cy_10, 100, .inl (fun _ => 0))), (q_11, .inl (cy_12, 100, .inl (fun _ => 0)))]) [0, 1, 2, 3, 4, 5, 6] rfl
  have hD9 := hD.sub (ws' := [(h0, .inr (5, [.int 5, .int 5, .ref q_1, .ref q_3, .ref q_5, .ref q_7, .ref q_9, .ref q_11])), (q_1, .inl (cy_2, 100, .inl (fun _ => 0))), (q_3, .inl (cy_4, 100, .inl (fun _ => 0))), (q_5, .inl (cy_6, 100, .inl (fun _ => 0))), (q_7, .inl (cy_8, 100, .inl (fun _ => (-1)))), (q_9, .inl (cy_10, 100, .inl (fun _ => 0))), (q_11, .inl (cy_12, 100, .inl (fun _ => 0)))]) [0, 1, 2, 3, 4, 5, 6] (by decide) rfl
  have hK9 := hK.sub (tys' := [(cy_2, .int), (cy_4, .int), (cy_6, .int), (cy_8, .int), (cy_10, .boolean), (cy_12, .boolean)]) [0, 1, 2, 3, 4, 5] rfl
  refine W.widen (k := 6) (n := 600) (by decide) (by decide) ?_
  exact W.vret hx hb hr (fun t ht hW => ⟨⟨(q_1, q_3, q_5, q_7, q_9, q_11, cy_2, cy_4, cy_6, cy_8, cy_10, cy_12), rfl, trivial, by rw [ht]; exact hP9, va_K.moved hW.alike hK9, hD9⟩, hS.F ht⟩) hS.2.2 dX6_init_58
end
section
theorem dX0_init_0 : decode cX0_init 0 = .ok (.aload_n 0, 1) := by decide +kernel
theorem kw_1_184 : Cond.methodLink RX0 1 Lib.objectInit ∈ gw := gw_t1 (List.mem_of_getElem? (i := 184) (by decide +kernel)) (by decide +kernel)
theorem dX0_init_1 : decode cX0_init 1 = .ok (.invokespecial 1, 3) := by decide +kernel
theorem dX0_init_4 : decode cX0_init 4 = .ok (.return_, 1) := by decide +kernel
set_option maxHeartbeats 4000000 in
set_option maxRecDepth 100000 in
theorem c_Booth_init (l : Launch) (D : va_G) (h0 : Nat) : cV l yX0_init (.code yX0_init cX0_init 1 none) ({ frames := 1, cells := 0, slots := 0, locals := 20 }) D [] [(h0, .inr (0, [.int 0, .int 0, .int 0, .int 0, .int 0, .int 0, .int 0]))] xT [.ref h0] (S := Unit) (fun _ => True) (fun _ => []) (fun _ => [(h0, .inr (0, [.int 0, .int 0, .int 0, .int 0, .int 0, .int 0, .int 0]))]) := by
  intro sz
  refine Met.ofW (cc := cX0_init) (maxL := 1) (ret := none) (by decide) rfl ?_
  intro p e s m args below meth c s₁ B hml hv
  obtain ⟨rfl, hsz, hP, hK, hD0, hX⟩ := hv
  have hx := B.exec
  have hb := B.bytes
  have hr := B.returns
  have hts0 := atoms_spec (ws := .code yX0_init cX0_init 1 none :: gw) B.pre
  have hts := fun (w : Cond) (h : w ∈ gw) => hts0 w (List.mem_cons_of_mem _ h)
  have hown : s.vm.findClass RX0 = some m.cls := findClass_of_methodNamed B.named
  have hlocks := B.notSynchronized
  have hin : meth.name = "<init>" := (name_of_methodNamed B.named B.method).1
  have F : mFix p s m _ c cX0_init 1 RX0 := ⟨hx, hb, hml, hown, hts⟩
  subst hsz
  have hD := hD0.self (sz := s.heap.size)
  generalize hAe : va_A [(h0, .inr (0, [.int 0, .int 0, .int 0, .int 0, .int 0, .int 0, .int 0]))] s.heap.size = A at hD hX ⊢
  have hA : ∀ q : Nat, s.heap.size ≤ q → A q := fun q h => by rw [← hAe]; exact Or.inr h
  have hS : va_S A s.heap s.heap [] := va_S.rf
  have hl := lv_entry ([.ref h0]) (n := 1) (Nat.le_of_ble_eq_true rfl)
  rw [lg_entry_eq]
  generalize (lg_sl ([.ref h0]) ++ List.replicate (1 - (lg_sl ([.ref h0])).length) Slot.unset).toArray = ls at hl ⊢
  have hl : lv_has ls 1 [(0, .ref h0)] := hl
  have hP : va_P D vwCl [(h0, .inr (0, [.int 0, .int 0, .int 0, .int 0, .int 0, .int 0, .int 0]))] s.heap := hP
  refine lv_aload_n hx hb dX0_init_0 rfl (lv_at hl 0 rfl) ?_
  refine W.objInit hx hb hown (hts _ kw_1_184) (hts _ kw_1_30) (hts _ kw_1_31) rfl (by rw [hml]; exact hl.1) rfl dX0_init_1 (Nat.le_of_ble_eq_true rfl) (Nat.le_of_ble_eq_true rfl) ?_
  refine W.eq (g2 := F0 m 4 ls []) rfl ?_
  have hP9 := hP.sub (ws' := [(h0, .inr (0, [.int 0, .int 0, .int 0, .int 0, .int 0, .int 0, .int 0]))]) [0] rfl
  have hD9 := hD.sub (ws' := [(h0, .inr (0, [.int 0, .int 0, .int 0, .int 0, .int 0, .int 0, .int 0]))]) [0] (by decide) rfl
  have hK9 := hK.sub (tys' := []) [] rfl
  refine W.widen (k := 0) (n := 0) (by decide) (by decide) ?_
  exact W.vret hx hb hr (fun t ht hW => ⟨⟨(), rfl, trivial, by rw [ht]; exact hP9, va_K.moved hW.alike hK9, hD9⟩, hS.F ht⟩) hS.2.2 dX0_init_4
theorem dX2_init_0 : decode cX2_init 0 = .ok (.aload_n 0, 1) := by decide +kernel
theorem kw_1_53 : Cond.methodLink RX2 3 Lib.objectInit ∈ gw := gw_t1 (List.mem_of_getElem? (i := 53) (by decide +kernel)) (by decide +kernel)
theorem dX2_init_1 : decode cX2_init 1 = .ok (.invokespecial 3, 3) := by decide +kernel
theorem dX2_init_4 : decode cX2_init 4 = .ok (.aload_n 0, 1) := by decide +kernel
theorem dX2_init_5 : decode cX2_init 5 = .ok (.iconst 0, 1) := by decide +kernel
theorem inG_X2 : ∀ w ∈ u_ws RX2 TX2 9, w ∈ gw := fun w h => gw_in ((by decide +kernel : ∀ w ∈ u_ws RX2 TX2 9, w ∈ lw_tbl) w h) ((by decide +kernel : ∀ w ∈ u_ws RX2 TX2 9, goodWord w = true) w h)
theorem kw_1_54 : Cond.fieldLink RX2 9 "IceFair$CustomsReader" "faultKind" "I" ∈ gw := gw_t1 (List.mem_of_getElem? (i := 54) (by decide +kernel)) (by decide +kernel)
theorem dX2_init_6 : decode cX2_init 6 = .ok (.putfield 9, 3) := by decide +kernel
theorem dX2_init_9 : decode cX2_init 9 = .ok (.aload_n 0, 1) := by decide +kernel
theorem dX2_init_10 : decode cX2_init 10 = .ok (.iconst (-1), 1) := by decide +kernel
theorem kw_1_56 : Cond.fieldLink RX2 15 "IceFair$CustomsReader" "faultPlace" "I" ∈ gw := gw_t1 (List.mem_of_getElem? (i := 56) (by decide +kernel)) (by decide +kernel)
theorem dX2_init_11 : decode cX2_init 11 = .ok (.putfield 15, 3) := by decide +kernel
theorem dX2_init_14 : decode cX2_init 14 = .ok (.aload_n 0, 1) := by decide +kernel
theorem dX2_init_15 : decode cX2_init 15 = .ok (.iconst 3, 1) := by decide +kernel
theorem dX2_init_16 : decode cX2_init 16 = .ok (.newarray .int, 2) := by decide +kernel
theorem kw_1_58 : Cond.fieldLink RX2 18 "IceFair$CustomsReader" "values" "[I" ∈ gw := gw_t1 (List.mem_of_getElem? (i := 58) (by decide +kernel)) (by decide +kernel)
theorem dX2_init_18 : decode cX2_init 18 = .ok (.putfield 18, 3) := by decide +kernel
theorem dX2_init_21 : decode cX2_init 21 = .ok (.aload_n 0, 1) := by decide +kernel
theorem dX2_init_22 : decode cX2_init 22 = .ok (.iconst 0, 1) := by decide +kernel
theorem dX2_init_23 : decode cX2_init 23 = .ok (.newarray .int, 2) := by decide +kernel
theorem kw_1_59 : Cond.fieldLink RX2 22 "IceFair$CustomsReader" "text" "[I" ∈ gw := gw_t1 (List.mem_of_getElem? (i := 59) (by decide +kernel)) (by decide +kernel)
theorem dX2_init_25 : decode cX2_init 25 = .ok (.putfield 22, 3) := by decide +kernel
theorem dX2_init_28 : decode cX2_init 28 = .ok (.return_, 1) := by decide +kernel
set_option maxHeartbeats 4000000 in
set_option maxRecDepth 100000 in
theorem c_Reader_init (l : Launch) (D : va_G) (h0 : Nat) : cV l yX2_init (.code yX2_init cX2_init 1 none) ({ frames := 1, cells := 2, slots := 3, locals := 20 }) D [] [(h0, .inr (2, [.int 0, .int 0, .null, .null, .int 0, .int 0, .int 0, .int 0, .int 0]))] xT [.ref h0] (S := Nat × Nat × ClassId × ClassId) (fun u => match u with | (q1, q2, cy1, cy2) => True) (fun u => match u with | (q1, q2, cy1, cy2) => [(cy1, .int), (cy2, .int)]) (fun u => match u with | (q1, q2, cy1, cy2) => [(h0, .inr (2, [.int 0, .int ((-1)), .ref q1, .ref q2, .int 0, .int 0, .int 0, .int 0, .int 0])), (q1, .inl (cy1, 3, .inl (fun _ => 0))), (q2, .inl (cy2, 0, .inl (fun _ => 0)))]) := by
  intro sz
  refine Met.ofW (cc := cX2_init) (maxL := 1) (ret := none) (by decide) rfl ?_
  intro p e s m args below meth c s₁ B hml hv
  obtain ⟨rfl, hsz, hP, hK, hD0, hX⟩ := hv
  have hx := B.exec
  have hb := B.bytes
  have hr := B.returns
  have hts0 := atoms_spec (ws := .code yX2_init cX2_init 1 none :: gw) B.pre
  have hts := fun (w : Cond) (h : w ∈ gw) => hts0 w (List.mem_cons_of_mem _ h)
  have hown : s.vm.findClass RX2 = some m.cls := findClass_of_methodNamed B.named
  have hlocks := B.notSynchronized
  have hin : meth.name = "<init>" := (name_of_methodNamed B.named B.method).1
  have F : mFix p s m _ c cX2_init 1 RX2 := ⟨hx, hb, hml, hown, hts⟩
  subst hsz
  have hD := hD0.self (sz := s.heap.size)
  generalize hAe : va_A [(h0, .inr (2, [.int 0, .int 0, .null, .null, .int 0, .int 0, .int 0, .int 0, .int 0]))] s.heap.size = A at hD hX ⊢
  have hA : ∀ q : Nat, s.heap.size ≤ q → A q := fun q h => by rw [← hAe]; exact Or.inr h
  have hS : va_S A s.heap s.heap [] := va_S.rf
  have hl := lv_entry ([.ref h0]) (n := 1) (Nat.le_of_ble_eq_true rfl)
  rw [lg_entry_eq]
  generalize (lg_sl ([.ref h0]) ++ List.replicate (1 - (lg_sl ([.ref h0])).length) Slot.unset).toArray = ls at hl ⊢
  have hl : lv_has ls 1 [(0, .ref h0)] := hl
  have hP : va_P D vwCl [(h0, .inr (2, [.int 0, .int 0, .null, .null, .int 0, .int 0, .int 0, .int 0, .int 0]))] s.heap := hP
  refine lv_aload_n hx hb dX2_init_0 rfl (lv_at hl 0 rfl) ?_
  refine W.objInit hx hb hown (hts _ kw_1_53) (hts _ kw_1_30) (hts _ kw_1_31) rfl (by rw [hml]; exact hl.1) rfl dX2_init_1 (Nat.le_of_ble_eq_true rfl) (Nat.le_of_ble_eq_true rfl) ?_
  refine W.eq (g2 := F0 m 4 ls []) rfl ?_
  refine lv_aload_n hx hb dX2_init_4 rfl (lv_at hl 0 rfl) ?_
  refine lv_iconst (v := 0) hx hb dX2_init_5 (by decide) ?_
  refine va_put (D := D) (ci := 2) (v := .int 0) (ty := .int) (C := RX2) (T := TX2) (N := 9) hx hb hts inG_X2 tyX2 tyX2_ok nmX2 hown hK hP hD hS 0 rfl rfl 0 (by decide) (hts _ kw_1_54) (fun _ h9 => h9) rfl (by decide +kernel) rfl rfl (Nat.le_of_ble_eq_true rfl) dX2_init_6 (fun H locs hP hD hS => ?_)
  have hP : va_P D vwCl [(h0, .inr (2, [.int 0, .int 0, .null, .null, .int 0, .int 0, .int 0, .int 0, .int 0]))] H := hP
  have hD : va_D A [(h0, .inr (2, [.int 0, .int 0, .null, .null, .int 0, .int 0, .int 0, .int 0, .int 0]))] := hD
  refine lv_aload_n hx hb dX2_init_9 rfl (lv_at hl 0 rfl) ?_
  refine lv_iconst (v := -1) hx hb dX2_init_10 (by decide) ?_
  refine va_put (D := D) (ci := 2) (v := .int ((-1))) (ty := .int) (C := RX2) (T := TX2) (N := 9) hx hb hts inG_X2 tyX2 tyX2_ok nmX2 hown hK hP hD hS 0 rfl rfl 1 (by decide) (hts _ kw_1_56) (fun _ h9 => h9) rfl (by decide +kernel) rfl rfl (Nat.le_of_ble_eq_true rfl) dX2_init_11 (fun H locs hP hD hS => ?_)
  have hP : va_P D vwCl [(h0, .inr (2, [.int 0, .int ((-1)), .null, .null, .int 0, .int 0, .int 0, .int 0, .int 0]))] H := hP
  have hD : va_D A [(h0, .inr (2, [.int 0, .int ((-1)), .null, .null, .int 0, .int 0, .int 0, .int 0, .int 0]))] := hD
  refine lv_aload_n hx hb dX2_init_14 rfl (lv_at hl 0 rfl) ?_
  refine lv_iconst (v := 3) hx hb dX2_init_15 (by decide) ?_
  refine va_newa (atype := .int) (a0 := (3, .inl (fun _ => 0))) (N' := 3) hx hb (hts _ kw_1_47) (ty := .int) rfl hK hP hD hS hA (fun _ => rfl) (by decide) (by decide) (by decide) (Nat.le_of_ble_eq_true rfl) (Nat.le_of_ble_eq_true rfl) dX2_init_16 (fun q_1 cy_2 H hK hP hD hS => ?_)
  have hK : va_K D vwCl [(cy_2, .int)] s := hK
  have hP : va_P D vwCl [(h0, .inr (2, [.int 0, .int ((-1)), .null, .null, .int 0, .int 0, .int 0, .int 0, .int 0])), (q_1, .inl (cy_2, 3, .inl (fun _ => 0)))] H := hP
  have hD : va_D A [(h0, .inr (2, [.int 0, .int ((-1)), .null, .null, .int 0, .int 0, .int 0, .int 0, .int 0])), (q_1, .inl (cy_2, 3, .inl (fun _ => 0)))] := hD
  refine W.widen (k := 1) (n := 3) (by decide) (by decide) ?_
  refine va_putF (D := D) (ci := 2) (v := .ref q_1) (ty := .array .int) (C := RX2) (T := TX2) (N := 9) hx hb hts inG_X2 tyX2 tyX2_ok nmX2 hown hK hP hD hS 0 rfl rfl 2 (by decide) (hts _ kw_1_58) (fun _ h9 => h9) rfl hin rfl (by decide +kernel) rfl rfl (Nat.le_of_ble_eq_true rfl) dX2_init_18 (fun H locs hP hD hS => ?_)
  have hP : va_P D vwCl [(h0, .inr (2, [.int 0, .int ((-1)), .ref q_1, .null, .int 0, .int 0, .int 0, .int 0, .int 0])), (q_1, .inl (cy_2, 3, .inl (fun _ => 0)))] H := hP
  have hD : va_D A [(h0, .inr (2, [.int 0, .int ((-1)), .ref q_1, .null, .int 0, .int 0, .int 0, .int 0, .int 0])), (q_1, .inl (cy_2, 3, .inl (fun _ => 0)))] := hD
  refine lv_aload_n hx hb dX2_init_21 rfl (lv_at hl 0 rfl) ?_
  refine lv_iconst (v := 0) hx hb dX2_init_22 (by decide) ?_
  refine va_newa (atype := .int) (a0 := (0, .inl (fun _ => 0))) (N' := 0) hx hb (hts _ kw_1_47) (ty := .int) rfl hK hP hD hS hA (fun _ => rfl) (by decide) (by decide) (by decide) (Nat.le_of_ble_eq_true rfl) (Nat.le_of_ble_eq_true rfl) dX2_init_23 (fun q_3 cy_4 H hK hP hD hS => ?_)
  have hK : va_K D vwCl [(cy_2, .int), (cy_4, .int)] s := hK
  have hP : va_P D vwCl [(h0, .inr (2, [.int 0, .int ((-1)), .ref q_1, .null, .int 0, .int 0, .int 0, .int 0, .int 0])), (q_1, .inl (cy_2, 3, .inl (fun _ => 0))), (q_3, .inl (cy_4, 0, .inl (fun _ => 0)))] H := hP
  have hD : va_D A [(h0, .inr (2, [.int 0, .int ((-1)), .ref q_1, .null, .int 0, .int 0, .int 0, .int 0, .int 0])), (q_1, .inl (cy_2, 3, .inl (fun _ => 0))), (q_3, .inl (cy_4, 0, .inl (fun _ => 0)))] := hD
  refine W.widen (k := 2) (n := 3) (by decide) (by decide) ?_
  refine va_put (D := D) (ci := 2) (v := .ref q_3) (ty := .array .int) (C := RX2) (T := TX2) (N := 9) hx hb hts inG_X2 tyX2 tyX2_ok nmX2 hown hK hP hD hS 0 rfl rfl 3 (by decide) (hts _ kw_1_59) (fun _ h9 => h9) rfl (by decide +kernel) rfl rfl (Nat.le_of_ble_eq_true rfl) dX2_init_25 (fun H locs hP hD hS => ?_)
  have hP : va_P D vwCl [(h0, .inr (2, [.int 0, .int ((-1)), .ref q_1, .ref q_3, .int 0, .int 0, .int 0, .int 0, .int 0])), (q_1, .inl (cy_2, 3, .inl (fun _ => 0))), (q_3, .inl (cy_4, 0, .inl (fun _ => 0)))] H := hP
  have hD : va_D A [(h0, .inr (2, [.int 0, .int ((-1)), .ref q_1, .ref q_3, .int 0, .int 0, .int 0, .int 0, .int 0])), (q_1, .inl (cy_2, 3, .inl (fun _ => 0))), (q_3, .inl (cy_4, 0, .inl (fun _ => 0)))] := hD
  have hP9 := hP.sub (ws' := [(h0, .inr (2, [.int 0, .int ((-1)), .ref q_1, .ref q_3, .int 0, .int 0, .int 0, .int 0, .int 0])), (q_1, .inl (cy_2, 3, .inl (fun _ => 0))), (q_3, .inl (cy_4, 0, .inl (fun _ => 0)))]) [0, 1, 2] rfl
  have hD9 := hD.sub (ws' := [(h0, .inr (2, [.int 0, .int ((-1)), .ref q_1, .ref q_3, .int 0, .int 0, .int 0, .int 0, .int 0])), (q_1, .inl (cy_2, 3, .inl (fun _ => 0))), (q_3, .inl (cy_4, 0, .inl (fun _ => 0)))]) [0, 1, 2] (by decide) rfl
  have hK9 := hK.sub (tys' := [(cy_2, .int), (cy_4, .int)]) [0, 1] rfl
  refine W.widen (k := 2) (n := 3) (by decide) (by decide) ?_
  exact W.vret hx hb hr (fun t ht hW => ⟨⟨(q_1, q_3, cy_2, cy_4), rfl, trivial, by rw [ht]; exact hP9, va_K.moved hW.alike hK9, hD9⟩, hS.F ht⟩) hS.2.2 dX2_init_28
theorem dX4_init_0 : decode cX4_init 0 = .ok (.aload_n 0, 1) := by decide +kernel
theorem kw_2_12 : Cond.methodLink RX4 3 Lib.objectInit ∈ gw := gw_t2 (List.mem_of_getElem? (i := 12) (by decide +kernel)) (by decide +kernel)
theorem dX4_init_1 : decode cX4_init 1 = .ok (.invokespecial 3, 3) := by decide +kernel
theorem dX4_init_4 : decode cX4_init 4 = .ok (.aload_n 0, 1) := by decide +kernel
theorem dX4_init_5 : decode cX4_init 5 = .ok (.bipush 10, 2) := by decide +kernel
theorem dX4_init_7 : decode cX4_init 7 = .ok (.newarray .int, 2) := by decide +kernel
theorem inG_X4 : ∀ w ∈ u_ws RX4 TX4 9, w ∈ gw := fun w h => gw_in ((by decide +kernel : ∀ w ∈ u_ws RX4 TX4 9, w ∈ lw_tbl) w h) ((by decide +kernel : ∀ w ∈ u_ws RX4 TX4 9, goodWord w = true) w h)
theorem kw_2_15 : Cond.fieldLink RX4 9 "IceFair$Laying" "waiting" "[I" ∈ gw := gw_t2 (List.mem_of_getElem? (i := 15) (by decide +kernel)) (by decide +kernel)
theorem dX4_init_9 : decode cX4_init 9 = .ok (.putfield 9, 3) := by decide +kernel
theorem dX4_init_12 : decode cX4_init 12 = .ok (.aload_n 0, 1) := by decide +kernel
theorem dX4_init_13 : decode cX4_init 13 = .ok (.bipush 100, 2) := by decide +kernel
theorem dX4_init_15 : decode cX4_init 15 = .ok (.newarray .int, 2) := by decide +kernel
theorem kw_2_17 : Cond.fieldLink RX4 15 "IceFair$Laying" "openX" "[I" ∈ gw := gw_t2 (List.mem_of_getElem? (i := 17) (by decide +kernel)) (by decide +kernel)
theorem dX4_init_17 : decode cX4_init 17 = .ok (.putfield 15, 3) := by decide +kernel
theorem dX4_init_20 : decode cX4_init 20 = .ok (.aload_n 0, 1) := by decide +kernel
theorem dX4_init_21 : decode cX4_init 21 = .ok (.bipush 100, 2) := by decide +kernel
theorem dX4_init_23 : decode cX4_init 23 = .ok (.newarray .int, 2) := by decide +kernel
theorem kw_2_18 : Cond.fieldLink RX4 18 "IceFair$Laying" "openY" "[I" ∈ gw := gw_t2 (List.mem_of_getElem? (i := 18) (by decide +kernel)) (by decide +kernel)
theorem dX4_init_25 : decode cX4_init 25 = .ok (.putfield 18, 3) := by decide +kernel
theorem dX4_init_28 : decode cX4_init 28 = .ok (.aload_n 0, 1) := by decide +kernel
theorem dX4_init_29 : decode cX4_init 29 = .ok (.bipush 100, 2) := by decide +kernel
theorem dX4_init_31 : decode cX4_init 31 = .ok (.newarray .boolean, 2) := by decide +kernel
theorem kw_2_19 : Cond.fieldLink RX4 21 "IceFair$Laying" "farFromCracks" "[Z" ∈ gw := gw_t2 (List.mem_of_getElem? (i := 19) (by decide +kernel)) (by decide +kernel)
theorem dX4_init_33 : decode cX4_init 33 = .ok (.putfield 21, 3) := by decide +kernel
theorem dX4_init_36 : decode cX4_init 36 = .ok (.aload_n 0, 1) := by decide +kernel
theorem dX4_init_37 : decode cX4_init 37 = .ok (.bipush 10, 2) := by decide +kernel
theorem dX4_init_39 : decode cX4_init 39 = .ok (.newarray .int, 2) := by decide +kernel
theorem kw_2_21 : Cond.fieldLink RX4 25 "IceFair$Laying" "tried" "[I" ∈ gw := gw_t2 (List.mem_of_getElem? (i := 21) (by decide +kernel)) (by decide +kernel)
theorem dX4_init_41 : decode cX4_init 41 = .ok (.putfield 25, 3) := by decide +kernel
theorem dX4_init_44 : decode cX4_init 44 = .ok (.return_, 1) := by decide +kernel
set_option maxHeartbeats 4000000 in
set_option maxRecDepth 100000 in
theorem c_Laying_init (l : Launch) (D : va_G) (h0 : Nat) : cV l yX4_init (.code yX4_init cX4_init 1 none) ({ frames := 1, cells := 5, slots := 320, locals := 20 }) D [] [(h0, .inr (4, [.int 0, .null, .int 0, .null, .null, .null, .int 0, .null, .int 0]))] xT [.ref h0] (S := Nat × Nat × Nat × Nat × Nat × ClassId × ClassId × ClassId × ClassId × ClassId) (fun u => match u with | (q1, q2, q3, q4, q5, cy1, cy2, cy3, cy4, cy5) => True) (fun u => match u with | (q1, q2, q3, q4, q5, cy1, cy2, cy3, cy4, cy5) => [(cy1, .int), (cy2, .int), (cy3, .int), (cy4, .boolean), (cy5, .int)]) (fun u => match u with | (q1, q2, q3, q4, q5, cy1, cy2, cy3, cy4, cy5) => [(h0, .inr (4, [.int 0, .ref q1, .int 0, .ref q2, .ref q3, .ref q4, .int 0, .ref q5, .int 0])), (q1, .inl (cy1, 10, .inl (fun _ => 0))), (q2, .inl (cy2, 100, .inl (fun _ => 0))), (q3, .inl (cy3, 100, .inl (fun _ => 0))), (q4, .inl (cy4, 100, .inl (fun _ => 0))), (q5, .inl (cy5, 10, .inl (fun _ => 0)))]) := by
  intro sz
  refine Met.ofW (cc := cX4_init) (maxL := 1) (ret := none) (by decide) rfl ?_
  intro p e s m args below meth c s₁ B hml hv
  obtain ⟨rfl, hsz, hP, hK, hD0, hX⟩ := hv
  have hx := B.exec
  have hb := B.bytes
  have hr := B.returns
  have hts0 := atoms_spec (ws := .code yX4_init cX4_init 1 none :: gw) B.pre
  have hts := fun (w : Cond) (h : w ∈ gw) => hts0 w (List.mem_cons_of_mem _ h)
  have hown : s.vm.findClass RX4 = some m.cls := findClass_of_methodNamed B.named
  have hlocks := B.notSynchronized
  have hin : meth.name = "<init>" := (name_of_methodNamed B.named B.method).1
  have F : mFix p s m _ c cX4_init 1 RX4 := ⟨hx, hb, hml, hown, hts⟩
  subst hsz
  have hD := hD0.self (sz := s.heap.size)
  generalize hAe : va_A [(h0, .inr (4, [.int 0, .null, .int 0, .null, .null, .null, .int 0, .null, .int 0]))] s.heap.size = A at hD hX ⊢
  have hA : ∀ q : Nat, s.heap.size ≤ q → A q := fun q h => by rw [← hAe]; exact Or.inr h
  have hS : va_S A s.heap s.heap [] := va_S.rf
  have hl := lv_entry ([.ref h0]) (n := 1) (Nat.le_of_ble_eq_true rfl)
  rw [lg_entry_eq]
  generalize (lg_sl ([.ref h0]) ++ List.replicate (1 - (lg_sl ([.ref h0])).length) Slot.unset).toArray = ls at hl ⊢
  have hl : lv_has ls 1 [(0, .ref h0)] := hl
  have hP : va_P D vwCl [(h0, .inr (4, [.int 0, .null, .int 0, .null, .null, .null, .int 0, .null, .int 0]))] s.heap := hP
  refine lv_aload_n hx hb dX4_init_0 rfl (lv_at hl 0 rfl) ?_
  refine W.objInit hx hb hown (hts _ kw_2_12) (hts _ kw_1_30) (hts _ kw_1_31) rfl (by rw [hml]; exact hl.1) rfl dX4_init_1 (Nat.le_of_ble_eq_true rfl) (Nat.le_of_ble_eq_true rfl) ?_
  refine W.eq (g2 := F0 m 4 ls []) rfl ?_
  refine lv_aload_n hx hb dX4_init_4 rfl (lv_at hl 0 rfl) ?_
  refine lv_bipush (v := 10) hx hb dX4_init_5 (by decide) ?_
  refine va_newa (atype := .int) (a0 := (10, .inl (fun _ => 0))) (N' := 10) hx hb (hts _ kw_1_47) (ty := .int) rfl hK hP hD hS hA (fun _ => rfl) (by decide) (by decide) (by decide) (Nat.le_of_ble_eq_true rfl) (Nat.le_of_ble_eq_true rfl) dX4_init_7 (fun q_1 cy_2 H hK hP hD hS => ?_)
  have hK : va_K D vwCl [(cy_2, .int)] s := hK
  have hP : va_P D vwCl [(h0, .inr (4, [.int 0, .null, .int 0, .null, .null, .null, .int 0, .null, .int 0])), (q_1, .inl (cy_2, 10, .inl (fun _ => 0)))] H := hP
  have hD : va_D A [(h0, .inr (4, [.int 0, .null, .int 0, .null, .null, .null, .int 0, .null, .int 0])), (q_1, .inl (cy_2, 10, .inl (fun _ => 0)))] := hD
  refine W.widen (k := 1) (n := 10) (by decide) (by decide) ?_
  refine va_putF (D := D) (ci := 4) (v := .ref q_1) (ty := .array .int) (C := RX4) (T := TX4) (N := 9) hx hb hts inG_X4 tyX4 tyX4_ok nmX4 hown hK hP hD hS 0 rfl rfl 1 (by decide) (hts _ kw_2_15) (fun _ h9 => h9) rfl hin rfl (by decide +kernel) rfl rfl (Nat.le_of_ble_eq_true rfl) dX4_init_9 (fun H locs hP hD hS => ?_)
  have hP : va_P D vwCl [(h0, .inr (4, [.int 0, .ref q_1, .int 0, .null, .null, .null, .int 0, .null, .int 0])), (q_1, .inl (cy_2, 10, .inl (fun _ => 0)))] H := hP
  have hD : va_D A [(h0, .inr (4, [.int 0, .ref q_1, .int 0, .null, .null, .null, .int 0, .null, .int 0])), (q_1, .inl (cy_2, 10, .inl (fun _ => 0)))] := hD
  refine lv_aload_n hx hb dX4_init_12 rfl (lv_at hl 0 rfl) ?_
  refine lv_bipush (v := 100) hx hb dX4_init_13 (by decide) ?_
  refine va_newa (atype := .int) (a0 := (100, .inl (fun _ => 0))) (N' := 100) hx hb (hts _ kw_1_47) (ty := .int) rfl hK hP hD hS hA (fun _ => rfl) (by decide) (by decide) (by decide) (Nat.le_of_ble_eq_true rfl) (Nat.le_of_ble_eq_true rfl) dX4_init_15 (fun q_3 cy_4 H hK hP hD hS => ?_)
  have hK : va_K D vwCl [(cy_2, .int), (cy_4, .int)] s := hK
  have hP : va_P D vwCl [(h0, .inr (4, [.int 0, .ref q_1, .int 0, .null, .null, .null, .int 0, .null, .int 0])), (q_1, .inl (cy_2, 10, .inl (fun _ => 0))), (q_3, .inl (cy_4, 100, .inl (fun _ => 0)))] H := hP
  have hD : va_D A [(h0, .inr (4, [.int 0, .ref q_1, .int 0, .null, .null, .null, .int 0, .null, .int 0])), (q_1, .inl (cy_2, 10, .inl (fun _ => 0))), (q_3, .inl (cy_4, 100, .inl (fun _ => 0)))] := hD
  refine W.widen (k := 2) (n := 110) (by decide) (by decide) ?_
  refine va_putF (D := D) (ci := 4) (v := .ref q_3) (ty := .array .int) (C := RX4) (T := TX4) (N := 9) hx hb hts inG_X4 tyX4 tyX4_ok nmX4 hown hK hP hD hS 0 rfl rfl 3 (by decide) (hts _ kw_2_17) (fun _ h9 => h9) rfl hin rfl (by decide +kernel) rfl rfl (Nat.le_of_ble_eq_true rfl) dX4_init_17 (fun H locs hP hD hS => ?_)
  have hP : va_P D vwCl [(h0, .inr (4, [.int 0, .ref q_1, .int 0, .ref q_3, .null, .null, .int 0, .null, .int 0])), (q_1, .inl (cy_2, 10, .inl (fun _ => 0))), (q_3, .inl (cy_4, 100, .inl (fun _ => 0)))] H := hP
  have hD : va_D A [(h0, .inr (4, [.int 0, .ref q_1, .int 0, .ref q_3, .null, .null, .int 0, .null, .int 0])), (q_1, .inl (cy_2, 10, .inl (fun _ => 0))), (q_3, .inl (cy_4, 100, .inl (fun _ => 0)))] := hD
  refine lv_aload_n hx hb dX4_init_20 rfl (lv_at hl 0 rfl) ?_
  refine lv_bipush (v := 100) hx hb dX4_init_21 (by decide) ?_
  refine va_newa (atype := .int) (a0 := (100, .inl (fun _ => 0))) (N' := 100) hx hb (hts _ kw_1_47) (ty := .int) rfl hK hP hD hS hA (fun _ => rfl) (by decide) (by decide) (by decide) (Nat.le_of_ble_eq_true rfl) (Nat.le_of_ble_eq_true rfl) dX4_init_23 (fun q_5 cy_6 H hK hP hD hS => ?_)
  have hK : va_K D vwCl [(cy_2, .int), (cy_4, .int), (cy_6, .int)] s := hK
  have hP : va_P D vwCl [(h0, .inr (4, [.int 0, .ref q_1, .int 0, .ref q_3, .null, .null, .int 0, .null, .int 0])), (q_1, .inl (cy_2, 10, .inl (fun _ => 0))), (q_3, .inl (cy_4, 100, .inl (fun _ => 0))), (q_5, .inl (cy_6, 100, .inl (fun _ => 0)))] H := hP
  have hD : va_D A [(h0, .inr (4, [.int 0, .ref q_1, .int 0, .ref q_3, .null, .null, .int 0, .null, .int 0])), (q_1, .inl (cy_2, 10, .inl (fun _ => 0))), (q_3, .inl (cy_4, 100, .inl (fun _ => 0))), (q_5, .inl (cy_6, 100, .inl (fun _ => 0)))] := hD
  refine W.widen (k := 3) (n := 210) (by decide) (by decide) ?_
  refine va_putF (D := D) (ci := 4) (v := .ref q_5) (ty := .array .int) (C := RX4) (T := TX4) (N := 9) hx hb hts inG_X4 tyX4 tyX4_ok nmX4 hown hK hP hD hS 0 rfl rfl 4 (by decide) (hts _ kw_2_18) (fun _ h9 => h9) rfl hin rfl (by decide +kernel) rfl rfl (Nat.le_of_ble_eq_true rfl) dX4_init_25 (fun H locs hP hD hS => ?_)
  have hP : va_P D vwCl [(h0, .inr (4, [.int 0, .ref q_1, .int 0, .ref q_3, .ref q_5, .null, .int 0, .null, .int 0])), (q_1, .inl (cy_2, 10, .inl (fun _ => 0))), (q_3, .inl (cy_4, 100, .inl (fun _ => 0))), (q_5, .inl (cy_6, 100, .inl (fun _ => 0)))] H := hP
  have hD : va_D A [(h0, .inr (4, [.int 0, .ref q_1, .int 0, .ref q_3, .ref q_5, .null, .int 0, .null, .int 0])), (q_1, .inl (cy_2, 10, .inl (fun _ => 0))), (q_3, .inl (cy_4, 100, .inl (fun _ => 0))), (q_5, .inl (cy_6, 100, .inl (fun _ => 0)))] := hD
  refine lv_aload_n hx hb dX4_init_28 rfl (lv_at hl 0 rfl) ?_
  refine lv_bipush (v := 100) hx hb dX4_init_29 (by decide) ?_
  refine va_newa (atype := .boolean) (a0 := (100, .inl (fun _ => 0))) (N' := 100) hx hb (hts _ kw_1_177) (ty := .boolean) rfl hK hP hD hS hA (fun _ => rfl) (by decide) (by decide) (by decide) (Nat.le_of_ble_eq_true rfl) (Nat.le_of_ble_eq_true rfl) dX4_init_31 (fun q_7 cy_8 H hK hP hD hS => ?_)
  have hK : va_K D vwCl [(cy_2, .int), (cy_4, .int), (cy_6, .int), (cy_8, .boolean)] s := hK
  have hP : va_P D vwCl [(h0, .inr (4, [.int 0, .ref q_1, .int 0, .ref q_3, .ref q_5, .null, .int 0, .null, .int 0])), (q_1, .inl (cy_2, 10, .inl (fun _ => 0))), (q_3, .inl (cy_4, 100, .inl (fun _ => 0))), (q_5, .inl (cy_6, 100, .inl (fun _ => 0))), (q_7, .inl (cy_8, 100, .inl (fun _ => 0)))] H := hP
  have hD : va_D A [(h0, .inr (4, [.int 0, .ref q_1, .int 0, .ref q_3, .ref q_5, .null, .int 0, .null, .int 0])), (q_1, .inl (cy_2, 10, .inl (fun _ => 0))), (q_3, .inl (cy_4, 100, .inl (fun _ => 0))), (q_5, .inl (cy_6, 100, .inl (fun _ => 0))), (q_7, .inl (cy_8, 100, .inl (fun _ => 0)))] := hD
  refine W.widen (k := 4) (n := 310) (by decide) (by decide) ?_
  refine va_putF (D := D) (ci := 4) (v := .ref q_7) (ty := .array .boolean) (C := RX4) (T := TX4) (N := 9) hx hb hts inG_X4 tyX4 tyX4_ok nmX4 hown hK hP hD hS 0 rfl rfl 5 (by decide) (hts _ kw_2_19) (fun _ h9 => h9) rfl hin rfl (by decide +kernel) rfl rfl (Nat.le_of_ble_eq_true rfl) dX4_init_33 (fun H locs hP hD hS => ?_)
  have hP : va_P D vwCl [(h0, .inr (4, [.int 0, .ref q_1, .int 0, .ref q_3, .ref q_5, .ref q_7, .int 0, .null, .int 0])), (q_1, .inl (cy_2, 10, .inl (fun _ => 0))), (q_3, .inl (cy_4, 100, .inl (fun _ => 0))), (q_5, .inl (cy_6, 100, .inl (fun _ => 0))), (q_7, .inl (cy_8, 100, .inl (fun _ => 0)))] H := hP
  have hD : va_D A [(h0, .inr (4, [.int 0, .ref q_1, .int 0, .ref q_3, .ref q_5, .ref q_7, .int 0, .null, .int 0])), (q_1, .inl (cy_2, 10, .inl (fun _ => 0))), (q_3, .inl (cy_4, 100, .inl (fun _ => 0))), (q_5, .inl (cy_6, 100, .inl (fun _ => 0))), (q_7, .inl (cy_8, 100, .inl (fun _ => 0)))] := hD
  refine lv_aload_n hx hb dX4_init_36 rfl (lv_at hl 0 rfl) ?_
  refine lv_bipush (v := 10) hx hb dX4_init_37 (by decide) ?_
  refine va_newa (atype := .int) (a0 := (10, .inl (fun _ => 0))) (N' := 10) hx hb (hts _ kw_1_47) (ty := .int) rfl hK hP hD hS hA (fun _ => rfl) (by decide) (by decide) (by decide) (Nat.le_of_ble_eq_true rfl) (Nat.le_of_ble_eq_true rfl) dX4_init_39 (fun q_9 cy_10 H hK hP hD hS => ?_)
  have hK : va_K D vwCl [(cy_2, .int), (cy_4, .int), (cy_6, .int), (cy_8, .boolean), (cy_10, .int)] s := hK
  have hP : va_P D vwCl [(h0, .inr (4, [.int 0, .ref q_1, .int 0, .ref q_3, .ref q_5, .ref q_7, .int 0, .null, .int 0])), (q_1, .inl (cy_2, 10, .inl (fun _ => 0))), (q_3, .inl (cy_4, 100, .inl (fun _ => 0))), (q_5, .inl (cy_6, 100, .inl (fun _ => 0))), (q_7, .inl (cy_8, 100, .inl (fun _ => 0))), (q_9, .inl (cy_10, 10, .inl (fun _ => 0)))] H := hP
  have hD : va_D A [(h0, .inr (4, [.int 0, .ref q_1, .int 0, .ref q_3, .ref q_5, .ref q_7, .int 0, .null, .int 0])), (q_1, .inl (cy_2, 10, .inl (fun _ => 0))), (q_3, .inl (cy_4, 100, .inl (fun _ => 0))), (q_5, .inl (cy_6, 100, .inl (fun _ => 0))), (q_7, .inl (cy_8, 100, .inl (fun _ => 0))), (q_9, .inl (cy_10, 10, .inl (fun _ => 0)))] := hD
  refine W.widen (k := 5) (n := 320) (by decide) (by decide) ?_
  refine va_putF (D := D) (ci := 4) (v := .ref q_9) (ty := .array .int) (C := RX4) (T := TX4) (N := 9) hx hb hts inG_X4 tyX4 tyX4_ok nmX4 hown hK hP hD hS 0 rfl rfl 7 (by decide) (hts _ kw_2_21) (fun _ h9 => h9) rfl hin rfl (by decide +kernel) rfl rfl (Nat.le_of_ble_eq_true rfl) dX4_init_41 (fun H locs hP hD hS => ?_)
  have hP : va_P D vwCl [(h0, .inr (4, [.int 0, .ref q_1, .int 0, .ref q_3, .ref q_5, .ref q_7, .int 0, .ref q_9, .int 0])), (q_1, .inl (cy_2, 10, .inl (fun _ => 0))), (q_3, .inl (cy_4, 100, .inl (fun _ => 0))), (q_5, .inl (cy_6, 100, .inl (fun _ => 0))), (q_7, .inl (cy_8, 100, .inl (fun _ => 0))), (q_9, .inl (cy_10, 10, .inl (fun _ => 0)))] H := hP
  have hD : va_D A [(h0, .inr (4, [.int 0, .ref q_1, .int 0, .ref q_3, .ref q_5, .ref q_7, .int 0, .ref q_9, .int 0])), (q_1, .inl (cy_2, 10, .inl (fun _ => 0))), (q_3, .inl (cy_4, 100, .inl (fun _ => 0))), (q_5, .inl (cy_6, 100, .inl (fun _ => 0))), (q_7, .inl (cy_8, 100, .inl (fun _ => 0))), (q_9, .inl (cy_10, 10, .inl (fun _ => 0)))] := hD
  have hP9 := hP.sub (ws' := [(h0, .inr (4, [.int 0, .ref q_1, .int 0, .ref q_3, .ref q_5, .ref q_7, .int 0, .ref q_9, .int 0])), (q_1, .inl (cy_2, 10, .inl (fun _ => 0))), (q_3, .inl (cy_4, 100, .inl (fun _ => 0))), (q_5, .inl (cy_6, 100, .inl (fun _ => 0))), (q_7, .inl (cy_8, 100, .inl (fun _ => 0))), (q_9, .inl (cy_10, 10, .inl (fun _ => 0)))]) [0, 1, 2, 3, 4, 5] rfl
  have hD9 := hD.sub (ws' := [(h0, .inr (4, [.int 0, .ref q_1, .int 0, .ref q_3, .ref q_5, .ref q_7, .int 0, .ref q_9, .int 0])), (q_1, .inl (cy_2, 10, .inl (fun _ => 0))), (q_3, .inl (cy_4, 100, .inl (fun _ => 0))), (q_5, .inl (cy_6, 100, .inl (fun _ => 0))), (q_7, .inl (cy_8, 100, .inl (fun _ => 0))), (q_9, .inl (cy_10, 10, .inl (fun _ => 0)))]) [0, 1, 2, 3, 4, 5] (by decide) rfl
  have hK9 := hK.sub (tys' := [(cy_2, .int), (cy_4, .int), (cy_6, .int), (cy_8, .boolean), (cy_10, .int)]) [0, 1, 2, 3, 4] rfl
  refine W.widen (k := 5) (n := 320) (by decide) (by decide) ?_
  exact W.vret hx hb hr (fun t ht hW => ⟨⟨(q_1, q_3, q_5, q_7, q_9, cy_2, cy_4, cy_6, cy_8, cy_10), rfl, trivial, by rw [ht]; exact hP9, va_K.moved hW.alike hK9, hD9⟩, hS.F ht⟩) hS.2.2 dX4_init_44
theorem dX8_init_0 : decode cX8_init 0 = .ok (.aload_n 0, 1) := by decide +kernel
theorem kw_2_47 : Cond.methodLink RX8 3 Lib.objectInit ∈ gw := gw_t2 (List.mem_of_getElem? (i := 47) (by decide +kernel)) (by decide +kernel)
theorem dX8_init_1 : decode cX8_init 1 = .ok (.invokespecial 3, 3) := by decide +kernel
theorem dX8_init_4 : decode cX8_init 4 = .ok (.aload_n 0, 1) := by decide +kernel
theorem dX8_init_5 : decode cX8_init 5 = .ok (.bipush 100, 2) := by decide +kernel
theorem dX8_init_7 : decode cX8_init 7 = .ok (.newarray .int, 2) := by decide +kernel
theorem inG_X8 : ∀ w ∈ u_ws RX8 TX8 6, w ∈ gw := fun w h => gw_in ((by decide +kernel : ∀ w ∈ u_ws RX8 TX8 6, w ∈ lw_tbl) w h) ((by decide +kernel : ∀ w ∈ u_ws RX8 TX8 6, goodWord w = true) w h)
theorem kw_2_48 : Cond.fieldLink RX8 9 "IceFair$WayOff" "steps" "[I" ∈ gw := gw_t2 (List.mem_of_getElem? (i := 48) (by decide +kernel)) (by decide +kernel)
theorem dX8_init_9 : decode cX8_init 9 = .ok (.putfield 9, 3) := by decide +kernel
theorem dX8_init_12 : decode cX8_init 12 = .ok (.aload_n 0, 1) := by decide +kernel
theorem dX8_init_13 : decode cX8_init 13 = .ok (.bipush 100, 2) := by decide +kernel
theorem dX8_init_15 : decode cX8_init 15 = .ok (.newarray .int, 2) := by decide +kernel
theorem kw_2_49 : Cond.fieldLink RX8 15 "IceFair$WayOff" "queue" "[I" ∈ gw := gw_t2 (List.mem_of_getElem? (i := 49) (by decide +kernel)) (by decide +kernel)
theorem dX8_init_17 : decode cX8_init 17 = .ok (.putfield 15, 3) := by decide +kernel
theorem dX8_init_20 : decode cX8_init 20 = .ok (.aload_n 0, 1) := by decide +kernel
theorem dX8_init_21 : decode cX8_init 21 = .ok (.bipush 40, 2) := by decide +kernel
theorem dX8_init_23 : decode cX8_init 23 = .ok (.newarray .int, 2) := by decide +kernel
theorem kw_2_51 : Cond.fieldLink RX8 18 "IceFair$WayOff" "stepsOfBooth" "[I" ∈ gw := gw_t2 (List.mem_of_getElem? (i := 51) (by decide +kernel)) (by decide +kernel)
theorem dX8_init_25 : decode cX8_init 25 = .ok (.putfield 18, 3) := by decide +kernel
theorem dX8_init_28 : decode cX8_init 28 = .ok (.aload_n 0, 1) := by decide +kernel
theorem dX8_init_29 : decode cX8_init 29 = .ok (.iconst 4, 1) := by decide +kernel
theorem dX8_init_30 : decode cX8_init 30 = .ok (.newarray .int, 2) := by decide +kernel
theorem kw_2_52 : Cond.fieldLink RX8 21 "IceFair$WayOff" "firstSteps" "[I" ∈ gw := gw_t2 (List.mem_of_getElem? (i := 52) (by decide +kernel)) (by decide +kernel)
theorem dX8_init_32 : decode cX8_init 32 = .ok (.putfield 21, 3) := by decide +kernel
theorem dX8_init_35 : decode cX8_init 35 = .ok (.return_, 1) := by decide +kernel
set_option maxHeartbeats 4000000 in
set_option maxRecDepth 100000 in
theorem c_WayOff_init (l : Launch) (D : va_G) (h0 : Nat) : cV l yX8_init (.code yX8_init cX8_init 1 none) ({ frames := 1, cells := 4, slots := 244, locals := 20 }) D [] [(h0, .inr (7, [.null, .null, .int 0, .null, .null, .int 0]))] xT [.ref h0] (S := Nat × Nat × Nat × Nat × ClassId × ClassId × ClassId × ClassId) (fun u => match u with | (q1, q2, q3, q4, cy1, cy2, cy3, cy4) => True) (fun u => match u with | (q1, q2, q3, q4, cy1, cy2, cy3, cy4) => [(cy1, .int), (cy2, .int), (cy3, .int), (cy4, .int)]) (fun u => match u with | (q1, q2, q3, q4, cy1, cy2, cy3, cy4) => [(h0, .inr (7, [.ref q1, .ref q2, .int 0, .ref q3, .ref q4, .int 0])), (q1, .inl (cy1, 100, .inl (fun _ => 0))), (q2, .inl (cy2, 100, .inl (fun _ => 0))), (q3, .inl (cy3, 40, .inl (fun _ => 0))), (q4, .inl (cy4, 4, .inl (fun _ => 0)))]) := by
  intro sz
  refine Met.ofW (cc := cX8_init) (maxL := 1) (ret := none) (by decide) rfl ?_
  intro p e s m args below meth c s₁ B hml hv
  obtain ⟨rfl, hsz, hP, hK, hD0, hX⟩ := hv
  have hx := B.exec
  have hb := B.bytes
  have hr := B.returns
  have hts0 := atoms_spec (ws := .code yX8_init cX8_init 1 none :: gw) B.pre
  have hts := fun (w : Cond) (h : w ∈ gw) => hts0 w (List.mem_cons_of_mem _ h)
  have hown : s.vm.findClass RX8 = some m.cls := findClass_of_methodNamed B.named
  have hlocks := B.notSynchronized
  have hin : meth.name = "<init>" := (name_of_methodNamed B.named B.method).1
  have F : mFix p s m _ c cX8_init 1 RX8 := ⟨hx, hb, hml, hown, hts⟩
  subst hsz
  have hD := hD0.self (sz := s.heap.size)
  generalize hAe : va_A [(h0, .inr (7, [.null, .null, .int 0, .null, .null, .int 0]))] s.heap.size = A at hD hX ⊢
  have hA : ∀ q : Nat, s.heap.size ≤ q → A q := fun q h => by rw [← hAe]; exact Or.inr h
  have hS : va_S A s.heap s.heap [] := va_S.rf
  have hl := lv_entry ([.ref h0]) (n := 1) (Nat.le_of_ble_eq_true rfl)
  rw [lg_entry_eq]
  generalize (lg_sl ([.ref h0]) ++ List.replicate (1 - (lg_sl ([.ref h0])).length) Slot.unset).toArray = ls at hl ⊢
  have hl : lv_has ls 1 [(0, .ref h0)] := hl
  have hP : va_P D vwCl [(h0, .inr (7, [.null, .null, .int 0, .null, .null, .int 0]))] s.heap := hP
  refine lv_aload_n hx hb dX8_init_0 rfl (lv_at hl 0 rfl) ?_
  refine W.objInit hx hb hown (hts _ kw_2_47) (hts _ kw_1_30) (hts _ kw_1_31) rfl (by rw [hml]; exact hl.1) rfl dX8_init_1 (Nat.le_of_ble_eq_true rfl) (Nat.le_of_ble_eq_true rfl) ?_
  refine W.eq (g2 := F0 m 4 ls []) rfl ?_
  refine lv_aload_n hx hb dX8_init_4 rfl (lv_at hl 0 rfl) ?_
  refine lv_bipush (v := 100) hx hb dX8_init_5 (by decide) ?_
  refine va_newa (atype := .int) (a0 := (100, .inl (fun _ => 0))) (N' := 100) hx hb (hts _ kw_1_47) (ty := .int) rfl hK hP hD hS hA (fun _ => rfl) (by decide) (by decide) (by decide) (Nat.le_of_ble_eq_true rfl) (Nat.le_of_ble_eq_true rfl) dX8_init_7 (fun q_1 cy_2 H hK hP hD hS => ?_)
  have hK : va_K D vwCl [(cy_2, .int)] s := hK
  have hP : va_P D vwCl [(h0, .inr (7, [.null, .null, .int 0, .null, .null, .int 0])), (q_1, .inl (cy_2, 100, .inl (fun _ => 0)))] H := hP
  have hD : va_D A [(h0, .inr (7, [.null, .null, .int 0, .null, .null, .int 0])), (q_1, .inl (cy_2, 100, .inl (fun _ => 0)))] := hD
  refine W.widen (k := 1) (n := 100) (by decide) (by decide) ?_
  refine va_putF (D := D) (ci := 7) (v := .ref q_1) (ty := .array .int) (C := RX8) (T := TX8) (N := 6) hx hb hts inG_X8 tyX8 tyX8_ok nmX8 hown hK hP hD hS 0 rfl rfl 0 (by decide) (hts _ kw_2_48) (fun _ h9 => h9) rfl hin rfl (by decide +kernel) rfl rfl (Nat.le_of_ble_eq_true rfl) dX8_init_9 (fun H locs hP hD hS => ?_)
  have hP : va_P D vwCl [(h0, .inr (7, [.ref q_1, .null, .int 0, .null, .null, .int 0])), (q_1, .inl (cy_2, 100, .inl (fun _ => 0)))] H := hP
  have hD : va_D A [(h0, .inr (7, [.ref q_1, .null, .int 0, .null, .null, .int 0])), (q_1, .inl (cy_2, 100, .inl (fun _ => 0)))] := hD
  refine lv_aload_n hx hb dX8_init_12 rfl (lv_at hl 0 rfl) ?_
  refine lv_bipush (v := 100) hx hb dX8_init_13 (by decide) ?_
  refine va_newa (atype := .int) (a0 := (100, .inl (fun _ => 0))) (N' := 100) hx hb (hts _ kw_1_47) (ty := .int) rfl hK hP hD hS hA (fun _ => rfl) (by decide) (by decide) (by decide) (Nat.le_of_ble_eq_true rfl) (Nat.le_of_ble_eq_true rfl) dX8_init_15 (fun q_3 cy_4 H hK hP hD hS => ?_)
  have hK : va_K D vwCl [(cy_2, .int), (cy_4, .int)] s := hK
  have hP : va_P D vwCl [(h0, .inr (7, [.ref q_1, .null, .int 0, .null, .null, .int 0])), (q_1, .inl (cy_2, 100, .inl (fun _ => 0))), (q_3, .inl (cy_4, 100, .inl (fun _ => 0)))] H := hP
  have hD : va_D A [(h0, .inr (7, [.ref q_1, .null, .int 0, .null, .null, .int 0])), (q_1, .inl (cy_2, 100, .inl (fun _ => 0))), (q_3, .inl (cy_4, 100, .inl (fun _ => 0)))] := hD
  refine W.widen (k := 2) (n := 200) (by decide) (by decide) ?_
  refine va_putF (D := D) (ci := 7) (v := .ref q_3) (ty := .array .int) (C := RX8) (T := TX8) (N := 6) hx hb hts inG_X8 tyX8 tyX8_ok nmX8 hown hK hP hD hS 0 rfl rfl 1 (by decide) (hts _ kw_2_49) (fun _ h9 => h9) rfl hin rfl (by decide +kernel) rfl rfl (Nat.le_of_ble_eq_true rfl) dX8_init_17 (fun H locs hP hD hS => ?_)
  have hP : va_P D vwCl [(h0, .inr (7, [.ref q_1, .ref q_3, .int 0, .null, .null, .int 0])), (q_1, .inl (cy_2, 100, .inl (fun _ => 0))), (q_3, .inl (cy_4, 100, .inl (fun _ => 0)))] H := hP
  have hD : va_D A [(h0, .inr (7, [.ref q_1, .ref q_3, .int 0, .null, .null, .int 0])), (q_1, .inl (cy_2, 100, .inl (fun _ => 0))), (q_3, .inl (cy_4, 100, .inl (fun _ => 0)))] := hD
  refine lv_aload_n hx hb dX8_init_20 rfl (lv_at hl 0 rfl) ?_
  refine lv_bipush (v := 40) hx hb dX8_init_21 (by decide) ?_
  refine va_newa (atype := .int) (a0 := (40, .inl (fun _ => 0))) (N' := 40) hx hb (hts _ kw_1_47) (ty := .int) rfl hK hP hD hS hA (fun _ => rfl) (by decide) (by decide) (by decide) (Nat.le_of_ble_eq_true rfl) (Nat.le_of_ble_eq_true rfl) dX8_init_23 (fun q_5 cy_6 H hK hP hD hS => ?_)
  have hK : va_K D vwCl [(cy_2, .int), (cy_4, .int), (cy_6, .int)] s := hK
  have hP : va_P D vwCl [(h0, .inr (7, [.ref q_1, .ref q_3, .int 0, .null, .null, .int 0])), (q_1, .inl (cy_2, 100, .inl (fun _ => 0))), (q_3, .inl (cy_4, 100, .inl (fun _ => 0))), (q_5, .inl (cy_6, 40, .inl (fun _ => 0)))] H := hP
  have hD : va_D A [(h0, .inr (7, [.ref q_1, .ref q_3, .int 0, .null, .null, .int 0])), (q_1, .inl (cy_2, 100, .inl (fun _ => 0))), (q_3, .inl (cy_4, 100, .inl (fun _ => 0))), (q_5, .inl (cy_6, 40, .inl (fun _ => 0)))] := hD
  refine W.widen (k := 3) (n := 240) (by decide) (by decide) ?_
  refine va_putF (D := D) (ci := 7) (v := .ref q_5) (ty := .array .int) (C := RX8) (T := TX8) (N := 6) hx hb hts inG_X8 tyX8 tyX8_ok nmX8 hown hK hP hD hS 0 rfl rfl 3 (by decide) (hts _ kw_2_51) (fun _ h9 => h9) rfl hin rfl (by decide +kernel) rfl rfl (Nat.le_of_ble_eq_true rfl) dX8_init_25 (fun H locs hP hD hS => ?_)
  have hP : va_P D vwCl [(h0, .inr (7, [.ref q_1, .ref q_3, .int 0, .ref q_5, .null, .int 0])), (q_1, .inl (cy_2, 100, .inl (fun _ => 0))), (q_3, .inl (cy_4, 100, .inl (fun _ => 0))), (q_5, .inl (cy_6, 40, .inl (fun _ => 0)))] H := hP
  have hD : va_D A [(h0, .inr (7, [.ref q_1, .ref q_3, .int 0, .ref q_5, .null, .int 0])), (q_1, .inl (cy_2, 100, .inl (fun _ => 0))), (q_3, .inl (cy_4, 100, .inl (fun _ => 0))), (q_5, .inl (cy_6, 40, .inl (fun _ => 0)))] := hD
  refine lv_aload_n hx hb dX8_init_28 rfl (lv_at hl 0 rfl) ?_
  refine lv_iconst (v := 4) hx hb dX8_init_29 (by decide) ?_
  refine va_newa (atype := .int) (a0 := (4, .inl (fun _ => 0))) (N' := 4) hx hb (hts _ kw_1_47) (ty := .int) rfl hK hP hD hS hA (fun _ => rfl) (by decide) (by decide) (by decide) (Nat.le_of_ble_eq_true rfl) (Nat.le_of_ble_eq_true rfl) dX8_init_30 (fun q_7 cy_8 H hK hP hD hS => ?_)
  have hK : va_K D vwCl [(cy_2, .int), (cy_4, .int), (cy_6, .int), (cy_8, .int)] s := hK
  have hP : va_P D vwCl [(h0, .inr (7, [.ref q_1, .ref q_3, .int 0, .ref q_5, .null, .int 0])), (q_1, .inl (cy_2, 100, .inl (fun _ => 0))), (q_3, .inl (cy_4, 100, .inl (fun _ => 0))), (q_5, .inl (cy_6, 40, .inl (fun _ => 0))), (q_7, .inl (cy_8, 4, .inl (fun _ => 0)))] H := hP
  have hD : va_D A [(h0, .inr (7, [.ref q_1, .ref q_3, .int 0, .ref q_5, .null, .int 0])), (q_1, .inl (cy_2, 100, .inl (fun _ => 0))), (q_3, .inl (cy_4, 100, .inl (fun _ => 0))), (q_5, .inl (cy_6, 40, .inl (fun _ => 0))), (q_7, .inl (cy_8, 4, .inl (fun _ => 0)))] := hD
  refine W.widen (k := 4) (n := 244) (by decide) (by decide) ?_
  refine va_putF (D := D) (ci := 7) (v := .ref q_7) (ty := .array .int) (C := RX8) (T := TX8) (N := 6) hx hb hts inG_X8 tyX8 tyX8_ok nmX8 hown hK hP hD hS 0 rfl rfl 4 (by decide) (hts _ kw_2_52) (fun _ h9 => h9) rfl hin rfl (by decide +kernel) rfl rfl (Nat.le_of_ble_eq_true rfl) dX8_init_32 (fun H locs hP hD hS => ?_)
  have hP : va_P D vwCl [(h0, .inr (7, [.ref q_1, .ref q_3, .int 0, .ref q_5, .ref q_7, .int 0])), (q_1, .inl (cy_2, 100, .inl (fun _ => 0))), (q_3, .inl (cy_4, 100, .inl (fun _ => 0))), (q_5, .inl (cy_6, 40, .inl (fun _ => 0))), (q_7, .inl (cy_8, 4, .inl (fun _ => 0)))] H := hP
  have hD : va_D A [(h0, .inr (7, [.ref q_1, .ref q_3, .int 0, .ref q_5, .ref q_7, .int 0])), (q_1, .inl (cy_2, 100, .inl (fun _ => 0))), (q_3, .inl (cy_4, 100, .inl (fun _ => 0))), (q_5, .inl (cy_6, 40, .inl (fun _ => 0))), (q_7, .inl (cy_8, 4, .inl (fun _ => 0)))] := hD
  have hP9 := hP.sub (ws' := [(h0, .inr (7, [.ref q_1, .ref q_3, .int 0, .ref q_5, .ref q_7, .int 0])), (q_1, .inl (cy_2, 100, .inl (fun _ => 0))), (q_3, .inl (cy_4, 100, .inl (fun _ => 0))), (q_5, .inl (cy_6, 40, .inl (fun _ => 0))), (q_7, .inl (cy_8, 4, .inl (fun _ => 0)))]) [0, 1, 2, 3, 4] rfl
  have hD9 := hD.sub (ws' := [(h0, .inr (7, [.ref q_1, .ref q_3, .int 0, .ref q_5, .ref q_7, .int 0])), (q_1, .inl (cy_2, 100, .inl (fun _ => 0))), (q_3, .inl (cy_4, 100, .inl (fun _ => 0))), (q_5, .inl (cy_6, 40, .inl (fun _ => 0))), (q_7, .inl (cy_8, 4, .inl (fun _ => 0)))]) [0, 1, 2, 3, 4] (by decide) rfl
  have hK9 := hK.sub (tys' := [(cy_2, .int), (cy_4, .int), (cy_6, .int), (cy_8, .int)]) [0, 1, 2, 3] rfl
  refine W.widen (k := 4) (n := 244) (by decide) (by decide) ?_
  exact W.vret hx hb hr (fun t ht hW => ⟨⟨(q_1, q_3, q_5, q_7, cy_2, cy_4, cy_6, cy_8), rfl, trivial, by rw [ht]; exact hP9, va_K.moved hW.alike hK9, hD9⟩, hS.F ht⟩) hS.2.2 dX8_init_35
theorem dX3_init_0 : decode cX3_init 0 = .ok (.aload_n 0, 1) := by decide +kernel
theorem kw_1_129 : Cond.methodLink RX3 3 Lib.objectInit ∈ gw := gw_t1 (List.mem_of_getElem? (i := 129) (by decide +kernel)) (by decide +kernel)
theorem dX3_init_1 : decode cX3_init 1 = .ok (.invokespecial 3, 3) := by decide +kernel
theorem dX3_init_4 : decode cX3_init 4 = .ok (.aload_n 0, 1) := by decide +kernel
theorem kw_1_130 : Cond.classLink RX3 9 RX1 ∈ gw := gw_t1 (List.mem_of_getElem? (i := 130) (by decide +kernel)) (by decide +kernel)
theorem kw_1_85 : Cond.instantiable RX1 6 ∈ gw := gw_t1 (List.mem_of_getElem? (i := 85) (by decide +kernel)) (by decide +kernel)
theorem dX3_init_5 : decode cX3_init 5 = .ok (.new 9, 3) := by decide +kernel
theorem dX3_init_8 : decode cX3_init 8 = .ok (.dup, 1) := by decide +kernel
theorem kw_1_88 : Cond.code yX1_init cX1_init 1 none ∈ gw := gw_t1 (List.mem_of_getElem? (i := 88) (by decide +kernel)) (by decide +kernel)
theorem kw_1_131 : Cond.methodLink RX3 11 yX1_init ∈ gw := gw_t1 (List.mem_of_getElem? (i := 131) (by decide +kernel)) (by decide +kernel)
theorem kw_1_87 : Cond.instanceMethod yX1_init ∈ gw := gw_t1 (List.mem_of_getElem? (i := 87) (by decide +kernel)) (by decide +kernel)
theorem gk_X3_11 : (Cond.code yX1_init cX1_init 1 none ∈ gw ∧ Cond.methodLink RX3 11 yX1_init ∈ gw ∧ Cond.instanceMethod yX1_init ∈ gw ∧ Cond.initialized yX1_init.cls ∈ gw) ∧ yX1_init.name = "<init>" ∧ (yX1_init.cls ≠ "java/lang/invoke/MethodHandle" ∧ yX1_init.cls ≠ "java/lang/invoke/VarHandle" ∧ (parseMethodDescriptor yX1_init.desc).map (fun d => d.parameters.length) = some 0) := ⟨⟨kw_1_88, kw_1_131, kw_1_87, kw_1_4⟩, rfl, by decide +kernel⟩
theorem dX3_init_9 : decode cX3_init 9 = .ok (.invokespecial 11, 3) := by decide +kernel
theorem inG_X3 : ∀ w ∈ u_ws RX3 TX3 6, w ∈ gw := fun w h => gw_in ((by decide +kernel : ∀ w ∈ u_ws RX3 TX3 6, w ∈ lw_tbl) w h) ((by decide +kernel : ∀ w ∈ u_ws RX3 TX3 6, goodWord w = true) w h)
theorem kw_1_215 : Cond.fieldLink RX3 12 "IceFair$Fair" "customs" "LIceFair$Customs;" ∈ gw := gw_t1 (List.mem_of_getElem? (i := 215) (by decide +kernel)) (by decide +kernel)
theorem dX3_init_12 : decode cX3_init 12 = .ok (.putfield 12, 3) := by decide +kernel
theorem dX3_init_15 : decode cX3_init 15 = .ok (.aload_n 0, 1) := by decide +kernel
theorem kw_1_132 : Cond.classLink RX3 18 RX6 ∈ gw := gw_t1 (List.mem_of_getElem? (i := 132) (by decide +kernel)) (by decide +kernel)
theorem kw_1_133 : Cond.instantiable RX6 8 ∈ gw := gw_t1 (List.mem_of_getElem? (i := 133) (by decide +kernel)) (by decide +kernel)
theorem dX3_init_16 : decode cX3_init 16 = .ok (.new 18, 3) := by decide +kernel
theorem dX3_init_19 : decode cX3_init 19 = .ok (.dup, 1) := by decide +kernel
theorem kw_1_136 : Cond.code yX6_init cX6_init 1 none ∈ gw := gw_t1 (List.mem_of_getElem? (i := 136) (by decide +kernel)) (by decide +kernel)
theorem kw_1_134 : Cond.methodLink RX3 20 yX6_init ∈ gw := gw_t1 (List.mem_of_getElem? (i := 134) (by decide +kernel)) (by decide +kernel)
theorem kw_1_135 : Cond.instanceMethod yX6_init ∈ gw := gw_t1 (List.mem_of_getElem? (i := 135) (by decide +kernel)) (by decide +kernel)
theorem gk_X3_20 : (Cond.code yX6_init cX6_init 1 none ∈ gw ∧ Cond.methodLink RX3 20 yX6_init ∈ gw ∧ Cond.instanceMethod yX6_init ∈ gw ∧ Cond.initialized yX6_init.cls ∈ gw) ∧ yX6_init.name = "<init>" ∧ (yX6_init.cls ≠ "java/lang/invoke/MethodHandle" ∧ yX6_init.cls ≠ "java/lang/invoke/VarHandle" ∧ (parseMethodDescriptor yX6_init.desc).map (fun d => d.parameters.length) = some 0) := ⟨⟨kw_1_136, kw_1_134, kw_1_135, kw_1_7⟩, rfl, by decide +kernel⟩
theorem dX3_init_20 : decode cX3_init 20 = .ok (.invokespecial 20, 3) := by decide +kernel
theorem kw_1_219 : Cond.fieldLink RX3 21 "IceFair$Fair" "river" "LIceFair$River;" ∈ gw := gw_t1 (List.mem_of_getElem? (i := 219) (by decide +kernel)) (by decide +kernel)
theorem dX3_init_23 : decode cX3_init 23 = .ok (.putfield 21, 3) := by decide +kernel
theorem dX3_init_26 : decode cX3_init 26 = .ok (.aload_n 0, 1) := by decide +kernel
theorem dX3_init_27 : decode cX3_init 27 = .ok (.bipush 10, 2) := by decide +kernel
theorem kw_1_178 : Cond.classLink RX3 25 RX0 ∈ gw := gw_t1 (List.mem_of_getElem? (i := 178) (by decide +kernel)) (by decide +kernel)
theorem dX3_init_29 : decode cX3_init 29 = .ok (.anewarray 25, 3) := by decide +kernel
theorem kw_1_223 : Cond.fieldLink RX3 27 "IceFair$Fair" "booths" "[LIceFair$Booth;" ∈ gw := gw_t1 (List.mem_of_getElem? (i := 223) (by decide +kernel)) (by decide +kernel)
theorem dX3_init_32 : decode cX3_init 32 = .ok (.putfield 27, 3) := by decide +kernel
theorem dX3_init_35 : decode cX3_init 35 = .ok (.iconst 0, 1) := by decide +kernel
theorem dX3_init_36 : decode cX3_init 36 = .ok (.istore_n 1, 1) := by decide +kernel
theorem dX3_init_37 : decode cX3_init 37 = .ok (.iload_n 1, 1) := by decide +kernel
theorem dX3_init_38 : decode cX3_init 38 = .ok (.bipush 10, 2) := by decide +kernel
theorem dX3_init_40 : decode cX3_init 40 = .ok (.if_icmp .ge 22, 3) := by decide +kernel
theorem dX3_init_43 : decode cX3_init 43 = .ok (.aload_n 0, 1) := by decide +kernel
theorem dX3_init_44 : decode cX3_init 44 = .ok (.getfield 27, 3) := by decide +kernel
theorem dX3_init_47 : decode cX3_init 47 = .ok (.iload_n 1, 1) := by decide +kernel
theorem kw_1_180 : Cond.instantiable RX0 7 ∈ gw := gw_t1 (List.mem_of_getElem? (i := 180) (by decide +kernel)) (by decide +kernel)
theorem kw_1_8 : Cond.initialized RX0 ∈ gw := gw_t1 (List.mem_of_getElem? (i := 8) (by decide +kernel)) (by decide +kernel)
theorem inG_X0 : ∀ w ∈ u_ws RX0 TX0 7, w ∈ gw := fun w h => gw_in ((by decide +kernel : ∀ w ∈ u_ws RX0 TX0 7, w ∈ lw_tbl) w h) ((by decide +kernel : ∀ w ∈ u_ws RX0 TX0 7, goodWord w = true) w h)
theorem dX3_init_48 : decode cX3_init 48 = .ok (.new 25, 3) := by decide +kernel
theorem dX3_init_51 : decode cX3_init 51 = .ok (.dup, 1) := by decide +kernel
theorem kw_1_183 : Cond.code yX0_init cX0_init 1 none ∈ gw := gw_t1 (List.mem_of_getElem? (i := 183) (by decide +kernel)) (by decide +kernel)
theorem kw_1_182 : Cond.instanceMethod yX0_init ∈ gw := gw_t1 (List.mem_of_getElem? (i := 182) (by decide +kernel)) (by decide +kernel)
theorem gk_X3_31 : (Cond.code yX0_init cX0_init 1 none ∈ gw ∧ Cond.instanceMethod yX0_init ∈ gw ∧ Cond.initialized yX0_init.cls ∈ gw) ∧ yX0_init.name = "<init>" ∧ (yX0_init.cls ≠ "java/lang/invoke/MethodHandle" ∧ yX0_init.cls ≠ "java/lang/invoke/VarHandle" ∧ (parseMethodDescriptor yX0_init.desc).map (fun d => d.parameters.length) = some 0) := ⟨⟨kw_1_183, kw_1_182, kw_1_8⟩, rfl, by decide +kernel⟩
theorem dX3_init_52 : decode cX3_init 52 = .ok (.invokespecial 31, 3) := by decide +kernel
theorem dX3_init_55 : decode cX3_init 55 = .ok (.aastore, 1) := by decide +kernel
theorem dX3_init_56 : decode cX3_init 56 = .ok (.iinc 1 1, 3) := by decide +kernel
theorem dX3_init_59 : decode cX3_init 59 = .ok (.goto (-22), 3) := by decide +kernel
theorem dX3_init_62 : decode cX3_init 62 = .ok (.return_, 1) := by decide +kernel
set_option maxHeartbeats 4000000 in
set_option maxRecDepth 100000 in
theorem c_Fair_init (l : Launch) (D : va_G) (us : Nat) (h0 : Nat) : cV l yX3_init (.code yX3_init cX3_init 2 none) ({ frames := 3, cells := 23, slots := 714, locals := 100 }) D [] [(h0, .inr (3, [.null, .null, .null, .int 0, .int 0, .int 0]))] (xF us) [.ref h0] (S := (Nat → Nat) × (Nat → ClassId)) (fun u => match u with | (ad, cy) => True) (fun u => match u with | (ad, cy) => [((cy 0), .int), ((cy 1), .int), ((cy 2), .int), ((cy 3), .int), ((cy 4), .int), ((cy 5), .int), ((cy 6), .int), ((cy 7), .int), ((cy 8), .boolean), ((cy 9), .boolean), ((cy 10), .object RX0)]) (fun u => match u with | (ad, cy) => [(h0, .inr (3, [.ref (ad 0), .ref (ad 5), .ref (ad 12), .int 0, .int 0, .int 0])), (ad 0, .inr (1, [.ref (ad 1), .ref (ad 2), .ref (ad 3), .ref (ad 4), .int 0, .int 0])), (ad 1, .inl (cy 0, 8, .inl uF)), (ad 2, .inl (cy 1, 4, .inl (fun _ => 0))), (ad 3, .inl (cy 2, 4, .inl (fun _ => 0))), (ad 4, .inl (cy 3, 4, .inl (fun _ => 0))), (ad 5, .inr (5, [.int 5, .int 5, .ref (ad 6), .ref (ad 7), .ref (ad 8), .ref (ad 9), .ref (ad 10), .ref (ad 11)])), (ad 6, .inl (cy 4, 100, .inl (fun _ => 0))), (ad 7, .inl (cy 5, 100, .inl (fun _ => 0))), (ad 8, .inl (cy 6, 100, .inl (fun _ => 0))), (ad 9, .inl (cy 7, 100, .inl (fun _ => (-1)))), (ad 10, .inl (cy 8, 100, .inl (fun _ => 0))), (ad 11, .inl (cy 9, 100, .inl (fun _ => 0))), (ad 12, .inl (cy 10, 10, .inr (.inr (.inr (.inr (va_up (va_up (va_up (va_up (va_up (va_up (va_up (va_up (va_up (va_up (fun _ => none) 0 (some (ad 13))) 1 (some (ad 14))) 2 (some (ad 15))) 3 (some (ad 16))) 4 (some (ad 17))) 5 (some (ad 18))) 6 (some (ad 19))) 7 (some (ad 20))) 8 (some (ad 21))) 9 (some (ad 22)))))))), (ad 13, .inr (0, [.int 0, .int 0, .int 0, .int 0, .int 0, .int 0, .int 0])), (ad 14, .inr (0, [.int 0, .int 0, .int 0, .int 0, .int 0, .int 0, .int 0])), (ad 15, .inr (0, [.int 0, .int 0, .int 0, .int 0, .int 0, .int 0, .int 0])), (ad 16, .inr (0, [.int 0, .int 0, .int 0, .int 0, .int 0, .int 0, .int 0])), (ad 17, .inr (0, [.int 0, .int 0, .int 0, .int 0, .int 0, .int 0, .int 0])), (ad 18, .inr (0, [.int 0, .int 0, .int 0, .int 0, .int 0, .int 0, .int 0])), (ad 19, .inr (0, [.int 0, .int 0, .int 0, .int 0, .int 0, .int 0, .int 0])), (ad 20, .inr (0, [.int 0, .int 0, .int 0, .int 0, .int 0, .int 0, .int 0])), (ad 21, .inr (0, [.int 0, .int 0, .int 0, .int 0, .int 0, .int 0, .int 0])), (ad 22, .inr (0, [.int 0, .int 0, .int 0, .int 0, .int 0, .int 0, .int 0]))]) := by
  intro sz
  refine Met.ofW (cc := cX3_init) (maxL := 2) (ret := none) (by decide) rfl ?_
  intro p e s m args below meth c s₁ B hml hv
  obtain ⟨rfl, hsz, hP, hK, hD0, hX⟩ := hv
  have hx := B.exec
  have hb := B.bytes
  have hr := B.returns
  have hts0 := atoms_spec (ws := .code yX3_init cX3_init 2 none :: gw) B.pre
  have hts := fun (w : Cond) (h : w ∈ gw) => hts0 w (List.mem_cons_of_mem _ h)
  have hown : s.vm.findClass RX3 = some m.cls := findClass_of_methodNamed B.named
  have hlocks := B.notSynchronized
  have hin : meth.name = "<init>" := (name_of_methodNamed B.named B.method).1
  have F : mFix p s m _ c cX3_init 2 RX3 := ⟨hx, hb, hml, hown, hts⟩
  subst hsz
  have hD := hD0.self (sz := s.heap.size)
  generalize hAe : va_A [(h0, .inr (3, [.null, .null, .null, .int 0, .int 0, .int 0]))] s.heap.size = A at hD hX ⊢
  have hA : ∀ q : Nat, s.heap.size ≤ q → A q := fun q h => by rw [← hAe]; exact Or.inr h
  have hS : va_S A s.heap s.heap [] := va_S.rf
  have hl := lv_entry ([.ref h0]) (n := 2) (Nat.le_of_ble_eq_true rfl)
  rw [lg_entry_eq]
  generalize (lg_sl ([.ref h0]) ++ List.replicate (2 - (lg_sl ([.ref h0])).length) Slot.unset).toArray = ls at hl ⊢
  have hl : lv_has ls 2 [(0, .ref h0)] := hl
  have hP : va_P D vwCl [(h0, .inr (3, [.null, .null, .null, .int 0, .int 0, .int 0]))] s.heap := hP
  refine lv_aload_n hx hb dX3_init_0 rfl (lv_at hl 0 rfl) ?_
  refine W.objInit hx hb hown (hts _ kw_1_129) (hts _ kw_1_30) (hts _ kw_1_31) rfl (by rw [hml]; exact hl.1) rfl dX3_init_1 (Nat.le_of_ble_eq_true rfl) (Nat.le_of_ble_eq_true rfl) ?_
  refine W.eq (g2 := F0 m 4 ls []) rfl ?_
  refine lv_aload_n hx hb dX3_init_4 rfl (lv_at hl 0 rfl) ?_
  refine va_new (ci := 1) (fs := [.null, .null, .null, .null, .int 0, .int 0]) (C := RX1) (T := TX1) (N := 6) hx hb hts inG_X1 tyX1 tyX1_ok hown (hts _ kw_1_130) (hts _ kw_1_85) (hts _ kw_1_4) hK hP hD hS hA rfl (fun j hj => by rcases (show j = 0 ∨ j = 1 ∨ j = 2 ∨ j = 3 ∨ j = 4 ∨ j = 5 by omega) with rfl | rfl | rfl | rfl | rfl | rfl <;> rfl) (Nat.le_of_ble_eq_true rfl) (Nat.le_of_ble_eq_true rfl) dX3_init_5 (fun q_1 H hP hD hS => ?_)
  have hP : va_P D vwCl [(h0, .inr (3, [.null, .null, .null, .int 0, .int 0, .int 0])), (q_1, .inr (1, [.null, .null, .null, .null, .int 0, .int 0]))] H := hP
  have hD : va_D A [(h0, .inr (3, [.null, .null, .null, .int 0, .int 0, .int 0])), (q_1, .inr (1, [.null, .null, .null, .null, .int 0, .int 0]))] := hD
  refine W.widen (k := 1) (n := 6) (by decide) (by decide) ?_
  refine lv_dup hx hb dX3_init_8 rfl ?_
  refine mc_Iv (rest := [.ref q_1, .ref h0]) (wr := [(h0, .inr (3, [.null, .null, .null, .int 0, .int 0, .int 0]))]) F hK hP hD hS hA (c_Customs_init l D us q_1 ) ⟨gk_X3_11.1, gk_X3_11.2.1, gk_X3_11.2.2, Nat.le_of_ble_eq_true rfl, Nat.le_of_ble_eq_true rfl⟩ [1] [0] [] ⟨rfl, rfl, rfl, rfl, by decide⟩ rfl (xU_move us) (xU_use hX.1 hS (va_free hD hS hA [1] rfl)) rfl hl.1 rfl (Nat.le_of_ble_eq_true rfl) dX3_init_9 ⟨Nat.le_of_ble_eq_true rfl, Nat.le_of_ble_eq_true rfl⟩ (fun u H locs hw hK1 hP hD hS => ?_)
  obtain ⟨q1_2, q2_3, q3_4, q4_5, cy1_6, cy2_7, cy3_8, cy4_9⟩ := u
  have hP : va_P D vwCl [(h0, .inr (3, [.null, .null, .null, .int 0, .int 0, .int 0])), (q_1, .inr (1, [.ref q1_2, .ref q2_3, .ref q3_4, .ref q4_5, .int 0, .int 0])), (q1_2, .inl (cy1_6, 8, .inl uF)), (q2_3, .inl (cy2_7, 4, .inl (fun _ => 0))), (q3_4, .inl (cy3_8, 4, .inl (fun _ => 0))), (q4_5, .inl (cy4_9, 4, .inl (fun _ => 0)))] H := hP
  have hD : va_D A [(h0, .inr (3, [.null, .null, .null, .int 0, .int 0, .int 0])), (q_1, .inr (1, [.ref q1_2, .ref q2_3, .ref q3_4, .ref q4_5, .int 0, .int 0])), (q1_2, .inl (cy1_6, 8, .inl uF)), (q2_3, .inl (cy2_7, 4, .inl (fun _ => 0))), (q3_4, .inl (cy3_8, 4, .inl (fun _ => 0))), (q4_5, .inl (cy4_9, 4, .inl (fun _ => 0)))] := hD
  have hK : va_K D vwCl [(cy1_6, .int), (cy2_7, .int), (cy3_8, .int), (cy4_9, .int)] s := hK.app hK1
  refine W.widen (k := 5) (n := 26) (by decide) (by decide) ?_
  refine va_putF (D := D) (ci := 3) (v := .ref q_1) (ty := .object "IceFair$Customs") (C := RX3) (T := TX3) (N := 6) hx hb hts inG_X3 tyX3 tyX3_ok nmX3 hown hK hP hD hS 0 rfl rfl 0 (by decide) (hts _ kw_1_215) (fun _ h9 => h9) rfl hin rfl (by decide +kernel) rfl rfl (Nat.le_of_ble_eq_true rfl) dX3_init_12 (fun H locs hP hD hS => ?_)
  have hP : va_P D vwCl [(h0, .inr (3, [.ref q_1, .null, .null, .int 0, .int 0, .int 0])), (q_1, .inr (1, [.ref q1_2, .ref q2_3, .ref q3_4, .ref q4_5, .int 0, .int 0])), (q1_2, .inl (cy1_6, 8, .inl uF)), (q2_3, .inl (cy2_7, 4, .inl (fun _ => 0))), (q3_4, .inl (cy3_8, 4, .inl (fun _ => 0))), (q4_5, .inl (cy4_9, 4, .inl (fun _ => 0)))] H := hP
  have hD : va_D A [(h0, .inr (3, [.ref q_1, .null, .null, .int 0, .int 0, .int 0])), (q_1, .inr (1, [.ref q1_2, .ref q2_3, .ref q3_4, .ref q4_5, .int 0, .int 0])), (q1_2, .inl (cy1_6, 8, .inl uF)), (q2_3, .inl (cy2_7, 4, .inl (fun _ => 0))), (q3_4, .inl (cy3_8, 4, .inl (fun _ => 0))), (q4_5, .inl (cy4_9, 4, .inl (fun _ => 0)))] := hD
  refine lv_aload_n hx hb dX3_init_15 rfl (lv_at hl 0 rfl) ?_
  refine va_new (ci := 5) (fs := [.int 0, .int 0, .null, .null, .null, .null, .null, .null]) (C := RX6) (T := TX6) (N := 8) hx hb hts inG_X6 tyX6 tyX6_ok hown (hts _ kw_1_132) (hts _ kw_1_133) (hts _ kw_1_7) hK hP hD hS hA rfl (fun j hj => by rcases (show j = 0 ∨ j = 1 ∨ j = 2 ∨ j = 3 ∨ j = 4 ∨ j = 5 ∨ j = 6 ∨ j = 7 by omega) with rfl | rfl | rfl | rfl | rfl | rfl | rfl | rfl <;> rfl) (Nat.le_of_ble_eq_true rfl) (Nat.le_of_ble_eq_true rfl) dX3_init_16 (fun q_12 H hP hD hS => ?_)
  have hP : va_P D vwCl [(h0, .inr (3, [.ref q_1, .null, .null, .int 0, .int 0, .int 0])), (q_1, .inr (1, [.ref q1_2, .ref q2_3, .ref q3_4, .ref q4_5, .int 0, .int 0])), (q1_2, .inl (cy1_6, 8, .inl uF)), (q2_3, .inl (cy2_7, 4, .inl (fun _ => 0))), (q3_4, .inl (cy3_8, 4, .inl (fun _ => 0))), (q4_5, .inl (cy4_9, 4, .inl (fun _ => 0))), (q_12, .inr (5, [.int 0, .int 0, .null, .null, .null, .null, .null, .null]))] H := hP
  have hD : va_D A [(h0, .inr (3, [.ref q_1, .null, .null, .int 0, .int 0, .int 0])), (q_1, .inr (1, [.ref q1_2, .ref q2_3, .ref q3_4, .ref q4_5, .int 0, .int 0])), (q1_2, .inl (cy1_6, 8, .inl uF)), (q2_3, .inl (cy2_7, 4, .inl (fun _ => 0))), (q3_4, .inl (cy3_8, 4, .inl (fun _ => 0))), (q4_5, .inl (cy4_9, 4, .inl (fun _ => 0))), (q_12, .inr (5, [.int 0, .int 0, .null, .null, .null, .null, .null, .null]))] := hD
  refine W.widen (k := 6) (n := 34) (by decide) (by decide) ?_
  refine lv_dup hx hb dX3_init_19 rfl ?_
  refine mc_Iv (rest := [.ref q_12, .ref h0]) (wr := [(h0, .inr (3, [.ref q_1, .null, .null, .int 0, .int 0, .int 0])), (q_1, .inr (1, [.ref q1_2, .ref q2_3, .ref q3_4, .ref q4_5, .int 0, .int 0])), (q1_2, .inl (cy1_6, 8, .inl uF)), (q2_3, .inl (cy2_7, 4, .inl (fun _ => 0))), (q3_4, .inl (cy3_8, 4, .inl (fun _ => 0))), (q4_5, .inl (cy4_9, 4, .inl (fun _ => 0)))]) F hK hP hD hS hA (c_River_init l D q_12 ) ⟨gk_X3_20.1, gk_X3_20.2.1, gk_X3_20.2.2, Nat.le_of_ble_eq_true rfl, Nat.le_of_ble_eq_true rfl⟩ [6] [0, 1, 2, 3, 4, 5] [] ⟨rfl, rfl, rfl, rfl, by decide⟩ rfl xT_move (fun _ _ _ => trivial) rfl hl.1 rfl (Nat.le_of_ble_eq_true rfl) dX3_init_20 ⟨Nat.le_of_ble_eq_true rfl, Nat.le_of_ble_eq_true rfl⟩ (fun u H locs hw hK1 hP hD hS => ?_)
  obtain ⟨q1_13, q2_14, q3_15, q4_16, q5_17, q6_18, cy1_19, cy2_20, cy3_21, cy4_22, cy5_23, cy6_24⟩ := u
  have hP : va_P D vwCl [(h0, .inr (3, [.ref q_1, .null, .null, .int 0, .int 0, .int 0])), (q_1, .inr (1, [.ref q1_2, .ref q2_3, .ref q3_4, .ref q4_5, .int 0, .int 0])), (q1_2, .inl (cy1_6, 8, .inl uF)), (q2_3, .inl (cy2_7, 4, .inl (fun _ => 0))), (q3_4, .inl (cy3_8, 4, .inl (fun _ => 0))), (q4_5, .inl (cy4_9, 4, .inl (fun _ => 0))), (q_12, .inr (5, [.int 5, .int 5, .ref q1_13, .ref q2_14, .ref q3_15, .ref q4_16, .ref q5_17, .ref q6_18])), (q1_13, .inl (cy1_19, 100, .inl (fun _ => 0))), (q2_14, .inl (cy2_20, 100, .inl (fun _ => 0))), (q3_15, .inl (cy3_21, 100, .inl (fun _ => 0))), (q4_16, .inl (cy4_22, 100, .inl (fun _ => (-1)))), (q5_17, .inl (cy5_23, 100, .inl (fun _ => 0))), (q6_18, .inl (cy6_24, 100, .inl (fun _ => 0)))] H := hP
  have hD : va_D A [(h0, .inr (3, [.ref q_1, .null, .null, .int 0, .int 0, .int 0])), (q_1, .inr (1, [.ref q1_2, .ref q2_3, .ref q3_4, .ref q4_5, .int 0, .int 0])), (q1_2, .inl (cy1_6, 8, .inl uF)), (q2_3, .inl (cy2_7, 4, .inl (fun _ => 0))), (q3_4, .inl (cy3_8, 4, .inl (fun _ => 0))), (q4_5, .inl (cy4_9, 4, .inl (fun _ => 0))), (q_12, .inr (5, [.int 5, .int 5, .ref q1_13, .ref q2_14, .ref q3_15, .ref q4_16, .ref q5_17, .ref q6_18])), (q1_13, .inl (cy1_19, 100, .inl (fun _ => 0))), (q2_14, .inl (cy2_20, 100, .inl (fun _ => 0))), (q3_15, .inl (cy3_21, 100, .inl (fun _ => 0))), (q4_16, .inl (cy4_22, 100, .inl (fun _ => (-1)))), (q5_17, .inl (cy5_23, 100, .inl (fun _ => 0))), (q6_18, .inl (cy6_24, 100, .inl (fun _ => 0)))] := hD
  have hK : va_K D vwCl [(cy1_6, .int), (cy2_7, .int), (cy3_8, .int), (cy4_9, .int), (cy1_19, .int), (cy2_20, .int), (cy3_21, .int), (cy4_22, .int), (cy5_23, .boolean), (cy6_24, .boolean)] s := hK.app hK1
  refine W.widen (k := 12) (n := 634) (by decide) (by decide) ?_
  refine va_putF (D := D) (ci := 3) (v := .ref q_12) (ty := .object "IceFair$River") (C := RX3) (T := TX3) (N := 6) hx hb hts inG_X3 tyX3 tyX3_ok nmX3 hown hK hP hD hS 0 rfl rfl 1 (by decide) (hts _ kw_1_219) (fun _ h9 => h9) rfl hin rfl (by decide +kernel) rfl rfl (Nat.le_of_ble_eq_true rfl) dX3_init_23 (fun H locs hP hD hS => ?_)
  have hP : va_P D vwCl [(h0, .inr (3, [.ref q_1, .ref q_12, .null, .int 0, .int 0, .int 0])), (q_1, .inr (1, [.ref q1_2, .ref q2_3, .ref q3_4, .ref q4_5, .int 0, .int 0])), (q1_2, .inl (cy1_6, 8, .inl uF)), (q2_3, .inl (cy2_7, 4, .inl (fun _ => 0))), (q3_4, .inl (cy3_8, 4, .inl (fun _ => 0))), (q4_5, .inl (cy4_9, 4, .inl (fun _ => 0))), (q_12, .inr (5, [.int 5, .int 5, .ref q1_13, .ref q2_14, .ref q3_15, .ref q4_16, .ref q5_17, .ref q6_18])), (q1_13, .inl (cy1_19, 100, .inl (fun _ => 0))), (q2_14, .inl (cy2_20, 100, .inl (fun _ => 0))), (q3_15, .inl (cy3_21, 100, .inl (fun _ => 0))), (q4_16, .inl (cy4_22, 100, .inl (fun _ => (-1)))), (q5_17, .inl (cy5_23, 100, .inl (fun _ => 0))), (q6_18, .inl (cy6_24, 100, .inl (fun _ => 0)))] H := hP
  have hD : va_D A [(h0, .inr (3, [.ref q_1, .ref q_12, .null, .int 0, .int 0, .int 0])), (q_1, .inr (1, [.ref q1_2, .ref q2_3, .ref q3_4, .ref q4_5, .int 0, .int 0])), (q1_2, .inl (cy1_6, 8, .inl uF)), (q2_3, .inl (cy2_7, 4, .inl (fun _ => 0))), (q3_4, .inl (cy3_8, 4, .inl (fun _ => 0))), (q4_5, .inl (cy4_9, 4, .inl (fun _ => 0))), (q_12, .inr (5, [.int 5, .int 5, .ref q1_13, .ref q2_14, .ref q3_15, .ref q4_16, .ref q5_17, .ref q6_18])), (q1_13, .inl (cy1_19, 100, .inl (fun _ => 0))), (q2_14, .inl (cy2_20, 100, .inl (fun _ => 0))), (q3_15, .inl (cy3_21, 100, .inl (fun _ => 0))), (q4_16, .inl (cy4_22, 100, .inl (fun _ => (-1)))), (q5_17, .inl (cy5_23, 100, .inl (fun _ => 0))), (q6_18, .inl (cy6_24, 100, .inl (fun _ => 0)))] := hD
  refine lv_aload_n hx hb dX3_init_26 rfl (lv_at hl 0 rfl) ?_
  refine lv_bipush (v := 10) hx hb dX3_init_27 (by decide) ?_
  refine va_newq (N' := 10) hx hb hown (hts _ kw_1_178) hX.2.2 hK hP hD hS hA (by decide) (by decide) (by decide) (Nat.le_of_ble_eq_true rfl) (Nat.le_of_ble_eq_true rfl) dX3_init_29 (fun q_27 cy_28 H hK hP hD hS => ?_)
  have hK : va_K D vwCl [(cy1_6, .int), (cy2_7, .int), (cy3_8, .int), (cy4_9, .int), (cy1_19, .int), (cy2_20, .int), (cy3_21, .int), (cy4_22, .int), (cy5_23, .boolean), (cy6_24, .boolean), (cy_28, .object RX0)] s := hK
  have hP : va_P D vwCl [(h0, .inr (3, [.ref q_1, .ref q_12, .null, .int 0, .int 0, .int 0])), (q_1, .inr (1, [.ref q1_2, .ref q2_3, .ref q3_4, .ref q4_5, .int 0, .int 0])), (q1_2, .inl (cy1_6, 8, .inl uF)), (q2_3, .inl (cy2_7, 4, .inl (fun _ => 0))), (q3_4, .inl (cy3_8, 4, .inl (fun _ => 0))), (q4_5, .inl (cy4_9, 4, .inl (fun _ => 0))), (q_12, .inr (5, [.int 5, .int 5, .ref q1_13, .ref q2_14, .ref q3_15, .ref q4_16, .ref q5_17, .ref q6_18])), (q1_13, .inl (cy1_19, 100, .inl (fun _ => 0))), (q2_14, .inl (cy2_20, 100, .inl (fun _ => 0))), (q3_15, .inl (cy3_21, 100, .inl (fun _ => 0))), (q4_16, .inl (cy4_22, 100, .inl (fun _ => (-1)))), (q5_17, .inl (cy5_23, 100, .inl (fun _ => 0))), (q6_18, .inl (cy6_24, 100, .inl (fun _ => 0))), (q_27, .inl (cy_28, 10, .inr (.inr (.inr (.inr (fun _ => none))))))] H := hP
  have hD : va_D A [(h0, .inr (3, [.ref q_1, .ref q_12, .null, .int 0, .int 0, .int 0])), (q_1, .inr (1, [.ref q1_2, .ref q2_3, .ref q3_4, .ref q4_5, .int 0, .int 0])), (q1_2, .inl (cy1_6, 8, .inl uF)), (q2_3, .inl (cy2_7, 4, .inl (fun _ => 0))), (q3_4, .inl (cy3_8, 4, .inl (fun _ => 0))), (q4_5, .inl (cy4_9, 4, .inl (fun _ => 0))), (q_12, .inr (5, [.int 5, .int 5, .ref q1_13, .ref q2_14, .ref q3_15, .ref q4_16, .ref q5_17, .ref q6_18])), (q1_13, .inl (cy1_19, 100, .inl (fun _ => 0))), (q2_14, .inl (cy2_20, 100, .inl (fun _ => 0))), (q3_15, .inl (cy3_21, 100, .inl (fun _ => 0))), (q4_16, .inl (cy4_22, 100, .inl (fun _ => (-1)))), (q5_17, .inl (cy5_23, 100, .inl (fun _ => 0))), (q6_18, .inl (cy6_24, 100, .inl (fun _ => 0))), (q_27, .inl (cy_28, 10, .inr (.inr (.inr (.inr (fun _ => none))))))] := hD
  refine W.widen (k := 13) (n := 644) (by decide) (by decide) ?_
  refine va_putF (D := D) (ci := 3) (v := .ref q_27) (ty := .array (.object "IceFair$Booth")) (C := RX3) (T := TX3) (N := 6) hx hb hts inG_X3 tyX3 tyX3_ok nmX3 hown hK hP hD hS 0 rfl rfl 2 (by decide) (hts _ kw_1_223) (fun _ h9 => h9) rfl hin rfl (by decide +kernel) rfl rfl (Nat.le_of_ble_eq_true rfl) dX3_init_32 (fun H locs hP hD hS => ?_)
  have hP : va_P D vwCl [(h0, .inr (3, [.ref q_1, .ref q_12, .ref q_27, .int 0, .int 0, .int 0])), (q_1, .inr (1, [.ref q1_2, .ref q2_3, .ref q3_4, .ref q4_5, .int 0, .int 0])), (q1_2, .inl (cy1_6, 8, .inl uF)), (q2_3, .inl (cy2_7, 4, .inl (fun _ => 0))), (q3_4, .inl (cy3_8, 4, .inl (fun _ => 0))), (q4_5, .inl (cy4_9, 4, .inl (fun _ => 0))), (q_12, .inr (5, [.int 5, .int 5, .ref q1_13, .ref q2_14, .ref q3_15, .ref q4_16, .ref q5_17, .ref q6_18])), (q1_13, .inl (cy1_19, 100, .inl (fun _ => 0))), (q2_14, .inl (cy2_20, 100, .inl (fun _ => 0))), (q3_15, .inl (cy3_21, 100, .inl (fun _ => 0))), (q4_16, .inl (cy4_22, 100, .inl (fun _ => (-1)))), (q5_17, .inl (cy5_23, 100, .inl (fun _ => 0))), (q6_18, .inl (cy6_24, 100, .inl (fun _ => 0))), (q_27, .inl (cy_28, 10, .inr (.inr (.inr (.inr (fun _ => none))))))] H := hP
  have hD : va_D A [(h0, .inr (3, [.ref q_1, .ref q_12, .ref q_27, .int 0, .int 0, .int 0])), (q_1, .inr (1, [.ref q1_2, .ref q2_3, .ref q3_4, .ref q4_5, .int 0, .int 0])), (q1_2, .inl (cy1_6, 8, .inl uF)), (q2_3, .inl (cy2_7, 4, .inl (fun _ => 0))), (q3_4, .inl (cy3_8, 4, .inl (fun _ => 0))), (q4_5, .inl (cy4_9, 4, .inl (fun _ => 0))), (q_12, .inr (5, [.int 5, .int 5, .ref q1_13, .ref q2_14, .ref q3_15, .ref q4_16, .ref q5_17, .ref q6_18])), (q1_13, .inl (cy1_19, 100, .inl (fun _ => 0))), (q2_14, .inl (cy2_20, 100, .inl (fun _ => 0))), (q3_15, .inl (cy3_21, 100, .inl (fun _ => 0))), (q4_16, .inl (cy4_22, 100, .inl (fun _ => (-1)))), (q5_17, .inl (cy5_23, 100, .inl (fun _ => 0))), (q6_18, .inl (cy6_24, 100, .inl (fun _ => 0))), (q_27, .inl (cy_28, 10, .inr (.inr (.inr (.inr (fun _ => none))))))] := hD
  refine lv_iconst (v := 0) hx hb dX3_init_35 (by decide) ?_
  refine lv_istore_n (lv' := [(1, .int 0), (0, .ref h0)]) hx hb dX3_init_36 rfl hl (by decide) rfl (fun ls hl => ?_)
  refine lv_iload_n hx hb dX3_init_37 rfl (lv_at hl 0 rfl) ?_
  refine lv_bipush (v := 10) hx hb dX3_init_38 (by decide) ?_
  refine lv_icmp_ge (tgt := 62) hx hb dX3_init_40 (by decide) (fun c_29 => absurd c_29 (by decide)) (fun c_29 => ?_)
  refine lv_aload_n hx hb dX3_init_43 rfl (lv_at hl 1 rfl) ?_
  refine va_get (D := D) (ci := 3) (v := .ref q_27) (C := RX3) (T := TX3) (N := 6) hx hb hts inG_X3 hown hK hP 0 rfl rfl 2 (by decide) (hts _ kw_1_223) (fun _ h9 => h9) rfl dX3_init_44 ?_
  refine lv_iload_n hx hb dX3_init_47 rfl (lv_at hl 0 rfl) ?_
  refine va_new (ci := 0) (fs := [.int 0, .int 0, .int 0, .int 0, .int 0, .int 0, .int 0]) (C := RX0) (T := TX0) (N := 7) hx hb hts inG_X0 tyX0 tyX0_ok hown (hts _ kw_1_178) (hts _ kw_1_180) (hts _ kw_1_8) hK hP hD hS hA rfl (fun j hj => by rcases (show j = 0 ∨ j = 1 ∨ j = 2 ∨ j = 3 ∨ j = 4 ∨ j = 5 ∨ j = 6 by omega) with rfl | rfl | rfl | rfl | rfl | rfl | rfl <;> rfl) (Nat.le_of_ble_eq_true rfl) (Nat.le_of_ble_eq_true rfl) dX3_init_48 (fun q_30 H hP hD hS => ?_)
  have hP : va_P D vwCl [(h0, .inr (3, [.ref q_1, .ref q_12, .ref q_27, .int 0, .int 0, .int 0])), (q_1, .inr (1, [.ref q1_2, .ref q2_3, .ref q3_4, .ref q4_5, .int 0, .int 0])), (q1_2, .inl (cy1_6, 8, .inl uF)), (q2_3, .inl (cy2_7, 4, .inl (fun _ => 0))), (q3_4, .inl (cy3_8, 4, .inl (fun _ => 0))), (q4_5, .inl (cy4_9, 4, .inl (fun _ => 0))), (q_12, .inr (5, [.int 5, .int 5, .ref q1_13, .ref q2_14, .ref q3_15, .ref q4_16, .ref q5_17, .ref q6_18])), (q1_13, .inl (cy1_19, 100, .inl (fun _ => 0))), (q2_14, .inl (cy2_20, 100, .inl (fun _ => 0))), (q3_15, .inl (cy3_21, 100, .inl (fun _ => 0))), (q4_16, .inl (cy4_22, 100, .inl (fun _ => (-1)))), (q5_17, .inl (cy5_23, 100, .inl (fun _ => 0))), (q6_18, .inl (cy6_24, 100, .inl (fun _ => 0))), (q_27, .inl (cy_28, 10, .inr (.inr (.inr (.inr (fun _ => none)))))), (q_30, .inr (0, [.int 0, .int 0, .int 0, .int 0, .int 0, .int 0, .int 0]))] H := hP
  have hD : va_D A [(h0, .inr (3, [.ref q_1, .ref q_12, .ref q_27, .int 0, .int 0, .int 0])), (q_1, .inr (1, [.ref q1_2, .ref q2_3, .ref q3_4, .ref q4_5, .int 0, .int 0])), (q1_2, .inl (cy1_6, 8, .inl uF)), (q2_3, .inl (cy2_7, 4, .inl (fun _ => 0))), (q3_4, .inl (cy3_8, 4, .inl (fun _ => 0))), (q4_5, .inl (cy4_9, 4, .inl (fun _ => 0))), (q_12, .inr (5, [.int 5, .int 5, .ref q1_13, .ref q2_14, .ref q3_15, .ref q4_16, .ref q5_17, .ref q6_18])), (q1_13, .inl (cy1_19, 100, .inl (fun _ => 0))), (q2_14, .inl (cy2_20, 100, .inl (fun _ => 0))), (q3_15, .inl (cy3_21, 100, .inl (fun _ => 0))), (q4_16, .inl (cy4_22, 100, .inl (fun _ => (-1)))), (q5_17, .inl (cy5_23, 100, .inl (fun _ => 0))), (q6_18, .inl (cy6_24, 100, .inl (fun _ => 0))), (q_27, .inl (cy_28, 10, .inr (.inr (.inr (.inr (fun _ => none)))))), (q_30, .inr (0, [.int 0, .int 0, .int 0, .int 0, .int 0, .int 0, .int 0]))] := hD
  refine W.widen (k := 14) (n := 651) (by decide) (by decide) ?_
  refine lv_dup hx hb dX3_init_51 rfl ?_
  refine mc_Nv (rest := [.ref q_30, .int 0, .ref q_27]) (wr := [(h0, .inr (3, [.ref q_1, .ref q_12, .ref q_27, .int 0, .int 0, .int 0])), (q_1, .inr (1, [.ref q1_2, .ref q2_3, .ref q3_4, .ref q4_5, .int 0, .int 0])), (q1_2, .inl (cy1_6, 8, .inl uF)), (q2_3, .inl (cy2_7, 4, .inl (fun _ => 0))), (q3_4, .inl (cy3_8, 4, .inl (fun _ => 0))), (q4_5, .inl (cy4_9, 4, .inl (fun _ => 0))), (q_12, .inr (5, [.int 5, .int 5, .ref q1_13, .ref q2_14, .ref q3_15, .ref q4_16, .ref q5_17, .ref q6_18])), (q1_13, .inl (cy1_19, 100, .inl (fun _ => 0))), (q2_14, .inl (cy2_20, 100, .inl (fun _ => 0))), (q3_15, .inl (cy3_21, 100, .inl (fun _ => 0))), (q4_16, .inl (cy4_22, 100, .inl (fun _ => (-1)))), (q5_17, .inl (cy5_23, 100, .inl (fun _ => 0))), (q6_18, .inl (cy6_24, 100, .inl (fun _ => 0))), (q_27, .inl (cy_28, 10, .inr (.inr (.inr (.inr (fun _ => none))))))]) F hK hP hD hS hA (c_Booth_init l D q_30 ) ⟨gk_X3_31.1, gk_X3_31.2.1, gk_X3_31.2.2, Nat.le_of_ble_eq_true rfl, Nat.le_of_ble_eq_true rfl⟩ hX.2.1 [14] [0, 1, 2, 3, 4, 5, 6, 7, 8, 9, 10, 11, 12, 13] [] ⟨rfl, rfl, rfl, rfl, by decide⟩ rfl xT_move (fun _ _ _ => trivial) rfl hl.1 rfl (Nat.le_of_ble_eq_true rfl) dX3_init_52 ⟨Nat.le_of_ble_eq_true rfl, Nat.le_of_ble_eq_true rfl⟩ (fun _ H locs hw hK1 hP hD hS => ?_)
  have hP : va_P D vwCl [(h0, .inr (3, [.ref q_1, .ref q_12, .ref q_27, .int 0, .int 0, .int 0])), (q_1, .inr (1, [.ref q1_2, .ref q2_3, .ref q3_4, .ref q4_5, .int 0, .int 0])), (q1_2, .inl (cy1_6, 8, .inl uF)), (q2_3, .inl (cy2_7, 4, .inl (fun _ => 0))), (q3_4, .inl (cy3_8, 4, .inl (fun _ => 0))), (q4_5, .inl (cy4_9, 4, .inl (fun _ => 0))), (q_12, .inr (5, [.int 5, .int 5, .ref q1_13, .ref q2_14, .ref q3_15, .ref q4_16, .ref q5_17, .ref q6_18])), (q1_13, .inl (cy1_19, 100, .inl (fun _ => 0))), (q2_14, .inl (cy2_20, 100, .inl (fun _ => 0))), (q3_15, .inl (cy3_21, 100, .inl (fun _ => 0))), (q4_16, .inl (cy4_22, 100, .inl (fun _ => (-1)))), (q5_17, .inl (cy5_23, 100, .inl (fun _ => 0))), (q6_18, .inl (cy6_24, 100, .inl (fun _ => 0))), (q_27, .inl (cy_28, 10, .inr (.inr (.inr (.inr (fun _ => none)))))), (q_30, .inr (0, [.int 0, .int 0, .int 0, .int 0, .int 0, .int 0, .int 0]))] H := hP
  have hD : va_D A [(h0, .inr (3, [.ref q_1, .ref q_12, .ref q_27, .int 0, .int 0, .int 0])), (q_1, .inr (1, [.ref q1_2, .ref q2_3, .ref q3_4, .ref q4_5, .int 0, .int 0])), (q1_2, .inl (cy1_6, 8, .inl uF)), (q2_3, .inl (cy2_7, 4, .inl (fun _ => 0))), (q3_4, .inl (cy3_8, 4, .inl (fun _ => 0))), (q4_5, .inl (cy4_9, 4, .inl (fun _ => 0))), (q_12, .inr (5, [.int 5, .int 5, .ref q1_13, .ref q2_14, .ref q3_15, .ref q4_16, .ref q5_17, .ref q6_18])), (q1_13, .inl (cy1_19, 100, .inl (fun _ => 0))), (q2_14, .inl (cy2_20, 100, .inl (fun _ => 0))), (q3_15, .inl (cy3_21, 100, .inl (fun _ => 0))), (q4_16, .inl (cy4_22, 100, .inl (fun _ => (-1)))), (q5_17, .inl (cy5_23, 100, .inl (fun _ => 0))), (q6_18, .inl (cy6_24, 100, .inl (fun _ => 0))), (q_27, .inl (cy_28, 10, .inr (.inr (.inr (.inr (fun _ => none)))))), (q_30, .inr (0, [.int 0, .int 0, .int 0, .int 0, .int 0, .int 0, .int 0]))] := hD
  refine va_astq hx hb hK hP hD hS 13 10 14 0 rfl rfl rfl rfl (by unfold vp_in; decide) dX3_init_55 (fun H locs hP hD hS => ?_)
  have hP : va_P D vwCl [(h0, .inr (3, [.ref q_1, .ref q_12, .ref q_27, .int 0, .int 0, .int 0])), (q_1, .inr (1, [.ref q1_2, .ref q2_3, .ref q3_4, .ref q4_5, .int 0, .int 0])), (q1_2, .inl (cy1_6, 8, .inl uF)), (q2_3, .inl (cy2_7, 4, .inl (fun _ => 0))), (q3_4, .inl (cy3_8, 4, .inl (fun _ => 0))), (q4_5, .inl (cy4_9, 4, .inl (fun _ => 0))), (q_12, .inr (5, [.int 5, .int 5, .ref q1_13, .ref q2_14, .ref q3_15, .ref q4_16, .ref q5_17, .ref q6_18])), (q1_13, .inl (cy1_19, 100, .inl (fun _ => 0))), (q2_14, .inl (cy2_20, 100, .inl (fun _ => 0))), (q3_15, .inl (cy3_21, 100, .inl (fun _ => 0))), (q4_16, .inl (cy4_22, 100, .inl (fun _ => (-1)))), (q5_17, .inl (cy5_23, 100, .inl (fun _ => 0))), (q6_18, .inl (cy6_24, 100, .inl (fun _ => 0))), (q_27, .inl (cy_28, 10, .inr (.inr (.inr (.inr (va_up (fun _ => none) 0 (some q_30))))))), (q_30, .inr (0, [.int 0, .int 0, .int 0, .int 0, .int 0, .int 0, .int 0]))] H := hP
  have hD : va_D A [(h0, .inr (3, [.ref q_1, .ref q_12, .ref q_27, .int 0, .int 0, .int 0])), (q_1, .inr (1, [.ref q1_2, .ref q2_3, .ref q3_4, .ref q4_5, .int 0, .int 0])), (q1_2, .inl (cy1_6, 8, .inl uF)), (q2_3, .inl (cy2_7, 4, .inl (fun _ => 0))), (q3_4, .inl (cy3_8, 4, .inl (fun _ => 0))), (q4_5, .inl (cy4_9, 4, .inl (fun _ => 0))), (q_12, .inr (5, [.int 5, .int 5, .ref q1_13, .ref q2_14, .ref q3_15, .ref q4_16, .ref q5_17, .ref q6_18])), (q1_13, .inl (cy1_19, 100, .inl (fun _ => 0))), (q2_14, .inl (cy2_20, 100, .inl (fun _ => 0))), (q3_15, .inl (cy3_21, 100, .inl (fun _ => 0))), (q4_16, .inl (cy4_22, 100, .inl (fun _ => (-1)))), (q5_17, .inl (cy5_23, 100, .inl (fun _ => 0))), (q6_18, .inl (cy6_24, 100, .inl (fun _ => 0))), (q_27, .inl (cy_28, 10, .inr (.inr (.inr (.inr (va_up (fun _ => none) 0 (some q_30))))))), (q_30, .inr (0, [.int 0, .int 0, .int 0, .int 0, .int 0, .int 0, .int 0]))] := hD
  refine lv_iinc (v := 1) (lv' := [(1, .int 1), (0, .ref h0)]) hx hb dX3_init_56 hl (k := 0) rfl (by decide) (by decide) rfl (fun ls hl => ?_)
  refine lv_goto (tgt := 37) hx hb dX3_init_59 (by decide) ?_
  refine lv_iload_n hx hb dX3_init_37 rfl (lv_at hl 0 rfl) ?_
  refine lv_bipush (v := 10) hx hb dX3_init_38 (by decide) ?_
  refine lv_icmp_ge (tgt := 62) hx hb dX3_init_40 (by decide) (fun c_33 => absurd c_33 (by decide)) (fun c_33 => ?_)
  refine lv_aload_n hx hb dX3_init_43 rfl (lv_at hl 1 rfl) ?_
  refine va_get (D := D) (ci := 3) (v := .ref q_27) (C := RX3) (T := TX3) (N := 6) hx hb hts inG_X3 hown hK hP 0 rfl rfl 2 (by decide) (hts _ kw_1_223) (fun _ h9 => h9) rfl dX3_init_44 ?_
  refine lv_iload_n hx hb dX3_init_47 rfl (lv_at hl 0 rfl) ?_
  refine va_new (ci := 0) (fs := [.int 0, .int 0, .int 0, .int 0, .int 0, .int 0, .int 0]) (C := RX0) (T := TX0) (N := 7) hx hb hts inG_X0 tyX0 tyX0_ok hown (hts _ kw_1_178) (hts _ kw_1_180) (hts _ kw_1_8) hK hP hD hS hA rfl (fun j hj => by rcases (show j = 0 ∨ j = 1 ∨ j = 2 ∨ j = 3 ∨ j = 4 ∨ j = 5 ∨ j = 6 by omega) with rfl | rfl | rfl | rfl | rfl | rfl | rfl <;> rfl) (Nat.le_of_ble_eq_true rfl) (Nat.le_of_ble_eq_true rfl) dX3_init_48 (fun q_34 H hP hD hS => ?_)
  have hP : va_P D vwCl [(h0, .inr (3, [.ref q_1, .ref q_12, .ref q_27, .int 0, .int 0, .int 0])), (q_1, .inr (1, [.ref q1_2, .ref q2_3, .ref q3_4, .ref q4_5, .int 0, .int 0])), (q1_2, .inl (cy1_6, 8, .inl uF)), (q2_3, .inl (cy2_7, 4, .inl (fun _ => 0))), (q3_4, .inl (cy3_8, 4, .inl (fun _ => 0))), (q4_5, .inl (cy4_9, 4, .inl (fun _ => 0))), (q_12, .inr (5, [.int 5, .int 5, .ref q1_13, .ref q2_14, .ref q3_15, .ref q4_16, .ref q5_17, .ref q6_18])), (q1_13, .inl (cy1_19, 100, .inl (fun _ => 0))), (q2_14, .inl (cy2_20, 100, .inl (fun _ => 0))), (q3_15, .inl (cy3_21, 100, .inl (fun _ => 0))), (q4_16, .inl (cy4_22, 100, .inl (fun _ => (-1)))), (q5_17, .inl (cy5_23, 100, .inl (fun _ => 0))), (q6_18, .inl (cy6_24, 100, .inl (fun _ => 0))), (q_27, .inl (cy_28, 10, .inr (.inr (.inr (.inr (va_up (fun _ => none) 0 (some q_30))))))), (q_30, .inr (0, [.int 0, .int 0, .int 0, .int 0, .int 0, .int 0, .int 0])), (q_34, .inr (0, [.int 0, .int 0, .int 0, .int 0, .int 0, .int 0, .int 0]))] H := hP
  have hD : va_D A [(h0, .inr (3, [.ref q_1, .ref q_12, .ref q_27, .int 0, .int 0, .int 0])), (q_1, .inr (1, [.ref q1_2, .ref q2_3, .ref q3_4, .ref q4_5, .int 0, .int 0])), (q1_2, .inl (cy1_6, 8, .inl uF)), (q2_3, .inl (cy2_7, 4, .inl (fun _ => 0))), (q3_4, .inl (cy3_8, 4, .inl (fun _ => 0))), (q4_5, .inl (cy4_9, 4, .inl (fun _ => 0))), (q_12, .inr (5, [.int 5, .int 5, .ref q1_13, .ref q2_14, .ref q3_15, .ref q4_16, .ref q5_17, .ref q6_18])), (q1_13, .inl (cy1_19, 100, .inl (fun _ => 0))), (q2_14, .inl (cy2_20, 100, .inl (fun _ => 0))), (q3_15, .inl (cy3_21, 100, .inl (fun _ => 0))), (q4_16, .inl (cy4_22, 100, .inl (fun _ => (-1)))), (q5_17, .inl (cy5_23, 100, .inl (fun _ => 0))), (q6_18, .inl (cy6_24, 100, .inl (fun _ => 0))), (q_27, .inl (cy_28, 10, .inr (.inr (.inr (.inr (va_up (fun _ => none) 0 (some q_30))))))), (q_30, .inr (0, [.int 0, .int 0, .int 0, .int 0, .int 0, .int 0, .int 0])), (q_34, .inr (0, [.int 0, .int 0, .int 0, .int 0, .int 0, .int 0, .int 0]))] := hD
  refine W.widen (k := 15) (n := 658) (by decide) (by decide) ?_
  refine lv_dup hx hb dX3_init_51 rfl ?_
  refine mc_Nv (rest := [.ref q_34, .int 1, .ref q_27]) (wr := [(h0, .inr (3, [.ref q_1, .ref q_12, .ref q_27, .int 0, .int 0, .int 0])), (q_1, .inr (1, [.ref q1_2, .ref q2_3, .ref q3_4, .ref q4_5, .int 0, .int 0])), (q1_2, .inl (cy1_6, 8, .inl uF)), (q2_3, .inl (cy2_7, 4, .inl (fun _ => 0))), (q3_4, .inl (cy3_8, 4, .inl (fun _ => 0))), (q4_5, .inl (cy4_9, 4, .inl (fun _ => 0))), (q_12, .inr (5, [.int 5, .int 5, .ref q1_13, .ref q2_14, .ref q3_15, .ref q4_16, .ref q5_17, .ref q6_18])), (q1_13, .inl (cy1_19, 100, .inl (fun _ => 0))), (q2_14, .inl (cy2_20, 100, .inl (fun _ => 0))), (q3_15, .inl (cy3_21, 100, .inl (fun _ => 0))), (q4_16, .inl (cy4_22, 100, .inl (fun _ => (-1)))), (q5_17, .inl (cy5_23, 100, .inl (fun _ => 0))), (q6_18, .inl (cy6_24, 100, .inl (fun _ => 0))), (q_27, .inl (cy_28, 10, .inr (.inr (.inr (.inr (va_up (fun _ => none) 0 (some q_30))))))), (q_30, .inr (0, [.int 0, .int 0, .int 0, .int 0, .int 0, .int 0, .int 0]))]) F hK hP hD hS hA (c_Booth_init l D q_34 ) ⟨gk_X3_31.1, gk_X3_31.2.1, gk_X3_31.2.2, Nat.le_of_ble_eq_true rfl, Nat.le_of_ble_eq_true rfl⟩ hX.2.1 [15] [0, 1, 2, 3, 4, 5, 6, 7, 8, 9, 10, 11, 12, 13, 14] [] ⟨rfl, rfl, rfl, rfl, by decide⟩ rfl xT_move (fun _ _ _ => trivial) rfl hl.1 rfl (Nat.le_of_ble_eq_true rfl) dX3_init_52 ⟨Nat.le_of_ble_eq_true rfl, Nat.le_of_ble_eq_true rfl⟩ (fun _ H locs hw hK1 hP hD hS => ?_)
  have hP : va_P D vwCl [(h0, .inr (3, [.ref q_1, .ref q_12, .ref q_27, .int 0, .int 0, .int 0])), (q_1, .inr (1, [.ref q1_2, .ref q2_3, .ref q3_4, .ref q4_5, .int 0, .int 0])), (q1_2, .inl (cy1_6, 8, .inl uF)), (q2_3, .inl (cy2_7, 4, .inl (fun _ => 0))), (q3_4, .inl (cy3_8, 4, .inl (fun _ => 0))), (q4_5, .inl (cy4_9, 4, .inl (fun _ => 0))), (q_12, .inr (5, [.int 5, .int 5, .ref q1_13, .ref q2_14, .ref q3_15, .ref q4_16, .ref q5_17, .ref q6_18])), (q1_13, .inl (cy1_19, 100, .inl (fun _ => 0))), (q2_14, .inl (cy2_20, 100, .inl (fun _ => 0))), (q3_15, .inl (cy3_21, 100, .inl (fun _ => 0))), (q4_16, .inl (cy4_22, 100, .inl (fun _ => (-1)))), (q5_17, .inl (cy5_23, 100, .inl (fun _ => 0))), (q6_18, .inl (cy6_24, 100, .inl (fun _ => 0))), (q_27, .inl (cy_28, 10, .inr (.inr (.inr (.inr (va_up (fun _ => none) 0 (some q_30))))))), (q_30, .inr (0, [.int 0, .int 0, .int 0, .int 0, .int 0, .int 0, .int 0])), (q_34, .inr (0, [.int 0, .int 0, .int 0, .int 0, .int 0, .int 0, .int 0]))] H := hP
  have hD : va_D A [(h0, .inr (3, [.ref q_1, .ref q_12, .ref q_27, .int 0, .int 0, .int 0])), (q_1, .inr (1, [.ref q1_2, .ref q2_3, .ref q3_4, .ref q4_5, .int 0, .int 0])), (q1_2, .inl (cy1_6, 8, .inl uF)), (q2_3, .inl (cy2_7, 4, .inl (fun _ => 0))), (q3_4, .inl (cy3_8, 4, .inl (fun _ => 0))), (q4_5, .inl (cy4_9, 4, .inl (fun _ => 0))), (q_12, .inr (5, [.int 5, .int 5, .ref q1_13, .ref q2_14, .ref q3_15, .ref q4_16, .ref q5_17, .ref q6_18])), (q1_13, .inl (cy1_19, 100, .inl (fun _ => 0))), (q2_14, .inl (cy2_20, 100, .inl (fun _ => 0))), (q3_15, .inl (cy3_21, 100, .inl (fun _ => 0))), (q4_16, .inl (cy4_22, 100, .inl (fun _ => (-1)))), (q5_17, .inl (cy5_23, 100, .inl (fun _ => 0))), (q6_18, .inl (cy6_24, 100, .inl (fun _ => 0))), (q_27, .inl (cy_28, 10, .inr (.inr (.inr (.inr (va_up (fun _ => none) 0 (some q_30))))))), (q_30, .inr (0, [.int 0, .int 0, .int 0, .int 0, .int 0, .int 0, .int 0])), (q_34, .inr (0, [.int 0, .int 0, .int 0, .int 0, .int 0, .int 0, .int 0]))] := hD
  refine va_astq hx hb hK hP hD hS 13 10 15 0 rfl rfl rfl rfl (by unfold vp_in; decide) dX3_init_55 (fun H locs hP hD hS => ?_)
  have hP : va_P D vwCl [(h0, .inr (3, [.ref q_1, .ref q_12, .ref q_27, .int 0, .int 0, .int 0])), (q_1, .inr (1, [.ref q1_2, .ref q2_3, .ref q3_4, .ref q4_5, .int 0, .int 0])), (q1_2, .inl (cy1_6, 8, .inl uF)), (q2_3, .inl (cy2_7, 4, .inl (fun _ => 0))), (q3_4, .inl (cy3_8, 4, .inl (fun _ => 0))), (q4_5, .inl (cy4_9, 4, .inl (fun _ => 0))), (q_12, .inr (5, [.int 5, .int 5, .ref q1_13, .ref q2_14, .ref q3_15, .ref q4_16, .ref q5_17, .ref q6_18])), (q1_13, .inl (cy1_19, 100, .inl (fun _ => 0))), (q2_14, .inl (cy2_20, 100, .inl (fun _ => 0))), (q3_15, .inl (cy3_21, 100, .inl (fun _ => 0))), (q4_16, .inl (cy4_22, 100, .inl (fun _ => (-1)))), (q5_17, .inl (cy5_23, 100, .inl (fun _ => 0))), (q6_18, .inl (cy6_24, 100, .inl (fun _ => 0))), (q_27, .inl (cy_28, 10, .inr (.inr (.inr (.inr (va_up (va_up (fun _ => none) 0 (some q_30)) 1 (some q_34))))))), (q_30, .inr (0, [.int 0, .int 0, .int 0, .int 0, .int 0, .int 0, .int 0])), (q_34, .inr (0, [.int 0, .int 0, .int 0, .int 0, .int 0, .int 0, .int 0]))] H := hP
  have hD : va_D A [(h0, .inr (3, [.ref q_1, .ref q_12, .ref q_27, .int 0, .int 0, .int 0])), (q_1, .inr (1, [.ref q1_2, .ref q2_3, .ref q3_4, .ref q4_5, .int 0, .int 0])), (q1_2, .inl (cy1_6, 8, .inl uF)), (q2_3, .inl (cy2_7, 4, .inl (fun _ => 0))), (q3_4, .inl (cy3_8, 4, .inl (fun _ => 0))), (q4_5, .inl (cy4_9, 4, .inl (fun _ => 0))), (q_12, .inr (5, [.int 5, .int 5, .ref q1_13, .ref q2_14, .ref q3_15, .ref q4_16, .ref q5_17, .ref q6_18])), (q1_13, .inl (cy1_19, 100, .inl (fun _ => 0))), (q2_14, .inl (cy2_20, 100, .inl (fun _ => 0))), (q3_15, .inl (cy3_21, 100, .inl (fun _ => 0))), (q4_16, .inl (cy4_22, 100, .inl (fun _ => (-1)))), (q5_17, .inl (cy5_23, 100, .inl (fun _ => 0))), (q6_18, .inl (cy6_24, 100, .inl (fun _ => 0))), (q_27, .inl (cy_28, 10, .inr (.inr (.inr (.inr (va_up (va_up (fun _ => none) 0 (some q_30)) 1 (some q_34))))))), (q_30, .inr (0, [.int 0, .int 0, .int 0, .int 0, .int 0, .int 0, .int 0])), (q_34, .inr (0, [.int 0, .int 0, .int 0, .int 0, .int 0, .int 0, .int 0]))] := hD
  refine lv_iinc (v := 2) (lv' := [(1, .int 2), (0, .ref h0)]) hx hb dX3_init_56 hl (k := 0) rfl (by decide) (by decide) rfl (fun ls hl => ?_)
  refine lv_goto (tgt := 37) hx hb dX3_init_59 (by decide) ?_
  refine lv_iload_n hx hb dX3_init_37 rfl (lv_at hl 0 rfl) ?_
  refine lv_bipush (v := 10) hx hb dX3_init_38 (by decide) ?_
  refine lv_icmp_ge (tgt := 62) hx hb dX3_init_40 (by decide) (fun c_37 => absurd c_37 (by decide)) (fun c_37 => ?_)
  refine lv_aload_n hx hb dX3_init_43 rfl (lv_at hl 1 rfl) ?_
  refine va_get (D := D) (ci := 3) (v := .ref q_27) (C := RX3) (T := TX3) (N := 6) hx hb hts inG_X3 hown hK hP 0 rfl rfl 2 (by decide) (hts _ kw_1_223) (fun _ h9 => h9) rfl dX3_init_44 ?_
  refine lv_iload_n hx hb dX3_init_47 rfl (lv_at hl 0 rfl) ?_
  refine va_new (ci := 0) (fs := [.int 0, .int 0, .int 0, .int 0, .int 0, .int 0, .int 0]) (C := RX0) (T := TX0) (N := 7) hx hb hts inG_X0 tyX0 tyX0_ok hown (hts _ kw_1_178) (hts _ kw_1_180) (hts _ kw_1_8) hK hP hD hS hA rfl (fun j hj => by rcases (show j = 0 ∨ j = 1 ∨ j = 2 ∨ j = 3 ∨ j = 4 ∨ j = 5 ∨ j = 6 by omega) with rfl | rfl | rfl | rfl | rfl | rfl | rfl <;> rfl) (Nat.le_of_ble_eq_true rfl) (Nat.le_of_ble_eq_true rfl) dX3_init_48 (fun q_38 H hP hD hS => ?_)
  have hP : va_P D vwCl [(h0, .inr (3, [.ref q_1, .ref q_12, .ref q_27, .int 0, .int 0, .int 0])), (q_1, .inr (1, [.ref q1_2, .ref q2_3, .ref q3_4, .ref q4_5, .int 0, .int 0])), (q1_2, .inl (cy1_6, 8, .inl uF)), (q2_3, .inl (cy2_7, 4, .inl (fun _ => 0))), (q3_4, .inl (cy3_8, 4, .inl (fun _ => 0))), (q4_5, .inl (cy4_9, 4, .inl (fun _ => 0))), (q_12, .inr (5, [.int 5, .int 5, .ref q1_13, .ref q2_14, .ref q3_15, .ref q4_16, .ref q5_17, .ref q6_18])), (q1_13, .inl (cy1_19, 100, .inl (fun _ => 0))), (q2_14, .inl (cy2_20, 100, .inl (fun _ => 0))), (q3_15, .inl (cy3_21, 100, .inl (fun _ => 0))), (q4_16, .inl (cy4_22, 100, .inl (fun _ => (-1)))), (q5_17, .inl (cy5_23, 100, .inl (fun _ => 0))), (q6_18, .inl (cy6_24, 100, .inl (fun _ => 0))), (q_27, .inl (cy_28, 10, .inr (.inr (.inr (.inr (va_up (va_up (fun _ => none) 0 (some q_30)) 1 (some q_34))))))), (q_30, .inr (0, [.int 0, .int 0, .int 0, .int 0, .int 0, .int 0, .int 0])), (q_34, .inr (0, [.int 0, .int 0, .int 0, .int 0, .int 0, .int 0, .int 0])), (q_38, .inr (0, [.int 0, .int 0, .int 0, .int 0, .int 0, .int 0, .int 0]))] H := hP
  have hD : va_D A [(h0, .inr (3, [.ref q_1, .ref q_12, .ref q_27, .int 0, .int 0, .int 0])), (q_1, .inr (1, [.ref q1_2, .ref q2_3, .ref q3_4, .ref q4_5, .int 0, .int 0])), (q1_2, .inl (cy1_6, 8, .inl uF)), (q2_3, .inl (cy2_7, 4, .inl (fun _ => 0))), (q3_4, .inl (cy3_8, 4, .inl (fun _ => 0))), (q4_5, .inl (cy4_9, 4, .inl (fun _ => 0))), (q_12, .inr (5, [.int 5, .int 5, .ref q1_13, .ref q2_14, .ref q3_15, .ref q4_16, .ref q5_17, .ref q6_18])), (q1_13, .inl (cy1_19, 100, .inl (fun _ => 0))), (q2_14, .inl (cy2_20, 100, .inl (fun _ => 0))), (q3_15, .inl (cy3_21, 100, .inl (fun _ => 0))), (q4_16, .inl (cy4_22, 100, .inl (fun _ => (-1)))), (q5_17, .inl (cy5_23, 100, .inl (fun _ => 0))), (q6_18, .inl (cy6_24, 100, .inl (fun _ => 0))), (q_27, .inl (cy_28, 10, .inr (.inr (.inr (.inr (va_up (va_up (fun _ => none) 0 (some q_30)) 1 (some q_34))))))), (q_30, .inr (0, [.int 0, .int 0, .int 0, .int 0, .int 0, .int 0, .int 0])), (q_34, .inr (0, [.int 0, .int 0, .int 0, .int 0, .int 0, .int 0, .int 0])), (q_38, .inr (0, [.int 0, .int 0, .int 0, .int 0, .int 0, .int 0, .int 0]))] := hD
  refine W.widen (k := 16) (n := 665) (by decide) (by decide) ?_
  refine lv_dup hx hb dX3_init_51 rfl ?_
  refine mc_Nv (rest := [.ref q_38, .int 2, .ref q_27]) (wr := [(h0, .inr (3, [.ref q_1, .ref q_12, .ref q_27, .int 0, .int 0, .int 0])), (q_1, .inr (1, [.ref q1_2, .ref q2_3, .ref q3_4, .ref q4_5, .int 0, .int 0])), (q1_2, .inl (cy1_6, 8, .inl uF)), (q2_3, .inl (cy2_7, 4, .inl (fun _ => 0))), (q3_4, .inl (cy3_8, 4, .inl (fun _ => 0))), (q4_5, .inl (cy4_9, 4, .inl (fun _ => 0))), (q_12, .inr (5, [.int 5, .int 5, .ref q1_13, .ref q2_14, .ref q3_15, .ref q4_16, .ref q5_17, .ref q6_18])), (q1_13, .inl (cy1_19, 100, .inl (fun _ => 0))), (q2_14, .inl (cy2_20, 100, .inl (fun _ => 0))), (q3_15, .inl (cy3_21, 100, .inl (fun _ => 0))), (q4_16, .inl (cy4_22, 100, .inl (fun _ => (-1)))), (q5_17, .inl (cy5_23, 100, .inl (fun _ => 0))), (q6_18, .inl (cy6_24, 100, .inl (fun _ => 0))), (q_27, .inl (cy_28, 10, .inr (.inr (.inr (.inr (va_up (va_up (fun _ => none) 0 (some q_30)) 1 (some q_34))))))), (q_30, .inr (0, [.int 0, .int 0, .int 0, .int 0, .int 0, .int 0, .int 0])), (q_34, .inr (0, [.int 0, .int 0, .int 0, .int 0, .int 0, .int 0, .int 0]))]) F hK hP hD hS hA (c_Booth_init l D q_38 ) ⟨gk_X3_31.1, gk_X3_31.2.1, gk_X3_31.2.2, Nat.le_of_ble_eq_true rfl, Nat.le_of_ble_eq_true rfl⟩ hX.2.1 [16] [0, 1, 2, 3, 4, 5, 6, 7, 8, 9, 10, 11, 12, 13, 14, 15] [] ⟨rfl, rfl, rfl, rfl, by decide⟩ rfl xT_move (fun _ _ _ => trivial) rfl hl.1 rfl (Nat.le_of_ble_eq_true rfl) dX3_init_52 ⟨Nat.le_of_ble_eq_true rfl, Nat.le_of_ble_eq_true rfl⟩ (fun _ H locs hw hK1 hP hD hS => ?_)
  have hP : va_P D vwCl [(h0, .inr (3, [.ref q_1, .ref q_12, .ref q_27, .int 0, .int 0, .int 0])), (q_1, .inr (1, [.ref q1_2, .ref q2_3, .ref q3_4, .ref q4_5, .int 0, .int 0])), (q1_2, .inl (cy1_6, 8, .inl uF)), (q2_3, .inl (cy2_7, 4, .inl (fun _ => 0))), (q3_4, .inl (cy3_8, 4, .inl (fun _ => 0))), (q4_5, .inl (cy4_9, 4, .inl (fun _ => 0))), (q_12, .inr (5, [.int 5, .int 5, .ref q1_13, .ref q2_14, .ref q3_15, .ref q4_16, .ref q5_17, .ref q6_18])), (q1_13, .inl (cy1_19, 100, .inl (fun _ => 0))), (q2_14, .inl (cy2_20, 100, .inl (fun _ => 0))), (q3_15, .inl (cy3_21, 100, .inl (fun _ => 0))), (q4_16, .inl (cy4_22, 100, .inl (fun _ => (-1)))), (q5_17, .inl (cy5_23, 100, .inl (fun _ => 0))), (q6_18, .inl (cy6_24, 100, .inl (fun _ => 0))), (q_27, .inl (cy_28, 10, .inr (.inr (.inr (.inr (va_up (va_up (fun _ => none) 0 (some q_30)) 1 (some q_34))))))), (q_30, .inr (0, [.int 0, .int 0, .int 0, .int 0, .int 0, .int 0, .int 0])), (q_34, .inr (0, [.int 0, .int 0, .int 0, .int 0, .int 0, .int 0, .int 0])), (q_38, .inr (0, [.int 0, .int 0, .int 0, .int 0, .int 0, .int 0, .int 0]))] H := hP
  have hD : va_D A [(h0, .inr (3, [.ref q_1, .ref q_12, .ref q_27, .int 0, .int 0, .int 0])), (q_1, .inr (1, [.ref q1_2, .ref q2_3, .ref q3_4, .ref q4_5, .int 0, .int 0])), (q1_2, .inl (cy1_6, 8, .inl uF)), (q2_3, .inl (cy2_7, 4, .inl (fun _ => 0))), (q3_4, .inl (cy3_8, 4, .inl (fun _ => 0))), (q4_5, .inl (cy4_9, 4, .inl (fun _ => 0))), (q_12, .inr (5, [.int 5, .int 5, .ref q1_13, .ref q2_14, .ref q3_15, .ref q4_16, .ref q5_17, .ref q6_18])), (q1_13, .inl (cy1_19, 100, .inl (fun _ => 0))), (q2_14, .inl (cy2_20, 100, .inl (fun _ => 0))), (q3_15, .inl (cy3_21, 100, .inl (fun _ => 0))), (q4_16, .inl (cy4_22, 100, .inl (fun _ => (-1)))), (q5_17, .inl (cy5_23, 100, .inl (fun _ => 0))), (q6_18, .inl (cy6_24, 100, .inl (fun _ => 0))), (q_27, .inl (cy_28, 10, .inr (.inr (.inr (.inr (va_up (va_up (fun _ => none) 0 (some q_30)) 1 (some q_34))))))), (q_30, .inr (0, [.int 0, .int 0, .int 0, .int 0, .int 0, .int 0, .int 0])), (q_34, .inr (0, [.int 0, .int 0, .int 0, .int 0, .int 0, .int 0, .int 0])), (q_38, .inr (0, [.int 0, .int 0, .int 0, .int 0, .int 0, .int 0, .int 0]))] := hD
  refine va_astq hx hb hK hP hD hS 13 10 16 0 rfl rfl rfl rfl (by unfold vp_in; decide) dX3_init_55 (fun H locs hP hD hS => ?_)
  have hP : va_P D vwCl [(h0, .inr (3, [.ref q_1, .ref q_12, .ref q_27, .int 0, .int 0, .int 0])), (q_1, .inr (1, [.ref q1_2, .ref q2_3, .ref q3_4, .ref q4_5, .int 0, .int 0])), (q1_2, .inl (cy1_6, 8, .inl uF)), (q2_3, .inl (cy2_7, 4, .inl (fun _ => 0))), (q3_4, .inl (cy3_8, 4, .inl (fun _ => 0))), (q4_5, .inl (cy4_9, 4, .inl (fun _ => 0))), (q_12, .inr (5, [.int 5, .int 5, .ref q1_13, .ref q2_14, .ref q3_15, .ref q4_16, .ref q5_17, .ref q6_18])), (q1_13, .inl (cy1_19, 100, .inl (fun _ => 0))), (q2_14, .inl (cy2_20, 100, .inl (fun _ => 0))), (q3_15, .inl (cy3_21, 100, .inl (fun _ => 0))), (q4_16, .inl (cy4_22, 100, .inl (fun _ => (-1)))), (q5_17, .inl (cy5_23, 100, .inl (fun _ => 0))), (q6_18, .inl (cy6_24, 100, .inl (fun _ => 0))), (q_27, .inl (cy_28, 10, .inr (.inr (.inr (.inr (va_up (va_up (va_up (fun _ => none) 0 (some q_30)) 1 (some q_34)) 2 (some q_38))))))), (q_30, .inr (0, [.int 0, .int 0, .int 0, .int 0, .int 0, .int 0, .int 0])), (q_34, .inr (0, [.int 0, .int 0, .int 0, .int 0, .int 0, .int 0, .int 0])), (q_38, .inr (0, [.int 0, .int 0, .int 0, .int 0, .int 0, .int 0, .int 0]))] H := hP
  have hD : va_D A [(h0, .inr (3, [.ref q_1, .ref q_12, .ref q_27, .int 0, .int 0, .int 0])), (q_1, .inr (1, [.ref q1_2, .ref q2_3, .ref q3_4, .ref q4_5, .int 0, .int 0])), (q1_2, .inl (cy1_6, 8, .inl uF)), (q2_3, .inl (cy2_7, 4, .inl (fun _ => 0))), (q3_4, .inl (cy3_8, 4, .inl (fun _ => 0))), (q4_5, .inl (cy4_9, 4, .inl (fun _ => 0))), (q_12, .inr (5, [.int 5, .int 5, .ref q1_13, .ref q2_14, .ref q3_15, .ref q4_16, .ref q5_17, .ref q6_18])), (q1_13, .inl (cy1_19, 100, .inl (fun _ => 0))), (q2_14, .inl (cy2_20, 100, .inl (fun _ => 0))), (q3_15, .inl (cy3_21, 100, .inl (fun _ => 0))), (q4_16, .inl (cy4_22, 100, .inl (fun _ => (-1)))), (q5_17, .inl (cy5_23, 100, .inl (fun _ => 0))), (q6_18, .inl (cy6_24, 100, .inl (fun _ => 0))), (q_27, .inl (cy_28, 10, .inr (.inr (.inr (.inr (va_up (va_up (va_up (fun _ => none) 0 (some q_30)) 1 (some q_34)) 2 (some q_38))))))), (q_30, .inr (0, [.int 0, .int 0, .int 0, .int 0, .int 0, .int 0, .int 0])), (q_34, .inr (0, [.int 0, .int 0, .int 0, .int 0, .int 0, .int 0, .int 0])), (q_38, .inr (0, [.int 0, .int 0, .int 0, .int 0, .int 0, .int 0, .int 0]))] := hD
  refine lv_iinc (v := 3) (lv' := [(1, .int 3), (0, .ref h0)]) hx hb dX3_init_56 hl (k := 0) rfl (by decide) (by decide) rfl (fun ls hl => ?_)
  refine lv_goto (tgt := 37) hx hb dX3_init_59 (by decide) ?_
  refine lv_iload_n hx hb dX3_init_37 rfl (lv_at hl 0 rfl) ?_
  refine lv_bipush (v := 10) hx hb dX3_init_38 (by decide) ?_
  refine lv_icmp_ge (tgt := 62) hx hb dX3_init_40 (by decide) (fun c_41 => absurd c_41 (by decide)) (fun c_41 => ?_)
  refine lv_aload_n hx hb dX3_init_43 rfl (lv_at hl 1 rfl) ?_
  refine va_get (D := D) (ci := 3) (v := .ref q_27) (C := RX3) (T := TX3) (N := 6) hx hb hts inG_X3 hown hK hP 0 rfl rfl 2 (by decide) (hts _ kw_1_223) (fun _ h9 => h9) rfl dX3_init_44 ?_
  refine lv_iload_n hx hb dX3_init_47 rfl (lv_at hl 0 rfl) ?_
  refine va_new (ci := 0) (fs := [.int 0, .int 0, .int 0, .int 0, .int 0, .int 0, .int 0]) (C := RX0) (T := TX0) (N := 7) hx hb hts inG_X0 tyX0 tyX0_ok hown (hts _ kw_1_178) (hts _ kw_1_180) (hts _ kw_1_8) hK hP hD hS hA rfl (fun j hj => by rcases (show j = 0 ∨ j = 1 ∨ j = 2 ∨ j = 3 ∨ j = 4 ∨ j = 5 ∨ j = 6 by omega) with rfl | rfl | rfl | rfl | rfl | rfl | rfl <;> rfl) (Nat.le_of_ble_eq_true rfl) (Nat.le_of_ble_eq_true rfl) dX3_init_48 (fun q_42 H hP hD hS => ?_)
  have hP : va_P D vwCl [(h0, .inr (3, [.ref q_1, .ref q_12, .ref q_27, .int 0, .int 0, .int 0])), (q_1, .inr (1, [.ref q1_2, .ref q2_3, .ref q3_4, .ref q4_5, .int 0, .int 0])), (q1_2, .inl (cy1_6, 8, .inl uF)), (q2_3, .inl (cy2_7, 4, .inl (fun _ => 0))), (q3_4, .inl (cy3_8, 4, .inl (fun _ => 0))), (q4_5, .inl (cy4_9, 4, .inl (fun _ => 0))), (q_12, .inr (5, [.int 5, .int 5, .ref q1_13, .ref q2_14, .ref q3_15, .ref q4_16, .ref q5_17, .ref q6_18])), (q1_13, .inl (cy1_19, 100, .inl (fun _ => 0))), (q2_14, .inl (cy2_20, 100, .inl (fun _ => 0))), (q3_15, .inl (cy3_21, 100, .inl (fun _ => 0))), (q4_16, .inl (cy4_22, 100, .inl (fun _ => (-1)))), (q5_17, .inl (cy5_23, 100, .inl (fun _ => 0))), (q6_18, .inl (cy6_24, 100, .inl (fun _ => 0))), (q_27, .inl (cy_28, 10, .inr (.inr (.inr (.inr (va_up (va_up (va_up (fun _ => none) 0 (some q_30)) 1 (some q_34)) 2 (some q_38))))))), (q_30, .inr (0, [.int 0, .int 0, .int 0, .int 0, .int 0, .int 0, .int 0])), (q_34, .inr (0, [.int 0, .int 0, .int 0, .int 0, .int 0, .int 0, .int 0])), (q_38, .inr (0, [.int 0, .int 0, .int 0, .int 0, .int 0, .int 0, .int 0])), (q_42, .inr (0, [.int 0, .int 0, .int 0, .int 0, .int 0, .int 0, .int 0]))] H := hP
  have hD : va_D A [(h0, .inr (3, [.ref q_1, .ref q_12, .ref q_27, .int 0, .int 0, .int 0])), (q_1, .inr (1, [.ref q1_2, .ref q2_3, .ref q3_4, .ref q4_5, .int 0, .int 0])), (q1_2, .inl (cy1_6, 8, .inl uF)), (q2_3, .inl (cy2_7, 4, .inl (fun _ => 0))), (q3_4, .inl (cy3_8, 4, .inl (fun _ => 0))), (q4_5, .inl (cy4_9, 4, .inl (fun _ => 0))), (q_12, .inr (5, [.int 5, .int 5, .ref q1_13, .ref q2_14, .ref q3_15, .ref q4_16, .ref q5_17, .ref q6_18])), (q1_13, .inl (cy1_19, 100, .inl (fun _ => 0))), (q2_14, .inl (cy2_20, 100, .inl (fun _ => 0))), (q3_15, .inl (cy3_21, 100, .inl (fun _ => 0))), (q4_16, .inl (cy4_22, 100, .inl (fun _ => (-1)))), (q5_17, .inl (cy5_23, 100, .inl (fun _ => 0))), (q6_18, .inl (cy6_24, 100, .inl (fun _ => 0))), (q_27, .inl (cy_28, 10, .inr (.inr (.inr (.inr (va_up (va_up (va_up (fun _ => none) 0 (some q_30)) 1 (some q_34)) 2 (some q_38))))))), (q_30, .inr (0, [.int 0, .int 0, .int 0, .int 0, .int 0, .int 0, .int 0])), (q_34, .inr (0, [.int 0, .int 0, .int 0, .int 0, .int 0, .int 0, .int 0])), (q_38, .inr (0, [.int 0, .int 0, .int 0, .int 0, .int 0, .int 0, .int 0])), (q_42, .inr (0, [.int 0, .int 0, .int 0, .int 0, .int 0, .int 0, .int 0]))] := hD
  refine W.widen (k := 17) (n := 672) (by decide) (by decide) ?_
  refine lv_dup hx hb dX3_init_51 rfl ?_
  refine mc_Nv (rest := [.ref q_42, .int 3, .ref q_27]) (wr := [(h0, .inr (3, [.ref q_1, .ref q_12, .ref q_27, .int 0, .int 0, .int 0])), (q_1, .inr (1, [.ref q1_2, .ref q2_3, .ref q3_4, .ref q4_5, .int 0, .int 0])), (q1_2, .inl (cy1_6, 8, .inl uF)), (q2_3, .inl (cy2_7, 4, .inl (fun _ => 0))), (q3_4, .inl (cy3_8, 4, .inl (fun _ => 0))), (q4_5, .inl (cy4_9, 4, .inl (fun _ => 0))), (q_12, .inr (5, [.int 5, .int 5, .ref q1_13, .ref q2_14, .ref q3_15, .ref q4_16, .ref q5_17, .ref q6_18])), (q1_13, .inl (cy1_19, 100, .inl (fun _ => 0))), (q2_14, .inl (cy2_20, 100, .inl (fun _ => 0))), (q3_15, .inl (cy3_21, 100, .inl (fun _ => 0))), (q4_16, .inl (cy4_22, 100, .inl (fun _ => (-1)))), (q5_17, .inl (cy5_23, 100, .inl (fun _ => 0))), (q6_18, .inl (cy6_24, 100, .inl (fun _ => 0))), (q_27, .inl (cy_28, 10, .inr (.inr (.inr (.inr (va_up (va_up (va_up (fun _ => none) 0 (some q_30)) 1 (some q_34)) 2 (some q_38))))))), (q_30, .inr (0, [.int 0, .int 0, .int 0, .int 0, .int 0, .int 0, .int 0])), (q_34, .inr (0, [.int 0, .int 0, .int 0, .int 0, .int 0, .int 0, .int 0])), (q_38, .inr (0, [.int 0, .int 0, .int 0, .int 0, .int 0, .int 0, .int 0]))]) F hK hP hD hS hA (c_Booth_init l D q_42 ) ⟨gk_X3_31.1, gk_X3_31.2.1, gk_X3_31.2.2, Nat.le_of_ble_eq_true rfl, Nat.le_of_ble_eq_true rfl⟩ hX.2.1 [17] [0, 1, 2, 3, 4, 5, 6, 7, 8, 9, 10, 11, 12, 13, 14, 15, 16] [] ⟨rfl, rfl, rfl, rfl, by decide⟩ rfl xT_move (fun _ _ _ => trivial) rfl hl.1 rfl (Nat.le_of_ble_eq_true rfl) dX3_init_52 ⟨Nat.le_of_ble_eq_true rfl, Nat.le_of_ble_eq_true rfl⟩ (fun _ H locs hw hK1 hP hD hS => ?_)
  have hP : va_P D vwCl [(h0, .inr (3, [.ref q_1, .ref q_12, .ref q_27, .int 0, .int 0, .int 0])), (q_1, .inr (1, [.ref q1_2, .ref q2_3, .ref q3_4, .ref q4_5, .int 0, .int 0])), (q1_2, .inl (cy1_6, 8, .inl uF)), (q2_3, .inl (cy2_7, 4, .inl (fun _ => 0))), (q3_4, .inl (cy3_8, 4, .inl (fun _ => 0))), (q4_5, .inl (cy4_9, 4, .inl (fun _ => 0))), (q_12, .inr (5, [.int 5, .int 5, .ref q1_13, .ref q2_14, .ref q3_15, .ref q4_16, .ref q5_17, .ref q6_18])), (q1_13, .inl (cy1_19, 100, .inl (fun _ => 0))), (q2_14, .inl (cy2_20, 100, .inl (fun _ => 0))), (q3_15, .inl (cy3_21, 100, .inl (fun _ => 0))), (q4_16, .inl (cy4_22, 100, .inl (fun _ => (-1)))), (q5_17, .inl (cy5_23, 100, .inl (fun _ => 0))), (q6_18, .inl (cy6_24, 100, .inl (fun _ => 0))), (q_27, .inl (cy_28, 10, .inr (.inr (.inr (.inr (va_up (va_up (va_up (fun _ => none) 0 (some q_30)) 1 (some q_34)) 2 (some q_38))))))), (q_30, .inr (0, [.int 0, .int 0, .int 0, .int 0, .int 0, .int 0, .int 0])), (q_34, .inr (0, [.int 0, .int 0, .int 0, .int 0, .int 0, .int 0, .int 0])), (q_38, .inr (0, [.int 0, .int 0, .int 0, .int 0, .int 0, .int 0, .int 0])), (q_42, .inr (0, [.int 0, .int 0, .int 0, .int 0, .int 0, .int 0, .int 0]))] H := hP
  have hD : va_D A [(h0, .inr (3, [.ref q_1, .ref q_12, .ref q_27, .int 0, .int 0, .int 0])), (q_1, .inr (1, [.ref q1_2, .ref q2_3, .ref q3_4, .ref q4_5, .int 0, .int 0])), (q1_2, .inl (cy1_6, 8, .inl uF)), (q2_3, .inl (cy2_7, 4, .inl (fun _ => 0))), (q3_4, .inl (cy3_8, 4, .inl (fun _ => 0))), (q4_5, .inl (cy4_9, 4, .inl (fun _ => 0))), (q_12, .inr (5, [.int 5, .int 5, .ref q1_13, .ref q2_14, .ref q3_15, .ref q4_16, .ref q5_17, .ref q6_18])), (q1_13, .inl (cy1_19, 100, .inl (fun _ => 0))), (q2_14, .inl (cy2_20, 100, .inl (fun _ => 0))), (q3_15, .inl (cy3_21, 100, .inl (fun _ => 0))), (q4_16, .inl (cy4_22, 100, .inl (fun _ => (-1)))), (q5_17, .inl (cy5_23, 100, .inl (fun _ => 0))), (q6_18, .inl (cy6_24, 100, .inl (fun _ => 0))), (q_27, .inl (cy_28, 10, .inr (.inr (.inr (.inr (va_up (va_up (va_up (fun _ => none) 0 (some q_30)) 1 (some q_34)) 2 (some q_38))))))), (q_30, .inr (0, [.int 0, .int 0, .int 0, .int 0, .int 0, .int 0, .int 0])), (q_34, .inr (0, [.int 0, .int 0, .int 0, .int 0, .int 0, .int 0, .int 0])), (q_38, .inr (0, [.int 0, .int 0, .int 0, .int 0, .int 0, .int 0, .int 0])), (q_42, .inr (0, [.int 0, .int 0, .int 0, .int 0, .int 0, .int 0, .int 0]))] := hD
  refine va_astq hx hb hK hP hD hS 13 10 17 0 rfl rfl rfl rfl (by unfold vp_in; decide) dX3_init_55 (fun H locs hP hD hS => ?_)
  have hP : va_P D vwCl [(h0, .inr (3, [.ref q_1, .ref q_12, .ref q_27, .int 0, .int 0, .int 0])), (q_1, .inr (1, [.ref q1_2, .ref q2_3, .ref q3_4, .ref q4_5, .int 0, .int 0])), (q1_2, .inl (cy1_6, 8, .inl uF)), (q2_3, .inl (cy2_7, 4, .inl (fun _ => 0))), (q3_4, .inl (cy3_8, 4, .inl (fun _ => 0))), (q4_5, .inl (cy4_9, 4, .inl (fun _ => 0))), (q_12, .inr (5, [.int 5, .int 5, .ref q1_13, .ref q2_14, .ref q3_15, .ref q4_16, .ref q5_17, .ref q6_18])), (q1_13, .inl (cy1_19, 100, .inl (fun _ => 0))), (q2_14, .inl (cy2_20, 100, .inl (fun _ => 0))), (q3_15, .inl (cy3_21, 100, .inl (fun _ => 0))), (q4_16, .inl (cy4_22, 100, .inl (fun _ => (-1)))), (q5_17, .inl (cy5_23, 100, .inl (fun _ => 0))), (q6_18, .inl (cy6_24, 100, .inl (fun _ => 0))), (q_27, .inl (cy_28, 10, .inr (.inr (.inr (.inr (va_up (va_up (va_up (va_up (fun _ => none) 0 (some q_30)) 1 (some q_34)) 2 (some q_38)) 3 (some q_42))))))), (q_30, .inr (0, [.int 0, .int 0, .int 0, .int 0, .int 0, .int 0, .int 0])), (q_34, .inr (0, [.int 0, .int 0, .int 0, .int 0, .int 0, .int 0, .int 0])), (q_38, .inr (0, [.int 0, .int 0, .int 0, .int 0, .int 0, .int 0, .int 0])), (q_42, .inr (0, [.int 0, .int 0, .int 0, .int 0, .int 0, .int 0, .int 0]))] H := hP
  have hD : va_D A [(h0, .inr (3, [.ref q_1, .ref q_12, .ref q_27, .int 0, .int 0, .int 0])), (q_1, .inr (1, [.ref q1_2, .ref q2_3, .ref q3_4, .ref q4_5, .int 0, .int 0])), (q1_2, .inl (cy1_6, 8, .inl uF)), (q2_3, .inl (cy2_7, 4, .inl (fun _ => 0))), (q3_4, .inl (cy3_8, 4, .inl (fun _ => 0))), (q4_5, .inl (cy4_9, 4, .inl (fun _ => 0))), (q_12, .inr (5, [.int 5, .int 5, .ref q1_13, .ref q2_14, .ref q3_15, .ref q4_16, .ref q5_17, .ref q6_18])), (q1_13, .inl (cy1_19, 100, .inl (fun _ => 0))), (q2_14, .inl (cy2_20, 100, .inl (fun _ => 0))), (q3_15, .inl (cy3_21, 100, .inl (fun _ => 0))), (q4_16, .inl (cy4_22, 100, .inl (fun _ => (-1)))), (q5_17, .inl (cy5_23, 100, .inl (fun _ => 0))), (q6_18, .inl (cy6_24, 100, .inl (fun _ => 0))), (q_27, .inl (cy_28, 10, .inr (.inr (.inr (.inr (va_up (va_up (va_up (va_up (fun _ => none) 0 (some q_30)) 1 (some q_34)) 2 (some q_38)) 3 (some q_42))))))), (q_30, .inr (0, [.int 0, .int 0, .int 0, .int 0, .int 0, .int 0, .int 0])), (q_34, .inr (0, [.int 0, .int 0, .int 0, .int 0, .int 0, .int 0, .int 0])), (q_38, .inr (0, [.int 0, .int 0, .int 0, .int 0, .int 0, .int 0, .int 0])), (q_42, .inr (0, [.int 0, .int 0, .int 0, .int 0, .int 0, .int 0, .int 0]))] := hD
  refine lv_iinc (v := 4) (lv' := [(1, .int 4), (0, .ref h0)]) hx hb dX3_init_56 hl (k := 0) rfl (by decide) (by decide) rfl (fun ls hl => ?_)
  refine lv_goto (tgt := 37) hx hb dX3_init_59 (by decide) ?_
  refine lv_iload_n hx hb dX3_init_37 rfl (lv_at hl 0 rfl) ?_
  refine lv_bipush (v := 10) hx hb dX3_init_38 (by decide) ?_
  refine lv_icmp_ge (tgt := 62) hx hb dX3_init_40 (by decide) (fun c_45 => absurd c_45 (by decide)) (fun c_45 => ?_)
  refine lv_aload_n hx hb dX3_init_43 rfl (lv_at hl 1 rfl) ?_
  refine va_get (D := D) (ci := 3) (v := .ref q_27) (C := RX3) (T := TX3) (N := 6) hx hb hts inG_X3 hown hK hP 0 rfl rfl 2 (by decide) (hts _ kw_1_223) (fun _ h9 => h9) rfl dX3_init_44 ?_
  refine lv_iload_n hx hb dX3_init_47 rfl (lv_at hl 0 rfl) ?_
  refine va_new (ci := 0) (fs := [.int 0, .int 0, .int 0, .int 0, .int 0, .int 0, .int 0]) (C := RX0) (T := TX0) (N := 7) hx hb hts inG_X0 tyX0 tyX0_ok hown (hts _ kw_1_178) (hts _ kw_1_180) (hts _ kw_1_8) hK hP hD hS hA rfl (fun j hj => by rcases (show j = 0 ∨ j = 1 ∨ j = 2 ∨ j = 3 ∨ j = 4 ∨ j = 5 ∨ j = 6 by omega) with rfl | rfl | rfl | rfl | rfl | rfl | rfl <;> rfl) (Nat.le_of_ble_eq_true rfl) (Nat.le_of_ble_eq_true rfl) dX3_init_48 (fun q_46 H hP hD hS => ?_)
  have hP : va_P D vwCl [(h0, .inr (3, [.ref q_1, .ref q_12, .ref q_27, .int 0, .int 0, .int 0])), (q_1, .inr (1, [.ref q1_2, .ref q2_3, .ref q3_4, .ref q4_5, .int 0, .int 0])), (q1_2, .inl (cy1_6, 8, .inl uF)), (q2_3, .inl (cy2_7, 4, .inl (fun _ => 0))), (q3_4, .inl (cy3_8, 4, .inl (fun _ => 0))), (q4_5, .inl (cy4_9, 4, .inl (fun _ => 0))), (q_12, .inr (5, [.int 5, .int 5, .ref q1_13, .ref q2_14, .ref q3_15, .ref q4_16, .ref q5_17, .ref q6_18])), (q1_13, .inl (cy1_19, 100, .inl (fun _ => 0))), (q2_14, .inl (cy2_20, 100, .inl (fun _ => 0))), (q3_15, .inl (cy3_21, 100, .inl (fun _ => 0))), (q4_16, .inl (cy4_22, 100, .inl (fun _ => (-1)))), (q5_17, .inl (cy5_23, 100, .inl (fun _ => 0))), (q6_18, .inl (cy6_24, 100, .inl (fun _ => 0))), (q_27, .inl (cy_28, 10, .inr (.inr (.inr (.inr (va_up (va_up (va_up (va_up (fun _ => none) 0 (some q_30)) 1 (some q_34)) 2 (some q_38)) 3 (some q_42))))))), (q_30, .inr (0, [.int 0, .int 0, .int 0, .int 0, .int 0, .int 0, .int 0])), (q_34, .inr (0, [.int 0, .int 0, .int 0, .int 0, .int 0, .int 0, .int 0])), (q_38, .inr (0, [.int 0, .int 0, .int 0, .int 0, .int 0, .int 0, .int 0])), (q_42, .inr (0, [.int 0, .int 0, .int 0, .int 0, .int 0, .int 0, .int 0])), (q_46, .inr (0, [.int 0, .int 0, .int 0, .int 0, .int 0, .int 0, .int 0]))] H := hP
  have hD : va_D A [(h0, .inr (3, [.ref q_1, .ref q_12, .ref q_27, .int 0, .int 0, .int 0])), (q_1, .inr (1, [.ref q1_2, .ref q2_3, .ref q3_4, .ref q4_5, .int 0, .int 0])), (q1_2, .inl (cy1_6, 8, .inl uF)), (q2_3, .inl (cy2_7, 4, .inl (fun _ => 0))), (q3_4, .inl (cy3_8, 4, .inl (fun _ => 0))), (q4_5, .inl (cy4_9, 4, .inl (fun _ => 0))), (q_12, .inr (5, [.int 5, .int 5, .ref q1_13, .ref q2_14, .ref q3_15, .ref q4_16, .ref q5_17, .ref q6_18])), (q1_13, .inl (cy1_19, 100, .inl (fun _ => 0))), (q2_14, .inl (cy2_20, 100, .inl (fun _ => 0))), (q3_15, .inl (cy3_21, 100, .inl (fun _ => 0))), (q4_16, .inl (cy4_22, 100, .inl (fun _ => (-1)))), (q5_17, .inl (cy5_23, 100, .inl (fun _ => 0))), (q6_18, .inl (cy6_24, 100, .inl (fun _ => 0))), (q_27, .inl (cy_28, 10, .inr (.inr (.inr (.inr (va_up (va_up (va_up (va_up (fun _ => none) 0 (some q_30)) 1 (some q_34)) 2 (some q_38)) 3 (some q_42))))))), (q_30, .inr (0, [.int 0, .int 0, .int 0, .int 0, .int 0, .int 0, .int 0])), (q_34, .inr (0, [.int 0, .int 0, .int 0, .int 0, .int 0, .int 0, .int 0])), (q_38, .inr (0, [.int 0, .int 0, .int 0, .int 0, .int 0, .int 0, .int 0])), (q_42, .inr (0, [.int 0, .int 0, .int 0, .int 0, .int 0, .int 0, .int 0])), (q_46, .inr (0, [.int 0, .int 0, .int 0, .int 0, .int 0, .int 0, .int 0]))] := hD
  refine W.widen (k := 18) (n := 679) (by decide) (by decide) ?_
  refine lv_dup hx hb dX3_init_51 rfl ?_
  refine mc_Nv (rest := [.ref q_46, .int 4, .ref q_27]) (wr := [(h0, .inr (3, [.ref q_1, .ref q_12, .ref q_27, .int 0, .int 0, .int 0])), (q_1, .inr (1, [.ref q1_2, .ref q2_3, .ref q3_4, .ref q4_5, .int 0, .int 0])), (q1_2, .inl (cy1_6, 8, .inl uF)), (q2_3, .inl (cy2_7, 4, .inl (fun _ => 0))), (q3_4, .inl (cy3_8, 4, .inl (fun _ => 0))), (q4_5, .inl (cy4_9, 4, .inl (fun _ => 0))), (q_12, .inr (5, [.int 5, .int 5, .ref q1_13, .ref q2_14, .ref q3_15, .ref q4_16, .ref q5_17, .ref q6_18])), (q1_13, .inl (cy1_19, 100, .inl (fun _ => 0))), (q2_14, .inl (cy2_20, 100, .inl (fun _ => 0))), (q3_15, .inl (cy3_21, 100, .inl (fun _ => 0))), (q4_16, .inl (cy4_22, 100, .inl (fun _ => (-1)))), (q5_17, .inl (cy5_23, 100, .inl (fun _ => 0))), (q6_18, .inl (cy6_24, 100, .inl (fun _ => 0))), (q_27, .inl (cy_28, 10, .inr (.inr (.inr (.inr (va_up (va_up (va_up (va_up (fun _ => none) 0 (some q_30)) 1 (some q_34)) 2 (some q_38)) 3 (some q_42))))))), (q_30, .inr (0, [.int 0, .int 0, .int 0, .int 0, .int 0, .int 0, .int 0])), (q_34, .inr (0, [.int 0, .int 0, .int 0, .int 0, .int 0, .int 0, .int 0])), (q_38, .inr (0, [.int 0, .int 0, .int 0, .int 0, .int 0, .int 0, .int 0])), (q_42, .inr (0, [.int 0, .int 0, .int 0, .int 0, .int 0, .int 0, .int 0]))]) F hK hP hD hS hA (c_Booth_init l D q_46 ) ⟨gk_X3_31.1, gk_X3_31.2.1, gk_X3_31.2.2, Nat.le_of_ble_eq_true rfl, Nat.le_of_ble_eq_true rfl⟩ hX.2.1 [18] [0, 1, 2, 3, 4, 5, 6, 7, 8, 9, 10, 11, 12, 13, 14, 15, 16, 17] [] ⟨rfl, rfl, rfl, rfl, by decide⟩ rfl xT_move (fun _ _ _ => trivial) rfl hl.1 rfl (Nat.le_of_ble_eq_true rfl) dX3_init_52 ⟨Nat.le_of_ble_eq_true rfl, Nat.le_of_ble_eq_true rfl⟩ (fun _ H locs hw hK1 hP hD hS => ?_)
  have hP : va_P D vwCl [(h0, .inr (3, [.ref q_1, .ref q_12, .ref q_27, .int 0, .int 0, .int 0])), (q_1, .inr (1, [.ref q1_2, .ref q2_3, .ref q3_4, .ref q4_5, .int 0, .int 0])), (q1_2, .inl (cy1_6, 8, .inl uF)), (q2_3, .inl (cy2_7, 4, .inl (fun _ => 0))), (q3_4, .inl (cy3_8, 4, .inl (fun _ => 0))), (q4_5, .inl (cy4_9, 4, .inl (fun _ => 0))), (q_12, .inr (5, [.int 5, .int 5, .ref q1_13, .ref q2_14, .ref q3_15, .ref q4_16, .ref q5_17, .ref q6_18])), (q1_13, .inl (cy1_19, 100, .inl (fun _ => 0))), (q2_14, .inl (cy2_20, 100, .inl (fun _ => 0))), (q3_15, .inl (cy3_21, 100, .inl (fun _ => 0))), (q4_16, .inl (cy4_22, 100, .inl (fun _ => (-1)))), (q5_17, .inl (cy5_23, 100, .inl (fun _ => 0))), (q6_18, .inl (cy6_24, 100, .inl (fun _ => 0))), (q_27, .inl (cy_28, 10, .inr (.inr (.inr (.inr (va_up (va_up (va_up (va_up (fun _ => none) 0 (some q_30)) 1 (some q_34)) 2 (some q_38)) 3 (some q_42))))))), (q_30, .inr (0, [.int 0, .int 0, .int 0, .int 0, .int 0, .int 0, .int 0])), (q_34, .inr (0, [.int 0, .int 0, .int 0, .int 0, .int 0, .int 0, .int 0])), (q_38, .inr (0, [.int 0, .int 0, .int 0, .int 0, .int 0, .int 0, .int 0])), (q_42, .inr (0, [.int 0, .int 0, .int 0, .int 0, .int 0, .int 0, .int 0])), (q_46, .inr (0, [.int 0, .int 0, .int 0, .int 0, .int 0, .int 0, .int 0]))] H := hP
  have hD : va_D A [(h0, .inr (3, [.ref q_1, .ref q_12, .ref q_27, .int 0, .int 0, .int 0])), (q_1, .inr (1, [.ref q1_2, .ref q2_3, .ref q3_4, .ref q4_5, .int 0, .int 0])), (q1_2, .inl (cy1_6, 8, .inl uF)), (q2_3, .inl (cy2_7, 4, .inl (fun _ => 0))), (q3_4, .inl (cy3_8, 4, .inl (fun _ => 0))), (q4_5, .inl (cy4_9, 4, .inl (fun _ => 0))), (q_12, .inr (5, [.int 5, .int 5, .ref q1_13, .ref q2_14, .ref q3_15, .ref q4_16, .ref q5_17, .ref q6_18])), (q1_13, .inl (cy1_19, 100, .inl (fun _ => 0))), (q2_14, .inl (cy2_20, 100, .inl (fun _ => 0))), (q3_15, .inl (cy3_21, 100, .inl (fun _ => 0))), (q4_16, .inl (cy4_22, 100, .inl (fun _ => (-1)))), (q5_17, .inl (cy5_23, 100, .inl (fun _ => 0))), (q6_18, .inl (cy6_24, 100, .inl (fun _ => 0))), (q_27, .inl (cy_28, 10, .inr (.inr (.inr (.inr (va_up (va_up (va_up (va_up (fun _ => none) 0 (some q_30)) 1 (some q_34)) 2 (some q_38)) 3 (some q_42))))))), (q_30, .inr (0, [.int 0, .int 0, .int 0, .int 0, .int 0, .int 0, .int 0])), (q_34, .inr (0, [.int 0, .int 0, .int 0, .int 0, .int 0, .int 0, .int 0])), (q_38, .inr (0, [.int 0, .int 0, .int 0, .int 0, .int 0, .int 0, .int 0])), (q_42, .inr (0, [.int 0, .int 0, .int 0, .int 0, .int 0, .int 0, .int 0])), (q_46, .inr (0, [.int 0, .int 0, .int 0, .int 0, .int 0, .int 0, .int 0]))] := hD
  refine va_astq hx hb hK hP hD hS 13 10 18 0 rfl rfl rfl rfl (by unfold vp_in; decide) dX3_init_55 (fun H locs hP hD hS => ?_)
  have hP : va_P D vwCl [(h0, .inr (3, [.ref q_1, .ref q_12, .ref q_27, .int 0, .int 0, .int 0])), (q_1, .inr (1, [.ref q1_2, .ref q2_3, .ref q3_4, .ref q4_5, .int 0, .int 0])), (q1_2, .inl (cy1_6, 8, .inl uF)), (q2_3, .inl (cy2_7, 4, .inl (fun _ => 0))), (q3_4, .inl (cy3_8, 4, .inl (fun _ => 0))), (q4_5, .inl (cy4_9, 4, .inl (fun _ => 0))), (q_12, .inr (5, [.int 5, .int 5, .ref q1_13, .ref q2_14, .ref q3_15, .ref q4_16, .ref q5_17, .ref q6_18])), (q1_13, .inl (cy1_19, 100, .inl (fun _ => 0))), (q2_14, .inl (cy2_20, 100, .inl (fun _ => 0))), (q3_15, .inl (cy3_21, 100, .inl (fun _ => 0))), (q4_16, .inl (cy4_22, 100, .inl (fun _ => (-1)))), (q5_17, .inl (cy5_23, 100, .inl (fun _ => 0))), (q6_18, .inl (cy6_24, 100, .inl (fun _ => 0))), (q_27, .inl (cy_28, 10, .inr (.inr (.inr (.inr (va_up (va_up (va_up (va_up (va_up (fun _ => none) 0 (some q_30)) 1 (some q_34)) 2 (some q_38)) 3 (some q_42)) 4 (some q_46))))))), (q_30, .inr (0, [.int 0, .int 0, .int 0, .int 0, .int 0, .int 0, .int 0])), (q_34, .inr (0, [.int 0, .int 0, .int 0, .int 0, .int 0, .int 0, .int 0])), (q_38, .inr (0, [.int 0, .int 0, .int 0, .int 0, .int 0, .int 0, .int 0])), (q_42, .inr (0, [.int 0, .int 0, .int 0, .int 0, .int 0, .int 0, .int 0])), (q_46, .inr (0, [.int 0, .int 0, .int 0, .int 0, .int 0, .int 0, .int 0]))] H := hP
  have hD : va_D A [(h0, .inr (3, [.ref q_1, .ref q_12, .ref q_27, .int 0, .int 0, .int 0])), (q_1, .inr (1, [.ref q1_2, .ref q2_3, .ref q3_4, .ref q4_5, .int 0, .int 0])), (q1_2, .inl (cy1_6, 8, .inl uF)), (q2_3, .inl (cy2_7, 4, .inl (fun _ => 0))), (q3_4, .inl (cy3_8, 4, .inl (fun _ => 0))), (q4_5, .inl (cy4_9, 4, .inl (fun _ => 0))), (q_12, .inr (5, [.int 5, .int 5, .ref q1_13, .ref q2_14, .ref q3_15, .ref q4_16, .ref q5_17, .ref q6_18])), (q1_13, .inl (cy1_19, 100, .inl (fun _ => 0))), (q2_14, .inl (cy2_20, 100, .inl (fun _ => 0))), (q3_15, .inl (cy3_21, 100, .inl (fun _ => 0))), (q4_16, .inl (cy4_22, 100, .inl (fun _ => (-1)))), (q5_17, .inl (cy5_23, 100, .inl (fun _ => 0))), (q6_18, .inl (cy6_24, 100, .inl (fun _ => 0))), (q_27, .inl (cy_28, 10, .inr (.inr (.inr (.inr (va_up (va_up (va_up (va_up (va_up (fun _ => none) 0 (some q_30)) 1 (some q_34)) 2 (some q_38)) 3 (some q_42)) 4 (some q_46))))))), (q_30, .inr (0, [.int 0, .int 0, .int 0, .int 0, .int 0, .int 0, .int 0])), (q_34, .inr (0, [.int 0, .int 0, .int 0, .int 0, .int 0, .int 0, .int 0])), (q_38, .inr (0, [.int 0, .int 0, .int 0, .int 0, .int 0, .int 0, .int 0])), (q_42, .inr (0, [.int 0, .int 0, .int 0, .int 0, .int 0, .int 0, .int 0])), (q_46, .inr (0, [.int 0, .int 0, .int 0, .int 0, .int 0, .int 0, .int 0]))] := hD
  refine lv_iinc (v := 5) (lv' := [(1, .int 5), (0, .ref h0)]) hx hb dX3_init_56 hl (k := 0) rfl (by decide) (by decide) rfl (fun ls hl => ?_)
  refine lv_goto (tgt := 37) hx hb dX3_init_59 (by decide) ?_
  refine lv_iload_n hx hb dX3_init_37 rfl (lv_at hl 0 rfl) ?_
  refine lv_bipush (v := 10) hx hb dX3_init_38 (by decide) ?_
  refine lv_icmp_ge (tgt := 62) hx hb dX3_init_40 (by decide) (fun c_49 => absurd c_49 (by decide)) (fun c_49 => ?_)
  refine lv_aload_n hx hb dX3_init_43 rfl (lv_at hl 1 rfl) ?_
  refine va_get (D := D) (ci := 3) (v := .ref q_27) (C := RX3) (T := TX3) (N := 6) hx hb hts inG_X3 hown hK hP 0 rfl rfl 2 (by decide) (hts _ kw_1_223) (fun _ h9 => h9) rfl dX3_init_44 ?_
  refine lv_iload_n hx hb dX3_init_47 rfl (lv_at hl 0 rfl) ?_
  refine va_new (ci := 0) (fs := [.int 0, .int 0, .int 0, .int 0, .int 0, .int 0, .int 0]) (C := RX0) (T := TX0) (N := 7) hx hb hts inG_X0 tyX0 tyX0_ok hown (hts _ kw_1_178) (hts _ kw_1_180) (hts _ kw_1_8) hK hP hD hS hA rfl (fun j hj => by rcases (show j = 0 ∨ j = 1 ∨ j = 2 ∨ j = 3 ∨ j = 4 ∨ j = 5 ∨ j = 6 by omega) with rfl | rfl | rfl | rfl | rfl | rfl | rfl <;> rfl) (Nat.le_of_ble_eq_true rfl) (Nat.le_of_ble_eq_true rfl) dX3_init_48 (fun q_50 H hP hD hS => ?_)
  have hP : va_P D vwCl [(h0, .inr (3, [.ref q_1, .ref q_12, .ref q_27, .int 0, .int 0, .int 0])), (q_1, .inr (1, [.ref q1_2, .ref q2_3, .ref q3_4, .ref q4_5, .int 0, .int 0])), (q1_2, .inl (cy1_6, 8, .inl uF)), (q2_3, .inl (cy2_7, 4, .inl (fun _ => 0))), (q3_4, .inl (cy3_8, 4, .inl (fun _ => 0))), (q4_5, .inl (cy4_9, 4, .inl (fun _ => 0))), (q_12, .inr (5, [.int 5, .int 5, .ref q1_13, .ref q2_14, .ref q3_15, .ref q4_16, .ref q5_17, .ref q6_18])), (q1_13, .inl (cy1_19, 100, .inl (fun _ => 0))), (q2_14, .inl (cy2_20, 100, .inl (fun _ => 0))), (q3_15, .inl (cy3_21, 100, .inl (fun _ => 0))), (q4_16, .inl (cy4_22, 100, .inl (fun _ => (-1)))), (q5_17, .inl (cy5_23, 100, .inl (fun _ => 0))), (q6_18, .inl (cy6_24, 100, .inl (fun _ => 0))), (q_27, .inl (cy_28, 10, .inr (.inr (.inr (.inr (va_up (va_up (va_up (va_up (va_up (fun _ => none) 0 (some q_30)) 1 (some q_34)) 2 (some q_38)) 3 (some q_42)) 4 (some q_46))))))), (q_30, .inr (0, [.int 0, .int 0, .int 0, .int 0, .int 0, .int 0, .int 0])), (q_34, .inr (0, [.int 0, .int 0, .int 0, .int 0, .int 0, .int 0, .int 0])), (q_38, .inr (0, [.int 0, .int 0, .int 0, .int 0, .int 0, .int 0, .int 0])), (q_42, .inr (0, [.int 0, .int 0, .int 0, .int 0, .int 0, .int 0, .int 0])), (q_46, .inr (0, [.int 0, .int 0, .int 0, .int 0, .int 0, .int 0, .int 0])), (q_50, .inr (0, [.int 0, .int 0, .int 0, .int 0, .int 0, .int 0, .int 0]))] H := hP
  have hD : va_D A [(h0, .inr (3, [.ref q_1, .ref q_12, .ref q_27, .int 0, .int 0, .int 0])), (q_1, .inr (1, [.ref q1_2, .ref q2_3, .ref q3_4, .ref q4_5, .int 0, .int 0])), (q1_2, .inl (cy1_6, 8, .inl uF)), (q2_3, .inl (cy2_7, 4, .inl (fun _ => 0))), (q3_4, .inl (cy3_8, 4, .inl (fun _ => 0))), (q4_5, .inl (cy4_9, 4, .inl (fun _ => 0))), (q_12, .inr (5, [.int 5, .int 5, .ref q1_13, .ref q2_14, .ref q3_15, .ref q4_16, .ref q5_17, .ref q6_18])), (q1_13, .inl (cy1_19, 100, .inl (fun _ => 0))), (q2_14, .inl (cy2_20, 100, .inl (fun _ => 0))), (q3_15, .inl (cy3_21, 100, .inl (fun _ => 0))), (q4_16, .inl (cy4_22, 100, .inl (fun _ => (-1)))), (q5_17, .inl (cy5_23, 100, .inl (fun _ => 0))), (q6_18, .inl (cy6_24, 100, .inl (fun _ => 0))), (q_27, .inl (cy_28, 10, .inr (.inr (.inr (.inr (va_up (va_up (va_up (va_up (va_up (fun _ => none) 0 (some q_30)) 1 (some q_34)) 2 (some q_38)) 3 (some q_42)) 4 (some q_46))))))), (q_30, .inr (0, [.int 0, .int 0, .int 0, .int 0, .int 0, .int 0, .int 0])), (q_34, .inr (0, [.int 0, .int 0, .int 0, .int 0, .int 0, .int 0, .int 0])), (q_38, .inr (0, [.int 0, .int 0, .int 0, .int 0, .int 0, .int 0, .int 0])), (q_42, .inr (0, [.int 0, .int 0, .int 0, .int 0, .int 0, .int 0, .int 0])), (q_46, .inr (0, [.int 0, .int 0, .int 0, .int 0, .int 0, .int 0, .int 0])), (q_50, .inr (0, [.int 0, .int 0, .int 0, .int 0, .int 0, .int 0, .int 0]))] := hD
  refine W.widen (k := 19) (n := 686) (by decide) (by decide) ?_
  refine lv_dup hx hb dX3_init_51 rfl ?_
  refine mc_Nv (rest := [.ref q_50, .int 5, .ref q_27]) (wr := [(h0, .inr (3, [.ref q_1, .ref q_12, .ref q_27, .int 0, .int 0, .int 0])), (q_1, .inr (1, [.ref q1_2, .ref q2_3, .ref q3_4, .ref q4_5, .int 0, .int 0])), (q1_2, .inl (cy1_6, 8, .inl uF)), (q2_3, .inl (cy2_7, 4, .inl (fun _ => 0))), (q3_4, .inl (cy3_8, 4, .inl (fun _ => 0))), (q4_5, .inl (cy4_9, 4, .inl (fun _ => 0))), (q_12, .inr (5, [.int 5, .int 5, .ref q1_13, .ref q2_14, .ref q3_15, .ref q4_16, .ref q5_17, .ref q6_18])), (q1_13, .inl (cy1_19, 100, .inl (fun _ => 0))), (q2_14, .inl (cy2_20, 100, .inl (fun _ => 0))), (q3_15, .inl (cy3_21, 100, .inl (fun _ => 0))), (q4_16, .inl (cy4_22, 100, .inl (fun _ => (-1)))), (q5_17, .inl (cy5_23, 100, .inl (fun _ => 0))), (q6_18, .inl (cy6_24, 100, .inl (fun _ => 0))), (q_27, .inl (cy_28, 10, .inr (.inr (.inr (.inr (va_up (va_up (va_up (va_up (va_up (fun _ => none) 0 (some q_30)) 1 (some q_34)) 2 (some q_38)) 3 (some q_42)) 4 (some q_46))))))), (q_30, .inr (0, [.int 0, .int 0, .int 0, .int 0, .int 0, .int 0, .int 0])), (q_34, .inr (0, [.int 0, .int 0, .int 0, .int 0, .int 0, .int 0, .int 0])), (q_38, .inr (0, [.int 0, .int 0, .int 0, .int 0, .int 0, .int 0, .int 0])), (q_42, .inr (0, [.int 0, .int 0, .int 0, .int 0, .int 0, .int 0, .int 0])), (q_46, .inr (0, [.int 0, .int 0, .int 0, .int 0, .int 0, .int 0, .int 0]))]) F hK hP hD hS hA (c_Booth_init l D q_50 ) ⟨gk_X3_31.1, gk_X3_31.2.1, gk_X3_31.2.2, Nat.le_of_ble_eq_true rfl, Nat.le_of_ble_eq_true rfl⟩ hX.2.1 [19] [0, 1, 2, 3, 4, 5, 6, 7, 8, 9, 10, 11, 12, 13, 14, 15, 16, 17, 18] [] ⟨rfl, rfl, rfl, rfl, by decide⟩ rfl xT_move (fun _ _ _ => trivial) rfl hl.1 rfl (Nat.le_of_ble_eq_true rfl) dX3_init_52 ⟨Nat.le_of_ble_eq_true rfl, Nat.le_of_ble_eq_true rfl⟩ (fun _ H locs hw hK1 hP hD hS => ?_)
  have hP : va_P D vwCl [(h0, .inr (3, [.ref q_1, .ref q_12, .ref q_27, .int 0, .int 0, .int 0])), (q_1, .inr (1, [.ref q1_2, .ref q2_3, .ref q3_4, .ref q4_5, .int 0, .int 0])), (q1_2, .inl (cy1_6, 8, .inl uF)), (q2_3, .inl (cy2_7, 4, .inl (fun _ => 0))), (q3_4, .inl (cy3_8, 4, .inl (fun _ => 0))), (q4_5, .inl (cy4_9, 4, .inl (fun _ => 0))), (q_12, .inr (5, [.int 5, .int 5, .ref q1_13, .ref q2_14, .ref q3_15, .ref q4_16, .ref q5_17, .ref q6_18])), (q1_13, .inl (cy1_19, 100, .inl (fun _ => 0))), (q2_14, .inl (cy2_20, 100, .inl (fun _ => 0))), (q3_15, .inl (cy3_21, 100, .inl (fun _ => 0))), (q4_16, .inl (cy4_22, 100, .inl (fun _ => (-1)))), (q5_17, .inl (cy5_23, 100, .inl (fun _ => 0))), (q6_18, .inl (cy6_24, 100, .inl (fun _ => 0))), (q_27, .inl (cy_28, 10, .inr (.inr (.inr (.inr (va_up (va_up (va_up (va_up (va_up (fun _ => none) 0 (some q_30)) 1 (some q_34)) 2 (some q_38)) 3 (some q_42)) 4 (some q_46))))))), (q_30, .inr (0, [.int 0, .int 0, .int 0, .int 0, .int 0, .int 0, .int 0])), (q_34, .inr (0, [.int 0, .int 0, .int 0, .int 0, .int 0, .int 0, .int 0])), (q_38, .inr (0, [.int 0, .int 0, .int 0, .int 0, .int 0, .int 0, .int 0])), (q_42, .inr (0, [.int 0, .int 0, .int 0, .int 0, .int 0, .int 0, .int 0])), (q_46, .inr (0, [.int 0, .int 0, .int 0, .int 0, .int 0, .int 0, .int 0])), (q_50, .inr (0, [.int 0, .int 0, .int 0, .int 0, .int 0, .int 0, .int 0]))] H := hP
  have hD : va_D A [(h0, .inr (3, [.ref q_1, .ref q_12, .ref q_27, .int 0, .int 0, .int 0])), (q_1, .inr (1, [.ref q1_2, .ref q2_3, .ref q3_4, .ref q4_5, .int 0, .int 0])), (q1_2, .inl (cy1_6, 8, .inl uF)), (q2_3, .inl (cy2_7, 4, .inl (fun _ => 0))), (q3_4, .inl (cy3_8, 4, .inl (fun _ => 0))), (q4_5, .inl (cy4_9, 4, .inl (fun _ => 0))), (q_12, .inr (5, [.int 5, .int 5, .ref q1_13, .ref q2_14, .ref q3_15, .ref q4_16, .ref q5_17, .ref q6_18])), (q1_13, .inl (cy1_19, 100, .inl (fun _ => 0))), (q2_14, .inl (cy2_20, 100, .inl (fun _ => 0))), (q3_15, .inl (cy3_21, 100, .inl (fun _ => 0))), (q4_16, .inl (cy4_22, 100, .inl (fun _ => (-1)))), (q5_17, .inl (cy5_23, 100, .inl (fun _ => 0))), (q6_18, .inl (cy6_24, 100, .inl (fun _ => 0))), (q_27, .inl (cy_28, 10, .inr (.inr (.inr (.inr (va_up (va_up (va_up (va_up (va_up (fun _ => none) 0 (some q_30)) 1 (some q_34)) 2 (some q_38)) 3 (some q_42)) 4 (some q_46))))))), (q_30, .inr (0, [.int 0, .int 0, .int 0, .int 0, .int 0, .int 0, .int 0])), (q_34, .inr (0, [.int 0, .int 0, .int 0, .int 0, .int 0, .int 0, .int 0])), (q_38, .inr (0, [.int 0, .int 0, .int 0, .int 0, .int 0, .int 0, .int 0])), (q_42, .inr (0, [.int 0, .int 0, .int 0, .int 0, .int 0, .int 0, .int 0])), (q_46, .inr (0, [.int 0, .int 0, .int 0, .int 0, .int 0, .int 0, .int 0])), (q_50, .inr (0, [.int 0, .int 0, .int 0, .int 0, .int 0, .int 0, .int 0]))] := hD
  refine va_astq hx hb hK hP hD hS 13 10 19 0 rfl rfl rfl rfl (by unfold vp_in; decide) dX3_init_55 (fun H locs hP hD hS => ?_)
  have hP : va_P D vwCl [(h0, .inr (3, [.ref q_1, .ref q_12, .ref q_27, .int 0, .int 0, .int 0])), (q_1, .inr (1, [.ref q1_2, .ref q2_3, .ref q3_4, .ref q4_5, .int 0, .int 0])), (q1_2, .inl (cy1_6, 8, .inl uF)), (q2_3, .inl (cy2_7, 4, .inl (fun _ => 0))), (q3_4, .inl (cy3_8, 4, .inl (fun _ => 0))), (q4_5, .inl (cy4_9, 4, .inl (fun _ => 0))), (q_12, .inr (5, [.int 5, .int 5, .ref q1_13, .ref q2_14, .ref q3_15, .ref q4_16, .ref q5_17, .ref q6_18])), (q1_13, .inl (cy1_19, 100, .inl (fun _ => 0))), (q2_14, .inl (cy2_20, 100, .inl (fun _ => 0))), (q3_15, .inl (cy3_21, 100, .inl (fun _ => 0))), (q4_16, .inl (cy4_22, 100, .inl (fun _ => (-1)))), (q5_17, .inl (cy5_23, 100, .inl (fun _ => 0))), (q6_18, .inl (cy6_24, 100, .inl (fun _ => 0))), (q_27, .inl (cy_28, 10, .inr (.inr (.inr (.inr (va_up (va_up (va_up (va_up (va_up (va_up (fun _ => none) 0 (some q_30)) 1 (some q_34)) 2 (some q_38)) 3 (some q_42)) 4 (some q_46)) 5 (some q_50))))))), (q_30, .inr (0, [.int 0, .int 0, .int 0, .int 0, .int 0, .int 0, .int 0])), (q_34, .inr (0, [.int 0, .int 0, .int 0, .int 0, .int 0, .int 0, .int 0])), (q_38, .inr (0, [.int 0, .int 0, .int 0, .int 0, .int 0, .int 0, .int 0])), (q_42, .inr (0, [.int 0, .int 0, .int 0, .int 0, .int 0, .int 0, .int 0])), (q_46, .inr (0, [.int 0, .int 0, .int 0, .int 0, .int 0, .int 0, .int 0])), (q_50, .inr (0, [.int 0, .int 0, .int 0, .int 0, .int 0, .int 0, .int 0]))] H := hP
  have hD : va_D A [(h0, .inr (3, [.ref q_1, .ref q_12, .ref q_27, .int 0, .int 0, .int 0])), (q_1, .inr (1, [.ref q1_2, .ref q2_3, .ref q3_4, .ref q4_5, .int 0, .int 0])), (q1_2, .inl (cy1_6, 8, .inl uF)), (q2_3, .inl (cy2_7, 4, .inl (fun _ => 0))), (q3_4, .inl (cy3_8, 4, .inl (fun _ => 0))), (q4_5, .inl (cy4_9, 4, .inl (fun _ => 0))), (q_12, .inr (5, [.int 5, .int 5, .ref q1_13, .ref q2_14, .ref q3_15, .ref q4_16, .ref q5_17, .ref q6_18])), (q1_13, .inl (cy1_19, 100, .inl (fun _ => 0))), (q2_14, .inl (cy2_20, 100, .inl (fun _ => 0))), (q3_15, .inl (cy3_21, 100, .inl (fun _ => 0))), (q4_16, .inl (cy4_22, 100, .inl (fun _ => (-1)))), (q5_17, .inl (cy5_23, 100, .inl (fun _ => 0))), (q6_18, .inl (cy6_24, 100, .inl (fun _ => 0))), (q_27, .inl (cy_28, 10, .inr (.inr (.inr (.inr (va_up (va_up (va_up (va_up (va_up (va_up (fun _ => none) 0 (some q_30)) 1 (some q_34)) 2 (some q_38)) 3 (some q_42)) 4 (some q_46)) 5 (some q_50))))))), (q_30, .inr (0, [.int 0, .int 0, .int 0, .int 0, .int 0, .int 0, .int 0])), (q_34, .inr (0, [.int 0, .int 0, .int 0, .int 0, .int 0, .int 0, .int 0])), (q_38, .inr (0, [.int 0, .int 0, .int 0, .int 0, .int 0, .int 0, .int 0])), (q_42, .inr (0, [.int 0, .int 0, .int 0, .int 0, .int 0, .int 0, .int 0])), (q_46, .inr (0, [.int 0, .int 0, .int 0, .int 0, .int 0, .int 0, .int 0])), (q_50, .inr (0, [.int 0, .int 0, .int 0, .int 0, .int 0, .int 0, .int 0]))] := hD
  refine lv_iinc (v := 6) (lv' := [(1, .int 6), (0, .ref h0)]) hx hb dX3_init_56 hl (k := 0) rfl (by decide) (by decide) rfl (fun ls hl => ?_)
  refine lv_goto (tgt := 37) hx hb dX3_init_59 (by decide) ?_
  refine lv_iload_n hx hb dX3_init_37 rfl (lv_at hl 0 rfl) ?_
  refine lv_bipush (v := 10) hx hb dX3_init_38 (by decide) ?_
  refine lv_icmp_ge (tgt := 62) hx hb dX3_init_40 (by decide) (fun c_53 => absurd c_53 (by decide)) (fun c_53 => ?_)
  refine lv_aload_n hx hb dX3_init_43 rfl (lv_at hl 1 rfl) ?_
  refine va_get (D := D) (ci := 3) (v := .ref q_27) (C := RX3) (T := TX3) (N := 6) hx hb hts inG_X3 hown hK hP 0 rfl rfl 2 (by decide) (hts _ kw_1_223) (fun _ h9 => h9) rfl dX3_init_44 ?_
  refine lv_iload_n hx hb dX3_init_47 rfl (lv_at hl 0 rfl) ?_
  refine va_new (ci := 0) (fs := [.int 0, .int 0, .int 0, .int 0, .int 0, .int 0, .int 0]) (C := RX0) (T := TX0) (N := 7) hx hb hts inG_X0 tyX0 tyX0_ok hown (hts _ kw_1_178) (hts _ kw_1_180) (hts _ kw_1_8) hK hP hD hS hA rfl (fun j hj => by rcases (show j = 0 ∨ j = 1 ∨ j = 2 ∨ j = 3 ∨ j = 4 ∨ j = 5 ∨ j = 6 by omega) with rfl | rfl | rfl | rfl | rfl | rfl | rfl <;> rfl) (Nat.le_of_ble_eq_true rfl) (Nat.le_of_ble_eq_true rfl) dX3_init_48 (fun q_54 H hP hD hS => ?_)
  have hP : va_P D vwCl [(h0, .inr (3, [.ref q_1, .ref q_12, .ref q_27, .int 0, .int 0, .int 0])), (q_1, .inr (1, [.ref q1_2, .ref q2_3, .ref q3_4, .ref q4_5, .int 0, .int 0])), (q1_2, .inl (cy1_6, 8, .inl uF)), (q2_3, .inl (cy2_7, 4, .inl (fun _ => 0))), (q3_4, .inl (cy3_8, 4, .inl (fun _ => 0))), (q4_5, .inl (cy4_9, 4, .inl (fun _ => 0))), (q_12, .inr (5, [.int 5, .int 5, .ref q1_13, .ref q2_14, .ref q3_15, .ref q4_16, .ref q5_17, .ref q6_18])), (q1_13, .inl (cy1_19, 100, .inl (fun _ => 0))), (q2_14, .inl (cy2_20, 100, .inl (fun _ => 0))), (q3_15, .inl (cy3_21, 100, .inl (fun _ => 0))), (q4_16, .inl (cy4_22, 100, .inl (fun _ => (-1)))), (q5_17, .inl (cy5_23, 100, .inl (fun _ => 0))), (q6_18, .inl (cy6_24, 100, .inl (fun _ => 0))), (q_27, .inl (cy_28, 10, .inr (.inr (.inr (.inr (va_up (va_up (va_up (va_up (va_up (va_up (fun _ => none) 0 (some q_30)) 1 (some q_34)) 2 (some q_38)) 3 (some q_42)) 4 (some q_46)) 5 (some q_50))))))), (q_30, .inr (0, [.int 0, .int 0, .int 0, .int 0, .int 0, .int 0, .int 0])), (q_34, .inr (0, [.int 0, .int 0, .int 0, .int 0, .int 0, .int 0, .int 0])), (q_38, .inr (0, [.int 0, .int 0, .int 0, .int 0, .int 0, .int 0, .int 0])), (q_42, .inr (0, [.int 0, .int 0, .int 0, .int 0, .int 0, .int 0, .int 0])), (q_46, .inr (0, [.int 0, .int 0, .int 0, .int 0, .int 0, .int 0, .int 0])), (q_50, .inr (0, [.int 0, .int 0, .int 0, .int 0, .int 0, .int 0, .int 0])), (q_54, .inr (0, [.int 0, .int 0, .int 0, .int 0, .int 0, .int 0, .int 0]))] H := hP
  have hD : va_D A [(h0, .inr (3, [.ref q_1, .ref q_12, .ref q_27, .int 0, .int 0, .int 0])), (q_1, .inr (1, [.ref q1_2, .ref q2_3, .ref q3_4, .ref q4_5, .int 0, .int 0])), (q1_2, .inl (cy1_6, 8, .inl uF)), (q2_3, .inl (cy2_7, 4, .inl (fun _ => 0))), (q3_4, .inl (cy3_8, 4, .inl (fun _ => 0))), (q4_5, .inl (cy4_9, 4, .inl (fun _ => 0))), (q_12, .inr (5, [.int 5, .int 5, .ref q1_13, .ref q2_14, .ref q3_15, .ref q4_16, .ref q5_17, .ref q6_18])), (q1_13, .inl (cy1_19, 100, .inl (fun _ => 0))), (q2_14, .inl (cy2_20, 100, .inl (fun _ => 0))), (q3_15, .inl (cy3_21, 100, .inl (fun _ => 0))), (q4_16, .inl (cy4_22, 100, .inl (fun _ => (-1)))), (q5_17, .inl (cy5_23, 100, .inl (fun _ => 0))), (q6_18, .inl (cy6_24, 100, .inl (fun _ => 0))), (q_27, .inl (cy_28, 10, .inr (.inr (.inr (.inr (va_up (va_up (va_up (va_up (va_up (va_up (fun _ => none) 0 (some q_30)) 1 (some q_34)) 2 (some q_38)) 3 (some q_42)) 4 (some q_46)) 5 (some q_50))))))), (q_30, .inr (0, [.int 0, .int 0, .int 0, .int 0, .int 0, .int 0, .int 0])), (q_34, .inr (0, [.int 0, .int 0, .int 0, .int 0, .int 0, .int 0, .int 0])), (q_38, .inr (0, [.int 0, .int 0, .int 0, .int 0, .int 0, .int 0, .int 0])), (q_42, .inr (0, [.int 0, .int 0, .int 0, .int 0, .int 0, .int 0, .int 0])), (q_46, .inr (0, [.int 0, .int 0, .int 0, .int 0, .int 0, .int 0, .int 0])), (q_50, .inr (0, [.int 0, .int 0, .int 0, .int 0, .int 0, .int 0, .int 0])), (q_54, .inr (0, [.int 0, .int 0, .int 0, .int 0, .int 0, .int 0, .int 0]))] := hD
  refine W.widen (k := 20) (n := 693) (by decide) (by decide) ?_
  refine lv_dup hx hb dX3_init_51 rfl ?_
  refine mc_Nv (rest := [.ref q_54, .int 6, .ref q_27]) (wr := [(h0, .inr (3, [.ref q_1, .ref q_12, .ref q_27, .int 0, .int 0, .int 0])), (q_1, .inr (1, [.ref q1_2, .ref q2_3, .ref q3_4, .ref q4_5, .int 0, .int 0])), (q1_2, .inl (cy1_6, 8, .inl uF)), (q2_3, .inl (cy2_7, 4, .inl (fun _ => 0))), (q3_4, .inl (cy3_8, 4, .inl (fun _ => 0))), (q4_5, .inl (cy4_9, 4, .inl (fun _ => 0))), (q_12, .inr (5, [.int 5, .int 5, .ref q1_13, .ref q2_14, .ref q3_15, .ref q4_16, .ref q5_17, .ref q6_18])), (q1_13, .inl (cy1_19, 100, .inl (fun _ => 0))), (q2_14, .inl (cy2_20, 100, .inl (fun _ => 0))), (q3_15, .inl (cy3_21, 100, .inl (fun _ => 0))), (q4_16, .inl (cy4_22, 100, .inl (fun _ => (-1)))), (q5_17, .inl (cy5_23, 100, .inl (fun _ => 0))), (q6_18, .inl (cy6_24, 100, .inl (fun _ => 0))), (q_27, .inl (cy_28, 10, .inr (.inr (.inr (.inr (va_up (va_up (va_up (va_up (va_up (va_up (fun _ => none) 0 (some q_30)) 1 (some q_34)) 2 (some q_38)) 3 (some q_42)) 4 (some q_46)) 5 (some q_50))))))), (q_30, .inr (0, [.int 0, .int 0, .int 0, .int 0, .int 0, .int 0, .int 0])), (q_34, .inr (0, [.int 0, .int 0, .int 0, .int 0, .int 0, .int 0, .int 0])), (q_38, .inr (0, [.int 0, .int 0, .int 0, .int 0, .int 0, .int 0, .int 0])), (q_42, .inr (0, [.int 0, .int 0, .int 0, .int 0, .int 0, .int 0, .int 0])), (q_46, .inr (0, [.int 0, .int 0, .int 0, .int 0, .int 0, .int 0, .int 0])), (q_50, .inr (0, [.int 0, .int 0, .int 0, .int 0, .int 0, .int 0, .int 0]))]) F hK hP hD hS hA (c_Booth_init l D q_54 ) ⟨gk_X3_31.1, gk_X3_31.2.1, gk_X3_31.2.2, Nat.le_of_ble_eq_true rfl, Nat.le_of_ble_eq_true rfl⟩ hX.2.1 [20] [0, 1, 2, 3, 4, 5, 6, 7, 8, 9, 10, 11, 12, 13, 14, 15, 16, 17, 18, 19] [] ⟨rfl, rfl, rfl, rfl, by decide⟩ rfl xT_move (fun _ _ _ => trivial) rfl hl.1 rfl (Nat.le_of_ble_eq_true rfl) dX3_init_52 ⟨Nat.le_of_ble_eq_true rfl, Nat.le_of_ble_eq_true rfl⟩ (fun _ H locs hw hK1 hP hD hS => ?_)
  have hP : va_P D vwCl [(h0, .inr (3, [.ref q_1, .ref q_12, .ref q_27, .int 0, .int 0, .int 0])), (q_1, .inr (1, [.ref q1_2, .ref q2_3, .ref q3_4, .ref q4_5, .int 0, .int 0])), (q1_2, .inl (cy1_6, 8, .inl uF)), (q2_3, .inl (cy2_7, 4, .inl (fun _ => 0))), (q3_4, .inl (cy3_8, 4, .inl (fun _ => 0))), (q4_5, .inl (cy4_9, 4, .inl (fun _ => 0))), (q_12, .inr (5, [.int 5, .int 5, .ref q1_13, .ref q2_14, .ref q3_15, .ref q4_16, .ref q5_17, .ref q6_18])), (q1_13, .inl (cy1_19, 100, .inl (fun _ => 0))), (q2_14, .inl (cy2_20, 100, .inl (fun _ => 0))), (q3_15, .inl (cy3_21, 100, .inl (fun _ => 0))), (q4_16, .inl (cy4_22, 100, .inl (fun _ => (-1)))), (q5_17, .inl (cy5_23, 100, .inl (fun _ => 0))), (q6_18, .inl (cy6_24, 100, .inl (fun _ => 0))), (q_27, .inl (cy_28, 10, .inr (.inr (.inr (.inr (va_up (va_up (va_up (va_up (va_up (va_up (fun _ => none) 0 (some q_30)) 1 (some q_34)) 2 (some q_38)) 3 (some q_42)) 4 (some q_46)) 5 (some q_50))))))), (q_30, .inr (0, [.int 0, .int 0, .int 0, .int 0, .int 0, .int 0, .int 0])), (q_34, .inr (0, [.int 0, .int 0, .int 0, .int 0, .int 0, .int 0, .int 0])), (q_38, .inr (0, [.int 0, .int 0, .int 0, .int 0, .int 0, .int 0, .int 0])), (q_42, .inr (0, [.int 0, .int 0, .int 0, .int 0, .int 0, .int 0, .int 0])), (q_46, .inr (0, [.int 0, .int 0, .int 0, .int 0, .int 0, .int 0, .int 0])), (q_50, .inr (0, [.int 0, .int 0, .int 0, .int 0, .int 0, .int 0, .int 0])), (q_54, .inr (0, [.int 0, .int 0, .int 0, .int 0, .int 0, .int 0, .int 0]))] H := hP
  have hD : va_D A [(h0, .inr (3, [.ref q_1, .ref q_12, .ref q_27, .int 0, .int 0, .int 0])), (q_1, .inr (1, [.ref q1_2, .ref q2_3, .ref q3_4, .ref q4_5, .int 0, .int 0])), (q1_2, .inl (cy1_6, 8, .inl uF)), (q2_3, .inl (cy2_7, 4, .inl (fun _ => 0))), (q3_4, .inl (cy3_8, 4, .inl (fun _ => 0))), (q4_5, .inl (cy4_9, 4, .inl (fun _ => 0))), (q_12, .inr (5, [.int 5, .int 5, .ref q1_13, .ref q2_14, .ref q3_15, .ref q4_16, .ref q5_17, .ref q6_18])), (q1_13, .inl (cy1_19, 100, .inl (fun _ => 0))), (q2_14, .inl (cy2_20, 100, .inl (fun _ => 0))), (q3_15, .inl (cy3_21, 100, .inl (fun _ => 0))), (q4_16, .inl (cy4_22, 100, .inl (fun _ => (-1)))), (q5_17, .inl (cy5_23, 100, .inl (fun _ => 0))), (q6_18, .inl (cy6_24, 100, .inl (fun _ => 0))), (q_27, .inl (cy_28, 10, .inr (.inr (.inr (.inr (va_up (va_up (va_up (va_up (va_up (va_up (fun _ => none) 0 (some q_30)) 1 (some q_34)) 2 (some q_38)) 3 (some q_42)) 4 (some q_46)) 5 (some q_50))))))), (q_30, .inr (0, [.int 0, .int 0, .int 0, .int 0, .int 0, .int 0, .int 0])), (q_34, .inr (0, [.int 0, .int 0, .int 0, .int 0, .int 0, .int 0, .int 0])), (q_38, .inr (0, [.int 0, .int 0, .int 0, .int 0, .int 0, .int 0, .int 0])), (q_42, .inr (0, [.int 0, .int 0, .int 0, .int 0, .int 0, .int 0, .int 0])), (q_46, .inr (0, [.int 0, .int 0, .int 0, .int 0, .int 0, .int 0, .int 0])), (q_50, .inr (0, [.int 0, .int 0, .int 0, .int 0, .int 0, .int 0, .int 0])), (q_54, .inr (0, [.int 0, .int 0, .int 0, .int 0, .int 0, .int 0, .int 0]))] := hD
  refine va_astq hx hb hK hP hD hS 13 10 20 0 rfl rfl rfl rfl (by unfold vp_in; decide) dX3_init_55 (fun H locs hP hD hS => ?_)
  have hP : va_P D vwCl [(h0, .inr (3, [.ref q_1, .ref q_12, .ref q_27, .int 0, .int 0, .int 0])), (q_1, .inr (1, [.ref q1_2, .ref q2_3, .ref q3_4, .ref q4_5, .int 0, .int 0])), (q1_2, .inl (cy1_6, 8, .inl uF)), (q2_3, .inl (cy2_7, 4, .inl (fun _ => 0))), (q3_4, .inl (cy3_8, 4, .inl (fun _ => 0))), (q4_5, .inl (cy4_9, 4, .inl (fun _ => 0))), (q_12, .inr (5, [.int 5, .int 5, .ref q1_13, .ref q2_14, .ref q3_15, .ref q4_16, .ref q5_17, .ref q6_18])), (q1_13, .inl (cy1_19, 100, .inl (fun _ => 0))), (q2_14, .inl (cy2_20, 100, .inl (fun _ => 0))), (q3_15, .inl (cy3_21, 100, .inl (fun _ => 0))), (q4_16, .inl (cy4_22, 100, .inl (fun _ => (-1)))), (q5_17, .inl (cy5_23, 100, .inl (fun _ => 0))), (q6_18, .inl (cy6_24, 100, .inl (fun _ => 0))), (q_27, .inl (cy_28, 10, .inr (.inr (.inr (.inr (va_up (va_up (va_up (va_up (va_up (va_up (va_up (fun _ => none) 0 (some q_30)) 1 (some q_34)) 2 (some q_38)) 3 (some q_42)) 4 (some q_46)) 5 (some q_50)) 6 (some q_54))))))), (q_30, .inr (0, [.int 0, .int 0, .int 0, .int 0, .int 0, .int 0, .int 0])), (q_34, .inr (0, [.int 0, .int 0, .int 0, .int 0, .int 0, .int 0, .int 0])), (q_38, .inr (0, [.int 0, .int 0, .int 0, .int 0, .int 0, .int 0, .int 0])), (q_42, .inr (0, [.int 0, .int 0, .int 0, .int 0, .int 0, .int 0, .int 0])), (q_46, .inr (0, [.int 0, .int 0, .int 0, .int 0, .int 0, .int 0, .int 0])), (q_50, .inr (0, [.int 0, .int 0, .int 0, .int 0, .int 0, .int 0, .int 0])), (q_54, .inr (0, [.int 0, .int 0, .int 0, .int 0, .int 0, .int 0, .int 0]))] H := hP
  have hD : va_D A [(h0, .inr (3, [.ref q_1, .ref q_12, .ref q_27, .int 0, .int 0, .int 0])), (q_1, .inr (1, [.ref q1_2, .ref q2_3, .ref q3_4, .ref q4_5, .int 0, .int 0])), (q1_2, .inl (cy1_6, 8, .inl uF)), (q2_3, .inl (cy2_7, 4, .inl (fun _ => 0))), (q3_4, .inl (cy3_8, 4, .inl (fun _ => 0))), (q4_5, .inl (cy4_9, 4, .inl (fun _ => 0))), (q_12, .inr (5, [.int 5, .int 5, .ref q1_13, .ref q2_14, .ref q3_15, .ref q4_16, .ref q5_17, .ref q6_18])), (q1_13, .inl (cy1_19, 100, .inl (fun _ => 0))), (q2_14, .inl (cy2_20, 100, .inl (fun _ => 0))), (q3_15, .inl (cy3_21, 100, .inl (fun _ => 0))), (q4_16, .inl (cy4_22, 100, .inl (fun _ => (-1)))), (q5_17, .inl (cy5_23, 100, .inl (fun _ => 0))), (q6_18, .inl (cy6_24, 100, .inl (fun _ => 0))), (q_27, .inl (cy_28, 10, .inr (.inr (.inr (.inr (va_up (va_up (va_up (va_up (va_up (va_up (va_up (fun _ => none) 0 (some q_30)) 1 (some q_34)) 2 (some q_38)) 3 (some q_42)) 4 (some q_46)) 5 (some q_50)) 6 (some q_54))))))), (q_30, .inr (0, [.int 0, .int 0, .int 0, .int 0, .int 0, .int 0, .int 0])), (q_34, .inr (0, [.int 0, .int 0, .int 0, .int 0, .int 0, .int 0, .int 0])), (q_38, .inr (0, [.int 0, .int 0, .int 0, .int 0, .int 0, .int 0, .int 0])), (q_42, .inr (0, [.int 0, .int 0, .int 0, .int 0, .int 0, .int 0, .int 0])), (q_46, .inr (0, [.int 0, .int 0, .int 0, .int 0, .int 0, .int 0, .int 0])), (q_50, .inr (0, [.int 0, .int 0, .int 0, .int 0, .int 0, .int 0, .int 0])), (q_54, .inr (0, [.int 0, .int 0, .int 0, .int 0, .int 0, .int 0, .int 0]))] := hD
  refine lv_iinc (v := 7) (lv' := [(1, .int 7), (0, .ref h0)]) hx hb dX3_init_56 hl (k := 0) rfl (by decide) (by decide) rfl (fun ls hl => ?_)
  refine lv_goto (tgt := 37) hx hb dX3_init_59 (by decide) ?_
  refine lv_iload_n hx hb dX3_init_37 rfl (lv_at hl 0 rfl) ?_
  refine lv_bipush (v := 10) hx hb dX3_init_38 (by decide) ?_
  refine lv_icmp_ge (tgt := 62) hx hb dX3_init_40 (by decide) (fun c_57 => absurd c_57 (by decide)) (fun c_57 => ?_)
  refine lv_aload_n hx hb dX3_init_43 rfl (lv_at hl 1 rfl) ?_
  refine va_get (D := D) (ci := 3) (v := .ref q_27) (C := RX3) (T := TX3) (N := 6) hx hb hts inG_X3 hown hK hP 0 rfl rfl 2 (by decide) (hts _ kw_1_223) (fun _ h9 => h9) rfl dX3_init_44 ?_
  refine lv_iload_n hx hb dX3_init_47 rfl (lv_at hl 0 rfl) ?_
  refine va_new (ci := 0) (fs := [.int 0, .int 0, .int 0, .int 0, .int 0, .int 0, .int 0]) (C := RX0) (T := TX0) (N := 7) hx hb hts inG_X0 tyX0 tyX0_ok hown (hts _ kw_1_178) (hts _ kw_1_180) (hts _ kw_1_8) hK hP hD hS hA rfl (fun j hj => by rcases (show j = 0 ∨ j = 1 ∨ j = 2 ∨ j = 3 ∨ j = 4 ∨ j = 5 ∨ j = 6 by omega) with rfl | rfl | rfl | rfl | rfl | rfl | rfl <;> rfl) (Nat.le_of_ble_eq_true rfl) (Nat.le_of_ble_eq_true rfl) dX3_init_48 (fun q_58 H hP hD hS => ?_)
  have hP : va_P D vwCl [(h0, .inr (3, [.ref q_1, .ref q_12, .ref q_27, .int 0, .int 0, .int 0])), (q_1, .inr (1, [.ref q1_2, .ref q2_3, .ref q3_4, .ref q4_5, .int 0, .int 0])), (q1_2, .inl (cy1_6, 8, .inl uF)), (q2_3, .inl (cy2_7, 4, .inl (fun _ => 0))), (q3_4, .inl (cy3_8, 4, .inl (fun _ => 0))), (q4_5, .inl (cy4_9, 4, .inl (fun _ => 0))), (q_12, .inr (5, [.int 5, .int 5, .ref q1_13, .ref q2_14, .ref q3_15, .ref q4_16, .ref q5_17, .ref q6_18])), (q1_13, .inl (cy1_19, 100, .inl (fun _ => 0))), (q2_14, .inl (cy2_20, 100, .inl (fun _ => 0))), (q3_15, .inl (cy3_21, 100, .inl (fun _ => 0))), (q4_16, .inl (cy4_22, 100, .inl (fun _ => (-1)))), (q5_17, .inl (cy5_23, 100, .inl (fun _ => 0))), (q6_18, .inl (cy6_24, 100, .inl (fun _ => 0))), (q_27, .inl (cy_28, 10, .inr (.inr (.inr (.inr (va_up (va_up (va_up (va_up (va_up (va_up (va_up (fun _ => none) 0 (some q_30)) 1 (some q_34)) 2 (some q_38)) 3 (some q_42)) 4 (some q_46)) 5 (some q_50)) 6 (some q_54))))))), (q_30, .inr (0, [.int 0, .int 0, .int 0, .int 0, .int 0, .int 0, .int 0])), (q_34, .inr (0, [.int 0, .int 0, .int 0, .int 0, .int 0, .int 0, .int 0])), (q_38, .inr (0, [.int 0, .int 0, .int 0, .int 0, .int 0, .int 0, .int 0])), (q_42, .inr (0, [.int 0, .int 0, .int 0, .int 0, .int 0, .int 0, .int 0])), (q_46, .inr (0, [.int 0, .int 0, .int 0, .int 0, .int 0, .int 0, .int 0])), (q_50, .inr (0, [.int 0, .int 0, .int 0, .int 0, .int 0, .int 0, .int 0])), (q_54, .inr (0, [.int 0, .int 0, .int 0, .int 0, .int 0, .int 0, .int 0])), (q_58, .inr (0, [.int 0, .int 0, .int 0, .int 0, .int 0, .int 0, .int 0]))] H := hP
  have hD : va_D A [(h0, .inr (3, [.ref q_1, .ref q_12, .ref q_27, .int 0, .int 0, .int 0])), (q_1, .inr (1, [.ref q1_2, .ref q2_3, .ref q3_4, .ref q4_5, .int 0, .int 0])), (q1_2, .inl (cy1_6, 8, .inl uF)), (q2_3, .inl (cy2_7, 4, .inl (fun _ => 0))), (q3_4, .inl (cy3_8, 4, .inl (fun _ => 0))), (q4_5, .inl (cy4_9, 4, .inl (fun _ => 0))), (q_12, .inr (5, [.int 5, .int 5, .ref q1_13, .ref q2_14, .ref q3_15, .ref q4_16, .ref q5_17, .ref q6_18])), (q1_13, .inl (cy1_19, 100, .inl (fun _ => 0))), (q2_14, .inl (cy2_20, 100, .inl (fun _ => 0))), (q3_15, .inl (cy3_21, 100, .inl (fun _ => 0))), (q4_16, .inl (cy4_22, 100, .inl (fun _ => (-1)))), (q5_17, .inl (cy5_23, 100, .inl (fun _ => 0))), (q6_18, .inl (cy6_24, 100, .inl (fun _ => 0))), (q_27, .inl (cy_28, 10, .inr (.inr (.inr (.inr (va_up (va_up (va_up (va_up (va_up (va_up (va_up (fun _ => none) 0 (some q_30)) 1 (some q_34)) 2 (some q_38)) 3 (some q_42)) 4 (some q_46)) 5 (some q_50)) 6 (some q_54))))))), (q_30, .inr (0, [.int 0, .int 0, .int 0, .int 0, .int 0, .int 0, .int 0])), (q_34, .inr (0, [.int 0, .int 0, .int 0, .int 0, .int 0, .int 0, .int 0])), (q_38, .inr (0, [.int 0, .int 0, .int 0, .int 0, .int 0, .int 0, .int 0])), (q_42, .inr (0, [.int 0, .int 0, .int 0, .int 0, .int 0, .int 0, .int 0])), (q_46, .inr (0, [.int 0, .int 0, .int 0, .int 0, .int 0, .int 0, .int 0])), (q_50, .inr (0, [.int 0, .int 0, .int 0, .int 0, .int 0, .int 0, .int 0])), (q_54, .inr (0, [.int 0, .int 0, .int 0, .int 0, .int 0, .int 0, .int 0])), (q_58, .inr (0, [.int 0, .int 0, .int 0, .int 0, .int 0, .int 0, .int 0]))] := hD
  refine W.widen (k := 21) (n := 700) (by decide) (by decide) ?_
  refine lv_dup hx hb dX3_init_51 rfl ?_
  refine mc_Nv (rest := [.ref q_58, .int 7, .ref q_27]) (wr := [(h0, .inr (3, [.ref q_1, .ref q_12, .ref q_27, .int 0, .int 0, .int 0])), (q_1, .inr (1, [.ref q1_2, .ref q2_3, .ref q3_4, .ref q4_5, .int 0, .int 0])), (q1_2, .inl (cy1_6, 8, .inl uF)), (q2_3, .inl (cy2_7, 4, .inl (fun _ => 0))), (q3_4, .inl (cy3_8, 4, .inl (fun _ => 0))), (q4_5, .inl (cy4_9, 4, .inl (fun _ => 0))), (q_12, .inr (5, [.int 5, .int 5, .ref q1_13, .ref q2_14, .ref q3_15, .ref q4_16, .ref q5_17, .ref q6_18])), (q1_13, .inl (cy1_19, 100, .inl (fun _ => 0))), (q2_14, .inl (cy2_20, 100, .inl (fun _ => 0))), (q3_15, .inl (cy3_21, 100, .inl (fun _ => 0))), (q4_16, .inl (cy4_22, 100, .inl (fun _ => (-1)))), (q5_17, .inl (cy5_23, 100, .inl (fun _ => 0))), (q6_18, .inl (cy6_24, 100, .inl (fun _ => 0))), (q_27, .inl (cy_28, 10, .inr (.inr (.inr (.inr (va_up (va_up (va_up (va_up (va_up (va_up (va_up (fun _ => none) 0 (some q_30)) 1 (some q_34)) 2 (some q_38)) 3 (some q_42)) 4 (some q_46)) 5 (some q_50)) 6 (some q_54))))))), (q_30, .inr (0, [.int 0, .int 0, .int 0, .int 0, .int 0, .int 0, .int 0])), (q_34, .inr (0, [.int 0, .int 0, .int 0, .int 0, .int 0, .int 0, .int 0])), (q_38, .inr (0, [.int 0, .int 0, .int 0, .int 0, .int 0, .int 0, .int 0])), (q_42, .inr (0, [.int 0, .int 0, .int 0, .int 0, .int 0, .int 0, .int 0])), (q_46, .inr (0, [.int 0, .int 0, .int 0, .int 0, .int 0, .int 0, .int 0])), (q_50, .inr (0, [.int 0, .int 0, .int 0, .int 0, .int 0, .int 0, .int 0])), (q_54, .inr (0, [.int 0, .int 0, .int 0, .int 0, .int 0, .int 0, .int 0]))]) F hK hP hD hS hA (c_Booth_init l D q_58 ) ⟨gk_X3_31.1, gk_X3_31.2.1, gk_X3_31.2.2, Nat.le_of_ble_eq_true rfl, Nat.le_of_ble_eq_true rfl⟩ hX.2.1 [21] [0, 1, 2, 3, 4, 5, 6, 7, 8, 9, 10, 11, 12, 13, 14, 15, 16, 17, 18, 19, 20] [] ⟨rfl, rfl, rfl, rfl, by decide⟩ rfl xT_move (fun _ _ _ => trivial) rfl hl.1 rfl (Nat.le_of_ble_eq_true rfl) dX3_init_52 ⟨Nat.le_of_ble_eq_true rfl, Nat.le_of_ble_eq_true rfl⟩ (fun _ H locs hw hK1 hP hD hS => ?_)
  have hP : va_P D vwCl [(h0, .inr (3, [.ref q_1, .ref q_12, .ref q_27, .int 0, .int 0, .int 0])), (q_1, .inr (1, [.ref q1_2, .ref q2_3, .ref q3_4, .ref q4_5, .int 0, .int 0])), (q1_2, .inl (cy1_6, 8, .inl uF)), (q2_3, .inl (cy2_7, 4, .inl (fun _ => 0))), (q3_4, .inl (cy3_8, 4, .inl (fun _ => 0))), (q4_5, .inl (cy4_9, 4, .inl (fun _ => 0))), (q_12, .inr (5, [.int 5, .int 5, .ref q1_13, .ref q2_14, .ref q3_15, .ref q4_16, .ref q5_17, .ref q6_18])), (q1_13, .inl (cy1_19, 100, .inl (fun _ => 0))), (q2_14, .inl (cy2_20, 100, .inl (fun _ => 0))), (q3_15, .inl (cy3_21, 100, .inl (fun _ => 0))), (q4_16, .inl (cy4_22, 100, .inl (fun _ => (-1)))), (q5_17, .inl (cy5_23, 100, .inl (fun _ => 0))), (q6_18, .inl (cy6_24, 100, .inl (fun _ => 0))), (q_27, .inl (cy_28, 10, .inr (.inr (.inr (.inr (va_up (va_up (va_up (va_up (va_up (va_up (va_up (fun _ => none) 0 (some q_30)) 1 (some q_34)) 2 (some q_38)) 3 (some q_42)) 4 (some q_46)) 5 (some q_50)) 6 (some q_54))))))), (q_30, .inr (0, [.int 0, .int 0, .int 0, .int 0, .int 0, .int 0, .int 0])), (q_34, .inr (0, [.int 0, .int 0, .int 0, .int 0, .int 0, .int 0, .int 0])), (q_38, .inr (0, [.int 0, .int 0, .int 0, .int 0, .int 0, .int 0, .int 0])), (q_42, .inr (0, [.int 0, .int 0, .int 0, .int 0, .int 0, .int 0, .int 0])), (q_46, .inr (0, [.int 0, .int 0, .int 0, .int 0, .int 0, .int 0, .int 0])), (q_50, .inr (0, [.int 0, .int 0, .int 0, .int 0, .int 0, .int 0, .int 0])), (q_54, .inr (0, [.int 0, .int 0, .int 0, .int 0, .int 0, .int 0, .int 0])), (q_58, .inr (0, [.int 0, .int 0, .int 0, .int 0, .int 0, .int 0, .int 0]))] H := hP
  have hD : va_D A [(h0, .inr (3, [.ref q_1, .ref q_12, .ref q_27, .int 0, .int 0, .int 0])), (q_1, .inr (1, [.ref q1_2, .ref q2_3, .ref q3_4, .ref q4_5, .int 0, .int 0])), (q1_2, .inl (cy1_6, 8, .inl uF)), (q2_3, .inl (cy2_7, 4, .inl (fun _ => 0))), (q3_4, .inl (cy3_8, 4, .inl (fun _ => 0))), (q4_5, .inl (cy4_9, 4, .inl (fun _ => 0))), (q_12, .inr (5, [.int 5, .int 5, .ref q1_13, .ref q2_14, .ref q3_15, .ref q4_16, .ref q5_17, .ref q6_18])), (q1_13, .inl (cy1_19, 100, .inl (fun _ => 0))), (q2_14, .inl (cy2_20, 100, .inl (fun _ => 0))), (q3_15, .inl (cy3_21, 100, .inl (fun _ => 0))), (q4_16, .inl (cy4_22, 100, .inl (fun _ => (-1)))), (q5_17, .inl (cy5_23, 100, .inl (fun _ => 0))), (q6_18, .inl (cy6_24, 100, .inl (fun _ => 0))), (q_27, .inl (cy_28, 10, .inr (.inr (.inr (.inr (va_up (va_up (va_up (va_up (va_up (va_up (va_up (fun _ => none) 0 (some q_30)) 1 (some q_34)) 2 (some q_38)) 3 (some q_42)) 4 (some q_46)) 5 (some q_50)) 6 (some q_54))))))), (q_30, .inr (0, [.int 0, .int 0, .int 0, .int 0, .int 0, .int 0, .int 0])), (q_34, .inr (0, [.int 0, .int 0, .int 0, .int 0, .int 0, .int 0, .int 0])), (q_38, .inr (0, [.int 0, .int 0, .int 0, .int 0, .int 0, .int 0, .int 0])), (q_42, .inr (0, [.int 0, .int 0, .int 0, .int 0, .int 0, .int 0, .int 0])), (q_46, .inr (0, [.int 0, .int 0, .int 0, .int 0, .int 0, .int 0, .int 0])), (q_50, .inr (0, [.int 0, .int 0, .int 0, .int 0, .int 0, .int 0, .int 0])), (q_54, .inr (0, [.int 0, .int 0, .int 0, .int 0, .int 0, .int 0, .int 0])), (q_58, .inr (0, [.int 0, .int 0, .int 0, .int 0, .int 0, .int 0, .int 0]))] := hD
  refine va_astq hx hb hK hP hD hS 13 10 21 0 rfl rfl rfl rfl (by unfold vp_in; decide) dX3_init_55 (fun H locs hP hD hS => ?_)
  have hP : va_P D vwCl [(h0, .inr (3, [.ref q_1, .ref q_12, .ref q_27, .int 0, .int 0, .int 0])), (q_1, .inr (1, [.ref q1_2, .ref q2_3, .ref q3_4, .ref q4_5, .int 0, .int 0])), (q1_2, .inl (cy1_6, 8, .inl uF)), (q2_3, .inl (cy2_7, 4, .inl (fun _ => 0))), (q3_4, .inl (cy3_8, 4, .inl (fun _ => 0))), (q4_5, .inl (cy4_9, 4, .inl (fun _ => 0))), (q_12, .inr (5, [.int 5, .int 5, .ref q1_13, .ref q2_14, .ref q3_15, .ref q4_16, .ref q5_17, .ref q6_18])), (q1_13, .inl (cy1_19, 100, .inl (fun _ => 0))), (q2_14, .inl (cy2_20, 100, .inl (fun _ => 0))), (q3_15, .inl (cy3_21, 100, .inl (fun _ => 0))), (q4_16, .inl (cy4_22, 100, .inl (fun _ => (-1)))), (q5_17, .inl (cy5_23, 100, .inl (fun _ => 0))), (q6_18, .inl (cy6_24, 100, .inl (fun _ => 0))), (q_27, .inl (cy_28, 10, .inr (.inr (.inr (.inr (va_up (va_up (va_up (va_up (va_up (va_up (va_up (va_up (fun _ => none) 0 (some q_30)) 1 (some q_34)) 2 (some q_38)) 3 (some q_42)) 4 (some q_46)) 5 (some q_50)) 6 (some q_54)) 7 (some q_58))))))), (q_30, .inr (0, [.int 0, .int 0, .int 0, .int 0, .int 0, .int 0, .int 0])), (q_34, .inr (0, [.int 0, .int 0, .int 0, .int 0, .int 0, .int 0, .int 0])), (q_38, .inr (0, [.int 0, .int 0, .int 0, .int 0, .int 0, .int 0, .int 0])), (q_42, .inr (0, [.int 0, .int 0, .int 0, .int 0, .int 0, .int 0, .int 0])), (q_46, .inr (0, [.int 0, .int 0, .int 0, .int 0, .int 0, .int 0, .int 0])), (q_50, .inr (0, [.int 0, .int 0, .int 0, .int 0, .int 0, .int 0, .int 0])), (q_54, .inr (0, [.int 0, .int 0, .int 0, .int 0, .int 0, .int 0, .int 0])), (q_58, .inr (0, [.int 0, .int 0, .int 0, .int 0, .int 0, .int 0, .int 0]))] H := hP
  have hD : va_D A [(h0, .inr (3, [.ref q_1, .ref q_12, .ref q_27, .int 0, .int 0, .int 0])), (q_1, .inr (1, [.ref q1_2, .ref q2_3, .ref q3_4, .ref q4_5, .int 0, .int 0])), (q1_2, .inl (cy1_6, 8, .inl uF)), (q2_3, .inl (cy2_7, 4, .inl (fun _ => 0))), (q3_4, .inl (cy3_8, 4, .inl (fun _ => 0))), (q4_5, .inl (cy4_9, 4, .inl (fun _ => 0))), (q_12, .inr (5, [.int 5, .int 5, .ref q1_13, .ref q2_14, .ref q3_15, .ref q4_16, .ref q5_17, .ref q6_18])), (q1_13, .inl (cy1_19, 100, .inl (fun _ => 0))), (q2_14, .inl (cy2_20, 100, .inl (fun _ => 0))), (q3_15, .inl (cy3_21, 100, .inl (fun _ => 0))), (q4_16, .inl (cy4_22, 100, .inl (fun _ => (-1)))), (q5_17, .inl (cy5_23, 100, .inl (fun _ => 0))), (q6_18, .inl (cy6_24, 100, .inl (fun _ => 0))), (q_27, .inl (cy_28, 10, .inr (.inr (.inr (.inr (va_up (va_up (va_up (va_up (va_up (va_up (va_up (va_up (fun _ => none) 0 (some q_30)) 1 (some q_34)) 2 (some q_38)) 3 (some q_42)) 4 (some q_46)) 5 (some q_50)) 6 (some q_54)) 7 (some q_58))))))), (q_30, .inr (0, [.int 0, .int 0, .int 0, .int 0, .int 0, .int 0, .int 0])), (q_34, .inr (0, [.int 0, .int 0, .int 0, .int 0, .int 0, .int 0, .int 0])), (q_38, .inr (0, [.int 0, .int 0, .int 0, .int 0, .int 0, .int 0, .int 0])), (q_42, .inr (0, [.int 0, .int 0, .int 0, .int 0, .int 0, .int 0, .int 0])), (q_46, .inr (0, [.int 0, .int 0, .int 0, .int 0, .int 0, .int 0, .int 0])), (q_50, .inr (0, [.int 0, .int 0, .int 0, .int 0, .int 0, .int 0, .int 0])), (q_54, .inr (0, [.int 0, .int 0, .int 0, .int 0, .int 0, .int 0, .int 0])), (q_58, .inr (0, [.int 0, .int 0, .int 0, .int 0, .int 0, .int 0, .int 0]))] := hD
  refine lv_iinc (v := 8) (lv' := [(1, .int 8), (0, .ref h0)]) hx hb dX3_init_56 hl (k := 0) rfl (by decide) (by decide) rfl (fun ls hl => ?_)
  refine lv_goto (tgt := 37) hx hb dX3_init_59 (by decide) ?_
  refine lv_iload_n hx hb dX3_init_37 rfl (lv_at hl 0 rfl) ?_
  refine lv_bipush (v := 10) hx hb dX3_init_38 (by decide) ?_
  refine lv_icmp_ge (tgt := 62) hx hb dX3_init_40 (by decide) (fun c_61 => absurd c_61 (by decide)) (fun c_61 => ?_)
  refine lv_aload_n hx hb dX3_init_43 rfl (lv_at hl 1 rfl) ?_
  refine va_get (D := D) (ci := 3) (v := .ref q_27) (C := RX3) (T := TX3) (N := 6) hx hb hts inG_X3 hown hK hP 0 rfl rfl 2 (by decide) (hts _ kw_1_223) (fun _ h9 => h9) rfl dX3_init_44 ?_
  refine lv_iload_n hx hb dX3_init_47 rfl (lv_at hl 0 rfl) ?_
  refine va_new (ci := 0) (fs := [.int 0, .int 0, .int 0, .int 0, .int 0, .int 0, .int 0]) (C := RX0) (T := TX0) (N := 7) hx hb hts inG_X0 tyX0 tyX0_ok hown (hts _ kw_1_178) (hts _ kw_1_180) (hts _ kw_1_8) hK hP hD hS hA rfl (fun j hj => by rcases (show j = 0 ∨ j = 1 ∨ j = 2 ∨ j = 3 ∨ j = 4 ∨ j = 5 ∨ j = 6 by omega) with rfl | rfl | rfl | rfl | rfl | rfl | rfl <;> rfl) (Nat.le_of_ble_eq_true rfl) (Nat.le_of_ble_eq_true rfl) dX3_init_48 (fun q_62 H hP hD hS => ?_)
  have hP : va_P D vwCl [(h0, .inr (3, [.ref q_1, .ref q_12, .ref q_27, .int 0, .int 0, .int 0])), (q_1, .inr (1, [.ref q1_2, .ref q2_3, .ref q3_4, .ref q4_5, .int 0, .int 0])), (q1_2, .inl (cy1_6, 8, .inl uF)), (q2_3, .inl (cy2_7, 4, .inl (fun _ => 0))), (q3_4, .inl (cy3_8, 4, .inl (fun _ => 0))), (q4_5, .inl (cy4_9, 4, .inl (fun _ => 0))), (q_12, .inr (5, [.int 5, .int 5, .ref q1_13, .ref q2_14, .ref q3_15, .ref q4_16, .ref q5_17, .ref q6_18])), (q1_13, .inl (cy1_19, 100, .inl (fun _ => 0))), (q2_14, .inl (cy2_20, 100, .inl (fun _ => 0))), (q3_15, .inl (cy3_21, 100, .inl (fun _ => 0))), (q4_16, .inl (cy4_22, 100, .inl (fun _ => (-1)))), (q5_17, .inl (cy5_23, 100, .inl (fun _ => 0))), (q6_18, .inl (cy6_24, 100, .inl (fun _ => 0))), (q_27, .inl (cy_28, 10, .inr (.inr (.inr (.inr (va_up (va_up (va_up (va_up (va_up (va_up (va_up (va_up (fun _ => none) 0 (some q_30)) 1 (some q_34)) 2 (some q_38)) 3 (some q_42)) 4 (some q_46)) 5 (some q_50)) 6 (some q_54)) 7 (some q_58))))))), (q_30, .inr (0, [.int 0, .int 0, .int 0, .int 0, .int 0, .int 0, .int 0])), (q_34, .inr (0, [.int 0, .int 0, .int 0, .int 0, .int 0, .int 0, .int 0])), (q_38, .inr (0, [.int 0, .int 0, .int 0, .int 0, .int 0, .int 0, .int 0])), (q_42, .inr (0, [.int 0, .int 0, .int 0, .int 0, .int 0, .int 0, .int 0])), (q_46, .inr (0, [.int 0, .int 0, .int 0, .int 0, .int 0, .int 0, .int 0])), (q_50, .inr (0, [.int 0, .int 0, .int 0, .int 0, .int 0, .int 0, .int 0])), (q_54, .inr (0, [.int 0, .int 0, .int 0, .int 0, .int 0, .int 0, .int 0])), (q_58, .inr (0, [.int 0, .int 0, .int 0, .int 0, .int 0, .int 0, .int 0])), (q_62, .inr (0, [.int 0, .int 0, .int 0, .int 0, .int 0, .int 0, .int 0]))] H := hP
  have hD : va_D A [(h0, .inr (3, [.ref q_1, .ref q_12, .ref q_27, .int 0, .int 0, .int 0])), (q_1, .inr (1, [.ref q1_2, .ref q2_3, .ref q3_4, .ref q4_5, .int 0, .int 0])), (q1_2, .inl (cy1_6, 8, .inl uF)), (q2_3, .inl (cy2_7, 4, .inl (fun _ => 0))), (q3_4, .inl (cy3_8, 4, .inl (fun _ => 0))), (q4_5, .inl (cy4_9, 4, .inl (fun _ => 0))), (q_12, .inr (5, [.int 5, .int 5, .ref q1_13, .ref q2_14, .ref q3_15, .ref q4_16, .ref q5_17, .ref q6_18])), (q1_13, .inl (cy1_19, 100, .inl (fun _ => 0))), (q2_14, .inl (cy2_20, 100, .inl (fun _ => 0))), (q3_15, .inl (cy3_21, 100, .inl (fun _ => 0))), (q4_16, .inl (cy4_22, 100, .inl (fun _ => (-1)))), (q5_17, .inl (cy5_23, 100, .inl (fun _ => 0))), (q6_18, .inl (cy6_24, 100, .inl (fun _ => 0))), (q_27, .inl (cy_28, 10, .inr (.inr (.inr (.inr (va_up (va_up (va_up (va_up (va_up (va_up (va_up (va_up (fun _ => none) 0 (some q_30)) 1 (some q_34)) 2 (some q_38)) 3 (some q_42)) 4 (some q_46)) 5 (some q_50)) 6 (some q_54)) 7 (some q_58))))))), (q_30, .inr (0, [.int 0, .int 0, .int 0, .int 0, .int 0, .int 0, .int 0])), (q_34, .inr (0, [.int 0, .int 0, .int 0, .int 0, .int 0, .int 0, .int 0])), (q_38, .inr (0, [.int 0, .int 0, .int 0, .int 0, .int 0, .int 0, .int 0])), (q_42, .inr (0, [.int 0, .int 0, .int 0, .int 0, .int 0, .int 0, .int 0])), (q_46, .inr (0, [.int 0, .int 0, .int 0, .int 0, .int 0, .int 0, .int 0])), (q_50, .inr (0, [.int 0, .int 0, .int 0, .int 0, .int 0, .int 0, .int 0])), (q_54, .inr (0, [.int 0, .int 0, .int 0, .int 0, .int 0, .int 0, .int 0])), (q_58, .inr (0, [.int 0, .int 0, .int 0, .int 0, .int 0, .int 0, .int 0])), (q_62, .inr (0, [.int 0, .int 0, .int 0, .int 0, .int 0, .int 0, .int 0]))] := hD
  refine W.widen (k := 22) (n := 707) (by decide) (by decide) ?_
  refine lv_dup hx hb dX3_init_51 rfl ?_
  refine mc_Nv (rest := [.ref q_62, .int 8, .ref q_27]) (wr := [(h0, .inr (3, [.ref q_1, .ref q_12, .ref q_27, .int 0, .int 0, .int 0])), (q_1, .inr (1, [.ref q1_2, .ref q2_3, .ref q3_4, .ref q4_5, .int 0, .int 0])), (q1_2, .inl (cy1_6, 8, .inl uF)), (q2_3, .inl (cy2_7, 4, .inl (fun _ => 0))), (q3_4, .inl (cy3_8, 4, .inl (fun _ => 0))), (q4_5, .inl (cy4_9, 4, .inl (fun _ => 0))), (q_12, .inr (5, [.int 5, .int 5, .ref q1_13, .ref q2_14, .ref q3_15, .ref q4_16, .ref q5_17, .ref q6_18])), (q1_13, .inl (cy1_19, 100, .inl (fun _ => 0))), (q2_14, .inl (cy2_20, 100, .inl (fun _ => 0))), (q3_15, .inl (cy3_21, 100, .inl (fun _ => 0))), (q4_16, .inl (cy4_22, 100, .inl (fun _ => (-1)))), (q5_17, .inl (cy5_23, 100, .inl (fun _ => 0))), (q6_18, .inl (cy6_24, 100, .inl (fun _ => 0))), (q_27, .inl (cy_28, 10, .inr (.inr (.inr (.inr (va_up (va_up (va_up (va_up (va_up (va_up (va_up (va_up (fun _ => none) 0 (some q_30)) 1 (some q_34)) 2 (some q_38)) 3 (some q_42)) 4 (some q_46)) 5 (some q_50)) 6 (some q_54)) 7 (some q_58))))))), (q_30, .inr (0, [.int 0, .int 0, .int 0, .int 0, .int 0, .int 0, .int 0])), (q_34, .inr (0, [.int 0, .int 0, .int 0, .int 0, .int 0, .int 0, .int 0])), (q_38, .inr (0, [.int 0, .int 0, .int 0, .int 0, .int 0, .int 0, .int 0])), (q_42, .inr (0, [.int 0, .int 0, .int 0, .int 0, .int 0, .int 0, .int 0])), (q_46, .inr (0, [.int 0, .int 0, .int 0, .int 0, .int 0, .int 0, .int 0])), (q_50, .inr (0, [.int 0, .int 0, .int 0, .int 0, .int 0, .int 0, .int 0])), (q_54, .inr (0, [.int 0, .int 0, .int 0, .int 0, .int 0, .int 0, .int 0])), (q_58, .inr (0, [.int 0, .int 0, .int 0, .int 0, .int 0, .int 0, .int 0]))]) F hK hP hD hS hA (c_Booth_init l D q_62 ) ⟨gk_X3_31.1, gk_X3_31.2.1, gk_X3_31.2.2, Nat.le_of_ble_eq_true rfl, Nat.le_of_ble_eq_true rfl⟩ hX.2.1 [22] [0, 1, 2, 3, 4, 5, 6, 7, 8, 9, 10, 11, 12, 13, 14, 15, 16, 17, 18, 19, 20, 21] [] ⟨rfl, rfl, rfl, rfl, by decide⟩ rfl xT_move (fun _ _ _ => trivial) rfl hl.1 rfl (Nat.le_of_ble_eq_true rfl) dX3_init_52 ⟨Nat.le_of_ble_eq_true rfl, Nat.le_of_ble_eq_true rfl⟩ (fun _ H locs hw hK1 hP hD hS => ?_)
  have hP : va_P D vwCl [(h0, .inr (3, [.ref q_1, .ref q_12, .ref q_27, .int 0, .int 0, .int 0])), (q_1, .inr (1, [.ref q1_2, .ref q2_3, .ref q3_4, .ref q4_5, .int 0, .int 0])), (q1_2, .inl (cy1_6, 8, .inl uF)), (q2_3, .inl (cy2_7, 4, .inl (fun _ => 0))), (q3_4, .inl (cy3_8, 4, .inl (fun _ => 0))), (q4_5, .inl (cy4_9, 4, .inl (fun _ => 0))), (q_12, .inr (5, [.int 5, .int 5, .ref q1_13, .ref q2_14, .ref q3_15, .ref q4_16, .ref q5_17, .ref q6_18])), (q1_13, .inl (cy1_19, 100, .inl (fun _ => 0))), (q2_14, .inl (cy2_20, 100, .inl (fun _ => 0))), (q3_15, .inl (cy3_21, 100, .inl (fun _ => 0))), (q4_16, .inl (cy4_22, 100, .inl (fun _ => (-1)))), (q5_17, .inl (cy5_23, 100, .inl (fun _ => 0))), (q6_18, .inl (cy6_24, 100, .inl (fun _ => 0))), (q_27, .inl (cy_28, 10, .inr (.inr (.inr (.inr (va_up (va_up (va_up (va_up (va_up (va_up (va_up (va_up (fun _ => none) 0 (some q_30)) 1 (some q_34)) 2 (some q_38)) 3 (some q_42)) 4 (some q_46)) 5 (some q_50)) 6 (some q_54)) 7 (some q_58))))))), (q_30, .inr (0, [.int 0, .int 0, .int 0, .int 0, .int 0, .int 0, .int 0])), (q_34, .inr (0, [.int 0, .int 0, .int 0, .int 0, .int 0, .int 0, .int 0])), (q_38, .inr (0, [.int 0, .int 0, .int 0, .int 0, .int 0, .int 0, .int 0])), (q_42, .inr (0, [.int 0, .int 0, .int 0, .int 0, .int 0, .int 0, .int 0])), (q_46, .inr (0, [.int 0, .int 0, .int 0, .int 0, .int 0, .int 0, .int 0])), (q_50, .inr (0, [.int 0, .int 0, .int 0, .int 0, .int 0, .int 0, .int 0])), (q_54, .inr (0, [.int 0, .int 0, .int 0, .int 0, .int 0, .int 0, .int 0])), (q_58, .inr (0, [.int 0, .int 0, .int 0, .int 0, .int 0, .int 0, .int 0])), (q_62, .inr (0, [.int 0, .int 0, .int 0, .int 0, .int 0, .int 0, .int 0]))] H := hP
  have hD : va_D A [(h0, .inr (3, [.ref q_1, .ref q_12, .ref q_27, .int 0, .int 0, .int 0])), (q_1, .inr (1, [.ref q1_2, .ref q2_3, .ref q3_4, .ref q4_5, .int 0, .int 0])), (q1_2, .inl (cy1_6, 8, .inl uF)), (q2_3, .inl (cy2_7, 4, .inl (fun _ => 0))), (q3_4, .inl (cy3_8, 4, .inl (fun _ => 0))), (q4_5, .inl (cy4_9, 4, .inl (fun _ => 0))), (q_12, .inr (5, [.int 5, .int 5, .ref q1_13, .ref q2_14, .ref q3_15, .ref q4_16, .ref q5_17, .ref q6_18])), (q1_13, .inl (cy1_19, 100, .inl (fun _ => 0))), (q2_14, .inl (cy2_20, 100, .inl (fun _ => 0))), (q3_15, .inl (cy3_21, 100, .inl (fun _ => 0))), (q4_16, .inl (cy4_22, 100, .inl (fun _ => (-1)))), (q5_17, .inl (cy5_23, 100, .inl (fun _ => 0))), (q6_18, .inl (cy6_24, 100, .inl (fun _ => 0))), (q_27, .inl (cy_28, 10, .inr (.inr (.inr (.inr (va_up (va_up (va_up (va_up (va_up (va_up (va_up (va_up (fun _ => none) 0 (some q_30)) 1 (some q_34)) 2 (some q_38)) 3 (some q_42)) 4 (some q_46)) 5 (some q_50)) 6 (some q_54)) 7 (some q_58))))))), (q_30, .inr (0, [.int 0, .int 0, .int 0, .int 0, .int 0, .int 0, .int 0])), (q_34, .inr (0, [.int 0, .int 0, .int 0, .int 0, .int 0, .int 0, .int 0])), (q_38, .inr (0, [.int 0, .int 0, .int 0, .int 0, .int 0, .int 0, .int 0])), (q_42, .inr (0, [.int 0, .int 0, .int 0, .int 0, .int 0, .int 0, .int 0])), (q_46, .inr (0, [.int 0, .int 0, .int 0, .int 0, .int 0, .int 0, .int 0])), (q_50, .inr (0, [.int 0, .int 0, .int 0, .int 0, .int 0, .int 0, .int 0])), (q_54, .inr (0, [.int 0, .int 0, .int 0, .int 0, .int 0, .int 0, .int 0])), (q_58, .inr (0, [.int 0, .int 0, .int 0, .int 0, .int 0, .int 0, .int 0])), (q_62, .inr (0, [.int 0, .int 0, .int 0, .int 0, .int 0, .int 0, .int 0]))] := hD
  refine va_astq hx hb hK hP hD hS 13 10 22 0 rfl rfl rfl rfl (by unfold vp_in; decide) dX3_init_55 (fun H locs hP hD hS => ?_)
  have hP : va_P D vwCl [(h0, .inr (3, [.ref q_1, .ref q_12, .ref q_27, .int 0, .int 0, .int 0])), (q_1, .inr (1, [.ref q1_2, .ref q2_3, .ref q3_4, .ref q4_5, .int 0, .int 0])), (q1_2, .inl (cy1_6, 8, .inl uF)), (q2_3, .inl (cy2_7, 4, .inl (fun _ => 0))), (q3_4, .inl (cy3_8, 4, .inl (fun _ => 0))), (q4_5, .inl (cy4_9, 4, .inl (fun _ => 0))), (q_12, .inr (5, [.int 5, .int 5, .ref q1_13, .ref q2_14, .ref q3_15, .ref q4_16, .ref q5_17, .ref q6_18])), (q1_13, .inl (cy1_19, 100, .inl (fun _ => 0))), (q2_14, .inl (cy2_20, 100, .inl (fun _ => 0))), (q3_15, .inl (cy3_21, 100, .inl (fun _ => 0))), (q4_16, .inl (cy4_22, 100, .inl (fun _ => (-1)))), (q5_17, .inl (cy5_23, 100, .inl (fun _ => 0))), (q6_18, .inl (cy6_24, 100, .inl (fun _ => 0))), (q_27, .inl (cy_28, 10, .inr (.inr (.inr (.inr (va_up (va_up (va_up (va_up (va_up (va_up (va_up (va_up (va_up (fun _ => none) 0 (some q_30)) 1 (some q_34)) 2 (some q_38)) 3 (some q_42)) 4 (some q_46)) 5 (some q_50)) 6 (some q_54)) 7 (some q_58)) 8 (some q_62))))))), (q_30, .inr (0, [.int 0, .int 0, .int 0, .int 0, .int 0, .int 0, .int 0])), (q_34, .inr (0, [.int 0, .int 0, .int 0, .int 0, .int 0, .int 0, .int 0])), (q_38, .inr (0, [.int 0, .int 0, .int 0, .int 0, .int 0, .int 0, .int 0])), (q_42, .inr (0, [.int 0, .int 0, .int 0, .int 0, .int 0, .int 0, .int 0])), (q_46, .inr (0, [.int 0, .int 0, .int 0, .int 0, .int 0, .int 0, .int 0])), (q_50, .inr (0, [.int 0, .int 0, .int 0, .int 0, .int 0, .int 0, .int 0])), (q_54, .inr (0, [.int 0, .int 0, .int 0, .int 0, .int 0, .int 0, .int 0])), (q_58, .inr (0, [.int 0, .int 0, .int 0, .int 0, .int 0, .int 0, .int 0])), (q_62, .inr (0, [.int 0, .int 0, .int 0, .int 0, .int 0, .int 0, .int 0]))] H := hP
  have hD : va_D A [(h0, .inr (3, [.ref q_1, .ref q_12, .ref q_27, .int 0, .int 0, .int 0])), (q_1, .inr (1, [.ref q1_2, .ref q2_3, .ref q3_4, .ref q4_5, .int 0, .int 0])), (q1_2, .inl (cy1_6, 8, .inl uF)), (q2_3, .inl (cy2_7, 4, .inl (fun _ => 0))), (q3_4, .inl (cy3_8, 4, .inl (fun _ => 0))), (q4_5, .inl (cy4_9, 4, .inl (fun _ => 0))), (q_12, .inr (5, [.int 5, .int 5, .ref q1_13, .ref q2_14, .ref q3_15, .ref q4_16, .ref q5_17, .ref q6_18])), (q1_13, .inl (cy1_19, 100, .inl (fun _ => 0))), (q2_14, .inl (cy2_20, 100, .inl (fun _ => 0))), (q3_15, .inl (cy3_21, 100, .inl (fun _ => 0))), (q4_16, .inl (cy4_22, 100, .inl (fun _ => (-1)))), (q5_17, .inl (cy5_23, 100, .inl (fun _ => 0))), (q6_18, .inl (cy6_24, 100, .inl (fun _ => 0))), (q_27, .inl (cy_28, 10, .inr (.inr (.inr (.inr (va_up (va_up (va_up (va_up (va_up (va_up (va_up (va_up (va_up (fun _ => none) 0 (some q_30)) 1 (some q_34)) 2 (some q_38)) 3 (some q_42)) 4 (some q_46)) 5 (some q_50)) 6 (some q_54)) 7 (some q_58)) 8 (some q_62))))))), (q_30, .inr (0, [.int 0, .int 0, .int 0, .int 0, .int 0, .int 0, .int 0])), (q_34, .inr (0, [.int 0, .int 0, .int 0, .int 0, .int 0, .int 0, .int 0])), (q_38, .inr (0, [.int 0, .int 0, .int 0, .int 0, .int 0, .int 0, .int 0])), (q_42, .inr (0, [.int 0, .int 0, .int 0, .int 0, .int 0, .int 0, .int 0])), (q_46, .inr (0, [.int 0, .int 0, .int 0, .int 0, .int 0, .int 0, .int 0])), (q_50, .inr (0, [.int 0, .int 0, .int 0, .int 0, .int 0, .int 0, .int 0])), (q_54, .inr (0, [.int 0, .int 0, .int 0, .int 0, .int 0, .int 0, .int 0])), (q_58, .inr (0, [.int 0, .int 0, .int 0, .int 0, .int 0, .int 0, .int 0])), (q_62, .inr (0, [.int 0, .int 0, .int 0, .int 0, .int 0, .int 0, .int 0]))] := hD
  refine lv_iinc (v := 9) (lv' := [(1, .int 9), (0, .ref h0)]) hx hb dX3_init_56 hl (k := 0) rfl (by decide) (by decide) rfl (fun ls hl => ?_)
  refine lv_goto (tgt := 37) hx hb dX3_init_59 (by decide) ?_
  refine lv_iload_n hx hb dX3_init_37 rfl (lv_at hl 0 rfl) ?_
  refine lv_bipush (v := 10) hx hb dX3_init_38 (by decide) ?_
  refine lv_icmp_ge (tgt := 62) hx hb dX3_init_40 (by decide) (fun c_65 => absurd c_65 (by decide)) (fun c_65 => ?_)
  refine lv_aload_n hx hb dX3_init_43 rfl (lv_at hl 1 rfl) ?_
  refine va_get (D := D) (ci := 3) (v := .ref q_27) (C := RX3) (T := TX3) (N := 6) hx hb hts inG_X3 hown hK hP 0 rfl rfl 2 (by decide) (hts _ kw_1_223) (fun _ h9 => h9) rfl dX3_init_44 ?_
  refine lv_iload_n hx hb dX3_init_47 rfl (lv_at hl 0 rfl) ?_
  refine va_new (ci := 0) (fs := [.int 0, .int 0, .int 0, .int 0, .int 0, .int 0, .int 0]) (C := RX0) (T := TX0) (N := 7) hx hb hts inG_X0 tyX0 tyX0_ok hown (hts _ kw_1_178) (hts _ kw_1_180) (hts _ kw_1_8) hK hP hD hS hA rfl (fun j hj => by rcases (show j = 0 ∨ j = 1 ∨ j = 2 ∨ j = 3 ∨ j = 4 ∨ j = 5 ∨ j = 6 by omega) with rfl | rfl | rfl | rfl | rfl | rfl | rfl <;> rfl) (Nat.le_of_ble_eq_true rfl) (Nat.le_of_ble_eq_true rfl) dX3_init_48 (fun q_66 H hP hD hS => ?_)
  have hP : va_P D vwCl [(h0, .inr (3, [.ref q_1, .ref q_12, .ref q_27, .int 0, .int 0, .int 0])), (q_1, .inr (1, [.ref q1_2, .ref q2_3, .ref q3_4, .ref q4_5, .int 0, .int 0])), (q1_2, .inl (cy1_6, 8, .inl uF)), (q2_3, .inl (cy2_7, 4, .inl (fun _ => 0))), (q3_4, .inl (cy3_8, 4, .inl (fun _ => 0))), (q4_5, .inl (cy4_9, 4, .inl (fun _ => 0))), (q_12, .inr (5, [.int 5, .int 5, .ref q1_13, .ref q2_14, .ref q3_15, .ref q4_16, .ref q5_17, .ref q6_18])), (q1_13, .inl (cy1_19, 100, .inl (fun _ => 0))), (q2_14, .inl (cy2_20, 100, .inl (fun _ => 0))), (q3_15, .inl (cy3_21, 100, .inl (fun _ => 0))), (q4_16, .inl (cy4_22, 100, .inl (fun _ => (-1)))), (q5_17, .inl (cy5_23, 100, .inl (fun _ => 0))), (q6_18, .inl (cy6_24, 100, .inl (fun _ => 0))), (q_27, .inl (cy_28, 10, .inr (.inr (.inr (.inr (va_up (va_up (va_up (va_up (va_up (va_up (va_up (va_up (va_up (fun _ => none) 0 (some q_30)) 1 (some q_34)) 2 (some q_38)) 3 (some q_42)) 4 (some q_46)) 5 (some q_50)) 6 (some q_54)) 7 (some q_58)) 8 (some q_62))))))), (q_30, .inr (0, [.int 0, .int 0, .int 0, .int 0, .int 0, .int 0, .int 0])), (q_34, .inr (0, [.int 0, .int 0, .int 0, .int 0, .int 0, .int 0, .int 0])), (q_38, .inr (0, [.int 0, .int 0, .int 0, .int 0, .int 0, .int 0, .int 0])), (q_42, .inr (0, [.int 0, .int 0, .int 0, .int 0, .int 0, .int 0, .int 0])), (q_46, .inr (0, [.int 0, .int 0, .int 0, .int 0, .int 0, .int 0, .int 0])), (q_50, .inr (0, [.int 0, .int 0, .int 0, .int 0, .int 0, .int 0, .int 0])), (q_54, .inr (0, [.int 0, .int 0, .int 0, .int 0, .int 0, .int 0, .int 0])), (q_58, .inr (0, [.int 0, .int 0, .int 0, .int 0, .int 0, .int 0, .int 0])), (q_62, .inr (0, [.int 0, .int 0, .int 0, .int 0, .int 0, .int 0, .int 0])), (q_66, .inr (0, [.int 0, .int 0, .int 0, .int 0, .int 0, .int 0, .int 0]))] H := hP
  have hD : va_D A [(h0, .inr (3, [.ref q_1, .ref q_12, .ref q_27, .int 0, .int 0, .int 0])), (q_1, .inr (1, [.ref q1_2, .ref q2_3, .ref q3_4, .ref q4_5, .int 0, .int 0])), (q1_2, .inl (cy1_6, 8, .inl uF)), (q2_3, .inl (cy2_7, 4, .inl (fun _ => 0))), (q3_4, .inl (cy3_8, 4, .inl (fun _ => 0))), (q4_5, .inl (cy4_9, 4, .inl (fun _ => 0))), (q_12, .inr (5, [.int 5, .int 5, .ref q1_13, .ref q2_14, .ref q3_15, .ref q4_16, .ref q5_17, .ref q6_18])), (q1_13, .inl (cy1_19, 100, .inl (fun _ => 0))), (q2_14, .inl (cy2_20, 100, .inl (fun _ => 0))), (q3_15, .inl (cy3_21, 100, .inl (fun _ => 0))), (q4_16, .inl (cy4_22, 100, .inl (fun _ => (-1)))), (q5_17, .inl (cy5_23, 100, .inl (fun _ => 0))), (q6_18, .inl (cy6_24, 100, .inl (fun _ => 0))), (q_27, .inl (cy_28, 10, .inr (.inr (.inr (.inr (va_up (va_up (va_up (va_up (va_up (va_up (va_up (va_up (va_up (fun _ => none) 0 (some q_30)) 1 (some q_34)) 2 (some q_38)) 3 (some q_42)) 4 (some q_46)) 5 (some q_50)) 6 (some q_54)) 7 (some q_58)) 8 (some q_62))))))), (q_30, .inr (0, [.int 0, .int 0, .int 0, .int 0, .int 0, .int 0, .int 0])), (q_34, .inr (0, [.int 0, .int 0, .int 0, .int 0, .int 0, .int 0, .int 0])), (q_38, .inr (0, [.int 0, .int 0, .int 0, .int 0, .int 0, .int 0, .int 0])), (q_42, .inr (0, [.int 0, .int 0, .int 0, .int 0, .int 0, .int 0, .int 0])), (q_46, .inr (0, [.int 0, .int 0, .int 0, .int 0, .int 0, .int 0, .int 0])), (q_50, .inr (0, [.int 0, .int 0, .int 0, .int 0, .int 0, .int 0, .int 0])), (q_54, .inr (0, [.int 0, .int 0, .int 0, .int 0, .int 0, .int 0, .int 0])), (q_58, .inr (0, [.int 0, .int 0, .int 0, .int 0, .int 0, .int 0, .int 0])), (q_62, .inr (0, [.int 0, .int 0, .int 0, .int 0, .int 0, .int 0, .int 0])), (q_66, .inr (0, [.int 0, .int 0, .int 0, .int 0, .int 0, .int 0, .int 0]))] := hD
  refine W.widen (k := 23) (n := 714) (by decide) (by decide) ?_
  refine lv_dup hx hb dX3_init_51 rfl ?_
  refine mc_Nv (rest := [.ref q_66, .int 9, .ref q_27]) (wr := [(h0, .inr (3, [.ref q_1, .ref q_12, .ref q_27, .int 0, .int 0, .int 0])), (q_1, .inr (1, [.ref q1_2, .ref q2_3, .ref q3_4, .ref q4_5, .int 0, .int 0])), (q1_2, .inl (cy1_6, 8, .inl uF)), (q2_3, .inl (cy2_7, 4, .inl (fun _ => 0))), (q3_4, .inl (cy3_8, 4, .inl (fun _ => 0))), (q4_5, .inl (cy4_9, 4, .inl (fun _ => 0))), (q_12, .inr (5, [.int 5, .int 5, .ref q1_13, .ref q2_14, .ref q3_15, .ref q4_16, .ref q5_17, .ref q6_18])), (q1_13, .inl (cy1_19, 100, .inl (fun _ => 0))), (q2_14, .inl (cy2_20, 100, .inl (fun _ => 0))), (q3_15, .inl (cy3_21, 100, .inl (fun _ => 0))), (q4_16, .inl (cy4_22, 100, .inl (fun _ => (-1)))), (q5_17, .inl (cy5_23, 100, .inl (fun _ => 0))), (q6_18, .inl (cy6_24, 100, .inl (fun _ => 0))), (q_27, .inl (cy_28, 10, .inr (.inr (.inr (.inr (va_up (va_up (va_up (va_up (va_up (va_up (va_up (va_up (va_up (fun _ => none) 0 (some q_30)) 1 (some q_34)) 2 (some q_38)) 3 (some q_42)) 4 (some q_46)) 5 (some q_50)) 6 (some q_54)) 7 (some q_58)) 8 (some q_62))))))), (q_30, .inr (0, [.int 0, .int 0, .int 0, .int 0, .int 0, .int 0, .int 0])), (q_34, .inr (0, [.int 0, .int 0, .int 0, .int 0, .int 0, .int 0, .int 0])), (q_38, .inr (0, [.int 0, .int 0, .int 0, .int 0, .int 0, .int 0, .int 0])), (q_42, .inr (0, [.int 0, .int 0, .int 0, .int 0, .int 0, .int 0, .int 0])), (q_46, .inr (0, [.int 0, .int 0, .int 0, .int 0, .int 0, .int 0, .int 0])), (q_50, .inr (0, [.int 0, .int 0, .int 0, .int 0, .int 0, .int 0, .int 0])), (q_54, .inr (0, [.int 0, .int 0, .int 0, .int 0, .int 0, .int 0, .int 0])), (q_58, .inr (0, [.int 0, .int 0, .int 0, .int 0, .int 0, .int 0, .int 0])), (q_62, .inr (0, [.int 0, .int 0, .int 0, .int 0, .int 0, .int 0, .int 0]))]) F hK hP hD hS hA (c_Booth_init l D q_66 ) ⟨gk_X3_31.1, gk_X3_31.2.1, gk_X3_31.2.2, Nat.le_of_ble_eq_true rfl, Nat.le_of_ble_eq_true rfl⟩ hX.2.1 [23] [0, 1, 2, 3, 4, 5, 6, 7, 8, 9, 10, 11, 12, 13, 14, 15, 16, 17, 18, 19, 20, 21, 22] [] ⟨rfl, rfl, rfl, rfl, by decide⟩ rfl xT_move (fun _ _ _ => trivial) rfl hl.1 rfl (Nat.le_of_ble_eq_true rfl) dX3_init_52 ⟨Nat.le_of_ble_eq_true rfl, Nat.le_of_ble_eq_true rfl⟩ (fun _ H locs hw hK1 hP hD hS => ?_)
  have hP : va_P D vwCl [(h0, .inr (3, [.ref q_1, .ref q_12, .ref q_27, .int 0, .int 0, .int 0])), (q_1, .inr (1, [.ref q1_2, .ref q2_3, .ref q3_4, .ref q4_5, .int 0, .int 0])), (q1_2, .inl (cy1_6, 8, .inl uF)), (q2_3, .inl (cy2_7, 4, .inl (fun _ => 0))), (q3_4, .inl (cy3_8, 4, .inl (fun _ => 0))), (q4_5, .inl (cy4_9, 4, .inl (fun _ => 0))), (q_12, .inr (5, [.int 5, .int 5, .ref q1_13, .ref q2_14, .ref q3_15, .ref q4_16, .ref q5_17, .ref q6_18])), (q1_13, .inl (cy1_19, 100, .inl (fun _ => 0))), (q2_14, .inl (cy2_20, 100, .inl (fun _ => 0))), (q3_15, .inl (cy3_21, 100, .inl (fun _ => 0))), (q4_16, .inl (cy4_22, 100, .inl (fun _ => (-1)))), (q5_17, .inl (cy5_23, 100, .inl (fun _ => 0))), (q6_18, .inl (cy6_24, 100, .inl (fun _ => 0))), (q_27, .inl (cy_28, 10, .inr (.inr (.inr (.inr (va_up (va_up (va_up (va_up (va_up (va_up (va_up (va_up (va_up (fun _ => none) 0 (some q_30)) 1 (some q_34)) 2 (some q_38)) 3 (some q_42)) 4 (some q_46)) 5 (some q_50)) 6 (some q_54)) 7 (some q_58)) 8 (some q_62))))))), (q_30, .inr (0, [.int 0, .int 0, .int 0, .int 0, .int 0, .int 0, .int 0])), (q_34, .inr (0, [.int 0, .int 0, .int 0, .int 0, .int 0, .int 0, .int 0])), (q_38, .inr (0, [.int 0, .int 0, .int 0, .int 0, .int 0, .int 0, .int 0])), (q_42, .inr (0, [.int 0, .int 0, .int 0, .int 0, .int 0, .int 0, .int 0])), (q_46, .inr (0, [.int 0, .int 0, .int 0, .int 0, .int 0, .int 0, .int 0])), (q_50, .inr (0, [.int 0, .int 0, .int 0, .int 0, .int 0, .int 0, .int 0])), (q_54, .inr (0, [.int 0, .int 0, .int 0, .int 0, .int 0, .int 0, .int 0])), (q_58, .inr (0, [.int 0, .int 0, .int 0, .int 0, .int 0, .int 0, .int 0])), (q_62, .inr (0, [.int 0, .int 0, .int 0, .int 0, .int 0, .int 0, .int 0])), (q_66, .inr (0, [.int 0, .int 0, .int 0, .int 0, .int 0, .int 0, .int 0]))] H := hP
  have hD : va_D A [(h0, .inr (3, [.ref q_1, .ref q_12, .ref q_27, .int 0, .int 0, .int 0])), (q_1, .inr (1, [.ref q1_2, .ref q2_3, .ref q3_4, .ref q4_5, .int 0, .int 0])), (q1_2, .inl (cy1_6, 8, .inl uF)), (q2_3, .inl (cy2_7, 4, .inl (fun _ => 0))), (q3_4, .inl (cy3_8, 4, .inl (fun _ => 0))), (q4_5, .inl (cy4_9, 4, .inl (fun _ => 0))), (q_12, .inr (5, [.int 5, .int 5, .ref q1_13, .ref q2_14, .ref q3_15, .ref q4_16, .ref q5_17, .ref q6_18])), (q1_13, .inl (cy1_19, 100, .inl (fun _ => 0))), (q2_14, .inl (cy2_20, 100, .inl (fun _ => 0))), (q3_15, .inl (cy3_21, 100, .inl (fun _ => 0))), (q4_16, .inl (cy4_22, 100, .inl (fun _ => (-1)))), (q5_17, .inl (cy5_23, 100, .inl (fun _ => 0))), (q6_18, .inl (cy6_24, 100, .inl (fun _ => 0))), (q_27, .inl (cy_28, 10, .inr (.inr (.inr (.inr (va_up (va_up (va_up (va_up (va_up (va_up (va_up (va_up (va_up (fun _ => none) 0 (some q_30)) 1 (some q_34)) 2 (some q_38)) 3 (some q_42)) 4 (some q_46)) 5 (some q_50)) 6 (some q_54)) 7 (some q_58)) 8 (some q_62))))))), (q_30, .inr (0, [.int 0, .int 0, .int 0, .int 0, .int 0, .int 0, .int 0])), (q_34, .inr (0, [.int 0, .int 0, .int 0, .int 0, .int 0, .int 0, .int 0])), (q_38, .inr (0, [.int 0, .int 0, .int 0, .int 0, .int 0, .int 0, .int 0])), (q_42, .inr (0, [.int 0, .int 0, .int 0, .int 0, .int 0, .int 0, .int 0])), (q_46, .inr (0, [.int 0, .int 0, .int 0, .int 0, .int 0, .int 0, .int 0])), (q_50, .inr (0, [.int 0, .int 0, .int 0, .int 0, .int 0, .int 0, .int 0])), (q_54, .inr (0, [.int 0, .int 0, .int 0, .int 0, .int 0, .int 0, .int 0])), (q_58, .inr (0, [.int 0, .int 0, .int 0, .int 0, .int 0, .int 0, .int 0])), (q_62, .inr (0, [.int 0, .int 0, .int 0, .int 0, .int 0, .int 0, .int 0])), (q_66, .inr (0, [.int 0, .int 0, .int 0, .int 0, .int 0, .int 0, .int 0]))] := hD
  refine va_astq hx hb hK hP hD hS 13 10 23 0 rfl rfl rfl rfl (by unfold vp_in; decide) dX3_init_55 (fun H locs hP hD hS => ?_)
  have hP : va_P D vwCl [(h0, .inr (3, [.ref q_1, .ref q_12, .ref q_27, .int 0, .int 0, .int 0])), (q_1, .inr (1, [.ref q1_2, .ref q2_3, .ref q3_4, .ref q4_5, .int 0, .int 0])), (q1_2, .inl (cy1_6, 8, .inl uF)), (q2_3, .inl (cy2_7, 4, .inl (fun _ => 0))), (q3_4, .inl (cy3_8, 4, .inl (fun _ => 0))), (q4_5, .inl (cy4_9, 4, .inl (fun _ => 0))), (q_12, .inr (5, [.int 5, .int 5, .ref q1_13, .ref q2_14, .ref q3_15, .ref q4_16, .ref q5_17, .ref q6_18])), (q1_13, .inl (cy1_19, 100, .inl (fun _ => 0))), (q2_14, .inl (cy2_20, 100, .inl (fun _ => 0))), (q3_15, .inl (cy3_21, 100, .inl (fun _ => 0))), (q4_16, .inl (cy4_22, 100, .inl (fun _ => (-1)))), (q5_17, .inl (cy5_23, 100, .inl (fun _ => 0))), (q6_18, .inl (cy6_24, 100, .inl (fun _ => 0))), (q_27, .inl (cy_28, 10, .inr (.inr (.inr (.inr (va_up (va_up (va_up (va_up (va_up (va_up (va_up (va_up (va_up (va_up (fun _ => none) 0 (some q_30)) 1 (some q_34)) 2 (some q_38)) 3 (some q_42)) 4 (some q_46)) 5 (some q_50)) 6 (some q_54)) 7 (some q_58)) 8 (some q_62)) 9 (some q_66))))))), (q_30, .inr (0, [.int 0, .int 0, .int 0, .int 0, .int 0, .int 0, .int 0])), (q_34, .inr (0, [.int 0, .int 0, .int 0, .int 0, .int 0, .int 0, .int 0])), (q_38, .inr (0, [.int 0, .int 0, .int 0, .int 0, .int 0, .int 0, .int 0])), (q_42, .inr (0, [.int 0, .int 0, .int 0, .int 0, .int 0, .int 0, .int 0])), (q_46, .inr (0, [.int 0, .int 0, .int 0, .int 0, .int 0, .int 0, .int 0])), (q_50, .inr (0, [.int 0, .int 0, .int 0, .int 0, .int 0, .int 0, .int 0])), (q_54, .inr (0, [.int 0, .int 0, .int 0, .int 0, .int 0, .int 0, .int 0])), (q_58, .inr (0, [.int 0, .int 0, .int 0, .int 0, .int 0, .int 0, .int 0])), (q_62, .inr (0, [.int 0, .int 0, .int 0, .int 0, .int 0, .int 0, .int 0])), (q_66, .inr (0, [.int 0, .int 0, .int 0, .int 0, .int 0, .int 0, .int 0]))] H := hP
  have hD : va_D A [(h0, .inr (3, [.ref q_1, .ref q_12, .ref q_27, .int 0, .int 0, .int 0])), (q_1, .inr (1, [.ref q1_2, .ref q2_3, .ref q3_4, .ref q4_5, .int 0, .int 0])), (q1_2, .inl (cy1_6, 8, .inl uF)), (q2_3, .inl (cy2_7, 4, .inl (fun _ => 0))), (q3_4, .inl (cy3_8, 4, .inl (fun _ => 0))), (q4_5, .inl (cy4_9, 4, .inl (fun _ => 0))), (q_12, .inr (5, [.int 5, .int 5, .ref q1_13, .ref q2_14, .ref q3_15, .ref q4_16, .ref q5_17, .ref q6_18])), (q1_13, .inl (cy1_19, 100, .inl (fun _ => 0))), (q2_14, .inl (cy2_20, 100, .inl (fun _ => 0))), (q3_15, .inl (cy3_21, 100, .inl (fun _ => 0))), (q4_16, .inl (cy4_22, 100, .inl (fun _ => (-1)))), (q5_17, .inl (cy5_23, 100, .inl (fun _ => 0))), (q6_18, .inl (cy6_24, 100, .inl (fun _ => 0))), (q_27, .inl (cy_28, 10, .inr (.inr (.inr (.inr (va_up (va_up (va_up (va_up (va_up (va_up (va_up (va_up (va_up (va_up (fun _ => none) 0 (some q_30)) 1 (some q_34)) 2 (some q_38)) 3 (some q_42)) 4 (some q_46)) 5 (some q_50)) 6 (some q_54)) 7 (some q_58)) 8 (some q_62)) 9 (some q_66))))))), (q_30, .inr (0, [.int 0, .int 0, .int 0, .int 0, .int 0, .int 0, .int 0])), (q_34, .inr (0, [.int 0, .int 0, .int 0, .int 0, .int 0, .int 0, .int 0])), (q_38, .inr (0, [.int 0, .int 0, .int 0, .int 0, .int 0, .int 0, .int 0])), (q_42, .inr (0, [.int 0, .int 0, .int 0, .int 0, .int 0, .int 0, .int 0])), (q_46, .inr (0, [.int 0, .int 0, .int 0, .int 0, .int 0, .int 0, .int 0])), (q_50, .inr (0, [.int 0, .int 0, .int 0, .int 0, .int 0, .int 0, .int 0])), (q_54, .inr (0, [.int 0, .int 0, .int 0, .int 0, .int 0, .int 0, .int 0])), (q_58, .inr (0, [.int 0, .int 0, .int 0, .int 0, .int 0, .int 0, .int 0])), (q_62, .inr (0, [.int 0, .int 0, .int 0, .int 0, .int 0, .int 0, .int 0])), (q_66, .inr (0, [.int 0, .int 0, .int 0, .int 0, .int 0, .int 0, .int 0]))] := hD
  refine lv_iinc (v := 10) (lv' := [(1, .int 10), (0, .ref h0)]) hx hb dX3_init_56 hl (k := 0) rfl (by decide) (by decide) rfl (fun ls hl => ?_)
  refine lv_goto (tgt := 37) hx hb dX3_init_59 (by decide) ?_
  refine lv_iload_n hx hb dX3_init_37 rfl (lv_at hl 0 rfl) ?_
  refine lv_bipush (v := 10) hx hb dX3_init_38 (by decide) ?_
  refine lv_icmp_ge (tgt := 62) hx hb dX3_init_40 (by decide) (fun c_69 => ?_) (fun c_69 => absurd c_69 (by decide))
  have hP9 := hP.sub (ws' := [(h0, .inr (3, [.ref q_1, .ref q_12, .ref q_27, .int 0, .int 0, .int 0])), (q_1, .inr (1, [.ref q1_2, .ref q2_3, .ref q3_4, .ref q4_5, .int 0, .int 0])), (q1_2, .inl (cy1_6, 8, .inl uF)), (q2_3, .inl (cy2_7, 4, .inl (fun _ => 0))), (q3_4, .inl (cy3_8, 4, .inl (fun _ => 0))), (q4_5, .inl (cy4_9, 4, .inl (fun _ => 0))), (q_12, .inr (5, [.int 5, .int 5, .ref q1_13, .ref q2_14, .ref q3_15, .ref q4_16, .ref q5_17, .ref q6_18])), (q1_13, .inl (cy1_19, 100, .inl (fun _ => 0))), (q2_14, .inl (cy2_20, 100, .inl (fun _ => 0))), (q3_15, .inl (cy3_21, 100, .inl (fun _ => 0))), (q4_16, .inl (cy4_22, 100, .inl (fun _ => (-1)))), (q5_17, .inl (cy5_23, 100, .inl (fun _ => 0))), (q6_18, .inl (cy6_24, 100, .inl (fun _ => 0))), (q_27, .inl (cy_28, 10, .inr (.inr (.inr (.inr (va_up (va_up (va_up (va_up (va_up (va_up (va_up (va_up (va_up (va_up (fun _ => none) 0 (some q_30)) 1 (some q_34)) 2 (some q_38)) 3 (some q_42)) 4 (some q_46)) 5 (some q_50)) 6 (some q_54)) 7 (some q_58)) 8 (some q_62)) 9 (some q_66))))))), (q_30, .inr (0, [.int 0, .int 0, .int 0, .int 0, .int 0, .int 0, .int 0])), (q_34, .inr (0, [.int 0, .int 0, .int 0, .int 0, .int 0, .int 0, .int 0])), (q_38, .inr (0, [.int 0, .int 0, .int 0, .int 0, .int 0, .int 0, .int 0])), (q_42, .inr (0, [.int 0, .int 0, .int 0, .int 0, .int 0, .int 0, .int 0])), (q_46, .inr (0, [.int 0, .int 0, .int 0, .int 0, .int 0, .int 0, .int 0])), (q_50, .inr (0, [.int 0, .int 0, .int 0, .int 0, .int 0, .int 0, .int 0])), (q_54, .inr (0, [.int 0, .int 0, .int 0, .int 0, .int 0, .int 0, .int 0])), (q_58, .inr (0, [.int 0, .int 0, .int 0, .int 0, .int 0, .int 0, .int 0])), (q_62, .inr (0, [.int 0, .int 0, .int 0, .int 0, .int 0, .int 0, .int 0])), (q_66, .inr (0, [.int 0, .int 0, .int 0, .int 0, .int 0, .int 0, .int 0]))]) [0, 1, 2, 3, 4, 5, 6, 7, 8, 9, 10, 11, 12, 13, 14, 15, 16, 17, 18, 19, 20, 21, 22, 23] rfl
  have hD9 := hD.sub (ws' := [(h0, .inr (3, [.ref q_1, .ref q_12, .ref q_27, .int 0, .int 0, .int 0])), (q_1, .inr (1, [.ref q1_2, .ref q2_3, .ref q3_4, .ref q4_5, .int 0, .int 0])), (q1_2, .inl (cy1_6, 8, .inl uF)), (q2_3, .inl (cy2_7, 4, .inl (fun _ => 0))), (q3_4, .inl (cy3_8, 4, .inl (fun _ => 0))), (q4_5, .inl (cy4_9, 4, .inl (fun _ => 0))), (q_12, .inr (5, [.int 5, .int 5, .ref q1_13, .ref q2_14, .ref q3_15, .ref q4_16, .ref q5_17, .ref q6_18])), (q1_13, .inl (cy1_19, 100, .inl (fun _ => 0))), (q2_14, .inl (cy2_20, 100, .inl (fun _ => 0))), (q3_15, .inl (cy3_21, 100, .inl (fun _ => 0))), (q4_16, .inl (cy4_22, 100, .inl (fun _ => (-1)))), (q5_17, .inl (cy5_23, 100, .inl (fun _ => 0))), (q6_18, .inl (cy6_24, 100, .inl (fun _ => 0))), (q_27, .inl (cy_28, 10, .inr (.inr (.inr (.inr (va_up (va_up (va_up (va_up (va_up (va_up (va_up (va_up (va_up (va_up (fun _ => none) 0 (some q_30)) 1 (some q_34)) 2 (some q_38)) 3 (some q_42)) 4 (some q_46)) 5 (some q_50)) 6 (some q_54)) 7 (some q_58)) 8 (some q_62)) 9 (some q_66))))))), (q_30, .inr (0, [.int 0, .int 0, .int 0, .int 0, .int 0, .int 0, .int 0])), (q_34, .inr (0, [.int 0, .int 0, .int 0, .int 0, .int 0, .int 0, .int 0])), (q_38, .inr (0, [.int 0, .int 0, .int 0, .int 0, .int 0, .int 0, .int 0])), (q_42, .inr (0, [.int 0, .int 0, .int 0, .int 0, .int 0, .int 0, .int 0])), (q_46, .inr (0, [.int 0, .int 0, .int 0, .int 0, .int 0, .int 0, .int 0])), (q_50, .inr (0, [.int 0, .int 0, .int 0, .int 0, .int 0, .int 0, .int 0])), (q_54, .inr (0, [.int 0, .int 0, .int 0, .int 0, .int 0, .int 0, .int 0])), (q_58, .inr (0, [.int 0, .int 0, .int 0, .int 0, .int 0, .int 0, .int 0])), (q_62, .inr (0, [.int 0, .int 0, .int 0, .int 0, .int 0, .int 0, .int 0])), (q_66, .inr (0, [.int 0, .int 0, .int 0, .int 0, .int 0, .int 0, .int 0]))]) [0, 1, 2, 3, 4, 5, 6, 7, 8, 9, 10, 11, 12, 13, 14, 15, 16, 17, 18, 19, 20, 21, 22, 23] (by decide) rfl
  have hK9 := hK.sub (tys' := [(cy1_6, .int), (cy2_7, .int), (cy3_8, .int), (cy4_9, .int), (cy1_19, .int), (cy2_20, .int), (cy3_21, .int), (cy4_22, .int), (cy5_23, .boolean), (cy6_24, .boolean), (cy_28, .object RX0)]) [0, 1, 2, 3, 4, 5, 6, 7, 8, 9, 10] rfl
  refine W.widen (k := 23) (n := 714) (by decide) (by decide) ?_
  exact W.vret hx hb hr (fun t ht hW => ⟨⟨(fun i => ([q_1, q1_2, q2_3, q3_4, q4_5, q_12, q1_13, q2_14, q3_15, q4_16, q5_17, q6_18, q_27, q_30, q_34, q_38, q_42, q_46, q_50, q_54, q_58, q_62, q_66] : List Nat).getD i 0, fun i => ([cy1_6, cy2_7, cy3_8, cy4_9, cy1_19, cy2_20, cy3_21, cy4_22, cy5_23, cy6_24, cy_28] : List Nat).getD i 0), rfl, trivial, by rw [ht]; exact hP9, va_K.moved hW.alike hK9, hD9⟩, hS.F ht⟩) hS.2.2 dX3_init_62
end
section
theorem dX9_init_0 : decode cX9_init 0 = .ok (.aload_n 0, 1) := by decide +kernel
theorem kw_1_29 : Cond.methodLink RX9 3 Lib.objectInit ∈ gw := gw_t1 (List.mem_of_getElem? (i := 29) (by decide +kernel)) (by decide +kernel)
theorem dX9_init_1 : decode cX9_init 1 = .ok (.invokespecial 3, 3) := by decide +kernel
theorem dX9_init_4 : decode cX9_init 4 = .ok (.aload_n 0, 1) := by decide +kernel
theorem kw_1_32 : Cond.classLink RX9 9 RX7 ∈ gw := gw_t1 (List.mem_of_getElem? (i := 32) (by decide +kernel)) (by decide +kernel)
theorem kw_1_33 : Cond.instantiable RX7 2 ∈ gw := gw_t1 (List.mem_of_getElem? (i := 33) (by decide +kernel)) (by decide +kernel)
theorem dX9_init_5 : decode cX9_init 5 = .ok (.new 9, 3) := by decide +kernel
theorem dX9_init_8 : decode cX9_init 8 = .ok (.dup, 1) := by decide +kernel
theorem kw_1_36 : Cond.code yX7_init cX7_init 1 none ∈ gw := gw_t1 (List.mem_of_getElem? (i := 36) (by decide +kernel)) (by decide +kernel)
theorem kw_1_34 : Cond.methodLink RX9 11 yX7_init ∈ gw := gw_t1 (List.mem_of_getElem? (i := 34) (by decide +kernel)) (by decide +kernel)
theorem kw_1_35 : Cond.instanceMethod yX7_init ∈ gw := gw_t1 (List.mem_of_getElem? (i := 35) (by decide +kernel)) (by decide +kernel)
theorem gk_X9_11 : (Cond.code yX7_init cX7_init 1 none ∈ gw ∧ Cond.methodLink RX9 11 yX7_init ∈ gw ∧ Cond.instanceMethod yX7_init ∈ gw ∧ Cond.initialized yX7_init.cls ∈ gw) ∧ yX7_init.name = "<init>" ∧ (yX7_init.cls ≠ "java/lang/invoke/MethodHandle" ∧ yX7_init.cls ≠ "java/lang/invoke/VarHandle" ∧ (parseMethodDescriptor yX7_init.desc).map (fun d => d.parameters.length) = some 0) := ⟨⟨kw_1_36, kw_1_34, kw_1_35, kw_1_2⟩, rfl, by decide +kernel⟩
theorem dX9_init_9 : decode cX9_init 9 = .ok (.invokespecial 11, 3) := by decide +kernel
theorem dX9_init_12 : decode cX9_init 12 = .ok (.putfield 12, 3) := by decide +kernel
theorem dX9_init_15 : decode cX9_init 15 = .ok (.aload_n 0, 1) := by decide +kernel
theorem kw_1_48 : Cond.classLink RX9 16 RX2 ∈ gw := gw_t1 (List.mem_of_getElem? (i := 48) (by decide +kernel)) (by decide +kernel)
theorem kw_1_49 : Cond.instantiable RX2 9 ∈ gw := gw_t1 (List.mem_of_getElem? (i := 49) (by decide +kernel)) (by decide +kernel)
theorem kw_1_3 : Cond.initialized RX2 ∈ gw := gw_t1 (List.mem_of_getElem? (i := 3) (by decide +kernel)) (by decide +kernel)
theorem dX9_init_16 : decode cX9_init 16 = .ok (.new 16, 3) := by decide +kernel
theorem dX9_init_19 : decode cX9_init 19 = .ok (.dup, 1) := by decide +kernel
theorem kw_1_52 : Cond.code yX2_init cX2_init 1 none ∈ gw := gw_t1 (List.mem_of_getElem? (i := 52) (by decide +kernel)) (by decide +kernel)
theorem kw_1_50 : Cond.methodLink RX9 18 yX2_init ∈ gw := gw_t1 (List.mem_of_getElem? (i := 50) (by decide +kernel)) (by decide +kernel)
theorem kw_1_51 : Cond.instanceMethod yX2_init ∈ gw := gw_t1 (List.mem_of_getElem? (i := 51) (by decide +kernel)) (by decide +kernel)
theorem gk_X9_18 : (Cond.code yX2_init cX2_init 1 none ∈ gw ∧ Cond.methodLink RX9 18 yX2_init ∈ gw ∧ Cond.instanceMethod yX2_init ∈ gw ∧ Cond.initialized yX2_init.cls ∈ gw) ∧ yX2_init.name = "<init>" ∧ (yX2_init.cls ≠ "java/lang/invoke/MethodHandle" ∧ yX2_init.cls ≠ "java/lang/invoke/VarHandle" ∧ (parseMethodDescriptor yX2_init.desc).map (fun d => d.parameters.length) = some 0) := ⟨⟨kw_1_52, kw_1_50, kw_1_51, kw_1_3⟩, rfl, by decide +kernel⟩
theorem dX9_init_20 : decode cX9_init 20 = .ok (.invokespecial 18, 3) := by decide +kernel
theorem kw_2_68 : Cond.fieldLink RX9 19 "IceFair" "reader" "LIceFair$CustomsReader;" ∈ gw := gw_t2 (List.mem_of_getElem? (i := 68) (by decide +kernel)) (by decide +kernel)
theorem dX9_init_23 : decode cX9_init 23 = .ok (.putfield 19, 3) := by decide +kernel
theorem dX9_init_26 : decode cX9_init 26 = .ok (.aload_n 0, 1) := by decide +kernel
theorem kw_1_84 : Cond.classLink RX9 23 RX1 ∈ gw := gw_t1 (List.mem_of_getElem? (i := 84) (by decide +kernel)) (by decide +kernel)
theorem dX9_init_27 : decode cX9_init 27 = .ok (.new 23, 3) := by decide +kernel
theorem dX9_init_30 : decode cX9_init 30 = .ok (.dup, 1) := by decide +kernel
theorem kw_1_86 : Cond.methodLink RX9 25 yX1_init ∈ gw := gw_t1 (List.mem_of_getElem? (i := 86) (by decide +kernel)) (by decide +kernel)
theorem gk_X9_25 : (Cond.code yX1_init cX1_init 1 none ∈ gw ∧ Cond.methodLink RX9 25 yX1_init ∈ gw ∧ Cond.instanceMethod yX1_init ∈ gw ∧ Cond.initialized yX1_init.cls ∈ gw) ∧ yX1_init.name = "<init>" ∧ (yX1_init.cls ≠ "java/lang/invoke/MethodHandle" ∧ yX1_init.cls ≠ "java/lang/invoke/VarHandle" ∧ (parseMethodDescriptor yX1_init.desc).map (fun d => d.parameters.length) = some 0) := ⟨⟨kw_1_88, kw_1_86, kw_1_87, kw_1_4⟩, rfl, by decide +kernel⟩
theorem dX9_init_31 : decode cX9_init 31 = .ok (.invokespecial 25, 3) := by decide +kernel
theorem kw_2_69 : Cond.fieldLink RX9 26 "IceFair" "draft" "LIceFair$Customs;" ∈ gw := gw_t2 (List.mem_of_getElem? (i := 69) (by decide +kernel)) (by decide +kernel)
theorem dX9_init_34 : decode cX9_init 34 = .ok (.putfield 26, 3) := by decide +kernel
theorem dX9_init_37 : decode cX9_init 37 = .ok (.aload_n 0, 1) := by decide +kernel
theorem kw_1_124 : Cond.classLink RX9 30 RX3 ∈ gw := gw_t1 (List.mem_of_getElem? (i := 124) (by decide +kernel)) (by decide +kernel)
theorem kw_1_125 : Cond.instantiable RX3 6 ∈ gw := gw_t1 (List.mem_of_getElem? (i := 125) (by decide +kernel)) (by decide +kernel)
theorem kw_1_6 : Cond.initialized RX3 ∈ gw := gw_t1 (List.mem_of_getElem? (i := 6) (by decide +kernel)) (by decide +kernel)
theorem dX9_init_38 : decode cX9_init 38 = .ok (.new 30, 3) := by decide +kernel
theorem dX9_init_41 : decode cX9_init 41 = .ok (.dup, 1) := by decide +kernel
theorem kw_1_128 : Cond.code yX3_init cX3_init 2 none ∈ gw := gw_t1 (List.mem_of_getElem? (i := 128) (by decide +kernel)) (by decide +kernel)
theorem kw_1_126 : Cond.methodLink RX9 32 yX3_init ∈ gw := gw_t1 (List.mem_of_getElem? (i := 126) (by decide +kernel)) (by decide +kernel)
theorem kw_1_127 : Cond.instanceMethod yX3_init ∈ gw := gw_t1 (List.mem_of_getElem? (i := 127) (by decide +kernel)) (by decide +kernel)
theorem gk_X9_32 : (Cond.code yX3_init cX3_init 2 none ∈ gw ∧ Cond.methodLink RX9 32 yX3_init ∈ gw ∧ Cond.instanceMethod yX3_init ∈ gw ∧ Cond.initialized yX3_init.cls ∈ gw) ∧ yX3_init.name = "<init>" ∧ (yX3_init.cls ≠ "java/lang/invoke/MethodHandle" ∧ yX3_init.cls ≠ "java/lang/invoke/VarHandle" ∧ (parseMethodDescriptor yX3_init.desc).map (fun d => d.parameters.length) = some 0) := ⟨⟨kw_1_128, kw_1_126, kw_1_127, kw_1_6⟩, rfl, by decide +kernel⟩
theorem dX9_init_42 : decode cX9_init 42 = .ok (.invokespecial 32, 3) := by decide +kernel
theorem kw_2_70 : Cond.fieldLink RX9 33 "IceFair" "fair" "LIceFair$Fair;" ∈ gw := gw_t2 (List.mem_of_getElem? (i := 70) (by decide +kernel)) (by decide +kernel)
theorem dX9_init_45 : decode cX9_init 45 = .ok (.putfield 33, 3) := by decide +kernel
theorem dX9_init_48 : decode cX9_init 48 = .ok (.aload_n 0, 1) := by decide +kernel
theorem kw_2_7 : Cond.classLink RX9 37 RX4 ∈ gw := gw_t2 (List.mem_of_getElem? (i := 7) (by decide +kernel)) (by decide +kernel)
theorem kw_2_8 : Cond.instantiable RX4 9 ∈ gw := gw_t2 (List.mem_of_getElem? (i := 8) (by decide +kernel)) (by decide +kernel)
theorem kw_1_9 : Cond.initialized RX4 ∈ gw := gw_t1 (List.mem_of_getElem? (i := 9) (by decide +kernel)) (by decide +kernel)
theorem dX9_init_49 : decode cX9_init 49 = .ok (.new 37, 3) := by decide +kernel
theorem dX9_init_52 : decode cX9_init 52 = .ok (.dup, 1) := by decide +kernel
theorem kw_2_11 : Cond.code yX4_init cX4_init 1 none ∈ gw := gw_t2 (List.mem_of_getElem? (i := 11) (by decide +kernel)) (by decide +kernel)
theorem kw_2_9 : Cond.methodLink RX9 39 yX4_init ∈ gw := gw_t2 (List.mem_of_getElem? (i := 9) (by decide +kernel)) (by decide +kernel)
theorem kw_2_10 : Cond.instanceMethod yX4_init ∈ gw := gw_t2 (List.mem_of_getElem? (i := 10) (by decide +kernel)) (by decide +kernel)
theorem gk_X9_39 : (Cond.code yX4_init cX4_init 1 none ∈ gw ∧ Cond.methodLink RX9 39 yX4_init ∈ gw ∧ Cond.instanceMethod yX4_init ∈ gw ∧ Cond.initialized yX4_init.cls ∈ gw) ∧ yX4_init.name = "<init>" ∧ (yX4_init.cls ≠ "java/lang/invoke/MethodHandle" ∧ yX4_init.cls ≠ "java/lang/invoke/VarHandle" ∧ (parseMethodDescriptor yX4_init.desc).map (fun d => d.parameters.length) = some 0) := ⟨⟨kw_2_11, kw_2_9, kw_2_10, kw_1_9⟩, rfl, by decide +kernel⟩
theorem dX9_init_53 : decode cX9_init 53 = .ok (.invokespecial 39, 3) := by decide +kernel
theorem kw_2_71 : Cond.fieldLink RX9 40 "IceFair" "laying" "LIceFair$Laying;" ∈ gw := gw_t2 (List.mem_of_getElem? (i := 71) (by decide +kernel)) (by decide +kernel)
theorem dX9_init_56 : decode cX9_init 56 = .ok (.putfield 40, 3) := by decide +kernel
theorem dX9_init_59 : decode cX9_init 59 = .ok (.aload_n 0, 1) := by decide +kernel
theorem kw_2_42 : Cond.classLink RX9 44 RX8 ∈ gw := gw_t2 (List.mem_of_getElem? (i := 42) (by decide +kernel)) (by decide +kernel)
theorem kw_2_43 : Cond.instantiable RX8 6 ∈ gw := gw_t2 (List.mem_of_getElem? (i := 43) (by decide +kernel)) (by decide +kernel)
theorem kw_1_10 : Cond.initialized RX8 ∈ gw := gw_t1 (List.mem_of_getElem? (i := 10) (by decide +kernel)) (by decide +kernel)
theorem dX9_init_60 : decode cX9_init 60 = .ok (.new 44, 3) := by decide +kernel
theorem dX9_init_63 : decode cX9_init 63 = .ok (.dup, 1) := by decide +kernel
theorem kw_2_46 : Cond.code yX8_init cX8_init 1 none ∈ gw := gw_t2 (List.mem_of_getElem? (i := 46) (by decide +kernel)) (by decide +kernel)
theorem kw_2_44 : Cond.methodLink RX9 46 yX8_init ∈ gw := gw_t2 (List.mem_of_getElem? (i := 44) (by decide +kernel)) (by decide +kernel)
theorem kw_2_45 : Cond.instanceMethod yX8_init ∈ gw := gw_t2 (List.mem_of_getElem? (i := 45) (by decide +kernel)) (by decide +kernel)
theorem gk_X9_46 : (Cond.code yX8_init cX8_init 1 none ∈ gw ∧ Cond.methodLink RX9 46 yX8_init ∈ gw ∧ Cond.instanceMethod yX8_init ∈ gw ∧ Cond.initialized yX8_init.cls ∈ gw) ∧ yX8_init.name = "<init>" ∧ (yX8_init.cls ≠ "java/lang/invoke/MethodHandle" ∧ yX8_init.cls ≠ "java/lang/invoke/VarHandle" ∧ (parseMethodDescriptor yX8_init.desc).map (fun d => d.parameters.length) = some 0) := ⟨⟨kw_2_46, kw_2_44, kw_2_45, kw_1_10⟩, rfl, by decide +kernel⟩
theorem dX9_init_64 : decode cX9_init 64 = .ok (.invokespecial 46, 3) := by decide +kernel
theorem kw_2_72 : Cond.fieldLink RX9 47 "IceFair" "wayOff" "LIceFair$WayOff;" ∈ gw := gw_t2 (List.mem_of_getElem? (i := 72) (by decide +kernel)) (by decide +kernel)
theorem dX9_init_67 : decode cX9_init 67 = .ok (.putfield 47, 3) := by decide +kernel
theorem dX9_init_70 : decode cX9_init 70 = .ok (.return_, 1) := by decide +kernel
set_option maxHeartbeats 4000000 in
set_option maxRecDepth 100000 in
theorem c_IceFair_init (l : Launch) (D : va_G) (us : Nat) (h0 : Nat) : cV l yX9_init (.code yX9_init cX9_init 1 none) ({ frames := 4, cells := 45, slots := 1739, locals := 121 }) D [] [(h0, .inr (8, [.null, .null, .null, .null, .null, .null]))] (xF us) [.ref h0] (S := (Nat → Nat) × (Nat → ClassId)) (fun u => match u with | (ad, cy) => True) (fun u => match u with | (ad, cy) => [((cy 0), .int), ((cy 1), .int), ((cy 2), .int), ((cy 3), .int), ((cy 4), .int), ((cy 5), .int), ((cy 6), .int), ((cy 7), .int), ((cy 8), .int), ((cy 9), .int), ((cy 10), .int), ((cy 11), .int), ((cy 12), .int), ((cy 13), .int), ((cy 14), .int), ((cy 15), .boolean), ((cy 16), .boolean), ((cy 17), .object RX0), ((cy 18), .int), ((cy 19), .int), ((cy 20), .int), ((cy 21), .boolean), ((cy 22), .int), ((cy 23), .int), ((cy 24), .int), ((cy 25), .int), ((cy 26), .int)]) (fun u => match u with | (ad, cy) => [(h0, .inr (8, [.ref (ad 0), .ref (ad 2), .ref (ad 5), .ref (ad 10), .ref (ad 34), .ref (ad 40)])), (ad 0, .inr (6, [.ref (ad 1), .int 0])), (ad 1, .inl (cy 0, 400, .inl (fun _ => 0))), (ad 2, .inr (2, [.int 0, .int ((-1)), .ref (ad 3), .ref (ad 4), .int 0, .int 0, .int 0, .int 0, .int 0])), (ad 3, .inl (cy 1, 3, .inl (fun _ => 0))), (ad 4, .inl (cy 2, 0, .inl (fun _ => 0))), (ad 5, .inr (1, [.ref (ad 6), .ref (ad 7), .ref (ad 8), .ref (ad 9), .int 0, .int 0])), (ad 6, .inl (cy 3, 8, .inl uF)), (ad 7, .inl (cy 4, 4, .inl (fun _ => 0))), (ad 8, .inl (cy 5, 4, .inl (fun _ => 0))), (ad 9, .inl (cy 6, 4, .inl (fun _ => 0))), (ad 10, .inr (3, [.ref (ad 11), .ref (ad 16), .ref (ad 23), .int 0, .int 0, .int 0])), (ad 11, .inr (1, [.ref (ad 12), .ref (ad 13), .ref (ad 14), .ref (ad 15), .int 0, .int 0])), (ad 12, .inl (cy 7, 8, .inl uF)), (ad 13, .inl (cy 8, 4, .inl (fun _ => 0))), (ad 14, .inl (cy 9, 4, .inl (fun _ => 0))), (ad 15, .inl (cy 10, 4, .inl (fun _ => 0))), (ad 16, .inr (5, [.int 5, .int 5, .ref (ad 17), .ref (ad 18), .ref (ad 19), .ref (ad 20), .ref (ad 21), .ref (ad 22)])), (ad 17, .inl (cy 11, 100, .inl (fun _ => 0))), (ad 18, .inl (cy 12, 100, .inl (fun _ => 0))), (ad 19, .inl (cy 13, 100, .inl (fun _ => 0))), (ad 20, .inl (cy 14, 100, .inl (fun _ => (-1)))), (ad 21, .inl (cy 15, 100, .inl (fun _ => 0))), (ad 22, .inl (cy 16, 100, .inl (fun _ => 0))), (ad 23, .inl (cy 17, 10, .inr (.inr (.inr (.inr (va_up (va_up (va_up (va_up (va_up (va_up (va_up (va_up (va_up (va_up (fun _ => none) 0 (some (ad 24))) 1 (some (ad 25))) 2 (some (ad 26))) 3 (some (ad 27))) 4 (some (ad 28))) 5 (some (ad 29))) 6 (some (ad 30))) 7 (some (ad 31))) 8 (some (ad 32))) 9 (some (ad 33)))))))), (ad 24, .inr (0, [.int 0, .int 0, .int 0, .int 0, .int 0, .int 0, .int 0])), (ad 25, .inr (0, [.int 0, .int 0, .int 0, .int 0, .int 0, .int 0, .int 0])), (ad 26, .inr (0, [.int 0, .int 0, .int 0, .int 0, .int 0, .int 0, .int 0])), (ad 27, .inr (0, [.int 0, .int 0, .int 0, .int 0, .int 0, .int 0, .int 0])), (ad 28, .inr (0, [.int 0, .int 0, .int 0, .int 0, .int 0, .int 0, .int 0])), (ad 29, .inr (0, [.int 0, .int 0, .int 0, .int 0, .int 0, .int 0, .int 0])), (ad 30, .inr (0, [.int 0, .int 0, .int 0, .int 0, .int 0, .int 0, .int 0])), (ad 31, .inr (0, [.int 0, .int 0, .int 0, .int 0, .int 0, .int 0, .int 0])), (ad 32, .inr (0, [.int 0, .int 0, .int 0, .int 0, .int 0, .int 0, .int 0])), (ad 33, .inr (0, [.int 0, .int 0, .int 0, .int 0, .int 0, .int 0, .int 0])), (ad 34, .inr (4, [.int 0, .ref (ad 35), .int 0, .ref (ad 36), .ref (ad 37), .ref (ad 38), .int 0, .ref (ad 39), .int 0])), (ad 35, .inl (cy 18, 10, .inl (fun _ => 0))), (ad 36, .inl (cy 19, 100, .inl (fun _ => 0))), (ad 37, .inl (cy 20, 100, .inl (fun _ => 0))), (ad 38, .inl (cy 21, 100, .inl (fun _ => 0))), (ad 39, .inl (cy 22, 10, .inl (fun _ => 0))), (ad 40, .inr (7, [.ref (ad 41), .ref (ad 42), .int 0, .ref (ad 43), .ref (ad 44), .int 0])), (ad 41, .inl (cy 23, 100, .inl (fun _ => 0))), (ad 42, .inl (cy 24, 100, .inl (fun _ => 0))), (ad 43, .inl (cy 25, 40, .inl (fun _ => 0))), (ad 44, .inl (cy 26, 4, .inl (fun _ => 0)))]) := by
  intro sz
  refine Met.ofW (cc := cX9_init) (maxL := 1) (ret := none) (by decide) rfl ?_
  intro p e s m args below meth c s₁ B hml hv
  obtain ⟨rfl, hsz, hP, hK, hD0, hX⟩ := hv
  have hx := B.exec
  have hb := B.bytes
  have hr := B.returns
  have hts0 := atoms_spec (ws := .code yX9_init cX9_init 1 none :: gw) B.pre
  have hts := fun (w : Cond) (h : w ∈ gw) => hts0 w (List.mem_cons_of_mem _ h)
  have hown : s.vm.findClass RX9 = some m.cls := findClass_of_methodNamed B.named
  have hlocks := B.notSynchronized
  have hin : meth.name = "<init>" := (name_of_methodNamed B.named B.method).1
  have F : mFix p s m _ c cX9_init 1 RX9 := ⟨hx, hb, hml, hown, hts⟩
  subst hsz
  have hD := hD0.self (sz := s.heap.size)
  generalize hAe : va_A [(h0, .inr (8, [.null, .null, .null, .null, .null, .null]))] s.heap.size = A at hD hX ⊢
  have hA : ∀ q : Nat, s.heap.size ≤ q → A q := fun q h => by rw [← hAe]; exact Or.inr h
  have hS : va_S A s.heap s.heap [] := va_S.rf
  have hl := lv_entry ([.ref h0]) (n := 1) (Nat.le_of_ble_eq_true rfl)
  rw [lg_entry_eq]
  generalize (lg_sl ([.ref h0]) ++ List.replicate (1 - (lg_sl ([.ref h0])).length) Slot.unset).toArray = ls at hl ⊢
  have hl : lv_has ls 1 [(0, .ref h0)] := hl
  have hP : va_P D vwCl [(h0, .inr (8, [.null, .null, .null, .null, .null, .null]))] s.heap := hP
  refine lv_aload_n hx hb dX9_init_0 rfl (lv_at hl 0 rfl) ?_
  refine W.objInit hx hb hown (hts _ kw_1_29) (hts _ kw_1_30) (hts _ kw_1_31) rfl (by rw [hml]; exact hl.1) rfl dX9_init_1 (Nat.le_of_ble_eq_true rfl) (Nat.le_of_ble_eq_true rfl) ?_
  refine W.eq (g2 := F0 m 4 ls []) rfl ?_
  refine lv_aload_n hx hb dX9_init_4 rfl (lv_at hl 0 rfl) ?_
  refine va_new (ci := 6) (fs := [.null, .int 0]) (C := RX7) (T := TX7) (N := 2) hx hb hts inG_X7 tyX7 tyX7_ok hown (hts _ kw_1_32) (hts _ kw_1_33) (hts _ kw_1_2) hK hP hD hS hA rfl (fun j hj => by rcases (show j = 0 ∨ j = 1 by omega) with rfl | rfl <;> rfl) (Nat.le_of_ble_eq_true rfl) (Nat.le_of_ble_eq_true rfl) dX9_init_5 (fun q_1 H hP hD hS => ?_)
  have hP : va_P D vwCl [(h0, .inr (8, [.null, .null, .null, .null, .null, .null])), (q_1, .inr (6, [.null, .int 0]))] H := hP
  have hD : va_D A [(h0, .inr (8, [.null, .null, .null, .null, .null, .null])), (q_1, .inr (6, [.null, .int 0]))] := hD
  refine W.widen (k := 1) (n := 2) (by decide) (by decide) ?_
  refine lv_dup hx hb dX9_init_8 rfl ?_
  refine mc_Iv (rest := [.ref q_1, .ref h0]) (wr := [(h0, .inr (8, [.null, .null, .null, .null, .null, .null]))]) F hK hP hD hS hA (c_Tape_init l D q_1 ) ⟨gk_X9_11.1, gk_X9_11.2.1, gk_X9_11.2.2, Nat.le_of_ble_eq_true rfl, Nat.le_of_ble_eq_true rfl⟩ [1] [0] [] ⟨rfl, rfl, rfl, rfl, by decide⟩ rfl xT_move (fun _ _ _ => trivial) rfl hl.1 rfl (Nat.le_of_ble_eq_true rfl) dX9_init_9 ⟨Nat.le_of_ble_eq_true rfl, Nat.le_of_ble_eq_true rfl⟩ (fun u H locs hw hK1 hP hD hS => ?_)
  obtain ⟨q1_2, cy1_3⟩ := u
  have hP : va_P D vwCl [(h0, .inr (8, [.null, .null, .null, .null, .null, .null])), (q_1, .inr (6, [.ref q1_2, .int 0])), (q1_2, .inl (cy1_3, 400, .inl (fun _ => 0)))] H := hP
  have hD : va_D A [(h0, .inr (8, [.null, .null, .null, .null, .null, .null])), (q_1, .inr (6, [.ref q1_2, .int 0])), (q1_2, .inl (cy1_3, 400, .inl (fun _ => 0)))] := hD
  have hK : va_K D vwCl [(cy1_3, .int)] s := hK.app hK1
  refine W.widen (k := 2) (n := 402) (by decide) (by decide) ?_
  refine va_putF (D := D) (ci := 8) (v := .ref q_1) (ty := .object "IceFair$Tape") (C := RX9) (T := TX9) (N := 6) hx hb hts inG_X9 tyX9 tyX9_ok nmX9 hown hK hP hD hS 0 rfl rfl 0 (by decide) (hts _ kw_2_67) (fun _ h9 => h9) rfl hin rfl (by decide +kernel) rfl rfl (Nat.le_of_ble_eq_true rfl) dX9_init_12 (fun H locs hP hD hS => ?_)
  have hP : va_P D vwCl [(h0, .inr (8, [.ref q_1, .null, .null, .null, .null, .null])), (q_1, .inr (6, [.ref q1_2, .int 0])), (q1_2, .inl (cy1_3, 400, .inl (fun _ => 0)))] H := hP
  have hD : va_D A [(h0, .inr (8, [.ref q_1, .null, .null, .null, .null, .null])), (q_1, .inr (6, [.ref q1_2, .int 0])), (q1_2, .inl (cy1_3, 400, .inl (fun _ => 0)))] := hD
  refine lv_aload_n hx hb dX9_init_15 rfl (lv_at hl 0 rfl) ?_
  refine va_new (ci := 2) (fs := [.int 0, .int 0, .null, .null, .int 0, .int 0, .int 0, .int 0, .int 0]) (C := RX2) (T := TX2) (N := 9) hx hb hts inG_X2 tyX2 tyX2_ok hown (hts _ kw_1_48) (hts _ kw_1_49) (hts _ kw_1_3) hK hP hD hS hA rfl (fun j hj => by rcases (show j = 0 ∨ j = 1 ∨ j = 2 ∨ j = 3 ∨ j = 4 ∨ j = 5 ∨ j = 6 ∨ j = 7 ∨ j = 8 by omega) with rfl | rfl | rfl | rfl | rfl | rfl | rfl | rfl | rfl <;> rfl) (Nat.le_of_ble_eq_true rfl) (Nat.le_of_ble_eq_true rfl) dX9_init_16 (fun q_6 H hP hD hS => ?_)
  have hP : va_P D vwCl [(h0, .inr (8, [.ref q_1, .null, .null, .null, .null, .null])), (q_1, .inr (6, [.ref q1_2, .int 0])), (q1_2, .inl (cy1_3, 400, .inl (fun _ => 0))), (q_6, .inr (2, [.int 0, .int 0, .null, .null, .int 0, .int 0, .int 0, .int 0, .int 0]))] H := hP
  have hD : va_D A [(h0, .inr (8, [.ref q_1, .null, .null, .null, .null, .null])), (q_1, .inr (6, [.ref q1_2, .int 0])), (q1_2, .inl (cy1_3, 400, .inl (fun _ => 0))), (q_6, .inr (2, [.int 0, .int 0, .null, .null, .int 0, .int 0, .int 0, .int 0, .int 0]))] := hD
  refine W.widen (k := 3) (n := 411) (by decide) (by decide) ?_
  refine lv_dup hx hb dX9_init_19 rfl ?_
  refine mc_Iv (rest := [.ref q_6, .ref h0]) (wr := [(h0, .inr (8, [.ref q_1, .null, .null, .null, .null, .null])), (q_1, .inr (6, [.ref q1_2, .int 0])), (q1_2, .inl (cy1_3, 400, .inl (fun _ => 0)))]) F hK hP hD hS hA (c_Reader_init l D q_6 ) ⟨gk_X9_18.1, gk_X9_18.2.1, gk_X9_18.2.2, Nat.le_of_ble_eq_true rfl, Nat.le_of_ble_eq_true rfl⟩ [3] [0, 1, 2] [] ⟨rfl, rfl, rfl, rfl, by decide⟩ rfl xT_move (fun _ _ _ => trivial) rfl hl.1 rfl (Nat.le_of_ble_eq_true rfl) dX9_init_20 ⟨Nat.le_of_ble_eq_true rfl, Nat.le_of_ble_eq_true rfl⟩ (fun u H locs hw hK1 hP hD hS => ?_)
  obtain ⟨q1_7, q2_8, cy1_9, cy2_10⟩ := u
  have hP : va_P D vwCl [(h0, .inr (8, [.ref q_1, .null, .null, .null, .null, .null])), (q_1, .inr (6, [.ref q1_2, .int 0])), (q1_2, .inl (cy1_3, 400, .inl (fun _ => 0))), (q_6, .inr (2, [.int 0, .int ((-1)), .ref q1_7, .ref q2_8, .int 0, .int 0, .int 0, .int 0, .int 0])), (q1_7, .inl (cy1_9, 3, .inl (fun _ => 0))), (q2_8, .inl (cy2_10, 0, .inl (fun _ => 0)))] H := hP
  have hD : va_D A [(h0, .inr (8, [.ref q_1, .null, .null, .null, .null, .null])), (q_1, .inr (6, [.ref q1_2, .int 0])), (q1_2, .inl (cy1_3, 400, .inl (fun _ => 0))), (q_6, .inr (2, [.int 0, .int ((-1)), .ref q1_7, .ref q2_8, .int 0, .int 0, .int 0, .int 0, .int 0])), (q1_7, .inl (cy1_9, 3, .inl (fun _ => 0))), (q2_8, .inl (cy2_10, 0, .inl (fun _ => 0)))] := hD
  have hK : va_K D vwCl [(cy1_3, .int), (cy1_9, .int), (cy2_10, .int)] s := hK.app hK1
  refine W.widen (k := 5) (n := 414) (by decide) (by decide) ?_
  refine va_putF (D := D) (ci := 8) (v := .ref q_6) (ty := .object "IceFair$CustomsReader") (C := RX9) (T := TX9) (N := 6) hx hb hts inG_X9 tyX9 tyX9_ok nmX9 hown hK hP hD hS 0 rfl rfl 1 (by decide) (hts _ kw_2_68) (fun _ h9 => h9) rfl hin rfl (by decide +kernel) rfl rfl (Nat.le_of_ble_eq_true rfl) dX9_init_23 (fun H locs hP hD hS => ?_)
  have hP : va_P D vwCl [(h0, .inr (8, [.ref q_1, .ref q_6, .null, .null, .null, .null])), (q_1, .inr (6, [.ref q1_2, .int 0])), (q1_2, .inl (cy1_3, 400, .inl (fun _ => 0))), (q_6, .inr (2, [.int 0, .int ((-1)), .ref q1_7, .ref q2_8, .int 0, .int 0, .int 0, .int 0, .int 0])), (q1_7, .inl (cy1_9, 3, .inl (fun _ => 0))), (q2_8, .inl (cy2_10, 0, .inl (fun _ => 0)))] H := hP
  have hD : va_D A [(h0, .inr (8, [.ref q_1, .ref q_6, .null, .null, .null, .null])), (q_1, .inr (6, [.ref q1_2, .int 0])), (q1_2, .inl (cy1_3, 400, .inl (fun _ => 0))), (q_6, .inr (2, [.int 0, .int ((-1)), .ref q1_7, .ref q2_8, .int 0, .int 0, .int 0, .int 0, .int 0])), (q1_7, .inl (cy1_9, 3, .inl (fun _ => 0))), (q2_8, .inl (cy2_10, 0, .inl (fun _ => 0)))] := hD
  refine lv_aload_n hx hb dX9_init_26 rfl (lv_at hl 0 rfl) ?_
  refine va_new (ci := 1) (fs := [.null, .null, .null, .null, .int 0, .int 0]) (C := RX1) (T := TX1) (N := 6) hx hb hts inG_X1 tyX1 tyX1_ok hown (hts _ kw_1_84) (hts _ kw_1_85) (hts _ kw_1_4) hK hP hD hS hA rfl (fun j hj => by rcases (show j = 0 ∨ j = 1 ∨ j = 2 ∨ j = 3 ∨ j = 4 ∨ j = 5 by omega) with rfl | rfl | rfl | rfl | rfl | rfl <;> rfl) (Nat.le_of_ble_eq_true rfl) (Nat.le_of_ble_eq_true rfl) dX9_init_27 (fun q_13 H hP hD hS => ?_)
  have hP : va_P D vwCl [(h0, .inr (8, [.ref q_1, .ref q_6, .null, .null, .null, .null])), (q_1, .inr (6, [.ref q1_2, .int 0])), (q1_2, .inl (cy1_3, 400, .inl (fun _ => 0))), (q_6, .inr (2, [.int 0, .int ((-1)), .ref q1_7, .ref q2_8, .int 0, .int 0, .int 0, .int 0, .int 0])), (q1_7, .inl (cy1_9, 3, .inl (fun _ => 0))), (q2_8, .inl (cy2_10, 0, .inl (fun _ => 0))), (q_13, .inr (1, [.null, .null, .null, .null, .int 0, .int 0]))] H := hP
  have hD : va_D A [(h0, .inr (8, [.ref q_1, .ref q_6, .null, .null, .null, .null])), (q_1, .inr (6, [.ref q1_2, .int 0])), (q1_2, .inl (cy1_3, 400, .inl (fun _ => 0))), (q_6, .inr (2, [.int 0, .int ((-1)), .ref q1_7, .ref q2_8, .int 0, .int 0, .int 0, .int 0, .int 0])), (q1_7, .inl (cy1_9, 3, .inl (fun _ => 0))), (q2_8, .inl (cy2_10, 0, .inl (fun _ => 0))), (q_13, .inr (1, [.null, .null, .null, .null, .int 0, .int 0]))] := hD
  refine W.widen (k := 6) (n := 420) (by decide) (by decide) ?_
  refine lv_dup hx hb dX9_init_30 rfl ?_
  refine mc_Iv (rest := [.ref q_13, .ref h0]) (wr := [(h0, .inr (8, [.ref q_1, .ref q_6, .null, .null, .null, .null])), (q_1, .inr (6, [.ref q1_2, .int 0])), (q1_2, .inl (cy1_3, 400, .inl (fun _ => 0))), (q_6, .inr (2, [.int 0, .int ((-1)), .ref q1_7, .ref q2_8, .int 0, .int 0, .int 0, .int 0, .int 0])), (q1_7, .inl (cy1_9, 3, .inl (fun _ => 0))), (q2_8, .inl (cy2_10, 0, .inl (fun _ => 0)))]) F hK hP hD hS hA (c_Customs_init l D us q_13 ) ⟨gk_X9_25.1, gk_X9_25.2.1, gk_X9_25.2.2, Nat.le_of_ble_eq_true rfl, Nat.le_of_ble_eq_true rfl⟩ [6] [0, 1, 2, 3, 4, 5] [] ⟨rfl, rfl, rfl, rfl, by decide⟩ rfl (xU_move us) (xU_use hX.1 hS (va_free hD hS hA [6] rfl)) rfl hl.1 rfl (Nat.le_of_ble_eq_true rfl) dX9_init_31 ⟨Nat.le_of_ble_eq_true rfl, Nat.le_of_ble_eq_true rfl⟩ (fun u H locs hw hK1 hP hD hS => ?_)
  obtain ⟨q1_14, q2_15, q3_16, q4_17, cy1_18, cy2_19, cy3_20, cy4_21⟩ := u
  have hP : va_P D vwCl [(h0, .inr (8, [.ref q_1, .ref q_6, .null, .null, .null, .null])), (q_1, .inr (6, [.ref q1_2, .int 0])), (q1_2, .inl (cy1_3, 400, .inl (fun _ => 0))), (q_6, .inr (2, [.int 0, .int ((-1)), .ref q1_7, .ref q2_8, .int 0, .int 0, .int 0, .int 0, .int 0])), (q1_7, .inl (cy1_9, 3, .inl (fun _ => 0))), (q2_8, .inl (cy2_10, 0, .inl (fun _ => 0))), (q_13, .inr (1, [.ref q1_14, .ref q2_15, .ref q3_16, .ref q4_17, .int 0, .int 0])), (q1_14, .inl (cy1_18, 8, .inl uF)), (q2_15, .inl (cy2_19, 4, .inl (fun _ => 0))), (q3_16, .inl (cy3_20, 4, .inl (fun _ => 0))), (q4_17, .inl (cy4_21, 4, .inl (fun _ => 0)))] H := hP
  have hD : va_D A [(h0, .inr (8, [.ref q_1, .ref q_6, .null, .null, .null, .null])), (q_1, .inr (6, [.ref q1_2, .int 0])), (q1_2, .inl (cy1_3, 400, .inl (fun _ => 0))), (q_6, .inr (2, [.int 0, .int ((-1)), .ref q1_7, .ref q2_8, .int 0, .int 0, .int 0, .int 0, .int 0])), (q1_7, .inl (cy1_9, 3, .inl (fun _ => 0))), (q2_8, .inl (cy2_10, 0, .inl (fun _ => 0))), (q_13, .inr (1, [.ref q1_14, .ref q2_15, .ref q3_16, .ref q4_17, .int 0, .int 0])), (q1_14, .inl (cy1_18, 8, .inl uF)), (q2_15, .inl (cy2_19, 4, .inl (fun _ => 0))), (q3_16, .inl (cy3_20, 4, .inl (fun _ => 0))), (q4_17, .inl (cy4_21, 4, .inl (fun _ => 0)))] := hD
  have hK : va_K D vwCl [(cy1_3, .int), (cy1_9, .int), (cy2_10, .int), (cy1_18, .int), (cy2_19, .int), (cy3_20, .int), (cy4_21, .int)] s := hK.app hK1
  refine W.widen (k := 10) (n := 440) (by decide) (by decide) ?_
  refine va_putF (D := D) (ci := 8) (v := .ref q_13) (ty := .object "IceFair$Customs") (C := RX9) (T := TX9) (N := 6) hx hb hts inG_X9 tyX9 tyX9_ok nmX9 hown hK hP hD hS 0 rfl rfl 2 (by decide) (hts _ kw_2_69) (fun _ h9 => h9) rfl hin rfl (by decide +kernel) rfl rfl (Nat.le_of_ble_eq_true rfl) dX9_init_34 (fun H locs hP hD hS => ?_)
  have hP : va_P D vwCl [(h0, .inr (8, [.ref q_1, .ref q_6, .ref q_13, .null, .null, .null])), (q_1, .inr (6, [.ref q1_2, .int 0])), (q1_2, .inl (cy1_3, 400, .inl (fun _ => 0))), (q_6, .inr (2, [.int 0, .int ((-1)), .ref q1_7, .ref q2_8, .int 0, .int 0, .int 0, .int 0, .int 0])), (q1_7, .inl (cy1_9, 3, .inl (fun _ => 0))), (q2_8, .inl (cy2_10, 0, .inl (fun _ => 0))), (q_13, .inr (1, [.ref q1_14, .ref q2_15, .ref q3_16, .ref q4_17, .int 0, .int 0])), (q1_14, .inl (cy1_18, 8, .inl uF)), (q2_15, .inl (cy2_19, 4, .inl (fun _ => 0))), (q3_16, .inl (cy3_20, 4, .inl (fun _ => 0))), (q4_17, .inl (cy4_21, 4, .inl (fun _ => 0)))] H := hP
  have hD : va_D A [(h0, .inr (8, [.ref q_1, .ref q_6, .ref q_13, .null, .null, .null])), (q_1, .inr (6, [.ref q1_2, .int 0])), (q1_2, .inl (cy1_3, 400, .inl (fun _ => 0))), (q_6, .inr (2, [.int 0, .int ((-1)), .ref q1_7, .ref q2_8, .int 0, .int 0, .int 0, .int 0, .int 0])), (q1_7, .inl (cy1_9, 3, .inl (fun _ => 0))), (q2_8, .inl (cy2_10, 0, .inl (fun _ => 0))), (q_13, .inr (1, [.ref q1_14, .ref q2_15, .ref q3_16, .ref q4_17, .int 0, .int 0])), (q1_14, .inl (cy1_18, 8, .inl uF)), (q2_15, .inl (cy2_19, 4, .inl (fun _ => 0))), (q3_16, .inl (cy3_20, 4, .inl (fun _ => 0))), (q4_17, .inl (cy4_21, 4, .inl (fun _ => 0)))] := hD
  refine lv_aload_n hx hb dX9_init_37 rfl (lv_at hl 0 rfl) ?_
  refine va_new (ci := 3) (fs := [.null, .null, .null, .int 0, .int 0, .int 0]) (C := RX3) (T := TX3) (N := 6) hx hb hts inG_X3 tyX3 tyX3_ok hown (hts _ kw_1_124) (hts _ kw_1_125) (hts _ kw_1_6) hK hP hD hS hA rfl (fun j hj => by rcases (show j = 0 ∨ j = 1 ∨ j = 2 ∨ j = 3 ∨ j = 4 ∨ j = 5 by omega) with rfl | rfl | rfl | rfl | rfl | rfl <;> rfl) (Nat.le_of_ble_eq_true rfl) (Nat.le_of_ble_eq_true rfl) dX9_init_38 (fun q_24 H hP hD hS => ?_)
  have hP : va_P D vwCl [(h0, .inr (8, [.ref q_1, .ref q_6, .ref q_13, .null, .null, .null])), (q_1, .inr (6, [.ref q1_2, .int 0])), (q1_2, .inl (cy1_3, 400, .inl (fun _ => 0))), (q_6, .inr (2, [.int 0, .int ((-1)), .ref q1_7, .ref q2_8, .int 0, .int 0, .int 0, .int 0, .int 0])), (q1_7, .inl (cy1_9, 3, .inl (fun _ => 0))), (q2_8, .inl (cy2_10, 0, .inl (fun _ => 0))), (q_13, .inr (1, [.ref q1_14, .ref q2_15, .ref q3_16, .ref q4_17, .int 0, .int 0])), (q1_14, .inl (cy1_18, 8, .inl uF)), (q2_15, .inl (cy2_19, 4, .inl (fun _ => 0))), (q3_16, .inl (cy3_20, 4, .inl (fun _ => 0))), (q4_17, .inl (cy4_21, 4, .inl (fun _ => 0))), (q_24, .inr (3, [.null, .null, .null, .int 0, .int 0, .int 0]))] H := hP
  have hD : va_D A [(h0, .inr (8, [.ref q_1, .ref q_6, .ref q_13, .null, .null, .null])), (q_1, .inr (6, [.ref q1_2, .int 0])), (q1_2, .inl (cy1_3, 400, .inl (fun _ => 0))), (q_6, .inr (2, [.int 0, .int ((-1)), .ref q1_7, .ref q2_8, .int 0, .int 0, .int 0, .int 0, .int 0])), (q1_7, .inl (cy1_9, 3, .inl (fun _ => 0))), (q2_8, .inl (cy2_10, 0, .inl (fun _ => 0))), (q_13, .inr (1, [.ref q1_14, .ref q2_15, .ref q3_16, .ref q4_17, .int 0, .int 0])), (q1_14, .inl (cy1_18, 8, .inl uF)), (q2_15, .inl (cy2_19, 4, .inl (fun _ => 0))), (q3_16, .inl (cy3_20, 4, .inl (fun _ => 0))), (q4_17, .inl (cy4_21, 4, .inl (fun _ => 0))), (q_24, .inr (3, [.null, .null, .null, .int 0, .int 0, .int 0]))] := hD
  refine W.widen (k := 11) (n := 446) (by decide) (by decide) ?_
  refine lv_dup hx hb dX9_init_41 rfl ?_
  refine mc_Iv (rest := [.ref q_24, .ref h0]) (wr := [(h0, .inr (8, [.ref q_1, .ref q_6, .ref q_13, .null, .null, .null])), (q_1, .inr (6, [.ref q1_2, .int 0])), (q1_2, .inl (cy1_3, 400, .inl (fun _ => 0))), (q_6, .inr (2, [.int 0, .int ((-1)), .ref q1_7, .ref q2_8, .int 0, .int 0, .int 0, .int 0, .int 0])), (q1_7, .inl (cy1_9, 3, .inl (fun _ => 0))), (q2_8, .inl (cy2_10, 0, .inl (fun _ => 0))), (q_13, .inr (1, [.ref q1_14, .ref q2_15, .ref q3_16, .ref q4_17, .int 0, .int 0])), (q1_14, .inl (cy1_18, 8, .inl uF)), (q2_15, .inl (cy2_19, 4, .inl (fun _ => 0))), (q3_16, .inl (cy3_20, 4, .inl (fun _ => 0))), (q4_17, .inl (cy4_21, 4, .inl (fun _ => 0)))]) F hK hP hD hS hA (c_Fair_init l D us q_24 ) ⟨gk_X9_32.1, gk_X9_32.2.1, gk_X9_32.2.2, Nat.le_of_ble_eq_true rfl, Nat.le_of_ble_eq_true rfl⟩ [11] [0, 1, 2, 3, 4, 5, 6, 7, 8, 9, 10] [] ⟨rfl, rfl, rfl, rfl, by decide⟩ rfl (xF_move us) (xF_use hX hS (va_free hD hS hA [11] rfl)) rfl hl.1 rfl (Nat.le_of_ble_eq_true rfl) dX9_init_42 ⟨Nat.le_of_ble_eq_true rfl, Nat.le_of_ble_eq_true rfl⟩ (fun u H locs hw hK1 hP hD hS => ?_)
  obtain ⟨ad_59, cy_60⟩ := u
  have hP : va_P D vwCl [(h0, .inr (8, [.ref q_1, .ref q_6, .ref q_13, .null, .null, .null])), (q_1, .inr (6, [.ref q1_2, .int 0])), (q1_2, .inl (cy1_3, 400, .inl (fun _ => 0))), (q_6, .inr (2, [.int 0, .int ((-1)), .ref q1_7, .ref q2_8, .int 0, .int 0, .int 0, .int 0, .int 0])), (q1_7, .inl (cy1_9, 3, .inl (fun _ => 0))), (q2_8, .inl (cy2_10, 0, .inl (fun _ => 0))), (q_13, .inr (1, [.ref q1_14, .ref q2_15, .ref q3_16, .ref q4_17, .int 0, .int 0])), (q1_14, .inl (cy1_18, 8, .inl uF)), (q2_15, .inl (cy2_19, 4, .inl (fun _ => 0))), (q3_16, .inl (cy3_20, 4, .inl (fun _ => 0))), (q4_17, .inl (cy4_21, 4, .inl (fun _ => 0))), (q_24, .inr (3, [.ref (ad_59 0), .ref (ad_59 5), .ref (ad_59 12), .int 0, .int 0, .int 0])), (ad_59 0, .inr (1, [.ref (ad_59 1), .ref (ad_59 2), .ref (ad_59 3), .ref (ad_59 4), .int 0, .int 0])), (ad_59 1, .inl (cy_60 0, 8, .inl uF)), (ad_59 2, .inl (cy_60 1, 4, .inl (fun _ => 0))), (ad_59 3, .inl (cy_60 2, 4, .inl (fun _ => 0))), (ad_59 4, .inl (cy_60 3, 4, .inl (fun _ => 0))), (ad_59 5, .inr (5, [.int 5, .int 5, .ref (ad_59 6), .ref (ad_59 7), .ref (ad_59 8), .ref (ad_59 9), .ref (ad_59 10), .ref (ad_59 11)])), (ad_59 6, .inl (cy_60 4, 100, .inl (fun _ => 0))), (ad_59 7, .inl (cy_60 5, 100, .inl (fun _ => 0))), (ad_59 8, .inl (cy_60 6, 100, .inl (fun _ => 0))), (ad_59 9, .inl (cy_60 7, 100, .inl (fun _ => (-1)))), (ad_59 10, .inl (cy_60 8, 100, .inl (fun _ => 0))), (ad_59 11, .inl (cy_60 9, 100, .inl (fun _ => 0))), (ad_59 12, .inl (cy_60 10, 10, .inr (.inr (.inr (.inr (va_up (va_up (va_up (va_up (va_up (va_up (va_up (va_up (va_up (va_up (fun _ => none) 0 (some (ad_59 13))) 1 (some (ad_59 14))) 2 (some (ad_59 15))) 3 (some (ad_59 16))) 4 (some (ad_59 17))) 5 (some (ad_59 18))) 6 (some (ad_59 19))) 7 (some (ad_59 20))) 8 (some (ad_59 21))) 9 (some (ad_59 22)))))))), (ad_59 13, .inr (0, [.int 0, .int 0, .int 0, .int 0, .int 0, .int 0, .int 0])), (ad_59 14, .inr (0, [.int 0, .int 0, .int 0, .int 0, .int 0, .int 0, .int 0])), (ad_59 15, .inr (0, [.int 0, .int 0, .int 0, .int 0, .int 0, .int 0, .int 0])), (ad_59 16, .inr (0, [.int 0, .int 0, .int 0, .int 0, .int 0, .int 0, .int 0])), (ad_59 17, .inr (0, [.int 0, .int 0, .int 0, .int 0, .int 0, .int 0, .int 0])), (ad_59 18, .inr (0, [.int 0, .int 0, .int 0, .int 0, .int 0, .int 0, .int 0])), (ad_59 19, .inr (0, [.int 0, .int 0, .int 0, .int 0, .int 0, .int 0, .int 0])), (ad_59 20, .inr (0, [.int 0, .int 0, .int 0, .int 0, .int 0, .int 0, .int 0])), (ad_59 21, .inr (0, [.int 0, .int 0, .int 0, .int 0, .int 0, .int 0, .int 0])), (ad_59 22, .inr (0, [.int 0, .int 0, .int 0, .int 0, .int 0, .int 0, .int 0]))] H := hP
  have hD : va_D A [(h0, .inr (8, [.ref q_1, .ref q_6, .ref q_13, .null, .null, .null])), (q_1, .inr (6, [.ref q1_2, .int 0])), (q1_2, .inl (cy1_3, 400, .inl (fun _ => 0))), (q_6, .inr (2, [.int 0, .int ((-1)), .ref q1_7, .ref q2_8, .int 0, .int 0, .int 0, .int 0, .int 0])), (q1_7, .inl (cy1_9, 3, .inl (fun _ => 0))), (q2_8, .inl (cy2_10, 0, .inl (fun _ => 0))), (q_13, .inr (1, [.ref q1_14, .ref q2_15, .ref q3_16, .ref q4_17, .int 0, .int 0])), (q1_14, .inl (cy1_18, 8, .inl uF)), (q2_15, .inl (cy2_19, 4, .inl (fun _ => 0))), (q3_16, .inl (cy3_20, 4, .inl (fun _ => 0))), (q4_17, .inl (cy4_21, 4, .inl (fun _ => 0))), (q_24, .inr (3, [.ref (ad_59 0), .ref (ad_59 5), .ref (ad_59 12), .int 0, .int 0, .int 0])), (ad_59 0, .inr (1, [.ref (ad_59 1), .ref (ad_59 2), .ref (ad_59 3), .ref (ad_59 4), .int 0, .int 0])), (ad_59 1, .inl (cy_60 0, 8, .inl uF)), (ad_59 2, .inl (cy_60 1, 4, .inl (fun _ => 0))), (ad_59 3, .inl (cy_60 2, 4, .inl (fun _ => 0))), (ad_59 4, .inl (cy_60 3, 4, .inl (fun _ => 0))), (ad_59 5, .inr (5, [.int 5, .int 5, .ref (ad_59 6), .ref (ad_59 7), .ref (ad_59 8), .ref (ad_59 9), .ref (ad_59 10), .ref (ad_59 11)])), (ad_59 6, .inl (cy_60 4, 100, .inl (fun _ => 0))), (ad_59 7, .inl (cy_60 5, 100, .inl (fun _ => 0))), (ad_59 8, .inl (cy_60 6, 100, .inl (fun _ => 0))), (ad_59 9, .inl (cy_60 7, 100, .inl (fun _ => (-1)))), (ad_59 10, .inl (cy_60 8, 100, .inl (fun _ => 0))), (ad_59 11, .inl (cy_60 9, 100, .inl (fun _ => 0))), (ad_59 12, .inl (cy_60 10, 10, .inr (.inr (.inr (.inr (va_up (va_up (va_up (va_up (va_up (va_up (va_up (va_up (va_up (va_up (fun _ => none) 0 (some (ad_59 13))) 1 (some (ad_59 14))) 2 (some (ad_59 15))) 3 (some (ad_59 16))) 4 (some (ad_59 17))) 5 (some (ad_59 18))) 6 (some (ad_59 19))) 7 (some (ad_59 20))) 8 (some (ad_59 21))) 9 (some (ad_59 22)))))))), (ad_59 13, .inr (0, [.int 0, .int 0, .int 0, .int 0, .int 0, .int 0, .int 0])), (ad_59 14, .inr (0, [.int 0, .int 0, .int 0, .int 0, .int 0, .int 0, .int 0])), (ad_59 15, .inr (0, [.int 0, .int 0, .int 0, .int 0, .int 0, .int 0, .int 0])), (ad_59 16, .inr (0, [.int 0, .int 0, .int 0, .int 0, .int 0, .int 0, .int 0])), (ad_59 17, .inr (0, [.int 0, .int 0, .int 0, .int 0, .int 0, .int 0, .int 0])), (ad_59 18, .inr (0, [.int 0, .int 0, .int 0, .int 0, .int 0, .int 0, .int 0])), (ad_59 19, .inr (0, [.int 0, .int 0, .int 0, .int 0, .int 0, .int 0, .int 0])), (ad_59 20, .inr (0, [.int 0, .int 0, .int 0, .int 0, .int 0, .int 0, .int 0])), (ad_59 21, .inr (0, [.int 0, .int 0, .int 0, .int 0, .int 0, .int 0, .int 0])), (ad_59 22, .inr (0, [.int 0, .int 0, .int 0, .int 0, .int 0, .int 0, .int 0]))] := hD
  have hK : va_K D vwCl [(cy1_3, .int), (cy1_9, .int), (cy2_10, .int), (cy1_18, .int), (cy2_19, .int), (cy3_20, .int), (cy4_21, .int), (cy_60 0, .int), (cy_60 1, .int), (cy_60 2, .int), (cy_60 3, .int), (cy_60 4, .int), (cy_60 5, .int), (cy_60 6, .int), (cy_60 7, .int), (cy_60 8, .boolean), (cy_60 9, .boolean), (cy_60 10, .object RX0)] s := hK.app hK1
  refine W.widen (k := 34) (n := 1160) (by decide) (by decide) ?_
  refine va_putF (D := D) (ci := 8) (v := .ref q_24) (ty := .object "IceFair$Fair") (C := RX9) (T := TX9) (N := 6) hx hb hts inG_X9 tyX9 tyX9_ok nmX9 hown hK hP hD hS 0 rfl rfl 3 (by decide) (hts _ kw_2_70) (fun _ h9 => h9) rfl hin rfl (by decide +kernel) rfl rfl (Nat.le_of_ble_eq_true rfl) dX9_init_45 (fun H locs hP hD hS => ?_)
  have hP : va_P D vwCl [(h0, .inr (8, [.ref q_1, .ref q_6, .ref q_13, .ref q_24, .null, .null])), (q_1, .inr (6, [.ref q1_2, .int 0])), (q1_2, .inl (cy1_3, 400, .inl (fun _ => 0))), (q_6, .inr (2, [.int 0, .int ((-1)), .ref q1_7, .ref q2_8, .int 0, .int 0, .int 0, .int 0, .int 0])), (q1_7, .inl (cy1_9, 3, .inl (fun _ => 0))), (q2_8, .inl (cy2_10, 0, .inl (fun _ => 0))), (q_13, .inr (1, [.ref q1_14, .ref q2_15, .ref q3_16, .ref q4_17, .int 0, .int 0])), (q1_14, .inl (cy1_18, 8, .inl uF)), (q2_15, .inl (cy2_19, 4, .inl (fun _ => 0))), (q3_16, .inl (cy3_20, 4, .inl (fun _ => 0))), (q4_17, .inl (cy4_21, 4, .inl (fun _ => 0))), (q_24, .inr (3, [.ref (ad_59 0), .ref (ad_59 5), .ref (ad_59 12), .int 0, .int 0, .int 0])), (ad_59 0, .inr (1, [.ref (ad_59 1), .ref (ad_59 2), .ref (ad_59 3), .ref (ad_59 4), .int 0, .int 0])), (ad_59 1, .inl (cy_60 0, 8, .inl uF)), (ad_59 2, .inl (cy_60 1, 4, .inl (fun _ => 0))), (ad_59 3, .inl (cy_60 2, 4, .inl (fun _ => 0))), (ad_59 4, .inl (cy_60 3, 4, .inl (fun _ => 0))), (ad_59 5, .inr (5, [.int 5, .int 5, .ref (ad_59 6), .ref (ad_59 7), .ref (ad_59 8), .ref (ad_59 9), .ref (ad_59 10), .ref (ad_59 11)])), (ad_59 6, .inl (cy_60 4, 100, .inl (fun _ => 0))), (ad_59 7, .inl (cy_60 5, 100, .inl (fun _ => 0))), (ad_59 8, .inl (cy_60 6, 100, .inl (fun _ => 0))), (ad_59 9, .inl (cy_60 7, 100, .inl (fun _ => (-1)))), (ad_59 10, .inl (cy_60 8, 100, .inl (fun _ => 0))), (ad_59 11, .inl (cy_60 9, 100, .inl (fun _ => 0))), (ad_59 12, .inl (cy_60 10, 10, .inr (.inr (.inr (.inr (va_up (va_up (va_up (va_up (va_up (va_up (va_up (va_up (va_up (va_up (fun _ => none) 0 (some (ad_59 13))) 1 (some (ad_59 14))) 2 (some (ad_59 15))) 3 (some (ad_59 16))) 4 (some (ad_59 17))) 5 (some (ad_59 18))) 6 (some (ad_59 19))) 7 (some (ad_59 20))) 8 (some (ad_59 21))) 9 (some (ad_59 22)))))))), (ad_59 13, .inr (0, [.int 0, .int 0, .int 0, .int 0, .int 0, .int 0, .int 0])), (ad_59 14, .inr (0, [.int 0, .int 0, .int 0, .int 0, .int 0, .int 0, .int 0])), (ad_59 15, .inr (0, [.int 0, .int 0, .int 0, .int 0, .int 0, .int 0, .int 0])), (ad_59 16, .inr (0, [.int 0, .int 0, .int 0, .int 0, .int 0, .int 0, .int 0])), (ad_59 17, .inr (0, [.int 0, .int 0, .int 0, .int 0, .int 0, .int 0, .int 0])), (ad_59 18, .inr (0, [.int 0, .int 0, .int 0, .int 0, .int 0, .int 0, .int 0])), (ad_59 19, .inr (0, [.int 0, .int 0, .int 0, .int 0, .int 0, .int 0, .int 0])), (ad_59 20, .inr (0, [.int 0, .int 0, .int 0, .int 0, .int 0, .int 0, .int 0])), (ad_59 21, .inr (0, [.int 0, .int 0, .int 0, .int 0, .int 0, .int 0, .int 0])), (ad_59 22, .inr (0, [.int 0, .int 0, .int 0, .int 0, .int 0, .int 0, .int 0]))] H := hP
  have hD : va_D A [(h0, .inr (8, [.ref q_1, .ref q_6, .ref q_13, .ref q_24, .null, .null])), (q_1, .inr (6, [.ref q1_2, .int 0])), (q1_2, .inl (cy1_3, 400, .inl (fun _ => 0))), (q_6, .inr (2, [.int 0, .int ((-1)), .ref q1_7, .ref q2_8, .int 0, .int 0, .int 0, .int 0, .int 0])), (q1_7, .inl (cy1_9, 3, .inl (fun _ => 0))), (q2_8, .inl (cy2_10, 0, .inl (fun _ => 0))), (q_13, .inr (1, [.ref q1_14, .ref q2_15, .ref q3_16, .ref q4_17, .int 0, .int 0])), (q1_14, .inl (cy1_18, 8, .inl uF)), (q2_15, .inl (cy2_19, 4, .inl (fun _ => 0))), (q3_16, .inl (cy3_20, 4, .inl (fun _ => 0))), (q4_17, .inl (cy4_21, 4, .inl (fun _ => 0))), (q_24, .inr (3, [.ref (ad_59 0), .ref (ad_59 5), .ref (ad_59 12), .int 0, .int 0, .int 0])), (ad_59 0, .inr (1, [.ref (ad_59 1), .ref (ad_59 2), .ref (ad_59 3), .ref (ad_59 4), .int 0, .int 0])), (ad_59 1, .inl (cy_60 0, 8, .inl uF)), (ad_59 2, .inl (cy_60 1, 4, .inl (fun _ => 0))), (ad_59 3, .inl (cy_60 2, 4, .inl (fun _ => 0))), (ad_59 4, .inl (cy_60 3, 4, .inl (fun _ => 0))), (ad_59 5, .inr (5, [.int 5, .int 5, .ref (ad_59 6), .ref (ad_59 7), .ref (ad_59 8), .ref (ad_59 9), .ref (ad_59 10), .ref (ad_59 11)])), (ad_59 6, .inl (cy_60 4, 100, .inl (fun _ => 0))), (ad_59 7, .inl (cy_60 5, 100, .inl (fun _ => 0))), (ad_59 8, .inl (cy_60 6, 100, .inl (fun _ => 0))), (ad_59 9, .inl (cy_60 7, 100, .inl (fun _ => (-1)))), (ad_59 10, .inl (cy_60 8, 100, .inl (fun _ => 0))), (ad_59 11, .inl (cy_60 9, 100, .inl (fun _ => 0))), (ad_59 12, .inl (cy_60 10, 10, .inr (.inr (.inr (.inr (va_up (va_up (va_up (va_up (va_up (va_up (va_up (va_up (va_up (va_up (fun _ => none) 0 (some (ad_59 13))) 1 (some (ad_59 14))) 2 (some (ad_59 15))) 3 (some (ad_59 16))) 4 (some (ad_59 17))) 5 (some (ad_59 18))) 6 (some (ad_59 19))) 7 (some (ad_59 20))) 8 (some (ad_59 21))) 9 (some (ad_59 22)))))))), (ad_59 13, .inr (0, [.int 0, .int 0, .int 0, .int 0, .int 0, .int 0, .int 0])), (ad_59 14, .inr (0, [.int 0, .int 0, .int 0, .int 0, .int 0, .int 0, .int 0])), (ad_59 15, .inr (0, [.int 0, .int 0, .int 0, .int 0, .int 0, .int 0, .int 0])), (ad_59 16, .inr (0, [.int 0, .int 0, .int 0, .int 0, .int 0, .int 0, .int 0])), (ad_59 17, .inr (0, [.int 0, .int 0, .int 0, .int 0, .int 0, .int 0, .int 0])), (ad_59 18, .inr (0, [.int 0, .int 0, .int 0, .int 0, .int 0, .int 0, .int 0])), (ad_59 19, .inr (0, [.int 0, .int 0, .int 0, .int 0, .int 0, .int 0, .int 0])), (ad_59 20, .inr (0, [.int 0, .int 0, .int 0, .int 0, .int 0, .int 0, .int 0])), (ad_59 21, .inr (0, [.int 0, .int 0, .int 0, .int 0, .int 0, .int 0, .int 0])), (ad_59 22, .inr (0, [.int 0, .int 0, .int 0, .int 0, .int 0, .int 0, .int 0]))] := hD
  refine lv_aload_n hx hb dX9_init_48 rfl (lv_at hl 0 rfl) ?_
  refine va_new (ci := 4) (fs := [.int 0, .null, .int 0, .null, .null, .null, .int 0, .null, .int 0]) (C := RX4) (T := TX4) (N := 9) hx hb hts inG_X4 tyX4 tyX4_ok hown (hts _ kw_2_7) (hts _ kw_2_8) (hts _ kw_1_9) hK hP hD hS hA rfl (fun j hj => by rcases (show j = 0 ∨ j = 1 ∨ j = 2 ∨ j = 3 ∨ j = 4 ∨ j = 5 ∨ j = 6 ∨ j = 7 ∨ j = 8 by omega) with rfl | rfl | rfl | rfl | rfl | rfl | rfl | rfl | rfl <;> rfl) (Nat.le_of_ble_eq_true rfl) (Nat.le_of_ble_eq_true rfl) dX9_init_49 (fun q_63 H hP hD hS => ?_)
  have hP : va_P D vwCl [(h0, .inr (8, [.ref q_1, .ref q_6, .ref q_13, .ref q_24, .null, .null])), (q_1, .inr (6, [.ref q1_2, .int 0])), (q1_2, .inl (cy1_3, 400, .inl (fun _ => 0))), (q_6, .inr (2, [.int 0, .int ((-1)), .ref q1_7, .ref q2_8, .int 0, .int 0, .int 0, .int 0, .int 0])), (q1_7, .inl (cy1_9, 3, .inl (fun _ => 0))), (q2_8, .inl (cy2_10, 0, .inl (fun _ => 0))), (q_13, .inr (1, [.ref q1_14, .ref q2_15, .ref q3_16, .ref q4_17, .int 0, .int 0])), (q1_14, .inl (cy1_18, 8, .inl uF)), (q2_15, .inl (cy2_19, 4, .inl (fun _ => 0))), (q3_16, .inl (cy3_20, 4, .inl (fun _ => 0))), (q4_17, .inl (cy4_21, 4, .inl (fun _ => 0))), (q_24, .inr (3, [.ref (ad_59 0), .ref (ad_59 5), .ref (ad_59 12), .int 0, .int 0, .int 0])), (ad_59 0, .inr (1, [.ref (ad_59 1), .ref (ad_59 2), .ref (ad_59 3), .ref (ad_59 4), .int 0, .int 0])), (ad_59 1, .inl (cy_60 0, 8, .inl uF)), (ad_59 2, .inl (cy_60 1, 4, .inl (fun _ => 0))), (ad_59 3, .inl (cy_60 2, 4, .inl (fun _ => 0))), (ad_59 4, .inl (cy_60 3, 4, .inl (fun _ => 0))), (ad_59 5, .inr (5, [.int 5, .int 5, .ref (ad_59 6), .ref (ad_59 7), .ref (ad_59 8), .ref (ad_59 9), .ref (ad_59 10), .ref (ad_59 11)])), (ad_59 6, .inl (cy_60 4, 100, .inl (fun _ => 0))), (ad_59 7, .inl (cy_60 5, 100, .inl (fun _ => 0))), (ad_59 8, .inl (cy_60 6, 100, .inl (fun _ => 0))), (ad_59 9, .inl (cy_60 7, 100, .inl (fun _ => (-1)))), (ad_59 10, .inl (cy_60 8, 100, .inl (fun _ => 0))), (ad_59 11, .inl (cy_60 9, 100, .inl (fun _ => 0))), (ad_59 12, .inl (cy_60 10, 10, .inr (.inr (.inr (.inr (va_up (va_up (va_up (va_up (va_up (va_up (va_up (va_up (va_up (va_up (fun _ => none) 0 (some (ad_59 13))) 1 (some (ad_59 14))) 2 (some (ad_59 15))) 3 (some (ad_59 16))) 4 (some (ad_59 17))) 5 (some (ad_59 18))) 6 (some (ad_59 19))) 7 (some (ad_59 20))) 8 (some (ad_59 21))) 9 (some (ad_59 22)))))))), (ad_59 13, .inr (0, [.int 0, .int 0, .int 0, .int 0, .int 0, .int 0, .int 0])), (ad_59 14, .inr (0, [.int 0, .int 0, .int 0, .int 0, .int 0, .int 0, .int 0])), (ad_59 15, .inr (0, [.int 0, .int 0, .int 0, .int 0, .int 0, .int 0, .int 0])), (ad_59 16, .inr (0, [.int 0, .int 0, .int 0, .int 0, .int 0, .int 0, .int 0])), (ad_59 17, .inr (0, [.int 0, .int 0, .int 0, .int 0, .int 0, .int 0, .int 0])), (ad_59 18, .inr (0, [.int 0, .int 0, .int 0, .int 0, .int 0, .int 0, .int 0])), (ad_59 19, .inr (0, [.int 0, .int 0, .int 0, .int 0, .int 0, .int 0, .int 0])), (ad_59 20, .inr (0, [.int 0, .int 0, .int 0, .int 0, .int 0, .int 0, .int 0])), (ad_59 21, .inr (0, [.int 0, .int 0, .int 0, .int 0, .int 0, .int 0, .int 0])), (ad_59 22, .inr (0, [.int 0, .int 0, .int 0, .int 0, .int 0, .int 0, .int 0])), (q_63, .inr (4, [.int 0, .null, .int 0, .null, .null, .null, .int 0, .null, .int 0]))] H := hP
  have hD : va_D A [(h0, .inr (8, [.ref q_1, .ref q_6, .ref q_13, .ref q_24, .null, .null])), (q_1, .inr (6, [.ref q1_2, .int 0])), (q1_2, .inl (cy1_3, 400, .inl (fun _ => 0))), (q_6, .inr (2, [.int 0, .int ((-1)), .ref q1_7, .ref q2_8, .int 0, .int 0, .int 0, .int 0, .int 0])), (q1_7, .inl (cy1_9, 3, .inl (fun _ => 0))), (q2_8, .inl (cy2_10, 0, .inl (fun _ => 0))), (q_13, .inr (1, [.ref q1_14, .ref q2_15, .ref q3_16, .ref q4_17, .int 0, .int 0])), (q1_14, .inl (cy1_18, 8, .inl uF)), (q2_15, .inl (cy2_19, 4, .inl (fun _ => 0))), (q3_16, .inl (cy3_20, 4, .inl (fun _ => 0))), (q4_17, .inl (cy4_21, 4, .inl (fun _ => 0))), (q_24, .inr (3, [.ref (ad_59 0), .ref (ad_59 5), .ref (ad_59 12), .int 0, .int 0, .int 0])), (ad_59 0, .inr (1, [.ref (ad_59 1), .ref (ad_59 2), .ref (ad_59 3), .ref (ad_59 4), .int 0, .int 0])), (ad_59 1, .inl (cy_60 0, 8, .inl uF)), (ad_59 2, .inl (cy_60 1, 4, .inl (fun _ => 0))), (ad_59 3, .inl (cy_60 2, 4, .inl (fun _ => 0))), (ad_59 4, .inl (cy_60 3, 4, .inl (fun _ => 0))), (ad_59 5, .inr (5, [.int 5, .int 5, .ref (ad_59 6), .ref (ad_59 7), .ref (ad_59 8), .ref (ad_59 9), .ref (ad_59 10), .ref (ad_59 11)])), (ad_59 6, .inl (cy_60 4, 100, .inl (fun _ => 0))), (ad_59 7, .inl (cy_60 5, 100, .inl (fun _ => 0))), (ad_59 8, .inl (cy_60 6, 100, .inl (fun _ => 0))), (ad_59 9, .inl (cy_60 7, 100, .inl (fun _ => (-1)))), (ad_59 10, .inl (cy_60 8, 100, .inl (fun _ => 0))), (ad_59 11, .inl (cy_60 9, 100, .inl (fun _ => 0))), (ad_59 12, .inl (cy_60 10, 10, .inr (.inr (.inr (.inr (va_up (va_up (va_up (va_up (va_up (va_up (va_up (va_up (va_up (va_up (fun _ => none) 0 (some (ad_59 13))) 1 (some (ad_59 14))) 2 (some (ad_59 15))) 3 (some (ad_59 16))) 4 (some (ad_59 17))) 5 (some (ad_59 18))) 6 (some (ad_59 19))) 7 (some (ad_59 20))) 8 (some (ad_59 21))) 9 (some (ad_59 22)))))))), (ad_59 13, .inr (0, [.int 0, .int 0, .int 0, .int 0, .int 0, .int 0, .int 0])), (ad_59 14, .inr (0, [.int 0, .int 0, .int 0, .int 0, .int 0, .int 0, .int 0])), (ad_59 15, .inr (0, [.int 0, .int 0, .int 0, .int 0, .int 0, .int 0, .int 0])), (ad_59 16, .inr (0, [.int 0, .int 0, .int 0, .int 0, .int 0, .int 0, .int 0])), (ad_59 17, .inr (0, [.int 0, .int 0, .int 0, .int 0, .int 0, .int 0, .int 0])), (ad_59 18, .inr (0, [.int 0, .int 0, .int 0, .int 0, .int 0, .int 0, .int 0])), (ad_59 19, .inr (0, [.int 0, .int 0, .int 0, .int 0, .int 0, .int 0, .int 0])), (ad_59 20, .inr (0, [.int 0, .int 0, .int 0, .int 0, .int 0, .int 0, .int 0])), (ad_59 21, .inr (0, [.int 0, .int 0, .int 0, .int 0, .int 0, .int 0, .int 0])), (ad_59 22, .inr (0, [.int 0, .int 0, .int 0, .int 0, .int 0, .int 0, .int 0])), (q_63, .inr (4, [.int 0, .null, .int 0, .null, .null, .null, .int 0, .null, .int 0]))] := hD
  refine W.widen (k := 35) (n := 1169) (by decide) (by decide) ?_
  refine lv_dup hx hb dX9_init_52 rfl ?_
  refine mc_Iv (rest := [.ref q_63, .ref h0]) (wr := [(h0, .inr (8, [.ref q_1, .ref q_6, .ref q_13, .ref q_24, .null, .null])), (q_1, .inr (6, [.ref q1_2, .int 0])), (q1_2, .inl (cy1_3, 400, .inl (fun _ => 0))), (q_6, .inr (2, [.int 0, .int ((-1)), .ref q1_7, .ref q2_8, .int 0, .int 0, .int 0, .int 0, .int 0])), (q1_7, .inl (cy1_9, 3, .inl (fun _ => 0))), (q2_8, .inl (cy2_10, 0, .inl (fun _ => 0))), (q_13, .inr (1, [.ref q1_14, .ref q2_15, .ref q3_16, .ref q4_17, .int 0, .int 0])), (q1_14, .inl (cy1_18, 8, .inl uF)), (q2_15, .inl (cy2_19, 4, .inl (fun _ => 0))), (q3_16, .inl (cy3_20, 4, .inl (fun _ => 0))), (q4_17, .inl (cy4_21, 4, .inl (fun _ => 0))), (q_24, .inr (3, [.ref (ad_59 0), .ref (ad_59 5), .ref (ad_59 12), .int 0, .int 0, .int 0])), (ad_59 0, .inr (1, [.ref (ad_59 1), .ref (ad_59 2), .ref (ad_59 3), .ref (ad_59 4), .int 0, .int 0])), (ad_59 1, .inl (cy_60 0, 8, .inl uF)), (ad_59 2, .inl (cy_60 1, 4, .inl (fun _ => 0))), (ad_59 3, .inl (cy_60 2, 4, .inl (fun _ => 0))), (ad_59 4, .inl (cy_60 3, 4, .inl (fun _ => 0))), (ad_59 5, .inr (5, [.int 5, .int 5, .ref (ad_59 6), .ref (ad_59 7), .ref (ad_59 8), .ref (ad_59 9), .ref (ad_59 10), .ref (ad_59 11)])), (ad_59 6, .inl (cy_60 4, 100, .inl (fun _ => 0))), (ad_59 7, .inl (cy_60 5, 100, .inl (fun _ => 0))), (ad_59 8, .inl (cy_60 6, 100, .inl (fun _ => 0))), (ad_59 9, .inl (cy_60 7, 100, .inl (fun _ => (-1)))), (ad_59 10, .inl (cy_60 8, 100, .inl (fun _ => 0))), (ad_59 11, .inl (cy_60 9, 100, .inl (fun _ => 0))), (ad_59 12, .inl (cy_60 10, 10, .inr (.inr (.inr (.inr (va_up (va_up (va_up (va_up (va_up (va_up (va_up (va_up (va_up (va_up (fun _ => none) 0 (some (ad_59 13))) 1 (some (ad_59 14))) 2 (some (ad_59 15))) 3 (some (ad_59 16))) 4 (some (ad_59 17))) 5 (some (ad_59 18))) 6 (some (ad_59 19))) 7 (some (ad_59 20))) 8 (some (ad_59 21))) 9 (some (ad_59 22)))))))), (ad_59 13, .inr (0, [.int 0, .int 0, .int 0, .int 0, .int 0, .int 0, .int 0])), (ad_59 14, .inr (0, [.int 0, .int 0, .int 0, .int 0, .int 0, .int 0, .int 0])), (ad_59 15, .inr (0, [.int 0, .int 0, .int 0, .int 0, .int 0, .int 0, .int 0])), (ad_59 16, .inr (0, [.int 0, .int 0, .int 0, .int 0, .int 0, .int 0, .int 0])), (ad_59 17, .inr (0, [.int 0, .int 0, .int 0, .int 0, .int 0, .int 0, .int 0])), (ad_59 18, .inr (0, [.int 0, .int 0, .int 0, .int 0, .int 0, .int 0, .int 0])), (ad_59 19, .inr (0, [.int 0, .int 0, .int 0, .int 0, .int 0, .int 0, .int 0])), (ad_59 20, .inr (0, [.int 0, .int 0, .int 0, .int 0, .int 0, .int 0, .int 0])), (ad_59 21, .inr (0, [.int 0, .int 0, .int 0, .int 0, .int 0, .int 0, .int 0])), (ad_59 22, .inr (0, [.int 0, .int 0, .int 0, .int 0, .int 0, .int 0, .int 0]))]) F hK hP hD hS hA (c_Laying_init l D q_63 ) ⟨gk_X9_39.1, gk_X9_39.2.1, gk_X9_39.2.2, Nat.le_of_ble_eq_true rfl, Nat.le_of_ble_eq_true rfl⟩ [35] [0, 1, 2, 3, 4, 5, 6, 7, 8, 9, 10, 11, 12, 13, 14, 15, 16, 17, 18, 19, 20, 21, 22, 23, 24, 25, 26, 27, 28, 29, 30, 31, 32, 33, 34] [] ⟨rfl, rfl, rfl, rfl, by decide⟩ rfl xT_move (fun _ _ _ => trivial) rfl hl.1 rfl (Nat.le_of_ble_eq_true rfl) dX9_init_53 ⟨Nat.le_of_ble_eq_true rfl, Nat.le_of_ble_eq_true rfl⟩ (fun u H locs hw hK1 hP hD hS => ?_)
  obtain ⟨q1_64, q2_65, q3_66, q4_67, q5_68, cy1_69, cy2_70, cy3_71, cy4_72, cy5_73⟩ := u
  have hP : va_P D vwCl [(h0, .inr (8, [.ref q_1, .ref q_6, .ref q_13, .ref q_24, .null, .null])), (q_1, .inr (6, [.ref q1_2, .int 0])), (q1_2, .inl (cy1_3, 400, .inl (fun _ => 0))), (q_6, .inr (2, [.int 0, .int ((-1)), .ref q1_7, .ref q2_8, .int 0, .int 0, .int 0, .int 0, .int 0])), (q1_7, .inl (cy1_9, 3, .inl (fun _ => 0))), (q2_8, .inl (cy2_10, 0, .inl (fun _ => 0))), (q_13, .inr (1, [.ref q1_14, .ref q2_15, .ref q3_16, .ref q4_17, .int 0, .int 0])), (q1_14, .inl (cy1_18, 8, .inl uF)), (q2_15, .inl (cy2_19, 4, .inl (fun _ => 0))), (q3_16, .inl (cy3_20, 4, .inl (fun _ => 0))), (q4_17, .inl (cy4_21, 4, .inl (fun _ => 0))), (q_24, .inr (3, [.ref (ad_59 0), .ref (ad_59 5), .ref (ad_59 12), .int 0, .int 0, .int 0])), (ad_59 0, .inr (1, [.ref (ad_59 1), .ref (ad_59 2), .ref (ad_59 3), .ref (ad_59 4), .int 0, .int 0])), (ad_59 1, .inl (cy_60 0, 8, .inl uF)), (ad_59 2, .inl (cy_60 1, 4, .inl (fun _ => 0))), (ad_59 3, .inl (cy_60 2, 4, .inl (fun _ => 0))), (ad_59 4, .inl (cy_60 3, 4, .inl (fun _ => 0))), (ad_59 5, .inr (5, [.int 5, .int 5, .ref (ad_59 6), .ref (ad_59 7), .ref (ad_59 8), .ref (ad_59 9), .ref (ad_59 10), .ref (ad_59 11)])), (ad_59 6, .inl (cy_60 4, 100, .inl (fun _ => 0))), (ad_59 7, .inl (cy_60 5, 100, .inl (fun _ => 0))), (ad_59 8, .inl (cy_60 6, 100, .inl (fun _ => 0))), (ad_59 9, .inl (cy_60 7, 100, .inl (fun _ => (-1)))), (ad_59 10, .inl (cy_60 8, 100, .inl (fun _ => 0))), (ad_59 11, .inl (cy_60 9, 100, .inl (fun _ => 0))), (ad_59 12, .inl (cy_60 10, 10, .inr (.inr (.inr (.inr (va_up (va_up (va_up (va_up (va_up (va_up (va_up (va_up (va_up (va_up (fun _ => none) 0 (some (ad_59 13))) 1 (some (ad_59 14))) 2 (some (ad_59 15))) 3 (some (ad_59 16))) 4 (some (ad_59 17))) 5 (some (ad_59 18))) 6 (some (ad_59 19))) 7 (some (ad_59 20))) 8 (some (ad_59 21))) 9 (some (ad_59 22)))))))), (ad_59 13, .inr (0, [.int 0, .int 0, .int 0, .int 0, .int 0, .int 0, .int 0])), (ad_59 14, .inr (0, [.int 0, .int 0, .int 0, .int 0, .int 0, .int 0, .int 0])), (ad_59 15, .inr (0, [.int 0, .int 0, .int 0, .int 0, .int 0, .int 0, .int 0])), (ad_59 16, .inr (0, [.int 0, .int 0, .int 0, .int 0, .int 0, .int 0, .int 0])), (ad_59 17, .inr (0, [.int 0, .int 0, .int 0, .int 0, .int 0, .int 0, .int 0])), (ad_59 18, .inr (0, [.int 0, .int 0, .int 0, .int 0, .int 0, .int 0, .int 0])), (ad_59 19, .inr (0, [.int 0, .int 0, .int 0, .int 0, .int 0, .int 0, .int 0])), (ad_59 20, .inr (0, [.int 0, .int 0, .int 0, .int 0, .int 0, .int 0, .int 0])), (ad_59 21, .inr (0, [.int 0, .int 0, .int 0, .int 0, .int 0, .int 0, .int 0])), (ad_59 22, .inr (0, [.int 0, .int 0, .int 0, .int 0, .int 0, .int 0, .int 0])), (q_63, .inr (4, [.int 0, .ref q1_64, .int 0, .ref q2_65, .ref q3_66, .ref q4_67, .int 0, .ref q5_68, .int 0])), (q1_64, .inl (cy1_69, 10, .inl (fun _ => 0))), (q2_65, .inl (cy2_70, 100, .inl (fun _ => 0))), (q3_66, .inl (cy3_71, 100, .inl (fun _ => 0))), (q4_67, .inl (cy4_72, 100, .inl (fun _ => 0))), (q5_68, .inl (cy5_73, 10, .inl (fun _ => 0)))] H := hP
  have hD : va_D A [(h0, .inr (8, [.ref q_1, .ref q_6, .ref q_13, .ref q_24, .null, .null])), (q_1, .inr (6, [.ref q1_2, .int 0])), (q1_2, .inl (cy1_3, 400, .inl (fun _ => 0))), (q_6, .inr (2, [.int 0, .int ((-1)), .ref q1_7, .ref q2_8, .int 0, .int 0, .int 0, .int 0, .int 0])), (q1_7, .inl (cy1_9, 3, .inl (fun _ => 0))), (q2_8, .inl (cy2_10, 0, .inl (fun _ => 0))), (q_13, .inr (1, [.ref q1_14, .ref q2_15, .ref q3_16, .ref q4_17, .int 0, .int 0])), (q1_14, .inl (cy1_18, 8, .inl uF)), (q2_15, .inl (cy2_19, 4, .inl (fun _ => 0))), (q3_16, .inl (cy3_20, 4, .inl (fun _ => 0))), (q4_17, .inl (cy4_21, 4, .inl (fun _ => 0))), (q_24, .inr (3, [.ref (ad_59 0), .ref (ad_59 5), .ref (ad_59 12), .int 0, .int 0, .int 0])), (ad_59 0, .inr (1, [.ref (ad_59 1), .ref (ad_59 2), .ref (ad_59 3), .ref (ad_59 4), .int 0, .int 0])), (ad_59 1, .inl (cy_60 0, 8, .inl uF)), (ad_59 2, .inl (cy_60 1, 4, .inl (fun _ => 0))), (ad_59 3, .inl (cy_60 2, 4, .inl (fun _ => 0))), (ad_59 4, .inl (cy_60 3, 4, .inl (fun _ => 0))), (ad_59 5, .inr (5, [.int 5, .int 5, .ref (ad_59 6), .ref (ad_59 7), .ref (ad_59 8), .ref (ad_59 9), .ref (ad_59 10), .ref (ad_59 11)])), (ad_59 6, .inl (cy_60 4, 100, .inl (fun _ => 0))), (ad_59 7, .inl (cy_60 5, 100, .inl (fun _ => 0))), (ad_59 8, .inl (cy_60 6, 100, .inl (fun _ => 0))), (ad_59 9, .inl (cy_60 7, 100, .inl (fun _ => (-1)))), (ad_59 10, .inl (cy_60 8, 100, .inl (fun _ => 0))), (ad_59 11, .inl (cy_60 9, 100, .inl (fun _ => 0))), (ad_59 12, .inl (cy_60 10, 10, .inr (.inr (.inr (.inr (va_up (va_up (va_up (va_up (va_up (va_up (va_up (va_up (va_up (va_up (fun _ => none) 0 (some (ad_59 13))) 1 (some (ad_59 14))) 2 (some (ad_59 15))) 3 (some (ad_59 16))) 4 (some (ad_59 17))) 5 (some (ad_59 18))) 6 (some (ad_59 19))) 7 (some (ad_59 20))) 8 (some (ad_59 21))) 9 (some (ad_59 22)))))))), (ad_59 13, .inr (0, [.int 0, .int 0, .int 0, .int 0, .int 0, .int 0, .int 0])), (ad_59 14, .inr (0, [.int 0, .int 0, .int 0, .int 0, .int 0, .int 0, .int 0])), (ad_59 15, .inr (0, [.int 0, .int 0, .int 0, .int 0, .int 0, .int 0, .int 0])), (ad_59 16, .inr (0, [.int 0, .int 0, .int 0, .int 0, .int 0, .int 0, .int 0])), (ad_59 17, .inr (0, [.int 0, .int 0, .int 0, .int 0, .int 0, .int 0, .int 0])), (ad_59 18, .inr (0, [.int 0, .int 0, .int 0, .int 0, .int 0, .int 0, .int 0])), (ad_59 19, .inr (0, [.int 0, .int 0, .int 0, .int 0, .int 0, .int 0, .int 0])), (ad_59 20, .inr (0, [.int 0, .int 0, .int 0, .int 0, .int 0, .int 0, .int 0])), (ad_59 21, .inr (0, [.int 0, .int 0, .int 0, .int 0, .int 0, .int 0, .int 0])), (ad_59 22, .inr (0, [.int 0, .int 0, .int 0, .int 0, .int 0, .int 0, .int 0])), (q_63, .inr (4, [.int 0, .ref q1_64, .int 0, .ref q2_65, .ref q3_66, .ref q4_67, .int 0, .ref q5_68, .int 0])), (q1_64, .inl (cy1_69, 10, .inl (fun _ => 0))), (q2_65, .inl (cy2_70, 100, .inl (fun _ => 0))), (q3_66, .inl (cy3_71, 100, .inl (fun _ => 0))), (q4_67, .inl (cy4_72, 100, .inl (fun _ => 0))), (q5_68, .inl (cy5_73, 10, .inl (fun _ => 0)))] := hD
  have hK : va_K D vwCl [(cy1_3, .int), (cy1_9, .int), (cy2_10, .int), (cy1_18, .int), (cy2_19, .int), (cy3_20, .int), (cy4_21, .int), (cy_60 0, .int), (cy_60 1, .int), (cy_60 2, .int), (cy_60 3, .int), (cy_60 4, .int), (cy_60 5, .int), (cy_60 6, .int), (cy_60 7, .int), (cy_60 8, .boolean), (cy_60 9, .boolean), (cy_60 10, .object RX0), (cy1_69, .int), (cy2_70, .int), (cy3_71, .int), (cy4_72, .boolean), (cy5_73, .int)] s := hK.app hK1
  refine W.widen (k := 40) (n := 1489) (by decide) (by decide) ?_
  refine va_putF (D := D) (ci := 8) (v := .ref q_63) (ty := .object "IceFair$Laying") (C := RX9) (T := TX9) (N := 6) hx hb hts inG_X9 tyX9 tyX9_ok nmX9 hown hK hP hD hS 0 rfl rfl 4 (by decide) (hts _ kw_2_71) (fun _ h9 => h9) rfl hin rfl (by decide +kernel) rfl rfl (Nat.le_of_ble_eq_true rfl) dX9_init_56 (fun H locs hP hD hS => ?_)
  have hP : va_P D vwCl [(h0, .inr (8, [.ref q_1, .ref q_6, .ref q_13, .ref q_24, .ref q_63, .null])), (q_1, .inr (6, [.ref q1_2, .int 0])), (q1_2, .inl (cy1_3, 400, .inl (fun _ => 0))), (q_6, .inr (2, [.int 0, .int ((-1)), .ref q1_7, .ref q2_8, .int 0, .int 0, .int 0, .int 0, .int 0])), (q1_7, .inl (cy1_9, 3, .inl (fun _ => 0))), (q2_8, .inl (cy2_10, 0, .inl (fun _ => 0))), (q_13, .inr (1, [.ref q1_14, .ref q2_15, .ref q3_16, .ref q4_17, .int 0, .int 0])), (q1_14, .inl (cy1_18, 8, .inl uF)), (q2_15, .inl (cy2_19, 4, .inl (fun _ => 0))), (q3_16, .inl (cy3_20, 4, .inl (fun _ => 0))), (q4_17, .inl (cy4_21, 4, .inl (fun _ => 0))), (q_24, .inr (3, [.ref (ad_59 0), .ref (ad_59 5), .ref (ad_59 12), .int 0, .int 0, .int 0])), (ad_59 0, .inr (1, [.ref (ad_59 1), .ref (ad_59 2), .ref (ad_59 3), .ref (ad_59 4), .int 0, .int 0])), (ad_59 1, .inl (cy_60 0, 8, .inl uF)), (ad_59 2, .inl (cy_60 1, 4, .inl (fun _ => 0))), (ad_59 3, .inl (cy_60 2, 4, .inl (fun _ => 0))), (ad_59 4, .inl (cy_60 3, 4, .inl (fun _ => 0))), (ad_59 5, .inr (5, [.int 5, .int 5, .ref (ad_59 6), .ref (ad_59 7), .ref (ad_59 8), .ref (ad_59 9), .ref (ad_59 10), .ref (ad_59 11)])), (ad_59 6, .inl (cy_60 4, 100, .inl (fun _ => 0))), (ad_59 7, .inl (cy_60 5, 100, .inl (fun _ => 0))), (ad_59 8, .inl (cy_60 6, 100, .inl (fun _ => 0))), (ad_59 9, .inl (cy_60 7, 100, .inl (fun _ => (-1)))), (ad_59 10, .inl (cy_60 8, 100, .inl (fun _ => 0))), (ad_59 11, .inl (cy_60 9, 100, .inl (fun _ => 0))), (ad_59 12, .inl (cy_60 10, 10, .inr (.inr (.inr (.inr (va_up (va_up (va_up (va_up (va_up (va_up (va_up (va_up (va_up (va_up (fun _ => none) 0 (some (ad_59 13))) 1 (some (ad_59 14))) 2 (some (ad_59 15))) 3 (some (ad_59 16))) 4 (some (ad_59 17))) 5 (some (ad_59 18))) 6 (some (ad_59 19))) 7 (some (ad_59 20))) 8 (some (ad_59 21))) 9 (some (ad_59 22)))))))), (ad_59 13, .inr (0, [.int 0, .int 0, .int 0, .int 0, .int 0, .int 0, .int 0])), (ad_59 14, .inr (0, [.int 0, .int 0, .int 0, .int 0, .int 0, .int 0, .int 0])), (ad_59 15, .inr (0, [.int 0, .int 0, .int 0, .int 0, .int 0, .int 0, .int 0])), (ad_59 16, .inr (0, [.int 0, .int 0, .int 0, .int 0, .int 0, .int 0, .int 0])), (ad_59 17, .inr (0, [.int 0, .int 0, .int 0, .int 0, .int 0, .int 0, .int 0])), (ad_59 18, .inr (0, [.int 0, .int 0, .int 0, .int 0, .int 0, .int 0, .int 0])), (ad_59 19, .inr (0, [.int 0, .int 0, .int 0, .int 0, .int 0, .int 0, .int 0])), (ad_59 20, .inr (0, [.int 0, .int 0, .int 0, .int 0, .int 0, .int 0, .int 0])), (ad_59 21, .inr (0, [.int 0, .int 0, .int 0, .int 0, .int 0, .int 0, .int 0])), (ad_59 22, .inr (0, [.int 0, .int 0, .int 0, .int 0, .int 0, .int 0, .int 0])), (q_63, .inr (4, [.int 0, .ref q1_64, .int 0, .ref q2_65, .ref q3_66, .ref q4_67, .int 0, .ref q5_68, .int 0])), (q1_64, .inl (cy1_69, 10, .inl (fun _ => 0))), (q2_65, .inl (cy2_70, 100, .inl (fun _ => 0))), (q3_66, .inl (cy3_71, 100, .inl (fun _ => 0))), (q4_67, .inl (cy4_72, 100, .inl (fun _ => 0))), (q5_68, .inl (cy5_73, 10, .inl (fun _ => 0)))] H := hP
  have hD : va_D A [(h0, .inr (8, [.ref q_1, .ref q_6, .ref q_13, .ref q_24, .ref q_63, .null])), (q_1, .inr (6, [.ref q1_2, .int 0])), (q1_2, .inl (cy1_3, 400, .inl (fun _ => 0))), (q_6, .inr (2, [.int 0, .int ((-1)), .ref q1_7, .ref q2_8, .int 0, .int 0, .int 0, .int 0, .int 0])), (q1_7, .inl (cy1_9, 3, .inl (fun _ => 0))), (q2_8, .inl (cy2_10, 0, .inl (fun _ => 0))), (q_13, .inr (1, [.ref q1_14, .ref q2_15, .ref q3_16, .ref q4_17, .int 0, .int 0])), (q1_14, .inl (cy1_18, 8, .inl uF)), (q2_15, .inl (cy2_19, 4, .inl (fun _ => 0))), (q3_16, .inl (cy3_20, 4, .inl (fun _ => 0))), (q4_17, .inl (cy4_21, 4, .inl (fun _ => 0))), (q_24, .inr (3, [.ref (ad_59 0), .ref (ad_59 5), .ref (ad_59 12), .int 0, .int 0, .int 0])), (ad_59 0, .inr (1, [.ref (ad_59 1), .ref (ad_59 2), .ref (ad_59 3), .ref (ad_59 4), .int 0, .int 0])), (ad_59 1, .inl (cy_60 0, 8, .inl uF)), (ad_59 2, .inl (cy_60 1, 4, .inl (fun _ => 0))), (ad_59 3, .inl (cy_60 2, 4, .inl (fun _ => 0))), (ad_59 4, .inl (cy_60 3, 4, .inl (fun _ => 0))), (ad_59 5, .inr (5, [.int 5, .int 5, .ref (ad_59 6), .ref (ad_59 7), .ref (ad_59 8), .ref (ad_59 9), .ref (ad_59 10), .ref (ad_59 11)])), (ad_59 6, .inl (cy_60 4, 100, .inl (fun _ => 0))), (ad_59 7, .inl (cy_60 5, 100, .inl (fun _ => 0))), (ad_59 8, .inl (cy_60 6, 100, .inl (fun _ => 0))), (ad_59 9, .inl (cy_60 7, 100, .inl (fun _ => (-1)))), (ad_59 10, .inl (cy_60 8, 100, .inl (fun _ => 0))), (ad_59 11, .inl (cy_60 9, 100, .inl (fun _ => 0))), (ad_59 12, .inl (cy_60 10, 10, .inr (.inr (.inr (.inr (va_up (va_up (va_up (va_up (va_up (va_up (va_up (va_up (va_up (va_up (fun _ => none) 0 (some (ad_59 13))) 1 (some (ad_59 14))) 2 (some (ad_59 15))) 3 (some (ad_59 16))) 4 (some (ad_59 17))) 5 (some (ad_59 18))) 6 (some (ad_59 19))) 7 (some (ad_59 20))) 8 (some (ad_59 21))) 9 (some (ad_59 22)))))))), (ad_59 13, .inr (0, [.int 0, .int 0, .int 0, .int 0, .int 0, .int 0, .int 0])), (ad_59 14, .inr (0, [.int 0, .int 0, .int 0, .int 0, .int 0, .int 0, .int 0])), (ad_59 15, .inr (0, [.int 0, .int 0, .int 0, .int 0, .int 0, .int 0, .int 0])), (ad_59 16, .inr (0, [.int 0, .int 0, .int 0, .int 0, .int 0, .int 0, .int 0])), (ad_59 17, .inr (0, [.int 0, .int 0, .int 0, .int 0, .int 0, .int 0, .int 0])), (ad_59 18, .inr (0, [.int 0, .int 0, .int 0, .int 0, .int 0, .int 0, .int 0])), (ad_59 19, .inr (0, [.int 0, .int 0, .int 0, .int 0, .int 0, .int 0, .int 0])), (ad_59 20, .inr (0, [.int 0, .int 0, .int 0, .int 0, .int 0, .int 0, .int 0])), (ad_59 21, .inr (0, [.int 0, .int 0, .int 0, .int 0, .int 0, .int 0, .int 0])), (ad_59 22, .inr (0, [.int 0, .int 0, .int 0, .int 0, .int 0, .int 0, .int 0])), (q_63, .inr (4, [.int 0, .ref q1_64, .int 0, .ref q2_65, .ref q3_66, .ref q4_67, .int 0, .ref q5_68, .int 0])), (q1_64, .inl (cy1_69, 10, .inl (fun _ => 0))), (q2_65, .inl (cy2_70, 100, .inl (fun _ => 0))), (q3_66, .inl (cy3_71, 100, .inl (fun _ => 0))), (q4_67, .inl (cy4_72, 100, .inl (fun _ => 0))), (q5_68, .inl (cy5_73, 10, .inl (fun _ => 0)))] := hD
  refine lv_aload_n hx hb dX9_init_59 rfl (lv_at hl 0 rfl) ?_
  refine va_new (ci := 7) (fs := [.null, .null, .int 0, .null, .null, .int 0]) (C := RX8) (T := TX8) (N := 6) hx hb hts inG_X8 tyX8 tyX8_ok hown (hts _ kw_2_42) (hts _ kw_2_43) (hts _ kw_1_10) hK hP hD hS hA rfl (fun j hj => by rcases (show j = 0 ∨ j = 1 ∨ j = 2 ∨ j = 3 ∨ j = 4 ∨ j = 5 by omega) with rfl | rfl | rfl | rfl | rfl | rfl <;> rfl) (Nat.le_of_ble_eq_true rfl) (Nat.le_of_ble_eq_true rfl) dX9_init_60 (fun q_76 H hP hD hS => ?_)
  have hP : va_P D vwCl [(h0, .inr (8, [.ref q_1, .ref q_6, .ref q_13, .ref q_24, .ref q_63, .null])), (q_1, .inr (6, [.ref q1_2, .int 0])), (q1_2, .inl (cy1_3, 400, .inl (fun _ => 0))), (q_6, .inr (2, [.int 0, .int ((-1)), .ref q1_7, .ref q2_8, .int 0, .int 0, .int 0, .int 0, .int 0])), (q1_7, .inl (cy1_9, 3, .inl (fun _ => 0))), (q2_8, .inl (cy2_10, 0, .inl (fun _ => 0))), (q_13, .inr (1, [.ref q1_14, .ref q2_15, .ref q3_16, .ref q4_17, .int 0, .int 0])), (q1_14, .inl (cy1_18, 8, .inl uF)), (q2_15, .inl (cy2_19, 4, .inl (fun _ => 0))), (q3_16, .inl (cy3_20, 4, .inl (fun _ => 0))), (q4_17, .inl (cy4_21, 4, .inl (fun _ => 0))), (q_24, .inr (3, [.ref (ad_59 0), .ref (ad_59 5), .ref (ad_59 12), .int 0, .int 0, .int 0])), (ad_59 0, .inr (1, [.ref (ad_59 1), .ref (ad_59 2), .ref (ad_59 3), .ref (ad_59 4), .int 0, .int 0])), (ad_59 1, .inl (cy_60 0, 8, .inl uF)), (ad_59 2, .inl (cy_60 1, 4, .inl (fun _ => 0))), (ad_59 3, .inl (cy_60 2, 4, .inl (fun _ => 0))), (ad_59 4, .inl (cy_60 3, 4, .inl (fun _ => 0))), (ad_59 5, .inr (5, [.int 5, .int 5, .ref (ad_59 6), .ref (ad_59 7), .ref (ad_59 8), .ref (ad_59 9), .ref (ad_59 10), .ref (ad_59 11)])), (ad_59 6, .inl (cy_60 4, 100, .inl (fun _ => 0))), (ad_59 7, .inl (cy_60 5, 100, .inl (fun _ => 0))), (ad_59 8, .inl (cy_60 6, 100, .inl (fun _ => 0))), (ad_59 9, .inl (cy_60 7, 100, .inl (fun _ => (-1)))), (ad_59 10, .inl (cy_60 8, 100, .inl (fun _ => 0))), (ad_59 11, .inl (cy_60 9, 100, .inl (fun _ => 0))), (ad_59 12, .inl (cy_60 10, 10, .inr (.inr (.inr (.inr (va_up (va_up (va_up (va_up (va_up (va_up (va_up (va_up (va_up (va_up (fun _ => none) 0 (some (ad_59 13))) 1 (some (ad_59 14))) 2 (some (ad_59 15))) 3 (some (ad_59 16))) 4 (some (ad_59 17))) 5 (some (ad_59 18))) 6 (some (ad_59 19))) 7 (some (ad_59 20))) 8 (some (ad_59 21))) 9 (some (ad_59 22)))))))), (ad_59 13, .inr (0, [.int 0, .int 0, .int 0, .int 0, .int 0, .int 0, .int 0])), (ad_59 14, .inr (0, [.int 0, .int 0, .int 0, .int 0, .int 0, .int 0, .int 0])), (ad_59 15, .inr (0, [.int 0, .int 0, .int 0, .int 0, .int 0, .int 0, .int 0])), (ad_59 16, .inr (0, [.int 0, .int 0, .int 0, .int 0, .int 0, .int 0, .int 0])), (ad_59 17, .inr (0, [.int 0, .int 0, .int 0, .int 0, .int 0, .int 0, .int 0])), (ad_59 18, .inr (0, [.int 0, .int 0, .int 0, .int 0, .int 0, .int 0, .int 0])), (ad_59 19, .inr (0, [.int 0, .int 0, .int 0, .int 0, .int 0, .int 0, .int 0])), (ad_59 20, .inr (0, [.int 0, .int 0, .int 0, .int 0, .int 0, .int 0, .int 0])), (ad_59 21, .inr (0, [.int 0, .int 0, .int 0, .int 0, .int 0, .int 0, .int 0])), (ad_59 22, .inr (0, [.int 0, .int 0, .int 0, .int 0, .int 0, .int 0, .int 0])), (q_63, .inr (4, [.int 0, .ref q1_64, .int 0, .ref q2_65, .ref q3_66, .ref q4_67, .int 0, .ref q5_68, .int 0])), (q1_64, .inl (cy1_69, 10, .inl (fun _ => 0))), (q2_65, .inl (cy2_70, 100, .inl (fun _ => 0))), (q3_66, .inl (cy3_71, 100, .inl (fun _ => 0))), (q4_67, .inl (cy4_72, 100, .inl (fun _ => 0))), (q5_68, .inl (cy5_73, 10, .inl (fun _ => 0))), (q_76, .inr (7, [.null, .null, .int 0, .null, .null, .int 0]))] H := hP
  have hD : va_D A [(h0, .inr (8, [.ref q_1, .ref q_6, .ref q_13, .ref q_24, .ref q_63, .null])), (q_1, .inr (6, [.ref q1_2, .int 0])), (q1_2, .inl (cy1_3, 400, .inl (fun _ => 0))), (q_6, .inr (2, [.int 0, .int ((-1)), .ref q1_7, .ref q2_8, .int 0, .int 0, .int 0, .int 0, .int 0])), (q1_7, .inl (cy1_9, 3, .inl (fun _ => 0))), (q2_8, .inl (cy2_10, 0, .inl (fun _ => 0))), (q_13, .inr (1, [.ref q1_14, .ref q2_15, .ref q3_16, .ref q4_17, .int 0, .int 0])), (q1_14, .inl (cy1_18, 8, .inl uF)), (q2_15, .inl (cy2_19, 4, .inl (fun _ => 0))), (q3_16, .inl (cy3_20, 4, .inl (fun _ => 0))), (q4_17, .inl (cy4_21, 4, .inl (fun _ => 0))), (q_24, .inr (3, [.ref (ad_59 0), .ref (ad_59 5), .ref (ad_59 12), .int 0, .int 0, .int 0])), (ad_59 0, .inr (1, [.ref (ad_59 1), .ref (ad_59 2), .ref (ad_59 3), .ref (ad_59 4), .int 0, .int 0])), (ad_59 1, .inl (cy_60 0, 8, .inl uF)), (ad_59 2, .inl (cy_60 1, 4, .inl (fun _ => 0))), (ad_59 3, .inl (cy_60 2, 4, .inl (fun _ => 0))), (ad_59 4, .inl (cy_60 3, 4, .inl (fun _ => 0))), (ad_59 5, .inr (5, [.int 5, .int 5, .ref (ad_59 6), .ref (ad_59 7), .ref (ad_59 8), .ref (ad_59 9), .ref (ad_59 10), .ref (ad_59 11)])), (ad_59 6, .inl (cy_60 4, 100, .inl (fun _ => 0))), (ad_59 7, .inl (cy_60 5, 100, .inl (fun _ => 0))), (ad_59 8, .inl (cy_60 6, 100, .inl (fun _ => 0))), (ad_59 9, .inl (cy_60 7, 100, .inl (fun _ => (-1)))), (ad_59 10, .inl (cy_60 8, 100, .inl (fun _ => 0))), (ad_59 11, .inl (cy_60 9, 100, .inl (fun _ => 0))), (ad_59 12, .inl (cy_60 10, 10, .inr (.inr (.inr (.inr (va_up (va_up (va_up (va_up (va_up (va_up (va_up (va_up (va_up (va_up (fun _ => none) 0 (some (ad_59 13))) 1 (some (ad_59 14))) 2 (some (ad_59 15))) 3 (some (ad_59 16))) 4 (some (ad_59 17))) 5 (some (ad_59 18))) 6 (some (ad_59 19))) 7 (some (ad_59 20))) 8 (some (ad_59 21))) 9 (some (ad_59 22)))))))), (ad_59 13, .inr (0, [.int 0, .int 0, .int 0, .int 0, .int 0, .int 0, .int 0])), (ad_59 14, .inr (0, [.int 0, .int 0, .int 0, .int 0, .int 0, .int 0, .int 0])), (ad_59 15, .inr (0, [.int 0, .int 0, .int 0, .int 0, .int 0, .int 0, .int 0])), (ad_59 16, .inr (0, [.int 0, .int 0, .int 0, .int 0, .int 0, .int 0, .int 0])), (ad_59 17, .inr (0, [.int 0, .int 0, .int 0, .int 0, .int 0, .int 0, .int 0])), (ad_59 18, .inr (0, [.int 0, .int 0, .int 0, .int 0, .int 0, .int 0, .int 0])), (ad_59 19, .inr (0, [.int 0, .int 0, .int 0, .int 0, .int 0, .int 0, .int 0])), (ad_59 20, .inr (0, [.int 0, .int 0, .int 0, .int 0, .int 0, .int 0, .int 0])), (ad_59 21, .inr (0, [.int 0, .int 0, .int 0, .int 0, .int 0, .int 0, .int 0])), (ad_59 22, .inr (0, [.int 0, .int 0, .int 0, .int 0, .int 0, .int 0, .int 0])), (q_63, .inr (4, [.int 0, .ref q1_64, .int 0, .ref q2_65, .ref q3_66, .ref q4_67, .int 0, .ref q5_68, .int 0])), (q1_64, .inl (cy1_69, 10, .inl (fun _ => 0))), (q2_65, .inl (cy2_70, 100, .inl (fun _ => 0))), (q3_66, .inl (cy3_71, 100, .inl (fun _ => 0))), (q4_67, .inl (cy4_72, 100, .inl (fun _ => 0))), (q5_68, .inl (cy5_73, 10, .inl (fun _ => 0))), (q_76, .inr (7, [.null, .null, .int 0, .null, .null, .int 0]))] := hD
  refine W.widen (k := 41) (n := 1495) (by decide) (by decide) ?_
  refine lv_dup hx hb dX9_init_63 rfl ?_
  refine mc_Iv (rest := [.ref q_76, .ref h0]) (wr := [(h0, .inr (8, [.ref q_1, .ref q_6, .ref q_13, .ref q_24, .ref q_63, .null])), (q_1, .inr (6, [.ref q1_2, .int 0])), (q1_2, .inl (cy1_3, 400, .inl (fun _ => 0))), (q_6, .inr (2, [.int 0, .int ((-1)), .ref q1_7, .ref q2_8, .int 0, .int 0, .int 0, .int 0, .int 0])), (q1_7, .inl (cy1_9, 3, .inl (fun _ => 0))), (q2_8, .inl (cy2_10, 0, .inl (fun _ => 0))), (q_13, .inr (1, [.ref q1_14, .ref q2_15, .ref q3_16, .ref q4_17, .int 0, .int 0])), (q1_14, .inl (cy1_18, 8, .inl uF)), (q2_15, .inl (cy2_19, 4, .inl (fun _ => 0))), (q3_16, .inl (cy3_20, 4, .inl (fun _ => 0))), (q4_17, .inl (cy4_21, 4, .inl (fun _ => 0))), (q_24, .inr (3, [.ref (ad_59 0), .ref (ad_59 5), .ref (ad_59 12), .int 0, .int 0, .int 0])), (ad_59 0, .inr (1, [.ref (ad_59 1), .ref (ad_59 2), .ref (ad_59 3), .ref (ad_59 4), .int 0, .int 0])), (ad_59 1, .inl (cy_60 0, 8, .inl uF)), (ad_59 2, .inl (cy_60 1, 4, .inl (fun _ => 0))), (ad_59 3, .inl (cy_60 2, 4, .inl (fun _ => 0))), (ad_59 4, .inl (cy_60 3, 4, .inl (fun _ => 0))), (ad_59 5, .inr (5, [.int 5, .int 5, .ref (ad_59 6), .ref (ad_59 7), .ref (ad_59 8), .ref (ad_59 9), .ref (ad_59 10), .ref (ad_59 11)])), (ad_59 6, .inl (cy_60 4, 100, .inl (fun _ => 0))), (ad_59 7, .inl (cy_60 5, 100, .inl (fun _ => 0))), (ad_59 8, .inl (cy_60 6, 100, .inl (fun _ => 0))), (ad_59 9, .inl (cy_60 7, 100, .inl (fun _ => (-1)))), (ad_59 10, .inl (cy_60 8, 100, .inl (fun _ => 0))), (ad_59 11, .inl (cy_60 9, 100, .inl (fun _ => 0))), (ad_59 12, .inl (cy_60 10, 10, .inr (.inr (.inr (.inr (va_up (va_up (va_up (va_up (va_up (va_up (va_up (va_up (va_up (va_up (fun _ => none) 0 (some (ad_59 13))) 1 (some (ad_59 14))) 2 (some (ad_59 15))) 3 (some (ad_59 16))) 4 (some (ad_59 17))) 5 (some (ad_59 18))) 6 (some (ad_59 19))) 7 (some (ad_59 20))) 8 (some (ad_59 21))) 9 (some (ad_59 22)))))))), (ad_59 13, .inr (0, [.int 0, .int 0, .int 0, .int 0, .int 0, .int 0, .int 0])), (ad_59 14, .inr (0, [.int 0, .int 0, .int 0, .int 0, .int 0, .int 0, .int 0])), (ad_59 15, .inr (0, [.int 0, .int 0, .int 0, .int 0, .int 0, .int 0, .int 0])), (ad_59 16, .inr (0, [.int 0, .int 0, .int 0, .int 0, .int 0, .int 0, .int 0])), (ad_59 17, .inr (0, [.int 0, .int 0, .int 0, .int 0, .int 0, .int 0, .int 0])), (ad_59 18, .inr (0, [.int 0, .int 0, .int 0, .int 0, .int 0, .int 0, .int 0])), (ad_59 19, .inr (0, [.int 0, .int 0, .int 0, .int 0, .int 0, .int 0, .int 0])), (ad_59 20, .inr (0, [.int 0, .int 0, .int 0, .int 0, .int 0, .int 0, .int 0])), (ad_59 21, .inr (0, [.int 0, .int 0, .int 0, .int 0, .int 0, .int 0, .int 0])), (ad_59 22, .inr (0, [.int 0, .int 0, .int 0, .int 0, .int 0, .int 0, .int 0])), (q_63, .inr (4, [.int 0, .ref q1_64, .int 0, .ref q2_65, .ref q3_66, .ref q4_67, .int 0, .ref q5_68, .int 0])), (q1_64, .inl (cy1_69, 10, .inl (fun _ => 0))), (q2_65, .inl (cy2_70, 100, .inl (fun _ => 0))), (q3_66, .inl (cy3_71, 100, .inl (fun _ => 0))), (q4_67, .inl (cy4_72, 100, .inl (fun _ => 0))), (q5_68, .inl (cy5_73, 10, .inl (fun _ => 0)))]) F hK hP hD hS hA (c_WayOff_init l D q_76 ) ⟨gk_X9_46.1, gk_X9_46.2.1, gk_X9_46.2.2, Nat.le_of_ble_eq_true rfl, Nat.le_of_ble_eq_true rfl⟩ [41] [0, 1, 2, 3, 4, 5, 6, 7, 8, 9, 10, 11, 12, 13, 14, 15, 16, 17, 18, 19, 20, 21, 22, 23, 24, 25, 26, 27, 28, 29, 30, 31, 32, 33, 34, 35, 36, 37, 38, 39, 40] [] ⟨rfl, rfl, rfl, rfl, by decide⟩ rfl xT_move (fun _ _ _ => trivial) rfl hl.1 rfl (Nat.le_of_ble_eq_true rfl) dX9_init_64 ⟨Nat.le_of_ble_eq_true rfl, Nat.le_of_ble_eq_true rfl⟩ (fun u H locs hw hK1 hP hD hS => ?_)
  obtain ⟨q1_77, q2_78, q3_79, q4_80, cy1_81, cy2_82, cy3_83, cy4_84⟩ := u
  have hP : va_P D vwCl [(h0, .inr (8, [.ref q_1, .ref q_6, .ref q_13, .ref q_24, .ref q_63, .null])), (q_1, .inr (6, [.ref q1_2, .int 0])), (q1_2, .inl (cy1_3, 400, .inl (fun _ => 0))), (q_6, .inr (2, [.int 0, .int ((-1)), .ref q1_7, .ref q2_8, .int 0, .int 0, .int 0, .int 0, .int 0])), (q1_7, .inl (cy1_9, 3, .inl (fun _ => 0))), (q2_8, .inl (cy2_10, 0, .inl (fun _ => 0))), (q_13, .inr (1, [.ref q1_14, .ref q2_15, .ref q3_16, .ref q4_17, .int 0, .int 0])), (q1_14, .inl (cy1_18, 8, .inl uF)), (q2_15, .inl (cy2_19, 4, .inl (fun _ => 0))), (q3_16, .inl (cy3_20, 4, .inl (fun _ => 0))), (q4_17, .inl (cy4_21, 4, .inl (fun _ => 0))), (q_24, .inr (3, [.ref (ad_59 0), .ref (ad_59 5), .ref (ad_59 12), .int 0, .int 0, .int 0])), (ad_59 0, .inr (1, [.ref (ad_59 1), .ref (ad_59 2), .ref (ad_59 3), .ref (ad_59 4), .int 0, .int 0])), (ad_59 1, .inl (cy_60 0, 8, .inl uF)), (ad_59 2, .inl (cy_60 1, 4, .inl (fun _ => 0))), (ad_59 3, .inl (cy_60 2, 4, .inl (fun _ => 0))), (ad_59 4, .inl (cy_60 3, 4, .inl (fun _ => 0))), (ad_59 5, .inr (5, [.int 5, .int 5, .ref (ad_59 6), .ref (ad_59 7), .ref (ad_59 8), .ref (ad_59 9), .ref (ad_59 10), .ref (ad_59 11)])), (ad_59 6, .inl (cy_60 4, 100, .inl (fun _ => 0))), (ad_59 7, .inl (cy_60 5, 100, .inl (fun _ => 0))), (ad_59 8, .inl (cy_60 6, 100, .inl (fun _ => 0))), (ad_59 9, .inl (cy_60 7, 100, .inl (fun _ => (-1)))), (ad_59 10, .inl (cy_60 8, 100, .inl (fun _ => 0))), (ad_59 11, .inl (cy_60 9, 100, .inl (fun _ => 0))), (ad_59 12, .inl (cy_60 10, 10, .inr (.inr (.inr (.inr (va_up (va_up (va_up (va_up (va_up (va_up (va_up (va_up (va_up (va_up (fun _ => none) 0 (some (ad_59 13))) 1 (some (ad_59 14))) 2 (some (ad_59 15))) 3 (some (ad_59 16))) 4 (some (ad_59 17))) 5 (some (ad_59 18))) 6 (some (ad_59 19))) 7 (some (ad_59 20))) 8 (some (ad_59 21))) 9 (some (ad_59 22)))))))), (ad_59 13, .inr (0, [.int 0, .int 0, .int 0, .int 0, .int 0, .int 0, .int 0])), (ad_59 14, .inr (0, [.int 0, .int 0, .int 0, .int 0, .int 0, .int 0, .int 0])), (ad_59 15, .inr (0, [.int 0, .int 0, .int 0, .int 0, .int 0, .int 0, .int 0])), (ad_59 16, .inr (0, [.int 0, .int 0, .int 0, .int 0, .int 0, .int 0, .int 0])), (ad_59 17, .inr (0, [.int 0, .int 0, .int 0, .int 0, .int 0, .int 0, .int 0])), (ad_59 18, .inr (0, [.int 0, .int 0, .int 0, .int 0, .int 0, .int 0, .int 0])), (ad_59 19, .inr (0, [.int 0, .int 0, .int 0, .int 0, .int 0, .int 0, .int 0])), (ad_59 20, .inr (0, [.int 0, .int 0, .int 0, .int 0, .int 0, .int 0, .int 0])), (ad_59 21, .inr (0, [.int 0, .int 0, .int 0, .int 0, .int 0, .int 0, .int 0])), (ad_59 22, .inr (0, [.int 0, .int 0, .int 0, .int 0, .int 0, .int 0, .int 0])), (q_63, .inr (4, [.int 0, .ref q1_64, .int 0, .ref q2_65, .ref q3_66, .ref q4_67, .int 0, .ref q5_68, .int 0])), (q1_64, .inl (cy1_69, 10, .inl (fun _ => 0))), (q2_65, .inl (cy2_70, 100, .inl (fun _ => 0))), (q3_66, .inl (cy3_71, 100, .inl (fun _ => 0))), (q4_67, .inl (cy4_72, 100, .inl (fun _ => 0))), (q5_68, .inl (cy5_73, 10, .inl (fun _ => 0))), (q_76, .inr (7, [.ref q1_77, .ref q2_78, .int 0, .ref q3_79, .ref q4_80, .int 0])), (q1_77, .inl (cy1_81, 100, .inl (fun _ => 0))), (q2_78, .inl (cy2_82, 100, .inl (fun _ => 0))), (q3_79, .inl (cy3_83, 40, .inl (fun _ => 0))), (q4_80, .inl (cy4_84, 4, .inl (fun _ => 0)))] H := hP
  have hD : va_D A [(h0, .inr (8, [.ref q_1, .ref q_6, .ref q_13, .ref q_24, .ref q_63, .null])), (q_1, .inr (6, [.ref q1_2, .int 0])), (q1_2, .inl (cy1_3, 400, .inl (fun _ => 0))), (q_6, .inr (2, [.int 0, .int ((-1)), .ref q1_7, .ref q2_8, .int 0, .int 0, .int 0, .int 0, .int 0])), (q1_7, .inl (cy1_9, 3, .inl (fun _ => 0))), (q2_8, .inl (cy2_10, 0, .inl (fun _ => 0))), (q_13, .inr (1, [.ref q1_14, .ref q2_15, .ref q3_16, .ref q4_17, .int 0, .int 0])), (q1_14, .inl (cy1_18, 8, .inl uF)), (q2_15, .inl (cy2_19, 4, .inl (fun _ => 0))), (q3_16, .inl (cy3_20, 4, .inl (fun _ => 0))), (q4_17, .inl (cy4_21, 4, .inl (fun _ => 0))), (q_24, .inr (3, [.ref (ad_59 0), .ref (ad_59 5), .ref (ad_59 12), .int 0, .int 0, .int 0])), (ad_59 0, .inr (1, [.ref (ad_59 1), .ref (ad_59 2), .ref (ad_59 3), .ref (ad_59 4), .int 0, .int 0])), (ad_59 1, .inl (cy_60 0, 8, .inl uF)), (ad_59 2, .inl (cy_60 1, 4, .inl (fun _ => 0))), (ad_59 3, .inl (cy_60 2, 4, .inl (fun _ => 0))), (ad_59 4, .inl (cy_60 3, 4, .inl (fun _ => 0))), (ad_59 5, .inr (5, [.int 5, .int 5, .ref (ad_59 6), .ref (ad_59 7), .ref (ad_59 8), .ref (ad_59 9), .ref (ad_59 10), .ref (ad_59 11)])), (ad_59 6, .inl (cy_60 4, 100, .inl (fun _ => 0))), (ad_59 7, .inl (cy_60 5, 100, .inl (fun _ => 0))), (ad_59 8, .inl (cy_60 6, 100, .inl (fun _ => 0))), (ad_59 9, .inl (cy_60 7, 100, .inl (fun _ => (-1)))), (ad_59 10, .inl (cy_60 8, 100, .inl (fun _ => 0))), (ad_59 11, .inl (cy_60 9, 100, .inl (fun _ => 0))), (ad_59 12, .inl (cy_60 10, 10, .inr (.inr (.inr (.inr (va_up (va_up (va_up (va_up (va_up (va_up (va_up (va_up (va_up (va_up (fun _ => none) 0 (some (ad_59 13))) 1 (some (ad_59 14))) 2 (some (ad_59 15))) 3 (some (ad_59 16))) 4 (some (ad_59 17))) 5 (some (ad_59 18))) 6 (some (ad_59 19))) 7 (some (ad_59 20))) 8 (some (ad_59 21))) 9 (some (ad_59 22)))))))), (ad_59 13, .inr (0, [.int 0, .int 0, .int 0, .int 0, .int 0, .int 0, .int 0])), (ad_59 14, .inr (0, [.int 0, .int 0, .int 0, .int 0, .int 0, .int 0, .int 0])), (ad_59 15, .inr (0, [.int 0, .int 0, .int 0, .int 0, .int 0, .int 0, .int 0])), (ad_59 16, .inr (0, [.int 0, .int 0, .int 0, .int 0, .int 0, .int 0, .int 0])), (ad_59 17, .inr (0, [.int 0, .int 0, .int 0, .int 0, .int 0, .int 0, .int 0])), (ad_59 18, .inr (0, [.int 0, .int 0, .int 0, .int 0, .int 0, .int 0, .int 0])), (ad_59 19, .inr (0, [.int 0, .int 0, .int 0, .int 0, .int 0, .int 0, .int 0])), (ad_59 20, .inr (0, [.int 0, .int 0, .int 0, .int 0, .int 0, .int 0, .int 0])), (ad_59 21, .inr (0, [.int 0, .int 0, .int 0, .int 0, .int 0, .int 0, .int 0])), (ad_59 22, .inr (0, [.int 0, .int 0, .int 0, .int 0, .int 0, .int 0, .int 0])), (q_63, .inr (4, [.int 0, .ref q1_64, .int 0, .ref q2_65, .ref q3_66, .ref q4_67, .int 0, .ref q5_68, .int 0])), (q1_64, .inl (cy1_69, 10, .inl (fun _ => 0))), (q2_65, .inl (cy2_70, 100, .inl (fun _ => 0))), (q3_66, .inl (cy3_71, 100, .inl (fun _ => 0))), (q4_67, .inl (cy4_72, 100, .inl (fun _ => 0))), (q5_68, .inl (cy5_73, 10, .inl (fun _ => 0))), (q_76, .inr (7, [.ref q1_77, .ref q2_78, .int 0, .ref q3_79, .ref q4_80, .int 0])), (q1_77, .inl (cy1_81, 100, .inl (fun _ => 0))), (q2_78, .inl (cy2_82, 100, .inl (fun _ => 0))), (q3_79, .inl (cy3_83, 40, .inl (fun _ => 0))), (q4_80, .inl (cy4_84, 4, .inl (fun _ => 0)))] := hD
  have hK : va_K D vwCl [(cy1_3, .int), (cy1_9, .int), (cy2_10, .int), (cy1_18, .int), (cy2_19, .int), (cy3_20, .int), (cy4_21, .int), (cy_60 0, .int), (cy_60 1, .int), (cy_60 2, .int), (cy_60 3, .int), (cy_60 4, .int), (cy_60 5, .int), (cy_60 6, .int), (cy_60 7, .int), (cy_60 8, .boolean), (cy_60 9, .boolean), (cy_60 10, .object RX0), (cy1_69, .int), (cy2_70, .int), (cy3_71, .int), (cy4_72, .boolean), (cy5_73, .int), (cy1_81, .int), (cy2_82, .int), (cy3_83, .int), (cy4_84, .int)] s := hK.app hK1
  refine W.widen (k := 45) (n := 1739) (by decide) (by decide) ?_
  refine va_putF (D := D) (ci := 8) (v := .ref q_76) (ty := .object "IceFair$WayOff") (C := RX9) (T := TX9) (N := 6) hx hb hts inG_X9 tyX9 tyX9_ok nmX9 hown hK hP hD hS 0 rfl rfl 5 (by decide) (hts _ kw_2_72) (fun _ h9 => h9) rfl hin rfl (by decide +kernel) rfl rfl (Nat.le_of_ble_eq_true rfl) dX9_init_67 (fun H locs hP hD hS => ?_)
  have hP : va_P D vwCl [(h0, .inr (8, [.ref q_1, .ref q_6, .ref q_13, .ref q_24, .ref q_63, .ref q_76])), (q_1, .inr (6, [.ref q1_2, .int 0])), (q1_2, .inl (cy1_3, 400, .inl (fun _ => 0))), (q_6, .inr (2, [.int 0, .int ((-1)), .ref q1_7, .ref q2_8, .int 0, .int 0, .int 0, .int 0, .int 0])), (q1_7, .inl (cy1_9, 3, .inl (fun _ => 0))), (q2_8, .inl (cy2_10, 0, .inl (fun _ => 0))), (q_13, .inr (1, [.ref q1_14, .ref q2_15, .ref q3_16, .ref q4_17, .int 0, .int 0])), (q1_14, .inl (cy1_18, 8, .inl uF)), (q2_15, .inl (cy2_19, 4, .inl (fun _ => 0))), (q3_16, .inl (cy3_20, 4, .inl (fun _ => 0))), (q4_17, .inl (cy4_21, 4, .inl (fun _ => 0))), (q_24, .inr (3, [.ref (ad_59 0), .ref (ad_59 5), .ref (ad_59 12), .int 0, .int 0, .int 0])), (ad_59 0, .inr (1, [.ref (ad_59 1), .ref (ad_59 2), .ref (ad_59 3), .ref (ad_59 4), .int 0, .int 0])), (ad_59 1, .inl (cy_60 0, 8, .inl uF)), (ad_59 2, .inl (cy_60 1, 4, .inl (fun _ => 0))), (ad_59 3, .inl (cy_60 2, 4, .inl (fun _ => 0))), (ad_59 4, .inl (cy_60 3, 4, .inl (fun _ => 0))), (ad_59 5, .inr (5, [.int 5, .int 5, .ref (ad_59 6), .ref (ad_59 7), .ref (ad_59 8), .ref (ad_59 9), .ref (ad_59 10), .ref (ad_59 11)])), (ad_59 6, .inl (cy_60 4, 100, .inl (fun _ => 0))), (ad_59 7, .inl (cy_60 5, 100, .inl (fun _ => 0))), (ad_59 8, .inl (cy_60 6, 100, .inl (fun _ => 0))), (ad_59 9, .inl (cy_60 7, 100, .inl (fun _ => (-1)))), (ad_59 10, .inl (cy_60 8, 100, .inl (fun _ => 0))), (ad_59 11, .inl (cy_60 9, 100, .inl (fun _ => 0))), (ad_59 12, .inl (cy_60 10, 10, .inr (.inr (.inr (.inr (va_up (va_up (va_up (va_up (va_up (va_up (va_up (va_up (va_up (va_up (fun _ => none) 0 (some (ad_59 13))) 1 (some (ad_59 14))) 2 (some (ad_59 15))) 3 (some (ad_59 16))) 4 (some (ad_59 17))) 5 (some (ad_59 18))) 6 (some (ad_59 19))) 7 (some (ad_59 20))) 8 (some (ad_59 21))) 9 (some (ad_59 22)))))))), (ad_59 13, .inr (0, [.int 0, .int 0, .int 0, .int 0, .int 0, .int 0, .int 0])), (ad_59 14, .inr (0, [.int 0, .int 0, .int 0, .int 0, .int 0, .int 0, .int 0])), (ad_59 15, .inr (0, [.int 0, .int 0, .int 0, .int 0, .int 0, .int 0, .int 0])), (ad_59 16, .inr (0, [.int 0, .int 0, .int 0, .int 0, .int 0, .int 0, .int 0])), (ad_59 17, .inr (0, [.int 0, .int 0, .int 0, .int 0, .int 0, .int 0, .int 0])), (ad_59 18, .inr (0, [.int 0, .int 0, .int 0, .int 0, .int 0, .int 0, .int 0])), (ad_59 19, .inr (0, [.int 0, .int 0, .int 0, .int 0, .int 0, .int 0, .int 0])), (ad_59 20, .inr (0, [.int 0, .int 0, .int 0, .int 0, .int 0, .int 0, .int 0])), (ad_59 21, .inr (0, [.int 0, .int 0, .int 0, .int 0, .int 0, .int 0, .int 0])), (ad_59 22, .inr (0, [.int 0, .int 0, .int 0, .int 0, .int 0, .int 0, .int 0])), (q_63, .inr (4, [.int 0, .ref q1_64, .int 0, .ref q2_65, .ref q3_66, .ref q4_67, .int 0, .ref q5_68, .int 0])), (q1_64, .inl (cy1_69, 10, .inl (fun _ => 0))), (q2_65, .inl (cy2_70, 100, .inl (fun _ => 0))), (q3_66, .inl (cy3_71, 100, .inl (fun _ => 0))), (q4_67, .inl (cy4_72, 100, .inl (fun _ => 0))), (q5_68, .inl (cy5_73, 10, .inl (fun _ => 0))), (q_76, .inr (7, [.ref q1_77, .ref q2_78, .int 0, .ref q3_79, .ref q4_80, .int 0])), (q1_77, .inl (cy1_81, 100, .inl (fun _ => 0))), (q2_78, .inl (cy2_82, 100, .inl (fun _ => 0))), (q3_79, .inl (cy3_83, 40, .inl (fun _ => 0))), (q4_80, .inl (cy4_84, 4, .inl (fun _ => 0)))] H := hP
  have hD : va_D A [(h0, .inr (8, [.ref q_1, .ref q_6, .ref q_13, .ref q_24, .ref q_63, .ref q_76])), (q_1, .inr (6, [.ref q1_2, .int 0])), (q1_2, .inl (cy1_3, 400, .inl (fun _ => 0))), (q_6, .inr (2, [.int 0, .int ((-1)), .ref q1_7, .ref q2_8, .int 0, .int 0, .int 0, .int 0, .int 0])), (q1_7, .inl (cy1_9, 3, .inl (fun _ => 0))), (q2_8, .inl (cy2_10, 0, .inl (fun _ => 0))), (q_13, .inr (1, [.ref q1_14, .ref q2_15, .ref q3_16, .ref q4_17, .int 0, .int 0])), (q1_14, .inl (cy1_18, 8, .inl uF)), (q2_15, .inl (cy2_19, 4, .inl (fun _ => 0))), (q3_16, .inl (cy3_20, 4, .inl (fun _ => 0))), (q4_17, .inl (cy4_21, 4, .inl (fun _ => 0))), (q_24, .inr (3, [.ref (ad_59 0), .ref (ad_59 5), .ref (ad_59 12), .int 0, .int 0, .int 0])), (ad_59 0, .inr (1, [.ref (ad_59 1), .ref (ad_59 2), .ref (ad_59 3), .ref (ad_59 4), .int 0, .int 0])), (ad_59 1, .inl (cy_60 0, 8, .inl uF)), (ad_59 2, .inl (cy_60 1, 4, .inl (fun _ => 0))), (ad_59 3, .inl (cy_60 2, 4, .inl (fun _ => 0))), (ad_59 4, .inl (cy_60 3, 4, .inl (fun _ => 0))), (ad_59 5, .inr (5, [.int 5, .int 5, .ref (ad_59 6), .ref (ad_59 7), .ref (ad_59 8), .ref (ad_59 9), .ref (ad_59 10), .ref (ad_59 11)])), (ad_59 6, .inl (cy_60 4, 100, .inl (fun _ => 0))), (ad_59 7, .inl (cy_60 5, 100, .inl (fun _ => 0))), (ad_59 8, .inl (cy_60 6, 100, .inl (fun _ => 0))), (ad_59 9, .inl (cy_60 7, 100, .inl (fun _ => (-1)))), (ad_59 10, .inl (cy_60 8, 100, .inl (fun _ => 0))), (ad_59 11, .inl (cy_60 9, 100, .inl (fun _ => 0))), (ad_59 12, .inl (cy_60 10, 10, .inr (.inr (.inr (.inr (va_up (va_up (va_up (va_up (va_up (va_up (va_up (va_up (va_up (va_up (fun _ => none) 0 (some (ad_59 13))) 1 (some (ad_59 14))) 2 (some (ad_59 15))) 3 (some (ad_59 16))) 4 (some (ad_59 17))) 5 (some (ad_59 18))) 6 (some (ad_59 19))) 7 (some (ad_59 20))) 8 (some (ad_59 21))) 9 (some (ad_59 22)))))))), (ad_59 13, .inr (0, [.int 0, .int 0, .int 0, .int 0, .int 0, .int 0, .int 0])), (ad_59 14, .inr (0, [.int 0, .int 0, .int 0, .int 0, .int 0, .int 0, .int 0])), (ad_59 15, .inr (0, [.int 0, .int 0, .int 0, .int 0, .int 0, .int 0, .int 0])), (ad_59 16, .inr (0, [.int 0, .int 0, .int 0, .int 0, .int 0, .int 0, .int 0])), (ad_59 17, .inr (0, [.int 0, .int 0, .int 0, .int 0, .int 0, .int 0, .int 0])), (ad_59 18, .inr (0, [.int 0, .int 0, .int 0, .int 0, .int 0, .int 0, .int 0])), (ad_59 19, .inr (0, [.int 0, .int 0, .int 0, .int 0, .int 0, .int 0, .int 0])), (ad_59 20, .inr (0, [.int 0, .int 0, .int 0, .int 0, .int 0, .int 0, .int 0])), (ad_59 21, .inr (0, [.int 0, .int 0, .int 0, .int 0, .int 0, .int 0, .int 0])), (ad_59 22, .inr (0, [.int 0, .int 0, .int 0, .int 0, .int 0, .int 0, .int 0])), (q_63, .inr (4, [.int 0, .ref q1_64, .int 0, .ref q2_65, .ref q3_66, .ref q4_67, .int 0, .ref q5_68, .int 0])), (q1_64, .inl (cy1_69, 10, .inl (fun _ => 0))), (q2_65, .inl (cy2_70, 100, .inl (fun _ => 0))), (q3_66, .inl (cy3_71, 100, .inl (fun _ => 0))), (q4_67, .inl (cy4_72, 100, .inl (fun _ => 0))), (q5_68, .inl (cy5_73, 10, .inl (fun _ => 0))), (q_76, .inr (7, [.ref q1_77, .ref q2_78, .int 0, .ref q3_79, .ref q4_80, .int 0])), (q1_77, .inl (cy1_81, 100, .inl (fun _ => 0))), (q2_78, .inl (cy2_82, 100, .inl (fun _ => 0))), (q3_79, .inl (cy3_83, 40, .inl (fun _ => 0))), (q4_80, .inl (cy4_84, 4, .inl (fun _ => 0)))] := hD
  have hP9 := hP.sub (ws' := [(h0, .inr (8, [.ref q_1, .ref q_6, .ref q_13, .ref q_24, .ref q_63, .ref q_76])), (q_1, .inr (6, [.ref q1_2, .int 0])), (q1_2, .inl (cy1_3, 400, .inl (fun _ => 0))), (q_6, .inr (2, [.int 0, .int ((-1)), .ref q1_7, .ref q2_8, .int 0, .int 0, .int 0, .int 0, .int 0])), (q1_7, .inl (cy1_9, 3, .inl (fun _ => 0))), (q2_8, .inl (cy2_10, 0, .inl (fun _ => 0))), (q_13, .inr (1, [.ref q1_14, .ref q2_15, .ref q3_16, .ref q4_17, .int 0, .int 0])), (q1_14, .inl (cy1_18, 8, .inl uF)), (q2_15, .inl (cy2_19, 4, .inl (fun _ => 0))), (q3_16, .inl (cy3_20, 4, .inl (fun _ => 0))), (q4_17, .inl (cy4_21, 4, .inl (fun _ => 0))), (q_24, .inr (3, [.ref (ad_59 0), .ref (ad_59 5), .ref (ad_59 12), .int 0, .int 0, .int 0])), (ad_59 0, .inr (1, [.ref (ad_59 1), .ref (ad_59 2), .ref (ad_59 3), .ref (ad_59 4), .int 0, .int 0])), (ad_59 1, .inl (cy_60 0, 8, .inl uF)), (ad_59 2, .inl (cy_60 1, 4, .inl (fun _ => 0))), (ad_59 3, .inl (cy_60 2, 4, .inl (fun _ => 0))), (ad_59 4, .inl (cy_60 3, 4, .inl (fun _ => 0))), (ad_59 5, .inr (5, [.int 5, .int 5, .ref (ad_59 6), .ref (ad_59 7), .ref (ad_59 8), .ref (ad_59 9), .ref (ad_59 10), .ref (ad_59 11)])), (ad_59 6, .inl (cy_60 4, 100, .inl (fun _ => 0))), (ad_59 7, .inl (cy_60 5, 100, .inl (fun _ => 0))), (ad_59 8, .inl (cy_60 6, 100, .inl (fun _ => 0))), (ad_59 9, .inl (cy_60 7, 100, .inl (fun _ => (-1)))), (ad_59 10, .inl (cy_60 8, 100, .inl (fun _ => 0))), (ad_59 11, .inl (cy_60 9, 100, .inl (fun _ => 0))), (ad_59 12, .inl (cy_60 10, 10, .inr (.inr (.inr (.inr (va_up (va_up (va_up (va_up (va_up (va_up (va_up (va_up (va_up (va_up (fun _ => none) 0 (some (ad_59 13))) 1 (some (ad_59 14))) 2 (some (ad_59 15))) 3 (some (ad_59 16))) 4 (some (ad_59 17))) 5 (some (ad_59 18))) 6 (some (ad_59 19))) 7 (some (ad_59 20))) 8 (some (ad_59 21))) 9 (some (ad_59 22)))))))), (ad_59 13, .inr (0, [.int 0, .int 0, .int 0, .int 0, .int 0, .int 0, .int 0])), (ad_59 14, .inr (0, [.int 0, .int 0, .int 0, .int 0, .int 0, .int 0, .int 0])), (ad_59 15, .inr (0, [.int 0, .int 0, .int 0, .int 0, .int 0, .int 0, .int 0])), (ad_59 16, .inr (0, [.int 0, .int 0, .int 0, .int 0, .int 0, .int 0, .int 0])), (ad_59 17, .inr (0, [.int 0, .int 0, .int 0, .int 0, .int 0, .int 0, .int 0])), (ad_59 18, .inr (0, [.int 0, .int 0, .int 0, .int 0, .int 0, .int 0, .int 0])), (ad_59 19, .inr (0, [.int 0, .int 0, .int 0, .int 0, .int 0, .int 0, .int 0])), (ad_59 20, .inr (0, [.int 0, .int 0, .int 0, .int 0, .int 0, .int 0, .int 0])), (ad_59 21, .inr (0, [.int 0, .int 0, .int 0, .int 0, .int 0, .int 0, .int 0])), (ad_59 22, .inr (0, [.int 0, .int 0, .int 0, .int 0, .int 0, .int 0, .int 0])), (q_63, .inr (4, [.int 0, .ref q1_64, .int 0, .ref q2_65, .ref q3_66, .ref q4_67, .int 0, .ref q5_68, .int 0])), (q1_64, .inl (cy1_69, 10, .inl (fun _ => 0))), (q2_65, .inl (cy2_70, 100, .inl (fun _ => 0))), (q3_66, .inl (cy3_71, 100, .inl (fun _ => 0))), (q4_67, .inl (cy4_72, 100, .inl (fun _ => 0))), (q5_68, .inl (cy5_73, 10, .inl (fun _ => 0))), (q_76, .inr (7, [.ref q1_77, .ref q2_78, .int 0, .ref q3_79, .ref q4_80, .int 0])), (q1_77, .inl (cy1_81, 100, .inl (fun _ => 0))), (q2_78, .inl (cy2_82, 100, .inl (fun _ => 0))), (q3_79, .inl (cy3_83, 40, .inl (fun _ => 0))), (q4_80, .inl (cy4_84, 4, .inl (fun _ => 0)))]) [0, 1, 2, 3, 4, 5, 6, 7, 8, 9, 10, 11, 12, 13, 14, 15, 16, 17, 18, 19, 20, 21, 22, 23, 24, 25, 26, 27, 28, 29, 30, 31, 32, 33, 34, 35, 36, 37, 38, 39, 40, 41, 42, 43, 44, 45] rfl
  have hD9 := hD.sub (ws' := [(h0, .inr (8, [.ref q_1, .ref q_6, .ref q_13, .ref q_24, .ref q_63, .ref q_76])), (q_1, .inr (6, [.ref q1_2, .int 0])), (q1_2, .inl (cy1_3, 400, .inl (fun _ => 0))), (q_6, .inr (2, [.int 0, .int ((-1)), .ref q1_7, .ref q2_8, .int 0, .int 0, .int 0, .int 0, .int 0])), (q1_7, .inl (cy1_9, 3, .inl (fun _ => 0))), (q2_8, .inl (cy2_10, 0, .inl (fun _ => 0))), (q_13, .inr (1, [.ref q1_14, .ref q2_15, .ref q3_16, .ref q4_17, .int 0, .int 0])), (q1_14, .inl (cy1_18, 8, .inl uF)), (q2_15, .inl (cy2_19, 4, .inl (fun _ => 0))), (q3_16, .inl (cy3_20, 4, .inl (fun _ => 0))), (q4_17, .inl (cy4_21, 4, .inl (fun _ => 0))), (q_24, .inr (3, [.ref (ad_59 0), .ref (ad_59 5), .ref (ad_59 12), .int 0, .int 0, .int 0])), (ad_59 0, .inr (1, [.ref (ad_59 1), .ref (ad_59 2), .ref (ad_59 3), .ref (ad_59 4), .int 0, .int 0])), (ad_59 1, .inl (cy_60 0, 8, .inl uF)), (ad_59 2, .inl (cy_60 1, 4, .inl (fun _ => 0))), (ad_59 3, .inl (cy_60 2, 4, .inl (fun _ => 0))), (ad_59 4, .inl (cy_60 3, 4, .inl (fun _ => 0))), (ad_59 5, .inr (5, [.int 5, .int 5, .ref (ad_59 6), .ref (ad_59 7), .ref (ad_59 8), .ref (ad_59 9), .ref (ad_59 10), .ref (ad_59 11)])), (ad_59 6, .inl (cy_60 4, 100, .inl (fun _ => 0))), (ad_59 7, .inl (cy_60 5, 100, .inl (fun _ => 0))), (ad_59 8, .inl (cy_60 6, 100, .inl (fun _ => 0))), (ad_59 9, .inl (cy_60 7, 100, .inl (fun _ => (-1)))), (ad_59 10, .inl (cy_60 8, 100, .inl (fun _ => 0))), (ad_59 11, .inl (cy_60 9, 100, .inl (fun _ => 0))), (ad_59 12, .inl (cy_60 10, 10, .inr (.inr (.inr (.inr (va_up (va_up (va_up (va_up (va_up (va_up (va_up (va_up (va_up (va_up (fun _ => none) 0 (some (ad_59 13))) 1 (some (ad_59 14))) 2 (some (ad_59 15))) 3 (some (ad_59 16))) 4 (some (ad_59 17))) 5 (some (ad_59 18))) 6 (some (ad_59 19))) 7 (some (ad_59 20))) 8 (some (ad_59 21))) 9 (some (ad_59 22)))))))), (ad_59 13, .inr (0, [.int 0, .int 0, .int 0, .int 0, .int 0, .int 0, .int 0])), (ad_59 14, .inr (0, [.int 0, .int 0, .int 0, .int 0, .int 0, .int 0, .int 0])), (ad_59 15, .inr (0, [.int 0, .int 0, .int 0, .int 0, .int 0, .int 0, .int 0])), (ad_59 16, .inr (0, [.int 0, .int 0, .int 0, .int 0, .int 0, .int 0, .int 0])), (ad_59 17, .inr (0, [.int 0, .int 0, .int 0, .int 0, .int 0, .int 0, .int 0])), (ad_59 18, .inr (0, [.int 0, .int 0, .int 0, .int 0, .int 0, .int 0, .int 0])), (ad_59 19, .inr (0, [.int 0, .int 0, .int 0, .int 0, .int 0, .int 0, .int 0])), (ad_59 20, .inr (0, [.int 0, .int 0, .int 0, .int 0, .int 0, .int 0, .int 0])), (ad_59 21, .inr (0, [.int 0, .int 0, .int 0, .int 0, .int 0, .int 0, .int 0])), (ad_59 22, .inr (0, [.int 0, .int 0, .int 0, .int 0, .int 0, .int 0, .int 0])), (q_63, .inr (4, [.int 0, .ref q1_64, .int 0, .ref q2_65, .ref q3_66, .ref q4_67, .int 0, .ref q5_68, .int 0])), (q1_64, .inl (cy1_69, 10, .inl (fun _ => 0))), (q2_65, .inl (cy2_70, 100, .inl (fun _ => 0))), (q3_66, .inl (cy3_71, 100, .inl (fun _ => 0))), (q4_67, .inl (cy4_72, 100, .inl (fun _ => 0))), (q5_68, .inl (cy5_73, 10, .inl (fun _ => 0))), (q_76, .inr (7, [.ref q1_77, .ref q2_78, .int 0, .ref q3_79, .ref q4_80, .int 0])), (q1_77, .inl (cy1_81, 100, .inl (fun _ => 0))), (q2_78, .inl (cy2_82, 100, .inl (fun _ => 0))), (q3_79, .inl (cy3_83, 40, .inl (fun _ => 0))), (q4_80, .inl (cy4_84, 4, .inl (fun _ => 0)))]) [0, 1, 2, 3, 4, 5, 6, 7, 8, 9, 10, 11, 12, 13, 14, 15, 16, 17, 18, 19, 20, 21, 22, 23, 24, 25, 26, 27, 28, 29, 30, 31, 32, 33, 34, 35, 36, 37, 38, 39, 40, 41, 42, 43, 44, 45] (by decide) rfl
  have hK9 := hK.sub (tys' := [(cy1_3, .int), (cy1_9, .int), (cy2_10, .int), (cy1_18, .int), (cy2_19, .int), (cy3_20, .int), (cy4_21, .int), (cy_60 0, .int), (cy_60 1, .int), (cy_60 2, .int), (cy_60 3, .int), (cy_60 4, .int), (cy_60 5, .int), (cy_60 6, .int), (cy_60 7, .int), (cy_60 8, .boolean), (cy_60 9, .boolean), (cy_60 10, .object RX0), (cy1_69, .int), (cy2_70, .int), (cy3_71, .int), (cy4_72, .boolean), (cy5_73, .int), (cy1_81, .int), (cy2_82, .int), (cy3_83, .int), (cy4_84, .int)]) [0, 1, 2, 3, 4, 5, 6, 7, 8, 9, 10, 11, 12, 13, 14, 15, 16, 17, 18, 19, 20, 21, 22, 23, 24, 25, 26] rfl
  refine W.widen (k := 45) (n := 1739) (by decide) (by decide) ?_
  exact W.vret hx hb hr (fun t ht hW => ⟨⟨(fun i => ([q_1, q1_2, q_6, q1_7, q2_8, q_13, q1_14, q2_15, q3_16, q4_17, q_24, ad_59 0, ad_59 1, ad_59 2, ad_59 3, ad_59 4, ad_59 5, ad_59 6, ad_59 7, ad_59 8, ad_59 9, ad_59 10, ad_59 11, ad_59 12, ad_59 13, ad_59 14, ad_59 15, ad_59 16, ad_59 17, ad_59 18, ad_59 19, ad_59 20, ad_59 21, ad_59 22, q_63, q1_64, q2_65, q3_66, q4_67, q5_68, q_76, q1_77, q2_78, q3_79, q4_80] : List Nat).getD i 0, fun i => ([cy1_3, cy1_9, cy2_10, cy1_18, cy2_19, cy3_20, cy4_21, cy_60 0, cy_60 1, cy_60 2, cy_60 3, cy_60 4, cy_60 5, cy_60 6, cy_60 7, cy_60 8, cy_60 9, cy_60 10, cy1_69, cy2_70, cy3_71, cy4_72, cy5_73, cy1_81, cy2_82, cy3_83, cy4_84] : List Nat).getD i 0), rfl, trivial, by rw [ht]; exact hP9, va_K.moved hW.alike hK9, hD9⟩, hS.F ht⟩) hS.2.2 dX9_init_70
end
section
theorem dX9_fault_0 : decode cX9_fault 0 = .ok (.iload_n 1, 1) := by decide +kernel
theorem dX9_fault_1 : decode cX9_fault 1 = .ok (.lookupswitch 43 #[(0, 27), (1, 35)], 27) := by decide +kernel
theorem dX9_fault_28 : decode cX9_fault 28 = .ok (.aload_n 0, 1) := by decide +kernel
theorem dX9_fault_29 : decode cX9_fault 29 = .ok (.getfield 19, 3) := by decide +kernel
theorem kw_1_55 : Cond.fieldLink RX9 74 "IceFair$CustomsReader" "faultKind" "I" ∈ gw := gw_t1 (List.mem_of_getElem? (i := 55) (by decide +kernel)) (by decide +kernel)
theorem dX9_fault_32 : decode cX9_fault 32 = .ok (.getfield 74, 3) := by decide +kernel
theorem dX9_fault_35 : decode cX9_fault 35 = .ok (.ireturn, 1) := by decide +kernel
theorem dX9_fault_36 : decode cX9_fault 36 = .ok (.aload_n 0, 1) := by decide +kernel
theorem dX9_fault_37 : decode cX9_fault 37 = .ok (.getfield 19, 3) := by decide +kernel
theorem kw_1_57 : Cond.fieldLink RX9 77 "IceFair$CustomsReader" "faultPlace" "I" ∈ gw := gw_t1 (List.mem_of_getElem? (i := 57) (by decide +kernel)) (by decide +kernel)
theorem dX9_fault_40 : decode cX9_fault 40 = .ok (.getfield 77, 3) := by decide +kernel
theorem dX9_fault_43 : decode cX9_fault 43 = .ok (.ireturn, 1) := by decide +kernel
theorem dX9_fault_44 : decode cX9_fault 44 = .ok (.iconst (-1), 1) := by decide +kernel
theorem dX9_fault_45 : decode cX9_fault 45 = .ok (.ireturn, 1) := by decide +kernel
set_option maxHeartbeats 4000000 in
set_option maxRecDepth 100000 in
theorem c_fault (l : Launch) (D : va_G) (h0 : Nat) (tp : Nat) (rd : Nat) (dr : Nat) (fa : Nat) (ly : Nat) (wy : Nat) (rd1 : Nat) (rd2 : Nat) (w : Int32) : cI l yX9_fault (.code yX9_fault cX9_fault 2 (some .int)) ({ frames := 0, cells := 0, slots := 0, locals := 0 }) D [] [(h0, .inr (8, [.ref tp, .ref rd, .ref dr, .ref fa, .ref ly, .ref wy])), (rd, .inr (2, [.int 0, .int ((-1)), .ref rd1, .ref rd2, .int 0, .int 0, .int 0, .int 0, .int 0]))] xT [.ref h0, .int w] (S := Unit) (fun r _ => r = (if w = 0 then 0 else (-1))) (fun _ => []) (fun _ => []) := by
  intro sz
  refine Met.ofW (cc := cX9_fault) (maxL := 2) (ret := (some .int)) (by decide) rfl ?_
  intro p e s m args below meth c s₁ B hml hv
  obtain ⟨rfl, hsz, hP, hK, hD0, hX⟩ := hv
  have hx := B.exec
  have hb := B.bytes
  have hr := B.returns
  have hts0 := atoms_spec (ws := .code yX9_fault cX9_fault 2 (some .int) :: gw) B.pre
  have hts := fun (w : Cond) (h : w ∈ gw) => hts0 w (List.mem_cons_of_mem _ h)
  have hown : s.vm.findClass RX9 = some m.cls := findClass_of_methodNamed B.named
  have hlocks := B.notSynchronized
  have F : mFix p s m _ c cX9_fault 2 RX9 := ⟨hx, hb, hml, hown, hts⟩
  subst hsz
  have hD := hD0.self (sz := s.heap.size)
  generalize hAe : va_A [(h0, .inr (8, [.ref tp, .ref rd, .ref dr, .ref fa, .ref ly, .ref wy])), (rd, .inr (2, [.int 0, .int ((-1)), .ref rd1, .ref rd2, .int 0, .int 0, .int 0, .int 0, .int 0]))] s.heap.size = A at hD hX ⊢
  have hA : ∀ q : Nat, s.heap.size ≤ q → A q := fun q h => by rw [← hAe]; exact Or.inr h
  have hS : va_S A s.heap s.heap [] := va_S.rf
  have hl := lv_entry ([.ref h0, .int w]) (n := 2) (Nat.le_of_ble_eq_true rfl)
  rw [lg_entry_eq]
  generalize (lg_sl ([.ref h0, .int w]) ++ List.replicate (2 - (lg_sl ([.ref h0, .int w])).length) Slot.unset).toArray = ls at hl ⊢
  have hl : lv_has ls 2 [(0, .ref h0), (1, .int w)] := hl
  have hP : va_P D vwCl [(h0, .inr (8, [.ref tp, .ref rd, .ref dr, .ref fa, .ref ly, .ref wy])), (rd, .inr (2, [.int 0, .int ((-1)), .ref rd1, .ref rd2, .int 0, .int 0, .int 0, .int 0, .int 0]))] s.heap := hP
  refine lv_iload_n hx hb dX9_fault_0 rfl (lv_at hl 1 rfl) ?_
  by_cases w_1_0 : w = 0
  · skip
    subst w_1_0
    refine lv_lookup (tgt := 28) (off := 27) hx hb dX9_fault_1 rfl (by decide) (by decide) ?_
    have hl : lv_has ls 2 [(0, .ref h0), (1, .int 0)] := hl
    refine lv_aload_n hx hb dX9_fault_28 rfl (lv_at hl 0 rfl) ?_
    refine va_get (D := D) (ci := 8) (v := .ref rd) (C := RX9) (T := TX9) (N := 6) hx hb hts inG_X9 hown hK hP 0 rfl rfl 1 (by decide) (hts _ kw_2_68) (fun _ h9 => h9) rfl dX9_fault_29 ?_
    refine va_get (D := D) (ci := 2) (v := .int 0) (C := RX2) (T := TX2) (N := 9) hx hb hts inG_X2 hown hK hP 1 rfl rfl 0 (by decide) (hts _ kw_1_55) (fun _ h9 => h9) rfl dX9_fault_32 ?_
    have hP9 := hP.sub (ws' := []) [] rfl
    have hD9 := hD.sub (ws' := []) [] (by decide) rfl
    have hK9 := hK.sub (tys' := []) [] rfl
    refine W.widen (k := 0) (n := 0) (by decide) (by decide) ?_
    exact W.iret (v := 0) hx hb hr (fun t ht hW => ⟨⟨0, (), rfl, rfl, by rw [ht]; exact hP9, va_K.moved hW.alike hK9, hD9⟩, hS.F ht⟩) hS.2.2 dX9_fault_35
  by_cases w_1_1 : w = 1
  · skip
    subst w_1_1
    refine lv_lookup (tgt := 36) (off := 35) hx hb dX9_fault_1 rfl (by decide) (by decide) ?_
    have hl : lv_has ls 2 [(0, .ref h0), (1, .int 1)] := hl
    refine lv_aload_n hx hb dX9_fault_36 rfl (lv_at hl 0 rfl) ?_
    refine va_get (D := D) (ci := 8) (v := .ref rd) (C := RX9) (T := TX9) (N := 6) hx hb hts inG_X9 hown hK hP 0 rfl rfl 1 (by decide) (hts _ kw_2_68) (fun _ h9 => h9) rfl dX9_fault_37 ?_
    refine va_get (D := D) (ci := 2) (v := .int ((-1))) (C := RX2) (T := TX2) (N := 9) hx hb hts inG_X2 hown hK hP 1 rfl rfl 1 (by decide) (hts _ kw_1_57) (fun _ h9 => h9) rfl dX9_fault_40 ?_
    have hP9 := hP.sub (ws' := []) [] rfl
    have hD9 := hD.sub (ws' := []) [] (by decide) rfl
    have hK9 := hK.sub (tys' := []) [] rfl
    refine W.widen (k := 0) (n := 0) (by decide) (by decide) ?_
    exact W.iret (v := (-1)) hx hb hr (fun t ht hW => ⟨⟨((-1)), (), rfl, by decide, by rw [ht]; exact hP9, va_K.moved hW.alike hK9, hD9⟩, hS.F ht⟩) hS.2.2 dX9_fault_43
  have w_1_0t : ¬ 0 = w.toInt := fun h => w_1_0 (Int32.toInt_inj.mp h.symm)
  have w_1_1t : ¬ 1 = w.toInt := fun h => w_1_1 (Int32.toInt_inj.mp h.symm)
  refine lv_lookup (tgt := 44) hx hb dX9_fault_1 rfl (off := 43) (by simp [Op.lookupswitch.offset, w_1_0t, w_1_1t]) (by decide) ?_
  refine lv_iconst (v := -1) hx hb dX9_fault_44 (by decide) ?_
  have hP9 := hP.sub (ws' := []) [] rfl
  have hD9 := hD.sub (ws' := []) [] (by decide) rfl
  have hK9 := hK.sub (tys' := []) [] rfl
  refine W.widen (k := 0) (n := 0) (by decide) (by decide) ?_
  exact W.iret (v := (-1)) hx hb hr (fun t ht hW => ⟨⟨((-1)), (), rfl, by simp only [w_1_0, w_1_1, or_false, false_or, or_true, true_or, not_true_eq_false, not_false_eq_true, ↓reduceIte], by rw [ht]; exact hP9, va_K.moved hW.alike hK9, hD9⟩, hS.F ht⟩) hS.2.2 dX9_fault_45
theorem dX6_has_0 : decode cX6_has 0 = .ok (.iload_n 1, 1) := by decide +kernel
theorem dX6_has_1 : decode cX6_has 1 = .ok (.ifCond .lt 27, 3) := by decide +kernel
theorem dX6_has_4 : decode cX6_has 4 = .ok (.iload_n 1, 1) := by decide +kernel
theorem dX6_has_5 : decode cX6_has 5 = .ok (.aload_n 0, 1) := by decide +kernel
theorem dX6_has_6 : decode cX6_has 6 = .ok (.getfield 35, 3) := by decide +kernel
theorem dX6_has_9 : decode cX6_has 9 = .ok (.if_icmp .ge 19, 3) := by decide +kernel
theorem dX6_has_12 : decode cX6_has 12 = .ok (.iload_n 2, 1) := by decide +kernel
theorem dX6_has_13 : decode cX6_has 13 = .ok (.ifCond .lt 15, 3) := by decide +kernel
theorem dX6_has_16 : decode cX6_has 16 = .ok (.iload_n 2, 1) := by decide +kernel
theorem dX6_has_17 : decode cX6_has 17 = .ok (.aload_n 0, 1) := by decide +kernel
theorem dX6_has_18 : decode cX6_has 18 = .ok (.getfield 39, 3) := by decide +kernel
theorem dX6_has_21 : decode cX6_has 21 = .ok (.if_icmp .ge 7, 3) := by decide +kernel
theorem dX6_has_24 : decode cX6_has 24 = .ok (.iconst 1, 1) := by decide +kernel
theorem dX6_has_25 : decode cX6_has 25 = .ok (.goto 4, 3) := by decide +kernel
theorem dX6_has_29 : decode cX6_has 29 = .ok (.ireturn, 1) := by decide +kernel
set_option maxHeartbeats 4000000 in
set_option maxRecDepth 100000 in
theorem c_has_in (l : Launch) (D : va_G) (h0 : Nat) (q1 : Nat) (q2 : Nat) (q3 : Nat) (q4 : Nat) (q5 : Nat) (q6 : Nat) (w : Nat) (h : Nat) (i : Nat) (j : Nat) (hw : w < 2 ^ 31) (hh : h < 2 ^ 31) (hi : i < w) (hj : j < h) : cI l yX6_has (.code yX6_has cX6_has 3 (some .boolean)) ({ frames := 0, cells := 0, slots := 0, locals := 0 }) D [] [(h0, .inr (5, [.int (nI w), .int (nI h), .ref q1, .ref q2, .ref q3, .ref q4, .ref q5, .ref q6]))] xT [.ref h0, .int (nI i), .int (nI j)] (S := Unit) (fun r _ => r = 1) (fun _ => []) (fun _ => [(h0, .inr (5, [.int (nI w), .int (nI h), .ref q1, .ref q2, .ref q3, .ref q4, .ref q5, .ref q6]))]) := by
  intro sz
  refine Met.ofW (cc := cX6_has) (maxL := 3) (ret := (some .boolean)) (by decide) rfl ?_
  intro p e s m args below meth c s₁ B hml hv
  obtain ⟨rfl, hsz, hP, hK, hD0, hX⟩ := hv
  have hx := B.exec
  have hb := B.bytes
  have hr := B.returns
  have hts0 := atoms_spec (ws := .code yX6_has cX6_has 3 (some .boolean) :: gw) B.pre
  have hts := fun (w : Cond) (h : w ∈ gw) => hts0 w (List.mem_cons_of_mem _ h)
  have hown : s.vm.findClass RX6 = some m.cls := findClass_of_methodNamed B.named
  have hlocks := B.notSynchronized
  have F : mFix p s m _ c cX6_has 3 RX6 := ⟨hx, hb, hml, hown, hts⟩
  subst hsz
  have hD := hD0.self (sz := s.heap.size)
  generalize hAe : va_A [(h0, .inr (5, [.int (nI w), .int (nI h), .ref q1, .ref q2, .ref q3, .ref q4, .ref q5, .ref q6]))] s.heap.size = A at hD hX ⊢
  have hA : ∀ q : Nat, s.heap.size ≤ q → A q := fun q h => by rw [← hAe]; exact Or.inr h
  have hS : va_S A s.heap s.heap [] := va_S.rf
  have hl := lv_entry ([.ref h0, .int (nI i), .int (nI j)]) (n := 3) (Nat.le_of_ble_eq_true rfl)
  rw [lg_entry_eq]
  generalize (lg_sl ([.ref h0, .int (nI i), .int (nI j)]) ++ List.replicate (3 - (lg_sl ([.ref h0, .int (nI i), .int (nI j)])).length) Slot.unset).toArray = ls at hl ⊢
  have hl : lv_has ls 3 [(0, .ref h0), (1, .int (nI i)), (2, .int (nI j))] := hl
  have hP : va_P D vwCl [(h0, .inr (5, [.int (nI w), .int (nI h), .ref q1, .ref q2, .ref q3, .ref q4, .ref q5, .ref q6]))] s.heap := hP
  refine lv_iload_n hx hb dX6_has_0 rfl (lv_at hl 1 rfl) ?_
  refine lv_if_lt (tgt := 28) hx hb dX6_has_1 (by decide) (fun c_1 => absurd c_1 (nI_pos (by omega))) (fun c_1 => ?_)
  have c_1n : 0 ≤ i := nb_lt (by omega) (by omega) c_1
  refine lv_iload_n hx hb dX6_has_4 rfl (lv_at hl 1 rfl) ?_
  refine lv_aload_n hx hb dX6_has_5 rfl (lv_at hl 0 rfl) ?_
  refine va_get (D := D) (ci := 5) (v := .int (nI w)) (C := RX6) (T := TX6) (N := 8) hx hb hts inG_X6 hown hK hP 0 rfl rfl 0 (by decide) (hts _ kw_1_142) (fun _ h9 => h9) rfl dX6_has_6 ?_
  refine lv_icmp_ge (tgt := 28) hx hb dX6_has_9 (by decide) (fun c_2 => absurd ((nI_leI (by omega) (by omega)).mp c_2) (by omega)) (fun c_2 => ?_)
  have c_2n : i < w := nb_le (by omega) (by omega) c_2
  have c_2 := Int32.not_le.mp c_2
  refine lv_iload_n hx hb dX6_has_12 rfl (lv_at hl 2 rfl) ?_
  refine lv_if_lt (tgt := 28) hx hb dX6_has_13 (by decide) (fun c_3 => absurd c_3 (nI_pos (by omega))) (fun c_3 => ?_)
  have c_3n : 0 ≤ j := nb_lt (by omega) (by omega) c_3
  refine lv_iload_n hx hb dX6_has_16 rfl (lv_at hl 2 rfl) ?_
  refine lv_aload_n hx hb dX6_has_17 rfl (lv_at hl 0 rfl) ?_
  refine va_get (D := D) (ci := 5) (v := .int (nI h)) (C := RX6) (T := TX6) (N := 8) hx hb hts inG_X6 hown hK hP 0 rfl rfl 1 (by decide) (hts _ kw_1_145) (fun _ h9 => h9) rfl dX6_has_18 ?_
  refine lv_icmp_ge (tgt := 28) hx hb dX6_has_21 (by decide) (fun c_4 => absurd ((nI_leI (by omega) (by omega)).mp c_4) (by omega)) (fun c_4 => ?_)
  have c_4n : j < h := nb_le (by omega) (by omega) c_4
  have c_4 := Int32.not_le.mp c_4
  refine lv_iconst (v := 1) hx hb dX6_has_24 (by decide) ?_
  refine lv_goto (tgt := 29) hx hb dX6_has_25 (by decide) ?_
  have hP9 := hP.sub (ws' := [(h0, .inr (5, [.int (nI w), .int (nI h), .ref q1, .ref q2, .ref q3, .ref q4, .ref q5, .ref q6]))]) [0] rfl
  have hD9 := hD.sub (ws' := [(h0, .inr (5, [.int (nI w), .int (nI h), .ref q1, .ref q2, .ref q3, .ref q4, .ref q5, .ref q6]))]) [0] (by decide) rfl
  have hK9 := hK.sub (tys' := []) [] rfl
  refine W.widen (k := 0) (n := 0) (by decide) (by decide) ?_
  exact W.zret (v := 1) hx hb hr rfl (fun t ht hW => ⟨⟨1, (), rfl, rfl, by rw [ht]; exact hP9, va_K.moved hW.alike hK9, hD9⟩, hS.F ht⟩) hS.2.2 dX6_has_29
theorem dX6_has_28 : decode cX6_has 28 = .ok (.iconst 0, 1) := by decide +kernel
set_option maxHeartbeats 4000000 in
set_option maxRecDepth 100000 in
theorem c_has_any (l : Launch) (D : va_G) (h0 : Nat) (q1 : Nat) (q2 : Nat) (q3 : Nat) (q4 : Nat) (q5 : Nat) (q6 : Nat) (w : Nat) (h : Nat) (x : Int32) (y : Int32) (hw : w < 2 ^ 31) (hh : h < 2 ^ 31) : cI l yX6_has (.code yX6_has cX6_has 3 (some .boolean)) ({ frames := 0, cells := 0, slots := 0, locals := 0 }) D [] [(h0, .inr (5, [.int (nI w), .int (nI h), .ref q1, .ref q2, .ref q3, .ref q4, .ref q5, .ref q6]))] xT [.ref h0, .int x, .int y] (S := Unit) (fun r _ => r = (if (x < 0 ∨ ¬ x < nI w ∨ y < 0 ∨ ¬ y < nI h) then 0 else 1)) (fun _ => []) (fun _ => [(h0, .inr (5, [.int (nI w), .int (nI h), .ref q1, .ref q2, .ref q3, .ref q4, .ref q5, .ref q6]))]) := by
  intro sz
  refine Met.ofW (cc := cX6_has) (maxL := 3) (ret := (some .boolean)) (by decide) rfl ?_
  intro p e s m args below meth c s₁ B hml hv
  obtain ⟨rfl, hsz, hP, hK, hD0, hX⟩ := hv
  have hx := B.exec
  have hb := B.bytes
  have hr := B.returns
  have hts0 := atoms_spec (ws := .code yX6_has cX6_has 3 (some .boolean) :: gw) B.pre
  have hts := fun (w : Cond) (h : w ∈ gw) => hts0 w (List.mem_cons_of_mem _ h)
  have hown : s.vm.findClass RX6 = some m.cls := findClass_of_methodNamed B.named
  have hlocks := B.notSynchronized
  have F : mFix p s m _ c cX6_has 3 RX6 := ⟨hx, hb, hml, hown, hts⟩
  subst hsz
  have hD := hD0.self (sz := s.heap.size)
  generalize hAe : va_A [(h0, .inr (5, [.int (nI w), .int (nI h), .ref q1, .ref q2, .ref q3, .ref q4, .ref q5, .ref q6]))] s.heap.size = A at hD hX ⊢
  have hA : ∀ q : Nat, s.heap.size ≤ q → A q := fun q h => by rw [← hAe]; exact Or.inr h
  have hS : va_S A s.heap s.heap [] := va_S.rf
  have hl := lv_entry ([.ref h0, .int x, .int y]) (n := 3) (Nat.le_of_ble_eq_true rfl)
  rw [lg_entry_eq]
  generalize (lg_sl ([.ref h0, .int x, .int y]) ++ List.replicate (3 - (lg_sl ([.ref h0, .int x, .int y])).length) Slot.unset).toArray = ls at hl ⊢
  have hl : lv_has ls 3 [(0, .ref h0), (1, .int x), (2, .int y)] := hl
  have hP : va_P D vwCl [(h0, .inr (5, [.int (nI w), .int (nI h), .ref q1, .ref q2, .ref q3, .ref q4, .ref q5, .ref q6]))] s.heap := hP
  refine lv_iload_n hx hb dX6_has_0 rfl (lv_at hl 1 rfl) ?_
  refine lv_if_lt (tgt := 28) hx hb dX6_has_1 (by decide) (fun c_1 => ?_) (fun c_1 => ?_)
  · skip
    refine lv_iconst (v := 0) hx hb dX6_has_28 (by decide) ?_
    have hP9 := hP.sub (ws' := [(h0, .inr (5, [.int (nI w), .int (nI h), .ref q1, .ref q2, .ref q3, .ref q4, .ref q5, .ref q6]))]) [0] rfl
    have hD9 := hD.sub (ws' := [(h0, .inr (5, [.int (nI w), .int (nI h), .ref q1, .ref q2, .ref q3, .ref q4, .ref q5, .ref q6]))]) [0] (by decide) rfl
    have hK9 := hK.sub (tys' := []) [] rfl
    refine W.widen (k := 0) (n := 0) (by decide) (by decide) ?_
    exact W.zret (v := 0) hx hb hr rfl (fun t ht hW => ⟨⟨0, (), rfl, by simp only [c_1, or_false, false_or, or_true, true_or, not_true_eq_false, not_false_eq_true, ↓reduceIte], by rw [ht]; exact hP9, va_K.moved hW.alike hK9, hD9⟩, hS.F ht⟩) hS.2.2 dX6_has_29
  · skip
    refine lv_iload_n hx hb dX6_has_4 rfl (lv_at hl 1 rfl) ?_
    refine lv_aload_n hx hb dX6_has_5 rfl (lv_at hl 0 rfl) ?_
    refine va_get (D := D) (ci := 5) (v := .int (nI w)) (C := RX6) (T := TX6) (N := 8) hx hb hts inG_X6 hown hK hP 0 rfl rfl 0 (by decide) (hts _ kw_1_142) (fun _ h9 => h9) rfl dX6_has_6 ?_
    refine lv_icmp_ge (tgt := 28) hx hb dX6_has_9 (by decide) (fun c_2 => ?_) (fun c_2 => ?_)
    · skip
      have c_2 := Int32.not_lt.mpr c_2
      refine lv_iconst (v := 0) hx hb dX6_has_28 (by decide) ?_
      have hP9 := hP.sub (ws' := [(h0, .inr (5, [.int (nI w), .int (nI h), .ref q1, .ref q2, .ref q3, .ref q4, .ref q5, .ref q6]))]) [0] rfl
      have hD9 := hD.sub (ws' := [(h0, .inr (5, [.int (nI w), .int (nI h), .ref q1, .ref q2, .ref q3, .ref q4, .ref q5, .ref q6]))]) [0] (by decide) rfl
      have hK9 := hK.sub (tys' := []) [] rfl
      refine W.widen (k := 0) (n := 0) (by decide) (by decide) ?_
      exact W.zret (v := 0) hx hb hr rfl (fun t ht hW => ⟨⟨0, (), rfl, by simp only [c_1, c_2, or_false, false_or, or_true, true_or, not_true_eq_false, not_false_eq_true, ↓reduceIte], by rw [ht]; exact hP9, va_K.moved hW.alike hK9, hD9⟩, hS.F ht⟩) hS.2.2 dX6_has_29
    · skip
      have c_2 := Int32.not_le.mp c_2
      refine lv_iload_n hx hb dX6_has_12 rfl (lv_at hl 2 rfl) ?_
      refine lv_if_lt (tgt := 28) hx hb dX6_has_13 (by decide) (fun c_3 => ?_) (fun c_3 => ?_)
      · skip
        refine lv_iconst (v := 0) hx hb dX6_has_28 (by decide) ?_
        have hP9 := hP.sub (ws' := [(h0, .inr (5, [.int (nI w), .int (nI h), .ref q1, .ref q2, .ref q3, .ref q4, .ref q5, .ref q6]))]) [0] rfl
        have hD9 := hD.sub (ws' := [(h0, .inr (5, [.int (nI w), .int (nI h), .ref q1, .ref q2, .ref q3, .ref q4, .ref q5, .ref q6]))]) [0] (by decide) rfl
        have hK9 := hK.sub (tys' := []) [] rfl
        refine W.widen (k := 0) (n := 0) (by decide) (by decide) ?_
        exact W.zret (v := 0) hx hb hr rfl (fun t ht hW => ⟨⟨0, (), rfl, by simp only [c_1, c_2, c_3, or_false, false_or, or_true, true_or, not_true_eq_false, not_false_eq_true, ↓reduceIte], by rw [ht]; exact hP9, va_K.moved hW.alike hK9, hD9⟩, hS.F ht⟩) hS.2.2 dX6_has_29
      · skip
        refine lv_iload_n hx hb dX6_has_16 rfl (lv_at hl 2 rfl) ?_
        refine lv_aload_n hx hb dX6_has_17 rfl (lv_at hl 0 rfl) ?_
        refine va_get (D := D) (ci := 5) (v := .int (nI h)) (C := RX6) (T := TX6) (N := 8) hx hb hts inG_X6 hown hK hP 0 rfl rfl 1 (by decide) (hts _ kw_1_145) (fun _ h9 => h9) rfl dX6_has_18 ?_
        refine lv_icmp_ge (tgt := 28) hx hb dX6_has_21 (by decide) (fun c_4 => ?_) (fun c_4 => ?_)
        · skip
          have c_4 := Int32.not_lt.mpr c_4
          refine lv_iconst (v := 0) hx hb dX6_has_28 (by decide) ?_
          have hP9 := hP.sub (ws' := [(h0, .inr (5, [.int (nI w), .int (nI h), .ref q1, .ref q2, .ref q3, .ref q4, .ref q5, .ref q6]))]) [0] rfl
          have hD9 := hD.sub (ws' := [(h0, .inr (5, [.int (nI w), .int (nI h), .ref q1, .ref q2, .ref q3, .ref q4, .ref q5, .ref q6]))]) [0] (by decide) rfl
          have hK9 := hK.sub (tys' := []) [] rfl
          refine W.widen (k := 0) (n := 0) (by decide) (by decide) ?_
          exact W.zret (v := 0) hx hb hr rfl (fun t ht hW => ⟨⟨0, (), rfl, by simp only [c_1, c_2, c_3, c_4, or_false, false_or, or_true, true_or, not_true_eq_false, not_false_eq_true, ↓reduceIte], by rw [ht]; exact hP9, va_K.moved hW.alike hK9, hD9⟩, hS.F ht⟩) hS.2.2 dX6_has_29
        · skip
          have c_4 := Int32.not_le.mp c_4
          refine lv_iconst (v := 1) hx hb dX6_has_24 (by decide) ?_
          refine lv_goto (tgt := 29) hx hb dX6_has_25 (by decide) ?_
          have hP9 := hP.sub (ws' := [(h0, .inr (5, [.int (nI w), .int (nI h), .ref q1, .ref q2, .ref q3, .ref q4, .ref q5, .ref q6]))]) [0] rfl
          have hD9 := hD.sub (ws' := [(h0, .inr (5, [.int (nI w), .int (nI h), .ref q1, .ref q2, .ref q3, .ref q4, .ref q5, .ref q6]))]) [0] (by decide) rfl
          have hK9 := hK.sub (tys' := []) [] rfl
          refine W.widen (k := 0) (n := 0) (by decide) (by decide) ?_
          exact W.zret (v := 1) hx hb hr rfl (fun t ht hW => ⟨⟨1, (), rfl, by simp only [c_1, c_2, c_3, c_4, or_false, false_or, or_true, true_or, not_true_eq_false, not_false_eq_true, ↓reduceIte], by rw [ht]; exact hP9, va_K.moved hW.alike hK9, hD9⟩, hS.F ht⟩) hS.2.2 dX6_has_29
theorem dX6_spotOf_0 : decode cX6_spotOf 0 = .ok (.iload_n 2, 1) := by decide +kernel
theorem dX6_spotOf_1 : decode cX6_spotOf 1 = .ok (.bipush 10, 2) := by decide +kernel
theorem dX6_spotOf_3 : decode cX6_spotOf 3 = .ok (.imul, 1) := by decide +kernel
theorem dX6_spotOf_4 : decode cX6_spotOf 4 = .ok (.iload_n 1, 1) := by decide +kernel
theorem dX6_spotOf_5 : decode cX6_spotOf 5 = .ok (.iadd, 1) := by decide +kernel
theorem dX6_spotOf_6 : decode cX6_spotOf 6 = .ok (.ireturn, 1) := by decide +kernel
set_option maxHeartbeats 4000000 in
set_option maxRecDepth 100000 in
theorem c_spotOf (l : Launch) (D : va_G) (h0 : Nat) (q1 : Nat) (q2 : Nat) (q3 : Nat) (q4 : Nat) (q5 : Nat) (q6 : Nat) (w : Nat) (h : Nat) (i : Nat) (j : Nat) : cI l yX6_spotOf (.code yX6_spotOf cX6_spotOf 3 (some .int)) ({ frames := 0, cells := 0, slots := 0, locals := 0 }) D [] [(h0, .inr (5, [.int (nI w), .int (nI h), .ref q1, .ref q2, .ref q3, .ref q4, .ref q5, .ref q6]))] xT [.ref h0, .int (nI i), .int (nI j)] (S := Unit) (fun r _ => r = nI (j * 10 + i)) (fun _ => []) (fun _ => [(h0, .inr (5, [.int (nI w), .int (nI h), .ref q1, .ref q2, .ref q3, .ref q4, .ref q5, .ref q6]))]) := by
  intro sz
  refine Met.ofW (cc := cX6_spotOf) (maxL := 3) (ret := (some .int)) (by decide) rfl ?_
  intro p e s m args below meth c s₁ B hml hv
  obtain ⟨rfl, hsz, hP, hK, hD0, hX⟩ := hv
  have hx := B.exec
  have hb := B.bytes
  have hr := B.returns
  have hts0 := atoms_spec (ws := .code yX6_spotOf cX6_spotOf 3 (some .int) :: gw) B.pre
  have hts := fun (w : Cond) (h : w ∈ gw) => hts0 w (List.mem_cons_of_mem _ h)
  have hown : s.vm.findClass RX6 = some m.cls := findClass_of_methodNamed B.named
  have hlocks := B.notSynchronized
  have F : mFix p s m _ c cX6_spotOf 3 RX6 := ⟨hx, hb, hml, hown, hts⟩
  subst hsz
  have hD := hD0.self (sz := s.heap.size)
  generalize hAe : va_A [(h0, .inr (5, [.int (nI w), .int (nI h), .ref q1, .ref q2, .ref q3, .ref q4, .ref q5, .ref q6]))] s.heap.size = A at hD hX ⊢
  have hA : ∀ q : Nat, s.heap.size ≤ q → A q := fun q h => by rw [← hAe]; exact Or.inr h
  have hS : va_S A s.heap s.heap [] := va_S.rf
  have hl := lv_entry ([.ref h0, .int (nI i), .int (nI j)]) (n := 3) (Nat.le_of_ble_eq_true rfl)
  rw [lg_entry_eq]
  generalize (lg_sl ([.ref h0, .int (nI i), .int (nI j)]) ++ List.replicate (3 - (lg_sl ([.ref h0, .int (nI i), .int (nI j)])).length) Slot.unset).toArray = ls at hl ⊢
  have hl : lv_has ls 3 [(0, .ref h0), (1, .int (nI i)), (2, .int (nI j))] := hl
  have hP : va_P D vwCl [(h0, .inr (5, [.int (nI w), .int (nI h), .ref q1, .ref q2, .ref q3, .ref q4, .ref q5, .ref q6]))] s.heap := hP
  refine lv_iload_n hx hb dX6_spotOf_0 rfl (lv_at hl 2 rfl) ?_
  refine lv_bipush (v := 10) hx hb dX6_spotOf_1 (by decide) ?_
  refine lv_imul hx hb dX6_spotOf_3 ?_
  refine lv_topi (fun z_1 ez_1 => ?_)
  obtain rfl : z_1 = nI (j * 10) := ez_1.trans (pk_mul j 10)
  refine lv_iload_n hx hb dX6_spotOf_4 rfl (lv_at hl 1 rfl) ?_
  refine lv_iadd hx hb dX6_spotOf_5 ?_
  refine lv_topi (fun z_2 ez_2 => ?_)
  obtain rfl : z_2 = nI (j * 10 + i) := ez_2.trans (nI_add (j * 10) i)
  have hP9 := hP.sub (ws' := [(h0, .inr (5, [.int (nI w), .int (nI h), .ref q1, .ref q2, .ref q3, .ref q4, .ref q5, .ref q6]))]) [0] rfl
  have hD9 := hD.sub (ws' := [(h0, .inr (5, [.int (nI w), .int (nI h), .ref q1, .ref q2, .ref q3, .ref q4, .ref q5, .ref q6]))]) [0] (by decide) rfl
  have hK9 := hK.sub (tys' := []) [] rfl
  refine W.widen (k := 0) (n := 0) (by decide) (by decide) ?_
  exact W.iret (v := nI (j * 10 + i)) hx hb hr (fun t ht hW => ⟨⟨(nI (j * 10 + i)), (), rfl, rfl, by rw [ht]; exact hP9, va_K.moved hW.alike hK9, hD9⟩, hS.F ht⟩) hS.2.2 dX6_spotOf_6
theorem dX6_bearing_0 : decode cX6_bearing 0 = .ok (.aload_n 0, 1) := by decide +kernel
theorem dX6_bearing_1 : decode cX6_bearing 1 = .ok (.getfield 9, 3) := by decide +kernel
theorem dX6_bearing_4 : decode cX6_bearing 4 = .ok (.iload_n 1, 1) := by decide +kernel
theorem dX6_bearing_5 : decode cX6_bearing 5 = .ok (.iaload, 1) := by decide +kernel
theorem dX6_bearing_6 : decode cX6_bearing 6 = .ok (.aload_n 0, 1) := by decide +kernel
theorem dX6_bearing_7 : decode cX6_bearing 7 = .ok (.getfield 9, 3) := by decide +kernel
theorem dX6_bearing_10 : decode cX6_bearing 10 = .ok (.iload_n 1, 1) := by decide +kernel
theorem dX6_bearing_11 : decode cX6_bearing 11 = .ok (.iaload, 1) := by decide +kernel
theorem dX6_bearing_12 : decode cX6_bearing 12 = .ok (.imul, 1) := by decide +kernel
theorem dX6_bearing_13 : decode cX6_bearing 13 = .ok (.iload_n 2, 1) := by decide +kernel
theorem dX6_bearing_14 : decode cX6_bearing 14 = .ok (.imul, 1) := by decide +kernel
theorem dX6_bearing_15 : decode cX6_bearing 15 = .ok (.bipush 100, 2) := by decide +kernel
theorem dX6_bearing_17 : decode cX6_bearing 17 = .ok (.idiv, 1) := by decide +kernel
theorem dX6_bearing_18 : decode cX6_bearing 18 = .ok (.ireturn, 1) := by decide +kernel
set_option maxHeartbeats 4000000 in
set_option maxRecDepth 100000 in
theorem c_bearing (l : Launch) (D : va_G) (h0 : Nat) (q1 : Nat) (q2 : Nat) (q3 : Nat) (q4 : Nat) (q5 : Nat) (q6 : Nat) (cy1 : ClassId) (f1 : Nat → Int32) (w : Nat) (h : Nat) (j : Nat) (b : Int32) (hj : j < 100) : cI l yX6_bearing (.code yX6_bearing cX6_bearing 3 (some .int)) ({ frames := 0, cells := 0, slots := 0, locals := 0 }) D [(cy1, .int)] [(h0, .inr (5, [.int (nI w), .int (nI h), .ref q1, .ref q2, .ref q3, .ref q4, .ref q5, .ref q6])), (q1, .inl (cy1, 100, .inl f1))] xT [.ref h0, .int (nI j), .int b] (S := Unit) (fun r _ => r = f1 j * f1 j * b / 100) (fun _ => []) (fun _ => [(h0, .inr (5, [.int (nI w), .int (nI h), .ref q1, .ref q2, .ref q3, .ref q4, .ref q5, .ref q6])), (q1, .inl (cy1, 100, .inl f1))]) := by
  intro sz
  refine Met.ofW (cc := cX6_bearing) (maxL := 3) (ret := (some .int)) (by decide) rfl ?_
  intro p e s m args below meth c s₁ B hml hv
  obtain ⟨rfl, hsz, hP, hK, hD0, hX⟩ := hv
  have hx := B.exec
  have hb := B.bytes
  have hr := B.returns
  have hts0 := atoms_spec (ws := .code yX6_bearing cX6_bearing 3 (some .int) :: gw) B.pre
  have hts := fun (w : Cond) (h : w ∈ gw) => hts0 w (List.mem_cons_of_mem _ h)
  have hown : s.vm.findClass RX6 = some m.cls := findClass_of_methodNamed B.named
  have hlocks := B.notSynchronized
  have F : mFix p s m _ c cX6_bearing 3 RX6 := ⟨hx, hb, hml, hown, hts⟩
  subst hsz
  have hD := hD0.self (sz := s.heap.size)
  generalize hAe : va_A [(h0, .inr (5, [.int (nI w), .int (nI h), .ref q1, .ref q2, .ref q3, .ref q4, .ref q5, .ref q6])), (q1, .inl (cy1, 100, .inl f1))] s.heap.size = A at hD hX ⊢
  have hA : ∀ q : Nat, s.heap.size ≤ q → A q := fun q h => by rw [← hAe]; exact Or.inr h
  have hS : va_S A s.heap s.heap [] := va_S.rf
  have hl := lv_entry ([.ref h0, .int (nI j), .int b]) (n := 3) (Nat.le_of_ble_eq_true rfl)
  rw [lg_entry_eq]
  generalize (lg_sl ([.ref h0, .int (nI j), .int b]) ++ List.replicate (3 - (lg_sl ([.ref h0, .int (nI j), .int b])).length) Slot.unset).toArray = ls at hl ⊢
  have hl : lv_has ls 3 [(0, .ref h0), (1, .int (nI j)), (2, .int b)] := hl
  have hP : va_P D vwCl [(h0, .inr (5, [.int (nI w), .int (nI h), .ref q1, .ref q2, .ref q3, .ref q4, .ref q5, .ref q6])), (q1, .inl (cy1, 100, .inl f1))] s.heap := hP
  refine lv_aload_n hx hb dX6_bearing_0 rfl (lv_at hl 0 rfl) ?_
  refine va_get (D := D) (ci := 5) (v := .ref q1) (C := RX6) (T := TX6) (N := 8) hx hb hts inG_X6 hown hK hP 0 rfl rfl 2 (by decide) (hts _ kw_1_148) (fun _ h9 => h9) rfl dX6_bearing_1 ?_
  refine lv_iload_n hx hb dX6_bearing_4 rfl (lv_at hl 1 rfl) ?_
  refine m_iald hx hb hK hP 1 0 rfl rfl j rfl (by omega) (by decide) dX6_bearing_5 ?_
  refine lv_topi (fun v_1 ev_1 => ?_)
  refine lv_aload_n hx hb dX6_bearing_6 rfl (lv_at hl 0 rfl) ?_
  refine va_get (D := D) (ci := 5) (v := .ref q1) (C := RX6) (T := TX6) (N := 8) hx hb hts inG_X6 hown hK hP 0 rfl rfl 2 (by decide) (hts _ kw_1_148) (fun _ h9 => h9) rfl dX6_bearing_7 ?_
  refine lv_iload_n hx hb dX6_bearing_10 rfl (lv_at hl 1 rfl) ?_
  refine m_iald hx hb hK hP 1 0 rfl rfl j rfl (by omega) (by decide) dX6_bearing_11 ?_
  refine lv_topi (fun v_2 ev_2 => ?_)
  refine lv_imul hx hb dX6_bearing_12 ?_
  refine lv_topi (fun z_3 ez_3 => ?_)
  refine lv_iload_n hx hb dX6_bearing_13 rfl (lv_at hl 2 rfl) ?_
  refine lv_imul hx hb dX6_bearing_14 ?_
  refine lv_topi (fun z_4 ez_4 => ?_)
  refine lv_bipush (v := 100) hx hb dX6_bearing_15 (by decide) ?_
  refine lv_idiv hx hb dX6_bearing_17 (by decide) ?_
  refine lv_topi (fun z_5 ez_5 => ?_)
  have hP9 := hP.sub (ws' := [(h0, .inr (5, [.int (nI w), .int (nI h), .ref q1, .ref q2, .ref q3, .ref q4, .ref q5, .ref q6])), (q1, .inl (cy1, 100, .inl f1))]) [0, 1] rfl
  have hD9 := hD.sub (ws' := [(h0, .inr (5, [.int (nI w), .int (nI h), .ref q1, .ref q2, .ref q3, .ref q4, .ref q5, .ref q6])), (q1, .inl (cy1, 100, .inl f1))]) [0, 1] (by decide) rfl
  have hK9 := hK.sub (tys' := []) [] rfl
  refine W.widen (k := 0) (n := 0) (by decide) (by decide) ?_
  exact W.iret (v := z_5) hx hb hr (fun t ht hW => ⟨⟨z_5, (), rfl, by simp only [ez_3, ez_4, ez_5, ev_1, ev_2], by rw [ht]; exact hP9, va_K.moved hW.alike hK9, hD9⟩, hS.F ht⟩) hS.2.2 dX6_bearing_18
theorem dX6_makeThick_0 : decode cX6_makeThick 0 = .ok (.aload_n 0, 1) := by decide +kernel
theorem dX6_makeThick_1 : decode cX6_makeThick 1 = .ok (.iload_n 1, 1) := by decide +kernel
theorem dX6_makeThick_2 : decode cX6_makeThick 2 = .ok (.iload_n 2, 1) := by decide +kernel
theorem kw_3_14 : Cond.methodLink RX6 42 yX6_has ∈ gw := gw_t3 (List.mem_of_getElem? (i := 14) (by decide +kernel)) (by decide +kernel)
theorem kw_3_7 : Cond.instanceMethod yX6_has ∈ gw := gw_t3 (List.mem_of_getElem? (i := 7) (by decide +kernel)) (by decide +kernel)
theorem kw_3_8 : Cond.selects RX6 yX6_has yX6_has ∈ gw := gw_t3 (List.mem_of_getElem? (i := 8) (by decide +kernel)) (by decide +kernel)
theorem kw_3_9 : Cond.code yX6_has cX6_has 3 (some .boolean) ∈ gw := gw_t3 (List.mem_of_getElem? (i := 9) (by decide +kernel)) (by decide +kernel)
theorem gk_X6_42 : GoodIn gw (wsV RX6 42 RX6 yX6_has (.code yX6_has cX6_has 3 (some .boolean) :: gw)) ∧ (yX6_has.cls = RX6 ∧ yX6_has.cls ≠ "java/lang/invoke/MethodHandle" ∧ yX6_has.cls ≠ "java/lang/invoke/VarHandle" ∧ (parseMethodDescriptor yX6_has.desc).map (fun d => d.parameters.length) = some 2) := ⟨gi_V kw_3_14 kw_3_7 kw_3_8 kw_1_7 kw_3_9, by decide +kernel⟩
theorem dX6_makeThick_3 : decode cX6_makeThick 3 = .ok (.invokevirtual 42, 3) := by decide +kernel
theorem dX6_makeThick_6 : decode cX6_makeThick 6 = .ok (.ifCond .eq 28, 3) := by decide +kernel
theorem dX6_makeThick_9 : decode cX6_makeThick 9 = .ok (.aload_n 0, 1) := by decide +kernel
theorem dX6_makeThick_10 : decode cX6_makeThick 10 = .ok (.getfield 9, 3) := by decide +kernel
theorem dX6_makeThick_13 : decode cX6_makeThick 13 = .ok (.aload_n 0, 1) := by decide +kernel
theorem dX6_makeThick_14 : decode cX6_makeThick 14 = .ok (.iload_n 1, 1) := by decide +kernel
theorem dX6_makeThick_15 : decode cX6_makeThick 15 = .ok (.iload_n 2, 1) := by decide +kernel
theorem kw_3_15 : Cond.methodLink RX6 46 yX6_spotOf ∈ gw := gw_t3 (List.mem_of_getElem? (i := 15) (by decide +kernel)) (by decide +kernel)
theorem kw_3_16 : Cond.instanceMethod yX6_spotOf ∈ gw := gw_t3 (List.mem_of_getElem? (i := 16) (by decide +kernel)) (by decide +kernel)
theorem kw_3_17 : Cond.selects RX6 yX6_spotOf yX6_spotOf ∈ gw := gw_t3 (List.mem_of_getElem? (i := 17) (by decide +kernel)) (by decide +kernel)
theorem kw_3_18 : Cond.code yX6_spotOf cX6_spotOf 3 (some .int) ∈ gw := gw_t3 (List.mem_of_getElem? (i := 18) (by decide +kernel)) (by decide +kernel)
theorem gk_X6_46 : GoodIn gw (wsV RX6 46 RX6 yX6_spotOf (.code yX6_spotOf cX6_spotOf 3 (some .int) :: gw)) ∧ (yX6_spotOf.cls = RX6 ∧ yX6_spotOf.cls ≠ "java/lang/invoke/MethodHandle" ∧ yX6_spotOf.cls ≠ "java/lang/invoke/VarHandle" ∧ (parseMethodDescriptor yX6_spotOf.desc).map (fun d => d.parameters.length) = some 2) := ⟨gi_V kw_3_15 kw_3_16 kw_3_17 kw_1_7 kw_3_18, by decide +kernel⟩
theorem dX6_makeThick_16 : decode cX6_makeThick 16 = .ok (.invokevirtual 46, 3) := by decide +kernel
theorem dX6_makeThick_19 : decode cX6_makeThick 19 = .ok (.iload_n 3, 1) := by decide +kernel
theorem dX6_makeThick_20 : decode cX6_makeThick 20 = .ok (.iastore, 1) := by decide +kernel
theorem dX6_makeThick_21 : decode cX6_makeThick 21 = .ok (.aload_n 0, 1) := by decide +kernel
theorem dX6_makeThick_22 : decode cX6_makeThick 22 = .ok (.getfield 15, 3) := by decide +kernel
theorem dX6_makeThick_25 : decode cX6_makeThick 25 = .ok (.aload_n 0, 1) := by decide +kernel
theorem dX6_makeThick_26 : decode cX6_makeThick 26 = .ok (.iload_n 1, 1) := by decide +kernel
theorem dX6_makeThick_27 : decode cX6_makeThick 27 = .ok (.iload_n 2, 1) := by decide +kernel
theorem dX6_makeThick_28 : decode cX6_makeThick 28 = .ok (.invokevirtual 46, 3) := by decide +kernel
theorem dX6_makeThick_31 : decode cX6_makeThick 31 = .ok (.iload 4, 2) := by decide +kernel
theorem dX6_makeThick_33 : decode cX6_makeThick 33 = .ok (.iastore, 1) := by decide +kernel
theorem dX6_makeThick_34 : decode cX6_makeThick 34 = .ok (.return_, 1) := by decide +kernel
set_option maxHeartbeats 4000000 in
set_option maxRecDepth 100000 in
theorem c_makeThick (l : Launch) (D : va_G) (h0 : Nat) (q1 : Nat) (q2 : Nat) (q3 : Nat) (q4 : Nat) (q5 : Nat) (q6 : Nat) (cy1 : ClassId) (cy2 : ClassId) (cy3 : ClassId) (cy4 : ClassId) (cy5 : ClassId) (cy6 : ClassId) (f1 : Nat → Int32) (f2 : Nat → Int32) (f3 : Nat → Int32) (f4 : Nat → Int32) (f5 : Nat → Int32) (f6 : Nat → Int32) (w : Nat) (h : Nat) (i : Nat) (j : Nat) (lo : Int32) (hi : Int32) (hw : w < 2 ^ 31) (hh : h < 2 ^ 31) (h1 : i < w) (h2 : j < h) (h3 : w ≤ 10) (h4 : h ≤ 10) : cV l yX6_makeThick (.code yX6_makeThick cX6_makeThick 5 none) ({ frames := 1, cells := 0, slots := 0, locals := 22 }) D [(cy1, .int), (cy2, .int), (cy3, .int), (cy4, .int), (cy5, .boolean), (cy6, .boolean)] [(h0, .inr (5, [.int (nI w), .int (nI h), .ref q1, .ref q2, .ref q3, .ref q4, .ref q5, .ref q6])), (q1, .inl (cy1, 100, .inl f1)), (q2, .inl (cy2, 100, .inl f2)), (q3, .inl (cy3, 100, .inl f3)), (q4, .inl (cy4, 100, .inl f4)), (q5, .inl (cy5, 100, .inl f5)), (q6, .inl (cy6, 100, .inl f6))] xT [.ref h0, .int (nI i), .int (nI j), .int lo, .int hi] (S := (Nat → Int32) × (Nat → Int32)) (fun u => match u with | (g1, g2) => True) (fun u => match u with | (g1, g2) => []) (fun u => match u with | (g1, g2) => [(h0, .inr (5, [.int (nI w), .int (nI h), .ref q1, .ref q2, .ref q3, .ref q4, .ref q5, .ref q6])), (q1, .inl (cy1, 100, .inl g1)), (q2, .inl (cy2, 100, .inl g2)), (q3, .inl (cy3, 100, .inl f3)), (q4, .inl (cy4, 100, .inl f4)), (q5, .inl (cy5, 100, .inl f5)), (q6, .inl (cy6, 100, .inl f6))]) := by
  intro sz
  refine Met.ofW (cc := cX6_makeThick) (maxL := 5) (ret := none) (by decide) rfl ?_
  intro p e s m args below meth c s₁ B hml hv
  obtain ⟨rfl, hsz, hP, hK, hD0, hX⟩ := hv
  have hx := B.exec
  have hb := B.bytes
  have hr := B.returns
  have hts0 := atoms_spec (ws := .code yX6_makeThick cX6_makeThick 5 none :: gw) B.pre
  have hts := fun (w : Cond) (h : w ∈ gw) => hts0 w (List.mem_cons_of_mem _ h)
  have hown : s.vm.findClass RX6 = some m.cls := findClass_of_methodNamed B.named
  have hlocks := B.notSynchronized
  have F : mFix p s m _ c cX6_makeThick 5 RX6 := ⟨hx, hb, hml, hown, hts⟩
  subst hsz
  have hD := hD0.self (sz := s.heap.size)
  generalize hAe : va_A [(h0, .inr (5, [.int (nI w), .int (nI h), .ref q1, .ref q2, .ref q3, .ref q4, .ref q5, .ref q6])), (q1, .inl (cy1, 100, .inl f1)), (q2, .inl (cy2, 100, .inl f2)), (q3, .inl (cy3, 100, .inl f3)), (q4, .inl (cy4, 100, .inl f4)), (q5, .inl (cy5, 100, .inl f5)), (q6, .inl (cy6, 100, .inl f6))] s.heap.size = A at hD hX ⊢
  have hA : ∀ q : Nat, s.heap.size ≤ q → A q := fun q h => by rw [← hAe]; exact Or.inr h
  have hS : va_S A s.heap s.heap [] := va_S.rf
  have hl := lv_entry ([.ref h0, .int (nI i), .int (nI j), .int lo, .int hi]) (n := 5) (Nat.le_of_ble_eq_true rfl)
  rw [lg_entry_eq]
  generalize (lg_sl ([.ref h0, .int (nI i), .int (nI j), .int lo, .int hi]) ++ List.replicate (5 - (lg_sl ([.ref h0, .int (nI i), .int (nI j), .int lo, .int hi])).length) Slot.unset).toArray = ls at hl ⊢
  have hl : lv_has ls 5 [(0, .ref h0), (1, .int (nI i)), (2, .int (nI j)), (3, .int lo), (4, .int hi)] := hl
  have hP : va_P D vwCl [(h0, .inr (5, [.int (nI w), .int (nI h), .ref q1, .ref q2, .ref q3, .ref q4, .ref q5, .ref q6])), (q1, .inl (cy1, 100, .inl f1)), (q2, .inl (cy2, 100, .inl f2)), (q3, .inl (cy3, 100, .inl f3)), (q4, .inl (cy4, 100, .inl f4)), (q5, .inl (cy5, 100, .inl f5)), (q6, .inl (cy6, 100, .inl f6))] s.heap := hP
  refine lv_aload_n hx hb dX6_makeThick_0 rfl (lv_at hl 0 rfl) ?_
  refine lv_iload_n hx hb dX6_makeThick_1 rfl (lv_at hl 1 rfl) ?_
  refine lv_iload_n hx hb dX6_makeThick_2 rfl (lv_at hl 2 rfl) ?_
  refine mc_Vi (rest := []) (wr := [(q1, .inl (cy1, 100, .inl f1)), (q2, .inl (cy2, 100, .inl f2)), (q3, .inl (cy3, 100, .inl f3)), (q4, .inl (cy4, 100, .inl f4)), (q5, .inl (cy5, 100, .inl f5)), (q6, .inl (cy6, 100, .inl f6))]) F hK hP hD hS hA (c_has_in l D h0 q1 q2 q3 q4 q5 q6 w h i j (by omega) (by omega) (by omega) (by omega)) ⟨gk_X6_42.1, gk_X6_42.2, Nat.le_of_ble_eq_true rfl, Nat.le_of_ble_eq_true rfl⟩ [0] [1, 2, 3, 4, 5, 6] [] ⟨rfl, rfl, rfl, rfl, by decide⟩ rfl xT_move (fun _ _ _ => trivial) 0 rfl rfl rfl hl.1 rfl (Nat.le_of_ble_eq_true rfl) dX6_makeThick_3 ⟨Nat.le_of_ble_eq_true rfl, Nat.le_of_ble_eq_true rfl⟩ (fun r_1 _ H locs hw hK1 hP hD hS => ?_)
  have hP : va_P D vwCl [(q1, .inl (cy1, 100, .inl f1)), (q2, .inl (cy2, 100, .inl f2)), (q3, .inl (cy3, 100, .inl f3)), (q4, .inl (cy4, 100, .inl f4)), (q5, .inl (cy5, 100, .inl f5)), (q6, .inl (cy6, 100, .inl f6)), (h0, .inr (5, [.int (nI w), .int (nI h), .ref q1, .ref q2, .ref q3, .ref q4, .ref q5, .ref q6]))] H := hP
  have hD : va_D A [(q1, .inl (cy1, 100, .inl f1)), (q2, .inl (cy2, 100, .inl f2)), (q3, .inl (cy3, 100, .inl f3)), (q4, .inl (cy4, 100, .inl f4)), (q5, .inl (cy5, 100, .inl f5)), (q6, .inl (cy6, 100, .inl f6)), (h0, .inr (5, [.int (nI w), .int (nI h), .ref q1, .ref q2, .ref q3, .ref q4, .ref q5, .ref q6]))] := hD
  have hw_2 : r_1 = 1 := hw
  obtain rfl : r_1 = 1 := hw_2
  refine lv_if_eq (tgt := 34) hx hb dX6_makeThick_6 (by decide) (fun c_3 => absurd c_3 (by decide)) (fun c_3 => ?_)
  refine lv_aload_n hx hb dX6_makeThick_9 rfl (lv_at hl 0 rfl) ?_
  refine va_get (D := D) (ci := 5) (v := .ref q1) (C := RX6) (T := TX6) (N := 8) hx hb hts inG_X6 hown hK hP 6 rfl rfl 2 (by decide) (hts _ kw_1_148) (fun _ h9 => h9) rfl dX6_makeThick_10 ?_
  refine lv_aload_n hx hb dX6_makeThick_13 rfl (lv_at hl 0 rfl) ?_
  refine lv_iload_n hx hb dX6_makeThick_14 rfl (lv_at hl 1 rfl) ?_
  refine lv_iload_n hx hb dX6_makeThick_15 rfl (lv_at hl 2 rfl) ?_
  refine mc_Vi (rest := [.ref q1]) (wr := [(q1, .inl (cy1, 100, .inl f1)), (q2, .inl (cy2, 100, .inl f2)), (q3, .inl (cy3, 100, .inl f3)), (q4, .inl (cy4, 100, .inl f4)), (q5, .inl (cy5, 100, .inl f5)), (q6, .inl (cy6, 100, .inl f6))]) F hK hP hD hS hA (c_spotOf l D h0 q1 q2 q3 q4 q5 q6 w h i j ) ⟨gk_X6_46.1, gk_X6_46.2, Nat.le_of_ble_eq_true rfl, Nat.le_of_ble_eq_true rfl⟩ [6] [0, 1, 2, 3, 4, 5] [] ⟨rfl, rfl, rfl, rfl, by decide⟩ rfl xT_move (fun _ _ _ => trivial) 6 rfl rfl rfl hl.1 rfl (Nat.le_of_ble_eq_true rfl) dX6_makeThick_16 ⟨Nat.le_of_ble_eq_true rfl, Nat.le_of_ble_eq_true rfl⟩ (fun r_4 _ H locs hw hK1 hP hD hS => ?_)
  have hP : va_P D vwCl [(q1, .inl (cy1, 100, .inl f1)), (q2, .inl (cy2, 100, .inl f2)), (q3, .inl (cy3, 100, .inl f3)), (q4, .inl (cy4, 100, .inl f4)), (q5, .inl (cy5, 100, .inl f5)), (q6, .inl (cy6, 100, .inl f6)), (h0, .inr (5, [.int (nI w), .int (nI h), .ref q1, .ref q2, .ref q3, .ref q4, .ref q5, .ref q6]))] H := hP
  have hD : va_D A [(q1, .inl (cy1, 100, .inl f1)), (q2, .inl (cy2, 100, .inl f2)), (q3, .inl (cy3, 100, .inl f3)), (q4, .inl (cy4, 100, .inl f4)), (q5, .inl (cy5, 100, .inl f5)), (q6, .inl (cy6, 100, .inl f6)), (h0, .inr (5, [.int (nI w), .int (nI h), .ref q1, .ref q2, .ref q3, .ref q4, .ref q5, .ref q6]))] := hD
  have hw_5 : r_4 = nI (j * 10 + i) := hw
  obtain rfl : r_4 = nI (j * 10 + i) := hw_5
  refine lv_iload_n hx hb dX6_makeThick_19 rfl (lv_at hl 3 rfl) ?_
  refine m_iast hx hb hK hP hD hS 0 0 rfl rfl (j * 10 + i) rfl (by omega) (by decide) dX6_makeThick_20 (fun g_6 H locs eg_6 hP hD hS => ?_)
  have hP : va_P D vwCl [(q1, .inl (cy1, 100, .inl g_6)), (q2, .inl (cy2, 100, .inl f2)), (q3, .inl (cy3, 100, .inl f3)), (q4, .inl (cy4, 100, .inl f4)), (q5, .inl (cy5, 100, .inl f5)), (q6, .inl (cy6, 100, .inl f6)), (h0, .inr (5, [.int (nI w), .int (nI h), .ref q1, .ref q2, .ref q3, .ref q4, .ref q5, .ref q6]))] H := hP
  have hD : va_D A [(q1, .inl (cy1, 100, .inl g_6)), (q2, .inl (cy2, 100, .inl f2)), (q3, .inl (cy3, 100, .inl f3)), (q4, .inl (cy4, 100, .inl f4)), (q5, .inl (cy5, 100, .inl f5)), (q6, .inl (cy6, 100, .inl f6)), (h0, .inr (5, [.int (nI w), .int (nI h), .ref q1, .ref q2, .ref q3, .ref q4, .ref q5, .ref q6]))] := hD
  refine lv_aload_n hx hb dX6_makeThick_21 rfl (lv_at hl 0 rfl) ?_
  refine va_get (D := D) (ci := 5) (v := .ref q2) (C := RX6) (T := TX6) (N := 8) hx hb hts inG_X6 hown hK hP 6 rfl rfl 3 (by decide) (hts _ kw_1_150) (fun _ h9 => h9) rfl dX6_makeThick_22 ?_
  refine lv_aload_n hx hb dX6_makeThick_25 rfl (lv_at hl 0 rfl) ?_
  refine lv_iload_n hx hb dX6_makeThick_26 rfl (lv_at hl 1 rfl) ?_
  refine lv_iload_n hx hb dX6_makeThick_27 rfl (lv_at hl 2 rfl) ?_
  refine mc_Vi (rest := [.ref q2]) (wr := [(q1, .inl (cy1, 100, .inl g_6)), (q2, .inl (cy2, 100, .inl f2)), (q3, .inl (cy3, 100, .inl f3)), (q4, .inl (cy4, 100, .inl f4)), (q5, .inl (cy5, 100, .inl f5)), (q6, .inl (cy6, 100, .inl f6))]) F hK hP hD hS hA (c_spotOf l D h0 q1 q2 q3 q4 q5 q6 w h i j ) ⟨gk_X6_46.1, gk_X6_46.2, Nat.le_of_ble_eq_true rfl, Nat.le_of_ble_eq_true rfl⟩ [6] [0, 1, 2, 3, 4, 5] [] ⟨rfl, rfl, rfl, rfl, by decide⟩ rfl xT_move (fun _ _ _ => trivial) 6 rfl rfl rfl hl.1 rfl (Nat.le_of_ble_eq_true rfl) dX6_makeThick_28 ⟨Nat.le_of_ble_eq_true rfl, Nat.le_of_ble_eq_true rfl⟩ (fun r_7 _ H locs hw hK1 hP hD hS => ?_)
  have hP : va_P D vwCl [(q1, .inl (cy1, 100, .inl g_6)), (q2, .inl (cy2, 100, .inl f2)), (q3, .inl (cy3, 100, .inl f3)), (q4, .inl (cy4, 100, .inl f4)), (q5, .inl (cy5, 100, .inl f5)), (q6, .inl (cy6, 100, .inl f6)), (h0, .inr (5, [.int (nI w), .int (nI h), .ref q1, .ref q2, .ref q3, .ref q4, .ref q5, .ref q6]))] H := hP
  have hD : va_D A [(q1, .inl (cy1, 100, .inl g_6)), (q2, .inl (cy2, 100, .inl f2)), (q3, .inl (cy3, 100, .inl f3)), (q4, .inl (cy4, 100, .inl f4)), (q5, .inl (cy5, 100, .inl f5)), (q6, .inl (cy6, 100, .inl f6)), (h0, .inr (5, [.int (nI w), .int (nI h), .ref q1, .ref q2, .ref q3, .ref q4, .ref q5, .ref q6]))] := hD
  have hw_8 : r_7 = nI (j * 10 + i) := hw
  obtain rfl : r_7 = nI (j * 10 + i) := hw_8
  refine lv_iload hx hb dX6_makeThick_31 (lv_at hl 4 rfl) ?_
  refine m_iast hx hb hK hP hD hS 1 1 rfl rfl (j * 10 + i) rfl (by omega) (by decide) dX6_makeThick_33 (fun g_9 H locs eg_9 hP hD hS => ?_)
  have hP : va_P D vwCl [(q1, .inl (cy1, 100, .inl g_6)), (q2, .inl (cy2, 100, .inl g_9)), (q3, .inl (cy3, 100, .inl f3)), (q4, .inl (cy4, 100, .inl f4)), (q5, .inl (cy5, 100, .inl f5)), (q6, .inl (cy6, 100, .inl f6)), (h0, .inr (5, [.int (nI w), .int (nI h), .ref q1, .ref q2, .ref q3, .ref q4, .ref q5, .ref q6]))] H := hP
  have hD : va_D A [(q1, .inl (cy1, 100, .inl g_6)), (q2, .inl (cy2, 100, .inl g_9)), (q3, .inl (cy3, 100, .inl f3)), (q4, .inl (cy4, 100, .inl f4)), (q5, .inl (cy5, 100, .inl f5)), (q6, .inl (cy6, 100, .inl f6)), (h0, .inr (5, [.int (nI w), .int (nI h), .ref q1, .ref q2, .ref q3, .ref q4, .ref q5, .ref q6]))] := hD
  have hP9 := hP.sub (ws' := [(h0, .inr (5, [.int (nI w), .int (nI h), .ref q1, .ref q2, .ref q3, .ref q4, .ref q5, .ref q6])), (q1, .inl (cy1, 100, .inl g_6)), (q2, .inl (cy2, 100, .inl g_9)), (q3, .inl (cy3, 100, .inl f3)), (q4, .inl (cy4, 100, .inl f4)), (q5, .inl (cy5, 100, .inl f5)), (q6, .inl (cy6, 100, .inl f6))]) [6, 0, 1, 2, 3, 4, 5] rfl
  have hD9 := hD.sub (ws' := [(h0, .inr (5, [.int (nI w), .int (nI h), .ref q1, .ref q2, .ref q3, .ref q4, .ref q5, .ref q6])), (q1, .inl (cy1, 100, .inl g_6)), (q2, .inl (cy2, 100, .inl g_9)), (q3, .inl (cy3, 100, .inl f3)), (q4, .inl (cy4, 100, .inl f4)), (q5, .inl (cy5, 100, .inl f5)), (q6, .inl (cy6, 100, .inl f6))]) [6, 0, 1, 2, 3, 4, 5] (by decide) rfl
  have hK9 := hK.sub (tys' := []) [] rfl
  refine W.widen (k := 0) (n := 0) (by decide) (by decide) ?_
  exact W.vret hx hb hr (fun t ht hW => ⟨⟨(g_6, g_9), rfl, trivial, by rw [ht]; exact hP9, va_K.moved hW.alike hK9, hD9⟩, hS.F ht⟩) hS.2.2 dX6_makeThick_34
end
section
theorem dX3_renew_0 : decode cX3_renew 0 = .ok (.aload_n 0, 1) := by decide +kernel
theorem dX3_renew_1 : decode cX3_renew 1 = .ok (.getfield 21, 3) := by decide +kernel
theorem dX3_renew_4 : decode cX3_renew 4 = .ok (.iload_n 1, 1) := by decide +kernel
theorem dX3_renew_5 : decode cX3_renew 5 = .ok (.iload_n 2, 1) := by decide +kernel
theorem kw_3_1 : Cond.methodLink RX3 32 yX6_renew ∈ gw := gw_t3 (List.mem_of_getElem? (i := 1) (by decide +kernel)) (by decide +kernel)
theorem gk_X3_32 : GoodIn gw (wsV RX3 32 RX6 yX6_renew (.code yX6_renew cX6_renew 4 none :: gw)) ∧ (yX6_renew.cls = RX6 ∧ yX6_renew.cls ≠ "java/lang/invoke/MethodHandle" ∧ yX6_renew.cls ≠ "java/lang/invoke/VarHandle" ∧ (parseMethodDescriptor yX6_renew.desc).map (fun d => d.parameters.length) = some 2) := ⟨gi_V kw_3_1 kw_1_139 kw_1_140 kw_1_7 kw_1_141, by decide +kernel⟩
theorem dX3_renew_6 : decode cX3_renew 6 = .ok (.invokevirtual 32, 3) := by decide +kernel
theorem dX3_renew_9 : decode cX3_renew 9 = .ok (.aload_n 0, 1) := by decide +kernel
theorem dX3_renew_10 : decode cX3_renew 10 = .ok (.iconst 0, 1) := by decide +kernel
theorem kw_1_226 : Cond.fieldLink RX3 36 "IceFair$Fair" "boothCount" "I" ∈ gw := gw_t1 (List.mem_of_getElem? (i := 226) (by decide +kernel)) (by decide +kernel)
theorem dX3_renew_11 : decode cX3_renew 11 = .ok (.putfield 36, 3) := by decide +kernel
theorem dX3_renew_14 : decode cX3_renew 14 = .ok (.aload_n 0, 1) := by decide +kernel
theorem dX3_renew_15 : decode cX3_renew 15 = .ok (.iconst 0, 1) := by decide +kernel
theorem kw_1_230 : Cond.fieldLink RX3 40 "IceFair$Fair" "hours" "I" ∈ gw := gw_t1 (List.mem_of_getElem? (i := 230) (by decide +kernel)) (by decide +kernel)
theorem dX3_renew_16 : decode cX3_renew 16 = .ok (.putfield 40, 3) := by decide +kernel
theorem dX3_renew_19 : decode cX3_renew 19 = .ok (.aload_n 0, 1) := by decide +kernel
theorem dX3_renew_20 : decode cX3_renew 20 = .ok (.iconst 0, 1) := by decide +kernel
theorem kw_1_232 : Cond.fieldLink RX3 43 "IceFair$Fair" "fees" "I" ∈ gw := gw_t1 (List.mem_of_getElem? (i := 232) (by decide +kernel)) (by decide +kernel)
theorem dX3_renew_21 : decode cX3_renew 21 = .ok (.putfield 43, 3) := by decide +kernel
theorem dX3_renew_24 : decode cX3_renew 24 = .ok (.return_, 1) := by decide +kernel
set_option maxHeartbeats 4000000 in
set_option maxRecDepth 100000 in
theorem c_Fair_renew (l : Launch) (D : va_G) (h0 : Nat) (cu : Nat) (rv : Nat) (bt : Nat) (q1 : Nat) (q2 : Nat) (q3 : Nat) (q4 : Nat) (q5 : Nat) (q6 : Nat) (cy1 : ClassId) (cy2 : ClassId) (cy3 : ClassId) (cy4 : ClassId) (cy5 : ClassId) (cy6 : ClassId) (f1 : Nat → Int32) (f2 : Nat → Int32) (f3 : Nat → Int32) (f4 : Nat → Int32) (f5 : Nat → Int32) (f6 : Nat → Int32) (bc0 : Int32) (ho0 : Int32) (fe0 : Int32) (w0 : Int32) (h9 : Int32) (w1 : Int32) (h1 : Int32) : cV l yX3_renew (.code yX3_renew cX3_renew 3 none) ({ frames := 1, cells := 0, slots := 0, locals := 23 }) D [(cy1, .int), (cy2, .int), (cy3, .int), (cy4, .int), (cy5, .boolean), (cy6, .boolean)] [(h0, .inr (3, [.ref cu, .ref rv, .ref bt, .int bc0, .int ho0, .int fe0])), (rv, .inr (5, [.int w0, .int h9, .ref q1, .ref q2, .ref q3, .ref q4, .ref q5, .ref q6])), (q1, .inl (cy1, 100, .inl f1)), (q2, .inl (cy2, 100, .inl f2)), (q3, .inl (cy3, 100, .inl f3)), (q4, .inl (cy4, 100, .inl f4)), (q5, .inl (cy5, 100, .inl f5)), (q6, .inl (cy6, 100, .inl f6))] xT [.ref h0, .int w1, .int h1] (S := Unit) (fun _ => True) (fun _ => []) (fun _ => [(h0, .inr (3, [.ref cu, .ref rv, .ref bt, .int 0, .int 0, .int 0])), (rv, .inr (5, [.int w1, .int h1, .ref q1, .ref q2, .ref q3, .ref q4, .ref q5, .ref q6])), (q1, .inl (cy1, 100, .inl (fun _ => 0))), (q2, .inl (cy2, 100, .inl (fun _ => 0))), (q3, .inl (cy3, 100, .inl (fun _ => 0))), (q4, .inl (cy4, 100, .inl (fun _ => (-1)))), (q5, .inl (cy5, 100, .inl (fun _ => 0))), (q6, .inl (cy6, 100, .inl f6))]) := by
  intro sz
  refine Met.ofW (cc := cX3_renew) (maxL := 3) (ret := none) (by decide) rfl ?_
  intro p e s m args below meth c s₁ B hml hv
  obtain ⟨rfl, hsz, hP, hK, hD0, hX⟩ := hv
  have hx := B.exec
  have hb := B.bytes
  have hr := B.returns
  have hts0 := atoms_spec (ws := .code yX3_renew cX3_renew 3 none :: gw) B.pre
  have hts := fun (w : Cond) (h : w ∈ gw) => hts0 w (List.mem_cons_of_mem _ h)
  have hown : s.vm.findClass RX3 = some m.cls := findClass_of_methodNamed B.named
  have hlocks := B.notSynchronized
  have F : mFix p s m _ c cX3_renew 3 RX3 := ⟨hx, hb, hml, hown, hts⟩
  subst hsz
  have hD := hD0.self (sz := s.heap.size)
  generalize hAe : va_A [(h0, .inr (3, [.ref cu, .ref rv, .ref bt, .int bc0, .int ho0, .int fe0])), (rv, .inr (5, [.int w0, .int h9, .ref q1, .ref q2, .ref q3, .ref q4, .ref q5, .ref q6])), (q1, .inl (cy1, 100, .inl f1)), (q2, .inl (cy2, 100, .inl f2)), (q3, .inl (cy3, 100, .inl f3)), (q4, .inl (cy4, 100, .inl f4)), (q5, .inl (cy5, 100, .inl f5)), (q6, .inl (cy6, 100, .inl f6))] s.heap.size = A at hD hX ⊢
  have hA : ∀ q : Nat, s.heap.size ≤ q → A q := fun q h => by rw [← hAe]; exact Or.inr h
  have hS : va_S A s.heap s.heap [] := va_S.rf
  have hl := lv_entry ([.ref h0, .int w1, .int h1]) (n := 3) (Nat.le_of_ble_eq_true rfl)
  rw [lg_entry_eq]
  generalize (lg_sl ([.ref h0, .int w1, .int h1]) ++ List.replicate (3 - (lg_sl ([.ref h0, .int w1, .int h1])).length) Slot.unset).toArray = ls at hl ⊢
  have hl : lv_has ls 3 [(0, .ref h0), (1, .int w1), (2, .int h1)] := hl
  have hP : va_P D vwCl [(h0, .inr (3, [.ref cu, .ref rv, .ref bt, .int bc0, .int ho0, .int fe0])), (rv, .inr (5, [.int w0, .int h9, .ref q1, .ref q2, .ref q3, .ref q4, .ref q5, .ref q6])), (q1, .inl (cy1, 100, .inl f1)), (q2, .inl (cy2, 100, .inl f2)), (q3, .inl (cy3, 100, .inl f3)), (q4, .inl (cy4, 100, .inl f4)), (q5, .inl (cy5, 100, .inl f5)), (q6, .inl (cy6, 100, .inl f6))] s.heap := hP
  refine lv_aload_n hx hb dX3_renew_0 rfl (lv_at hl 0 rfl) ?_
  refine va_get (D := D) (ci := 3) (v := .ref rv) (C := RX3) (T := TX3) (N := 6) hx hb hts inG_X3 hown hK hP 0 rfl rfl 1 (by decide) (hts _ kw_1_219) (fun _ h9 => h9) rfl dX3_renew_1 ?_
  refine lv_iload_n hx hb dX3_renew_4 rfl (lv_at hl 1 rfl) ?_
  refine lv_iload_n hx hb dX3_renew_5 rfl (lv_at hl 2 rfl) ?_
  refine mc_Vv (rest := []) (wr := [(h0, .inr (3, [.ref cu, .ref rv, .ref bt, .int bc0, .int ho0, .int fe0]))]) F hK hP hD hS hA (c_River_renew l D rv q1 q2 q3 q4 q5 q6 cy1 cy2 cy3 cy4 cy5 cy6 f1 f2 f3 f4 f5 f6 w0 h9 w1 h1 ) ⟨gk_X3_32.1, gk_X3_32.2, Nat.le_of_ble_eq_true rfl, Nat.le_of_ble_eq_true rfl⟩ [1, 2, 3, 4, 5, 6, 7] [0] [0, 1, 2, 3, 4, 5] ⟨rfl, rfl, rfl, rfl, by decide⟩ rfl xT_move (fun _ _ _ => trivial) 1 rfl rfl rfl hl.1 rfl (Nat.le_of_ble_eq_true rfl) dX3_renew_6 ⟨Nat.le_of_ble_eq_true rfl, Nat.le_of_ble_eq_true rfl⟩ (fun _ H locs hw hK1 hP hD hS => ?_)
  have hP : va_P D vwCl [(h0, .inr (3, [.ref cu, .ref rv, .ref bt, .int bc0, .int ho0, .int fe0])), (rv, .inr (5, [.int w1, .int h1, .ref q1, .ref q2, .ref q3, .ref q4, .ref q5, .ref q6])), (q1, .inl (cy1, 100, .inl (fun _ => 0))), (q2, .inl (cy2, 100, .inl (fun _ => 0))), (q3, .inl (cy3, 100, .inl (fun _ => 0))), (q4, .inl (cy4, 100, .inl (fun _ => (-1)))), (q5, .inl (cy5, 100, .inl (fun _ => 0))), (q6, .inl (cy6, 100, .inl f6))] H := hP
  have hD : va_D A [(h0, .inr (3, [.ref cu, .ref rv, .ref bt, .int bc0, .int ho0, .int fe0])), (rv, .inr (5, [.int w1, .int h1, .ref q1, .ref q2, .ref q3, .ref q4, .ref q5, .ref q6])), (q1, .inl (cy1, 100, .inl (fun _ => 0))), (q2, .inl (cy2, 100, .inl (fun _ => 0))), (q3, .inl (cy3, 100, .inl (fun _ => 0))), (q4, .inl (cy4, 100, .inl (fun _ => (-1)))), (q5, .inl (cy5, 100, .inl (fun _ => 0))), (q6, .inl (cy6, 100, .inl f6))] := hD
  refine lv_aload_n hx hb dX3_renew_9 rfl (lv_at hl 0 rfl) ?_
  refine lv_iconst (v := 0) hx hb dX3_renew_10 (by decide) ?_
  refine va_put (D := D) (ci := 3) (v := .int 0) (ty := .int) (C := RX3) (T := TX3) (N := 6) hx hb hts inG_X3 tyX3 tyX3_ok nmX3 hown hK hP hD hS 0 rfl rfl 3 (by decide) (hts _ kw_1_226) (fun _ h9 => h9) rfl (by decide +kernel) rfl rfl (Nat.le_of_ble_eq_true rfl) dX3_renew_11 (fun H locs hP hD hS => ?_)
  have hP : va_P D vwCl [(h0, .inr (3, [.ref cu, .ref rv, .ref bt, .int 0, .int ho0, .int fe0])), (rv, .inr (5, [.int w1, .int h1, .ref q1, .ref q2, .ref q3, .ref q4, .ref q5, .ref q6])), (q1, .inl (cy1, 100, .inl (fun _ => 0))), (q2, .inl (cy2, 100, .inl (fun _ => 0))), (q3, .inl (cy3, 100, .inl (fun _ => 0))), (q4, .inl (cy4, 100, .inl (fun _ => (-1)))), (q5, .inl (cy5, 100, .inl (fun _ => 0))), (q6, .inl (cy6, 100, .inl f6))] H := hP
  have hD : va_D A [(h0, .inr (3, [.ref cu, .ref rv, .ref bt, .int 0, .int ho0, .int fe0])), (rv, .inr (5, [.int w1, .int h1, .ref q1, .ref q2, .ref q3, .ref q4, .ref q5, .ref q6])), (q1, .inl (cy1, 100, .inl (fun _ => 0))), (q2, .inl (cy2, 100, .inl (fun _ => 0))), (q3, .inl (cy3, 100, .inl (fun _ => 0))), (q4, .inl (cy4, 100, .inl (fun _ => (-1)))), (q5, .inl (cy5, 100, .inl (fun _ => 0))), (q6, .inl (cy6, 100, .inl f6))] := hD
  refine lv_aload_n hx hb dX3_renew_14 rfl (lv_at hl 0 rfl) ?_
  refine lv_iconst (v := 0) hx hb dX3_renew_15 (by decide) ?_
  refine va_put (D := D) (ci := 3) (v := .int 0) (ty := .int) (C := RX3) (T := TX3) (N := 6) hx hb hts inG_X3 tyX3 tyX3_ok nmX3 hown hK hP hD hS 0 rfl rfl 4 (by decide) (hts _ kw_1_230) (fun _ h9 => h9) rfl (by decide +kernel) rfl rfl (Nat.le_of_ble_eq_true rfl) dX3_renew_16 (fun H locs hP hD hS => ?_)
  have hP : va_P D vwCl [(h0, .inr (3, [.ref cu, .ref rv, .ref bt, .int 0, .int 0, .int fe0])), (rv, .inr (5, [.int w1, .int h1, .ref q1, .ref q2, .ref q3, .ref q4, .ref q5, .ref q6])), (q1, .inl (cy1, 100, .inl (fun _ => 0))), (q2, .inl (cy2, 100, .inl (fun _ => 0))), (q3, .inl (cy3, 100, .inl (fun _ => 0))), (q4, .inl (cy4, 100, .inl (fun _ => (-1)))), (q5, .inl (cy5, 100, .inl (fun _ => 0))), (q6, .inl (cy6, 100, .inl f6))] H := hP
  have hD : va_D A [(h0, .inr (3, [.ref cu, .ref rv, .ref bt, .int 0, .int 0, .int fe0])), (rv, .inr (5, [.int w1, .int h1, .ref q1, .ref q2, .ref q3, .ref q4, .ref q5, .ref q6])), (q1, .inl (cy1, 100, .inl (fun _ => 0))), (q2, .inl (cy2, 100, .inl (fun _ => 0))), (q3, .inl (cy3, 100, .inl (fun _ => 0))), (q4, .inl (cy4, 100, .inl (fun _ => (-1)))), (q5, .inl (cy5, 100, .inl (fun _ => 0))), (q6, .inl (cy6, 100, .inl f6))] := hD
  refine lv_aload_n hx hb dX3_renew_19 rfl (lv_at hl 0 rfl) ?_
  refine lv_iconst (v := 0) hx hb dX3_renew_20 (by decide) ?_
  refine va_put (D := D) (ci := 3) (v := .int 0) (ty := .int) (C := RX3) (T := TX3) (N := 6) hx hb hts inG_X3 tyX3 tyX3_ok nmX3 hown hK hP hD hS 0 rfl rfl 5 (by decide) (hts _ kw_1_232) (fun _ h9 => h9) rfl (by decide +kernel) rfl rfl (Nat.le_of_ble_eq_true rfl) dX3_renew_21 (fun H locs hP hD hS => ?_)
  have hP : va_P D vwCl [(h0, .inr (3, [.ref cu, .ref rv, .ref bt, .int 0, .int 0, .int 0])), (rv, .inr (5, [.int w1, .int h1, .ref q1, .ref q2, .ref q3, .ref q4, .ref q5, .ref q6])), (q1, .inl (cy1, 100, .inl (fun _ => 0))), (q2, .inl (cy2, 100, .inl (fun _ => 0))), (q3, .inl (cy3, 100, .inl (fun _ => 0))), (q4, .inl (cy4, 100, .inl (fun _ => (-1)))), (q5, .inl (cy5, 100, .inl (fun _ => 0))), (q6, .inl (cy6, 100, .inl f6))] H := hP
  have hD : va_D A [(h0, .inr (3, [.ref cu, .ref rv, .ref bt, .int 0, .int 0, .int 0])), (rv, .inr (5, [.int w1, .int h1, .ref q1, .ref q2, .ref q3, .ref q4, .ref q5, .ref q6])), (q1, .inl (cy1, 100, .inl (fun _ => 0))), (q2, .inl (cy2, 100, .inl (fun _ => 0))), (q3, .inl (cy3, 100, .inl (fun _ => 0))), (q4, .inl (cy4, 100, .inl (fun _ => (-1)))), (q5, .inl (cy5, 100, .inl (fun _ => 0))), (q6, .inl (cy6, 100, .inl f6))] := hD
  have hP9 := hP.sub (ws' := [(h0, .inr (3, [.ref cu, .ref rv, .ref bt, .int 0, .int 0, .int 0])), (rv, .inr (5, [.int w1, .int h1, .ref q1, .ref q2, .ref q3, .ref q4, .ref q5, .ref q6])), (q1, .inl (cy1, 100, .inl (fun _ => 0))), (q2, .inl (cy2, 100, .inl (fun _ => 0))), (q3, .inl (cy3, 100, .inl (fun _ => 0))), (q4, .inl (cy4, 100, .inl (fun _ => (-1)))), (q5, .inl (cy5, 100, .inl (fun _ => 0))), (q6, .inl (cy6, 100, .inl f6))]) [0, 1, 2, 3, 4, 5, 6, 7] rfl
  have hD9 := hD.sub (ws' := [(h0, .inr (3, [.ref cu, .ref rv, .ref bt, .int 0, .int 0, .int 0])), (rv, .inr (5, [.int w1, .int h1, .ref q1, .ref q2, .ref q3, .ref q4, .ref q5, .ref q6])), (q1, .inl (cy1, 100, .inl (fun _ => 0))), (q2, .inl (cy2, 100, .inl (fun _ => 0))), (q3, .inl (cy3, 100, .inl (fun _ => 0))), (q4, .inl (cy4, 100, .inl (fun _ => (-1)))), (q5, .inl (cy5, 100, .inl (fun _ => 0))), (q6, .inl (cy6, 100, .inl f6))]) [0, 1, 2, 3, 4, 5, 6, 7] (by decide) rfl
  have hK9 := hK.sub (tys' := []) [] rfl
  refine W.widen (k := 0) (n := 0) (by decide) (by decide) ?_
  exact W.vret hx hb hr (fun t ht hW => ⟨⟨(), rfl, trivial, by rw [ht]; exact hP9, va_K.moved hW.alike hK9, hD9⟩, hS.F ht⟩) hS.2.2 dX3_renew_24
theorem dX9_ice_0 : decode cX9_ice 0 = .ok (.iload_n 1, 1) := by decide +kernel
theorem dX9_ice_1 : decode cX9_ice 1 = .ok (.iconst 3, 1) := by decide +kernel
theorem dX9_ice_2 : decode cX9_ice 2 = .ok (.if_icmp .lt 20, 3) := by decide +kernel
theorem dX9_ice_22 : decode cX9_ice 22 = .ok (.iconst 0, 1) := by decide +kernel
theorem dX9_ice_23 : decode cX9_ice 23 = .ok (.ireturn, 1) := by decide +kernel
theorem dX9_ice_5 : decode cX9_ice 5 = .ok (.iload_n 1, 1) := by decide +kernel
theorem dX9_ice_6 : decode cX9_ice 6 = .ok (.bipush 10, 2) := by decide +kernel
theorem dX9_ice_8 : decode cX9_ice 8 = .ok (.if_icmp .gt 14, 3) := by decide +kernel
theorem dX9_ice_11 : decode cX9_ice 11 = .ok (.iload_n 2, 1) := by decide +kernel
theorem dX9_ice_12 : decode cX9_ice 12 = .ok (.iconst 3, 1) := by decide +kernel
theorem dX9_ice_13 : decode cX9_ice 13 = .ok (.if_icmp .lt 9, 3) := by decide +kernel
theorem dX9_ice_16 : decode cX9_ice 16 = .ok (.iload_n 2, 1) := by decide +kernel
theorem dX9_ice_17 : decode cX9_ice 17 = .ok (.bipush 10, 2) := by decide +kernel
theorem dX9_ice_19 : decode cX9_ice 19 = .ok (.if_icmp .le 5, 3) := by decide +kernel
theorem dX9_ice_24 : decode cX9_ice 24 = .ok (.aload_n 0, 1) := by decide +kernel
theorem dX9_ice_25 : decode cX9_ice 25 = .ok (.getfield 33, 3) := by decide +kernel
theorem dX9_ice_28 : decode cX9_ice 28 = .ok (.iload_n 1, 1) := by decide +kernel
theorem dX9_ice_29 : decode cX9_ice 29 = .ok (.iload_n 2, 1) := by decide +kernel
theorem kw_2_237 : Cond.methodLink RX9 80 yX3_renew ∈ gw := gw_t2 (List.mem_of_getElem? (i := 237) (by decide +kernel)) (by decide +kernel)
theorem kw_2_238 : Cond.instanceMethod yX3_renew ∈ gw := gw_t2 (List.mem_of_getElem? (i := 238) (by decide +kernel)) (by decide +kernel)
theorem kw_2_239 : Cond.selects RX3 yX3_renew yX3_renew ∈ gw := gw_t2 (List.mem_of_getElem? (i := 239) (by decide +kernel)) (by decide +kernel)
theorem kw_3_0 : Cond.code yX3_renew cX3_renew 3 none ∈ gw := gw_t3 (List.mem_of_getElem? (i := 0) (by decide +kernel)) (by decide +kernel)
theorem gk_X9_80 : GoodIn gw (wsV RX9 80 RX3 yX3_renew (.code yX3_renew cX3_renew 3 none :: gw)) ∧ (yX3_renew.cls = RX3 ∧ yX3_renew.cls ≠ "java/lang/invoke/MethodHandle" ∧ yX3_renew.cls ≠ "java/lang/invoke/VarHandle" ∧ (parseMethodDescriptor yX3_renew.desc).map (fun d => d.parameters.length) = some 2) := ⟨gi_V kw_2_237 kw_2_238 kw_2_239 kw_1_6 kw_3_0, by decide +kernel⟩
theorem dX9_ice_30 : decode cX9_ice 30 = .ok (.invokevirtual 80, 3) := by decide +kernel
theorem dX9_ice_33 : decode cX9_ice 33 = .ok (.iconst 1, 1) := by decide +kernel
theorem dX9_ice_34 : decode cX9_ice 34 = .ok (.ireturn, 1) := by decide +kernel
set_option maxHeartbeats 4000000 in
set_option maxRecDepth 100000 in
theorem c_ice (l : Launch) (D : va_G) (h0 : Nat) (tp : Nat) (rd : Nat) (dr : Nat) (fa : Nat) (ly : Nat) (wy : Nat) (cu : Nat) (rv : Nat) (bt : Nat) (rv1 : Nat) (rv2 : Nat) (rv3 : Nat) (rv4 : Nat) (rv5 : Nat) (rv6 : Nat) (rc1 : ClassId) (rc2 : ClassId) (rc3 : ClassId) (rc4 : ClassId) (rc5 : ClassId) (rc6 : ClassId) (w1 : Int32) (h1 : Int32) : cI l yX9_ice (.code yX9_ice cX9_ice 3 (some .boolean)) ({ frames := 2, cells := 0, slots := 0, locals := 45 }) D [(rc1, .int), (rc2, .int), (rc3, .int), (rc4, .int), (rc5, .boolean), (rc6, .boolean)] [(h0, .inr (8, [.ref tp, .ref rd, .ref dr, .ref fa, .ref ly, .ref wy])), (fa, .inr (3, [.ref cu, .ref rv, .ref bt, .int 0, .int 0, .int 0])), (rv, .inr (5, [.int 5, .int 5, .ref rv1, .ref rv2, .ref rv3, .ref rv4, .ref rv5, .ref rv6])), (rv1, .inl (rc1, 100, .inl (fun _ => 0))), (rv2, .inl (rc2, 100, .inl (fun _ => 0))), (rv3, .inl (rc3, 100, .inl (fun _ => 0))), (rv4, .inl (rc4, 100, .inl (fun _ => (-1)))), (rv5, .inl (rc5, 100, .inl (fun _ => 0))), (rv6, .inl (rc6, 100, .inl (fun _ => 0)))] xT [.ref h0, .int w1, .int h1] (S := Unit) (fun r _ => r = (if w1 < 3 ∨ 10 < w1 ∨ h1 < 3 ∨ 10 < h1 then 0 else 1)) (fun _ => []) (fun _ => []) := by
  intro sz
  refine Met.ofW (cc := cX9_ice) (maxL := 3) (ret := (some .boolean)) (by decide) rfl ?_
  intro p e s m args below meth c s₁ B hml hv
  obtain ⟨rfl, hsz, hP, hK, hD0, hX⟩ := hv
  have hx := B.exec
  have hb := B.bytes
  have hr := B.returns
  have hts0 := atoms_spec (ws := .code yX9_ice cX9_ice 3 (some .boolean) :: gw) B.pre
  have hts := fun (w : Cond) (h : w ∈ gw) => hts0 w (List.mem_cons_of_mem _ h)
  have hown : s.vm.findClass RX9 = some m.cls := findClass_of_methodNamed B.named
  have hlocks := B.notSynchronized
  have F : mFix p s m _ c cX9_ice 3 RX9 := ⟨hx, hb, hml, hown, hts⟩
  subst hsz
  have hD := hD0.self (sz := s.heap.size)
  generalize hAe : va_A [(h0, .inr (8, [.ref tp, .ref rd, .ref dr, .ref fa, .ref ly, .ref wy])), (fa, .inr (3, [.ref cu, .ref rv, .ref bt, .int 0, .int 0, .int 0])), (rv, .inr (5, [.int 5, .int 5, .ref rv1, .ref rv2, .ref rv3, .ref rv4, .ref rv5, .ref rv6])), (rv1, .inl (rc1, 100, .inl (fun _ => 0))), (rv2, .inl (rc2, 100, .inl (fun _ => 0))), (rv3, .inl (rc3, 100, .inl (fun _ => 0))), (rv4, .inl (rc4, 100, .inl (fun _ => (-1)))), (rv5, .inl (rc5, 100, .inl (fun _ => 0))), (rv6, .inl (rc6, 100, .inl (fun _ => 0)))] s.heap.size = A at hD hX ⊢
  have hA : ∀ q : Nat, s.heap.size ≤ q → A q := fun q h => by rw [← hAe]; exact Or.inr h
  have hS : va_S A s.heap s.heap [] := va_S.rf
  have hl := lv_entry ([.ref h0, .int w1, .int h1]) (n := 3) (Nat.le_of_ble_eq_true rfl)
  rw [lg_entry_eq]
  generalize (lg_sl ([.ref h0, .int w1, .int h1]) ++ List.replicate (3 - (lg_sl ([.ref h0, .int w1, .int h1])).length) Slot.unset).toArray = ls at hl ⊢
  have hl : lv_has ls 3 [(0, .ref h0), (1, .int w1), (2, .int h1)] := hl
  have hP : va_P D vwCl [(h0, .inr (8, [.ref tp, .ref rd, .ref dr, .ref fa, .ref ly, .ref wy])), (fa, .inr (3, [.ref cu, .ref rv, .ref bt, .int 0, .int 0, .int 0])), (rv, .inr (5, [.int 5, .int 5, .ref rv1, .ref rv2, .ref rv3, .ref rv4, .ref rv5, .ref rv6])), (rv1, .inl (rc1, 100, .inl (fun _ => 0))), (rv2, .inl (rc2, 100, .inl (fun _ => 0))), (rv3, .inl (rc3, 100, .inl (fun _ => 0))), (rv4, .inl (rc4, 100, .inl (fun _ => (-1)))), (rv5, .inl (rc5, 100, .inl (fun _ => 0))), (rv6, .inl (rc6, 100, .inl (fun _ => 0)))] s.heap := hP
  refine lv_iload_n hx hb dX9_ice_0 rfl (lv_at hl 1 rfl) ?_
  refine lv_iconst (v := 3) hx hb dX9_ice_1 (by decide) ?_
  refine lv_icmp_lt (tgt := 22) hx hb dX9_ice_2 (by decide) (fun c_1 => ?_) (fun c_1 => ?_)
  · skip
    refine lv_iconst (v := 0) hx hb dX9_ice_22 (by decide) ?_
    have hP9 := hP.sub (ws' := []) [] rfl
    have hD9 := hD.sub (ws' := []) [] (by decide) rfl
    have hK9 := hK.sub (tys' := []) [] rfl
    refine W.widen (k := 0) (n := 0) (by decide) (by decide) ?_
    exact W.zret (v := 0) hx hb hr rfl (fun t ht hW => ⟨⟨0, (), rfl, by simp only [c_1, or_false, false_or, or_true, true_or, not_true_eq_false, not_false_eq_true, ↓reduceIte], by rw [ht]; exact hP9, va_K.moved hW.alike hK9, hD9⟩, hS.F ht⟩) hS.2.2 dX9_ice_23
  · skip
    refine lv_iload_n hx hb dX9_ice_5 rfl (lv_at hl 1 rfl) ?_
    refine lv_bipush (v := 10) hx hb dX9_ice_6 (by decide) ?_
    refine lv_icmp_gt (tgt := 22) hx hb dX9_ice_8 (by decide) (fun c_2 => ?_) (fun c_2 => ?_)
    · skip
      refine lv_iconst (v := 0) hx hb dX9_ice_22 (by decide) ?_
      have hP9 := hP.sub (ws' := []) [] rfl
      have hD9 := hD.sub (ws' := []) [] (by decide) rfl
      have hK9 := hK.sub (tys' := []) [] rfl
      refine W.widen (k := 0) (n := 0) (by decide) (by decide) ?_
      exact W.zret (v := 0) hx hb hr rfl (fun t ht hW => ⟨⟨0, (), rfl, by simp only [c_1, c_2, or_false, false_or, or_true, true_or, not_true_eq_false, not_false_eq_true, ↓reduceIte], by rw [ht]; exact hP9, va_K.moved hW.alike hK9, hD9⟩, hS.F ht⟩) hS.2.2 dX9_ice_23
    · skip
      refine lv_iload_n hx hb dX9_ice_11 rfl (lv_at hl 2 rfl) ?_
      refine lv_iconst (v := 3) hx hb dX9_ice_12 (by decide) ?_
      refine lv_icmp_lt (tgt := 22) hx hb dX9_ice_13 (by decide) (fun c_3 => ?_) (fun c_3 => ?_)
      · skip
        refine lv_iconst (v := 0) hx hb dX9_ice_22 (by decide) ?_
        have hP9 := hP.sub (ws' := []) [] rfl
        have hD9 := hD.sub (ws' := []) [] (by decide) rfl
        have hK9 := hK.sub (tys' := []) [] rfl
        refine W.widen (k := 0) (n := 0) (by decide) (by decide) ?_
        exact W.zret (v := 0) hx hb hr rfl (fun t ht hW => ⟨⟨0, (), rfl, by simp only [c_1, c_2, c_3, or_false, false_or, or_true, true_or, not_true_eq_false, not_false_eq_true, ↓reduceIte], by rw [ht]; exact hP9, va_K.moved hW.alike hK9, hD9⟩, hS.F ht⟩) hS.2.2 dX9_ice_23
      · skip
        refine lv_iload_n hx hb dX9_ice_16 rfl (lv_at hl 2 rfl) ?_
        refine lv_bipush (v := 10) hx hb dX9_ice_17 (by decide) ?_
        refine lv_icmp_le (tgt := 24) hx hb dX9_ice_19 (by decide) (fun c_4 => ?_) (fun c_4 => ?_)
        · skip
          have c_4 := Int32.not_lt.mpr c_4
          refine lv_aload_n hx hb dX9_ice_24 rfl (lv_at hl 0 rfl) ?_
          refine va_get (D := D) (ci := 8) (v := .ref fa) (C := RX9) (T := TX9) (N := 6) hx hb hts inG_X9 hown hK hP 0 rfl rfl 3 (by decide) (hts _ kw_2_70) (fun _ h9 => h9) rfl dX9_ice_25 ?_
          refine lv_iload_n hx hb dX9_ice_28 rfl (lv_at hl 1 rfl) ?_
          refine lv_iload_n hx hb dX9_ice_29 rfl (lv_at hl 2 rfl) ?_
          refine mc_Vv (rest := []) (wr := [(h0, .inr (8, [.ref tp, .ref rd, .ref dr, .ref fa, .ref ly, .ref wy]))]) F hK hP hD hS hA (c_Fair_renew l D fa cu rv bt rv1 rv2 rv3 rv4 rv5 rv6 rc1 rc2 rc3 rc4 rc5 rc6 (fun _ => 0) (fun _ => 0) (fun _ => 0) (fun _ => (-1)) (fun _ => 0) (fun _ => 0) 0 0 0 5 5 w1 h1 ) ⟨gk_X9_80.1, gk_X9_80.2, Nat.le_of_ble_eq_true rfl, Nat.le_of_ble_eq_true rfl⟩ [1, 2, 3, 4, 5, 6, 7, 8] [0] [0, 1, 2, 3, 4, 5] ⟨rfl, rfl, rfl, rfl, by decide⟩ rfl xT_move (fun _ _ _ => trivial) 1 rfl rfl rfl hl.1 rfl (Nat.le_of_ble_eq_true rfl) dX9_ice_30 ⟨Nat.le_of_ble_eq_true rfl, Nat.le_of_ble_eq_true rfl⟩ (fun _ H locs hw hK1 hP hD hS => ?_)
          have hP : va_P D vwCl [(h0, .inr (8, [.ref tp, .ref rd, .ref dr, .ref fa, .ref ly, .ref wy])), (fa, .inr (3, [.ref cu, .ref rv, .ref bt, .int 0, .int 0, .int 0])), (rv, .inr (5, [.int w1, .int h1, .ref rv1, .ref rv2, .ref rv3, .ref rv4, .ref rv5, .ref rv6])), (rv1, .inl (rc1, 100, .inl (fun _ => 0))), (rv2, .inl (rc2, 100, .inl (fun _ => 0))), (rv3, .inl (rc3, 100, .inl (fun _ => 0))), (rv4, .inl (rc4, 100, .inl (fun _ => (-1)))), (rv5, .inl (rc5, 100, .inl (fun _ => 0))), (rv6, .inl (rc6, 100, .inl ((fun _ => 0))))] H := hP
          have hD : va_D A [(h0, .inr (8, [.ref tp, .ref rd, .ref dr, .ref fa, .ref ly, .ref wy])), (fa, .inr (3, [.ref cu, .ref rv, .ref bt, .int 0, .int 0, .int 0])), (rv, .inr (5, [.int w1, .int h1, .ref rv1, .ref rv2, .ref rv3, .ref rv4, .ref rv5, .ref rv6])), (rv1, .inl (rc1, 100, .inl (fun _ => 0))), (rv2, .inl (rc2, 100, .inl (fun _ => 0))), (rv3, .inl (rc3, 100, .inl (fun _ => 0))), (rv4, .inl (rc4, 100, .inl (fun _ => (-1)))), (rv5, .inl (rc5, 100, .inl (fun _ => 0))), (rv6, .inl (rc6, 100, .inl ((fun _ => 0))))] := hD
          refine lv_iconst (v := 1) hx hb dX9_ice_33 (by decide) ?_
          have hP9 := hP.sub (ws' := []) [] rfl
          have hD9 := hD.sub (ws' := []) [] (by decide) rfl
          have hK9 := hK.sub (tys' := []) [] rfl
          refine W.widen (k := 0) (n := 0) (by decide) (by decide) ?_
          exact W.zret (v := 1) hx hb hr rfl (fun t ht hW => ⟨⟨1, (), rfl, by simp only [c_1, c_2, c_3, c_4, or_false, false_or, or_true, true_or, not_true_eq_false, not_false_eq_true, ↓reduceIte], by rw [ht]; exact hP9, va_K.moved hW.alike hK9, hD9⟩, hS.F ht⟩) hS.2.2 dX9_ice_34
        · skip
          have c_4 := Int32.not_le.mp c_4
          refine lv_iconst (v := 0) hx hb dX9_ice_22 (by decide) ?_
          have hP9 := hP.sub (ws' := []) [] rfl
          have hD9 := hD.sub (ws' := []) [] (by decide) rfl
          have hK9 := hK.sub (tys' := []) [] rfl
          refine W.widen (k := 0) (n := 0) (by decide) (by decide) ?_
          exact W.zret (v := 0) hx hb hr rfl (fun t ht hW => ⟨⟨0, (), rfl, by simp only [c_1, c_2, c_3, c_4, or_false, false_or, or_true, true_or, not_true_eq_false, not_false_eq_true, ↓reduceIte], by rw [ht]; exact hP9, va_K.moved hW.alike hK9, hD9⟩, hS.F ht⟩) hS.2.2 dX9_ice_23
theorem dX9_sound_77 : decode cX9_sound 77 = .ok (.iload 9, 2) := by decide +kernel
theorem dX9_sound_79 : decode cX9_sound 79 = .ok (.iload_n 3, 1) := by decide +kernel
theorem dX9_sound_80 : decode cX9_sound 80 = .ok (.if_icmp .gt 22, 3) := by decide +kernel
theorem dX9_sound_83 : decode cX9_sound 83 = .ok (.aload 7, 2) := by decide +kernel
theorem dX9_sound_85 : decode cX9_sound 85 = .ok (.iload 9, 2) := by decide +kernel
theorem dX9_sound_87 : decode cX9_sound 87 = .ok (.iload 8, 2) := by decide +kernel
theorem dX9_sound_89 : decode cX9_sound 89 = .ok (.iload 5, 2) := by decide +kernel
theorem dX9_sound_91 : decode cX9_sound 91 = .ok (.iload 6, 2) := by decide +kernel
theorem kw_3_10 : Cond.methodLink RX9 94 yX6_makeThick ∈ gw := gw_t3 (List.mem_of_getElem? (i := 10) (by decide +kernel)) (by decide +kernel)
theorem kw_3_11 : Cond.instanceMethod yX6_makeThick ∈ gw := gw_t3 (List.mem_of_getElem? (i := 11) (by decide +kernel)) (by decide +kernel)
theorem kw_3_12 : Cond.selects RX6 yX6_makeThick yX6_makeThick ∈ gw := gw_t3 (List.mem_of_getElem? (i := 12) (by decide +kernel)) (by decide +kernel)
theorem kw_3_13 : Cond.code yX6_makeThick cX6_makeThick 5 none ∈ gw := gw_t3 (List.mem_of_getElem? (i := 13) (by decide +kernel)) (by decide +kernel)
theorem gk_X9_94 : GoodIn gw (wsV RX9 94 RX6 yX6_makeThick (.code yX6_makeThick cX6_makeThick 5 none :: gw)) ∧ (yX6_makeThick.cls = RX6 ∧ yX6_makeThick.cls ≠ "java/lang/invoke/MethodHandle" ∧ yX6_makeThick.cls ≠ "java/lang/invoke/VarHandle" ∧ (parseMethodDescriptor yX6_makeThick.desc).map (fun d => d.parameters.length) = some 4) := ⟨gi_V kw_3_10 kw_3_11 kw_3_12 kw_1_7 kw_3_13, by decide +kernel⟩
theorem dX9_sound_93 : decode cX9_sound 93 = .ok (.invokevirtual 94, 3) := by decide +kernel
theorem dX9_sound_96 : decode cX9_sound 96 = .ok (.iinc 9 1, 3) := by decide +kernel
theorem dX9_sound_99 : decode cX9_sound 99 = .ok (.goto (-22), 3) := by decide +kernel
set_option maxHeartbeats 4000000 in
set_option maxRecDepth 100000 in
theorem lp_sound_in {p : Program} {l : Launch} {e : Env} {s : State} {m : MethodId} {args : Array Value} {below : List Frame} {meth : Method} {c : Code} {Q : State → Prop} {A : Nat → Prop} {D : va_G} (F : mFix p s m args c cX9_sound 10 RX9) (hA : ∀ q, s.heap.size ≤ q → A q) (h0 : Nat) (tp : Nat) (rd : Nat) (dr : Nat) (fa : Nat) (ly : Nat) (wy : Nat) (cu : Nat) (rv : Nat) (bt : Nat) (rv1 : Nat) (rv2 : Nat) (rv3 : Nat) (rv4 : Nat) (rv5 : Nat) (rv6 : Nat) (rc1 : ClassId) (rc2 : ClassId) (rc3 : ClassId) (rc4 : ClassId) (rc5 : ClassId) (rc6 : ClassId) (i0 : Nat) (i1 : Nat) (j1 : Nat) (lo : Int32) (hi : Int32) (j : Nat) (hK : va_K D vwCl [(rc1, .int), (rc2, .int), (rc3, .int), (rc4, .int), (rc5, .boolean), (rc6, .boolean)] s)
    (kx_102 : ∀ (g1 : Nat → Int32) (g2 : Nat → Int32), ∀ (H : Heap) (locs : List Loc), va_P D vwCl [(h0, .inr (8, [.ref tp, .ref rd, .ref dr, .ref fa, .ref ly, .ref wy])), (fa, .inr (3, [.ref cu, .ref rv, .ref bt, .int 0, .int 0, .int 0])), (rv, .inr (5, [.int 5, .int 5, .ref rv1, .ref rv2, .ref rv3, .ref rv4, .ref rv5, .ref rv6])), (rv1, .inl (rc1, 100, .inl g1)), (rv2, .inl (rc2, 100, .inl g2)), (rv3, .inl (rc3, 100, .inl (fun _ => 0))), (rv4, .inl (rc4, 100, .inl (fun _ => (-1)))), (rv5, .inl (rc5, 100, .inl (fun _ => 0))), (rv6, .inl (rc6, 100, .inl (fun _ => 0)))] H → va_D A [(h0, .inr (8, [.ref tp, .ref rd, .ref dr, .ref fa, .ref ly, .ref wy])), (fa, .inr (3, [.ref cu, .ref rv, .ref bt, .int 0, .int 0, .int 0])), (rv, .inr (5, [.int 5, .int 5, .ref rv1, .ref rv2, .ref rv3, .ref rv4, .ref rv5, .ref rv6])), (rv1, .inl (rc1, 100, .inl g1)), (rv2, .inl (rc2, 100, .inl g2)), (rv3, .inl (rc3, 100, .inl (fun _ => 0))), (rv4, .inl (rc4, 100, .inl (fun _ => (-1)))), (rv5, .inl (rc5, 100, .inl (fun _ => 0))), (rv6, .inl (rc6, 100, .inl (fun _ => 0)))] → va_S A s.heap H locs → ∀ ls : Array Slot, lv_has ls 10 [(0, .ref h0), (7, .ref rv), (1, .int (nI i0)), (3, .int (nI i1)), (4, .int (nI j1)), (5, .int lo), (6, .int hi), (8, .int (nI j))] → W p l e ({ frames := 2, cells := 0, slots := 0, locals := 46 }) s m args below meth c H locs 0 0 Q (F0 m 102 ls [])) :
    ∀ n : Nat, ∀ (g1 : Nat → Int32) (g2 : Nat → Int32) (i : Nat), (i ≤ 5) → (i1 < 5) → (j < 5) → (j1 < 5) → (5 - i) < n → ∀ (H : Heap) (locs : List Loc), va_P D vwCl [(h0, .inr (8, [.ref tp, .ref rd, .ref dr, .ref fa, .ref ly, .ref wy])), (fa, .inr (3, [.ref cu, .ref rv, .ref bt, .int 0, .int 0, .int 0])), (rv, .inr (5, [.int 5, .int 5, .ref rv1, .ref rv2, .ref rv3, .ref rv4, .ref rv5, .ref rv6])), (rv1, .inl (rc1, 100, .inl g1)), (rv2, .inl (rc2, 100, .inl g2)), (rv3, .inl (rc3, 100, .inl (fun _ => 0))), (rv4, .inl (rc4, 100, .inl (fun _ => (-1)))), (rv5, .inl (rc5, 100, .inl (fun _ => 0))), (rv6, .inl (rc6, 100, .inl (fun _ => 0)))] H → va_D A [(h0, .inr (8, [.ref tp, .ref rd, .ref dr, .ref fa, .ref ly, .ref wy])), (fa, .inr (3, [.ref cu, .ref rv, .ref bt, .int 0, .int 0, .int 0])), (rv, .inr (5, [.int 5, .int 5, .ref rv1, .ref rv2, .ref rv3, .ref rv4, .ref rv5, .ref rv6])), (rv1, .inl (rc1, 100, .inl g1)), (rv2, .inl (rc2, 100, .inl g2)), (rv3, .inl (rc3, 100, .inl (fun _ => 0))), (rv4, .inl (rc4, 100, .inl (fun _ => (-1)))), (rv5, .inl (rc5, 100, .inl (fun _ => 0))), (rv6, .inl (rc6, 100, .inl (fun _ => 0)))] → va_S A s.heap H locs → ∀ ls : Array Slot, lv_has ls 10 [(0, .ref h0), (7, .ref rv), (3, .int (nI i1)), (4, .int (nI j1)), (5, .int lo), (6, .int hi), (8, .int (nI j)), (9, .int (nI i)), (1, .int (nI i0))] → W p l e ({ frames := 2, cells := 0, slots := 0, locals := 46 }) s m args below meth c H locs 0 0 Q (F0 m 77 ls []) := by
  intro n
  induction n with
  | zero => intro g1 g2 i b1 b2 b3 b4 hn; exact absurd hn (Nat.not_lt_zero _)
  | succ n ih =>
    intro g1 g2 i b1 b2 b3 b4 hn H locs hP hD hS ls hl
    obtain ⟨hx, hb, hml, hown, hts⟩ := id F
    refine lv_iload hx hb dX9_sound_77 (lv_at hl 7 rfl) ?_
    refine lv_iload_n hx hb dX9_sound_79 rfl (lv_at hl 2 rfl) ?_
    refine lv_icmp_gt (tgt := 102) hx hb dX9_sound_80 (by decide) (fun c_1 => ?_) (fun c_1 => ?_)
    · skip
      have c_1n : i1 < i := (nI_ltI (by omega) (by omega)).mp c_1
      exact kx_102 g1 g2  H locs (hP.sub [0, 1, 2, 3, 4, 5, 6, 7, 8] rfl) (hD.sub [0, 1, 2, 3, 4, 5, 6, 7, 8] (by decide) rfl) hS ls (lv_sub hl [0, 1, 8, 2, 3, 4, 5, 6] rfl)
    · skip
      have c_1n : i ≤ i1 := nb_lt (by omega) (by omega) c_1
      refine lv_aload hx hb dX9_sound_83 (lv_at hl 1 rfl) ?_
      refine lv_iload hx hb dX9_sound_85 (lv_at hl 7 rfl) ?_
      refine lv_iload hx hb dX9_sound_87 (lv_at hl 6 rfl) ?_
      refine lv_iload hx hb dX9_sound_89 (lv_at hl 4 rfl) ?_
      refine lv_iload hx hb dX9_sound_91 (lv_at hl 5 rfl) ?_
      refine mc_Vv (rest := []) (wr := [(h0, .inr (8, [.ref tp, .ref rd, .ref dr, .ref fa, .ref ly, .ref wy])), (fa, .inr (3, [.ref cu, .ref rv, .ref bt, .int 0, .int 0, .int 0]))]) F hK hP hD hS hA (c_makeThick l D rv rv1 rv2 rv3 rv4 rv5 rv6 rc1 rc2 rc3 rc4 rc5 rc6 g1 g2 (fun _ => 0) (fun _ => (-1)) (fun _ => 0) (fun _ => 0) 5 5 i j lo hi (by omega) (by omega) (by omega) (by omega) (by omega) (by omega)) ⟨gk_X9_94.1, gk_X9_94.2, Nat.le_of_ble_eq_true rfl, Nat.le_of_ble_eq_true rfl⟩ [2, 3, 4, 5, 6, 7, 8] [0, 1] [0, 1, 2, 3, 4, 5] ⟨rfl, rfl, rfl, rfl, by decide⟩ rfl xT_move (fun _ _ _ => trivial) 2 rfl rfl rfl hl.1 rfl (Nat.le_of_ble_eq_true rfl) dX9_sound_93 ⟨Nat.le_of_ble_eq_true rfl, Nat.le_of_ble_eq_true rfl⟩ (fun u H locs hw hK1 hP hD hS => ?_)
      obtain ⟨g1_2, g2_3⟩ := u
      have hP : va_P D vwCl [(h0, .inr (8, [.ref tp, .ref rd, .ref dr, .ref fa, .ref ly, .ref wy])), (fa, .inr (3, [.ref cu, .ref rv, .ref bt, .int 0, .int 0, .int 0])), (rv, .inr (5, [.int 5, .int 5, .ref rv1, .ref rv2, .ref rv3, .ref rv4, .ref rv5, .ref rv6])), (rv1, .inl (rc1, 100, .inl g1_2)), (rv2, .inl (rc2, 100, .inl g2_3)), (rv3, .inl (rc3, 100, .inl ((fun _ => 0)))), (rv4, .inl (rc4, 100, .inl ((fun _ => (-1))))), (rv5, .inl (rc5, 100, .inl ((fun _ => 0)))), (rv6, .inl (rc6, 100, .inl ((fun _ => 0))))] H := hP
      have hD : va_D A [(h0, .inr (8, [.ref tp, .ref rd, .ref dr, .ref fa, .ref ly, .ref wy])), (fa, .inr (3, [.ref cu, .ref rv, .ref bt, .int 0, .int 0, .int 0])), (rv, .inr (5, [.int 5, .int 5, .ref rv1, .ref rv2, .ref rv3, .ref rv4, .ref rv5, .ref rv6])), (rv1, .inl (rc1, 100, .inl g1_2)), (rv2, .inl (rc2, 100, .inl g2_3)), (rv3, .inl (rc3, 100, .inl ((fun _ => 0)))), (rv4, .inl (rc4, 100, .inl ((fun _ => (-1))))), (rv5, .inl (rc5, 100, .inl ((fun _ => 0)))), (rv6, .inl (rc6, 100, .inl ((fun _ => 0))))] := hD
      refine lv_iinc (v := nI (i + 1)) (lv' := [(9, .int (nI (i + 1))), (0, .ref h0), (7, .ref rv), (3, .int (nI i1)), (4, .int (nI j1)), (5, .int lo), (6, .int hi), (8, .int (nI j)), (1, .int (nI i0))]) hx hb dX9_sound_96 hl (k := 7) rfl (nI_add i 1) (by decide) rfl (fun ls hl => ?_)
      refine lv_goto (tgt := 77) hx hb dX9_sound_99 (by decide) ?_
      exact ih g1_2 g2_3 (i + 1) (by omega) (by omega) (by omega) (by omega) (by omega) H locs (hP.sub [0, 1, 2, 3, 4, 5, 6, 7, 8] rfl) (hD.sub [0, 1, 2, 3, 4, 5, 6, 7, 8] (by decide) rfl) hS ls (lv_sub hl [1, 2, 3, 4, 5, 6, 7, 0, 8] rfl)
theorem dX9_sound_67 : decode cX9_sound 67 = .ok (.iload 8, 2) := by decide +kernel
theorem dX9_sound_69 : decode cX9_sound 69 = .ok (.iload 4, 2) := by decide +kernel
theorem dX9_sound_71 : decode cX9_sound 71 = .ok (.if_icmp .gt 37, 3) := by decide +kernel
theorem dX9_sound_74 : decode cX9_sound 74 = .ok (.iload_n 1, 1) := by decide +kernel
theorem dX9_sound_75 : decode cX9_sound 75 = .ok (.istore 9, 2) := by decide +kernel
theorem dX9_sound_102 : decode cX9_sound 102 = .ok (.iinc 8 1, 3) := by decide +kernel
theorem dX9_sound_105 : decode cX9_sound 105 = .ok (.goto (-38), 3) := by decide +kernel
set_option maxHeartbeats 4000000 in
set_option maxRecDepth 100000 in
theorem lp_sound_out {p : Program} {l : Launch} {e : Env} {s : State} {m : MethodId} {args : Array Value} {below : List Frame} {meth : Method} {c : Code} {Q : State → Prop} {A : Nat → Prop} {D : va_G} (F : mFix p s m args c cX9_sound 10 RX9) (hA : ∀ q, s.heap.size ≤ q → A q) (h0 : Nat) (tp : Nat) (rd : Nat) (dr : Nat) (fa : Nat) (ly : Nat) (wy : Nat) (cu : Nat) (rv : Nat) (bt : Nat) (rv1 : Nat) (rv2 : Nat) (rv3 : Nat) (rv4 : Nat) (rv5 : Nat) (rv6 : Nat) (rc1 : ClassId) (rc2 : ClassId) (rc3 : ClassId) (rc4 : ClassId) (rc5 : ClassId) (rc6 : ClassId) (i0 : Nat) (i1 : Nat) (j1 : Nat) (lo : Int32) (hi : Int32) (hK : va_K D vwCl [(rc1, .int), (rc2, .int), (rc3, .int), (rc4, .int), (rc5, .boolean), (rc6, .boolean)] s)
    (kx_108 : ∀ (g1 : Nat → Int32) (g2 : Nat → Int32), ∀ (H : Heap) (locs : List Loc), va_P D vwCl [(h0, .inr (8, [.ref tp, .ref rd, .ref dr, .ref fa, .ref ly, .ref wy])), (fa, .inr (3, [.ref cu, .ref rv, .ref bt, .int 0, .int 0, .int 0])), (rv, .inr (5, [.int 5, .int 5, .ref rv1, .ref rv2, .ref rv3, .ref rv4, .ref rv5, .ref rv6])), (rv1, .inl (rc1, 100, .inl g1)), (rv2, .inl (rc2, 100, .inl g2)), (rv3, .inl (rc3, 100, .inl (fun _ => 0))), (rv4, .inl (rc4, 100, .inl (fun _ => (-1)))), (rv5, .inl (rc5, 100, .inl (fun _ => 0))), (rv6, .inl (rc6, 100, .inl (fun _ => 0)))] H → va_D A [(h0, .inr (8, [.ref tp, .ref rd, .ref dr, .ref fa, .ref ly, .ref wy])), (fa, .inr (3, [.ref cu, .ref rv, .ref bt, .int 0, .int 0, .int 0])), (rv, .inr (5, [.int 5, .int 5, .ref rv1, .ref rv2, .ref rv3, .ref rv4, .ref rv5, .ref rv6])), (rv1, .inl (rc1, 100, .inl g1)), (rv2, .inl (rc2, 100, .inl g2)), (rv3, .inl (rc3, 100, .inl (fun _ => 0))), (rv4, .inl (rc4, 100, .inl (fun _ => (-1)))), (rv5, .inl (rc5, 100, .inl (fun _ => 0))), (rv6, .inl (rc6, 100, .inl (fun _ => 0)))] → va_S A s.heap H locs → ∀ ls : Array Slot, lv_has ls 10 [] → W p l e ({ frames := 2, cells := 0, slots := 0, locals := 46 }) s m args below meth c H locs 0 0 Q (F0 m 108 ls [])) :
    ∀ n : Nat, ∀ (g1 : Nat → Int32) (g2 : Nat → Int32) (j : Nat), (j ≤ 5) → (i1 < 5) → (i0 < 5) → (j1 < 5) → (5 - j) < n → ∀ (H : Heap) (locs : List Loc), va_P D vwCl [(h0, .inr (8, [.ref tp, .ref rd, .ref dr, .ref fa, .ref ly, .ref wy])), (fa, .inr (3, [.ref cu, .ref rv, .ref bt, .int 0, .int 0, .int 0])), (rv, .inr (5, [.int 5, .int 5, .ref rv1, .ref rv2, .ref rv3, .ref rv4, .ref rv5, .ref rv6])), (rv1, .inl (rc1, 100, .inl g1)), (rv2, .inl (rc2, 100, .inl g2)), (rv3, .inl (rc3, 100, .inl (fun _ => 0))), (rv4, .inl (rc4, 100, .inl (fun _ => (-1)))), (rv5, .inl (rc5, 100, .inl (fun _ => 0))), (rv6, .inl (rc6, 100, .inl (fun _ => 0)))] H → va_D A [(h0, .inr (8, [.ref tp, .ref rd, .ref dr, .ref fa, .ref ly, .ref wy])), (fa, .inr (3, [.ref cu, .ref rv, .ref bt, .int 0, .int 0, .int 0])), (rv, .inr (5, [.int 5, .int 5, .ref rv1, .ref rv2, .ref rv3, .ref rv4, .ref rv5, .ref rv6])), (rv1, .inl (rc1, 100, .inl g1)), (rv2, .inl (rc2, 100, .inl g2)), (rv3, .inl (rc3, 100, .inl (fun _ => 0))), (rv4, .inl (rc4, 100, .inl (fun _ => (-1)))), (rv5, .inl (rc5, 100, .inl (fun _ => 0))), (rv6, .inl (rc6, 100, .inl (fun _ => 0)))] → va_S A s.heap H locs → ∀ ls : Array Slot, lv_has ls 10 [(0, .ref h0), (7, .ref rv), (1, .int (nI i0)), (3, .int (nI i1)), (4, .int (nI j1)), (5, .int lo), (6, .int hi), (8, .int (nI j))] → W p l e ({ frames := 2, cells := 0, slots := 0, locals := 46 }) s m args below meth c H locs 0 0 Q (F0 m 67 ls []) := by
  intro n
  induction n with
  | zero => intro g1 g2 j b1 b2 b3 b4 hn; exact absurd hn (Nat.not_lt_zero _)
  | succ n ih =>
    intro g1 g2 j b1 b2 b3 b4 hn H locs hP hD hS ls hl
    obtain ⟨hx, hb, hml, hown, hts⟩ := id F
    refine lv_iload hx hb dX9_sound_67 (lv_at hl 7 rfl) ?_
    refine lv_iload hx hb dX9_sound_69 (lv_at hl 4 rfl) ?_
    refine lv_icmp_gt (tgt := 108) hx hb dX9_sound_71 (by decide) (fun c_1 => ?_) (fun c_1 => ?_)
    · skip
      have c_1n : j1 < j := (nI_ltI (by omega) (by omega)).mp c_1
      exact kx_108 g1 g2  H locs (hP.sub [0, 1, 2, 3, 4, 5, 6, 7, 8] rfl) (hD.sub [0, 1, 2, 3, 4, 5, 6, 7, 8] (by decide) rfl) hS ls (lv_sub hl [] rfl)
    · skip
      have c_1n : j ≤ j1 := nb_lt (by omega) (by omega) c_1
      refine lv_iload_n hx hb dX9_sound_74 rfl (lv_at hl 2 rfl) ?_
      refine lv_istore (lv' := [(9, .int (nI i0)), (0, .ref h0), (7, .ref rv), (1, .int (nI i0)), (3, .int (nI i1)), (4, .int (nI j1)), (5, .int lo), (6, .int hi), (8, .int (nI j))]) hx hb dX9_sound_75 hl (by decide) rfl (fun ls hl => ?_)
      refine lp_sound_in F hA h0 tp rd dr fa ly wy cu rv bt rv1 rv2 rv3 rv4 rv5 rv6 rc1 rc2 rc3 rc4 rc5 rc6 i0 i1 j1 lo hi j (hK.sub [0, 1, 2, 3, 4, 5] rfl) (fun g1_2 g2_3  H locs hP hD hS ls hl => ?_) _ g1 g2 i0 (by omega) (by omega) (by omega) (by omega) (Nat.lt_succ_self _) _ _ (hP.sub [0, 1, 2, 3, 4, 5, 6, 7, 8] rfl) (hD.sub [0, 1, 2, 3, 4, 5, 6, 7, 8] (by decide) rfl) hS ls (lv_sub hl [1, 2, 4, 5, 6, 7, 8, 0, 3] rfl)
      refine lv_iinc (v := nI (j + 1)) (lv' := [(8, .int (nI (j + 1))), (0, .ref h0), (7, .ref rv), (1, .int (nI i0)), (3, .int (nI i1)), (4, .int (nI j1)), (5, .int lo), (6, .int hi)]) hx hb dX9_sound_102 hl (k := 7) rfl (nI_add j 1) (by decide) rfl (fun ls hl => ?_)
      refine lv_goto (tgt := 67) hx hb dX9_sound_105 (by decide) ?_
      exact ih g1_2 g2_3 (j + 1) (by omega) (by omega) (by omega) (by omega) (by omega) H locs (hP.sub [0, 1, 2, 3, 4, 5, 6, 7, 8] rfl) (hD.sub [0, 1, 2, 3, 4, 5, 6, 7, 8] (by decide) rfl) hS ls (lv_sub hl [1, 2, 3, 4, 5, 6, 7, 0] rfl)
theorem dX9_sound_0 : decode cX9_sound 0 = .ok (.aload_n 0, 1) := by decide +kernel
theorem dX9_sound_1 : decode cX9_sound 1 = .ok (.getfield 33, 3) := by decide +kernel
theorem kw_1_222 : Cond.fieldLink RX9 84 "IceFair$Fair" "river" "LIceFair$River;" ∈ gw := gw_t1 (List.mem_of_getElem? (i := 222) (by decide +kernel)) (by decide +kernel)
theorem dX9_sound_4 : decode cX9_sound 4 = .ok (.getfield 84, 3) := by decide +kernel
theorem dX9_sound_7 : decode cX9_sound 7 = .ok (.astore 7, 2) := by decide +kernel
theorem dX9_sound_9 : decode cX9_sound 9 = .ok (.aload 7, 2) := by decide +kernel
theorem dX9_sound_11 : decode cX9_sound 11 = .ok (.iload_n 1, 1) := by decide +kernel
theorem dX9_sound_12 : decode cX9_sound 12 = .ok (.iload_n 2, 1) := by decide +kernel
theorem kw_3_6 : Cond.methodLink RX9 88 yX6_has ∈ gw := gw_t3 (List.mem_of_getElem? (i := 6) (by decide +kernel)) (by decide +kernel)
theorem gk_X9_88 : GoodIn gw (wsV RX9 88 RX6 yX6_has (.code yX6_has cX6_has 3 (some .boolean) :: gw)) ∧ (yX6_has.cls = RX6 ∧ yX6_has.cls ≠ "java/lang/invoke/MethodHandle" ∧ yX6_has.cls ≠ "java/lang/invoke/VarHandle" ∧ (parseMethodDescriptor yX6_has.desc).map (fun d => d.parameters.length) = some 2) := ⟨gi_V kw_3_6 kw_3_7 kw_3_8 kw_1_7 kw_3_9, by decide +kernel⟩
theorem dX9_sound_13 : decode cX9_sound 13 = .ok (.invokevirtual 88, 3) := by decide +kernel
theorem dX9_sound_16 : decode cX9_sound 16 = .ok (.ifCond .eq 25, 3) := by decide +kernel
theorem dX9_sound_41 : decode cX9_sound 41 = .ok (.iconst 0, 1) := by decide +kernel
theorem dX9_sound_42 : decode cX9_sound 42 = .ok (.ireturn, 1) := by decide +kernel
theorem dX9_sound_19 : decode cX9_sound 19 = .ok (.aload 7, 2) := by decide +kernel
theorem dX9_sound_21 : decode cX9_sound 21 = .ok (.iload_n 3, 1) := by decide +kernel
theorem dX9_sound_22 : decode cX9_sound 22 = .ok (.iload 4, 2) := by decide +kernel
theorem dX9_sound_24 : decode cX9_sound 24 = .ok (.invokevirtual 88, 3) := by decide +kernel
theorem dX9_sound_27 : decode cX9_sound 27 = .ok (.ifCond .eq 14, 3) := by decide +kernel
theorem dX9_sound_30 : decode cX9_sound 30 = .ok (.iload_n 1, 1) := by decide +kernel
theorem dX9_sound_31 : decode cX9_sound 31 = .ok (.iload_n 3, 1) := by decide +kernel
theorem dX9_sound_32 : decode cX9_sound 32 = .ok (.if_icmp .gt 9, 3) := by decide +kernel
theorem dX9_sound_35 : decode cX9_sound 35 = .ok (.iload_n 2, 1) := by decide +kernel
theorem dX9_sound_36 : decode cX9_sound 36 = .ok (.iload 4, 2) := by decide +kernel
theorem dX9_sound_38 : decode cX9_sound 38 = .ok (.if_icmp .le 5, 3) := by decide +kernel
theorem dX9_sound_43 : decode cX9_sound 43 = .ok (.iload 5, 2) := by decide +kernel
theorem dX9_sound_45 : decode cX9_sound 45 = .ok (.ifCond .lt 17, 3) := by decide +kernel
theorem dX9_sound_62 : decode cX9_sound 62 = .ok (.iconst 0, 1) := by decide +kernel
theorem dX9_sound_63 : decode cX9_sound 63 = .ok (.ireturn, 1) := by decide +kernel
theorem dX9_sound_48 : decode cX9_sound 48 = .ok (.iload 5, 2) := by decide +kernel
theorem dX9_sound_50 : decode cX9_sound 50 = .ok (.iload 6, 2) := by decide +kernel
theorem dX9_sound_52 : decode cX9_sound 52 = .ok (.if_icmp .gt 10, 3) := by decide +kernel
theorem dX9_sound_55 : decode cX9_sound 55 = .ok (.iload 6, 2) := by decide +kernel
theorem dX9_sound_57 : decode cX9_sound 57 = .ok (.bipush 99, 2) := by decide +kernel
theorem dX9_sound_59 : decode cX9_sound 59 = .ok (.if_icmp .le 5, 3) := by decide +kernel
theorem dX9_sound_64 : decode cX9_sound 64 = .ok (.iload_n 2, 1) := by decide +kernel
theorem dX9_sound_65 : decode cX9_sound 65 = .ok (.istore 8, 2) := by decide +kernel
theorem dX9_sound_108 : decode cX9_sound 108 = .ok (.iconst 1, 1) := by decide +kernel
theorem dX9_sound_109 : decode cX9_sound 109 = .ok (.ireturn, 1) := by decide +kernel
set_option maxHeartbeats 4000000 in
set_option maxRecDepth 100000 in
theorem c_sound (l : Launch) (D : va_G) (h0 : Nat) (tp : Nat) (rd : Nat) (dr : Nat) (fa : Nat) (ly : Nat) (wy : Nat) (cu : Nat) (rv : Nat) (bt : Nat) (rv1 : Nat) (rv2 : Nat) (rv3 : Nat) (rv4 : Nat) (rv5 : Nat) (rv6 : Nat) (rc1 : ClassId) (rc2 : ClassId) (rc3 : ClassId) (rc4 : ClassId) (rc5 : ClassId) (rc6 : ClassId) (x0 : Int32) (y0 : Int32) (x1 : Int32) (y1 : Int32) (lo : Int32) (hi : Int32) : cI l yX9_sound (.code yX9_sound cX9_sound 10 (some .boolean)) ({ frames := 2, cells := 0, slots := 0, locals := 46 }) D [(rc1, .int), (rc2, .int), (rc3, .int), (rc4, .int), (rc5, .boolean), (rc6, .boolean)] [(h0, .inr (8, [.ref tp, .ref rd, .ref dr, .ref fa, .ref ly, .ref wy])), (fa, .inr (3, [.ref cu, .ref rv, .ref bt, .int 0, .int 0, .int 0])), (rv, .inr (5, [.int 5, .int 5, .ref rv1, .ref rv2, .ref rv3, .ref rv4, .ref rv5, .ref rv6])), (rv1, .inl (rc1, 100, .inl (fun _ => 0))), (rv2, .inl (rc2, 100, .inl (fun _ => 0))), (rv3, .inl (rc3, 100, .inl (fun _ => 0))), (rv4, .inl (rc4, 100, .inl (fun _ => (-1)))), (rv5, .inl (rc5, 100, .inl (fun _ => 0))), (rv6, .inl (rc6, 100, .inl (fun _ => 0)))] xT [.ref h0, .int x0, .int y0, .int x1, .int y1, .int lo, .int hi] (S := Unit) (fun r _ => r = (if (x0 < 0 ∨ ¬ x0 < nI 5 ∨ y0 < 0 ∨ ¬ y0 < nI 5) ∨ (x1 < 0 ∨ ¬ x1 < nI 5 ∨ y1 < 0 ∨ ¬ y1 < nI 5) ∨ x1 < x0 ∨ y1 < y0 ∨ lo < 0 ∨ hi < lo ∨ 99 < hi then 0 else 1)) (fun _ => []) (fun _ => []) := by
  intro sz
  refine Met.ofW (cc := cX9_sound) (maxL := 10) (ret := (some .boolean)) (by decide) rfl ?_
  intro p e s m args below meth c s₁ B hml hv
  obtain ⟨rfl, hsz, hP, hK, hD0, hX⟩ := hv
  have hx := B.exec
  have hb := B.bytes
  have hr := B.returns
  have hts0 := atoms_spec (ws := .code yX9_sound cX9_sound 10 (some .boolean) :: gw) B.pre
  have hts := fun (w : Cond) (h : w ∈ gw) => hts0 w (List.mem_cons_of_mem _ h)
  have hown : s.vm.findClass RX9 = some m.cls := findClass_of_methodNamed B.named
  have hlocks := B.notSynchronized
  have F : mFix p s m _ c cX9_sound 10 RX9 := ⟨hx, hb, hml, hown, hts⟩
  subst hsz
  have hD := hD0.self (sz := s.heap.size)
  generalize hAe : va_A [(h0, .inr (8, [.ref tp, .ref rd, .ref dr, .ref fa, .ref ly, .ref wy])), (fa, .inr (3, [.ref cu, .ref rv, .ref bt, .int 0, .int 0, .int 0])), (rv, .inr (5, [.int 5, .int 5, .ref rv1, .ref rv2, .ref rv3, .ref rv4, .ref rv5, .ref rv6])), (rv1, .inl (rc1, 100, .inl (fun _ => 0))), (rv2, .inl (rc2, 100, .inl (fun _ => 0))), (rv3, .inl (rc3, 100, .inl (fun _ => 0))), (rv4, .inl (rc4, 100, .inl (fun _ => (-1)))), (rv5, .inl (rc5, 100, .inl (fun _ => 0))), (rv6, .inl (rc6, 100, .inl (fun _ => 0)))] s.heap.size = A at hD hX ⊢
  have hA : ∀ q : Nat, s.heap.size ≤ q → A q := fun q h => by rw [← hAe]; exact Or.inr h
  have hS : va_S A s.heap s.heap [] := va_S.rf
  have hl := lv_entry ([.ref h0, .int x0, .int y0, .int x1, .int y1, .int lo, .int hi]) (n := 10) (Nat.le_of_ble_eq_true rfl)
  rw [lg_entry_eq]
  generalize (lg_sl ([.ref h0, .int x0, .int y0, .int x1, .int y1, .int lo, .int hi]) ++ List.replicate (10 - (lg_sl ([.ref h0, .int x0, .int y0, .int x1, .int y1, .int lo, .int hi])).length) Slot.unset).toArray = ls at hl ⊢
  have hl : lv_has ls 10 [(0, .ref h0), (1, .int x0), (2, .int y0), (3, .int x1), (4, .int y1), (5, .int lo), (6, .int hi)] := hl
  have hP : va_P D vwCl [(h0, .inr (8, [.ref tp, .ref rd, .ref dr, .ref fa, .ref ly, .ref wy])), (fa, .inr (3, [.ref cu, .ref rv, .ref bt, .int 0, .int 0, .int 0])), (rv, .inr (5, [.int 5, .int 5, .ref rv1, .ref rv2, .ref rv3, .ref rv4, .ref rv5, .ref rv6])), (rv1, .inl (rc1, 100, .inl (fun _ => 0))), (rv2, .inl (rc2, 100, .inl (fun _ => 0))), (rv3, .inl (rc3, 100, .inl (fun _ => 0))), (rv4, .inl (rc4, 100, .inl (fun _ => (-1)))), (rv5, .inl (rc5, 100, .inl (fun _ => 0))), (rv6, .inl (rc6, 100, .inl (fun _ => 0)))] s.heap := hP
  refine lv_aload_n hx hb dX9_sound_0 rfl (lv_at hl 0 rfl) ?_
  refine va_get (D := D) (ci := 8) (v := .ref fa) (C := RX9) (T := TX9) (N := 6) hx hb hts inG_X9 hown hK hP 0 rfl rfl 3 (by decide) (hts _ kw_2_70) (fun _ h9 => h9) rfl dX9_sound_1 ?_
  refine va_get (D := D) (ci := 3) (v := .ref rv) (C := RX3) (T := TX3) (N := 6) hx hb hts inG_X3 hown hK hP 1 rfl rfl 1 (by decide) (hts _ kw_1_222) (fun _ h9 => h9) rfl dX9_sound_4 ?_
  refine lv_astore (lv' := [(7, .ref rv), (0, .ref h0), (1, .int x0), (2, .int y0), (3, .int x1), (4, .int y1), (5, .int lo), (6, .int hi)]) hx hb dX9_sound_7 hl (by decide) rfl (fun ls hl => ?_)
  refine lv_aload hx hb dX9_sound_9 (lv_at hl 0 rfl) ?_
  refine lv_iload_n hx hb dX9_sound_11 rfl (lv_at hl 2 rfl) ?_
  refine lv_iload_n hx hb dX9_sound_12 rfl (lv_at hl 3 rfl) ?_
  refine mc_Vi (rest := []) (wr := [(h0, .inr (8, [.ref tp, .ref rd, .ref dr, .ref fa, .ref ly, .ref wy])), (fa, .inr (3, [.ref cu, .ref rv, .ref bt, .int 0, .int 0, .int 0])), (rv1, .inl (rc1, 100, .inl (fun _ => 0))), (rv2, .inl (rc2, 100, .inl (fun _ => 0))), (rv3, .inl (rc3, 100, .inl (fun _ => 0))), (rv4, .inl (rc4, 100, .inl (fun _ => (-1)))), (rv5, .inl (rc5, 100, .inl (fun _ => 0))), (rv6, .inl (rc6, 100, .inl (fun _ => 0)))]) F hK hP hD hS hA (c_has_any l D rv rv1 rv2 rv3 rv4 rv5 rv6 5 5 x0 y0 (by omega) (by omega)) ⟨gk_X9_88.1, gk_X9_88.2, Nat.le_of_ble_eq_true rfl, Nat.le_of_ble_eq_true rfl⟩ [2] [0, 1, 3, 4, 5, 6, 7, 8] [] ⟨rfl, rfl, rfl, rfl, by decide⟩ rfl xT_move (fun _ _ _ => trivial) 2 rfl rfl rfl hl.1 rfl (Nat.le_of_ble_eq_true rfl) dX9_sound_13 ⟨Nat.le_of_ble_eq_true rfl, Nat.le_of_ble_eq_true rfl⟩ (fun r_1 _ H locs hw hK1 hP hD hS => ?_)
  have hP : va_P D vwCl [(h0, .inr (8, [.ref tp, .ref rd, .ref dr, .ref fa, .ref ly, .ref wy])), (fa, .inr (3, [.ref cu, .ref rv, .ref bt, .int 0, .int 0, .int 0])), (rv1, .inl (rc1, 100, .inl (fun _ => 0))), (rv2, .inl (rc2, 100, .inl (fun _ => 0))), (rv3, .inl (rc3, 100, .inl (fun _ => 0))), (rv4, .inl (rc4, 100, .inl (fun _ => (-1)))), (rv5, .inl (rc5, 100, .inl (fun _ => 0))), (rv6, .inl (rc6, 100, .inl (fun _ => 0))), (rv, .inr (5, [.int 5, .int 5, .ref rv1, .ref rv2, .ref rv3, .ref rv4, .ref rv5, .ref rv6]))] H := hP
  have hD : va_D A [(h0, .inr (8, [.ref tp, .ref rd, .ref dr, .ref fa, .ref ly, .ref wy])), (fa, .inr (3, [.ref cu, .ref rv, .ref bt, .int 0, .int 0, .int 0])), (rv1, .inl (rc1, 100, .inl (fun _ => 0))), (rv2, .inl (rc2, 100, .inl (fun _ => 0))), (rv3, .inl (rc3, 100, .inl (fun _ => 0))), (rv4, .inl (rc4, 100, .inl (fun _ => (-1)))), (rv5, .inl (rc5, 100, .inl (fun _ => 0))), (rv6, .inl (rc6, 100, .inl (fun _ => 0))), (rv, .inr (5, [.int 5, .int 5, .ref rv1, .ref rv2, .ref rv3, .ref rv4, .ref rv5, .ref rv6]))] := hD
  have hw_2 : r_1 = (if (x0 < 0 ∨ ¬ x0 < nI 5 ∨ y0 < 0 ∨ ¬ y0 < nI 5) then 0 else 1) := hw
  by_cases ho_3 : (x0 < 0 ∨ ¬ x0 < nI 5 ∨ y0 < 0 ∨ ¬ y0 < nI 5)
  · skip
    obtain rfl : r_1 = 0 := by rw [hw_2, if_pos ho_3]
    refine lv_if_eq (tgt := 41) hx hb dX9_sound_16 (by decide) (fun c_4 => ?_) (fun c_4 => absurd c_4 (by decide))
    refine lv_iconst (v := 0) hx hb dX9_sound_41 (by decide) ?_
    have hP9 := hP.sub (ws' := []) [] rfl
    have hD9 := hD.sub (ws' := []) [] (by decide) rfl
    have hK9 := hK.sub (tys' := []) [] rfl
    refine W.widen (k := 0) (n := 0) (by decide) (by decide) ?_
    exact W.zret (v := 0) hx hb hr rfl (fun t ht hW => ⟨⟨0, (), rfl, by simp only [ho_3, or_false, false_or, or_true, true_or, not_true_eq_false, not_false_eq_true, ↓reduceIte], by rw [ht]; exact hP9, va_K.moved hW.alike hK9, hD9⟩, hS.F ht⟩) hS.2.2 dX9_sound_42
  · skip
    obtain rfl : r_1 = 1 := by rw [hw_2, if_neg ho_3]
    obtain ⟨i_5, hi_5, ei_5⟩ : ∃ j : Nat, j < 5 ∧ x0 = nI j := n_lt (fun q => ho_3 (Or.inl q)) (fun q => ho_3 (Or.inr (Or.inl (Int32.not_lt.mpr q)))) (by omega)
    obtain ⟨j_6, hj_6, ej_6⟩ : ∃ j : Nat, j < 5 ∧ y0 = nI j := n_lt (fun q => ho_3 (Or.inr (Or.inr (Or.inl q)))) (fun q => ho_3 (Or.inr (Or.inr (Or.inr (Int32.not_lt.mpr q))))) (by omega)
    subst ei_5
    subst ej_6
    have hl : lv_has ls 10 [(7, .ref rv), (0, .ref h0), (1, .int (nI i_5)), (2, .int (nI j_6)), (3, .int x1), (4, .int y1), (5, .int lo), (6, .int hi)] := hl
    refine lv_if_eq (tgt := 41) hx hb dX9_sound_16 (by decide) (fun c_7 => absurd c_7 (by decide)) (fun c_7 => ?_)
    refine lv_aload hx hb dX9_sound_19 (lv_at hl 0 rfl) ?_
    refine lv_iload_n hx hb dX9_sound_21 rfl (lv_at hl 4 rfl) ?_
    refine lv_iload hx hb dX9_sound_22 (lv_at hl 5 rfl) ?_
    refine mc_Vi (rest := []) (wr := [(h0, .inr (8, [.ref tp, .ref rd, .ref dr, .ref fa, .ref ly, .ref wy])), (fa, .inr (3, [.ref cu, .ref rv, .ref bt, .int 0, .int 0, .int 0])), (rv1, .inl (rc1, 100, .inl (fun _ => 0))), (rv2, .inl (rc2, 100, .inl (fun _ => 0))), (rv3, .inl (rc3, 100, .inl (fun _ => 0))), (rv4, .inl (rc4, 100, .inl (fun _ => (-1)))), (rv5, .inl (rc5, 100, .inl (fun _ => 0))), (rv6, .inl (rc6, 100, .inl (fun _ => 0)))]) F hK hP hD hS hA (c_has_any l D rv rv1 rv2 rv3 rv4 rv5 rv6 5 5 x1 y1 (by omega) (by omega)) ⟨gk_X9_88.1, gk_X9_88.2, Nat.le_of_ble_eq_true rfl, Nat.le_of_ble_eq_true rfl⟩ [8] [0, 1, 2, 3, 4, 5, 6, 7] [] ⟨rfl, rfl, rfl, rfl, by decide⟩ rfl xT_move (fun _ _ _ => trivial) 8 rfl rfl rfl hl.1 rfl (Nat.le_of_ble_eq_true rfl) dX9_sound_24 ⟨Nat.le_of_ble_eq_true rfl, Nat.le_of_ble_eq_true rfl⟩ (fun r_8 _ H locs hw hK1 hP hD hS => ?_)
    have hP : va_P D vwCl [(h0, .inr (8, [.ref tp, .ref rd, .ref dr, .ref fa, .ref ly, .ref wy])), (fa, .inr (3, [.ref cu, .ref rv, .ref bt, .int 0, .int 0, .int 0])), (rv1, .inl (rc1, 100, .inl (fun _ => 0))), (rv2, .inl (rc2, 100, .inl (fun _ => 0))), (rv3, .inl (rc3, 100, .inl (fun _ => 0))), (rv4, .inl (rc4, 100, .inl (fun _ => (-1)))), (rv5, .inl (rc5, 100, .inl (fun _ => 0))), (rv6, .inl (rc6, 100, .inl (fun _ => 0))), (rv, .inr (5, [.int 5, .int 5, .ref rv1, .ref rv2, .ref rv3, .ref rv4, .ref rv5, .ref rv6]))] H := hP
    have hD : va_D A [(h0, .inr (8, [.ref tp, .ref rd, .ref dr, .ref fa, .ref ly, .ref wy])), (fa, .inr (3, [.ref cu, .ref rv, .ref bt, .int 0, .int 0, .int 0])), (rv1, .inl (rc1, 100, .inl (fun _ => 0))), (rv2, .inl (rc2, 100, .inl (fun _ => 0))), (rv3, .inl (rc3, 100, .inl (fun _ => 0))), (rv4, .inl (rc4, 100, .inl (fun _ => (-1)))), (rv5, .inl (rc5, 100, .inl (fun _ => 0))), (rv6, .inl (rc6, 100, .inl (fun _ => 0))), (rv, .inr (5, [.int 5, .int 5, .ref rv1, .ref rv2, .ref rv3, .ref rv4, .ref rv5, .ref rv6]))] := hD
    have hw_9 : r_8 = (if (x1 < 0 ∨ ¬ x1 < nI 5 ∨ y1 < 0 ∨ ¬ y1 < nI 5) then 0 else 1) := hw
    by_cases ho_10 : (x1 < 0 ∨ ¬ x1 < nI 5 ∨ y1 < 0 ∨ ¬ y1 < nI 5)
    · skip
      obtain rfl : r_8 = 0 := by rw [hw_9, if_pos ho_10]
      refine lv_if_eq (tgt := 41) hx hb dX9_sound_27 (by decide) (fun c_11 => ?_) (fun c_11 => absurd c_11 (by decide))
      refine lv_iconst (v := 0) hx hb dX9_sound_41 (by decide) ?_
      have hP9 := hP.sub (ws' := []) [] rfl
      have hD9 := hD.sub (ws' := []) [] (by decide) rfl
      have hK9 := hK.sub (tys' := []) [] rfl
      refine W.widen (k := 0) (n := 0) (by decide) (by decide) ?_
      exact W.zret (v := 0) hx hb hr rfl (fun t ht hW => ⟨⟨0, (), rfl, by simp only [ho_3, ho_10, or_false, false_or, or_true, true_or, not_true_eq_false, not_false_eq_true, ↓reduceIte], by rw [ht]; exact hP9, va_K.moved hW.alike hK9, hD9⟩, hS.F ht⟩) hS.2.2 dX9_sound_42
    · skip
      obtain rfl : r_8 = 1 := by rw [hw_9, if_neg ho_10]
      obtain ⟨i_12, hi_12, ei_12⟩ : ∃ j : Nat, j < 5 ∧ x1 = nI j := n_lt (fun q => ho_10 (Or.inl q)) (fun q => ho_10 (Or.inr (Or.inl (Int32.not_lt.mpr q)))) (by omega)
      obtain ⟨j_13, hj_13, ej_13⟩ : ∃ j : Nat, j < 5 ∧ y1 = nI j := n_lt (fun q => ho_10 (Or.inr (Or.inr (Or.inl q)))) (fun q => ho_10 (Or.inr (Or.inr (Or.inr (Int32.not_lt.mpr q))))) (by omega)
      subst ei_12
      subst ej_13
      have hl : lv_has ls 10 [(7, .ref rv), (0, .ref h0), (1, .int (nI i_5)), (2, .int (nI j_6)), (3, .int (nI i_12)), (4, .int (nI j_13)), (5, .int lo), (6, .int hi)] := hl
      refine lv_if_eq (tgt := 41) hx hb dX9_sound_27 (by decide) (fun c_14 => absurd c_14 (by decide)) (fun c_14 => ?_)
      refine lv_iload_n hx hb dX9_sound_30 rfl (lv_at hl 2 rfl) ?_
      refine lv_iload_n hx hb dX9_sound_31 rfl (lv_at hl 4 rfl) ?_
      refine lv_icmp_gt (tgt := 41) hx hb dX9_sound_32 (by decide) (fun c_15 => ?_) (fun c_15 => ?_)
      · skip
        have c_15n : i_12 < i_5 := (nI_ltI (by omega) (by omega)).mp c_15
        refine lv_iconst (v := 0) hx hb dX9_sound_41 (by decide) ?_
        have hP9 := hP.sub (ws' := []) [] rfl
        have hD9 := hD.sub (ws' := []) [] (by decide) rfl
        have hK9 := hK.sub (tys' := []) [] rfl
        refine W.widen (k := 0) (n := 0) (by decide) (by decide) ?_
        exact W.zret (v := 0) hx hb hr rfl (fun t ht hW => ⟨⟨0, (), rfl, by simp only [ho_3, ho_10, c_15, or_false, false_or, or_true, true_or, not_true_eq_false, not_false_eq_true, ↓reduceIte], by rw [ht]; exact hP9, va_K.moved hW.alike hK9, hD9⟩, hS.F ht⟩) hS.2.2 dX9_sound_42
      · skip
        have c_15n : i_5 ≤ i_12 := nb_lt (by omega) (by omega) c_15
        refine lv_iload_n hx hb dX9_sound_35 rfl (lv_at hl 3 rfl) ?_
        refine lv_iload hx hb dX9_sound_36 (lv_at hl 5 rfl) ?_
        refine lv_icmp_le (tgt := 43) hx hb dX9_sound_38 (by decide) (fun c_16 => ?_) (fun c_16 => ?_)
        · skip
          have c_16n : j_6 ≤ j_13 := (nI_leI (by omega) (by omega)).mp c_16
          have c_16 := Int32.not_lt.mpr c_16
          refine lv_iload hx hb dX9_sound_43 (lv_at hl 6 rfl) ?_
          refine lv_if_lt (tgt := 62) hx hb dX9_sound_45 (by decide) (fun c_17 => ?_) (fun c_17 => ?_)
          · skip
            refine lv_iconst (v := 0) hx hb dX9_sound_62 (by decide) ?_
            have hP9 := hP.sub (ws' := []) [] rfl
            have hD9 := hD.sub (ws' := []) [] (by decide) rfl
            have hK9 := hK.sub (tys' := []) [] rfl
            refine W.widen (k := 0) (n := 0) (by decide) (by decide) ?_
            exact W.zret (v := 0) hx hb hr rfl (fun t ht hW => ⟨⟨0, (), rfl, by simp only [ho_3, ho_10, c_15, c_16, c_17, or_false, false_or, or_true, true_or, not_true_eq_false, not_false_eq_true, ↓reduceIte], by rw [ht]; exact hP9, va_K.moved hW.alike hK9, hD9⟩, hS.F ht⟩) hS.2.2 dX9_sound_63
          · skip
            refine lv_iload hx hb dX9_sound_48 (lv_at hl 6 rfl) ?_
            refine lv_iload hx hb dX9_sound_50 (lv_at hl 7 rfl) ?_
            refine lv_icmp_gt (tgt := 62) hx hb dX9_sound_52 (by decide) (fun c_18 => ?_) (fun c_18 => ?_)
            · skip
              refine lv_iconst (v := 0) hx hb dX9_sound_62 (by decide) ?_
              have hP9 := hP.sub (ws' := []) [] rfl
              have hD9 := hD.sub (ws' := []) [] (by decide) rfl
              have hK9 := hK.sub (tys' := []) [] rfl
              refine W.widen (k := 0) (n := 0) (by decide) (by decide) ?_
              exact W.zret (v := 0) hx hb hr rfl (fun t ht hW => ⟨⟨0, (), rfl, by simp only [ho_3, ho_10, c_15, c_16, c_17, c_18, or_false, false_or, or_true, true_or, not_true_eq_false, not_false_eq_true, ↓reduceIte], by rw [ht]; exact hP9, va_K.moved hW.alike hK9, hD9⟩, hS.F ht⟩) hS.2.2 dX9_sound_63
            · skip
              refine lv_iload hx hb dX9_sound_55 (lv_at hl 7 rfl) ?_
              refine lv_bipush (v := 99) hx hb dX9_sound_57 (by decide) ?_
              refine lv_icmp_le (tgt := 64) hx hb dX9_sound_59 (by decide) (fun c_19 => ?_) (fun c_19 => ?_)
              · skip
                have c_19 := Int32.not_lt.mpr c_19
                refine lv_iload_n hx hb dX9_sound_64 rfl (lv_at hl 3 rfl) ?_
                refine lv_istore (lv' := [(8, .int (nI j_6)), (7, .ref rv), (0, .ref h0), (1, .int (nI i_5)), (2, .int (nI j_6)), (3, .int (nI i_12)), (4, .int (nI j_13)), (5, .int lo), (6, .int hi)]) hx hb dX9_sound_65 hl (by decide) rfl (fun ls hl => ?_)
                refine lp_sound_out F hA h0 tp rd dr fa ly wy cu rv bt rv1 rv2 rv3 rv4 rv5 rv6 rc1 rc2 rc3 rc4 rc5 rc6 i_5 i_12 j_13 lo hi (hK.sub [0, 1, 2, 3, 4, 5] rfl) (fun g1_20 g2_21  H locs hP hD hS ls hl => ?_) _ (fun _ => 0) (fun _ => 0) j_6 (by omega) (by omega) (by omega) (by omega) (Nat.lt_succ_self _) _ _ (hP.sub [0, 1, 8, 2, 3, 4, 5, 6, 7] rfl) (hD.sub [0, 1, 8, 2, 3, 4, 5, 6, 7] (by decide) rfl) hS ls (lv_sub hl [2, 1, 3, 5, 6, 7, 8, 0] rfl)
                refine lv_iconst (v := 1) hx hb dX9_sound_108 (by decide) ?_
                have hP9 := hP.sub (ws' := []) [] rfl
                have hD9 := hD.sub (ws' := []) [] (by decide) rfl
                have hK9 := hK.sub (tys' := []) [] rfl
                refine W.widen (k := 0) (n := 0) (by decide) (by decide) ?_
                exact W.zret (v := 1) hx hb hr rfl (fun t ht hW => ⟨⟨1, (), rfl, by simp only [ho_3, ho_10, c_15, c_16, c_17, c_18, c_19, or_false, false_or, or_true, true_or, not_true_eq_false, not_false_eq_true, ↓reduceIte], by rw [ht]; exact hP9, va_K.moved hW.alike hK9, hD9⟩, hS.F ht⟩) hS.2.2 dX9_sound_109
              · skip
                have c_19 := Int32.not_le.mp c_19
                refine lv_iconst (v := 0) hx hb dX9_sound_62 (by decide) ?_
                have hP9 := hP.sub (ws' := []) [] rfl
                have hD9 := hD.sub (ws' := []) [] (by decide) rfl
                have hK9 := hK.sub (tys' := []) [] rfl
                refine W.widen (k := 0) (n := 0) (by decide) (by decide) ?_
                exact W.zret (v := 0) hx hb hr rfl (fun t ht hW => ⟨⟨0, (), rfl, by simp only [ho_3, ho_10, c_15, c_16, c_17, c_18, c_19, or_false, false_or, or_true, true_or, not_true_eq_false, not_false_eq_true, ↓reduceIte], by rw [ht]; exact hP9, va_K.moved hW.alike hK9, hD9⟩, hS.F ht⟩) hS.2.2 dX9_sound_63
        · skip
          have c_16n : j_13 < j_6 := nb_le (by omega) (by omega) c_16
          have c_16 := Int32.not_le.mp c_16
          refine lv_iconst (v := 0) hx hb dX9_sound_41 (by decide) ?_
          have hP9 := hP.sub (ws' := []) [] rfl
          have hD9 := hD.sub (ws' := []) [] (by decide) rfl
          have hK9 := hK.sub (tys' := []) [] rfl
          refine W.widen (k := 0) (n := 0) (by decide) (by decide) ?_
          exact W.zret (v := 0) hx hb hr rfl (fun t ht hW => ⟨⟨0, (), rfl, by simp only [ho_3, ho_10, c_15, c_16, or_false, false_or, or_true, true_or, not_true_eq_false, not_false_eq_true, ↓reduceIte], by rw [ht]; exact hP9, va_K.moved hW.alike hK9, hD9⟩, hS.F ht⟩) hS.2.2 dX9_sound_42
end
section
theorem dX3_boothNumbered_0 : decode cX3_boothNumbered 0 = .ok (.iload_n 1, 1) := by decide +kernel
theorem dX3_boothNumbered_1 : decode cX3_boothNumbered 1 = .ok (.ifCond .lt 17, 3) := by decide +kernel
theorem dX3_boothNumbered_18 : decode cX3_boothNumbered 18 = .ok (.aconst_null, 1) := by decide +kernel
theorem dX3_boothNumbered_19 : decode cX3_boothNumbered 19 = .ok (.areturn, 1) := by decide +kernel
theorem dX3_boothNumbered_4 : decode cX3_boothNumbered 4 = .ok (.iload_n 1, 1) := by decide +kernel
theorem dX3_boothNumbered_5 : decode cX3_boothNumbered 5 = .ok (.aload_n 0, 1) := by decide +kernel
theorem dX3_boothNumbered_6 : decode cX3_boothNumbered 6 = .ok (.getfield 36, 3) := by decide +kernel
theorem dX3_boothNumbered_9 : decode cX3_boothNumbered 9 = .ok (.if_icmp .ge 9, 3) := by decide +kernel
set_option maxHeartbeats 4000000 in
set_option maxRecDepth 100000 in
theorem c_boothNone (l : Launch) (D : va_G) (h0 : Nat) (cu : Nat) (rv : Nat) (bt : Nat) (ho : Int32) (fe : Int32) (x : Int32) : cQ l yX3_boothNumbered (.code yX3_boothNumbered cX3_boothNumbered 2 (some (.object "IceFair$Booth"))) ({ frames := 0, cells := 0, slots := 0, locals := 0 }) D [] [(h0, .inr (3, [.ref cu, .ref rv, .ref bt, .int 0, .int ho, .int fe]))] xT [.ref h0, .int x] (S := Unit) (fun r _ => r = none) (fun _ => []) (fun _ => [(h0, .inr (3, [.ref cu, .ref rv, .ref bt, .int 0, .int ho, .int fe]))]) := by
  intro sz
  refine Met.ofW (cc := cX3_boothNumbered) (maxL := 2) (ret := (some (.object "IceFair$Booth"))) (by decide) rfl ?_
  intro p e s m args below meth c s₁ B hml hv
  obtain ⟨rfl, hsz, hP, hK, hD0, hX⟩ := hv
  have hx := B.exec
  have hb := B.bytes
  have hr := B.returns
  have hts0 := atoms_spec (ws := .code yX3_boothNumbered cX3_boothNumbered 2 (some (.object "IceFair$Booth")) :: gw) B.pre
  have hts := fun (w : Cond) (h : w ∈ gw) => hts0 w (List.mem_cons_of_mem _ h)
  have hown : s.vm.findClass RX3 = some m.cls := findClass_of_methodNamed B.named
  have hlocks := B.notSynchronized
  have F : mFix p s m _ c cX3_boothNumbered 2 RX3 := ⟨hx, hb, hml, hown, hts⟩
  subst hsz
  have hD := hD0.self (sz := s.heap.size)
  generalize hAe : va_A [(h0, .inr (3, [.ref cu, .ref rv, .ref bt, .int 0, .int ho, .int fe]))] s.heap.size = A at hD hX ⊢
  have hA : ∀ q : Nat, s.heap.size ≤ q → A q := fun q h => by rw [← hAe]; exact Or.inr h
  have hS : va_S A s.heap s.heap [] := va_S.rf
  have hl := lv_entry ([.ref h0, .int x]) (n := 2) (Nat.le_of_ble_eq_true rfl)
  rw [lg_entry_eq]
  generalize (lg_sl ([.ref h0, .int x]) ++ List.replicate (2 - (lg_sl ([.ref h0, .int x])).length) Slot.unset).toArray = ls at hl ⊢
  have hl : lv_has ls 2 [(0, .ref h0), (1, .int x)] := hl
  have hP : va_P D vwCl [(h0, .inr (3, [.ref cu, .ref rv, .ref bt, .int 0, .int ho, .int fe]))] s.heap := hP
  refine lv_iload_n hx hb dX3_boothNumbered_0 rfl (lv_at hl 1 rfl) ?_
  refine lv_if_lt (tgt := 18) hx hb dX3_boothNumbered_1 (by decide) (fun c_1 => ?_) (fun c_1 => ?_)
  · skip
    refine lv_null hx hb dX3_boothNumbered_18 ?_
    have hP9 := hP.sub (ws' := [(h0, .inr (3, [.ref cu, .ref rv, .ref bt, .int 0, .int ho, .int fe]))]) [0] rfl
    have hD9 := hD.sub (ws' := [(h0, .inr (3, [.ref cu, .ref rv, .ref bt, .int 0, .int ho, .int fe]))]) [0] (by decide) rfl
    have hK9 := hK.sub (tys' := []) [] rfl
    refine W.widen (k := 0) (n := 0) (by decide) (by decide) ?_
    exact W.aret (v := .null) hx hb hr (Or.inl ⟨_, rfl⟩) (Or.inl rfl) (fun t ht hW => ⟨⟨none, (), rfl, rfl, by rw [ht]; exact hP9, va_K.moved hW.alike hK9, hD9⟩, hS.F ht⟩) hS.2.2 dX3_boothNumbered_19
  · skip
    refine lv_iload_n hx hb dX3_boothNumbered_4 rfl (lv_at hl 1 rfl) ?_
    refine lv_aload_n hx hb dX3_boothNumbered_5 rfl (lv_at hl 0 rfl) ?_
    refine va_get (D := D) (ci := 3) (v := .int 0) (C := RX3) (T := TX3) (N := 6) hx hb hts inG_X3 hown hK hP 0 rfl rfl 3 (by decide) (hts _ kw_1_226) (fun _ h9 => h9) rfl dX3_boothNumbered_6 ?_
    refine lv_icmp_ge (tgt := 18) hx hb dX3_boothNumbered_9 (by decide) (fun c_2 => ?_) (fun c_2 => absurd (Int32.not_lt.mp c_1) c_2)
    have c_2 := Int32.not_lt.mpr c_2
    refine lv_null hx hb dX3_boothNumbered_18 ?_
    have hP9 := hP.sub (ws' := [(h0, .inr (3, [.ref cu, .ref rv, .ref bt, .int 0, .int ho, .int fe]))]) [0] rfl
    have hD9 := hD.sub (ws' := [(h0, .inr (3, [.ref cu, .ref rv, .ref bt, .int 0, .int ho, .int fe]))]) [0] (by decide) rfl
    have hK9 := hK.sub (tys' := []) [] rfl
    refine W.widen (k := 0) (n := 0) (by decide) (by decide) ?_
    exact W.aret (v := .null) hx hb hr (Or.inl ⟨_, rfl⟩) (Or.inl rfl) (fun t ht hW => ⟨⟨none, (), rfl, rfl, by rw [ht]; exact hP9, va_K.moved hW.alike hK9, hD9⟩, hS.F ht⟩) hS.2.2 dX3_boothNumbered_19
theorem dX3_addBooth_0 : decode cX3_addBooth 0 = .ok (.aload_n 0, 1) := by decide +kernel
theorem dX3_addBooth_1 : decode cX3_addBooth 1 = .ok (.getfield 36, 3) := by decide +kernel
theorem dX3_addBooth_4 : decode cX3_addBooth 4 = .ok (.ifCond .lt 12, 3) := by decide +kernel
theorem dX3_addBooth_7 : decode cX3_addBooth 7 = .ok (.aload_n 0, 1) := by decide +kernel
theorem dX3_addBooth_8 : decode cX3_addBooth 8 = .ok (.getfield 36, 3) := by decide +kernel
theorem dX3_addBooth_11 : decode cX3_addBooth 11 = .ok (.bipush 10, 2) := by decide +kernel
theorem dX3_addBooth_13 : decode cX3_addBooth 13 = .ok (.if_icmp .lt 5, 3) := by decide +kernel
theorem dX3_addBooth_18 : decode cX3_addBooth 18 = .ok (.aload_n 0, 1) := by decide +kernel
theorem dX3_addBooth_19 : decode cX3_addBooth 19 = .ok (.getfield 27, 3) := by decide +kernel
theorem dX3_addBooth_22 : decode cX3_addBooth 22 = .ok (.aload_n 0, 1) := by decide +kernel
theorem dX3_addBooth_23 : decode cX3_addBooth 23 = .ok (.getfield 36, 3) := by decide +kernel
theorem dX3_addBooth_26 : decode cX3_addBooth 26 = .ok (.aaload, 1) := by decide +kernel
theorem dX3_addBooth_27 : decode cX3_addBooth 27 = .ok (.astore 4, 2) := by decide +kernel
theorem dX3_addBooth_29 : decode cX3_addBooth 29 = .ok (.aload 4, 2) := by decide +kernel
theorem dX3_addBooth_31 : decode cX3_addBooth 31 = .ok (.aload_n 0, 1) := by decide +kernel
theorem dX3_addBooth_32 : decode cX3_addBooth 32 = .ok (.getfield 36, 3) := by decide +kernel
theorem kw_1_185 : Cond.fieldLink RX3 46 "IceFair$Booth" "number" "I" ∈ gw := gw_t1 (List.mem_of_getElem? (i := 185) (by decide +kernel)) (by decide +kernel)
theorem dX3_addBooth_35 : decode cX3_addBooth 35 = .ok (.putfield 46, 3) := by decide +kernel
theorem dX3_addBooth_38 : decode cX3_addBooth 38 = .ok (.aload 4, 2) := by decide +kernel
theorem dX3_addBooth_40 : decode cX3_addBooth 40 = .ok (.iload_n 1, 1) := by decide +kernel
theorem kw_1_186 : Cond.fieldLink RX3 49 "IceFair$Booth" "weight" "I" ∈ gw := gw_t1 (List.mem_of_getElem? (i := 186) (by decide +kernel)) (by decide +kernel)
theorem dX3_addBooth_41 : decode cX3_addBooth 41 = .ok (.putfield 49, 3) := by decide +kernel
theorem dX3_addBooth_44 : decode cX3_addBooth 44 = .ok (.aload 4, 2) := by decide +kernel
theorem dX3_addBooth_46 : decode cX3_addBooth 46 = .ok (.iload_n 2, 1) := by decide +kernel
theorem kw_1_187 : Cond.fieldLink RX3 52 "IceFair$Booth" "fire" "Z" ∈ gw := gw_t1 (List.mem_of_getElem? (i := 187) (by decide +kernel)) (by decide +kernel)
theorem dX3_addBooth_47 : decode cX3_addBooth 47 = .ok (.putfield 52, 3) := by decide +kernel
theorem dX3_addBooth_50 : decode cX3_addBooth 50 = .ok (.aload 4, 2) := by decide +kernel
theorem dX3_addBooth_52 : decode cX3_addBooth 52 = .ok (.iload_n 3, 1) := by decide +kernel
theorem kw_1_188 : Cond.fieldLink RX3 56 "IceFair$Booth" "crowd" "I" ∈ gw := gw_t1 (List.mem_of_getElem? (i := 188) (by decide +kernel)) (by decide +kernel)
theorem dX3_addBooth_53 : decode cX3_addBooth 53 = .ok (.putfield 56, 3) := by decide +kernel
theorem dX3_addBooth_56 : decode cX3_addBooth 56 = .ok (.aload 4, 2) := by decide +kernel
theorem dX3_addBooth_58 : decode cX3_addBooth 58 = .ok (.iconst 0, 1) := by decide +kernel
theorem kw_1_192 : Cond.fieldLink RX3 59 "IceFair$Booth" "state" "I" ∈ gw := gw_t1 (List.mem_of_getElem? (i := 192) (by decide +kernel)) (by decide +kernel)
theorem dX3_addBooth_59 : decode cX3_addBooth 59 = .ok (.putfield 59, 3) := by decide +kernel
theorem dX3_addBooth_62 : decode cX3_addBooth 62 = .ok (.aload 4, 2) := by decide +kernel
theorem dX3_addBooth_64 : decode cX3_addBooth 64 = .ok (.iconst (-1), 1) := by decide +kernel
theorem kw_1_195 : Cond.fieldLink RX3 62 "IceFair$Booth" "x" "I" ∈ gw := gw_t1 (List.mem_of_getElem? (i := 195) (by decide +kernel)) (by decide +kernel)
theorem dX3_addBooth_65 : decode cX3_addBooth 65 = .ok (.putfield 62, 3) := by decide +kernel
theorem dX3_addBooth_68 : decode cX3_addBooth 68 = .ok (.aload 4, 2) := by decide +kernel
theorem dX3_addBooth_70 : decode cX3_addBooth 70 = .ok (.iconst (-1), 1) := by decide +kernel
theorem kw_1_198 : Cond.fieldLink RX3 65 "IceFair$Booth" "y" "I" ∈ gw := gw_t1 (List.mem_of_getElem? (i := 198) (by decide +kernel)) (by decide +kernel)
theorem dX3_addBooth_71 : decode cX3_addBooth 71 = .ok (.putfield 65, 3) := by decide +kernel
theorem dX3_addBooth_74 : decode cX3_addBooth 74 = .ok (.aload_n 0, 1) := by decide +kernel
theorem dX3_addBooth_75 : decode cX3_addBooth 75 = .ok (.dup, 1) := by decide +kernel
theorem dX3_addBooth_76 : decode cX3_addBooth 76 = .ok (.getfield 36, 3) := by decide +kernel
theorem dX3_addBooth_79 : decode cX3_addBooth 79 = .ok (.iconst 1, 1) := by decide +kernel
theorem dX3_addBooth_80 : decode cX3_addBooth 80 = .ok (.iadd, 1) := by decide +kernel
theorem dX3_addBooth_81 : decode cX3_addBooth 81 = .ok (.putfield 36, 3) := by decide +kernel
theorem dX3_addBooth_84 : decode cX3_addBooth 84 = .ok (.aload 4, 2) := by decide +kernel
theorem dX3_addBooth_86 : decode cX3_addBooth 86 = .ok (.getfield 46, 3) := by decide +kernel
theorem dX3_addBooth_89 : decode cX3_addBooth 89 = .ok (.ireturn, 1) := by decide +kernel
set_option maxHeartbeats 4000000 in
set_option maxRecDepth 100000 in
theorem c_addBooth (l : Launch) (D : va_G) (h0 : Nat) (cu : Nat) (rv : Nat) (bt : Nat) (bo0 : Nat) (bo1 : Nat) (bo2 : Nat) (bo3 : Nat) (bo4 : Nat) (bo5 : Nat) (bo6 : Nat) (bo7 : Nat) (bo8 : Nat) (bo9 : Nat) (bc : ClassId) (w1 : Int32) (fi : Int32) (cr : Int32) (hf : fi = 0 ∨ fi = 1) : cI l yX3_addBooth (.code yX3_addBooth cX3_addBooth 5 (some .int)) ({ frames := 0, cells := 0, slots := 0, locals := 0 }) D [(bc, .object RX0)] [(h0, .inr (3, [.ref cu, .ref rv, .ref bt, .int 0, .int 0, .int 0])), (bt, .inl (bc, 10, .inr (.inr (.inr (.inr (va_up (va_up (va_up (va_up (va_up (va_up (va_up (va_up (va_up (va_up (fun _ => none) 0 (some bo0)) 1 (some bo1)) 2 (some bo2)) 3 (some bo3)) 4 (some bo4)) 5 (some bo5)) 6 (some bo6)) 7 (some bo7)) 8 (some bo8)) 9 (some bo9))))))), (bo0, .inr (0, [.int 0, .int 0, .int 0, .int 0, .int 0, .int 0, .int 0]))] xT [.ref h0, .int w1, .int fi, .int cr] (S := Unit) (fun r _ => r = 0) (fun _ => []) (fun _ => []) := by
  intro sz
  refine Met.ofW (cc := cX3_addBooth) (maxL := 5) (ret := (some .int)) (by decide) rfl ?_
  intro p e s m args below meth c s₁ B hml hv
  obtain ⟨rfl, hsz, hP, hK, hD0, hX⟩ := hv
  have hx := B.exec
  have hb := B.bytes
  have hr := B.returns
  have hts0 := atoms_spec (ws := .code yX3_addBooth cX3_addBooth 5 (some .int) :: gw) B.pre
  have hts := fun (w : Cond) (h : w ∈ gw) => hts0 w (List.mem_cons_of_mem _ h)
  have hown : s.vm.findClass RX3 = some m.cls := findClass_of_methodNamed B.named
  have hlocks := B.notSynchronized
  have F : mFix p s m _ c cX3_addBooth 5 RX3 := ⟨hx, hb, hml, hown, hts⟩
  subst hsz
  have hD := hD0.self (sz := s.heap.size)
  generalize hAe : va_A [(h0, .inr (3, [.ref cu, .ref rv, .ref bt, .int 0, .int 0, .int 0])), (bt, .inl (bc, 10, .inr (.inr (.inr (.inr (va_up (va_up (va_up (va_up (va_up (va_up (va_up (va_up (va_up (va_up (fun _ => none) 0 (some bo0)) 1 (some bo1)) 2 (some bo2)) 3 (some bo3)) 4 (some bo4)) 5 (some bo5)) 6 (some bo6)) 7 (some bo7)) 8 (some bo8)) 9 (some bo9))))))), (bo0, .inr (0, [.int 0, .int 0, .int 0, .int 0, .int 0, .int 0, .int 0]))] s.heap.size = A at hD hX ⊢
  have hA : ∀ q : Nat, s.heap.size ≤ q → A q := fun q h => by rw [← hAe]; exact Or.inr h
  have hS : va_S A s.heap s.heap [] := va_S.rf
  have hl := lv_entry ([.ref h0, .int w1, .int fi, .int cr]) (n := 5) (Nat.le_of_ble_eq_true rfl)
  rw [lg_entry_eq]
  generalize (lg_sl ([.ref h0, .int w1, .int fi, .int cr]) ++ List.replicate (5 - (lg_sl ([.ref h0, .int w1, .int fi, .int cr])).length) Slot.unset).toArray = ls at hl ⊢
  have hl : lv_has ls 5 [(0, .ref h0), (1, .int w1), (2, .int fi), (3, .int cr)] := hl
  have hP : va_P D vwCl [(h0, .inr (3, [.ref cu, .ref rv, .ref bt, .int 0, .int 0, .int 0])), (bt, .inl (bc, 10, .inr (.inr (.inr (.inr (va_up (va_up (va_up (va_up (va_up (va_up (va_up (va_up (va_up (va_up (fun _ => none) 0 (some bo0)) 1 (some bo1)) 2 (some bo2)) 3 (some bo3)) 4 (some bo4)) 5 (some bo5)) 6 (some bo6)) 7 (some bo7)) 8 (some bo8)) 9 (some bo9))))))), (bo0, .inr (0, [.int 0, .int 0, .int 0, .int 0, .int 0, .int 0, .int 0]))] s.heap := hP
  refine lv_aload_n hx hb dX3_addBooth_0 rfl (lv_at hl 0 rfl) ?_
  refine va_get (D := D) (ci := 3) (v := .int 0) (C := RX3) (T := TX3) (N := 6) hx hb hts inG_X3 hown hK hP 0 rfl rfl 3 (by decide) (hts _ kw_1_226) (fun _ h9 => h9) rfl dX3_addBooth_1 ?_
  refine lv_if_lt (tgt := 16) hx hb dX3_addBooth_4 (by decide) (fun c_1 => absurd c_1 (by decide)) (fun c_1 => ?_)
  refine lv_aload_n hx hb dX3_addBooth_7 rfl (lv_at hl 0 rfl) ?_
  refine va_get (D := D) (ci := 3) (v := .int 0) (C := RX3) (T := TX3) (N := 6) hx hb hts inG_X3 hown hK hP 0 rfl rfl 3 (by decide) (hts _ kw_1_226) (fun _ h9 => h9) rfl dX3_addBooth_8 ?_
  refine lv_bipush (v := 10) hx hb dX3_addBooth_11 (by decide) ?_
  refine lv_icmp_lt (tgt := 18) hx hb dX3_addBooth_13 (by decide) (fun c_2 => ?_) (fun c_2 => absurd c_2 (by decide))
  refine lv_aload_n hx hb dX3_addBooth_18 rfl (lv_at hl 0 rfl) ?_
  refine va_get (D := D) (ci := 3) (v := .ref bt) (C := RX3) (T := TX3) (N := 6) hx hb hts inG_X3 hown hK hP 0 rfl rfl 2 (by decide) (hts _ kw_1_223) (fun _ h9 => h9) rfl dX3_addBooth_19 ?_
  refine lv_aload_n hx hb dX3_addBooth_22 rfl (lv_at hl 0 rfl) ?_
  refine va_get (D := D) (ci := 3) (v := .int 0) (C := RX3) (T := TX3) (N := 6) hx hb hts inG_X3 hown hK hP 0 rfl rfl 3 (by decide) (hts _ kw_1_226) (fun _ h9 => h9) rfl dX3_addBooth_23 ?_
  refine va_aldq hx hb hK hP 1 0 rfl rfl (by unfold vp_in; decide) dX3_addBooth_26 ?_
  refine W.eq (g2 := F0 m 27 ls [.ref bo0]) rfl ?_
  refine lv_astore (lv' := [(4, .ref bo0), (0, .ref h0), (1, .int w1), (2, .int fi), (3, .int cr)]) hx hb dX3_addBooth_27 hl (by decide) rfl (fun ls hl => ?_)
  refine lv_aload hx hb dX3_addBooth_29 (lv_at hl 0 rfl) ?_
  refine lv_aload_n hx hb dX3_addBooth_31 rfl (lv_at hl 1 rfl) ?_
  refine va_get (D := D) (ci := 3) (v := .int 0) (C := RX3) (T := TX3) (N := 6) hx hb hts inG_X3 hown hK hP 0 rfl rfl 3 (by decide) (hts _ kw_1_226) (fun _ h9 => h9) rfl dX3_addBooth_32 ?_
  refine va_put (D := D) (ci := 0) (v := .int 0) (ty := .int) (C := RX0) (T := TX0) (N := 7) hx hb hts inG_X0 tyX0 tyX0_ok nmX0 hown hK hP hD hS 2 rfl rfl 0 (by decide) (hts _ kw_1_185) (fun _ h9 => h9) rfl (by decide +kernel) rfl rfl (Nat.le_of_ble_eq_true rfl) dX3_addBooth_35 (fun H locs hP hD hS => ?_)
  have hP : va_P D vwCl [(h0, .inr (3, [.ref cu, .ref rv, .ref bt, .int 0, .int 0, .int 0])), (bt, .inl (bc, 10, .inr (.inr (.inr (.inr (va_up (va_up (va_up (va_up (va_up (va_up (va_up (va_up (va_up (va_up (fun _ => none) 0 (some bo0)) 1 (some bo1)) 2 (some bo2)) 3 (some bo3)) 4 (some bo4)) 5 (some bo5)) 6 (some bo6)) 7 (some bo7)) 8 (some bo8)) 9 (some bo9))))))), (bo0, .inr (0, [.int 0, .int 0, .int 0, .int 0, .int 0, .int 0, .int 0]))] H := hP
  have hD : va_D A [(h0, .inr (3, [.ref cu, .ref rv, .ref bt, .int 0, .int 0, .int 0])), (bt, .inl (bc, 10, .inr (.inr (.inr (.inr (va_up (va_up (va_up (va_up (va_up (va_up (va_up (va_up (va_up (va_up (fun _ => none) 0 (some bo0)) 1 (some bo1)) 2 (some bo2)) 3 (some bo3)) 4 (some bo4)) 5 (some bo5)) 6 (some bo6)) 7 (some bo7)) 8 (some bo8)) 9 (some bo9))))))), (bo0, .inr (0, [.int 0, .int 0, .int 0, .int 0, .int 0, .int 0, .int 0]))] := hD
  refine lv_aload hx hb dX3_addBooth_38 (lv_at hl 0 rfl) ?_
  refine lv_iload_n hx hb dX3_addBooth_40 rfl (lv_at hl 2 rfl) ?_
  refine va_put (D := D) (ci := 0) (v := .int w1) (ty := .int) (C := RX0) (T := TX0) (N := 7) hx hb hts inG_X0 tyX0 tyX0_ok nmX0 hown hK hP hD hS 2 rfl rfl 1 (by decide) (hts _ kw_1_186) (fun _ h9 => h9) rfl (by decide +kernel) rfl rfl (Nat.le_of_ble_eq_true rfl) dX3_addBooth_41 (fun H locs hP hD hS => ?_)
  have hP : va_P D vwCl [(h0, .inr (3, [.ref cu, .ref rv, .ref bt, .int 0, .int 0, .int 0])), (bt, .inl (bc, 10, .inr (.inr (.inr (.inr (va_up (va_up (va_up (va_up (va_up (va_up (va_up (va_up (va_up (va_up (fun _ => none) 0 (some bo0)) 1 (some bo1)) 2 (some bo2)) 3 (some bo3)) 4 (some bo4)) 5 (some bo5)) 6 (some bo6)) 7 (some bo7)) 8 (some bo8)) 9 (some bo9))))))), (bo0, .inr (0, [.int 0, .int w1, .int 0, .int 0, .int 0, .int 0, .int 0]))] H := hP
  have hD : va_D A [(h0, .inr (3, [.ref cu, .ref rv, .ref bt, .int 0, .int 0, .int 0])), (bt, .inl (bc, 10, .inr (.inr (.inr (.inr (va_up (va_up (va_up (va_up (va_up (va_up (va_up (va_up (va_up (va_up (fun _ => none) 0 (some bo0)) 1 (some bo1)) 2 (some bo2)) 3 (some bo3)) 4 (some bo4)) 5 (some bo5)) 6 (some bo6)) 7 (some bo7)) 8 (some bo8)) 9 (some bo9))))))), (bo0, .inr (0, [.int 0, .int w1, .int 0, .int 0, .int 0, .int 0, .int 0]))] := hD
  refine lv_aload hx hb dX3_addBooth_44 (lv_at hl 0 rfl) ?_
  refine lv_iload_n hx hb dX3_addBooth_46 rfl (lv_at hl 3 rfl) ?_
  refine va_put (D := D) (ci := 0) (v := .int fi) (ty := .boolean) (C := RX0) (T := TX0) (N := 7) hx hb hts inG_X0 tyX0 tyX0_ok nmX0 hown hK hP hD hS 2 rfl rfl 2 (by decide) (hts _ kw_1_187) (fun _ h9 => h9) rfl (by decide +kernel) (by rcases hf with rfl | rfl <;> rfl) (by rcases hf with rfl | rfl <;> rfl) (Nat.le_of_ble_eq_true rfl) dX3_addBooth_47 (fun H locs hP hD hS => ?_)
  have hP : va_P D vwCl [(h0, .inr (3, [.ref cu, .ref rv, .ref bt, .int 0, .int 0, .int 0])), (bt, .inl (bc, 10, .inr (.inr (.inr (.inr (va_up (va_up (va_up (va_up (va_up (va_up (va_up (va_up (va_up (va_up (fun _ => none) 0 (some bo0)) 1 (some bo1)) 2 (some bo2)) 3 (some bo3)) 4 (some bo4)) 5 (some bo5)) 6 (some bo6)) 7 (some bo7)) 8 (some bo8)) 9 (some bo9))))))), (bo0, .inr (0, [.int 0, .int w1, .int fi, .int 0, .int 0, .int 0, .int 0]))] H := hP
  have hD : va_D A [(h0, .inr (3, [.ref cu, .ref rv, .ref bt, .int 0, .int 0, .int 0])), (bt, .inl (bc, 10, .inr (.inr (.inr (.inr (va_up (va_up (va_up (va_up (va_up (va_up (va_up (va_up (va_up (va_up (fun _ => none) 0 (some bo0)) 1 (some bo1)) 2 (some bo2)) 3 (some bo3)) 4 (some bo4)) 5 (some bo5)) 6 (some bo6)) 7 (some bo7)) 8 (some bo8)) 9 (some bo9))))))), (bo0, .inr (0, [.int 0, .int w1, .int fi, .int 0, .int 0, .int 0, .int 0]))] := hD
  refine lv_aload hx hb dX3_addBooth_50 (lv_at hl 0 rfl) ?_
  refine lv_iload_n hx hb dX3_addBooth_52 rfl (lv_at hl 4 rfl) ?_
  refine va_put (D := D) (ci := 0) (v := .int cr) (ty := .int) (C := RX0) (T := TX0) (N := 7) hx hb hts inG_X0 tyX0 tyX0_ok nmX0 hown hK hP hD hS 2 rfl rfl 3 (by decide) (hts _ kw_1_188) (fun _ h9 => h9) rfl (by decide +kernel) rfl rfl (Nat.le_of_ble_eq_true rfl) dX3_addBooth_53 (fun H locs hP hD hS => ?_)
  have hP : va_P D vwCl [(h0, .inr (3, [.ref cu, .ref rv, .ref bt, .int 0, .int 0, .int 0])), (bt, .inl (bc, 10, .inr (.inr (.inr (.inr (va_up (va_up (va_up (va_up (va_up (va_up (va_up (va_up (va_up (va_up (fun _ => none) 0 (some bo0)) 1 (some bo1)) 2 (some bo2)) 3 (some bo3)) 4 (some bo4)) 5 (some bo5)) 6 (some bo6)) 7 (some bo7)) 8 (some bo8)) 9 (some bo9))))))), (bo0, .inr (0, [.int 0, .int w1, .int fi, .int cr, .int 0, .int 0, .int 0]))] H := hP
  have hD : va_D A [(h0, .inr (3, [.ref cu, .ref rv, .ref bt, .int 0, .int 0, .int 0])), (bt, .inl (bc, 10, .inr (.inr (.inr (.inr (va_up (va_up (va_up (va_up (va_up (va_up (va_up (va_up (va_up (va_up (fun _ => none) 0 (some bo0)) 1 (some bo1)) 2 (some bo2)) 3 (some bo3)) 4 (some bo4)) 5 (some bo5)) 6 (some bo6)) 7 (some bo7)) 8 (some bo8)) 9 (some bo9))))))), (bo0, .inr (0, [.int 0, .int w1, .int fi, .int cr, .int 0, .int 0, .int 0]))] := hD
  refine lv_aload hx hb dX3_addBooth_56 (lv_at hl 0 rfl) ?_
  refine lv_iconst (v := 0) hx hb dX3_addBooth_58 (by decide) ?_
  refine va_put (D := D) (ci := 0) (v := .int 0) (ty := .int) (C := RX0) (T := TX0) (N := 7) hx hb hts inG_X0 tyX0 tyX0_ok nmX0 hown hK hP hD hS 2 rfl rfl 4 (by decide) (hts _ kw_1_192) (fun _ h9 => h9) rfl (by decide +kernel) rfl rfl (Nat.le_of_ble_eq_true rfl) dX3_addBooth_59 (fun H locs hP hD hS => ?_)
  have hP : va_P D vwCl [(h0, .inr (3, [.ref cu, .ref rv, .ref bt, .int 0, .int 0, .int 0])), (bt, .inl (bc, 10, .inr (.inr (.inr (.inr (va_up (va_up (va_up (va_up (va_up (va_up (va_up (va_up (va_up (va_up (fun _ => none) 0 (some bo0)) 1 (some bo1)) 2 (some bo2)) 3 (some bo3)) 4 (some bo4)) 5 (some bo5)) 6 (some bo6)) 7 (some bo7)) 8 (some bo8)) 9 (some bo9))))))), (bo0, .inr (0, [.int 0, .int w1, .int fi, .int cr, .int 0, .int 0, .int 0]))] H := hP
  have hD : va_D A [(h0, .inr (3, [.ref cu, .ref rv, .ref bt, .int 0, .int 0, .int 0])), (bt, .inl (bc, 10, .inr (.inr (.inr (.inr (va_up (va_up (va_up (va_up (va_up (va_up (va_up (va_up (va_up (va_up (fun _ => none) 0 (some bo0)) 1 (some bo1)) 2 (some bo2)) 3 (some bo3)) 4 (some bo4)) 5 (some bo5)) 6 (some bo6)) 7 (some bo7)) 8 (some bo8)) 9 (some bo9))))))), (bo0, .inr (0, [.int 0, .int w1, .int fi, .int cr, .int 0, .int 0, .int 0]))] := hD
  refine lv_aload hx hb dX3_addBooth_62 (lv_at hl 0 rfl) ?_
  refine lv_iconst (v := -1) hx hb dX3_addBooth_64 (by decide) ?_
  refine va_put (D := D) (ci := 0) (v := .int ((-1))) (ty := .int) (C := RX0) (T := TX0) (N := 7) hx hb hts inG_X0 tyX0 tyX0_ok nmX0 hown hK hP hD hS 2 rfl rfl 5 (by decide) (hts _ kw_1_195) (fun _ h9 => h9) rfl (by decide +kernel) rfl rfl (Nat.le_of_ble_eq_true rfl) dX3_addBooth_65 (fun H locs hP hD hS => ?_)
  have hP : va_P D vwCl [(h0, .inr (3, [.ref cu, .ref rv, .ref bt, .int 0, .int 0, .int 0])), (bt, .inl (bc, 10, .inr (.inr (.inr (.inr (va_up (va_up (va_up (va_up (va_up (va_up (va_up (va_up (va_up (va_up (fun _ => none) 0 (some bo0)) 1 (some bo1)) 2 (some bo2)) 3 (some bo3)) 4 (some bo4)) 5 (some bo5)) 6 (some bo6)) 7 (some bo7)) 8 (some bo8)) 9 (some bo9))))))), (bo0, .inr (0, [.int 0, .int w1, .int fi, .int cr, .int 0, .int ((-1)), .int 0]))] H := hP
  have hD : va_D A [(h0, .inr (3, [.ref cu, .ref rv, .ref bt, .int 0, .int 0, .int 0])), (bt, .inl (bc, 10, .inr (.inr (.inr (.inr (va_up (va_up (va_up (va_up (va_up (va_up (va_up (va_up (va_up (va_up (fun _ => none) 0 (some bo0)) 1 (some bo1)) 2 (some bo2)) 3 (some bo3)) 4 (some bo4)) 5 (some bo5)) 6 (some bo6)) 7 (some bo7)) 8 (some bo8)) 9 (some bo9))))))), (bo0, .inr (0, [.int 0, .int w1, .int fi, .int cr, .int 0, .int ((-1)), .int 0]))] := hD
  refine lv_aload hx hb dX3_addBooth_68 (lv_at hl 0 rfl) ?_
  refine lv_iconst (v := -1) hx hb dX3_addBooth_70 (by decide) ?_
  refine va_put (D := D) (ci := 0) (v := .int ((-1))) (ty := .int) (C := RX0) (T := TX0) (N := 7) hx hb hts inG_X0 tyX0 tyX0_ok nmX0 hown hK hP hD hS 2 rfl rfl 6 (by decide) (hts _ kw_1_198) (fun _ h9 => h9) rfl (by decide +kernel) rfl rfl (Nat.le_of_ble_eq_true rfl) dX3_addBooth_71 (fun H locs hP hD hS => ?_)
  have hP : va_P D vwCl [(h0, .inr (3, [.ref cu, .ref rv, .ref bt, .int 0, .int 0, .int 0])), (bt, .inl (bc, 10, .inr (.inr (.inr (.inr (va_up (va_up (va_up (va_up (va_up (va_up (va_up (va_up (va_up (va_up (fun _ => none) 0 (some bo0)) 1 (some bo1)) 2 (some bo2)) 3 (some bo3)) 4 (some bo4)) 5 (some bo5)) 6 (some bo6)) 7 (some bo7)) 8 (some bo8)) 9 (some bo9))))))), (bo0, .inr (0, [.int 0, .int w1, .int fi, .int cr, .int 0, .int ((-1)), .int ((-1))]))] H := hP
  have hD : va_D A [(h0, .inr (3, [.ref cu, .ref rv, .ref bt, .int 0, .int 0, .int 0])), (bt, .inl (bc, 10, .inr (.inr (.inr (.inr (va_up (va_up (va_up (va_up (va_up (va_up (va_up (va_up (va_up (va_up (fun _ => none) 0 (some bo0)) 1 (some bo1)) 2 (some bo2)) 3 (some bo3)) 4 (some bo4)) 5 (some bo5)) 6 (some bo6)) 7 (some bo7)) 8 (some bo8)) 9 (some bo9))))))), (bo0, .inr (0, [.int 0, .int w1, .int fi, .int cr, .int 0, .int ((-1)), .int ((-1))]))] := hD
  refine lv_aload_n hx hb dX3_addBooth_74 rfl (lv_at hl 1 rfl) ?_
  refine lv_dup hx hb dX3_addBooth_75 rfl ?_
  refine va_get (D := D) (ci := 3) (v := .int 0) (C := RX3) (T := TX3) (N := 6) hx hb hts inG_X3 hown hK hP 0 rfl rfl 3 (by decide) (hts _ kw_1_226) (fun _ h9 => h9) rfl dX3_addBooth_76 ?_
  refine lv_iconst (v := 1) hx hb dX3_addBooth_79 (by decide) ?_
  refine lv_iadd hx hb dX3_addBooth_80 ?_
  refine lv_topi (fun z_3 ez_3 => ?_)
  obtain rfl : z_3 = (1 : Int32) := ez_3.trans (by decide)
  refine va_put (D := D) (ci := 3) (v := .int 1) (ty := .int) (C := RX3) (T := TX3) (N := 6) hx hb hts inG_X3 tyX3 tyX3_ok nmX3 hown hK hP hD hS 0 rfl rfl 3 (by decide) (hts _ kw_1_226) (fun _ h9 => h9) rfl (by decide +kernel) rfl rfl (Nat.le_of_ble_eq_true rfl) dX3_addBooth_81 (fun H locs hP hD hS => ?_)
  have hP : va_P D vwCl [(h0, .inr (3, [.ref cu, .ref rv, .ref bt, .int 1, .int 0, .int 0])), (bt, .inl (bc, 10, .inr (.inr (.inr (.inr (va_up (va_up (va_up (va_up (va_up (va_up (va_up (va_up (va_up (va_up (fun _ => none) 0 (some bo0)) 1 (some bo1)) 2 (some bo2)) 3 (some bo3)) 4 (some bo4)) 5 (some bo5)) 6 (some bo6)) 7 (some bo7)) 8 (some bo8)) 9 (some bo9))))))), (bo0, .inr (0, [.int 0, .int w1, .int fi, .int cr, .int 0, .int ((-1)), .int ((-1))]))] H := hP
  have hD : va_D A [(h0, .inr (3, [.ref cu, .ref rv, .ref bt, .int 1, .int 0, .int 0])), (bt, .inl (bc, 10, .inr (.inr (.inr (.inr (va_up (va_up (va_up (va_up (va_up (va_up (va_up (va_up (va_up (va_up (fun _ => none) 0 (some bo0)) 1 (some bo1)) 2 (some bo2)) 3 (some bo3)) 4 (some bo4)) 5 (some bo5)) 6 (some bo6)) 7 (some bo7)) 8 (some bo8)) 9 (some bo9))))))), (bo0, .inr (0, [.int 0, .int w1, .int fi, .int cr, .int 0, .int ((-1)), .int ((-1))]))] := hD
  refine lv_aload hx hb dX3_addBooth_84 (lv_at hl 0 rfl) ?_
  refine va_get (D := D) (ci := 0) (v := .int 0) (C := RX0) (T := TX0) (N := 7) hx hb hts inG_X0 hown hK hP 2 rfl rfl 0 (by decide) (hts _ kw_1_185) (fun _ h9 => h9) rfl dX3_addBooth_86 ?_
  have hP9 := hP.sub (ws' := []) [] rfl
  have hD9 := hD.sub (ws' := []) [] (by decide) rfl
  have hK9 := hK.sub (tys' := []) [] rfl
  refine W.widen (k := 0) (n := 0) (by decide) (by decide) ?_
  exact W.iret (v := 0) hx hb hr (fun t ht hW => ⟨⟨0, (), rfl, rfl, by rw [ht]; exact hP9, va_K.moved hW.alike hK9, hD9⟩, hS.F ht⟩) hS.2.2 dX3_addBooth_89
theorem dX9_booth_0 : decode cX9_booth 0 = .ok (.iload_n 1, 1) := by decide +kernel
theorem dX9_booth_1 : decode cX9_booth 1 = .ok (.iconst 1, 1) := by decide +kernel
theorem dX9_booth_2 : decode cX9_booth 2 = .ok (.if_icmp .lt 19, 3) := by decide +kernel
theorem dX9_booth_21 : decode cX9_booth 21 = .ok (.iconst (-1), 1) := by decide +kernel
theorem dX9_booth_22 : decode cX9_booth 22 = .ok (.ireturn, 1) := by decide +kernel
theorem dX9_booth_5 : decode cX9_booth 5 = .ok (.iload_n 1, 1) := by decide +kernel
theorem dX9_booth_6 : decode cX9_booth 6 = .ok (.bipush 50, 2) := by decide +kernel
theorem dX9_booth_8 : decode cX9_booth 8 = .ok (.if_icmp .gt 13, 3) := by decide +kernel
theorem dX9_booth_11 : decode cX9_booth 11 = .ok (.iload_n 3, 1) := by decide +kernel
theorem dX9_booth_12 : decode cX9_booth 12 = .ok (.ifCond .lt 9, 3) := by decide +kernel
theorem dX9_booth_15 : decode cX9_booth 15 = .ok (.iload_n 3, 1) := by decide +kernel
theorem dX9_booth_16 : decode cX9_booth 16 = .ok (.bipush 99, 2) := by decide +kernel
theorem dX9_booth_18 : decode cX9_booth 18 = .ok (.if_icmp .le 5, 3) := by decide +kernel
theorem dX9_booth_23 : decode cX9_booth 23 = .ok (.aload_n 0, 1) := by decide +kernel
theorem dX9_booth_24 : decode cX9_booth 24 = .ok (.getfield 33, 3) := by decide +kernel
theorem dX9_booth_27 : decode cX9_booth 27 = .ok (.iload_n 1, 1) := by decide +kernel
theorem dX9_booth_28 : decode cX9_booth 28 = .ok (.iload_n 2, 1) := by decide +kernel
theorem dX9_booth_29 : decode cX9_booth 29 = .ok (.iload_n 3, 1) := by decide +kernel
theorem kw_3_23 : Cond.methodLink RX9 98 yX3_addBooth ∈ gw := gw_t3 (List.mem_of_getElem? (i := 23) (by decide +kernel)) (by decide +kernel)
theorem kw_3_24 : Cond.instanceMethod yX3_addBooth ∈ gw := gw_t3 (List.mem_of_getElem? (i := 24) (by decide +kernel)) (by decide +kernel)
theorem kw_3_25 : Cond.selects RX3 yX3_addBooth yX3_addBooth ∈ gw := gw_t3 (List.mem_of_getElem? (i := 25) (by decide +kernel)) (by decide +kernel)
theorem kw_3_26 : Cond.code yX3_addBooth cX3_addBooth 5 (some .int) ∈ gw := gw_t3 (List.mem_of_getElem? (i := 26) (by decide +kernel)) (by decide +kernel)
theorem gk_X9_98 : GoodIn gw (wsV RX9 98 RX3 yX3_addBooth (.code yX3_addBooth cX3_addBooth 5 (some .int) :: gw)) ∧ (yX3_addBooth.cls = RX3 ∧ yX3_addBooth.cls ≠ "java/lang/invoke/MethodHandle" ∧ yX3_addBooth.cls ≠ "java/lang/invoke/VarHandle" ∧ (parseMethodDescriptor yX3_addBooth.desc).map (fun d => d.parameters.length) = some 3) := ⟨gi_V kw_3_23 kw_3_24 kw_3_25 kw_1_6 kw_3_26, by decide +kernel⟩
theorem dX9_booth_30 : decode cX9_booth 30 = .ok (.invokevirtual 98, 3) := by decide +kernel
theorem dX9_booth_33 : decode cX9_booth 33 = .ok (.ireturn, 1) := by decide +kernel
set_option maxHeartbeats 4000000 in
set_option maxRecDepth 100000 in
theorem c_booth (l : Launch) (D : va_G) (h0 : Nat) (tp : Nat) (rd : Nat) (dr : Nat) (fa : Nat) (ly : Nat) (wy : Nat) (cu : Nat) (rv : Nat) (bt : Nat) (bo0 : Nat) (bo1 : Nat) (bo2 : Nat) (bo3 : Nat) (bo4 : Nat) (bo5 : Nat) (bo6 : Nat) (bo7 : Nat) (bo8 : Nat) (bo9 : Nat) (bc : ClassId) (w1 : Int32) (fi : Int32) (cr : Int32) (hf : fi = 0 ∨ fi = 1) : cI l yX9_booth (.code yX9_booth cX9_booth 4 (some .int)) ({ frames := 1, cells := 0, slots := 0, locals := 24 }) D [(bc, .object RX0)] [(h0, .inr (8, [.ref tp, .ref rd, .ref dr, .ref fa, .ref ly, .ref wy])), (fa, .inr (3, [.ref cu, .ref rv, .ref bt, .int 0, .int 0, .int 0])), (bt, .inl (bc, 10, .inr (.inr (.inr (.inr (va_up (va_up (va_up (va_up (va_up (va_up (va_up (va_up (va_up (va_up (fun _ => none) 0 (some bo0)) 1 (some bo1)) 2 (some bo2)) 3 (some bo3)) 4 (some bo4)) 5 (some bo5)) 6 (some bo6)) 7 (some bo7)) 8 (some bo8)) 9 (some bo9))))))), (bo0, .inr (0, [.int 0, .int 0, .int 0, .int 0, .int 0, .int 0, .int 0]))] xT [.ref h0, .int w1, .int fi, .int cr] (S := Unit) (fun r _ => r = (if w1 < 1 ∨ 50 < w1 ∨ cr < 0 ∨ 99 < cr then (-1) else 0)) (fun _ => []) (fun _ => []) := by
  intro sz
  refine Met.ofW (cc := cX9_booth) (maxL := 4) (ret := (some .int)) (by decide) rfl ?_
  intro p e s m args below meth c s₁ B hml hv
  obtain ⟨rfl, hsz, hP, hK, hD0, hX⟩ := hv
  have hx := B.exec
  have hb := B.bytes
  have hr := B.returns
  have hts0 := atoms_spec (ws := .code yX9_booth cX9_booth 4 (some .int) :: gw) B.pre
  have hts := fun (w : Cond) (h : w ∈ gw) => hts0 w (List.mem_cons_of_mem _ h)
  have hown : s.vm.findClass RX9 = some m.cls := findClass_of_methodNamed B.named
  have hlocks := B.notSynchronized
  have F : mFix p s m _ c cX9_booth 4 RX9 := ⟨hx, hb, hml, hown, hts⟩
  subst hsz
  have hD := hD0.self (sz := s.heap.size)
  generalize hAe : va_A [(h0, .inr (8, [.ref tp, .ref rd, .ref dr, .ref fa, .ref ly, .ref wy])), (fa, .inr (3, [.ref cu, .ref rv, .ref bt, .int 0, .int 0, .int 0])), (bt, .inl (bc, 10, .inr (.inr (.inr (.inr (va_up (va_up (va_up (va_up (va_up (va_up (va_up (va_up (va_up (va_up (fun _ => none) 0 (some bo0)) 1 (some bo1)) 2 (some bo2)) 3 (some bo3)) 4 (some bo4)) 5 (some bo5)) 6 (some bo6)) 7 (some bo7)) 8 (some bo8)) 9 (some bo9))))))), (bo0, .inr (0, [.int 0, .int 0, .int 0, .int 0, .int 0, .int 0, .int 0]))] s.heap.size = A at hD hX ⊢
  have hA : ∀ q : Nat, s.heap.size ≤ q → A q := fun q h => by rw [← hAe]; exact Or.inr h
  have hS : va_S A s.heap s.heap [] := va_S.rf
  have hl := lv_entry ([.ref h0, .int w1, .int fi, .int cr]) (n := 4) (Nat.le_of_ble_eq_true rfl)
  rw [lg_entry_eq]
  generalize (lg_sl ([.ref h0, .int w1, .int fi, .int cr]) ++ List.replicate (4 - (lg_sl ([.ref h0, .int w1, .int fi, .int cr])).length) Slot.unset).toArray = ls at hl ⊢
  have hl : lv_has ls 4 [(0, .ref h0), (1, .int w1), (2, .int fi), (3, .int cr)] := hl
  have hP : va_P D vwCl [(h0, .inr (8, [.ref tp, .ref rd, .ref dr, .ref fa, .ref ly, .ref wy])), (fa, .inr (3, [.ref cu, .ref rv, .ref bt, .int 0, .int 0, .int 0])), (bt, .inl (bc, 10, .inr (.inr (.inr (.inr (va_up (va_up (va_up (va_up (va_up (va_up (va_up (va_up (va_up (va_up (fun _ => none) 0 (some bo0)) 1 (some bo1)) 2 (some bo2)) 3 (some bo3)) 4 (some bo4)) 5 (some bo5)) 6 (some bo6)) 7 (some bo7)) 8 (some bo8)) 9 (some bo9))))))), (bo0, .inr (0, [.int 0, .int 0, .int 0, .int 0, .int 0, .int 0, .int 0]))] s.heap := hP
  refine lv_iload_n hx hb dX9_booth_0 rfl (lv_at hl 1 rfl) ?_
  refine lv_iconst (v := 1) hx hb dX9_booth_1 (by decide) ?_
  refine lv_icmp_lt (tgt := 21) hx hb dX9_booth_2 (by decide) (fun c_1 => ?_) (fun c_1 => ?_)
  · skip
    refine lv_iconst (v := -1) hx hb dX9_booth_21 (by decide) ?_
    have hP9 := hP.sub (ws' := []) [] rfl
    have hD9 := hD.sub (ws' := []) [] (by decide) rfl
    have hK9 := hK.sub (tys' := []) [] rfl
    refine W.widen (k := 0) (n := 0) (by decide) (by decide) ?_
    exact W.iret (v := (-1)) hx hb hr (fun t ht hW => ⟨⟨((-1)), (), rfl, by simp only [c_1, or_false, false_or, or_true, true_or, not_true_eq_false, not_false_eq_true, ↓reduceIte], by rw [ht]; exact hP9, va_K.moved hW.alike hK9, hD9⟩, hS.F ht⟩) hS.2.2 dX9_booth_22
  · skip
    refine lv_iload_n hx hb dX9_booth_5 rfl (lv_at hl 1 rfl) ?_
    refine lv_bipush (v := 50) hx hb dX9_booth_6 (by decide) ?_
    refine lv_icmp_gt (tgt := 21) hx hb dX9_booth_8 (by decide) (fun c_2 => ?_) (fun c_2 => ?_)
    · skip
      refine lv_iconst (v := -1) hx hb dX9_booth_21 (by decide) ?_
      have hP9 := hP.sub (ws' := []) [] rfl
      have hD9 := hD.sub (ws' := []) [] (by decide) rfl
      have hK9 := hK.sub (tys' := []) [] rfl
      refine W.widen (k := 0) (n := 0) (by decide) (by decide) ?_
      exact W.iret (v := (-1)) hx hb hr (fun t ht hW => ⟨⟨((-1)), (), rfl, by simp only [c_1, c_2, or_false, false_or, or_true, true_or, not_true_eq_false, not_false_eq_true, ↓reduceIte], by rw [ht]; exact hP9, va_K.moved hW.alike hK9, hD9⟩, hS.F ht⟩) hS.2.2 dX9_booth_22
    · skip
      refine lv_iload_n hx hb dX9_booth_11 rfl (lv_at hl 3 rfl) ?_
      refine lv_if_lt (tgt := 21) hx hb dX9_booth_12 (by decide) (fun c_3 => ?_) (fun c_3 => ?_)
      · skip
        refine lv_iconst (v := -1) hx hb dX9_booth_21 (by decide) ?_
        have hP9 := hP.sub (ws' := []) [] rfl
        have hD9 := hD.sub (ws' := []) [] (by decide) rfl
        have hK9 := hK.sub (tys' := []) [] rfl
        refine W.widen (k := 0) (n := 0) (by decide) (by decide) ?_
        exact W.iret (v := (-1)) hx hb hr (fun t ht hW => ⟨⟨((-1)), (), rfl, by simp only [c_1, c_2, c_3, or_false, false_or, or_true, true_or, not_true_eq_false, not_false_eq_true, ↓reduceIte], by rw [ht]; exact hP9, va_K.moved hW.alike hK9, hD9⟩, hS.F ht⟩) hS.2.2 dX9_booth_22
      · skip
        refine lv_iload_n hx hb dX9_booth_15 rfl (lv_at hl 3 rfl) ?_
        refine lv_bipush (v := 99) hx hb dX9_booth_16 (by decide) ?_
        refine lv_icmp_le (tgt := 23) hx hb dX9_booth_18 (by decide) (fun c_4 => ?_) (fun c_4 => ?_)
        · skip
          have c_4 := Int32.not_lt.mpr c_4
          refine lv_aload_n hx hb dX9_booth_23 rfl (lv_at hl 0 rfl) ?_
          refine va_get (D := D) (ci := 8) (v := .ref fa) (C := RX9) (T := TX9) (N := 6) hx hb hts inG_X9 hown hK hP 0 rfl rfl 3 (by decide) (hts _ kw_2_70) (fun _ h9 => h9) rfl dX9_booth_24 ?_
          refine lv_iload_n hx hb dX9_booth_27 rfl (lv_at hl 1 rfl) ?_
          refine lv_iload_n hx hb dX9_booth_28 rfl (lv_at hl 2 rfl) ?_
          refine lv_iload_n hx hb dX9_booth_29 rfl (lv_at hl 3 rfl) ?_
          refine mc_Vi (rest := []) (wr := [(h0, .inr (8, [.ref tp, .ref rd, .ref dr, .ref fa, .ref ly, .ref wy]))]) F hK hP hD hS hA (c_addBooth l D fa cu rv bt bo0 bo1 bo2 bo3 bo4 bo5 bo6 bo7 bo8 bo9 bc w1 fi cr (by assumption)) ⟨gk_X9_98.1, gk_X9_98.2, Nat.le_of_ble_eq_true rfl, Nat.le_of_ble_eq_true rfl⟩ [1, 2, 3] [0] [0] ⟨rfl, rfl, rfl, rfl, by decide⟩ rfl xT_move (fun _ _ _ => trivial) 1 rfl rfl rfl hl.1 rfl (Nat.le_of_ble_eq_true rfl) dX9_booth_30 ⟨Nat.le_of_ble_eq_true rfl, Nat.le_of_ble_eq_true rfl⟩ (fun r_5 _ H locs hw hK1 hP hD hS => ?_)
          have hP : va_P D vwCl [(h0, .inr (8, [.ref tp, .ref rd, .ref dr, .ref fa, .ref ly, .ref wy]))] H := hP
          have hD : va_D A [(h0, .inr (8, [.ref tp, .ref rd, .ref dr, .ref fa, .ref ly, .ref wy]))] := hD
          have hw_6 : r_5 = 0 := hw
          obtain rfl : r_5 = 0 := hw_6
          have hP9 := hP.sub (ws' := []) [] rfl
          have hD9 := hD.sub (ws' := []) [] (by decide) rfl
          have hK9 := hK.sub (tys' := []) [] rfl
          refine W.widen (k := 0) (n := 0) (by decide) (by decide) ?_
          exact W.iret (v := 0) hx hb hr (fun t ht hW => ⟨⟨0, (), rfl, by simp only [c_1, c_2, c_3, c_4, or_false, false_or, or_true, true_or, not_true_eq_false, not_false_eq_true, ↓reduceIte], by rw [ht]; exact hP9, va_K.moved hW.alike hK9, hD9⟩, hS.F ht⟩) hS.2.2 dX9_booth_33
        · skip
          have c_4 := Int32.not_le.mp c_4
          refine lv_iconst (v := -1) hx hb dX9_booth_21 (by decide) ?_
          have hP9 := hP.sub (ws' := []) [] rfl
          have hD9 := hD.sub (ws' := []) [] (by decide) rfl
          have hK9 := hK.sub (tys' := []) [] rfl
          refine W.widen (k := 0) (n := 0) (by decide) (by decide) ?_
          exact W.iret (v := (-1)) hx hb hr (fun t ht hW => ⟨⟨((-1)), (), rfl, by simp only [c_1, c_2, c_3, c_4, or_false, false_or, or_true, true_or, not_true_eq_false, not_false_eq_true, ↓reduceIte], by rw [ht]; exact hP9, va_K.moved hW.alike hK9, hD9⟩, hS.F ht⟩) hS.2.2 dX9_booth_22
theorem dX9_set_0 : decode cX9_set 0 = .ok (.aload_n 0, 1) := by decide +kernel
theorem dX9_set_1 : decode cX9_set 1 = .ok (.getfield 33, 3) := by decide +kernel
theorem dX9_set_4 : decode cX9_set 4 = .ok (.iload_n 1, 1) := by decide +kernel
theorem kw_3_31 : Cond.methodLink RX9 102 yX3_boothNumbered ∈ gw := gw_t3 (List.mem_of_getElem? (i := 31) (by decide +kernel)) (by decide +kernel)
theorem kw_3_32 : Cond.instanceMethod yX3_boothNumbered ∈ gw := gw_t3 (List.mem_of_getElem? (i := 32) (by decide +kernel)) (by decide +kernel)
theorem kw_3_33 : Cond.selects RX3 yX3_boothNumbered yX3_boothNumbered ∈ gw := gw_t3 (List.mem_of_getElem? (i := 33) (by decide +kernel)) (by decide +kernel)
theorem kw_3_34 : Cond.code yX3_boothNumbered cX3_boothNumbered 2 (some (.object "IceFair$Booth")) ∈ gw := gw_t3 (List.mem_of_getElem? (i := 34) (by decide +kernel)) (by decide +kernel)
theorem gk_X9_102 : GoodIn gw (wsV RX9 102 RX3 yX3_boothNumbered (.code yX3_boothNumbered cX3_boothNumbered 2 (some (.object "IceFair$Booth")) :: gw)) ∧ (yX3_boothNumbered.cls = RX3 ∧ yX3_boothNumbered.cls ≠ "java/lang/invoke/MethodHandle" ∧ yX3_boothNumbered.cls ≠ "java/lang/invoke/VarHandle" ∧ (parseMethodDescriptor yX3_boothNumbered.desc).map (fun d => d.parameters.length) = some 1) := ⟨gi_V kw_3_31 kw_3_32 kw_3_33 kw_1_6 kw_3_34, by decide +kernel⟩
theorem dX9_set_5 : decode cX9_set 5 = .ok (.invokevirtual 102, 3) := by decide +kernel
theorem dX9_set_8 : decode cX9_set 8 = .ok (.astore 4, 2) := by decide +kernel
theorem dX9_set_10 : decode cX9_set 10 = .ok (.aload 4, 2) := by decide +kernel
theorem dX9_set_12 : decode cX9_set 12 = .ok (.ifnull 25, 3) := by decide +kernel
theorem dX9_set_37 : decode cX9_set 37 = .ok (.iconst (-1), 1) := by decide +kernel
theorem dX9_set_38 : decode cX9_set 38 = .ok (.ireturn, 1) := by decide +kernel
set_option maxHeartbeats 4000000 in
set_option maxRecDepth 100000 in
theorem c_set (l : Launch) (D : va_G) (h0 : Nat) (tp : Nat) (rd : Nat) (dr : Nat) (fa : Nat) (ly : Nat) (wy : Nat) (cu : Nat) (rv : Nat) (bt : Nat) (x1 : Int32) (x2 : Int32) (x3 : Int32) : cI l yX9_set (.code yX9_set cX9_set 5 (some .int)) ({ frames := 4, cells := 0, slots := 0, locals := 131 }) D [] [(h0, .inr (8, [.ref tp, .ref rd, .ref dr, .ref fa, .ref ly, .ref wy])), (fa, .inr (3, [.ref cu, .ref rv, .ref bt, .int 0, .int 0, .int 0]))] xT [.ref h0, .int x1, .int x2, .int x3] (S := Unit) (fun r _ => r = (-1)) (fun _ => []) (fun _ => []) := by
  intro sz
  refine Met.ofW (cc := cX9_set) (maxL := 5) (ret := (some .int)) (by decide) rfl ?_
  intro p e s m args below meth c s₁ B hml hv
  obtain ⟨rfl, hsz, hP, hK, hD0, hX⟩ := hv
  have hx := B.exec
  have hb := B.bytes
  have hr := B.returns
  have hts0 := atoms_spec (ws := .code yX9_set cX9_set 5 (some .int) :: gw) B.pre
  have hts := fun (w : Cond) (h : w ∈ gw) => hts0 w (List.mem_cons_of_mem _ h)
  have hown : s.vm.findClass RX9 = some m.cls := findClass_of_methodNamed B.named
  have hlocks := B.notSynchronized
  have F : mFix p s m _ c cX9_set 5 RX9 := ⟨hx, hb, hml, hown, hts⟩
  subst hsz
  have hD := hD0.self (sz := s.heap.size)
  generalize hAe : va_A [(h0, .inr (8, [.ref tp, .ref rd, .ref dr, .ref fa, .ref ly, .ref wy])), (fa, .inr (3, [.ref cu, .ref rv, .ref bt, .int 0, .int 0, .int 0]))] s.heap.size = A at hD hX ⊢
  have hA : ∀ q : Nat, s.heap.size ≤ q → A q := fun q h => by rw [← hAe]; exact Or.inr h
  have hS : va_S A s.heap s.heap [] := va_S.rf
  have hl := lv_entry ([.ref h0, .int x1, .int x2, .int x3]) (n := 5) (Nat.le_of_ble_eq_true rfl)
  rw [lg_entry_eq]
  generalize (lg_sl ([.ref h0, .int x1, .int x2, .int x3]) ++ List.replicate (5 - (lg_sl ([.ref h0, .int x1, .int x2, .int x3])).length) Slot.unset).toArray = ls at hl ⊢
  have hl : lv_has ls 5 [(0, .ref h0), (1, .int x1), (2, .int x2), (3, .int x3)] := hl
  have hP : va_P D vwCl [(h0, .inr (8, [.ref tp, .ref rd, .ref dr, .ref fa, .ref ly, .ref wy])), (fa, .inr (3, [.ref cu, .ref rv, .ref bt, .int 0, .int 0, .int 0]))] s.heap := hP
  refine lv_aload_n hx hb dX9_set_0 rfl (lv_at hl 0 rfl) ?_
  refine va_get (D := D) (ci := 8) (v := .ref fa) (C := RX9) (T := TX9) (N := 6) hx hb hts inG_X9 hown hK hP 0 rfl rfl 3 (by decide) (hts _ kw_2_70) (fun _ h9 => h9) rfl dX9_set_1 ?_
  refine lv_iload_n hx hb dX9_set_4 rfl (lv_at hl 1 rfl) ?_
  refine mc_Vq (rest := []) (wr := [(h0, .inr (8, [.ref tp, .ref rd, .ref dr, .ref fa, .ref ly, .ref wy]))]) F hK hP hD hS hA (c_boothNone l D fa cu rv bt 0 0 x1 ) ⟨gk_X9_102.1, gk_X9_102.2, Nat.le_of_ble_eq_true rfl, Nat.le_of_ble_eq_true rfl⟩ [1] [0] [] ⟨rfl, rfl, rfl, rfl, by decide⟩ rfl xT_move (fun _ _ _ => trivial) 1 rfl rfl rfl hl.1 rfl (Nat.le_of_ble_eq_true rfl) dX9_set_5 ⟨Nat.le_of_ble_eq_true rfl, Nat.le_of_ble_eq_true rfl⟩ (fun r_1 _ H locs hw hK1 hP hD hS => ?_)
  have hP : va_P D vwCl [(h0, .inr (8, [.ref tp, .ref rd, .ref dr, .ref fa, .ref ly, .ref wy])), (fa, .inr (3, [.ref cu, .ref rv, .ref bt, .int 0, .int 0, .int 0]))] H := hP
  have hD : va_D A [(h0, .inr (8, [.ref tp, .ref rd, .ref dr, .ref fa, .ref ly, .ref wy])), (fa, .inr (3, [.ref cu, .ref rv, .ref bt, .int 0, .int 0, .int 0]))] := hD
  have hw_2 : r_1 = none := hw
  obtain rfl : r_1 = none := hw_2
  refine W.eq (g2 := F0 m 8 ls [.null]) rfl ?_
  refine lv_astoreN (lv' := [(4, .null), (0, .ref h0), (1, .int x1), (2, .int x2), (3, .int x3)]) hx hb dX9_set_8 hl (by decide) rfl (fun ls hl => ?_)
  refine lv_aloadN hx hb dX9_set_10 (lv_at hl 0 rfl) ?_
  refine lv_ifnullN (tgt := 37) hx hb dX9_set_12 (by decide) ?_
  refine lv_iconst (v := -1) hx hb dX9_set_37 (by decide) ?_
  have hP9 := hP.sub (ws' := []) [] rfl
  have hD9 := hD.sub (ws' := []) [] (by decide) rfl
  have hK9 := hK.sub (tys' := []) [] rfl
  refine W.widen (k := 0) (n := 0) (by decide) (by decide) ?_
  exact W.iret (v := (-1)) hx hb hr (fun t ht hW => ⟨⟨((-1)), (), rfl, rfl, by rw [ht]; exact hP9, va_K.moved hW.alike hK9, hD9⟩, hS.F ht⟩) hS.2.2 dX9_set_38
theorem dX9_clear_0 : decode cX9_clear 0 = .ok (.aload_n 0, 1) := by decide +kernel
theorem dX9_clear_1 : decode cX9_clear 1 = .ok (.getfield 33, 3) := by decide +kernel
theorem dX9_clear_4 : decode cX9_clear 4 = .ok (.iload_n 1, 1) := by decide +kernel
theorem dX9_clear_5 : decode cX9_clear 5 = .ok (.invokevirtual 102, 3) := by decide +kernel
theorem dX9_clear_8 : decode cX9_clear 8 = .ok (.astore_n 2, 1) := by decide +kernel
theorem dX9_clear_9 : decode cX9_clear 9 = .ok (.aload_n 2, 1) := by decide +kernel
theorem dX9_clear_10 : decode cX9_clear 10 = .ok (.ifnull 11, 3) := by decide +kernel
theorem dX9_clear_21 : decode cX9_clear 21 = .ok (.iconst 0, 1) := by decide +kernel
theorem dX9_clear_22 : decode cX9_clear 22 = .ok (.ireturn, 1) := by decide +kernel
set_option maxHeartbeats 4000000 in
set_option maxRecDepth 100000 in
theorem c_clear (l : Launch) (D : va_G) (h0 : Nat) (tp : Nat) (rd : Nat) (dr : Nat) (fa : Nat) (ly : Nat) (wy : Nat) (cu : Nat) (rv : Nat) (bt : Nat) (x1 : Int32) : cI l yX9_clear (.code yX9_clear cX9_clear 3 (some .boolean)) ({ frames := 3, cells := 0, slots := 0, locals := 69 }) D [] [(h0, .inr (8, [.ref tp, .ref rd, .ref dr, .ref fa, .ref ly, .ref wy])), (fa, .inr (3, [.ref cu, .ref rv, .ref bt, .int 0, .int 0, .int 0]))] xT [.ref h0, .int x1] (S := Unit) (fun r _ => r = 0) (fun _ => []) (fun _ => []) := by
  intro sz
  refine Met.ofW (cc := cX9_clear) (maxL := 3) (ret := (some .boolean)) (by decide) rfl ?_
  intro p e s m args below meth c s₁ B hml hv
  obtain ⟨rfl, hsz, hP, hK, hD0, hX⟩ := hv
  have hx := B.exec
  have hb := B.bytes
  have hr := B.returns
  have hts0 := atoms_spec (ws := .code yX9_clear cX9_clear 3 (some .boolean) :: gw) B.pre
  have hts := fun (w : Cond) (h : w ∈ gw) => hts0 w (List.mem_cons_of_mem _ h)
  have hown : s.vm.findClass RX9 = some m.cls := findClass_of_methodNamed B.named
  have hlocks := B.notSynchronized
  have F : mFix p s m _ c cX9_clear 3 RX9 := ⟨hx, hb, hml, hown, hts⟩
  subst hsz
  have hD := hD0.self (sz := s.heap.size)
  generalize hAe : va_A [(h0, .inr (8, [.ref tp, .ref rd, .ref dr, .ref fa, .ref ly, .ref wy])), (fa, .inr (3, [.ref cu, .ref rv, .ref bt, .int 0, .int 0, .int 0]))] s.heap.size = A at hD hX ⊢
  have hA : ∀ q : Nat, s.heap.size ≤ q → A q := fun q h => by rw [← hAe]; exact Or.inr h
  have hS : va_S A s.heap s.heap [] := va_S.rf
  have hl := lv_entry ([.ref h0, .int x1]) (n := 3) (Nat.le_of_ble_eq_true rfl)
  rw [lg_entry_eq]
  generalize (lg_sl ([.ref h0, .int x1]) ++ List.replicate (3 - (lg_sl ([.ref h0, .int x1])).length) Slot.unset).toArray = ls at hl ⊢
  have hl : lv_has ls 3 [(0, .ref h0), (1, .int x1)] := hl
  have hP : va_P D vwCl [(h0, .inr (8, [.ref tp, .ref rd, .ref dr, .ref fa, .ref ly, .ref wy])), (fa, .inr (3, [.ref cu, .ref rv, .ref bt, .int 0, .int 0, .int 0]))] s.heap := hP
  refine lv_aload_n hx hb dX9_clear_0 rfl (lv_at hl 0 rfl) ?_
  refine va_get (D := D) (ci := 8) (v := .ref fa) (C := RX9) (T := TX9) (N := 6) hx hb hts inG_X9 hown hK hP 0 rfl rfl 3 (by decide) (hts _ kw_2_70) (fun _ h9 => h9) rfl dX9_clear_1 ?_
  refine lv_iload_n hx hb dX9_clear_4 rfl (lv_at hl 1 rfl) ?_
  refine mc_Vq (rest := []) (wr := [(h0, .inr (8, [.ref tp, .ref rd, .ref dr, .ref fa, .ref ly, .ref wy]))]) F hK hP hD hS hA (c_boothNone l D fa cu rv bt 0 0 x1 ) ⟨gk_X9_102.1, gk_X9_102.2, Nat.le_of_ble_eq_true rfl, Nat.le_of_ble_eq_true rfl⟩ [1] [0] [] ⟨rfl, rfl, rfl, rfl, by decide⟩ rfl xT_move (fun _ _ _ => trivial) 1 rfl rfl rfl hl.1 rfl (Nat.le_of_ble_eq_true rfl) dX9_clear_5 ⟨Nat.le_of_ble_eq_true rfl, Nat.le_of_ble_eq_true rfl⟩ (fun r_1 _ H locs hw hK1 hP hD hS => ?_)
  have hP : va_P D vwCl [(h0, .inr (8, [.ref tp, .ref rd, .ref dr, .ref fa, .ref ly, .ref wy])), (fa, .inr (3, [.ref cu, .ref rv, .ref bt, .int 0, .int 0, .int 0]))] H := hP
  have hD : va_D A [(h0, .inr (8, [.ref tp, .ref rd, .ref dr, .ref fa, .ref ly, .ref wy])), (fa, .inr (3, [.ref cu, .ref rv, .ref bt, .int 0, .int 0, .int 0]))] := hD
  have hw_2 : r_1 = none := hw
  obtain rfl : r_1 = none := hw_2
  refine W.eq (g2 := F0 m 8 ls [.null]) rfl ?_
  refine lv_astore_nN (lv' := [(2, .null), (0, .ref h0), (1, .int x1)]) hx hb dX9_clear_8 rfl hl (by decide) rfl (fun ls hl => ?_)
  refine lv_aload_nN hx hb dX9_clear_9 rfl (lv_at hl 0 rfl) ?_
  refine lv_ifnullN (tgt := 21) hx hb dX9_clear_10 (by decide) ?_
  refine lv_iconst (v := 0) hx hb dX9_clear_21 (by decide) ?_
  have hP9 := hP.sub (ws' := []) [] rfl
  have hD9 := hD.sub (ws' := []) [] (by decide) rfl
  have hK9 := hK.sub (tys' := []) [] rfl
  refine W.widen (k := 0) (n := 0) (by decide) (by decide) ?_
  exact W.zret (v := 0) hx hb hr rfl (fun t ht hW => ⟨⟨0, (), rfl, rfl, by rw [ht]; exact hP9, va_K.moved hW.alike hK9, hD9⟩, hS.F ht⟩) hS.2.2 dX9_clear_22
theorem dX1_copyFrom_0 : decode cX1_copyFrom 0 = .ok (.aload_n 1, 1) := by decide +kernel
theorem dX1_copyFrom_1 : decode cX1_copyFrom 1 = .ok (.getfield 15, 3) := by decide +kernel
theorem dX1_copyFrom_4 : decode cX1_copyFrom 4 = .ok (.iconst 0, 1) := by decide +kernel
theorem dX1_copyFrom_5 : decode cX1_copyFrom 5 = .ok (.aload_n 0, 1) := by decide +kernel
theorem dX1_copyFrom_6 : decode cX1_copyFrom 6 = .ok (.getfield 15, 3) := by decide +kernel
theorem dX1_copyFrom_9 : decode cX1_copyFrom 9 = .ok (.iconst 0, 1) := by decide +kernel
theorem dX1_copyFrom_10 : decode cX1_copyFrom 10 = .ok (.getstatic 9, 3) := by decide +kernel
theorem dX1_copyFrom_13 : decode cX1_copyFrom 13 = .ok (.arraylength, 1) := by decide +kernel
theorem dX1_copyFrom_14 : decode cX1_copyFrom 14 = .ok (.invokestatic 30, 3) := by decide +kernel
theorem dX1_copyFrom_17 : decode cX1_copyFrom 17 = .ok (.aload_n 1, 1) := by decide +kernel
theorem dX1_copyFrom_18 : decode cX1_copyFrom 18 = .ok (.getfield 18, 3) := by decide +kernel
theorem dX1_copyFrom_21 : decode cX1_copyFrom 21 = .ok (.iconst 0, 1) := by decide +kernel
theorem dX1_copyFrom_22 : decode cX1_copyFrom 22 = .ok (.aload_n 0, 1) := by decide +kernel
theorem dX1_copyFrom_23 : decode cX1_copyFrom 23 = .ok (.getfield 18, 3) := by decide +kernel
theorem dX1_copyFrom_26 : decode cX1_copyFrom 26 = .ok (.iconst 0, 1) := by decide +kernel
theorem dX1_copyFrom_27 : decode cX1_copyFrom 27 = .ok (.iconst 4, 1) := by decide +kernel
theorem dX1_copyFrom_28 : decode cX1_copyFrom 28 = .ok (.invokestatic 30, 3) := by decide +kernel
theorem dX1_copyFrom_31 : decode cX1_copyFrom 31 = .ok (.aload_n 1, 1) := by decide +kernel
theorem dX1_copyFrom_32 : decode cX1_copyFrom 32 = .ok (.getfield 21, 3) := by decide +kernel
theorem dX1_copyFrom_35 : decode cX1_copyFrom 35 = .ok (.iconst 0, 1) := by decide +kernel
theorem dX1_copyFrom_36 : decode cX1_copyFrom 36 = .ok (.aload_n 0, 1) := by decide +kernel
theorem dX1_copyFrom_37 : decode cX1_copyFrom 37 = .ok (.getfield 21, 3) := by decide +kernel
theorem dX1_copyFrom_40 : decode cX1_copyFrom 40 = .ok (.iconst 0, 1) := by decide +kernel
theorem dX1_copyFrom_41 : decode cX1_copyFrom 41 = .ok (.iconst 4, 1) := by decide +kernel
theorem dX1_copyFrom_42 : decode cX1_copyFrom 42 = .ok (.invokestatic 30, 3) := by decide +kernel
theorem dX1_copyFrom_45 : decode cX1_copyFrom 45 = .ok (.aload_n 1, 1) := by decide +kernel
theorem dX1_copyFrom_46 : decode cX1_copyFrom 46 = .ok (.getfield 24, 3) := by decide +kernel
theorem dX1_copyFrom_49 : decode cX1_copyFrom 49 = .ok (.iconst 0, 1) := by decide +kernel
theorem dX1_copyFrom_50 : decode cX1_copyFrom 50 = .ok (.aload_n 0, 1) := by decide +kernel
theorem dX1_copyFrom_51 : decode cX1_copyFrom 51 = .ok (.getfield 24, 3) := by decide +kernel
theorem dX1_copyFrom_54 : decode cX1_copyFrom 54 = .ok (.iconst 0, 1) := by decide +kernel
theorem dX1_copyFrom_55 : decode cX1_copyFrom 55 = .ok (.iconst 4, 1) := by decide +kernel
theorem dX1_copyFrom_56 : decode cX1_copyFrom 56 = .ok (.invokestatic 30, 3) := by decide +kernel
theorem dX1_copyFrom_59 : decode cX1_copyFrom 59 = .ok (.aload_n 0, 1) := by decide +kernel
theorem dX1_copyFrom_60 : decode cX1_copyFrom 60 = .ok (.aload_n 1, 1) := by decide +kernel
theorem dX1_copyFrom_61 : decode cX1_copyFrom 61 = .ok (.getfield 36, 3) := by decide +kernel
theorem dX1_copyFrom_64 : decode cX1_copyFrom 64 = .ok (.putfield 36, 3) := by decide +kernel
theorem dX1_copyFrom_67 : decode cX1_copyFrom 67 = .ok (.aload_n 0, 1) := by decide +kernel
theorem dX1_copyFrom_68 : decode cX1_copyFrom 68 = .ok (.aload_n 1, 1) := by decide +kernel
theorem dX1_copyFrom_69 : decode cX1_copyFrom 69 = .ok (.getfield 40, 3) := by decide +kernel
theorem dX1_copyFrom_72 : decode cX1_copyFrom 72 = .ok (.putfield 40, 3) := by decide +kernel
theorem dX1_copyFrom_75 : decode cX1_copyFrom 75 = .ok (.return_, 1) := by decide +kernel
set_option maxHeartbeats 4000000 in
set_option maxRecDepth 100000 in
theorem c_copyFrom (l : Launch) (D : va_G) (us : Nat) (h0 : Nat) (q1 : Nat) (q2 : Nat) (q3 : Nat) (q4 : Nat) (cy1 : ClassId) (cy2 : ClassId) (cy3 : ClassId) (cy4 : ClassId) (f1 : Nat → Int32) (f2 : Nat → Int32) (f3 : Nat → Int32) (f4 : Nat → Int32) (n1 : Int32) (n2 : Int32) (g0 : Nat) (p1 : Nat) (p2 : Nat) (p3 : Nat) (p4 : Nat) (dy1 : ClassId) (dy2 : ClassId) (dy3 : ClassId) (dy4 : ClassId) (g1 : Nat → Int32) (g2 : Nat → Int32) (g3 : Nat → Int32) (g4 : Nat → Int32) (m1 : Int32) (m2 : Int32) : cV l yX1_copyFrom (.code yX1_copyFrom cX1_copyFrom 2 none) ({ frames := 1, cells := 0, slots := 0, locals := 60 }) D [(cy1, .int), (cy2, .int), (cy3, .int), (cy4, .int), (dy1, .int), (dy2, .int), (dy3, .int), (dy4, .int)] [(h0, .inr (1, [.ref q1, .ref q2, .ref q3, .ref q4, .int n1, .int n2])), (q1, .inl (cy1, 8, .inl f1)), (q2, .inl (cy2, 4, .inl f2)), (q3, .inl (cy3, 4, .inl f3)), (q4, .inl (cy4, 4, .inl f4)), (g0, .inr (1, [.ref p1, .ref p2, .ref p3, .ref p4, .int m1, .int m2])), (p1, .inl (dy1, 8, .inl g1)), (p2, .inl (dy2, 4, .inl g2)), (p3, .inl (dy3, 4, .inl g3)), (p4, .inl (dy4, 4, .inl g4))] (xU us) [.ref h0, .ref g0] (S := Unit) (fun _ => True) (fun _ => []) (fun _ => [(h0, .inr (1, [.ref q1, .ref q2, .ref q3, .ref q4, .int m1, .int m2])), (q1, .inl (cy1, 8, .inl g1)), (q2, .inl (cy2, 4, .inl g2)), (q3, .inl (cy3, 4, .inl g3)), (q4, .inl (cy4, 4, .inl g4)), (g0, .inr (1, [.ref p1, .ref p2, .ref p3, .ref p4, .int m1, .int m2])), (p1, .inl (dy1, 8, .inl g1)), (p2, .inl (dy2, 4, .inl g2)), (p3, .inl (dy3, 4, .inl g3)), (p4, .inl (dy4, 4, .inl g4))]) := by
  intro sz
  refine Met.ofW (cc := cX1_copyFrom) (maxL := 2) (ret := none) (by decide) rfl ?_
  intro p e s m args below meth c s₁ B hml hv
  obtain ⟨rfl, hsz, hP, hK, hD0, hX⟩ := hv
  have hx := B.exec
  have hb := B.bytes
  have hr := B.returns
  have hts0 := atoms_spec (ws := .code yX1_copyFrom cX1_copyFrom 2 none :: gw) B.pre
  have hts := fun (w : Cond) (h : w ∈ gw) => hts0 w (List.mem_cons_of_mem _ h)
  have hown : s.vm.findClass RX1 = some m.cls := findClass_of_methodNamed B.named
  have hlocks := B.notSynchronized
  have F : mFix p s m _ c cX1_copyFrom 2 RX1 := ⟨hx, hb, hml, hown, hts⟩
  subst hsz
  have hD := hD0.self (sz := s.heap.size)
  generalize hAe : va_A [(h0, .inr (1, [.ref q1, .ref q2, .ref q3, .ref q4, .int n1, .int n2])), (q1, .inl (cy1, 8, .inl f1)), (q2, .inl (cy2, 4, .inl f2)), (q3, .inl (cy3, 4, .inl f3)), (q4, .inl (cy4, 4, .inl f4)), (g0, .inr (1, [.ref p1, .ref p2, .ref p3, .ref p4, .int m1, .int m2])), (p1, .inl (dy1, 8, .inl g1)), (p2, .inl (dy2, 4, .inl g2)), (p3, .inl (dy3, 4, .inl g3)), (p4, .inl (dy4, 4, .inl g4))] s.heap.size = A at hD hX ⊢
  have hA : ∀ q : Nat, s.heap.size ≤ q → A q := fun q h => by rw [← hAe]; exact Or.inr h
  have hS : va_S A s.heap s.heap [] := va_S.rf
  have hl := lv_entry ([.ref h0, .ref g0]) (n := 2) (Nat.le_of_ble_eq_true rfl)
  rw [lg_entry_eq]
  generalize (lg_sl ([.ref h0, .ref g0]) ++ List.replicate (2 - (lg_sl ([.ref h0, .ref g0])).length) Slot.unset).toArray = ls at hl ⊢
  have hl : lv_has ls 2 [(0, .ref h0), (1, .ref g0)] := hl
  have hP : va_P D vwCl [(h0, .inr (1, [.ref q1, .ref q2, .ref q3, .ref q4, .int n1, .int n2])), (q1, .inl (cy1, 8, .inl f1)), (q2, .inl (cy2, 4, .inl f2)), (q3, .inl (cy3, 4, .inl f3)), (q4, .inl (cy4, 4, .inl f4)), (g0, .inr (1, [.ref p1, .ref p2, .ref p3, .ref p4, .int m1, .int m2])), (p1, .inl (dy1, 8, .inl g1)), (p2, .inl (dy2, 4, .inl g2)), (p3, .inl (dy3, 4, .inl g3)), (p4, .inl (dy4, 4, .inl g4))] s.heap := hP
  refine lv_aload_n hx hb dX1_copyFrom_0 rfl (lv_at hl 1 rfl) ?_
  refine va_get (D := D) (ci := 1) (v := .ref p1) (C := RX1) (T := TX1) (N := 6) hx hb hts inG_X1 hown hK hP 5 rfl rfl 0 (by decide) (hts _ kw_1_99) (fun _ h9 => h9) rfl dX1_copyFrom_1 ?_
  refine lv_iconst (v := 0) hx hb dX1_copyFrom_4 (by decide) ?_
  refine lv_aload_n hx hb dX1_copyFrom_5 rfl (lv_at hl 0 rfl) ?_
  refine va_get (D := D) (ci := 1) (v := .ref q1) (C := RX1) (T := TX1) (N := 6) hx hb hts inG_X1 hown hK hP 0 rfl rfl 0 (by decide) (hts _ kw_1_99) (fun _ h9 => h9) rfl dX1_copyFrom_6 ?_
  refine lv_iconst (v := 0) hx hb dX1_copyFrom_9 (by decide) ?_
  refine va_gets hx hb hX.1 hS hown (hts _ kw_1_90) (fun _ h9 => h9) dX1_copyFrom_10 ?_
  refine va_slen hx hb hX.2.1 hX.2.2.1 hX.2.2.2 hS dX1_copyFrom_13 ?_
  refine lv_topi (fun z_1 ez_1 => ?_)
  obtain rfl : z_1 = (8 : Int32) := ez_1.trans (by decide)
  refine va_copyi hx hb (by rw [hml]; exact hl.1.symm) hown (hts _ kw_1_96) (hts _ kw_1_98) (hts _ kw_1_97) (hts _ kw_1_5) hK hP hD hS 6 1 4 0 rfl rfl rfl rfl rfl (by decide) (by decide) (by decide) (by decide) (by decide) (fun _ _ => rfl) (Nat.le_of_ble_eq_true rfl) (Nat.le_of_ble_eq_true rfl) dX1_copyFrom_14 (fun H locs hP hD hS => ?_)
  have hP : va_P D vwCl [(h0, .inr (1, [.ref q1, .ref q2, .ref q3, .ref q4, .int n1, .int n2])), (q1, .inl (cy1, 8, .inl (va_cpy g1 f1 0 0 8))), (q2, .inl (cy2, 4, .inl f2)), (q3, .inl (cy3, 4, .inl f3)), (q4, .inl (cy4, 4, .inl f4)), (g0, .inr (1, [.ref p1, .ref p2, .ref p3, .ref p4, .int m1, .int m2])), (p1, .inl (dy1, 8, .inl g1)), (p2, .inl (dy2, 4, .inl g2)), (p3, .inl (dy3, 4, .inl g3)), (p4, .inl (dy4, 4, .inl g4))] H := hP
  have hD : va_D A [(h0, .inr (1, [.ref q1, .ref q2, .ref q3, .ref q4, .int n1, .int n2])), (q1, .inl (cy1, 8, .inl (va_cpy g1 f1 0 0 8))), (q2, .inl (cy2, 4, .inl f2)), (q3, .inl (cy3, 4, .inl f3)), (q4, .inl (cy4, 4, .inl f4)), (g0, .inr (1, [.ref p1, .ref p2, .ref p3, .ref p4, .int m1, .int m2])), (p1, .inl (dy1, 8, .inl g1)), (p2, .inl (dy2, 4, .inl g2)), (p3, .inl (dy3, 4, .inl g3)), (p4, .inl (dy4, 4, .inl g4))] := hD
  have hP := va_P_arr hP 1 g1 rfl (fun j hj => sb_cpy0 hj)
  have hP : va_P D vwCl [(h0, .inr (1, [.ref q1, .ref q2, .ref q3, .ref q4, .int n1, .int n2])), (q1, .inl (cy1, 8, .inl g1)), (q2, .inl (cy2, 4, .inl f2)), (q3, .inl (cy3, 4, .inl f3)), (q4, .inl (cy4, 4, .inl f4)), (g0, .inr (1, [.ref p1, .ref p2, .ref p3, .ref p4, .int m1, .int m2])), (p1, .inl (dy1, 8, .inl g1)), (p2, .inl (dy2, 4, .inl g2)), (p3, .inl (dy3, 4, .inl g3)), (p4, .inl (dy4, 4, .inl g4))] H := hP
  have hD : va_D A [(h0, .inr (1, [.ref q1, .ref q2, .ref q3, .ref q4, .int n1, .int n2])), (q1, .inl (cy1, 8, .inl g1)), (q2, .inl (cy2, 4, .inl f2)), (q3, .inl (cy3, 4, .inl f3)), (q4, .inl (cy4, 4, .inl f4)), (g0, .inr (1, [.ref p1, .ref p2, .ref p3, .ref p4, .int m1, .int m2])), (p1, .inl (dy1, 8, .inl g1)), (p2, .inl (dy2, 4, .inl g2)), (p3, .inl (dy3, 4, .inl g3)), (p4, .inl (dy4, 4, .inl g4))] := va_D_same hD rfl
  refine lv_aload_n hx hb dX1_copyFrom_17 rfl (lv_at hl 1 rfl) ?_
  refine va_get (D := D) (ci := 1) (v := .ref p2) (C := RX1) (T := TX1) (N := 6) hx hb hts inG_X1 hown hK hP 5 rfl rfl 1 (by decide) (hts _ kw_1_100) (fun _ h9 => h9) rfl dX1_copyFrom_18 ?_
  refine lv_iconst (v := 0) hx hb dX1_copyFrom_21 (by decide) ?_
  refine lv_aload_n hx hb dX1_copyFrom_22 rfl (lv_at hl 0 rfl) ?_
  refine va_get (D := D) (ci := 1) (v := .ref q2) (C := RX1) (T := TX1) (N := 6) hx hb hts inG_X1 hown hK hP 0 rfl rfl 1 (by decide) (hts _ kw_1_100) (fun _ h9 => h9) rfl dX1_copyFrom_23 ?_
  refine lv_iconst (v := 0) hx hb dX1_copyFrom_26 (by decide) ?_
  refine lv_iconst (v := 4) hx hb dX1_copyFrom_27 (by decide) ?_
  refine va_copyi hx hb (by rw [hml]; exact hl.1.symm) hown (hts _ kw_1_96) (hts _ kw_1_98) (hts _ kw_1_97) (hts _ kw_1_5) hK hP hD hS 7 2 5 1 rfl rfl rfl rfl rfl (by decide) (by decide) (by decide) (by decide) (by decide) (fun _ _ => rfl) (Nat.le_of_ble_eq_true rfl) (Nat.le_of_ble_eq_true rfl) dX1_copyFrom_28 (fun H locs hP hD hS => ?_)
  have hP : va_P D vwCl [(h0, .inr (1, [.ref q1, .ref q2, .ref q3, .ref q4, .int n1, .int n2])), (q1, .inl (cy1, 8, .inl g1)), (q2, .inl (cy2, 4, .inl (va_cpy g2 f2 0 0 4))), (q3, .inl (cy3, 4, .inl f3)), (q4, .inl (cy4, 4, .inl f4)), (g0, .inr (1, [.ref p1, .ref p2, .ref p3, .ref p4, .int m1, .int m2])), (p1, .inl (dy1, 8, .inl g1)), (p2, .inl (dy2, 4, .inl g2)), (p3, .inl (dy3, 4, .inl g3)), (p4, .inl (dy4, 4, .inl g4))] H := hP
  have hD : va_D A [(h0, .inr (1, [.ref q1, .ref q2, .ref q3, .ref q4, .int n1, .int n2])), (q1, .inl (cy1, 8, .inl g1)), (q2, .inl (cy2, 4, .inl (va_cpy g2 f2 0 0 4))), (q3, .inl (cy3, 4, .inl f3)), (q4, .inl (cy4, 4, .inl f4)), (g0, .inr (1, [.ref p1, .ref p2, .ref p3, .ref p4, .int m1, .int m2])), (p1, .inl (dy1, 8, .inl g1)), (p2, .inl (dy2, 4, .inl g2)), (p3, .inl (dy3, 4, .inl g3)), (p4, .inl (dy4, 4, .inl g4))] := hD
  have hP := va_P_arr hP 2 g2 rfl (fun j hj => sb_cpy0 hj)
  have hP : va_P D vwCl [(h0, .inr (1, [.ref q1, .ref q2, .ref q3, .ref q4, .int n1, .int n2])), (q1, .inl (cy1, 8, .inl g1)), (q2, .inl (cy2, 4, .inl g2)), (q3, .inl (cy3, 4, .inl f3)), (q4, .inl (cy4, 4, .inl f4)), (g0, .inr (1, [.ref p1, .ref p2, .ref p3, .ref p4, .int m1, .int m2])), (p1, .inl (dy1, 8, .inl g1)), (p2, .inl (dy2, 4, .inl g2)), (p3, .inl (dy3, 4, .inl g3)), (p4, .inl (dy4, 4, .inl g4))] H := hP
  have hD : va_D A [(h0, .inr (1, [.ref q1, .ref q2, .ref q3, .ref q4, .int n1, .int n2])), (q1, .inl (cy1, 8, .inl g1)), (q2, .inl (cy2, 4, .inl g2)), (q3, .inl (cy3, 4, .inl f3)), (q4, .inl (cy4, 4, .inl f4)), (g0, .inr (1, [.ref p1, .ref p2, .ref p3, .ref p4, .int m1, .int m2])), (p1, .inl (dy1, 8, .inl g1)), (p2, .inl (dy2, 4, .inl g2)), (p3, .inl (dy3, 4, .inl g3)), (p4, .inl (dy4, 4, .inl g4))] := va_D_same hD rfl
  refine lv_aload_n hx hb dX1_copyFrom_31 rfl (lv_at hl 1 rfl) ?_
  refine va_get (D := D) (ci := 1) (v := .ref p3) (C := RX1) (T := TX1) (N := 6) hx hb hts inG_X1 hown hK hP 5 rfl rfl 2 (by decide) (hts _ kw_1_102) (fun _ h9 => h9) rfl dX1_copyFrom_32 ?_
  refine lv_iconst (v := 0) hx hb dX1_copyFrom_35 (by decide) ?_
  refine lv_aload_n hx hb dX1_copyFrom_36 rfl (lv_at hl 0 rfl) ?_
  refine va_get (D := D) (ci := 1) (v := .ref q3) (C := RX1) (T := TX1) (N := 6) hx hb hts inG_X1 hown hK hP 0 rfl rfl 2 (by decide) (hts _ kw_1_102) (fun _ h9 => h9) rfl dX1_copyFrom_37 ?_
  refine lv_iconst (v := 0) hx hb dX1_copyFrom_40 (by decide) ?_
  refine lv_iconst (v := 4) hx hb dX1_copyFrom_41 (by decide) ?_
  refine va_copyi hx hb (by rw [hml]; exact hl.1.symm) hown (hts _ kw_1_96) (hts _ kw_1_98) (hts _ kw_1_97) (hts _ kw_1_5) hK hP hD hS 8 3 6 2 rfl rfl rfl rfl rfl (by decide) (by decide) (by decide) (by decide) (by decide) (fun _ _ => rfl) (Nat.le_of_ble_eq_true rfl) (Nat.le_of_ble_eq_true rfl) dX1_copyFrom_42 (fun H locs hP hD hS => ?_)
  have hP : va_P D vwCl [(h0, .inr (1, [.ref q1, .ref q2, .ref q3, .ref q4, .int n1, .int n2])), (q1, .inl (cy1, 8, .inl g1)), (q2, .inl (cy2, 4, .inl g2)), (q3, .inl (cy3, 4, .inl (va_cpy g3 f3 0 0 4))), (q4, .inl (cy4, 4, .inl f4)), (g0, .inr (1, [.ref p1, .ref p2, .ref p3, .ref p4, .int m1, .int m2])), (p1, .inl (dy1, 8, .inl g1)), (p2, .inl (dy2, 4, .inl g2)), (p3, .inl (dy3, 4, .inl g3)), (p4, .inl (dy4, 4, .inl g4))] H := hP
  have hD : va_D A [(h0, .inr (1, [.ref q1, .ref q2, .ref q3, .ref q4, .int n1, .int n2])), (q1, .inl (cy1, 8, .inl g1)), (q2, .inl (cy2, 4, .inl g2)), (q3, .inl (cy3, 4, .inl (va_cpy g3 f3 0 0 4))), (q4, .inl (cy4, 4, .inl f4)), (g0, .inr (1, [.ref p1, .ref p2, .ref p3, .ref p4, .int m1, .int m2])), (p1, .inl (dy1, 8, .inl g1)), (p2, .inl (dy2, 4, .inl g2)), (p3, .inl (dy3, 4, .inl g3)), (p4, .inl (dy4, 4, .inl g4))] := hD
  have hP := va_P_arr hP 3 g3 rfl (fun j hj => sb_cpy0 hj)
  have hP : va_P D vwCl [(h0, .inr (1, [.ref q1, .ref q2, .ref q3, .ref q4, .int n1, .int n2])), (q1, .inl (cy1, 8, .inl g1)), (q2, .inl (cy2, 4, .inl g2)), (q3, .inl (cy3, 4, .inl g3)), (q4, .inl (cy4, 4, .inl f4)), (g0, .inr (1, [.ref p1, .ref p2, .ref p3, .ref p4, .int m1, .int m2])), (p1, .inl (dy1, 8, .inl g1)), (p2, .inl (dy2, 4, .inl g2)), (p3, .inl (dy3, 4, .inl g3)), (p4, .inl (dy4, 4, .inl g4))] H := hP
  have hD : va_D A [(h0, .inr (1, [.ref q1, .ref q2, .ref q3, .ref q4, .int n1, .int n2])), (q1, .inl (cy1, 8, .inl g1)), (q2, .inl (cy2, 4, .inl g2)), (q3, .inl (cy3, 4, .inl g3)), (q4, .inl (cy4, 4, .inl f4)), (g0, .inr (1, [.ref p1, .ref p2, .ref p3, .ref p4, .int m1, .int m2])), (p1, .inl (dy1, 8, .inl g1)), (p2, .inl (dy2, 4, .inl g2)), (p3, .inl (dy3, 4, .inl g3)), (p4, .inl (dy4, 4, .inl g4))] := va_D_same hD rfl
  refine lv_aload_n hx hb dX1_copyFrom_45 rfl (lv_at hl 1 rfl) ?_
  refine va_get (D := D) (ci := 1) (v := .ref p4) (C := RX1) (T := TX1) (N := 6) hx hb hts inG_X1 hown hK hP 5 rfl rfl 3 (by decide) (hts _ kw_1_104) (fun _ h9 => h9) rfl dX1_copyFrom_46 ?_
  refine lv_iconst (v := 0) hx hb dX1_copyFrom_49 (by decide) ?_
  refine lv_aload_n hx hb dX1_copyFrom_50 rfl (lv_at hl 0 rfl) ?_
  refine va_get (D := D) (ci := 1) (v := .ref q4) (C := RX1) (T := TX1) (N := 6) hx hb hts inG_X1 hown hK hP 0 rfl rfl 3 (by decide) (hts _ kw_1_104) (fun _ h9 => h9) rfl dX1_copyFrom_51 ?_
  refine lv_iconst (v := 0) hx hb dX1_copyFrom_54 (by decide) ?_
  refine lv_iconst (v := 4) hx hb dX1_copyFrom_55 (by decide) ?_
  refine va_copyi hx hb (by rw [hml]; exact hl.1.symm) hown (hts _ kw_1_96) (hts _ kw_1_98) (hts _ kw_1_97) (hts _ kw_1_5) hK hP hD hS 9 4 7 3 rfl rfl rfl rfl rfl (by decide) (by decide) (by decide) (by decide) (by decide) (fun _ _ => rfl) (Nat.le_of_ble_eq_true rfl) (Nat.le_of_ble_eq_true rfl) dX1_copyFrom_56 (fun H locs hP hD hS => ?_)
  have hP : va_P D vwCl [(h0, .inr (1, [.ref q1, .ref q2, .ref q3, .ref q4, .int n1, .int n2])), (q1, .inl (cy1, 8, .inl g1)), (q2, .inl (cy2, 4, .inl g2)), (q3, .inl (cy3, 4, .inl g3)), (q4, .inl (cy4, 4, .inl (va_cpy g4 f4 0 0 4))), (g0, .inr (1, [.ref p1, .ref p2, .ref p3, .ref p4, .int m1, .int m2])), (p1, .inl (dy1, 8, .inl g1)), (p2, .inl (dy2, 4, .inl g2)), (p3, .inl (dy3, 4, .inl g3)), (p4, .inl (dy4, 4, .inl g4))] H := hP
  have hD : va_D A [(h0, .inr (1, [.ref q1, .ref q2, .ref q3, .ref q4, .int n1, .int n2])), (q1, .inl (cy1, 8, .inl g1)), (q2, .inl (cy2, 4, .inl g2)), (q3, .inl (cy3, 4, .inl g3)), (q4, .inl (cy4, 4, .inl (va_cpy g4 f4 0 0 4))), (g0, .inr (1, [.ref p1, .ref p2, .ref p3, .ref p4, .int m1, .int m2])), (p1, .inl (dy1, 8, .inl g1)), (p2, .inl (dy2, 4, .inl g2)), (p3, .inl (dy3, 4, .inl g3)), (p4, .inl (dy4, 4, .inl g4))] := hD
  have hP := va_P_arr hP 4 g4 rfl (fun j hj => sb_cpy0 hj)
  have hP : va_P D vwCl [(h0, .inr (1, [.ref q1, .ref q2, .ref q3, .ref q4, .int n1, .int n2])), (q1, .inl (cy1, 8, .inl g1)), (q2, .inl (cy2, 4, .inl g2)), (q3, .inl (cy3, 4, .inl g3)), (q4, .inl (cy4, 4, .inl g4)), (g0, .inr (1, [.ref p1, .ref p2, .ref p3, .ref p4, .int m1, .int m2])), (p1, .inl (dy1, 8, .inl g1)), (p2, .inl (dy2, 4, .inl g2)), (p3, .inl (dy3, 4, .inl g3)), (p4, .inl (dy4, 4, .inl g4))] H := hP
  have hD : va_D A [(h0, .inr (1, [.ref q1, .ref q2, .ref q3, .ref q4, .int n1, .int n2])), (q1, .inl (cy1, 8, .inl g1)), (q2, .inl (cy2, 4, .inl g2)), (q3, .inl (cy3, 4, .inl g3)), (q4, .inl (cy4, 4, .inl g4)), (g0, .inr (1, [.ref p1, .ref p2, .ref p3, .ref p4, .int m1, .int m2])), (p1, .inl (dy1, 8, .inl g1)), (p2, .inl (dy2, 4, .inl g2)), (p3, .inl (dy3, 4, .inl g3)), (p4, .inl (dy4, 4, .inl g4))] := va_D_same hD rfl
  refine lv_aload_n hx hb dX1_copyFrom_59 rfl (lv_at hl 0 rfl) ?_
  refine lv_aload_n hx hb dX1_copyFrom_60 rfl (lv_at hl 1 rfl) ?_
  refine va_get (D := D) (ci := 1) (v := .int m1) (C := RX1) (T := TX1) (N := 6) hx hb hts inG_X1 hown hK hP 5 rfl rfl 4 (by decide) (hts _ kw_1_106) (fun _ h9 => h9) rfl dX1_copyFrom_61 ?_
  refine va_put (D := D) (ci := 1) (v := .int m1) (ty := .int) (C := RX1) (T := TX1) (N := 6) hx hb hts inG_X1 tyX1 tyX1_ok nmX1 hown hK hP hD hS 0 rfl rfl 4 (by decide) (hts _ kw_1_106) (fun _ h9 => h9) rfl (by decide +kernel) rfl rfl (Nat.le_of_ble_eq_true rfl) dX1_copyFrom_64 (fun H locs hP hD hS => ?_)
  have hP : va_P D vwCl [(h0, .inr (1, [.ref q1, .ref q2, .ref q3, .ref q4, .int m1, .int n2])), (q1, .inl (cy1, 8, .inl g1)), (q2, .inl (cy2, 4, .inl g2)), (q3, .inl (cy3, 4, .inl g3)), (q4, .inl (cy4, 4, .inl g4)), (g0, .inr (1, [.ref p1, .ref p2, .ref p3, .ref p4, .int m1, .int m2])), (p1, .inl (dy1, 8, .inl g1)), (p2, .inl (dy2, 4, .inl g2)), (p3, .inl (dy3, 4, .inl g3)), (p4, .inl (dy4, 4, .inl g4))] H := hP
  have hD : va_D A [(h0, .inr (1, [.ref q1, .ref q2, .ref q3, .ref q4, .int m1, .int n2])), (q1, .inl (cy1, 8, .inl g1)), (q2, .inl (cy2, 4, .inl g2)), (q3, .inl (cy3, 4, .inl g3)), (q4, .inl (cy4, 4, .inl g4)), (g0, .inr (1, [.ref p1, .ref p2, .ref p3, .ref p4, .int m1, .int m2])), (p1, .inl (dy1, 8, .inl g1)), (p2, .inl (dy2, 4, .inl g2)), (p3, .inl (dy3, 4, .inl g3)), (p4, .inl (dy4, 4, .inl g4))] := hD
  refine lv_aload_n hx hb dX1_copyFrom_67 rfl (lv_at hl 0 rfl) ?_
  refine lv_aload_n hx hb dX1_copyFrom_68 rfl (lv_at hl 1 rfl) ?_
  refine va_get (D := D) (ci := 1) (v := .int m2) (C := RX1) (T := TX1) (N := 6) hx hb hts inG_X1 hown hK hP 5 rfl rfl 5 (by decide) (hts _ kw_1_110) (fun _ h9 => h9) rfl dX1_copyFrom_69 ?_
  refine va_put (D := D) (ci := 1) (v := .int m2) (ty := .int) (C := RX1) (T := TX1) (N := 6) hx hb hts inG_X1 tyX1 tyX1_ok nmX1 hown hK hP hD hS 0 rfl rfl 5 (by decide) (hts _ kw_1_110) (fun _ h9 => h9) rfl (by decide +kernel) rfl rfl (Nat.le_of_ble_eq_true rfl) dX1_copyFrom_72 (fun H locs hP hD hS => ?_)
  have hP : va_P D vwCl [(h0, .inr (1, [.ref q1, .ref q2, .ref q3, .ref q4, .int m1, .int m2])), (q1, .inl (cy1, 8, .inl g1)), (q2, .inl (cy2, 4, .inl g2)), (q3, .inl (cy3, 4, .inl g3)), (q4, .inl (cy4, 4, .inl g4)), (g0, .inr (1, [.ref p1, .ref p2, .ref p3, .ref p4, .int m1, .int m2])), (p1, .inl (dy1, 8, .inl g1)), (p2, .inl (dy2, 4, .inl g2)), (p3, .inl (dy3, 4, .inl g3)), (p4, .inl (dy4, 4, .inl g4))] H := hP
  have hD : va_D A [(h0, .inr (1, [.ref q1, .ref q2, .ref q3, .ref q4, .int m1, .int m2])), (q1, .inl (cy1, 8, .inl g1)), (q2, .inl (cy2, 4, .inl g2)), (q3, .inl (cy3, 4, .inl g3)), (q4, .inl (cy4, 4, .inl g4)), (g0, .inr (1, [.ref p1, .ref p2, .ref p3, .ref p4, .int m1, .int m2])), (p1, .inl (dy1, 8, .inl g1)), (p2, .inl (dy2, 4, .inl g2)), (p3, .inl (dy3, 4, .inl g3)), (p4, .inl (dy4, 4, .inl g4))] := hD
  have hP9 := hP.sub (ws' := [(h0, .inr (1, [.ref q1, .ref q2, .ref q3, .ref q4, .int m1, .int m2])), (q1, .inl (cy1, 8, .inl g1)), (q2, .inl (cy2, 4, .inl g2)), (q3, .inl (cy3, 4, .inl g3)), (q4, .inl (cy4, 4, .inl g4)), (g0, .inr (1, [.ref p1, .ref p2, .ref p3, .ref p4, .int m1, .int m2])), (p1, .inl (dy1, 8, .inl g1)), (p2, .inl (dy2, 4, .inl g2)), (p3, .inl (dy3, 4, .inl g3)), (p4, .inl (dy4, 4, .inl g4))]) [0, 1, 2, 3, 4, 5, 6, 7, 8, 9] rfl
  have hD9 := hD.sub (ws' := [(h0, .inr (1, [.ref q1, .ref q2, .ref q3, .ref q4, .int m1, .int m2])), (q1, .inl (cy1, 8, .inl g1)), (q2, .inl (cy2, 4, .inl g2)), (q3, .inl (cy3, 4, .inl g3)), (q4, .inl (cy4, 4, .inl g4)), (g0, .inr (1, [.ref p1, .ref p2, .ref p3, .ref p4, .int m1, .int m2])), (p1, .inl (dy1, 8, .inl g1)), (p2, .inl (dy2, 4, .inl g2)), (p3, .inl (dy3, 4, .inl g3)), (p4, .inl (dy4, 4, .inl g4))]) [0, 1, 2, 3, 4, 5, 6, 7, 8, 9] (by decide) rfl
  have hK9 := hK.sub (tys' := []) [] rfl
  refine W.widen (k := 0) (n := 0) (by decide) (by decide) ?_
  exact W.vret hx hb hr (fun t ht hW => ⟨⟨(), rfl, trivial, by rw [ht]; exact hP9, va_K.moved hW.alike hK9, hD9⟩, hS.F ht⟩) hS.2.2 dX1_copyFrom_75
theorem dX2_takeToken_0 : decode cX2_takeToken 0 = .ok (.aload_n 0, 1) := by decide +kernel
theorem kw_1_61 : Cond.fieldLink RX2 28 "IceFair$CustomsReader" "next" "I" ∈ gw := gw_t1 (List.mem_of_getElem? (i := 61) (by decide +kernel)) (by decide +kernel)
theorem dX2_takeToken_1 : decode cX2_takeToken 1 = .ok (.getfield 28, 3) := by decide +kernel
theorem dX2_takeToken_4 : decode cX2_takeToken 4 = .ok (.aload_n 0, 1) := by decide +kernel
theorem kw_1_60 : Cond.fieldLink RX2 25 "IceFair$CustomsReader" "length" "I" ∈ gw := gw_t1 (List.mem_of_getElem? (i := 60) (by decide +kernel)) (by decide +kernel)
theorem dX2_takeToken_5 : decode cX2_takeToken 5 = .ok (.getfield 25, 3) := by decide +kernel
theorem dX2_takeToken_8 : decode cX2_takeToken 8 = .ok (.if_icmp .ge 30, 3) := by decide +kernel
theorem dX2_takeToken_38 : decode cX2_takeToken 38 = .ok (.aload_n 0, 1) := by decide +kernel
theorem dX2_takeToken_39 : decode cX2_takeToken 39 = .ok (.aload_n 0, 1) := by decide +kernel
theorem dX2_takeToken_40 : decode cX2_takeToken 40 = .ok (.getfield 28, 3) := by decide +kernel
theorem kw_1_63 : Cond.fieldLink RX2 50 "IceFair$CustomsReader" "start" "I" ∈ gw := gw_t1 (List.mem_of_getElem? (i := 63) (by decide +kernel)) (by decide +kernel)
theorem dX2_takeToken_43 : decode cX2_takeToken 43 = .ok (.putfield 50, 3) := by decide +kernel
theorem dX2_takeToken_46 : decode cX2_takeToken 46 = .ok (.aload_n 0, 1) := by decide +kernel
theorem dX2_takeToken_47 : decode cX2_takeToken 47 = .ok (.getfield 28, 3) := by decide +kernel
theorem dX2_takeToken_50 : decode cX2_takeToken 50 = .ok (.aload_n 0, 1) := by decide +kernel
theorem dX2_takeToken_51 : decode cX2_takeToken 51 = .ok (.getfield 25, 3) := by decide +kernel
theorem dX2_takeToken_54 : decode cX2_takeToken 54 = .ok (.if_icmp .lt 11, 3) := by decide +kernel
theorem dX2_takeToken_57 : decode cX2_takeToken 57 = .ok (.aload_n 0, 1) := by decide +kernel
theorem dX2_takeToken_58 : decode cX2_takeToken 58 = .ok (.iconst 0, 1) := by decide +kernel
theorem kw_1_62 : Cond.fieldLink RX2 39 "IceFair$CustomsReader" "token" "I" ∈ gw := gw_t1 (List.mem_of_getElem? (i := 62) (by decide +kernel)) (by decide +kernel)
theorem dX2_takeToken_59 : decode cX2_takeToken 59 = .ok (.putfield 39, 3) := by decide +kernel
theorem dX2_takeToken_62 : decode cX2_takeToken 62 = .ok (.goto 77, 3) := by decide +kernel
theorem dX2_takeToken_139 : decode cX2_takeToken 139 = .ok (.return_, 1) := by decide +kernel
set_option maxHeartbeats 4000000 in
set_option maxRecDepth 100000 in
theorem c_take_end (l : Launch) (D : va_G) (h0 : Nat) (qv : Nat) (qt : Nat) (fk : Int32) (fp : Int32) (t1 : Int32) (s1 : Int32) (v1 : Int32) : cV l yX2_takeToken (.code yX2_takeToken cX2_takeToken 1 none) ({ frames := 2, cells := 0, slots := 0, locals := 80 }) D [] [(h0, .inr (2, [.int fk, .int fp, .ref qv, .ref qt, .int 0, .int 0, .int t1, .int s1, .int v1]))] xT [.ref h0] (S := Unit) (fun _ => True) (fun _ => []) (fun _ => [(h0, .inr (2, [.int fk, .int fp, .ref qv, .ref qt, .int 0, .int 0, .int 0, .int 0, .int v1]))]) := by
  intro sz
  refine Met.ofW (cc := cX2_takeToken) (maxL := 1) (ret := none) (by decide) rfl ?_
  intro p e s m args below meth c s₁ B hml hv
  obtain ⟨rfl, hsz, hP, hK, hD0, hX⟩ := hv
  have hx := B.exec
  have hb := B.bytes
  have hr := B.returns
  have hts0 := atoms_spec (ws := .code yX2_takeToken cX2_takeToken 1 none :: gw) B.pre
  have hts := fun (w : Cond) (h : w ∈ gw) => hts0 w (List.mem_cons_of_mem _ h)
  have hown : s.vm.findClass RX2 = some m.cls := findClass_of_methodNamed B.named
  have hlocks := B.notSynchronized
  have F : mFix p s m _ c cX2_takeToken 1 RX2 := ⟨hx, hb, hml, hown, hts⟩
  subst hsz
  have hD := hD0.self (sz := s.heap.size)
  generalize hAe : va_A [(h0, .inr (2, [.int fk, .int fp, .ref qv, .ref qt, .int 0, .int 0, .int t1, .int s1, .int v1]))] s.heap.size = A at hD hX ⊢
  have hA : ∀ q : Nat, s.heap.size ≤ q → A q := fun q h => by rw [← hAe]; exact Or.inr h
  have hS : va_S A s.heap s.heap [] := va_S.rf
  have hl := lv_entry ([.ref h0]) (n := 1) (Nat.le_of_ble_eq_true rfl)
  rw [lg_entry_eq]
  generalize (lg_sl ([.ref h0]) ++ List.replicate (1 - (lg_sl ([.ref h0])).length) Slot.unset).toArray = ls at hl ⊢
  have hl : lv_has ls 1 [(0, .ref h0)] := hl
  have hP : va_P D vwCl [(h0, .inr (2, [.int fk, .int fp, .ref qv, .ref qt, .int 0, .int 0, .int t1, .int s1, .int v1]))] s.heap := hP
  refine lv_aload_n hx hb dX2_takeToken_0 rfl (lv_at hl 0 rfl) ?_
  refine va_get (D := D) (ci := 2) (v := .int 0) (C := RX2) (T := TX2) (N := 9) hx hb hts inG_X2 hown hK hP 0 rfl rfl 5 (by decide) (hts _ kw_1_61) (fun _ h9 => h9) rfl dX2_takeToken_1 ?_
  refine lv_aload_n hx hb dX2_takeToken_4 rfl (lv_at hl 0 rfl) ?_
  refine va_get (D := D) (ci := 2) (v := .int 0) (C := RX2) (T := TX2) (N := 9) hx hb hts inG_X2 hown hK hP 0 rfl rfl 4 (by decide) (hts _ kw_1_60) (fun _ h9 => h9) rfl dX2_takeToken_5 ?_
  refine lv_icmp_ge (tgt := 38) hx hb dX2_takeToken_8 (by decide) (fun c_1 => ?_) (fun c_1 => absurd c_1 (by decide))
  refine lv_aload_n hx hb dX2_takeToken_38 rfl (lv_at hl 0 rfl) ?_
  refine lv_aload_n hx hb dX2_takeToken_39 rfl (lv_at hl 0 rfl) ?_
  refine va_get (D := D) (ci := 2) (v := .int 0) (C := RX2) (T := TX2) (N := 9) hx hb hts inG_X2 hown hK hP 0 rfl rfl 5 (by decide) (hts _ kw_1_61) (fun _ h9 => h9) rfl dX2_takeToken_40 ?_
  refine va_put (D := D) (ci := 2) (v := .int 0) (ty := .int) (C := RX2) (T := TX2) (N := 9) hx hb hts inG_X2 tyX2 tyX2_ok nmX2 hown hK hP hD hS 0 rfl rfl 7 (by decide) (hts _ kw_1_63) (fun _ h9 => h9) rfl (by decide +kernel) rfl rfl (Nat.le_of_ble_eq_true rfl) dX2_takeToken_43 (fun H locs hP hD hS => ?_)
  have hP : va_P D vwCl [(h0, .inr (2, [.int fk, .int fp, .ref qv, .ref qt, .int 0, .int 0, .int t1, .int 0, .int v1]))] H := hP
  have hD : va_D A [(h0, .inr (2, [.int fk, .int fp, .ref qv, .ref qt, .int 0, .int 0, .int t1, .int 0, .int v1]))] := hD
  refine lv_aload_n hx hb dX2_takeToken_46 rfl (lv_at hl 0 rfl) ?_
  refine va_get (D := D) (ci := 2) (v := .int 0) (C := RX2) (T := TX2) (N := 9) hx hb hts inG_X2 hown hK hP 0 rfl rfl 5 (by decide) (hts _ kw_1_61) (fun _ h9 => h9) rfl dX2_takeToken_47 ?_
  refine lv_aload_n hx hb dX2_takeToken_50 rfl (lv_at hl 0 rfl) ?_
  refine va_get (D := D) (ci := 2) (v := .int 0) (C := RX2) (T := TX2) (N := 9) hx hb hts inG_X2 hown hK hP 0 rfl rfl 4 (by decide) (hts _ kw_1_60) (fun _ h9 => h9) rfl dX2_takeToken_51 ?_
  refine lv_icmp_lt (tgt := 65) hx hb dX2_takeToken_54 (by decide) (fun c_2 => absurd c_2 (by decide)) (fun c_2 => ?_)
  refine lv_aload_n hx hb dX2_takeToken_57 rfl (lv_at hl 0 rfl) ?_
  refine lv_iconst (v := 0) hx hb dX2_takeToken_58 (by decide) ?_
  refine va_put (D := D) (ci := 2) (v := .int 0) (ty := .int) (C := RX2) (T := TX2) (N := 9) hx hb hts inG_X2 tyX2 tyX2_ok nmX2 hown hK hP hD hS 0 rfl rfl 6 (by decide) (hts _ kw_1_62) (fun _ h9 => h9) rfl (by decide +kernel) rfl rfl (Nat.le_of_ble_eq_true rfl) dX2_takeToken_59 (fun H locs hP hD hS => ?_)
  have hP : va_P D vwCl [(h0, .inr (2, [.int fk, .int fp, .ref qv, .ref qt, .int 0, .int 0, .int 0, .int 0, .int v1]))] H := hP
  have hD : va_D A [(h0, .inr (2, [.int fk, .int fp, .ref qv, .ref qt, .int 0, .int 0, .int 0, .int 0, .int v1]))] := hD
  refine lv_goto (tgt := 139) hx hb dX2_takeToken_62 (by decide) ?_
  have hP9 := hP.sub (ws' := [(h0, .inr (2, [.int fk, .int fp, .ref qv, .ref qt, .int 0, .int 0, .int 0, .int 0, .int v1]))]) [0] rfl
  have hD9 := hD.sub (ws' := [(h0, .inr (2, [.int fk, .int fp, .ref qv, .ref qt, .int 0, .int 0, .int 0, .int 0, .int v1]))]) [0] (by decide) rfl
  have hK9 := hK.sub (tys' := []) [] rfl
  refine W.widen (k := 0) (n := 0) (by decide) (by decide) ?_
  exact W.vret hx hb hr (fun t ht hW => ⟨⟨(), rfl, trivial, by rw [ht]; exact hP9, va_K.moved hW.alike hK9, hD9⟩, hS.F ht⟩) hS.2.2 dX2_takeToken_139
theorem dX2_read_0 : decode cX2_read 0 = .ok (.aload_n 0, 1) := by decide +kernel
theorem dX2_read_1 : decode cX2_read 1 = .ok (.aload_n 1, 1) := by decide +kernel
theorem dX2_read_2 : decode cX2_read 2 = .ok (.putfield 22, 3) := by decide +kernel
theorem dX2_read_5 : decode cX2_read 5 = .ok (.aload_n 0, 1) := by decide +kernel
theorem dX2_read_6 : decode cX2_read 6 = .ok (.iload_n 2, 1) := by decide +kernel
theorem dX2_read_7 : decode cX2_read 7 = .ok (.aload_n 1, 1) := by decide +kernel
theorem dX2_read_8 : decode cX2_read 8 = .ok (.arraylength, 1) := by decide +kernel
theorem dX2_read_9 : decode cX2_read 9 = .ok (.if_icmp .ge 7, 3) := by decide +kernel
theorem dX2_read_12 : decode cX2_read 12 = .ok (.iload_n 2, 1) := by decide +kernel
theorem dX2_read_13 : decode cX2_read 13 = .ok (.goto 5, 3) := by decide +kernel
theorem dX2_read_18 : decode cX2_read 18 = .ok (.putfield 25, 3) := by decide +kernel
theorem dX2_read_21 : decode cX2_read 21 = .ok (.aload_n 0, 1) := by decide +kernel
theorem dX2_read_22 : decode cX2_read 22 = .ok (.iconst 0, 1) := by decide +kernel
theorem dX2_read_23 : decode cX2_read 23 = .ok (.putfield 28, 3) := by decide +kernel
theorem dX2_read_26 : decode cX2_read 26 = .ok (.aload_n 0, 1) := by decide +kernel
theorem dX2_read_27 : decode cX2_read 27 = .ok (.iconst 0, 1) := by decide +kernel
theorem dX2_read_28 : decode cX2_read 28 = .ok (.putfield 9, 3) := by decide +kernel
theorem dX2_read_31 : decode cX2_read 31 = .ok (.aload_n 0, 1) := by decide +kernel
theorem dX2_read_32 : decode cX2_read 32 = .ok (.iconst (-1), 1) := by decide +kernel
theorem dX2_read_33 : decode cX2_read 33 = .ok (.putfield 15, 3) := by decide +kernel
theorem dX2_read_36 : decode cX2_read 36 = .ok (.aload_n 3, 1) := by decide +kernel
theorem kw_2_102 : Cond.methodLink RX2 31 yX1_forget ∈ gw := gw_t2 (List.mem_of_getElem? (i := 102) (by decide +kernel)) (by decide +kernel)
theorem gk_X2_31 : GoodIn gw (wsV RX2 31 RX1 yX1_forget (.code yX1_forget cX1_forget 1 none :: gw)) ∧ (yX1_forget.cls = RX1 ∧ yX1_forget.cls ≠ "java/lang/invoke/MethodHandle" ∧ yX1_forget.cls ≠ "java/lang/invoke/VarHandle" ∧ (parseMethodDescriptor yX1_forget.desc).map (fun d => d.parameters.length) = some 0) := ⟨gi_V kw_2_102 kw_1_93 kw_1_94 kw_1_4 kw_1_95, by decide +kernel⟩
theorem dX2_read_37 : decode cX2_read 37 = .ok (.invokevirtual 31, 3) := by decide +kernel
theorem dX2_read_40 : decode cX2_read 40 = .ok (.iconst 0, 1) := by decide +kernel
theorem dX2_read_41 : decode cX2_read 41 = .ok (.istore 4, 2) := by decide +kernel
theorem dX2_read_43 : decode cX2_read 43 = .ok (.iload 4, 2) := by decide +kernel
theorem dX2_read_45 : decode cX2_read 45 = .ok (.aload_n 0, 1) := by decide +kernel
theorem dX2_read_46 : decode cX2_read 46 = .ok (.getfield 25, 3) := by decide +kernel
theorem dX2_read_49 : decode cX2_read 49 = .ok (.if_icmp .gt 33, 3) := by decide +kernel
theorem dX2_read_52 : decode cX2_read 52 = .ok (.aload_n 0, 1) := by decide +kernel
theorem kw_2_103 : Cond.methodLink RX2 36 yX2_takeToken ∈ gw := gw_t2 (List.mem_of_getElem? (i := 103) (by decide +kernel)) (by decide +kernel)
theorem kw_2_105 : Cond.instanceMethod yX2_takeToken ∈ gw := gw_t2 (List.mem_of_getElem? (i := 105) (by decide +kernel)) (by decide +kernel)
theorem ks_1_0 : Cond.selects RX2 yX2_takeToken yX2_takeToken ∈ gw := gw_s (y := yX2_takeToken) (n := 9) (List.mem_append_left _ (List.mem_of_getElem? (i := 0) (by decide +kernel)))
theorem kw_2_106 : Cond.code yX2_takeToken cX2_takeToken 1 none ∈ gw := gw_t2 (List.mem_of_getElem? (i := 106) (by decide +kernel)) (by decide +kernel)
theorem gk_X2_36 : GoodIn gw (wsV RX2 36 RX2 yX2_takeToken (.code yX2_takeToken cX2_takeToken 1 none :: gw)) ∧ (yX2_takeToken.cls = RX2 ∧ yX2_takeToken.cls ≠ "java/lang/invoke/MethodHandle" ∧ yX2_takeToken.cls ≠ "java/lang/invoke/VarHandle" ∧ (parseMethodDescriptor yX2_takeToken.desc).map (fun d => d.parameters.length) = some 0) := ⟨gi_V kw_2_103 kw_2_105 ks_1_0 kw_1_3 kw_2_106, by decide +kernel⟩
theorem dX2_read_53 : decode cX2_read 53 = .ok (.invokevirtual 36, 3) := by decide +kernel
theorem dX2_read_56 : decode cX2_read 56 = .ok (.aload_n 0, 1) := by decide +kernel
theorem dX2_read_57 : decode cX2_read 57 = .ok (.getfield 39, 3) := by decide +kernel
theorem dX2_read_60 : decode cX2_read 60 = .ok (.ifCond .ne 6, 3) := by decide +kernel
theorem dX2_read_63 : decode cX2_read 63 = .ok (.iload 4, 2) := by decide +kernel
theorem dX2_read_65 : decode cX2_read 65 = .ok (.ireturn, 1) := by decide +kernel
set_option maxHeartbeats 4000000 in
set_option maxRecDepth 100000 in
theorem c_read0 (l : Launch) (D : va_G) (us : Nat) (h0 : Nat) (qv : Nat) (qt : Nat) (qb : Nat) (g0 : Nat) (p1 : Nat) (p2 : Nat) (p3 : Nat) (p4 : Nat) (yb : ClassId) (dy1 : ClassId) (dy2 : ClassId) (dy3 : ClassId) (dy4 : ClassId) (fb : Nat → Int32) (g1 : Nat → Int32) (g2 : Nat → Int32) (g3 : Nat → Int32) (g4 : Nat → Int32) (m1 : Int32) (m2 : Int32) : cI l yX2_read (.code yX2_read cX2_read 5 (some .int)) ({ frames := 5, cells := 0, slots := 0, locals := 146 }) D [(yb, .int), (dy1, .int), (dy2, .int), (dy3, .int), (dy4, .int)] [(h0, .inr (2, [.int 0, .int ((-1)), .ref qv, .ref qt, .int 0, .int 0, .int 0, .int 0, .int 0])), (qb, .inl (yb, 400, .inl fb)), (g0, .inr (1, [.ref p1, .ref p2, .ref p3, .ref p4, .int m1, .int m2])), (p1, .inl (dy1, 8, .inl g1)), (p2, .inl (dy2, 4, .inl g2)), (p3, .inl (dy3, 4, .inl g3)), (p4, .inl (dy4, 4, .inl g4))] (xU us) [.ref h0, .ref qb, .int 0, .ref g0] (S := Unit) (fun r _ => r = 0) (fun _ => []) (fun _ => [(h0, .inr (2, [.int 0, .int ((-1)), .ref qv, .ref qb, .int 0, .int 0, .int 0, .int 0, .int 0])), (qb, .inl (yb, 400, .inl fb)), (g0, .inr (1, [.ref p1, .ref p2, .ref p3, .ref p4, .int 0, .int 0])), (p1, .inl (dy1, 8, .inl uF)), (p2, .inl (dy2, 4, .inl g2)), (p3, .inl (dy3, 4, .inl g3)), (p4, .inl (dy4, 4, .inl g4))]) := by
  intro sz
  refine Met.ofW (cc := cX2_read) (maxL := 5) (ret := (some .int)) (by decide) rfl ?_
  intro p e s m args below meth c s₁ B hml hv
  obtain ⟨rfl, hsz, hP, hK, hD0, hX⟩ := hv
  have hx := B.exec
  have hb := B.bytes
  have hr := B.returns
  have hts0 := atoms_spec (ws := .code yX2_read cX2_read 5 (some .int) :: gw) B.pre
  have hts := fun (w : Cond) (h : w ∈ gw) => hts0 w (List.mem_cons_of_mem _ h)
  have hown : s.vm.findClass RX2 = some m.cls := findClass_of_methodNamed B.named
  have hlocks := B.notSynchronized
  have F : mFix p s m _ c cX2_read 5 RX2 := ⟨hx, hb, hml, hown, hts⟩
  subst hsz
  have hD := hD0.self (sz := s.heap.size)
  generalize hAe : va_A [(h0, .inr (2, [.int 0, .int ((-1)), .ref qv, .ref qt, .int 0, .int 0, .int 0, .int 0, .int 0])), (qb, .inl (yb, 400, .inl fb)), (g0, .inr (1, [.ref p1, .ref p2, .ref p3, .ref p4, .int m1, .int m2])), (p1, .inl (dy1, 8, .inl g1)), (p2, .inl (dy2, 4, .inl g2)), (p3, .inl (dy3, 4, .inl g3)), (p4, .inl (dy4, 4, .inl g4))] s.heap.size = A at hD hX ⊢
  have hA : ∀ q : Nat, s.heap.size ≤ q → A q := fun q h => by rw [← hAe]; exact Or.inr h
  have hS : va_S A s.heap s.heap [] := va_S.rf
  have hl := lv_entry ([.ref h0, .ref qb, .int 0, .ref g0]) (n := 5) (Nat.le_of_ble_eq_true rfl)
  rw [lg_entry_eq]
  generalize (lg_sl ([.ref h0, .ref qb, .int 0, .ref g0]) ++ List.replicate (5 - (lg_sl ([.ref h0, .ref qb, .int 0, .ref g0])).length) Slot.unset).toArray = ls at hl ⊢
  have hl : lv_has ls 5 [(0, .ref h0), (1, .ref qb), (2, .int 0), (3, .ref g0)] := hl
  have hP : va_P D vwCl [(h0, .inr (2, [.int 0, .int ((-1)), .ref qv, .ref qt, .int 0, .int 0, .int 0, .int 0, .int 0])), (qb, .inl (yb, 400, .inl fb)), (g0, .inr (1, [.ref p1, .ref p2, .ref p3, .ref p4, .int m1, .int m2])), (p1, .inl (dy1, 8, .inl g1)), (p2, .inl (dy2, 4, .inl g2)), (p3, .inl (dy3, 4, .inl g3)), (p4, .inl (dy4, 4, .inl g4))] s.heap := hP
  refine lv_aload_n hx hb dX2_read_0 rfl (lv_at hl 0 rfl) ?_
  refine lv_aload_n hx hb dX2_read_1 rfl (lv_at hl 1 rfl) ?_
  refine va_put (D := D) (ci := 2) (v := .ref qb) (ty := .array .int) (C := RX2) (T := TX2) (N := 9) hx hb hts inG_X2 tyX2 tyX2_ok nmX2 hown hK hP hD hS 0 rfl rfl 3 (by decide) (hts _ kw_1_59) (fun _ h9 => h9) rfl (by decide +kernel) rfl rfl (Nat.le_of_ble_eq_true rfl) dX2_read_2 (fun H locs hP hD hS => ?_)
  have hP : va_P D vwCl [(h0, .inr (2, [.int 0, .int ((-1)), .ref qv, .ref qb, .int 0, .int 0, .int 0, .int 0, .int 0])), (qb, .inl (yb, 400, .inl fb)), (g0, .inr (1, [.ref p1, .ref p2, .ref p3, .ref p4, .int m1, .int m2])), (p1, .inl (dy1, 8, .inl g1)), (p2, .inl (dy2, 4, .inl g2)), (p3, .inl (dy3, 4, .inl g3)), (p4, .inl (dy4, 4, .inl g4))] H := hP
  have hD : va_D A [(h0, .inr (2, [.int 0, .int ((-1)), .ref qv, .ref qb, .int 0, .int 0, .int 0, .int 0, .int 0])), (qb, .inl (yb, 400, .inl fb)), (g0, .inr (1, [.ref p1, .ref p2, .ref p3, .ref p4, .int m1, .int m2])), (p1, .inl (dy1, 8, .inl g1)), (p2, .inl (dy2, 4, .inl g2)), (p3, .inl (dy3, 4, .inl g3)), (p4, .inl (dy4, 4, .inl g4))] := hD
  refine lv_aload_n hx hb dX2_read_5 rfl (lv_at hl 0 rfl) ?_
  refine lv_iload_n hx hb dX2_read_6 rfl (lv_at hl 2 rfl) ?_
  refine lv_aload_n hx hb dX2_read_7 rfl (lv_at hl 1 rfl) ?_
  refine va_alen hx hb hK hP 1 0 rfl rfl (v := 400) rfl dX2_read_8 ?_
  refine lv_icmp_ge (tgt := 16) hx hb dX2_read_9 (by decide) (fun c_1 => absurd c_1 (by decide)) (fun c_1 => ?_)
  refine lv_iload_n hx hb dX2_read_12 rfl (lv_at hl 2 rfl) ?_
  refine lv_goto (tgt := 18) hx hb dX2_read_13 (by decide) ?_
  refine va_put (D := D) (ci := 2) (v := .int 0) (ty := .int) (C := RX2) (T := TX2) (N := 9) hx hb hts inG_X2 tyX2 tyX2_ok nmX2 hown hK hP hD hS 0 rfl rfl 4 (by decide) (hts _ kw_1_60) (fun _ h9 => h9) rfl (by decide +kernel) rfl rfl (Nat.le_of_ble_eq_true rfl) dX2_read_18 (fun H locs hP hD hS => ?_)
  have hP : va_P D vwCl [(h0, .inr (2, [.int 0, .int ((-1)), .ref qv, .ref qb, .int 0, .int 0, .int 0, .int 0, .int 0])), (qb, .inl (yb, 400, .inl fb)), (g0, .inr (1, [.ref p1, .ref p2, .ref p3, .ref p4, .int m1, .int m2])), (p1, .inl (dy1, 8, .inl g1)), (p2, .inl (dy2, 4, .inl g2)), (p3, .inl (dy3, 4, .inl g3)), (p4, .inl (dy4, 4, .inl g4))] H := hP
  have hD : va_D A [(h0, .inr (2, [.int 0, .int ((-1)), .ref qv, .ref qb, .int 0, .int 0, .int 0, .int 0, .int 0])), (qb, .inl (yb, 400, .inl fb)), (g0, .inr (1, [.ref p1, .ref p2, .ref p3, .ref p4, .int m1, .int m2])), (p1, .inl (dy1, 8, .inl g1)), (p2, .inl (dy2, 4, .inl g2)), (p3, .inl (dy3, 4, .inl g3)), (p4, .inl (dy4, 4, .inl g4))] := hD
  refine lv_aload_n hx hb dX2_read_21 rfl (lv_at hl 0 rfl) ?_
  refine lv_iconst (v := 0) hx hb dX2_read_22 (by decide) ?_
  refine va_put (D := D) (ci := 2) (v := .int 0) (ty := .int) (C := RX2) (T := TX2) (N := 9) hx hb hts inG_X2 tyX2 tyX2_ok nmX2 hown hK hP hD hS 0 rfl rfl 5 (by decide) (hts _ kw_1_61) (fun _ h9 => h9) rfl (by decide +kernel) rfl rfl (Nat.le_of_ble_eq_true rfl) dX2_read_23 (fun H locs hP hD hS => ?_)
  have hP : va_P D vwCl [(h0, .inr (2, [.int 0, .int ((-1)), .ref qv, .ref qb, .int 0, .int 0, .int 0, .int 0, .int 0])), (qb, .inl (yb, 400, .inl fb)), (g0, .inr (1, [.ref p1, .ref p2, .ref p3, .ref p4, .int m1, .int m2])), (p1, .inl (dy1, 8, .inl g1)), (p2, .inl (dy2, 4, .inl g2)), (p3, .inl (dy3, 4, .inl g3)), (p4, .inl (dy4, 4, .inl g4))] H := hP
  have hD : va_D A [(h0, .inr (2, [.int 0, .int ((-1)), .ref qv, .ref qb, .int 0, .int 0, .int 0, .int 0, .int 0])), (qb, .inl (yb, 400, .inl fb)), (g0, .inr (1, [.ref p1, .ref p2, .ref p3, .ref p4, .int m1, .int m2])), (p1, .inl (dy1, 8, .inl g1)), (p2, .inl (dy2, 4, .inl g2)), (p3, .inl (dy3, 4, .inl g3)), (p4, .inl (dy4, 4, .inl g4))] := hD
  refine lv_aload_n hx hb dX2_read_26 rfl (lv_at hl 0 rfl) ?_
  refine lv_iconst (v := 0) hx hb dX2_read_27 (by decide) ?_
  refine va_put (D := D) (ci := 2) (v := .int 0) (ty := .int) (C := RX2) (T := TX2) (N := 9) hx hb hts inG_X2 tyX2 tyX2_ok nmX2 hown hK hP hD hS 0 rfl rfl 0 (by decide) (hts _ kw_1_54) (fun _ h9 => h9) rfl (by decide +kernel) rfl rfl (Nat.le_of_ble_eq_true rfl) dX2_read_28 (fun H locs hP hD hS => ?_)
  have hP : va_P D vwCl [(h0, .inr (2, [.int 0, .int ((-1)), .ref qv, .ref qb, .int 0, .int 0, .int 0, .int 0, .int 0])), (qb, .inl (yb, 400, .inl fb)), (g0, .inr (1, [.ref p1, .ref p2, .ref p3, .ref p4, .int m1, .int m2])), (p1, .inl (dy1, 8, .inl g1)), (p2, .inl (dy2, 4, .inl g2)), (p3, .inl (dy3, 4, .inl g3)), (p4, .inl (dy4, 4, .inl g4))] H := hP
  have hD : va_D A [(h0, .inr (2, [.int 0, .int ((-1)), .ref qv, .ref qb, .int 0, .int 0, .int 0, .int 0, .int 0])), (qb, .inl (yb, 400, .inl fb)), (g0, .inr (1, [.ref p1, .ref p2, .ref p3, .ref p4, .int m1, .int m2])), (p1, .inl (dy1, 8, .inl g1)), (p2, .inl (dy2, 4, .inl g2)), (p3, .inl (dy3, 4, .inl g3)), (p4, .inl (dy4, 4, .inl g4))] := hD
  refine lv_aload_n hx hb dX2_read_31 rfl (lv_at hl 0 rfl) ?_
  refine lv_iconst (v := -1) hx hb dX2_read_32 (by decide) ?_
  refine va_put (D := D) (ci := 2) (v := .int ((-1))) (ty := .int) (C := RX2) (T := TX2) (N := 9) hx hb hts inG_X2 tyX2 tyX2_ok nmX2 hown hK hP hD hS 0 rfl rfl 1 (by decide) (hts _ kw_1_56) (fun _ h9 => h9) rfl (by decide +kernel) rfl rfl (Nat.le_of_ble_eq_true rfl) dX2_read_33 (fun H locs hP hD hS => ?_)
  have hP : va_P D vwCl [(h0, .inr (2, [.int 0, .int ((-1)), .ref qv, .ref qb, .int 0, .int 0, .int 0, .int 0, .int 0])), (qb, .inl (yb, 400, .inl fb)), (g0, .inr (1, [.ref p1, .ref p2, .ref p3, .ref p4, .int m1, .int m2])), (p1, .inl (dy1, 8, .inl g1)), (p2, .inl (dy2, 4, .inl g2)), (p3, .inl (dy3, 4, .inl g3)), (p4, .inl (dy4, 4, .inl g4))] H := hP
  have hD : va_D A [(h0, .inr (2, [.int 0, .int ((-1)), .ref qv, .ref qb, .int 0, .int 0, .int 0, .int 0, .int 0])), (qb, .inl (yb, 400, .inl fb)), (g0, .inr (1, [.ref p1, .ref p2, .ref p3, .ref p4, .int m1, .int m2])), (p1, .inl (dy1, 8, .inl g1)), (p2, .inl (dy2, 4, .inl g2)), (p3, .inl (dy3, 4, .inl g3)), (p4, .inl (dy4, 4, .inl g4))] := hD
  refine lv_aload_n hx hb dX2_read_36 rfl (lv_at hl 3 rfl) ?_
  refine mc_Vv (rest := []) (wr := [(h0, .inr (2, [.int 0, .int ((-1)), .ref qv, .ref qb, .int 0, .int 0, .int 0, .int 0, .int 0])), (qb, .inl (yb, 400, .inl fb))]) F hK hP hD hS hA (c_Customs_forget l D us g0 p1 p2 p3 p4 dy1 dy2 dy3 dy4 g1 g2 g3 g4 m1 m2 ) ⟨gk_X2_31.1, gk_X2_31.2, Nat.le_of_ble_eq_true rfl, Nat.le_of_ble_eq_true rfl⟩ [2, 3, 4, 5, 6] [0, 1] [1, 2, 3, 4] ⟨rfl, rfl, rfl, rfl, by decide⟩ rfl (xU_move us) (xU_use hX hS (va_free hD hS hA [2, 3, 4, 5, 6] rfl)) 2 rfl rfl rfl hl.1 rfl (Nat.le_of_ble_eq_true rfl) dX2_read_37 ⟨Nat.le_of_ble_eq_true rfl, Nat.le_of_ble_eq_true rfl⟩ (fun _ H locs hw hK1 hP hD hS => ?_)
  have hP : va_P D vwCl [(h0, .inr (2, [.int 0, .int ((-1)), .ref qv, .ref qb, .int 0, .int 0, .int 0, .int 0, .int 0])), (qb, .inl (yb, 400, .inl fb)), (g0, .inr (1, [.ref p1, .ref p2, .ref p3, .ref p4, .int 0, .int 0])), (p1, .inl (dy1, 8, .inl uF)), (p2, .inl (dy2, 4, .inl g2)), (p3, .inl (dy3, 4, .inl g3)), (p4, .inl (dy4, 4, .inl g4))] H := hP
  have hD : va_D A [(h0, .inr (2, [.int 0, .int ((-1)), .ref qv, .ref qb, .int 0, .int 0, .int 0, .int 0, .int 0])), (qb, .inl (yb, 400, .inl fb)), (g0, .inr (1, [.ref p1, .ref p2, .ref p3, .ref p4, .int 0, .int 0])), (p1, .inl (dy1, 8, .inl uF)), (p2, .inl (dy2, 4, .inl g2)), (p3, .inl (dy3, 4, .inl g3)), (p4, .inl (dy4, 4, .inl g4))] := hD
  refine lv_iconst (v := 0) hx hb dX2_read_40 (by decide) ?_
  refine lv_istore (lv' := [(4, .int 0), (0, .ref h0), (1, .ref qb), (2, .int 0), (3, .ref g0)]) hx hb dX2_read_41 hl (by decide) rfl (fun ls hl => ?_)
  refine lv_iload hx hb dX2_read_43 (lv_at hl 0 rfl) ?_
  refine lv_aload_n hx hb dX2_read_45 rfl (lv_at hl 1 rfl) ?_
  refine va_get (D := D) (ci := 2) (v := .int 0) (C := RX2) (T := TX2) (N := 9) hx hb hts inG_X2 hown hK hP 0 rfl rfl 4 (by decide) (hts _ kw_1_60) (fun _ h9 => h9) rfl dX2_read_46 ?_
  refine lv_icmp_gt (tgt := 82) hx hb dX2_read_49 (by decide) (fun c_4 => absurd c_4 (by decide)) (fun c_4 => ?_)
  refine lv_aload_n hx hb dX2_read_52 rfl (lv_at hl 1 rfl) ?_
  refine mc_Vv (rest := []) (wr := [(qb, .inl (yb, 400, .inl fb)), (g0, .inr (1, [.ref p1, .ref p2, .ref p3, .ref p4, .int 0, .int 0])), (p1, .inl (dy1, 8, .inl uF)), (p2, .inl (dy2, 4, .inl g2)), (p3, .inl (dy3, 4, .inl g3)), (p4, .inl (dy4, 4, .inl g4))]) F hK hP hD hS hA (c_take_end l D h0 qv qb 0 ((-1)) 0 0 0 ) ⟨gk_X2_36.1, gk_X2_36.2, Nat.le_of_ble_eq_true rfl, Nat.le_of_ble_eq_true rfl⟩ [0] [1, 2, 3, 4, 5, 6] [] ⟨rfl, rfl, rfl, rfl, by decide⟩ rfl xT_move (fun _ _ _ => trivial) 0 rfl rfl rfl hl.1 rfl (Nat.le_of_ble_eq_true rfl) dX2_read_53 ⟨Nat.le_of_ble_eq_true rfl, Nat.le_of_ble_eq_true rfl⟩ (fun _ H locs hw hK1 hP hD hS => ?_)
  have hP : va_P D vwCl [(qb, .inl (yb, 400, .inl fb)), (g0, .inr (1, [.ref p1, .ref p2, .ref p3, .ref p4, .int 0, .int 0])), (p1, .inl (dy1, 8, .inl uF)), (p2, .inl (dy2, 4, .inl g2)), (p3, .inl (dy3, 4, .inl g3)), (p4, .inl (dy4, 4, .inl g4)), (h0, .inr (2, [.int 0, .int (((-1))), .ref qv, .ref qb, .int 0, .int 0, .int 0, .int 0, .int 0]))] H := hP
  have hD : va_D A [(qb, .inl (yb, 400, .inl fb)), (g0, .inr (1, [.ref p1, .ref p2, .ref p3, .ref p4, .int 0, .int 0])), (p1, .inl (dy1, 8, .inl uF)), (p2, .inl (dy2, 4, .inl g2)), (p3, .inl (dy3, 4, .inl g3)), (p4, .inl (dy4, 4, .inl g4)), (h0, .inr (2, [.int 0, .int (((-1))), .ref qv, .ref qb, .int 0, .int 0, .int 0, .int 0, .int 0]))] := hD
  refine lv_aload_n hx hb dX2_read_56 rfl (lv_at hl 1 rfl) ?_
  refine va_get (D := D) (ci := 2) (v := .int 0) (C := RX2) (T := TX2) (N := 9) hx hb hts inG_X2 hown hK hP 6 rfl rfl 6 (by decide) (hts _ kw_1_62) (fun _ h9 => h9) rfl dX2_read_57 ?_
  refine lv_if_ne (tgt := 66) hx hb dX2_read_60 (by decide) (fun c_7 => absurd c_7 (by decide)) (fun c_7 => ?_)
  refine lv_iload hx hb dX2_read_63 (lv_at hl 0 rfl) ?_
  have hP9 := hP.sub (ws' := [(h0, .inr (2, [.int 0, .int ((-1)), .ref qv, .ref qb, .int 0, .int 0, .int 0, .int 0, .int 0])), (qb, .inl (yb, 400, .inl fb)), (g0, .inr (1, [.ref p1, .ref p2, .ref p3, .ref p4, .int 0, .int 0])), (p1, .inl (dy1, 8, .inl uF)), (p2, .inl (dy2, 4, .inl g2)), (p3, .inl (dy3, 4, .inl g3)), (p4, .inl (dy4, 4, .inl g4))]) [6, 0, 1, 2, 3, 4, 5] rfl
  have hD9 := hD.sub (ws' := [(h0, .inr (2, [.int 0, .int ((-1)), .ref qv, .ref qb, .int 0, .int 0, .int 0, .int 0, .int 0])), (qb, .inl (yb, 400, .inl fb)), (g0, .inr (1, [.ref p1, .ref p2, .ref p3, .ref p4, .int 0, .int 0])), (p1, .inl (dy1, 8, .inl uF)), (p2, .inl (dy2, 4, .inl g2)), (p3, .inl (dy3, 4, .inl g3)), (p4, .inl (dy4, 4, .inl g4))]) [6, 0, 1, 2, 3, 4, 5] (by decide) rfl
  have hK9 := hK.sub (tys' := []) [] rfl
  refine W.widen (k := 0) (n := 0) (by decide) (by decide) ?_
  exact W.iret (v := 0) hx hb hr (fun t ht hW => ⟨⟨0, (), rfl, rfl, by rw [ht]; exact hP9, va_K.moved hW.alike hK9, hD9⟩, hS.F ht⟩) hS.2.2 dX2_read_65
theorem dX9_customs_0 : decode cX9_customs 0 = .ok (.iload_n 1, 1) := by decide +kernel
theorem dX9_customs_1 : decode cX9_customs 1 = .ok (.ifCond .lt 14, 3) := by decide +kernel
theorem dX9_customs_15 : decode cX9_customs 15 = .ok (.bipush (-2), 2) := by decide +kernel
theorem dX9_customs_17 : decode cX9_customs 17 = .ok (.ireturn, 1) := by decide +kernel
theorem dX9_customs_4 : decode cX9_customs 4 = .ok (.iload_n 1, 1) := by decide +kernel
theorem dX9_customs_5 : decode cX9_customs 5 = .ok (.aload_n 0, 1) := by decide +kernel
theorem dX9_customs_6 : decode cX9_customs 6 = .ok (.getfield 12, 3) := by decide +kernel
theorem dX9_customs_9 : decode cX9_customs 9 = .ok (.getfield 51, 3) := by decide +kernel
theorem dX9_customs_12 : decode cX9_customs 12 = .ok (.if_icmp .le 6, 3) := by decide +kernel
theorem dX9_customs_18 : decode cX9_customs 18 = .ok (.aload_n 0, 1) := by decide +kernel
theorem dX9_customs_19 : decode cX9_customs 19 = .ok (.getfield 19, 3) := by decide +kernel
theorem dX9_customs_22 : decode cX9_customs 22 = .ok (.aload_n 0, 1) := by decide +kernel
theorem dX9_customs_23 : decode cX9_customs 23 = .ok (.getfield 12, 3) := by decide +kernel
theorem kw_1_39 : Cond.fieldLink RX9 59 "IceFair$Tape" "bytes" "[I" ∈ gw := gw_t1 (List.mem_of_getElem? (i := 39) (by decide +kernel)) (by decide +kernel)
theorem dX9_customs_26 : decode cX9_customs 26 = .ok (.getfield 59, 3) := by decide +kernel
theorem dX9_customs_29 : decode cX9_customs 29 = .ok (.iload_n 1, 1) := by decide +kernel
theorem dX9_customs_30 : decode cX9_customs 30 = .ok (.aload_n 0, 1) := by decide +kernel
theorem dX9_customs_31 : decode cX9_customs 31 = .ok (.getfield 26, 3) := by decide +kernel
theorem kw_2_98 : Cond.methodLink RX9 63 yX2_read ∈ gw := gw_t2 (List.mem_of_getElem? (i := 98) (by decide +kernel)) (by decide +kernel)
theorem kw_2_99 : Cond.instanceMethod yX2_read ∈ gw := gw_t2 (List.mem_of_getElem? (i := 99) (by decide +kernel)) (by decide +kernel)
theorem kw_2_100 : Cond.selects RX2 yX2_read yX2_read ∈ gw := gw_t2 (List.mem_of_getElem? (i := 100) (by decide +kernel)) (by decide +kernel)
theorem kw_2_101 : Cond.code yX2_read cX2_read 5 (some .int) ∈ gw := gw_t2 (List.mem_of_getElem? (i := 101) (by decide +kernel)) (by decide +kernel)
theorem gk_X9_63 : GoodIn gw (wsV RX9 63 RX2 yX2_read (.code yX2_read cX2_read 5 (some .int) :: gw)) ∧ (yX2_read.cls = RX2 ∧ yX2_read.cls ≠ "java/lang/invoke/MethodHandle" ∧ yX2_read.cls ≠ "java/lang/invoke/VarHandle" ∧ (parseMethodDescriptor yX2_read.desc).map (fun d => d.parameters.length) = some 3) := ⟨gi_V kw_2_98 kw_2_99 kw_2_100 kw_1_3 kw_2_101, by decide +kernel⟩
theorem dX9_customs_34 : decode cX9_customs 34 = .ok (.invokevirtual 63, 3) := by decide +kernel
theorem dX9_customs_37 : decode cX9_customs 37 = .ok (.istore_n 2, 1) := by decide +kernel
theorem dX9_customs_38 : decode cX9_customs 38 = .ok (.aload_n 0, 1) := by decide +kernel
theorem dX9_customs_39 : decode cX9_customs 39 = .ok (.getfield 12, 3) := by decide +kernel
theorem dX9_customs_42 : decode cX9_customs 42 = .ok (.iconst 0, 1) := by decide +kernel
theorem dX9_customs_43 : decode cX9_customs 43 = .ok (.putfield 51, 3) := by decide +kernel
theorem dX9_customs_46 : decode cX9_customs 46 = .ok (.iload_n 2, 1) := by decide +kernel
theorem dX9_customs_47 : decode cX9_customs 47 = .ok (.iconst (-1), 1) := by decide +kernel
theorem dX9_customs_48 : decode cX9_customs 48 = .ok (.if_icmp .eq 17, 3) := by decide +kernel
theorem dX9_customs_51 : decode cX9_customs 51 = .ok (.aload_n 0, 1) := by decide +kernel
theorem dX9_customs_52 : decode cX9_customs 52 = .ok (.getfield 33, 3) := by decide +kernel
theorem kw_1_218 : Cond.fieldLink RX9 67 "IceFair$Fair" "customs" "LIceFair$Customs;" ∈ gw := gw_t1 (List.mem_of_getElem? (i := 218) (by decide +kernel)) (by decide +kernel)
theorem dX9_customs_55 : decode cX9_customs 55 = .ok (.getfield 67, 3) := by decide +kernel
theorem dX9_customs_58 : decode cX9_customs 58 = .ok (.aload_n 0, 1) := by decide +kernel
theorem dX9_customs_59 : decode cX9_customs 59 = .ok (.getfield 26, 3) := by decide +kernel
theorem kw_2_225 : Cond.methodLink RX9 70 yX1_copyFrom ∈ gw := gw_t2 (List.mem_of_getElem? (i := 225) (by decide +kernel)) (by decide +kernel)
theorem kw_2_226 : Cond.instanceMethod yX1_copyFrom ∈ gw := gw_t2 (List.mem_of_getElem? (i := 226) (by decide +kernel)) (by decide +kernel)
theorem kw_2_227 : Cond.selects RX1 yX1_copyFrom yX1_copyFrom ∈ gw := gw_t2 (List.mem_of_getElem? (i := 227) (by decide +kernel)) (by decide +kernel)
theorem kw_2_228 : Cond.code yX1_copyFrom cX1_copyFrom 2 none ∈ gw := gw_t2 (List.mem_of_getElem? (i := 228) (by decide +kernel)) (by decide +kernel)
theorem gk_X9_70 : GoodIn gw (wsV RX9 70 RX1 yX1_copyFrom (.code yX1_copyFrom cX1_copyFrom 2 none :: gw)) ∧ (yX1_copyFrom.cls = RX1 ∧ yX1_copyFrom.cls ≠ "java/lang/invoke/MethodHandle" ∧ yX1_copyFrom.cls ≠ "java/lang/invoke/VarHandle" ∧ (parseMethodDescriptor yX1_copyFrom.desc).map (fun d => d.parameters.length) = some 1) := ⟨gi_V kw_2_225 kw_2_226 kw_2_227 kw_1_4 kw_2_228, by decide +kernel⟩
theorem dX9_customs_62 : decode cX9_customs 62 = .ok (.invokevirtual 70, 3) := by decide +kernel
theorem dX9_customs_65 : decode cX9_customs 65 = .ok (.iload_n 2, 1) := by decide +kernel
theorem dX9_customs_66 : decode cX9_customs 66 = .ok (.ireturn, 1) := by decide +kernel
set_option maxHeartbeats 4000000 in
set_option maxRecDepth 100000 in
theorem c_customs (l : Launch) (D : va_G) (h0 : Nat) (us : Nat) (tp : Nat) (rd : Nat) (dr : Nat) (fa : Nat) (ly : Nat) (wy : Nat) (tp1 : Nat) (rd1 : Nat) (rd2 : Nat) (dr1 : Nat) (dr2 : Nat) (dr3 : Nat) (dr4 : Nat) (cu : Nat) (rv : Nat) (bt : Nat) (cu1 : Nat) (cu2 : Nat) (cu3 : Nat) (cu4 : Nat) (tc : ClassId) (ec1 : ClassId) (ec2 : ClassId) (ec3 : ClassId) (ec4 : ClassId) (cc1 : ClassId) (cc2 : ClassId) (cc3 : ClassId) (cc4 : ClassId) (n : Int32) : cI l yX9_customs (.code yX9_customs cX9_customs 3 (some .int)) ({ frames := 6, cells := 0, slots := 0, locals := 170 }) D [(tc, .int), (ec1, .int), (ec2, .int), (ec3, .int), (ec4, .int), (cc1, .int), (cc2, .int), (cc3, .int), (cc4, .int)] [(h0, .inr (8, [.ref tp, .ref rd, .ref dr, .ref fa, .ref ly, .ref wy])), (tp, .inr (6, [.ref tp1, .int 0])), (tp1, .inl (tc, 400, .inl (fun _ => 0))), (rd, .inr (2, [.int 0, .int ((-1)), .ref rd1, .ref rd2, .int 0, .int 0, .int 0, .int 0, .int 0])), (dr, .inr (1, [.ref dr1, .ref dr2, .ref dr3, .ref dr4, .int 0, .int 0])), (dr1, .inl (ec1, 8, .inl uF)), (dr2, .inl (ec2, 4, .inl (fun _ => 0))), (dr3, .inl (ec3, 4, .inl (fun _ => 0))), (dr4, .inl (ec4, 4, .inl (fun _ => 0))), (fa, .inr (3, [.ref cu, .ref rv, .ref bt, .int 0, .int 0, .int 0])), (cu, .inr (1, [.ref cu1, .ref cu2, .ref cu3, .ref cu4, .int 0, .int 0])), (cu1, .inl (cc1, 8, .inl uF)), (cu2, .inl (cc2, 4, .inl (fun _ => 0))), (cu3, .inl (cc3, 4, .inl (fun _ => 0))), (cu4, .inl (cc4, 4, .inl (fun _ => 0)))] (xU us) [.ref h0, .int n] (S := Unit) (fun r _ => r = (if n = 0 then 0 else (-2))) (fun _ => []) (fun _ => []) := by
  intro sz
  refine Met.ofW (cc := cX9_customs) (maxL := 3) (ret := (some .int)) (by decide) rfl ?_
  intro p e s m args below meth c s₁ B hml hv
  obtain ⟨rfl, hsz, hP, hK, hD0, hX⟩ := hv
  have hx := B.exec
  have hb := B.bytes
  have hr := B.returns
  have hts0 := atoms_spec (ws := .code yX9_customs cX9_customs 3 (some .int) :: gw) B.pre
  have hts := fun (w : Cond) (h : w ∈ gw) => hts0 w (List.mem_cons_of_mem _ h)
  have hown : s.vm.findClass RX9 = some m.cls := findClass_of_methodNamed B.named
  have hlocks := B.notSynchronized
  have F : mFix p s m _ c cX9_customs 3 RX9 := ⟨hx, hb, hml, hown, hts⟩
  subst hsz
  have hD := hD0.self (sz := s.heap.size)
  generalize hAe : va_A [(h0, .inr (8, [.ref tp, .ref rd, .ref dr, .ref fa, .ref ly, .ref wy])), (tp, .inr (6, [.ref tp1, .int 0])), (tp1, .inl (tc, 400, .inl (fun _ => 0))), (rd, .inr (2, [.int 0, .int ((-1)), .ref rd1, .ref rd2, .int 0, .int 0, .int 0, .int 0, .int 0])), (dr, .inr (1, [.ref dr1, .ref dr2, .ref dr3, .ref dr4, .int 0, .int 0])), (dr1, .inl (ec1, 8, .inl uF)), (dr2, .inl (ec2, 4, .inl (fun _ => 0))), (dr3, .inl (ec3, 4, .inl (fun _ => 0))), (dr4, .inl (ec4, 4, .inl (fun _ => 0))), (fa, .inr (3, [.ref cu, .ref rv, .ref bt, .int 0, .int 0, .int 0])), (cu, .inr (1, [.ref cu1, .ref cu2, .ref cu3, .ref cu4, .int 0, .int 0])), (cu1, .inl (cc1, 8, .inl uF)), (cu2, .inl (cc2, 4, .inl (fun _ => 0))), (cu3, .inl (cc3, 4, .inl (fun _ => 0))), (cu4, .inl (cc4, 4, .inl (fun _ => 0)))] s.heap.size = A at hD hX ⊢
  have hA : ∀ q : Nat, s.heap.size ≤ q → A q := fun q h => by rw [← hAe]; exact Or.inr h
  have hS : va_S A s.heap s.heap [] := va_S.rf
  have hl := lv_entry ([.ref h0, .int n]) (n := 3) (Nat.le_of_ble_eq_true rfl)
  rw [lg_entry_eq]
  generalize (lg_sl ([.ref h0, .int n]) ++ List.replicate (3 - (lg_sl ([.ref h0, .int n])).length) Slot.unset).toArray = ls at hl ⊢
  have hl : lv_has ls 3 [(0, .ref h0), (1, .int n)] := hl
  have hP : va_P D vwCl [(h0, .inr (8, [.ref tp, .ref rd, .ref dr, .ref fa, .ref ly, .ref wy])), (tp, .inr (6, [.ref tp1, .int 0])), (tp1, .inl (tc, 400, .inl (fun _ => 0))), (rd, .inr (2, [.int 0, .int ((-1)), .ref rd1, .ref rd2, .int 0, .int 0, .int 0, .int 0, .int 0])), (dr, .inr (1, [.ref dr1, .ref dr2, .ref dr3, .ref dr4, .int 0, .int 0])), (dr1, .inl (ec1, 8, .inl uF)), (dr2, .inl (ec2, 4, .inl (fun _ => 0))), (dr3, .inl (ec3, 4, .inl (fun _ => 0))), (dr4, .inl (ec4, 4, .inl (fun _ => 0))), (fa, .inr (3, [.ref cu, .ref rv, .ref bt, .int 0, .int 0, .int 0])), (cu, .inr (1, [.ref cu1, .ref cu2, .ref cu3, .ref cu4, .int 0, .int 0])), (cu1, .inl (cc1, 8, .inl uF)), (cu2, .inl (cc2, 4, .inl (fun _ => 0))), (cu3, .inl (cc3, 4, .inl (fun _ => 0))), (cu4, .inl (cc4, 4, .inl (fun _ => 0)))] s.heap := hP
  refine lv_iload_n hx hb dX9_customs_0 rfl (lv_at hl 1 rfl) ?_
  refine lv_if_lt (tgt := 15) hx hb dX9_customs_1 (by decide) (fun c_1 => ?_) (fun c_1 => ?_)
  · skip
    refine lv_bipush (v := -2) hx hb dX9_customs_15 (by decide) ?_
    have hP9 := hP.sub (ws' := []) [] rfl
    have hD9 := hD.sub (ws' := []) [] (by decide) rfl
    have hK9 := hK.sub (tys' := []) [] rfl
    refine W.widen (k := 0) (n := 0) (by decide) (by decide) ?_
    exact W.iret (v := (-2)) hx hb hr (fun t ht hW => ⟨⟨((-2)), (), rfl, by rw [if_neg (fun h => by rw [h] at c_1; exact absurd c_1 (by decide))], by rw [ht]; exact hP9, va_K.moved hW.alike hK9, hD9⟩, hS.F ht⟩) hS.2.2 dX9_customs_17
  · skip
    refine lv_iload_n hx hb dX9_customs_4 rfl (lv_at hl 1 rfl) ?_
    refine lv_aload_n hx hb dX9_customs_5 rfl (lv_at hl 0 rfl) ?_
    refine va_get (D := D) (ci := 8) (v := .ref tp) (C := RX9) (T := TX9) (N := 6) hx hb hts inG_X9 hown hK hP 0 rfl rfl 0 (by decide) (hts _ kw_2_67) (fun _ h9 => h9) rfl dX9_customs_6 ?_
    refine va_get (D := D) (ci := 6) (v := .int 0) (C := RX7) (T := TX7) (N := 2) hx hb hts inG_X7 hown hK hP 1 rfl rfl 1 (by decide) (hts _ kw_1_41) (fun _ h9 => h9) rfl dX9_customs_9 ?_
    refine lv_icmp_le (tgt := 18) hx hb dX9_customs_12 (by decide) (fun c_2 => ?_) (fun c_2 => ?_)
    · skip
      have c_2 := Int32.not_lt.mpr c_2
      obtain rfl : n = 0 := Int32.le_antisymm (Int32.not_lt.mp c_2) (Int32.not_lt.mp c_1)
      have hl : lv_has ls 3 [(0, .ref h0), (1, .int 0)] := hl
      refine lv_aload_n hx hb dX9_customs_18 rfl (lv_at hl 0 rfl) ?_
      refine va_get (D := D) (ci := 8) (v := .ref rd) (C := RX9) (T := TX9) (N := 6) hx hb hts inG_X9 hown hK hP 0 rfl rfl 1 (by decide) (hts _ kw_2_68) (fun _ h9 => h9) rfl dX9_customs_19 ?_
      refine lv_aload_n hx hb dX9_customs_22 rfl (lv_at hl 0 rfl) ?_
      refine va_get (D := D) (ci := 8) (v := .ref tp) (C := RX9) (T := TX9) (N := 6) hx hb hts inG_X9 hown hK hP 0 rfl rfl 0 (by decide) (hts _ kw_2_67) (fun _ h9 => h9) rfl dX9_customs_23 ?_
      refine va_get (D := D) (ci := 6) (v := .ref tp1) (C := RX7) (T := TX7) (N := 2) hx hb hts inG_X7 hown hK hP 1 rfl rfl 0 (by decide) (hts _ kw_1_39) (fun _ h9 => h9) rfl dX9_customs_26 ?_
      refine lv_iload_n hx hb dX9_customs_29 rfl (lv_at hl 1 rfl) ?_
      refine lv_aload_n hx hb dX9_customs_30 rfl (lv_at hl 0 rfl) ?_
      refine va_get (D := D) (ci := 8) (v := .ref dr) (C := RX9) (T := TX9) (N := 6) hx hb hts inG_X9 hown hK hP 0 rfl rfl 2 (by decide) (hts _ kw_2_69) (fun _ h9 => h9) rfl dX9_customs_31 ?_
      refine mc_Vi (rest := []) (wr := [(h0, .inr (8, [.ref tp, .ref rd, .ref dr, .ref fa, .ref ly, .ref wy])), (tp, .inr (6, [.ref tp1, .int 0])), (fa, .inr (3, [.ref cu, .ref rv, .ref bt, .int 0, .int 0, .int 0])), (cu, .inr (1, [.ref cu1, .ref cu2, .ref cu3, .ref cu4, .int 0, .int 0])), (cu1, .inl (cc1, 8, .inl uF)), (cu2, .inl (cc2, 4, .inl (fun _ => 0))), (cu3, .inl (cc3, 4, .inl (fun _ => 0))), (cu4, .inl (cc4, 4, .inl (fun _ => 0)))]) F hK hP hD hS hA (c_read0 l D us rd rd1 rd2 tp1 dr dr1 dr2 dr3 dr4 tc ec1 ec2 ec3 ec4 (fun _ => 0) uF (fun _ => 0) (fun _ => 0) (fun _ => 0) 0 0 ) ⟨gk_X9_63.1, gk_X9_63.2, Nat.le_of_ble_eq_true rfl, Nat.le_of_ble_eq_true rfl⟩ [3, 2, 4, 5, 6, 7, 8] [0, 1, 9, 10, 11, 12, 13, 14] [0, 1, 2, 3, 4] ⟨rfl, rfl, rfl, rfl, by decide⟩ rfl (xU_move us) (xU_use hX hS (va_free hD hS hA [3, 2, 4, 5, 6, 7, 8] rfl)) 3 rfl rfl rfl hl.1 rfl (Nat.le_of_ble_eq_true rfl) dX9_customs_34 ⟨Nat.le_of_ble_eq_true rfl, Nat.le_of_ble_eq_true rfl⟩ (fun r_3 _ H locs hw hK1 hP hD hS => ?_)
      have hP : va_P D vwCl [(h0, .inr (8, [.ref tp, .ref rd, .ref dr, .ref fa, .ref ly, .ref wy])), (tp, .inr (6, [.ref tp1, .int 0])), (fa, .inr (3, [.ref cu, .ref rv, .ref bt, .int 0, .int 0, .int 0])), (cu, .inr (1, [.ref cu1, .ref cu2, .ref cu3, .ref cu4, .int 0, .int 0])), (cu1, .inl (cc1, 8, .inl uF)), (cu2, .inl (cc2, 4, .inl (fun _ => 0))), (cu3, .inl (cc3, 4, .inl (fun _ => 0))), (cu4, .inl (cc4, 4, .inl (fun _ => 0))), (rd, .inr (2, [.int 0, .int ((-1)), .ref rd1, .ref tp1, .int 0, .int 0, .int 0, .int 0, .int 0])), (tp1, .inl (tc, 400, .inl ((fun _ => 0)))), (dr, .inr (1, [.ref dr1, .ref dr2, .ref dr3, .ref dr4, .int 0, .int 0])), (dr1, .inl (ec1, 8, .inl uF)), (dr2, .inl (ec2, 4, .inl ((fun _ => 0)))), (dr3, .inl (ec3, 4, .inl ((fun _ => 0)))), (dr4, .inl (ec4, 4, .inl ((fun _ => 0))))] H := hP
      have hD : va_D A [(h0, .inr (8, [.ref tp, .ref rd, .ref dr, .ref fa, .ref ly, .ref wy])), (tp, .inr (6, [.ref tp1, .int 0])), (fa, .inr (3, [.ref cu, .ref rv, .ref bt, .int 0, .int 0, .int 0])), (cu, .inr (1, [.ref cu1, .ref cu2, .ref cu3, .ref cu4, .int 0, .int 0])), (cu1, .inl (cc1, 8, .inl uF)), (cu2, .inl (cc2, 4, .inl (fun _ => 0))), (cu3, .inl (cc3, 4, .inl (fun _ => 0))), (cu4, .inl (cc4, 4, .inl (fun _ => 0))), (rd, .inr (2, [.int 0, .int ((-1)), .ref rd1, .ref tp1, .int 0, .int 0, .int 0, .int 0, .int 0])), (tp1, .inl (tc, 400, .inl ((fun _ => 0)))), (dr, .inr (1, [.ref dr1, .ref dr2, .ref dr3, .ref dr4, .int 0, .int 0])), (dr1, .inl (ec1, 8, .inl uF)), (dr2, .inl (ec2, 4, .inl ((fun _ => 0)))), (dr3, .inl (ec3, 4, .inl ((fun _ => 0)))), (dr4, .inl (ec4, 4, .inl ((fun _ => 0))))] := hD
      have hw_4 : r_3 = 0 := hw
      obtain rfl : r_3 = 0 := hw_4
      refine lv_istore_n (lv' := [(2, .int 0), (0, .ref h0), (1, .int 0)]) hx hb dX9_customs_37 rfl hl (by decide) rfl (fun ls hl => ?_)
      refine lv_aload_n hx hb dX9_customs_38 rfl (lv_at hl 1 rfl) ?_
      refine va_get (D := D) (ci := 8) (v := .ref tp) (C := RX9) (T := TX9) (N := 6) hx hb hts inG_X9 hown hK hP 0 rfl rfl 0 (by decide) (hts _ kw_2_67) (fun _ h9 => h9) rfl dX9_customs_39 ?_
      refine lv_iconst (v := 0) hx hb dX9_customs_42 (by decide) ?_
      refine va_put (D := D) (ci := 6) (v := .int 0) (ty := .int) (C := RX7) (T := TX7) (N := 2) hx hb hts inG_X7 tyX7 tyX7_ok nmX7 hown hK hP hD hS 1 rfl rfl 1 (by decide) (hts _ kw_1_41) (fun _ h9 => h9) rfl (by decide +kernel) rfl rfl (Nat.le_of_ble_eq_true rfl) dX9_customs_43 (fun H locs hP hD hS => ?_)
      have hP : va_P D vwCl [(h0, .inr (8, [.ref tp, .ref rd, .ref dr, .ref fa, .ref ly, .ref wy])), (tp, .inr (6, [.ref tp1, .int 0])), (fa, .inr (3, [.ref cu, .ref rv, .ref bt, .int 0, .int 0, .int 0])), (cu, .inr (1, [.ref cu1, .ref cu2, .ref cu3, .ref cu4, .int 0, .int 0])), (cu1, .inl (cc1, 8, .inl uF)), (cu2, .inl (cc2, 4, .inl (fun _ => 0))), (cu3, .inl (cc3, 4, .inl (fun _ => 0))), (cu4, .inl (cc4, 4, .inl (fun _ => 0))), (rd, .inr (2, [.int 0, .int ((-1)), .ref rd1, .ref tp1, .int 0, .int 0, .int 0, .int 0, .int 0])), (tp1, .inl (tc, 400, .inl ((fun _ => 0)))), (dr, .inr (1, [.ref dr1, .ref dr2, .ref dr3, .ref dr4, .int 0, .int 0])), (dr1, .inl (ec1, 8, .inl uF)), (dr2, .inl (ec2, 4, .inl ((fun _ => 0)))), (dr3, .inl (ec3, 4, .inl ((fun _ => 0)))), (dr4, .inl (ec4, 4, .inl ((fun _ => 0))))] H := hP
      have hD : va_D A [(h0, .inr (8, [.ref tp, .ref rd, .ref dr, .ref fa, .ref ly, .ref wy])), (tp, .inr (6, [.ref tp1, .int 0])), (fa, .inr (3, [.ref cu, .ref rv, .ref bt, .int 0, .int 0, .int 0])), (cu, .inr (1, [.ref cu1, .ref cu2, .ref cu3, .ref cu4, .int 0, .int 0])), (cu1, .inl (cc1, 8, .inl uF)), (cu2, .inl (cc2, 4, .inl (fun _ => 0))), (cu3, .inl (cc3, 4, .inl (fun _ => 0))), (cu4, .inl (cc4, 4, .inl (fun _ => 0))), (rd, .inr (2, [.int 0, .int ((-1)), .ref rd1, .ref tp1, .int 0, .int 0, .int 0, .int 0, .int 0])), (tp1, .inl (tc, 400, .inl ((fun _ => 0)))), (dr, .inr (1, [.ref dr1, .ref dr2, .ref dr3, .ref dr4, .int 0, .int 0])), (dr1, .inl (ec1, 8, .inl uF)), (dr2, .inl (ec2, 4, .inl ((fun _ => 0)))), (dr3, .inl (ec3, 4, .inl ((fun _ => 0)))), (dr4, .inl (ec4, 4, .inl ((fun _ => 0))))] := hD
      refine lv_iload_n hx hb dX9_customs_46 rfl (lv_at hl 0 rfl) ?_
      refine lv_iconst (v := -1) hx hb dX9_customs_47 (by decide) ?_
      refine lv_icmp_eq (tgt := 65) hx hb dX9_customs_48 (by decide) (fun c_5 => absurd c_5 (by decide)) (fun c_5 => ?_)
      refine lv_aload_n hx hb dX9_customs_51 rfl (lv_at hl 1 rfl) ?_
      refine va_get (D := D) (ci := 8) (v := .ref fa) (C := RX9) (T := TX9) (N := 6) hx hb hts inG_X9 hown hK hP 0 rfl rfl 3 (by decide) (hts _ kw_2_70) (fun _ h9 => h9) rfl dX9_customs_52 ?_
      refine va_get (D := D) (ci := 3) (v := .ref cu) (C := RX3) (T := TX3) (N := 6) hx hb hts inG_X3 hown hK hP 2 rfl rfl 0 (by decide) (hts _ kw_1_218) (fun _ h9 => h9) rfl dX9_customs_55 ?_
      refine lv_aload_n hx hb dX9_customs_58 rfl (lv_at hl 1 rfl) ?_
      refine va_get (D := D) (ci := 8) (v := .ref dr) (C := RX9) (T := TX9) (N := 6) hx hb hts inG_X9 hown hK hP 0 rfl rfl 2 (by decide) (hts _ kw_2_69) (fun _ h9 => h9) rfl dX9_customs_59 ?_
      refine mc_Vv (rest := []) (wr := [(h0, .inr (8, [.ref tp, .ref rd, .ref dr, .ref fa, .ref ly, .ref wy])), (tp, .inr (6, [.ref tp1, .int 0])), (fa, .inr (3, [.ref cu, .ref rv, .ref bt, .int 0, .int 0, .int 0])), (rd, .inr (2, [.int 0, .int ((-1)), .ref rd1, .ref tp1, .int 0, .int 0, .int 0, .int 0, .int 0])), (tp1, .inl (tc, 400, .inl ((fun _ => 0))))]) F hK hP hD hS hA (c_copyFrom l D us cu cu1 cu2 cu3 cu4 cc1 cc2 cc3 cc4 uF (fun _ => 0) (fun _ => 0) (fun _ => 0) 0 0 dr dr1 dr2 dr3 dr4 ec1 ec2 ec3 ec4 uF ((fun _ => 0)) ((fun _ => 0)) ((fun _ => 0)) 0 0 ) ⟨gk_X9_70.1, gk_X9_70.2, Nat.le_of_ble_eq_true rfl, Nat.le_of_ble_eq_true rfl⟩ [3, 4, 5, 6, 7, 10, 11, 12, 13, 14] [0, 1, 2, 8, 9] [5, 6, 7, 8, 1, 2, 3, 4] ⟨rfl, rfl, rfl, rfl, by decide⟩ rfl (xU_move us) (xU_use hX hS (va_free hD hS hA [3, 4, 5, 6, 7, 10, 11, 12, 13, 14] rfl)) 3 rfl rfl rfl hl.1 rfl (Nat.le_of_ble_eq_true rfl) dX9_customs_62 ⟨Nat.le_of_ble_eq_true rfl, Nat.le_of_ble_eq_true rfl⟩ (fun _ H locs hw hK1 hP hD hS => ?_)
      have hP : va_P D vwCl [(h0, .inr (8, [.ref tp, .ref rd, .ref dr, .ref fa, .ref ly, .ref wy])), (tp, .inr (6, [.ref tp1, .int 0])), (fa, .inr (3, [.ref cu, .ref rv, .ref bt, .int 0, .int 0, .int 0])), (rd, .inr (2, [.int 0, .int ((-1)), .ref rd1, .ref tp1, .int 0, .int 0, .int 0, .int 0, .int 0])), (tp1, .inl (tc, 400, .inl ((fun _ => 0)))), (cu, .inr (1, [.ref cu1, .ref cu2, .ref cu3, .ref cu4, .int 0, .int 0])), (cu1, .inl (cc1, 8, .inl uF)), (cu2, .inl (cc2, 4, .inl (((fun _ => 0))))), (cu3, .inl (cc3, 4, .inl (((fun _ => 0))))), (cu4, .inl (cc4, 4, .inl (((fun _ => 0))))), (dr, .inr (1, [.ref dr1, .ref dr2, .ref dr3, .ref dr4, .int 0, .int 0])), (dr1, .inl (ec1, 8, .inl uF)), (dr2, .inl (ec2, 4, .inl (((fun _ => 0))))), (dr3, .inl (ec3, 4, .inl (((fun _ => 0))))), (dr4, .inl (ec4, 4, .inl (((fun _ => 0)))))] H := hP
      have hD : va_D A [(h0, .inr (8, [.ref tp, .ref rd, .ref dr, .ref fa, .ref ly, .ref wy])), (tp, .inr (6, [.ref tp1, .int 0])), (fa, .inr (3, [.ref cu, .ref rv, .ref bt, .int 0, .int 0, .int 0])), (rd, .inr (2, [.int 0, .int ((-1)), .ref rd1, .ref tp1, .int 0, .int 0, .int 0, .int 0, .int 0])), (tp1, .inl (tc, 400, .inl ((fun _ => 0)))), (cu, .inr (1, [.ref cu1, .ref cu2, .ref cu3, .ref cu4, .int 0, .int 0])), (cu1, .inl (cc1, 8, .inl uF)), (cu2, .inl (cc2, 4, .inl (((fun _ => 0))))), (cu3, .inl (cc3, 4, .inl (((fun _ => 0))))), (cu4, .inl (cc4, 4, .inl (((fun _ => 0))))), (dr, .inr (1, [.ref dr1, .ref dr2, .ref dr3, .ref dr4, .int 0, .int 0])), (dr1, .inl (ec1, 8, .inl uF)), (dr2, .inl (ec2, 4, .inl (((fun _ => 0))))), (dr3, .inl (ec3, 4, .inl (((fun _ => 0))))), (dr4, .inl (ec4, 4, .inl (((fun _ => 0)))))] := hD
      refine lv_iload_n hx hb dX9_customs_65 rfl (lv_at hl 0 rfl) ?_
      have hP9 := hP.sub (ws' := []) [] rfl
      have hD9 := hD.sub (ws' := []) [] (by decide) rfl
      have hK9 := hK.sub (tys' := []) [] rfl
      refine W.widen (k := 0) (n := 0) (by decide) (by decide) ?_
      exact W.iret (v := 0) hx hb hr (fun t ht hW => ⟨⟨0, (), rfl, rfl, by rw [ht]; exact hP9, va_K.moved hW.alike hK9, hD9⟩, hS.F ht⟩) hS.2.2 dX9_customs_66
    · skip
      have c_2 := Int32.not_le.mp c_2
      refine lv_bipush (v := -2) hx hb dX9_customs_15 (by decide) ?_
      have hP9 := hP.sub (ws' := []) [] rfl
      have hD9 := hD.sub (ws' := []) [] (by decide) rfl
      have hK9 := hK.sub (tys' := []) [] rfl
      refine W.widen (k := 0) (n := 0) (by decide) (by decide) ?_
      exact W.iret (v := (-2)) hx hb hr (fun t ht hW => ⟨⟨((-2)), (), rfl, by rw [if_neg (fun h => by rw [h] at c_2; exact absurd c_2 (by decide))], by rw [ht]; exact hP9, va_K.moved hW.alike hK9, hD9⟩, hS.F ht⟩) hS.2.2 dX9_customs_17
theorem dX8_measure_0 : decode cX8_measure 0 = .ok (.aload_n 0, 1) := by decide +kernel
theorem dX8_measure_1 : decode cX8_measure 1 = .ok (.iconst 0, 1) := by decide +kernel
theorem kw_2_53 : Cond.fieldLink RX8 74 "IceFair$WayOff" "crowded" "I" ∈ gw := gw_t2 (List.mem_of_getElem? (i := 53) (by decide +kernel)) (by decide +kernel)
theorem dX8_measure_2 : decode cX8_measure 2 = .ok (.putfield 74, 3) := by decide +kernel
theorem dX8_measure_5 : decode cX8_measure 5 = .ok (.iconst 0, 1) := by decide +kernel
theorem dX8_measure_6 : decode cX8_measure 6 = .ok (.istore_n 2, 1) := by decide +kernel
theorem dX8_measure_7 : decode cX8_measure 7 = .ok (.iload_n 2, 1) := by decide +kernel
theorem dX8_measure_8 : decode cX8_measure 8 = .ok (.aload_n 1, 1) := by decide +kernel
theorem kw_1_228 : Cond.fieldLink RX8 71 "IceFair$Fair" "boothCount" "I" ∈ gw := gw_t1 (List.mem_of_getElem? (i := 228) (by decide +kernel)) (by decide +kernel)
theorem dX8_measure_9 : decode cX8_measure 9 = .ok (.getfield 71, 3) := by decide +kernel
theorem dX8_measure_12 : decode cX8_measure 12 = .ok (.if_icmp .ge 52, 3) := by decide +kernel
theorem dX8_measure_64 : decode cX8_measure 64 = .ok (.iconst 0, 1) := by decide +kernel
theorem dX8_measure_65 : decode cX8_measure 65 = .ok (.istore_n 2, 1) := by decide +kernel
theorem dX8_measure_66 : decode cX8_measure 66 = .ok (.iload_n 2, 1) := by decide +kernel
theorem dX8_measure_67 : decode cX8_measure 67 = .ok (.aload_n 1, 1) := by decide +kernel
theorem kw_1_216 : Cond.fieldLink RX8 30 "IceFair$Fair" "customs" "LIceFair$Customs;" ∈ gw := gw_t1 (List.mem_of_getElem? (i := 216) (by decide +kernel)) (by decide +kernel)
theorem dX8_measure_68 : decode cX8_measure 68 = .ok (.getfield 30, 3) := by decide +kernel
theorem kw_1_107 : Cond.fieldLink RX8 36 "IceFair$Customs" "stairCount" "I" ∈ gw := gw_t1 (List.mem_of_getElem? (i := 107) (by decide +kernel)) (by decide +kernel)
theorem dX8_measure_71 : decode cX8_measure 71 = .ok (.getfield 36, 3) := by decide +kernel
theorem dX8_measure_74 : decode cX8_measure 74 = .ok (.if_icmp .ge 78, 3) := by decide +kernel
theorem dX8_measure_152 : decode cX8_measure 152 = .ok (.return_, 1) := by decide +kernel
set_option maxHeartbeats 4000000 in
set_option maxRecDepth 100000 in
theorem c_measure0 (l : Launch) (D : va_G) (h0 : Nat) (fa : Nat) (cu : Nat) (rv : Nat) (bt : Nat) (q1 : Nat) (q2 : Nat) (q3 : Nat) (q4 : Nat) (cu1 : Nat) (cu2 : Nat) (cu3 : Nat) (cu4 : Nat) (qd : Int32) (cr : Int32) (ho : Int32) (fe : Int32) : cV l yX8_measure (.code yX8_measure cX8_measure 5 none) ({ frames := 4, cells := 0, slots := 0, locals := 105 }) D [] [(h0, .inr (7, [.ref q1, .ref q2, .int qd, .ref q3, .ref q4, .int cr])), (fa, .inr (3, [.ref cu, .ref rv, .ref bt, .int 0, .int ho, .int fe])), (cu, .inr (1, [.ref cu1, .ref cu2, .ref cu3, .ref cu4, .int 0, .int 0]))] xT [.ref h0, .ref fa] (S := Unit) (fun _ => True) (fun _ => []) (fun _ => [(h0, .inr (7, [.ref q1, .ref q2, .int qd, .ref q3, .ref q4, .int 0])), (fa, .inr (3, [.ref cu, .ref rv, .ref bt, .int 0, .int ho, .int fe])), (cu, .inr (1, [.ref cu1, .ref cu2, .ref cu3, .ref cu4, .int 0, .int 0]))]) := by
  intro sz
  refine Met.ofW (cc := cX8_measure) (maxL := 5) (ret := none) (by decide) rfl ?_
  intro p e s m args below meth c s₁ B hml hv
  obtain ⟨rfl, hsz, hP, hK, hD0, hX⟩ := hv
  have hx := B.exec
  have hb := B.bytes
  have hr := B.returns
  have hts0 := atoms_spec (ws := .code yX8_measure cX8_measure 5 none :: gw) B.pre
  have hts := fun (w : Cond) (h : w ∈ gw) => hts0 w (List.mem_cons_of_mem _ h)
  have hown : s.vm.findClass RX8 = some m.cls := findClass_of_methodNamed B.named
  have hlocks := B.notSynchronized
  have F : mFix p s m _ c cX8_measure 5 RX8 := ⟨hx, hb, hml, hown, hts⟩
  subst hsz
  have hD := hD0.self (sz := s.heap.size)
  generalize hAe : va_A [(h0, .inr (7, [.ref q1, .ref q2, .int qd, .ref q3, .ref q4, .int cr])), (fa, .inr (3, [.ref cu, .ref rv, .ref bt, .int 0, .int ho, .int fe])), (cu, .inr (1, [.ref cu1, .ref cu2, .ref cu3, .ref cu4, .int 0, .int 0]))] s.heap.size = A at hD hX ⊢
  have hA : ∀ q : Nat, s.heap.size ≤ q → A q := fun q h => by rw [← hAe]; exact Or.inr h
  have hS : va_S A s.heap s.heap [] := va_S.rf
  have hl := lv_entry ([.ref h0, .ref fa]) (n := 5) (Nat.le_of_ble_eq_true rfl)
  rw [lg_entry_eq]
  generalize (lg_sl ([.ref h0, .ref fa]) ++ List.replicate (5 - (lg_sl ([.ref h0, .ref fa])).length) Slot.unset).toArray = ls at hl ⊢
  have hl : lv_has ls 5 [(0, .ref h0), (1, .ref fa)] := hl
  have hP : va_P D vwCl [(h0, .inr (7, [.ref q1, .ref q2, .int qd, .ref q3, .ref q4, .int cr])), (fa, .inr (3, [.ref cu, .ref rv, .ref bt, .int 0, .int ho, .int fe])), (cu, .inr (1, [.ref cu1, .ref cu2, .ref cu3, .ref cu4, .int 0, .int 0]))] s.heap := hP
  refine lv_aload_n hx hb dX8_measure_0 rfl (lv_at hl 0 rfl) ?_
  refine lv_iconst (v := 0) hx hb dX8_measure_1 (by decide) ?_
  refine va_put (D := D) (ci := 7) (v := .int 0) (ty := .int) (C := RX8) (T := TX8) (N := 6) hx hb hts inG_X8 tyX8 tyX8_ok nmX8 hown hK hP hD hS 0 rfl rfl 5 (by decide) (hts _ kw_2_53) (fun _ h9 => h9) rfl (by decide +kernel) rfl rfl (Nat.le_of_ble_eq_true rfl) dX8_measure_2 (fun H locs hP hD hS => ?_)
  have hP : va_P D vwCl [(h0, .inr (7, [.ref q1, .ref q2, .int qd, .ref q3, .ref q4, .int 0])), (fa, .inr (3, [.ref cu, .ref rv, .ref bt, .int 0, .int ho, .int fe])), (cu, .inr (1, [.ref cu1, .ref cu2, .ref cu3, .ref cu4, .int 0, .int 0]))] H := hP
  have hD : va_D A [(h0, .inr (7, [.ref q1, .ref q2, .int qd, .ref q3, .ref q4, .int 0])), (fa, .inr (3, [.ref cu, .ref rv, .ref bt, .int 0, .int ho, .int fe])), (cu, .inr (1, [.ref cu1, .ref cu2, .ref cu3, .ref cu4, .int 0, .int 0]))] := hD
  refine lv_iconst (v := 0) hx hb dX8_measure_5 (by decide) ?_
  refine lv_istore_n (lv' := [(2, .int 0), (0, .ref h0), (1, .ref fa)]) hx hb dX8_measure_6 rfl hl (by decide) rfl (fun ls hl => ?_)
  refine lv_iload_n hx hb dX8_measure_7 rfl (lv_at hl 0 rfl) ?_
  refine lv_aload_n hx hb dX8_measure_8 rfl (lv_at hl 2 rfl) ?_
  refine va_get (D := D) (ci := 3) (v := .int 0) (C := RX3) (T := TX3) (N := 6) hx hb hts inG_X3 hown hK hP 1 rfl rfl 3 (by decide) (hts _ kw_1_228) (fun _ h9 => h9) rfl dX8_measure_9 ?_
  refine lv_icmp_ge (tgt := 64) hx hb dX8_measure_12 (by decide) (fun c_1 => ?_) (fun c_1 => absurd c_1 (by decide))
  refine lv_iconst (v := 0) hx hb dX8_measure_64 (by decide) ?_
  refine lv_istore_n (lv' := [(2, .int 0), (0, .ref h0), (1, .ref fa)]) hx hb dX8_measure_65 rfl hl (by decide) rfl (fun ls hl => ?_)
  refine lv_iload_n hx hb dX8_measure_66 rfl (lv_at hl 0 rfl) ?_
  refine lv_aload_n hx hb dX8_measure_67 rfl (lv_at hl 2 rfl) ?_
  refine va_get (D := D) (ci := 3) (v := .ref cu) (C := RX3) (T := TX3) (N := 6) hx hb hts inG_X3 hown hK hP 1 rfl rfl 0 (by decide) (hts _ kw_1_216) (fun _ h9 => h9) rfl dX8_measure_68 ?_
  refine va_get (D := D) (ci := 1) (v := .int 0) (C := RX1) (T := TX1) (N := 6) hx hb hts inG_X1 hown hK hP 2 rfl rfl 4 (by decide) (hts _ kw_1_107) (fun _ h9 => h9) rfl dX8_measure_71 ?_
  refine lv_icmp_ge (tgt := 152) hx hb dX8_measure_74 (by decide) (fun c_2 => ?_) (fun c_2 => absurd c_2 (by decide))
  have hP9 := hP.sub (ws' := [(h0, .inr (7, [.ref q1, .ref q2, .int qd, .ref q3, .ref q4, .int 0])), (fa, .inr (3, [.ref cu, .ref rv, .ref bt, .int 0, .int ho, .int fe])), (cu, .inr (1, [.ref cu1, .ref cu2, .ref cu3, .ref cu4, .int 0, .int 0]))]) [0, 1, 2] rfl
  have hD9 := hD.sub (ws' := [(h0, .inr (7, [.ref q1, .ref q2, .int qd, .ref q3, .ref q4, .int 0])), (fa, .inr (3, [.ref cu, .ref rv, .ref bt, .int 0, .int ho, .int fe])), (cu, .inr (1, [.ref cu1, .ref cu2, .ref cu3, .ref cu4, .int 0, .int 0]))]) [0, 1, 2] (by decide) rfl
  have hK9 := hK.sub (tys' := []) [] rfl
  refine W.widen (k := 0) (n := 0) (by decide) (by decide) ?_
  exact W.vret hx hb hr (fun t ht hW => ⟨⟨(), rfl, trivial, by rw [ht]; exact hP9, va_K.moved hW.alike hK9, hD9⟩, hS.F ht⟩) hS.2.2 dX8_measure_152
theorem dX8_hasSomebodyStuck_0 : decode cX8_hasSomebodyStuck 0 = .ok (.iconst 0, 1) := by decide +kernel
theorem dX8_hasSomebodyStuck_1 : decode cX8_hasSomebodyStuck 1 = .ok (.istore_n 2, 1) := by decide +kernel
theorem dX8_hasSomebodyStuck_2 : decode cX8_hasSomebodyStuck 2 = .ok (.iload_n 2, 1) := by decide +kernel
theorem dX8_hasSomebodyStuck_3 : decode cX8_hasSomebodyStuck 3 = .ok (.aload_n 1, 1) := by decide +kernel
theorem dX8_hasSomebodyStuck_4 : decode cX8_hasSomebodyStuck 4 = .ok (.getfield 71, 3) := by decide +kernel
theorem dX8_hasSomebodyStuck_7 : decode cX8_hasSomebodyStuck 7 = .ok (.if_icmp .ge 38, 3) := by decide +kernel
theorem dX8_hasSomebodyStuck_45 : decode cX8_hasSomebodyStuck 45 = .ok (.iconst 0, 1) := by decide +kernel
theorem dX8_hasSomebodyStuck_46 : decode cX8_hasSomebodyStuck 46 = .ok (.ireturn, 1) := by decide +kernel
set_option maxHeartbeats 4000000 in
set_option maxRecDepth 100000 in
theorem c_stuck0 (l : Launch) (D : va_G) (h0 : Nat) (fa : Nat) (cu : Nat) (rv : Nat) (bt : Nat) (q1 : Nat) (q2 : Nat) (q3 : Nat) (q4 : Nat) (qd : Int32) (ho : Int32) (fe : Int32) : cI l yX8_hasSomebodyStuck (.code yX8_hasSomebodyStuck cX8_hasSomebodyStuck 3 (some .boolean)) ({ frames := 1, cells := 0, slots := 0, locals := 23 }) D [] [(h0, .inr (7, [.ref q1, .ref q2, .int qd, .ref q3, .ref q4, .int 0])), (fa, .inr (3, [.ref cu, .ref rv, .ref bt, .int 0, .int ho, .int fe]))] xT [.ref h0, .ref fa] (S := Unit) (fun r _ => r = 0) (fun _ => []) (fun _ => [(h0, .inr (7, [.ref q1, .ref q2, .int qd, .ref q3, .ref q4, .int 0])), (fa, .inr (3, [.ref cu, .ref rv, .ref bt, .int 0, .int ho, .int fe]))]) := by
  intro sz
  refine Met.ofW (cc := cX8_hasSomebodyStuck) (maxL := 3) (ret := (some .boolean)) (by decide) rfl ?_
  intro p e s m args below meth c s₁ B hml hv
  obtain ⟨rfl, hsz, hP, hK, hD0, hX⟩ := hv
  have hx := B.exec
  have hb := B.bytes
  have hr := B.returns
  have hts0 := atoms_spec (ws := .code yX8_hasSomebodyStuck cX8_hasSomebodyStuck 3 (some .boolean) :: gw) B.pre
  have hts := fun (w : Cond) (h : w ∈ gw) => hts0 w (List.mem_cons_of_mem _ h)
  have hown : s.vm.findClass RX8 = some m.cls := findClass_of_methodNamed B.named
  have hlocks := B.notSynchronized
  have F : mFix p s m _ c cX8_hasSomebodyStuck 3 RX8 := ⟨hx, hb, hml, hown, hts⟩
  subst hsz
  have hD := hD0.self (sz := s.heap.size)
  generalize hAe : va_A [(h0, .inr (7, [.ref q1, .ref q2, .int qd, .ref q3, .ref q4, .int 0])), (fa, .inr (3, [.ref cu, .ref rv, .ref bt, .int 0, .int ho, .int fe]))] s.heap.size = A at hD hX ⊢
  have hA : ∀ q : Nat, s.heap.size ≤ q → A q := fun q h => by rw [← hAe]; exact Or.inr h
  have hS : va_S A s.heap s.heap [] := va_S.rf
  have hl := lv_entry ([.ref h0, .ref fa]) (n := 3) (Nat.le_of_ble_eq_true rfl)
  rw [lg_entry_eq]
  generalize (lg_sl ([.ref h0, .ref fa]) ++ List.replicate (3 - (lg_sl ([.ref h0, .ref fa])).length) Slot.unset).toArray = ls at hl ⊢
  have hl : lv_has ls 3 [(0, .ref h0), (1, .ref fa)] := hl
  have hP : va_P D vwCl [(h0, .inr (7, [.ref q1, .ref q2, .int qd, .ref q3, .ref q4, .int 0])), (fa, .inr (3, [.ref cu, .ref rv, .ref bt, .int 0, .int ho, .int fe]))] s.heap := hP
  refine lv_iconst (v := 0) hx hb dX8_hasSomebodyStuck_0 (by decide) ?_
  refine lv_istore_n (lv' := [(2, .int 0), (0, .ref h0), (1, .ref fa)]) hx hb dX8_hasSomebodyStuck_1 rfl hl (by decide) rfl (fun ls hl => ?_)
  refine lv_iload_n hx hb dX8_hasSomebodyStuck_2 rfl (lv_at hl 0 rfl) ?_
  refine lv_aload_n hx hb dX8_hasSomebodyStuck_3 rfl (lv_at hl 2 rfl) ?_
  refine va_get (D := D) (ci := 3) (v := .int 0) (C := RX3) (T := TX3) (N := 6) hx hb hts inG_X3 hown hK hP 1 rfl rfl 3 (by decide) (hts _ kw_1_228) (fun _ h9 => h9) rfl dX8_hasSomebodyStuck_4 ?_
  refine lv_icmp_ge (tgt := 45) hx hb dX8_hasSomebodyStuck_7 (by decide) (fun c_1 => ?_) (fun c_1 => absurd c_1 (by decide))
  refine lv_iconst (v := 0) hx hb dX8_hasSomebodyStuck_45 (by decide) ?_
  have hP9 := hP.sub (ws' := [(h0, .inr (7, [.ref q1, .ref q2, .int qd, .ref q3, .ref q4, .int 0])), (fa, .inr (3, [.ref cu, .ref rv, .ref bt, .int 0, .int ho, .int fe]))]) [0, 1] rfl
  have hD9 := hD.sub (ws' := [(h0, .inr (7, [.ref q1, .ref q2, .int qd, .ref q3, .ref q4, .int 0])), (fa, .inr (3, [.ref cu, .ref rv, .ref bt, .int 0, .int ho, .int fe]))]) [0, 1] (by decide) rfl
  have hK9 := hK.sub (tys' := []) [] rfl
  refine W.widen (k := 0) (n := 0) (by decide) (by decide) ?_
  exact W.zret (v := 0) hx hb hr rfl (fun t ht hW => ⟨⟨0, (), rfl, rfl, by rw [ht]; exact hP9, va_K.moved hW.alike hK9, hD9⟩, hS.F ht⟩) hS.2.2 dX8_hasSomebodyStuck_46
theorem dX8_leastMinutes_0 : decode cX8_leastMinutes 0 = .ok (.aload_n 0, 1) := by decide +kernel
theorem dX8_leastMinutes_1 : decode cX8_leastMinutes 1 = .ok (.aload_n 1, 1) := by decide +kernel
theorem kw_4_2 : Cond.methodLink RX8 63 yX8_measure ∈ gw := gw_t4 (List.mem_of_getElem? (i := 2) (by decide +kernel)) (by decide +kernel)
theorem kw_4_4 : Cond.instanceMethod yX8_measure ∈ gw := gw_t4 (List.mem_of_getElem? (i := 4) (by decide +kernel)) (by decide +kernel)
theorem ks_2_6 : Cond.selects RX8 yX8_measure yX8_measure ∈ gw := gw_s (y := yX8_measure) (n := 6) (List.mem_append_right _ (List.mem_append_left _ (List.mem_of_getElem? (i := 6) (by decide +kernel))))
theorem kw_4_5 : Cond.code yX8_measure cX8_measure 5 none ∈ gw := gw_t4 (List.mem_of_getElem? (i := 5) (by decide +kernel)) (by decide +kernel)
theorem gk_X8_63 : GoodIn gw (wsV RX8 63 RX8 yX8_measure (.code yX8_measure cX8_measure 5 none :: gw)) ∧ (yX8_measure.cls = RX8 ∧ yX8_measure.cls ≠ "java/lang/invoke/MethodHandle" ∧ yX8_measure.cls ≠ "java/lang/invoke/VarHandle" ∧ (parseMethodDescriptor yX8_measure.desc).map (fun d => d.parameters.length) = some 1) := ⟨gi_V kw_4_2 kw_4_4 ks_2_6 kw_1_10 kw_4_5, by decide +kernel⟩
theorem dX8_leastMinutes_2 : decode cX8_leastMinutes 2 = .ok (.invokevirtual 63, 3) := by decide +kernel
theorem dX8_leastMinutes_5 : decode cX8_leastMinutes 5 = .ok (.aload_n 0, 1) := by decide +kernel
theorem dX8_leastMinutes_6 : decode cX8_leastMinutes 6 = .ok (.aload_n 1, 1) := by decide +kernel
theorem kw_4_29 : Cond.methodLink RX8 67 yX8_hasSomebodyStuck ∈ gw := gw_t4 (List.mem_of_getElem? (i := 29) (by decide +kernel)) (by decide +kernel)
theorem kw_4_31 : Cond.instanceMethod yX8_hasSomebodyStuck ∈ gw := gw_t4 (List.mem_of_getElem? (i := 31) (by decide +kernel)) (by decide +kernel)
theorem ks_2_11 : Cond.selects RX8 yX8_hasSomebodyStuck yX8_hasSomebodyStuck ∈ gw := gw_s (y := yX8_hasSomebodyStuck) (n := 6) (List.mem_append_right _ (List.mem_append_left _ (List.mem_of_getElem? (i := 11) (by decide +kernel))))
theorem kw_4_32 : Cond.code yX8_hasSomebodyStuck cX8_hasSomebodyStuck 3 (some .boolean) ∈ gw := gw_t4 (List.mem_of_getElem? (i := 32) (by decide +kernel)) (by decide +kernel)
theorem gk_X8_67 : GoodIn gw (wsV RX8 67 RX8 yX8_hasSomebodyStuck (.code yX8_hasSomebodyStuck cX8_hasSomebodyStuck 3 (some .boolean) :: gw)) ∧ (yX8_hasSomebodyStuck.cls = RX8 ∧ yX8_hasSomebodyStuck.cls ≠ "java/lang/invoke/MethodHandle" ∧ yX8_hasSomebodyStuck.cls ≠ "java/lang/invoke/VarHandle" ∧ (parseMethodDescriptor yX8_hasSomebodyStuck.desc).map (fun d => d.parameters.length) = some 1) := ⟨gi_V kw_4_29 kw_4_31 ks_2_11 kw_1_10 kw_4_32, by decide +kernel⟩
theorem dX8_leastMinutes_7 : decode cX8_leastMinutes 7 = .ok (.invokevirtual 67, 3) := by decide +kernel
theorem dX8_leastMinutes_10 : decode cX8_leastMinutes 10 = .ok (.ifCond .eq 5, 3) := by decide +kernel
theorem dX8_leastMinutes_15 : decode cX8_leastMinutes 15 = .ok (.iconst 0, 1) := by decide +kernel
theorem dX8_leastMinutes_16 : decode cX8_leastMinutes 16 = .ok (.istore_n 2, 1) := by decide +kernel
theorem dX8_leastMinutes_17 : decode cX8_leastMinutes 17 = .ok (.iconst 1, 1) := by decide +kernel
theorem dX8_leastMinutes_18 : decode cX8_leastMinutes 18 = .ok (.istore_n 3, 1) := by decide +kernel
theorem dX8_leastMinutes_19 : decode cX8_leastMinutes 19 = .ok (.iload_n 3, 1) := by decide +kernel
theorem dX8_leastMinutes_20 : decode cX8_leastMinutes 20 = .ok (.iconst 1, 1) := by decide +kernel
theorem dX8_leastMinutes_21 : decode cX8_leastMinutes 21 = .ok (.aload_n 1, 1) := by decide +kernel
theorem dX8_leastMinutes_22 : decode cX8_leastMinutes 22 = .ok (.getfield 71, 3) := by decide +kernel
theorem dX8_leastMinutes_25 : decode cX8_leastMinutes 25 = .ok (.ishl, 1) := by decide +kernel
theorem dX8_leastMinutes_26 : decode cX8_leastMinutes 26 = .ok (.if_icmp .ge 38, 3) := by decide +kernel
theorem dX8_leastMinutes_64 : decode cX8_leastMinutes 64 = .ok (.iload_n 2, 1) := by decide +kernel
theorem dX8_leastMinutes_65 : decode cX8_leastMinutes 65 = .ok (.ireturn, 1) := by decide +kernel
set_option maxHeartbeats 4000000 in
set_option maxRecDepth 100000 in
theorem c_least0 (l : Launch) (D : va_G) (h0 : Nat) (fa : Nat) (cu : Nat) (rv : Nat) (bt : Nat) (q1 : Nat) (q2 : Nat) (q3 : Nat) (q4 : Nat) (cu1 : Nat) (cu2 : Nat) (cu3 : Nat) (cu4 : Nat) (qd : Int32) (cr : Int32) (ho : Int32) (fe : Int32) : cI l yX8_leastMinutes (.code yX8_leastMinutes cX8_leastMinutes 4 (some .int)) ({ frames := 5, cells := 0, slots := 0, locals := 129 }) D [] [(h0, .inr (7, [.ref q1, .ref q2, .int qd, .ref q3, .ref q4, .int cr])), (fa, .inr (3, [.ref cu, .ref rv, .ref bt, .int 0, .int ho, .int fe])), (cu, .inr (1, [.ref cu1, .ref cu2, .ref cu3, .ref cu4, .int 0, .int 0]))] xT [.ref h0, .ref fa] (S := Unit) (fun r _ => r = 0) (fun _ => []) (fun _ => [(h0, .inr (7, [.ref q1, .ref q2, .int qd, .ref q3, .ref q4, .int 0])), (fa, .inr (3, [.ref cu, .ref rv, .ref bt, .int 0, .int ho, .int fe])), (cu, .inr (1, [.ref cu1, .ref cu2, .ref cu3, .ref cu4, .int 0, .int 0]))]) := by
  intro sz
  refine Met.ofW (cc := cX8_leastMinutes) (maxL := 4) (ret := (some .int)) (by decide) rfl ?_
  intro p e s m args below meth c s₁ B hml hv
  obtain ⟨rfl, hsz, hP, hK, hD0, hX⟩ := hv
  have hx := B.exec
  have hb := B.bytes
  have hr := B.returns
  have hts0 := atoms_spec (ws := .code yX8_leastMinutes cX8_leastMinutes 4 (some .int) :: gw) B.pre
  have hts := fun (w : Cond) (h : w ∈ gw) => hts0 w (List.mem_cons_of_mem _ h)
  have hown : s.vm.findClass RX8 = some m.cls := findClass_of_methodNamed B.named
  have hlocks := B.notSynchronized
  have F : mFix p s m _ c cX8_leastMinutes 4 RX8 := ⟨hx, hb, hml, hown, hts⟩
  subst hsz
  have hD := hD0.self (sz := s.heap.size)
  generalize hAe : va_A [(h0, .inr (7, [.ref q1, .ref q2, .int qd, .ref q3, .ref q4, .int cr])), (fa, .inr (3, [.ref cu, .ref rv, .ref bt, .int 0, .int ho, .int fe])), (cu, .inr (1, [.ref cu1, .ref cu2, .ref cu3, .ref cu4, .int 0, .int 0]))] s.heap.size = A at hD hX ⊢
  have hA : ∀ q : Nat, s.heap.size ≤ q → A q := fun q h => by rw [← hAe]; exact Or.inr h
  have hS : va_S A s.heap s.heap [] := va_S.rf
  have hl := lv_entry ([.ref h0, .ref fa]) (n := 4) (Nat.le_of_ble_eq_true rfl)
  rw [lg_entry_eq]
  generalize (lg_sl ([.ref h0, .ref fa]) ++ List.replicate (4 - (lg_sl ([.ref h0, .ref fa])).length) Slot.unset).toArray = ls at hl ⊢
  have hl : lv_has ls 4 [(0, .ref h0), (1, .ref fa)] := hl
  have hP : va_P D vwCl [(h0, .inr (7, [.ref q1, .ref q2, .int qd, .ref q3, .ref q4, .int cr])), (fa, .inr (3, [.ref cu, .ref rv, .ref bt, .int 0, .int ho, .int fe])), (cu, .inr (1, [.ref cu1, .ref cu2, .ref cu3, .ref cu4, .int 0, .int 0]))] s.heap := hP
  refine lv_aload_n hx hb dX8_leastMinutes_0 rfl (lv_at hl 0 rfl) ?_
  refine lv_aload_n hx hb dX8_leastMinutes_1 rfl (lv_at hl 1 rfl) ?_
  refine mc_Vv (rest := []) (wr := []) F hK hP hD hS hA (c_measure0 l D h0 fa cu rv bt q1 q2 q3 q4 cu1 cu2 cu3 cu4 qd cr ho fe ) ⟨gk_X8_63.1, gk_X8_63.2, Nat.le_of_ble_eq_true rfl, Nat.le_of_ble_eq_true rfl⟩ [0, 1, 2] [] [] ⟨rfl, rfl, rfl, rfl, by decide⟩ rfl xT_move (fun _ _ _ => trivial) 0 rfl rfl rfl hl.1 rfl (Nat.le_of_ble_eq_true rfl) dX8_leastMinutes_2 ⟨Nat.le_of_ble_eq_true rfl, Nat.le_of_ble_eq_true rfl⟩ (fun _ H locs hw hK1 hP hD hS => ?_)
  have hP : va_P D vwCl [(h0, .inr (7, [.ref q1, .ref q2, .int qd, .ref q3, .ref q4, .int 0])), (fa, .inr (3, [.ref cu, .ref rv, .ref bt, .int 0, .int ho, .int fe])), (cu, .inr (1, [.ref cu1, .ref cu2, .ref cu3, .ref cu4, .int 0, .int 0]))] H := hP
  have hD : va_D A [(h0, .inr (7, [.ref q1, .ref q2, .int qd, .ref q3, .ref q4, .int 0])), (fa, .inr (3, [.ref cu, .ref rv, .ref bt, .int 0, .int ho, .int fe])), (cu, .inr (1, [.ref cu1, .ref cu2, .ref cu3, .ref cu4, .int 0, .int 0]))] := hD
  refine lv_aload_n hx hb dX8_leastMinutes_5 rfl (lv_at hl 0 rfl) ?_
  refine lv_aload_n hx hb dX8_leastMinutes_6 rfl (lv_at hl 1 rfl) ?_
  refine mc_Vi (rest := []) (wr := [(cu, .inr (1, [.ref cu1, .ref cu2, .ref cu3, .ref cu4, .int 0, .int 0]))]) F hK hP hD hS hA (c_stuck0 l D h0 fa cu rv bt q1 q2 q3 q4 qd ho fe ) ⟨gk_X8_67.1, gk_X8_67.2, Nat.le_of_ble_eq_true rfl, Nat.le_of_ble_eq_true rfl⟩ [0, 1] [2] [] ⟨rfl, rfl, rfl, rfl, by decide⟩ rfl xT_move (fun _ _ _ => trivial) 0 rfl rfl rfl hl.1 rfl (Nat.le_of_ble_eq_true rfl) dX8_leastMinutes_7 ⟨Nat.le_of_ble_eq_true rfl, Nat.le_of_ble_eq_true rfl⟩ (fun r_3 _ H locs hw hK1 hP hD hS => ?_)
  have hP : va_P D vwCl [(cu, .inr (1, [.ref cu1, .ref cu2, .ref cu3, .ref cu4, .int 0, .int 0])), (h0, .inr (7, [.ref q1, .ref q2, .int qd, .ref q3, .ref q4, .int 0])), (fa, .inr (3, [.ref cu, .ref rv, .ref bt, .int 0, .int ho, .int fe]))] H := hP
  have hD : va_D A [(cu, .inr (1, [.ref cu1, .ref cu2, .ref cu3, .ref cu4, .int 0, .int 0])), (h0, .inr (7, [.ref q1, .ref q2, .int qd, .ref q3, .ref q4, .int 0])), (fa, .inr (3, [.ref cu, .ref rv, .ref bt, .int 0, .int ho, .int fe]))] := hD
  have hw_4 : r_3 = 0 := hw
  obtain rfl : r_3 = 0 := hw_4
  refine lv_if_eq (tgt := 15) hx hb dX8_leastMinutes_10 (by decide) (fun c_5 => ?_) (fun c_5 => absurd c_5 (by decide))
  refine lv_iconst (v := 0) hx hb dX8_leastMinutes_15 (by decide) ?_
  refine lv_istore_n (lv' := [(2, .int 0), (0, .ref h0), (1, .ref fa)]) hx hb dX8_leastMinutes_16 rfl hl (by decide) rfl (fun ls hl => ?_)
  refine lv_iconst (v := 1) hx hb dX8_leastMinutes_17 (by decide) ?_
  refine lv_istore_n (lv' := [(3, .int 1), (2, .int 0), (0, .ref h0), (1, .ref fa)]) hx hb dX8_leastMinutes_18 rfl hl (by decide) rfl (fun ls hl => ?_)
  refine lv_iload_n hx hb dX8_leastMinutes_19 rfl (lv_at hl 0 rfl) ?_
  refine lv_iconst (v := 1) hx hb dX8_leastMinutes_20 (by decide) ?_
  refine lv_aload_n hx hb dX8_leastMinutes_21 rfl (lv_at hl 3 rfl) ?_
  refine va_get (D := D) (ci := 3) (v := .int 0) (C := RX3) (T := TX3) (N := 6) hx hb hts inG_X3 hown hK hP 2 rfl rfl 3 (by decide) (hts _ kw_1_228) (fun _ h9 => h9) rfl dX8_leastMinutes_22 ?_
  refine lv_ishl hx hb dX8_leastMinutes_25 ?_
  refine lv_topi (fun z_6 ez_6 => ?_)
  obtain rfl : z_6 = (1 : Int32) := ez_6.trans (by decide)
  refine lv_icmp_ge (tgt := 64) hx hb dX8_leastMinutes_26 (by decide) (fun c_7 => ?_) (fun c_7 => absurd c_7 (by decide))
  refine lv_iload_n hx hb dX8_leastMinutes_64 rfl (lv_at hl 1 rfl) ?_
  have hP9 := hP.sub (ws' := [(h0, .inr (7, [.ref q1, .ref q2, .int qd, .ref q3, .ref q4, .int 0])), (fa, .inr (3, [.ref cu, .ref rv, .ref bt, .int 0, .int ho, .int fe])), (cu, .inr (1, [.ref cu1, .ref cu2, .ref cu3, .ref cu4, .int 0, .int 0]))]) [1, 2, 0] rfl
  have hD9 := hD.sub (ws' := [(h0, .inr (7, [.ref q1, .ref q2, .int qd, .ref q3, .ref q4, .int 0])), (fa, .inr (3, [.ref cu, .ref rv, .ref bt, .int 0, .int ho, .int fe])), (cu, .inr (1, [.ref cu1, .ref cu2, .ref cu3, .ref cu4, .int 0, .int 0]))]) [1, 2, 0] (by decide) rfl
  have hK9 := hK.sub (tys' := []) [] rfl
  refine W.widen (k := 0) (n := 0) (by decide) (by decide) ?_
  exact W.iret (v := 0) hx hb hr (fun t ht hW => ⟨⟨0, (), rfl, rfl, by rw [ht]; exact hP9, va_K.moved hW.alike hK9, hD9⟩, hS.F ht⟩) hS.2.2 dX8_leastMinutes_65
theorem dX9_soon_0 : decode cX9_soon 0 = .ok (.aload_n 0, 1) := by decide +kernel
theorem dX9_soon_1 : decode cX9_soon 1 = .ok (.getfield 47, 3) := by decide +kernel
theorem dX9_soon_4 : decode cX9_soon 4 = .ok (.aload_n 0, 1) := by decide +kernel
theorem dX9_soon_5 : decode cX9_soon 5 = .ok (.getfield 33, 3) := by decide +kernel
theorem kw_3_238 : Cond.methodLink RX9 135 yX8_leastMinutes ∈ gw := gw_t3 (List.mem_of_getElem? (i := 238) (by decide +kernel)) (by decide +kernel)
theorem kw_3_239 : Cond.instanceMethod yX8_leastMinutes ∈ gw := gw_t3 (List.mem_of_getElem? (i := 239) (by decide +kernel)) (by decide +kernel)
theorem kw_4_0 : Cond.selects RX8 yX8_leastMinutes yX8_leastMinutes ∈ gw := gw_t4 (List.mem_of_getElem? (i := 0) (by decide +kernel)) (by decide +kernel)
theorem kw_4_1 : Cond.code yX8_leastMinutes cX8_leastMinutes 4 (some .int) ∈ gw := gw_t4 (List.mem_of_getElem? (i := 1) (by decide +kernel)) (by decide +kernel)
theorem gk_X9_135 : GoodIn gw (wsV RX9 135 RX8 yX8_leastMinutes (.code yX8_leastMinutes cX8_leastMinutes 4 (some .int) :: gw)) ∧ (yX8_leastMinutes.cls = RX8 ∧ yX8_leastMinutes.cls ≠ "java/lang/invoke/MethodHandle" ∧ yX8_leastMinutes.cls ≠ "java/lang/invoke/VarHandle" ∧ (parseMethodDescriptor yX8_leastMinutes.desc).map (fun d => d.parameters.length) = some 1) := ⟨gi_V kw_3_238 kw_3_239 kw_4_0 kw_1_10 kw_4_1, by decide +kernel⟩
theorem dX9_soon_8 : decode cX9_soon 8 = .ok (.invokevirtual 135, 3) := by decide +kernel
theorem dX9_soon_11 : decode cX9_soon 11 = .ok (.ireturn, 1) := by decide +kernel
set_option maxHeartbeats 4000000 in
set_option maxRecDepth 100000 in
theorem c_soon (l : Launch) (D : va_G) (h0 : Nat) (tp : Nat) (rd : Nat) (dr : Nat) (fa : Nat) (ly : Nat) (wy : Nat) (cu : Nat) (rv : Nat) (bt : Nat) (cu1 : Nat) (cu2 : Nat) (cu3 : Nat) (cu4 : Nat) (wy1 : Nat) (wy2 : Nat) (wy3 : Nat) (wy4 : Nat) : cI l yX9_soon (.code yX9_soon cX9_soon 1 (some .int)) ({ frames := 6, cells := 0, slots := 0, locals := 152 }) D [] [(h0, .inr (8, [.ref tp, .ref rd, .ref dr, .ref fa, .ref ly, .ref wy])), (wy, .inr (7, [.ref wy1, .ref wy2, .int 0, .ref wy3, .ref wy4, .int 0])), (fa, .inr (3, [.ref cu, .ref rv, .ref bt, .int 0, .int 0, .int 0])), (cu, .inr (1, [.ref cu1, .ref cu2, .ref cu3, .ref cu4, .int 0, .int 0]))] xT [.ref h0] (S := Unit) (fun r _ => r = 0) (fun _ => []) (fun _ => []) := by
  intro sz
  refine Met.ofW (cc := cX9_soon) (maxL := 1) (ret := (some .int)) (by decide) rfl ?_
  intro p e s m args below meth c s₁ B hml hv
  obtain ⟨rfl, hsz, hP, hK, hD0, hX⟩ := hv
  have hx := B.exec
  have hb := B.bytes
  have hr := B.returns
  have hts0 := atoms_spec (ws := .code yX9_soon cX9_soon 1 (some .int) :: gw) B.pre
  have hts := fun (w : Cond) (h : w ∈ gw) => hts0 w (List.mem_cons_of_mem _ h)
  have hown : s.vm.findClass RX9 = some m.cls := findClass_of_methodNamed B.named
  have hlocks := B.notSynchronized
  have F : mFix p s m _ c cX9_soon 1 RX9 := ⟨hx, hb, hml, hown, hts⟩
  subst hsz
  have hD := hD0.self (sz := s.heap.size)
  generalize hAe : va_A [(h0, .inr (8, [.ref tp, .ref rd, .ref dr, .ref fa, .ref ly, .ref wy])), (wy, .inr (7, [.ref wy1, .ref wy2, .int 0, .ref wy3, .ref wy4, .int 0])), (fa, .inr (3, [.ref cu, .ref rv, .ref bt, .int 0, .int 0, .int 0])), (cu, .inr (1, [.ref cu1, .ref cu2, .ref cu3, .ref cu4, .int 0, .int 0]))] s.heap.size = A at hD hX ⊢
  have hA : ∀ q : Nat, s.heap.size ≤ q → A q := fun q h => by rw [← hAe]; exact Or.inr h
  have hS : va_S A s.heap s.heap [] := va_S.rf
  have hl := lv_entry ([.ref h0]) (n := 1) (Nat.le_of_ble_eq_true rfl)
  rw [lg_entry_eq]
  generalize (lg_sl ([.ref h0]) ++ List.replicate (1 - (lg_sl ([.ref h0])).length) Slot.unset).toArray = ls at hl ⊢
  have hl : lv_has ls 1 [(0, .ref h0)] := hl
  have hP : va_P D vwCl [(h0, .inr (8, [.ref tp, .ref rd, .ref dr, .ref fa, .ref ly, .ref wy])), (wy, .inr (7, [.ref wy1, .ref wy2, .int 0, .ref wy3, .ref wy4, .int 0])), (fa, .inr (3, [.ref cu, .ref rv, .ref bt, .int 0, .int 0, .int 0])), (cu, .inr (1, [.ref cu1, .ref cu2, .ref cu3, .ref cu4, .int 0, .int 0]))] s.heap := hP
  refine lv_aload_n hx hb dX9_soon_0 rfl (lv_at hl 0 rfl) ?_
  refine va_get (D := D) (ci := 8) (v := .ref wy) (C := RX9) (T := TX9) (N := 6) hx hb hts inG_X9 hown hK hP 0 rfl rfl 5 (by decide) (hts _ kw_2_72) (fun _ h9 => h9) rfl dX9_soon_1 ?_
  refine lv_aload_n hx hb dX9_soon_4 rfl (lv_at hl 0 rfl) ?_
  refine va_get (D := D) (ci := 8) (v := .ref fa) (C := RX9) (T := TX9) (N := 6) hx hb hts inG_X9 hown hK hP 0 rfl rfl 3 (by decide) (hts _ kw_2_70) (fun _ h9 => h9) rfl dX9_soon_5 ?_
  refine mc_Vi (rest := []) (wr := [(h0, .inr (8, [.ref tp, .ref rd, .ref dr, .ref fa, .ref ly, .ref wy]))]) F hK hP hD hS hA (c_least0 l D wy fa cu rv bt wy1 wy2 wy3 wy4 cu1 cu2 cu3 cu4 0 0 0 0 ) ⟨gk_X9_135.1, gk_X9_135.2, Nat.le_of_ble_eq_true rfl, Nat.le_of_ble_eq_true rfl⟩ [1, 2, 3] [0] [] ⟨rfl, rfl, rfl, rfl, by decide⟩ rfl xT_move (fun _ _ _ => trivial) 1 rfl rfl rfl hl.1 rfl (Nat.le_of_ble_eq_true rfl) dX9_soon_8 ⟨Nat.le_of_ble_eq_true rfl, Nat.le_of_ble_eq_true rfl⟩ (fun r_1 _ H locs hw hK1 hP hD hS => ?_)
  have hP : va_P D vwCl [(h0, .inr (8, [.ref tp, .ref rd, .ref dr, .ref fa, .ref ly, .ref wy])), (wy, .inr (7, [.ref wy1, .ref wy2, .int 0, .ref wy3, .ref wy4, .int 0])), (fa, .inr (3, [.ref cu, .ref rv, .ref bt, .int 0, .int 0, .int 0])), (cu, .inr (1, [.ref cu1, .ref cu2, .ref cu3, .ref cu4, .int 0, .int 0]))] H := hP
  have hD : va_D A [(h0, .inr (8, [.ref tp, .ref rd, .ref dr, .ref fa, .ref ly, .ref wy])), (wy, .inr (7, [.ref wy1, .ref wy2, .int 0, .ref wy3, .ref wy4, .int 0])), (fa, .inr (3, [.ref cu, .ref rv, .ref bt, .int 0, .int 0, .int 0])), (cu, .inr (1, [.ref cu1, .ref cu2, .ref cu3, .ref cu4, .int 0, .int 0]))] := hD
  have hw_2 : r_1 = 0 := hw
  obtain rfl : r_1 = 0 := hw_2
  have hP9 := hP.sub (ws' := []) [] rfl
  have hD9 := hD.sub (ws' := []) [] (by decide) rfl
  have hK9 := hK.sub (tys' := []) [] rfl
  refine W.widen (k := 0) (n := 0) (by decide) (by decide) ?_
  exact W.iret (v := 0) hx hb hr (fun t ht hW => ⟨⟨0, (), rfl, rfl, by rw [ht]; exact hP9, va_K.moved hW.alike hK9, hD9⟩, hS.F ht⟩) hS.2.2 dX9_soon_11
theorem dX9_proof_0 : decode cX9_proof 0 = .ok (.aload_n 0, 1) := by decide +kernel
theorem dX9_proof_1 : decode cX9_proof 1 = .ok (.getfield 47, 3) := by decide +kernel
theorem dX9_proof_4 : decode cX9_proof 4 = .ok (.aload_n 0, 1) := by decide +kernel
theorem dX9_proof_5 : decode cX9_proof 5 = .ok (.getfield 33, 3) := by decide +kernel
theorem dX9_proof_8 : decode cX9_proof 8 = .ok (.invokevirtual 135, 3) := by decide +kernel
theorem dX9_proof_11 : decode cX9_proof 11 = .ok (.istore_n 1, 1) := by decide +kernel
theorem dX9_proof_12 : decode cX9_proof 12 = .ok (.iload_n 1, 1) := by decide +kernel
theorem dX9_proof_13 : decode cX9_proof 13 = .ok (.ifCond .gt 7, 3) := by decide +kernel
theorem dX9_proof_16 : decode cX9_proof 16 = .ok (.iconst (-1), 1) := by decide +kernel
theorem dX9_proof_17 : decode cX9_proof 17 = .ok (.goto 15, 3) := by decide +kernel
theorem dX9_proof_32 : decode cX9_proof 32 = .ok (.ireturn, 1) := by decide +kernel
set_option maxHeartbeats 4000000 in
set_option maxRecDepth 100000 in
theorem c_proof (l : Launch) (D : va_G) (h0 : Nat) (tp : Nat) (rd : Nat) (dr : Nat) (fa : Nat) (ly : Nat) (wy : Nat) (cu : Nat) (rv : Nat) (bt : Nat) (cu1 : Nat) (cu2 : Nat) (cu3 : Nat) (cu4 : Nat) (wy1 : Nat) (wy2 : Nat) (wy3 : Nat) (wy4 : Nat) : cI l yX9_proof (.code yX9_proof cX9_proof 2 (some .int)) ({ frames := 6, cells := 0, slots := 0, locals := 152 }) D [] [(h0, .inr (8, [.ref tp, .ref rd, .ref dr, .ref fa, .ref ly, .ref wy])), (wy, .inr (7, [.ref wy1, .ref wy2, .int 0, .ref wy3, .ref wy4, .int 0])), (fa, .inr (3, [.ref cu, .ref rv, .ref bt, .int 0, .int 0, .int 0])), (cu, .inr (1, [.ref cu1, .ref cu2, .ref cu3, .ref cu4, .int 0, .int 0]))] xT [.ref h0] (S := Unit) (fun r _ => r = (-1)) (fun _ => []) (fun _ => []) := by
  intro sz
  refine Met.ofW (cc := cX9_proof) (maxL := 2) (ret := (some .int)) (by decide) rfl ?_
  intro p e s m args below meth c s₁ B hml hv
  obtain ⟨rfl, hsz, hP, hK, hD0, hX⟩ := hv
  have hx := B.exec
  have hb := B.bytes
  have hr := B.returns
  have hts0 := atoms_spec (ws := .code yX9_proof cX9_proof 2 (some .int) :: gw) B.pre
  have hts := fun (w : Cond) (h : w ∈ gw) => hts0 w (List.mem_cons_of_mem _ h)
  have hown : s.vm.findClass RX9 = some m.cls := findClass_of_methodNamed B.named
  have hlocks := B.notSynchronized
  have F : mFix p s m _ c cX9_proof 2 RX9 := ⟨hx, hb, hml, hown, hts⟩
  subst hsz
  have hD := hD0.self (sz := s.heap.size)
  generalize hAe : va_A [(h0, .inr (8, [.ref tp, .ref rd, .ref dr, .ref fa, .ref ly, .ref wy])), (wy, .inr (7, [.ref wy1, .ref wy2, .int 0, .ref wy3, .ref wy4, .int 0])), (fa, .inr (3, [.ref cu, .ref rv, .ref bt, .int 0, .int 0, .int 0])), (cu, .inr (1, [.ref cu1, .ref cu2, .ref cu3, .ref cu4, .int 0, .int 0]))] s.heap.size = A at hD hX ⊢
  have hA : ∀ q : Nat, s.heap.size ≤ q → A q := fun q h => by rw [← hAe]; exact Or.inr h
  have hS : va_S A s.heap s.heap [] := va_S.rf
  have hl := lv_entry ([.ref h0]) (n := 2) (Nat.le_of_ble_eq_true rfl)
  rw [lg_entry_eq]
  generalize (lg_sl ([.ref h0]) ++ List.replicate (2 - (lg_sl ([.ref h0])).length) Slot.unset).toArray = ls at hl ⊢
  have hl : lv_has ls 2 [(0, .ref h0)] := hl
  have hP : va_P D vwCl [(h0, .inr (8, [.ref tp, .ref rd, .ref dr, .ref fa, .ref ly, .ref wy])), (wy, .inr (7, [.ref wy1, .ref wy2, .int 0, .ref wy3, .ref wy4, .int 0])), (fa, .inr (3, [.ref cu, .ref rv, .ref bt, .int 0, .int 0, .int 0])), (cu, .inr (1, [.ref cu1, .ref cu2, .ref cu3, .ref cu4, .int 0, .int 0]))] s.heap := hP
  refine lv_aload_n hx hb dX9_proof_0 rfl (lv_at hl 0 rfl) ?_
  refine va_get (D := D) (ci := 8) (v := .ref wy) (C := RX9) (T := TX9) (N := 6) hx hb hts inG_X9 hown hK hP 0 rfl rfl 5 (by decide) (hts _ kw_2_72) (fun _ h9 => h9) rfl dX9_proof_1 ?_
  refine lv_aload_n hx hb dX9_proof_4 rfl (lv_at hl 0 rfl) ?_
  refine va_get (D := D) (ci := 8) (v := .ref fa) (C := RX9) (T := TX9) (N := 6) hx hb hts inG_X9 hown hK hP 0 rfl rfl 3 (by decide) (hts _ kw_2_70) (fun _ h9 => h9) rfl dX9_proof_5 ?_
  refine mc_Vi (rest := []) (wr := [(h0, .inr (8, [.ref tp, .ref rd, .ref dr, .ref fa, .ref ly, .ref wy]))]) F hK hP hD hS hA (c_least0 l D wy fa cu rv bt wy1 wy2 wy3 wy4 cu1 cu2 cu3 cu4 0 0 0 0 ) ⟨gk_X9_135.1, gk_X9_135.2, Nat.le_of_ble_eq_true rfl, Nat.le_of_ble_eq_true rfl⟩ [1, 2, 3] [0] [] ⟨rfl, rfl, rfl, rfl, by decide⟩ rfl xT_move (fun _ _ _ => trivial) 1 rfl rfl rfl hl.1 rfl (Nat.le_of_ble_eq_true rfl) dX9_proof_8 ⟨Nat.le_of_ble_eq_true rfl, Nat.le_of_ble_eq_true rfl⟩ (fun r_1 _ H locs hw hK1 hP hD hS => ?_)
  have hP : va_P D vwCl [(h0, .inr (8, [.ref tp, .ref rd, .ref dr, .ref fa, .ref ly, .ref wy])), (wy, .inr (7, [.ref wy1, .ref wy2, .int 0, .ref wy3, .ref wy4, .int 0])), (fa, .inr (3, [.ref cu, .ref rv, .ref bt, .int 0, .int 0, .int 0])), (cu, .inr (1, [.ref cu1, .ref cu2, .ref cu3, .ref cu4, .int 0, .int 0]))] H := hP
  have hD : va_D A [(h0, .inr (8, [.ref tp, .ref rd, .ref dr, .ref fa, .ref ly, .ref wy])), (wy, .inr (7, [.ref wy1, .ref wy2, .int 0, .ref wy3, .ref wy4, .int 0])), (fa, .inr (3, [.ref cu, .ref rv, .ref bt, .int 0, .int 0, .int 0])), (cu, .inr (1, [.ref cu1, .ref cu2, .ref cu3, .ref cu4, .int 0, .int 0]))] := hD
  have hw_2 : r_1 = 0 := hw
  obtain rfl : r_1 = 0 := hw_2
  refine lv_istore_n (lv' := [(1, .int 0), (0, .ref h0)]) hx hb dX9_proof_11 rfl hl (by decide) rfl (fun ls hl => ?_)
  refine lv_iload_n hx hb dX9_proof_12 rfl (lv_at hl 0 rfl) ?_
  refine lv_if_gt (tgt := 20) hx hb dX9_proof_13 (by decide) (fun c_3 => absurd c_3 (by decide)) (fun c_3 => ?_)
  refine lv_iconst (v := -1) hx hb dX9_proof_16 (by decide) ?_
  refine lv_goto (tgt := 32) hx hb dX9_proof_17 (by decide) ?_
  have hP9 := hP.sub (ws' := []) [] rfl
  have hD9 := hD.sub (ws' := []) [] (by decide) rfl
  have hK9 := hK.sub (tys' := []) [] rfl
  refine W.widen (k := 0) (n := 0) (by decide) (by decide) ?_
  exact W.iret (v := (-1)) hx hb hr (fun t ht hW => ⟨⟨((-1)), (), rfl, rfl, by rw [ht]; exact hP9, va_K.moved hW.alike hK9, hD9⟩, hS.F ht⟩) hS.2.2 dX9_proof_32
theorem dX3_boothsInState_0 : decode cX3_boothsInState 0 = .ok (.iconst 0, 1) := by decide +kernel
theorem dX3_boothsInState_1 : decode cX3_boothsInState 1 = .ok (.istore_n 2, 1) := by decide +kernel
theorem dX3_boothsInState_2 : decode cX3_boothsInState 2 = .ok (.iconst 0, 1) := by decide +kernel
theorem dX3_boothsInState_3 : decode cX3_boothsInState 3 = .ok (.istore_n 3, 1) := by decide +kernel
theorem dX3_boothsInState_4 : decode cX3_boothsInState 4 = .ok (.iload_n 3, 1) := by decide +kernel
theorem dX3_boothsInState_5 : decode cX3_boothsInState 5 = .ok (.aload_n 0, 1) := by decide +kernel
theorem dX3_boothsInState_6 : decode cX3_boothsInState 6 = .ok (.getfield 36, 3) := by decide +kernel
theorem dX3_boothsInState_9 : decode cX3_boothsInState 9 = .ok (.if_icmp .ge 31, 3) := by decide +kernel
theorem dX3_boothsInState_40 : decode cX3_boothsInState 40 = .ok (.iload_n 2, 1) := by decide +kernel
theorem dX3_boothsInState_41 : decode cX3_boothsInState 41 = .ok (.ireturn, 1) := by decide +kernel
set_option maxHeartbeats 4000000 in
set_option maxRecDepth 100000 in
theorem c_inState0 (l : Launch) (D : va_G) (h0 : Nat) (cu : Nat) (rv : Nat) (bt : Nat) (ho : Int32) (fe : Int32) (x : Int32) : cI l yX3_boothsInState (.code yX3_boothsInState cX3_boothsInState 4 (some .int)) ({ frames := 0, cells := 0, slots := 0, locals := 0 }) D [] [(h0, .inr (3, [.ref cu, .ref rv, .ref bt, .int 0, .int ho, .int fe]))] xT [.ref h0, .int x] (S := Unit) (fun r _ => r = 0) (fun _ => []) (fun _ => [(h0, .inr (3, [.ref cu, .ref rv, .ref bt, .int 0, .int ho, .int fe]))]) := by
  intro sz
  refine Met.ofW (cc := cX3_boothsInState) (maxL := 4) (ret := (some .int)) (by decide) rfl ?_
  intro p e s m args below meth c s₁ B hml hv
  obtain ⟨rfl, hsz, hP, hK, hD0, hX⟩ := hv
  have hx := B.exec
  have hb := B.bytes
  have hr := B.returns
  have hts0 := atoms_spec (ws := .code yX3_boothsInState cX3_boothsInState 4 (some .int) :: gw) B.pre
  have hts := fun (w : Cond) (h : w ∈ gw) => hts0 w (List.mem_cons_of_mem _ h)
  have hown : s.vm.findClass RX3 = some m.cls := findClass_of_methodNamed B.named
  have hlocks := B.notSynchronized
  have F : mFix p s m _ c cX3_boothsInState 4 RX3 := ⟨hx, hb, hml, hown, hts⟩
  subst hsz
  have hD := hD0.self (sz := s.heap.size)
  generalize hAe : va_A [(h0, .inr (3, [.ref cu, .ref rv, .ref bt, .int 0, .int ho, .int fe]))] s.heap.size = A at hD hX ⊢
  have hA : ∀ q : Nat, s.heap.size ≤ q → A q := fun q h => by rw [← hAe]; exact Or.inr h
  have hS : va_S A s.heap s.heap [] := va_S.rf
  have hl := lv_entry ([.ref h0, .int x]) (n := 4) (Nat.le_of_ble_eq_true rfl)
  rw [lg_entry_eq]
  generalize (lg_sl ([.ref h0, .int x]) ++ List.replicate (4 - (lg_sl ([.ref h0, .int x])).length) Slot.unset).toArray = ls at hl ⊢
  have hl : lv_has ls 4 [(0, .ref h0), (1, .int x)] := hl
  have hP : va_P D vwCl [(h0, .inr (3, [.ref cu, .ref rv, .ref bt, .int 0, .int ho, .int fe]))] s.heap := hP
  refine lv_iconst (v := 0) hx hb dX3_boothsInState_0 (by decide) ?_
  refine lv_istore_n (lv' := [(2, .int 0), (0, .ref h0), (1, .int x)]) hx hb dX3_boothsInState_1 rfl hl (by decide) rfl (fun ls hl => ?_)
  refine lv_iconst (v := 0) hx hb dX3_boothsInState_2 (by decide) ?_
  refine lv_istore_n (lv' := [(3, .int 0), (2, .int 0), (0, .ref h0), (1, .int x)]) hx hb dX3_boothsInState_3 rfl hl (by decide) rfl (fun ls hl => ?_)
  refine lv_iload_n hx hb dX3_boothsInState_4 rfl (lv_at hl 0 rfl) ?_
  refine lv_aload_n hx hb dX3_boothsInState_5 rfl (lv_at hl 2 rfl) ?_
  refine va_get (D := D) (ci := 3) (v := .int 0) (C := RX3) (T := TX3) (N := 6) hx hb hts inG_X3 hown hK hP 0 rfl rfl 3 (by decide) (hts _ kw_1_226) (fun _ h9 => h9) rfl dX3_boothsInState_6 ?_
  refine lv_icmp_ge (tgt := 40) hx hb dX3_boothsInState_9 (by decide) (fun c_1 => ?_) (fun c_1 => absurd c_1 (by decide))
  refine lv_iload_n hx hb dX3_boothsInState_40 rfl (lv_at hl 1 rfl) ?_
  have hP9 := hP.sub (ws' := [(h0, .inr (3, [.ref cu, .ref rv, .ref bt, .int 0, .int ho, .int fe]))]) [0] rfl
  have hD9 := hD.sub (ws' := [(h0, .inr (3, [.ref cu, .ref rv, .ref bt, .int 0, .int ho, .int fe]))]) [0] (by decide) rfl
  have hK9 := hK.sub (tys' := []) [] rfl
  refine W.widen (k := 0) (n := 0) (by decide) (by decide) ?_
  exact W.iret (v := 0) hx hb hr (fun t ht hW => ⟨⟨0, (), rfl, rfl, by rw [ht]; exact hP9, va_K.moved hW.alike hK9, hD9⟩, hS.F ht⟩) hS.2.2 dX3_boothsInState_41
theorem dX3_boothsToMove_0 : decode cX3_boothsToMove 0 = .ok (.iconst 0, 1) := by decide +kernel
theorem dX3_boothsToMove_1 : decode cX3_boothsToMove 1 = .ok (.istore_n 1, 1) := by decide +kernel
theorem dX3_boothsToMove_2 : decode cX3_boothsToMove 2 = .ok (.iconst 0, 1) := by decide +kernel
theorem dX3_boothsToMove_3 : decode cX3_boothsToMove 3 = .ok (.istore_n 2, 1) := by decide +kernel
theorem dX3_boothsToMove_4 : decode cX3_boothsToMove 4 = .ok (.iload_n 2, 1) := by decide +kernel
theorem dX3_boothsToMove_5 : decode cX3_boothsToMove 5 = .ok (.aload_n 0, 1) := by decide +kernel
theorem dX3_boothsToMove_6 : decode cX3_boothsToMove 6 = .ok (.getfield 36, 3) := by decide +kernel
theorem dX3_boothsToMove_9 : decode cX3_boothsToMove 9 = .ok (.if_icmp .ge 31, 3) := by decide +kernel
theorem dX3_boothsToMove_40 : decode cX3_boothsToMove 40 = .ok (.iload_n 1, 1) := by decide +kernel
theorem dX3_boothsToMove_41 : decode cX3_boothsToMove 41 = .ok (.ireturn, 1) := by decide +kernel
set_option maxHeartbeats 4000000 in
set_option maxRecDepth 100000 in
theorem c_toMove0 (l : Launch) (D : va_G) (h0 : Nat) (cu : Nat) (rv : Nat) (bt : Nat) (ho : Int32) (fe : Int32) : cI l yX3_boothsToMove (.code yX3_boothsToMove cX3_boothsToMove 3 (some .int)) ({ frames := 3, cells := 0, slots := 0, locals := 68 }) D [] [(h0, .inr (3, [.ref cu, .ref rv, .ref bt, .int 0, .int ho, .int fe]))] xT [.ref h0] (S := Unit) (fun r _ => r = 0) (fun _ => []) (fun _ => [(h0, .inr (3, [.ref cu, .ref rv, .ref bt, .int 0, .int ho, .int fe]))]) := by
  intro sz
  refine Met.ofW (cc := cX3_boothsToMove) (maxL := 3) (ret := (some .int)) (by decide) rfl ?_
  intro p e s m args below meth c s₁ B hml hv
  obtain ⟨rfl, hsz, hP, hK, hD0, hX⟩ := hv
  have hx := B.exec
  have hb := B.bytes
  have hr := B.returns
  have hts0 := atoms_spec (ws := .code yX3_boothsToMove cX3_boothsToMove 3 (some .int) :: gw) B.pre
  have hts := fun (w : Cond) (h : w ∈ gw) => hts0 w (List.mem_cons_of_mem _ h)
  have hown : s.vm.findClass RX3 = some m.cls := findClass_of_methodNamed B.named
  have hlocks := B.notSynchronized
  have F : mFix p s m _ c cX3_boothsToMove 3 RX3 := ⟨hx, hb, hml, hown, hts⟩
  subst hsz
  have hD := hD0.self (sz := s.heap.size)
  generalize hAe : va_A [(h0, .inr (3, [.ref cu, .ref rv, .ref bt, .int 0, .int ho, .int fe]))] s.heap.size = A at hD hX ⊢
  have hA : ∀ q : Nat, s.heap.size ≤ q → A q := fun q h => by rw [← hAe]; exact Or.inr h
  have hS : va_S A s.heap s.heap [] := va_S.rf
  have hl := lv_entry ([.ref h0]) (n := 3) (Nat.le_of_ble_eq_true rfl)
  rw [lg_entry_eq]
  generalize (lg_sl ([.ref h0]) ++ List.replicate (3 - (lg_sl ([.ref h0])).length) Slot.unset).toArray = ls at hl ⊢
  have hl : lv_has ls 3 [(0, .ref h0)] := hl
  have hP : va_P D vwCl [(h0, .inr (3, [.ref cu, .ref rv, .ref bt, .int 0, .int ho, .int fe]))] s.heap := hP
  refine lv_iconst (v := 0) hx hb dX3_boothsToMove_0 (by decide) ?_
  refine lv_istore_n (lv' := [(1, .int 0), (0, .ref h0)]) hx hb dX3_boothsToMove_1 rfl hl (by decide) rfl (fun ls hl => ?_)
  refine lv_iconst (v := 0) hx hb dX3_boothsToMove_2 (by decide) ?_
  refine lv_istore_n (lv' := [(2, .int 0), (1, .int 0), (0, .ref h0)]) hx hb dX3_boothsToMove_3 rfl hl (by decide) rfl (fun ls hl => ?_)
  refine lv_iload_n hx hb dX3_boothsToMove_4 rfl (lv_at hl 0 rfl) ?_
  refine lv_aload_n hx hb dX3_boothsToMove_5 rfl (lv_at hl 2 rfl) ?_
  refine va_get (D := D) (ci := 3) (v := .int 0) (C := RX3) (T := TX3) (N := 6) hx hb hts inG_X3 hown hK hP 0 rfl rfl 3 (by decide) (hts _ kw_1_226) (fun _ h9 => h9) rfl dX3_boothsToMove_6 ?_
  refine lv_icmp_ge (tgt := 40) hx hb dX3_boothsToMove_9 (by decide) (fun c_1 => ?_) (fun c_1 => absurd c_1 (by decide))
  refine lv_iload_n hx hb dX3_boothsToMove_40 rfl (lv_at hl 1 rfl) ?_
  have hP9 := hP.sub (ws' := [(h0, .inr (3, [.ref cu, .ref rv, .ref bt, .int 0, .int ho, .int fe]))]) [0] rfl
  have hD9 := hD.sub (ws' := [(h0, .inr (3, [.ref cu, .ref rv, .ref bt, .int 0, .int ho, .int fe]))]) [0] (by decide) rfl
  have hK9 := hK.sub (tys' := []) [] rfl
  refine W.widen (k := 0) (n := 0) (by decide) (by decide) ?_
  exact W.iret (v := 0) hx hb hr (fun t ht hW => ⟨⟨0, (), rfl, rfl, by rw [ht]; exact hP9, va_K.moved hW.alike hK9, hD9⟩, hS.F ht⟩) hS.2.2 dX3_boothsToMove_41
theorem dX6_crackCount_4 : decode cX6_crackCount 4 = .ok (.iload_n 2, 1) := by decide +kernel
theorem dX6_crackCount_5 : decode cX6_crackCount 5 = .ok (.bipush 100, 2) := by decide +kernel
theorem dX6_crackCount_7 : decode cX6_crackCount 7 = .ok (.if_icmp .ge 21, 3) := by decide +kernel
theorem dX6_crackCount_10 : decode cX6_crackCount 10 = .ok (.aload_n 0, 1) := by decide +kernel
theorem dX6_crackCount_11 : decode cX6_crackCount 11 = .ok (.getfield 24, 3) := by decide +kernel
theorem dX6_crackCount_14 : decode cX6_crackCount 14 = .ok (.iload_n 2, 1) := by decide +kernel
theorem dX6_crackCount_15 : decode cX6_crackCount 15 = .ok (.baload, 1) := by decide +kernel
theorem dX6_crackCount_16 : decode cX6_crackCount 16 = .ok (.ifCond .eq 6, 3) := by decide +kernel
theorem dX6_crackCount_22 : decode cX6_crackCount 22 = .ok (.iinc 2 1, 3) := by decide +kernel
theorem dX6_crackCount_25 : decode cX6_crackCount 25 = .ok (.goto (-21), 3) := by decide +kernel
set_option maxHeartbeats 4000000 in
set_option maxRecDepth 100000 in
theorem lp_crackCount0 {p : Program} {l : Launch} {e : Env} {s : State} {m : MethodId} {args : Array Value} {below : List Frame} {meth : Method} {c : Code} {Q : State → Prop} {A : Nat → Prop} {D : va_G} (F : mFix p s m args c cX6_crackCount 3 RX6) (hA : ∀ q, s.heap.size ≤ q → A q) (h0 : Nat) (q1 : Nat) (q2 : Nat) (q3 : Nat) (q4 : Nat) (q5 : Nat) (q6 : Nat) (cy5 : ClassId) (w0 : Int32) (h9 : Int32) (hK : va_K D vwCl [(cy5, .boolean)] s)
    (kx_28 : ∀ (H : Heap) (locs : List Loc), va_P D vwCl [(h0, .inr (5, [.int w0, .int h9, .ref q1, .ref q2, .ref q3, .ref q4, .ref q5, .ref q6])), (q5, .inl (cy5, 100, .inl (fun _ => 0)))] H → va_D A [(h0, .inr (5, [.int w0, .int h9, .ref q1, .ref q2, .ref q3, .ref q4, .ref q5, .ref q6])), (q5, .inl (cy5, 100, .inl (fun _ => 0)))] → va_S A s.heap H locs → ∀ ls : Array Slot, lv_has ls 3 [(1, .int 0)] → W p l e ({ frames := 0, cells := 0, slots := 0, locals := 0 }) s m args below meth c H locs 0 0 Q (F0 m 28 ls [])) :
    ∀ n : Nat, ∀ (i : Nat), (i ≤ 100) → (100 - i) < n → ∀ (H : Heap) (locs : List Loc), va_P D vwCl [(h0, .inr (5, [.int w0, .int h9, .ref q1, .ref q2, .ref q3, .ref q4, .ref q5, .ref q6])), (q5, .inl (cy5, 100, .inl (fun _ => 0)))] H → va_D A [(h0, .inr (5, [.int w0, .int h9, .ref q1, .ref q2, .ref q3, .ref q4, .ref q5, .ref q6])), (q5, .inl (cy5, 100, .inl (fun _ => 0)))] → va_S A s.heap H locs → ∀ ls : Array Slot, lv_has ls 3 [(0, .ref h0), (1, .int 0), (2, .int (nI i))] → W p l e ({ frames := 0, cells := 0, slots := 0, locals := 0 }) s m args below meth c H locs 0 0 Q (F0 m 4 ls []) := by
  intro n
  induction n with
  | zero => intro i hi hn; exact absurd hn (Nat.not_lt_zero _)
  | succ n ih =>
    intro i hi hn H locs hP hD hS ls hl
    obtain ⟨hx, hb, hml, hown, hts⟩ := id F
    refine lv_iload_n hx hb dX6_crackCount_4 rfl (lv_at hl 2 rfl) ?_
    refine lv_bipush (v := 100) hx hb dX6_crackCount_5 (by decide) ?_
    refine lv_icmp_ge (tgt := 28) hx hb dX6_crackCount_7 (by decide) (fun c_1 => ?_) (fun c_1 => ?_)
    · skip
      have c_1n : 100 ≤ i := (nI_leI (by omega) (by omega)).mp c_1
      have c_1 := Int32.not_lt.mpr c_1
      exact kx_28   H locs (hP.sub [0, 1] rfl) (hD.sub [0, 1] (by decide) rfl) hS ls (lv_sub hl [1] rfl)
    · skip
      have c_1n : i < 100 := nb_le (by omega) (by omega) c_1
      have c_1 := Int32.not_le.mp c_1
      refine lv_aload_n hx hb dX6_crackCount_10 rfl (lv_at hl 0 rfl) ?_
      refine va_get (D := D) (ci := 5) (v := .ref q5) (C := RX6) (T := TX6) (N := 8) hx hb hts inG_X6 hown hK hP 0 rfl rfl 6 (by decide) (hts _ kw_1_157) (fun _ h9 => h9) rfl dX6_crackCount_11 ?_
      refine lv_iload_n hx hb dX6_crackCount_14 rfl (lv_at hl 2 rfl) ?_
      refine m_zald hx hb hK hP 1 0 rfl rfl i rfl (by omega) (by decide) dX6_crackCount_15 ?_
      refine lv_if_eq (tgt := 22) hx hb dX6_crackCount_16 (by decide) (fun c_2 => ?_) (fun c_2 => absurd c_2 (by decide))
      refine lv_iinc (v := nI (i + 1)) (lv' := [(2, .int (nI (i + 1))), (0, .ref h0), (1, .int 0)]) hx hb dX6_crackCount_22 hl (k := 2) rfl (nI_add i 1) (by decide) rfl (fun ls hl => ?_)
      refine lv_goto (tgt := 4) hx hb dX6_crackCount_25 (by decide) ?_
      exact ih (i + 1) (by omega) (by omega) H locs (hP.sub [0, 1] rfl) (hD.sub [0, 1] (by decide) rfl) hS ls (lv_sub hl [1, 2, 0] rfl)
theorem dX6_crackCount_0 : decode cX6_crackCount 0 = .ok (.iconst 0, 1) := by decide +kernel
theorem dX6_crackCount_1 : decode cX6_crackCount 1 = .ok (.istore_n 1, 1) := by decide +kernel
theorem dX6_crackCount_2 : decode cX6_crackCount 2 = .ok (.iconst 0, 1) := by decide +kernel
theorem dX6_crackCount_3 : decode cX6_crackCount 3 = .ok (.istore_n 2, 1) := by decide +kernel
theorem dX6_crackCount_28 : decode cX6_crackCount 28 = .ok (.iload_n 1, 1) := by decide +kernel
theorem dX6_crackCount_29 : decode cX6_crackCount 29 = .ok (.ireturn, 1) := by decide +kernel
set_option maxHeartbeats 4000000 in
set_option maxRecDepth 100000 in
theorem c_crackCount0 (l : Launch) (D : va_G) (h0 : Nat) (q1 : Nat) (q2 : Nat) (q3 : Nat) (q4 : Nat) (q5 : Nat) (q6 : Nat) (cy5 : ClassId) (w0 : Int32) (h9 : Int32) : cI l yX6_crackCount (.code yX6_crackCount cX6_crackCount 3 (some .int)) ({ frames := 0, cells := 0, slots := 0, locals := 0 }) D [(cy5, .boolean)] [(h0, .inr (5, [.int w0, .int h9, .ref q1, .ref q2, .ref q3, .ref q4, .ref q5, .ref q6])), (q5, .inl (cy5, 100, .inl (fun _ => 0)))] xT [.ref h0] (S := Unit) (fun r _ => r = 0) (fun _ => []) (fun _ => [(h0, .inr (5, [.int w0, .int h9, .ref q1, .ref q2, .ref q3, .ref q4, .ref q5, .ref q6])), (q5, .inl (cy5, 100, .inl (fun _ => 0)))]) := by
  intro sz
  refine Met.ofW (cc := cX6_crackCount) (maxL := 3) (ret := (some .int)) (by decide) rfl ?_
  intro p e s m args below meth c s₁ B hml hv
  obtain ⟨rfl, hsz, hP, hK, hD0, hX⟩ := hv
  have hx := B.exec
  have hb := B.bytes
  have hr := B.returns
  have hts0 := atoms_spec (ws := .code yX6_crackCount cX6_crackCount 3 (some .int) :: gw) B.pre
  have hts := fun (w : Cond) (h : w ∈ gw) => hts0 w (List.mem_cons_of_mem _ h)
  have hown : s.vm.findClass RX6 = some m.cls := findClass_of_methodNamed B.named
  have hlocks := B.notSynchronized
  have F : mFix p s m _ c cX6_crackCount 3 RX6 := ⟨hx, hb, hml, hown, hts⟩
  subst hsz
  have hD := hD0.self (sz := s.heap.size)
  generalize hAe : va_A [(h0, .inr (5, [.int w0, .int h9, .ref q1, .ref q2, .ref q3, .ref q4, .ref q5, .ref q6])), (q5, .inl (cy5, 100, .inl (fun _ => 0)))] s.heap.size = A at hD hX ⊢
  have hA : ∀ q : Nat, s.heap.size ≤ q → A q := fun q h => by rw [← hAe]; exact Or.inr h
  have hS : va_S A s.heap s.heap [] := va_S.rf
  have hl := lv_entry ([.ref h0]) (n := 3) (Nat.le_of_ble_eq_true rfl)
  rw [lg_entry_eq]
  generalize (lg_sl ([.ref h0]) ++ List.replicate (3 - (lg_sl ([.ref h0])).length) Slot.unset).toArray = ls at hl ⊢
  have hl : lv_has ls 3 [(0, .ref h0)] := hl
  have hP : va_P D vwCl [(h0, .inr (5, [.int w0, .int h9, .ref q1, .ref q2, .ref q3, .ref q4, .ref q5, .ref q6])), (q5, .inl (cy5, 100, .inl (fun _ => 0)))] s.heap := hP
  refine lv_iconst (v := 0) hx hb dX6_crackCount_0 (by decide) ?_
  refine lv_istore_n (lv' := [(1, .int 0), (0, .ref h0)]) hx hb dX6_crackCount_1 rfl hl (by decide) rfl (fun ls hl => ?_)
  refine lv_iconst (v := 0) hx hb dX6_crackCount_2 (by decide) ?_
  refine lv_istore_n (lv' := [(2, .int 0), (1, .int 0), (0, .ref h0)]) hx hb dX6_crackCount_3 rfl hl (by decide) rfl (fun ls hl => ?_)
  refine lp_crackCount0 F hA h0 q1 q2 q3 q4 q5 q6 cy5 w0 h9 (hK.sub [0] rfl) (fun   H locs hP hD hS ls hl => ?_) _ 0 (by omega) (Nat.lt_succ_self _) _ _ (hP.sub [0, 1] rfl) (hD.sub [0, 1] (by decide) rfl) hS ls (lv_sub hl [2, 1, 0] rfl)
  refine lv_iload_n hx hb dX6_crackCount_28 rfl (lv_at hl 0 rfl) ?_
  have hP9 := hP.sub (ws' := [(h0, .inr (5, [.int w0, .int h9, .ref q1, .ref q2, .ref q3, .ref q4, .ref q5, .ref q6])), (q5, .inl (cy5, 100, .inl (fun _ => 0)))]) [0, 1] rfl
  have hD9 := hD.sub (ws' := [(h0, .inr (5, [.int w0, .int h9, .ref q1, .ref q2, .ref q3, .ref q4, .ref q5, .ref q6])), (q5, .inl (cy5, 100, .inl (fun _ => 0)))]) [0, 1] (by decide) rfl
  have hK9 := hK.sub (tys' := []) [] rfl
  refine W.widen (k := 0) (n := 0) (by decide) (by decide) ?_
  exact W.iret (v := 0) hx hb hr (fun t ht hW => ⟨⟨0, (), rfl, rfl, by rw [ht]; exact hP9, va_K.moved hW.alike hK9, hD9⟩, hS.F ht⟩) hS.2.2 dX6_crackCount_29
theorem dX9_count_0 : decode cX9_count 0 = .ok (.iload_n 1, 1) := by decide +kernel
theorem dX9_count_1 : decode cX9_count 1 = .ok (.tableswitch 131 0 8 #[51, 59, 68, 77, 88, 96, 104, 112, 123], 51) := by decide +kernel
theorem dX9_count_52 : decode cX9_count 52 = .ok (.aload_n 0, 1) := by decide +kernel
theorem dX9_count_53 : decode cX9_count 53 = .ok (.getfield 33, 3) := by decide +kernel
theorem kw_1_229 : Cond.fieldLink RX9 199 "IceFair$Fair" "boothCount" "I" ∈ gw := gw_t1 (List.mem_of_getElem? (i := 229) (by decide +kernel)) (by decide +kernel)
theorem dX9_count_56 : decode cX9_count 56 = .ok (.getfield 199, 3) := by decide +kernel
theorem dX9_count_59 : decode cX9_count 59 = .ok (.ireturn, 1) := by decide +kernel
theorem dX9_count_60 : decode cX9_count 60 = .ok (.aload_n 0, 1) := by decide +kernel
theorem dX9_count_61 : decode cX9_count 61 = .ok (.getfield 33, 3) := by decide +kernel
theorem dX9_count_64 : decode cX9_count 64 = .ok (.iconst 1, 1) := by decide +kernel
theorem kw_4_64 : Cond.methodLink RX9 202 yX3_boothsInState ∈ gw := gw_t4 (List.mem_of_getElem? (i := 64) (by decide +kernel)) (by decide +kernel)
theorem kw_4_65 : Cond.instanceMethod yX3_boothsInState ∈ gw := gw_t4 (List.mem_of_getElem? (i := 65) (by decide +kernel)) (by decide +kernel)
theorem kw_4_66 : Cond.selects RX3 yX3_boothsInState yX3_boothsInState ∈ gw := gw_t4 (List.mem_of_getElem? (i := 66) (by decide +kernel)) (by decide +kernel)
theorem kw_4_67 : Cond.code yX3_boothsInState cX3_boothsInState 4 (some .int) ∈ gw := gw_t4 (List.mem_of_getElem? (i := 67) (by decide +kernel)) (by decide +kernel)
theorem gk_X9_202 : GoodIn gw (wsV RX9 202 RX3 yX3_boothsInState (.code yX3_boothsInState cX3_boothsInState 4 (some .int) :: gw)) ∧ (yX3_boothsInState.cls = RX3 ∧ yX3_boothsInState.cls ≠ "java/lang/invoke/MethodHandle" ∧ yX3_boothsInState.cls ≠ "java/lang/invoke/VarHandle" ∧ (parseMethodDescriptor yX3_boothsInState.desc).map (fun d => d.parameters.length) = some 1) := ⟨gi_V kw_4_64 kw_4_65 kw_4_66 kw_1_6 kw_4_67, by decide +kernel⟩
theorem dX9_count_65 : decode cX9_count 65 = .ok (.invokevirtual 202, 3) := by decide +kernel
theorem dX9_count_68 : decode cX9_count 68 = .ok (.ireturn, 1) := by decide +kernel
theorem dX9_count_69 : decode cX9_count 69 = .ok (.aload_n 0, 1) := by decide +kernel
theorem dX9_count_70 : decode cX9_count 70 = .ok (.getfield 33, 3) := by decide +kernel
theorem dX9_count_73 : decode cX9_count 73 = .ok (.iconst 2, 1) := by decide +kernel
theorem dX9_count_74 : decode cX9_count 74 = .ok (.invokevirtual 202, 3) := by decide +kernel
theorem dX9_count_77 : decode cX9_count 77 = .ok (.ireturn, 1) := by decide +kernel
theorem dX9_count_78 : decode cX9_count 78 = .ok (.aload_n 0, 1) := by decide +kernel
theorem dX9_count_79 : decode cX9_count 79 = .ok (.getfield 33, 3) := by decide +kernel
theorem dX9_count_82 : decode cX9_count 82 = .ok (.getfield 84, 3) := by decide +kernel
theorem kw_4_68 : Cond.methodLink RX9 205 yX6_crackCount ∈ gw := gw_t4 (List.mem_of_getElem? (i := 68) (by decide +kernel)) (by decide +kernel)
theorem kw_4_69 : Cond.instanceMethod yX6_crackCount ∈ gw := gw_t4 (List.mem_of_getElem? (i := 69) (by decide +kernel)) (by decide +kernel)
theorem kw_4_70 : Cond.selects RX6 yX6_crackCount yX6_crackCount ∈ gw := gw_t4 (List.mem_of_getElem? (i := 70) (by decide +kernel)) (by decide +kernel)
theorem kw_4_71 : Cond.code yX6_crackCount cX6_crackCount 3 (some .int) ∈ gw := gw_t4 (List.mem_of_getElem? (i := 71) (by decide +kernel)) (by decide +kernel)
theorem gk_X9_205 : GoodIn gw (wsV RX9 205 RX6 yX6_crackCount (.code yX6_crackCount cX6_crackCount 3 (some .int) :: gw)) ∧ (yX6_crackCount.cls = RX6 ∧ yX6_crackCount.cls ≠ "java/lang/invoke/MethodHandle" ∧ yX6_crackCount.cls ≠ "java/lang/invoke/VarHandle" ∧ (parseMethodDescriptor yX6_crackCount.desc).map (fun d => d.parameters.length) = some 0) := ⟨gi_V kw_4_68 kw_4_69 kw_4_70 kw_1_7 kw_4_71, by decide +kernel⟩
theorem dX9_count_85 : decode cX9_count 85 = .ok (.invokevirtual 205, 3) := by decide +kernel
theorem dX9_count_88 : decode cX9_count 88 = .ok (.ireturn, 1) := by decide +kernel
theorem dX9_count_89 : decode cX9_count 89 = .ok (.aload_n 0, 1) := by decide +kernel
theorem dX9_count_90 : decode cX9_count 90 = .ok (.getfield 33, 3) := by decide +kernel
theorem kw_1_231 : Cond.fieldLink RX9 208 "IceFair$Fair" "hours" "I" ∈ gw := gw_t1 (List.mem_of_getElem? (i := 231) (by decide +kernel)) (by decide +kernel)
theorem dX9_count_93 : decode cX9_count 93 = .ok (.getfield 208, 3) := by decide +kernel
theorem dX9_count_96 : decode cX9_count 96 = .ok (.ireturn, 1) := by decide +kernel
theorem dX9_count_97 : decode cX9_count 97 = .ok (.aload_n 0, 1) := by decide +kernel
theorem dX9_count_98 : decode cX9_count 98 = .ok (.getfield 33, 3) := by decide +kernel
theorem kw_1_233 : Cond.fieldLink RX9 211 "IceFair$Fair" "fees" "I" ∈ gw := gw_t1 (List.mem_of_getElem? (i := 233) (by decide +kernel)) (by decide +kernel)
theorem dX9_count_101 : decode cX9_count 101 = .ok (.getfield 211, 3) := by decide +kernel
theorem dX9_count_104 : decode cX9_count 104 = .ok (.ireturn, 1) := by decide +kernel
theorem dX9_count_105 : decode cX9_count 105 = .ok (.aload_n 0, 1) := by decide +kernel
theorem dX9_count_106 : decode cX9_count 106 = .ok (.getfield 40, 3) := by decide +kernel
theorem kw_2_14 : Cond.fieldLink RX9 214 "IceFair$Laying" "looks" "I" ∈ gw := gw_t2 (List.mem_of_getElem? (i := 14) (by decide +kernel)) (by decide +kernel)
theorem dX9_count_109 : decode cX9_count 109 = .ok (.getfield 214, 3) := by decide +kernel
theorem dX9_count_112 : decode cX9_count 112 = .ok (.ireturn, 1) := by decide +kernel
theorem dX9_count_113 : decode cX9_count 113 = .ok (.aload_n 0, 1) := by decide +kernel
theorem dX9_count_114 : decode cX9_count 114 = .ok (.getfield 33, 3) := by decide +kernel
theorem dX9_count_117 : decode cX9_count 117 = .ok (.getfield 67, 3) := by decide +kernel
theorem kw_1_109 : Cond.fieldLink RX9 217 "IceFair$Customs" "stairCount" "I" ∈ gw := gw_t1 (List.mem_of_getElem? (i := 109) (by decide +kernel)) (by decide +kernel)
theorem dX9_count_120 : decode cX9_count 120 = .ok (.getfield 217, 3) := by decide +kernel
theorem dX9_count_123 : decode cX9_count 123 = .ok (.ireturn, 1) := by decide +kernel
theorem dX9_count_124 : decode cX9_count 124 = .ok (.aload_n 0, 1) := by decide +kernel
theorem dX9_count_125 : decode cX9_count 125 = .ok (.getfield 33, 3) := by decide +kernel
theorem kw_4_72 : Cond.methodLink RX9 220 yX3_boothsToMove ∈ gw := gw_t4 (List.mem_of_getElem? (i := 72) (by decide +kernel)) (by decide +kernel)
theorem kw_4_73 : Cond.instanceMethod yX3_boothsToMove ∈ gw := gw_t4 (List.mem_of_getElem? (i := 73) (by decide +kernel)) (by decide +kernel)
theorem kw_4_74 : Cond.selects RX3 yX3_boothsToMove yX3_boothsToMove ∈ gw := gw_t4 (List.mem_of_getElem? (i := 74) (by decide +kernel)) (by decide +kernel)
theorem kw_4_75 : Cond.code yX3_boothsToMove cX3_boothsToMove 3 (some .int) ∈ gw := gw_t4 (List.mem_of_getElem? (i := 75) (by decide +kernel)) (by decide +kernel)
theorem gk_X9_220 : GoodIn gw (wsV RX9 220 RX3 yX3_boothsToMove (.code yX3_boothsToMove cX3_boothsToMove 3 (some .int) :: gw)) ∧ (yX3_boothsToMove.cls = RX3 ∧ yX3_boothsToMove.cls ≠ "java/lang/invoke/MethodHandle" ∧ yX3_boothsToMove.cls ≠ "java/lang/invoke/VarHandle" ∧ (parseMethodDescriptor yX3_boothsToMove.desc).map (fun d => d.parameters.length) = some 0) := ⟨gi_V kw_4_72 kw_4_73 kw_4_74 kw_1_6 kw_4_75, by decide +kernel⟩
theorem dX9_count_128 : decode cX9_count 128 = .ok (.invokevirtual 220, 3) := by decide +kernel
theorem dX9_count_131 : decode cX9_count 131 = .ok (.ireturn, 1) := by decide +kernel
theorem dX9_count_132 : decode cX9_count 132 = .ok (.iconst (-1), 1) := by decide +kernel
theorem dX9_count_133 : decode cX9_count 133 = .ok (.ireturn, 1) := by decide +kernel
set_option maxHeartbeats 4000000 in
set_option maxRecDepth 100000 in
theorem c_count (l : Launch) (D : va_G) (h0 : Nat) (tp : Nat) (rd : Nat) (dr : Nat) (fa : Nat) (ly : Nat) (wy : Nat) (cu : Nat) (rv : Nat) (bt : Nat) (cu1 : Nat) (cu2 : Nat) (cu3 : Nat) (cu4 : Nat) (rv1 : Nat) (rv2 : Nat) (rv3 : Nat) (rv4 : Nat) (rv5 : Nat) (rv6 : Nat) (ly1 : Nat) (ly2 : Nat) (ly3 : Nat) (ly4 : Nat) (ly5 : Nat) (rc5 : ClassId) (w : Int32) : cI l yX9_count (.code yX9_count cX9_count 2 (some .int)) ({ frames := 4, cells := 0, slots := 0, locals := 90 }) D [(rc5, .boolean)] [(h0, .inr (8, [.ref tp, .ref rd, .ref dr, .ref fa, .ref ly, .ref wy])), (fa, .inr (3, [.ref cu, .ref rv, .ref bt, .int 0, .int 0, .int 0])), (cu, .inr (1, [.ref cu1, .ref cu2, .ref cu3, .ref cu4, .int 0, .int 0])), (rv, .inr (5, [.int 5, .int 5, .ref rv1, .ref rv2, .ref rv3, .ref rv4, .ref rv5, .ref rv6])), (rv5, .inl (rc5, 100, .inl (fun _ => 0))), (ly, .inr (4, [.int 0, .ref ly1, .int 0, .ref ly2, .ref ly3, .ref ly4, .int 0, .ref ly5, .int 0]))] xT [.ref h0, .int w] (S := Unit) (fun r _ => r = (if w < 0 ∨ 8 < w then (-1) else 0)) (fun _ => []) (fun _ => []) := by
  intro sz
  refine Met.ofW (cc := cX9_count) (maxL := 2) (ret := (some .int)) (by decide) rfl ?_
  intro p e s m args below meth c s₁ B hml hv
  obtain ⟨rfl, hsz, hP, hK, hD0, hX⟩ := hv
  have hx := B.exec
  have hb := B.bytes
  have hr := B.returns
  have hts0 := atoms_spec (ws := .code yX9_count cX9_count 2 (some .int) :: gw) B.pre
  have hts := fun (w : Cond) (h : w ∈ gw) => hts0 w (List.mem_cons_of_mem _ h)
  have hown : s.vm.findClass RX9 = some m.cls := findClass_of_methodNamed B.named
  have hlocks := B.notSynchronized
  have F : mFix p s m _ c cX9_count 2 RX9 := ⟨hx, hb, hml, hown, hts⟩
  subst hsz
  have hD := hD0.self (sz := s.heap.size)
  generalize hAe : va_A [(h0, .inr (8, [.ref tp, .ref rd, .ref dr, .ref fa, .ref ly, .ref wy])), (fa, .inr (3, [.ref cu, .ref rv, .ref bt, .int 0, .int 0, .int 0])), (cu, .inr (1, [.ref cu1, .ref cu2, .ref cu3, .ref cu4, .int 0, .int 0])), (rv, .inr (5, [.int 5, .int 5, .ref rv1, .ref rv2, .ref rv3, .ref rv4, .ref rv5, .ref rv6])), (rv5, .inl (rc5, 100, .inl (fun _ => 0))), (ly, .inr (4, [.int 0, .ref ly1, .int 0, .ref ly2, .ref ly3, .ref ly4, .int 0, .ref ly5, .int 0]))] s.heap.size = A at hD hX ⊢
  have hA : ∀ q : Nat, s.heap.size ≤ q → A q := fun q h => by rw [← hAe]; exact Or.inr h
  have hS : va_S A s.heap s.heap [] := va_S.rf
  have hl := lv_entry ([.ref h0, .int w]) (n := 2) (Nat.le_of_ble_eq_true rfl)
  rw [lg_entry_eq]
  generalize (lg_sl ([.ref h0, .int w]) ++ List.replicate (2 - (lg_sl ([.ref h0, .int w])).length) Slot.unset).toArray = ls at hl ⊢
  have hl : lv_has ls 2 [(0, .ref h0), (1, .int w)] := hl
  have hP : va_P D vwCl [(h0, .inr (8, [.ref tp, .ref rd, .ref dr, .ref fa, .ref ly, .ref wy])), (fa, .inr (3, [.ref cu, .ref rv, .ref bt, .int 0, .int 0, .int 0])), (cu, .inr (1, [.ref cu1, .ref cu2, .ref cu3, .ref cu4, .int 0, .int 0])), (rv, .inr (5, [.int 5, .int 5, .ref rv1, .ref rv2, .ref rv3, .ref rv4, .ref rv5, .ref rv6])), (rv5, .inl (rc5, 100, .inl (fun _ => 0))), (ly, .inr (4, [.int 0, .ref ly1, .int 0, .ref ly2, .ref ly3, .ref ly4, .int 0, .ref ly5, .int 0]))] s.heap := hP
  refine lv_iload_n hx hb dX9_count_0 rfl (lv_at hl 1 rfl) ?_
  by_cases w_1_0 : w = 0
  · skip
    subst w_1_0
    refine lv_tableIn (tgt := 52) hx hb dX9_count_1 (by decide) (by decide) rfl (by decide) ?_
    have hl : lv_has ls 2 [(0, .ref h0), (1, .int 0)] := hl
    refine lv_aload_n hx hb dX9_count_52 rfl (lv_at hl 0 rfl) ?_
    refine va_get (D := D) (ci := 8) (v := .ref fa) (C := RX9) (T := TX9) (N := 6) hx hb hts inG_X9 hown hK hP 0 rfl rfl 3 (by decide) (hts _ kw_2_70) (fun _ h9 => h9) rfl dX9_count_53 ?_
    refine va_get (D := D) (ci := 3) (v := .int 0) (C := RX3) (T := TX3) (N := 6) hx hb hts inG_X3 hown hK hP 1 rfl rfl 3 (by decide) (hts _ kw_1_229) (fun _ h9 => h9) rfl dX9_count_56 ?_
    have hP9 := hP.sub (ws' := []) [] rfl
    have hD9 := hD.sub (ws' := []) [] (by decide) rfl
    have hK9 := hK.sub (tys' := []) [] rfl
    refine W.widen (k := 0) (n := 0) (by decide) (by decide) ?_
    exact W.iret (v := 0) hx hb hr (fun t ht hW => ⟨⟨0, (), rfl, by decide, by rw [ht]; exact hP9, va_K.moved hW.alike hK9, hD9⟩, hS.F ht⟩) hS.2.2 dX9_count_59
  by_cases w_1_1 : w = 1
  · skip
    subst w_1_1
    refine lv_tableIn (tgt := 60) hx hb dX9_count_1 (by decide) (by decide) rfl (by decide) ?_
    have hl : lv_has ls 2 [(0, .ref h0), (1, .int 1)] := hl
    refine lv_aload_n hx hb dX9_count_60 rfl (lv_at hl 0 rfl) ?_
    refine va_get (D := D) (ci := 8) (v := .ref fa) (C := RX9) (T := TX9) (N := 6) hx hb hts inG_X9 hown hK hP 0 rfl rfl 3 (by decide) (hts _ kw_2_70) (fun _ h9 => h9) rfl dX9_count_61 ?_
    refine lv_iconst (v := 1) hx hb dX9_count_64 (by decide) ?_
    refine mc_Vi (rest := []) (wr := [(h0, .inr (8, [.ref tp, .ref rd, .ref dr, .ref fa, .ref ly, .ref wy])), (cu, .inr (1, [.ref cu1, .ref cu2, .ref cu3, .ref cu4, .int 0, .int 0])), (rv, .inr (5, [.int 5, .int 5, .ref rv1, .ref rv2, .ref rv3, .ref rv4, .ref rv5, .ref rv6])), (rv5, .inl (rc5, 100, .inl (fun _ => 0))), (ly, .inr (4, [.int 0, .ref ly1, .int 0, .ref ly2, .ref ly3, .ref ly4, .int 0, .ref ly5, .int 0]))]) F hK hP hD hS hA (c_inState0 l D fa cu rv bt 0 0 1 ) ⟨gk_X9_202.1, gk_X9_202.2, Nat.le_of_ble_eq_true rfl, Nat.le_of_ble_eq_true rfl⟩ [1] [0, 2, 3, 4, 5] [] ⟨rfl, rfl, rfl, rfl, by decide⟩ rfl xT_move (fun _ _ _ => trivial) 1 rfl rfl rfl hl.1 rfl (Nat.le_of_ble_eq_true rfl) dX9_count_65 ⟨Nat.le_of_ble_eq_true rfl, Nat.le_of_ble_eq_true rfl⟩ (fun r_2 _ H locs hw hK1 hP hD hS => ?_)
    have hP : va_P D vwCl [(h0, .inr (8, [.ref tp, .ref rd, .ref dr, .ref fa, .ref ly, .ref wy])), (cu, .inr (1, [.ref cu1, .ref cu2, .ref cu3, .ref cu4, .int 0, .int 0])), (rv, .inr (5, [.int 5, .int 5, .ref rv1, .ref rv2, .ref rv3, .ref rv4, .ref rv5, .ref rv6])), (rv5, .inl (rc5, 100, .inl (fun _ => 0))), (ly, .inr (4, [.int 0, .ref ly1, .int 0, .ref ly2, .ref ly3, .ref ly4, .int 0, .ref ly5, .int 0])), (fa, .inr (3, [.ref cu, .ref rv, .ref bt, .int 0, .int 0, .int 0]))] H := hP
    have hD : va_D A [(h0, .inr (8, [.ref tp, .ref rd, .ref dr, .ref fa, .ref ly, .ref wy])), (cu, .inr (1, [.ref cu1, .ref cu2, .ref cu3, .ref cu4, .int 0, .int 0])), (rv, .inr (5, [.int 5, .int 5, .ref rv1, .ref rv2, .ref rv3, .ref rv4, .ref rv5, .ref rv6])), (rv5, .inl (rc5, 100, .inl (fun _ => 0))), (ly, .inr (4, [.int 0, .ref ly1, .int 0, .ref ly2, .ref ly3, .ref ly4, .int 0, .ref ly5, .int 0])), (fa, .inr (3, [.ref cu, .ref rv, .ref bt, .int 0, .int 0, .int 0]))] := hD
    have hw_3 : r_2 = 0 := hw
    obtain rfl : r_2 = 0 := hw_3
    have hP9 := hP.sub (ws' := []) [] rfl
    have hD9 := hD.sub (ws' := []) [] (by decide) rfl
    have hK9 := hK.sub (tys' := []) [] rfl
    refine W.widen (k := 0) (n := 0) (by decide) (by decide) ?_
    exact W.iret (v := 0) hx hb hr (fun t ht hW => ⟨⟨0, (), rfl, by decide, by rw [ht]; exact hP9, va_K.moved hW.alike hK9, hD9⟩, hS.F ht⟩) hS.2.2 dX9_count_68
  by_cases w_1_2 : w = 2
  · skip
    subst w_1_2
    refine lv_tableIn (tgt := 69) hx hb dX9_count_1 (by decide) (by decide) rfl (by decide) ?_
    have hl : lv_has ls 2 [(0, .ref h0), (1, .int 2)] := hl
    refine lv_aload_n hx hb dX9_count_69 rfl (lv_at hl 0 rfl) ?_
    refine va_get (D := D) (ci := 8) (v := .ref fa) (C := RX9) (T := TX9) (N := 6) hx hb hts inG_X9 hown hK hP 0 rfl rfl 3 (by decide) (hts _ kw_2_70) (fun _ h9 => h9) rfl dX9_count_70 ?_
    refine lv_iconst (v := 2) hx hb dX9_count_73 (by decide) ?_
    refine mc_Vi (rest := []) (wr := [(h0, .inr (8, [.ref tp, .ref rd, .ref dr, .ref fa, .ref ly, .ref wy])), (cu, .inr (1, [.ref cu1, .ref cu2, .ref cu3, .ref cu4, .int 0, .int 0])), (rv, .inr (5, [.int 5, .int 5, .ref rv1, .ref rv2, .ref rv3, .ref rv4, .ref rv5, .ref rv6])), (rv5, .inl (rc5, 100, .inl (fun _ => 0))), (ly, .inr (4, [.int 0, .ref ly1, .int 0, .ref ly2, .ref ly3, .ref ly4, .int 0, .ref ly5, .int 0]))]) F hK hP hD hS hA (c_inState0 l D fa cu rv bt 0 0 2 ) ⟨gk_X9_202.1, gk_X9_202.2, Nat.le_of_ble_eq_true rfl, Nat.le_of_ble_eq_true rfl⟩ [1] [0, 2, 3, 4, 5] [] ⟨rfl, rfl, rfl, rfl, by decide⟩ rfl xT_move (fun _ _ _ => trivial) 1 rfl rfl rfl hl.1 rfl (Nat.le_of_ble_eq_true rfl) dX9_count_74 ⟨Nat.le_of_ble_eq_true rfl, Nat.le_of_ble_eq_true rfl⟩ (fun r_4 _ H locs hw hK1 hP hD hS => ?_)
    have hP : va_P D vwCl [(h0, .inr (8, [.ref tp, .ref rd, .ref dr, .ref fa, .ref ly, .ref wy])), (cu, .inr (1, [.ref cu1, .ref cu2, .ref cu3, .ref cu4, .int 0, .int 0])), (rv, .inr (5, [.int 5, .int 5, .ref rv1, .ref rv2, .ref rv3, .ref rv4, .ref rv5, .ref rv6])), (rv5, .inl (rc5, 100, .inl (fun _ => 0))), (ly, .inr (4, [.int 0, .ref ly1, .int 0, .ref ly2, .ref ly3, .ref ly4, .int 0, .ref ly5, .int 0])), (fa, .inr (3, [.ref cu, .ref rv, .ref bt, .int 0, .int 0, .int 0]))] H := hP
    have hD : va_D A [(h0, .inr (8, [.ref tp, .ref rd, .ref dr, .ref fa, .ref ly, .ref wy])), (cu, .inr (1, [.ref cu1, .ref cu2, .ref cu3, .ref cu4, .int 0, .int 0])), (rv, .inr (5, [.int 5, .int 5, .ref rv1, .ref rv2, .ref rv3, .ref rv4, .ref rv5, .ref rv6])), (rv5, .inl (rc5, 100, .inl (fun _ => 0))), (ly, .inr (4, [.int 0, .ref ly1, .int 0, .ref ly2, .ref ly3, .ref ly4, .int 0, .ref ly5, .int 0])), (fa, .inr (3, [.ref cu, .ref rv, .ref bt, .int 0, .int 0, .int 0]))] := hD
    have hw_5 : r_4 = 0 := hw
    obtain rfl : r_4 = 0 := hw_5
    have hP9 := hP.sub (ws' := []) [] rfl
    have hD9 := hD.sub (ws' := []) [] (by decide) rfl
    have hK9 := hK.sub (tys' := []) [] rfl
    refine W.widen (k := 0) (n := 0) (by decide) (by decide) ?_
    exact W.iret (v := 0) hx hb hr (fun t ht hW => ⟨⟨0, (), rfl, by decide, by rw [ht]; exact hP9, va_K.moved hW.alike hK9, hD9⟩, hS.F ht⟩) hS.2.2 dX9_count_77
  by_cases w_1_3 : w = 3
  · skip
    subst w_1_3
    refine lv_tableIn (tgt := 78) hx hb dX9_count_1 (by decide) (by decide) rfl (by decide) ?_
    have hl : lv_has ls 2 [(0, .ref h0), (1, .int 3)] := hl
    refine lv_aload_n hx hb dX9_count_78 rfl (lv_at hl 0 rfl) ?_
    refine va_get (D := D) (ci := 8) (v := .ref fa) (C := RX9) (T := TX9) (N := 6) hx hb hts inG_X9 hown hK hP 0 rfl rfl 3 (by decide) (hts _ kw_2_70) (fun _ h9 => h9) rfl dX9_count_79 ?_
    refine va_get (D := D) (ci := 3) (v := .ref rv) (C := RX3) (T := TX3) (N := 6) hx hb hts inG_X3 hown hK hP 1 rfl rfl 1 (by decide) (hts _ kw_1_222) (fun _ h9 => h9) rfl dX9_count_82 ?_
    refine mc_Vi (rest := []) (wr := [(h0, .inr (8, [.ref tp, .ref rd, .ref dr, .ref fa, .ref ly, .ref wy])), (fa, .inr (3, [.ref cu, .ref rv, .ref bt, .int 0, .int 0, .int 0])), (cu, .inr (1, [.ref cu1, .ref cu2, .ref cu3, .ref cu4, .int 0, .int 0])), (ly, .inr (4, [.int 0, .ref ly1, .int 0, .ref ly2, .ref ly3, .ref ly4, .int 0, .ref ly5, .int 0]))]) F hK hP hD hS hA (c_crackCount0 l D rv rv1 rv2 rv3 rv4 rv5 rv6 rc5 5 5 ) ⟨gk_X9_205.1, gk_X9_205.2, Nat.le_of_ble_eq_true rfl, Nat.le_of_ble_eq_true rfl⟩ [3, 4] [0, 1, 2, 5] [0] ⟨rfl, rfl, rfl, rfl, by decide⟩ rfl xT_move (fun _ _ _ => trivial) 3 rfl rfl rfl hl.1 rfl (Nat.le_of_ble_eq_true rfl) dX9_count_85 ⟨Nat.le_of_ble_eq_true rfl, Nat.le_of_ble_eq_true rfl⟩ (fun r_6 _ H locs hw hK1 hP hD hS => ?_)
    have hP : va_P D vwCl [(h0, .inr (8, [.ref tp, .ref rd, .ref dr, .ref fa, .ref ly, .ref wy])), (fa, .inr (3, [.ref cu, .ref rv, .ref bt, .int 0, .int 0, .int 0])), (cu, .inr (1, [.ref cu1, .ref cu2, .ref cu3, .ref cu4, .int 0, .int 0])), (ly, .inr (4, [.int 0, .ref ly1, .int 0, .ref ly2, .ref ly3, .ref ly4, .int 0, .ref ly5, .int 0])), (rv, .inr (5, [.int 5, .int 5, .ref rv1, .ref rv2, .ref rv3, .ref rv4, .ref rv5, .ref rv6])), (rv5, .inl (rc5, 100, .inl (fun _ => 0)))] H := hP
    have hD : va_D A [(h0, .inr (8, [.ref tp, .ref rd, .ref dr, .ref fa, .ref ly, .ref wy])), (fa, .inr (3, [.ref cu, .ref rv, .ref bt, .int 0, .int 0, .int 0])), (cu, .inr (1, [.ref cu1, .ref cu2, .ref cu3, .ref cu4, .int 0, .int 0])), (ly, .inr (4, [.int 0, .ref ly1, .int 0, .ref ly2, .ref ly3, .ref ly4, .int 0, .ref ly5, .int 0])), (rv, .inr (5, [.int 5, .int 5, .ref rv1, .ref rv2, .ref rv3, .ref rv4, .ref rv5, .ref rv6])), (rv5, .inl (rc5, 100, .inl (fun _ => 0)))] := hD
    have hw_7 : r_6 = 0 := hw
    obtain rfl : r_6 = 0 := hw_7
    have hP9 := hP.sub (ws' := []) [] rfl
    have hD9 := hD.sub (ws' := []) [] (by decide) rfl
    have hK9 := hK.sub (tys' := []) [] rfl
    refine W.widen (k := 0) (n := 0) (by decide) (by decide) ?_
    exact W.iret (v := 0) hx hb hr (fun t ht hW => ⟨⟨0, (), rfl, by decide, by rw [ht]; exact hP9, va_K.moved hW.alike hK9, hD9⟩, hS.F ht⟩) hS.2.2 dX9_count_88
  by_cases w_1_4 : w = 4
  · skip
    subst w_1_4
    refine lv_tableIn (tgt := 89) hx hb dX9_count_1 (by decide) (by decide) rfl (by decide) ?_
    have hl : lv_has ls 2 [(0, .ref h0), (1, .int 4)] := hl
    refine lv_aload_n hx hb dX9_count_89 rfl (lv_at hl 0 rfl) ?_
    refine va_get (D := D) (ci := 8) (v := .ref fa) (C := RX9) (T := TX9) (N := 6) hx hb hts inG_X9 hown hK hP 0 rfl rfl 3 (by decide) (hts _ kw_2_70) (fun _ h9 => h9) rfl dX9_count_90 ?_
    refine va_get (D := D) (ci := 3) (v := .int 0) (C := RX3) (T := TX3) (N := 6) hx hb hts inG_X3 hown hK hP 1 rfl rfl 4 (by decide) (hts _ kw_1_231) (fun _ h9 => h9) rfl dX9_count_93 ?_
    have hP9 := hP.sub (ws' := []) [] rfl
    have hD9 := hD.sub (ws' := []) [] (by decide) rfl
    have hK9 := hK.sub (tys' := []) [] rfl
    refine W.widen (k := 0) (n := 0) (by decide) (by decide) ?_
    exact W.iret (v := 0) hx hb hr (fun t ht hW => ⟨⟨0, (), rfl, by decide, by rw [ht]; exact hP9, va_K.moved hW.alike hK9, hD9⟩, hS.F ht⟩) hS.2.2 dX9_count_96
  by_cases w_1_5 : w = 5
  · skip
    subst w_1_5
    refine lv_tableIn (tgt := 97) hx hb dX9_count_1 (by decide) (by decide) rfl (by decide) ?_
    have hl : lv_has ls 2 [(0, .ref h0), (1, .int 5)] := hl
    refine lv_aload_n hx hb dX9_count_97 rfl (lv_at hl 0 rfl) ?_
    refine va_get (D := D) (ci := 8) (v := .ref fa) (C := RX9) (T := TX9) (N := 6) hx hb hts inG_X9 hown hK hP 0 rfl rfl 3 (by decide) (hts _ kw_2_70) (fun _ h9 => h9) rfl dX9_count_98 ?_
    refine va_get (D := D) (ci := 3) (v := .int 0) (C := RX3) (T := TX3) (N := 6) hx hb hts inG_X3 hown hK hP 1 rfl rfl 5 (by decide) (hts _ kw_1_233) (fun _ h9 => h9) rfl dX9_count_101 ?_
    have hP9 := hP.sub (ws' := []) [] rfl
    have hD9 := hD.sub (ws' := []) [] (by decide) rfl
    have hK9 := hK.sub (tys' := []) [] rfl
    refine W.widen (k := 0) (n := 0) (by decide) (by decide) ?_
    exact W.iret (v := 0) hx hb hr (fun t ht hW => ⟨⟨0, (), rfl, by decide, by rw [ht]; exact hP9, va_K.moved hW.alike hK9, hD9⟩, hS.F ht⟩) hS.2.2 dX9_count_104
  by_cases w_1_6 : w = 6
  · skip
    subst w_1_6
    refine lv_tableIn (tgt := 105) hx hb dX9_count_1 (by decide) (by decide) rfl (by decide) ?_
    have hl : lv_has ls 2 [(0, .ref h0), (1, .int 6)] := hl
    refine lv_aload_n hx hb dX9_count_105 rfl (lv_at hl 0 rfl) ?_
    refine va_get (D := D) (ci := 8) (v := .ref ly) (C := RX9) (T := TX9) (N := 6) hx hb hts inG_X9 hown hK hP 0 rfl rfl 4 (by decide) (hts _ kw_2_71) (fun _ h9 => h9) rfl dX9_count_106 ?_
    refine va_get (D := D) (ci := 4) (v := .int 0) (C := RX4) (T := TX4) (N := 9) hx hb hts inG_X4 hown hK hP 5 rfl rfl 0 (by decide) (hts _ kw_2_14) (fun _ h9 => h9) rfl dX9_count_109 ?_
    have hP9 := hP.sub (ws' := []) [] rfl
    have hD9 := hD.sub (ws' := []) [] (by decide) rfl
    have hK9 := hK.sub (tys' := []) [] rfl
    refine W.widen (k := 0) (n := 0) (by decide) (by decide) ?_
    exact W.iret (v := 0) hx hb hr (fun t ht hW => ⟨⟨0, (), rfl, by decide, by rw [ht]; exact hP9, va_K.moved hW.alike hK9, hD9⟩, hS.F ht⟩) hS.2.2 dX9_count_112
  by_cases w_1_7 : w = 7
  · skip
    subst w_1_7
    refine lv_tableIn (tgt := 113) hx hb dX9_count_1 (by decide) (by decide) rfl (by decide) ?_
    have hl : lv_has ls 2 [(0, .ref h0), (1, .int 7)] := hl
    refine lv_aload_n hx hb dX9_count_113 rfl (lv_at hl 0 rfl) ?_
    refine va_get (D := D) (ci := 8) (v := .ref fa) (C := RX9) (T := TX9) (N := 6) hx hb hts inG_X9 hown hK hP 0 rfl rfl 3 (by decide) (hts _ kw_2_70) (fun _ h9 => h9) rfl dX9_count_114 ?_
    refine va_get (D := D) (ci := 3) (v := .ref cu) (C := RX3) (T := TX3) (N := 6) hx hb hts inG_X3 hown hK hP 1 rfl rfl 0 (by decide) (hts _ kw_1_218) (fun _ h9 => h9) rfl dX9_count_117 ?_
    refine va_get (D := D) (ci := 1) (v := .int 0) (C := RX1) (T := TX1) (N := 6) hx hb hts inG_X1 hown hK hP 2 rfl rfl 4 (by decide) (hts _ kw_1_109) (fun _ h9 => h9) rfl dX9_count_120 ?_
    have hP9 := hP.sub (ws' := []) [] rfl
    have hD9 := hD.sub (ws' := []) [] (by decide) rfl
    have hK9 := hK.sub (tys' := []) [] rfl
    refine W.widen (k := 0) (n := 0) (by decide) (by decide) ?_
    exact W.iret (v := 0) hx hb hr (fun t ht hW => ⟨⟨0, (), rfl, by decide, by rw [ht]; exact hP9, va_K.moved hW.alike hK9, hD9⟩, hS.F ht⟩) hS.2.2 dX9_count_123
  by_cases w_1_8 : w = 8
  · skip
    subst w_1_8
    refine lv_tableIn (tgt := 124) hx hb dX9_count_1 (by decide) (by decide) rfl (by decide) ?_
    have hl : lv_has ls 2 [(0, .ref h0), (1, .int 8)] := hl
    refine lv_aload_n hx hb dX9_count_124 rfl (lv_at hl 0 rfl) ?_
    refine va_get (D := D) (ci := 8) (v := .ref fa) (C := RX9) (T := TX9) (N := 6) hx hb hts inG_X9 hown hK hP 0 rfl rfl 3 (by decide) (hts _ kw_2_70) (fun _ h9 => h9) rfl dX9_count_125 ?_
    refine mc_Vi (rest := []) (wr := [(h0, .inr (8, [.ref tp, .ref rd, .ref dr, .ref fa, .ref ly, .ref wy])), (cu, .inr (1, [.ref cu1, .ref cu2, .ref cu3, .ref cu4, .int 0, .int 0])), (rv, .inr (5, [.int 5, .int 5, .ref rv1, .ref rv2, .ref rv3, .ref rv4, .ref rv5, .ref rv6])), (rv5, .inl (rc5, 100, .inl (fun _ => 0))), (ly, .inr (4, [.int 0, .ref ly1, .int 0, .ref ly2, .ref ly3, .ref ly4, .int 0, .ref ly5, .int 0]))]) F hK hP hD hS hA (c_toMove0 l D fa cu rv bt 0 0 ) ⟨gk_X9_220.1, gk_X9_220.2, Nat.le_of_ble_eq_true rfl, Nat.le_of_ble_eq_true rfl⟩ [1] [0, 2, 3, 4, 5] [] ⟨rfl, rfl, rfl, rfl, by decide⟩ rfl xT_move (fun _ _ _ => trivial) 1 rfl rfl rfl hl.1 rfl (Nat.le_of_ble_eq_true rfl) dX9_count_128 ⟨Nat.le_of_ble_eq_true rfl, Nat.le_of_ble_eq_true rfl⟩ (fun r_8 _ H locs hw hK1 hP hD hS => ?_)
    have hP : va_P D vwCl [(h0, .inr (8, [.ref tp, .ref rd, .ref dr, .ref fa, .ref ly, .ref wy])), (cu, .inr (1, [.ref cu1, .ref cu2, .ref cu3, .ref cu4, .int 0, .int 0])), (rv, .inr (5, [.int 5, .int 5, .ref rv1, .ref rv2, .ref rv3, .ref rv4, .ref rv5, .ref rv6])), (rv5, .inl (rc5, 100, .inl (fun _ => 0))), (ly, .inr (4, [.int 0, .ref ly1, .int 0, .ref ly2, .ref ly3, .ref ly4, .int 0, .ref ly5, .int 0])), (fa, .inr (3, [.ref cu, .ref rv, .ref bt, .int 0, .int 0, .int 0]))] H := hP
    have hD : va_D A [(h0, .inr (8, [.ref tp, .ref rd, .ref dr, .ref fa, .ref ly, .ref wy])), (cu, .inr (1, [.ref cu1, .ref cu2, .ref cu3, .ref cu4, .int 0, .int 0])), (rv, .inr (5, [.int 5, .int 5, .ref rv1, .ref rv2, .ref rv3, .ref rv4, .ref rv5, .ref rv6])), (rv5, .inl (rc5, 100, .inl (fun _ => 0))), (ly, .inr (4, [.int 0, .ref ly1, .int 0, .ref ly2, .ref ly3, .ref ly4, .int 0, .ref ly5, .int 0])), (fa, .inr (3, [.ref cu, .ref rv, .ref bt, .int 0, .int 0, .int 0]))] := hD
    have hw_9 : r_8 = 0 := hw
    obtain rfl : r_8 = 0 := hw_9
    have hP9 := hP.sub (ws' := []) [] rfl
    have hD9 := hD.sub (ws' := []) [] (by decide) rfl
    have hK9 := hK.sub (tys' := []) [] rfl
    refine W.widen (k := 0) (n := 0) (by decide) (by decide) ?_
    exact W.iret (v := 0) hx hb hr (fun t ht hW => ⟨⟨0, (), rfl, by decide, by rw [ht]; exact hP9, va_K.moved hW.alike hK9, hD9⟩, hS.F ht⟩) hS.2.2 dX9_count_131
  refine lv_tableOut (tgt := 132) hx hb dX9_count_1 (m_out w (by decide) (by decide) (fun j h1 h2 => ?_)) (by decide) ?_
  · skip
    rcases (show j = 0 ∨ j = 1 ∨ j = 2 ∨ j = 3 ∨ j = 4 ∨ j = 5 ∨ j = 6 ∨ j = 7 ∨ j = 8 by omega) with rfl | rfl | rfl | rfl | rfl | rfl | rfl | rfl | rfl
    · exact w_1_0
    · exact w_1_1
    · exact w_1_2
    · exact w_1_3
    · exact w_1_4
    · exact w_1_5
    · exact w_1_6
    · exact w_1_7
    · exact w_1_8
  refine lv_iconst (v := -1) hx hb dX9_count_132 (by decide) ?_
  have hP9 := hP.sub (ws' := []) [] rfl
  have hD9 := hD.sub (ws' := []) [] (by decide) rfl
  have hK9 := hK.sub (tys' := []) [] rfl
  refine W.widen (k := 0) (n := 0) (by decide) (by decide) ?_
  exact W.iret (v := (-1)) hx hb hr (fun t ht hW => ⟨⟨((-1)), (), rfl, by rw [if_pos (cnt_out w_1_0 w_1_1 w_1_2 w_1_3 w_1_4 w_1_5 w_1_6 w_1_7 w_1_8)], by rw [ht]; exact hP9, va_K.moved hW.alike hK9, hD9⟩, hS.F ht⟩) hS.2.2 dX9_count_133
end
