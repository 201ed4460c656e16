section
-- ===== PART A: goes FIRST, ahead of the names: the tables' words, and 'selects' of the private methods out of them =====
/-- a private method of a class that the tables say can be made, by its rows of tables_1 -/
def lw_okq (q : MethodName × Nat) : Prop := (q.1.cls ≠ "java/lang/invoke/MethodHandle" ∧ q.1.cls ≠ "java/lang/invoke/VarHandle") ∧ Cond.instantiable q.1.cls q.2 ∈ tables_1 ∧ Cond.privateMethod q.1 ∈ tables_1 ∧ Cond.instanceMethod q.1 ∈ tables_1
theorem lw_p0 : lw_okq (⟨"CheckSaver$Machine", "hasPlace", "(II)Z"⟩, 16) := ⟨⟨by decide +kernel, by decide +kernel⟩, List.mem_of_getElem? (i := 26) (by decide +kernel), List.mem_of_getElem? (i := 311) (by decide +kernel), List.mem_of_getElem? (i := 312) (by decide +kernel)⟩
theorem lw_p1 : lw_okq (⟨"java/lang/Throwable", "fillInStackTrace", "(I)Ljava/lang/Throwable;"⟩, 6) := ⟨⟨by decide +kernel, by decide +kernel⟩, List.mem_of_getElem? (i := 374) (by decide +kernel), List.mem_of_getElem? (i := 372) (by decide +kernel), List.mem_of_getElem? (i := 373) (by decide +kernel)⟩
theorem lw_p2 : lw_okq (⟨"CheckSaver$Program", "close", "(I)V"⟩, 12) := ⟨⟨by decide +kernel, by decide +kernel⟩, List.mem_of_getElem? (i := 55) (by decide +kernel), List.mem_of_getElem? (i := 403) (by decide +kernel), List.mem_of_getElem? (i := 404) (by decide +kernel)⟩
theorem lw_p3 : lw_okq (⟨"CheckSaver$Finder", "markAllDue", "()V"⟩, 7) := ⟨⟨by decide +kernel, by decide +kernel⟩, List.mem_of_getElem? (i := 49) (by decide +kernel), List.mem_of_getElem? (i := 447) (by decide +kernel), List.mem_of_getElem? (i := 448) (by decide +kernel)⟩
theorem lw_p4 : lw_okq (⟨"CheckSaver$Finder", "arrive", "(I)Z"⟩, 7) := ⟨⟨by decide +kernel, by decide +kernel⟩, List.mem_of_getElem? (i := 49) (by decide +kernel), List.mem_of_getElem? (i := 452) (by decide +kernel), List.mem_of_getElem? (i := 453) (by decide +kernel)⟩
theorem lw_p5 : lw_okq (⟨"CheckSaver$Finder", "follow", "(I)V"⟩, 7) := ⟨⟨by decide +kernel, by decide +kernel⟩, List.mem_of_getElem? (i := 49) (by decide +kernel), List.mem_of_getElem? (i := 465) (by decide +kernel), List.mem_of_getElem? (i := 466) (by decide +kernel)⟩
theorem lw_p6 : lw_okq (⟨"CheckSaver$Facts", "highOfConstant", "(II)I"⟩, 6) := ⟨⟨by decide +kernel, by decide +kernel⟩, List.mem_of_getElem? (i := 119) (by decide +kernel), List.mem_of_getElem? (i := 480) (by decide +kernel), List.mem_of_getElem? (i := 481) (by decide +kernel)⟩
theorem lw_p7 : lw_okq (⟨"CheckSaver$Facts", "markThere", "(I)V"⟩, 6) := ⟨⟨by decide +kernel, by decide +kernel⟩, List.mem_of_getElem? (i := 119) (by decide +kernel), List.mem_of_getElem? (i := 503) (by decide +kernel), List.mem_of_getElem? (i := 504) (by decide +kernel)⟩
theorem lw_p8 : lw_okq (⟨"CheckSaver$Facts", "isSameArray", "(II)Z"⟩, 6) := ⟨⟨by decide +kernel, by decide +kernel⟩, List.mem_of_getElem? (i := 119) (by decide +kernel), List.mem_of_getElem? (i := 507) (by decide +kernel), List.mem_of_getElem? (i := 508) (by decide +kernel)⟩
theorem lw_p9 : lw_okq (⟨"CheckSaver$Finder", "takeOtherWay", "(II)V"⟩, 7) := ⟨⟨by decide +kernel, by decide +kernel⟩, List.mem_of_getElem? (i := 49) (by decide +kernel), List.mem_of_getElem? (i := 535) (by decide +kernel), List.mem_of_getElem? (i := 536) (by decide +kernel)⟩
theorem lw_p10 : lw_okq (⟨"CheckSaver$Facts", "setJoinedValue", "(II)V"⟩, 6) := ⟨⟨by decide +kernel, by decide +kernel⟩, List.mem_of_getElem? (i := 119) (by decide +kernel), List.mem_of_getElem? (i := 551) (by decide +kernel), List.mem_of_getElem? (i := 552) (by decide +kernel)⟩
theorem lw_p11 : lw_okq (⟨"CheckSaver$Finder", "joinWhile", "(I)V"⟩, 7) := ⟨⟨by decide +kernel, by decide +kernel⟩, List.mem_of_getElem? (i := 49) (by decide +kernel), List.mem_of_getElem? (i := 555) (by decide +kernel), List.mem_of_getElem? (i := 556) (by decide +kernel)⟩
theorem lw_p12 : lw_okq (⟨"CheckSaver$Finder", "passOn", "(I)I"⟩, 7) := ⟨⟨by decide +kernel, by decide +kernel⟩, List.mem_of_getElem? (i := 49) (by decide +kernel), List.mem_of_getElem? (i := 568) (by decide +kernel), List.mem_of_getElem? (i := 569) (by decide +kernel)⟩
theorem lw_p13 : lw_okq (⟨"CheckSaver$Finder", "findNeedless", "(I)I"⟩, 7) := ⟨⟨by decide +kernel, by decide +kernel⟩, List.mem_of_getElem? (i := 49) (by decide +kernel), List.mem_of_getElem? (i := 572) (by decide +kernel), List.mem_of_getElem? (i := 573) (by decide +kernel)⟩
theorem lw_p14 : lw_okq (⟨"CheckSaver", "requireStatement", "(I)V"⟩, 4) := ⟨⟨by decide +kernel, by decide +kernel⟩, List.mem_of_getElem? (i := 18) (by decide +kernel), List.mem_of_getElem? (i := 601) (by decide +kernel), List.mem_of_getElem? (i := 602) (by decide +kernel)⟩
theorem lw_p15 : lw_okq (⟨"CheckSaver$Machine", "perform", "(I)I"⟩, 16) := ⟨⟨by decide +kernel, by decide +kernel⟩, List.mem_of_getElem? (i := 26) (by decide +kernel), List.mem_of_getElem? (i := 649) (by decide +kernel), List.mem_of_getElem? (i := 650) (by decide +kernel)⟩
def lw_privs_1 : List (MethodName × Nat) := [(⟨"CheckSaver$Machine", "hasPlace", "(II)Z"⟩, 16), (⟨"java/lang/Throwable", "fillInStackTrace", "(I)Ljava/lang/Throwable;"⟩, 6), (⟨"CheckSaver$Program", "close", "(I)V"⟩, 12), (⟨"CheckSaver$Finder", "markAllDue", "()V"⟩, 7), (⟨"CheckSaver$Finder", "arrive", "(I)Z"⟩, 7), (⟨"CheckSaver$Finder", "follow", "(I)V"⟩, 7), (⟨"CheckSaver$Facts", "highOfConstant", "(II)I"⟩, 6), (⟨"CheckSaver$Facts", "markThere", "(I)V"⟩, 6), (⟨"CheckSaver$Facts", "isSameArray", "(II)Z"⟩, 6), (⟨"CheckSaver$Finder", "takeOtherWay", "(II)V"⟩, 7), (⟨"CheckSaver$Facts", "setJoinedValue", "(II)V"⟩, 6), (⟨"CheckSaver$Finder", "joinWhile", "(I)V"⟩, 7), (⟨"CheckSaver$Finder", "passOn", "(I)I"⟩, 7), (⟨"CheckSaver$Finder", "findNeedless", "(I)I"⟩, 7), (⟨"CheckSaver", "requireStatement", "(I)V"⟩, 4), (⟨"CheckSaver$Machine", "perform", "(I)I"⟩, 16)]
theorem lw_r1 : ∀ q ∈ lw_privs_1, lw_okq q := List.forall_mem_cons.mpr ⟨lw_p0, List.forall_mem_cons.mpr ⟨lw_p1, List.forall_mem_cons.mpr ⟨lw_p2, List.forall_mem_cons.mpr ⟨lw_p3, List.forall_mem_cons.mpr ⟨lw_p4, List.forall_mem_cons.mpr ⟨lw_p5, List.forall_mem_cons.mpr ⟨lw_p6, List.forall_mem_cons.mpr ⟨lw_p7, List.forall_mem_cons.mpr ⟨lw_p8, List.forall_mem_cons.mpr ⟨lw_p9, List.forall_mem_cons.mpr ⟨lw_p10, List.forall_mem_cons.mpr ⟨lw_p11, List.forall_mem_cons.mpr ⟨lw_p12, List.forall_mem_cons.mpr ⟨lw_p13, List.forall_mem_cons.mpr ⟨lw_p14, List.forall_mem_cons.mpr ⟨lw_p15, fun _ h => absurd h List.not_mem_nil⟩⟩⟩⟩⟩⟩⟩⟩⟩⟩⟩⟩⟩⟩⟩⟩
theorem lw_p16 : lw_okq (⟨"CheckSaver$Machine", "isBelow", "(III)Z"⟩, 16) := ⟨⟨by decide +kernel, by decide +kernel⟩, List.mem_of_getElem? (i := 26) (by decide +kernel), List.mem_of_getElem? (i := 653) (by decide +kernel), List.mem_of_getElem? (i := 654) (by decide +kernel)⟩
theorem lw_p17 : lw_okq (⟨"CheckSaver$Machine", "sumOrStop", "(II)I"⟩, 16) := ⟨⟨by decide +kernel, by decide +kernel⟩, List.mem_of_getElem? (i := 26) (by decide +kernel), List.mem_of_getElem? (i := 657) (by decide +kernel), List.mem_of_getElem? (i := 658) (by decide +kernel)⟩
theorem lw_p18 : lw_okq (⟨"CheckSaver$Machine", "behindFailedIf", "(I)I"⟩, 16) := ⟨⟨by decide +kernel, by decide +kernel⟩, List.mem_of_getElem? (i := 26) (by decide +kernel), List.mem_of_getElem? (i := 663) (by decide +kernel), List.mem_of_getElem? (i := 664) (by decide +kernel)⟩
theorem lw_p19 : lw_okq (⟨"CheckSaver$Machine", "performPlain", "(IIII)V"⟩, 16) := ⟨⟨by decide +kernel, by decide +kernel⟩, List.mem_of_getElem? (i := 26) (by decide +kernel), List.mem_of_getElem? (i := 667) (by decide +kernel), List.mem_of_getElem? (i := 668) (by decide +kernel)⟩
theorem lw_p20 : lw_okq (⟨"CheckSaver$Machine", "add", "(III)V"⟩, 16) := ⟨⟨by decide +kernel, by decide +kernel⟩, List.mem_of_getElem? (i := 26) (by decide +kernel), List.mem_of_getElem? (i := 671) (by decide +kernel), List.mem_of_getElem? (i := 672) (by decide +kernel)⟩
theorem lw_p21 : lw_okq (⟨"CheckSaver$Machine", "passes", "(IIZI)Z"⟩, 16) := ⟨⟨by decide +kernel, by decide +kernel⟩, List.mem_of_getElem? (i := 26) (by decide +kernel), List.mem_of_getElem? (i := 679) (by decide +kernel), List.mem_of_getElem? (i := 680) (by decide +kernel)⟩
theorem lw_p22 : lw_okq (⟨"CheckSaver$Machine", "passesAll", "(III)Z"⟩, 16) := ⟨⟨by decide +kernel, by decide +kernel⟩, List.mem_of_getElem? (i := 26) (by decide +kernel), List.mem_of_getElem? (i := 683) (by decide +kernel), List.mem_of_getElem? (i := 684) (by decide +kernel)⟩
theorem lw_p23 : lw_okq (⟨"CheckSaver$Machine", "store", "(III)V"⟩, 16) := ⟨⟨by decide +kernel, by decide +kernel⟩, List.mem_of_getElem? (i := 26) (by decide +kernel), List.mem_of_getElem? (i := 688) (by decide +kernel), List.mem_of_getElem? (i := 689) (by decide +kernel)⟩
theorem lw_p24 : lw_okq (⟨"CheckSaver$Machine", "makeArray", "(II)V"⟩, 16) := ⟨⟨by decide +kernel, by decide +kernel⟩, List.mem_of_getElem? (i := 26) (by decide +kernel), List.mem_of_getElem? (i := 692) (by decide +kernel), List.mem_of_getElem? (i := 693) (by decide +kernel)⟩
theorem lw_p25 : lw_okq (⟨"CheckSaverModel", "isSaid", "(IIII)Z"⟩, 32) := ⟨⟨by decide +kernel, by decide +kernel⟩, List.mem_of_getElem? (i := 696) (by decide +kernel), List.mem_of_getElem? (i := 807) (by decide +kernel), List.mem_of_getElem? (i := 808) (by decide +kernel)⟩
theorem lw_p26 : lw_okq (⟨"CheckSaverModel", "fails", "(ZZ)Z"⟩, 32) := ⟨⟨by decide +kernel, by decide +kernel⟩, List.mem_of_getElem? (i := 696) (by decide +kernel), List.mem_of_getElem? (i := 814) (by decide +kernel), List.mem_of_getElem? (i := 815) (by decide +kernel)⟩
theorem lw_p27 : lw_okq (⟨"CheckSaverModel", "pass", "()Z"⟩, 32) := ⟨⟨by decide +kernel, by decide +kernel⟩, List.mem_of_getElem? (i := 696) (by decide +kernel), List.mem_of_getElem? (i := 832) (by decide +kernel), List.mem_of_getElem? (i := 833) (by decide +kernel)⟩
theorem lw_p28 : lw_okq (⟨"CheckSaverModel", "nothing", "(I)V"⟩, 32) := ⟨⟨by decide +kernel, by decide +kernel⟩, List.mem_of_getElem? (i := 696) (by decide +kernel), List.mem_of_getElem? (i := 836) (by decide +kernel), List.mem_of_getElem? (i := 837) (by decide +kernel)⟩
theorem lw_p29 : lw_okq (⟨"CheckSaverModel", "loosen", "(I)V"⟩, 32) := ⟨⟨by decide +kernel, by decide +kernel⟩, List.mem_of_getElem? (i := 696) (by decide +kernel), List.mem_of_getElem? (i := 841) (by decide +kernel), List.mem_of_getElem? (i := 842) (by decide +kernel)⟩
theorem lw_p30 : lw_okq (⟨"CheckSaverModel", "joinBack", "(I)V"⟩, 32) := ⟨⟨by decide +kernel, by decide +kernel⟩, List.mem_of_getElem? (i := 696) (by decide +kernel), List.mem_of_getElem? (i := 845) (by decide +kernel), List.mem_of_getElem? (i := 846) (by decide +kernel)⟩
theorem lw_p31 : lw_okq (⟨"CheckSaverModel", "join", "([III)V"⟩, 32) := ⟨⟨by decide +kernel, by decide +kernel⟩, List.mem_of_getElem? (i := 696) (by decide +kernel), List.mem_of_getElem? (i := 849) (by decide +kernel), List.mem_of_getElem? (i := 850) (by decide +kernel)⟩
def lw_privs_2 : List (MethodName × Nat) := [(⟨"CheckSaver$Machine", "isBelow", "(III)Z"⟩, 16), (⟨"CheckSaver$Machine", "sumOrStop", "(II)I"⟩, 16), (⟨"CheckSaver$Machine", "behindFailedIf", "(I)I"⟩, 16), (⟨"CheckSaver$Machine", "performPlain", "(IIII)V"⟩, 16), (⟨"CheckSaver$Machine", "add", "(III)V"⟩, 16), (⟨"CheckSaver$Machine", "passes", "(IIZI)Z"⟩, 16), (⟨"CheckSaver$Machine", "passesAll", "(III)Z"⟩, 16), (⟨"CheckSaver$Machine", "store", "(III)V"⟩, 16), (⟨"CheckSaver$Machine", "makeArray", "(II)V"⟩, 16), (⟨"CheckSaverModel", "isSaid", "(IIII)Z"⟩, 32), (⟨"CheckSaverModel", "fails", "(ZZ)Z"⟩, 32), (⟨"CheckSaverModel", "pass", "()Z"⟩, 32), (⟨"CheckSaverModel", "nothing", "(I)V"⟩, 32), (⟨"CheckSaverModel", "loosen", "(I)V"⟩, 32), (⟨"CheckSaverModel", "joinBack", "(I)V"⟩, 32), (⟨"CheckSaverModel", "join", "([III)V"⟩, 32)]
theorem lw_r2 : ∀ q ∈ lw_privs_2, lw_okq q := List.forall_mem_cons.mpr ⟨lw_p16, List.forall_mem_cons.mpr ⟨lw_p17, List.forall_mem_cons.mpr ⟨lw_p18, List.forall_mem_cons.mpr ⟨lw_p19, List.forall_mem_cons.mpr ⟨lw_p20, List.forall_mem_cons.mpr ⟨lw_p21, List.forall_mem_cons.mpr ⟨lw_p22, List.forall_mem_cons.mpr ⟨lw_p23, List.forall_mem_cons.mpr ⟨lw_p24, List.forall_mem_cons.mpr ⟨lw_p25, List.forall_mem_cons.mpr ⟨lw_p26, List.forall_mem_cons.mpr ⟨lw_p27, List.forall_mem_cons.mpr ⟨lw_p28, List.forall_mem_cons.mpr ⟨lw_p29, List.forall_mem_cons.mpr ⟨lw_p30, List.forall_mem_cons.mpr ⟨lw_p31, fun _ h => absurd h List.not_mem_nil⟩⟩⟩⟩⟩⟩⟩⟩⟩⟩⟩⟩⟩⟩⟩⟩
theorem lw_p32 : lw_okq (⟨"CheckSaverModel", "tell", "(I)Z"⟩, 32) := ⟨⟨by decide +kernel, by decide +kernel⟩, List.mem_of_getElem? (i := 696) (by decide +kernel), List.mem_of_getElem? (i := 856) (by decide +kernel), List.mem_of_getElem? (i := 857) (by decide +kernel)⟩
theorem lw_p33 : lw_okq (⟨"CheckSaverModel", "keep", "([II)V"⟩, 32) := ⟨⟨by decide +kernel, by decide +kernel⟩, List.mem_of_getElem? (i := 696) (by decide +kernel), List.mem_of_getElem? (i := 860) (by decide +kernel), List.mem_of_getElem? (i := 861) (by decide +kernel)⟩
theorem lw_p34 : lw_okq (⟨"CheckSaverModel", "branch", "(IZ)V"⟩, 32) := ⟨⟨by decide +kernel, by decide +kernel⟩, List.mem_of_getElem? (i := 696) (by decide +kernel), List.mem_of_getElem? (i := 864) (by decide +kernel), List.mem_of_getElem? (i := 865) (by decide +kernel)⟩
theorem lw_p35 : lw_okq (⟨"CheckSaverModel", "against", "(II)I"⟩, 32) := ⟨⟨by decide +kernel, by decide +kernel⟩, List.mem_of_getElem? (i := 696) (by decide +kernel), List.mem_of_getElem? (i := 877) (by decide +kernel), List.mem_of_getElem? (i := 878) (by decide +kernel)⟩
theorem lw_p36 : lw_okq (⟨"CheckSaverModel", "take", "([II)V"⟩, 32) := ⟨⟨by decide +kernel, by decide +kernel⟩, List.mem_of_getElem? (i := 696) (by decide +kernel), List.mem_of_getElem? (i := 890) (by decide +kernel), List.mem_of_getElem? (i := 891) (by decide +kernel)⟩
theorem lw_p37 : lw_okq (⟨"CheckSaverModel", "close", "(II)V"⟩, 32) := ⟨⟨by decide +kernel, by decide +kernel⟩, List.mem_of_getElem? (i := 696) (by decide +kernel), List.mem_of_getElem? (i := 894) (by decide +kernel), List.mem_of_getElem? (i := 895) (by decide +kernel)⟩
theorem lw_p38 : lw_okq (⟨"CheckSaverModel", "effect", "(I)V"⟩, 32) := ⟨⟨by decide +kernel, by decide +kernel⟩, List.mem_of_getElem? (i := 696) (by decide +kernel), List.mem_of_getElem? (i := 898) (by decide +kernel), List.mem_of_getElem? (i := 899) (by decide +kernel)⟩
theorem lw_p39 : lw_okq (⟨"CheckSaverModel", "set", "(II)V"⟩, 32) := ⟨⟨by decide +kernel, by decide +kernel⟩, List.mem_of_getElem? (i := 696) (by decide +kernel), List.mem_of_getElem? (i := 902) (by decide +kernel), List.mem_of_getElem? (i := 903) (by decide +kernel)⟩
theorem lw_p40 : lw_okq (⟨"CheckSaverModel", "add", "(III)V"⟩, 32) := ⟨⟨by decide +kernel, by decide +kernel⟩, List.mem_of_getElem? (i := 696) (by decide +kernel), List.mem_of_getElem? (i := 906) (by decide +kernel), List.mem_of_getElem? (i := 907) (by decide +kernel)⟩
theorem lw_p41 : lw_okq (⟨"CheckSaverModel", "forget", "(I)V"⟩, 32) := ⟨⟨by decide +kernel, by decide +kernel⟩, List.mem_of_getElem? (i := 696) (by decide +kernel), List.mem_of_getElem? (i := 910) (by decide +kernel), List.mem_of_getElem? (i := 911) (by decide +kernel)⟩
theorem lw_p42 : lw_okq (⟨"CheckSaverModel", "measured", "(II)V"⟩, 32) := ⟨⟨by decide +kernel, by decide +kernel⟩, List.mem_of_getElem? (i := 696) (by decide +kernel), List.mem_of_getElem? (i := 914) (by decide +kernel), List.mem_of_getElem? (i := 915) (by decide +kernel)⟩
theorem lw_p43 : lw_okq (⟨"CheckSaverModel", "found", "(I)V"⟩, 32) := ⟨⟨by decide +kernel, by decide +kernel⟩, List.mem_of_getElem? (i := 696) (by decide +kernel), List.mem_of_getElem? (i := 918) (by decide +kernel), List.mem_of_getElem? (i := 919) (by decide +kernel)⟩
theorem lw_p44 : lw_okq (⟨"CheckSaverModel", "indexed", "(II)V"⟩, 32) := ⟨⟨by decide +kernel, by decide +kernel⟩, List.mem_of_getElem? (i := 696) (by decide +kernel), List.mem_of_getElem? (i := 922) (by decide +kernel), List.mem_of_getElem? (i := 923) (by decide +kernel)⟩
theorem lw_p45 : lw_okq (⟨"CheckSaverModel", "make", "(III)V"⟩, 32) := ⟨⟨by decide +kernel, by decide +kernel⟩, List.mem_of_getElem? (i := 696) (by decide +kernel), List.mem_of_getElem? (i := 926) (by decide +kernel), List.mem_of_getElem? (i := 927) (by decide +kernel)⟩
theorem lw_p46 : lw_okq (⟨"CheckSaverModel", "let", "(II)V"⟩, 32) := ⟨⟨by decide +kernel, by decide +kernel⟩, List.mem_of_getElem? (i := 696) (by decide +kernel), List.mem_of_getElem? (i := 930) (by decide +kernel), List.mem_of_getElem? (i := 931) (by decide +kernel)⟩
theorem lw_p47 : lw_okq (⟨"CheckSaverModel", "spared", "(I)I"⟩, 32) := ⟨⟨by decide +kernel, by decide +kernel⟩, List.mem_of_getElem? (i := 696) (by decide +kernel), List.mem_of_getElem? (i := 934) (by decide +kernel), List.mem_of_getElem? (i := 935) (by decide +kernel)⟩
def lw_privs_3 : List (MethodName × Nat) := [(⟨"CheckSaverModel", "tell", "(I)Z"⟩, 32), (⟨"CheckSaverModel", "keep", "([II)V"⟩, 32), (⟨"CheckSaverModel", "branch", "(IZ)V"⟩, 32), (⟨"CheckSaverModel", "against", "(II)I"⟩, 32), (⟨"CheckSaverModel", "take", "([II)V"⟩, 32), (⟨"CheckSaverModel", "close", "(II)V"⟩, 32), (⟨"CheckSaverModel", "effect", "(I)V"⟩, 32), (⟨"CheckSaverModel", "set", "(II)V"⟩, 32), (⟨"CheckSaverModel", "add", "(III)V"⟩, 32), (⟨"CheckSaverModel", "forget", "(I)V"⟩, 32), (⟨"CheckSaverModel", "measured", "(II)V"⟩, 32), (⟨"CheckSaverModel", "found", "(I)V"⟩, 32), (⟨"CheckSaverModel", "indexed", "(II)V"⟩, 32), (⟨"CheckSaverModel", "make", "(III)V"⟩, 32), (⟨"CheckSaverModel", "let", "(II)V"⟩, 32), (⟨"CheckSaverModel", "spared", "(I)I"⟩, 32)]
theorem lw_r3 : ∀ q ∈ lw_privs_3, lw_okq q := List.forall_mem_cons.mpr ⟨lw_p32, List.forall_mem_cons.mpr ⟨lw_p33, List.forall_mem_cons.mpr ⟨lw_p34, List.forall_mem_cons.mpr ⟨lw_p35, List.forall_mem_cons.mpr ⟨lw_p36, List.forall_mem_cons.mpr ⟨lw_p37, List.forall_mem_cons.mpr ⟨lw_p38, List.forall_mem_cons.mpr ⟨lw_p39, List.forall_mem_cons.mpr ⟨lw_p40, List.forall_mem_cons.mpr ⟨lw_p41, List.forall_mem_cons.mpr ⟨lw_p42, List.forall_mem_cons.mpr ⟨lw_p43, List.forall_mem_cons.mpr ⟨lw_p44, List.forall_mem_cons.mpr ⟨lw_p45, List.forall_mem_cons.mpr ⟨lw_p46, List.forall_mem_cons.mpr ⟨lw_p47, fun _ h => absurd h List.not_mem_nil⟩⟩⟩⟩⟩⟩⟩⟩⟩⟩⟩⟩⟩⟩⟩⟩
theorem lw_p48 : lw_okq (⟨"CheckSaverModel", "refuses", "(Z)Z"⟩, 32) := ⟨⟨by decide +kernel, by decide +kernel⟩, List.mem_of_getElem? (i := 696) (by decide +kernel), List.mem_of_getElem? (i := 942) (by decide +kernel), List.mem_of_getElem? (i := 943) (by decide +kernel)⟩
theorem lw_p49 : lw_okq (⟨"CheckSaverModel", "one", "()Z"⟩, 32) := ⟨⟨by decide +kernel, by decide +kernel⟩, List.mem_of_getElem? (i := 696) (by decide +kernel), List.mem_of_getElem? (i := 958) (by decide +kernel), List.mem_of_getElem? (i := 959) (by decide +kernel)⟩
theorem lw_p50 : lw_okq (⟨"CheckSaverModel", "sum", "()I"⟩, 32) := ⟨⟨by decide +kernel, by decide +kernel⟩, List.mem_of_getElem? (i := 696) (by decide +kernel), List.mem_of_getElem? (i := 962) (by decide +kernel), List.mem_of_getElem? (i := 963) (by decide +kernel)⟩
theorem lw_p51 : lw_okq (⟨"CheckSaverModel", "stops", "(I)Z"⟩, 32) := ⟨⟨by decide +kernel, by decide +kernel⟩, List.mem_of_getElem? (i := 696) (by decide +kernel), List.mem_of_getElem? (i := 966) (by decide +kernel), List.mem_of_getElem? (i := 967) (by decide +kernel)⟩
theorem lw_p52 : lw_okq (⟨"CheckSaverModel", "act", "()Z"⟩, 32) := ⟨⟨by decide +kernel, by decide +kernel⟩, List.mem_of_getElem? (i := 696) (by decide +kernel), List.mem_of_getElem? (i := 970) (by decide +kernel), List.mem_of_getElem? (i := 971) (by decide +kernel)⟩
theorem lw_p53 : lw_okq (⟨"CheckSaverModel", "input", "(I)V"⟩, 32) := ⟨⟨by decide +kernel, by decide +kernel⟩, List.mem_of_getElem? (i := 696) (by decide +kernel), List.mem_of_getElem? (i := 974) (by decide +kernel), List.mem_of_getElem? (i := 975) (by decide +kernel)⟩
theorem lw_p54 : lw_okq (⟨"CheckSaverModel", "check", "(IZ)Z"⟩, 32) := ⟨⟨by decide +kernel, by decide +kernel⟩, List.mem_of_getElem? (i := 696) (by decide +kernel), List.mem_of_getElem? (i := 978) (by decide +kernel), List.mem_of_getElem? (i := 979) (by decide +kernel)⟩
theorem lw_p55 : lw_okq (⟨"CheckSaverModel", "checks", "(II)Z"⟩, 32) := ⟨⟨by decide +kernel, by decide +kernel⟩, List.mem_of_getElem? (i := 696) (by decide +kernel), List.mem_of_getElem? (i := 982) (by decide +kernel), List.mem_of_getElem? (i := 983) (by decide +kernel)⟩
theorem lw_p56 : lw_okq (⟨"CheckSaverModel", "room", "(II)Z"⟩, 32) := ⟨⟨by decide +kernel, by decide +kernel⟩, List.mem_of_getElem? (i := 696) (by decide +kernel), List.mem_of_getElem? (i := 986) (by decide +kernel), List.mem_of_getElem? (i := 987) (by decide +kernel)⟩
def lw_privs_4 : List (MethodName × Nat) := [(⟨"CheckSaverModel", "refuses", "(Z)Z"⟩, 32), (⟨"CheckSaverModel", "one", "()Z"⟩, 32), (⟨"CheckSaverModel", "sum", "()I"⟩, 32), (⟨"CheckSaverModel", "stops", "(I)Z"⟩, 32), (⟨"CheckSaverModel", "act", "()Z"⟩, 32), (⟨"CheckSaverModel", "input", "(I)V"⟩, 32), (⟨"CheckSaverModel", "check", "(IZ)Z"⟩, 32), (⟨"CheckSaverModel", "checks", "(II)Z"⟩, 32), (⟨"CheckSaverModel", "room", "(II)Z"⟩, 32)]
theorem lw_r4 : ∀ q ∈ lw_privs_4, lw_okq q := List.forall_mem_cons.mpr ⟨lw_p48, List.forall_mem_cons.mpr ⟨lw_p49, List.forall_mem_cons.mpr ⟨lw_p50, List.forall_mem_cons.mpr ⟨lw_p51, List.forall_mem_cons.mpr ⟨lw_p52, List.forall_mem_cons.mpr ⟨lw_p53, List.forall_mem_cons.mpr ⟨lw_p54, List.forall_mem_cons.mpr ⟨lw_p55, List.forall_mem_cons.mpr ⟨lw_p56, fun _ h => absurd h List.not_mem_nil⟩⟩⟩⟩⟩⟩⟩⟩⟩
def lw_privs : List (MethodName × Nat) := lw_privs_1 ++ (lw_privs_2 ++ (lw_privs_3 ++ (lw_privs_4)))
def lw_tbl : List Cond := k2_sels lw_privs ++ tables_1
theorem lw_privs_ok : ∀ q ∈ lw_privs, lw_okq q := by
  show ∀ q ∈ lw_privs_1 ++ (lw_privs_2 ++ (lw_privs_3 ++ (lw_privs_4))), lw_okq q
  exact List.forall_mem_append.mpr ⟨lw_r1, List.forall_mem_append.mpr ⟨lw_r2, List.forall_mem_append.mpr ⟨lw_r3, lw_r4⟩⟩⟩
-- ===== end of PART A =====
end
section
def ck_T0 : u_T := fun k => match k with
  | 0 => ("CheckSaver$Facts", "known", "[I", true)
  | 1 => ("CheckSaver$Facts", "low", "[I", true)
  | 2 => ("CheckSaver$Facts", "high", "[I", true)
  | 3 => ("CheckSaver$Facts", "value", "[I", true)
  | 4 => ("CheckSaver$Facts", "size", "[I", true)
  | _ => ("CheckSaver$Facts", "there", "[Z", true)
def ck_ty0 : Nat → FieldType := fun k => match k with
  | 0 => .array .int
  | 1 => .array .int
  | 2 => .array .int
  | 3 => .array .int
  | 4 => .array .int
  | _ => .array .boolean
def ck_T1 : u_T := fun k => match k with
  | 0 => ("CheckSaver$Finder", "program", "LCheckSaver$Program;", true)
  | 1 => ("CheckSaver$Finder", "before", "[LCheckSaver$Facts;", true)
  | 2 => ("CheckSaver$Finder", "checksNeedless", "[I", true)
  | 3 => ("CheckSaver$Finder", "reached", "[Z", true)
  | 4 => ("CheckSaver$Finder", "due", "[Z", true)
  | 5 => ("CheckSaver$Finder", "way", "LCheckSaver$Facts;", true)
  | _ => ("CheckSaver$Finder", "worked", "Z", false)
def ck_ty1 : Nat → FieldType := fun k => match k with
  | 0 => .object "CheckSaver$Program"
  | 1 => .array (.object "CheckSaver$Facts")
  | 2 => .array .int
  | 3 => .array .boolean
  | 4 => .array .boolean
  | 5 => .object "CheckSaver$Facts"
  | _ => .boolean
def ck_T2 : u_T := fun k => match k with
  | 0 => ("CheckSaver$Inputs", "waiting", "[I", true)
  | 1 => ("CheckSaver$Inputs", "first", "I", false)
  | _ => ("CheckSaver$Inputs", "count", "I", false)
def ck_ty2 : Nat → FieldType := fun k => match k with
  | 0 => .array .int
  | 1 => .int
  | _ => .int
def ck_T3 : u_T := fun k => match k with
  | 0 => ("CheckSaver$Machine", "inputs", "LCheckSaver$Inputs;", true)
  | 1 => ("CheckSaver$Machine", "finder", "LCheckSaver$Finder;", true)
  | 2 => ("CheckSaver$Machine", "program", "LCheckSaver$Program;", true)
  | 3 => ("CheckSaver$Machine", "numbers", "[I", true)
  | 4 => ("CheckSaver$Machine", "arrays", "[I", true)
  | 5 => ("CheckSaver$Machine", "lengths", "[I", true)
  | 6 => ("CheckSaver$Machine", "places", "[I", true)
  | 7 => ("CheckSaver$Machine", "kept", "[I", true)
  | 8 => ("CheckSaver$Machine", "begun", "Z", false)
  | 9 => ("CheckSaver$Machine", "status", "I", false)
  | 10 => ("CheckSaver$Machine", "at", "I", false)
  | 11 => ("CheckSaver$Machine", "done", "I", false)
  | 12 => ("CheckSaver$Machine", "checksMade", "I", false)
  | 13 => ("CheckSaver$Machine", "checksLeftOut", "I", false)
  | 14 => ("CheckSaver$Machine", "outputs", "I", false)
  | _ => ("CheckSaver$Machine", "made", "I", false)
def ck_ty3 : Nat → FieldType := fun k => match k with
  | 0 => .object "CheckSaver$Inputs"
  | 1 => .object "CheckSaver$Finder"
  | 2 => .object "CheckSaver$Program"
  | 3 => .array .int
  | 4 => .array .int
  | 5 => .array .int
  | 6 => .array .int
  | 7 => .array .int
  | 8 => .boolean
  | 9 => .int
  | 10 => .int
  | 11 => .int
  | 12 => .int
  | 13 => .int
  | 14 => .int
  | _ => .int
def ck_T4 : u_T := fun k => match k with
  | 0 => ("CheckSaver$Program", "sorts", "[I", true)
  | 1 => ("CheckSaver$Program", "xs", "[I", true)
  | 2 => ("CheckSaver$Program", "ys", "[I", true)
  | 3 => ("CheckSaver$Program", "zs", "[I", true)
  | 4 => ("CheckSaver$Program", "headOf", "[I", true)
  | 5 => ("CheckSaver$Program", "elseOf", "[I", true)
  | 6 => ("CheckSaver$Program", "endOf", "[I", true)
  | 7 => ("CheckSaver$Program", "numbersChanged", "[I", true)
  | 8 => ("CheckSaver$Program", "arraysChanged", "[I", true)
  | 9 => ("CheckSaver$Program", "open", "[I", true)
  | 10 => ("CheckSaver$Program", "count", "I", false)
  | _ => ("CheckSaver$Program", "depth", "I", false)
def ck_ty4 : Nat → FieldType := fun k => match k with
  | 0 => .array .int
  | 1 => .array .int
  | 2 => .array .int
  | 3 => .array .int
  | 4 => .array .int
  | 5 => .array .int
  | 6 => .array .int
  | 7 => .array .int
  | 8 => .array .int
  | 9 => .array .int
  | 10 => .int
  | _ => .int
def ck_T5 : u_T := fun k => match k with
  | 0 => ("CheckSaver", "machine", "LCheckSaver$Machine;", true)
  | 1 => ("CheckSaver", "inputs", "LCheckSaver$Inputs;", true)
  | 2 => ("CheckSaver", "finder", "LCheckSaver$Finder;", true)
  | _ => ("CheckSaver", "program", "LCheckSaver$Program;", true)
def ck_ty5 : Nat → FieldType := fun k => match k with
  | 0 => .object "CheckSaver$Machine"
  | 1 => .object "CheckSaver$Inputs"
  | 2 => .object "CheckSaver$Finder"
  | _ => .object "CheckSaver$Program"
def ck_T6 : u_T := fun k => match k with
  | 0 => ("CheckSaverModel", "thrown", "I", false)
  | 1 => ("CheckSaverModel", "size", "I", false)
  | 2 => ("CheckSaverModel", "open", "I", false)
  | 3 => ("CheckSaverModel", "sort", "[I", true)
  | 4 => ("CheckSaverModel", "x", "[I", true)
  | 5 => ("CheckSaverModel", "y", "[I", true)
  | 6 => ("CheckSaverModel", "z", "[I", true)
  | 7 => ("CheckSaverModel", "other", "[I", true)
  | 8 => ("CheckSaverModel", "end", "[I", true)
  | 9 => ("CheckSaverModel", "of", "[I", true)
  | 10 => ("CheckSaverModel", "opened", "[I", true)
  | 11 => ("CheckSaverModel", "inputs", "[I", true)
  | 12 => ("CheckSaverModel", "waiting", "I", false)
  | 13 => ("CheckSaverModel", "row", "[I", true)
  | 14 => ("CheckSaverModel", "before", "[I", true)
  | 15 => ("CheckSaverModel", "not", "[I", true)
  | 16 => ("CheckSaverModel", "then", "[I", true)
  | 17 => ("CheckSaverModel", "back", "[I", true)
  | 18 => ("CheckSaverModel", "comes", "[Z", true)
  | 19 => ("CheckSaverModel", "begun", "Z", false)
  | 20 => ("CheckSaverModel", "at", "I", false)
  | 21 => ("CheckSaverModel", "how", "I", false)
  | 22 => ("CheckSaverModel", "done", "I", false)
  | 23 => ("CheckSaverModel", "made", "I", false)
  | 24 => ("CheckSaverModel", "saved", "I", false)
  | 25 => ("CheckSaverModel", "outputs", "I", false)
  | 26 => ("CheckSaverModel", "arrays", "I", false)
  | 27 => ("CheckSaverModel", "number", "[I", true)
  | 28 => ("CheckSaverModel", "array", "[I", true)
  | 29 => ("CheckSaverModel", "length", "[I", true)
  | 30 => ("CheckSaverModel", "cells", "[I", true)
  | _ => ("CheckSaverModel", "shown", "[I", true)
def ck_ty6 : Nat → FieldType := fun k => match k with
  | 0 => .int
  | 1 => .int
  | 2 => .int
  | 3 => .array .int
  | 4 => .array .int
  | 5 => .array .int
  | 6 => .array .int
  | 7 => .array .int
  | 8 => .array .int
  | 9 => .array .int
  | 10 => .array .int
  | 11 => .array .int
  | 12 => .int
  | 13 => .array .int
  | 14 => .array .int
  | 15 => .array .int
  | 16 => .array .int
  | 17 => .array .int
  | 18 => .array .boolean
  | 19 => .boolean
  | 20 => .int
  | 21 => .int
  | 22 => .int
  | 23 => .int
  | 24 => .int
  | 25 => .int
  | 26 => .int
  | 27 => .array .int
  | 28 => .array .int
  | 29 => .array .int
  | 30 => .array .int
  | _ => .array .int
/-- the sorts of objects; an object names its own by its place here -/
abbrev ck_cl : List vw_C := [("CheckSaver$Facts", ck_T0, 6), ("CheckSaver$Finder", ck_T1, 7), ("CheckSaver$Inputs", ck_T2, 3), ("CheckSaver$Machine", ck_T3, 16), ("CheckSaver$Program", ck_T4, 12), ("CheckSaver", ck_T5, 4), ("CheckSaverModel", ck_T6, 32)]
/-- a field that is a reference: the cell that it names, its kind (0 ints, 1 truths, 2 Facts, 3 an object), its length or its sort -/
def ck_fr (ci k : Nat) (c : Int) : Option (Int × Nat × Nat) := match ci with
  | 0 => (match k with
    | 0 => some (c + 1, 0, 10)
    | 1 => some (c + 2, 0, 10)
    | 2 => some (c + 3, 0, 40)
    | 3 => some (c + 4, 0, 4)
    | 4 => some (c + 5, 0, 4)
    | 5 => some (c + 6, 1, 4)
    | _ => none)
  | 1 => (match k with
    | 0 => some (5, 3, 4)
    | 1 => some (16, 2, 64)
    | 2 => some (17, 0, 64)
    | 3 => some (18, 1, 64)
    | 4 => some (19, 1, 65)
    | 5 => some (473, 3, 0)
    | _ => none)
  | 2 => (match k with
    | 0 => some (3, 0, 64)
    | _ => none)
  | 3 => (match k with
    | 0 => some (2, 3, 2)
    | 1 => some (4, 3, 1)
    | 2 => some (5, 3, 4)
    | 3 => some (20, 0, 10)
    | 4 => some (21, 0, 4)
    | 5 => some (22, 0, 40)
    | 6 => some (23, 0, 1600)
    | 7 => some (24, 0, 16)
    | _ => none)
  | 4 => (match k with
    | 0 => some (6, 0, 64)
    | 1 => some (7, 0, 64)
    | 2 => some (8, 0, 64)
    | 3 => some (9, 0, 64)
    | 4 => some (10, 0, 64)
    | 5 => some (11, 0, 64)
    | 6 => some (12, 0, 64)
    | 7 => some (13, 0, 64)
    | 8 => some (14, 0, 64)
    | 9 => some (15, 0, 8)
    | _ => none)
  | 5 => (match k with
    | 0 => some (1, 3, 3)
    | 1 => some (2, 3, 2)
    | 2 => some (4, 3, 1)
    | 3 => some (5, 3, 4)
    | _ => none)
  | 6 => (match k with
    | 3 => some (481, 0, 64)
    | 4 => some (482, 0, 64)
    | 5 => some (483, 0, 64)
    | 6 => some (484, 0, 64)
    | 7 => some (485, 0, 64)
    | 8 => some (486, 0, 64)
    | 9 => some (487, 0, 64)
    | 10 => some (488, 0, 8)
    | 11 => some (489, 0, 64)
    | 13 => some (490, 0, 82)
    | 14 => some (491, 0, 5248)
    | 15 => some (492, 0, 5248)
    | 16 => some (493, 0, 5248)
    | 17 => some (494, 0, 5248)
    | 18 => some (495, 1, 64)
    | 27 => some (496, 0, 10)
    | 28 => some (497, 0, 4)
    | 29 => some (498, 0, 40)
    | 30 => some (499, 0, 1600)
    | 31 => some (500, 0, 16)
    | _ => none)
  | _ => none
/-- what each cell is -/
def ck_shF (j : Nat) : Nat × Nat := match j with
  | 0 => (3, 0)
  | 1 => (0, 10)
  | 2 => (0, 10)
  | 3 => (0, 40)
  | 4 => (0, 4)
  | 5 => (0, 4)
  | _ => (1, 4)
def ck_shA : List (Nat × Nat) := [(3, 5), (3, 3), (3, 2), (0, 64), (3, 1), (3, 4), (0, 64), (0, 64), (0, 64), (0, 64), (0, 64), (0, 64), (0, 64), (0, 64), (0, 64), (0, 8), (2, 64), (0, 64), (1, 64), (1, 65), (0, 10), (0, 4), (0, 40), (0, 1600), (0, 16)]
def ck_shM : List (Nat × Nat) := [(3, 6), (0, 64), (0, 64), (0, 64), (0, 64), (0, 64), (0, 64), (0, 64), (0, 8), (0, 64), (0, 82), (0, 5248), (0, 5248), (0, 5248), (0, 5248), (1, 64), (0, 10), (0, 4), (0, 40), (0, 1600), (0, 16)]
def ck_sh (c : Nat) : Nat × Nat := if c < 25 then ck_shA.getD c (9, 0) else if c < 480 then ck_shF ((c - 25) % 7) else ck_shM.getD (c - 480) (9, 0)
def ck_nF (ci : Nat) : Nat := match ci with
  | 0 => 6
  | 1 => 7
  | 2 => 3
  | 3 => 16
  | 4 => 12
  | 5 => 4
  | _ => 32
def ck_GW : List Cond := lw_tbl.filter goodWord
theorem ck_gw {w : Cond} (i : Nat) (h : lw_tbl[i]? = some w) (hg : goodWord w = true) : w ∈ ck_GW := List.mem_filter.mpr ⟨List.mem_of_getElem? h, hg⟩
theorem ck_gws {ws : List Cond} (ps : List Nat) (h : ws = ps.filterMap (fun i => lw_tbl[i]?)) (hg : ws.all goodWord = true) : ∀ w ∈ ws, w ∈ ck_GW := by
  intro w hw
  have h1 := List.all_eq_true.mp hg w hw
  rw [h] at hw
  obtain ⟨i, -, hi⟩ := List.mem_filterMap.mp hw
  exact ck_gw i hi h1
theorem ck_nm0 : ∀ a, a < 6 → ∀ b, b < 6 → a ≠ b → (ck_T0 a).2.1 ≠ (ck_T0 b).2.1 := by decide +kernel
theorem ck_tyok0 : ∀ k, k < 6 → parseFieldDescriptor (ck_T0 k).2.2.1 = some (ck_ty0 k) := by decide +kernel
set_option maxRecDepth 20000 in
theorem ck_in0 : ∀ w ∈ u_ws "CheckSaver$Facts" ck_T0 6, w ∈ ck_GW := ck_gws [192, 194, 196, 198, 200, 202] (by decide +kernel) (by decide +kernel)
theorem ck_nm1 : ∀ a, a < 7 → ∀ b, b < 7 → a ≠ b → (ck_T1 a).2.1 ≠ (ck_T1 b).2.1 := by decide +kernel
theorem ck_tyok1 : ∀ k, k < 7 → parseFieldDescriptor (ck_T1 k).2.2.1 = some (ck_ty1 k) := by decide +kernel
set_option maxRecDepth 20000 in
theorem ck_in1 : ∀ w ∈ u_ws "CheckSaver$Finder" ck_T1 7, w ∈ ck_GW := ck_gws [218, 220, 222, 224, 226, 228, 230] (by decide +kernel) (by decide +kernel)
theorem ck_nm2 : ∀ a, a < 3 → ∀ b, b < 3 → a ≠ b → (ck_T2 a).2.1 ≠ (ck_T2 b).2.1 := by decide +kernel
theorem ck_tyok2 : ∀ k, k < 3 → parseFieldDescriptor (ck_T2 k).2.2.1 = some (ck_ty2 k) := by decide +kernel
set_option maxRecDepth 20000 in
theorem ck_in2 : ∀ w ∈ u_ws "CheckSaver$Inputs" ck_T2 3, w ∈ ck_GW := ck_gws [97, 99, 101] (by decide +kernel) (by decide +kernel)
theorem ck_nm3 : ∀ a, a < 16 → ∀ b, b < 16 → a ≠ b → (ck_T3 a).2.1 ≠ (ck_T3 b).2.1 := by decide +kernel
theorem ck_tyok3 : ∀ k, k < 16 → parseFieldDescriptor (ck_T3 k).2.2.1 = some (ck_ty3 k) := by decide +kernel
set_option maxRecDepth 20000 in
theorem ck_in3 : ∀ w ∈ u_ws "CheckSaver$Machine" ck_T3 16, w ∈ ck_GW := ck_gws [254, 256, 258, 260, 262, 264, 266, 268, 270, 272, 274, 276, 278, 280, 282, 284] (by decide +kernel) (by decide +kernel)
theorem ck_nm4 : ∀ a, a < 12 → ∀ b, b < 12 → a ≠ b → (ck_T4 a).2.1 ≠ (ck_T4 b).2.1 := by decide +kernel
theorem ck_tyok4 : ∀ k, k < 12 → parseFieldDescriptor (ck_T4 k).2.2.1 = some (ck_ty4 k) := by decide +kernel
set_option maxRecDepth 20000 in
theorem ck_in4 : ∀ w ∈ u_ws "CheckSaver$Program" ck_T4 12, w ∈ ck_GW := ck_gws [149, 151, 153, 155, 157, 159, 161, 163, 165, 167, 169, 171] (by decide +kernel) (by decide +kernel)
theorem ck_nm5 : ∀ a, a < 4 → ∀ b, b < 4 → a ≠ b → (ck_T5 a).2.1 ≠ (ck_T5 b).2.1 := by decide +kernel
theorem ck_tyok5 : ∀ k, k < 4 → parseFieldDescriptor (ck_T5 k).2.2.1 = some (ck_ty5 k) := by decide +kernel
set_option maxRecDepth 20000 in
theorem ck_in5 : ∀ w ∈ u_ws "CheckSaver" ck_T5 4, w ∈ ck_GW := ck_gws [291, 293, 295, 297] (by decide +kernel) (by decide +kernel)
theorem ck_nm6 : ∀ a, a < 32 → ∀ b, b < 32 → a ≠ b → (ck_T6 a).2.1 ≠ (ck_T6 b).2.1 := by decide +kernel
theorem ck_tyok6 : ∀ k, k < 32 → parseFieldDescriptor (ck_T6 k).2.2.1 = some (ck_ty6 k) := by decide +kernel
set_option maxRecDepth 20000 in
theorem ck_in6 : ∀ w ∈ u_ws "CheckSaverModel" ck_T6 32, w ∈ ck_GW := ck_gws [790, 792, 794, 796, 798, 800, 802, 804, 806, 808, 810, 812, 814, 816, 818, 820, 822, 824, 826, 828, 830, 832, 834, 836, 838, 840, 842, 844, 846, 848, 850, 852] (by decide +kernel) (by decide +kernel)
end
section
/-! The pure machine: ints are whole numbers, cells have fixed numbers, memory is a function of cell and place. A frame: pc, variables, operands, memory. -/
abbrev ck_PV : Type := Int ⊕ (Int × Nat × Nat)
abbrev ck_M : Type := Int → Int → Int
abbrev ck_Ls : Type := List (Option ck_PV)
abbrev ck_F : Type := Nat × ck_Ls × List ck_PV × ck_M
/-- an instruction: itself, a resolved number, a place in the tables' words, a constant, a switch's targets -/
abbrev ck_En : Type := Instr × Nat × Nat × Int × List Nat
/-- instructions by their places, in pieces: below which place a piece lies, and the piece -/
abbrev ck_Tb : Type := List (Nat × List (Nat × ck_En))
/-- name, code, variables, answer, static, how many parameters, the sort of its own objects, instructions -/
abbrev ck_MD : Type := MethodName × ByteArray × Nat × Option FieldType × Bool × Nat × Nat × ck_Tb
abbrev ck_mN (md : ck_MD) : MethodName := md.1
abbrev ck_mB (md : ck_MD) : ByteArray := md.2.1
abbrev ck_mL (md : ck_MD) : Nat := md.2.2.1
abbrev ck_mR (md : ck_MD) : Option FieldType := md.2.2.2.1
abbrev ck_mS (md : ck_MD) : Bool := md.2.2.2.2.1
abbrev ck_mP (md : ck_MD) : Nat := md.2.2.2.2.2.1
abbrev ck_mC (md : ck_MD) : Nat := md.2.2.2.2.2.2.1
abbrev ck_mT (md : ck_MD) : ck_Tb := md.2.2.2.2.2.2.2
end
section
/-- C.clear()I -/
def ct_Cs_clear : ck_Tb := [(16, [(0, .aload_n 0, 0, 0, 0, []),
  (1, .getfield 32, 503, 290, 0, []),
  (4, .getfield 56, 410, 143, 0, []),
  (7, .istore_n 1, 1, 0, 0, []),
  (8, .aload_n 0, 0, 0, 0, []),
  (9, .getfield 32, 503, 290, 0, []),
  (12, .invokevirtual 60, 1, 304, 0, []),
  (15, .aload_n 0, 0, 0, 0, [])]),
  (36, [(16, .getfield 20, 501, 288, 0, []),
  (19, .invokevirtual 63, 2, 308, 0, []),
  (22, .aload_n 0, 0, 0, 0, []),
  (23, .getfield 10, 500, 287, 0, []),
  (26, .invokevirtual 46, 3, 312, 0, []),
  (29, .aload_n 0, 0, 0, 0, []),
  (30, .getfield 25, 502, 289, 0, []),
  (33, .invokevirtual 49, 4, 316, 0, [])]),
  (100000, [(36, .iload_n 1, 1, 0, 0, []),
  (37, .ireturn, 0, 0, 0, [])])]
def cm_Cs_clear : ck_MD := (⟨"CheckSaver", "clear", "()I"⟩, prog_1_method_3_code, 2, some .int, false, 0, 5, ct_Cs_clear)
/-- C$Program.empty()V -/
def ct_Pr_empty : ck_Tb := [(100000, [(0, .aload_n 0, 0, 0, 0, []),
  (1, .iconst 0, 0, 0, 0, []),
  (2, .putfield 56, 410, 146, 0, []),
  (5, .aload_n 0, 0, 0, 0, []),
  (6, .iconst 0, 0, 0, 0, []),
  (7, .putfield 52, 411, 147, 0, []),
  (10, .return_, 0, 0, 0, [])])]
def cm_Pr_empty : ck_MD := (⟨"CheckSaver$Program", "empty", "()V"⟩, prog_6_method_7_code, 1, none, false, 0, 4, ct_Pr_empty)
/-- C$Inputs.empty()V -/
def ct_In_empty : ck_Tb := [(100000, [(0, .aload_n 0, 0, 0, 0, []),
  (1, .iconst 0, 0, 0, 0, []),
  (2, .putfield 19, 201, 95, 0, []),
  (5, .aload_n 0, 0, 0, 0, []),
  (6, .iconst 0, 0, 0, 0, []),
  (7, .putfield 15, 202, 96, 0, []),
  (10, .return_, 0, 0, 0, [])])]
def cm_In_empty : ck_MD := (⟨"CheckSaver$Inputs", "empty", "()V"⟩, prog_4_method_4_code, 1, none, false, 0, 2, ct_In_empty)
/-- C$Machine.leave()V -/
def ct_Ma_leave : ck_Tb := [(100000, [(0, .aload_n 0, 0, 0, 0, []),
  (1, .iconst 0, 0, 0, 0, []),
  (2, .putfield 46, 308, 244, 1, []),
  (5, .return_, 0, 0, 0, [])])]
def cm_Ma_leave : ck_MD := (⟨"CheckSaver$Machine", "leave", "()V"⟩, prog_5_method_2_code, 1, none, false, 0, 3, ct_Ma_leave)
/-- C$Finder.forgetAll()V -/
def ct_Fi_forgetAll : ck_Tb := [(100000, [(0, .aload_n 0, 0, 0, 0, []),
  (1, .iconst 0, 0, 0, 0, []),
  (2, .putfield 40, 106, 217, 1, []),
  (5, .return_, 0, 0, 0, [])])]
def cm_Fi_forgetAll : ck_MD := (⟨"CheckSaver$Finder", "forgetAll", "()V"⟩, prog_3_method_2_code, 1, none, false, 0, 1, ct_Fi_forgetAll)
/-- C.output(I)I -/
def ct_Cs_output : ck_Tb := [(18, [(0, .aload_n 0, 0, 0, 0, []),
  (1, .getfield 10, 500, 287, 0, []),
  (4, .getfield 113, 308, 245, 1, []),
  (7, .ifCond .eq 14, 21, 0, 0, []),
  (10, .aload_n 0, 0, 0, 0, []),
  (11, .getfield 10, 500, 287, 0, []),
  (14, .iload_n 1, 1, 0, 0, []),
  (15, .invokevirtual 123, 6, 324, 0, [])]),
  (100000, [(18, .goto 5, 23, 0, 0, []),
  (21, .ldc 109, 0, 332, 1000000000, []),
  (23, .ireturn, 0, 0, 0, [])])]
def cm_Cs_output : ck_MD := (⟨"CheckSaver", "output", "(I)I"⟩, prog_1_method_10_code, 2, some .int, false, 1, 5, ct_Cs_output)
/-- C$Machine.outputBack(I)I -/
def ct_Ma_outputBack : ck_Tb := [(15, [(0, .iload_n 1, 1, 0, 0, []),
  (1, .ifCond .lt 17, 18, 0, 0, []),
  (4, .iload_n 1, 1, 0, 0, []),
  (5, .bipush 16, 0, 0, 16, []),
  (7, .if_icmp .ge 11, 18, 0, 0, []),
  (10, .iload_n 1, 1, 0, 0, []),
  (11, .aload_n 0, 0, 0, 0, []),
  (12, .getfield 63, 314, 252, 0, [])]),
  (30, [(15, .if_icmp .lt 6, 21, 0, 0, []),
  (18, .ldc 159, 0, 328, 1000000000, []),
  (20, .ireturn, 0, 0, 0, []),
  (21, .aload_n 0, 0, 0, 0, []),
  (22, .getfield 43, 307, 243, 0, []),
  (25, .aload_n 0, 0, 0, 0, []),
  (26, .getfield 63, 314, 252, 0, []),
  (29, .iconst 1, 0, 0, 1, [])]),
  (100000, [(30, .isub, 0, 0, 0, []),
  (31, .iload_n 1, 1, 0, 0, []),
  (32, .isub, 0, 0, 0, []),
  (33, .bipush 16, 0, 0, 16, []),
  (35, .invokestatic 147, 7, 329, 0, []),
  (38, .iaload, 0, 0, 0, []),
  (39, .ireturn, 0, 0, 0, [])])]
def cm_Ma_outputBack : ck_MD := (⟨"CheckSaver$Machine", "outputBack", "(I)I"⟩, prog_5_method_18_code, 2, some .int, false, 1, 3, ct_Ma_outputBack)
/-- java/lang/Math.floorMod(II)I -/
def ct_Jm_floorMod : ck_Tb := [(10, [(0, .iload_n 0, 0, 0, 0, []),
  (1, .iload_n 1, 1, 0, 0, []),
  (2, .irem, 0, 0, 0, []),
  (3, .istore_n 2, 2, 0, 0, []),
  (4, .iload_n 0, 0, 0, 0, []),
  (5, .iload_n 1, 1, 0, 0, []),
  (6, .ixor, 0, 0, 0, []),
  (7, .ifCond .ge 11, 18, 0, 0, [])]),
  (100000, [(10, .iload_n 2, 2, 0, 0, []),
  (11, .ifCond .eq 7, 18, 0, 0, []),
  (14, .iload_n 2, 2, 0, 0, []),
  (15, .iload_n 1, 1, 0, 0, []),
  (16, .iadd, 0, 0, 0, []),
  (17, .ireturn, 0, 0, 0, []),
  (18, .iload_n 2, 2, 0, 0, []),
  (19, .ireturn, 0, 0, 0, [])])]
def cm_Jm_floorMod : ck_MD := (⟨"java/lang/Math", "floorMod", "(II)I"⟩, prog_14_method_50_code, 3, some .int, true, 2, 9, ct_Jm_floorMod)
/-- C.state(I)I -/
def ct_Cs_state : ck_Tb := [(18, [(0, .aload_n 0, 0, 0, 0, []),
  (1, .getfield 10, 500, 287, 0, []),
  (4, .getfield 113, 308, 245, 1, []),
  (7, .ifCond .eq 14, 21, 0, 0, []),
  (10, .aload_n 0, 0, 0, 0, []),
  (11, .getfield 10, 500, 287, 0, []),
  (14, .iload_n 1, 1, 0, 0, []),
  (15, .invokevirtual 126, 9, 337, 0, [])]),
  (100000, [(18, .goto 4, 22, 0, 0, []),
  (21, .iconst (-1), 0, 0, (-1), []),
  (22, .ireturn, 0, 0, 0, [])])]
def cm_Cs_state : ck_MD := (⟨"CheckSaver", "state", "(I)I"⟩, prog_1_method_11_code, 2, some .int, false, 1, 5, ct_Cs_state)
/-- C$Machine.tell(I)I -/
def ct_Ma_tell : ck_Tb := [(54, [(0, .iload_n 1, 1, 0, 0, []),
  (1, .tableswitch 78 0 6 #[43, 48, 53, 58, 63, 68, 73], 79, 43, 0, [44, 49, 54, 59, 64, 69, 74]),
  (44, .aload_n 0, 0, 0, 0, []),
  (45, .getfield 50, 310, 248, 0, []),
  (48, .ireturn, 0, 0, 0, []),
  (49, .aload_n 0, 0, 0, 0, []),
  (50, .getfield 74, 309, 246, 0, []),
  (53, .ireturn, 0, 0, 0, [])]),
  (68, [(54, .aload_n 0, 0, 0, 0, []),
  (55, .getfield 54, 311, 249, 0, []),
  (58, .ireturn, 0, 0, 0, []),
  (59, .aload_n 0, 0, 0, 0, []),
  (60, .getfield 57, 312, 250, 0, []),
  (63, .ireturn, 0, 0, 0, []),
  (64, .aload_n 0, 0, 0, 0, []),
  (65, .getfield 60, 313, 251, 0, [])]),
  (80, [(68, .ireturn, 0, 0, 0, []),
  (69, .aload_n 0, 0, 0, 0, []),
  (70, .getfield 63, 314, 252, 0, []),
  (73, .ireturn, 0, 0, 0, []),
  (74, .aload_n 0, 0, 0, 0, []),
  (75, .getfield 66, 315, 253, 0, []),
  (78, .ireturn, 0, 0, 0, []),
  (79, .iconst (-1), 0, 0, (-1), [])]),
  (100000, [(80, .ireturn, 0, 0, 0, [])])]
def cm_Ma_tell : ck_MD := (⟨"CheckSaver$Machine", "tell", "(I)I"⟩, prog_5_method_19_code, 2, some .int, false, 1, 3, ct_Ma_tell)
/-- C.number(I)I -/
def ct_Cs_number : ck_Tb := [(18, [(0, .aload_n 0, 0, 0, 0, []),
  (1, .getfield 10, 500, 287, 0, []),
  (4, .getfield 113, 308, 245, 1, []),
  (7, .ifCond .eq 22, 29, 0, 0, []),
  (10, .iload_n 1, 1, 0, 0, []),
  (11, .invokestatic 129, 11, 345, 0, []),
  (14, .ifCond .eq 15, 29, 0, 0, []),
  (17, .aload_n 0, 0, 0, 0, [])]),
  (100000, [(18, .getfield 10, 500, 287, 0, []),
  (21, .getfield 132, 303, 239, 0, []),
  (24, .iload_n 1, 1, 0, 0, []),
  (25, .iaload, 0, 0, 0, []),
  (26, .goto 5, 31, 0, 0, []),
  (29, .ldc 109, 0, 332, 1000000000, []),
  (31, .ireturn, 0, 0, 0, [])])]
def cm_Cs_number : ck_MD := (⟨"CheckSaver", "number", "(I)I"⟩, prog_1_method_12_code, 2, some .int, false, 1, 5, ct_Cs_number)
/-- C.isNumber(I)Z -/
def ct_Cs_isNumber : ck_Tb := [(15, [(0, .iload_n 0, 0, 0, 0, []),
  (1, .ifCond .lt 13, 14, 0, 0, []),
  (4, .iload_n 0, 0, 0, 0, []),
  (5, .bipush 10, 0, 0, 10, []),
  (7, .if_icmp .ge 7, 14, 0, 0, []),
  (10, .iconst 1, 0, 0, 1, []),
  (11, .goto 4, 15, 0, 0, []),
  (14, .iconst 0, 0, 0, 0, [])]),
  (100000, [(15, .ireturn, 0, 0, 0, [])])]
def cm_Cs_isNumber : ck_MD := (⟨"CheckSaver", "isNumber", "(I)Z"⟩, prog_1_method_17_code, 1, some .boolean, true, 1, 5, ct_Cs_isNumber)
/-- C.length(I)I -/
def ct_Cs_length : ck_Tb := [(18, [(0, .aload_n 0, 0, 0, 0, []),
  (1, .getfield 10, 500, 287, 0, []),
  (4, .getfield 113, 308, 245, 1, []),
  (7, .ifCond .eq 21, 28, 0, 0, []),
  (10, .iload_n 1, 1, 0, 0, []),
  (11, .invokestatic 135, 13, 352, 0, []),
  (14, .ifCond .eq 14, 28, 0, 0, []),
  (17, .aload_n 0, 0, 0, 0, [])]),
  (100000, [(18, .getfield 10, 500, 287, 0, []),
  (21, .iload_n 1, 1, 0, 0, []),
  (22, .invokevirtual 138, 14, 355, 0, []),
  (25, .goto 4, 29, 0, 0, []),
  (28, .iconst (-1), 0, 0, (-1), []),
  (29, .ireturn, 0, 0, 0, [])])]
def cm_Cs_length : ck_MD := (⟨"CheckSaver", "length", "(I)I"⟩, prog_1_method_13_code, 2, some .int, false, 1, 5, ct_Cs_length)
/-- C.isArray(I)Z -/
def ct_Cs_isArray : ck_Tb := [(14, [(0, .iload_n 0, 0, 0, 0, []),
  (1, .ifCond .lt 12, 13, 0, 0, []),
  (4, .iload_n 0, 0, 0, 0, []),
  (5, .iconst 4, 0, 0, 4, []),
  (6, .if_icmp .ge 7, 13, 0, 0, []),
  (9, .iconst 1, 0, 0, 1, []),
  (10, .goto 4, 14, 0, 0, []),
  (13, .iconst 0, 0, 0, 0, [])]),
  (100000, [(14, .ireturn, 0, 0, 0, [])])]
def cm_Cs_isArray : ck_MD := (⟨"CheckSaver", "isArray", "(I)Z"⟩, prog_1_method_18_code, 1, some .boolean, true, 1, 5, ct_Cs_isArray)
/-- C$Machine.lengthOf(I)I -/
def ct_Ma_lengthOf : ck_Tb := [(12, [(0, .aload_n 0, 0, 0, 0, []),
  (1, .getfield 34, 304, 240, 0, []),
  (4, .iload_n 1, 1, 0, 0, []),
  (5, .iaload, 0, 0, 0, []),
  (6, .istore_n 2, 2, 0, 0, []),
  (7, .iload_n 2, 2, 0, 0, []),
  (8, .iconst (-1), 0, 0, (-1), []),
  (9, .if_icmp .ne 7, 16, 0, 0, [])]),
  (100000, [(12, .iconst (-1), 0, 0, (-1), []),
  (13, .goto 9, 22, 0, 0, []),
  (16, .aload_n 0, 0, 0, 0, []),
  (17, .getfield 37, 305, 241, 0, []),
  (20, .iload_n 2, 2, 0, 0, []),
  (21, .iaload, 0, 0, 0, []),
  (22, .ireturn, 0, 0, 0, [])])]
def cm_Ma_lengthOf : ck_MD := (⟨"CheckSaver$Machine", "lengthOf", "(I)I"⟩, prog_5_method_14_code, 3, some .int, false, 1, 3, ct_Ma_lengthOf)
/-- C.place(II)I -/
def ct_Cs_place : ck_Tb := [(18, [(0, .aload_n 0, 0, 0, 0, []),
  (1, .getfield 10, 500, 287, 0, []),
  (4, .getfield 113, 308, 245, 1, []),
  (7, .ifCond .eq 22, 29, 0, 0, []),
  (10, .iload_n 1, 1, 0, 0, []),
  (11, .invokestatic 135, 13, 352, 0, []),
  (14, .ifCond .eq 15, 29, 0, 0, []),
  (17, .aload_n 0, 0, 0, 0, [])]),
  (100000, [(18, .getfield 10, 500, 287, 0, []),
  (21, .iload_n 1, 1, 0, 0, []),
  (22, .iload_n 2, 2, 0, 0, []),
  (23, .invokevirtual 141, 16, 363, 0, []),
  (26, .goto 5, 31, 0, 0, []),
  (29, .ldc 109, 0, 332, 1000000000, []),
  (31, .ireturn, 0, 0, 0, [])])]
def cm_Cs_place : ck_MD := (⟨"CheckSaver", "place", "(II)I"⟩, prog_1_method_14_code, 3, some .int, false, 2, 5, ct_Cs_place)
/-- C$Machine.placeOf(II)I -/
def ct_Ma_placeOf : ck_Tb := [(14, [(0, .aload_n 0, 0, 0, 0, []),
  (1, .iload_n 1, 1, 0, 0, []),
  (2, .iload_n 2, 2, 0, 0, []),
  (3, .invokevirtual 155, 17, 367, 0, []),
  (6, .ifCond .eq 22, 28, 0, 0, []),
  (9, .aload_n 0, 0, 0, 0, []),
  (10, .getfield 40, 306, 242, 0, []),
  (13, .aload_n 0, 0, 0, 0, [])]),
  (25, [(14, .getfield 34, 304, 240, 0, []),
  (17, .iload_n 1, 1, 0, 0, []),
  (18, .iaload, 0, 0, 0, []),
  (19, .bipush 40, 0, 0, 40, []),
  (21, .imul, 0, 0, 0, []),
  (22, .iload_n 2, 2, 0, 0, []),
  (23, .iadd, 0, 0, 0, []),
  (24, .iaload, 0, 0, 0, [])]),
  (100000, [(25, .goto 5, 30, 0, 0, []),
  (28, .ldc 159, 0, 328, 1000000000, []),
  (30, .ireturn, 0, 0, 0, [])])]
def cm_Ma_placeOf : ck_MD := (⟨"CheckSaver$Machine", "placeOf", "(II)I"⟩, prog_5_method_16_code, 3, some .int, false, 2, 3, ct_Ma_placeOf)
/-- C$Machine.hasPlace(II)Z -/
def ct_Ma_hasPlace : ck_Tb := [(14, [(0, .iload_n 2, 2, 0, 0, []),
  (1, .ifCond .lt 16, 17, 0, 0, []),
  (4, .iload_n 2, 2, 0, 0, []),
  (5, .aload_n 0, 0, 0, 0, []),
  (6, .iload_n 1, 1, 0, 0, []),
  (7, .invokevirtual 127, 14, 371, 0, []),
  (10, .if_icmp .ge 7, 17, 0, 0, []),
  (13, .iconst 1, 0, 0, 1, [])]),
  (100000, [(14, .goto 4, 18, 0, 0, []),
  (17, .iconst 0, 0, 0, 0, []),
  (18, .ireturn, 0, 0, 0, [])])]
def cm_Ma_hasPlace : ck_MD := (⟨"CheckSaver$Machine", "hasPlace", "(II)Z"⟩, prog_5_method_15_code, 3, some .boolean, false, 2, 3, ct_Ma_hasPlace)
/-- C.put(IIII)I -/
def ct_Cs_put : ck_Tb := [(15, [(0, .iload_n 1, 1, 0, 0, []),
  (1, .iload_n 2, 2, 0, 0, []),
  (2, .iload_n 3, 3, 0, 0, []),
  (3, .iload 4, 4, 0, 0, []),
  (5, .invokestatic 33, 19, 380, 0, []),
  (8, .ifCond .eq 14, 22, 0, 0, []),
  (11, .aload_n 0, 0, 0, 0, []),
  (12, .getfield 32, 503, 290, 0, [])]),
  (38, [(15, .iload_n 1, 1, 0, 0, []),
  (16, .invokevirtual 39, 21, 388, 0, []),
  (19, .ifCond .ne 11, 30, 0, 0, []),
  (25, .dup, 0, 0, 0, []),
  (30, .aload_n 0, 0, 0, 0, []),
  (31, .getfield 10, 500, 287, 0, []),
  (34, .invokevirtual 46, 3, 312, 0, []),
  (37, .aload_n 0, 0, 0, 0, [])]),
  (53, [(38, .getfield 25, 502, 289, 0, []),
  (41, .invokevirtual 49, 4, 316, 0, []),
  (44, .aload_n 0, 0, 0, 0, []),
  (45, .getfield 32, 503, 290, 0, []),
  (48, .iload_n 1, 1, 0, 0, []),
  (49, .iload_n 2, 2, 0, 0, []),
  (50, .iload_n 3, 3, 0, 0, []),
  (51, .iload 4, 4, 0, 0, [])]),
  (100000, [(53, .invokevirtual 52, 22, 455, 0, []),
  (56, .ireturn, 0, 0, 0, [])])]
def cm_Cs_put : ck_MD := (⟨"CheckSaver", "put", "(IIII)I"⟩, prog_1_method_2_code, 5, some .int, false, 4, 5, ct_Cs_put)
/-- C$Program.fits(IIII)Z -/
def ct_Pr_fits : ck_Tb := [(87, [(0, .iload_n 0, 0, 0, 0, []),
  (1, .tableswitch 341 0 13 #[71, 95, 122, 143, 167, 194, 221, 245, 266, 290, 323, 323, 290, 122], 342, 71, 0, [72, 96, 123, 144, 168, 195, 222, 246, 267, 291, 324, 324, 291, 123]),
  (72, .iload_n 1, 1, 0, 0, []),
  (76, .ifCond .eq 18, 94, 0, 0, []),
  (79, .iload_n 2, 2, 0, 0, []),
  (80, .invokestatic 46, 20, 384, 0, []),
  (83, .ifCond .eq 11, 94, 0, 0, []),
  (86, .iload_n 3, 3, 0, 0, [])]),
  (107, [(87, .ifCond .ne 7, 94, 0, 0, []),
  (90, .iconst 1, 0, 0, 1, []),
  (91, .goto 4, 95, 0, 0, []),
  (94, .iconst 0, 0, 0, 0, []),
  (95, .ireturn, 0, 0, 0, []),
  (96, .iload_n 1, 1, 0, 0, []),
  (100, .ifCond .eq 21, 121, 0, 0, []),
  (103, .iload_n 2, 2, 0, 0, [])]),
  (123, [(107, .ifCond .eq 14, 121, 0, 0, []),
  (110, .iload_n 3, 3, 0, 0, []),
  (111, .invokestatic 46, 20, 384, 0, []),
  (114, .ifCond .eq 7, 121, 0, 0, []),
  (117, .iconst 1, 0, 0, 1, []),
  (118, .goto 4, 122, 0, 0, []),
  (121, .iconst 0, 0, 0, 0, []),
  (122, .ireturn, 0, 0, 0, [])]),
  (142, [(123, .iload_n 1, 1, 0, 0, []),
  (127, .ifCond .eq 15, 142, 0, 0, []),
  (130, .iload_n 2, 2, 0, 0, []),
  (131, .ifCond .ne 11, 142, 0, 0, []),
  (134, .iload_n 3, 3, 0, 0, []),
  (135, .ifCond .ne 7, 142, 0, 0, []),
  (138, .iconst 1, 0, 0, 1, []),
  (139, .goto 4, 143, 0, 0, [])]),
  (162, [(142, .iconst 0, 0, 0, 0, []),
  (143, .ireturn, 0, 0, 0, []),
  (144, .iload_n 1, 1, 0, 0, []),
  (148, .ifCond .eq 18, 166, 0, 0, []),
  (151, .iload_n 2, 2, 0, 0, []),
  (155, .ifCond .eq 11, 166, 0, 0, []),
  (158, .iload_n 3, 3, 0, 0, []),
  (159, .ifCond .ne 7, 166, 0, 0, [])]),
  (182, [(162, .iconst 1, 0, 0, 1, []),
  (163, .goto 4, 167, 0, 0, []),
  (166, .iconst 0, 0, 0, 0, []),
  (167, .ireturn, 0, 0, 0, []),
  (168, .iload_n 1, 1, 0, 0, []),
  (172, .ifCond .eq 21, 193, 0, 0, []),
  (175, .iload_n 2, 2, 0, 0, []),
  (179, .ifCond .eq 14, 193, 0, 0, [])]),
  (202, [(182, .iload_n 3, 3, 0, 0, []),
  (186, .ifCond .eq 7, 193, 0, 0, []),
  (189, .iconst 1, 0, 0, 1, []),
  (190, .goto 4, 194, 0, 0, []),
  (193, .iconst 0, 0, 0, 0, []),
  (194, .ireturn, 0, 0, 0, []),
  (195, .iload_n 1, 1, 0, 0, []),
  (199, .ifCond .eq 21, 220, 0, 0, [])]),
  (222, [(202, .iload_n 2, 2, 0, 0, []),
  (206, .ifCond .eq 14, 220, 0, 0, []),
  (209, .iload_n 3, 3, 0, 0, []),
  (213, .ifCond .eq 7, 220, 0, 0, []),
  (216, .iconst 1, 0, 0, 1, []),
  (217, .goto 4, 221, 0, 0, []),
  (220, .iconst 0, 0, 0, 0, []),
  (221, .ireturn, 0, 0, 0, [])]),
  (244, [(222, .iload_n 1, 1, 0, 0, []),
  (226, .ifCond .eq 18, 244, 0, 0, []),
  (229, .iload_n 2, 2, 0, 0, []),
  (233, .ifCond .eq 11, 244, 0, 0, []),
  (236, .iload_n 3, 3, 0, 0, []),
  (237, .ifCond .ne 7, 244, 0, 0, []),
  (240, .iconst 1, 0, 0, 1, []),
  (241, .goto 4, 245, 0, 0, [])]),
  (261, [(244, .iconst 0, 0, 0, 0, []),
  (245, .ireturn, 0, 0, 0, []),
  (246, .iload_n 1, 1, 0, 0, []),
  (250, .ifCond .eq 15, 265, 0, 0, []),
  (253, .iload_n 2, 2, 0, 0, []),
  (254, .ifCond .ne 11, 265, 0, 0, []),
  (257, .iload_n 3, 3, 0, 0, []),
  (258, .ifCond .ne 7, 265, 0, 0, [])]),
  (281, [(261, .iconst 1, 0, 0, 1, []),
  (262, .goto 4, 266, 0, 0, []),
  (265, .iconst 0, 0, 0, 0, []),
  (266, .ireturn, 0, 0, 0, []),
  (267, .iload_n 1, 1, 0, 0, []),
  (271, .ifCond .eq 18, 289, 0, 0, []),
  (274, .iload_n 2, 2, 0, 0, []),
  (278, .ifCond .eq 11, 289, 0, 0, [])]),
  (298, [(281, .iload_n 3, 3, 0, 0, []),
  (282, .ifCond .ne 7, 289, 0, 0, []),
  (285, .iconst 1, 0, 0, 1, []),
  (286, .goto 4, 290, 0, 0, []),
  (289, .iconst 0, 0, 0, 0, []),
  (290, .ireturn, 0, 0, 0, []),
  (291, .iload_n 1, 1, 0, 0, []),
  (295, .ifCond .eq 27, 322, 0, 0, [])]),
  (318, [(298, .iload_n 2, 2, 0, 0, []),
  (302, .ifCond .ne 9, 311, 0, 0, []),
  (305, .iload_n 2, 2, 0, 0, []),
  (306, .bipush 10, 0, 0, 10, []),
  (308, .if_icmp .ne 14, 322, 0, 0, []),
  (311, .iload_n 3, 3, 0, 0, []),
  (312, .invokestatic 46, 20, 384, 0, []),
  (315, .ifCond .eq 7, 322, 0, 0, [])]),
  (332, [(318, .iconst 1, 0, 0, 1, []),
  (319, .goto 4, 323, 0, 0, []),
  (322, .iconst 0, 0, 0, 0, []),
  (323, .ireturn, 0, 0, 0, []),
  (324, .iload_n 1, 1, 0, 0, []),
  (325, .ifCond .ne 15, 340, 0, 0, []),
  (328, .iload_n 2, 2, 0, 0, []),
  (329, .ifCond .ne 11, 340, 0, 0, [])]),
  (100000, [(332, .iload_n 3, 3, 0, 0, []),
  (333, .ifCond .ne 7, 340, 0, 0, []),
  (336, .iconst 1, 0, 0, 1, []),
  (337, .goto 4, 341, 0, 0, []),
  (340, .iconst 0, 0, 0, 0, []),
  (341, .ireturn, 0, 0, 0, []),
  (342, .iconst 0, 0, 0, 0, []),
  (343, .ireturn, 0, 0, 0, [])])]
def cm_Pr_fits : ck_MD := (⟨"CheckSaver$Program", "fits", "(IIII)Z"⟩, prog_6_method_2_code, 4, some .boolean, true, 4, 4, ct_Pr_fits)
/-- C$Program.isConstant(I)Z -/
def ct_Pr_isConstant : ck_Tb := [(16, [(0, .iload_n 0, 0, 0, 0, []),
  (1, .bipush (-100), 0, 0, (-100), []),
  (3, .if_icmp .lt 13, 16, 0, 0, []),
  (6, .iload_n 0, 0, 0, 0, []),
  (7, .bipush 100, 0, 0, 100, []),
  (9, .if_icmp .gt 7, 16, 0, 0, []),
  (12, .iconst 1, 0, 0, 1, []),
  (13, .goto 4, 17, 0, 0, [])]),
  (100000, [(16, .iconst 0, 0, 0, 0, []),
  (17, .ireturn, 0, 0, 0, [])])]
def cm_Pr_isConstant : ck_MD := (⟨"CheckSaver$Program", "isConstant", "(I)Z"⟩, prog_6_method_3_code, 1, some .boolean, true, 1, 4, ct_Pr_isConstant)
/-- C$Program.hasOwner(I)Z -/
def ct_Pr_hasOwner : ck_Tb := [(14, [(0, .iload_n 1, 1, 0, 0, []),
  (1, .bipush 10, 0, 0, 10, []),
  (3, .if_icmp .eq 11, 14, 0, 0, []),
  (6, .iload_n 1, 1, 0, 0, []),
  (7, .bipush 11, 0, 0, 11, []),
  (9, .if_icmp .eq 5, 14, 0, 0, []),
  (12, .iconst 1, 0, 0, 1, []),
  (13, .ireturn, 0, 0, 0, [])]),
  (28, [(14, .aload_n 0, 0, 0, 0, []),
  (15, .getfield 52, 411, 147, 0, []),
  (18, .ifCond .ne 5, 23, 0, 0, []),
  (21, .iconst 0, 0, 0, 0, []),
  (22, .ireturn, 0, 0, 0, []),
  (23, .aload_n 0, 0, 0, 0, []),
  (24, .getfield 39, 409, 142, 0, []),
  (27, .aload_n 0, 0, 0, 0, [])]),
  (41, [(28, .getfield 52, 411, 147, 0, []),
  (31, .iconst 1, 0, 0, 1, []),
  (32, .isub, 0, 0, 0, []),
  (33, .iaload, 0, 0, 0, []),
  (34, .istore_n 2, 2, 0, 0, []),
  (35, .iload_n 1, 1, 0, 0, []),
  (36, .bipush 11, 0, 0, 11, []),
  (38, .if_icmp .eq 24, 62, 0, 0, [])]),
  (56, [(41, .aload_n 0, 0, 0, 0, []),
  (42, .getfield 9, 400, 117, 0, []),
  (45, .iload_n 2, 2, 0, 0, []),
  (46, .iaload, 0, 0, 0, []),
  (47, .bipush 9, 0, 0, 9, []),
  (49, .if_icmp .ne 17, 66, 0, 0, []),
  (52, .aload_n 0, 0, 0, 0, []),
  (53, .getfield 27, 405, 132, 0, [])]),
  (100000, [(56, .iload_n 2, 2, 0, 0, []),
  (57, .iaload, 0, 0, 0, []),
  (58, .iconst (-1), 0, 0, (-1), []),
  (59, .if_icmp .ne 7, 66, 0, 0, []),
  (62, .iconst 1, 0, 0, 1, []),
  (63, .goto 4, 67, 0, 0, []),
  (66, .iconst 0, 0, 0, 0, []),
  (67, .ireturn, 0, 0, 0, [])])]
def cm_Pr_hasOwner : ck_MD := (⟨"CheckSaver$Program", "hasOwner", "(I)Z"⟩, prog_6_method_4_code, 3, some .boolean, false, 1, 4, ct_Pr_hasOwner)
/-- C$Program.append(IIII)I -/
def ct_Pr_append : ck_Tb := [(16, [(0, .iload_n 1, 1, 0, 0, []),
  (1, .bipush 9, 0, 0, 9, []),
  (3, .if_icmp .eq 9, 12, 0, 0, []),
  (6, .iload_n 1, 1, 0, 0, []),
  (7, .bipush 12, 0, 0, 12, []),
  (9, .if_icmp .ne 7, 16, 0, 0, []),
  (12, .iconst 1, 0, 0, 1, []),
  (13, .goto 4, 17, 0, 0, [])]),
  (33, [(16, .iconst 0, 0, 0, 0, []),
  (17, .istore 5, 5, 0, 0, []),
  (19, .aload_n 0, 0, 0, 0, []),
  (20, .getfield 56, 410, 146, 0, []),
  (23, .bipush 64, 0, 0, 64, []),
  (25, .if_icmp .eq 17, 42, 0, 0, []),
  (28, .iload 5, 5, 0, 0, []),
  (30, .ifCond .eq 14, 44, 0, 0, [])]),
  (48, [(33, .aload_n 0, 0, 0, 0, []),
  (34, .getfield 52, 411, 147, 0, []),
  (37, .bipush 8, 0, 0, 8, []),
  (39, .if_icmp .ne 5, 44, 0, 0, []),
  (42, .iconst (-1), 0, 0, (-1), []),
  (43, .ireturn, 0, 0, 0, []),
  (44, .aload_n 0, 0, 0, 0, []),
  (45, .getfield 56, 410, 146, 0, [])]),
  (62, [(48, .istore 6, 6, 0, 0, []),
  (50, .aload_n 0, 0, 0, 0, []),
  (51, .getfield 9, 400, 117, 0, []),
  (54, .iload 6, 6, 0, 0, []),
  (56, .iload_n 1, 1, 0, 0, []),
  (57, .iastore, 0, 0, 0, []),
  (58, .aload_n 0, 0, 0, 0, []),
  (59, .getfield 15, 401, 120, 0, [])]),
  (74, [(62, .iload 6, 6, 0, 0, []),
  (64, .iload_n 2, 2, 0, 0, []),
  (65, .iastore, 0, 0, 0, []),
  (66, .aload_n 0, 0, 0, 0, []),
  (67, .getfield 18, 402, 123, 0, []),
  (70, .iload 6, 6, 0, 0, []),
  (72, .iload_n 3, 3, 0, 0, []),
  (73, .iastore, 0, 0, 0, [])]),
  (89, [(74, .aload_n 0, 0, 0, 0, []),
  (75, .getfield 21, 403, 126, 0, []),
  (78, .iload 6, 6, 0, 0, []),
  (80, .iload 4, 4, 0, 0, []),
  (82, .iastore, 0, 0, 0, []),
  (83, .aload_n 0, 0, 0, 0, []),
  (84, .getfield 27, 405, 132, 0, []),
  (87, .iload 6, 6, 0, 0, [])]),
  (104, [(89, .iconst (-1), 0, 0, (-1), []),
  (90, .iastore, 0, 0, 0, []),
  (91, .iload 5, 5, 0, 0, []),
  (93, .ifCond .eq 27, 120, 0, 0, []),
  (96, .aload_n 0, 0, 0, 0, []),
  (97, .getfield 39, 409, 142, 0, []),
  (100, .aload_n 0, 0, 0, 0, []),
  (101, .getfield 52, 411, 147, 0, [])]),
  (117, [(104, .iload 6, 6, 0, 0, []),
  (106, .iastore, 0, 0, 0, []),
  (107, .aload_n 0, 0, 0, 0, []),
  (108, .dup, 0, 0, 0, []),
  (109, .getfield 52, 411, 147, 0, []),
  (112, .iconst 1, 0, 0, 1, []),
  (113, .iadd, 0, 0, 0, []),
  (114, .putfield 52, 411, 147, 0, [])]),
  (133, [(117, .goto 56, 173, 0, 0, []),
  (120, .iload_n 1, 1, 0, 0, []),
  (121, .bipush 10, 0, 0, 10, []),
  (123, .if_icmp .ne 38, 161, 0, 0, []),
  (126, .aload_n 0, 0, 0, 0, []),
  (127, .getfield 24, 404, 129, 0, []),
  (130, .iload 6, 6, 0, 0, []),
  (132, .aload_n 0, 0, 0, 0, [])]),
  (145, [(133, .getfield 39, 409, 142, 0, []),
  (136, .aload_n 0, 0, 0, 0, []),
  (137, .getfield 52, 411, 147, 0, []),
  (140, .iconst 1, 0, 0, 1, []),
  (141, .isub, 0, 0, 0, []),
  (142, .iaload, 0, 0, 0, []),
  (143, .iastore, 0, 0, 0, []),
  (144, .aload_n 0, 0, 0, 0, [])]),
  (161, [(145, .getfield 27, 405, 132, 0, []),
  (148, .aload_n 0, 0, 0, 0, []),
  (149, .getfield 24, 404, 129, 0, []),
  (152, .iload 6, 6, 0, 0, []),
  (154, .iaload, 0, 0, 0, []),
  (155, .iload 6, 6, 0, 0, []),
  (157, .iastore, 0, 0, 0, []),
  (158, .goto 15, 173, 0, 0, [])]),
  (175, [(161, .iload_n 1, 1, 0, 0, []),
  (162, .bipush 11, 0, 0, 11, []),
  (164, .if_icmp .ne 9, 173, 0, 0, []),
  (167, .aload_n 0, 0, 0, 0, []),
  (168, .iload 6, 6, 0, 0, []),
  (170, .invokevirtual 59, 23, 459, 0, []),
  (173, .aload_n 0, 0, 0, 0, []),
  (174, .dup, 0, 0, 0, [])]),
  (100000, [(175, .getfield 56, 410, 146, 0, []),
  (178, .iconst 1, 0, 0, 1, []),
  (179, .iadd, 0, 0, 0, []),
  (180, .putfield 56, 410, 146, 0, []),
  (183, .aload_n 0, 0, 0, 0, []),
  (184, .getfield 56, 410, 146, 0, []),
  (187, .ireturn, 0, 0, 0, [])])]
def cm_Pr_append : ck_MD := (⟨"CheckSaver$Program", "append", "(IIII)I"⟩, prog_6_method_5_code, 7, some .int, false, 4, 4, ct_Pr_append)
/-- C$Program.close(I)V -/
def ct_Pr_close : ck_Tb := [(14, [(0, .aload_n 0, 0, 0, 0, []),
  (1, .dup, 0, 0, 0, []),
  (2, .getfield 52, 411, 147, 0, []),
  (5, .iconst 1, 0, 0, 1, []),
  (6, .isub, 0, 0, 0, []),
  (7, .putfield 52, 411, 147, 0, []),
  (10, .aload_n 0, 0, 0, 0, []),
  (11, .getfield 39, 409, 142, 0, [])]),
  (26, [(14, .aload_n 0, 0, 0, 0, []),
  (15, .getfield 52, 411, 147, 0, []),
  (18, .iaload, 0, 0, 0, []),
  (19, .istore_n 2, 2, 0, 0, []),
  (20, .aload_n 0, 0, 0, 0, []),
  (21, .getfield 24, 404, 129, 0, []),
  (24, .iload_n 1, 1, 0, 0, []),
  (25, .iload_n 2, 2, 0, 0, [])]),
  (36, [(26, .iastore, 0, 0, 0, []),
  (27, .aload_n 0, 0, 0, 0, []),
  (28, .getfield 30, 406, 135, 0, []),
  (31, .iload_n 2, 2, 0, 0, []),
  (32, .iload_n 1, 1, 0, 0, []),
  (33, .iastore, 0, 0, 0, []),
  (34, .iconst 0, 0, 0, 0, []),
  (35, .istore_n 3, 3, 0, 0, [])]),
  (47, [(36, .iconst 0, 0, 0, 0, []),
  (37, .istore 4, 4, 0, 0, []),
  (39, .iload_n 2, 2, 0, 0, []),
  (40, .iconst 1, 0, 0, 1, []),
  (41, .iadd, 0, 0, 0, []),
  (42, .istore 5, 5, 0, 0, []),
  (44, .iload 5, 5, 0, 0, []),
  (46, .iload_n 1, 1, 0, 0, [])]),
  (64, [(47, .if_icmp .ge 83, 130, 0, 0, []),
  (50, .aload_n 0, 0, 0, 0, []),
  (51, .getfield 9, 400, 117, 0, []),
  (54, .iload 5, 5, 0, 0, []),
  (56, .iaload, 0, 0, 0, []),
  (57, .ifCond .lt 29, 86, 0, 0, []),
  (60, .aload_n 0, 0, 0, 0, []),
  (61, .getfield 9, 400, 117, 0, [])]),
  (77, [(64, .iload 5, 5, 0, 0, []),
  (66, .iaload, 0, 0, 0, []),
  (67, .iconst 4, 0, 0, 4, []),
  (68, .if_icmp .gt 18, 86, 0, 0, []),
  (71, .iload_n 3, 3, 0, 0, []),
  (72, .iconst 1, 0, 0, 1, []),
  (73, .aload_n 0, 0, 0, 0, []),
  (74, .getfield 15, 401, 120, 0, [])]),
  (90, [(77, .iload 5, 5, 0, 0, []),
  (79, .iaload, 0, 0, 0, []),
  (80, .ishl, 0, 0, 0, []),
  (81, .ior, 0, 0, 0, []),
  (82, .istore_n 3, 3, 0, 0, []),
  (83, .goto 41, 124, 0, 0, []),
  (86, .aload_n 0, 0, 0, 0, []),
  (87, .getfield 9, 400, 117, 0, [])]),
  (105, [(90, .iload 5, 5, 0, 0, []),
  (92, .iaload, 0, 0, 0, []),
  (93, .bipush 6, 0, 0, 6, []),
  (95, .if_icmp .lt 29, 124, 0, 0, []),
  (98, .aload_n 0, 0, 0, 0, []),
  (99, .getfield 9, 400, 117, 0, []),
  (102, .iload 5, 5, 0, 0, []),
  (104, .iaload, 0, 0, 0, [])]),
  (120, [(105, .bipush 8, 0, 0, 8, []),
  (107, .if_icmp .gt 17, 124, 0, 0, []),
  (110, .iload 4, 4, 0, 0, []),
  (112, .iconst 1, 0, 0, 1, []),
  (113, .aload_n 0, 0, 0, 0, []),
  (114, .getfield 15, 401, 120, 0, []),
  (117, .iload 5, 5, 0, 0, []),
  (119, .iaload, 0, 0, 0, [])]),
  (135, [(120, .ishl, 0, 0, 0, []),
  (121, .ior, 0, 0, 0, []),
  (122, .istore 4, 4, 0, 0, []),
  (124, .iinc 5 1, 5, 0, 1, []),
  (127, .goto (-83), 44, 0, 0, []),
  (130, .aload_n 0, 0, 0, 0, []),
  (131, .getfield 33, 407, 138, 0, []),
  (134, .iload_n 2, 2, 0, 0, [])]),
  (100000, [(135, .iload_n 3, 3, 0, 0, []),
  (136, .iastore, 0, 0, 0, []),
  (137, .aload_n 0, 0, 0, 0, []),
  (138, .getfield 36, 408, 140, 0, []),
  (141, .iload_n 2, 2, 0, 0, []),
  (142, .iload 4, 4, 0, 0, []),
  (144, .iastore, 0, 0, 0, []),
  (145, .return_, 0, 0, 0, [])])]
def cm_Pr_close : ck_MD := (⟨"CheckSaver$Program", "close", "(I)V"⟩, prog_6_method_6_code, 6, none, false, 1, 4, ct_Pr_close)
/-- C.give(I)I -/
def ct_Cs_give : ck_Tb := [(21, [(0, .iload_n 1, 1, 0, 0, []),
  (1, .ldc 66, 0, 470, (-1000000), []),
  (3, .if_icmp .lt 9, 12, 0, 0, []),
  (6, .iload_n 1, 1, 0, 0, []),
  (7, .ldc 67, 0, 471, 1000000, []),
  (9, .if_icmp .le 11, 20, 0, 0, []),
  (15, .dup, 0, 0, 0, []),
  (20, .aload_n 0, 0, 0, 0, [])]),
  (100000, [(21, .getfield 20, 501, 288, 0, []),
  (24, .iload_n 1, 1, 0, 0, []),
  (25, .invokevirtual 68, 25, 472, 0, []),
  (28, .ireturn, 0, 0, 0, [])])]
def cm_Cs_give : ck_MD := (⟨"CheckSaver", "give", "(I)I"⟩, prog_1_method_4_code, 2, some .int, false, 1, 5, ct_Cs_give)
/-- C$Inputs.append(I)I -/
def ct_In_append : ck_Tb := [(15, [(0, .aload_n 0, 0, 0, 0, []),
  (1, .getfield 15, 202, 96, 0, []),
  (4, .bipush 64, 0, 0, 64, []),
  (6, .if_icmp .ne 5, 11, 0, 0, []),
  (9, .iconst (-1), 0, 0, (-1), []),
  (10, .ireturn, 0, 0, 0, []),
  (11, .aload_n 0, 0, 0, 0, []),
  (12, .getfield 9, 200, 94, 0, [])]),
  (28, [(15, .aload_n 0, 0, 0, 0, []),
  (16, .getfield 19, 201, 95, 0, []),
  (19, .aload_n 0, 0, 0, 0, []),
  (20, .getfield 15, 202, 96, 0, []),
  (23, .iadd, 0, 0, 0, []),
  (24, .bipush 64, 0, 0, 64, []),
  (26, .irem, 0, 0, 0, []),
  (27, .iload_n 1, 1, 0, 0, [])]),
  (40, [(28, .iastore, 0, 0, 0, []),
  (29, .aload_n 0, 0, 0, 0, []),
  (30, .dup, 0, 0, 0, []),
  (31, .getfield 15, 202, 96, 0, []),
  (34, .iconst 1, 0, 0, 1, []),
  (35, .iadd, 0, 0, 0, []),
  (36, .putfield 15, 202, 96, 0, []),
  (39, .aload_n 0, 0, 0, 0, [])]),
  (100000, [(40, .getfield 15, 202, 96, 0, []),
  (43, .ireturn, 0, 0, 0, [])])]
def cm_In_append : ck_MD := (⟨"CheckSaver$Inputs", "append", "(I)I"⟩, prog_4_method_2_code, 2, some .int, false, 1, 2, ct_In_append)
/-- C.start()I -/
def ct_Cs_start : ck_Tb := [(25, [(0, .aload_n 0, 0, 0, 0, []),
  (1, .getfield 32, 503, 290, 0, []),
  (4, .getfield 71, 411, 148, 0, []),
  (7, .ifCond .le 11, 18, 0, 0, []),
  (13, .dup, 0, 0, 0, []),
  (18, .aload_n 0, 0, 0, 0, []),
  (19, .getfield 25, 502, 289, 0, []),
  (22, .invokevirtual 77, 27, 499, 0, [])]),
  (100000, [(25, .aload_n 0, 0, 0, 0, []),
  (26, .getfield 10, 500, 287, 0, []),
  (29, .invokevirtual 80, 60, 635, 0, []),
  (32, .aload_n 0, 0, 0, 0, []),
  (33, .getfield 25, 502, 289, 0, []),
  (36, .invokevirtual 83, 61, 639, 0, []),
  (39, .ireturn, 0, 0, 0, [])])]
def cm_Cs_start : ck_MD := (⟨"CheckSaver", "start", "()I"⟩, prog_1_method_5_code, 1, some .int, false, 0, 5, ct_Cs_start)
/-- C$Finder.work()V -/
def ct_Fi_work : ck_Tb := [(14, [(0, .aload_n 0, 0, 0, 0, []),
  (1, .getfield 40, 106, 217, 1, []),
  (4, .ifCond .eq 4, 8, 0, 0, []),
  (7, .return_, 0, 0, 0, []),
  (8, .aload_n 0, 0, 0, 0, []),
  (9, .invokevirtual 44, 28, 503, 0, []),
  (12, .iconst 0, 0, 0, 0, []),
  (13, .istore_n 1, 1, 0, 0, [])]),
  (28, [(14, .iconst 0, 0, 0, 0, []),
  (15, .istore_n 2, 2, 0, 0, []),
  (16, .iload_n 1, 1, 0, 0, []),
  (17, .aload_n 0, 0, 0, 0, []),
  (18, .getfield 12, 100, 206, 0, []),
  (21, .getfield 47, 410, 144, 0, []),
  (24, .if_icmp .ge 61, 85, 0, 0, []),
  (27, .iload_n 2, 2, 0, 0, [])]),
  (43, [(28, .ldc 51, 0, 507, 2000000000, []),
  (30, .if_icmp .ge 55, 85, 0, 0, []),
  (33, .aload_n 0, 0, 0, 0, []),
  (34, .getfield 32, 104, 215, 0, []),
  (37, .iload_n 1, 1, 0, 0, []),
  (38, .baload, 0, 0, 0, []),
  (39, .ifCond .eq 15, 54, 0, 0, []),
  (42, .aload_n 0, 0, 0, 0, [])]),
  (57, [(43, .iload_n 1, 1, 0, 0, []),
  (44, .invokevirtual 52, 29, 508, 0, []),
  (47, .ifCond .eq 7, 54, 0, 0, []),
  (50, .iconst 1, 0, 0, 1, []),
  (51, .goto 4, 55, 0, 0, []),
  (54, .iconst 0, 0, 0, 0, []),
  (55, .istore_n 3, 3, 0, 0, []),
  (56, .aload_n 0, 0, 0, 0, [])]),
  (69, [(57, .getfield 32, 104, 215, 0, []),
  (60, .iload_n 1, 1, 0, 0, []),
  (61, .iconst 0, 0, 0, 0, []),
  (62, .bastore, 0, 0, 0, []),
  (63, .iload_n 3, 3, 0, 0, []),
  (64, .ifCond .eq 11, 75, 0, 0, []),
  (67, .aload_n 0, 0, 0, 0, []),
  (68, .iload_n 1, 1, 0, 0, [])]),
  (85, [(69, .invokevirtual 56, 57, 624, 0, []),
  (72, .goto 6, 78, 0, 0, []),
  (75, .iload_n 1, 1, 0, 0, []),
  (76, .iconst 1, 0, 0, 1, []),
  (77, .iadd, 0, 0, 0, []),
  (78, .istore_n 1, 1, 0, 0, []),
  (79, .iinc 2 1, 2, 0, 1, []),
  (82, .goto (-66), 16, 0, 0, [])]),
  (99, [(85, .iconst 0, 0, 0, 0, []),
  (86, .istore_n 2, 2, 0, 0, []),
  (87, .iload_n 2, 2, 0, 0, []),
  (88, .aload_n 0, 0, 0, 0, []),
  (89, .getfield 12, 100, 206, 0, []),
  (92, .getfield 47, 410, 144, 0, []),
  (95, .if_icmp .ge 20, 115, 0, 0, []),
  (98, .aload_n 0, 0, 0, 0, [])]),
  (115, [(99, .getfield 24, 102, 211, 0, []),
  (102, .iload_n 2, 2, 0, 0, []),
  (103, .aload_n 0, 0, 0, 0, []),
  (104, .iload_n 2, 2, 0, 0, []),
  (105, .invokevirtual 60, 58, 628, 0, []),
  (108, .iastore, 0, 0, 0, []),
  (109, .iinc 2 1, 2, 0, 1, []),
  (112, .goto (-25), 87, 0, 0, [])]),
  (100000, [(115, .aload_n 0, 0, 0, 0, []),
  (116, .iconst 1, 0, 0, 1, []),
  (117, .putfield 40, 106, 217, 1, []),
  (120, .return_, 0, 0, 0, [])])]
def cm_Fi_work : ck_MD := (⟨"CheckSaver$Finder", "work", "()V"⟩, prog_3_method_3_code, 4, none, false, 0, 1, ct_Fi_work)
/-- C$Finder.markAllDue()V -/
def ct_Fi_markAllDue : ck_Tb := [(14, [(0, .iconst 0, 0, 0, 0, []),
  (1, .istore_n 1, 1, 0, 0, []),
  (2, .iload_n 1, 1, 0, 0, []),
  (3, .aload_n 0, 0, 0, 0, []),
  (4, .getfield 12, 100, 206, 0, []),
  (7, .getfield 47, 410, 144, 0, []),
  (10, .if_icmp .ge 23, 33, 0, 0, []),
  (13, .aload_n 0, 0, 0, 0, [])]),
  (26, [(14, .getfield 28, 103, 214, 0, []),
  (17, .iload_n 1, 1, 0, 0, []),
  (18, .iconst 0, 0, 0, 0, []),
  (19, .bastore, 0, 0, 0, []),
  (20, .aload_n 0, 0, 0, 0, []),
  (21, .getfield 32, 104, 215, 0, []),
  (24, .iload_n 1, 1, 0, 0, []),
  (25, .iconst 1, 0, 0, 1, [])]),
  (100000, [(26, .bastore, 0, 0, 0, []),
  (27, .iinc 1 1, 1, 0, 1, []),
  (30, .goto (-28), 2, 0, 0, []),
  (33, .return_, 0, 0, 0, [])])]
def cm_Fi_markAllDue : ck_MD := (⟨"CheckSaver$Finder", "markAllDue", "()V"⟩, prog_3_method_4_code, 2, none, false, 0, 1, ct_Fi_markAllDue)
/-- C$Finder.arrive(I)Z -/
def ct_Fi_arrive : ck_Tb := [(16, [(0, .iload_n 1, 1, 0, 0, []),
  (1, .ifCond .ne 13, 14, 0, 0, []),
  (4, .aload_n 0, 0, 0, 0, []),
  (5, .getfield 36, 105, 216, 0, []),
  (8, .invokevirtual 68, 30, 512, 0, []),
  (11, .goto 10, 21, 0, 0, []),
  (14, .aload_n 0, 0, 0, 0, []),
  (15, .iload_n 1, 1, 0, 0, [])]),
  (30, [(16, .iconst 1, 0, 0, 1, []),
  (17, .isub, 0, 0, 0, []),
  (18, .invokevirtual 71, 32, 521, 0, []),
  (21, .aload_n 0, 0, 0, 0, []),
  (22, .getfield 12, 100, 206, 0, []),
  (25, .getfield 75, 400, 119, 0, []),
  (28, .iload_n 1, 1, 0, 0, []),
  (29, .iaload, 0, 0, 0, [])]),
  (45, [(30, .bipush 12, 0, 0, 12, []),
  (32, .if_icmp .ne 8, 40, 0, 0, []),
  (35, .aload_n 0, 0, 0, 0, []),
  (36, .iload_n 1, 1, 0, 0, []),
  (37, .invokevirtual 78, 54, 611, 0, []),
  (40, .aload_n 0, 0, 0, 0, []),
  (41, .getfield 28, 103, 214, 0, []),
  (44, .iload_n 1, 1, 0, 0, [])]),
  (59, [(45, .baload, 0, 0, 0, []),
  (46, .ifCond .eq 21, 67, 0, 0, []),
  (49, .aload_n 0, 0, 0, 0, []),
  (50, .getfield 20, 101, 209, 0, []),
  (53, .iload_n 1, 1, 0, 0, []),
  (54, .aaload, 0, 0, 0, []),
  (55, .aload_n 0, 0, 0, 0, []),
  (56, .getfield 36, 105, 216, 0, [])]),
  (73, [(59, .invokevirtual 81, 56, 620, 0, []),
  (62, .ifCond .eq 5, 67, 0, 0, []),
  (65, .iconst 0, 0, 0, 0, []),
  (66, .ireturn, 0, 0, 0, []),
  (67, .aload_n 0, 0, 0, 0, []),
  (68, .getfield 20, 101, 209, 0, []),
  (71, .iload_n 1, 1, 0, 0, []),
  (72, .aaload, 0, 0, 0, [])]),
  (87, [(73, .aload_n 0, 0, 0, 0, []),
  (74, .getfield 36, 105, 216, 0, []),
  (77, .invokevirtual 85, 33, 525, 0, []),
  (80, .aload_n 0, 0, 0, 0, []),
  (81, .getfield 28, 103, 214, 0, []),
  (84, .iload_n 1, 1, 0, 0, []),
  (85, .iconst 1, 0, 0, 1, []),
  (86, .bastore, 0, 0, 0, [])]),
  (100000, [(87, .iconst 1, 0, 0, 1, []),
  (88, .ireturn, 0, 0, 0, [])])]
def cm_Fi_arrive : ck_MD := (⟨"CheckSaver$Finder", "arrive", "(I)Z"⟩, prog_3_method_6_code, 2, some .boolean, false, 1, 1, ct_Fi_arrive)
/-- C$Facts.setFirst()V -/
def ct_Fa_setFirst : ck_Tb := [(13, [(0, .iconst 0, 0, 0, 0, []),
  (1, .istore_n 1, 1, 0, 0, []),
  (2, .iload_n 1, 1, 0, 0, []),
  (3, .bipush 10, 0, 0, 10, []),
  (5, .if_icmp .ge 23, 28, 0, 0, []),
  (8, .aload_n 0, 0, 0, 0, []),
  (9, .getfield 11, 0, 181, 0, []),
  (12, .iload_n 1, 1, 0, 0, [])]),
  (25, [(13, .iconst 0, 0, 0, 0, []),
  (14, .iastore, 0, 0, 0, []),
  (15, .aload_n 0, 0, 0, 0, []),
  (16, .getfield 15, 1, 182, 0, []),
  (19, .iload_n 1, 1, 0, 0, []),
  (20, .iconst 0, 0, 0, 0, []),
  (21, .iastore, 0, 0, 0, []),
  (22, .iinc 1 1, 1, 0, 1, [])]),
  (37, [(25, .goto (-23), 2, 0, 0, []),
  (28, .iconst 0, 0, 0, 0, []),
  (29, .istore_n 1, 1, 0, 0, []),
  (30, .iload_n 1, 1, 0, 0, []),
  (31, .iconst 4, 0, 0, 4, []),
  (32, .if_icmp .ge 14, 46, 0, 0, []),
  (35, .aload_n 0, 0, 0, 0, []),
  (36, .iload_n 1, 1, 0, 0, [])]),
  (100000, [(37, .invokevirtual 31, 31, 516, 0, []),
  (40, .iinc 1 1, 1, 0, 1, []),
  (43, .goto (-13), 30, 0, 0, []),
  (46, .return_, 0, 0, 0, [])])]
def cm_Fa_setFirst : ck_MD := (⟨"CheckSaver$Facts", "setFirst", "()V"⟩, prog_2_method_2_code, 2, none, false, 0, 0, ct_Fa_setFirst)
/-- C$Facts.setNull(I)V -/
def ct_Fa_setNull : ck_Tb := [(12, [(0, .aload_n 0, 0, 0, 0, []),
  (1, .getfield 21, 3, 188, 0, []),
  (4, .iload_n 1, 1, 0, 0, []),
  (5, .iconst 0, 0, 0, 0, []),
  (6, .iastore, 0, 0, 0, []),
  (7, .aload_n 0, 0, 0, 0, []),
  (8, .getfield 24, 4, 189, 0, []),
  (11, .iload_n 1, 1, 0, 0, [])]),
  (23, [(12, .ldc 42, 0, 520, 1000000000, []),
  (14, .iastore, 0, 0, 0, []),
  (15, .aload_n 0, 0, 0, 0, []),
  (16, .getfield 27, 5, 190, 0, []),
  (19, .iload_n 1, 1, 0, 0, []),
  (20, .iconst 0, 0, 0, 0, []),
  (21, .bastore, 0, 0, 0, []),
  (22, .iconst 0, 0, 0, 0, [])]),
  (36, [(23, .istore_n 2, 2, 0, 0, []),
  (24, .iload_n 2, 2, 0, 0, []),
  (25, .bipush 10, 0, 0, 10, []),
  (27, .if_icmp .ge 21, 48, 0, 0, []),
  (30, .aload_n 0, 0, 0, 0, []),
  (31, .getfield 18, 2, 185, 0, []),
  (34, .iload_n 2, 2, 0, 0, []),
  (35, .iconst 4, 0, 0, 4, [])]),
  (100000, [(36, .imul, 0, 0, 0, []),
  (37, .iload_n 1, 1, 0, 0, []),
  (38, .iadd, 0, 0, 0, []),
  (39, .ldc 42, 0, 520, 1000000000, []),
  (41, .iastore, 0, 0, 0, []),
  (42, .iinc 2 1, 2, 0, 1, []),
  (45, .goto (-21), 24, 0, 0, []),
  (48, .return_, 0, 0, 0, [])])]
def cm_Fa_setNull : ck_MD := (⟨"CheckSaver$Facts", "setNull", "(I)V"⟩, prog_2_method_16_code, 3, none, false, 1, 0, ct_Fa_setNull)
/-- C$Finder.follow(I)V -/
def ct_Fi_follow : ck_Tb := [(14, [(0, .aload_n 0, 0, 0, 0, []),
  (1, .getfield 12, 100, 206, 0, []),
  (4, .getfield 111, 401, 122, 0, []),
  (7, .iload_n 1, 1, 0, 0, []),
  (8, .iaload, 0, 0, 0, []),
  (9, .istore_n 2, 2, 0, 0, []),
  (10, .aload_n 0, 0, 0, 0, []),
  (11, .getfield 12, 100, 206, 0, [])]),
  (28, [(14, .getfield 114, 402, 125, 0, []),
  (17, .iload_n 1, 1, 0, 0, []),
  (18, .iaload, 0, 0, 0, []),
  (19, .istore_n 3, 3, 0, 0, []),
  (20, .aload_n 0, 0, 0, 0, []),
  (21, .getfield 12, 100, 206, 0, []),
  (24, .getfield 117, 403, 128, 0, []),
  (27, .iload_n 1, 1, 0, 0, [])]),
  (41, [(28, .iaload, 0, 0, 0, []),
  (29, .istore 4, 4, 0, 0, []),
  (31, .aload_n 0, 0, 0, 0, []),
  (32, .getfield 36, 105, 216, 0, []),
  (35, .aload_n 0, 0, 0, 0, []),
  (36, .getfield 20, 101, 209, 0, []),
  (39, .iload_n 1, 1, 0, 0, []),
  (40, .aaload, 0, 0, 0, [])]),
  (121, [(41, .invokevirtual 85, 33, 525, 0, []),
  (44, .aload_n 0, 0, 0, 0, []),
  (45, .getfield 12, 100, 206, 0, []),
  (48, .getfield 75, 400, 119, 0, []),
  (51, .iload_n 1, 1, 0, 0, []),
  (52, .iaload, 0, 0, 0, []),
  (53, .tableswitch 275 0 12 #[67, 79, 93, 104, 116, 137, 149, 162, 173, 185, 199, 216, 185], 328, 67, 0, [120, 132, 146, 157, 169, 190, 202, 215, 226, 238, 252, 269, 238]),
  (120, .aload_n 0, 0, 0, 0, [])]),
  (137, [(121, .getfield 36, 105, 216, 0, []),
  (124, .iload_n 2, 2, 0, 0, []),
  (125, .iload_n 3, 3, 0, 0, []),
  (126, .invokevirtual 120, 34, 532, 0, []),
  (129, .goto 199, 328, 0, 0, []),
  (132, .aload_n 0, 0, 0, 0, []),
  (133, .getfield 36, 105, 216, 0, []),
  (136, .iload_n 2, 2, 0, 0, [])]),
  (154, [(137, .iload_n 3, 3, 0, 0, []),
  (138, .iload 4, 4, 0, 0, []),
  (140, .invokevirtual 124, 37, 543, 0, []),
  (143, .goto 185, 328, 0, 0, []),
  (146, .aload_n 0, 0, 0, 0, []),
  (147, .getfield 36, 105, 216, 0, []),
  (150, .iload_n 2, 2, 0, 0, []),
  (151, .invokevirtual 127, 39, 551, 0, [])]),
  (170, [(154, .goto 174, 328, 0, 0, []),
  (157, .aload_n 0, 0, 0, 0, []),
  (158, .getfield 36, 105, 216, 0, []),
  (161, .iload_n 2, 2, 0, 0, []),
  (162, .iload_n 3, 3, 0, 0, []),
  (163, .invokevirtual 130, 40, 555, 0, []),
  (166, .goto 162, 328, 0, 0, []),
  (169, .aload_n 0, 0, 0, 0, [])]),
  (187, [(170, .getfield 36, 105, 216, 0, []),
  (173, .iload_n 3, 3, 0, 0, []),
  (174, .iload 4, 4, 0, 0, []),
  (176, .invokevirtual 133, 43, 568, 0, []),
  (179, .aload_n 0, 0, 0, 0, []),
  (180, .getfield 36, 105, 216, 0, []),
  (183, .iload_n 2, 2, 0, 0, []),
  (184, .invokevirtual 127, 39, 551, 0, [])]),
  (203, [(187, .goto 141, 328, 0, 0, []),
  (190, .aload_n 0, 0, 0, 0, []),
  (191, .getfield 36, 105, 216, 0, []),
  (194, .iload_n 2, 2, 0, 0, []),
  (195, .iload_n 3, 3, 0, 0, []),
  (196, .invokevirtual 133, 43, 568, 0, []),
  (199, .goto 129, 328, 0, 0, []),
  (202, .aload_n 0, 0, 0, 0, [])]),
  (219, [(203, .getfield 36, 105, 216, 0, []),
  (206, .iload_n 2, 2, 0, 0, []),
  (207, .iload_n 3, 3, 0, 0, []),
  (208, .iload_n 1, 1, 0, 0, []),
  (209, .invokevirtual 136, 46, 578, 0, []),
  (212, .goto 116, 328, 0, 0, []),
  (215, .aload_n 0, 0, 0, 0, []),
  (216, .getfield 36, 105, 216, 0, [])]),
  (235, [(219, .iload_n 2, 2, 0, 0, []),
  (220, .invokevirtual 139, 31, 582, 0, []),
  (223, .goto 105, 328, 0, 0, []),
  (226, .aload_n 0, 0, 0, 0, []),
  (227, .getfield 36, 105, 216, 0, []),
  (230, .iload_n 2, 2, 0, 0, []),
  (231, .iload_n 3, 3, 0, 0, []),
  (232, .invokevirtual 142, 47, 583, 0, [])]),
  (252, [(235, .goto 93, 328, 0, 0, []),
  (238, .aload_n 0, 0, 0, 0, []),
  (239, .getfield 36, 105, 216, 0, []),
  (242, .iload_n 2, 2, 0, 0, []),
  (243, .iload_n 3, 3, 0, 0, []),
  (244, .iload 4, 4, 0, 0, []),
  (246, .invokevirtual 145, 48, 587, 0, []),
  (249, .goto 79, 328, 0, 0, [])]),
  (266, [(252, .aload_n 0, 0, 0, 0, []),
  (253, .aload_n 0, 0, 0, 0, []),
  (254, .getfield 12, 100, 206, 0, []),
  (257, .getfield 108, 404, 131, 0, []),
  (260, .iload_n 1, 1, 0, 0, []),
  (261, .iaload, 0, 0, 0, []),
  (262, .iconst (-1), 0, 0, (-1), []),
  (263, .invokevirtual 148, 49, 591, 0, [])]),
  (281, [(266, .goto 62, 328, 0, 0, []),
  (269, .aload_n 0, 0, 0, 0, []),
  (270, .getfield 12, 100, 206, 0, []),
  (273, .getfield 108, 404, 131, 0, []),
  (276, .iload_n 1, 1, 0, 0, []),
  (277, .iaload, 0, 0, 0, []),
  (278, .istore 5, 5, 0, 0, []),
  (280, .aload_n 0, 0, 0, 0, [])]),
  (297, [(281, .iload 5, 5, 0, 0, []),
  (283, .aload_n 0, 0, 0, 0, []),
  (284, .getfield 12, 100, 206, 0, []),
  (287, .getfield 105, 405, 134, 0, []),
  (290, .iload 5, 5, 0, 0, []),
  (292, .iaload, 0, 0, 0, []),
  (293, .invokevirtual 148, 49, 591, 0, []),
  (296, .aload_n 0, 0, 0, 0, [])]),
  (315, [(297, .getfield 12, 100, 206, 0, []),
  (300, .getfield 75, 400, 119, 0, []),
  (303, .iload 5, 5, 0, 0, []),
  (305, .iaload, 0, 0, 0, []),
  (306, .bipush 9, 0, 0, 9, []),
  (308, .if_icmp .ne 20, 328, 0, 0, []),
  (311, .aload_n 0, 0, 0, 0, []),
  (312, .getfield 36, 105, 216, 0, [])]),
  (100000, [(315, .aload_n 0, 0, 0, 0, []),
  (316, .getfield 20, 101, 209, 0, []),
  (319, .iload_n 1, 1, 0, 0, []),
  (320, .aaload, 0, 0, 0, []),
  (321, .iload_n 1, 1, 0, 0, []),
  (322, .invokevirtual 151, 51, 599, 0, []),
  (325, .goto 3, 328, 0, 0, []),
  (328, .return_, 0, 0, 0, [])])]
def cm_Fi_follow : ck_MD := (⟨"CheckSaver$Finder", "follow", "(I)V"⟩, prog_3_method_9_code, 6, none, false, 1, 1, ct_Fi_follow)
/-- C$Facts.copy(LCheckSaver$Facts;)V -/
def ct_Fa_copy : ck_Tb := [(15, [(0, .aload_n 1, 1, 0, 0, []),
  (1, .getfield 11, 0, 181, 0, []),
  (4, .iconst 0, 0, 0, 0, []),
  (5, .aload_n 0, 0, 0, 0, []),
  (6, .getfield 11, 0, 181, 0, []),
  (9, .iconst 0, 0, 0, 0, []),
  (10, .bipush 10, 0, 0, 10, []),
  (12, .invokestatic 35, 999, 529, 0, [])]),
  (30, [(15, .aload_n 1, 1, 0, 0, []),
  (16, .getfield 15, 1, 182, 0, []),
  (19, .iconst 0, 0, 0, 0, []),
  (20, .aload_n 0, 0, 0, 0, []),
  (21, .getfield 15, 1, 182, 0, []),
  (24, .iconst 0, 0, 0, 0, []),
  (25, .bipush 10, 0, 0, 10, []),
  (27, .invokestatic 35, 999, 529, 0, [])]),
  (45, [(30, .aload_n 1, 1, 0, 0, []),
  (31, .getfield 18, 2, 185, 0, []),
  (34, .iconst 0, 0, 0, 0, []),
  (35, .aload_n 0, 0, 0, 0, []),
  (36, .getfield 18, 2, 185, 0, []),
  (39, .iconst 0, 0, 0, 0, []),
  (40, .bipush 40, 0, 0, 40, []),
  (42, .invokestatic 35, 999, 529, 0, [])]),
  (59, [(45, .aload_n 1, 1, 0, 0, []),
  (46, .getfield 21, 3, 188, 0, []),
  (49, .iconst 0, 0, 0, 0, []),
  (50, .aload_n 0, 0, 0, 0, []),
  (51, .getfield 21, 3, 188, 0, []),
  (54, .iconst 0, 0, 0, 0, []),
  (55, .iconst 4, 0, 0, 4, []),
  (56, .invokestatic 35, 999, 529, 0, [])]),
  (73, [(59, .aload_n 1, 1, 0, 0, []),
  (60, .getfield 24, 4, 189, 0, []),
  (63, .iconst 0, 0, 0, 0, []),
  (64, .aload_n 0, 0, 0, 0, []),
  (65, .getfield 24, 4, 189, 0, []),
  (68, .iconst 0, 0, 0, 0, []),
  (69, .iconst 4, 0, 0, 4, []),
  (70, .invokestatic 35, 999, 529, 0, [])]),
  (85, [(73, .iconst 0, 0, 0, 0, []),
  (74, .istore_n 2, 2, 0, 0, []),
  (75, .iload_n 2, 2, 0, 0, []),
  (76, .iconst 4, 0, 0, 4, []),
  (77, .if_icmp .ge 21, 98, 0, 0, []),
  (80, .aload_n 0, 0, 0, 0, []),
  (81, .getfield 27, 5, 190, 0, []),
  (84, .iload_n 2, 2, 0, 0, [])]),
  (100000, [(85, .aload_n 1, 1, 0, 0, []),
  (86, .getfield 27, 5, 190, 0, []),
  (89, .iload_n 2, 2, 0, 0, []),
  (90, .baload, 0, 0, 0, []),
  (91, .bastore, 0, 0, 0, []),
  (92, .iinc 2 1, 2, 0, 1, []),
  (95, .goto (-20), 75, 0, 0, []),
  (98, .return_, 0, 0, 0, [])])]
def cm_Fa_copy : ck_MD := (⟨"CheckSaver$Facts", "copy", "(LCheckSaver$Facts;)V"⟩, prog_2_method_3_code, 3, none, false, 1, 0, ct_Fa_copy)
/-- C$Facts.setConstant(II)V -/
def ct_Fa_setConstant : ck_Tb := [(12, [(0, .aload_n 0, 0, 0, 0, []),
  (1, .getfield 11, 0, 181, 0, []),
  (4, .iload_n 1, 1, 0, 0, []),
  (5, .iload_n 2, 2, 0, 0, []),
  (6, .iastore, 0, 0, 0, []),
  (7, .aload_n 0, 0, 0, 0, []),
  (8, .getfield 15, 1, 182, 0, []),
  (11, .iload_n 1, 1, 0, 0, [])]),
  (22, [(12, .iload_n 2, 2, 0, 0, []),
  (13, .iastore, 0, 0, 0, []),
  (14, .iconst 0, 0, 0, 0, []),
  (15, .istore_n 3, 3, 0, 0, []),
  (16, .iload_n 3, 3, 0, 0, []),
  (17, .iconst 4, 0, 0, 4, []),
  (18, .if_icmp .ge 25, 43, 0, 0, []),
  (21, .aload_n 0, 0, 0, 0, [])]),
  (32, [(22, .getfield 18, 2, 185, 0, []),
  (25, .iload_n 1, 1, 0, 0, []),
  (26, .iconst 4, 0, 0, 4, []),
  (27, .imul, 0, 0, 0, []),
  (28, .iload_n 3, 3, 0, 0, []),
  (29, .iadd, 0, 0, 0, []),
  (30, .aload_n 0, 0, 0, 0, []),
  (31, .iload_n 2, 2, 0, 0, [])]),
  (100000, [(32, .iload_n 3, 3, 0, 0, []),
  (33, .invokevirtual 51, 35, 536, 0, []),
  (36, .iastore, 0, 0, 0, []),
  (37, .iinc 3 1, 3, 0, 1, []),
  (40, .goto (-24), 16, 0, 0, []),
  (43, .return_, 0, 0, 0, [])])]
def cm_Fa_setConstant : ck_MD := (⟨"CheckSaver$Facts", "setConstant", "(II)V"⟩, prog_2_method_10_code, 4, none, false, 2, 0, ct_Fa_setConstant)
/-- C$Facts.highOfConstant(II)I -/
def ct_Fa_highOfConstant : ck_Tb := [(13, [(0, .aload_n 0, 0, 0, 0, []),
  (1, .getfield 21, 3, 188, 0, []),
  (4, .iload_n 2, 2, 0, 0, []),
  (5, .iaload, 0, 0, 0, []),
  (6, .ifCond .ne 6, 12, 0, 0, []),
  (9, .ldc 42, 0, 520, 1000000000, []),
  (11, .ireturn, 0, 0, 0, []),
  (12, .aload_n 0, 0, 0, 0, [])]),
  (28, [(13, .getfield 24, 4, 189, 0, []),
  (16, .iload_n 2, 2, 0, 0, []),
  (17, .iaload, 0, 0, 0, []),
  (18, .ldc 42, 0, 520, 1000000000, []),
  (20, .if_icmp .ne 7, 27, 0, 0, []),
  (23, .iload_n 1, 1, 0, 0, []),
  (24, .goto 11, 35, 0, 0, []),
  (27, .iload_n 1, 1, 0, 0, [])]),
  (100000, [(28, .aload_n 0, 0, 0, 0, []),
  (29, .getfield 24, 4, 189, 0, []),
  (32, .iload_n 2, 2, 0, 0, []),
  (33, .iaload, 0, 0, 0, []),
  (34, .isub, 0, 0, 0, []),
  (35, .invokestatic 43, 36, 540, 0, []),
  (38, .ireturn, 0, 0, 0, [])])]
def cm_Fa_highOfConstant : ck_MD := (⟨"CheckSaver$Facts", "highOfConstant", "(II)I"⟩, prog_2_method_7_code, 3, some .int, false, 2, 0, ct_Fa_highOfConstant)
/-- C$Facts.boundedHigh(I)I -/
def ct_Fa_boundedHigh : ck_Tb := [(100000, [(0, .iload_n 0, 0, 0, 0, []),
  (1, .sipush 200, 0, 0, 200, []),
  (4, .if_icmp .le 8, 12, 0, 0, []),
  (7, .ldc 42, 0, 520, 1000000000, []),
  (9, .goto 4, 13, 0, 0, []),
  (12, .iload_n 0, 0, 0, 0, []),
  (13, .ireturn, 0, 0, 0, [])])]
def cm_Fa_boundedHigh : ck_MD := (⟨"CheckSaver$Facts", "boundedHigh", "(I)I"⟩, prog_2_method_6_code, 1, some .int, true, 1, 0, ct_Fa_boundedHigh)
/-- C$Facts.setSum(III)V -/
def ct_Fa_setSum : ck_Tb := [(13, [(0, .aload_n 0, 0, 0, 0, []),
  (1, .getfield 11, 0, 181, 0, []),
  (4, .iload_n 1, 1, 0, 0, []),
  (5, .aload_n 0, 0, 0, 0, []),
  (6, .getfield 11, 0, 181, 0, []),
  (9, .iload_n 2, 2, 0, 0, []),
  (10, .iaload, 0, 0, 0, []),
  (11, .ldc 42, 0, 520, 1000000000, [])]),
  (28, [(13, .if_icmp .ne 8, 21, 0, 0, []),
  (16, .ldc 42, 0, 520, 1000000000, []),
  (18, .goto 11, 29, 0, 0, []),
  (21, .aload_n 0, 0, 0, 0, []),
  (22, .getfield 11, 0, 181, 0, []),
  (25, .iload_n 2, 2, 0, 0, []),
  (26, .iaload, 0, 0, 0, []),
  (27, .iload_n 3, 3, 0, 0, [])]),
  (40, [(28, .iadd, 0, 0, 0, []),
  (29, .iastore, 0, 0, 0, []),
  (30, .aload_n 0, 0, 0, 0, []),
  (31, .getfield 15, 1, 182, 0, []),
  (34, .iload_n 1, 1, 0, 0, []),
  (35, .aload_n 0, 0, 0, 0, []),
  (36, .getfield 15, 1, 182, 0, []),
  (39, .iload_n 2, 2, 0, 0, [])]),
  (52, [(40, .iaload, 0, 0, 0, []),
  (41, .iload_n 3, 3, 0, 0, []),
  (42, .iadd, 0, 0, 0, []),
  (43, .invokestatic 55, 38, 547, 0, []),
  (46, .iastore, 0, 0, 0, []),
  (47, .iconst 0, 0, 0, 0, []),
  (48, .istore 4, 4, 0, 0, []),
  (50, .iload 4, 4, 0, 0, [])]),
  (65, [(52, .iconst 4, 0, 0, 4, []),
  (53, .if_icmp .ge 36, 89, 0, 0, []),
  (56, .aload_n 0, 0, 0, 0, []),
  (57, .getfield 18, 2, 185, 0, []),
  (60, .iload_n 1, 1, 0, 0, []),
  (61, .iconst 4, 0, 0, 4, []),
  (62, .imul, 0, 0, 0, []),
  (63, .iload 4, 4, 0, 0, [])]),
  (76, [(65, .iadd, 0, 0, 0, []),
  (66, .aload_n 0, 0, 0, 0, []),
  (67, .getfield 18, 2, 185, 0, []),
  (70, .iload_n 2, 2, 0, 0, []),
  (71, .iconst 4, 0, 0, 4, []),
  (72, .imul, 0, 0, 0, []),
  (73, .iload 4, 4, 0, 0, []),
  (75, .iadd, 0, 0, 0, [])]),
  (100000, [(76, .iaload, 0, 0, 0, []),
  (77, .iload_n 3, 3, 0, 0, []),
  (78, .iadd, 0, 0, 0, []),
  (79, .invokestatic 43, 36, 540, 0, []),
  (82, .iastore, 0, 0, 0, []),
  (83, .iinc 4 1, 4, 0, 1, []),
  (86, .goto (-36), 50, 0, 0, []),
  (89, .return_, 0, 0, 0, [])])]
def cm_Fa_setSum : ck_MD := (⟨"CheckSaver$Facts", "setSum", "(III)V"⟩, prog_2_method_11_code, 5, none, false, 3, 0, ct_Fa_setSum)
/-- C$Facts.boundedLow(I)I -/
def ct_Fa_boundedLow : ck_Tb := [(100000, [(0, .iload_n 0, 0, 0, 0, []),
  (1, .sipush (-200), 0, 0, (-200), []),
  (4, .if_icmp .ge 8, 12, 0, 0, []),
  (7, .ldc 41, 0, 550, (-1000000000), []),
  (9, .goto 4, 13, 0, 0, []),
  (12, .iload_n 0, 0, 0, 0, []),
  (13, .ireturn, 0, 0, 0, [])])]
def cm_Fa_boundedLow : ck_MD := (⟨"CheckSaver$Facts", "boundedLow", "(I)I"⟩, prog_2_method_5_code, 1, some .int, true, 1, 0, ct_Fa_boundedLow)
/-- C$Facts.setAnything(I)V -/
def ct_Fa_setAnything : ck_Tb := [(13, [(0, .aload_n 0, 0, 0, 0, []),
  (1, .getfield 11, 0, 181, 0, []),
  (4, .iload_n 1, 1, 0, 0, []),
  (5, .ldc 42, 0, 520, 1000000000, []),
  (7, .iastore, 0, 0, 0, []),
  (8, .aload_n 0, 0, 0, 0, []),
  (9, .getfield 15, 1, 182, 0, []),
  (12, .iload_n 1, 1, 0, 0, [])]),
  (24, [(13, .ldc 41, 0, 550, (-1000000000), []),
  (15, .iastore, 0, 0, 0, []),
  (16, .iconst 0, 0, 0, 0, []),
  (17, .istore_n 2, 2, 0, 0, []),
  (18, .iload_n 2, 2, 0, 0, []),
  (19, .iconst 4, 0, 0, 4, []),
  (20, .if_icmp .ge 21, 41, 0, 0, []),
  (23, .aload_n 0, 0, 0, 0, [])]),
  (35, [(24, .getfield 18, 2, 185, 0, []),
  (27, .iload_n 1, 1, 0, 0, []),
  (28, .iconst 4, 0, 0, 4, []),
  (29, .imul, 0, 0, 0, []),
  (30, .iload_n 2, 2, 0, 0, []),
  (31, .iadd, 0, 0, 0, []),
  (32, .ldc 42, 0, 520, 1000000000, []),
  (34, .iastore, 0, 0, 0, [])]),
  (100000, [(35, .iinc 2 1, 2, 0, 1, []),
  (38, .goto (-20), 18, 0, 0, []),
  (41, .return_, 0, 0, 0, [])])]
def cm_Fa_setAnything : ck_MD := (⟨"CheckSaver$Facts", "setAnything", "(I)V"⟩, prog_2_method_12_code, 3, none, false, 1, 0, ct_Fa_setAnything)
/-- C$Facts.setLength(II)V -/
def ct_Fa_setLength : ck_Tb := [(14, [(0, .aload_n 0, 0, 0, 0, []),
  (1, .iload_n 2, 2, 0, 0, []),
  (2, .invokevirtual 58, 41, 559, 0, []),
  (5, .aload_n 0, 0, 0, 0, []),
  (6, .iload_n 1, 1, 0, 0, []),
  (7, .invokevirtual 61, 39, 567, 0, []),
  (10, .aload_n 0, 0, 0, 0, []),
  (11, .getfield 15, 1, 182, 0, [])]),
  (24, [(14, .iload_n 1, 1, 0, 0, []),
  (15, .iconst 0, 0, 0, 0, []),
  (16, .iastore, 0, 0, 0, []),
  (17, .iconst 0, 0, 0, 0, []),
  (18, .istore_n 3, 3, 0, 0, []),
  (19, .iload_n 3, 3, 0, 0, []),
  (20, .iconst 4, 0, 0, 4, []),
  (21, .if_icmp .ge 29, 50, 0, 0, [])]),
  (38, [(24, .aload_n 0, 0, 0, 0, []),
  (25, .iload_n 3, 3, 0, 0, []),
  (26, .iload_n 2, 2, 0, 0, []),
  (27, .invokevirtual 47, 42, 563, 0, []),
  (30, .ifCond .eq 14, 44, 0, 0, []),
  (33, .aload_n 0, 0, 0, 0, []),
  (34, .getfield 18, 2, 185, 0, []),
  (37, .iload_n 1, 1, 0, 0, [])]),
  (50, [(38, .iconst 4, 0, 0, 4, []),
  (39, .imul, 0, 0, 0, []),
  (40, .iload_n 3, 3, 0, 0, []),
  (41, .iadd, 0, 0, 0, []),
  (42, .iconst 0, 0, 0, 0, []),
  (43, .iastore, 0, 0, 0, []),
  (44, .iinc 3 1, 3, 0, 1, []),
  (47, .goto (-28), 19, 0, 0, [])]),
  (100000, [(50, .return_, 0, 0, 0, [])])]
def cm_Fa_setLength : ck_MD := (⟨"CheckSaver$Facts", "setLength", "(II)V"⟩, prog_2_method_13_code, 4, none, false, 2, 0, ct_Fa_setLength)
/-- C$Facts.markThere(I)V -/
def ct_Fa_markThere : ck_Tb := [(10, [(0, .iconst 0, 0, 0, 0, []),
  (1, .istore_n 2, 2, 0, 0, []),
  (2, .iload_n 2, 2, 0, 0, []),
  (3, .iconst 4, 0, 0, 4, []),
  (4, .if_icmp .ge 25, 29, 0, 0, []),
  (7, .aload_n 0, 0, 0, 0, []),
  (8, .iload_n 2, 2, 0, 0, []),
  (9, .iload_n 1, 1, 0, 0, [])]),
  (26, [(10, .invokevirtual 47, 42, 563, 0, []),
  (13, .ifCond .eq 10, 23, 0, 0, []),
  (16, .aload_n 0, 0, 0, 0, []),
  (17, .getfield 27, 5, 190, 0, []),
  (20, .iload_n 2, 2, 0, 0, []),
  (21, .iconst 1, 0, 0, 1, []),
  (22, .bastore, 0, 0, 0, []),
  (23, .iinc 2 1, 2, 0, 1, [])]),
  (100000, [(26, .goto (-24), 2, 0, 0, []),
  (29, .return_, 0, 0, 0, [])])]
def cm_Fa_markThere : ck_MD := (⟨"CheckSaver$Facts", "markThere", "(I)V"⟩, prog_2_method_9_code, 3, none, false, 1, 0, ct_Fa_markThere)
/-- C$Facts.isSameArray(II)Z -/
def ct_Fa_isSameArray : ck_Tb := [(12, [(0, .aload_n 0, 0, 0, 0, []),
  (1, .getfield 21, 3, 188, 0, []),
  (4, .iload_n 1, 1, 0, 0, []),
  (5, .iaload, 0, 0, 0, []),
  (6, .aload_n 0, 0, 0, 0, []),
  (7, .getfield 21, 3, 188, 0, []),
  (10, .iload_n 2, 2, 0, 0, []),
  (11, .iaload, 0, 0, 0, [])]),
  (28, [(12, .if_icmp .ne 16, 28, 0, 0, []),
  (15, .aload_n 0, 0, 0, 0, []),
  (16, .getfield 21, 3, 188, 0, []),
  (19, .iload_n 1, 1, 0, 0, []),
  (20, .iaload, 0, 0, 0, []),
  (21, .ifCond .eq 7, 28, 0, 0, []),
  (24, .iconst 1, 0, 0, 1, []),
  (25, .goto 4, 29, 0, 0, [])]),
  (100000, [(28, .iconst 0, 0, 0, 0, []),
  (29, .ireturn, 0, 0, 0, [])])]
def cm_Fa_isSameArray : ck_MD := (⟨"CheckSaver$Facts", "isSameArray", "(II)Z"⟩, prog_2_method_8_code, 3, some .boolean, false, 2, 0, ct_Fa_isSameArray)
/-- C$Facts.useIndex(II)V -/
def ct_Fa_useIndex : ck_Tb := [(14, [(0, .aload_n 0, 0, 0, 0, []),
  (1, .iload_n 1, 1, 0, 0, []),
  (2, .invokevirtual 58, 41, 559, 0, []),
  (5, .aload_n 0, 0, 0, 0, []),
  (6, .getfield 15, 1, 182, 0, []),
  (9, .iload_n 2, 2, 0, 0, []),
  (10, .aload_n 0, 0, 0, 0, []),
  (11, .getfield 15, 1, 182, 0, [])]),
  (24, [(14, .iload_n 2, 2, 0, 0, []),
  (15, .iaload, 0, 0, 0, []),
  (16, .iconst 0, 0, 0, 0, []),
  (17, .invokestatic 64, 44, 572, 0, []),
  (20, .iastore, 0, 0, 0, []),
  (21, .iconst 0, 0, 0, 0, []),
  (22, .istore_n 3, 3, 0, 0, []),
  (23, .iload_n 3, 3, 0, 0, [])]),
  (38, [(24, .iconst 4, 0, 0, 4, []),
  (25, .if_icmp .ge 42, 67, 0, 0, []),
  (28, .aload_n 0, 0, 0, 0, []),
  (29, .iload_n 3, 3, 0, 0, []),
  (30, .iload_n 1, 1, 0, 0, []),
  (31, .invokevirtual 47, 42, 563, 0, []),
  (34, .ifCond .eq 27, 61, 0, 0, []),
  (37, .aload_n 0, 0, 0, 0, [])]),
  (50, [(38, .getfield 18, 2, 185, 0, []),
  (41, .iload_n 2, 2, 0, 0, []),
  (42, .iconst 4, 0, 0, 4, []),
  (43, .imul, 0, 0, 0, []),
  (44, .iload_n 3, 3, 0, 0, []),
  (45, .iadd, 0, 0, 0, []),
  (46, .aload_n 0, 0, 0, 0, []),
  (47, .getfield 18, 2, 185, 0, [])]),
  (60, [(50, .iload_n 2, 2, 0, 0, []),
  (51, .iconst 4, 0, 0, 4, []),
  (52, .imul, 0, 0, 0, []),
  (53, .iload_n 3, 3, 0, 0, []),
  (54, .iadd, 0, 0, 0, []),
  (55, .iaload, 0, 0, 0, []),
  (56, .iconst (-1), 0, 0, (-1), []),
  (57, .invokestatic 69, 45, 575, 0, [])]),
  (100000, [(60, .iastore, 0, 0, 0, []),
  (61, .iinc 3 1, 3, 0, 1, []),
  (64, .goto (-41), 23, 0, 0, []),
  (67, .return_, 0, 0, 0, [])])]
def cm_Fa_useIndex : ck_MD := (⟨"CheckSaver$Facts", "useIndex", "(II)V"⟩, prog_2_method_14_code, 4, none, false, 2, 0, ct_Fa_useIndex)
/-- java/lang/Math.max(II)I -/
def ct_Jm_max : ck_Tb := [(100000, [(0, .iload_n 0, 0, 0, 0, []),
  (1, .iload_n 1, 1, 0, 0, []),
  (2, .if_icmp .lt 7, 9, 0, 0, []),
  (5, .iload_n 0, 0, 0, 0, []),
  (6, .goto 4, 10, 0, 0, []),
  (9, .iload_n 1, 1, 0, 0, []),
  (10, .ireturn, 0, 0, 0, [])])]
def cm_Jm_max : ck_MD := (⟨"java/lang/Math", "max", "(II)I"⟩, prog_14_method_65_code, 2, some .int, true, 2, 9, ct_Jm_max)
/-- java/lang/Math.min(II)I -/
def ct_Jm_min : ck_Tb := [(100000, [(0, .iload_n 0, 0, 0, 0, []),
  (1, .iload_n 1, 1, 0, 0, []),
  (2, .if_icmp .gt 7, 9, 0, 0, []),
  (5, .iload_n 0, 0, 0, 0, []),
  (6, .goto 4, 10, 0, 0, []),
  (9, .iload_n 1, 1, 0, 0, []),
  (10, .ireturn, 0, 0, 0, [])])]
def cm_Jm_min : ck_MD := (⟨"java/lang/Math", "min", "(II)I"⟩, prog_14_method_69_code, 2, some .int, true, 2, 9, ct_Jm_min)
/-- C$Facts.setNew(III)V -/
def ct_Fa_setNew : ck_Tb := [(12, [(0, .aload_n 0, 0, 0, 0, []),
  (1, .getfield 15, 1, 182, 0, []),
  (4, .iload_n 2, 2, 0, 0, []),
  (5, .aload_n 0, 0, 0, 0, []),
  (6, .getfield 15, 1, 182, 0, []),
  (9, .iload_n 2, 2, 0, 0, []),
  (10, .iaload, 0, 0, 0, []),
  (11, .iconst 0, 0, 0, 0, [])]),
  (24, [(12, .invokestatic 64, 44, 572, 0, []),
  (15, .iastore, 0, 0, 0, []),
  (16, .aload_n 0, 0, 0, 0, []),
  (17, .getfield 21, 3, 188, 0, []),
  (20, .iload_n 1, 1, 0, 0, []),
  (21, .iconst 1, 0, 0, 1, []),
  (22, .iload_n 3, 3, 0, 0, []),
  (23, .iadd, 0, 0, 0, [])]),
  (36, [(24, .iastore, 0, 0, 0, []),
  (25, .aload_n 0, 0, 0, 0, []),
  (26, .getfield 24, 4, 189, 0, []),
  (29, .iload_n 1, 1, 0, 0, []),
  (30, .aload_n 0, 0, 0, 0, []),
  (31, .getfield 11, 0, 181, 0, []),
  (34, .iload_n 2, 2, 0, 0, []),
  (35, .iaload, 0, 0, 0, [])]),
  (47, [(36, .iastore, 0, 0, 0, []),
  (37, .aload_n 0, 0, 0, 0, []),
  (38, .getfield 27, 5, 190, 0, []),
  (41, .iload_n 1, 1, 0, 0, []),
  (42, .iconst 1, 0, 0, 1, []),
  (43, .bastore, 0, 0, 0, []),
  (44, .iconst 0, 0, 0, 0, []),
  (45, .istore 4, 4, 0, 0, [])]),
  (62, [(47, .iload 4, 4, 0, 0, []),
  (49, .bipush 10, 0, 0, 10, []),
  (51, .if_icmp .ge 49, 100, 0, 0, []),
  (54, .aload_n 0, 0, 0, 0, []),
  (55, .getfield 18, 2, 185, 0, []),
  (58, .iload 4, 4, 0, 0, []),
  (60, .iconst 4, 0, 0, 4, []),
  (61, .imul, 0, 0, 0, [])]),
  (76, [(62, .iload_n 1, 1, 0, 0, []),
  (63, .iadd, 0, 0, 0, []),
  (64, .aload_n 0, 0, 0, 0, []),
  (65, .getfield 11, 0, 181, 0, []),
  (68, .iload 4, 4, 0, 0, []),
  (70, .iaload, 0, 0, 0, []),
  (71, .ldc 42, 0, 520, 1000000000, []),
  (73, .if_icmp .ne 8, 81, 0, 0, [])]),
  (90, [(76, .ldc 42, 0, 520, 1000000000, []),
  (78, .goto 15, 93, 0, 0, []),
  (81, .aload_n 0, 0, 0, 0, []),
  (82, .aload_n 0, 0, 0, 0, []),
  (83, .getfield 11, 0, 181, 0, []),
  (86, .iload 4, 4, 0, 0, []),
  (88, .iaload, 0, 0, 0, []),
  (89, .iload_n 1, 1, 0, 0, [])]),
  (106, [(90, .invokevirtual 51, 35, 536, 0, []),
  (93, .iastore, 0, 0, 0, []),
  (94, .iinc 4 1, 4, 0, 1, []),
  (97, .goto (-50), 47, 0, 0, []),
  (100, .aload_n 0, 0, 0, 0, []),
  (101, .getfield 18, 2, 185, 0, []),
  (104, .iload_n 2, 2, 0, 0, []),
  (105, .iconst 4, 0, 0, 4, [])]),
  (100000, [(106, .imul, 0, 0, 0, []),
  (107, .iload_n 1, 1, 0, 0, []),
  (108, .iadd, 0, 0, 0, []),
  (109, .iconst 0, 0, 0, 0, []),
  (110, .iastore, 0, 0, 0, []),
  (111, .return_, 0, 0, 0, [])])]
def cm_Fa_setNew : ck_MD := (⟨"CheckSaver$Facts", "setNew", "(III)V"⟩, prog_2_method_15_code, 5, none, false, 3, 0, ct_Fa_setNew)
/-- C$Facts.setArray(II)V -/
def ct_Fa_setArray : ck_Tb := [(12, [(0, .aload_n 0, 0, 0, 0, []),
  (1, .getfield 21, 3, 188, 0, []),
  (4, .iload_n 1, 1, 0, 0, []),
  (5, .aload_n 0, 0, 0, 0, []),
  (6, .getfield 21, 3, 188, 0, []),
  (9, .iload_n 2, 2, 0, 0, []),
  (10, .iaload, 0, 0, 0, []),
  (11, .iastore, 0, 0, 0, [])]),
  (24, [(12, .aload_n 0, 0, 0, 0, []),
  (13, .getfield 24, 4, 189, 0, []),
  (16, .iload_n 1, 1, 0, 0, []),
  (17, .aload_n 0, 0, 0, 0, []),
  (18, .getfield 24, 4, 189, 0, []),
  (21, .iload_n 2, 2, 0, 0, []),
  (22, .iaload, 0, 0, 0, []),
  (23, .iastore, 0, 0, 0, [])]),
  (36, [(24, .aload_n 0, 0, 0, 0, []),
  (25, .getfield 27, 5, 190, 0, []),
  (28, .iload_n 1, 1, 0, 0, []),
  (29, .aload_n 0, 0, 0, 0, []),
  (30, .getfield 27, 5, 190, 0, []),
  (33, .iload_n 2, 2, 0, 0, []),
  (34, .baload, 0, 0, 0, []),
  (35, .bastore, 0, 0, 0, [])]),
  (49, [(36, .iconst 0, 0, 0, 0, []),
  (37, .istore_n 3, 3, 0, 0, []),
  (38, .iload_n 3, 3, 0, 0, []),
  (39, .bipush 10, 0, 0, 10, []),
  (41, .if_icmp .ge 29, 70, 0, 0, []),
  (44, .aload_n 0, 0, 0, 0, []),
  (45, .getfield 18, 2, 185, 0, []),
  (48, .iload_n 3, 3, 0, 0, [])]),
  (59, [(49, .iconst 4, 0, 0, 4, []),
  (50, .imul, 0, 0, 0, []),
  (51, .iload_n 1, 1, 0, 0, []),
  (52, .iadd, 0, 0, 0, []),
  (53, .aload_n 0, 0, 0, 0, []),
  (54, .getfield 18, 2, 185, 0, []),
  (57, .iload_n 3, 3, 0, 0, []),
  (58, .iconst 4, 0, 0, 4, [])]),
  (100000, [(59, .imul, 0, 0, 0, []),
  (60, .iload_n 2, 2, 0, 0, []),
  (61, .iadd, 0, 0, 0, []),
  (62, .iaload, 0, 0, 0, []),
  (63, .iastore, 0, 0, 0, []),
  (64, .iinc 3 1, 3, 0, 1, []),
  (67, .goto (-29), 38, 0, 0, []),
  (70, .return_, 0, 0, 0, [])])]
def cm_Fa_setArray : ck_MD := (⟨"CheckSaver$Facts", "setArray", "(II)V"⟩, prog_2_method_17_code, 4, none, false, 2, 0, ct_Fa_setArray)
/-- C$Facts.assumeBelow(III)V -/
def ct_Fa_assumeBelow : ck_Tb := [(12, [(0, .iconst 0, 0, 0, 0, []),
  (1, .istore 4, 4, 0, 0, []),
  (3, .iload 4, 4, 0, 0, []),
  (5, .iconst 4, 0, 0, 4, []),
  (6, .if_icmp .ge 72, 78, 0, 0, []),
  (9, .iload_n 1, 1, 0, 0, []),
  (10, .iconst 4, 0, 0, 4, []),
  (11, .imul, 0, 0, 0, [])]),
  (25, [(12, .iload 4, 4, 0, 0, []),
  (14, .iadd, 0, 0, 0, []),
  (15, .istore 5, 5, 0, 0, []),
  (17, .iload_n 2, 2, 0, 0, []),
  (18, .bipush 10, 0, 0, 10, []),
  (20, .if_icmp .ne 13, 33, 0, 0, []),
  (23, .aload_n 0, 0, 0, 0, []),
  (24, .iconst 0, 0, 0, 0, [])]),
  (40, [(25, .iload 4, 4, 0, 0, []),
  (27, .invokevirtual 51, 35, 536, 0, []),
  (30, .goto 14, 44, 0, 0, []),
  (33, .aload_n 0, 0, 0, 0, []),
  (34, .getfield 18, 2, 185, 0, []),
  (37, .iload_n 2, 2, 0, 0, []),
  (38, .iconst 4, 0, 0, 4, []),
  (39, .imul, 0, 0, 0, [])]),
  (53, [(40, .iload 4, 4, 0, 0, []),
  (42, .iadd, 0, 0, 0, []),
  (43, .iaload, 0, 0, 0, []),
  (44, .istore 6, 6, 0, 0, []),
  (46, .aload_n 0, 0, 0, 0, []),
  (47, .getfield 18, 2, 185, 0, []),
  (50, .iload 5, 5, 0, 0, []),
  (52, .aload_n 0, 0, 0, 0, [])]),
  (65, [(53, .getfield 18, 2, 185, 0, []),
  (56, .iload 5, 5, 0, 0, []),
  (58, .iaload, 0, 0, 0, []),
  (59, .iload 6, 6, 0, 0, []),
  (61, .iload_n 3, 3, 0, 0, []),
  (62, .iadd, 0, 0, 0, []),
  (63, .iconst 1, 0, 0, 1, []),
  (64, .isub, 0, 0, 0, [])]),
  (84, [(65, .invokestatic 43, 36, 540, 0, []),
  (68, .invokestatic 69, 45, 575, 0, []),
  (71, .iastore, 0, 0, 0, []),
  (72, .iinc 4 1, 4, 0, 1, []),
  (75, .goto (-72), 3, 0, 0, []),
  (78, .iload_n 2, 2, 0, 0, []),
  (79, .bipush 10, 0, 0, 10, []),
  (81, .if_icmp .eq 31, 112, 0, 0, [])]),
  (96, [(84, .aload_n 0, 0, 0, 0, []),
  (85, .getfield 15, 1, 182, 0, []),
  (88, .iload_n 2, 2, 0, 0, []),
  (89, .aload_n 0, 0, 0, 0, []),
  (90, .getfield 15, 1, 182, 0, []),
  (93, .iload_n 2, 2, 0, 0, []),
  (94, .iaload, 0, 0, 0, []),
  (95, .aload_n 0, 0, 0, 0, [])]),
  (108, [(96, .getfield 15, 1, 182, 0, []),
  (99, .iload_n 1, 1, 0, 0, []),
  (100, .iaload, 0, 0, 0, []),
  (101, .iconst 1, 0, 0, 1, []),
  (102, .iadd, 0, 0, 0, []),
  (103, .iload_n 3, 3, 0, 0, []),
  (104, .isub, 0, 0, 0, []),
  (105, .invokestatic 55, 38, 547, 0, [])]),
  (100000, [(108, .invokestatic 64, 44, 572, 0, []),
  (111, .iastore, 0, 0, 0, []),
  (112, .return_, 0, 0, 0, [])])]
def cm_Fa_assumeBelow : ck_MD := (⟨"CheckSaver$Facts", "assumeBelow", "(III)V"⟩, prog_2_method_18_code, 7, none, false, 3, 0, ct_Fa_assumeBelow)
/-- C$Finder.takeOtherWay(II)V -/
def ct_Fi_takeOtherWay : ck_Tb := [(14, [(0, .iload_n 2, 2, 0, 0, []),
  (1, .iconst (-1), 0, 0, (-1), []),
  (2, .if_icmp .eq 17, 19, 0, 0, []),
  (5, .aload_n 0, 0, 0, 0, []),
  (6, .getfield 36, 105, 216, 0, []),
  (9, .aload_n 0, 0, 0, 0, []),
  (10, .getfield 20, 101, 209, 0, []),
  (13, .iload_n 2, 2, 0, 0, [])]),
  (28, [(14, .aaload, 0, 0, 0, []),
  (15, .invokevirtual 85, 33, 525, 0, []),
  (18, .return_, 0, 0, 0, []),
  (19, .aload_n 0, 0, 0, 0, []),
  (20, .getfield 36, 105, 216, 0, []),
  (23, .aload_n 0, 0, 0, 0, []),
  (24, .getfield 20, 101, 209, 0, []),
  (27, .iload_n 1, 1, 0, 0, [])]),
  (44, [(28, .aaload, 0, 0, 0, []),
  (29, .invokevirtual 85, 33, 525, 0, []),
  (32, .aload_n 0, 0, 0, 0, []),
  (33, .getfield 36, 105, 216, 0, []),
  (36, .aload_n 0, 0, 0, 0, []),
  (37, .getfield 12, 100, 206, 0, []),
  (40, .getfield 111, 401, 122, 0, []),
  (43, .iload_n 1, 1, 0, 0, [])]),
  (58, [(44, .iaload, 0, 0, 0, []),
  (45, .aload_n 0, 0, 0, 0, []),
  (46, .getfield 12, 100, 206, 0, []),
  (49, .getfield 114, 402, 125, 0, []),
  (52, .iload_n 1, 1, 0, 0, []),
  (53, .iaload, 0, 0, 0, []),
  (54, .aload_n 0, 0, 0, 0, []),
  (55, .getfield 12, 100, 206, 0, [])]),
  (100000, [(58, .getfield 117, 403, 128, 0, []),
  (61, .iload_n 1, 1, 0, 0, []),
  (62, .iaload, 0, 0, 0, []),
  (63, .invokevirtual 155, 50, 595, 0, []),
  (66, .return_, 0, 0, 0, [])])]
def cm_Fi_takeOtherWay : ck_MD := (⟨"CheckSaver$Finder", "takeOtherWay", "(II)V"⟩, prog_3_method_10_code, 3, none, false, 2, 1, ct_Fi_takeOtherWay)
/-- C$Facts.assumeNotBelow(III)V -/
def ct_Fa_assumeNotBelow : ck_Tb := [(12, [(0, .aload_n 0, 0, 0, 0, []),
  (1, .getfield 15, 1, 182, 0, []),
  (4, .iload_n 1, 1, 0, 0, []),
  (5, .aload_n 0, 0, 0, 0, []),
  (6, .getfield 15, 1, 182, 0, []),
  (9, .iload_n 1, 1, 0, 0, []),
  (10, .iaload, 0, 0, 0, []),
  (11, .iload_n 2, 2, 0, 0, [])]),
  (27, [(12, .bipush 10, 0, 0, 10, []),
  (14, .if_icmp .ne 7, 21, 0, 0, []),
  (17, .iconst 0, 0, 0, 0, []),
  (18, .goto 9, 27, 0, 0, []),
  (21, .aload_n 0, 0, 0, 0, []),
  (22, .getfield 15, 1, 182, 0, []),
  (25, .iload_n 2, 2, 0, 0, []),
  (26, .iaload, 0, 0, 0, [])]),
  (42, [(27, .iload_n 3, 3, 0, 0, []),
  (28, .iadd, 0, 0, 0, []),
  (29, .invokestatic 55, 38, 547, 0, []),
  (32, .invokestatic 64, 44, 572, 0, []),
  (35, .iastore, 0, 0, 0, []),
  (36, .iload_n 2, 2, 0, 0, []),
  (37, .bipush 10, 0, 0, 10, []),
  (39, .if_icmp .eq 59, 98, 0, 0, [])]),
  (54, [(42, .iconst 0, 0, 0, 0, []),
  (43, .istore 4, 4, 0, 0, []),
  (45, .iload 4, 4, 0, 0, []),
  (47, .iconst 4, 0, 0, 4, []),
  (48, .if_icmp .ge 50, 98, 0, 0, []),
  (51, .iload_n 2, 2, 0, 0, []),
  (52, .iconst 4, 0, 0, 4, []),
  (53, .imul, 0, 0, 0, [])]),
  (69, [(54, .iload 4, 4, 0, 0, []),
  (56, .iadd, 0, 0, 0, []),
  (57, .istore 5, 5, 0, 0, []),
  (59, .aload_n 0, 0, 0, 0, []),
  (60, .getfield 18, 2, 185, 0, []),
  (63, .iload 5, 5, 0, 0, []),
  (65, .aload_n 0, 0, 0, 0, []),
  (66, .getfield 18, 2, 185, 0, [])]),
  (81, [(69, .iload 5, 5, 0, 0, []),
  (71, .iaload, 0, 0, 0, []),
  (72, .aload_n 0, 0, 0, 0, []),
  (73, .getfield 18, 2, 185, 0, []),
  (76, .iload_n 1, 1, 0, 0, []),
  (77, .iconst 4, 0, 0, 4, []),
  (78, .imul, 0, 0, 0, []),
  (79, .iload 4, 4, 0, 0, [])]),
  (95, [(81, .iadd, 0, 0, 0, []),
  (82, .iaload, 0, 0, 0, []),
  (83, .iload_n 3, 3, 0, 0, []),
  (84, .isub, 0, 0, 0, []),
  (85, .invokestatic 43, 36, 540, 0, []),
  (88, .invokestatic 69, 45, 575, 0, []),
  (91, .iastore, 0, 0, 0, []),
  (92, .iinc 4 1, 4, 0, 1, [])]),
  (100000, [(95, .goto (-50), 45, 0, 0, []),
  (98, .return_, 0, 0, 0, [])])]
def cm_Fa_assumeNotBelow : ck_MD := (⟨"CheckSaver$Facts", "assumeNotBelow", "(III)V"⟩, prog_2_method_19_code, 6, none, false, 3, 0, ct_Fa_assumeNotBelow)
/-- C$Facts.joinWays(LCheckSaver$Facts;I)V -/
def ct_Fa_joinWays : ck_Tb := [(13, [(0, .aload_n 0, 0, 0, 0, []),
  (1, .aload_n 1, 1, 0, 0, []),
  (2, .invokevirtual 72, 52, 603, 0, []),
  (5, .iconst 0, 0, 0, 0, []),
  (6, .istore_n 3, 3, 0, 0, []),
  (7, .iload_n 3, 3, 0, 0, []),
  (8, .bipush 10, 0, 0, 10, []),
  (10, .if_icmp .ge 32, 42, 0, 0, [])]),
  (25, [(13, .aload_n 0, 0, 0, 0, []),
  (14, .getfield 11, 0, 181, 0, []),
  (17, .iload_n 3, 3, 0, 0, []),
  (18, .iaload, 0, 0, 0, []),
  (19, .aload_n 1, 1, 0, 0, []),
  (20, .getfield 11, 0, 181, 0, []),
  (23, .iload_n 3, 3, 0, 0, []),
  (24, .iaload, 0, 0, 0, [])]),
  (42, [(25, .if_icmp .eq 11, 36, 0, 0, []),
  (28, .aload_n 0, 0, 0, 0, []),
  (29, .getfield 11, 0, 181, 0, []),
  (32, .iload_n 3, 3, 0, 0, []),
  (33, .ldc 42, 0, 520, 1000000000, []),
  (35, .iastore, 0, 0, 0, []),
  (36, .iinc 3 1, 3, 0, 1, []),
  (39, .goto (-32), 7, 0, 0, [])]),
  (54, [(42, .iconst 0, 0, 0, 0, []),
  (43, .istore_n 3, 3, 0, 0, []),
  (44, .iload_n 3, 3, 0, 0, []),
  (45, .iconst 4, 0, 0, 4, []),
  (46, .if_icmp .ge 30, 76, 0, 0, []),
  (49, .aload_n 0, 0, 0, 0, []),
  (50, .getfield 21, 3, 188, 0, []),
  (53, .iload_n 3, 3, 0, 0, [])]),
  (66, [(54, .iaload, 0, 0, 0, []),
  (55, .aload_n 1, 1, 0, 0, []),
  (56, .getfield 21, 3, 188, 0, []),
  (59, .iload_n 3, 3, 0, 0, []),
  (60, .iaload, 0, 0, 0, []),
  (61, .if_icmp .eq 9, 70, 0, 0, []),
  (64, .aload_n 0, 0, 0, 0, []),
  (65, .iload_n 3, 3, 0, 0, [])]),
  (100000, [(66, .iload_n 2, 2, 0, 0, []),
  (67, .invokevirtual 76, 53, 607, 0, []),
  (70, .iinc 3 1, 3, 0, 1, []),
  (73, .goto (-29), 44, 0, 0, []),
  (76, .return_, 0, 0, 0, [])])]
def cm_Fa_joinWays : ck_MD := (⟨"CheckSaver$Facts", "joinWays", "(LCheckSaver$Facts;I)V"⟩, prog_2_method_21_code, 4, none, false, 2, 0, ct_Fa_joinWays)
/-- C$Facts.joinBounds(LCheckSaver$Facts;)V -/
def ct_Fa_joinBounds : ck_Tb := [(13, [(0, .iconst 0, 0, 0, 0, []),
  (1, .istore_n 2, 2, 0, 0, []),
  (2, .iload_n 2, 2, 0, 0, []),
  (3, .bipush 10, 0, 0, 10, []),
  (5, .if_icmp .ge 30, 35, 0, 0, []),
  (8, .aload_n 0, 0, 0, 0, []),
  (9, .getfield 15, 1, 182, 0, []),
  (12, .iload_n 2, 2, 0, 0, [])]),
  (25, [(13, .aload_n 0, 0, 0, 0, []),
  (14, .getfield 15, 1, 182, 0, []),
  (17, .iload_n 2, 2, 0, 0, []),
  (18, .iaload, 0, 0, 0, []),
  (19, .aload_n 1, 1, 0, 0, []),
  (20, .getfield 15, 1, 182, 0, []),
  (23, .iload_n 2, 2, 0, 0, []),
  (24, .iaload, 0, 0, 0, [])]),
  (39, [(25, .invokestatic 69, 45, 575, 0, []),
  (28, .iastore, 0, 0, 0, []),
  (29, .iinc 2 1, 2, 0, 1, []),
  (32, .goto (-30), 2, 0, 0, []),
  (35, .iconst 0, 0, 0, 0, []),
  (36, .istore_n 2, 2, 0, 0, []),
  (37, .iload_n 2, 2, 0, 0, []),
  (38, .aload_n 0, 0, 0, 0, [])]),
  (55, [(39, .getfield 18, 2, 185, 0, []),
  (42, .arraylength, 0, 0, 0, []),
  (43, .if_icmp .ge 30, 73, 0, 0, []),
  (46, .aload_n 0, 0, 0, 0, []),
  (47, .getfield 18, 2, 185, 0, []),
  (50, .iload_n 2, 2, 0, 0, []),
  (51, .aload_n 0, 0, 0, 0, []),
  (52, .getfield 18, 2, 185, 0, [])]),
  (67, [(55, .iload_n 2, 2, 0, 0, []),
  (56, .iaload, 0, 0, 0, []),
  (57, .aload_n 1, 1, 0, 0, []),
  (58, .getfield 18, 2, 185, 0, []),
  (61, .iload_n 2, 2, 0, 0, []),
  (62, .iaload, 0, 0, 0, []),
  (63, .invokestatic 64, 44, 572, 0, []),
  (66, .iastore, 0, 0, 0, [])]),
  (81, [(67, .iinc 2 1, 2, 0, 1, []),
  (70, .goto (-33), 37, 0, 0, []),
  (73, .iconst 0, 0, 0, 0, []),
  (74, .istore_n 2, 2, 0, 0, []),
  (75, .iload_n 2, 2, 0, 0, []),
  (76, .iconst 4, 0, 0, 4, []),
  (77, .if_icmp .ge 38, 115, 0, 0, []),
  (80, .aload_n 0, 0, 0, 0, [])]),
  (95, [(81, .getfield 27, 5, 190, 0, []),
  (84, .iload_n 2, 2, 0, 0, []),
  (85, .aload_n 0, 0, 0, 0, []),
  (86, .getfield 27, 5, 190, 0, []),
  (89, .iload_n 2, 2, 0, 0, []),
  (90, .baload, 0, 0, 0, []),
  (91, .ifCond .eq 16, 107, 0, 0, []),
  (94, .aload_n 1, 1, 0, 0, [])]),
  (109, [(95, .getfield 27, 5, 190, 0, []),
  (98, .iload_n 2, 2, 0, 0, []),
  (99, .baload, 0, 0, 0, []),
  (100, .ifCond .eq 7, 107, 0, 0, []),
  (103, .iconst 1, 0, 0, 1, []),
  (104, .goto 4, 108, 0, 0, []),
  (107, .iconst 0, 0, 0, 0, []),
  (108, .bastore, 0, 0, 0, [])]),
  (100000, [(109, .iinc 2 1, 2, 0, 1, []),
  (112, .goto (-37), 75, 0, 0, []),
  (115, .return_, 0, 0, 0, [])])]
def cm_Fa_joinBounds : ck_MD := (⟨"CheckSaver$Facts", "joinBounds", "(LCheckSaver$Facts;)V"⟩, prog_2_method_20_code, 3, none, false, 1, 0, ct_Fa_joinBounds)
/-- C$Facts.setJoinedValue(II)V -/
def ct_Fa_setJoinedValue : ck_Tb := [(11, [(0, .aload_n 0, 0, 0, 0, []),
  (1, .getfield 21, 3, 188, 0, []),
  (4, .iload_n 1, 1, 0, 0, []),
  (5, .bipush 65, 0, 0, 65, []),
  (7, .iload_n 2, 2, 0, 0, []),
  (8, .iconst 4, 0, 0, 4, []),
  (9, .imul, 0, 0, 0, []),
  (10, .iadd, 0, 0, 0, [])]),
  (22, [(11, .iload_n 1, 1, 0, 0, []),
  (12, .iadd, 0, 0, 0, []),
  (13, .iastore, 0, 0, 0, []),
  (14, .aload_n 0, 0, 0, 0, []),
  (15, .getfield 24, 4, 189, 0, []),
  (18, .iload_n 1, 1, 0, 0, []),
  (19, .ldc 42, 0, 520, 1000000000, []),
  (21, .iastore, 0, 0, 0, [])]),
  (100000, [(22, .return_, 0, 0, 0, [])])]
def cm_Fa_setJoinedValue : ck_MD := (⟨"CheckSaver$Facts", "setJoinedValue", "(II)V"⟩, prog_2_method_23_code, 3, none, false, 2, 0, ct_Fa_setJoinedValue)
/-- C$Finder.joinWhile(I)V -/
def ct_Fi_joinWhile : ck_Tb := [(14, [(0, .aload_n 0, 0, 0, 0, []),
  (1, .getfield 12, 100, 206, 0, []),
  (4, .getfield 89, 406, 137, 0, []),
  (7, .iload_n 1, 1, 0, 0, []),
  (8, .iaload, 0, 0, 0, []),
  (9, .istore_n 2, 2, 0, 0, []),
  (10, .aload_n 0, 0, 0, 0, []),
  (11, .getfield 28, 103, 214, 0, [])]),
  (28, [(14, .iload_n 2, 2, 0, 0, []),
  (15, .baload, 0, 0, 0, []),
  (16, .ifCond .eq 16, 32, 0, 0, []),
  (19, .aload_n 0, 0, 0, 0, []),
  (20, .getfield 36, 105, 216, 0, []),
  (23, .aload_n 0, 0, 0, 0, []),
  (24, .getfield 20, 101, 209, 0, []),
  (27, .iload_n 2, 2, 0, 0, [])]),
  (44, [(28, .aaload, 0, 0, 0, []),
  (29, .invokevirtual 92, 52, 615, 0, []),
  (32, .aload_n 0, 0, 0, 0, []),
  (33, .getfield 36, 105, 216, 0, []),
  (36, .aload_n 0, 0, 0, 0, []),
  (37, .getfield 12, 100, 206, 0, []),
  (40, .getfield 95, 407, 139, 0, []),
  (43, .iload_n 1, 1, 0, 0, [])]),
  (58, [(44, .iaload, 0, 0, 0, []),
  (45, .aload_n 0, 0, 0, 0, []),
  (46, .getfield 12, 100, 206, 0, []),
  (49, .getfield 98, 408, 141, 0, []),
  (52, .iload_n 1, 1, 0, 0, []),
  (53, .iaload, 0, 0, 0, []),
  (54, .iload_n 1, 1, 0, 0, []),
  (55, .invokevirtual 101, 55, 616, 0, [])]),
  (100000, [(58, .return_, 0, 0, 0, [])])]
def cm_Fi_joinWhile : ck_MD := (⟨"CheckSaver$Finder", "joinWhile", "(I)V"⟩, prog_3_method_7_code, 3, none, false, 1, 1, ct_Fi_joinWhile)
/-- C$Facts.forgetChanged(III)V -/
def ct_Fa_forgetChanged : ck_Tb := [(14, [(0, .iconst 0, 0, 0, 0, []),
  (1, .istore 4, 4, 0, 0, []),
  (3, .iload 4, 4, 0, 0, []),
  (5, .bipush 10, 0, 0, 10, []),
  (7, .if_icmp .ge 27, 34, 0, 0, []),
  (10, .iload_n 1, 1, 0, 0, []),
  (11, .iload 4, 4, 0, 0, []),
  (13, .ishr, 0, 0, 0, [])]),
  (28, [(14, .iconst 1, 0, 0, 1, []),
  (15, .iand, 0, 0, 0, []),
  (16, .ifCond .eq 12, 28, 0, 0, []),
  (19, .aload_n 0, 0, 0, 0, []),
  (20, .getfield 11, 0, 181, 0, []),
  (23, .iload 4, 4, 0, 0, []),
  (25, .ldc 42, 0, 520, 1000000000, []),
  (27, .iastore, 0, 0, 0, [])]),
  (44, [(28, .iinc 4 1, 4, 0, 1, []),
  (31, .goto (-28), 3, 0, 0, []),
  (34, .iconst 0, 0, 0, 0, []),
  (35, .istore 4, 4, 0, 0, []),
  (37, .iload 4, 4, 0, 0, []),
  (39, .iconst 4, 0, 0, 4, []),
  (40, .if_icmp .ge 25, 65, 0, 0, []),
  (43, .iload_n 2, 2, 0, 0, [])]),
  (56, [(44, .iload 4, 4, 0, 0, []),
  (46, .ishr, 0, 0, 0, []),
  (47, .iconst 1, 0, 0, 1, []),
  (48, .iand, 0, 0, 0, []),
  (49, .ifCond .eq 10, 59, 0, 0, []),
  (52, .aload_n 0, 0, 0, 0, []),
  (53, .iload 4, 4, 0, 0, []),
  (55, .iload_n 3, 3, 0, 0, [])]),
  (100000, [(56, .invokevirtual 76, 53, 607, 0, []),
  (59, .iinc 4 1, 4, 0, 1, []),
  (62, .goto (-25), 37, 0, 0, []),
  (65, .return_, 0, 0, 0, [])])]
def cm_Fa_forgetChanged : ck_MD := (⟨"CheckSaver$Facts", "forgetChanged", "(III)V"⟩, prog_2_method_22_code, 5, none, false, 3, 0, ct_Fa_forgetChanged)
/-- C$Facts.hasSameBounds(LCheckSaver$Facts;)Z -/
def ct_Fa_hasSameBounds : ck_Tb := [(13, [(0, .iconst 0, 0, 0, 0, []),
  (1, .istore_n 2, 2, 0, 0, []),
  (2, .iload_n 2, 2, 0, 0, []),
  (3, .bipush 10, 0, 0, 10, []),
  (5, .if_icmp .ge 26, 31, 0, 0, []),
  (8, .aload_n 0, 0, 0, 0, []),
  (9, .getfield 15, 1, 182, 0, []),
  (12, .iload_n 2, 2, 0, 0, [])]),
  (25, [(13, .iaload, 0, 0, 0, []),
  (14, .aload_n 1, 1, 0, 0, []),
  (15, .getfield 15, 1, 182, 0, []),
  (18, .iload_n 2, 2, 0, 0, []),
  (19, .iaload, 0, 0, 0, []),
  (20, .if_icmp .eq 5, 25, 0, 0, []),
  (23, .iconst 0, 0, 0, 0, []),
  (24, .ireturn, 0, 0, 0, [])]),
  (39, [(25, .iinc 2 1, 2, 0, 1, []),
  (28, .goto (-26), 2, 0, 0, []),
  (31, .iconst 0, 0, 0, 0, []),
  (32, .istore_n 2, 2, 0, 0, []),
  (33, .iload_n 2, 2, 0, 0, []),
  (34, .aload_n 0, 0, 0, 0, []),
  (35, .getfield 18, 2, 185, 0, []),
  (38, .arraylength, 0, 0, 0, [])]),
  (53, [(39, .if_icmp .ge 26, 65, 0, 0, []),
  (42, .aload_n 0, 0, 0, 0, []),
  (43, .getfield 18, 2, 185, 0, []),
  (46, .iload_n 2, 2, 0, 0, []),
  (47, .iaload, 0, 0, 0, []),
  (48, .aload_n 1, 1, 0, 0, []),
  (49, .getfield 18, 2, 185, 0, []),
  (52, .iload_n 2, 2, 0, 0, [])]),
  (67, [(53, .iaload, 0, 0, 0, []),
  (54, .if_icmp .eq 5, 59, 0, 0, []),
  (57, .iconst 0, 0, 0, 0, []),
  (58, .ireturn, 0, 0, 0, []),
  (59, .iinc 2 1, 2, 0, 1, []),
  (62, .goto (-29), 33, 0, 0, []),
  (65, .iconst 0, 0, 0, 0, []),
  (66, .istore_n 2, 2, 0, 0, [])]),
  (79, [(67, .iload_n 2, 2, 0, 0, []),
  (68, .iconst 4, 0, 0, 4, []),
  (69, .if_icmp .ge 26, 95, 0, 0, []),
  (72, .aload_n 0, 0, 0, 0, []),
  (73, .getfield 27, 5, 190, 0, []),
  (76, .iload_n 2, 2, 0, 0, []),
  (77, .baload, 0, 0, 0, []),
  (78, .aload_n 1, 1, 0, 0, [])]),
  (95, [(79, .getfield 27, 5, 190, 0, []),
  (82, .iload_n 2, 2, 0, 0, []),
  (83, .baload, 0, 0, 0, []),
  (84, .if_icmp .eq 5, 89, 0, 0, []),
  (87, .iconst 0, 0, 0, 0, []),
  (88, .ireturn, 0, 0, 0, []),
  (89, .iinc 2 1, 2, 0, 1, []),
  (92, .goto (-25), 67, 0, 0, [])]),
  (100000, [(95, .iconst 1, 0, 0, 1, []),
  (96, .ireturn, 0, 0, 0, [])])]
def cm_Fa_hasSameBounds : ck_MD := (⟨"CheckSaver$Facts", "hasSameBounds", "(LCheckSaver$Facts;)Z"⟩, prog_2_method_4_code, 3, some .boolean, false, 1, 0, ct_Fa_hasSameBounds)
/-- C$Finder.passOn(I)I -/
def ct_Fi_passOn : ck_Tb := [(10, [(0, .aload_n 0, 0, 0, 0, []),
  (1, .getfield 32, 104, 215, 0, []),
  (4, .iload_n 1, 1, 0, 0, []),
  (5, .iconst 1, 0, 0, 1, []),
  (6, .iadd, 0, 0, 0, []),
  (7, .iconst 1, 0, 0, 1, []),
  (8, .bastore, 0, 0, 0, []),
  (9, .aload_n 0, 0, 0, 0, [])]),
  (25, [(10, .getfield 12, 100, 206, 0, []),
  (13, .getfield 75, 400, 119, 0, []),
  (16, .iload_n 1, 1, 0, 0, []),
  (17, .iaload, 0, 0, 0, []),
  (18, .istore_n 2, 2, 0, 0, []),
  (19, .iload_n 2, 2, 0, 0, []),
  (20, .bipush 9, 0, 0, 9, []),
  (22, .if_icmp .eq 9, 31, 0, 0, [])]),
  (42, [(25, .iload_n 2, 2, 0, 0, []),
  (26, .bipush 12, 0, 0, 12, []),
  (28, .if_icmp .ne 50, 78, 0, 0, []),
  (31, .aload_n 0, 0, 0, 0, []),
  (32, .getfield 32, 104, 215, 0, []),
  (35, .aload_n 0, 0, 0, 0, []),
  (36, .getfield 12, 100, 206, 0, []),
  (39, .getfield 89, 406, 137, 0, [])]),
  (52, [(42, .iload_n 1, 1, 0, 0, []),
  (43, .iaload, 0, 0, 0, []),
  (44, .iconst 1, 0, 0, 1, []),
  (45, .iadd, 0, 0, 0, []),
  (46, .iconst 1, 0, 0, 1, []),
  (47, .bastore, 0, 0, 0, []),
  (48, .aload_n 0, 0, 0, 0, []),
  (49, .getfield 12, 100, 206, 0, [])]),
  (66, [(52, .getfield 105, 405, 134, 0, []),
  (55, .iload_n 1, 1, 0, 0, []),
  (56, .iaload, 0, 0, 0, []),
  (57, .iconst (-1), 0, 0, (-1), []),
  (58, .if_icmp .eq 20, 78, 0, 0, []),
  (61, .aload_n 0, 0, 0, 0, []),
  (62, .getfield 32, 104, 215, 0, []),
  (65, .aload_n 0, 0, 0, 0, [])]),
  (78, [(66, .getfield 12, 100, 206, 0, []),
  (69, .getfield 105, 405, 134, 0, []),
  (72, .iload_n 1, 1, 0, 0, []),
  (73, .iaload, 0, 0, 0, []),
  (74, .iconst 1, 0, 0, 1, []),
  (75, .iadd, 0, 0, 0, []),
  (76, .iconst 1, 0, 0, 1, []),
  (77, .bastore, 0, 0, 0, [])]),
  (95, [(78, .iload_n 2, 2, 0, 0, []),
  (79, .bipush 11, 0, 0, 11, []),
  (81, .if_icmp .ne 50, 131, 0, 0, []),
  (84, .aload_n 0, 0, 0, 0, []),
  (85, .getfield 12, 100, 206, 0, []),
  (88, .getfield 75, 400, 119, 0, []),
  (91, .aload_n 0, 0, 0, 0, []),
  (92, .getfield 12, 100, 206, 0, [])]),
  (110, [(95, .getfield 108, 404, 131, 0, []),
  (98, .iload_n 1, 1, 0, 0, []),
  (99, .iaload, 0, 0, 0, []),
  (100, .iaload, 0, 0, 0, []),
  (101, .bipush 12, 0, 0, 12, []),
  (103, .if_icmp .ne 28, 131, 0, 0, []),
  (106, .aload_n 0, 0, 0, 0, []),
  (107, .getfield 32, 104, 215, 0, [])]),
  (122, [(110, .aload_n 0, 0, 0, 0, []),
  (111, .getfield 12, 100, 206, 0, []),
  (114, .getfield 108, 404, 131, 0, []),
  (117, .iload_n 1, 1, 0, 0, []),
  (118, .iaload, 0, 0, 0, []),
  (119, .iconst 1, 0, 0, 1, []),
  (120, .bastore, 0, 0, 0, []),
  (121, .aload_n 0, 0, 0, 0, [])]),
  (134, [(122, .getfield 12, 100, 206, 0, []),
  (125, .getfield 108, 404, 131, 0, []),
  (128, .iload_n 1, 1, 0, 0, []),
  (129, .iaload, 0, 0, 0, []),
  (130, .ireturn, 0, 0, 0, []),
  (131, .iload_n 1, 1, 0, 0, []),
  (132, .iconst 1, 0, 0, 1, []),
  (133, .iadd, 0, 0, 0, [])]),
  (100000, [(134, .ireturn, 0, 0, 0, [])])]
def cm_Fi_passOn : ck_MD := (⟨"CheckSaver$Finder", "passOn", "(I)I"⟩, prog_3_method_8_code, 3, some .int, false, 1, 1, ct_Fi_passOn)
/-- C$Finder.findNeedless(I)I -/
def ct_Fi_findNeedless : ck_Tb := [(14, [(0, .aload_n 0, 0, 0, 0, []),
  (1, .getfield 20, 101, 209, 0, []),
  (4, .iload_n 1, 1, 0, 0, []),
  (5, .aaload, 0, 0, 0, []),
  (6, .astore_n 2, 2, 0, 0, []),
  (7, .aload_n 0, 0, 0, 0, []),
  (8, .getfield 12, 100, 206, 0, []),
  (11, .getfield 111, 401, 122, 0, [])]),
  (26, [(14, .iload_n 1, 1, 0, 0, []),
  (15, .iaload, 0, 0, 0, []),
  (16, .istore_n 3, 3, 0, 0, []),
  (17, .aload_n 0, 0, 0, 0, []),
  (18, .getfield 12, 100, 206, 0, []),
  (21, .getfield 114, 402, 125, 0, []),
  (24, .iload_n 1, 1, 0, 0, []),
  (25, .iaload, 0, 0, 0, [])]),
  (65, [(26, .istore 4, 4, 0, 0, []),
  (28, .aload_n 0, 0, 0, 0, []),
  (29, .getfield 12, 100, 206, 0, []),
  (32, .getfield 75, 400, 119, 0, []),
  (35, .iload_n 1, 1, 0, 0, []),
  (36, .iaload, 0, 0, 0, []),
  (37, .tableswitch 67 3 5 #[27, 43, 59], 104, 27, 0, [64, 80, 96]),
  (64, .aload_n 2, 2, 0, 0, [])]),
  (80, [(65, .getfield 158, 5, 191, 0, []),
  (68, .iload 4, 4, 0, 0, []),
  (70, .baload, 0, 0, 0, []),
  (71, .ifCond .eq 7, 78, 0, 0, []),
  (74, .iconst 1, 0, 0, 1, []),
  (75, .goto 4, 79, 0, 0, []),
  (78, .iconst 0, 0, 0, 0, []),
  (79, .ireturn, 0, 0, 0, [])]),
  (95, [(80, .aload_n 2, 2, 0, 0, []),
  (81, .iload 4, 4, 0, 0, []),
  (83, .aload_n 0, 0, 0, 0, []),
  (84, .getfield 12, 100, 206, 0, []),
  (87, .getfield 117, 403, 128, 0, []),
  (90, .iload_n 1, 1, 0, 0, []),
  (91, .iaload, 0, 0, 0, []),
  (92, .invokestatic 161, 59, 632, 0, [])]),
  (100000, [(95, .ireturn, 0, 0, 0, []),
  (96, .aload_n 2, 2, 0, 0, []),
  (97, .iload_n 3, 3, 0, 0, []),
  (98, .iload 4, 4, 0, 0, []),
  (100, .invokestatic 161, 59, 632, 0, []),
  (103, .ireturn, 0, 0, 0, []),
  (104, .iconst 0, 0, 0, 0, []),
  (105, .ireturn, 0, 0, 0, [])])]
def cm_Fi_findNeedless : ck_MD := (⟨"CheckSaver$Finder", "findNeedless", "(I)I"⟩, prog_3_method_11_code, 5, some .int, false, 1, 1, ct_Fi_findNeedless)
/-- C$Finder.findNeedlessOfIndex(LCheckSaver$Facts;II)I -/
def ct_Fi_findNeedlessOfIndex : ck_Tb := [(14, [(0, .aload_n 0, 0, 0, 0, []),
  (1, .getfield 158, 5, 191, 0, []),
  (4, .iload_n 1, 1, 0, 0, []),
  (5, .baload, 0, 0, 0, []),
  (6, .ifCond .eq 7, 13, 0, 0, []),
  (9, .iconst 1, 0, 0, 1, []),
  (10, .goto 4, 14, 0, 0, []),
  (13, .iconst 0, 0, 0, 0, [])]),
  (28, [(14, .istore_n 3, 3, 0, 0, []),
  (15, .aload_n 0, 0, 0, 0, []),
  (16, .getfield 165, 1, 184, 0, []),
  (19, .iload_n 2, 2, 0, 0, []),
  (20, .iaload, 0, 0, 0, []),
  (21, .ifCond .lt 6, 27, 0, 0, []),
  (24, .iinc 3 2, 3, 0, 2, []),
  (27, .aload_n 0, 0, 0, 0, [])]),
  (38, [(28, .getfield 168, 2, 187, 0, []),
  (31, .iload_n 2, 2, 0, 0, []),
  (32, .iconst 4, 0, 0, 4, []),
  (33, .imul, 0, 0, 0, []),
  (34, .iload_n 1, 1, 0, 0, []),
  (35, .iadd, 0, 0, 0, []),
  (36, .iaload, 0, 0, 0, []),
  (37, .iconst (-1), 0, 0, (-1), [])]),
  (100000, [(38, .if_icmp .gt 6, 44, 0, 0, []),
  (41, .iinc 3 4, 3, 0, 4, []),
  (44, .iload_n 3, 3, 0, 0, []),
  (45, .ireturn, 0, 0, 0, [])])]
def cm_Fi_findNeedlessOfIndex : ck_MD := (⟨"CheckSaver$Finder", "findNeedlessOfIndex", "(LCheckSaver$Facts;II)I"⟩, prog_3_method_12_code, 4, some .int, true, 3, 1, ct_Fi_findNeedlessOfIndex)
/-- C$Machine.begin()V -/
def ct_Ma_begin : ck_Tb := [(12, [(0, .aload_n 0, 0, 0, 0, []),
  (1, .iconst 1, 0, 0, 1, []),
  (2, .putfield 46, 308, 244, 1, []),
  (5, .aload_n 0, 0, 0, 0, []),
  (6, .iconst 0, 0, 0, 0, []),
  (7, .putfield 50, 310, 248, 0, []),
  (10, .aload_n 0, 0, 0, 0, []),
  (11, .iconst 0, 0, 0, 0, [])]),
  (26, [(12, .putfield 54, 311, 249, 0, []),
  (15, .aload_n 0, 0, 0, 0, []),
  (16, .iconst 0, 0, 0, 0, []),
  (17, .putfield 57, 312, 250, 0, []),
  (20, .aload_n 0, 0, 0, 0, []),
  (21, .iconst 0, 0, 0, 0, []),
  (22, .putfield 60, 313, 251, 0, []),
  (25, .aload_n 0, 0, 0, 0, [])]),
  (38, [(26, .iconst 0, 0, 0, 0, []),
  (27, .putfield 63, 314, 252, 0, []),
  (30, .aload_n 0, 0, 0, 0, []),
  (31, .iconst 0, 0, 0, 0, []),
  (32, .putfield 66, 315, 253, 0, []),
  (35, .iconst 0, 0, 0, 0, []),
  (36, .istore_n 1, 1, 0, 0, []),
  (37, .iload_n 1, 1, 0, 0, [])]),
  (53, [(38, .bipush 10, 0, 0, 10, []),
  (40, .if_icmp .ge 16, 56, 0, 0, []),
  (43, .aload_n 0, 0, 0, 0, []),
  (44, .getfield 30, 303, 238, 0, []),
  (47, .iload_n 1, 1, 0, 0, []),
  (48, .iconst 0, 0, 0, 0, []),
  (49, .iastore, 0, 0, 0, []),
  (50, .iinc 1 1, 1, 0, 1, [])]),
  (67, [(53, .goto (-16), 37, 0, 0, []),
  (56, .iconst 0, 0, 0, 0, []),
  (57, .istore_n 1, 1, 0, 0, []),
  (58, .iload_n 1, 1, 0, 0, []),
  (59, .iconst 4, 0, 0, 4, []),
  (60, .if_icmp .ge 16, 76, 0, 0, []),
  (63, .aload_n 0, 0, 0, 0, []),
  (64, .getfield 34, 304, 240, 0, [])]),
  (81, [(67, .iload_n 1, 1, 0, 0, []),
  (68, .iconst (-1), 0, 0, (-1), []),
  (69, .iastore, 0, 0, 0, []),
  (70, .iinc 1 1, 1, 0, 1, []),
  (73, .goto (-15), 58, 0, 0, []),
  (76, .aload_n 0, 0, 0, 0, []),
  (77, .aload_n 0, 0, 0, 0, []),
  (78, .getfield 29, 302, 237, 0, [])]),
  (100000, [(81, .getfield 69, 410, 145, 0, []),
  (84, .ifCond .ne 7, 91, 0, 0, []),
  (87, .iconst 1, 0, 0, 1, []),
  (88, .goto 4, 92, 0, 0, []),
  (91, .iconst 0, 0, 0, 0, []),
  (92, .putfield 74, 309, 246, 0, []),
  (95, .return_, 0, 0, 0, [])])]
def cm_Ma_begin : ck_MD := (⟨"CheckSaver$Machine", "begin", "()V"⟩, prog_5_method_3_code, 2, none, false, 0, 3, ct_Ma_begin)
/-- C$Finder.countNeedless()I -/
def ct_Fi_countNeedless : ck_Tb := [(12, [(0, .iconst 0, 0, 0, 0, []),
  (1, .istore_n 1, 1, 0, 0, []),
  (2, .iconst 0, 0, 0, 0, []),
  (3, .istore_n 2, 2, 0, 0, []),
  (4, .iload_n 2, 2, 0, 0, []),
  (5, .aload_n 0, 0, 0, 0, []),
  (6, .getfield 12, 100, 206, 0, []),
  (9, .getfield 47, 410, 144, 0, [])]),
  (26, [(12, .if_icmp .ge 21, 33, 0, 0, []),
  (15, .iload_n 1, 1, 0, 0, []),
  (16, .aload_n 0, 0, 0, 0, []),
  (17, .getfield 24, 102, 211, 0, []),
  (20, .iload_n 2, 2, 0, 0, []),
  (21, .iaload, 0, 0, 0, []),
  (22, .invokestatic 63, 62, 643, 0, []),
  (25, .iadd, 0, 0, 0, [])]),
  (100000, [(26, .istore_n 1, 1, 0, 0, []),
  (27, .iinc 2 1, 2, 0, 1, []),
  (30, .goto (-26), 4, 0, 0, []),
  (33, .iload_n 1, 1, 0, 0, []),
  (34, .ireturn, 0, 0, 0, [])])]
def cm_Fi_countNeedless : ck_MD := (⟨"CheckSaver$Finder", "countNeedless", "()I"⟩, prog_3_method_5_code, 3, some .int, false, 0, 1, ct_Fi_countNeedless)
/-- java/lang/Integer.bitCount(I)I -/
def ct_Ji_bitCount : ck_Tb := [(10, [(0, .iload_n 0, 0, 0, 0, []),
  (1, .iload_n 0, 0, 0, 0, []),
  (2, .iconst 1, 0, 0, 1, []),
  (3, .iushr, 0, 0, 0, []),
  (4, .ldc_w 265, 0, 646, 1431655765, []),
  (7, .iand, 0, 0, 0, []),
  (8, .isub, 0, 0, 0, []),
  (9, .istore_n 0, 0, 0, 0, [])]),
  (22, [(10, .iload_n 0, 0, 0, 0, []),
  (11, .ldc_w 266, 0, 647, 858993459, []),
  (14, .iand, 0, 0, 0, []),
  (15, .iload_n 0, 0, 0, 0, []),
  (16, .iconst 2, 0, 0, 2, []),
  (17, .iushr, 0, 0, 0, []),
  (18, .ldc_w 266, 0, 647, 858993459, []),
  (21, .iand, 0, 0, 0, [])]),
  (32, [(22, .iadd, 0, 0, 0, []),
  (23, .istore_n 0, 0, 0, 0, []),
  (24, .iload_n 0, 0, 0, 0, []),
  (25, .iload_n 0, 0, 0, 0, []),
  (26, .iconst 4, 0, 0, 4, []),
  (27, .iushr, 0, 0, 0, []),
  (28, .iadd, 0, 0, 0, []),
  (29, .ldc_w 267, 0, 648, 252645135, [])]),
  (41, [(32, .iand, 0, 0, 0, []),
  (33, .istore_n 0, 0, 0, 0, []),
  (34, .iload_n 0, 0, 0, 0, []),
  (35, .iload_n 0, 0, 0, 0, []),
  (36, .bipush 8, 0, 0, 8, []),
  (38, .iushr, 0, 0, 0, []),
  (39, .iadd, 0, 0, 0, []),
  (40, .istore_n 0, 0, 0, 0, [])]),
  (51, [(41, .iload_n 0, 0, 0, 0, []),
  (42, .iload_n 0, 0, 0, 0, []),
  (43, .bipush 16, 0, 0, 16, []),
  (45, .iushr, 0, 0, 0, []),
  (46, .iadd, 0, 0, 0, []),
  (47, .istore_n 0, 0, 0, 0, []),
  (48, .iload_n 0, 0, 0, 0, []),
  (49, .bipush 63, 0, 0, 63, [])]),
  (100000, [(51, .iand, 0, 0, 0, []),
  (52, .ireturn, 0, 0, 0, [])])]
def cm_Ji_bitCount : ck_MD := (⟨"java/lang/Integer", "bitCount", "(I)I"⟩, prog_13_method_49_code, 1, some .int, true, 1, 9, ct_Ji_bitCount)
/-- C.needless(I)I -/
def ct_Cs_needless : ck_Tb := [(14, [(0, .aload_n 0, 0, 0, 0, []),
  (1, .iload_n 1, 1, 0, 0, []),
  (2, .invokevirtual 87, 64, 657, 0, []),
  (5, .aload_n 0, 0, 0, 0, []),
  (6, .getfield 25, 502, 289, 0, []),
  (9, .getfield 91, 102, 212, 0, []),
  (12, .iload_n 1, 1, 0, 0, []),
  (13, .iaload, 0, 0, 0, [])]),
  (100000, [(14, .ireturn, 0, 0, 0, [])])]
def cm_Cs_needless : ck_MD := (⟨"CheckSaver", "needless", "(I)I"⟩, prog_1_method_6_code, 2, some .int, false, 1, 5, ct_Cs_needless)
/-- C.requireStatement(I)V -/
def ct_Cs_requireStatement : ck_Tb := [(23, [(0, .aload_n 0, 0, 0, 0, []),
  (1, .getfield 10, 500, 287, 0, []),
  (4, .getfield 113, 308, 245, 1, []),
  (7, .ifCond .ne 11, 18, 0, 0, []),
  (13, .dup, 0, 0, 0, []),
  (18, .iload_n 1, 1, 0, 0, []),
  (19, .aload_n 0, 0, 0, 0, []),
  (20, .getfield 32, 503, 290, 0, [])]),
  (100000, [(23, .getfield 56, 410, 143, 0, []),
  (26, .invokestatic 95, 65, 661, 0, []),
  (29, .return_, 0, 0, 0, [])])]
def cm_Cs_requireStatement : ck_MD := (⟨"CheckSaver", "requireStatement", "(I)V"⟩, prog_1_method_15_code, 2, none, false, 1, 5, ct_Cs_requireStatement)
/-- C.requireIndex(II)V -/
def ct_Cs_requireIndex : ck_Tb := [(100000, [(0, .iload_n 0, 0, 0, 0, []),
  (1, .ifCond .lt 8, 9, 0, 0, []),
  (4, .iload_n 0, 0, 0, 0, []),
  (5, .iload_n 1, 1, 0, 0, []),
  (6, .if_icmp .lt 11, 17, 0, 0, []),
  (12, .dup, 0, 0, 0, []),
  (17, .return_, 0, 0, 0, [])])]
def cm_Cs_requireIndex : ck_MD := (⟨"CheckSaver", "requireIndex", "(II)V"⟩, prog_1_method_16_code, 2, none, true, 2, 5, ct_Cs_requireIndex)
/-- C.least(II)I -/
def ct_Cs_least : ck_Tb := [(15, [(0, .aload_n 0, 0, 0, 0, []),
  (1, .iload_n 1, 1, 0, 0, []),
  (2, .invokevirtual 87, 64, 657, 0, []),
  (5, .iload_n 2, 2, 0, 0, []),
  (6, .bipush 10, 0, 0, 10, []),
  (8, .invokestatic 95, 65, 661, 0, []),
  (11, .aload_n 0, 0, 0, 0, []),
  (12, .getfield 25, 502, 289, 0, [])]),
  (27, [(15, .getfield 99, 101, 210, 0, []),
  (18, .iload_n 1, 1, 0, 0, []),
  (19, .aaload, 0, 0, 0, []),
  (20, .getfield 103, 1, 183, 0, []),
  (23, .iload_n 2, 2, 0, 0, []),
  (24, .iaload, 0, 0, 0, []),
  (25, .istore_n 3, 3, 0, 0, []),
  (26, .iload_n 3, 3, 0, 0, [])]),
  (100000, [(27, .ldc 108, 0, 686, (-1000000000), []),
  (29, .if_icmp .ne 8, 37, 0, 0, []),
  (32, .ldc 109, 0, 332, 1000000000, []),
  (34, .goto 4, 38, 0, 0, []),
  (37, .iload_n 3, 3, 0, 0, []),
  (38, .ireturn, 0, 0, 0, [])])]
def cm_Cs_least : ck_MD := (⟨"CheckSaver", "least", "(II)I"⟩, prog_1_method_7_code, 4, some .int, false, 2, 5, ct_Cs_least)
/-- C.highest(III)I -/
def ct_Cs_highest : ck_Tb := [(13, [(0, .aload_n 0, 0, 0, 0, []),
  (1, .iload_n 1, 1, 0, 0, []),
  (2, .invokevirtual 87, 64, 657, 0, []),
  (5, .iload_n 2, 2, 0, 0, []),
  (6, .bipush 10, 0, 0, 10, []),
  (8, .invokestatic 95, 65, 661, 0, []),
  (11, .iload_n 3, 3, 0, 0, []),
  (12, .iconst 4, 0, 0, 4, [])]),
  (29, [(13, .invokestatic 95, 65, 661, 0, []),
  (16, .aload_n 0, 0, 0, 0, []),
  (17, .getfield 25, 502, 289, 0, []),
  (20, .getfield 99, 101, 210, 0, []),
  (23, .iload_n 1, 1, 0, 0, []),
  (24, .aaload, 0, 0, 0, []),
  (25, .getfield 110, 2, 186, 0, []),
  (28, .iload_n 2, 2, 0, 0, [])]),
  (100000, [(29, .iconst 4, 0, 0, 4, []),
  (30, .imul, 0, 0, 0, []),
  (31, .iload_n 3, 3, 0, 0, []),
  (32, .iadd, 0, 0, 0, []),
  (33, .iaload, 0, 0, 0, []),
  (34, .ireturn, 0, 0, 0, [])])]
def cm_Cs_highest : ck_MD := (⟨"CheckSaver", "highest", "(III)I"⟩, prog_1_method_8_code, 4, some .int, false, 3, 5, ct_Cs_highest)
/-- C.run(I)I -/
def ct_Cs_run : ck_Tb := [(23, [(0, .aload_n 0, 0, 0, 0, []),
  (1, .getfield 10, 500, 287, 0, []),
  (4, .getfield 113, 308, 245, 1, []),
  (7, .ifCond .eq 13, 20, 0, 0, []),
  (10, .aload_n 0, 0, 0, 0, []),
  (11, .getfield 10, 500, 287, 0, []),
  (14, .getfield 117, 309, 247, 0, []),
  (17, .ifCond .eq 11, 28, 0, 0, [])]),
  (48, [(23, .dup, 0, 0, 0, []),
  (28, .iload_n 1, 1, 0, 0, []),
  (29, .iconst 1, 0, 0, 1, []),
  (30, .if_icmp .lt 10, 40, 0, 0, []),
  (33, .iload_n 1, 1, 0, 0, []),
  (34, .sipush 2000, 0, 0, 2000, []),
  (37, .if_icmp .le 11, 48, 0, 0, []),
  (43, .dup, 0, 0, 0, [])]),
  (100000, [(48, .aload_n 0, 0, 0, 0, []),
  (49, .getfield 10, 500, 287, 0, []),
  (52, .iload_n 1, 1, 0, 0, []),
  (53, .invokevirtual 120, 69, 701, 0, []),
  (56, .ireturn, 0, 0, 0, [])])]
def cm_Cs_run : ck_MD := (⟨"CheckSaver", "run", "(I)I"⟩, prog_1_method_9_code, 2, some .int, false, 1, 5, ct_Cs_run)
/-- C$Machine.advance(I)I -/
def ct_Ma_advance : ck_Tb := [(14, [(0, .iconst 0, 0, 0, 0, []),
  (1, .istore_n 2, 2, 0, 0, []),
  (2, .iload_n 2, 2, 0, 0, []),
  (3, .iload_n 1, 1, 0, 0, []),
  (4, .if_icmp .ge 70, 74, 0, 0, []),
  (7, .aload_n 0, 0, 0, 0, []),
  (8, .getfield 74, 309, 246, 0, []),
  (11, .ifCond .eq 5, 16, 0, 0, [])]),
  (26, [(14, .iload_n 2, 2, 0, 0, []),
  (15, .ireturn, 0, 0, 0, []),
  (16, .aload_n 0, 0, 0, 0, []),
  (17, .aload_n 0, 0, 0, 0, []),
  (18, .getfield 50, 310, 248, 0, []),
  (21, .invokevirtual 77, 70, 705, 0, []),
  (24, .istore_n 3, 3, 0, 0, []),
  (25, .aload_n 0, 0, 0, 0, [])]),
  (40, [(26, .getfield 74, 309, 246, 0, []),
  (29, .ifCond .eq 5, 34, 0, 0, []),
  (32, .iload_n 2, 2, 0, 0, []),
  (33, .ireturn, 0, 0, 0, []),
  (34, .aload_n 0, 0, 0, 0, []),
  (35, .dup, 0, 0, 0, []),
  (36, .getfield 54, 311, 249, 0, []),
  (39, .iconst 1, 0, 0, 1, [])]),
  (54, [(40, .iadd, 0, 0, 0, []),
  (41, .putfield 54, 311, 249, 0, []),
  (44, .aload_n 0, 0, 0, 0, []),
  (45, .iload_n 3, 3, 0, 0, []),
  (46, .putfield 50, 310, 248, 0, []),
  (49, .aload_n 0, 0, 0, 0, []),
  (50, .getfield 50, 310, 248, 0, []),
  (53, .aload_n 0, 0, 0, 0, [])]),
  (74, [(54, .getfield 29, 302, 237, 0, []),
  (57, .getfield 69, 410, 145, 0, []),
  (60, .if_icmp .lt 8, 68, 0, 0, []),
  (63, .aload_n 0, 0, 0, 0, []),
  (64, .iconst 1, 0, 0, 1, []),
  (65, .putfield 74, 309, 246, 0, []),
  (68, .iinc 2 1, 2, 0, 1, []),
  (71, .goto (-69), 2, 0, 0, [])]),
  (100000, [(74, .iload_n 1, 1, 0, 0, []),
  (75, .ireturn, 0, 0, 0, [])])]
def cm_Ma_advance : ck_MD := (⟨"CheckSaver$Machine", "advance", "(I)I"⟩, prog_5_method_4_code, 4, some .int, false, 1, 3, ct_Ma_advance)
/-- C$Machine.perform(I)I -/
def ct_Ma_perform : ck_Tb := [(14, [(0, .aload_n 0, 0, 0, 0, []),
  (1, .getfield 29, 302, 237, 0, []),
  (4, .getfield 81, 401, 121, 0, []),
  (7, .iload_n 1, 1, 0, 0, []),
  (8, .iaload, 0, 0, 0, []),
  (9, .istore_n 2, 2, 0, 0, []),
  (10, .aload_n 0, 0, 0, 0, []),
  (11, .getfield 29, 302, 237, 0, [])]),
  (28, [(14, .getfield 84, 402, 124, 0, []),
  (17, .iload_n 1, 1, 0, 0, []),
  (18, .iaload, 0, 0, 0, []),
  (19, .istore_n 3, 3, 0, 0, []),
  (20, .aload_n 0, 0, 0, 0, []),
  (21, .getfield 29, 302, 237, 0, []),
  (24, .getfield 87, 403, 127, 0, []),
  (27, .iload_n 1, 1, 0, 0, [])]),
  (72, [(28, .iaload, 0, 0, 0, []),
  (29, .istore 4, 4, 0, 0, []),
  (31, .aload_n 0, 0, 0, 0, []),
  (32, .getfield 29, 302, 237, 0, []),
  (35, .getfield 90, 400, 118, 0, []),
  (38, .iload_n 1, 1, 0, 0, []),
  (39, .iaload, 0, 0, 0, []),
  (40, .tableswitch 139 9 12 #[32, 84, 104, 55], 179, 32, 0, [72, 124, 144, 95])]),
  (85, [(72, .aload_n 0, 0, 0, 0, []),
  (73, .iload_n 2, 2, 0, 0, []),
  (74, .iload_n 3, 3, 0, 0, []),
  (75, .iload 4, 4, 0, 0, []),
  (77, .invokevirtual 93, 71, 709, 0, []),
  (80, .ifCond .eq 9, 89, 0, 0, []),
  (83, .iload_n 1, 1, 0, 0, []),
  (84, .iconst 1, 0, 0, 1, [])]),
  (97, [(85, .iadd, 0, 0, 0, []),
  (86, .goto 8, 94, 0, 0, []),
  (89, .aload_n 0, 0, 0, 0, []),
  (90, .iload_n 1, 1, 0, 0, []),
  (91, .invokevirtual 97, 73, 719, 0, []),
  (94, .ireturn, 0, 0, 0, []),
  (95, .aload_n 0, 0, 0, 0, []),
  (96, .iload_n 2, 2, 0, 0, [])]),
  (112, [(97, .iload_n 3, 3, 0, 0, []),
  (98, .iload 4, 4, 0, 0, []),
  (100, .invokevirtual 93, 71, 709, 0, []),
  (103, .ifCond .eq 9, 112, 0, 0, []),
  (106, .iload_n 1, 1, 0, 0, []),
  (107, .iconst 1, 0, 0, 1, []),
  (108, .iadd, 0, 0, 0, []),
  (109, .goto 14, 123, 0, 0, [])]),
  (124, [(112, .aload_n 0, 0, 0, 0, []),
  (113, .getfield 29, 302, 237, 0, []),
  (116, .getfield 100, 406, 136, 0, []),
  (119, .iload_n 1, 1, 0, 0, []),
  (120, .iaload, 0, 0, 0, []),
  (121, .iconst 1, 0, 0, 1, []),
  (122, .iadd, 0, 0, 0, []),
  (123, .ireturn, 0, 0, 0, [])]),
  (140, [(124, .aload_n 0, 0, 0, 0, []),
  (125, .getfield 29, 302, 237, 0, []),
  (128, .getfield 100, 406, 136, 0, []),
  (131, .aload_n 0, 0, 0, 0, []),
  (132, .getfield 29, 302, 237, 0, []),
  (135, .getfield 103, 404, 130, 0, []),
  (138, .iload_n 1, 1, 0, 0, []),
  (139, .iaload, 0, 0, 0, [])]),
  (152, [(140, .iaload, 0, 0, 0, []),
  (141, .iconst 1, 0, 0, 1, []),
  (142, .iadd, 0, 0, 0, []),
  (143, .ireturn, 0, 0, 0, []),
  (144, .aload_n 0, 0, 0, 0, []),
  (145, .getfield 29, 302, 237, 0, []),
  (148, .getfield 103, 404, 130, 0, []),
  (151, .iload_n 1, 1, 0, 0, [])]),
  (167, [(152, .iaload, 0, 0, 0, []),
  (153, .istore 5, 5, 0, 0, []),
  (155, .aload_n 0, 0, 0, 0, []),
  (156, .getfield 29, 302, 237, 0, []),
  (159, .getfield 90, 400, 118, 0, []),
  (162, .iload 5, 5, 0, 0, []),
  (164, .iaload, 0, 0, 0, []),
  (165, .bipush 12, 0, 0, 12, [])]),
  (180, [(167, .if_icmp .ne 8, 175, 0, 0, []),
  (170, .iload 5, 5, 0, 0, []),
  (172, .goto 6, 178, 0, 0, []),
  (175, .iload_n 1, 1, 0, 0, []),
  (176, .iconst 1, 0, 0, 1, []),
  (177, .iadd, 0, 0, 0, []),
  (178, .ireturn, 0, 0, 0, []),
  (179, .aload_n 0, 0, 0, 0, [])]),
  (191, [(180, .iload_n 1, 1, 0, 0, []),
  (181, .iload_n 2, 2, 0, 0, []),
  (182, .iload_n 3, 3, 0, 0, []),
  (183, .iload 4, 4, 0, 0, []),
  (185, .invokevirtual 106, 74, 723, 0, []),
  (188, .iload_n 1, 1, 0, 0, []),
  (189, .iconst 1, 0, 0, 1, []),
  (190, .iadd, 0, 0, 0, [])]),
  (100000, [(191, .ireturn, 0, 0, 0, [])])]
def cm_Ma_perform : ck_MD := (⟨"CheckSaver$Machine", "perform", "(I)I"⟩, prog_5_method_5_code, 6, some .int, false, 1, 3, ct_Ma_perform)
/-- C$Machine.isBelow(III)Z -/
def ct_Ma_isBelow : ck_Tb := [(15, [(0, .aload_n 0, 0, 0, 0, []),
  (1, .iload_n 2, 2, 0, 0, []),
  (2, .bipush 10, 0, 0, 10, []),
  (4, .if_icmp .ne 7, 11, 0, 0, []),
  (7, .iconst 0, 0, 0, 0, []),
  (8, .goto 9, 17, 0, 0, []),
  (11, .aload_n 0, 0, 0, 0, []),
  (12, .getfield 30, 303, 238, 0, [])]),
  (28, [(15, .iload_n 2, 2, 0, 0, []),
  (16, .iaload, 0, 0, 0, []),
  (17, .iload_n 3, 3, 0, 0, []),
  (18, .invokevirtual 113, 72, 713, 0, []),
  (21, .istore 4, 4, 0, 0, []),
  (23, .aload_n 0, 0, 0, 0, []),
  (24, .getfield 30, 303, 238, 0, []),
  (27, .iload_n 1, 1, 0, 0, [])]),
  (100000, [(28, .iaload, 0, 0, 0, []),
  (29, .iload 4, 4, 0, 0, []),
  (31, .if_icmp .ge 7, 38, 0, 0, []),
  (34, .iconst 1, 0, 0, 1, []),
  (35, .goto 4, 39, 0, 0, []),
  (38, .iconst 0, 0, 0, 0, []),
  (39, .ireturn, 0, 0, 0, [])])]
def cm_Ma_isBelow : ck_MD := (⟨"CheckSaver$Machine", "isBelow", "(III)Z"⟩, prog_5_method_7_code, 5, some .boolean, false, 3, 3, ct_Ma_isBelow)
/-- C$Machine.sumOrStop(II)I -/
def ct_Ma_sumOrStop : ck_Tb := [(11, [(0, .iload_n 1, 1, 0, 0, []),
  (1, .iload_n 2, 2, 0, 0, []),
  (2, .iadd, 0, 0, 0, []),
  (3, .istore_n 3, 3, 0, 0, []),
  (4, .iload_n 3, 3, 0, 0, []),
  (5, .ldc 117, 0, 717, (-1000000), []),
  (7, .if_icmp .lt 9, 16, 0, 0, []),
  (10, .iload_n 3, 3, 0, 0, [])]),
  (100000, [(11, .ldc 118, 0, 718, 1000000, []),
  (13, .if_icmp .le 8, 21, 0, 0, []),
  (16, .aload_n 0, 0, 0, 0, []),
  (17, .iconst 5, 0, 0, 5, []),
  (18, .putfield 74, 309, 246, 0, []),
  (21, .iload_n 3, 3, 0, 0, []),
  (22, .ireturn, 0, 0, 0, [])])]
def cm_Ma_sumOrStop : ck_MD := (⟨"CheckSaver$Machine", "sumOrStop", "(II)I"⟩, prog_5_method_8_code, 4, some .int, false, 2, 3, ct_Ma_sumOrStop)
/-- C$Machine.behindFailedIf(I)I -/
def ct_Ma_behindFailedIf : ck_Tb := [(12, [(0, .aload_n 0, 0, 0, 0, []),
  (1, .getfield 29, 302, 237, 0, []),
  (4, .getfield 110, 405, 133, 0, []),
  (7, .iload_n 1, 1, 0, 0, []),
  (8, .iaload, 0, 0, 0, []),
  (9, .istore_n 2, 2, 0, 0, []),
  (10, .iload_n 2, 2, 0, 0, []),
  (11, .iconst (-1), 0, 0, (-1), [])]),
  (28, [(12, .if_icmp .ne 15, 27, 0, 0, []),
  (15, .aload_n 0, 0, 0, 0, []),
  (16, .getfield 29, 302, 237, 0, []),
  (19, .getfield 100, 406, 136, 0, []),
  (22, .iload_n 1, 1, 0, 0, []),
  (23, .iaload, 0, 0, 0, []),
  (24, .goto 4, 28, 0, 0, []),
  (27, .iload_n 2, 2, 0, 0, [])]),
  (100000, [(28, .iconst 1, 0, 0, 1, []),
  (29, .iadd, 0, 0, 0, []),
  (30, .ireturn, 0, 0, 0, [])])]
def cm_Ma_behindFailedIf : ck_MD := (⟨"CheckSaver$Machine", "behindFailedIf", "(I)I"⟩, prog_5_method_6_code, 3, some .int, false, 1, 3, ct_Ma_behindFailedIf)
/-- C$Machine.performPlain(IIII)V -/
def ct_Ma_performPlain : ck_Tb := [(84, [(0, .aload_n 0, 0, 0, 0, []),
  (1, .getfield 29, 302, 237, 0, []),
  (4, .getfield 90, 400, 118, 0, []),
  (7, .iload_n 1, 1, 0, 0, []),
  (8, .iaload, 0, 0, 0, []),
  (9, .tableswitch 291 0 13 #[71, 81, 92, 108, 146, 183, 219, 233, 243, 291, 291, 291, 291, 258], 300, 71, 0, [80, 90, 101, 117, 155, 192, 228, 242, 252, 300, 300, 300, 300, 267]),
  (80, .aload_n 0, 0, 0, 0, []),
  (81, .getfield 30, 303, 238, 0, [])]),
  (95, [(84, .iload_n 2, 2, 0, 0, []),
  (85, .iload_n 3, 3, 0, 0, []),
  (86, .iastore, 0, 0, 0, []),
  (87, .goto 213, 300, 0, 0, []),
  (90, .aload_n 0, 0, 0, 0, []),
  (91, .iload_n 2, 2, 0, 0, []),
  (92, .iload_n 3, 3, 0, 0, []),
  (93, .iload 4, 4, 0, 0, [])]),
  (113, [(95, .invokevirtual 119, 75, 727, 0, []),
  (98, .goto 202, 300, 0, 0, []),
  (101, .aload_n 0, 0, 0, 0, []),
  (102, .getfield 30, 303, 238, 0, []),
  (105, .iload_n 2, 2, 0, 0, []),
  (106, .aload_n 0, 0, 0, 0, []),
  (107, .getfield 12, 300, 233, 0, []),
  (110, .invokevirtual 123, 76, 731, 0, [])]),
  (125, [(113, .iastore, 0, 0, 0, []),
  (114, .goto 186, 300, 0, 0, []),
  (117, .aload_n 0, 0, 0, 0, []),
  (118, .iload_n 1, 1, 0, 0, []),
  (119, .iconst 1, 0, 0, 1, []),
  (120, .aload_n 0, 0, 0, 0, []),
  (121, .iload_n 3, 3, 0, 0, []),
  (122, .invokevirtual 127, 14, 371, 0, [])]),
  (141, [(125, .iconst (-1), 0, 0, (-1), []),
  (126, .if_icmp .eq 7, 133, 0, 0, []),
  (129, .iconst 1, 0, 0, 1, []),
  (130, .goto 4, 134, 0, 0, []),
  (133, .iconst 0, 0, 0, 0, []),
  (134, .iconst 2, 0, 0, 2, []),
  (135, .invokevirtual 130, 77, 735, 0, []),
  (138, .ifCond .eq 162, 300, 0, 0, [])]),
  (155, [(141, .aload_n 0, 0, 0, 0, []),
  (142, .getfield 30, 303, 238, 0, []),
  (145, .iload_n 2, 2, 0, 0, []),
  (146, .aload_n 0, 0, 0, 0, []),
  (147, .iload_n 3, 3, 0, 0, []),
  (148, .invokevirtual 127, 14, 371, 0, []),
  (151, .iastore, 0, 0, 0, []),
  (152, .goto 148, 300, 0, 0, [])]),
  (168, [(155, .aload_n 0, 0, 0, 0, []),
  (156, .iload_n 1, 1, 0, 0, []),
  (157, .iload_n 3, 3, 0, 0, []),
  (158, .aload_n 0, 0, 0, 0, []),
  (159, .getfield 30, 303, 238, 0, []),
  (162, .iload 4, 4, 0, 0, []),
  (164, .iaload, 0, 0, 0, []),
  (165, .invokevirtual 134, 78, 739, 0, [])]),
  (182, [(168, .ifCond .eq 132, 300, 0, 0, []),
  (171, .aload_n 0, 0, 0, 0, []),
  (172, .getfield 30, 303, 238, 0, []),
  (175, .iload_n 2, 2, 0, 0, []),
  (176, .aload_n 0, 0, 0, 0, []),
  (177, .iload_n 3, 3, 0, 0, []),
  (178, .aload_n 0, 0, 0, 0, []),
  (179, .getfield 30, 303, 238, 0, [])]),
  (195, [(182, .iload 4, 4, 0, 0, []),
  (184, .iaload, 0, 0, 0, []),
  (185, .invokevirtual 137, 16, 743, 0, []),
  (188, .iastore, 0, 0, 0, []),
  (189, .goto 111, 300, 0, 0, []),
  (192, .aload_n 0, 0, 0, 0, []),
  (193, .iload_n 1, 1, 0, 0, []),
  (194, .iload_n 2, 2, 0, 0, [])]),
  (209, [(195, .aload_n 0, 0, 0, 0, []),
  (196, .getfield 30, 303, 238, 0, []),
  (199, .iload_n 3, 3, 0, 0, []),
  (200, .iaload, 0, 0, 0, []),
  (201, .invokevirtual 134, 78, 739, 0, []),
  (204, .ifCond .eq 96, 300, 0, 0, []),
  (207, .aload_n 0, 0, 0, 0, []),
  (208, .iload_n 2, 2, 0, 0, [])]),
  (222, [(209, .aload_n 0, 0, 0, 0, []),
  (210, .getfield 30, 303, 238, 0, []),
  (213, .iload_n 3, 3, 0, 0, []),
  (214, .iaload, 0, 0, 0, []),
  (215, .aload_n 0, 0, 0, 0, []),
  (216, .getfield 30, 303, 238, 0, []),
  (219, .iload 4, 4, 0, 0, []),
  (221, .iaload, 0, 0, 0, [])]),
  (236, [(222, .invokevirtual 140, 79, 744, 0, []),
  (225, .goto 75, 300, 0, 0, []),
  (228, .aload_n 0, 0, 0, 0, []),
  (229, .iload_n 2, 2, 0, 0, []),
  (230, .aload_n 0, 0, 0, 0, []),
  (231, .getfield 30, 303, 238, 0, []),
  (234, .iload_n 3, 3, 0, 0, []),
  (235, .iaload, 0, 0, 0, [])]),
  (252, [(236, .invokevirtual 143, 80, 748, 0, []),
  (239, .goto 61, 300, 0, 0, []),
  (242, .aload_n 0, 0, 0, 0, []),
  (243, .getfield 34, 304, 240, 0, []),
  (246, .iload_n 2, 2, 0, 0, []),
  (247, .iconst (-1), 0, 0, (-1), []),
  (248, .iastore, 0, 0, 0, []),
  (249, .goto 51, 300, 0, 0, [])]),
  (264, [(252, .aload_n 0, 0, 0, 0, []),
  (253, .getfield 34, 304, 240, 0, []),
  (256, .iload_n 2, 2, 0, 0, []),
  (257, .aload_n 0, 0, 0, 0, []),
  (258, .getfield 34, 304, 240, 0, []),
  (261, .iload_n 3, 3, 0, 0, []),
  (262, .iaload, 0, 0, 0, []),
  (263, .iastore, 0, 0, 0, [])]),
  (281, [(264, .goto 36, 300, 0, 0, []),
  (267, .aload_n 0, 0, 0, 0, []),
  (268, .getfield 43, 307, 243, 0, []),
  (271, .aload_n 0, 0, 0, 0, []),
  (272, .getfield 63, 314, 252, 0, []),
  (275, .bipush 16, 0, 0, 16, []),
  (277, .invokestatic 147, 7, 329, 0, []),
  (280, .aload_n 0, 0, 0, 0, [])]),
  (293, [(281, .getfield 30, 303, 238, 0, []),
  (284, .iload_n 2, 2, 0, 0, []),
  (285, .iaload, 0, 0, 0, []),
  (286, .iastore, 0, 0, 0, []),
  (287, .aload_n 0, 0, 0, 0, []),
  (288, .dup, 0, 0, 0, []),
  (289, .getfield 63, 314, 252, 0, []),
  (292, .iconst 1, 0, 0, 1, [])]),
  (100000, [(293, .iadd, 0, 0, 0, []),
  (294, .putfield 63, 314, 252, 0, []),
  (297, .goto 3, 300, 0, 0, []),
  (300, .return_, 0, 0, 0, [])])]
def cm_Ma_performPlain : ck_MD := (⟨"CheckSaver$Machine", "performPlain", "(IIII)V"⟩, prog_5_method_9_code, 5, none, false, 4, 3, ct_Ma_performPlain)
/-- C$Machine.add(III)V -/
def ct_Ma_add : ck_Tb := [(13, [(0, .aload_n 0, 0, 0, 0, []),
  (1, .aload_n 0, 0, 0, 0, []),
  (2, .getfield 30, 303, 238, 0, []),
  (5, .iload_n 2, 2, 0, 0, []),
  (6, .iaload, 0, 0, 0, []),
  (7, .iload_n 3, 3, 0, 0, []),
  (8, .invokevirtual 113, 72, 713, 0, []),
  (11, .istore 4, 4, 0, 0, [])]),
  (28, [(13, .aload_n 0, 0, 0, 0, []),
  (14, .getfield 74, 309, 246, 0, []),
  (17, .ifCond .ne 11, 28, 0, 0, []),
  (20, .aload_n 0, 0, 0, 0, []),
  (21, .getfield 30, 303, 238, 0, []),
  (24, .iload_n 1, 1, 0, 0, []),
  (25, .iload 4, 4, 0, 0, []),
  (27, .iastore, 0, 0, 0, [])]),
  (100000, [(28, .return_, 0, 0, 0, [])])]
def cm_Ma_add : ck_MD := (⟨"CheckSaver$Machine", "add", "(III)V"⟩, prog_5_method_10_code, 5, none, false, 3, 3, ct_Ma_add)
/-- C$Inputs.takeNext()I -/
def ct_In_takeNext : ck_Tb := [(14, [(0, .aload_n 0, 0, 0, 0, []),
  (1, .getfield 15, 202, 96, 0, []),
  (4, .ifCond .ne 5, 9, 0, 0, []),
  (7, .iconst 0, 0, 0, 0, []),
  (8, .ireturn, 0, 0, 0, []),
  (9, .aload_n 0, 0, 0, 0, []),
  (10, .getfield 9, 200, 94, 0, []),
  (13, .aload_n 0, 0, 0, 0, [])]),
  (26, [(14, .getfield 19, 201, 95, 0, []),
  (17, .iaload, 0, 0, 0, []),
  (18, .istore_n 1, 1, 0, 0, []),
  (19, .aload_n 0, 0, 0, 0, []),
  (20, .aload_n 0, 0, 0, 0, []),
  (21, .getfield 19, 201, 95, 0, []),
  (24, .iconst 1, 0, 0, 1, []),
  (25, .iadd, 0, 0, 0, [])]),
  (39, [(26, .bipush 64, 0, 0, 64, []),
  (28, .irem, 0, 0, 0, []),
  (29, .putfield 19, 201, 95, 0, []),
  (32, .aload_n 0, 0, 0, 0, []),
  (33, .dup, 0, 0, 0, []),
  (34, .getfield 15, 202, 96, 0, []),
  (37, .iconst 1, 0, 0, 1, []),
  (38, .isub, 0, 0, 0, [])]),
  (100000, [(39, .putfield 15, 202, 96, 0, []),
  (42, .iload_n 1, 1, 0, 0, []),
  (43, .ireturn, 0, 0, 0, [])])]
def cm_In_takeNext : ck_MD := (⟨"CheckSaver$Inputs", "takeNext", "()I"⟩, prog_4_method_3_code, 2, some .int, false, 0, 2, ct_In_takeNext)
/-- C$Machine.passes(IIZI)Z -/
def ct_Ma_passes : ck_Tb := [(14, [(0, .aload_n 0, 0, 0, 0, []),
  (1, .getfield 21, 301, 235, 0, []),
  (4, .getfield 152, 102, 213, 0, []),
  (7, .iload_n 1, 1, 0, 0, []),
  (8, .iaload, 0, 0, 0, []),
  (9, .iload_n 2, 2, 0, 0, []),
  (10, .iand, 0, 0, 0, []),
  (11, .ifCond .eq 15, 26, 0, 0, [])]),
  (26, [(14, .aload_n 0, 0, 0, 0, []),
  (15, .dup, 0, 0, 0, []),
  (16, .getfield 60, 313, 251, 0, []),
  (19, .iconst 1, 0, 0, 1, []),
  (20, .iadd, 0, 0, 0, []),
  (21, .putfield 60, 313, 251, 0, []),
  (24, .iconst 1, 0, 0, 1, []),
  (25, .ireturn, 0, 0, 0, [])]),
  (40, [(26, .aload_n 0, 0, 0, 0, []),
  (27, .dup, 0, 0, 0, []),
  (28, .getfield 57, 312, 250, 0, []),
  (31, .iconst 1, 0, 0, 1, []),
  (32, .iadd, 0, 0, 0, []),
  (33, .putfield 57, 312, 250, 0, []),
  (36, .iload_n 3, 3, 0, 0, []),
  (37, .ifCond .ne 9, 46, 0, 0, [])]),
  (100000, [(40, .aload_n 0, 0, 0, 0, []),
  (41, .iload 4, 4, 0, 0, []),
  (43, .putfield 74, 309, 246, 0, []),
  (46, .iload_n 3, 3, 0, 0, []),
  (47, .ireturn, 0, 0, 0, [])])]
def cm_Ma_passes : ck_MD := (⟨"CheckSaver$Machine", "passes", "(IIZI)Z"⟩, prog_5_method_12_code, 5, some .boolean, false, 4, 3, ct_Ma_passes)
/-- C$Machine.passesAll(III)Z -/
def ct_Ma_passesAll : ck_Tb := [(12, [(0, .aload_n 0, 0, 0, 0, []),
  (1, .iload_n 2, 2, 0, 0, []),
  (2, .invokevirtual 127, 14, 371, 0, []),
  (5, .istore 4, 4, 0, 0, []),
  (7, .aload_n 0, 0, 0, 0, []),
  (8, .iload_n 1, 1, 0, 0, []),
  (9, .iconst 1, 0, 0, 1, []),
  (10, .iload 4, 4, 0, 0, [])]),
  (28, [(12, .iconst (-1), 0, 0, (-1), []),
  (13, .if_icmp .eq 7, 20, 0, 0, []),
  (16, .iconst 1, 0, 0, 1, []),
  (17, .goto 4, 21, 0, 0, []),
  (20, .iconst 0, 0, 0, 0, []),
  (21, .iconst 2, 0, 0, 2, []),
  (22, .invokevirtual 130, 77, 735, 0, []),
  (25, .ifCond .eq 47, 72, 0, 0, [])]),
  (40, [(28, .aload_n 0, 0, 0, 0, []),
  (29, .iload_n 1, 1, 0, 0, []),
  (30, .iconst 2, 0, 0, 2, []),
  (31, .iload_n 3, 3, 0, 0, []),
  (32, .ifCond .lt 7, 39, 0, 0, []),
  (35, .iconst 1, 0, 0, 1, []),
  (36, .goto 4, 40, 0, 0, []),
  (39, .iconst 0, 0, 0, 0, [])]),
  (53, [(40, .iconst 3, 0, 0, 3, []),
  (41, .invokevirtual 130, 77, 735, 0, []),
  (44, .ifCond .eq 28, 72, 0, 0, []),
  (47, .aload_n 0, 0, 0, 0, []),
  (48, .iload_n 1, 1, 0, 0, []),
  (49, .iconst 4, 0, 0, 4, []),
  (50, .iload_n 3, 3, 0, 0, []),
  (51, .iload 4, 4, 0, 0, [])]),
  (69, [(53, .if_icmp .ge 7, 60, 0, 0, []),
  (56, .iconst 1, 0, 0, 1, []),
  (57, .goto 4, 61, 0, 0, []),
  (60, .iconst 0, 0, 0, 0, []),
  (61, .iconst 4, 0, 0, 4, []),
  (62, .invokevirtual 130, 77, 735, 0, []),
  (65, .ifCond .eq 7, 72, 0, 0, []),
  (68, .iconst 1, 0, 0, 1, [])]),
  (100000, [(69, .goto 4, 73, 0, 0, []),
  (72, .iconst 0, 0, 0, 0, []),
  (73, .ireturn, 0, 0, 0, [])])]
def cm_Ma_passesAll : ck_MD := (⟨"CheckSaver$Machine", "passesAll", "(III)Z"⟩, prog_5_method_11_code, 5, some .boolean, false, 3, 3, ct_Ma_passesAll)
/-- C$Machine.store(III)V -/
def ct_Ma_store : ck_Tb := [(14, [(0, .aload_n 0, 0, 0, 0, []),
  (1, .iload_n 1, 1, 0, 0, []),
  (2, .iload_n 2, 2, 0, 0, []),
  (3, .invokevirtual 155, 17, 367, 0, []),
  (6, .ifCond .eq 20, 26, 0, 0, []),
  (9, .aload_n 0, 0, 0, 0, []),
  (10, .getfield 40, 306, 242, 0, []),
  (13, .aload_n 0, 0, 0, 0, [])]),
  (25, [(14, .getfield 34, 304, 240, 0, []),
  (17, .iload_n 1, 1, 0, 0, []),
  (18, .iaload, 0, 0, 0, []),
  (19, .bipush 40, 0, 0, 40, []),
  (21, .imul, 0, 0, 0, []),
  (22, .iload_n 2, 2, 0, 0, []),
  (23, .iadd, 0, 0, 0, []),
  (24, .iload_n 3, 3, 0, 0, [])]),
  (100000, [(25, .iastore, 0, 0, 0, []),
  (26, .return_, 0, 0, 0, [])])]
def cm_Ma_store : ck_MD := (⟨"CheckSaver$Machine", "store", "(III)V"⟩, prog_5_method_17_code, 4, none, false, 3, 3, ct_Ma_store)
/-- C$Machine.makeArray(II)V -/
def ct_Ma_makeArray : ck_Tb := [(16, [(0, .iload_n 2, 2, 0, 0, []),
  (1, .ifCond .lt 18, 19, 0, 0, []),
  (4, .iload_n 2, 2, 0, 0, []),
  (5, .bipush 40, 0, 0, 40, []),
  (7, .if_icmp .gt 12, 19, 0, 0, []),
  (10, .aload_n 0, 0, 0, 0, []),
  (11, .getfield 66, 315, 253, 0, []),
  (14, .bipush 40, 0, 0, 40, [])]),
  (31, [(16, .if_icmp .ne 10, 26, 0, 0, []),
  (19, .aload_n 0, 0, 0, 0, []),
  (20, .bipush 6, 0, 0, 6, []),
  (22, .putfield 74, 309, 246, 0, []),
  (25, .return_, 0, 0, 0, []),
  (26, .aload_n 0, 0, 0, 0, []),
  (27, .getfield 34, 304, 240, 0, []),
  (30, .iload_n 1, 1, 0, 0, [])]),
  (45, [(31, .aload_n 0, 0, 0, 0, []),
  (32, .getfield 66, 315, 253, 0, []),
  (35, .iastore, 0, 0, 0, []),
  (36, .aload_n 0, 0, 0, 0, []),
  (37, .getfield 37, 305, 241, 0, []),
  (40, .aload_n 0, 0, 0, 0, []),
  (41, .getfield 66, 315, 253, 0, []),
  (44, .iload_n 2, 2, 0, 0, [])]),
  (57, [(45, .iastore, 0, 0, 0, []),
  (46, .iconst 0, 0, 0, 0, []),
  (47, .istore_n 3, 3, 0, 0, []),
  (48, .iload_n 3, 3, 0, 0, []),
  (49, .iload_n 2, 2, 0, 0, []),
  (50, .if_icmp .ge 24, 74, 0, 0, []),
  (53, .aload_n 0, 0, 0, 0, []),
  (54, .getfield 40, 306, 242, 0, [])]),
  (68, [(57, .aload_n 0, 0, 0, 0, []),
  (58, .getfield 66, 315, 253, 0, []),
  (61, .bipush 40, 0, 0, 40, []),
  (63, .imul, 0, 0, 0, []),
  (64, .iload_n 3, 3, 0, 0, []),
  (65, .iadd, 0, 0, 0, []),
  (66, .iconst 0, 0, 0, 0, []),
  (67, .iastore, 0, 0, 0, [])]),
  (84, [(68, .iinc 3 1, 3, 0, 1, []),
  (71, .goto (-23), 48, 0, 0, []),
  (74, .aload_n 0, 0, 0, 0, []),
  (75, .dup, 0, 0, 0, []),
  (76, .getfield 66, 315, 253, 0, []),
  (79, .iconst 1, 0, 0, 1, []),
  (80, .iadd, 0, 0, 0, []),
  (81, .putfield 66, 315, 253, 0, [])]),
  (100000, [(84, .return_, 0, 0, 0, [])])]
def cm_Ma_makeArray : ck_MD := (⟨"CheckSaver$Machine", "makeArray", "(II)V"⟩, prog_5_method_13_code, 4, none, false, 2, 3, ct_Ma_makeArray)
/-- CModel.thrown()I -/
def ct_Mo_thrown : ck_Tb := [(100000, [(0, .aload_n 0, 0, 0, 0, []),
  (1, .getfield 71, 600, 758, 0, []),
  (4, .ireturn, 0, 0, 0, [])])]
def cm_Mo_thrown : ck_MD := (⟨"CheckSaverModel", "thrown", "()I"⟩, prog_8_method_2_code, 1, some .int, false, 0, 6, ct_Mo_thrown)
/-- CModel.put(IIII)I -/
def ct_Mo_put : ck_Tb := [(13, [(0, .aload_n 0, 0, 0, 0, []),
  (1, .aload_n 0, 0, 0, 0, []),
  (2, .iload_n 1, 1, 0, 0, []),
  (3, .iload_n 2, 2, 0, 0, []),
  (4, .iload_n 3, 3, 0, 0, []),
  (5, .iload 4, 4, 0, 0, []),
  (7, .invokevirtual 82, 83, 863, 0, []),
  (10, .ifCond .ne 7, 17, 0, 0, [])]),
  (27, [(13, .iconst 1, 0, 0, 1, []),
  (14, .goto 4, 18, 0, 0, []),
  (17, .iconst 0, 0, 0, 0, []),
  (18, .iconst 0, 0, 0, 0, []),
  (19, .invokevirtual 86, 85, 870, 0, []),
  (22, .ifCond .eq 5, 27, 0, 0, []),
  (25, .iconst 0, 0, 0, 0, []),
  (26, .ireturn, 0, 0, 0, [])]),
  (41, [(27, .aload_n 0, 0, 0, 0, []),
  (28, .iconst 0, 0, 0, 0, []),
  (29, .putfield 90, 619, 777, 1, []),
  (32, .iload_n 1, 1, 0, 0, []),
  (33, .bipush 9, 0, 0, 9, []),
  (35, .if_icmp .eq 9, 44, 0, 0, []),
  (38, .iload_n 1, 1, 0, 0, []),
  (39, .bipush 12, 0, 0, 12, [])]),
  (57, [(41, .if_icmp .ne 7, 48, 0, 0, []),
  (44, .iconst 1, 0, 0, 1, []),
  (45, .goto 4, 49, 0, 0, []),
  (48, .iconst 0, 0, 0, 0, []),
  (49, .istore 5, 5, 0, 0, []),
  (51, .aload_n 0, 0, 0, 0, []),
  (52, .getfield 94, 601, 759, 0, []),
  (55, .bipush 64, 0, 0, 64, [])]),
  (75, [(57, .if_icmp .eq 17, 74, 0, 0, []),
  (60, .iload 5, 5, 0, 0, []),
  (62, .ifCond .eq 14, 76, 0, 0, []),
  (65, .aload_n 0, 0, 0, 0, []),
  (66, .getfield 79, 602, 760, 0, []),
  (69, .bipush 8, 0, 0, 8, []),
  (71, .if_icmp .ne 5, 76, 0, 0, []),
  (74, .iconst (-1), 0, 0, (-1), [])]),
  (89, [(75, .ireturn, 0, 0, 0, []),
  (76, .aload_n 0, 0, 0, 0, []),
  (77, .getfield 94, 601, 759, 0, []),
  (80, .istore 6, 6, 0, 0, []),
  (82, .aload_n 0, 0, 0, 0, []),
  (83, .getfield 7, 603, 761, 0, []),
  (86, .iload 6, 6, 0, 0, []),
  (88, .iload_n 1, 1, 0, 0, [])]),
  (102, [(89, .iastore, 0, 0, 0, []),
  (90, .aload_n 0, 0, 0, 0, []),
  (91, .getfield 13, 604, 762, 0, []),
  (94, .iload 6, 6, 0, 0, []),
  (96, .iload_n 2, 2, 0, 0, []),
  (97, .iastore, 0, 0, 0, []),
  (98, .aload_n 0, 0, 0, 0, []),
  (99, .getfield 16, 605, 763, 0, [])]),
  (115, [(102, .iload 6, 6, 0, 0, []),
  (104, .iload_n 3, 3, 0, 0, []),
  (105, .iastore, 0, 0, 0, []),
  (106, .aload_n 0, 0, 0, 0, []),
  (107, .getfield 19, 606, 764, 0, []),
  (110, .iload 6, 6, 0, 0, []),
  (112, .iload 4, 4, 0, 0, []),
  (114, .iastore, 0, 0, 0, [])]),
  (129, [(115, .aload_n 0, 0, 0, 0, []),
  (116, .getfield 22, 607, 765, 0, []),
  (119, .iload 6, 6, 0, 0, []),
  (121, .iconst (-1), 0, 0, (-1), []),
  (122, .iastore, 0, 0, 0, []),
  (123, .aload_n 0, 0, 0, 0, []),
  (124, .getfield 25, 608, 766, 0, []),
  (127, .iload 6, 6, 0, 0, [])]),
  (141, [(129, .iconst (-1), 0, 0, (-1), []),
  (130, .iastore, 0, 0, 0, []),
  (131, .aload_n 0, 0, 0, 0, []),
  (132, .getfield 28, 609, 767, 0, []),
  (135, .iload 6, 6, 0, 0, []),
  (137, .iconst (-1), 0, 0, (-1), []),
  (138, .iastore, 0, 0, 0, []),
  (139, .iload 5, 5, 0, 0, [])]),
  (156, [(141, .ifCond .eq 27, 168, 0, 0, []),
  (144, .aload_n 0, 0, 0, 0, []),
  (145, .getfield 31, 610, 768, 0, []),
  (148, .aload_n 0, 0, 0, 0, []),
  (149, .getfield 79, 602, 760, 0, []),
  (152, .iload 6, 6, 0, 0, []),
  (154, .iastore, 0, 0, 0, []),
  (155, .aload_n 0, 0, 0, 0, [])]),
  (171, [(156, .dup, 0, 0, 0, []),
  (157, .getfield 79, 602, 760, 0, []),
  (160, .iconst 1, 0, 0, 1, []),
  (161, .iadd, 0, 0, 0, []),
  (162, .putfield 79, 602, 760, 0, []),
  (165, .goto 90, 255, 0, 0, []),
  (168, .iload_n 1, 1, 0, 0, []),
  (169, .bipush 10, 0, 0, 10, [])]),
  (188, [(171, .if_icmp .ne 38, 209, 0, 0, []),
  (174, .aload_n 0, 0, 0, 0, []),
  (175, .getfield 28, 609, 767, 0, []),
  (178, .iload 6, 6, 0, 0, []),
  (180, .aload_n 0, 0, 0, 0, []),
  (181, .getfield 31, 610, 768, 0, []),
  (184, .aload_n 0, 0, 0, 0, []),
  (185, .getfield 79, 602, 760, 0, [])]),
  (200, [(188, .iconst 1, 0, 0, 1, []),
  (189, .isub, 0, 0, 0, []),
  (190, .iaload, 0, 0, 0, []),
  (191, .iastore, 0, 0, 0, []),
  (192, .aload_n 0, 0, 0, 0, []),
  (193, .getfield 22, 607, 765, 0, []),
  (196, .aload_n 0, 0, 0, 0, []),
  (197, .getfield 28, 609, 767, 0, [])]),
  (215, [(200, .iload 6, 6, 0, 0, []),
  (202, .iaload, 0, 0, 0, []),
  (203, .iload 6, 6, 0, 0, []),
  (205, .iastore, 0, 0, 0, []),
  (206, .goto 49, 255, 0, 0, []),
  (209, .iload_n 1, 1, 0, 0, []),
  (210, .bipush 11, 0, 0, 11, []),
  (212, .if_icmp .ne 43, 255, 0, 0, [])]),
  (229, [(215, .aload_n 0, 0, 0, 0, []),
  (216, .dup, 0, 0, 0, []),
  (217, .getfield 79, 602, 760, 0, []),
  (220, .iconst 1, 0, 0, 1, []),
  (221, .isub, 0, 0, 0, []),
  (222, .putfield 79, 602, 760, 0, []),
  (225, .aload_n 0, 0, 0, 0, []),
  (226, .getfield 28, 609, 767, 0, [])]),
  (242, [(229, .iload 6, 6, 0, 0, []),
  (231, .aload_n 0, 0, 0, 0, []),
  (232, .getfield 31, 610, 768, 0, []),
  (235, .aload_n 0, 0, 0, 0, []),
  (236, .getfield 79, 602, 760, 0, []),
  (239, .iaload, 0, 0, 0, []),
  (240, .iastore, 0, 0, 0, []),
  (241, .aload_n 0, 0, 0, 0, [])]),
  (256, [(242, .getfield 25, 608, 766, 0, []),
  (245, .aload_n 0, 0, 0, 0, []),
  (246, .getfield 28, 609, 767, 0, []),
  (249, .iload 6, 6, 0, 0, []),
  (251, .iaload, 0, 0, 0, []),
  (252, .iload 6, 6, 0, 0, []),
  (254, .iastore, 0, 0, 0, []),
  (255, .aload_n 0, 0, 0, 0, [])]),
  (100000, [(256, .dup, 0, 0, 0, []),
  (257, .getfield 94, 601, 759, 0, []),
  (260, .iconst 1, 0, 0, 1, []),
  (261, .iadd, 0, 0, 0, []),
  (262, .putfield 94, 601, 759, 0, []),
  (265, .aload_n 0, 0, 0, 0, []),
  (266, .getfield 94, 601, 759, 0, []),
  (269, .ireturn, 0, 0, 0, [])])]
def cm_Mo_put : ck_MD := (⟨"CheckSaverModel", "put", "(IIII)I"⟩, prog_8_method_6_code, 7, some .int, false, 4, 6, ct_Mo_put)
/-- CModel.isSaid(IIII)Z -/
def ct_Mo_isSaid : ck_Tb := [(12, [(0, .iload_n 2, 2, 0, 0, []),
  (1, .iconst 0, 0, 0, 0, []),
  (2, .bipush 9, 0, 0, 9, []),
  (4, .invokestatic 75, 84, 867, 0, []),
  (7, .istore 5, 5, 0, 0, []),
  (9, .iload_n 2, 2, 0, 0, []),
  (10, .iconst 0, 0, 0, 0, []),
  (11, .iconst 3, 0, 0, 3, [])]),
  (96, [(12, .invokestatic 75, 84, 867, 0, []),
  (15, .istore 6, 6, 0, 0, []),
  (17, .iload_n 1, 1, 0, 0, []),
  (18, .tableswitch 435 0 13 #[70, 97, 130, 150, 175, 206, 238, 264, 284, 309, 342, 409, 309, 130], 453, 70, 0, [88, 115, 148, 168, 193, 224, 256, 282, 302, 327, 360, 427, 327, 148]),
  (88, .iload 5, 5, 0, 0, []),
  (90, .ifCond .eq 23, 113, 0, 0, []),
  (93, .iload_n 3, 3, 0, 0, []),
  (94, .bipush (-100), 0, 0, (-100), [])]),
  (114, [(96, .bipush 100, 0, 0, 100, []),
  (98, .invokestatic 75, 84, 867, 0, []),
  (101, .ifCond .eq 12, 113, 0, 0, []),
  (104, .iload 4, 4, 0, 0, []),
  (106, .ifCond .ne 7, 113, 0, 0, []),
  (109, .iconst 1, 0, 0, 1, []),
  (110, .goto 4, 114, 0, 0, []),
  (113, .iconst 0, 0, 0, 0, [])]),
  (130, [(114, .ireturn, 0, 0, 0, []),
  (115, .iload 5, 5, 0, 0, []),
  (117, .ifCond .eq 29, 146, 0, 0, []),
  (120, .iload_n 3, 3, 0, 0, []),
  (121, .iconst 0, 0, 0, 0, []),
  (122, .bipush 9, 0, 0, 9, []),
  (124, .invokestatic 75, 84, 867, 0, []),
  (127, .ifCond .eq 19, 146, 0, 0, [])]),
  (147, [(130, .iload 4, 4, 0, 0, []),
  (132, .bipush (-100), 0, 0, (-100), []),
  (134, .bipush 100, 0, 0, 100, []),
  (136, .invokestatic 75, 84, 867, 0, []),
  (139, .ifCond .eq 7, 146, 0, 0, []),
  (142, .iconst 1, 0, 0, 1, []),
  (143, .goto 4, 147, 0, 0, []),
  (146, .iconst 0, 0, 0, 0, [])]),
  (163, [(147, .ireturn, 0, 0, 0, []),
  (148, .iload 5, 5, 0, 0, []),
  (150, .ifCond .eq 16, 166, 0, 0, []),
  (153, .iload_n 3, 3, 0, 0, []),
  (154, .ifCond .ne 12, 166, 0, 0, []),
  (157, .iload 4, 4, 0, 0, []),
  (159, .ifCond .ne 7, 166, 0, 0, []),
  (162, .iconst 1, 0, 0, 1, [])]),
  (176, [(163, .goto 4, 167, 0, 0, []),
  (166, .iconst 0, 0, 0, 0, []),
  (167, .ireturn, 0, 0, 0, []),
  (168, .iload 5, 5, 0, 0, []),
  (170, .ifCond .eq 21, 191, 0, 0, []),
  (173, .iload_n 3, 3, 0, 0, []),
  (174, .iconst 0, 0, 0, 0, []),
  (175, .iconst 3, 0, 0, 3, [])]),
  (193, [(176, .invokestatic 75, 84, 867, 0, []),
  (179, .ifCond .eq 12, 191, 0, 0, []),
  (182, .iload 4, 4, 0, 0, []),
  (184, .ifCond .ne 7, 191, 0, 0, []),
  (187, .iconst 1, 0, 0, 1, []),
  (188, .goto 4, 192, 0, 0, []),
  (191, .iconst 0, 0, 0, 0, []),
  (192, .ireturn, 0, 0, 0, [])]),
  (209, [(193, .iload 5, 5, 0, 0, []),
  (195, .ifCond .eq 27, 222, 0, 0, []),
  (198, .iload_n 3, 3, 0, 0, []),
  (199, .iconst 0, 0, 0, 0, []),
  (200, .iconst 3, 0, 0, 3, []),
  (201, .invokestatic 75, 84, 867, 0, []),
  (204, .ifCond .eq 18, 222, 0, 0, []),
  (207, .iload 4, 4, 0, 0, [])]),
  (224, [(209, .iconst 0, 0, 0, 0, []),
  (210, .bipush 9, 0, 0, 9, []),
  (212, .invokestatic 75, 84, 867, 0, []),
  (215, .ifCond .eq 7, 222, 0, 0, []),
  (218, .iconst 1, 0, 0, 1, []),
  (219, .goto 4, 223, 0, 0, []),
  (222, .iconst 0, 0, 0, 0, []),
  (223, .ireturn, 0, 0, 0, [])]),
  (241, [(224, .iload 6, 6, 0, 0, []),
  (226, .ifCond .eq 28, 254, 0, 0, []),
  (229, .iload_n 3, 3, 0, 0, []),
  (230, .iconst 0, 0, 0, 0, []),
  (231, .bipush 9, 0, 0, 9, []),
  (233, .invokestatic 75, 84, 867, 0, []),
  (236, .ifCond .eq 18, 254, 0, 0, []),
  (239, .iload 4, 4, 0, 0, [])]),
  (256, [(241, .iconst 0, 0, 0, 0, []),
  (242, .bipush 9, 0, 0, 9, []),
  (244, .invokestatic 75, 84, 867, 0, []),
  (247, .ifCond .eq 7, 254, 0, 0, []),
  (250, .iconst 1, 0, 0, 1, []),
  (251, .goto 4, 255, 0, 0, []),
  (254, .iconst 0, 0, 0, 0, []),
  (255, .ireturn, 0, 0, 0, [])]),
  (273, [(256, .iload 6, 6, 0, 0, []),
  (258, .ifCond .eq 22, 280, 0, 0, []),
  (261, .iload_n 3, 3, 0, 0, []),
  (262, .iconst 0, 0, 0, 0, []),
  (263, .bipush 9, 0, 0, 9, []),
  (265, .invokestatic 75, 84, 867, 0, []),
  (268, .ifCond .eq 12, 280, 0, 0, []),
  (271, .iload 4, 4, 0, 0, [])]),
  (288, [(273, .ifCond .ne 7, 280, 0, 0, []),
  (276, .iconst 1, 0, 0, 1, []),
  (277, .goto 4, 281, 0, 0, []),
  (280, .iconst 0, 0, 0, 0, []),
  (281, .ireturn, 0, 0, 0, []),
  (282, .iload 6, 6, 0, 0, []),
  (284, .ifCond .eq 16, 300, 0, 0, []),
  (287, .iload_n 3, 3, 0, 0, [])]),
  (304, [(288, .ifCond .ne 12, 300, 0, 0, []),
  (291, .iload 4, 4, 0, 0, []),
  (293, .ifCond .ne 7, 300, 0, 0, []),
  (296, .iconst 1, 0, 0, 1, []),
  (297, .goto 4, 301, 0, 0, []),
  (300, .iconst 0, 0, 0, 0, []),
  (301, .ireturn, 0, 0, 0, []),
  (302, .iload 6, 6, 0, 0, [])]),
  (321, [(304, .ifCond .eq 21, 325, 0, 0, []),
  (307, .iload_n 3, 3, 0, 0, []),
  (308, .iconst 0, 0, 0, 0, []),
  (309, .iconst 3, 0, 0, 3, []),
  (310, .invokestatic 75, 84, 867, 0, []),
  (313, .ifCond .eq 12, 325, 0, 0, []),
  (316, .iload 4, 4, 0, 0, []),
  (318, .ifCond .ne 7, 325, 0, 0, [])]),
  (334, [(321, .iconst 1, 0, 0, 1, []),
  (322, .goto 4, 326, 0, 0, []),
  (325, .iconst 0, 0, 0, 0, []),
  (326, .ireturn, 0, 0, 0, []),
  (327, .iload 5, 5, 0, 0, []),
  (329, .ifCond .eq 29, 358, 0, 0, []),
  (332, .iload_n 3, 3, 0, 0, []),
  (333, .iconst 0, 0, 0, 0, [])]),
  (354, [(334, .bipush 10, 0, 0, 10, []),
  (336, .invokestatic 75, 84, 867, 0, []),
  (339, .ifCond .eq 19, 358, 0, 0, []),
  (342, .iload 4, 4, 0, 0, []),
  (344, .bipush (-100), 0, 0, (-100), []),
  (346, .bipush 100, 0, 0, 100, []),
  (348, .invokestatic 75, 84, 867, 0, []),
  (351, .ifCond .eq 7, 358, 0, 0, [])]),
  (368, [(354, .iconst 1, 0, 0, 1, []),
  (355, .goto 4, 359, 0, 0, []),
  (358, .iconst 0, 0, 0, 0, []),
  (359, .ireturn, 0, 0, 0, []),
  (360, .iload_n 2, 2, 0, 0, []),
  (361, .ifCond .ne 64, 425, 0, 0, []),
  (364, .iload_n 3, 3, 0, 0, []),
  (365, .ifCond .ne 60, 425, 0, 0, [])]),
  (385, [(368, .iload 4, 4, 0, 0, []),
  (370, .ifCond .ne 55, 425, 0, 0, []),
  (373, .aload_n 0, 0, 0, 0, []),
  (374, .getfield 79, 602, 760, 0, []),
  (377, .ifCond .le 48, 425, 0, 0, []),
  (380, .aload_n 0, 0, 0, 0, []),
  (381, .getfield 7, 603, 761, 0, []),
  (384, .aload_n 0, 0, 0, 0, [])]),
  (398, [(385, .getfield 31, 610, 768, 0, []),
  (388, .aload_n 0, 0, 0, 0, []),
  (389, .getfield 79, 602, 760, 0, []),
  (392, .iconst 1, 0, 0, 1, []),
  (393, .isub, 0, 0, 0, []),
  (394, .iaload, 0, 0, 0, []),
  (395, .iaload, 0, 0, 0, []),
  (396, .bipush 9, 0, 0, 9, [])]),
  (414, [(398, .if_icmp .ne 27, 425, 0, 0, []),
  (401, .aload_n 0, 0, 0, 0, []),
  (402, .getfield 22, 607, 765, 0, []),
  (405, .aload_n 0, 0, 0, 0, []),
  (406, .getfield 31, 610, 768, 0, []),
  (409, .aload_n 0, 0, 0, 0, []),
  (410, .getfield 79, 602, 760, 0, []),
  (413, .iconst 1, 0, 0, 1, [])]),
  (426, [(414, .isub, 0, 0, 0, []),
  (415, .iaload, 0, 0, 0, []),
  (416, .iaload, 0, 0, 0, []),
  (417, .iconst (-1), 0, 0, (-1), []),
  (418, .if_icmp .ne 7, 425, 0, 0, []),
  (421, .iconst 1, 0, 0, 1, []),
  (422, .goto 4, 426, 0, 0, []),
  (425, .iconst 0, 0, 0, 0, [])]),
  (441, [(426, .ireturn, 0, 0, 0, []),
  (427, .iload_n 2, 2, 0, 0, []),
  (428, .ifCond .ne 23, 451, 0, 0, []),
  (431, .iload_n 3, 3, 0, 0, []),
  (432, .ifCond .ne 19, 451, 0, 0, []),
  (435, .iload 4, 4, 0, 0, []),
  (437, .ifCond .ne 14, 451, 0, 0, []),
  (440, .aload_n 0, 0, 0, 0, [])]),
  (100000, [(441, .getfield 79, 602, 760, 0, []),
  (444, .ifCond .le 7, 451, 0, 0, []),
  (447, .iconst 1, 0, 0, 1, []),
  (448, .goto 4, 452, 0, 0, []),
  (451, .iconst 0, 0, 0, 0, []),
  (452, .ireturn, 0, 0, 0, []),
  (453, .iconst 0, 0, 0, 0, []),
  (454, .ireturn, 0, 0, 0, [])])]
def cm_Mo_isSaid : ck_MD := (⟨"CheckSaverModel", "isSaid", "(IIII)Z"⟩, prog_8_method_5_code, 7, some .boolean, false, 4, 6, ct_Mo_isSaid)
/-- CModel.in(III)Z -/
def ct_Mo_in : ck_Tb := [(14, [(0, .iload_n 0, 0, 0, 0, []),
  (1, .iload_n 1, 1, 0, 0, []),
  (2, .if_icmp .lt 12, 14, 0, 0, []),
  (5, .iload_n 0, 0, 0, 0, []),
  (6, .iload_n 2, 2, 0, 0, []),
  (7, .if_icmp .gt 7, 14, 0, 0, []),
  (10, .iconst 1, 0, 0, 1, []),
  (11, .goto 4, 15, 0, 0, [])]),
  (100000, [(14, .iconst 0, 0, 0, 0, []),
  (15, .ireturn, 0, 0, 0, [])])]
def cm_Mo_in : ck_MD := (⟨"CheckSaverModel", "in", "(III)Z"⟩, prog_8_method_4_code, 3, some .boolean, true, 3, 6, ct_Mo_in)
/-- CModel.fails(ZZ)Z -/
def ct_Mo_fails : ck_Tb := [(14, [(0, .aload_n 0, 0, 0, 0, []),
  (1, .iload_n 1, 1, 0, 0, []),
  (2, .ifCond .eq 7, 9, 0, 0, []),
  (5, .iconst 1, 0, 0, 1, []),
  (6, .goto 12, 18, 0, 0, []),
  (9, .iload_n 2, 2, 0, 0, []),
  (10, .ifCond .eq 7, 17, 0, 0, []),
  (13, .iconst 2, 0, 0, 2, [])]),
  (32, [(14, .goto 4, 18, 0, 0, []),
  (17, .iconst 0, 0, 0, 0, []),
  (18, .putfield 71, 600, 758, 0, []),
  (21, .aload_n 0, 0, 0, 0, []),
  (22, .getfield 71, 600, 758, 0, []),
  (25, .ifCond .le 7, 32, 0, 0, []),
  (28, .iconst 1, 0, 0, 1, []),
  (29, .goto 4, 33, 0, 0, [])]),
  (100000, [(32, .iconst 0, 0, 0, 0, []),
  (33, .ireturn, 0, 0, 0, [])])]
def cm_Mo_fails : ck_MD := (⟨"CheckSaverModel", "fails", "(ZZ)Z"⟩, prog_8_method_3_code, 3, some .boolean, false, 2, 6, ct_Mo_fails)
/-- CModel.clear()I -/
def ct_Mo_clear : ck_Tb := [(12, [(0, .aload_n 0, 0, 0, 0, []),
  (1, .iconst 0, 0, 0, 0, []),
  (2, .putfield 71, 600, 758, 0, []),
  (5, .aload_n 0, 0, 0, 0, []),
  (6, .getfield 94, 601, 759, 0, []),
  (9, .istore_n 1, 1, 0, 0, []),
  (10, .aload_n 0, 0, 0, 0, []),
  (11, .iconst 0, 0, 0, 0, [])]),
  (26, [(12, .putfield 94, 601, 759, 0, []),
  (15, .aload_n 0, 0, 0, 0, []),
  (16, .iconst 0, 0, 0, 0, []),
  (17, .putfield 79, 602, 760, 0, []),
  (20, .aload_n 0, 0, 0, 0, []),
  (21, .iconst 0, 0, 0, 0, []),
  (22, .putfield 97, 612, 770, 0, []),
  (25, .aload_n 0, 0, 0, 0, [])]),
  (100000, [(26, .iconst 0, 0, 0, 0, []),
  (27, .putfield 90, 619, 777, 1, []),
  (30, .iload_n 1, 1, 0, 0, []),
  (31, .ireturn, 0, 0, 0, [])])]
def cm_Mo_clear : ck_MD := (⟨"CheckSaverModel", "clear", "()I"⟩, prog_8_method_7_code, 2, some .int, false, 0, 6, ct_Mo_clear)
/-- CModel.give(I)I -/
def ct_Mo_give : ck_Tb := [(16, [(0, .aload_n 0, 0, 0, 0, []),
  (1, .iload_n 1, 1, 0, 0, []),
  (2, .ldc 100, 0, 882, (-1000000), []),
  (4, .ldc 101, 0, 883, 1000000, []),
  (6, .invokestatic 75, 84, 867, 0, []),
  (9, .ifCond .ne 7, 16, 0, 0, []),
  (12, .iconst 1, 0, 0, 1, []),
  (13, .goto 4, 17, 0, 0, [])]),
  (30, [(16, .iconst 0, 0, 0, 0, []),
  (17, .iconst 0, 0, 0, 0, []),
  (18, .invokevirtual 86, 85, 870, 0, []),
  (21, .ifCond .eq 5, 26, 0, 0, []),
  (24, .iconst 0, 0, 0, 0, []),
  (25, .ireturn, 0, 0, 0, []),
  (26, .aload_n 0, 0, 0, 0, []),
  (27, .getfield 97, 612, 770, 0, [])]),
  (45, [(30, .bipush 64, 0, 0, 64, []),
  (32, .if_icmp .ne 5, 37, 0, 0, []),
  (35, .iconst (-1), 0, 0, (-1), []),
  (36, .ireturn, 0, 0, 0, []),
  (37, .aload_n 0, 0, 0, 0, []),
  (38, .getfield 34, 611, 769, 0, []),
  (41, .aload_n 0, 0, 0, 0, []),
  (42, .getfield 97, 612, 770, 0, [])]),
  (57, [(45, .iload_n 1, 1, 0, 0, []),
  (46, .iastore, 0, 0, 0, []),
  (47, .aload_n 0, 0, 0, 0, []),
  (48, .dup, 0, 0, 0, []),
  (49, .getfield 97, 612, 770, 0, []),
  (52, .iconst 1, 0, 0, 1, []),
  (53, .iadd, 0, 0, 0, []),
  (54, .putfield 97, 612, 770, 0, [])]),
  (100000, [(57, .aload_n 0, 0, 0, 0, []),
  (58, .getfield 97, 612, 770, 0, []),
  (61, .ireturn, 0, 0, 0, [])])]
def cm_Mo_give : ck_MD := (⟨"CheckSaverModel", "give", "(I)I"⟩, prog_8_method_8_code, 2, some .int, false, 1, 6, ct_Mo_give)
/-- CModel.start()I -/
def ct_Mo_start : ck_Tb := [(14, [(0, .aload_n 0, 0, 0, 0, []),
  (1, .aload_n 0, 0, 0, 0, []),
  (2, .getfield 79, 602, 760, 0, []),
  (5, .ifCond .le 7, 12, 0, 0, []),
  (8, .iconst 1, 0, 0, 1, []),
  (9, .goto 4, 13, 0, 0, []),
  (12, .iconst 0, 0, 0, 0, []),
  (13, .iconst 0, 0, 0, 0, [])]),
  (27, [(14, .invokevirtual 86, 85, 870, 0, []),
  (17, .ifCond .eq 5, 22, 0, 0, []),
  (20, .iconst 0, 0, 0, 0, []),
  (21, .ireturn, 0, 0, 0, []),
  (22, .iconst 0, 0, 0, 0, []),
  (23, .istore_n 1, 1, 0, 0, []),
  (24, .iload_n 1, 1, 0, 0, []),
  (25, .bipush 64, 0, 0, 64, [])]),
  (43, [(27, .if_icmp .ge 16, 43, 0, 0, []),
  (30, .aload_n 0, 0, 0, 0, []),
  (31, .getfield 52, 618, 776, 0, []),
  (34, .iload_n 1, 1, 0, 0, []),
  (35, .iconst 0, 0, 0, 0, []),
  (36, .bastore, 0, 0, 0, []),
  (37, .iinc 1 1, 1, 0, 1, []),
  (40, .goto (-16), 24, 0, 0, [])]),
  (57, [(43, .iconst 1, 0, 0, 1, []),
  (44, .istore_n 1, 1, 0, 0, []),
  (45, .iload_n 1, 1, 0, 0, []),
  (46, .ifCond .eq 11, 57, 0, 0, []),
  (49, .aload_n 0, 0, 0, 0, []),
  (50, .invokevirtual 191, 89, 888, 0, []),
  (53, .istore_n 1, 1, 0, 0, []),
  (54, .goto (-9), 45, 0, 0, [])]),
  (71, [(57, .iconst 1, 0, 0, 1, []),
  (58, .istore_n 1, 1, 0, 0, []),
  (59, .iload_n 1, 1, 0, 0, []),
  (60, .ifCond .eq 11, 71, 0, 0, []),
  (63, .aload_n 0, 0, 0, 0, []),
  (64, .invokevirtual 191, 89, 888, 0, []),
  (67, .istore_n 1, 1, 0, 0, []),
  (68, .goto (-9), 59, 0, 0, [])]),
  (83, [(71, .aload_n 0, 0, 0, 0, []),
  (72, .iconst 1, 0, 0, 1, []),
  (73, .putfield 90, 619, 777, 1, []),
  (76, .aload_n 0, 0, 0, 0, []),
  (77, .iconst 0, 0, 0, 0, []),
  (78, .putfield 195, 620, 778, 0, []),
  (81, .aload_n 0, 0, 0, 0, []),
  (82, .aload_n 0, 0, 0, 0, [])]),
  (99, [(83, .getfield 94, 601, 759, 0, []),
  (86, .ifCond .ne 7, 93, 0, 0, []),
  (89, .iconst 1, 0, 0, 1, []),
  (90, .goto 4, 94, 0, 0, []),
  (93, .iconst 0, 0, 0, 0, []),
  (94, .putfield 198, 621, 779, 0, []),
  (97, .aload_n 0, 0, 0, 0, []),
  (98, .iconst 0, 0, 0, 0, [])]),
  (113, [(99, .putfield 201, 622, 780, 0, []),
  (102, .aload_n 0, 0, 0, 0, []),
  (103, .iconst 0, 0, 0, 0, []),
  (104, .putfield 204, 623, 781, 0, []),
  (107, .aload_n 0, 0, 0, 0, []),
  (108, .iconst 0, 0, 0, 0, []),
  (109, .putfield 207, 624, 782, 0, []),
  (112, .aload_n 0, 0, 0, 0, [])]),
  (125, [(113, .iconst 0, 0, 0, 0, []),
  (114, .putfield 210, 625, 783, 0, []),
  (117, .aload_n 0, 0, 0, 0, []),
  (118, .iconst 0, 0, 0, 0, []),
  (119, .putfield 213, 626, 784, 0, []),
  (122, .iconst 0, 0, 0, 0, []),
  (123, .istore_n 2, 2, 0, 0, []),
  (124, .iload_n 2, 2, 0, 0, [])]),
  (140, [(125, .bipush 10, 0, 0, 10, []),
  (127, .if_icmp .ge 16, 143, 0, 0, []),
  (130, .aload_n 0, 0, 0, 0, []),
  (131, .getfield 56, 627, 785, 0, []),
  (134, .iload_n 2, 2, 0, 0, []),
  (135, .iconst 0, 0, 0, 0, []),
  (136, .iastore, 0, 0, 0, []),
  (137, .iinc 2 1, 2, 0, 1, [])]),
  (154, [(140, .goto (-16), 124, 0, 0, []),
  (143, .iconst 0, 0, 0, 0, []),
  (144, .istore_n 2, 2, 0, 0, []),
  (145, .iload_n 2, 2, 0, 0, []),
  (146, .iconst 4, 0, 0, 4, []),
  (147, .if_icmp .ge 16, 163, 0, 0, []),
  (150, .aload_n 0, 0, 0, 0, []),
  (151, .getfield 59, 628, 786, 0, [])]),
  (166, [(154, .iload_n 2, 2, 0, 0, []),
  (155, .iconst (-1), 0, 0, (-1), []),
  (156, .iastore, 0, 0, 0, []),
  (157, .iinc 2 1, 2, 0, 1, []),
  (160, .goto (-15), 145, 0, 0, []),
  (163, .iconst 0, 0, 0, 0, []),
  (164, .istore_n 2, 2, 0, 0, []),
  (165, .iconst 0, 0, 0, 0, [])]),
  (178, [(166, .istore_n 3, 3, 0, 0, []),
  (167, .iload_n 3, 3, 0, 0, []),
  (168, .aload_n 0, 0, 0, 0, []),
  (169, .getfield 94, 601, 759, 0, []),
  (172, .if_icmp .ge 37, 209, 0, 0, []),
  (175, .iload_n 2, 2, 0, 0, []),
  (176, .aload_n 0, 0, 0, 0, []),
  (177, .iload_n 3, 3, 0, 0, [])]),
  (190, [(178, .invokevirtual 216, 116, 990, 0, []),
  (181, .iconst 1, 0, 0, 1, []),
  (182, .iand, 0, 0, 0, []),
  (183, .aload_n 0, 0, 0, 0, []),
  (184, .iload_n 3, 3, 0, 0, []),
  (185, .invokevirtual 216, 116, 990, 0, []),
  (188, .iconst 1, 0, 0, 1, []),
  (189, .ishr, 0, 0, 0, [])]),
  (200, [(190, .iconst 1, 0, 0, 1, []),
  (191, .iand, 0, 0, 0, []),
  (192, .iadd, 0, 0, 0, []),
  (193, .aload_n 0, 0, 0, 0, []),
  (194, .iload_n 3, 3, 0, 0, []),
  (195, .invokevirtual 216, 116, 990, 0, []),
  (198, .iconst 2, 0, 0, 2, []),
  (199, .ishr, 0, 0, 0, [])]),
  (100000, [(200, .iadd, 0, 0, 0, []),
  (201, .iadd, 0, 0, 0, []),
  (202, .istore_n 2, 2, 0, 0, []),
  (203, .iinc 3 1, 3, 0, 1, []),
  (206, .goto (-39), 167, 0, 0, []),
  (209, .iload_n 2, 2, 0, 0, []),
  (210, .ireturn, 0, 0, 0, [])])]
def cm_Mo_start : ck_MD := (⟨"CheckSaverModel", "start", "()I"⟩, prog_8_method_37_code, 4, some .int, false, 0, 6, ct_Mo_start)
/-- CModel.pass()Z -/
def ct_Mo_pass : ck_Tb := [(11, [(0, .iconst 0, 0, 0, 0, []),
  (1, .istore_n 1, 1, 0, 0, []),
  (2, .iconst 0, 0, 0, 0, []),
  (3, .istore_n 2, 2, 0, 0, []),
  (4, .iload_n 2, 2, 0, 0, []),
  (5, .bipush 10, 0, 0, 10, []),
  (7, .if_icmp .ge 38, 45, 0, 0, []),
  (10, .aload_n 0, 0, 0, 0, [])]),
  (23, [(11, .getfield 37, 613, 771, 0, []),
  (14, .iconst 0, 0, 0, 0, []),
  (15, .iload_n 2, 2, 0, 0, []),
  (16, .iadd, 0, 0, 0, []),
  (17, .iconst 1, 0, 0, 1, []),
  (18, .iastore, 0, 0, 0, []),
  (19, .aload_n 0, 0, 0, 0, []),
  (20, .getfield 37, 613, 771, 0, [])]),
  (35, [(23, .bipush 10, 0, 0, 10, []),
  (25, .iload_n 2, 2, 0, 0, []),
  (26, .iadd, 0, 0, 0, []),
  (27, .iconst 0, 0, 0, 0, []),
  (28, .iastore, 0, 0, 0, []),
  (29, .aload_n 0, 0, 0, 0, []),
  (30, .getfield 37, 613, 771, 0, []),
  (33, .bipush 20, 0, 0, 20, [])]),
  (47, [(35, .iload_n 2, 2, 0, 0, []),
  (36, .iadd, 0, 0, 0, []),
  (37, .iconst 0, 0, 0, 0, []),
  (38, .iastore, 0, 0, 0, []),
  (39, .iinc 2 1, 2, 0, 1, []),
  (42, .goto (-38), 4, 0, 0, []),
  (45, .iconst 0, 0, 0, 0, []),
  (46, .istore_n 2, 2, 0, 0, [])]),
  (63, [(47, .iload_n 2, 2, 0, 0, []),
  (48, .iconst 4, 0, 0, 4, []),
  (49, .if_icmp .ge 14, 63, 0, 0, []),
  (52, .aload_n 0, 0, 0, 0, []),
  (53, .iload_n 2, 2, 0, 0, []),
  (54, .invokevirtual 150, 90, 892, 0, []),
  (57, .iinc 2 1, 2, 0, 1, []),
  (60, .goto (-13), 47, 0, 0, [])]),
  (77, [(63, .iconst 0, 0, 0, 0, []),
  (64, .istore_n 2, 2, 0, 0, []),
  (65, .iload_n 2, 2, 0, 0, []),
  (66, .aload_n 0, 0, 0, 0, []),
  (67, .getfield 94, 601, 759, 0, []),
  (70, .if_icmp .ge 184, 254, 0, 0, []),
  (73, .aload_n 0, 0, 0, 0, []),
  (74, .getfield 7, 603, 761, 0, [])]),
  (90, [(77, .iload_n 2, 2, 0, 0, []),
  (78, .iaload, 0, 0, 0, []),
  (79, .bipush 12, 0, 0, 12, []),
  (81, .if_icmp .ne 22, 103, 0, 0, []),
  (84, .aload_n 0, 0, 0, 0, []),
  (85, .iload_n 2, 2, 0, 0, []),
  (86, .invokevirtual 164, 91, 897, 0, []),
  (89, .aload_n 0, 0, 0, 0, [])]),
  (104, [(90, .getfield 52, 618, 776, 0, []),
  (93, .iload_n 2, 2, 0, 0, []),
  (94, .baload, 0, 0, 0, []),
  (95, .ifCond .eq 8, 103, 0, 0, []),
  (98, .aload_n 0, 0, 0, 0, []),
  (99, .iload_n 2, 2, 0, 0, []),
  (100, .invokevirtual 167, 92, 901, 0, []),
  (103, .aload_n 0, 0, 0, 0, [])]),
  (120, [(104, .iload_n 2, 2, 0, 0, []),
  (105, .invokevirtual 170, 95, 912, 0, []),
  (108, .ifCond .ne 7, 115, 0, 0, []),
  (111, .iload_n 1, 1, 0, 0, []),
  (112, .ifCond .eq 7, 119, 0, 0, []),
  (115, .iconst 1, 0, 0, 1, []),
  (116, .goto 4, 120, 0, 0, []),
  (119, .iconst 0, 0, 0, 0, [])]),
  (133, [(120, .istore_n 1, 1, 0, 0, []),
  (121, .aload_n 0, 0, 0, 0, []),
  (122, .getfield 7, 603, 761, 0, []),
  (125, .iload_n 2, 2, 0, 0, []),
  (126, .iaload, 0, 0, 0, []),
  (127, .bipush 9, 0, 0, 9, []),
  (129, .if_icmp .eq 14, 143, 0, 0, []),
  (132, .aload_n 0, 0, 0, 0, [])]),
  (146, [(133, .getfield 7, 603, 761, 0, []),
  (136, .iload_n 2, 2, 0, 0, []),
  (137, .iaload, 0, 0, 0, []),
  (138, .bipush 12, 0, 0, 12, []),
  (140, .if_icmp .ne 36, 176, 0, 0, []),
  (143, .aload_n 0, 0, 0, 0, []),
  (144, .iload_n 2, 2, 0, 0, []),
  (145, .iconst 0, 0, 0, 0, [])]),
  (160, [(146, .invokevirtual 174, 97, 920, 0, []),
  (149, .aload_n 0, 0, 0, 0, []),
  (150, .aload_n 0, 0, 0, 0, []),
  (151, .getfield 43, 615, 773, 0, []),
  (154, .iload_n 2, 2, 0, 0, []),
  (155, .invokevirtual 160, 96, 916, 0, []),
  (158, .aload_n 0, 0, 0, 0, []),
  (159, .aload_n 0, 0, 0, 0, [])]),
  (176, [(160, .getfield 40, 614, 772, 0, []),
  (163, .iload_n 2, 2, 0, 0, []),
  (164, .invokevirtual 178, 105, 946, 0, []),
  (167, .aload_n 0, 0, 0, 0, []),
  (168, .iload_n 2, 2, 0, 0, []),
  (169, .iconst 1, 0, 0, 1, []),
  (170, .invokevirtual 174, 97, 920, 0, []),
  (173, .goto 75, 248, 0, 0, [])]),
  (189, [(176, .aload_n 0, 0, 0, 0, []),
  (177, .getfield 7, 603, 761, 0, []),
  (180, .iload_n 2, 2, 0, 0, []),
  (181, .iaload, 0, 0, 0, []),
  (182, .bipush 10, 0, 0, 10, []),
  (184, .if_icmp .ne 34, 218, 0, 0, []),
  (187, .aload_n 0, 0, 0, 0, []),
  (188, .aload_n 0, 0, 0, 0, [])]),
  (203, [(189, .getfield 46, 616, 774, 0, []),
  (192, .aload_n 0, 0, 0, 0, []),
  (193, .getfield 28, 609, 767, 0, []),
  (196, .iload_n 2, 2, 0, 0, []),
  (197, .iaload, 0, 0, 0, []),
  (198, .invokevirtual 160, 96, 916, 0, []),
  (201, .aload_n 0, 0, 0, 0, []),
  (202, .aload_n 0, 0, 0, 0, [])]),
  (219, [(203, .getfield 43, 615, 773, 0, []),
  (206, .aload_n 0, 0, 0, 0, []),
  (207, .getfield 28, 609, 767, 0, []),
  (210, .iload_n 2, 2, 0, 0, []),
  (211, .iaload, 0, 0, 0, []),
  (212, .invokevirtual 178, 105, 946, 0, []),
  (215, .goto 33, 248, 0, 0, []),
  (218, .aload_n 0, 0, 0, 0, [])]),
  (234, [(219, .getfield 7, 603, 761, 0, []),
  (222, .iload_n 2, 2, 0, 0, []),
  (223, .iaload, 0, 0, 0, []),
  (224, .bipush 11, 0, 0, 11, []),
  (226, .if_icmp .ne 17, 243, 0, 0, []),
  (229, .aload_n 0, 0, 0, 0, []),
  (230, .aload_n 0, 0, 0, 0, []),
  (231, .getfield 28, 609, 767, 0, [])]),
  (248, [(234, .iload_n 2, 2, 0, 0, []),
  (235, .iaload, 0, 0, 0, []),
  (236, .iload_n 2, 2, 0, 0, []),
  (237, .invokevirtual 181, 106, 950, 0, []),
  (240, .goto 8, 248, 0, 0, []),
  (243, .aload_n 0, 0, 0, 0, []),
  (244, .iload_n 2, 2, 0, 0, []),
  (245, .invokevirtual 184, 107, 954, 0, [])]),
  (100000, [(248, .iinc 2 1, 2, 0, 1, []),
  (251, .goto (-186), 65, 0, 0, []),
  (254, .iload_n 1, 1, 0, 0, []),
  (255, .ireturn, 0, 0, 0, [])])]
def cm_Mo_pass : ck_MD := (⟨"CheckSaverModel", "pass", "()Z"⟩, prog_8_method_33_code, 3, some .boolean, false, 0, 6, ct_Mo_pass)
/-- CModel.nothing(I)V -/
def ct_Mo_nothing : ck_Tb := [(11, [(0, .aload_n 0, 0, 0, 0, []),
  (1, .getfield 37, 613, 771, 0, []),
  (4, .bipush 30, 0, 0, 30, []),
  (6, .iload_n 1, 1, 0, 0, []),
  (7, .iadd, 0, 0, 0, []),
  (8, .iconst 0, 0, 0, 0, []),
  (9, .iastore, 0, 0, 0, []),
  (10, .aload_n 0, 0, 0, 0, [])]),
  (24, [(11, .getfield 37, 613, 771, 0, []),
  (14, .bipush 34, 0, 0, 34, []),
  (16, .iload_n 1, 1, 0, 0, []),
  (17, .iadd, 0, 0, 0, []),
  (18, .iconst 0, 0, 0, 0, []),
  (19, .iastore, 0, 0, 0, []),
  (20, .aload_n 0, 0, 0, 0, []),
  (21, .getfield 37, 613, 771, 0, [])]),
  (34, [(24, .bipush 38, 0, 0, 38, []),
  (26, .iload_n 1, 1, 0, 0, []),
  (27, .iadd, 0, 0, 0, []),
  (28, .ldc 102, 0, 896, 1000000000, []),
  (30, .iastore, 0, 0, 0, []),
  (31, .iconst 0, 0, 0, 0, []),
  (32, .istore_n 2, 2, 0, 0, []),
  (33, .iload_n 2, 2, 0, 0, [])]),
  (48, [(34, .bipush 10, 0, 0, 10, []),
  (36, .if_icmp .ge 24, 60, 0, 0, []),
  (39, .aload_n 0, 0, 0, 0, []),
  (40, .getfield 37, 613, 771, 0, []),
  (43, .bipush 42, 0, 0, 42, []),
  (45, .iconst 4, 0, 0, 4, []),
  (46, .iload_n 2, 2, 0, 0, []),
  (47, .imul, 0, 0, 0, [])]),
  (100000, [(48, .iadd, 0, 0, 0, []),
  (49, .iload_n 1, 1, 0, 0, []),
  (50, .iadd, 0, 0, 0, []),
  (51, .ldc 102, 0, 896, 1000000000, []),
  (53, .iastore, 0, 0, 0, []),
  (54, .iinc 2 1, 2, 0, 1, []),
  (57, .goto (-24), 33, 0, 0, []),
  (60, .return_, 0, 0, 0, [])])]
def cm_Mo_nothing : ck_MD := (⟨"CheckSaverModel", "nothing", "(I)V"⟩, prog_8_method_24_code, 3, none, false, 1, 6, ct_Mo_nothing)
/-- CModel.loosen(I)V -/
def ct_Mo_loosen : ck_Tb := [(10, [(0, .iload_n 1, 1, 0, 0, []),
  (1, .iconst 1, 0, 0, 1, []),
  (2, .iadd, 0, 0, 0, []),
  (3, .istore_n 2, 2, 0, 0, []),
  (4, .iload_n 2, 2, 0, 0, []),
  (5, .aload_n 0, 0, 0, 0, []),
  (6, .getfield 25, 608, 766, 0, []),
  (9, .iload_n 1, 1, 0, 0, [])]),
  (24, [(10, .iaload, 0, 0, 0, []),
  (11, .if_icmp .ge 101, 112, 0, 0, []),
  (14, .aload_n 0, 0, 0, 0, []),
  (15, .getfield 7, 603, 761, 0, []),
  (18, .iload_n 2, 2, 0, 0, []),
  (19, .iaload, 0, 0, 0, []),
  (20, .iconst 5, 0, 0, 5, []),
  (21, .if_icmp .ge 17, 38, 0, 0, [])]),
  (36, [(24, .aload_n 0, 0, 0, 0, []),
  (25, .getfield 37, 613, 771, 0, []),
  (28, .iconst 0, 0, 0, 0, []),
  (29, .aload_n 0, 0, 0, 0, []),
  (30, .getfield 13, 604, 762, 0, []),
  (33, .iload_n 2, 2, 0, 0, []),
  (34, .iaload, 0, 0, 0, []),
  (35, .iadd, 0, 0, 0, [])]),
  (49, [(36, .iconst 0, 0, 0, 0, []),
  (37, .iastore, 0, 0, 0, []),
  (38, .aload_n 0, 0, 0, 0, []),
  (39, .getfield 7, 603, 761, 0, []),
  (42, .iload_n 2, 2, 0, 0, []),
  (43, .iaload, 0, 0, 0, []),
  (44, .bipush 6, 0, 0, 6, []),
  (46, .if_icmp .lt 60, 106, 0, 0, [])]),
  (64, [(49, .aload_n 0, 0, 0, 0, []),
  (50, .getfield 7, 603, 761, 0, []),
  (53, .iload_n 2, 2, 0, 0, []),
  (54, .iaload, 0, 0, 0, []),
  (55, .bipush 8, 0, 0, 8, []),
  (57, .if_icmp .le 6, 63, 0, 0, []),
  (60, .goto 46, 106, 0, 0, []),
  (63, .aload_n 0, 0, 0, 0, [])]),
  (78, [(64, .getfield 37, 613, 771, 0, []),
  (67, .bipush 30, 0, 0, 30, []),
  (69, .aload_n 0, 0, 0, 0, []),
  (70, .getfield 13, 604, 762, 0, []),
  (73, .iload_n 2, 2, 0, 0, []),
  (74, .iaload, 0, 0, 0, []),
  (75, .iadd, 0, 0, 0, []),
  (76, .bipush 100, 0, 0, 100, [])]),
  (88, [(78, .iconst 4, 0, 0, 4, []),
  (79, .iload_n 1, 1, 0, 0, []),
  (80, .imul, 0, 0, 0, []),
  (81, .iadd, 0, 0, 0, []),
  (82, .aload_n 0, 0, 0, 0, []),
  (83, .getfield 13, 604, 762, 0, []),
  (86, .iload_n 2, 2, 0, 0, []),
  (87, .iaload, 0, 0, 0, [])]),
  (101, [(88, .iadd, 0, 0, 0, []),
  (89, .iastore, 0, 0, 0, []),
  (90, .aload_n 0, 0, 0, 0, []),
  (91, .getfield 37, 613, 771, 0, []),
  (94, .bipush 38, 0, 0, 38, []),
  (96, .aload_n 0, 0, 0, 0, []),
  (97, .getfield 13, 604, 762, 0, []),
  (100, .iload_n 2, 2, 0, 0, [])]),
  (100000, [(101, .iaload, 0, 0, 0, []),
  (102, .iadd, 0, 0, 0, []),
  (103, .ldc 102, 0, 896, 1000000000, []),
  (105, .iastore, 0, 0, 0, []),
  (106, .iinc 2 1, 2, 0, 1, []),
  (109, .goto (-105), 4, 0, 0, []),
  (112, .return_, 0, 0, 0, [])])]
def cm_Mo_loosen : ck_MD := (⟨"CheckSaverModel", "loosen", "(I)V"⟩, prog_8_method_29_code, 3, none, false, 1, 6, ct_Mo_loosen)
/-- CModel.joinBack(I)V -/
def ct_Mo_joinBack : ck_Tb := [(13, [(0, .iconst 0, 0, 0, 0, []),
  (1, .istore_n 2, 2, 0, 0, []),
  (2, .iload_n 2, 2, 0, 0, []),
  (3, .iconst 4, 0, 0, 4, []),
  (4, .if_icmp .ge 32, 36, 0, 0, []),
  (7, .aload_n 0, 0, 0, 0, []),
  (8, .getfield 49, 617, 775, 0, []),
  (11, .bipush 82, 0, 0, 82, [])]),
  (24, [(13, .iload_n 1, 1, 0, 0, []),
  (14, .imul, 0, 0, 0, []),
  (15, .bipush 30, 0, 0, 30, []),
  (17, .iadd, 0, 0, 0, []),
  (18, .iload_n 2, 2, 0, 0, []),
  (19, .iadd, 0, 0, 0, []),
  (20, .aload_n 0, 0, 0, 0, []),
  (21, .getfield 37, 613, 771, 0, [])]),
  (37, [(24, .bipush 30, 0, 0, 30, []),
  (26, .iload_n 2, 2, 0, 0, []),
  (27, .iadd, 0, 0, 0, []),
  (28, .iaload, 0, 0, 0, []),
  (29, .iastore, 0, 0, 0, []),
  (30, .iinc 2 1, 2, 0, 1, []),
  (33, .goto (-31), 2, 0, 0, []),
  (36, .aload_n 0, 0, 0, 0, [])]),
  (100000, [(37, .aload_n 0, 0, 0, 0, []),
  (38, .getfield 49, 617, 775, 0, []),
  (41, .bipush 82, 0, 0, 82, []),
  (43, .iload_n 1, 1, 0, 0, []),
  (44, .imul, 0, 0, 0, []),
  (45, .iload_n 1, 1, 0, 0, []),
  (46, .invokevirtual 187, 93, 905, 0, []),
  (49, .return_, 0, 0, 0, [])])]
def cm_Mo_joinBack : ck_MD := (⟨"CheckSaverModel", "joinBack", "(I)V"⟩, prog_8_method_34_code, 3, none, false, 1, 6, ct_Mo_joinBack)
/-- CModel.join([III)V -/
def ct_Mo_join : ck_Tb := [(15, [(0, .iconst 0, 0, 0, 0, []),
  (1, .istore 4, 4, 0, 0, []),
  (3, .iload 4, 4, 0, 0, []),
  (5, .bipush 10, 0, 0, 10, []),
  (7, .if_icmp .ge 178, 185, 0, 0, []),
  (10, .aload_n 0, 0, 0, 0, []),
  (11, .getfield 37, 613, 771, 0, []),
  (14, .iconst 0, 0, 0, 0, [])]),
  (26, [(15, .iload 4, 4, 0, 0, []),
  (17, .iadd, 0, 0, 0, []),
  (18, .iaload, 0, 0, 0, []),
  (19, .iconst 1, 0, 0, 1, []),
  (20, .if_icmp .ne 41, 61, 0, 0, []),
  (23, .aload_n 1, 1, 0, 0, []),
  (24, .iload_n 2, 2, 0, 0, []),
  (25, .iconst 0, 0, 0, 0, [])]),
  (39, [(26, .iadd, 0, 0, 0, []),
  (27, .iload 4, 4, 0, 0, []),
  (29, .iadd, 0, 0, 0, []),
  (30, .iaload, 0, 0, 0, []),
  (31, .iconst 1, 0, 0, 1, []),
  (32, .if_icmp .ne 29, 61, 0, 0, []),
  (35, .aload_n 0, 0, 0, 0, []),
  (36, .getfield 37, 613, 771, 0, [])]),
  (50, [(39, .bipush 10, 0, 0, 10, []),
  (41, .iload 4, 4, 0, 0, []),
  (43, .iadd, 0, 0, 0, []),
  (44, .iaload, 0, 0, 0, []),
  (45, .aload_n 1, 1, 0, 0, []),
  (46, .iload_n 2, 2, 0, 0, []),
  (47, .bipush 10, 0, 0, 10, []),
  (49, .iadd, 0, 0, 0, [])]),
  (64, [(50, .iload 4, 4, 0, 0, []),
  (52, .iadd, 0, 0, 0, []),
  (53, .iaload, 0, 0, 0, []),
  (54, .if_icmp .ne 7, 61, 0, 0, []),
  (57, .iconst 1, 0, 0, 1, []),
  (58, .goto 4, 62, 0, 0, []),
  (61, .iconst 0, 0, 0, 0, []),
  (62, .istore 5, 5, 0, 0, [])]),
  (78, [(64, .aload_n 0, 0, 0, 0, []),
  (65, .getfield 37, 613, 771, 0, []),
  (68, .iconst 0, 0, 0, 0, []),
  (69, .iload 4, 4, 0, 0, []),
  (71, .iadd, 0, 0, 0, []),
  (72, .iload 5, 5, 0, 0, []),
  (74, .ifCond .eq 7, 81, 0, 0, []),
  (77, .iconst 1, 0, 0, 1, [])]),
  (92, [(78, .goto 4, 82, 0, 0, []),
  (81, .iconst 0, 0, 0, 0, []),
  (82, .iastore, 0, 0, 0, []),
  (83, .aload_n 0, 0, 0, 0, []),
  (84, .getfield 37, 613, 771, 0, []),
  (87, .bipush 20, 0, 0, 20, []),
  (89, .iload 4, 4, 0, 0, []),
  (91, .iadd, 0, 0, 0, [])]),
  (104, [(92, .aload_n 0, 0, 0, 0, []),
  (93, .getfield 37, 613, 771, 0, []),
  (96, .bipush 20, 0, 0, 20, []),
  (98, .iload 4, 4, 0, 0, []),
  (100, .iadd, 0, 0, 0, []),
  (101, .iaload, 0, 0, 0, []),
  (102, .aload_n 1, 1, 0, 0, []),
  (103, .iload_n 2, 2, 0, 0, [])]),
  (116, [(104, .bipush 20, 0, 0, 20, []),
  (106, .iadd, 0, 0, 0, []),
  (107, .iload 4, 4, 0, 0, []),
  (109, .iadd, 0, 0, 0, []),
  (110, .iaload, 0, 0, 0, []),
  (111, .iconst 0, 0, 0, 0, []),
  (112, .invokestatic 156, 94, 909, 0, []),
  (115, .iastore, 0, 0, 0, [])]),
  (131, [(116, .iconst 0, 0, 0, 0, []),
  (117, .istore 6, 6, 0, 0, []),
  (119, .iload 6, 6, 0, 0, []),
  (121, .iconst 4, 0, 0, 4, []),
  (122, .if_icmp .ge 57, 179, 0, 0, []),
  (125, .aload_n 0, 0, 0, 0, []),
  (126, .getfield 37, 613, 771, 0, []),
  (129, .bipush 42, 0, 0, 42, [])]),
  (143, [(131, .iconst 4, 0, 0, 4, []),
  (132, .iload 4, 4, 0, 0, []),
  (134, .imul, 0, 0, 0, []),
  (135, .iadd, 0, 0, 0, []),
  (136, .iload 6, 6, 0, 0, []),
  (138, .iadd, 0, 0, 0, []),
  (139, .aload_n 0, 0, 0, 0, []),
  (140, .getfield 37, 613, 771, 0, [])]),
  (154, [(143, .bipush 42, 0, 0, 42, []),
  (145, .iconst 4, 0, 0, 4, []),
  (146, .iload 4, 4, 0, 0, []),
  (148, .imul, 0, 0, 0, []),
  (149, .iadd, 0, 0, 0, []),
  (150, .iload 6, 6, 0, 0, []),
  (152, .iadd, 0, 0, 0, []),
  (153, .iaload, 0, 0, 0, [])]),
  (164, [(154, .aload_n 1, 1, 0, 0, []),
  (155, .iload_n 2, 2, 0, 0, []),
  (156, .bipush 42, 0, 0, 42, []),
  (158, .iadd, 0, 0, 0, []),
  (159, .iconst 4, 0, 0, 4, []),
  (160, .iload 4, 4, 0, 0, []),
  (162, .imul, 0, 0, 0, []),
  (163, .iadd, 0, 0, 0, [])]),
  (179, [(164, .iload 6, 6, 0, 0, []),
  (166, .iadd, 0, 0, 0, []),
  (167, .iaload, 0, 0, 0, []),
  (168, .iconst 1, 0, 0, 1, []),
  (169, .invokestatic 156, 94, 909, 0, []),
  (172, .iastore, 0, 0, 0, []),
  (173, .iinc 6 1, 6, 0, 1, []),
  (176, .goto (-57), 119, 0, 0, [])]),
  (195, [(179, .iinc 4 1, 4, 0, 1, []),
  (182, .goto (-179), 3, 0, 0, []),
  (185, .iconst 0, 0, 0, 0, []),
  (186, .istore 4, 4, 0, 0, []),
  (188, .iload 4, 4, 0, 0, []),
  (190, .iconst 4, 0, 0, 4, []),
  (191, .if_icmp .ge 147, 338, 0, 0, []),
  (194, .aload_n 0, 0, 0, 0, [])]),
  (208, [(195, .getfield 37, 613, 771, 0, []),
  (198, .bipush 30, 0, 0, 30, []),
  (200, .iload 4, 4, 0, 0, []),
  (202, .iadd, 0, 0, 0, []),
  (203, .iaload, 0, 0, 0, []),
  (204, .aload_n 1, 1, 0, 0, []),
  (205, .iload_n 2, 2, 0, 0, []),
  (206, .bipush 30, 0, 0, 30, [])]),
  (221, [(208, .iadd, 0, 0, 0, []),
  (209, .iload 4, 4, 0, 0, []),
  (211, .iadd, 0, 0, 0, []),
  (212, .iaload, 0, 0, 0, []),
  (213, .if_icmp .ne 7, 220, 0, 0, []),
  (216, .iconst 1, 0, 0, 1, []),
  (217, .goto 4, 221, 0, 0, []),
  (220, .iconst 0, 0, 0, 0, [])]),
  (236, [(221, .istore 5, 5, 0, 0, []),
  (223, .aload_n 0, 0, 0, 0, []),
  (224, .getfield 37, 613, 771, 0, []),
  (227, .bipush 34, 0, 0, 34, []),
  (229, .iload 4, 4, 0, 0, []),
  (231, .iadd, 0, 0, 0, []),
  (232, .aload_n 0, 0, 0, 0, []),
  (233, .getfield 37, 613, 771, 0, [])]),
  (248, [(236, .bipush 34, 0, 0, 34, []),
  (238, .iload 4, 4, 0, 0, []),
  (240, .iadd, 0, 0, 0, []),
  (241, .iaload, 0, 0, 0, []),
  (242, .iconst 1, 0, 0, 1, []),
  (243, .if_icmp .ne 20, 263, 0, 0, []),
  (246, .aload_n 1, 1, 0, 0, []),
  (247, .iload_n 2, 2, 0, 0, [])]),
  (260, [(248, .bipush 34, 0, 0, 34, []),
  (250, .iadd, 0, 0, 0, []),
  (251, .iload 4, 4, 0, 0, []),
  (253, .iadd, 0, 0, 0, []),
  (254, .iaload, 0, 0, 0, []),
  (255, .iconst 1, 0, 0, 1, []),
  (256, .if_icmp .ne 7, 263, 0, 0, []),
  (259, .iconst 1, 0, 0, 1, [])]),
  (274, [(260, .goto 4, 264, 0, 0, []),
  (263, .iconst 0, 0, 0, 0, []),
  (264, .iastore, 0, 0, 0, []),
  (265, .aload_n 0, 0, 0, 0, []),
  (266, .getfield 37, 613, 771, 0, []),
  (269, .bipush 38, 0, 0, 38, []),
  (271, .iload 4, 4, 0, 0, []),
  (273, .iadd, 0, 0, 0, [])]),
  (289, [(274, .iload 5, 5, 0, 0, []),
  (276, .ifCond .eq 16, 292, 0, 0, []),
  (279, .aload_n 0, 0, 0, 0, []),
  (280, .getfield 37, 613, 771, 0, []),
  (283, .bipush 38, 0, 0, 38, []),
  (285, .iload 4, 4, 0, 0, []),
  (287, .iadd, 0, 0, 0, []),
  (288, .iaload, 0, 0, 0, [])]),
  (304, [(289, .goto 5, 294, 0, 0, []),
  (292, .ldc 102, 0, 896, 1000000000, []),
  (294, .iastore, 0, 0, 0, []),
  (295, .aload_n 0, 0, 0, 0, []),
  (296, .getfield 37, 613, 771, 0, []),
  (299, .bipush 30, 0, 0, 30, []),
  (301, .iload 4, 4, 0, 0, []),
  (303, .iadd, 0, 0, 0, [])]),
  (319, [(304, .iload 5, 5, 0, 0, []),
  (306, .ifCond .eq 16, 322, 0, 0, []),
  (309, .aload_n 0, 0, 0, 0, []),
  (310, .getfield 37, 613, 771, 0, []),
  (313, .bipush 30, 0, 0, 30, []),
  (315, .iload 4, 4, 0, 0, []),
  (317, .iadd, 0, 0, 0, []),
  (318, .iaload, 0, 0, 0, [])]),
  (331, [(319, .goto 12, 331, 0, 0, []),
  (322, .bipush 100, 0, 0, 100, []),
  (324, .iconst 4, 0, 0, 4, []),
  (325, .iload_n 3, 3, 0, 0, []),
  (326, .imul, 0, 0, 0, []),
  (327, .iadd, 0, 0, 0, []),
  (328, .iload 4, 4, 0, 0, []),
  (330, .iadd, 0, 0, 0, [])]),
  (100000, [(331, .iastore, 0, 0, 0, []),
  (332, .iinc 4 1, 4, 0, 1, []),
  (335, .goto (-147), 188, 0, 0, []),
  (338, .return_, 0, 0, 0, [])])]
def cm_Mo_join : ck_MD := (⟨"CheckSaverModel", "join", "([III)V"⟩, prog_8_method_27_code, 7, none, false, 3, 6, ct_Mo_join)
/-- CModel.worst(IIZ)I -/
def ct_Mo_worst : ck_Tb := [(17, [(0, .iload_n 0, 0, 0, 0, []),
  (1, .ldc 102, 0, 896, 1000000000, []),
  (3, .if_icmp .eq 9, 12, 0, 0, []),
  (6, .iload_n 1, 1, 0, 0, []),
  (7, .ldc 102, 0, 896, 1000000000, []),
  (9, .if_icmp .ne 8, 17, 0, 0, []),
  (12, .ldc 102, 0, 896, 1000000000, []),
  (14, .goto 22, 36, 0, 0, [])]),
  (31, [(17, .iload_n 0, 0, 0, 0, []),
  (18, .iload_n 1, 1, 0, 0, []),
  (19, .if_icmp .le 7, 26, 0, 0, []),
  (22, .iconst 1, 0, 0, 1, []),
  (23, .goto 4, 27, 0, 0, []),
  (26, .iconst 0, 0, 0, 0, []),
  (27, .iload_n 2, 2, 0, 0, []),
  (28, .if_icmp .ne 7, 35, 0, 0, [])]),
  (100000, [(31, .iload_n 0, 0, 0, 0, []),
  (32, .goto 4, 36, 0, 0, []),
  (35, .iload_n 1, 1, 0, 0, []),
  (36, .ireturn, 0, 0, 0, [])])]
def cm_Mo_worst : ck_MD := (⟨"CheckSaverModel", "worst", "(IIZ)I"⟩, prog_8_method_28_code, 3, some .int, true, 3, 6, ct_Mo_worst)
/-- CModel.tell(I)Z -/
def ct_Mo_tell : ck_Tb := [(11, [(0, .iconst 0, 0, 0, 0, []),
  (1, .istore_n 2, 2, 0, 0, []),
  (2, .iconst 0, 0, 0, 0, []),
  (3, .istore_n 3, 3, 0, 0, []),
  (4, .iload_n 3, 3, 0, 0, []),
  (5, .bipush 82, 0, 0, 82, []),
  (7, .if_icmp .ge 39, 46, 0, 0, []),
  (10, .iload_n 2, 2, 0, 0, [])]),
  (24, [(11, .ifCond .ne 23, 34, 0, 0, []),
  (14, .aload_n 0, 0, 0, 0, []),
  (15, .getfield 40, 614, 772, 0, []),
  (18, .bipush 82, 0, 0, 82, []),
  (20, .iload_n 1, 1, 0, 0, []),
  (21, .imul, 0, 0, 0, []),
  (22, .iload_n 3, 3, 0, 0, []),
  (23, .iadd, 0, 0, 0, [])]),
  (38, [(24, .iaload, 0, 0, 0, []),
  (25, .aload_n 0, 0, 0, 0, []),
  (26, .getfield 37, 613, 771, 0, []),
  (29, .iload_n 3, 3, 0, 0, []),
  (30, .iaload, 0, 0, 0, []),
  (31, .if_icmp .eq 7, 38, 0, 0, []),
  (34, .iconst 1, 0, 0, 1, []),
  (35, .goto 4, 39, 0, 0, [])]),
  (52, [(38, .iconst 0, 0, 0, 0, []),
  (39, .istore_n 2, 2, 0, 0, []),
  (40, .iinc 3 1, 3, 0, 1, []),
  (43, .goto (-39), 4, 0, 0, []),
  (46, .aload_n 0, 0, 0, 0, []),
  (47, .aload_n 0, 0, 0, 0, []),
  (48, .getfield 40, 614, 772, 0, []),
  (51, .iload_n 1, 1, 0, 0, [])]),
  (100000, [(52, .invokevirtual 160, 96, 916, 0, []),
  (55, .iload_n 2, 2, 0, 0, []),
  (56, .ireturn, 0, 0, 0, [])])]
def cm_Mo_tell : ck_MD := (⟨"CheckSaverModel", "tell", "(I)Z"⟩, prog_8_method_32_code, 4, some .boolean, false, 1, 6, ct_Mo_tell)
/-- CModel.keep([II)V -/
def ct_Mo_keep : ck_Tb := [(12, [(0, .iconst 0, 0, 0, 0, []),
  (1, .istore_n 3, 3, 0, 0, []),
  (2, .iload_n 3, 3, 0, 0, []),
  (3, .bipush 82, 0, 0, 82, []),
  (5, .if_icmp .ge 23, 28, 0, 0, []),
  (8, .aload_n 1, 1, 0, 0, []),
  (9, .bipush 82, 0, 0, 82, []),
  (11, .iload_n 2, 2, 0, 0, [])]),
  (22, [(12, .imul, 0, 0, 0, []),
  (13, .iload_n 3, 3, 0, 0, []),
  (14, .iadd, 0, 0, 0, []),
  (15, .aload_n 0, 0, 0, 0, []),
  (16, .getfield 37, 613, 771, 0, []),
  (19, .iload_n 3, 3, 0, 0, []),
  (20, .iaload, 0, 0, 0, []),
  (21, .iastore, 0, 0, 0, [])]),
  (100000, [(22, .iinc 3 1, 3, 0, 1, []),
  (25, .goto (-23), 2, 0, 0, []),
  (28, .return_, 0, 0, 0, [])])]
def cm_Mo_keep : ck_MD := (⟨"CheckSaverModel", "keep", "([II)V"⟩, prog_8_method_30_code, 4, none, false, 2, 6, ct_Mo_keep)
/-- CModel.branch(IZ)V -/
def ct_Mo_branch : ck_Tb := [(12, [(0, .aload_n 0, 0, 0, 0, []),
  (1, .getfield 13, 604, 762, 0, []),
  (4, .iload_n 1, 1, 0, 0, []),
  (5, .iaload, 0, 0, 0, []),
  (6, .istore_n 3, 3, 0, 0, []),
  (7, .aload_n 0, 0, 0, 0, []),
  (8, .getfield 16, 605, 763, 0, []),
  (11, .iload_n 1, 1, 0, 0, [])]),
  (24, [(12, .iaload, 0, 0, 0, []),
  (13, .istore 4, 4, 0, 0, []),
  (15, .aload_n 0, 0, 0, 0, []),
  (16, .getfield 19, 606, 764, 0, []),
  (19, .iload_n 1, 1, 0, 0, []),
  (20, .iaload, 0, 0, 0, []),
  (21, .istore 5, 5, 0, 0, []),
  (23, .aload_n 0, 0, 0, 0, [])]),
  (38, [(24, .getfield 37, 613, 771, 0, []),
  (27, .bipush 20, 0, 0, 20, []),
  (29, .iload_n 3, 3, 0, 0, []),
  (30, .iadd, 0, 0, 0, []),
  (31, .iaload, 0, 0, 0, []),
  (32, .istore 6, 6, 0, 0, []),
  (34, .iload 4, 4, 0, 0, []),
  (36, .bipush 10, 0, 0, 10, [])]),
  (54, [(38, .if_icmp .ne 7, 45, 0, 0, []),
  (41, .iconst 0, 0, 0, 0, []),
  (42, .goto 13, 55, 0, 0, []),
  (45, .aload_n 0, 0, 0, 0, []),
  (46, .getfield 37, 613, 771, 0, []),
  (49, .bipush 20, 0, 0, 20, []),
  (51, .iload 4, 4, 0, 0, []),
  (53, .iadd, 0, 0, 0, [])]),
  (69, [(54, .iaload, 0, 0, 0, []),
  (55, .istore 7, 7, 0, 0, []),
  (57, .iload_n 2, 2, 0, 0, []),
  (58, .ifCond .eq 34, 92, 0, 0, []),
  (61, .iload 4, 4, 0, 0, []),
  (63, .bipush 10, 0, 0, 10, []),
  (65, .if_icmp .ge 27, 92, 0, 0, []),
  (68, .aload_n 0, 0, 0, 0, [])]),
  (84, [(69, .getfield 37, 613, 771, 0, []),
  (72, .bipush 20, 0, 0, 20, []),
  (74, .iload 4, 4, 0, 0, []),
  (76, .iadd, 0, 0, 0, []),
  (77, .iload 7, 7, 0, 0, []),
  (79, .iload 6, 6, 0, 0, []),
  (81, .iconst 1, 0, 0, 1, []),
  (82, .iload 5, 5, 0, 0, [])]),
  (100, [(84, .isub, 0, 0, 0, []),
  (85, .invokestatic 124, 98, 924, 0, []),
  (88, .invokestatic 114, 100, 930, 0, []),
  (91, .iastore, 0, 0, 0, []),
  (92, .iload_n 2, 2, 0, 0, []),
  (93, .ifCond .ne 24, 117, 0, 0, []),
  (96, .aload_n 0, 0, 0, 0, []),
  (97, .getfield 37, 613, 771, 0, [])]),
  (116, [(100, .bipush 20, 0, 0, 20, []),
  (102, .iload_n 3, 3, 0, 0, []),
  (103, .iadd, 0, 0, 0, []),
  (104, .iload 6, 6, 0, 0, []),
  (106, .iload 7, 7, 0, 0, []),
  (108, .iload 5, 5, 0, 0, []),
  (110, .invokestatic 124, 98, 924, 0, []),
  (113, .invokestatic 114, 100, 930, 0, [])]),
  (130, [(116, .iastore, 0, 0, 0, []),
  (117, .iconst 0, 0, 0, 0, []),
  (118, .istore 8, 8, 0, 0, []),
  (120, .iload 8, 8, 0, 0, []),
  (122, .iconst 4, 0, 0, 4, []),
  (123, .if_icmp .ge 129, 252, 0, 0, []),
  (126, .aload_n 0, 0, 0, 0, []),
  (127, .getfield 37, 613, 771, 0, [])]),
  (140, [(130, .bipush 42, 0, 0, 42, []),
  (132, .iconst 4, 0, 0, 4, []),
  (133, .iload_n 3, 3, 0, 0, []),
  (134, .imul, 0, 0, 0, []),
  (135, .iadd, 0, 0, 0, []),
  (136, .iload 8, 8, 0, 0, []),
  (138, .iadd, 0, 0, 0, []),
  (139, .iaload, 0, 0, 0, [])]),
  (156, [(140, .istore 9, 9, 0, 0, []),
  (142, .iload 4, 4, 0, 0, []),
  (144, .bipush 10, 0, 0, 10, []),
  (146, .if_icmp .ne 13, 159, 0, 0, []),
  (149, .aload_n 0, 0, 0, 0, []),
  (150, .iconst 0, 0, 0, 0, []),
  (151, .iload 8, 8, 0, 0, []),
  (153, .invokevirtual 121, 101, 933, 0, [])]),
  (170, [(156, .goto 18, 174, 0, 0, []),
  (159, .aload_n 0, 0, 0, 0, []),
  (160, .getfield 37, 613, 771, 0, []),
  (163, .bipush 42, 0, 0, 42, []),
  (165, .iconst 4, 0, 0, 4, []),
  (166, .iload 4, 4, 0, 0, []),
  (168, .imul, 0, 0, 0, []),
  (169, .iadd, 0, 0, 0, [])]),
  (184, [(170, .iload 8, 8, 0, 0, []),
  (172, .iadd, 0, 0, 0, []),
  (173, .iaload, 0, 0, 0, []),
  (174, .istore 10, 10, 0, 0, []),
  (176, .iload_n 2, 2, 0, 0, []),
  (177, .ifCond .eq 34, 211, 0, 0, []),
  (180, .aload_n 0, 0, 0, 0, []),
  (181, .getfield 37, 613, 771, 0, [])]),
  (195, [(184, .bipush 42, 0, 0, 42, []),
  (186, .iconst 4, 0, 0, 4, []),
  (187, .iload_n 3, 3, 0, 0, []),
  (188, .imul, 0, 0, 0, []),
  (189, .iadd, 0, 0, 0, []),
  (190, .iload 8, 8, 0, 0, []),
  (192, .iadd, 0, 0, 0, []),
  (193, .iload 9, 9, 0, 0, [])]),
  (211, [(195, .iload 10, 10, 0, 0, []),
  (197, .iload 5, 5, 0, 0, []),
  (199, .iconst 1, 0, 0, 1, []),
  (200, .isub, 0, 0, 0, []),
  (201, .invokestatic 127, 103, 940, 0, []),
  (204, .invokestatic 118, 104, 943, 0, []),
  (207, .iastore, 0, 0, 0, []),
  (208, .goto 38, 246, 0, 0, [])]),
  (227, [(211, .iload 4, 4, 0, 0, []),
  (213, .bipush 10, 0, 0, 10, []),
  (215, .if_icmp .ge 31, 246, 0, 0, []),
  (218, .aload_n 0, 0, 0, 0, []),
  (219, .getfield 37, 613, 771, 0, []),
  (222, .bipush 42, 0, 0, 42, []),
  (224, .iconst 4, 0, 0, 4, []),
  (225, .iload 4, 4, 0, 0, [])]),
  (239, [(227, .imul, 0, 0, 0, []),
  (228, .iadd, 0, 0, 0, []),
  (229, .iload 8, 8, 0, 0, []),
  (231, .iadd, 0, 0, 0, []),
  (232, .iload 10, 10, 0, 0, []),
  (234, .iload 9, 9, 0, 0, []),
  (236, .iload 5, 5, 0, 0, []),
  (238, .ineg, 0, 0, 0, [])]),
  (100000, [(239, .invokestatic 127, 103, 940, 0, []),
  (242, .invokestatic 118, 104, 943, 0, []),
  (245, .iastore, 0, 0, 0, []),
  (246, .iinc 8 1, 8, 0, 1, []),
  (249, .goto (-129), 120, 0, 0, []),
  (252, .return_, 0, 0, 0, [])])]
def cm_Mo_branch : ck_MD := (⟨"CheckSaverModel", "branch", "(IZ)V"⟩, prog_8_method_26_code, 11, none, false, 2, 6, ct_Mo_branch)
/-- CModel.leastMore(II)I -/
def ct_Mo_leastMore : ck_Tb := [(14, [(0, .iload_n 0, 0, 0, 0, []),
  (1, .ldc 102, 0, 896, 1000000000, []),
  (3, .if_icmp .ne 8, 11, 0, 0, []),
  (6, .ldc 102, 0, 896, 1000000000, []),
  (8, .goto 9, 17, 0, 0, []),
  (11, .iload_n 0, 0, 0, 0, []),
  (12, .iload_n 1, 1, 0, 0, []),
  (13, .iadd, 0, 0, 0, [])]),
  (100000, [(14, .invokestatic 103, 99, 927, 0, []),
  (17, .ireturn, 0, 0, 0, [])])]
def cm_Mo_leastMore : ck_MD := (⟨"CheckSaverModel", "leastMore", "(II)I"⟩, prog_8_method_11_code, 2, some .int, true, 2, 6, ct_Mo_leastMore)
/-- CModel.leastOf(I)I -/
def ct_Mo_leastOf : ck_Tb := [(100000, [(0, .iload_n 0, 0, 0, 0, []),
  (1, .sipush (-200), 0, 0, (-200), []),
  (4, .if_icmp .ge 8, 12, 0, 0, []),
  (7, .ldc 102, 0, 896, 1000000000, []),
  (9, .goto 4, 13, 0, 0, []),
  (12, .iload_n 0, 0, 0, 0, []),
  (13, .ireturn, 0, 0, 0, [])])]
def cm_Mo_leastOf : ck_MD := (⟨"CheckSaverModel", "leastOf", "(I)I"⟩, prog_8_method_9_code, 1, some .int, true, 1, 6, ct_Mo_leastOf)
/-- CModel.greater(II)I -/
def ct_Mo_greater : ck_Tb := [(16, [(0, .iload_n 0, 0, 0, 0, []),
  (1, .ldc 102, 0, 896, 1000000000, []),
  (3, .if_icmp .ne 7, 10, 0, 0, []),
  (6, .iload_n 1, 1, 0, 0, []),
  (7, .goto 19, 26, 0, 0, []),
  (10, .iload_n 1, 1, 0, 0, []),
  (11, .ldc 102, 0, 896, 1000000000, []),
  (13, .if_icmp .eq 8, 21, 0, 0, [])]),
  (100000, [(16, .iload_n 0, 0, 0, 0, []),
  (17, .iload_n 1, 1, 0, 0, []),
  (18, .if_icmp .le 7, 25, 0, 0, []),
  (21, .iload_n 0, 0, 0, 0, []),
  (22, .goto 4, 26, 0, 0, []),
  (25, .iload_n 1, 1, 0, 0, []),
  (26, .ireturn, 0, 0, 0, [])])]
def cm_Mo_greater : ck_MD := (⟨"CheckSaverModel", "greater", "(II)I"⟩, prog_8_method_13_code, 2, some .int, true, 2, 6, ct_Mo_greater)
/-- CModel.against(II)I -/
def ct_Mo_against : ck_Tb := [(14, [(0, .aload_n 0, 0, 0, 0, []),
  (1, .getfield 37, 613, 771, 0, []),
  (4, .bipush 30, 0, 0, 30, []),
  (6, .iload_n 2, 2, 0, 0, []),
  (7, .iadd, 0, 0, 0, []),
  (8, .iaload, 0, 0, 0, []),
  (9, .ifCond .ne 6, 15, 0, 0, []),
  (12, .ldc 102, 0, 896, 1000000000, [])]),
  (26, [(14, .ireturn, 0, 0, 0, []),
  (15, .aload_n 0, 0, 0, 0, []),
  (16, .getfield 37, 613, 771, 0, []),
  (19, .bipush 38, 0, 0, 38, []),
  (21, .iload_n 2, 2, 0, 0, []),
  (22, .iadd, 0, 0, 0, []),
  (23, .iaload, 0, 0, 0, []),
  (24, .ldc 102, 0, 896, 1000000000, [])]),
  (41, [(26, .if_icmp .ne 7, 33, 0, 0, []),
  (29, .iload_n 1, 1, 0, 0, []),
  (30, .goto 14, 44, 0, 0, []),
  (33, .iload_n 1, 1, 0, 0, []),
  (34, .aload_n 0, 0, 0, 0, []),
  (35, .getfield 37, 613, 771, 0, []),
  (38, .bipush 38, 0, 0, 38, []),
  (40, .iload_n 2, 2, 0, 0, [])]),
  (100000, [(41, .iadd, 0, 0, 0, []),
  (42, .iaload, 0, 0, 0, []),
  (43, .isub, 0, 0, 0, []),
  (44, .invokestatic 107, 102, 937, 0, []),
  (47, .ireturn, 0, 0, 0, [])])]
def cm_Mo_against : ck_MD := (⟨"CheckSaverModel", "against", "(II)I"⟩, prog_8_method_15_code, 3, some .int, false, 2, 6, ct_Mo_against)
/-- CModel.high(I)I -/
def ct_Mo_high : ck_Tb := [(100000, [(0, .iload_n 0, 0, 0, 0, []),
  (1, .sipush 200, 0, 0, 200, []),
  (4, .if_icmp .le 8, 12, 0, 0, []),
  (7, .ldc 102, 0, 896, 1000000000, []),
  (9, .goto 4, 13, 0, 0, []),
  (12, .iload_n 0, 0, 0, 0, []),
  (13, .ireturn, 0, 0, 0, [])])]
def cm_Mo_high : ck_MD := (⟨"CheckSaverModel", "high", "(I)I"⟩, prog_8_method_10_code, 1, some .int, true, 1, 6, ct_Mo_high)
/-- CModel.highMore(II)I -/
def ct_Mo_highMore : ck_Tb := [(14, [(0, .iload_n 0, 0, 0, 0, []),
  (1, .ldc 102, 0, 896, 1000000000, []),
  (3, .if_icmp .ne 8, 11, 0, 0, []),
  (6, .ldc 102, 0, 896, 1000000000, []),
  (8, .goto 9, 17, 0, 0, []),
  (11, .iload_n 0, 0, 0, 0, []),
  (12, .iload_n 1, 1, 0, 0, []),
  (13, .iadd, 0, 0, 0, [])]),
  (100000, [(14, .invokestatic 107, 102, 937, 0, []),
  (17, .ireturn, 0, 0, 0, [])])]
def cm_Mo_highMore : ck_MD := (⟨"CheckSaverModel", "highMore", "(II)I"⟩, prog_8_method_12_code, 2, some .int, true, 2, 6, ct_Mo_highMore)
/-- CModel.lower(II)I -/
def ct_Mo_lower : ck_Tb := [(16, [(0, .iload_n 0, 0, 0, 0, []),
  (1, .ldc 102, 0, 896, 1000000000, []),
  (3, .if_icmp .ne 7, 10, 0, 0, []),
  (6, .iload_n 1, 1, 0, 0, []),
  (7, .goto 19, 26, 0, 0, []),
  (10, .iload_n 1, 1, 0, 0, []),
  (11, .ldc 102, 0, 896, 1000000000, []),
  (13, .if_icmp .eq 8, 21, 0, 0, [])]),
  (100000, [(16, .iload_n 0, 0, 0, 0, []),
  (17, .iload_n 1, 1, 0, 0, []),
  (18, .if_icmp .ge 7, 25, 0, 0, []),
  (21, .iload_n 0, 0, 0, 0, []),
  (22, .goto 4, 26, 0, 0, []),
  (25, .iload_n 1, 1, 0, 0, []),
  (26, .ireturn, 0, 0, 0, [])])]
def cm_Mo_lower : ck_MD := (⟨"CheckSaverModel", "lower", "(II)I"⟩, prog_8_method_14_code, 2, some .int, true, 2, 6, ct_Mo_lower)
/-- CModel.take([II)V -/
def ct_Mo_take : ck_Tb := [(13, [(0, .iconst 0, 0, 0, 0, []),
  (1, .istore_n 3, 3, 0, 0, []),
  (2, .iload_n 3, 3, 0, 0, []),
  (3, .bipush 82, 0, 0, 82, []),
  (5, .if_icmp .ge 23, 28, 0, 0, []),
  (8, .aload_n 0, 0, 0, 0, []),
  (9, .getfield 37, 613, 771, 0, []),
  (12, .iload_n 3, 3, 0, 0, [])]),
  (22, [(13, .aload_n 1, 1, 0, 0, []),
  (14, .bipush 82, 0, 0, 82, []),
  (16, .iload_n 2, 2, 0, 0, []),
  (17, .imul, 0, 0, 0, []),
  (18, .iload_n 3, 3, 0, 0, []),
  (19, .iadd, 0, 0, 0, []),
  (20, .iaload, 0, 0, 0, []),
  (21, .iastore, 0, 0, 0, [])]),
  (100000, [(22, .iinc 3 1, 3, 0, 1, []),
  (25, .goto (-23), 2, 0, 0, []),
  (28, .return_, 0, 0, 0, [])])]
def cm_Mo_take : ck_MD := (⟨"CheckSaverModel", "take", "([II)V"⟩, prog_8_method_31_code, 4, none, false, 2, 6, ct_Mo_take)
/-- CModel.close(II)V -/
def ct_Mo_close : ck_Tb := [(13, [(0, .aload_n 0, 0, 0, 0, []),
  (1, .getfield 7, 603, 761, 0, []),
  (4, .iload_n 1, 1, 0, 0, []),
  (5, .iaload, 0, 0, 0, []),
  (6, .bipush 12, 0, 0, 12, []),
  (8, .if_icmp .ne 31, 39, 0, 0, []),
  (11, .aload_n 0, 0, 0, 0, []),
  (12, .aload_n 0, 0, 0, 0, [])]),
  (27, [(13, .getfield 49, 617, 775, 0, []),
  (16, .iload_n 1, 1, 0, 0, []),
  (17, .invokevirtual 160, 96, 916, 0, []),
  (20, .aload_n 0, 0, 0, 0, []),
  (21, .getfield 52, 618, 776, 0, []),
  (24, .iload_n 1, 1, 0, 0, []),
  (25, .iconst 1, 0, 0, 1, []),
  (26, .bastore, 0, 0, 0, [])]),
  (43, [(27, .aload_n 0, 0, 0, 0, []),
  (28, .aload_n 0, 0, 0, 0, []),
  (29, .getfield 43, 615, 773, 0, []),
  (32, .iload_n 1, 1, 0, 0, []),
  (33, .invokevirtual 178, 105, 946, 0, []),
  (36, .goto 42, 78, 0, 0, []),
  (39, .aload_n 0, 0, 0, 0, []),
  (40, .getfield 22, 607, 765, 0, [])]),
  (56, [(43, .iload_n 1, 1, 0, 0, []),
  (44, .iaload, 0, 0, 0, []),
  (45, .iconst (-1), 0, 0, (-1), []),
  (46, .if_icmp .ne 19, 65, 0, 0, []),
  (49, .aload_n 0, 0, 0, 0, []),
  (50, .aload_n 0, 0, 0, 0, []),
  (51, .getfield 43, 615, 773, 0, []),
  (54, .bipush 82, 0, 0, 82, [])]),
  (70, [(56, .iload_n 1, 1, 0, 0, []),
  (57, .imul, 0, 0, 0, []),
  (58, .iload_n 2, 2, 0, 0, []),
  (59, .invokevirtual 187, 93, 905, 0, []),
  (62, .goto 16, 78, 0, 0, []),
  (65, .aload_n 0, 0, 0, 0, []),
  (66, .aload_n 0, 0, 0, 0, []),
  (67, .getfield 46, 616, 774, 0, [])]),
  (100000, [(70, .bipush 82, 0, 0, 82, []),
  (72, .iload_n 1, 1, 0, 0, []),
  (73, .imul, 0, 0, 0, []),
  (74, .iload_n 2, 2, 0, 0, []),
  (75, .invokevirtual 187, 93, 905, 0, []),
  (78, .return_, 0, 0, 0, [])])]
def cm_Mo_close : ck_MD := (⟨"CheckSaverModel", "close", "(II)V"⟩, prog_8_method_35_code, 3, none, false, 2, 6, ct_Mo_close)
/-- CModel.effect(I)V -/
def ct_Mo_effect : ck_Tb := [(61, [(0, .aload_n 0, 0, 0, 0, []),
  (1, .getfield 7, 603, 761, 0, []),
  (4, .iload_n 1, 1, 0, 0, []),
  (5, .iaload, 0, 0, 0, []),
  (6, .tableswitch 226 0 8 #[50, 69, 94, 107, 126, 155, 174, 194, 207], 232, 50, 0, [56, 75, 100, 113, 132, 161, 180, 200, 213]),
  (56, .aload_n 0, 0, 0, 0, []),
  (57, .aload_n 0, 0, 0, 0, []),
  (58, .getfield 13, 604, 762, 0, [])]),
  (75, [(61, .iload_n 1, 1, 0, 0, []),
  (62, .iaload, 0, 0, 0, []),
  (63, .aload_n 0, 0, 0, 0, []),
  (64, .getfield 16, 605, 763, 0, []),
  (67, .iload_n 1, 1, 0, 0, []),
  (68, .iaload, 0, 0, 0, []),
  (69, .invokevirtual 130, 108, 958, 0, []),
  (72, .goto 160, 232, 0, 0, [])]),
  (87, [(75, .aload_n 0, 0, 0, 0, []),
  (76, .aload_n 0, 0, 0, 0, []),
  (77, .getfield 13, 604, 762, 0, []),
  (80, .iload_n 1, 1, 0, 0, []),
  (81, .iaload, 0, 0, 0, []),
  (82, .aload_n 0, 0, 0, 0, []),
  (83, .getfield 16, 605, 763, 0, []),
  (86, .iload_n 1, 1, 0, 0, [])]),
  (101, [(87, .iaload, 0, 0, 0, []),
  (88, .aload_n 0, 0, 0, 0, []),
  (89, .getfield 19, 606, 764, 0, []),
  (92, .iload_n 1, 1, 0, 0, []),
  (93, .iaload, 0, 0, 0, []),
  (94, .invokevirtual 134, 109, 962, 0, []),
  (97, .goto 135, 232, 0, 0, []),
  (100, .aload_n 0, 0, 0, 0, [])]),
  (115, [(101, .aload_n 0, 0, 0, 0, []),
  (102, .getfield 13, 604, 762, 0, []),
  (105, .iload_n 1, 1, 0, 0, []),
  (106, .iaload, 0, 0, 0, []),
  (107, .invokevirtual 138, 110, 966, 0, []),
  (110, .goto 122, 232, 0, 0, []),
  (113, .aload_n 0, 0, 0, 0, []),
  (114, .aload_n 0, 0, 0, 0, [])]),
  (129, [(115, .getfield 13, 604, 762, 0, []),
  (118, .iload_n 1, 1, 0, 0, []),
  (119, .iaload, 0, 0, 0, []),
  (120, .aload_n 0, 0, 0, 0, []),
  (121, .getfield 16, 605, 763, 0, []),
  (124, .iload_n 1, 1, 0, 0, []),
  (125, .iaload, 0, 0, 0, []),
  (126, .invokevirtual 141, 111, 970, 0, [])]),
  (143, [(129, .goto 103, 232, 0, 0, []),
  (132, .aload_n 0, 0, 0, 0, []),
  (133, .aload_n 0, 0, 0, 0, []),
  (134, .getfield 16, 605, 763, 0, []),
  (137, .iload_n 1, 1, 0, 0, []),
  (138, .iaload, 0, 0, 0, []),
  (139, .aload_n 0, 0, 0, 0, []),
  (140, .getfield 19, 606, 764, 0, [])]),
  (155, [(143, .iload_n 1, 1, 0, 0, []),
  (144, .iaload, 0, 0, 0, []),
  (145, .invokevirtual 144, 113, 978, 0, []),
  (148, .aload_n 0, 0, 0, 0, []),
  (149, .aload_n 0, 0, 0, 0, []),
  (150, .getfield 13, 604, 762, 0, []),
  (153, .iload_n 1, 1, 0, 0, []),
  (154, .iaload, 0, 0, 0, [])]),
  (169, [(155, .invokevirtual 138, 110, 966, 0, []),
  (158, .goto 74, 232, 0, 0, []),
  (161, .aload_n 0, 0, 0, 0, []),
  (162, .aload_n 0, 0, 0, 0, []),
  (163, .getfield 13, 604, 762, 0, []),
  (166, .iload_n 1, 1, 0, 0, []),
  (167, .iaload, 0, 0, 0, []),
  (168, .aload_n 0, 0, 0, 0, [])]),
  (183, [(169, .getfield 16, 605, 763, 0, []),
  (172, .iload_n 1, 1, 0, 0, []),
  (173, .iaload, 0, 0, 0, []),
  (174, .invokevirtual 144, 113, 978, 0, []),
  (177, .goto 55, 232, 0, 0, []),
  (180, .aload_n 0, 0, 0, 0, []),
  (181, .iload_n 1, 1, 0, 0, []),
  (182, .aload_n 0, 0, 0, 0, [])]),
  (197, [(183, .getfield 13, 604, 762, 0, []),
  (186, .iload_n 1, 1, 0, 0, []),
  (187, .iaload, 0, 0, 0, []),
  (188, .aload_n 0, 0, 0, 0, []),
  (189, .getfield 16, 605, 763, 0, []),
  (192, .iload_n 1, 1, 0, 0, []),
  (193, .iaload, 0, 0, 0, []),
  (194, .invokevirtual 147, 114, 982, 0, [])]),
  (213, [(197, .goto 35, 232, 0, 0, []),
  (200, .aload_n 0, 0, 0, 0, []),
  (201, .aload_n 0, 0, 0, 0, []),
  (202, .getfield 13, 604, 762, 0, []),
  (205, .iload_n 1, 1, 0, 0, []),
  (206, .iaload, 0, 0, 0, []),
  (207, .invokevirtual 150, 90, 892, 0, []),
  (210, .goto 22, 232, 0, 0, [])]),
  (225, [(213, .aload_n 0, 0, 0, 0, []),
  (214, .aload_n 0, 0, 0, 0, []),
  (215, .getfield 13, 604, 762, 0, []),
  (218, .iload_n 1, 1, 0, 0, []),
  (219, .iaload, 0, 0, 0, []),
  (220, .aload_n 0, 0, 0, 0, []),
  (221, .getfield 16, 605, 763, 0, []),
  (224, .iload_n 1, 1, 0, 0, [])]),
  (100000, [(225, .iaload, 0, 0, 0, []),
  (226, .invokevirtual 153, 115, 986, 0, []),
  (229, .goto 3, 232, 0, 0, []),
  (232, .return_, 0, 0, 0, [])])]
def cm_Mo_effect : ck_MD := (⟨"CheckSaverModel", "effect", "(I)V"⟩, prog_8_method_25_code, 2, none, false, 1, 6, ct_Mo_effect)
/-- CModel.set(II)V -/
def ct_Mo_set : ck_Tb := [(10, [(0, .aload_n 0, 0, 0, 0, []),
  (1, .getfield 37, 613, 771, 0, []),
  (4, .iconst 0, 0, 0, 0, []),
  (5, .iload_n 1, 1, 0, 0, []),
  (6, .iadd, 0, 0, 0, []),
  (7, .iconst 1, 0, 0, 1, []),
  (8, .iastore, 0, 0, 0, []),
  (9, .aload_n 0, 0, 0, 0, [])]),
  (23, [(10, .getfield 37, 613, 771, 0, []),
  (13, .bipush 10, 0, 0, 10, []),
  (15, .iload_n 1, 1, 0, 0, []),
  (16, .iadd, 0, 0, 0, []),
  (17, .iload_n 2, 2, 0, 0, []),
  (18, .iastore, 0, 0, 0, []),
  (19, .aload_n 0, 0, 0, 0, []),
  (20, .getfield 37, 613, 771, 0, [])]),
  (34, [(23, .bipush 20, 0, 0, 20, []),
  (25, .iload_n 1, 1, 0, 0, []),
  (26, .iadd, 0, 0, 0, []),
  (27, .iload_n 2, 2, 0, 0, []),
  (28, .invokestatic 103, 99, 927, 0, []),
  (31, .iastore, 0, 0, 0, []),
  (32, .iconst 0, 0, 0, 0, []),
  (33, .istore_n 3, 3, 0, 0, [])]),
  (47, [(34, .iload_n 3, 3, 0, 0, []),
  (35, .iconst 4, 0, 0, 4, []),
  (36, .if_icmp .ge 28, 64, 0, 0, []),
  (39, .aload_n 0, 0, 0, 0, []),
  (40, .getfield 37, 613, 771, 0, []),
  (43, .bipush 42, 0, 0, 42, []),
  (45, .iconst 4, 0, 0, 4, []),
  (46, .iload_n 1, 1, 0, 0, [])]),
  (57, [(47, .imul, 0, 0, 0, []),
  (48, .iadd, 0, 0, 0, []),
  (49, .iload_n 3, 3, 0, 0, []),
  (50, .iadd, 0, 0, 0, []),
  (51, .aload_n 0, 0, 0, 0, []),
  (52, .iload_n 2, 2, 0, 0, []),
  (53, .iload_n 3, 3, 0, 0, []),
  (54, .invokevirtual 121, 101, 933, 0, [])]),
  (100000, [(57, .iastore, 0, 0, 0, []),
  (58, .iinc 3 1, 3, 0, 1, []),
  (61, .goto (-27), 34, 0, 0, []),
  (64, .return_, 0, 0, 0, [])])]
def cm_Mo_set : ck_MD := (⟨"CheckSaverModel", "set", "(II)V"⟩, prog_8_method_19_code, 4, none, false, 2, 6, ct_Mo_set)
/-- CModel.add(III)V -/
def ct_Mo_add : ck_Tb := [(12, [(0, .aload_n 0, 0, 0, 0, []),
  (1, .getfield 37, 613, 771, 0, []),
  (4, .iconst 0, 0, 0, 0, []),
  (5, .iload_n 1, 1, 0, 0, []),
  (6, .iadd, 0, 0, 0, []),
  (7, .aload_n 0, 0, 0, 0, []),
  (8, .getfield 37, 613, 771, 0, []),
  (11, .iconst 0, 0, 0, 0, [])]),
  (23, [(12, .iload_n 2, 2, 0, 0, []),
  (13, .iadd, 0, 0, 0, []),
  (14, .iaload, 0, 0, 0, []),
  (15, .iastore, 0, 0, 0, []),
  (16, .aload_n 0, 0, 0, 0, []),
  (17, .getfield 37, 613, 771, 0, []),
  (20, .bipush 10, 0, 0, 10, []),
  (22, .iload_n 1, 1, 0, 0, [])]),
  (34, [(23, .iadd, 0, 0, 0, []),
  (24, .aload_n 0, 0, 0, 0, []),
  (25, .getfield 37, 613, 771, 0, []),
  (28, .bipush 10, 0, 0, 10, []),
  (30, .iload_n 2, 2, 0, 0, []),
  (31, .iadd, 0, 0, 0, []),
  (32, .iaload, 0, 0, 0, []),
  (33, .iload_n 3, 3, 0, 0, [])]),
  (45, [(34, .iadd, 0, 0, 0, []),
  (35, .iastore, 0, 0, 0, []),
  (36, .aload_n 0, 0, 0, 0, []),
  (37, .getfield 37, 613, 771, 0, []),
  (40, .bipush 20, 0, 0, 20, []),
  (42, .iload_n 1, 1, 0, 0, []),
  (43, .iadd, 0, 0, 0, []),
  (44, .aload_n 0, 0, 0, 0, [])]),
  (58, [(45, .getfield 37, 613, 771, 0, []),
  (48, .bipush 20, 0, 0, 20, []),
  (50, .iload_n 2, 2, 0, 0, []),
  (51, .iadd, 0, 0, 0, []),
  (52, .iaload, 0, 0, 0, []),
  (53, .iload_n 3, 3, 0, 0, []),
  (54, .invokestatic 124, 98, 924, 0, []),
  (57, .iastore, 0, 0, 0, [])]),
  (73, [(58, .iconst 0, 0, 0, 0, []),
  (59, .istore 4, 4, 0, 0, []),
  (61, .iload 4, 4, 0, 0, []),
  (63, .iconst 4, 0, 0, 4, []),
  (64, .if_icmp .ge 41, 105, 0, 0, []),
  (67, .aload_n 0, 0, 0, 0, []),
  (68, .getfield 37, 613, 771, 0, []),
  (71, .bipush 42, 0, 0, 42, [])]),
  (84, [(73, .iconst 4, 0, 0, 4, []),
  (74, .iload_n 1, 1, 0, 0, []),
  (75, .imul, 0, 0, 0, []),
  (76, .iadd, 0, 0, 0, []),
  (77, .iload 4, 4, 0, 0, []),
  (79, .iadd, 0, 0, 0, []),
  (80, .aload_n 0, 0, 0, 0, []),
  (81, .getfield 37, 613, 771, 0, [])]),
  (94, [(84, .bipush 42, 0, 0, 42, []),
  (86, .iconst 4, 0, 0, 4, []),
  (87, .iload_n 2, 2, 0, 0, []),
  (88, .imul, 0, 0, 0, []),
  (89, .iadd, 0, 0, 0, []),
  (90, .iload 4, 4, 0, 0, []),
  (92, .iadd, 0, 0, 0, []),
  (93, .iaload, 0, 0, 0, [])]),
  (100000, [(94, .iload_n 3, 3, 0, 0, []),
  (95, .invokestatic 127, 103, 940, 0, []),
  (98, .iastore, 0, 0, 0, []),
  (99, .iinc 4 1, 4, 0, 1, []),
  (102, .goto (-41), 61, 0, 0, []),
  (105, .return_, 0, 0, 0, [])])]
def cm_Mo_add : ck_MD := (⟨"CheckSaverModel", "add", "(III)V"⟩, prog_8_method_20_code, 5, none, false, 3, 6, ct_Mo_add)
/-- CModel.forget(I)V -/
def ct_Mo_forget : ck_Tb := [(10, [(0, .aload_n 0, 0, 0, 0, []),
  (1, .getfield 37, 613, 771, 0, []),
  (4, .iconst 0, 0, 0, 0, []),
  (5, .iload_n 1, 1, 0, 0, []),
  (6, .iadd, 0, 0, 0, []),
  (7, .iconst 0, 0, 0, 0, []),
  (8, .iastore, 0, 0, 0, []),
  (9, .aload_n 0, 0, 0, 0, [])]),
  (22, [(10, .getfield 37, 613, 771, 0, []),
  (13, .bipush 20, 0, 0, 20, []),
  (15, .iload_n 1, 1, 0, 0, []),
  (16, .iadd, 0, 0, 0, []),
  (17, .ldc 102, 0, 896, 1000000000, []),
  (19, .iastore, 0, 0, 0, []),
  (20, .iconst 0, 0, 0, 0, []),
  (21, .istore_n 2, 2, 0, 0, [])]),
  (35, [(22, .iload_n 2, 2, 0, 0, []),
  (23, .iconst 4, 0, 0, 4, []),
  (24, .if_icmp .ge 24, 48, 0, 0, []),
  (27, .aload_n 0, 0, 0, 0, []),
  (28, .getfield 37, 613, 771, 0, []),
  (31, .bipush 42, 0, 0, 42, []),
  (33, .iconst 4, 0, 0, 4, []),
  (34, .iload_n 1, 1, 0, 0, [])]),
  (48, [(35, .imul, 0, 0, 0, []),
  (36, .iadd, 0, 0, 0, []),
  (37, .iload_n 2, 2, 0, 0, []),
  (38, .iadd, 0, 0, 0, []),
  (39, .ldc 102, 0, 896, 1000000000, []),
  (41, .iastore, 0, 0, 0, []),
  (42, .iinc 2 1, 2, 0, 1, []),
  (45, .goto (-23), 22, 0, 0, [])]),
  (100000, [(48, .return_, 0, 0, 0, [])])]
def cm_Mo_forget : ck_MD := (⟨"CheckSaverModel", "forget", "(I)V"⟩, prog_8_method_16_code, 3, none, false, 1, 6, ct_Mo_forget)
/-- CModel.measured(II)V -/
def ct_Mo_measured : ck_Tb := [(12, [(0, .aload_n 0, 0, 0, 0, []),
  (1, .iload_n 2, 2, 0, 0, []),
  (2, .invokevirtual 110, 112, 974, 0, []),
  (5, .aload_n 0, 0, 0, 0, []),
  (6, .getfield 37, 613, 771, 0, []),
  (9, .iconst 0, 0, 0, 0, []),
  (10, .iload_n 1, 1, 0, 0, []),
  (11, .iadd, 0, 0, 0, [])]),
  (23, [(12, .iconst 0, 0, 0, 0, []),
  (13, .iastore, 0, 0, 0, []),
  (14, .aload_n 0, 0, 0, 0, []),
  (15, .getfield 37, 613, 771, 0, []),
  (18, .bipush 20, 0, 0, 20, []),
  (20, .iload_n 1, 1, 0, 0, []),
  (21, .iadd, 0, 0, 0, []),
  (22, .iconst 0, 0, 0, 0, [])]),
  (35, [(23, .iastore, 0, 0, 0, []),
  (24, .iconst 0, 0, 0, 0, []),
  (25, .istore_n 3, 3, 0, 0, []),
  (26, .iload_n 3, 3, 0, 0, []),
  (27, .iconst 4, 0, 0, 4, []),
  (28, .if_icmp .ge 61, 89, 0, 0, []),
  (31, .aload_n 0, 0, 0, 0, []),
  (32, .getfield 37, 613, 771, 0, [])]),
  (44, [(35, .bipush 42, 0, 0, 42, []),
  (37, .iconst 4, 0, 0, 4, []),
  (38, .iload_n 1, 1, 0, 0, []),
  (39, .imul, 0, 0, 0, []),
  (40, .iadd, 0, 0, 0, []),
  (41, .iload_n 3, 3, 0, 0, []),
  (42, .iadd, 0, 0, 0, []),
  (43, .aload_n 0, 0, 0, 0, [])]),
  (58, [(44, .getfield 37, 613, 771, 0, []),
  (47, .bipush 30, 0, 0, 30, []),
  (49, .iload_n 3, 3, 0, 0, []),
  (50, .iadd, 0, 0, 0, []),
  (51, .iaload, 0, 0, 0, []),
  (52, .aload_n 0, 0, 0, 0, []),
  (53, .getfield 37, 613, 771, 0, []),
  (56, .bipush 30, 0, 0, 30, [])]),
  (71, [(58, .iload_n 2, 2, 0, 0, []),
  (59, .iadd, 0, 0, 0, []),
  (60, .iaload, 0, 0, 0, []),
  (61, .if_icmp .ne 19, 80, 0, 0, []),
  (64, .aload_n 0, 0, 0, 0, []),
  (65, .getfield 37, 613, 771, 0, []),
  (68, .bipush 30, 0, 0, 30, []),
  (70, .iload_n 3, 3, 0, 0, [])]),
  (86, [(71, .iadd, 0, 0, 0, []),
  (72, .iaload, 0, 0, 0, []),
  (73, .ifCond .le 7, 80, 0, 0, []),
  (76, .iconst 0, 0, 0, 0, []),
  (77, .goto 5, 82, 0, 0, []),
  (80, .ldc 102, 0, 896, 1000000000, []),
  (82, .iastore, 0, 0, 0, []),
  (83, .iinc 3 1, 3, 0, 1, [])]),
  (100000, [(86, .goto (-60), 26, 0, 0, []),
  (89, .return_, 0, 0, 0, [])])]
def cm_Mo_measured : ck_MD := (⟨"CheckSaverModel", "measured", "(II)V"⟩, prog_8_method_21_code, 4, none, false, 2, 6, ct_Mo_measured)
/-- CModel.found(I)V -/
def ct_Mo_found : ck_Tb := [(13, [(0, .iconst 0, 0, 0, 0, []),
  (1, .istore_n 2, 2, 0, 0, []),
  (2, .iload_n 2, 2, 0, 0, []),
  (3, .iconst 4, 0, 0, 4, []),
  (4, .if_icmp .ge 52, 56, 0, 0, []),
  (7, .aload_n 0, 0, 0, 0, []),
  (8, .getfield 37, 613, 771, 0, []),
  (11, .bipush 30, 0, 0, 30, [])]),
  (24, [(13, .iload_n 2, 2, 0, 0, []),
  (14, .iadd, 0, 0, 0, []),
  (15, .iaload, 0, 0, 0, []),
  (16, .aload_n 0, 0, 0, 0, []),
  (17, .getfield 37, 613, 771, 0, []),
  (20, .bipush 30, 0, 0, 30, []),
  (22, .iload_n 1, 1, 0, 0, []),
  (23, .iadd, 0, 0, 0, [])]),
  (37, [(24, .iaload, 0, 0, 0, []),
  (25, .if_icmp .ne 25, 50, 0, 0, []),
  (28, .aload_n 0, 0, 0, 0, []),
  (29, .getfield 37, 613, 771, 0, []),
  (32, .bipush 30, 0, 0, 30, []),
  (34, .iload_n 2, 2, 0, 0, []),
  (35, .iadd, 0, 0, 0, []),
  (36, .iaload, 0, 0, 0, [])]),
  (50, [(37, .ifCond .le 13, 50, 0, 0, []),
  (40, .aload_n 0, 0, 0, 0, []),
  (41, .getfield 37, 613, 771, 0, []),
  (44, .bipush 34, 0, 0, 34, []),
  (46, .iload_n 2, 2, 0, 0, []),
  (47, .iadd, 0, 0, 0, []),
  (48, .iconst 1, 0, 0, 1, []),
  (49, .iastore, 0, 0, 0, [])]),
  (100000, [(50, .iinc 2 1, 2, 0, 1, []),
  (53, .goto (-51), 2, 0, 0, []),
  (56, .return_, 0, 0, 0, [])])]
def cm_Mo_found : ck_MD := (⟨"CheckSaverModel", "found", "(I)V"⟩, prog_8_method_17_code, 3, none, false, 1, 6, ct_Mo_found)
/-- CModel.indexed(II)V -/
def ct_Mo_indexed : ck_Tb := [(13, [(0, .aload_n 0, 0, 0, 0, []),
  (1, .iload_n 1, 1, 0, 0, []),
  (2, .invokevirtual 110, 112, 974, 0, []),
  (5, .aload_n 0, 0, 0, 0, []),
  (6, .getfield 37, 613, 771, 0, []),
  (9, .bipush 20, 0, 0, 20, []),
  (11, .iload_n 2, 2, 0, 0, []),
  (12, .iadd, 0, 0, 0, [])]),
  (26, [(13, .aload_n 0, 0, 0, 0, []),
  (14, .getfield 37, 613, 771, 0, []),
  (17, .bipush 20, 0, 0, 20, []),
  (19, .iload_n 2, 2, 0, 0, []),
  (20, .iadd, 0, 0, 0, []),
  (21, .iaload, 0, 0, 0, []),
  (22, .iconst 0, 0, 0, 0, []),
  (23, .invokestatic 114, 100, 930, 0, [])]),
  (38, [(26, .iastore, 0, 0, 0, []),
  (27, .iconst 0, 0, 0, 0, []),
  (28, .istore_n 3, 3, 0, 0, []),
  (29, .iload_n 3, 3, 0, 0, []),
  (30, .iconst 4, 0, 0, 4, []),
  (31, .if_icmp .ge 72, 103, 0, 0, []),
  (34, .aload_n 0, 0, 0, 0, []),
  (35, .getfield 37, 613, 771, 0, [])]),
  (50, [(38, .bipush 30, 0, 0, 30, []),
  (40, .iload_n 3, 3, 0, 0, []),
  (41, .iadd, 0, 0, 0, []),
  (42, .iaload, 0, 0, 0, []),
  (43, .aload_n 0, 0, 0, 0, []),
  (44, .getfield 37, 613, 771, 0, []),
  (47, .bipush 30, 0, 0, 30, []),
  (49, .iload_n 1, 1, 0, 0, [])]),
  (63, [(50, .iadd, 0, 0, 0, []),
  (51, .iaload, 0, 0, 0, []),
  (52, .if_icmp .ne 45, 97, 0, 0, []),
  (55, .aload_n 0, 0, 0, 0, []),
  (56, .getfield 37, 613, 771, 0, []),
  (59, .bipush 30, 0, 0, 30, []),
  (61, .iload_n 3, 3, 0, 0, []),
  (62, .iadd, 0, 0, 0, [])]),
  (76, [(63, .iaload, 0, 0, 0, []),
  (64, .ifCond .le 33, 97, 0, 0, []),
  (67, .aload_n 0, 0, 0, 0, []),
  (68, .getfield 37, 613, 771, 0, []),
  (71, .bipush 42, 0, 0, 42, []),
  (73, .iconst 4, 0, 0, 4, []),
  (74, .iload_n 2, 2, 0, 0, []),
  (75, .imul, 0, 0, 0, [])]),
  (87, [(76, .iadd, 0, 0, 0, []),
  (77, .iload_n 3, 3, 0, 0, []),
  (78, .iadd, 0, 0, 0, []),
  (79, .aload_n 0, 0, 0, 0, []),
  (80, .getfield 37, 613, 771, 0, []),
  (83, .bipush 42, 0, 0, 42, []),
  (85, .iconst 4, 0, 0, 4, []),
  (86, .iload_n 2, 2, 0, 0, [])]),
  (97, [(87, .imul, 0, 0, 0, []),
  (88, .iadd, 0, 0, 0, []),
  (89, .iload_n 3, 3, 0, 0, []),
  (90, .iadd, 0, 0, 0, []),
  (91, .iaload, 0, 0, 0, []),
  (92, .iconst (-1), 0, 0, (-1), []),
  (93, .invokestatic 118, 104, 943, 0, []),
  (96, .iastore, 0, 0, 0, [])]),
  (100000, [(97, .iinc 3 1, 3, 0, 1, []),
  (100, .goto (-71), 29, 0, 0, []),
  (103, .return_, 0, 0, 0, [])])]
def cm_Mo_indexed : ck_MD := (⟨"CheckSaverModel", "indexed", "(II)V"⟩, prog_8_method_18_code, 4, none, false, 2, 6, ct_Mo_indexed)
/-- CModel.make(III)V -/
def ct_Mo_make : ck_Tb := [(14, [(0, .aload_n 0, 0, 0, 0, []),
  (1, .getfield 37, 613, 771, 0, []),
  (4, .bipush 20, 0, 0, 20, []),
  (6, .iload_n 3, 3, 0, 0, []),
  (7, .iadd, 0, 0, 0, []),
  (8, .aload_n 0, 0, 0, 0, []),
  (9, .getfield 37, 613, 771, 0, []),
  (12, .bipush 20, 0, 0, 20, [])]),
  (26, [(14, .iload_n 3, 3, 0, 0, []),
  (15, .iadd, 0, 0, 0, []),
  (16, .iaload, 0, 0, 0, []),
  (17, .iconst 0, 0, 0, 0, []),
  (18, .invokestatic 114, 100, 930, 0, []),
  (21, .iastore, 0, 0, 0, []),
  (22, .aload_n 0, 0, 0, 0, []),
  (23, .getfield 37, 613, 771, 0, [])]),
  (35, [(26, .bipush 30, 0, 0, 30, []),
  (28, .iload_n 2, 2, 0, 0, []),
  (29, .iadd, 0, 0, 0, []),
  (30, .iconst 1, 0, 0, 1, []),
  (31, .iload_n 1, 1, 0, 0, []),
  (32, .iadd, 0, 0, 0, []),
  (33, .iastore, 0, 0, 0, []),
  (34, .aload_n 0, 0, 0, 0, [])]),
  (48, [(35, .getfield 37, 613, 771, 0, []),
  (38, .bipush 34, 0, 0, 34, []),
  (40, .iload_n 2, 2, 0, 0, []),
  (41, .iadd, 0, 0, 0, []),
  (42, .iconst 1, 0, 0, 1, []),
  (43, .iastore, 0, 0, 0, []),
  (44, .aload_n 0, 0, 0, 0, []),
  (45, .getfield 37, 613, 771, 0, [])]),
  (59, [(48, .bipush 38, 0, 0, 38, []),
  (50, .iload_n 2, 2, 0, 0, []),
  (51, .iadd, 0, 0, 0, []),
  (52, .aload_n 0, 0, 0, 0, []),
  (53, .getfield 37, 613, 771, 0, []),
  (56, .iconst 0, 0, 0, 0, []),
  (57, .iload_n 3, 3, 0, 0, []),
  (58, .iadd, 0, 0, 0, [])]),
  (72, [(59, .iaload, 0, 0, 0, []),
  (60, .iconst 1, 0, 0, 1, []),
  (61, .if_icmp .ne 15, 76, 0, 0, []),
  (64, .aload_n 0, 0, 0, 0, []),
  (65, .getfield 37, 613, 771, 0, []),
  (68, .bipush 10, 0, 0, 10, []),
  (70, .iload_n 3, 3, 0, 0, []),
  (71, .iadd, 0, 0, 0, [])]),
  (86, [(72, .iaload, 0, 0, 0, []),
  (73, .goto 5, 78, 0, 0, []),
  (76, .ldc 102, 0, 896, 1000000000, []),
  (78, .iastore, 0, 0, 0, []),
  (79, .iconst 0, 0, 0, 0, []),
  (80, .istore 4, 4, 0, 0, []),
  (82, .iload 4, 4, 0, 0, []),
  (84, .bipush 10, 0, 0, 10, [])]),
  (100, [(86, .if_icmp .ge 66, 152, 0, 0, []),
  (89, .aload_n 0, 0, 0, 0, []),
  (90, .getfield 37, 613, 771, 0, []),
  (93, .bipush 42, 0, 0, 42, []),
  (95, .iconst 4, 0, 0, 4, []),
  (96, .iload 4, 4, 0, 0, []),
  (98, .imul, 0, 0, 0, []),
  (99, .iadd, 0, 0, 0, [])]),
  (113, [(100, .iload_n 2, 2, 0, 0, []),
  (101, .iadd, 0, 0, 0, []),
  (102, .iload 4, 4, 0, 0, []),
  (104, .iload_n 3, 3, 0, 0, []),
  (105, .if_icmp .ne 7, 112, 0, 0, []),
  (108, .iconst 0, 0, 0, 0, []),
  (109, .goto 36, 145, 0, 0, []),
  (112, .aload_n 0, 0, 0, 0, [])]),
  (126, [(113, .getfield 37, 613, 771, 0, []),
  (116, .iconst 0, 0, 0, 0, []),
  (117, .iload 4, 4, 0, 0, []),
  (119, .iadd, 0, 0, 0, []),
  (120, .iaload, 0, 0, 0, []),
  (121, .iconst 1, 0, 0, 1, []),
  (122, .if_icmp .ne 21, 143, 0, 0, []),
  (125, .aload_n 0, 0, 0, 0, [])]),
  (140, [(126, .aload_n 0, 0, 0, 0, []),
  (127, .getfield 37, 613, 771, 0, []),
  (130, .bipush 10, 0, 0, 10, []),
  (132, .iload 4, 4, 0, 0, []),
  (134, .iadd, 0, 0, 0, []),
  (135, .iaload, 0, 0, 0, []),
  (136, .iload_n 2, 2, 0, 0, []),
  (137, .invokevirtual 121, 101, 933, 0, [])]),
  (100000, [(140, .goto 5, 145, 0, 0, []),
  (143, .ldc 102, 0, 896, 1000000000, []),
  (145, .iastore, 0, 0, 0, []),
  (146, .iinc 4 1, 4, 0, 1, []),
  (149, .goto (-67), 82, 0, 0, []),
  (152, .return_, 0, 0, 0, [])])]
def cm_Mo_make : ck_MD := (⟨"CheckSaverModel", "make", "(III)V"⟩, prog_8_method_22_code, 5, none, false, 3, 6, ct_Mo_make)
/-- CModel.let(II)V -/
def ct_Mo_let : ck_Tb := [(14, [(0, .aload_n 0, 0, 0, 0, []),
  (1, .getfield 37, 613, 771, 0, []),
  (4, .bipush 30, 0, 0, 30, []),
  (6, .iload_n 1, 1, 0, 0, []),
  (7, .iadd, 0, 0, 0, []),
  (8, .aload_n 0, 0, 0, 0, []),
  (9, .getfield 37, 613, 771, 0, []),
  (12, .bipush 30, 0, 0, 30, [])]),
  (25, [(14, .iload_n 2, 2, 0, 0, []),
  (15, .iadd, 0, 0, 0, []),
  (16, .iaload, 0, 0, 0, []),
  (17, .iastore, 0, 0, 0, []),
  (18, .aload_n 0, 0, 0, 0, []),
  (19, .getfield 37, 613, 771, 0, []),
  (22, .bipush 34, 0, 0, 34, []),
  (24, .iload_n 1, 1, 0, 0, [])]),
  (36, [(25, .iadd, 0, 0, 0, []),
  (26, .aload_n 0, 0, 0, 0, []),
  (27, .getfield 37, 613, 771, 0, []),
  (30, .bipush 34, 0, 0, 34, []),
  (32, .iload_n 2, 2, 0, 0, []),
  (33, .iadd, 0, 0, 0, []),
  (34, .iaload, 0, 0, 0, []),
  (35, .iastore, 0, 0, 0, [])]),
  (50, [(36, .aload_n 0, 0, 0, 0, []),
  (37, .getfield 37, 613, 771, 0, []),
  (40, .bipush 38, 0, 0, 38, []),
  (42, .iload_n 1, 1, 0, 0, []),
  (43, .iadd, 0, 0, 0, []),
  (44, .aload_n 0, 0, 0, 0, []),
  (45, .getfield 37, 613, 771, 0, []),
  (48, .bipush 38, 0, 0, 38, [])]),
  (59, [(50, .iload_n 2, 2, 0, 0, []),
  (51, .iadd, 0, 0, 0, []),
  (52, .iaload, 0, 0, 0, []),
  (53, .iastore, 0, 0, 0, []),
  (54, .iconst 0, 0, 0, 0, []),
  (55, .istore_n 3, 3, 0, 0, []),
  (56, .iload_n 3, 3, 0, 0, []),
  (57, .bipush 10, 0, 0, 10, [])]),
  (72, [(59, .if_icmp .ge 35, 94, 0, 0, []),
  (62, .aload_n 0, 0, 0, 0, []),
  (63, .getfield 37, 613, 771, 0, []),
  (66, .bipush 42, 0, 0, 42, []),
  (68, .iconst 4, 0, 0, 4, []),
  (69, .iload_n 3, 3, 0, 0, []),
  (70, .imul, 0, 0, 0, []),
  (71, .iadd, 0, 0, 0, [])]),
  (83, [(72, .iload_n 1, 1, 0, 0, []),
  (73, .iadd, 0, 0, 0, []),
  (74, .aload_n 0, 0, 0, 0, []),
  (75, .getfield 37, 613, 771, 0, []),
  (78, .bipush 42, 0, 0, 42, []),
  (80, .iconst 4, 0, 0, 4, []),
  (81, .iload_n 3, 3, 0, 0, []),
  (82, .imul, 0, 0, 0, [])]),
  (100000, [(83, .iadd, 0, 0, 0, []),
  (84, .iload_n 2, 2, 0, 0, []),
  (85, .iadd, 0, 0, 0, []),
  (86, .iaload, 0, 0, 0, []),
  (87, .iastore, 0, 0, 0, []),
  (88, .iinc 3 1, 3, 0, 1, []),
  (91, .goto (-35), 56, 0, 0, []),
  (94, .return_, 0, 0, 0, [])])]
def cm_Mo_let : ck_MD := (⟨"CheckSaverModel", "let", "(II)V"⟩, prog_8_method_23_code, 4, none, false, 2, 6, ct_Mo_let)
/-- CModel.spared(I)I -/
def ct_Mo_spared : ck_Tb := [(11, [(0, .bipush 82, 0, 0, 82, []),
  (2, .iload_n 1, 1, 0, 0, []),
  (3, .imul, 0, 0, 0, []),
  (4, .istore_n 2, 2, 0, 0, []),
  (5, .aload_n 0, 0, 0, 0, []),
  (6, .getfield 7, 603, 761, 0, []),
  (9, .iload_n 1, 1, 0, 0, []),
  (10, .iaload, 0, 0, 0, [])]),
  (25, [(11, .iconst 5, 0, 0, 5, []),
  (12, .if_icmp .ne 12, 24, 0, 0, []),
  (15, .aload_n 0, 0, 0, 0, []),
  (16, .getfield 13, 604, 762, 0, []),
  (19, .iload_n 1, 1, 0, 0, []),
  (20, .iaload, 0, 0, 0, []),
  (21, .goto 9, 30, 0, 0, []),
  (24, .aload_n 0, 0, 0, 0, [])]),
  (37, [(25, .getfield 16, 605, 763, 0, []),
  (28, .iload_n 1, 1, 0, 0, []),
  (29, .iaload, 0, 0, 0, []),
  (30, .istore_n 3, 3, 0, 0, []),
  (31, .aload_n 0, 0, 0, 0, []),
  (32, .getfield 7, 603, 761, 0, []),
  (35, .iload_n 1, 1, 0, 0, []),
  (36, .iaload, 0, 0, 0, [])]),
  (51, [(37, .iconst 5, 0, 0, 5, []),
  (38, .if_icmp .ne 12, 50, 0, 0, []),
  (41, .aload_n 0, 0, 0, 0, []),
  (42, .getfield 16, 605, 763, 0, []),
  (45, .iload_n 1, 1, 0, 0, []),
  (46, .iaload, 0, 0, 0, []),
  (47, .goto 9, 56, 0, 0, []),
  (50, .aload_n 0, 0, 0, 0, [])]),
  (64, [(51, .getfield 19, 606, 764, 0, []),
  (54, .iload_n 1, 1, 0, 0, []),
  (55, .iaload, 0, 0, 0, []),
  (56, .istore 4, 4, 0, 0, []),
  (58, .aload_n 0, 0, 0, 0, []),
  (59, .getfield 7, 603, 761, 0, []),
  (62, .iload_n 1, 1, 0, 0, []),
  (63, .iaload, 0, 0, 0, [])]),
  (78, [(64, .iconst 3, 0, 0, 3, []),
  (65, .if_icmp .lt 13, 78, 0, 0, []),
  (68, .aload_n 0, 0, 0, 0, []),
  (69, .getfield 7, 603, 761, 0, []),
  (72, .iload_n 1, 1, 0, 0, []),
  (73, .iaload, 0, 0, 0, []),
  (74, .iconst 5, 0, 0, 5, []),
  (75, .if_icmp .le 5, 80, 0, 0, [])]),
  (89, [(78, .iconst 0, 0, 0, 0, []),
  (79, .ireturn, 0, 0, 0, []),
  (80, .aload_n 0, 0, 0, 0, []),
  (81, .getfield 40, 614, 772, 0, []),
  (84, .iload_n 2, 2, 0, 0, []),
  (85, .bipush 34, 0, 0, 34, []),
  (87, .iadd, 0, 0, 0, []),
  (88, .iload_n 3, 3, 0, 0, [])]),
  (100, [(89, .iadd, 0, 0, 0, []),
  (90, .iaload, 0, 0, 0, []),
  (91, .istore 5, 5, 0, 0, []),
  (93, .aload_n 0, 0, 0, 0, []),
  (94, .getfield 7, 603, 761, 0, []),
  (97, .iload_n 1, 1, 0, 0, []),
  (98, .iaload, 0, 0, 0, []),
  (99, .iconst 3, 0, 0, 3, [])]),
  (115, [(100, .if_icmp .ne 6, 106, 0, 0, []),
  (103, .iload 5, 5, 0, 0, []),
  (105, .ireturn, 0, 0, 0, []),
  (106, .iload 5, 5, 0, 0, []),
  (108, .aload_n 0, 0, 0, 0, []),
  (109, .getfield 40, 614, 772, 0, []),
  (112, .iload_n 2, 2, 0, 0, []),
  (113, .bipush 20, 0, 0, 20, [])]),
  (129, [(115, .iadd, 0, 0, 0, []),
  (116, .iload 4, 4, 0, 0, []),
  (118, .iadd, 0, 0, 0, []),
  (119, .iaload, 0, 0, 0, []),
  (120, .ldc 102, 0, 896, 1000000000, []),
  (122, .if_icmp .eq 22, 144, 0, 0, []),
  (125, .aload_n 0, 0, 0, 0, []),
  (126, .getfield 40, 614, 772, 0, [])]),
  (141, [(129, .iload_n 2, 2, 0, 0, []),
  (130, .bipush 20, 0, 0, 20, []),
  (132, .iadd, 0, 0, 0, []),
  (133, .iload 4, 4, 0, 0, []),
  (135, .iadd, 0, 0, 0, []),
  (136, .iaload, 0, 0, 0, []),
  (137, .ifCond .lt 7, 144, 0, 0, []),
  (140, .iconst 2, 0, 0, 2, [])]),
  (155, [(141, .goto 4, 145, 0, 0, []),
  (144, .iconst 0, 0, 0, 0, []),
  (145, .iadd, 0, 0, 0, []),
  (146, .istore 5, 5, 0, 0, []),
  (148, .iload 5, 5, 0, 0, []),
  (150, .aload_n 0, 0, 0, 0, []),
  (151, .getfield 40, 614, 772, 0, []),
  (154, .iload_n 2, 2, 0, 0, [])]),
  (165, [(155, .bipush 42, 0, 0, 42, []),
  (157, .iadd, 0, 0, 0, []),
  (158, .iconst 4, 0, 0, 4, []),
  (159, .iload 4, 4, 0, 0, []),
  (161, .imul, 0, 0, 0, []),
  (162, .iadd, 0, 0, 0, []),
  (163, .iload_n 3, 3, 0, 0, []),
  (164, .iadd, 0, 0, 0, [])]),
  (179, [(165, .iaload, 0, 0, 0, []),
  (166, .ldc 102, 0, 896, 1000000000, []),
  (168, .if_icmp .eq 27, 195, 0, 0, []),
  (171, .aload_n 0, 0, 0, 0, []),
  (172, .getfield 40, 614, 772, 0, []),
  (175, .iload_n 2, 2, 0, 0, []),
  (176, .bipush 42, 0, 0, 42, []),
  (178, .iadd, 0, 0, 0, [])]),
  (188, [(179, .iconst 4, 0, 0, 4, []),
  (180, .iload 4, 4, 0, 0, []),
  (182, .imul, 0, 0, 0, []),
  (183, .iadd, 0, 0, 0, []),
  (184, .iload_n 3, 3, 0, 0, []),
  (185, .iadd, 0, 0, 0, []),
  (186, .iaload, 0, 0, 0, []),
  (187, .iconst (-1), 0, 0, (-1), [])]),
  (100000, [(188, .if_icmp .gt 7, 195, 0, 0, []),
  (191, .iconst 4, 0, 0, 4, []),
  (192, .goto 4, 196, 0, 0, []),
  (195, .iconst 0, 0, 0, 0, []),
  (196, .iadd, 0, 0, 0, []),
  (197, .ireturn, 0, 0, 0, [])])]
def cm_Mo_spared : ck_MD := (⟨"CheckSaverModel", "spared", "(I)I"⟩, prog_8_method_36_code, 6, some .int, false, 1, 6, ct_Mo_spared)
/-- CModel.needless(I)I -/
def ct_Mo_needless : ck_Tb := [(12, [(0, .aload_n 0, 0, 0, 0, []),
  (1, .iload_n 1, 1, 0, 0, []),
  (2, .iconst 0, 0, 0, 0, []),
  (3, .aload_n 0, 0, 0, 0, []),
  (4, .getfield 94, 601, 759, 0, []),
  (7, .iconst 1, 0, 0, 1, []),
  (8, .isub, 0, 0, 0, []),
  (9, .invokestatic 75, 84, 867, 0, [])]),
  (100000, [(12, .invokevirtual 219, 118, 998, 0, []),
  (15, .ifCond .eq 5, 20, 0, 0, []),
  (18, .iconst 0, 0, 0, 0, []),
  (19, .ireturn, 0, 0, 0, []),
  (20, .aload_n 0, 0, 0, 0, []),
  (21, .iload_n 1, 1, 0, 0, []),
  (22, .invokevirtual 216, 116, 990, 0, []),
  (25, .ireturn, 0, 0, 0, [])])]
def cm_Mo_needless : ck_MD := (⟨"CheckSaverModel", "needless", "(I)I"⟩, prog_8_method_39_code, 2, some .int, false, 1, 6, ct_Mo_needless)
/-- CModel.refuses(Z)Z -/
def ct_Mo_refuses : ck_Tb := [(14, [(0, .aload_n 0, 0, 0, 0, []),
  (1, .aload_n 0, 0, 0, 0, []),
  (2, .getfield 90, 619, 777, 1, []),
  (5, .ifCond .ne 7, 12, 0, 0, []),
  (8, .iconst 1, 0, 0, 1, []),
  (9, .goto 4, 13, 0, 0, []),
  (12, .iconst 0, 0, 0, 0, []),
  (13, .aload_n 0, 0, 0, 0, [])]),
  (32, [(14, .getfield 90, 619, 777, 1, []),
  (17, .ifCond .eq 11, 28, 0, 0, []),
  (20, .iload_n 1, 1, 0, 0, []),
  (21, .ifCond .ne 7, 28, 0, 0, []),
  (24, .iconst 1, 0, 0, 1, []),
  (25, .goto 4, 29, 0, 0, []),
  (28, .iconst 0, 0, 0, 0, []),
  (29, .invokevirtual 86, 85, 870, 0, [])]),
  (100000, [(32, .ireturn, 0, 0, 0, [])])]
def cm_Mo_refuses : ck_MD := (⟨"CheckSaverModel", "refuses", "(Z)Z"⟩, prog_8_method_38_code, 2, some .boolean, false, 1, 6, ct_Mo_refuses)
/-- CModel.least(II)I -/
def ct_Mo_least : ck_Tb := [(12, [(0, .aload_n 0, 0, 0, 0, []),
  (1, .iload_n 1, 1, 0, 0, []),
  (2, .iconst 0, 0, 0, 0, []),
  (3, .aload_n 0, 0, 0, 0, []),
  (4, .getfield 94, 601, 759, 0, []),
  (7, .iconst 1, 0, 0, 1, []),
  (8, .isub, 0, 0, 0, []),
  (9, .invokestatic 75, 84, 867, 0, [])]),
  (29, [(12, .ifCond .eq 17, 29, 0, 0, []),
  (15, .iload_n 2, 2, 0, 0, []),
  (16, .iconst 0, 0, 0, 0, []),
  (17, .bipush 9, 0, 0, 9, []),
  (19, .invokestatic 75, 84, 867, 0, []),
  (22, .ifCond .eq 7, 29, 0, 0, []),
  (25, .iconst 1, 0, 0, 1, []),
  (26, .goto 4, 30, 0, 0, [])]),
  (44, [(29, .iconst 0, 0, 0, 0, []),
  (30, .invokevirtual 219, 118, 998, 0, []),
  (33, .ifCond .eq 5, 38, 0, 0, []),
  (36, .iconst 0, 0, 0, 0, []),
  (37, .ireturn, 0, 0, 0, []),
  (38, .aload_n 0, 0, 0, 0, []),
  (39, .getfield 40, 614, 772, 0, []),
  (42, .bipush 82, 0, 0, 82, [])]),
  (100000, [(44, .iload_n 1, 1, 0, 0, []),
  (45, .imul, 0, 0, 0, []),
  (46, .bipush 20, 0, 0, 20, []),
  (48, .iadd, 0, 0, 0, []),
  (49, .iload_n 2, 2, 0, 0, []),
  (50, .iadd, 0, 0, 0, []),
  (51, .iaload, 0, 0, 0, []),
  (52, .ireturn, 0, 0, 0, [])])]
def cm_Mo_least : ck_MD := (⟨"CheckSaverModel", "least", "(II)I"⟩, prog_8_method_40_code, 3, some .int, false, 2, 6, ct_Mo_least)
/-- CModel.highest(III)I -/
def ct_Mo_highest : ck_Tb := [(12, [(0, .aload_n 0, 0, 0, 0, []),
  (1, .iload_n 1, 1, 0, 0, []),
  (2, .iconst 0, 0, 0, 0, []),
  (3, .aload_n 0, 0, 0, 0, []),
  (4, .getfield 94, 601, 759, 0, []),
  (7, .iconst 1, 0, 0, 1, []),
  (8, .isub, 0, 0, 0, []),
  (9, .invokestatic 75, 84, 867, 0, [])]),
  (27, [(12, .ifCond .eq 26, 38, 0, 0, []),
  (15, .iload_n 2, 2, 0, 0, []),
  (16, .iconst 0, 0, 0, 0, []),
  (17, .bipush 9, 0, 0, 9, []),
  (19, .invokestatic 75, 84, 867, 0, []),
  (22, .ifCond .eq 16, 38, 0, 0, []),
  (25, .iload_n 3, 3, 0, 0, []),
  (26, .iconst 0, 0, 0, 0, [])]),
  (45, [(27, .iconst 3, 0, 0, 3, []),
  (28, .invokestatic 75, 84, 867, 0, []),
  (31, .ifCond .eq 7, 38, 0, 0, []),
  (34, .iconst 1, 0, 0, 1, []),
  (35, .goto 4, 39, 0, 0, []),
  (38, .iconst 0, 0, 0, 0, []),
  (39, .invokevirtual 219, 118, 998, 0, []),
  (42, .ifCond .eq 5, 47, 0, 0, [])]),
  (57, [(45, .iconst 0, 0, 0, 0, []),
  (46, .ireturn, 0, 0, 0, []),
  (47, .aload_n 0, 0, 0, 0, []),
  (48, .getfield 40, 614, 772, 0, []),
  (51, .bipush 82, 0, 0, 82, []),
  (53, .iload_n 1, 1, 0, 0, []),
  (54, .imul, 0, 0, 0, []),
  (55, .bipush 42, 0, 0, 42, [])]),
  (65, [(57, .iadd, 0, 0, 0, []),
  (58, .iconst 4, 0, 0, 4, []),
  (59, .iload_n 2, 2, 0, 0, []),
  (60, .imul, 0, 0, 0, []),
  (61, .iadd, 0, 0, 0, []),
  (62, .iload_n 3, 3, 0, 0, []),
  (63, .iadd, 0, 0, 0, []),
  (64, .iaload, 0, 0, 0, [])]),
  (100000, [(65, .ireturn, 0, 0, 0, [])])]
def cm_Mo_highest : ck_MD := (⟨"CheckSaverModel", "highest", "(III)I"⟩, prog_8_method_41_code, 4, some .int, false, 3, 6, ct_Mo_highest)
/-- CModel.run(I)I -/
def ct_Mo_run : ck_Tb := [(18, [(0, .aload_n 0, 0, 0, 0, []),
  (1, .getfield 90, 619, 777, 1, []),
  (4, .ifCond .eq 14, 18, 0, 0, []),
  (7, .aload_n 0, 0, 0, 0, []),
  (8, .getfield 198, 621, 779, 0, []),
  (11, .ifCond .ne 7, 18, 0, 0, []),
  (14, .iconst 1, 0, 0, 1, []),
  (15, .goto 4, 19, 0, 0, [])]),
  (30, [(18, .iconst 0, 0, 0, 0, []),
  (19, .istore_n 2, 2, 0, 0, []),
  (20, .aload_n 0, 0, 0, 0, []),
  (21, .iload_n 2, 2, 0, 0, []),
  (22, .ifCond .ne 7, 29, 0, 0, []),
  (25, .iconst 1, 0, 0, 1, []),
  (26, .goto 4, 30, 0, 0, []),
  (29, .iconst 0, 0, 0, 0, [])]),
  (46, [(30, .iload_n 2, 2, 0, 0, []),
  (31, .ifCond .eq 18, 49, 0, 0, []),
  (34, .iload_n 1, 1, 0, 0, []),
  (35, .iconst 1, 0, 0, 1, []),
  (36, .sipush 2000, 0, 0, 2000, []),
  (39, .invokestatic 75, 84, 867, 0, []),
  (42, .ifCond .ne 7, 49, 0, 0, []),
  (45, .iconst 1, 0, 0, 1, [])]),
  (60, [(46, .goto 4, 50, 0, 0, []),
  (49, .iconst 0, 0, 0, 0, []),
  (50, .invokevirtual 86, 85, 870, 0, []),
  (53, .ifCond .eq 5, 58, 0, 0, []),
  (56, .iconst 0, 0, 0, 0, []),
  (57, .ireturn, 0, 0, 0, []),
  (58, .iconst 0, 0, 0, 0, []),
  (59, .istore_n 3, 3, 0, 0, [])]),
  (76, [(60, .iload_n 3, 3, 0, 0, []),
  (61, .iload_n 1, 1, 0, 0, []),
  (62, .if_icmp .ge 23, 85, 0, 0, []),
  (65, .aload_n 0, 0, 0, 0, []),
  (66, .getfield 198, 621, 779, 0, []),
  (69, .ifCond .ne 16, 85, 0, 0, []),
  (72, .aload_n 0, 0, 0, 0, []),
  (73, .invokevirtual 247, 122, 1014, 0, [])]),
  (100000, [(76, .ifCond .eq 9, 85, 0, 0, []),
  (79, .iinc 3 1, 3, 0, 1, []),
  (82, .goto (-22), 60, 0, 0, []),
  (85, .iload_n 3, 3, 0, 0, []),
  (86, .ireturn, 0, 0, 0, [])])]
def cm_Mo_run : ck_MD := (⟨"CheckSaverModel", "run", "(I)I"⟩, prog_8_method_50_code, 4, some .int, false, 1, 6, ct_Mo_run)
/-- CModel.one()Z -/
def ct_Mo_one : ck_Tb := [(12, [(0, .aload_n 0, 0, 0, 0, []),
  (1, .getfield 195, 620, 778, 0, []),
  (4, .iconst 1, 0, 0, 1, []),
  (5, .iadd, 0, 0, 0, []),
  (6, .istore_n 1, 1, 0, 0, []),
  (7, .aload_n 0, 0, 0, 0, []),
  (8, .getfield 7, 603, 761, 0, []),
  (11, .aload_n 0, 0, 0, 0, [])]),
  (29, [(12, .getfield 195, 620, 778, 0, []),
  (15, .iaload, 0, 0, 0, []),
  (16, .bipush 9, 0, 0, 9, []),
  (18, .if_icmp .eq 17, 35, 0, 0, []),
  (21, .aload_n 0, 0, 0, 0, []),
  (22, .getfield 7, 603, 761, 0, []),
  (25, .aload_n 0, 0, 0, 0, []),
  (26, .getfield 195, 620, 778, 0, [])]),
  (46, [(29, .iaload, 0, 0, 0, []),
  (30, .bipush 12, 0, 0, 12, []),
  (32, .if_icmp .ne 84, 116, 0, 0, []),
  (35, .aload_n 0, 0, 0, 0, []),
  (36, .invokevirtual 230, 123, 1018, 0, []),
  (39, .ldc 100, 0, 882, (-1000000), []),
  (41, .ldc 101, 0, 883, 1000000, []),
  (43, .invokestatic 75, 84, 867, 0, [])]),
  (60, [(46, .ifCond .ne 9, 55, 0, 0, []),
  (49, .aload_n 0, 0, 0, 0, []),
  (50, .iconst 4, 0, 0, 4, []),
  (51, .invokevirtual 227, 124, 1022, 0, []),
  (54, .ireturn, 0, 0, 0, []),
  (55, .aload_n 0, 0, 0, 0, []),
  (56, .getfield 56, 627, 785, 0, []),
  (59, .aload_n 0, 0, 0, 0, [])]),
  (76, [(60, .getfield 13, 604, 762, 0, []),
  (63, .aload_n 0, 0, 0, 0, []),
  (64, .getfield 195, 620, 778, 0, []),
  (67, .iaload, 0, 0, 0, []),
  (68, .iaload, 0, 0, 0, []),
  (69, .aload_n 0, 0, 0, 0, []),
  (70, .invokevirtual 230, 123, 1018, 0, []),
  (73, .if_icmp .lt 136, 209, 0, 0, [])]),
  (90, [(76, .iconst 1, 0, 0, 1, []),
  (77, .aload_n 0, 0, 0, 0, []),
  (78, .getfield 22, 607, 765, 0, []),
  (81, .aload_n 0, 0, 0, 0, []),
  (82, .getfield 195, 620, 778, 0, []),
  (85, .iaload, 0, 0, 0, []),
  (86, .iconst (-1), 0, 0, (-1), []),
  (87, .if_icmp .ne 15, 102, 0, 0, [])]),
  (106, [(90, .aload_n 0, 0, 0, 0, []),
  (91, .getfield 25, 608, 766, 0, []),
  (94, .aload_n 0, 0, 0, 0, []),
  (95, .getfield 195, 620, 778, 0, []),
  (98, .iaload, 0, 0, 0, []),
  (99, .goto 12, 111, 0, 0, []),
  (102, .aload_n 0, 0, 0, 0, []),
  (103, .getfield 22, 607, 765, 0, [])]),
  (120, [(106, .aload_n 0, 0, 0, 0, []),
  (107, .getfield 195, 620, 778, 0, []),
  (110, .iaload, 0, 0, 0, []),
  (111, .iadd, 0, 0, 0, []),
  (112, .istore_n 1, 1, 0, 0, []),
  (113, .goto 96, 209, 0, 0, []),
  (116, .aload_n 0, 0, 0, 0, []),
  (117, .getfield 7, 603, 761, 0, [])]),
  (135, [(120, .aload_n 0, 0, 0, 0, []),
  (121, .getfield 195, 620, 778, 0, []),
  (124, .iaload, 0, 0, 0, []),
  (125, .bipush 10, 0, 0, 10, []),
  (127, .if_icmp .ne 23, 150, 0, 0, []),
  (130, .iconst 1, 0, 0, 1, []),
  (131, .aload_n 0, 0, 0, 0, []),
  (132, .getfield 25, 608, 766, 0, [])]),
  (147, [(135, .aload_n 0, 0, 0, 0, []),
  (136, .getfield 28, 609, 767, 0, []),
  (139, .aload_n 0, 0, 0, 0, []),
  (140, .getfield 195, 620, 778, 0, []),
  (143, .iaload, 0, 0, 0, []),
  (144, .iaload, 0, 0, 0, []),
  (145, .iadd, 0, 0, 0, []),
  (146, .istore_n 1, 1, 0, 0, [])]),
  (164, [(147, .goto 62, 209, 0, 0, []),
  (150, .aload_n 0, 0, 0, 0, []),
  (151, .getfield 7, 603, 761, 0, []),
  (154, .aload_n 0, 0, 0, 0, []),
  (155, .getfield 195, 620, 778, 0, []),
  (158, .iaload, 0, 0, 0, []),
  (159, .bipush 11, 0, 0, 11, []),
  (161, .if_icmp .ne 39, 200, 0, 0, [])]),
  (178, [(164, .aload_n 0, 0, 0, 0, []),
  (165, .getfield 7, 603, 761, 0, []),
  (168, .aload_n 0, 0, 0, 0, []),
  (169, .getfield 28, 609, 767, 0, []),
  (172, .aload_n 0, 0, 0, 0, []),
  (173, .getfield 195, 620, 778, 0, []),
  (176, .iaload, 0, 0, 0, []),
  (177, .iaload, 0, 0, 0, [])]),
  (195, [(178, .bipush 12, 0, 0, 12, []),
  (180, .if_icmp .ne 15, 195, 0, 0, []),
  (183, .aload_n 0, 0, 0, 0, []),
  (184, .getfield 28, 609, 767, 0, []),
  (187, .aload_n 0, 0, 0, 0, []),
  (188, .getfield 195, 620, 778, 0, []),
  (191, .iaload, 0, 0, 0, []),
  (192, .goto 4, 196, 0, 0, [])]),
  (209, [(195, .iload_n 1, 1, 0, 0, []),
  (196, .istore_n 1, 1, 0, 0, []),
  (197, .goto 12, 209, 0, 0, []),
  (200, .aload_n 0, 0, 0, 0, []),
  (201, .invokevirtual 244, 125, 1026, 0, []),
  (204, .ifCond .ne 5, 209, 0, 0, []),
  (207, .iconst 0, 0, 0, 0, []),
  (208, .ireturn, 0, 0, 0, [])]),
  (221, [(209, .aload_n 0, 0, 0, 0, []),
  (210, .iload_n 1, 1, 0, 0, []),
  (211, .putfield 195, 620, 778, 0, []),
  (214, .aload_n 0, 0, 0, 0, []),
  (215, .dup, 0, 0, 0, []),
  (216, .getfield 201, 622, 780, 0, []),
  (219, .iconst 1, 0, 0, 1, []),
  (220, .iadd, 0, 0, 0, [])]),
  (237, [(221, .putfield 201, 622, 780, 0, []),
  (224, .aload_n 0, 0, 0, 0, []),
  (225, .aload_n 0, 0, 0, 0, []),
  (226, .getfield 195, 620, 778, 0, []),
  (229, .aload_n 0, 0, 0, 0, []),
  (230, .getfield 94, 601, 759, 0, []),
  (233, .if_icmp .ne 7, 240, 0, 0, []),
  (236, .iconst 1, 0, 0, 1, [])]),
  (100000, [(237, .goto 4, 241, 0, 0, []),
  (240, .iconst 0, 0, 0, 0, []),
  (241, .putfield 198, 621, 779, 0, []),
  (244, .iconst 1, 0, 0, 1, []),
  (245, .ireturn, 0, 0, 0, [])])]
def cm_Mo_one : ck_MD := (⟨"CheckSaverModel", "one", "()Z"⟩, prog_8_method_49_code, 2, some .boolean, false, 0, 6, ct_Mo_one)
/-- CModel.sum()I -/
def ct_Mo_sum : ck_Tb := [(15, [(0, .aload_n 0, 0, 0, 0, []),
  (1, .getfield 16, 605, 763, 0, []),
  (4, .aload_n 0, 0, 0, 0, []),
  (5, .getfield 195, 620, 778, 0, []),
  (8, .iaload, 0, 0, 0, []),
  (9, .bipush 10, 0, 0, 10, []),
  (11, .if_icmp .ne 7, 18, 0, 0, []),
  (14, .iconst 0, 0, 0, 0, [])]),
  (31, [(15, .goto 17, 32, 0, 0, []),
  (18, .aload_n 0, 0, 0, 0, []),
  (19, .getfield 56, 627, 785, 0, []),
  (22, .aload_n 0, 0, 0, 0, []),
  (23, .getfield 16, 605, 763, 0, []),
  (26, .aload_n 0, 0, 0, 0, []),
  (27, .getfield 195, 620, 778, 0, []),
  (30, .iaload, 0, 0, 0, [])]),
  (100000, [(31, .iaload, 0, 0, 0, []),
  (32, .aload_n 0, 0, 0, 0, []),
  (33, .getfield 19, 606, 764, 0, []),
  (36, .aload_n 0, 0, 0, 0, []),
  (37, .getfield 195, 620, 778, 0, []),
  (40, .iaload, 0, 0, 0, []),
  (41, .iadd, 0, 0, 0, []),
  (42, .ireturn, 0, 0, 0, [])])]
def cm_Mo_sum : ck_MD := (⟨"CheckSaverModel", "sum", "()I"⟩, prog_8_method_45_code, 1, some .int, false, 0, 6, ct_Mo_sum)
/-- CModel.stops(I)Z -/
def ct_Mo_stops : ck_Tb := [(100000, [(0, .aload_n 0, 0, 0, 0, []),
  (1, .iconst 1, 0, 0, 1, []),
  (2, .iload_n 1, 1, 0, 0, []),
  (3, .iadd, 0, 0, 0, []),
  (4, .putfield 198, 621, 779, 0, []),
  (7, .iconst 0, 0, 0, 0, []),
  (8, .ireturn, 0, 0, 0, [])])]
def cm_Mo_stops : ck_MD := (⟨"CheckSaverModel", "stops", "(I)Z"⟩, prog_8_method_43_code, 2, some .boolean, false, 1, 6, ct_Mo_stops)
/-- CModel.act()Z -/
def ct_Mo_act : ck_Tb := [(14, [(0, .aload_n 0, 0, 0, 0, []),
  (1, .getfield 13, 604, 762, 0, []),
  (4, .aload_n 0, 0, 0, 0, []),
  (5, .getfield 195, 620, 778, 0, []),
  (8, .iaload, 0, 0, 0, []),
  (9, .istore_n 1, 1, 0, 0, []),
  (10, .aload_n 0, 0, 0, 0, []),
  (11, .getfield 16, 605, 763, 0, [])]),
  (28, [(14, .aload_n 0, 0, 0, 0, []),
  (15, .getfield 195, 620, 778, 0, []),
  (18, .iaload, 0, 0, 0, []),
  (19, .istore_n 2, 2, 0, 0, []),
  (20, .aload_n 0, 0, 0, 0, []),
  (21, .getfield 7, 603, 761, 0, []),
  (24, .aload_n 0, 0, 0, 0, []),
  (25, .getfield 195, 620, 778, 0, [])]),
  (108, [(28, .iaload, 0, 0, 0, []),
  (29, .tableswitch 346 0 13 #[71, 80, 112, 119, 167, 228, 281, 293, 302, 346, 346, 346, 346, 316], 375, 71, 0, [100, 109, 141, 148, 196, 257, 310, 322, 331, 375, 375, 375, 375, 345]),
  (100, .aload_n 0, 0, 0, 0, []),
  (101, .getfield 56, 627, 785, 0, []),
  (104, .iload_n 1, 1, 0, 0, []),
  (105, .iload_n 2, 2, 0, 0, []),
  (106, .iastore, 0, 0, 0, []),
  (107, .iconst 1, 0, 0, 1, [])]),
  (124, [(108, .ireturn, 0, 0, 0, []),
  (109, .aload_n 0, 0, 0, 0, []),
  (110, .invokevirtual 230, 123, 1018, 0, []),
  (113, .ldc 100, 0, 882, (-1000000), []),
  (115, .ldc 101, 0, 883, 1000000, []),
  (117, .invokestatic 75, 84, 867, 0, []),
  (120, .ifCond .ne 9, 129, 0, 0, []),
  (123, .aload_n 0, 0, 0, 0, [])]),
  (138, [(124, .iconst 4, 0, 0, 4, []),
  (125, .invokevirtual 227, 124, 1022, 0, []),
  (128, .ireturn, 0, 0, 0, []),
  (129, .aload_n 0, 0, 0, 0, []),
  (130, .getfield 56, 627, 785, 0, []),
  (133, .iload_n 1, 1, 0, 0, []),
  (134, .aload_n 0, 0, 0, 0, []),
  (135, .invokevirtual 230, 123, 1018, 0, [])]),
  (148, [(138, .iastore, 0, 0, 0, []),
  (139, .iconst 1, 0, 0, 1, []),
  (140, .ireturn, 0, 0, 0, []),
  (141, .aload_n 0, 0, 0, 0, []),
  (142, .iload_n 1, 1, 0, 0, []),
  (143, .invokevirtual 234, 126, 1030, 0, []),
  (146, .iconst 1, 0, 0, 1, []),
  (147, .ireturn, 0, 0, 0, [])]),
  (160, [(148, .aload_n 0, 0, 0, 0, []),
  (149, .iconst 1, 0, 0, 1, []),
  (150, .aload_n 0, 0, 0, 0, []),
  (151, .getfield 59, 628, 786, 0, []),
  (154, .iload_n 2, 2, 0, 0, []),
  (155, .iaload, 0, 0, 0, []),
  (156, .iconst (-1), 0, 0, (-1), []),
  (157, .if_icmp .eq 7, 164, 0, 0, [])]),
  (176, [(160, .iconst 1, 0, 0, 1, []),
  (161, .goto 4, 165, 0, 0, []),
  (164, .iconst 0, 0, 0, 0, []),
  (165, .invokevirtual 223, 127, 1034, 0, []),
  (168, .ifCond .ne 9, 177, 0, 0, []),
  (171, .aload_n 0, 0, 0, 0, []),
  (172, .iconst 1, 0, 0, 1, []),
  (173, .invokevirtual 227, 124, 1022, 0, [])]),
  (190, [(176, .ireturn, 0, 0, 0, []),
  (177, .aload_n 0, 0, 0, 0, []),
  (178, .getfield 56, 627, 785, 0, []),
  (181, .iload_n 1, 1, 0, 0, []),
  (182, .aload_n 0, 0, 0, 0, []),
  (183, .getfield 62, 629, 787, 0, []),
  (186, .aload_n 0, 0, 0, 0, []),
  (187, .getfield 59, 628, 786, 0, [])]),
  (198, [(190, .iload_n 2, 2, 0, 0, []),
  (191, .iaload, 0, 0, 0, []),
  (192, .iaload, 0, 0, 0, []),
  (193, .iastore, 0, 0, 0, []),
  (194, .iconst 1, 0, 0, 1, []),
  (195, .ireturn, 0, 0, 0, []),
  (196, .aload_n 0, 0, 0, 0, []),
  (197, .iload_n 2, 2, 0, 0, [])]),
  (212, [(198, .aload_n 0, 0, 0, 0, []),
  (199, .getfield 56, 627, 785, 0, []),
  (202, .aload_n 0, 0, 0, 0, []),
  (203, .getfield 19, 606, 764, 0, []),
  (206, .aload_n 0, 0, 0, 0, []),
  (207, .getfield 195, 620, 778, 0, []),
  (210, .iaload, 0, 0, 0, []),
  (211, .iaload, 0, 0, 0, [])]),
  (226, [(212, .invokevirtual 237, 128, 1038, 0, []),
  (215, .ifCond .ne 5, 220, 0, 0, []),
  (218, .iconst 0, 0, 0, 0, []),
  (219, .ireturn, 0, 0, 0, []),
  (220, .aload_n 0, 0, 0, 0, []),
  (221, .getfield 56, 627, 785, 0, []),
  (224, .iload_n 1, 1, 0, 0, []),
  (225, .aload_n 0, 0, 0, 0, [])]),
  (239, [(226, .getfield 65, 630, 788, 0, []),
  (229, .bipush 40, 0, 0, 40, []),
  (231, .aload_n 0, 0, 0, 0, []),
  (232, .getfield 59, 628, 786, 0, []),
  (235, .iload_n 2, 2, 0, 0, []),
  (236, .iaload, 0, 0, 0, []),
  (237, .imul, 0, 0, 0, []),
  (238, .aload_n 0, 0, 0, 0, [])]),
  (253, [(239, .getfield 56, 627, 785, 0, []),
  (242, .aload_n 0, 0, 0, 0, []),
  (243, .getfield 19, 606, 764, 0, []),
  (246, .aload_n 0, 0, 0, 0, []),
  (247, .getfield 195, 620, 778, 0, []),
  (250, .iaload, 0, 0, 0, []),
  (251, .iaload, 0, 0, 0, []),
  (252, .iadd, 0, 0, 0, [])]),
  (263, [(253, .iaload, 0, 0, 0, []),
  (254, .iastore, 0, 0, 0, []),
  (255, .iconst 1, 0, 0, 1, []),
  (256, .ireturn, 0, 0, 0, []),
  (257, .aload_n 0, 0, 0, 0, []),
  (258, .iload_n 1, 1, 0, 0, []),
  (259, .aload_n 0, 0, 0, 0, []),
  (260, .getfield 56, 627, 785, 0, [])]),
  (277, [(263, .iload_n 2, 2, 0, 0, []),
  (264, .iaload, 0, 0, 0, []),
  (265, .invokevirtual 237, 128, 1038, 0, []),
  (268, .ifCond .ne 5, 273, 0, 0, []),
  (271, .iconst 0, 0, 0, 0, []),
  (272, .ireturn, 0, 0, 0, []),
  (273, .aload_n 0, 0, 0, 0, []),
  (274, .getfield 65, 630, 788, 0, [])]),
  (290, [(277, .bipush 40, 0, 0, 40, []),
  (279, .aload_n 0, 0, 0, 0, []),
  (280, .getfield 59, 628, 786, 0, []),
  (283, .iload_n 1, 1, 0, 0, []),
  (284, .iaload, 0, 0, 0, []),
  (285, .imul, 0, 0, 0, []),
  (286, .aload_n 0, 0, 0, 0, []),
  (287, .getfield 56, 627, 785, 0, [])]),
  (302, [(290, .iload_n 2, 2, 0, 0, []),
  (291, .iaload, 0, 0, 0, []),
  (292, .iadd, 0, 0, 0, []),
  (293, .aload_n 0, 0, 0, 0, []),
  (294, .getfield 56, 627, 785, 0, []),
  (297, .aload_n 0, 0, 0, 0, []),
  (298, .getfield 19, 606, 764, 0, []),
  (301, .aload_n 0, 0, 0, 0, [])]),
  (312, [(302, .getfield 195, 620, 778, 0, []),
  (305, .iaload, 0, 0, 0, []),
  (306, .iaload, 0, 0, 0, []),
  (307, .iastore, 0, 0, 0, []),
  (308, .iconst 1, 0, 0, 1, []),
  (309, .ireturn, 0, 0, 0, []),
  (310, .aload_n 0, 0, 0, 0, []),
  (311, .iload_n 1, 1, 0, 0, [])]),
  (326, [(312, .aload_n 0, 0, 0, 0, []),
  (313, .getfield 56, 627, 785, 0, []),
  (316, .iload_n 2, 2, 0, 0, []),
  (317, .iaload, 0, 0, 0, []),
  (318, .invokevirtual 241, 129, 1042, 0, []),
  (321, .ireturn, 0, 0, 0, []),
  (322, .aload_n 0, 0, 0, 0, []),
  (323, .getfield 59, 628, 786, 0, [])]),
  (336, [(326, .iload_n 1, 1, 0, 0, []),
  (327, .iconst (-1), 0, 0, (-1), []),
  (328, .iastore, 0, 0, 0, []),
  (329, .iconst 1, 0, 0, 1, []),
  (330, .ireturn, 0, 0, 0, []),
  (331, .aload_n 0, 0, 0, 0, []),
  (332, .getfield 59, 628, 786, 0, []),
  (335, .iload_n 1, 1, 0, 0, [])]),
  (346, [(336, .aload_n 0, 0, 0, 0, []),
  (337, .getfield 59, 628, 786, 0, []),
  (340, .iload_n 2, 2, 0, 0, []),
  (341, .iaload, 0, 0, 0, []),
  (342, .iastore, 0, 0, 0, []),
  (343, .iconst 1, 0, 0, 1, []),
  (344, .ireturn, 0, 0, 0, []),
  (345, .aload_n 0, 0, 0, 0, [])]),
  (361, [(346, .getfield 68, 631, 789, 0, []),
  (349, .aload_n 0, 0, 0, 0, []),
  (350, .getfield 210, 625, 783, 0, []),
  (353, .bipush 16, 0, 0, 16, []),
  (355, .irem, 0, 0, 0, []),
  (356, .aload_n 0, 0, 0, 0, []),
  (357, .getfield 56, 627, 785, 0, []),
  (360, .iload_n 1, 1, 0, 0, [])]),
  (373, [(361, .iaload, 0, 0, 0, []),
  (362, .iastore, 0, 0, 0, []),
  (363, .aload_n 0, 0, 0, 0, []),
  (364, .dup, 0, 0, 0, []),
  (365, .getfield 210, 625, 783, 0, []),
  (368, .iconst 1, 0, 0, 1, []),
  (369, .iadd, 0, 0, 0, []),
  (370, .putfield 210, 625, 783, 0, [])]),
  (100000, [(373, .iconst 1, 0, 0, 1, []),
  (374, .ireturn, 0, 0, 0, []),
  (375, .iconst 1, 0, 0, 1, []),
  (376, .ireturn, 0, 0, 0, [])])]
def cm_Mo_act : ck_MD := (⟨"CheckSaverModel", "act", "()Z"⟩, prog_8_method_46_code, 3, some .boolean, false, 0, 6, ct_Mo_act)
/-- CModel.input(I)V -/
def ct_Mo_input : ck_Tb := [(16, [(0, .aload_n 0, 0, 0, 0, []),
  (1, .getfield 56, 627, 785, 0, []),
  (4, .iload_n 1, 1, 0, 0, []),
  (5, .aload_n 0, 0, 0, 0, []),
  (6, .getfield 97, 612, 770, 0, []),
  (9, .ifCond .le 12, 21, 0, 0, []),
  (12, .aload_n 0, 0, 0, 0, []),
  (13, .getfield 34, 611, 769, 0, [])]),
  (26, [(16, .iconst 0, 0, 0, 0, []),
  (17, .iaload, 0, 0, 0, []),
  (18, .goto 4, 22, 0, 0, []),
  (21, .iconst 0, 0, 0, 0, []),
  (22, .iastore, 0, 0, 0, []),
  (23, .iconst 1, 0, 0, 1, []),
  (24, .istore_n 2, 2, 0, 0, []),
  (25, .iload_n 2, 2, 0, 0, [])]),
  (40, [(26, .aload_n 0, 0, 0, 0, []),
  (27, .getfield 97, 612, 770, 0, []),
  (30, .if_icmp .ge 23, 53, 0, 0, []),
  (33, .aload_n 0, 0, 0, 0, []),
  (34, .getfield 34, 611, 769, 0, []),
  (37, .iload_n 2, 2, 0, 0, []),
  (38, .iconst 1, 0, 0, 1, []),
  (39, .isub, 0, 0, 0, [])]),
  (54, [(40, .aload_n 0, 0, 0, 0, []),
  (41, .getfield 34, 611, 769, 0, []),
  (44, .iload_n 2, 2, 0, 0, []),
  (45, .iaload, 0, 0, 0, []),
  (46, .iastore, 0, 0, 0, []),
  (47, .iinc 2 1, 2, 0, 1, []),
  (50, .goto (-25), 25, 0, 0, []),
  (53, .aload_n 0, 0, 0, 0, [])]),
  (70, [(54, .aload_n 0, 0, 0, 0, []),
  (55, .getfield 97, 612, 770, 0, []),
  (58, .ifCond .le 12, 70, 0, 0, []),
  (61, .aload_n 0, 0, 0, 0, []),
  (62, .getfield 97, 612, 770, 0, []),
  (65, .iconst 1, 0, 0, 1, []),
  (66, .isub, 0, 0, 0, []),
  (67, .goto 4, 71, 0, 0, [])]),
  (100000, [(70, .iconst 0, 0, 0, 0, []),
  (71, .putfield 97, 612, 770, 0, []),
  (74, .return_, 0, 0, 0, [])])]
def cm_Mo_input : ck_MD := (⟨"CheckSaverModel", "input", "(I)V"⟩, prog_8_method_47_code, 3, none, false, 1, 6, ct_Mo_input)
/-- CModel.check(IZ)Z -/
def ct_Mo_check : ck_Tb := [(14, [(0, .aload_n 0, 0, 0, 0, []),
  (1, .aload_n 0, 0, 0, 0, []),
  (2, .getfield 195, 620, 778, 0, []),
  (5, .invokevirtual 216, 116, 990, 0, []),
  (8, .iload_n 1, 1, 0, 0, []),
  (9, .iand, 0, 0, 0, []),
  (10, .ifCond .le 15, 25, 0, 0, []),
  (13, .aload_n 0, 0, 0, 0, [])]),
  (26, [(14, .dup, 0, 0, 0, []),
  (15, .getfield 207, 624, 782, 0, []),
  (18, .iconst 1, 0, 0, 1, []),
  (19, .iadd, 0, 0, 0, []),
  (20, .putfield 207, 624, 782, 0, []),
  (23, .iconst 1, 0, 0, 1, []),
  (24, .ireturn, 0, 0, 0, []),
  (25, .aload_n 0, 0, 0, 0, [])]),
  (100000, [(26, .dup, 0, 0, 0, []),
  (27, .getfield 204, 623, 781, 0, []),
  (30, .iconst 1, 0, 0, 1, []),
  (31, .iadd, 0, 0, 0, []),
  (32, .putfield 204, 623, 781, 0, []),
  (35, .iload_n 2, 2, 0, 0, []),
  (36, .ireturn, 0, 0, 0, [])])]
def cm_Mo_check : ck_MD := (⟨"CheckSaverModel", "check", "(IZ)Z"⟩, prog_8_method_42_code, 3, some .boolean, false, 2, 6, ct_Mo_check)
/-- CModel.checks(II)Z -/
def ct_Mo_checks : ck_Tb := [(12, [(0, .aload_n 0, 0, 0, 0, []),
  (1, .iconst 1, 0, 0, 1, []),
  (2, .aload_n 0, 0, 0, 0, []),
  (3, .getfield 59, 628, 786, 0, []),
  (6, .iload_n 1, 1, 0, 0, []),
  (7, .iaload, 0, 0, 0, []),
  (8, .iconst (-1), 0, 0, (-1), []),
  (9, .if_icmp .eq 7, 16, 0, 0, [])]),
  (28, [(12, .iconst 1, 0, 0, 1, []),
  (13, .goto 4, 17, 0, 0, []),
  (16, .iconst 0, 0, 0, 0, []),
  (17, .invokevirtual 223, 127, 1034, 0, []),
  (20, .ifCond .ne 9, 29, 0, 0, []),
  (23, .aload_n 0, 0, 0, 0, []),
  (24, .iconst 1, 0, 0, 1, []),
  (25, .invokevirtual 227, 124, 1022, 0, [])]),
  (40, [(28, .ireturn, 0, 0, 0, []),
  (29, .aload_n 0, 0, 0, 0, []),
  (30, .iconst 2, 0, 0, 2, []),
  (31, .iload_n 2, 2, 0, 0, []),
  (32, .ifCond .lt 7, 39, 0, 0, []),
  (35, .iconst 1, 0, 0, 1, []),
  (36, .goto 4, 40, 0, 0, []),
  (39, .iconst 0, 0, 0, 0, [])]),
  (54, [(40, .invokevirtual 223, 127, 1034, 0, []),
  (43, .ifCond .ne 9, 52, 0, 0, []),
  (46, .aload_n 0, 0, 0, 0, []),
  (47, .iconst 2, 0, 0, 2, []),
  (48, .invokevirtual 227, 124, 1022, 0, []),
  (51, .ireturn, 0, 0, 0, []),
  (52, .aload_n 0, 0, 0, 0, []),
  (53, .iconst 4, 0, 0, 4, [])]),
  (66, [(54, .iload_n 2, 2, 0, 0, []),
  (55, .aload_n 0, 0, 0, 0, []),
  (56, .getfield 62, 629, 787, 0, []),
  (59, .aload_n 0, 0, 0, 0, []),
  (60, .getfield 59, 628, 786, 0, []),
  (63, .iload_n 1, 1, 0, 0, []),
  (64, .iaload, 0, 0, 0, []),
  (65, .iaload, 0, 0, 0, [])]),
  (82, [(66, .if_icmp .ge 7, 73, 0, 0, []),
  (69, .iconst 1, 0, 0, 1, []),
  (70, .goto 4, 74, 0, 0, []),
  (73, .iconst 0, 0, 0, 0, []),
  (74, .invokevirtual 223, 127, 1034, 0, []),
  (77, .ifCond .ne 9, 86, 0, 0, []),
  (80, .aload_n 0, 0, 0, 0, []),
  (81, .iconst 3, 0, 0, 3, [])]),
  (100000, [(82, .invokevirtual 227, 124, 1022, 0, []),
  (85, .ireturn, 0, 0, 0, []),
  (86, .iconst 1, 0, 0, 1, []),
  (87, .ireturn, 0, 0, 0, [])])]
def cm_Mo_checks : ck_MD := (⟨"CheckSaverModel", "checks", "(II)Z"⟩, prog_8_method_44_code, 3, some .boolean, false, 2, 6, ct_Mo_checks)
/-- CModel.room(II)Z -/
def ct_Mo_room : ck_Tb := [(16, [(0, .iload_n 2, 2, 0, 0, []),
  (1, .iconst 0, 0, 0, 0, []),
  (2, .bipush 40, 0, 0, 40, []),
  (4, .invokestatic 75, 84, 867, 0, []),
  (7, .ifCond .eq 12, 19, 0, 0, []),
  (10, .aload_n 0, 0, 0, 0, []),
  (11, .getfield 213, 626, 784, 0, []),
  (14, .bipush 40, 0, 0, 40, [])]),
  (30, [(16, .if_icmp .ne 9, 25, 0, 0, []),
  (19, .aload_n 0, 0, 0, 0, []),
  (20, .iconst 5, 0, 0, 5, []),
  (21, .invokevirtual 227, 124, 1022, 0, []),
  (24, .ireturn, 0, 0, 0, []),
  (25, .aload_n 0, 0, 0, 0, []),
  (26, .getfield 62, 629, 787, 0, []),
  (29, .aload_n 0, 0, 0, 0, [])]),
  (42, [(30, .getfield 213, 626, 784, 0, []),
  (33, .iload_n 2, 2, 0, 0, []),
  (34, .iastore, 0, 0, 0, []),
  (35, .iconst 0, 0, 0, 0, []),
  (36, .istore_n 3, 3, 0, 0, []),
  (37, .iload_n 3, 3, 0, 0, []),
  (38, .iload_n 2, 2, 0, 0, []),
  (39, .if_icmp .ge 24, 63, 0, 0, [])]),
  (55, [(42, .aload_n 0, 0, 0, 0, []),
  (43, .getfield 65, 630, 788, 0, []),
  (46, .bipush 40, 0, 0, 40, []),
  (48, .aload_n 0, 0, 0, 0, []),
  (49, .getfield 213, 626, 784, 0, []),
  (52, .imul, 0, 0, 0, []),
  (53, .iload_n 3, 3, 0, 0, []),
  (54, .iadd, 0, 0, 0, [])]),
  (69, [(55, .iconst 0, 0, 0, 0, []),
  (56, .iastore, 0, 0, 0, []),
  (57, .iinc 3 1, 3, 0, 1, []),
  (60, .goto (-23), 37, 0, 0, []),
  (63, .aload_n 0, 0, 0, 0, []),
  (64, .getfield 59, 628, 786, 0, []),
  (67, .iload_n 1, 1, 0, 0, []),
  (68, .aload_n 0, 0, 0, 0, [])]),
  (83, [(69, .getfield 213, 626, 784, 0, []),
  (72, .iastore, 0, 0, 0, []),
  (73, .aload_n 0, 0, 0, 0, []),
  (74, .dup, 0, 0, 0, []),
  (75, .getfield 213, 626, 784, 0, []),
  (78, .iconst 1, 0, 0, 1, []),
  (79, .iadd, 0, 0, 0, []),
  (80, .putfield 213, 626, 784, 0, [])]),
  (100000, [(83, .iconst 1, 0, 0, 1, []),
  (84, .ireturn, 0, 0, 0, [])])]
def cm_Mo_room : ck_MD := (⟨"CheckSaverModel", "room", "(II)Z"⟩, prog_8_method_48_code, 4, some .boolean, false, 2, 6, ct_Mo_room)
/-- CModel.output(I)I -/
def ct_Mo_output : ck_Tb := [(16, [(0, .aload_n 0, 0, 0, 0, []),
  (1, .iconst 0, 0, 0, 0, []),
  (2, .putfield 71, 600, 758, 0, []),
  (5, .aload_n 0, 0, 0, 0, []),
  (6, .getfield 90, 619, 777, 1, []),
  (9, .ifCond .eq 21, 30, 0, 0, []),
  (12, .iload_n 1, 1, 0, 0, []),
  (13, .ifCond .lt 17, 30, 0, 0, [])]),
  (32, [(16, .iload_n 1, 1, 0, 0, []),
  (17, .bipush 15, 0, 0, 15, []),
  (19, .if_icmp .gt 11, 30, 0, 0, []),
  (22, .iload_n 1, 1, 0, 0, []),
  (23, .aload_n 0, 0, 0, 0, []),
  (24, .getfield 210, 625, 783, 0, []),
  (27, .if_icmp .lt 8, 35, 0, 0, []),
  (30, .ldc 102, 0, 896, 1000000000, [])]),
  (46, [(32, .goto 19, 51, 0, 0, []),
  (35, .aload_n 0, 0, 0, 0, []),
  (36, .getfield 68, 631, 789, 0, []),
  (39, .aload_n 0, 0, 0, 0, []),
  (40, .getfield 210, 625, 783, 0, []),
  (43, .iconst 1, 0, 0, 1, []),
  (44, .isub, 0, 0, 0, []),
  (45, .iload_n 1, 1, 0, 0, [])]),
  (100000, [(46, .isub, 0, 0, 0, []),
  (47, .bipush 16, 0, 0, 16, []),
  (49, .irem, 0, 0, 0, []),
  (50, .iaload, 0, 0, 0, []),
  (51, .ireturn, 0, 0, 0, [])])]
def cm_Mo_output : ck_MD := (⟨"CheckSaverModel", "output", "(I)I"⟩, prog_8_method_51_code, 2, some .int, false, 1, 6, ct_Mo_output)
/-- CModel.state(I)I -/
def ct_Mo_state : ck_Tb := [(14, [(0, .aload_n 0, 0, 0, 0, []),
  (1, .iconst 0, 0, 0, 0, []),
  (2, .putfield 71, 600, 758, 0, []),
  (5, .aload_n 0, 0, 0, 0, []),
  (6, .getfield 90, 619, 777, 1, []),
  (9, .ifCond .ne 5, 14, 0, 0, []),
  (12, .iconst (-1), 0, 0, (-1), []),
  (13, .ireturn, 0, 0, 0, [])]),
  (66, [(14, .iload_n 1, 1, 0, 0, []),
  (15, .tableswitch 76 0 6 #[41, 46, 51, 56, 61, 66, 71], 91, 41, 0, [56, 61, 66, 71, 76, 81, 86]),
  (56, .aload_n 0, 0, 0, 0, []),
  (57, .getfield 195, 620, 778, 0, []),
  (60, .ireturn, 0, 0, 0, []),
  (61, .aload_n 0, 0, 0, 0, []),
  (62, .getfield 198, 621, 779, 0, []),
  (65, .ireturn, 0, 0, 0, [])]),
  (80, [(66, .aload_n 0, 0, 0, 0, []),
  (67, .getfield 201, 622, 780, 0, []),
  (70, .ireturn, 0, 0, 0, []),
  (71, .aload_n 0, 0, 0, 0, []),
  (72, .getfield 204, 623, 781, 0, []),
  (75, .ireturn, 0, 0, 0, []),
  (76, .aload_n 0, 0, 0, 0, []),
  (77, .getfield 207, 624, 782, 0, [])]),
  (92, [(80, .ireturn, 0, 0, 0, []),
  (81, .aload_n 0, 0, 0, 0, []),
  (82, .getfield 210, 625, 783, 0, []),
  (85, .ireturn, 0, 0, 0, []),
  (86, .aload_n 0, 0, 0, 0, []),
  (87, .getfield 213, 626, 784, 0, []),
  (90, .ireturn, 0, 0, 0, []),
  (91, .iconst (-1), 0, 0, (-1), [])]),
  (100000, [(92, .ireturn, 0, 0, 0, [])])]
def cm_Mo_state : ck_MD := (⟨"CheckSaverModel", "state", "(I)I"⟩, prog_8_method_52_code, 2, some .int, false, 1, 6, ct_Mo_state)
/-- CModel.number(I)I -/
def ct_Mo_number : ck_Tb := [(14, [(0, .aload_n 0, 0, 0, 0, []),
  (1, .iconst 0, 0, 0, 0, []),
  (2, .putfield 71, 600, 758, 0, []),
  (5, .aload_n 0, 0, 0, 0, []),
  (6, .getfield 90, 619, 777, 1, []),
  (9, .ifCond .eq 13, 22, 0, 0, []),
  (12, .iload_n 1, 1, 0, 0, []),
  (13, .iconst 0, 0, 0, 0, [])]),
  (32, [(14, .bipush 9, 0, 0, 9, []),
  (16, .invokestatic 75, 84, 867, 0, []),
  (19, .ifCond .ne 8, 27, 0, 0, []),
  (22, .ldc 102, 0, 896, 1000000000, []),
  (24, .goto 9, 33, 0, 0, []),
  (27, .aload_n 0, 0, 0, 0, []),
  (28, .getfield 56, 627, 785, 0, []),
  (31, .iload_n 1, 1, 0, 0, [])]),
  (100000, [(32, .iaload, 0, 0, 0, []),
  (33, .ireturn, 0, 0, 0, [])])]
def cm_Mo_number : ck_MD := (⟨"CheckSaverModel", "number", "(I)I"⟩, prog_8_method_53_code, 2, some .int, false, 1, 6, ct_Mo_number)
/-- CModel.length(I)I -/
def ct_Mo_length : ck_Tb := [(14, [(0, .aload_n 0, 0, 0, 0, []),
  (1, .iconst 0, 0, 0, 0, []),
  (2, .putfield 71, 600, 758, 0, []),
  (5, .aload_n 0, 0, 0, 0, []),
  (6, .getfield 90, 619, 777, 1, []),
  (9, .ifCond .eq 22, 31, 0, 0, []),
  (12, .iload_n 1, 1, 0, 0, []),
  (13, .iconst 0, 0, 0, 0, [])]),
  (28, [(14, .iconst 3, 0, 0, 3, []),
  (15, .invokestatic 75, 84, 867, 0, []),
  (18, .ifCond .eq 13, 31, 0, 0, []),
  (21, .aload_n 0, 0, 0, 0, []),
  (22, .getfield 59, 628, 786, 0, []),
  (25, .iload_n 1, 1, 0, 0, []),
  (26, .iaload, 0, 0, 0, []),
  (27, .iconst (-1), 0, 0, (-1), [])]),
  (44, [(28, .if_icmp .ne 7, 35, 0, 0, []),
  (31, .iconst (-1), 0, 0, (-1), []),
  (32, .goto 14, 46, 0, 0, []),
  (35, .aload_n 0, 0, 0, 0, []),
  (36, .getfield 62, 629, 787, 0, []),
  (39, .aload_n 0, 0, 0, 0, []),
  (40, .getfield 59, 628, 786, 0, []),
  (43, .iload_n 1, 1, 0, 0, [])]),
  (100000, [(44, .iaload, 0, 0, 0, []),
  (45, .iaload, 0, 0, 0, []),
  (46, .ireturn, 0, 0, 0, [])])]
def cm_Mo_length : ck_MD := (⟨"CheckSaverModel", "length", "(I)I"⟩, prog_8_method_54_code, 2, some .int, false, 1, 6, ct_Mo_length)
/-- CModel.place(II)I -/
def ct_Mo_place : ck_Tb := [(14, [(0, .aload_n 0, 0, 0, 0, []),
  (1, .iconst 0, 0, 0, 0, []),
  (2, .putfield 71, 600, 758, 0, []),
  (5, .aload_n 0, 0, 0, 0, []),
  (6, .getfield 90, 619, 777, 1, []),
  (9, .ifCond .eq 43, 52, 0, 0, []),
  (12, .iload_n 1, 1, 0, 0, []),
  (13, .iconst 0, 0, 0, 0, [])]),
  (28, [(14, .iconst 3, 0, 0, 3, []),
  (15, .invokestatic 75, 84, 867, 0, []),
  (18, .ifCond .eq 34, 52, 0, 0, []),
  (21, .aload_n 0, 0, 0, 0, []),
  (22, .getfield 59, 628, 786, 0, []),
  (25, .iload_n 1, 1, 0, 0, []),
  (26, .iaload, 0, 0, 0, []),
  (27, .iconst (-1), 0, 0, (-1), [])]),
  (42, [(28, .if_icmp .eq 24, 52, 0, 0, []),
  (31, .iload_n 2, 2, 0, 0, []),
  (32, .iconst 0, 0, 0, 0, []),
  (33, .aload_n 0, 0, 0, 0, []),
  (34, .getfield 62, 629, 787, 0, []),
  (37, .aload_n 0, 0, 0, 0, []),
  (38, .getfield 59, 628, 786, 0, []),
  (41, .iload_n 1, 1, 0, 0, [])]),
  (57, [(42, .iaload, 0, 0, 0, []),
  (43, .iaload, 0, 0, 0, []),
  (44, .iconst 1, 0, 0, 1, []),
  (45, .isub, 0, 0, 0, []),
  (46, .invokestatic 75, 84, 867, 0, []),
  (49, .ifCond .ne 8, 57, 0, 0, []),
  (52, .ldc 102, 0, 896, 1000000000, []),
  (54, .goto 19, 73, 0, 0, [])]),
  (70, [(57, .aload_n 0, 0, 0, 0, []),
  (58, .getfield 65, 630, 788, 0, []),
  (61, .bipush 40, 0, 0, 40, []),
  (63, .aload_n 0, 0, 0, 0, []),
  (64, .getfield 59, 628, 786, 0, []),
  (67, .iload_n 1, 1, 0, 0, []),
  (68, .iaload, 0, 0, 0, []),
  (69, .imul, 0, 0, 0, [])]),
  (100000, [(70, .iload_n 2, 2, 0, 0, []),
  (71, .iadd, 0, 0, 0, []),
  (72, .iaload, 0, 0, 0, []),
  (73, .ireturn, 0, 0, 0, [])])]
def cm_Mo_place : ck_MD := (⟨"CheckSaverModel", "place", "(II)I"⟩, prog_8_method_55_code, 3, some .int, false, 2, 6, ct_Mo_place)
def ck_MDs : List ck_MD := [cm_Cs_clear, cm_Pr_empty, cm_In_empty, cm_Ma_leave, cm_Fi_forgetAll, cm_Cs_output, cm_Ma_outputBack, cm_Jm_floorMod, cm_Cs_state, cm_Ma_tell, cm_Cs_number, cm_Cs_isNumber, cm_Cs_length, cm_Cs_isArray, cm_Ma_lengthOf, cm_Cs_place, cm_Ma_placeOf, cm_Ma_hasPlace, cm_Cs_put, cm_Pr_fits, cm_Pr_isConstant, cm_Pr_hasOwner, cm_Pr_append, cm_Pr_close, cm_Cs_give, cm_In_append, cm_Cs_start, cm_Fi_work, cm_Fi_markAllDue, cm_Fi_arrive, cm_Fa_setFirst, cm_Fa_setNull, cm_Fi_follow, cm_Fa_copy, cm_Fa_setConstant, cm_Fa_highOfConstant, cm_Fa_boundedHigh, cm_Fa_setSum, cm_Fa_boundedLow, cm_Fa_setAnything, cm_Fa_setLength, cm_Fa_markThere, cm_Fa_isSameArray, cm_Fa_useIndex, cm_Jm_max, cm_Jm_min, cm_Fa_setNew, cm_Fa_setArray, cm_Fa_assumeBelow, cm_Fi_takeOtherWay, cm_Fa_assumeNotBelow, cm_Fa_joinWays, cm_Fa_joinBounds, cm_Fa_setJoinedValue, cm_Fi_joinWhile, cm_Fa_forgetChanged, cm_Fa_hasSameBounds, cm_Fi_passOn, cm_Fi_findNeedless, cm_Fi_findNeedlessOfIndex, cm_Ma_begin, cm_Fi_countNeedless, cm_Ji_bitCount, cm_Cs_needless, cm_Cs_requireStatement, cm_Cs_requireIndex, cm_Cs_least, cm_Cs_highest, cm_Cs_run, cm_Ma_advance, cm_Ma_perform, cm_Ma_isBelow, cm_Ma_sumOrStop, cm_Ma_behindFailedIf, cm_Ma_performPlain, cm_Ma_add, cm_In_takeNext, cm_Ma_passes, cm_Ma_passesAll, cm_Ma_store, cm_Ma_makeArray, cm_Mo_thrown, cm_Mo_put, cm_Mo_isSaid, cm_Mo_in, cm_Mo_fails, cm_Mo_clear, cm_Mo_give, cm_Mo_start, cm_Mo_pass, cm_Mo_nothing, cm_Mo_loosen, cm_Mo_joinBack, cm_Mo_join, cm_Mo_worst, cm_Mo_tell, cm_Mo_keep, cm_Mo_branch, cm_Mo_leastMore, cm_Mo_leastOf, cm_Mo_greater, cm_Mo_against, cm_Mo_high, cm_Mo_highMore, cm_Mo_lower, cm_Mo_take, cm_Mo_close, cm_Mo_effect, cm_Mo_set, cm_Mo_add, cm_Mo_forget, cm_Mo_measured, cm_Mo_found, cm_Mo_indexed, cm_Mo_make, cm_Mo_let, cm_Mo_spared, cm_Mo_needless, cm_Mo_refuses, cm_Mo_least, cm_Mo_highest, cm_Mo_run, cm_Mo_one, cm_Mo_sum, cm_Mo_stops, cm_Mo_act, cm_Mo_input, cm_Mo_check, cm_Mo_checks, cm_Mo_room, cm_Mo_output, cm_Mo_state, cm_Mo_number, cm_Mo_length, cm_Mo_place]
end
section
/-- how many values a call takes -/
def ck_ar (md : ck_MD) : Nat := ck_mP md + (if ck_mS md = true then 0 else 1)
/-! what the tables of instructions must be -/
def ck_len (en : ck_En) : Nat := match en.1 with
  | .iconst _ => 1
  | .bipush _ => 2
  | .sipush _ => 3
  | .ldc _ => 2
  | .ldc_w _ => 3
  | .iload _ => 2
  | .iload_n _ => 1
  | .aload _ => 2
  | .aload_n _ => 1
  | .istore _ => 2
  | .istore_n _ => 1
  | .astore_n _ => 1
  | .iinc _ _ => 3
  | .ifCond _ _ => 3
  | .if_icmp _ _ => 3
  | .goto _ => 3
  | .tableswitch _ _ _ _ => en.2.2.1
  | .getfield _ => 3
  | .putfield _ => 3
  | .invokevirtual _ => 3
  | .invokestatic _ => 3
  | _ => 1
def ck_wd (hint : Nat) (w : Cond) : Bool := decide (lw_tbl[hint]? = some w) && goodWord w
def ck_okF (own : String) (idx aux hint : Nat) : Bool := match ck_cl[aux / 100]? with
  | some r => decide (aux % 100 < r.2.2) && ck_wd hint (Cond.fieldLink own idx r.1 (r.2.1 (aux % 100)).2.1 (r.2.1 (aux % 100)).2.2.1)
  | none => false
def ck_okP (aux : Nat) (z : Int) : Bool := match ck_cl[aux / 100]? with
  | some r => !(r.2.1 (aux % 100)).2.2.2 && decide ((r.2.1 (aux % 100)).2.2.1 = if z = 0 then "I" else "Z")
  | none => false
def ck_okC (own : String) (idx aux hint : Nat) (sta : Bool) : Bool := match ck_MDs[aux]? with
  | some md => ck_wd hint (Cond.methodLink own idx (ck_mN md)) && (ck_mS md == sta)
  | none => sta && decide (aux = 999) && ck_wd hint (Cond.methodLink own idx arraycopyName)
def ck_okx (own : String) (pc : Nat) (en : ck_En) : Bool := match en.1 with
  | .iconst n => decide (Int32.ofInt n = Int32.ofInt en.2.2.2.1)
  | .bipush n => decide ((Int8.ofInt n).toInt32 = Int32.ofInt en.2.2.2.1)
  | .sipush n => decide ((Int16.ofInt n).toInt32 = Int32.ofInt en.2.2.2.1)
  | .ldc i => ck_wd en.2.2.1 (Cond.constant own i (Int32.ofInt en.2.2.2.1))
  | .ldc_w i => ck_wd en.2.2.1 (Cond.constant own i (Int32.ofInt en.2.2.2.1))
  | .iload i => decide (i = en.2.1)
  | .iload_n i => decide (i.val = en.2.1)
  | .aload i => decide (i = en.2.1)
  | .aload_n i => decide (i.val = en.2.1)
  | .istore i => decide (i = en.2.1)
  | .istore_n i => decide (i.val = en.2.1)
  | .astore_n i => decide (i.val = en.2.1)
  | .iinc i n => decide (i = en.2.1) && decide (Int32.ofInt n = Int32.ofInt en.2.2.2.1)
  | .ifCond _ o => decide ((pc : Int) + o = en.2.1)
  | .if_icmp _ o => decide ((pc : Int) + o = en.2.1)
  | .goto o => decide ((pc : Int) + o = en.2.1)
  | .tableswitch d lo hi offs => decide ((pc : Int) + d = en.2.1) && decide (offs.toList.map (fun o => (pc : Int) + o) = en.2.2.2.2.map (fun t : Nat => (t : Int))) && decide (hi - lo + 1 = offs.size)
  | .getfield i => ck_okF own i en.2.1 en.2.2.1
  | .putfield i => ck_okF own i en.2.1 en.2.2.1 && ck_okP en.2.1 en.2.2.2.1
  | .invokevirtual i => ck_okC own i en.2.1 en.2.2.1 false
  | .invokestatic i => ck_okC own i en.2.1 en.2.2.1 true
  | _ => true
def ck_ok (own : String) (bytes : ByteArray) (q : Nat × ck_En) : Bool := decide (decode bytes q.1 = .ok (q.2.1, ck_len q.2)) && ck_okx own q.1 q.2
def ck_chk (md : ck_MD) : Bool := (ck_mT md).all (fun ch => ch.2.all (ck_ok (ck_mN md).cls (ck_mB md)))
def ck_mok (md : ck_MD) : Prop := Cond.code (ck_mN md) (ck_mB md) (ck_mL md) (ck_mR md) ∈ ck_GW ∧ Cond.initialized (ck_mN md).cls ∈ ck_GW ∧ plainFor (ck_mN md) = true ∧
  ((ck_mN md).cls ≠ "java/lang/invoke/MethodHandle" ∧ (ck_mN md).cls ≠ "java/lang/invoke/VarHandle" ∧ (parseMethodDescriptor (ck_mN md).desc).map (fun d => d.parameters.length) = some (ck_mP md)) ∧
  (ck_mS md = true → Cond.static (ck_mN md) ∈ ck_GW) ∧ (ck_mS md = false → Cond.instanceMethod (ck_mN md) ∈ ck_GW ∧ Cond.selects (ck_mN md).cls (ck_mN md) (ck_mN md) ∈ ck_GW ∧ (ck_cl[ck_mC md]?).map (fun r => r.1) = some (ck_mN md).cls) ∧
  (ck_mL md ≤ 11 ∧ ck_ar md ≤ ck_mL md) ∧ ck_chk md = true
end
section
set_option maxRecDepth 20000 in
theorem cc_Cs_clear : ck_chk cm_Cs_clear = true := by decide +kernel
set_option maxRecDepth 20000 in
theorem ck_ok_Cs_clear : ck_mok cm_Cs_clear := ⟨ck_gw 303 (by decide +kernel) (by decide +kernel), ck_gw 58 (by decide +kernel) (by decide +kernel), by decide +kernel, ⟨by decide +kernel, by decide +kernel, by decide +kernel⟩, fun h => absurd h (by decide +kernel), fun _ => ⟨ck_gw 301 (by decide +kernel) (by decide +kernel), ck_gw 302 (by decide +kernel) (by decide +kernel), by decide +kernel⟩, by decide +kernel, cc_Cs_clear⟩
set_option maxRecDepth 20000 in
theorem cc_Pr_empty : ck_chk cm_Pr_empty = true := by decide +kernel
set_option maxRecDepth 20000 in
theorem ck_ok_Pr_empty : ck_mok cm_Pr_empty := ⟨ck_gw 307 (by decide +kernel) (by decide +kernel), ck_gw 62 (by decide +kernel) (by decide +kernel), by decide +kernel, ⟨by decide +kernel, by decide +kernel, by decide +kernel⟩, fun h => absurd h (by decide +kernel), fun _ => ⟨ck_gw 305 (by decide +kernel) (by decide +kernel), ck_gw 306 (by decide +kernel) (by decide +kernel), by decide +kernel⟩, by decide +kernel, cc_Pr_empty⟩
set_option maxRecDepth 20000 in
theorem cc_In_empty : ck_chk cm_In_empty = true := by decide +kernel
set_option maxRecDepth 20000 in
theorem ck_ok_In_empty : ck_mok cm_In_empty := ⟨ck_gw 311 (by decide +kernel) (by decide +kernel), ck_gw 60 (by decide +kernel) (by decide +kernel), by decide +kernel, ⟨by decide +kernel, by decide +kernel, by decide +kernel⟩, fun h => absurd h (by decide +kernel), fun _ => ⟨ck_gw 309 (by decide +kernel) (by decide +kernel), ck_gw 310 (by decide +kernel) (by decide +kernel), by decide +kernel⟩, by decide +kernel, cc_In_empty⟩
set_option maxRecDepth 20000 in
theorem cc_Ma_leave : ck_chk cm_Ma_leave = true := by decide +kernel
set_option maxRecDepth 20000 in
theorem ck_ok_Ma_leave : ck_mok cm_Ma_leave := ⟨ck_gw 315 (by decide +kernel) (by decide +kernel), ck_gw 59 (by decide +kernel) (by decide +kernel), by decide +kernel, ⟨by decide +kernel, by decide +kernel, by decide +kernel⟩, fun h => absurd h (by decide +kernel), fun _ => ⟨ck_gw 313 (by decide +kernel) (by decide +kernel), ck_gw 314 (by decide +kernel) (by decide +kernel), by decide +kernel⟩, by decide +kernel, cc_Ma_leave⟩
set_option maxRecDepth 20000 in
theorem cc_Fi_forgetAll : ck_chk cm_Fi_forgetAll = true := by decide +kernel
set_option maxRecDepth 20000 in
theorem ck_ok_Fi_forgetAll : ck_mok cm_Fi_forgetAll := ⟨ck_gw 319 (by decide +kernel) (by decide +kernel), ck_gw 61 (by decide +kernel) (by decide +kernel), by decide +kernel, ⟨by decide +kernel, by decide +kernel, by decide +kernel⟩, fun h => absurd h (by decide +kernel), fun _ => ⟨ck_gw 317 (by decide +kernel) (by decide +kernel), ck_gw 318 (by decide +kernel) (by decide +kernel), by decide +kernel⟩, by decide +kernel, cc_Fi_forgetAll⟩
set_option maxRecDepth 20000 in
theorem cc_Cs_output : ck_chk cm_Cs_output = true := by decide +kernel
set_option maxRecDepth 20000 in
theorem ck_ok_Cs_output : ck_mok cm_Cs_output := ⟨ck_gw 323 (by decide +kernel) (by decide +kernel), ck_gw 58 (by decide +kernel) (by decide +kernel), by decide +kernel, ⟨by decide +kernel, by decide +kernel, by decide +kernel⟩, fun h => absurd h (by decide +kernel), fun _ => ⟨ck_gw 321 (by decide +kernel) (by decide +kernel), ck_gw 322 (by decide +kernel) (by decide +kernel), by decide +kernel⟩, by decide +kernel, cc_Cs_output⟩
set_option maxRecDepth 20000 in
theorem cc_Ma_outputBack : ck_chk cm_Ma_outputBack = true := by decide +kernel
set_option maxRecDepth 20000 in
theorem ck_ok_Ma_outputBack : ck_mok cm_Ma_outputBack := ⟨ck_gw 327 (by decide +kernel) (by decide +kernel), ck_gw 59 (by decide +kernel) (by decide +kernel), by decide +kernel, ⟨by decide +kernel, by decide +kernel, by decide +kernel⟩, fun h => absurd h (by decide +kernel), fun _ => ⟨ck_gw 325 (by decide +kernel) (by decide +kernel), ck_gw 326 (by decide +kernel) (by decide +kernel), by decide +kernel⟩, by decide +kernel, cc_Ma_outputBack⟩
set_option maxRecDepth 20000 in
theorem cc_Jm_floorMod : ck_chk cm_Jm_floorMod = true := by decide +kernel
set_option maxRecDepth 20000 in
theorem ck_ok_Jm_floorMod : ck_mok cm_Jm_floorMod := ⟨ck_gw 331 (by decide +kernel) (by decide +kernel), ck_gw 71 (by decide +kernel) (by decide +kernel), by decide +kernel, ⟨by decide +kernel, by decide +kernel, by decide +kernel⟩, fun _ => ck_gw 330 (by decide +kernel) (by decide +kernel), fun h => absurd h (by decide +kernel), by decide +kernel, cc_Jm_floorMod⟩
set_option maxRecDepth 20000 in
theorem cc_Cs_state : ck_chk cm_Cs_state = true := by decide +kernel
set_option maxRecDepth 20000 in
theorem ck_ok_Cs_state : ck_mok cm_Cs_state := ⟨ck_gw 336 (by decide +kernel) (by decide +kernel), ck_gw 58 (by decide +kernel) (by decide +kernel), by decide +kernel, ⟨by decide +kernel, by decide +kernel, by decide +kernel⟩, fun h => absurd h (by decide +kernel), fun _ => ⟨ck_gw 334 (by decide +kernel) (by decide +kernel), ck_gw 335 (by decide +kernel) (by decide +kernel), by decide +kernel⟩, by decide +kernel, cc_Cs_state⟩
set_option maxRecDepth 20000 in
theorem cc_Ma_tell : ck_chk cm_Ma_tell = true := by decide +kernel
set_option maxRecDepth 20000 in
theorem ck_ok_Ma_tell : ck_mok cm_Ma_tell := ⟨ck_gw 340 (by decide +kernel) (by decide +kernel), ck_gw 59 (by decide +kernel) (by decide +kernel), by decide +kernel, ⟨by decide +kernel, by decide +kernel, by decide +kernel⟩, fun h => absurd h (by decide +kernel), fun _ => ⟨ck_gw 338 (by decide +kernel) (by decide +kernel), ck_gw 339 (by decide +kernel) (by decide +kernel), by decide +kernel⟩, by decide +kernel, cc_Ma_tell⟩
set_option maxRecDepth 20000 in
theorem cc_Cs_number : ck_chk cm_Cs_number = true := by decide +kernel
set_option maxRecDepth 20000 in
theorem ck_ok_Cs_number : ck_mok cm_Cs_number := ⟨ck_gw 344 (by decide +kernel) (by decide +kernel), ck_gw 58 (by decide +kernel) (by decide +kernel), by decide +kernel, ⟨by decide +kernel, by decide +kernel, by decide +kernel⟩, fun h => absurd h (by decide +kernel), fun _ => ⟨ck_gw 342 (by decide +kernel) (by decide +kernel), ck_gw 343 (by decide +kernel) (by decide +kernel), by decide +kernel⟩, by decide +kernel, cc_Cs_number⟩
set_option maxRecDepth 20000 in
theorem cc_Cs_isNumber : ck_chk cm_Cs_isNumber = true := by decide +kernel
set_option maxRecDepth 20000 in
theorem ck_ok_Cs_isNumber : ck_mok cm_Cs_isNumber := ⟨ck_gw 347 (by decide +kernel) (by decide +kernel), ck_gw 58 (by decide +kernel) (by decide +kernel), by decide +kernel, ⟨by decide +kernel, by decide +kernel, by decide +kernel⟩, fun _ => ck_gw 346 (by decide +kernel) (by decide +kernel), fun h => absurd h (by decide +kernel), by decide +kernel, cc_Cs_isNumber⟩
set_option maxRecDepth 20000 in
theorem cc_Cs_length : ck_chk cm_Cs_length = true := by decide +kernel
set_option maxRecDepth 20000 in
theorem ck_ok_Cs_length : ck_mok cm_Cs_length := ⟨ck_gw 351 (by decide +kernel) (by decide +kernel), ck_gw 58 (by decide +kernel) (by decide +kernel), by decide +kernel, ⟨by decide +kernel, by decide +kernel, by decide +kernel⟩, fun h => absurd h (by decide +kernel), fun _ => ⟨ck_gw 349 (by decide +kernel) (by decide +kernel), ck_gw 350 (by decide +kernel) (by decide +kernel), by decide +kernel⟩, by decide +kernel, cc_Cs_length⟩
set_option maxRecDepth 20000 in
theorem cc_Cs_isArray : ck_chk cm_Cs_isArray = true := by decide +kernel
set_option maxRecDepth 20000 in
theorem ck_ok_Cs_isArray : ck_mok cm_Cs_isArray := ⟨ck_gw 354 (by decide +kernel) (by decide +kernel), ck_gw 58 (by decide +kernel) (by decide +kernel), by decide +kernel, ⟨by decide +kernel, by decide +kernel, by decide +kernel⟩, fun _ => ck_gw 353 (by decide +kernel) (by decide +kernel), fun h => absurd h (by decide +kernel), by decide +kernel, cc_Cs_isArray⟩
set_option maxRecDepth 20000 in
theorem cc_Ma_lengthOf : ck_chk cm_Ma_lengthOf = true := by decide +kernel
set_option maxRecDepth 20000 in
theorem ck_ok_Ma_lengthOf : ck_mok cm_Ma_lengthOf := ⟨ck_gw 358 (by decide +kernel) (by decide +kernel), ck_gw 59 (by decide +kernel) (by decide +kernel), by decide +kernel, ⟨by decide +kernel, by decide +kernel, by decide +kernel⟩, fun h => absurd h (by decide +kernel), fun _ => ⟨ck_gw 356 (by decide +kernel) (by decide +kernel), ck_gw 357 (by decide +kernel) (by decide +kernel), by decide +kernel⟩, by decide +kernel, cc_Ma_lengthOf⟩
set_option maxRecDepth 20000 in
theorem cc_Cs_place : ck_chk cm_Cs_place = true := by decide +kernel
set_option maxRecDepth 20000 in
theorem ck_ok_Cs_place : ck_mok cm_Cs_place := ⟨ck_gw 362 (by decide +kernel) (by decide +kernel), ck_gw 58 (by decide +kernel) (by decide +kernel), by decide +kernel, ⟨by decide +kernel, by decide +kernel, by decide +kernel⟩, fun h => absurd h (by decide +kernel), fun _ => ⟨ck_gw 360 (by decide +kernel) (by decide +kernel), ck_gw 361 (by decide +kernel) (by decide +kernel), by decide +kernel⟩, by decide +kernel, cc_Cs_place⟩
set_option maxRecDepth 20000 in
theorem cc_Ma_placeOf : ck_chk cm_Ma_placeOf = true := by decide +kernel
set_option maxRecDepth 20000 in
theorem ck_ok_Ma_placeOf : ck_mok cm_Ma_placeOf := ⟨ck_gw 366 (by decide +kernel) (by decide +kernel), ck_gw 59 (by decide +kernel) (by decide +kernel), by decide +kernel, ⟨by decide +kernel, by decide +kernel, by decide +kernel⟩, fun h => absurd h (by decide +kernel), fun _ => ⟨ck_gw 364 (by decide +kernel) (by decide +kernel), ck_gw 365 (by decide +kernel) (by decide +kernel), by decide +kernel⟩, by decide +kernel, cc_Ma_placeOf⟩
set_option maxRecDepth 20000 in
theorem cc_Ma_hasPlace : ck_chk cm_Ma_hasPlace = true := by decide +kernel
set_option maxRecDepth 20000 in
theorem ck_ok_Ma_hasPlace : ck_mok cm_Ma_hasPlace := ⟨ck_gw 370 (by decide +kernel) (by decide +kernel), ck_gw 59 (by decide +kernel) (by decide +kernel), by decide +kernel, ⟨by decide +kernel, by decide +kernel, by decide +kernel⟩, fun h => absurd h (by decide +kernel), fun _ => ⟨ck_gw 369 (by decide +kernel) (by decide +kernel), ck_gw 0 (by decide +kernel) (by decide +kernel), by decide +kernel⟩, by decide +kernel, cc_Ma_hasPlace⟩
set_option maxRecDepth 20000 in
theorem cc_Cs_put : ck_chk cm_Cs_put = true := by decide +kernel
set_option maxRecDepth 20000 in
theorem ck_ok_Cs_put : ck_mok cm_Cs_put := ⟨ck_gw 379 (by decide +kernel) (by decide +kernel), ck_gw 58 (by decide +kernel) (by decide +kernel), by decide +kernel, ⟨by decide +kernel, by decide +kernel, by decide +kernel⟩, fun h => absurd h (by decide +kernel), fun _ => ⟨ck_gw 377 (by decide +kernel) (by decide +kernel), ck_gw 378 (by decide +kernel) (by decide +kernel), by decide +kernel⟩, by decide +kernel, cc_Cs_put⟩
set_option maxRecDepth 20000 in
theorem cc_Pr_fits : ck_chk cm_Pr_fits = true := by decide +kernel
set_option maxRecDepth 20000 in
theorem ck_ok_Pr_fits : ck_mok cm_Pr_fits := ⟨ck_gw 382 (by decide +kernel) (by decide +kernel), ck_gw 62 (by decide +kernel) (by decide +kernel), by decide +kernel, ⟨by decide +kernel, by decide +kernel, by decide +kernel⟩, fun _ => ck_gw 381 (by decide +kernel) (by decide +kernel), fun h => absurd h (by decide +kernel), by decide +kernel, cc_Pr_fits⟩
set_option maxRecDepth 20000 in
theorem cc_Pr_isConstant : ck_chk cm_Pr_isConstant = true := by decide +kernel
set_option maxRecDepth 20000 in
theorem ck_ok_Pr_isConstant : ck_mok cm_Pr_isConstant := ⟨ck_gw 386 (by decide +kernel) (by decide +kernel), ck_gw 62 (by decide +kernel) (by decide +kernel), by decide +kernel, ⟨by decide +kernel, by decide +kernel, by decide +kernel⟩, fun _ => ck_gw 385 (by decide +kernel) (by decide +kernel), fun h => absurd h (by decide +kernel), by decide +kernel, cc_Pr_isConstant⟩
set_option maxRecDepth 20000 in
theorem cc_Pr_hasOwner : ck_chk cm_Pr_hasOwner = true := by decide +kernel
set_option maxRecDepth 20000 in
theorem ck_ok_Pr_hasOwner : ck_mok cm_Pr_hasOwner := ⟨ck_gw 391 (by decide +kernel) (by decide +kernel), ck_gw 62 (by decide +kernel) (by decide +kernel), by decide +kernel, ⟨by decide +kernel, by decide +kernel, by decide +kernel⟩, fun h => absurd h (by decide +kernel), fun _ => ⟨ck_gw 389 (by decide +kernel) (by decide +kernel), ck_gw 390 (by decide +kernel) (by decide +kernel), by decide +kernel⟩, by decide +kernel, cc_Pr_hasOwner⟩
set_option maxRecDepth 20000 in
theorem cc_Pr_append : ck_chk cm_Pr_append = true := by decide +kernel
set_option maxRecDepth 20000 in
theorem ck_ok_Pr_append : ck_mok cm_Pr_append := ⟨ck_gw 458 (by decide +kernel) (by decide +kernel), ck_gw 62 (by decide +kernel) (by decide +kernel), by decide +kernel, ⟨by decide +kernel, by decide +kernel, by decide +kernel⟩, fun h => absurd h (by decide +kernel), fun _ => ⟨ck_gw 456 (by decide +kernel) (by decide +kernel), ck_gw 457 (by decide +kernel) (by decide +kernel), by decide +kernel⟩, by decide +kernel, cc_Pr_append⟩
set_option maxRecDepth 20000 in
theorem cc_Pr_close : ck_chk cm_Pr_close = true := by decide +kernel
set_option maxRecDepth 20000 in
theorem ck_ok_Pr_close : ck_mok cm_Pr_close := ⟨ck_gw 462 (by decide +kernel) (by decide +kernel), ck_gw 62 (by decide +kernel) (by decide +kernel), by decide +kernel, ⟨by decide +kernel, by decide +kernel, by decide +kernel⟩, fun h => absurd h (by decide +kernel), fun _ => ⟨ck_gw 461 (by decide +kernel) (by decide +kernel), ck_gw 2 (by decide +kernel) (by decide +kernel), by decide +kernel⟩, by decide +kernel, cc_Pr_close⟩
set_option maxRecDepth 20000 in
theorem cc_Cs_give : ck_chk cm_Cs_give = true := by decide +kernel
set_option maxRecDepth 20000 in
theorem ck_ok_Cs_give : ck_mok cm_Cs_give := ⟨ck_gw 469 (by decide +kernel) (by decide +kernel), ck_gw 58 (by decide +kernel) (by decide +kernel), by decide +kernel, ⟨by decide +kernel, by decide +kernel, by decide +kernel⟩, fun h => absurd h (by decide +kernel), fun _ => ⟨ck_gw 467 (by decide +kernel) (by decide +kernel), ck_gw 468 (by decide +kernel) (by decide +kernel), by decide +kernel⟩, by decide +kernel, cc_Cs_give⟩
set_option maxRecDepth 20000 in
theorem cc_In_append : ck_chk cm_In_append = true := by decide +kernel
set_option maxRecDepth 20000 in
theorem ck_ok_In_append : ck_mok cm_In_append := ⟨ck_gw 475 (by decide +kernel) (by decide +kernel), ck_gw 60 (by decide +kernel) (by decide +kernel), by decide +kernel, ⟨by decide +kernel, by decide +kernel, by decide +kernel⟩, fun h => absurd h (by decide +kernel), fun _ => ⟨ck_gw 473 (by decide +kernel) (by decide +kernel), ck_gw 474 (by decide +kernel) (by decide +kernel), by decide +kernel⟩, by decide +kernel, cc_In_append⟩
set_option maxRecDepth 20000 in
theorem cc_Cs_start : ck_chk cm_Cs_start = true := by decide +kernel
set_option maxRecDepth 20000 in
theorem ck_ok_Cs_start : ck_mok cm_Cs_start := ⟨ck_gw 483 (by decide +kernel) (by decide +kernel), ck_gw 58 (by decide +kernel) (by decide +kernel), by decide +kernel, ⟨by decide +kernel, by decide +kernel, by decide +kernel⟩, fun h => absurd h (by decide +kernel), fun _ => ⟨ck_gw 481 (by decide +kernel) (by decide +kernel), ck_gw 482 (by decide +kernel) (by decide +kernel), by decide +kernel⟩, by decide +kernel, cc_Cs_start⟩
end
section
set_option maxRecDepth 20000 in
theorem cc_Fi_work : ck_chk cm_Fi_work = true := by decide +kernel
set_option maxRecDepth 20000 in
theorem ck_ok_Fi_work : ck_mok cm_Fi_work := ⟨ck_gw 502 (by decide +kernel) (by decide +kernel), ck_gw 61 (by decide +kernel) (by decide +kernel), by decide +kernel, ⟨by decide +kernel, by decide +kernel, by decide +kernel⟩, fun h => absurd h (by decide +kernel), fun _ => ⟨ck_gw 500 (by decide +kernel) (by decide +kernel), ck_gw 501 (by decide +kernel) (by decide +kernel), by decide +kernel⟩, by decide +kernel, cc_Fi_work⟩
set_option maxRecDepth 20000 in
theorem cc_Fi_markAllDue : ck_chk cm_Fi_markAllDue = true := by decide +kernel
set_option maxRecDepth 20000 in
theorem ck_ok_Fi_markAllDue : ck_mok cm_Fi_markAllDue := ⟨ck_gw 506 (by decide +kernel) (by decide +kernel), ck_gw 61 (by decide +kernel) (by decide +kernel), by decide +kernel, ⟨by decide +kernel, by decide +kernel, by decide +kernel⟩, fun h => absurd h (by decide +kernel), fun _ => ⟨ck_gw 505 (by decide +kernel) (by decide +kernel), ck_gw 3 (by decide +kernel) (by decide +kernel), by decide +kernel⟩, by decide +kernel, cc_Fi_markAllDue⟩
set_option maxRecDepth 20000 in
theorem cc_Fi_arrive : ck_chk cm_Fi_arrive = true := by decide +kernel
set_option maxRecDepth 20000 in
theorem ck_ok_Fi_arrive : ck_mok cm_Fi_arrive := ⟨ck_gw 511 (by decide +kernel) (by decide +kernel), ck_gw 61 (by decide +kernel) (by decide +kernel), by decide +kernel, ⟨by decide +kernel, by decide +kernel, by decide +kernel⟩, fun h => absurd h (by decide +kernel), fun _ => ⟨ck_gw 510 (by decide +kernel) (by decide +kernel), ck_gw 4 (by decide +kernel) (by decide +kernel), by decide +kernel⟩, by decide +kernel, cc_Fi_arrive⟩
set_option maxRecDepth 20000 in
theorem cc_Fa_setFirst : ck_chk cm_Fa_setFirst = true := by decide +kernel
set_option maxRecDepth 20000 in
theorem ck_ok_Fa_setFirst : ck_mok cm_Fa_setFirst := ⟨ck_gw 515 (by decide +kernel) (by decide +kernel), ck_gw 63 (by decide +kernel) (by decide +kernel), by decide +kernel, ⟨by decide +kernel, by decide +kernel, by decide +kernel⟩, fun h => absurd h (by decide +kernel), fun _ => ⟨ck_gw 513 (by decide +kernel) (by decide +kernel), ck_gw 514 (by decide +kernel) (by decide +kernel), by decide +kernel⟩, by decide +kernel, cc_Fa_setFirst⟩
set_option maxRecDepth 20000 in
theorem cc_Fa_setNull : ck_chk cm_Fa_setNull = true := by decide +kernel
set_option maxRecDepth 20000 in
theorem ck_ok_Fa_setNull : ck_mok cm_Fa_setNull := ⟨ck_gw 519 (by decide +kernel) (by decide +kernel), ck_gw 63 (by decide +kernel) (by decide +kernel), by decide +kernel, ⟨by decide +kernel, by decide +kernel, by decide +kernel⟩, fun h => absurd h (by decide +kernel), fun _ => ⟨ck_gw 517 (by decide +kernel) (by decide +kernel), ck_gw 518 (by decide +kernel) (by decide +kernel), by decide +kernel⟩, by decide +kernel, cc_Fa_setNull⟩
set_option maxRecDepth 20000 in
theorem cc_Fi_follow : ck_chk cm_Fi_follow = true := by decide +kernel
set_option maxRecDepth 20000 in
theorem ck_ok_Fi_follow : ck_mok cm_Fi_follow := ⟨ck_gw 524 (by decide +kernel) (by decide +kernel), ck_gw 61 (by decide +kernel) (by decide +kernel), by decide +kernel, ⟨by decide +kernel, by decide +kernel, by decide +kernel⟩, fun h => absurd h (by decide +kernel), fun _ => ⟨ck_gw 523 (by decide +kernel) (by decide +kernel), ck_gw 5 (by decide +kernel) (by decide +kernel), by decide +kernel⟩, by decide +kernel, cc_Fi_follow⟩
set_option maxRecDepth 20000 in
theorem cc_Fa_copy : ck_chk cm_Fa_copy = true := by decide +kernel
set_option maxRecDepth 20000 in
theorem ck_ok_Fa_copy : ck_mok cm_Fa_copy := ⟨ck_gw 528 (by decide +kernel) (by decide +kernel), ck_gw 63 (by decide +kernel) (by decide +kernel), by decide +kernel, ⟨by decide +kernel, by decide +kernel, by decide +kernel⟩, fun h => absurd h (by decide +kernel), fun _ => ⟨ck_gw 526 (by decide +kernel) (by decide +kernel), ck_gw 527 (by decide +kernel) (by decide +kernel), by decide +kernel⟩, by decide +kernel, cc_Fa_copy⟩
set_option maxRecDepth 20000 in
theorem cc_Fa_setConstant : ck_chk cm_Fa_setConstant = true := by decide +kernel
set_option maxRecDepth 20000 in
theorem ck_ok_Fa_setConstant : ck_mok cm_Fa_setConstant := ⟨ck_gw 535 (by decide +kernel) (by decide +kernel), ck_gw 63 (by decide +kernel) (by decide +kernel), by decide +kernel, ⟨by decide +kernel, by decide +kernel, by decide +kernel⟩, fun h => absurd h (by decide +kernel), fun _ => ⟨ck_gw 533 (by decide +kernel) (by decide +kernel), ck_gw 534 (by decide +kernel) (by decide +kernel), by decide +kernel⟩, by decide +kernel, cc_Fa_setConstant⟩
set_option maxRecDepth 20000 in
theorem cc_Fa_highOfConstant : ck_chk cm_Fa_highOfConstant = true := by decide +kernel
set_option maxRecDepth 20000 in
theorem ck_ok_Fa_highOfConstant : ck_mok cm_Fa_highOfConstant := ⟨ck_gw 539 (by decide +kernel) (by decide +kernel), ck_gw 63 (by decide +kernel) (by decide +kernel), by decide +kernel, ⟨by decide +kernel, by decide +kernel, by decide +kernel⟩, fun h => absurd h (by decide +kernel), fun _ => ⟨ck_gw 538 (by decide +kernel) (by decide +kernel), ck_gw 6 (by decide +kernel) (by decide +kernel), by decide +kernel⟩, by decide +kernel, cc_Fa_highOfConstant⟩
set_option maxRecDepth 20000 in
theorem cc_Fa_boundedHigh : ck_chk cm_Fa_boundedHigh = true := by decide +kernel
set_option maxRecDepth 20000 in
theorem ck_ok_Fa_boundedHigh : ck_mok cm_Fa_boundedHigh := ⟨ck_gw 542 (by decide +kernel) (by decide +kernel), ck_gw 63 (by decide +kernel) (by decide +kernel), by decide +kernel, ⟨by decide +kernel, by decide +kernel, by decide +kernel⟩, fun _ => ck_gw 541 (by decide +kernel) (by decide +kernel), fun h => absurd h (by decide +kernel), by decide +kernel, cc_Fa_boundedHigh⟩
set_option maxRecDepth 20000 in
theorem cc_Fa_setSum : ck_chk cm_Fa_setSum = true := by decide +kernel
set_option maxRecDepth 20000 in
theorem ck_ok_Fa_setSum : ck_mok cm_Fa_setSum := ⟨ck_gw 546 (by decide +kernel) (by decide +kernel), ck_gw 63 (by decide +kernel) (by decide +kernel), by decide +kernel, ⟨by decide +kernel, by decide +kernel, by decide +kernel⟩, fun h => absurd h (by decide +kernel), fun _ => ⟨ck_gw 544 (by decide +kernel) (by decide +kernel), ck_gw 545 (by decide +kernel) (by decide +kernel), by decide +kernel⟩, by decide +kernel, cc_Fa_setSum⟩
set_option maxRecDepth 20000 in
theorem cc_Fa_boundedLow : ck_chk cm_Fa_boundedLow = true := by decide +kernel
set_option maxRecDepth 20000 in
theorem ck_ok_Fa_boundedLow : ck_mok cm_Fa_boundedLow := ⟨ck_gw 549 (by decide +kernel) (by decide +kernel), ck_gw 63 (by decide +kernel) (by decide +kernel), by decide +kernel, ⟨by decide +kernel, by decide +kernel, by decide +kernel⟩, fun _ => ck_gw 548 (by decide +kernel) (by decide +kernel), fun h => absurd h (by decide +kernel), by decide +kernel, cc_Fa_boundedLow⟩
set_option maxRecDepth 20000 in
theorem cc_Fa_setAnything : ck_chk cm_Fa_setAnything = true := by decide +kernel
set_option maxRecDepth 20000 in
theorem ck_ok_Fa_setAnything : ck_mok cm_Fa_setAnything := ⟨ck_gw 554 (by decide +kernel) (by decide +kernel), ck_gw 63 (by decide +kernel) (by decide +kernel), by decide +kernel, ⟨by decide +kernel, by decide +kernel, by decide +kernel⟩, fun h => absurd h (by decide +kernel), fun _ => ⟨ck_gw 552 (by decide +kernel) (by decide +kernel), ck_gw 553 (by decide +kernel) (by decide +kernel), by decide +kernel⟩, by decide +kernel, cc_Fa_setAnything⟩
set_option maxRecDepth 20000 in
theorem cc_Fa_setLength : ck_chk cm_Fa_setLength = true := by decide +kernel
set_option maxRecDepth 20000 in
theorem ck_ok_Fa_setLength : ck_mok cm_Fa_setLength := ⟨ck_gw 558 (by decide +kernel) (by decide +kernel), ck_gw 63 (by decide +kernel) (by decide +kernel), by decide +kernel, ⟨by decide +kernel, by decide +kernel, by decide +kernel⟩, fun h => absurd h (by decide +kernel), fun _ => ⟨ck_gw 556 (by decide +kernel) (by decide +kernel), ck_gw 557 (by decide +kernel) (by decide +kernel), by decide +kernel⟩, by decide +kernel, cc_Fa_setLength⟩
set_option maxRecDepth 20000 in
theorem cc_Fa_markThere : ck_chk cm_Fa_markThere = true := by decide +kernel
set_option maxRecDepth 20000 in
theorem ck_ok_Fa_markThere : ck_mok cm_Fa_markThere := ⟨ck_gw 562 (by decide +kernel) (by decide +kernel), ck_gw 63 (by decide +kernel) (by decide +kernel), by decide +kernel, ⟨by decide +kernel, by decide +kernel, by decide +kernel⟩, fun h => absurd h (by decide +kernel), fun _ => ⟨ck_gw 561 (by decide +kernel) (by decide +kernel), ck_gw 7 (by decide +kernel) (by decide +kernel), by decide +kernel⟩, by decide +kernel, cc_Fa_markThere⟩
set_option maxRecDepth 20000 in
theorem cc_Fa_isSameArray : ck_chk cm_Fa_isSameArray = true := by decide +kernel
set_option maxRecDepth 20000 in
theorem ck_ok_Fa_isSameArray : ck_mok cm_Fa_isSameArray := ⟨ck_gw 566 (by decide +kernel) (by decide +kernel), ck_gw 63 (by decide +kernel) (by decide +kernel), by decide +kernel, ⟨by decide +kernel, by decide +kernel, by decide +kernel⟩, fun h => absurd h (by decide +kernel), fun _ => ⟨ck_gw 565 (by decide +kernel) (by decide +kernel), ck_gw 8 (by decide +kernel) (by decide +kernel), by decide +kernel⟩, by decide +kernel, cc_Fa_isSameArray⟩
set_option maxRecDepth 20000 in
theorem cc_Fa_useIndex : ck_chk cm_Fa_useIndex = true := by decide +kernel
set_option maxRecDepth 20000 in
theorem ck_ok_Fa_useIndex : ck_mok cm_Fa_useIndex := ⟨ck_gw 571 (by decide +kernel) (by decide +kernel), ck_gw 63 (by decide +kernel) (by decide +kernel), by decide +kernel, ⟨by decide +kernel, by decide +kernel, by decide +kernel⟩, fun h => absurd h (by decide +kernel), fun _ => ⟨ck_gw 569 (by decide +kernel) (by decide +kernel), ck_gw 570 (by decide +kernel) (by decide +kernel), by decide +kernel⟩, by decide +kernel, cc_Fa_useIndex⟩
set_option maxRecDepth 20000 in
theorem cc_Jm_max : ck_chk cm_Jm_max = true := by decide +kernel
set_option maxRecDepth 20000 in
theorem ck_ok_Jm_max : ck_mok cm_Jm_max := ⟨ck_gw 574 (by decide +kernel) (by decide +kernel), ck_gw 71 (by decide +kernel) (by decide +kernel), by decide +kernel, ⟨by decide +kernel, by decide +kernel, by decide +kernel⟩, fun _ => ck_gw 573 (by decide +kernel) (by decide +kernel), fun h => absurd h (by decide +kernel), by decide +kernel, cc_Jm_max⟩
set_option maxRecDepth 20000 in
theorem cc_Jm_min : ck_chk cm_Jm_min = true := by decide +kernel
set_option maxRecDepth 20000 in
theorem ck_ok_Jm_min : ck_mok cm_Jm_min := ⟨ck_gw 577 (by decide +kernel) (by decide +kernel), ck_gw 71 (by decide +kernel) (by decide +kernel), by decide +kernel, ⟨by decide +kernel, by decide +kernel, by decide +kernel⟩, fun _ => ck_gw 576 (by decide +kernel) (by decide +kernel), fun h => absurd h (by decide +kernel), by decide +kernel, cc_Jm_min⟩
set_option maxRecDepth 20000 in
theorem cc_Fa_setNew : ck_chk cm_Fa_setNew = true := by decide +kernel
set_option maxRecDepth 20000 in
theorem ck_ok_Fa_setNew : ck_mok cm_Fa_setNew := ⟨ck_gw 581 (by decide +kernel) (by decide +kernel), ck_gw 63 (by decide +kernel) (by decide +kernel), by decide +kernel, ⟨by decide +kernel, by decide +kernel, by decide +kernel⟩, fun h => absurd h (by decide +kernel), fun _ => ⟨ck_gw 579 (by decide +kernel) (by decide +kernel), ck_gw 580 (by decide +kernel) (by decide +kernel), by decide +kernel⟩, by decide +kernel, cc_Fa_setNew⟩
set_option maxRecDepth 20000 in
theorem cc_Fa_setArray : ck_chk cm_Fa_setArray = true := by decide +kernel
set_option maxRecDepth 20000 in
theorem ck_ok_Fa_setArray : ck_mok cm_Fa_setArray := ⟨ck_gw 586 (by decide +kernel) (by decide +kernel), ck_gw 63 (by decide +kernel) (by decide +kernel), by decide +kernel, ⟨by decide +kernel, by decide +kernel, by decide +kernel⟩, fun h => absurd h (by decide +kernel), fun _ => ⟨ck_gw 584 (by decide +kernel) (by decide +kernel), ck_gw 585 (by decide +kernel) (by decide +kernel), by decide +kernel⟩, by decide +kernel, cc_Fa_setArray⟩
set_option maxRecDepth 20000 in
theorem cc_Fa_assumeBelow : ck_chk cm_Fa_assumeBelow = true := by decide +kernel
set_option maxRecDepth 20000 in
theorem ck_ok_Fa_assumeBelow : ck_mok cm_Fa_assumeBelow := ⟨ck_gw 590 (by decide +kernel) (by decide +kernel), ck_gw 63 (by decide +kernel) (by decide +kernel), by decide +kernel, ⟨by decide +kernel, by decide +kernel, by decide +kernel⟩, fun h => absurd h (by decide +kernel), fun _ => ⟨ck_gw 588 (by decide +kernel) (by decide +kernel), ck_gw 589 (by decide +kernel) (by decide +kernel), by decide +kernel⟩, by decide +kernel, cc_Fa_assumeBelow⟩
set_option maxRecDepth 20000 in
theorem cc_Fi_takeOtherWay : ck_chk cm_Fi_takeOtherWay = true := by decide +kernel
set_option maxRecDepth 20000 in
theorem ck_ok_Fi_takeOtherWay : ck_mok cm_Fi_takeOtherWay := ⟨ck_gw 594 (by decide +kernel) (by decide +kernel), ck_gw 61 (by decide +kernel) (by decide +kernel), by decide +kernel, ⟨by decide +kernel, by decide +kernel, by decide +kernel⟩, fun h => absurd h (by decide +kernel), fun _ => ⟨ck_gw 593 (by decide +kernel) (by decide +kernel), ck_gw 9 (by decide +kernel) (by decide +kernel), by decide +kernel⟩, by decide +kernel, cc_Fi_takeOtherWay⟩
set_option maxRecDepth 20000 in
theorem cc_Fa_assumeNotBelow : ck_chk cm_Fa_assumeNotBelow = true := by decide +kernel
set_option maxRecDepth 20000 in
theorem ck_ok_Fa_assumeNotBelow : ck_mok cm_Fa_assumeNotBelow := ⟨ck_gw 598 (by decide +kernel) (by decide +kernel), ck_gw 63 (by decide +kernel) (by decide +kernel), by decide +kernel, ⟨by decide +kernel, by decide +kernel, by decide +kernel⟩, fun h => absurd h (by decide +kernel), fun _ => ⟨ck_gw 596 (by decide +kernel) (by decide +kernel), ck_gw 597 (by decide +kernel) (by decide +kernel), by decide +kernel⟩, by decide +kernel, cc_Fa_assumeNotBelow⟩
set_option maxRecDepth 20000 in
theorem cc_Fa_joinWays : ck_chk cm_Fa_joinWays = true := by decide +kernel
set_option maxRecDepth 20000 in
theorem ck_ok_Fa_joinWays : ck_mok cm_Fa_joinWays := ⟨ck_gw 602 (by decide +kernel) (by decide +kernel), ck_gw 63 (by decide +kernel) (by decide +kernel), by decide +kernel, ⟨by decide +kernel, by decide +kernel, by decide +kernel⟩, fun h => absurd h (by decide +kernel), fun _ => ⟨ck_gw 600 (by decide +kernel) (by decide +kernel), ck_gw 601 (by decide +kernel) (by decide +kernel), by decide +kernel⟩, by decide +kernel, cc_Fa_joinWays⟩
set_option maxRecDepth 20000 in
theorem cc_Fa_joinBounds : ck_chk cm_Fa_joinBounds = true := by decide +kernel
set_option maxRecDepth 20000 in
theorem ck_ok_Fa_joinBounds : ck_mok cm_Fa_joinBounds := ⟨ck_gw 606 (by decide +kernel) (by decide +kernel), ck_gw 63 (by decide +kernel) (by decide +kernel), by decide +kernel, ⟨by decide +kernel, by decide +kernel, by decide +kernel⟩, fun h => absurd h (by decide +kernel), fun _ => ⟨ck_gw 604 (by decide +kernel) (by decide +kernel), ck_gw 605 (by decide +kernel) (by decide +kernel), by decide +kernel⟩, by decide +kernel, cc_Fa_joinBounds⟩
set_option maxRecDepth 20000 in
theorem cc_Fa_setJoinedValue : ck_chk cm_Fa_setJoinedValue = true := by decide +kernel
set_option maxRecDepth 20000 in
theorem ck_ok_Fa_setJoinedValue : ck_mok cm_Fa_setJoinedValue := ⟨ck_gw 610 (by decide +kernel) (by decide +kernel), ck_gw 63 (by decide +kernel) (by decide +kernel), by decide +kernel, ⟨by decide +kernel, by decide +kernel, by decide +kernel⟩, fun h => absurd h (by decide +kernel), fun _ => ⟨ck_gw 609 (by decide +kernel) (by decide +kernel), ck_gw 10 (by decide +kernel) (by decide +kernel), by decide +kernel⟩, by decide +kernel, cc_Fa_setJoinedValue⟩
end
section
set_option maxRecDepth 20000 in
theorem cc_Fi_joinWhile : ck_chk cm_Fi_joinWhile = true := by decide +kernel
set_option maxRecDepth 20000 in
theorem ck_ok_Fi_joinWhile : ck_mok cm_Fi_joinWhile := ⟨ck_gw 614 (by decide +kernel) (by decide +kernel), ck_gw 61 (by decide +kernel) (by decide +kernel), by decide +kernel, ⟨by decide +kernel, by decide +kernel, by decide +kernel⟩, fun h => absurd h (by decide +kernel), fun _ => ⟨ck_gw 613 (by decide +kernel) (by decide +kernel), ck_gw 11 (by decide +kernel) (by decide +kernel), by decide +kernel⟩, by decide +kernel, cc_Fi_joinWhile⟩
set_option maxRecDepth 20000 in
theorem cc_Fa_forgetChanged : ck_chk cm_Fa_forgetChanged = true := by decide +kernel
set_option maxRecDepth 20000 in
theorem ck_ok_Fa_forgetChanged : ck_mok cm_Fa_forgetChanged := ⟨ck_gw 619 (by decide +kernel) (by decide +kernel), ck_gw 63 (by decide +kernel) (by decide +kernel), by decide +kernel, ⟨by decide +kernel, by decide +kernel, by decide +kernel⟩, fun h => absurd h (by decide +kernel), fun _ => ⟨ck_gw 617 (by decide +kernel) (by decide +kernel), ck_gw 618 (by decide +kernel) (by decide +kernel), by decide +kernel⟩, by decide +kernel, cc_Fa_forgetChanged⟩
set_option maxRecDepth 20000 in
theorem cc_Fa_hasSameBounds : ck_chk cm_Fa_hasSameBounds = true := by decide +kernel
set_option maxRecDepth 20000 in
theorem ck_ok_Fa_hasSameBounds : ck_mok cm_Fa_hasSameBounds := ⟨ck_gw 623 (by decide +kernel) (by decide +kernel), ck_gw 63 (by decide +kernel) (by decide +kernel), by decide +kernel, ⟨by decide +kernel, by decide +kernel, by decide +kernel⟩, fun h => absurd h (by decide +kernel), fun _ => ⟨ck_gw 621 (by decide +kernel) (by decide +kernel), ck_gw 622 (by decide +kernel) (by decide +kernel), by decide +kernel⟩, by decide +kernel, cc_Fa_hasSameBounds⟩
set_option maxRecDepth 20000 in
theorem cc_Fi_passOn : ck_chk cm_Fi_passOn = true := by decide +kernel
set_option maxRecDepth 20000 in
theorem ck_ok_Fi_passOn : ck_mok cm_Fi_passOn := ⟨ck_gw 627 (by decide +kernel) (by decide +kernel), ck_gw 61 (by decide +kernel) (by decide +kernel), by decide +kernel, ⟨by decide +kernel, by decide +kernel, by decide +kernel⟩, fun h => absurd h (by decide +kernel), fun _ => ⟨ck_gw 626 (by decide +kernel) (by decide +kernel), ck_gw 12 (by decide +kernel) (by decide +kernel), by decide +kernel⟩, by decide +kernel, cc_Fi_passOn⟩
set_option maxRecDepth 20000 in
theorem cc_Fi_findNeedless : ck_chk cm_Fi_findNeedless = true := by decide +kernel
set_option maxRecDepth 20000 in
theorem ck_ok_Fi_findNeedless : ck_mok cm_Fi_findNeedless := ⟨ck_gw 631 (by decide +kernel) (by decide +kernel), ck_gw 61 (by decide +kernel) (by decide +kernel), by decide +kernel, ⟨by decide +kernel, by decide +kernel, by decide +kernel⟩, fun h => absurd h (by decide +kernel), fun _ => ⟨ck_gw 630 (by decide +kernel) (by decide +kernel), ck_gw 13 (by decide +kernel) (by decide +kernel), by decide +kernel⟩, by decide +kernel, cc_Fi_findNeedless⟩
set_option maxRecDepth 20000 in
theorem cc_Fi_findNeedlessOfIndex : ck_chk cm_Fi_findNeedlessOfIndex = true := by decide +kernel
set_option maxRecDepth 20000 in
theorem ck_ok_Fi_findNeedlessOfIndex : ck_mok cm_Fi_findNeedlessOfIndex := ⟨ck_gw 634 (by decide +kernel) (by decide +kernel), ck_gw 61 (by decide +kernel) (by decide +kernel), by decide +kernel, ⟨by decide +kernel, by decide +kernel, by decide +kernel⟩, fun _ => ck_gw 633 (by decide +kernel) (by decide +kernel), fun h => absurd h (by decide +kernel), by decide +kernel, cc_Fi_findNeedlessOfIndex⟩
set_option maxRecDepth 20000 in
theorem cc_Ma_begin : ck_chk cm_Ma_begin = true := by decide +kernel
set_option maxRecDepth 20000 in
theorem ck_ok_Ma_begin : ck_mok cm_Ma_begin := ⟨ck_gw 638 (by decide +kernel) (by decide +kernel), ck_gw 59 (by decide +kernel) (by decide +kernel), by decide +kernel, ⟨by decide +kernel, by decide +kernel, by decide +kernel⟩, fun h => absurd h (by decide +kernel), fun _ => ⟨ck_gw 636 (by decide +kernel) (by decide +kernel), ck_gw 637 (by decide +kernel) (by decide +kernel), by decide +kernel⟩, by decide +kernel, cc_Ma_begin⟩
set_option maxRecDepth 20000 in
theorem cc_Fi_countNeedless : ck_chk cm_Fi_countNeedless = true := by decide +kernel
set_option maxRecDepth 20000 in
theorem ck_ok_Fi_countNeedless : ck_mok cm_Fi_countNeedless := ⟨ck_gw 642 (by decide +kernel) (by decide +kernel), ck_gw 61 (by decide +kernel) (by decide +kernel), by decide +kernel, ⟨by decide +kernel, by decide +kernel, by decide +kernel⟩, fun h => absurd h (by decide +kernel), fun _ => ⟨ck_gw 640 (by decide +kernel) (by decide +kernel), ck_gw 641 (by decide +kernel) (by decide +kernel), by decide +kernel⟩, by decide +kernel, cc_Fi_countNeedless⟩
set_option maxRecDepth 20000 in
theorem cc_Ji_bitCount : ck_chk cm_Ji_bitCount = true := by decide +kernel
set_option maxRecDepth 20000 in
theorem ck_ok_Ji_bitCount : ck_mok cm_Ji_bitCount := ⟨ck_gw 645 (by decide +kernel) (by decide +kernel), ck_gw 72 (by decide +kernel) (by decide +kernel), by decide +kernel, ⟨by decide +kernel, by decide +kernel, by decide +kernel⟩, fun _ => ck_gw 644 (by decide +kernel) (by decide +kernel), fun h => absurd h (by decide +kernel), by decide +kernel, cc_Ji_bitCount⟩
set_option maxRecDepth 20000 in
theorem cc_Cs_needless : ck_chk cm_Cs_needless = true := by decide +kernel
set_option maxRecDepth 20000 in
theorem ck_ok_Cs_needless : ck_mok cm_Cs_needless := ⟨ck_gw 656 (by decide +kernel) (by decide +kernel), ck_gw 58 (by decide +kernel) (by decide +kernel), by decide +kernel, ⟨by decide +kernel, by decide +kernel, by decide +kernel⟩, fun h => absurd h (by decide +kernel), fun _ => ⟨ck_gw 654 (by decide +kernel) (by decide +kernel), ck_gw 655 (by decide +kernel) (by decide +kernel), by decide +kernel⟩, by decide +kernel, cc_Cs_needless⟩
set_option maxRecDepth 20000 in
theorem cc_Cs_requireStatement : ck_chk cm_Cs_requireStatement = true := by decide +kernel
set_option maxRecDepth 20000 in
theorem ck_ok_Cs_requireStatement : ck_mok cm_Cs_requireStatement := ⟨ck_gw 660 (by decide +kernel) (by decide +kernel), ck_gw 58 (by decide +kernel) (by decide +kernel), by decide +kernel, ⟨by decide +kernel, by decide +kernel, by decide +kernel⟩, fun h => absurd h (by decide +kernel), fun _ => ⟨ck_gw 659 (by decide +kernel) (by decide +kernel), ck_gw 14 (by decide +kernel) (by decide +kernel), by decide +kernel⟩, by decide +kernel, cc_Cs_requireStatement⟩
set_option maxRecDepth 20000 in
theorem cc_Cs_requireIndex : ck_chk cm_Cs_requireIndex = true := by decide +kernel
set_option maxRecDepth 20000 in
theorem ck_ok_Cs_requireIndex : ck_mok cm_Cs_requireIndex := ⟨ck_gw 663 (by decide +kernel) (by decide +kernel), ck_gw 58 (by decide +kernel) (by decide +kernel), by decide +kernel, ⟨by decide +kernel, by decide +kernel, by decide +kernel⟩, fun _ => ck_gw 662 (by decide +kernel) (by decide +kernel), fun h => absurd h (by decide +kernel), by decide +kernel, cc_Cs_requireIndex⟩
set_option maxRecDepth 20000 in
theorem cc_Cs_least : ck_chk cm_Cs_least = true := by decide +kernel
set_option maxRecDepth 20000 in
theorem ck_ok_Cs_least : ck_mok cm_Cs_least := ⟨ck_gw 685 (by decide +kernel) (by decide +kernel), ck_gw 58 (by decide +kernel) (by decide +kernel), by decide +kernel, ⟨by decide +kernel, by decide +kernel, by decide +kernel⟩, fun h => absurd h (by decide +kernel), fun _ => ⟨ck_gw 683 (by decide +kernel) (by decide +kernel), ck_gw 684 (by decide +kernel) (by decide +kernel), by decide +kernel⟩, by decide +kernel, cc_Cs_least⟩
set_option maxRecDepth 20000 in
theorem cc_Cs_highest : ck_chk cm_Cs_highest = true := by decide +kernel
set_option maxRecDepth 20000 in
theorem ck_ok_Cs_highest : ck_mok cm_Cs_highest := ⟨ck_gw 693 (by decide +kernel) (by decide +kernel), ck_gw 58 (by decide +kernel) (by decide +kernel), by decide +kernel, ⟨by decide +kernel, by decide +kernel, by decide +kernel⟩, fun h => absurd h (by decide +kernel), fun _ => ⟨ck_gw 691 (by decide +kernel) (by decide +kernel), ck_gw 692 (by decide +kernel) (by decide +kernel), by decide +kernel⟩, by decide +kernel, cc_Cs_highest⟩
set_option maxRecDepth 20000 in
theorem cc_Cs_run : ck_chk cm_Cs_run = true := by decide +kernel
set_option maxRecDepth 20000 in
theorem ck_ok_Cs_run : ck_mok cm_Cs_run := ⟨ck_gw 700 (by decide +kernel) (by decide +kernel), ck_gw 58 (by decide +kernel) (by decide +kernel), by decide +kernel, ⟨by decide +kernel, by decide +kernel, by decide +kernel⟩, fun h => absurd h (by decide +kernel), fun _ => ⟨ck_gw 698 (by decide +kernel) (by decide +kernel), ck_gw 699 (by decide +kernel) (by decide +kernel), by decide +kernel⟩, by decide +kernel, cc_Cs_run⟩
set_option maxRecDepth 20000 in
theorem cc_Ma_advance : ck_chk cm_Ma_advance = true := by decide +kernel
set_option maxRecDepth 20000 in
theorem ck_ok_Ma_advance : ck_mok cm_Ma_advance := ⟨ck_gw 704 (by decide +kernel) (by decide +kernel), ck_gw 59 (by decide +kernel) (by decide +kernel), by decide +kernel, ⟨by decide +kernel, by decide +kernel, by decide +kernel⟩, fun h => absurd h (by decide +kernel), fun _ => ⟨ck_gw 702 (by decide +kernel) (by decide +kernel), ck_gw 703 (by decide +kernel) (by decide +kernel), by decide +kernel⟩, by decide +kernel, cc_Ma_advance⟩
set_option maxRecDepth 20000 in
theorem cc_Ma_perform : ck_chk cm_Ma_perform = true := by decide +kernel
set_option maxRecDepth 20000 in
theorem ck_ok_Ma_perform : ck_mok cm_Ma_perform := ⟨ck_gw 708 (by decide +kernel) (by decide +kernel), ck_gw 59 (by decide +kernel) (by decide +kernel), by decide +kernel, ⟨by decide +kernel, by decide +kernel, by decide +kernel⟩, fun h => absurd h (by decide +kernel), fun _ => ⟨ck_gw 707 (by decide +kernel) (by decide +kernel), ck_gw 15 (by decide +kernel) (by decide +kernel), by decide +kernel⟩, by decide +kernel, cc_Ma_perform⟩
set_option maxRecDepth 20000 in
theorem cc_Ma_isBelow : ck_chk cm_Ma_isBelow = true := by decide +kernel
set_option maxRecDepth 20000 in
theorem ck_ok_Ma_isBelow : ck_mok cm_Ma_isBelow := ⟨ck_gw 712 (by decide +kernel) (by decide +kernel), ck_gw 59 (by decide +kernel) (by decide +kernel), by decide +kernel, ⟨by decide +kernel, by decide +kernel, by decide +kernel⟩, fun h => absurd h (by decide +kernel), fun _ => ⟨ck_gw 711 (by decide +kernel) (by decide +kernel), ck_gw 16 (by decide +kernel) (by decide +kernel), by decide +kernel⟩, by decide +kernel, cc_Ma_isBelow⟩
set_option maxRecDepth 20000 in
theorem cc_Ma_sumOrStop : ck_chk cm_Ma_sumOrStop = true := by decide +kernel
set_option maxRecDepth 20000 in
theorem ck_ok_Ma_sumOrStop : ck_mok cm_Ma_sumOrStop := ⟨ck_gw 716 (by decide +kernel) (by decide +kernel), ck_gw 59 (by decide +kernel) (by decide +kernel), by decide +kernel, ⟨by decide +kernel, by decide +kernel, by decide +kernel⟩, fun h => absurd h (by decide +kernel), fun _ => ⟨ck_gw 715 (by decide +kernel) (by decide +kernel), ck_gw 17 (by decide +kernel) (by decide +kernel), by decide +kernel⟩, by decide +kernel, cc_Ma_sumOrStop⟩
set_option maxRecDepth 20000 in
theorem cc_Ma_behindFailedIf : ck_chk cm_Ma_behindFailedIf = true := by decide +kernel
set_option maxRecDepth 20000 in
theorem ck_ok_Ma_behindFailedIf : ck_mok cm_Ma_behindFailedIf := ⟨ck_gw 722 (by decide +kernel) (by decide +kernel), ck_gw 59 (by decide +kernel) (by decide +kernel), by decide +kernel, ⟨by decide +kernel, by decide +kernel, by decide +kernel⟩, fun h => absurd h (by decide +kernel), fun _ => ⟨ck_gw 721 (by decide +kernel) (by decide +kernel), ck_gw 18 (by decide +kernel) (by decide +kernel), by decide +kernel⟩, by decide +kernel, cc_Ma_behindFailedIf⟩
set_option maxRecDepth 20000 in
theorem cc_Ma_performPlain : ck_chk cm_Ma_performPlain = true := by decide +kernel
set_option maxRecDepth 20000 in
theorem ck_ok_Ma_performPlain : ck_mok cm_Ma_performPlain := ⟨ck_gw 726 (by decide +kernel) (by decide +kernel), ck_gw 59 (by decide +kernel) (by decide +kernel), by decide +kernel, ⟨by decide +kernel, by decide +kernel, by decide +kernel⟩, fun h => absurd h (by decide +kernel), fun _ => ⟨ck_gw 725 (by decide +kernel) (by decide +kernel), ck_gw 19 (by decide +kernel) (by decide +kernel), by decide +kernel⟩, by decide +kernel, cc_Ma_performPlain⟩
set_option maxRecDepth 20000 in
theorem cc_Ma_add : ck_chk cm_Ma_add = true := by decide +kernel
set_option maxRecDepth 20000 in
theorem ck_ok_Ma_add : ck_mok cm_Ma_add := ⟨ck_gw 730 (by decide +kernel) (by decide +kernel), ck_gw 59 (by decide +kernel) (by decide +kernel), by decide +kernel, ⟨by decide +kernel, by decide +kernel, by decide +kernel⟩, fun h => absurd h (by decide +kernel), fun _ => ⟨ck_gw 729 (by decide +kernel) (by decide +kernel), ck_gw 20 (by decide +kernel) (by decide +kernel), by decide +kernel⟩, by decide +kernel, cc_Ma_add⟩
set_option maxRecDepth 20000 in
theorem cc_In_takeNext : ck_chk cm_In_takeNext = true := by decide +kernel
set_option maxRecDepth 20000 in
theorem ck_ok_In_takeNext : ck_mok cm_In_takeNext := ⟨ck_gw 734 (by decide +kernel) (by decide +kernel), ck_gw 60 (by decide +kernel) (by decide +kernel), by decide +kernel, ⟨by decide +kernel, by decide +kernel, by decide +kernel⟩, fun h => absurd h (by decide +kernel), fun _ => ⟨ck_gw 732 (by decide +kernel) (by decide +kernel), ck_gw 733 (by decide +kernel) (by decide +kernel), by decide +kernel⟩, by decide +kernel, cc_In_takeNext⟩
set_option maxRecDepth 20000 in
theorem cc_Ma_passes : ck_chk cm_Ma_passes = true := by decide +kernel
set_option maxRecDepth 20000 in
theorem ck_ok_Ma_passes : ck_mok cm_Ma_passes := ⟨ck_gw 738 (by decide +kernel) (by decide +kernel), ck_gw 59 (by decide +kernel) (by decide +kernel), by decide +kernel, ⟨by decide +kernel, by decide +kernel, by decide +kernel⟩, fun h => absurd h (by decide +kernel), fun _ => ⟨ck_gw 737 (by decide +kernel) (by decide +kernel), ck_gw 21 (by decide +kernel) (by decide +kernel), by decide +kernel⟩, by decide +kernel, cc_Ma_passes⟩
set_option maxRecDepth 20000 in
theorem cc_Ma_passesAll : ck_chk cm_Ma_passesAll = true := by decide +kernel
set_option maxRecDepth 20000 in
theorem ck_ok_Ma_passesAll : ck_mok cm_Ma_passesAll := ⟨ck_gw 742 (by decide +kernel) (by decide +kernel), ck_gw 59 (by decide +kernel) (by decide +kernel), by decide +kernel, ⟨by decide +kernel, by decide +kernel, by decide +kernel⟩, fun h => absurd h (by decide +kernel), fun _ => ⟨ck_gw 741 (by decide +kernel) (by decide +kernel), ck_gw 22 (by decide +kernel) (by decide +kernel), by decide +kernel⟩, by decide +kernel, cc_Ma_passesAll⟩
set_option maxRecDepth 20000 in
theorem cc_Ma_store : ck_chk cm_Ma_store = true := by decide +kernel
set_option maxRecDepth 20000 in
theorem ck_ok_Ma_store : ck_mok cm_Ma_store := ⟨ck_gw 747 (by decide +kernel) (by decide +kernel), ck_gw 59 (by decide +kernel) (by decide +kernel), by decide +kernel, ⟨by decide +kernel, by decide +kernel, by decide +kernel⟩, fun h => absurd h (by decide +kernel), fun _ => ⟨ck_gw 746 (by decide +kernel) (by decide +kernel), ck_gw 23 (by decide +kernel) (by decide +kernel), by decide +kernel⟩, by decide +kernel, cc_Ma_store⟩
set_option maxRecDepth 20000 in
theorem cc_Ma_makeArray : ck_chk cm_Ma_makeArray = true := by decide +kernel
set_option maxRecDepth 20000 in
theorem ck_ok_Ma_makeArray : ck_mok cm_Ma_makeArray := ⟨ck_gw 751 (by decide +kernel) (by decide +kernel), ck_gw 59 (by decide +kernel) (by decide +kernel), by decide +kernel, ⟨by decide +kernel, by decide +kernel, by decide +kernel⟩, fun h => absurd h (by decide +kernel), fun _ => ⟨ck_gw 750 (by decide +kernel) (by decide +kernel), ck_gw 24 (by decide +kernel) (by decide +kernel), by decide +kernel⟩, by decide +kernel, cc_Ma_makeArray⟩
end
section
set_option maxRecDepth 20000 in
theorem cc_Mo_thrown : ck_chk cm_Mo_thrown = true := by decide +kernel
set_option maxRecDepth 20000 in
theorem ck_ok_Mo_thrown : ck_mok cm_Mo_thrown := ⟨ck_gw 858 (by decide +kernel) (by decide +kernel), ck_gw 64 (by decide +kernel) (by decide +kernel), by decide +kernel, ⟨by decide +kernel, by decide +kernel, by decide +kernel⟩, fun h => absurd h (by decide +kernel), fun _ => ⟨ck_gw 856 (by decide +kernel) (by decide +kernel), ck_gw 857 (by decide +kernel) (by decide +kernel), by decide +kernel⟩, by decide +kernel, cc_Mo_thrown⟩
set_option maxRecDepth 20000 in
theorem cc_Mo_put : ck_chk cm_Mo_put = true := by decide +kernel
set_option maxRecDepth 20000 in
theorem ck_ok_Mo_put : ck_mok cm_Mo_put := ⟨ck_gw 862 (by decide +kernel) (by decide +kernel), ck_gw 64 (by decide +kernel) (by decide +kernel), by decide +kernel, ⟨by decide +kernel, by decide +kernel, by decide +kernel⟩, fun h => absurd h (by decide +kernel), fun _ => ⟨ck_gw 860 (by decide +kernel) (by decide +kernel), ck_gw 861 (by decide +kernel) (by decide +kernel), by decide +kernel⟩, by decide +kernel, cc_Mo_put⟩
set_option maxRecDepth 20000 in
theorem cc_Mo_isSaid : ck_chk cm_Mo_isSaid = true := by decide +kernel
set_option maxRecDepth 20000 in
theorem ck_ok_Mo_isSaid : ck_mok cm_Mo_isSaid := ⟨ck_gw 866 (by decide +kernel) (by decide +kernel), ck_gw 64 (by decide +kernel) (by decide +kernel), by decide +kernel, ⟨by decide +kernel, by decide +kernel, by decide +kernel⟩, fun h => absurd h (by decide +kernel), fun _ => ⟨ck_gw 865 (by decide +kernel) (by decide +kernel), ck_gw 25 (by decide +kernel) (by decide +kernel), by decide +kernel⟩, by decide +kernel, cc_Mo_isSaid⟩
set_option maxRecDepth 20000 in
theorem cc_Mo_in : ck_chk cm_Mo_in = true := by decide +kernel
set_option maxRecDepth 20000 in
theorem ck_ok_Mo_in : ck_mok cm_Mo_in := ⟨ck_gw 869 (by decide +kernel) (by decide +kernel), ck_gw 64 (by decide +kernel) (by decide +kernel), by decide +kernel, ⟨by decide +kernel, by decide +kernel, by decide +kernel⟩, fun _ => ck_gw 868 (by decide +kernel) (by decide +kernel), fun h => absurd h (by decide +kernel), by decide +kernel, cc_Mo_in⟩
set_option maxRecDepth 20000 in
theorem cc_Mo_fails : ck_chk cm_Mo_fails = true := by decide +kernel
set_option maxRecDepth 20000 in
theorem ck_ok_Mo_fails : ck_mok cm_Mo_fails := ⟨ck_gw 873 (by decide +kernel) (by decide +kernel), ck_gw 64 (by decide +kernel) (by decide +kernel), by decide +kernel, ⟨by decide +kernel, by decide +kernel, by decide +kernel⟩, fun h => absurd h (by decide +kernel), fun _ => ⟨ck_gw 872 (by decide +kernel) (by decide +kernel), ck_gw 26 (by decide +kernel) (by decide +kernel), by decide +kernel⟩, by decide +kernel, cc_Mo_fails⟩
set_option maxRecDepth 20000 in
theorem cc_Mo_clear : ck_chk cm_Mo_clear = true := by decide +kernel
set_option maxRecDepth 20000 in
theorem ck_ok_Mo_clear : ck_mok cm_Mo_clear := ⟨ck_gw 877 (by decide +kernel) (by decide +kernel), ck_gw 64 (by decide +kernel) (by decide +kernel), by decide +kernel, ⟨by decide +kernel, by decide +kernel, by decide +kernel⟩, fun h => absurd h (by decide +kernel), fun _ => ⟨ck_gw 875 (by decide +kernel) (by decide +kernel), ck_gw 876 (by decide +kernel) (by decide +kernel), by decide +kernel⟩, by decide +kernel, cc_Mo_clear⟩
set_option maxRecDepth 20000 in
theorem cc_Mo_give : ck_chk cm_Mo_give = true := by decide +kernel
set_option maxRecDepth 20000 in
theorem ck_ok_Mo_give : ck_mok cm_Mo_give := ⟨ck_gw 881 (by decide +kernel) (by decide +kernel), ck_gw 64 (by decide +kernel) (by decide +kernel), by decide +kernel, ⟨by decide +kernel, by decide +kernel, by decide +kernel⟩, fun h => absurd h (by decide +kernel), fun _ => ⟨ck_gw 879 (by decide +kernel) (by decide +kernel), ck_gw 880 (by decide +kernel) (by decide +kernel), by decide +kernel⟩, by decide +kernel, cc_Mo_give⟩
set_option maxRecDepth 20000 in
theorem cc_Mo_start : ck_chk cm_Mo_start = true := by decide +kernel
set_option maxRecDepth 20000 in
theorem ck_ok_Mo_start : ck_mok cm_Mo_start := ⟨ck_gw 887 (by decide +kernel) (by decide +kernel), ck_gw 64 (by decide +kernel) (by decide +kernel), by decide +kernel, ⟨by decide +kernel, by decide +kernel, by decide +kernel⟩, fun h => absurd h (by decide +kernel), fun _ => ⟨ck_gw 885 (by decide +kernel) (by decide +kernel), ck_gw 886 (by decide +kernel) (by decide +kernel), by decide +kernel⟩, by decide +kernel, cc_Mo_start⟩
set_option maxRecDepth 20000 in
theorem cc_Mo_pass : ck_chk cm_Mo_pass = true := by decide +kernel
set_option maxRecDepth 20000 in
theorem ck_ok_Mo_pass : ck_mok cm_Mo_pass := ⟨ck_gw 891 (by decide +kernel) (by decide +kernel), ck_gw 64 (by decide +kernel) (by decide +kernel), by decide +kernel, ⟨by decide +kernel, by decide +kernel, by decide +kernel⟩, fun h => absurd h (by decide +kernel), fun _ => ⟨ck_gw 890 (by decide +kernel) (by decide +kernel), ck_gw 27 (by decide +kernel) (by decide +kernel), by decide +kernel⟩, by decide +kernel, cc_Mo_pass⟩
set_option maxRecDepth 20000 in
theorem cc_Mo_nothing : ck_chk cm_Mo_nothing = true := by decide +kernel
set_option maxRecDepth 20000 in
theorem ck_ok_Mo_nothing : ck_mok cm_Mo_nothing := ⟨ck_gw 895 (by decide +kernel) (by decide +kernel), ck_gw 64 (by decide +kernel) (by decide +kernel), by decide +kernel, ⟨by decide +kernel, by decide +kernel, by decide +kernel⟩, fun h => absurd h (by decide +kernel), fun _ => ⟨ck_gw 894 (by decide +kernel) (by decide +kernel), ck_gw 28 (by decide +kernel) (by decide +kernel), by decide +kernel⟩, by decide +kernel, cc_Mo_nothing⟩
set_option maxRecDepth 20000 in
theorem cc_Mo_loosen : ck_chk cm_Mo_loosen = true := by decide +kernel
set_option maxRecDepth 20000 in
theorem ck_ok_Mo_loosen : ck_mok cm_Mo_loosen := ⟨ck_gw 900 (by decide +kernel) (by decide +kernel), ck_gw 64 (by decide +kernel) (by decide +kernel), by decide +kernel, ⟨by decide +kernel, by decide +kernel, by decide +kernel⟩, fun h => absurd h (by decide +kernel), fun _ => ⟨ck_gw 899 (by decide +kernel) (by decide +kernel), ck_gw 29 (by decide +kernel) (by decide +kernel), by decide +kernel⟩, by decide +kernel, cc_Mo_loosen⟩
set_option maxRecDepth 20000 in
theorem cc_Mo_joinBack : ck_chk cm_Mo_joinBack = true := by decide +kernel
set_option maxRecDepth 20000 in
theorem ck_ok_Mo_joinBack : ck_mok cm_Mo_joinBack := ⟨ck_gw 904 (by decide +kernel) (by decide +kernel), ck_gw 64 (by decide +kernel) (by decide +kernel), by decide +kernel, ⟨by decide +kernel, by decide +kernel, by decide +kernel⟩, fun h => absurd h (by decide +kernel), fun _ => ⟨ck_gw 903 (by decide +kernel) (by decide +kernel), ck_gw 30 (by decide +kernel) (by decide +kernel), by decide +kernel⟩, by decide +kernel, cc_Mo_joinBack⟩
set_option maxRecDepth 20000 in
theorem cc_Mo_join : ck_chk cm_Mo_join = true := by decide +kernel
set_option maxRecDepth 20000 in
theorem ck_ok_Mo_join : ck_mok cm_Mo_join := ⟨ck_gw 908 (by decide +kernel) (by decide +kernel), ck_gw 64 (by decide +kernel) (by decide +kernel), by decide +kernel, ⟨by decide +kernel, by decide +kernel, by decide +kernel⟩, fun h => absurd h (by decide +kernel), fun _ => ⟨ck_gw 907 (by decide +kernel) (by decide +kernel), ck_gw 31 (by decide +kernel) (by decide +kernel), by decide +kernel⟩, by decide +kernel, cc_Mo_join⟩
set_option maxRecDepth 20000 in
theorem cc_Mo_worst : ck_chk cm_Mo_worst = true := by decide +kernel
set_option maxRecDepth 20000 in
theorem ck_ok_Mo_worst : ck_mok cm_Mo_worst := ⟨ck_gw 911 (by decide +kernel) (by decide +kernel), ck_gw 64 (by decide +kernel) (by decide +kernel), by decide +kernel, ⟨by decide +kernel, by decide +kernel, by decide +kernel⟩, fun _ => ck_gw 910 (by decide +kernel) (by decide +kernel), fun h => absurd h (by decide +kernel), by decide +kernel, cc_Mo_worst⟩
set_option maxRecDepth 20000 in
theorem cc_Mo_tell : ck_chk cm_Mo_tell = true := by decide +kernel
set_option maxRecDepth 20000 in
theorem ck_ok_Mo_tell : ck_mok cm_Mo_tell := ⟨ck_gw 915 (by decide +kernel) (by decide +kernel), ck_gw 64 (by decide +kernel) (by decide +kernel), by decide +kernel, ⟨by decide +kernel, by decide +kernel, by decide +kernel⟩, fun h => absurd h (by decide +kernel), fun _ => ⟨ck_gw 914 (by decide +kernel) (by decide +kernel), ck_gw 32 (by decide +kernel) (by decide +kernel), by decide +kernel⟩, by decide +kernel, cc_Mo_tell⟩
set_option maxRecDepth 20000 in
theorem cc_Mo_keep : ck_chk cm_Mo_keep = true := by decide +kernel
set_option maxRecDepth 20000 in
theorem ck_ok_Mo_keep : ck_mok cm_Mo_keep := ⟨ck_gw 919 (by decide +kernel) (by decide +kernel), ck_gw 64 (by decide +kernel) (by decide +kernel), by decide +kernel, ⟨by decide +kernel, by decide +kernel, by decide +kernel⟩, fun h => absurd h (by decide +kernel), fun _ => ⟨ck_gw 918 (by decide +kernel) (by decide +kernel), ck_gw 33 (by decide +kernel) (by decide +kernel), by decide +kernel⟩, by decide +kernel, cc_Mo_keep⟩
set_option maxRecDepth 20000 in
theorem cc_Mo_branch : ck_chk cm_Mo_branch = true := by decide +kernel
set_option maxRecDepth 20000 in
theorem ck_ok_Mo_branch : ck_mok cm_Mo_branch := ⟨ck_gw 923 (by decide +kernel) (by decide +kernel), ck_gw 64 (by decide +kernel) (by decide +kernel), by decide +kernel, ⟨by decide +kernel, by decide +kernel, by decide +kernel⟩, fun h => absurd h (by decide +kernel), fun _ => ⟨ck_gw 922 (by decide +kernel) (by decide +kernel), ck_gw 34 (by decide +kernel) (by decide +kernel), by decide +kernel⟩, by decide +kernel, cc_Mo_branch⟩
set_option maxRecDepth 20000 in
theorem cc_Mo_leastMore : ck_chk cm_Mo_leastMore = true := by decide +kernel
set_option maxRecDepth 20000 in
theorem ck_ok_Mo_leastMore : ck_mok cm_Mo_leastMore := ⟨ck_gw 926 (by decide +kernel) (by decide +kernel), ck_gw 64 (by decide +kernel) (by decide +kernel), by decide +kernel, ⟨by decide +kernel, by decide +kernel, by decide +kernel⟩, fun _ => ck_gw 925 (by decide +kernel) (by decide +kernel), fun h => absurd h (by decide +kernel), by decide +kernel, cc_Mo_leastMore⟩
set_option maxRecDepth 20000 in
theorem cc_Mo_leastOf : ck_chk cm_Mo_leastOf = true := by decide +kernel
set_option maxRecDepth 20000 in
theorem ck_ok_Mo_leastOf : ck_mok cm_Mo_leastOf := ⟨ck_gw 929 (by decide +kernel) (by decide +kernel), ck_gw 64 (by decide +kernel) (by decide +kernel), by decide +kernel, ⟨by decide +kernel, by decide +kernel, by decide +kernel⟩, fun _ => ck_gw 928 (by decide +kernel) (by decide +kernel), fun h => absurd h (by decide +kernel), by decide +kernel, cc_Mo_leastOf⟩
set_option maxRecDepth 20000 in
theorem cc_Mo_greater : ck_chk cm_Mo_greater = true := by decide +kernel
set_option maxRecDepth 20000 in
theorem ck_ok_Mo_greater : ck_mok cm_Mo_greater := ⟨ck_gw 932 (by decide +kernel) (by decide +kernel), ck_gw 64 (by decide +kernel) (by decide +kernel), by decide +kernel, ⟨by decide +kernel, by decide +kernel, by decide +kernel⟩, fun _ => ck_gw 931 (by decide +kernel) (by decide +kernel), fun h => absurd h (by decide +kernel), by decide +kernel, cc_Mo_greater⟩
set_option maxRecDepth 20000 in
theorem cc_Mo_against : ck_chk cm_Mo_against = true := by decide +kernel
set_option maxRecDepth 20000 in
theorem ck_ok_Mo_against : ck_mok cm_Mo_against := ⟨ck_gw 936 (by decide +kernel) (by decide +kernel), ck_gw 64 (by decide +kernel) (by decide +kernel), by decide +kernel, ⟨by decide +kernel, by decide +kernel, by decide +kernel⟩, fun h => absurd h (by decide +kernel), fun _ => ⟨ck_gw 935 (by decide +kernel) (by decide +kernel), ck_gw 35 (by decide +kernel) (by decide +kernel), by decide +kernel⟩, by decide +kernel, cc_Mo_against⟩
set_option maxRecDepth 20000 in
theorem cc_Mo_high : ck_chk cm_Mo_high = true := by decide +kernel
set_option maxRecDepth 20000 in
theorem ck_ok_Mo_high : ck_mok cm_Mo_high := ⟨ck_gw 939 (by decide +kernel) (by decide +kernel), ck_gw 64 (by decide +kernel) (by decide +kernel), by decide +kernel, ⟨by decide +kernel, by decide +kernel, by decide +kernel⟩, fun _ => ck_gw 938 (by decide +kernel) (by decide +kernel), fun h => absurd h (by decide +kernel), by decide +kernel, cc_Mo_high⟩
set_option maxRecDepth 20000 in
theorem cc_Mo_highMore : ck_chk cm_Mo_highMore = true := by decide +kernel
set_option maxRecDepth 20000 in
theorem ck_ok_Mo_highMore : ck_mok cm_Mo_highMore := ⟨ck_gw 942 (by decide +kernel) (by decide +kernel), ck_gw 64 (by decide +kernel) (by decide +kernel), by decide +kernel, ⟨by decide +kernel, by decide +kernel, by decide +kernel⟩, fun _ => ck_gw 941 (by decide +kernel) (by decide +kernel), fun h => absurd h (by decide +kernel), by decide +kernel, cc_Mo_highMore⟩
set_option maxRecDepth 20000 in
theorem cc_Mo_lower : ck_chk cm_Mo_lower = true := by decide +kernel
set_option maxRecDepth 20000 in
theorem ck_ok_Mo_lower : ck_mok cm_Mo_lower := ⟨ck_gw 945 (by decide +kernel) (by decide +kernel), ck_gw 64 (by decide +kernel) (by decide +kernel), by decide +kernel, ⟨by decide +kernel, by decide +kernel, by decide +kernel⟩, fun _ => ck_gw 944 (by decide +kernel) (by decide +kernel), fun h => absurd h (by decide +kernel), by decide +kernel, cc_Mo_lower⟩
set_option maxRecDepth 20000 in
theorem cc_Mo_take : ck_chk cm_Mo_take = true := by decide +kernel
set_option maxRecDepth 20000 in
theorem ck_ok_Mo_take : ck_mok cm_Mo_take := ⟨ck_gw 949 (by decide +kernel) (by decide +kernel), ck_gw 64 (by decide +kernel) (by decide +kernel), by decide +kernel, ⟨by decide +kernel, by decide +kernel, by decide +kernel⟩, fun h => absurd h (by decide +kernel), fun _ => ⟨ck_gw 948 (by decide +kernel) (by decide +kernel), ck_gw 36 (by decide +kernel) (by decide +kernel), by decide +kernel⟩, by decide +kernel, cc_Mo_take⟩
set_option maxRecDepth 20000 in
theorem cc_Mo_close : ck_chk cm_Mo_close = true := by decide +kernel
set_option maxRecDepth 20000 in
theorem ck_ok_Mo_close : ck_mok cm_Mo_close := ⟨ck_gw 953 (by decide +kernel) (by decide +kernel), ck_gw 64 (by decide +kernel) (by decide +kernel), by decide +kernel, ⟨by decide +kernel, by decide +kernel, by decide +kernel⟩, fun h => absurd h (by decide +kernel), fun _ => ⟨ck_gw 952 (by decide +kernel) (by decide +kernel), ck_gw 37 (by decide +kernel) (by decide +kernel), by decide +kernel⟩, by decide +kernel, cc_Mo_close⟩
set_option maxRecDepth 20000 in
theorem cc_Mo_effect : ck_chk cm_Mo_effect = true := by decide +kernel
set_option maxRecDepth 20000 in
theorem ck_ok_Mo_effect : ck_mok cm_Mo_effect := ⟨ck_gw 957 (by decide +kernel) (by decide +kernel), ck_gw 64 (by decide +kernel) (by decide +kernel), by decide +kernel, ⟨by decide +kernel, by decide +kernel, by decide +kernel⟩, fun h => absurd h (by decide +kernel), fun _ => ⟨ck_gw 956 (by decide +kernel) (by decide +kernel), ck_gw 38 (by decide +kernel) (by decide +kernel), by decide +kernel⟩, by decide +kernel, cc_Mo_effect⟩
end
section
set_option maxRecDepth 20000 in
theorem cc_Mo_set : ck_chk cm_Mo_set = true := by decide +kernel
set_option maxRecDepth 20000 in
theorem ck_ok_Mo_set : ck_mok cm_Mo_set := ⟨ck_gw 961 (by decide +kernel) (by decide +kernel), ck_gw 64 (by decide +kernel) (by decide +kernel), by decide +kernel, ⟨by decide +kernel, by decide +kernel, by decide +kernel⟩, fun h => absurd h (by decide +kernel), fun _ => ⟨ck_gw 960 (by decide +kernel) (by decide +kernel), ck_gw 39 (by decide +kernel) (by decide +kernel), by decide +kernel⟩, by decide +kernel, cc_Mo_set⟩
set_option maxRecDepth 20000 in
theorem cc_Mo_add : ck_chk cm_Mo_add = true := by decide +kernel
set_option maxRecDepth 20000 in
theorem ck_ok_Mo_add : ck_mok cm_Mo_add := ⟨ck_gw 965 (by decide +kernel) (by decide +kernel), ck_gw 64 (by decide +kernel) (by decide +kernel), by decide +kernel, ⟨by decide +kernel, by decide +kernel, by decide +kernel⟩, fun h => absurd h (by decide +kernel), fun _ => ⟨ck_gw 964 (by decide +kernel) (by decide +kernel), ck_gw 40 (by decide +kernel) (by decide +kernel), by decide +kernel⟩, by decide +kernel, cc_Mo_add⟩
set_option maxRecDepth 20000 in
theorem cc_Mo_forget : ck_chk cm_Mo_forget = true := by decide +kernel
set_option maxRecDepth 20000 in
theorem ck_ok_Mo_forget : ck_mok cm_Mo_forget := ⟨ck_gw 969 (by decide +kernel) (by decide +kernel), ck_gw 64 (by decide +kernel) (by decide +kernel), by decide +kernel, ⟨by decide +kernel, by decide +kernel, by decide +kernel⟩, fun h => absurd h (by decide +kernel), fun _ => ⟨ck_gw 968 (by decide +kernel) (by decide +kernel), ck_gw 41 (by decide +kernel) (by decide +kernel), by decide +kernel⟩, by decide +kernel, cc_Mo_forget⟩
set_option maxRecDepth 20000 in
theorem cc_Mo_measured : ck_chk cm_Mo_measured = true := by decide +kernel
set_option maxRecDepth 20000 in
theorem ck_ok_Mo_measured : ck_mok cm_Mo_measured := ⟨ck_gw 973 (by decide +kernel) (by decide +kernel), ck_gw 64 (by decide +kernel) (by decide +kernel), by decide +kernel, ⟨by decide +kernel, by decide +kernel, by decide +kernel⟩, fun h => absurd h (by decide +kernel), fun _ => ⟨ck_gw 972 (by decide +kernel) (by decide +kernel), ck_gw 42 (by decide +kernel) (by decide +kernel), by decide +kernel⟩, by decide +kernel, cc_Mo_measured⟩
set_option maxRecDepth 20000 in
theorem cc_Mo_found : ck_chk cm_Mo_found = true := by decide +kernel
set_option maxRecDepth 20000 in
theorem ck_ok_Mo_found : ck_mok cm_Mo_found := ⟨ck_gw 977 (by decide +kernel) (by decide +kernel), ck_gw 64 (by decide +kernel) (by decide +kernel), by decide +kernel, ⟨by decide +kernel, by decide +kernel, by decide +kernel⟩, fun h => absurd h (by decide +kernel), fun _ => ⟨ck_gw 976 (by decide +kernel) (by decide +kernel), ck_gw 43 (by decide +kernel) (by decide +kernel), by decide +kernel⟩, by decide +kernel, cc_Mo_found⟩
set_option maxRecDepth 20000 in
theorem cc_Mo_indexed : ck_chk cm_Mo_indexed = true := by decide +kernel
set_option maxRecDepth 20000 in
theorem ck_ok_Mo_indexed : ck_mok cm_Mo_indexed := ⟨ck_gw 981 (by decide +kernel) (by decide +kernel), ck_gw 64 (by decide +kernel) (by decide +kernel), by decide +kernel, ⟨by decide +kernel, by decide +kernel, by decide +kernel⟩, fun h => absurd h (by decide +kernel), fun _ => ⟨ck_gw 980 (by decide +kernel) (by decide +kernel), ck_gw 44 (by decide +kernel) (by decide +kernel), by decide +kernel⟩, by decide +kernel, cc_Mo_indexed⟩
set_option maxRecDepth 20000 in
theorem cc_Mo_make : ck_chk cm_Mo_make = true := by decide +kernel
set_option maxRecDepth 20000 in
theorem ck_ok_Mo_make : ck_mok cm_Mo_make := ⟨ck_gw 985 (by decide +kernel) (by decide +kernel), ck_gw 64 (by decide +kernel) (by decide +kernel), by decide +kernel, ⟨by decide +kernel, by decide +kernel, by decide +kernel⟩, fun h => absurd h (by decide +kernel), fun _ => ⟨ck_gw 984 (by decide +kernel) (by decide +kernel), ck_gw 45 (by decide +kernel) (by decide +kernel), by decide +kernel⟩, by decide +kernel, cc_Mo_make⟩
set_option maxRecDepth 20000 in
theorem cc_Mo_let : ck_chk cm_Mo_let = true := by decide +kernel
set_option maxRecDepth 20000 in
theorem ck_ok_Mo_let : ck_mok cm_Mo_let := ⟨ck_gw 989 (by decide +kernel) (by decide +kernel), ck_gw 64 (by decide +kernel) (by decide +kernel), by decide +kernel, ⟨by decide +kernel, by decide +kernel, by decide +kernel⟩, fun h => absurd h (by decide +kernel), fun _ => ⟨ck_gw 988 (by decide +kernel) (by decide +kernel), ck_gw 46 (by decide +kernel) (by decide +kernel), by decide +kernel⟩, by decide +kernel, cc_Mo_let⟩
set_option maxRecDepth 20000 in
theorem cc_Mo_spared : ck_chk cm_Mo_spared = true := by decide +kernel
set_option maxRecDepth 20000 in
theorem ck_ok_Mo_spared : ck_mok cm_Mo_spared := ⟨ck_gw 993 (by decide +kernel) (by decide +kernel), ck_gw 64 (by decide +kernel) (by decide +kernel), by decide +kernel, ⟨by decide +kernel, by decide +kernel, by decide +kernel⟩, fun h => absurd h (by decide +kernel), fun _ => ⟨ck_gw 992 (by decide +kernel) (by decide +kernel), ck_gw 47 (by decide +kernel) (by decide +kernel), by decide +kernel⟩, by decide +kernel, cc_Mo_spared⟩
set_option maxRecDepth 20000 in
theorem cc_Mo_needless : ck_chk cm_Mo_needless = true := by decide +kernel
set_option maxRecDepth 20000 in
theorem ck_ok_Mo_needless : ck_mok cm_Mo_needless := ⟨ck_gw 997 (by decide +kernel) (by decide +kernel), ck_gw 64 (by decide +kernel) (by decide +kernel), by decide +kernel, ⟨by decide +kernel, by decide +kernel, by decide +kernel⟩, fun h => absurd h (by decide +kernel), fun _ => ⟨ck_gw 995 (by decide +kernel) (by decide +kernel), ck_gw 996 (by decide +kernel) (by decide +kernel), by decide +kernel⟩, by decide +kernel, cc_Mo_needless⟩
set_option maxRecDepth 20000 in
theorem cc_Mo_refuses : ck_chk cm_Mo_refuses = true := by decide +kernel
set_option maxRecDepth 20000 in
theorem ck_ok_Mo_refuses : ck_mok cm_Mo_refuses := ⟨ck_gw 1001 (by decide +kernel) (by decide +kernel), ck_gw 64 (by decide +kernel) (by decide +kernel), by decide +kernel, ⟨by decide +kernel, by decide +kernel, by decide +kernel⟩, fun h => absurd h (by decide +kernel), fun _ => ⟨ck_gw 1000 (by decide +kernel) (by decide +kernel), ck_gw 48 (by decide +kernel) (by decide +kernel), by decide +kernel⟩, by decide +kernel, cc_Mo_refuses⟩
set_option maxRecDepth 20000 in
theorem cc_Mo_least : ck_chk cm_Mo_least = true := by decide +kernel
set_option maxRecDepth 20000 in
theorem ck_ok_Mo_least : ck_mok cm_Mo_least := ⟨ck_gw 1005 (by decide +kernel) (by decide +kernel), ck_gw 64 (by decide +kernel) (by decide +kernel), by decide +kernel, ⟨by decide +kernel, by decide +kernel, by decide +kernel⟩, fun h => absurd h (by decide +kernel), fun _ => ⟨ck_gw 1003 (by decide +kernel) (by decide +kernel), ck_gw 1004 (by decide +kernel) (by decide +kernel), by decide +kernel⟩, by decide +kernel, cc_Mo_least⟩
set_option maxRecDepth 20000 in
theorem cc_Mo_highest : ck_chk cm_Mo_highest = true := by decide +kernel
set_option maxRecDepth 20000 in
theorem ck_ok_Mo_highest : ck_mok cm_Mo_highest := ⟨ck_gw 1009 (by decide +kernel) (by decide +kernel), ck_gw 64 (by decide +kernel) (by decide +kernel), by decide +kernel, ⟨by decide +kernel, by decide +kernel, by decide +kernel⟩, fun h => absurd h (by decide +kernel), fun _ => ⟨ck_gw 1007 (by decide +kernel) (by decide +kernel), ck_gw 1008 (by decide +kernel) (by decide +kernel), by decide +kernel⟩, by decide +kernel, cc_Mo_highest⟩
set_option maxRecDepth 20000 in
theorem cc_Mo_run : ck_chk cm_Mo_run = true := by decide +kernel
set_option maxRecDepth 20000 in
theorem ck_ok_Mo_run : ck_mok cm_Mo_run := ⟨ck_gw 1013 (by decide +kernel) (by decide +kernel), ck_gw 64 (by decide +kernel) (by decide +kernel), by decide +kernel, ⟨by decide +kernel, by decide +kernel, by decide +kernel⟩, fun h => absurd h (by decide +kernel), fun _ => ⟨ck_gw 1011 (by decide +kernel) (by decide +kernel), ck_gw 1012 (by decide +kernel) (by decide +kernel), by decide +kernel⟩, by decide +kernel, cc_Mo_run⟩
set_option maxRecDepth 20000 in
theorem cc_Mo_one : ck_chk cm_Mo_one = true := by decide +kernel
set_option maxRecDepth 20000 in
theorem ck_ok_Mo_one : ck_mok cm_Mo_one := ⟨ck_gw 1017 (by decide +kernel) (by decide +kernel), ck_gw 64 (by decide +kernel) (by decide +kernel), by decide +kernel, ⟨by decide +kernel, by decide +kernel, by decide +kernel⟩, fun h => absurd h (by decide +kernel), fun _ => ⟨ck_gw 1016 (by decide +kernel) (by decide +kernel), ck_gw 49 (by decide +kernel) (by decide +kernel), by decide +kernel⟩, by decide +kernel, cc_Mo_one⟩
set_option maxRecDepth 20000 in
theorem cc_Mo_sum : ck_chk cm_Mo_sum = true := by decide +kernel
set_option maxRecDepth 20000 in
theorem ck_ok_Mo_sum : ck_mok cm_Mo_sum := ⟨ck_gw 1021 (by decide +kernel) (by decide +kernel), ck_gw 64 (by decide +kernel) (by decide +kernel), by decide +kernel, ⟨by decide +kernel, by decide +kernel, by decide +kernel⟩, fun h => absurd h (by decide +kernel), fun _ => ⟨ck_gw 1020 (by decide +kernel) (by decide +kernel), ck_gw 50 (by decide +kernel) (by decide +kernel), by decide +kernel⟩, by decide +kernel, cc_Mo_sum⟩
set_option maxRecDepth 20000 in
theorem cc_Mo_stops : ck_chk cm_Mo_stops = true := by decide +kernel
set_option maxRecDepth 20000 in
theorem ck_ok_Mo_stops : ck_mok cm_Mo_stops := ⟨ck_gw 1025 (by decide +kernel) (by decide +kernel), ck_gw 64 (by decide +kernel) (by decide +kernel), by decide +kernel, ⟨by decide +kernel, by decide +kernel, by decide +kernel⟩, fun h => absurd h (by decide +kernel), fun _ => ⟨ck_gw 1024 (by decide +kernel) (by decide +kernel), ck_gw 51 (by decide +kernel) (by decide +kernel), by decide +kernel⟩, by decide +kernel, cc_Mo_stops⟩
set_option maxRecDepth 20000 in
theorem cc_Mo_act : ck_chk cm_Mo_act = true := by decide +kernel
set_option maxRecDepth 20000 in
theorem ck_ok_Mo_act : ck_mok cm_Mo_act := ⟨ck_gw 1029 (by decide +kernel) (by decide +kernel), ck_gw 64 (by decide +kernel) (by decide +kernel), by decide +kernel, ⟨by decide +kernel, by decide +kernel, by decide +kernel⟩, fun h => absurd h (by decide +kernel), fun _ => ⟨ck_gw 1028 (by decide +kernel) (by decide +kernel), ck_gw 52 (by decide +kernel) (by decide +kernel), by decide +kernel⟩, by decide +kernel, cc_Mo_act⟩
set_option maxRecDepth 20000 in
theorem cc_Mo_input : ck_chk cm_Mo_input = true := by decide +kernel
set_option maxRecDepth 20000 in
theorem ck_ok_Mo_input : ck_mok cm_Mo_input := ⟨ck_gw 1033 (by decide +kernel) (by decide +kernel), ck_gw 64 (by decide +kernel) (by decide +kernel), by decide +kernel, ⟨by decide +kernel, by decide +kernel, by decide +kernel⟩, fun h => absurd h (by decide +kernel), fun _ => ⟨ck_gw 1032 (by decide +kernel) (by decide +kernel), ck_gw 53 (by decide +kernel) (by decide +kernel), by decide +kernel⟩, by decide +kernel, cc_Mo_input⟩
set_option maxRecDepth 20000 in
theorem cc_Mo_check : ck_chk cm_Mo_check = true := by decide +kernel
set_option maxRecDepth 20000 in
theorem ck_ok_Mo_check : ck_mok cm_Mo_check := ⟨ck_gw 1037 (by decide +kernel) (by decide +kernel), ck_gw 64 (by decide +kernel) (by decide +kernel), by decide +kernel, ⟨by decide +kernel, by decide +kernel, by decide +kernel⟩, fun h => absurd h (by decide +kernel), fun _ => ⟨ck_gw 1036 (by decide +kernel) (by decide +kernel), ck_gw 54 (by decide +kernel) (by decide +kernel), by decide +kernel⟩, by decide +kernel, cc_Mo_check⟩
set_option maxRecDepth 20000 in
theorem cc_Mo_checks : ck_chk cm_Mo_checks = true := by decide +kernel
set_option maxRecDepth 20000 in
theorem ck_ok_Mo_checks : ck_mok cm_Mo_checks := ⟨ck_gw 1041 (by decide +kernel) (by decide +kernel), ck_gw 64 (by decide +kernel) (by decide +kernel), by decide +kernel, ⟨by decide +kernel, by decide +kernel, by decide +kernel⟩, fun h => absurd h (by decide +kernel), fun _ => ⟨ck_gw 1040 (by decide +kernel) (by decide +kernel), ck_gw 55 (by decide +kernel) (by decide +kernel), by decide +kernel⟩, by decide +kernel, cc_Mo_checks⟩
set_option maxRecDepth 20000 in
theorem cc_Mo_room : ck_chk cm_Mo_room = true := by decide +kernel
set_option maxRecDepth 20000 in
theorem ck_ok_Mo_room : ck_mok cm_Mo_room := ⟨ck_gw 1045 (by decide +kernel) (by decide +kernel), ck_gw 64 (by decide +kernel) (by decide +kernel), by decide +kernel, ⟨by decide +kernel, by decide +kernel, by decide +kernel⟩, fun h => absurd h (by decide +kernel), fun _ => ⟨ck_gw 1044 (by decide +kernel) (by decide +kernel), ck_gw 56 (by decide +kernel) (by decide +kernel), by decide +kernel⟩, by decide +kernel, cc_Mo_room⟩
set_option maxRecDepth 20000 in
theorem cc_Mo_output : ck_chk cm_Mo_output = true := by decide +kernel
set_option maxRecDepth 20000 in
theorem ck_ok_Mo_output : ck_mok cm_Mo_output := ⟨ck_gw 1049 (by decide +kernel) (by decide +kernel), ck_gw 64 (by decide +kernel) (by decide +kernel), by decide +kernel, ⟨by decide +kernel, by decide +kernel, by decide +kernel⟩, fun h => absurd h (by decide +kernel), fun _ => ⟨ck_gw 1047 (by decide +kernel) (by decide +kernel), ck_gw 1048 (by decide +kernel) (by decide +kernel), by decide +kernel⟩, by decide +kernel, cc_Mo_output⟩
set_option maxRecDepth 20000 in
theorem cc_Mo_state : ck_chk cm_Mo_state = true := by decide +kernel
set_option maxRecDepth 20000 in
theorem ck_ok_Mo_state : ck_mok cm_Mo_state := ⟨ck_gw 1053 (by decide +kernel) (by decide +kernel), ck_gw 64 (by decide +kernel) (by decide +kernel), by decide +kernel, ⟨by decide +kernel, by decide +kernel, by decide +kernel⟩, fun h => absurd h (by decide +kernel), fun _ => ⟨ck_gw 1051 (by decide +kernel) (by decide +kernel), ck_gw 1052 (by decide +kernel) (by decide +kernel), by decide +kernel⟩, by decide +kernel, cc_Mo_state⟩
set_option maxRecDepth 20000 in
theorem cc_Mo_number : ck_chk cm_Mo_number = true := by decide +kernel
set_option maxRecDepth 20000 in
theorem ck_ok_Mo_number : ck_mok cm_Mo_number := ⟨ck_gw 1057 (by decide +kernel) (by decide +kernel), ck_gw 64 (by decide +kernel) (by decide +kernel), by decide +kernel, ⟨by decide +kernel, by decide +kernel, by decide +kernel⟩, fun h => absurd h (by decide +kernel), fun _ => ⟨ck_gw 1055 (by decide +kernel) (by decide +kernel), ck_gw 1056 (by decide +kernel) (by decide +kernel), by decide +kernel⟩, by decide +kernel, cc_Mo_number⟩
set_option maxRecDepth 20000 in
theorem cc_Mo_length : ck_chk cm_Mo_length = true := by decide +kernel
set_option maxRecDepth 20000 in
theorem ck_ok_Mo_length : ck_mok cm_Mo_length := ⟨ck_gw 1061 (by decide +kernel) (by decide +kernel), ck_gw 64 (by decide +kernel) (by decide +kernel), by decide +kernel, ⟨by decide +kernel, by decide +kernel, by decide +kernel⟩, fun h => absurd h (by decide +kernel), fun _ => ⟨ck_gw 1059 (by decide +kernel) (by decide +kernel), ck_gw 1060 (by decide +kernel) (by decide +kernel), by decide +kernel⟩, by decide +kernel, cc_Mo_length⟩
set_option maxRecDepth 20000 in
theorem cc_Mo_place : ck_chk cm_Mo_place = true := by decide +kernel
set_option maxRecDepth 20000 in
theorem ck_ok_Mo_place : ck_mok cm_Mo_place := ⟨ck_gw 1065 (by decide +kernel) (by decide +kernel), ck_gw 64 (by decide +kernel) (by decide +kernel), by decide +kernel, ⟨by decide +kernel, by decide +kernel, by decide +kernel⟩, fun h => absurd h (by decide +kernel), fun _ => ⟨ck_gw 1063 (by decide +kernel) (by decide +kernel), ck_gw 1064 (by decide +kernel) (by decide +kernel), by decide +kernel⟩, by decide +kernel, cc_Mo_place⟩
end
section
set_option maxRecDepth 20000 in
theorem ck_MOK : ∀ md ∈ ck_MDs, ck_mok md := List.forall_mem_cons.mpr ⟨ck_ok_Cs_clear, List.forall_mem_cons.mpr ⟨ck_ok_Pr_empty, List.forall_mem_cons.mpr ⟨ck_ok_In_empty, List.forall_mem_cons.mpr ⟨ck_ok_Ma_leave, List.forall_mem_cons.mpr ⟨ck_ok_Fi_forgetAll, List.forall_mem_cons.mpr ⟨ck_ok_Cs_output, List.forall_mem_cons.mpr ⟨ck_ok_Ma_outputBack, List.forall_mem_cons.mpr ⟨ck_ok_Jm_floorMod, List.forall_mem_cons.mpr ⟨ck_ok_Cs_state, List.forall_mem_cons.mpr ⟨ck_ok_Ma_tell, List.forall_mem_cons.mpr ⟨ck_ok_Cs_number, List.forall_mem_cons.mpr ⟨ck_ok_Cs_isNumber, List.forall_mem_cons.mpr ⟨ck_ok_Cs_length, List.forall_mem_cons.mpr ⟨ck_ok_Cs_isArray, List.forall_mem_cons.mpr ⟨ck_ok_Ma_lengthOf, List.forall_mem_cons.mpr ⟨ck_ok_Cs_place, List.forall_mem_cons.mpr ⟨ck_ok_Ma_placeOf, List.forall_mem_cons.mpr ⟨ck_ok_Ma_hasPlace, List.forall_mem_cons.mpr ⟨ck_ok_Cs_put, List.forall_mem_cons.mpr ⟨ck_ok_Pr_fits, List.forall_mem_cons.mpr ⟨ck_ok_Pr_isConstant, List.forall_mem_cons.mpr ⟨ck_ok_Pr_hasOwner, List.forall_mem_cons.mpr ⟨ck_ok_Pr_append, List.forall_mem_cons.mpr ⟨ck_ok_Pr_close, List.forall_mem_cons.mpr ⟨ck_ok_Cs_give, List.forall_mem_cons.mpr ⟨ck_ok_In_append, List.forall_mem_cons.mpr ⟨ck_ok_Cs_start, List.forall_mem_cons.mpr ⟨ck_ok_Fi_work, List.forall_mem_cons.mpr ⟨ck_ok_Fi_markAllDue, List.forall_mem_cons.mpr ⟨ck_ok_Fi_arrive, List.forall_mem_cons.mpr ⟨ck_ok_Fa_setFirst, List.forall_mem_cons.mpr ⟨ck_ok_Fa_setNull, List.forall_mem_cons.mpr ⟨ck_ok_Fi_follow, List.forall_mem_cons.mpr ⟨ck_ok_Fa_copy, List.forall_mem_cons.mpr ⟨ck_ok_Fa_setConstant, List.forall_mem_cons.mpr ⟨ck_ok_Fa_highOfConstant, List.forall_mem_cons.mpr ⟨ck_ok_Fa_boundedHigh, List.forall_mem_cons.mpr ⟨ck_ok_Fa_setSum, List.forall_mem_cons.mpr ⟨ck_ok_Fa_boundedLow, List.forall_mem_cons.mpr ⟨ck_ok_Fa_setAnything, List.forall_mem_cons.mpr ⟨ck_ok_Fa_setLength, List.forall_mem_cons.mpr ⟨ck_ok_Fa_markThere, List.forall_mem_cons.mpr ⟨ck_ok_Fa_isSameArray, List.forall_mem_cons.mpr ⟨ck_ok_Fa_useIndex, List.forall_mem_cons.mpr ⟨ck_ok_Jm_max, List.forall_mem_cons.mpr ⟨ck_ok_Jm_min, List.forall_mem_cons.mpr ⟨ck_ok_Fa_setNew, List.forall_mem_cons.mpr ⟨ck_ok_Fa_setArray, List.forall_mem_cons.mpr ⟨ck_ok_Fa_assumeBelow, List.forall_mem_cons.mpr ⟨ck_ok_Fi_takeOtherWay, List.forall_mem_cons.mpr ⟨ck_ok_Fa_assumeNotBelow, List.forall_mem_cons.mpr ⟨ck_ok_Fa_joinWays, List.forall_mem_cons.mpr ⟨ck_ok_Fa_joinBounds, List.forall_mem_cons.mpr ⟨ck_ok_Fa_setJoinedValue, List.forall_mem_cons.mpr ⟨ck_ok_Fi_joinWhile, List.forall_mem_cons.mpr ⟨ck_ok_Fa_forgetChanged, List.forall_mem_cons.mpr ⟨ck_ok_Fa_hasSameBounds, List.forall_mem_cons.mpr ⟨ck_ok_Fi_passOn, List.forall_mem_cons.mpr ⟨ck_ok_Fi_findNeedless, List.forall_mem_cons.mpr ⟨ck_ok_Fi_findNeedlessOfIndex, List.forall_mem_cons.mpr ⟨ck_ok_Ma_begin, List.forall_mem_cons.mpr ⟨ck_ok_Fi_countNeedless, List.forall_mem_cons.mpr ⟨ck_ok_Ji_bitCount, List.forall_mem_cons.mpr ⟨ck_ok_Cs_needless, List.forall_mem_cons.mpr ⟨ck_ok_Cs_requireStatement, List.forall_mem_cons.mpr ⟨ck_ok_Cs_requireIndex, List.forall_mem_cons.mpr ⟨ck_ok_Cs_least, List.forall_mem_cons.mpr ⟨ck_ok_Cs_highest, List.forall_mem_cons.mpr ⟨ck_ok_Cs_run, List.forall_mem_cons.mpr ⟨ck_ok_Ma_advance, List.forall_mem_cons.mpr ⟨ck_ok_Ma_perform, List.forall_mem_cons.mpr ⟨ck_ok_Ma_isBelow, List.forall_mem_cons.mpr ⟨ck_ok_Ma_sumOrStop, List.forall_mem_cons.mpr ⟨ck_ok_Ma_behindFailedIf, List.forall_mem_cons.mpr ⟨ck_ok_Ma_performPlain, List.forall_mem_cons.mpr ⟨ck_ok_Ma_add, List.forall_mem_cons.mpr ⟨ck_ok_In_takeNext, List.forall_mem_cons.mpr ⟨ck_ok_Ma_passes, List.forall_mem_cons.mpr ⟨ck_ok_Ma_passesAll, List.forall_mem_cons.mpr ⟨ck_ok_Ma_store, List.forall_mem_cons.mpr ⟨ck_ok_Ma_makeArray, List.forall_mem_cons.mpr ⟨ck_ok_Mo_thrown, List.forall_mem_cons.mpr ⟨ck_ok_Mo_put, List.forall_mem_cons.mpr ⟨ck_ok_Mo_isSaid, List.forall_mem_cons.mpr ⟨ck_ok_Mo_in, List.forall_mem_cons.mpr ⟨ck_ok_Mo_fails, List.forall_mem_cons.mpr ⟨ck_ok_Mo_clear, List.forall_mem_cons.mpr ⟨ck_ok_Mo_give, List.forall_mem_cons.mpr ⟨ck_ok_Mo_start, List.forall_mem_cons.mpr ⟨ck_ok_Mo_pass, List.forall_mem_cons.mpr ⟨ck_ok_Mo_nothing, List.forall_mem_cons.mpr ⟨ck_ok_Mo_loosen, List.forall_mem_cons.mpr ⟨ck_ok_Mo_joinBack, List.forall_mem_cons.mpr ⟨ck_ok_Mo_join, List.forall_mem_cons.mpr ⟨ck_ok_Mo_worst, List.forall_mem_cons.mpr ⟨ck_ok_Mo_tell, List.forall_mem_cons.mpr ⟨ck_ok_Mo_keep, List.forall_mem_cons.mpr ⟨ck_ok_Mo_branch, List.forall_mem_cons.mpr ⟨ck_ok_Mo_leastMore, List.forall_mem_cons.mpr ⟨ck_ok_Mo_leastOf, List.forall_mem_cons.mpr ⟨ck_ok_Mo_greater, List.forall_mem_cons.mpr ⟨ck_ok_Mo_against, List.forall_mem_cons.mpr ⟨ck_ok_Mo_high, List.forall_mem_cons.mpr ⟨ck_ok_Mo_highMore, List.forall_mem_cons.mpr ⟨ck_ok_Mo_lower, List.forall_mem_cons.mpr ⟨ck_ok_Mo_take, List.forall_mem_cons.mpr ⟨ck_ok_Mo_close, List.forall_mem_cons.mpr ⟨ck_ok_Mo_effect, List.forall_mem_cons.mpr ⟨ck_ok_Mo_set, List.forall_mem_cons.mpr ⟨ck_ok_Mo_add, List.forall_mem_cons.mpr ⟨ck_ok_Mo_forget, List.forall_mem_cons.mpr ⟨ck_ok_Mo_measured, List.forall_mem_cons.mpr ⟨ck_ok_Mo_found, List.forall_mem_cons.mpr ⟨ck_ok_Mo_indexed, List.forall_mem_cons.mpr ⟨ck_ok_Mo_make, List.forall_mem_cons.mpr ⟨ck_ok_Mo_let, List.forall_mem_cons.mpr ⟨ck_ok_Mo_spared, List.forall_mem_cons.mpr ⟨ck_ok_Mo_needless, List.forall_mem_cons.mpr ⟨ck_ok_Mo_refuses, List.forall_mem_cons.mpr ⟨ck_ok_Mo_least, List.forall_mem_cons.mpr ⟨ck_ok_Mo_highest, List.forall_mem_cons.mpr ⟨ck_ok_Mo_run, List.forall_mem_cons.mpr ⟨ck_ok_Mo_one, List.forall_mem_cons.mpr ⟨ck_ok_Mo_sum, List.forall_mem_cons.mpr ⟨ck_ok_Mo_stops, List.forall_mem_cons.mpr ⟨ck_ok_Mo_act, List.forall_mem_cons.mpr ⟨ck_ok_Mo_input, List.forall_mem_cons.mpr ⟨ck_ok_Mo_check, List.forall_mem_cons.mpr ⟨ck_ok_Mo_checks, List.forall_mem_cons.mpr ⟨ck_ok_Mo_room, List.forall_mem_cons.mpr ⟨ck_ok_Mo_output, List.forall_mem_cons.mpr ⟨ck_ok_Mo_state, List.forall_mem_cons.mpr ⟨ck_ok_Mo_number, List.forall_mem_cons.mpr ⟨ck_ok_Mo_length, List.forall_mem_cons.mpr ⟨ck_ok_Mo_place, fun _ h => absurd h List.not_mem_nil⟩⟩⟩⟩⟩⟩⟩⟩⟩⟩⟩⟩⟩⟩⟩⟩⟩⟩⟩⟩⟩⟩⟩⟩⟩⟩⟩⟩⟩⟩⟩⟩⟩⟩⟩⟩⟩⟩⟩⟩⟩⟩⟩⟩⟩⟩⟩⟩⟩⟩⟩⟩⟩⟩⟩⟩⟩⟩⟩⟩⟩⟩⟩⟩⟩⟩⟩⟩⟩⟩⟩⟩⟩⟩⟩⟩⟩⟩⟩⟩⟩⟩⟩⟩⟩⟩⟩⟩⟩⟩⟩⟩⟩⟩⟩⟩⟩⟩⟩⟩⟩⟩⟩⟩⟩⟩⟩⟩⟩⟩⟩⟩⟩⟩⟩⟩⟩⟩⟩⟩⟩⟩⟩⟩⟩⟩⟩⟩⟩⟩⟩⟩⟩⟩⟩
end
section
def ck_up (σ : ck_M) (a i x : Int) : ck_M := fun b j => if b = a ∧ j = i then x else σ b j
def ck_rg (x : Int) : Prop := -2147483648 ≤ x ∧ x < 2147483648
def ck_ild (pc i : Nat) (ls : ck_Ls) (st : List ck_PV) (σ : ck_M) : Option (List Prop × ck_F) := match ls[i]? with
  | some (some (.inl x)) => some ([], pc, ls, .inl x :: st, σ)
  | _ => none
def ck_ald (pc i : Nat) (ls : ck_Ls) (st : List ck_PV) (σ : ck_M) : Option (List Prop × ck_F) := match ls[i]? with
  | some (some (.inr x)) => some ([], pc, ls, .inr x :: st, σ)
  | _ => none
def ck_ist (pc i : Nat) (ls : ck_Ls) (st : List ck_PV) (σ : ck_M) : Option (List Prop × ck_F) := match st with
  | .inl x :: r => if i < ls.length then some ([], pc, ls.set i (some (.inl x)), r, σ) else none
  | _ => none
def ck_ast (pc i : Nat) (ls : ck_Ls) (st : List ck_PV) (σ : ck_M) : Option (List Prop × ck_F) := match st with
  | .inr x :: r => if i < ls.length then some ([], pc, ls.set i (some (.inr x)), r, σ) else none
  | _ => none
def ck_inc (pc i : Nat) (n : Int) (ls : ck_Ls) (st : List ck_PV) (σ : ck_M) : Option (List Prop × ck_F) := match ls[i]? with
  | some (some (.inl x)) => some ([], pc, ls.set i (some (.inl (x + n))), st, σ)
  | _ => none
def ck_bin (f : Int → Int → Int) (pc : Nat) (ls : ck_Ls) (st : List ck_PV) (σ : ck_M) : Option (List Prop × ck_F) := match st with
  | .inl y :: .inl x :: r => some ([], pc + 1, ls, .inl (f x y) :: r, σ)
  | _ => none
def ck_and (x y : Int) : Int := (Int32.ofInt x &&& Int32.ofInt y).toInt
def ck_or (x y : Int) : Int := (Int32.ofInt x ||| Int32.ofInt y).toInt
def ck_xor (x y : Int) : Int := (Int32.ofInt x ^^^ Int32.ofInt y).toInt
def ck_shl (x y : Int) : Int := (Int32.ofInt x <<< (Int32.ofInt y &&& 31)).toInt
def ck_shr (x y : Int) : Int := (Int32.ofInt x >>> (Int32.ofInt y &&& 31)).toInt
def ck_ush (x y : Int) : Int := (((Int32.ofInt x).toUInt32 >>> ((Int32.ofInt y).toUInt32 &&& Int32.toUInt32 31)).toInt32).toInt
def ck_rem (x y : Int) : Int := (Int32.ofInt x - Int32.ofInt x / Int32.ofInt y * Int32.ofInt y).toInt
def ck_nz (x : Int) : Int := (vp_nar .boolean (Int32.ofInt x)).toInt
def ck_cond (c : ClassFile.Cond) (x y : Int) (t f : Nat) : Nat := match c with
  | .eq => if x = y then t else f
  | .ne => if x = y then f else t
  | .lt => if x < y then t else f
  | .ge => if x < y then f else t
  | .gt => if y < x then t else f
  | .le => if y < x then f else t
def ck_sw (lo : Int) (x : Int) (d : Nat) (tl : List Nat) : Nat := if x < lo then d else (tl[(x - lo).toNat]?).getD d
def ck_getf (pc aux : Nat) (ls : ck_Ls) (st : List ck_PV) (σ : ck_M) : Option (List Prop × ck_F) := match st with
  | .inr (c, 3, ci) :: r => if ci = aux / 100 then (match ck_fr (aux / 100) (aux % 100) c with
    | some q => some ([], pc + 3, ls, .inr q :: r, σ)
    | none => some ([], pc + 3, ls, .inl (σ c (aux % 100 : Nat)) :: r, σ)) else none
  | _ => none
def ck_putf (pc aux : Nat) (z : Int) (ls : ck_Ls) (st : List ck_PV) (σ : ck_M) : Option (List Prop × ck_F) := match st with
  | .inl x :: .inr (c, 3, ci) :: r => if ci = aux / 100 then (match ck_fr (aux / 100) (aux % 100) c with
    | some _ => none
    | none => some (if z = 0 then [] else [x = 0 ∨ x = 1], pc + 3, ls, r, ck_up σ c (aux % 100 : Nat) x)) else none
  | _ => none
def ck_aldI (pc : Nat) (ls : ck_Ls) (st : List ck_PV) (σ : ck_M) : Option (List Prop × ck_F) := match st with
  | .inl i :: .inr (a, 0, n) :: r => some ([0 ≤ i ∧ i < (n : Int)], pc + 1, ls, .inl (σ a i) :: r, σ)
  | _ => none
def ck_aldZ (pc : Nat) (ls : ck_Ls) (st : List ck_PV) (σ : ck_M) : Option (List Prop × ck_F) := match st with
  | .inl i :: .inr (a, 1, n) :: r => some ([0 ≤ i ∧ i < (n : Int)], pc + 1, ls, .inl (σ a i) :: r, σ)
  | _ => none
def ck_aldA (pc : Nat) (ls : ck_Ls) (st : List ck_PV) (σ : ck_M) : Option (List Prop × ck_F) := match st with
  | .inl i :: .inr (a, 2, n) :: r => some ([0 ≤ i ∧ i < (n : Int)], pc + 1, ls, .inr (25 + 7 * i, 3, 0) :: r, σ)
  | _ => none
def ck_astI (pc : Nat) (ls : ck_Ls) (st : List ck_PV) (σ : ck_M) : Option (List Prop × ck_F) := match st with
  | .inl x :: .inl i :: .inr (a, 0, n) :: r => some ([0 ≤ i ∧ i < (n : Int)], pc + 1, ls, r, ck_up σ a i x)
  | _ => none
def ck_astZ (pc : Nat) (ls : ck_Ls) (st : List ck_PV) (σ : ck_M) : Option (List Prop × ck_F) := match st with
  | .inl x :: .inl i :: .inr (a, 1, n) :: r => some ([0 ≤ i ∧ i < (n : Int), x = 0 ∨ x = 1], pc + 1, ls, r, ck_up σ a i x)
  | _ => none
def ck_aln (pc : Nat) (ls : ck_Ls) (st : List ck_PV) (σ : ck_M) : Option (List Prop × ck_F) := match st with
  | .inr (_, 0, n) :: r => some ([], pc + 1, ls, .inl (n : Int) :: r, σ)
  | .inr (_, 1, n) :: r => some ([], pc + 1, ls, .inl (n : Int) :: r, σ)
  | .inr (_, 2, n) :: r => some ([], pc + 1, ls, .inl (n : Int) :: r, σ)
  | _ => none
/-- System.arraycopy of n ints from the places 0 on -/
def ck_cpy (σ : ck_M) (a b n : Int) : ck_M := fun c j => if c = b ∧ 0 ≤ j ∧ j < n then σ a j else σ c j
def ck_acp (pc : Nat) (ls : ck_Ls) (st : List ck_PV) (σ : ck_M) : Option (List Prop × ck_F) := match st with
  | [.inl n, .inl d, .inr (b, 0, nb), .inl s0, .inr (a, 0, na)] => some ([s0 = 0, d = 0, 0 ≤ n, n ≤ (na : Int), n ≤ (nb : Int)], pc + 3, ls, [], ck_cpy σ a b n)
  | _ => none
def ck_step (pc : Nat) (en : ck_En) (ls : ck_Ls) (st : List ck_PV) (σ : ck_M) : Option (List Prop × ck_F) :=
  match en.1 with
  | .iconst _ => some ([], pc + 1, ls, .inl en.2.2.2.1 :: st, σ)
  | .bipush _ => some ([], pc + 2, ls, .inl en.2.2.2.1 :: st, σ)
  | .sipush _ => some ([], pc + 3, ls, .inl en.2.2.2.1 :: st, σ)
  | .ldc _ => some ([], pc + 2, ls, .inl en.2.2.2.1 :: st, σ)
  | .ldc_w _ => some ([], pc + 3, ls, .inl en.2.2.2.1 :: st, σ)
  | .iload _ => ck_ild (pc + 2) en.2.1 ls st σ
  | .iload_n _ => ck_ild (pc + 1) en.2.1 ls st σ
  | .aload _ => ck_ald (pc + 2) en.2.1 ls st σ
  | .aload_n _ => ck_ald (pc + 1) en.2.1 ls st σ
  | .istore _ => ck_ist (pc + 2) en.2.1 ls st σ
  | .istore_n _ => ck_ist (pc + 1) en.2.1 ls st σ
  | .astore_n _ => ck_ast (pc + 1) en.2.1 ls st σ
  | .iinc _ _ => ck_inc (pc + 3) en.2.1 en.2.2.2.1 ls st σ
  | .iadd => ck_bin (fun x y => x + y) pc ls st σ
  | .isub => ck_bin (fun x y => x - y) pc ls st σ
  | .imul => ck_bin (fun x y => x * y) pc ls st σ
  | .iand => ck_bin ck_and pc ls st σ
  | .ior => ck_bin ck_or pc ls st σ
  | .ixor => ck_bin ck_xor pc ls st σ
  | .ishl => ck_bin ck_shl pc ls st σ
  | .ishr => ck_bin ck_shr pc ls st σ
  | .iushr => ck_bin ck_ush pc ls st σ
  | .irem => (match st with
    | .inl y :: .inl x :: r => some ([ck_rg y ∧ y ≠ 0], pc + 1, ls, .inl (ck_rem x y) :: r, σ)
    | _ => none)
  | .ineg => (match st with
    | .inl x :: r => some ([], pc + 1, ls, .inl (-x) :: r, σ)
    | _ => none)
  | .dup => (match st with
    | v :: r => some ([], pc + 1, ls, v :: v :: r, σ)
    | _ => none)
  | .ifCond c _ => (match st with
    | .inl x :: r => some ([ck_rg x], ck_cond c x 0 en.2.1 (pc + 3), ls, r, σ)
    | _ => none)
  | .if_icmp c _ => (match st with
    | .inl y :: .inl x :: r => some ([ck_rg x, ck_rg y], ck_cond c x y en.2.1 (pc + 3), ls, r, σ)
    | _ => none)
  | .goto _ => some ([], en.2.1, ls, st, σ)
  | .tableswitch _ lo _ _ => (match st with
    | .inl x :: r => some ([ck_rg x], ck_sw lo x en.2.1 en.2.2.2.2, ls, r, σ)
    | _ => none)
  | .getfield _ => ck_getf pc en.2.1 ls st σ
  | .putfield _ => ck_putf pc en.2.1 en.2.2.2.1 ls st σ
  | .iaload => ck_aldI pc ls st σ
  | .baload => ck_aldZ pc ls st σ
  | .aaload => ck_aldA pc ls st σ
  | .iastore => ck_astI pc ls st σ
  | .bastore => ck_astZ pc ls st σ
  | .arraylength => ck_aln pc ls st σ
  | .invokestatic _ => if en.2.1 = 999 then ck_acp pc ls st σ else none
  | _ => none
/-- the instruction at a place -/
def ck_lk1 : List (Nat × ck_En) → Nat → Option ck_En
  | [], _ => none
  | (a, e) :: r, k => bif Nat.beq k a then some e else ck_lk1 r k
def ck_lk : ck_Tb → Nat → Option ck_En
  | [], _ => none
  | (h, c) :: r, k => bif Nat.ble h k then ck_lk r k else ck_lk1 c k
/-- n steps within a frame, no call among them: what must hold, and where it comes -/
def ck_run : Nat → ck_Tb → ck_F → Option (List Prop × ck_F)
  | 0, _, X => some ([], X)
  | n + 1, tb, X => match ck_lk tb X.1 with
    | none => none
    | some en => match ck_step X.1 en X.2.1 X.2.2.1 X.2.2.2 with
      | none => none
      | some (ps, X1) => match ck_run n tb X1 with
        | none => none
        | some (qs, X2) => some (ps ++ qs, X2)
def ck_all : List Prop → Prop
  | [] => True
  | p :: r => p ∧ ck_all r
theorem ck_all_app {a b : List Prop} : ck_all (a ++ b) ↔ ck_all a ∧ ck_all b := by
  induction a with
  | nil => simp [ck_all]
  | cons p r ih => simp [ck_all, ih, and_assoc]
/-- a method's first frame -/
def ck_ent (md : ck_MD) (as : List ck_PV) (σ : ck_M) : ck_F := (0, as.map some ++ List.replicate (ck_mL md - as.length) none, [], σ)
/-- at a return, with this answer -/
def ck_ret (md : ck_MD) (X : ck_F) (r : Option Int) (σ : ck_M) : Prop := X.2.2.2 = σ ∧ ∃ en, ck_lk (ck_mT md) X.1 = some en ∧ match r with
  | none => en.1 = .return_ ∧ X.2.2.1 = [] ∧ ck_mR md = none
  | some x => en.1 = .ireturn ∧ X.2.2.1 = [.inl x] ∧ (ck_mR md = some .int ∨ (ck_mR md = some .boolean ∧ (x = 0 ∨ x = 1)))
def ck_psh (r : Option Int) (st : List ck_PV) : List ck_PV := match r with
  | none => st
  | some x => .inl x :: st
/-- a call stands at X: the callee, its values, what stays on the stack -/
def ck_at (md : ck_MD) (X : ck_F) (md' : ck_MD) (as rest : List ck_PV) : Prop := ∃ en, ck_lk (ck_mT md) X.1 = some en ∧ ((∃ i, en.1 = .invokevirtual i) ∨ ∃ i, en.1 = .invokestatic i) ∧ ck_MDs[en.2.1]? = some md' ∧ X.2.2.1 = as.reverse ++ rest ∧ as.length = ck_ar md' ∧ rest.length ≤ 4 ∧ (ck_mS md' = false → ∃ c r, as = .inr (c, 3, ck_mC md') :: r)
/-- within a frame, calls by C, at most n turns: a state of T is reached -/
def ck_rch (C : ck_MD → List ck_PV → ck_M → Option Int → ck_M → Prop) (md : ck_MD) : Nat → ck_F → (ck_F → Prop) → Prop
  | 0, X, T => T X
  | n + 1, X, T => T X ∨ (∃ k ps X1, ck_run k (ck_mT md) X = some (ps, X1) ∧ ck_all ps ∧ ck_rch C md n X1 T) ∨ (∃ md' as rest r σ', ck_at md X md' as rest ∧ C md' as X.2.2.2 r σ' ∧ ck_rch C md n (X.1 + 3, X.2.1, ck_psh r rest, σ') T)
def ck_call : Nat → ck_MD → List ck_PV → ck_M → Option Int → ck_M → Prop
  | 0 => fun _ _ _ _ _ => False
  | d + 1 => fun md as σ r σ' => ∃ n, ck_rch (ck_call d) md n (ck_ent md as σ) (fun X => ck_ret md X r σ')
def ck_go (d : Nat) (md : ck_MD) (X : ck_F) (T : ck_F → Prop) : Prop := ∃ n, ck_rch (ck_call d) md n X T
end
section
/-! The machine's side of the pure machine: values, cells, variables. -/
def ck_vv (ad : Nat → Nat) (v : ck_PV) : Value := match v with
  | .inl x => .int (Int32.ofInt x)
  | .inr q => .ref (ad q.1.toNat)
def ck_wt (v : ck_PV) : Prop := match v with
  | .inl _ => True
  | .inr q => 0 ≤ q.1 ∧ q.1 < 501 ∧ ck_sh q.1.toNat = q.2
abbrev ck_Cs : Type := ClassId × ClassId × ClassId
def ck_fv (ad : Nat → Nat) (σ : ck_M) (ci : Nat) (c : Int) (k : Nat) : Value := match ck_fr ci k c with
  | some q => .ref (ad q.1.toNat)
  | none => .int (Int32.ofInt (σ c k))
def ck_fs (ad : Nat → Nat) (σ : ck_M) (ci : Nat) (c : Int) : List Value := (List.range (ck_nF ci)).map (ck_fv ad σ ci c)
def ck_en (ad : Nat → Nat) (cs : ck_Cs) (σ : ck_M) (c : Nat) : va_E := match (ck_sh c).1 with
  | 3 => .inr ((ck_sh c).2, ck_fs ad σ (ck_sh c).2 c)
  | 0 => .inl (cs.1, (ck_sh c).2, .inl (fun j => Int32.ofInt (σ c j)))
  | 1 => .inl (cs.2.1, (ck_sh c).2, .inl (fun j => Int32.ofInt (σ c j)))
  | _ => .inl (cs.2.2, (ck_sh c).2, .inr (.inr (.inr (.inr (fun j => some (ad (25 + 7 * j)))))))
def ck_ws (ad : Nat → Nat) (cs : ck_Cs) (σ : ck_M) : va_W := (List.range 501).map (fun c => (ad c, ck_en ad cs σ c))
abbrev ck_tys (cs : ck_Cs) : List (ClassId × FieldType) := [(cs.1, .int), (cs.2.1, .boolean), (cs.2.2, .object "CheckSaver$Facts")]
theorem ck_ws_get {ad : Nat → Nat} {cs : ck_Cs} {σ : ck_M} {c : Nat} (h : c < 501) : (ck_ws ad cs σ)[c]? = some (ad c, ck_en ad cs σ c) := by
  simp [ck_ws, h]
theorem ck_ws_inv {ad : Nat → Nat} {cs : ck_Cs} {σ : ck_M} {k : Nat} {q : Nat × va_E} (h : (ck_ws ad cs σ)[k]? = some q) : k < 501 ∧ q = (ad k, ck_en ad cs σ k) := by
  by_cases hk : k < 501
  · rw [ck_ws_get hk] at h
    exact ⟨hk, (Option.some.inj h).symm⟩
  · simp [ck_ws, hk] at h
theorem ck_en_congr {ad : Nat → Nat} {cs : ck_Cs} {σ σ' : ck_M} {c : Nat} (h : ∀ j, σ' (c : Int) j = σ c j) : ck_en ad cs σ' c = ck_en ad cs σ c := by
  have h2 : ck_fv ad σ' (ck_sh c).2 c = ck_fv ad σ (ck_sh c).2 c := by
    funext k
    unfold ck_fv
    rw [h]
  unfold ck_en ck_fs
  simp only [h, h2]
theorem ck_ws_set {ad : Nat → Nat} {cs : ck_Cs} {σ σ' : ck_M} {c : Nat} {e : va_E} (h : c < 501) (he : ck_en ad cs σ' c = e) (ho : ∀ b : Nat, b ≠ c → ∀ j, σ' (b : Int) j = σ b j) : (ck_ws ad cs σ).set c (ad c, e) = ck_ws ad cs σ' := by
  apply List.ext_getElem?
  intro i
  by_cases hi : i < 501
  · by_cases hc : c = i
    · subst hc
      rw [ck_ws_get h, he, List.getElem?_set_self (by simpa [ck_ws] using h)]
    · rw [List.getElem?_set_ne hc, ck_ws_get hi, ck_ws_get hi, ck_en_congr (σ' := σ') (fun j => ho i (fun q => hc q.symm) j)]
  · have h1 : (ck_ws ad cs σ').length ≤ i := by simp [ck_ws]; omega
    have h2 : ((ck_ws ad cs σ).set c (ad c, e)).length ≤ i := by simp [ck_ws]; omega
    rw [List.getElem?_eq_none h1, List.getElem?_eq_none h2]
theorem ck_D_any {A : Nat → Prop} {ad : Nat → Nat} {cs : ck_Cs} {σ : ck_M} (h : va_D A (ck_ws ad cs σ)) (σ' : ck_M) : va_D A (ck_ws ad cs σ') := by
  refine ⟨fun i j p q hi hj hpq => ?_, fun k q hk => ?_⟩
  · obtain ⟨h1, rfl⟩ := ck_ws_inv hi
    obtain ⟨h2, rfl⟩ := ck_ws_inv hj
    exact h.1 i j _ _ (ck_ws_get h1) (ck_ws_get h2) hpq
  · obtain ⟨h1, rfl⟩ := ck_ws_inv hk
    exact h.2 k (ad k, ck_en ad cs σ k) (ck_ws_get h1)
/-! what each cell is -/
def ck_shok (c : Nat) : Bool := ((ck_sh c).1 == 0 || (ck_sh c).1 == 1 || ((ck_sh c).1 == 2 && (ck_sh c).2 == 64) || ((ck_sh c).1 == 3 && decide ((ck_sh c).2 < 7))) && decide ((ck_sh c).2 ≤ 5248)
def ck_frok (c : Nat) : Bool := (ck_sh c).1 != 3 || (List.range (ck_nF (ck_sh c).2)).all (fun k => match ck_fr (ck_sh c).2 k c with
  | some q => decide (0 ≤ q.1 ∧ q.1 < 501) && (ck_sh q.1.toNat == q.2)
  | none => true)
theorem ck_shok_all : (List.range 501).all ck_shok = true := by decide +kernel
theorem ck_frok_all : (List.range 501).all ck_frok = true := by decide +kernel
theorem ck_sh_cases {c : Nat} (h : c < 501) : ((ck_sh c).1 = 0 ∨ (ck_sh c).1 = 1 ∨ ((ck_sh c).1 = 2 ∧ (ck_sh c).2 = 64) ∨ ((ck_sh c).1 = 3 ∧ (ck_sh c).2 < 7)) ∧ (ck_sh c).2 ≤ 5248 := by
  have h1 := List.all_eq_true.mp ck_shok_all c (List.mem_range.mpr h)
  simpa [ck_shok, or_assoc] using h1
theorem ck_fr_wt {c : Int} {ci k : Nat} {q : Int × Nat × Nat} (hw : ck_wt (.inr (c, 3, ci))) (hk : k < ck_nF ci) (hq : ck_fr ci k c = some q) : ck_wt (.inr q) := by
  obtain ⟨h0, h1, h2⟩ := hw
  have hc : ((c.toNat : Nat) : Int) = c := Int.toNat_of_nonneg h0
  have h3 := List.all_eq_true.mp ck_frok_all c.toNat (List.mem_range.mpr (by omega))
  simp only at h2 h1 h0
  rw [ck_frok, h2] at h3
  simp only [bne_self_eq_false, Bool.false_or] at h3
  have h4 := List.all_eq_true.mp h3 k (List.mem_range.mpr hk)
  rw [hc, hq] at h4
  simp only [Bool.and_eq_true, decide_eq_true_eq, beq_iff_eq] at h4
  exact ⟨h4.1.1, h4.1.2, h4.2⟩
theorem ck_cl_r {ci : Nat} {r : vw_C} (h : ck_cl[ci]? = some r) : ck_nF ci = r.2.2 ∧ (∀ k, k < r.2.2 → (r.2.1 k).1 = r.1) ∧ (∀ w ∈ u_ws r.1 r.2.1 r.2.2, w ∈ ck_GW) ∧ (∃ ty : Nat → FieldType, ∀ k, k < r.2.2 → parseFieldDescriptor (r.2.1 k).2.2.1 = some (ty k)) ∧ (∀ a, a < r.2.2 → ∀ b, b < r.2.2 → a ≠ b → (r.2.1 a).2.1 ≠ (r.2.1 b).2.1) := by
  match ci, h with
  | 0, h => cases h; exact ⟨rfl, by decide +kernel, ck_in0, ⟨ck_ty0, ck_tyok0⟩, ck_nm0⟩
  | 1, h => cases h; exact ⟨rfl, by decide +kernel, ck_in1, ⟨ck_ty1, ck_tyok1⟩, ck_nm1⟩
  | 2, h => cases h; exact ⟨rfl, by decide +kernel, ck_in2, ⟨ck_ty2, ck_tyok2⟩, ck_nm2⟩
  | 3, h => cases h; exact ⟨rfl, by decide +kernel, ck_in3, ⟨ck_ty3, ck_tyok3⟩, ck_nm3⟩
  | 4, h => cases h; exact ⟨rfl, by decide +kernel, ck_in4, ⟨ck_ty4, ck_tyok4⟩, ck_nm4⟩
  | 5, h => cases h; exact ⟨rfl, by decide +kernel, ck_in5, ⟨ck_ty5, ck_tyok5⟩, ck_nm5⟩
  | 6, h => cases h; exact ⟨rfl, by decide +kernel, ck_in6, ⟨ck_ty6, ck_tyok6⟩, ck_nm6⟩
theorem ck_en3 {ad : Nat → Nat} {cs : ck_Cs} {σ : ck_M} {c : Int} {ci : Nat} (hw : ck_wt (.inr (c, 3, ci))) : ck_en ad cs σ c.toNat = .inr (ci, ck_fs ad σ ci c) := by
  obtain ⟨h0, h1, h2⟩ := hw
  simp only at h0 h2
  unfold ck_en
  rw [h2, Int.toNat_of_nonneg h0]
  rfl
theorem ck_en0 {ad : Nat → Nat} {cs : ck_Cs} {σ : ck_M} {c : Int} {n : Nat} (hw : ck_wt (.inr (c, 0, n))) : ck_en ad cs σ c.toNat = .inl (cs.1, n, .inl (fun j => Int32.ofInt (σ c j))) := by
  obtain ⟨h0, h1, h2⟩ := hw
  simp only at h0 h2
  unfold ck_en
  rw [h2, Int.toNat_of_nonneg h0]
  rfl
theorem ck_en1 {ad : Nat → Nat} {cs : ck_Cs} {σ : ck_M} {c : Int} {n : Nat} (hw : ck_wt (.inr (c, 1, n))) : ck_en ad cs σ c.toNat = .inl (cs.2.1, n, .inl (fun j => Int32.ofInt (σ c j))) := by
  obtain ⟨h0, h1, h2⟩ := hw
  simp only at h0 h2
  unfold ck_en
  rw [h2, Int.toNat_of_nonneg h0]
  rfl
theorem ck_en2 {ad : Nat → Nat} {cs : ck_Cs} {σ : ck_M} {c : Int} {n : Nat} (hw : ck_wt (.inr (c, 2, n))) : ck_en ad cs σ c.toNat = .inl (cs.2.2, n, .inr (.inr (.inr (.inr (fun j => some (ad (25 + 7 * j))))))) ∧ n = 64 := by
  obtain ⟨h0, h1, h2⟩ := hw
  simp only at h0 h1 h2
  have h3 := ck_sh_cases (c := c.toNat) (by omega)
  rw [h2] at h3
  refine ⟨?_, ?_⟩
  · unfold ck_en
    rw [h2]
    rfl
  · rcases h3.1 with h | h | h | h
    · simp at h
    · simp at h
    · exact h.2
    · simp at h
theorem ck_wt_lt {c : Int} {q : Nat × Nat} (hw : ck_wt (.inr (c, q))) : c.toNat < 501 ∧ 0 ≤ c := by
  obtain ⟨h0, h1, -⟩ := hw
  simp only at h0 h1
  omega
theorem ck_wt_len {c : Int} {k n : Nat} (hw : ck_wt (.inr (c, k, n))) : n ≤ 5248 := by
  obtain ⟨h0, h1, h2⟩ := hw
  simp only at h0 h1 h2
  have h3 := (ck_sh_cases (c := c.toNat) (by omega)).2
  rw [h2] at h3
  exact h3
theorem ck_wt_before {i : Int} (h0 : 0 ≤ i) (h1 : i < 64) : ck_wt (.inr (25 + 7 * i, 3, 0)) := by
  refine ⟨by show 0 ≤ 25 + 7 * i; omega, by show 25 + 7 * i < 501; omega, ?_⟩
  show ck_sh (25 + 7 * i).toNat = (3, 0)
  have e : (25 + 7 * i).toNat = 25 + 7 * i.toNat := by omega
  rw [e]
  unfold ck_sh
  rw [if_neg (by omega), if_pos (by omega)]
  have e2 : (25 + 7 * i.toNat - 25) % 7 = 0 := by omega
  rw [e2]
  rfl
/-! variables -/
def ck_LR (ad : Nat → Nat) (ls : Array Slot) (nL : Nat) (L : ck_Ls) : Prop := L.length = nL ∧ ls.size = nL ∧ lv_wf ls ∧ ∀ (i : Nat) (v : ck_PV), L[i]? = some (some v) → ls[i]? = some (.val (ck_vv ad v))
theorem ck_cat (ad : Nat → Nat) (v : ck_PV) : (ck_vv ad v).category = 1 := by cases v <;> rfl
theorem ck_sum (ad : Nat → Nat) (st : List ck_PV) : ((st.map (ck_vv ad)).map fun v => v.category).sum = st.length := by
  induction st with
  | nil => rfl
  | cons a r ih => simp only [List.map_cons, List.sum_cons, ck_cat, ih, List.length_cons]; omega
def ck_lv (ad : Nat → Nat) (nL : Nat) (L : ck_Ls) : List (Nat × Value) := (List.range nL).filterMap (fun i => match L[i]? with
  | some (some v) => some (i, ck_vv ad v)
  | _ => none)
theorem ck_lv_mem {ad : Nat → Nat} {nL : Nat} {L : ck_Ls} {q : Nat × Value} : q ∈ ck_lv ad nL L ↔ q.1 < nL ∧ ∃ v, L[q.1]? = some (some v) ∧ q.2 = ck_vv ad v := by
  unfold ck_lv
  rw [List.mem_filterMap]
  constructor
  · rintro ⟨i, hi, h⟩
    have hi := List.mem_range.mp hi
    split at h
    · rename_i v hv
      cases h
      exact ⟨hi, v, hv, rfl⟩
    · cases h
  · rintro ⟨hi, v, hv, h⟩
    obtain ⟨i, w⟩ := q
    subst h
    exact ⟨i, List.mem_range.mpr hi, by simp only at hv ⊢; rw [hv]⟩
theorem ck_has {ad : Nat → Nat} {ls : Array Slot} {nL : Nat} {L : ck_Ls} (h : ck_LR ad ls nL L) : lv_has ls nL (ck_lv ad nL L) := by
  refine ⟨h.2.1, h.2.2.1, fun q hq => ?_⟩
  obtain ⟨-, v, hv, e⟩ := ck_lv_mem.mp hq
  rw [e]
  exact h.2.2.2 _ _ hv
theorem ck_set {ad : Nat → Nat} {ls' : Array Slot} {nL i : Nat} {L : ck_Ls} {v : ck_PV} (hl : L.length = nL) (h : lv_has ls' nL ((i, ck_vv ad v) :: (ck_lv ad nL L).filter (fun q => !(q.1 == i) && !(q.1 + 1 == i && q.2.category == 2)))) : ck_LR ad ls' nL (L.set i (some v)) := by
  refine ⟨by simpa using hl, h.1, h.2.1, fun j w hw => ?_⟩
  by_cases hj : i = j
  · subst hj
    by_cases hi : i < L.length
    · rw [List.getElem?_set_self hi] at hw
      cases hw
      exact h.2.2 _ List.mem_cons_self
    · rw [List.getElem?_eq_none (by simp; omega)] at hw
      cases hw
  · rw [List.getElem?_set_ne hj] at hw
    refine h.2.2 (j, ck_vv ad w) (List.mem_cons_of_mem _ (List.mem_filter.mpr ⟨ck_lv_mem.mpr ⟨?_, w, hw, rfl⟩, ?_⟩))
    · have := (List.getElem?_eq_some_iff.mp hw).1
      omega
    · have h1 : (j == i) = false := by simp; omega
      simp [h1, ck_cat]
/-! whole numbers and ints -/
theorem ck_toI {x : Int} (h : ck_rg x) : (Int32.ofInt x).toInt = x := Int32.toInt_ofInt_of_le (by have := h.1; omega) (by have := h.2; omega)
theorem ck_lt {x y : Int} (hx : ck_rg x) (hy : ck_rg y) : Int32.ofInt x < Int32.ofInt y ↔ x < y := by rw [Int32.lt_iff_toInt_lt, ck_toI hx, ck_toI hy]
theorem ck_le {x y : Int} (hx : ck_rg x) (hy : ck_rg y) : Int32.ofInt x ≤ Int32.ofInt y ↔ x ≤ y := by rw [Int32.le_iff_toInt_le, ck_toI hx, ck_toI hy]
theorem ck_eq {x y : Int} (hx : ck_rg x) (hy : ck_rg y) : Int32.ofInt x = Int32.ofInt y ↔ x = y := by rw [← Int32.toInt_inj, ck_toI hx, ck_toI hy]
theorem ck_rg0 : ck_rg 0 := ⟨by decide, by decide⟩
theorem ck_clamp {x : Int} (h0 : 0 ≤ x) (h : x < 2147483648) : (Int32.ofInt x).toNatClampNeg = x.toNat := Int32.toNatClampNeg_ofInt_of_le (by omega) (by omega)
theorem ck_vin {x : Int} {n : Nat} (h0 : 0 ≤ x) (h : x < n) (hn : n ≤ 5248) : vp_in (Int32.ofInt x) n := by
  refine vp_in_iff.mpr ?_
  rw [ck_toI ⟨by omega, by omega⟩]
  exact ⟨h0, h⟩
end
section
/-! One step of the pure machine is one instruction of the machine. -/
theorem ck_ild_inv {pc i : Nat} {L : ck_Ls} {st : List ck_PV} {σ : ck_M} {ps : List Prop} {X : ck_F} (h : ck_ild pc i L st σ = some (ps, X)) : ps = [] ∧ ∃ x, L[i]? = some (some (.inl x)) ∧ X = (pc, L, .inl x :: st, σ) := by
  unfold ck_ild at h
  split at h
  · rename_i x hx
    cases h
    exact ⟨rfl, x, hx, rfl⟩
  · cases h
theorem ck_ald_inv {pc i : Nat} {L : ck_Ls} {st : List ck_PV} {σ : ck_M} {ps : List Prop} {X : ck_F} (h : ck_ald pc i L st σ = some (ps, X)) : ps = [] ∧ ∃ x, L[i]? = some (some (.inr x)) ∧ X = (pc, L, .inr x :: st, σ) := by
  unfold ck_ald at h
  split at h
  · rename_i x hx
    cases h
    exact ⟨rfl, x, hx, rfl⟩
  · cases h
theorem ck_ist_inv {pc i : Nat} {L : ck_Ls} {st : List ck_PV} {σ : ck_M} {ps : List Prop} {X : ck_F} (h : ck_ist pc i L st σ = some (ps, X)) : ps = [] ∧ ∃ x r, st = .inl x :: r ∧ i < L.length ∧ X = (pc, L.set i (some (.inl x)), r, σ) := by
  unfold ck_ist at h
  split at h
  · rename_i x r
    split at h
    · rename_i hi
      cases h
      exact ⟨rfl, x, r, rfl, hi, rfl⟩
    · cases h
  · cases h
theorem ck_ast_inv {pc i : Nat} {L : ck_Ls} {st : List ck_PV} {σ : ck_M} {ps : List Prop} {X : ck_F} (h : ck_ast pc i L st σ = some (ps, X)) : ps = [] ∧ ∃ x r, st = .inr x :: r ∧ i < L.length ∧ X = (pc, L.set i (some (.inr x)), r, σ) := by
  unfold ck_ast at h
  split at h
  · rename_i x r
    split at h
    · rename_i hi
      cases h
      exact ⟨rfl, x, r, rfl, hi, rfl⟩
    · cases h
  · cases h
theorem ck_inc_inv {pc i : Nat} {n : Int} {L : ck_Ls} {st : List ck_PV} {σ : ck_M} {ps : List Prop} {X : ck_F} (h : ck_inc pc i n L st σ = some (ps, X)) : ps = [] ∧ ∃ x, L[i]? = some (some (.inl x)) ∧ X = (pc, L.set i (some (.inl (x + n))), st, σ) := by
  unfold ck_inc at h
  split at h
  · rename_i x hx
    cases h
    exact ⟨rfl, x, hx, rfl⟩
  · cases h
theorem ck_bin_inv {f : Int → Int → Int} {pc : Nat} {L : ck_Ls} {st : List ck_PV} {σ : ck_M} {ps : List Prop} {X : ck_F} (h : ck_bin f pc L st σ = some (ps, X)) : ps = [] ∧ ∃ x y r, st = .inl y :: .inl x :: r ∧ X = (pc + 1, L, .inl (f x y) :: r, σ) := by
  unfold ck_bin at h
  split at h
  · rename_i y x r
    cases h
    exact ⟨rfl, x, y, r, rfl, rfl⟩
  · cases h
theorem ck_getf_inv {pc aux : Nat} {L : ck_Ls} {st : List ck_PV} {σ : ck_M} {ps : List Prop} {X : ck_F} (h : ck_getf pc aux L st σ = some (ps, X)) : ps = [] ∧ ∃ c r, st = .inr (c, 3, aux / 100) :: r ∧ ((∃ q, ck_fr (aux / 100) (aux % 100) c = some q ∧ X = (pc + 3, L, .inr q :: r, σ)) ∨ (ck_fr (aux / 100) (aux % 100) c = none ∧ X = (pc + 3, L, .inl (σ c (aux % 100 : Nat)) :: r, σ))) := by
  unfold ck_getf at h
  split at h
  · rename_i c ci r
    split at h
    · rename_i hi
      subst hi
      split at h
      · rename_i q hq
        cases h
        exact ⟨rfl, c, r, rfl, Or.inl ⟨q, hq, rfl⟩⟩
      · rename_i hq
        cases h
        exact ⟨rfl, c, r, rfl, Or.inr ⟨hq, rfl⟩⟩
    · cases h
  · cases h
theorem ck_putf_inv {pc aux : Nat} {z : Int} {L : ck_Ls} {st : List ck_PV} {σ : ck_M} {ps : List Prop} {X : ck_F} (h : ck_putf pc aux z L st σ = some (ps, X)) : ∃ x c r, st = .inl x :: .inr (c, 3, aux / 100) :: r ∧ ck_fr (aux / 100) (aux % 100) c = none ∧ ps = (if z = 0 then [] else [x = 0 ∨ x = 1]) ∧ X = (pc + 3, L, r, ck_up σ c (aux % 100 : Nat) x) := by
  unfold ck_putf at h
  split at h
  · rename_i x c ci r
    split at h
    · rename_i hi
      subst hi
      split at h
      · cases h
      · rename_i hq
        cases h
        exact ⟨x, c, r, rfl, hq, rfl, rfl⟩
    · cases h
  · cases h
theorem ck_aldI_inv {pc : Nat} {L : ck_Ls} {st : List ck_PV} {σ : ck_M} {ps : List Prop} {X : ck_F} (h : ck_aldI pc L st σ = some (ps, X)) : ∃ i a n r, st = .inl i :: .inr (a, 0, n) :: r ∧ ps = [0 ≤ i ∧ i < (n : Int)] ∧ X = (pc + 1, L, .inl (σ a i) :: r, σ) := by
  unfold ck_aldI at h
  split at h
  · cases h
    exact ⟨_, _, _, _, rfl, rfl, rfl⟩
  · cases h
theorem ck_aldZ_inv {pc : Nat} {L : ck_Ls} {st : List ck_PV} {σ : ck_M} {ps : List Prop} {X : ck_F} (h : ck_aldZ pc L st σ = some (ps, X)) : ∃ i a n r, st = .inl i :: .inr (a, 1, n) :: r ∧ ps = [0 ≤ i ∧ i < (n : Int)] ∧ X = (pc + 1, L, .inl (σ a i) :: r, σ) := by
  unfold ck_aldZ at h
  split at h
  · cases h
    exact ⟨_, _, _, _, rfl, rfl, rfl⟩
  · cases h
theorem ck_aldA_inv {pc : Nat} {L : ck_Ls} {st : List ck_PV} {σ : ck_M} {ps : List Prop} {X : ck_F} (h : ck_aldA pc L st σ = some (ps, X)) : ∃ i a n r, st = .inl i :: .inr (a, 2, n) :: r ∧ ps = [0 ≤ i ∧ i < (n : Int)] ∧ X = (pc + 1, L, .inr (25 + 7 * i, 3, 0) :: r, σ) := by
  unfold ck_aldA at h
  split at h
  · cases h
    exact ⟨_, _, _, _, rfl, rfl, rfl⟩
  · cases h
theorem ck_astI_inv {pc : Nat} {L : ck_Ls} {st : List ck_PV} {σ : ck_M} {ps : List Prop} {X : ck_F} (h : ck_astI pc L st σ = some (ps, X)) : ∃ x i a n r, st = .inl x :: .inl i :: .inr (a, 0, n) :: r ∧ ps = [0 ≤ i ∧ i < (n : Int)] ∧ X = (pc + 1, L, r, ck_up σ a i x) := by
  unfold ck_astI at h
  split at h
  · cases h
    exact ⟨_, _, _, _, _, rfl, rfl, rfl⟩
  · cases h
theorem ck_astZ_inv {pc : Nat} {L : ck_Ls} {st : List ck_PV} {σ : ck_M} {ps : List Prop} {X : ck_F} (h : ck_astZ pc L st σ = some (ps, X)) : ∃ x i a n r, st = .inl x :: .inl i :: .inr (a, 1, n) :: r ∧ ps = [0 ≤ i ∧ i < (n : Int), x = 0 ∨ x = 1] ∧ X = (pc + 1, L, r, ck_up σ a i x) := by
  unfold ck_astZ at h
  split at h
  · cases h
    exact ⟨_, _, _, _, _, rfl, rfl, rfl⟩
  · cases h
theorem ck_aln_inv {pc : Nat} {L : ck_Ls} {st : List ck_PV} {σ : ck_M} {ps : List Prop} {X : ck_F} (h : ck_aln pc L st σ = some (ps, X)) : ps = [] ∧ ∃ a kd n r, st = .inr (a, kd, n) :: r ∧ (kd = 0 ∨ kd = 1 ∨ kd = 2) ∧ X = (pc + 1, L, .inl (n : Int) :: r, σ) := by
  unfold ck_aln at h
  split at h
  · cases h
    exact ⟨rfl, _, _, _, _, rfl, Or.inl rfl, rfl⟩
  · cases h
    exact ⟨rfl, _, _, _, _, rfl, Or.inr (Or.inl rfl), rfl⟩
  · cases h
    exact ⟨rfl, _, _, _, _, rfl, Or.inr (Or.inr rfl), rfl⟩
  · cases h
theorem ck_acp_inv {pc : Nat} {L : ck_Ls} {st : List ck_PV} {σ : ck_M} {ps : List Prop} {X : ck_F} (h : ck_acp pc L st σ = some (ps, X)) : ∃ n d b nb s0 a na, st = [.inl n, .inl d, .inr (b, 0, nb), .inl s0, .inr (a, 0, na)] ∧ ps = [s0 = 0, d = 0, 0 ≤ n, n ≤ (na : Int), n ≤ (nb : Int)] ∧ X = (pc + 3, L, [], ck_cpy σ a b n) := by
  unfold ck_acp at h
  split at h
  · cases h
    exact ⟨_, _, _, _, _, _, _, rfl, rfl, rfl⟩
  · cases h
theorem ck_lookup1 {l : List (Nat × ck_En)} {k : Nat} {v : ck_En} (h : ck_lk1 l k = some v) : (k, v) ∈ l := by
  induction l with
  | nil => cases h
  | cons a r ih =>
    obtain ⟨k', v'⟩ := a
    unfold ck_lk1 at h
    by_cases hk : Nat.beq k k' = true
    · rw [hk] at h
      cases h
      rw [Nat.eq_of_beq_eq_true hk]
      exact List.mem_cons_self
    · rw [Bool.not_eq_true] at hk
      rw [hk] at h
      exact List.mem_cons_of_mem _ (ih h)
theorem ck_lookup {l : ck_Tb} {k : Nat} {v : ck_En} (h : ck_lk l k = some v) : ∃ ch ∈ l, (k, v) ∈ ch.2 := by
  induction l with
  | nil => cases h
  | cons a r ih =>
    obtain ⟨b, c⟩ := a
    unfold ck_lk at h
    by_cases hk : Nat.ble b k = true
    · rw [hk] at h
      obtain ⟨ch, h1, h2⟩ := ih h
      exact ⟨ch, List.mem_cons_of_mem _ h1, h2⟩
    · rw [Bool.not_eq_true] at hk
      rw [hk] at h
      exact ⟨(b, c), List.mem_cons_self, ck_lookup1 h⟩
theorem ck_entry {md : ck_MD} {pc : Nat} {en : ck_En} (hm : ck_mok md) (h : ck_lk (ck_mT md) pc = some en) : decode (ck_mB md) pc = .ok (en.1, ck_len en) ∧ ck_okx (ck_mN md).cls pc en = true := by
  obtain ⟨ch, hc1, hc2⟩ := ck_lookup h
  have h1 := List.all_eq_true.mp (List.all_eq_true.mp hm.2.2.2.2.2.2.2 ch hc1) _ hc2
  simp only [ck_ok, Bool.and_eq_true, decide_eq_true_eq] at h1
  exact h1
theorem ck_wd_in {hint : Nat} {w : Cond} (h : ck_wd hint w = true) : w ∈ ck_GW := by
  simp only [ck_wd, Bool.and_eq_true, decide_eq_true_eq] at h
  exact ck_gw hint h.1 h.2
set_option maxRecDepth 20000 in
theorem ck_natw : Cond.native arraycopyName ∈ ck_GW := ck_gw 531 (by decide +kernel) (by decide +kernel)
set_option maxRecDepth 20000 in
theorem ck_natS : Cond.static arraycopyName ∈ ck_GW := ck_gw 530 (by decide +kernel) (by decide +kernel)
set_option maxRecDepth 20000 in
theorem ck_natI : Cond.initialized "java/lang/System" ∈ ck_GW := ck_gw 70 (by decide +kernel) (by decide +kernel)
theorem ck_ofz : Int32.ofInt 0 = 0 := by decide
theorem ck_fs_get {ad : Nat → Nat} {σ : ck_M} {ci k : Nat} {c : Int} (hk : k < ck_nF ci) : (ck_fs ad σ ci c)[k]? = some (ck_fv ad σ ci c k) := by
  simp [ck_fs, hk]
theorem ck_fs_set {ad : Nat → Nat} {σ : ck_M} {ci k : Nat} {c x : Int} (hk : k < ck_nF ci) (hf : ck_fr ci k c = none) : (ck_fs ad σ ci c).set k (.int (Int32.ofInt x)) = ck_fs ad (ck_up σ c k x) ci c := by
  apply List.ext_getElem?
  intro j
  by_cases hj : j < ck_nF ci
  · by_cases hkj : k = j
    · subst hkj
      rw [List.getElem?_set_self (by simpa [ck_fs] using hk), ck_fs_get hk, ck_fv, hf]
      simp [ck_up]
    · rw [List.getElem?_set_ne hkj, ck_fs_get hj, ck_fs_get hj]
      have e : ck_up σ c k x c j = σ c j := by
        unfold ck_up
        rw [if_neg (by rintro ⟨-, h⟩; omega)]
      unfold ck_fv
      rw [e]
  · rw [List.getElem?_eq_none (by simp [ck_fs]; omega), List.getElem?_eq_none (by simp [ck_fs]; omega)]
theorem ck_up_ne {σ : ck_M} {c k x : Int} {b : Nat} (h : b ≠ c.toNat) (h0 : 0 ≤ c) (j : Int) : ck_up σ c k x b j = σ b j := by
  unfold ck_up
  rw [if_neg (by rintro ⟨h1, -⟩; omega)]
section CKS
variable {p : Program} {l : Launch} {e : Env} {R : Room} {s : State} {m : MethodId} {args : Array Value} {below : List Frame} {meth : Method} {c : Code} {cells slots : Nat} {Q : State → Prop}
variable {D : va_G} {ad : Nat → Nat} {cs : ck_Cs} {A : Nat → Prop} {H0 : Heap} {md : ck_MD}
/-- from every state of the machine that X describes -/
def ck_W (p : Program) (l : Launch) (e : Env) (R : Room) (s : State) (m : MethodId) (args : Array Value) (below : List Frame) (meth : Method) (c : Code) (cells slots : Nat) (Q : State → Prop) (D : va_G) (ad : Nat → Nat) (cs : ck_Cs) (A : Nat → Prop) (H0 : Heap) (nL : Nat) (X : ck_F) : Prop :=
  ∀ (H : Heap) (locs : List Loc) (ls : Array Slot), va_P D ck_cl (ck_ws ad cs X.2.2.2) H → va_S A H0 H locs → ck_LR ad ls nL X.2.1 → (∀ v, some v ∈ X.2.1 → ck_wt v) → (∀ v ∈ X.2.2.1, ck_wt v) → W p l e R s m args below meth c H locs cells slots Q (F0 m X.1 ls (X.2.2.1.map (ck_vv ad)))
/-- what holds all the while -/
def ck_Cx (p : Program) (R : Room) (s : State) (m : MethodId) (args : Array Value) (c : Code) (D : va_G) (ad : Nat → Nat) (cs : ck_Cs) (A : Nat → Prop) (H0 : Heap) (md : ck_MD) : Prop :=
  p.tables.exec = Jvm.exec ∧ c.code = ck_mB md ∧ c.maxLocals = ck_mL md ∧ s.vm.findClass (ck_mN md).cls = some m.cls ∧ (∀ w ∈ ck_GW, w.before args s = true) ∧ va_K D ck_cl (ck_tys cs) s ∧ (∀ σ, va_D A (ck_ws ad cs σ)) ∧ (∀ q, H0.size ≤ q → A q) ∧ ck_mok md ∧ (1 ≤ R.frames ∧ 30 ≤ R.locals)
theorem ck_wl_set {L : ck_Ls} {i : Nat} {v : ck_PV} (h : ∀ v, some v ∈ L → ck_wt v) (hv : ck_wt v) : ∀ w, some w ∈ L.set i (some v) → ck_wt w := by
  intro w hw
  rcases List.mem_or_eq_of_mem_set hw with h1 | h1
  · exact h w h1
  · cases h1
    exact hv
theorem ck_top {H : Heap} {locs : List Loc} {pc : Nat} {ls : Array Slot} {rest : List Value} {a b : Int32} (h : a = b) (k : W p l e R s m args below meth c H locs cells slots Q (F0 m pc ls (.int b :: rest))) : W p l e R s m args below meth c H locs cells slots Q (F0 m pc ls (.int a :: rest)) := h ▸ k
theorem ck_s_getf {H : Heap} {locs : List Loc} {ls : Array Slot} {pc idx aux hint : Nat} {cc : Int} {r : List ck_PV} {σ : ck_M} (Cx : ck_Cx p R s m args c D ad cs A H0 md) (hd : decode (ck_mB md) pc = .ok (.getfield idx, 3)) (ho : ck_okF (ck_mN md).cls idx aux hint = true) (hw : ck_wt (.inr (cc, 3, aux / 100))) (hP : va_P D ck_cl (ck_ws ad cs σ) H)
    (k : aux % 100 < ck_nF (aux / 100) → W p l e R s m args below meth c H locs cells slots Q (F0 m (pc + 3) ls (ck_fv ad σ (aux / 100) cc (aux % 100) :: r.map (ck_vv ad)))) : W p l e R s m args below meth c H locs cells slots Q (F0 m pc ls (.ref (ad cc.toNat) :: r.map (ck_vv ad))) := by
  obtain ⟨hx, hb, hml, hown, hts, hK, hD, hA, hmok, hR⟩ := Cx
  unfold ck_okF at ho
  split at ho
  · rename_i rr hr
    simp only [Bool.and_eq_true, decide_eq_true_eq] at ho
    obtain ⟨hN, hT, hin, -, -⟩ := ck_cl_r hr
    have hk : aux % 100 < ck_nF (aux / 100) := by rw [hN]; exact ho.1
    exact va_get (D := D) (cl := ck_cl) (tys := ck_tys cs) (ci := aux / 100) (C := rr.1) (T := rr.2.1) (N := rr.2.2) hx hb hts hin hown hK hP cc.toNat (fs := ck_fs ad σ (aux / 100) cc) (by rw [ck_ws_get (ck_wt_lt hw).1, ck_en3 hw]) hr (aux % 100) ho.1 (hts _ (ck_wd_in ho.2)) (fun x h => by rw [← hT _ ho.1]; exact h) (ck_fs_get hk) hd (k hk)
  · cases ho
theorem ck_s_putf {H : Heap} {locs : List Loc} {ls : Array Slot} {pc idx aux hint : Nat} {z x cc : Int} {r : List ck_PV} {σ : ck_M} (Cx : ck_Cx p R s m args c D ad cs A H0 md) (hd : decode (ck_mB md) pc = .ok (.putfield idx, 3)) (ho : ck_okF (ck_mN md).cls idx aux hint = true) (ho2 : ck_okP aux z = true) (hw : ck_wt (.inr (cc, 3, aux / 100))) (hf : ck_fr (aux / 100) (aux % 100) cc = none) (hz : ck_all (if z = 0 then [] else [x = 0 ∨ x = 1])) (hP : va_P D ck_cl (ck_ws ad cs σ) H) (hS : va_S A H0 H locs)
    (k : ∀ (H1 : Heap) (locs1 : List Loc), va_P D ck_cl (ck_ws ad cs (ck_up σ cc (aux % 100 : Nat) x)) H1 → va_S A H0 H1 locs1 → W p l e R s m args below meth c H1 locs1 cells slots Q (F0 m (pc + 3) ls (r.map (ck_vv ad)))) : W p l e R s m args below meth c H locs cells slots Q (F0 m pc ls (.int (Int32.ofInt x) :: .ref (ad cc.toNat) :: r.map (ck_vv ad))) := by
  obtain ⟨hx, hb, hml, hown, hts, hK, hD, hA, hmok, hR⟩ := Cx
  unfold ck_okF at ho
  split at ho
  · rename_i rr hr
    simp only [Bool.and_eq_true, decide_eq_true_eq] at ho
    unfold ck_okP at ho2
    rw [hr] at ho2
    simp only [Bool.and_eq_true, decide_eq_true_eq, Bool.not_eq_true'] at ho2
    obtain ⟨hN, hT, hin, ⟨ty0, hty⟩, hnm⟩ := ck_cl_r hr
    have hk : aux % 100 < ck_nF (aux / 100) := by rw [hN]; exact ho.1
    have hlt := ck_wt_lt hw
    have hset : (ck_ws ad cs σ).set cc.toNat (ad cc.toNat, .inr (aux / 100, (ck_fs ad σ (aux / 100) cc).set (aux % 100) (.int (Int32.ofInt x)))) = ck_ws ad cs (ck_up σ cc (aux % 100 : Nat) x) :=
      ck_ws_set hlt.1 (by rw [ck_en3 hw, ck_fs_set hk hf]) (fun b hb' j => ck_up_ne hb' hlt.2 j)
    have hty2 : ∃ ty : FieldType, parseFieldDescriptor (rr.2.1 (aux % 100)).2.2.1 = some ty ∧ narrow ty (.int (Int32.ofInt x)) = .int (Int32.ofInt x) ∧ fits ty (.int (Int32.ofInt x)) = true := by
      by_cases h0 : z = 0
      · rw [if_pos h0] at ho2
        rw [ho2.2]
        exact ⟨.int, by decide +kernel, rfl, rfl⟩
      · rw [if_neg h0] at ho2 hz
        rw [ho2.2]
        refine ⟨.boolean, by decide +kernel, ?_⟩
        rcases hz.1 with h | h <;> subst h <;> exact ⟨by decide +kernel, by decide +kernel⟩
    obtain ⟨ty, hty1, hn, hfit⟩ := hty2
    refine va_put (D := D) (cl := ck_cl) (tys := ck_tys cs) (ci := aux / 100) (C := rr.1) (T := rr.2.1) (N := rr.2.2) (ty := ty) hx hb hts hin ty0 hty hnm hown hK hP (hD σ) hS cc.toNat (fs := ck_fs ad σ (aux / 100) cc) (by rw [ck_ws_get hlt.1, ck_en3 hw]) hr (aux % 100) ho.1 (hts _ (ck_wd_in ho.2)) (fun y h => by rw [← hT _ ho.1]; exact h) ho2.1 hty1 hn hfit (by simpa [ck_fs] using hk) hd (fun H1 locs1 hP1 _ hS1 => k H1 locs1 ?_ hS1)
    rw [hset] at hP1
    exact hP1
  · cases ho
end CKS
end
section
section CKS1
variable {p : Program} {l : Launch} {e : Env} {R : Room} {s : State} {m : MethodId} {args : Array Value} {below : List Frame} {meth : Method} {c : Code} {cells slots : Nat} {Q : State → Prop}
variable {D : va_G} {ad : Nat → Nat} {cs : ck_Cs} {A : Nat → Prop} {H0 : Heap} {md : ck_MD}
theorem ck_s_if {H : Heap} {locs : List Loc} {ls : Array Slot} {pc t : Nat} {rest : List Value} {x : Int} {off : Int} {bt : ByteArray} (cnd : ClassFile.Cond) (hx : p.tables.exec = Jvm.exec) (hb : c.code = bt) (hd : decode bt pc = .ok (.ifCond cnd off, 3)) (ht : (pc : Int) + off = (t : Int)) (hr : ck_rg x)
    (k : W p l e R s m args below meth c H locs cells slots Q (F0 m (ck_cond cnd x 0 t (pc + 3)) ls rest)) : W p l e R s m args below meth c H locs cells slots Q (F0 m pc ls (.int (Int32.ofInt x) :: rest)) := by
  have he : Int32.ofInt x = 0 ↔ x = 0 := by rw [← ck_ofz]; exact ck_eq hr ck_rg0
  have hl : Int32.ofInt x < 0 ↔ x < 0 := by rw [← ck_ofz]; exact ck_lt hr ck_rg0
  have hg : 0 < Int32.ofInt x ↔ 0 < x := by rw [← ck_ofz]; exact ck_lt ck_rg0 hr
  have hle : Int32.ofInt x ≤ 0 ↔ x ≤ 0 := by rw [← ck_ofz]; exact ck_le hr ck_rg0
  have hge : 0 ≤ Int32.ofInt x ↔ 0 ≤ x := by rw [← ck_ofz]; exact ck_le ck_rg0 hr
  cases cnd with
  | eq => exact lv_if_eq hx hb hd ht (fun h => by rw [ck_cond, if_pos (he.mp h)] at k; exact k) (fun h => by rw [ck_cond, if_neg (fun q => h (he.mpr q))] at k; exact k)
  | ne => exact lv_if_ne hx hb hd ht (fun h => by rw [ck_cond, if_neg (fun q => h (he.mpr q))] at k; exact k) (fun h => by rw [ck_cond, if_pos (he.mp h)] at k; exact k)
  | lt => exact lv_if_lt hx hb hd ht (fun h => by rw [ck_cond, if_pos (hl.mp h)] at k; exact k) (fun h => by rw [ck_cond, if_neg (fun q => h (hl.mpr q))] at k; exact k)
  | ge => exact lv_if_ge hx hb hd ht (fun h => by rw [ck_cond, if_neg (by have := hge.mp h; omega)] at k; exact k) (fun h => by rw [ck_cond, if_pos (by have := mt hge.mpr h; omega)] at k; exact k)
  | gt => exact lv_if_gt hx hb hd ht (fun h => by rw [ck_cond, if_pos (hg.mp h)] at k; exact k) (fun h => by rw [ck_cond, if_neg (fun q => h (hg.mpr q))] at k; exact k)
  | le => exact lv_if_le hx hb hd ht (fun h => by rw [ck_cond, if_neg (by have := hle.mp h; omega)] at k; exact k) (fun h => by rw [ck_cond, if_pos (by have := mt hle.mpr h; omega)] at k; exact k)
theorem ck_s_icmp {H : Heap} {locs : List Loc} {ls : Array Slot} {pc t : Nat} {rest : List Value} {x y : Int} {off : Int} {bt : ByteArray} (cnd : ClassFile.Cond) (hx : p.tables.exec = Jvm.exec) (hb : c.code = bt) (hd : decode bt pc = .ok (.if_icmp cnd off, 3)) (ht : (pc : Int) + off = (t : Int)) (hr : ck_rg x) (hr2 : ck_rg y)
    (k : W p l e R s m args below meth c H locs cells slots Q (F0 m (ck_cond cnd x y t (pc + 3)) ls rest)) : W p l e R s m args below meth c H locs cells slots Q (F0 m pc ls (.int (Int32.ofInt y) :: .int (Int32.ofInt x) :: rest)) := by
  have he : Int32.ofInt x = Int32.ofInt y ↔ x = y := ck_eq hr hr2
  have hl : Int32.ofInt x < Int32.ofInt y ↔ x < y := ck_lt hr hr2
  have hg : Int32.ofInt y < Int32.ofInt x ↔ y < x := ck_lt hr2 hr
  have hle : Int32.ofInt x ≤ Int32.ofInt y ↔ x ≤ y := ck_le hr hr2
  have hge : Int32.ofInt y ≤ Int32.ofInt x ↔ y ≤ x := ck_le hr2 hr
  cases cnd with
  | eq => exact lv_icmp_eq hx hb hd ht (fun h => by rw [ck_cond, if_pos (he.mp h)] at k; exact k) (fun h => by rw [ck_cond, if_neg (fun q => h (he.mpr q))] at k; exact k)
  | ne => exact lv_icmp_ne hx hb hd ht (fun h => by rw [ck_cond, if_neg (fun q => h (he.mpr q))] at k; exact k) (fun h => by rw [ck_cond, if_pos (he.mp h)] at k; exact k)
  | lt => exact lv_icmp_lt hx hb hd ht (fun h => by rw [ck_cond, if_pos (hl.mp h)] at k; exact k) (fun h => by rw [ck_cond, if_neg (fun q => h (hl.mpr q))] at k; exact k)
  | ge => exact lv_icmp_ge hx hb hd ht (fun h => by rw [ck_cond, if_neg (by have := hge.mp h; omega)] at k; exact k) (fun h => by rw [ck_cond, if_pos (by have := mt hge.mpr h; omega)] at k; exact k)
  | gt => exact lv_icmp_gt hx hb hd ht (fun h => by rw [ck_cond, if_pos (hg.mp h)] at k; exact k) (fun h => by rw [ck_cond, if_neg (fun q => h (hg.mpr q))] at k; exact k)
  | le => exact lv_icmp_le hx hb hd ht (fun h => by rw [ck_cond, if_neg (by have := hle.mp h; omega)] at k; exact k) (fun h => by rw [ck_cond, if_pos (by have := mt hle.mpr h; omega)] at k; exact k)
theorem ck_s_sw {H : Heap} {locs : List Loc} {ls : Array Slot} {pc t len : Nat} {rest : List Value} {x dflt lo hi : Int} {offs : Array Int} {tl : List Nat} {bt : ByteArray} (hx : p.tables.exec = Jvm.exec) (hb : c.code = bt) (hd : decode bt pc = .ok (.tableswitch dflt lo hi offs, len)) (ht : (pc : Int) + dflt = (t : Int)) (hl : offs.toList.map (fun o => (pc : Int) + o) = tl.map (fun t : Nat => (t : Int))) (hh : hi - lo + 1 = offs.size) (hr : ck_rg x)
    (k : W p l e R s m args below meth c H locs cells slots Q (F0 m (ck_sw lo x t tl) ls rest)) : W p l e R s m args below meth c H locs cells slots Q (F0 m pc ls (.int (Int32.ofInt x) :: rest)) := by
  have hlen : tl.length = offs.size := by
    have h := congrArg List.length hl
    simpa using h.symm
  unfold ck_sw at k
  by_cases h1 : x < lo
  · rw [if_pos h1] at k
    exact lv_tableOut hx hb hd (Or.inl (by rw [ck_toI hr]; exact h1)) ht k
  · rw [if_neg h1] at k
    by_cases h2 : hi < x
    · rw [List.getElem?_eq_none (by omega)] at k
      exact lv_tableOut hx hb hd (Or.inr (by rw [ck_toI hr]; exact h2)) ht k
    · have hj : (x - lo).toNat < offs.size := by omega
      have h3 := congrArg (fun z => z[(x - lo).toNat]?) hl
      simp only [List.getElem?_map, Array.getElem?_toList] at h3
      rw [Array.getElem?_eq_getElem hj, List.getElem?_eq_getElem (by omega)] at h3
      rw [List.getElem?_eq_getElem (by omega)] at k
      exact lv_tableIn hx hb hd (by rw [ck_toI hr]; exact h1) (by rw [ck_toI hr]; exact h2) (off := offs[(x - lo).toNat]) (by rw [ck_toI hr, Array.getElem?_eq_getElem hj]) (by simpa using h3) k
theorem ck_en_ast {cs : ck_Cs} {σ : ck_M} {a : Int} {i x : Int} (hi : 0 ≤ i) : (fun j : Nat => Int32.ofInt (ck_up σ a i x a j)) = upd (fun j : Nat => Int32.ofInt (σ a j)) i.toNat (Int32.ofInt x) := by
  funext j
  unfold ck_up upd
  by_cases h : j = i.toNat
  · rw [if_pos h, if_pos ⟨rfl, by omega⟩]
  · rw [if_neg h, if_neg (by rintro ⟨-, h2⟩; omega)]
set_option maxHeartbeats 4000000 in
theorem ck_sim1 {X X1 : ck_F} {en : ck_En} {ps : List Prop} (Cx : ck_Cx p R s m args c D ad cs A H0 md) (hlk : ck_lk (ck_mT md) X.1 = some en) (hst : ck_step X.1 en X.2.1 X.2.2.1 X.2.2.2 = some (ps, X1)) (hps : ck_all ps)
    (k : ck_W p l e R s m args below meth c cells slots Q D ad cs A H0 (ck_mL md) X1) : ck_W p l e R s m args below meth c cells slots Q D ad cs A H0 (ck_mL md) X := by
  have Cx' := Cx
  obtain ⟨hx, hb, hml, hown, hts, hK, hD, hA, hmok, hR⟩ := Cx
  obtain ⟨pc, L, st, σ⟩ := X
  obtain ⟨hd, ho⟩ := ck_entry hmok hlk
  obtain ⟨i, aux, hint, cst, tl⟩ := en
  intro H locs ls hP hS hL hwl hws
  dsimp only at hst hd ho hP hS hL hwl hws ⊢
  have hlen := hL.1
  have bin : ∀ (f : Int → Int → Int) (g : Int32 → Int32 → Int32), (∀ x y, Int32.ofInt (f x y) = g (Int32.ofInt x) (Int32.ofInt y)) → ck_bin f pc L st σ = some (ps, X1) → (∀ x y : Int32, ∀ rest : List Value, W p l e R s m args below meth c H locs cells slots Q (F0 m (pc + 1) ls (.int (g x y) :: rest)) → W p l e R s m args below meth c H locs cells slots Q (F0 m pc ls (.int y :: .int x :: rest))) → W p l e R s m args below meth c H locs cells slots Q (F0 m pc ls (st.map (ck_vv ad))) := by
    intro f g hfg h kk
    obtain ⟨-, x, y, r, rfl, rfl⟩ := ck_bin_inv h
    refine kk (Int32.ofInt x) (Int32.ofInt y) (r.map (ck_vv ad)) ?_
    rw [← hfg]
    exact k H locs ls hP hS hL hwl (List.forall_mem_cons.mpr ⟨trivial, (List.forall_mem_cons.mp (List.forall_mem_cons.mp hws).2).2⟩)
  cases i
  case iconst n =>
    cases (show some (([] : List Prop), pc + 1, L, (.inl cst :: st : List ck_PV), σ) = some (ps, X1) from hst)
    exact lv_iconst hx hb hd (of_decide_eq_true ho) (k H locs ls hP hS hL hwl (List.forall_mem_cons.mpr ⟨trivial, hws⟩))
  case bipush n =>
    cases (show some (([] : List Prop), pc + 2, L, (.inl cst :: st : List ck_PV), σ) = some (ps, X1) from hst)
    exact lv_bipush hx hb hd (of_decide_eq_true ho) (k H locs ls hP hS hL hwl (List.forall_mem_cons.mpr ⟨trivial, hws⟩))
  case sipush n =>
    cases (show some (([] : List Prop), pc + 3, L, (.inl cst :: st : List ck_PV), σ) = some (ps, X1) from hst)
    exact lv_sipush hx hb hd (of_decide_eq_true ho) (k H locs ls hP hS hL hwl (List.forall_mem_cons.mpr ⟨trivial, hws⟩))
  case ldc n =>
    cases (show some (([] : List Prop), pc + 2, L, (.inl cst :: st : List ck_PV), σ) = some (ps, X1) from hst)
    exact lv_ldc hx hb hown (hts _ (ck_wd_in ho)) hd (k H locs ls hP hS hL hwl (List.forall_mem_cons.mpr ⟨trivial, hws⟩))
  case ldc_w n =>
    cases (show some (([] : List Prop), pc + 3, L, (.inl cst :: st : List ck_PV), σ) = some (ps, X1) from hst)
    exact lv_ldcw hx hb hown (hts _ (ck_wd_in ho)) hd (k H locs ls hP hS hL hwl (List.forall_mem_cons.mpr ⟨trivial, hws⟩))
  case iload n =>
    obtain ⟨-, x, hl, rfl⟩ := ck_ild_inv hst
    have hn : n = aux := of_decide_eq_true ho
    subst hn
    exact lv_iload hx hb hd (hL.2.2.2 _ _ hl) (k H locs ls hP hS hL hwl (List.forall_mem_cons.mpr ⟨trivial, hws⟩))
  case iload_n n =>
    obtain ⟨-, x, hl, rfl⟩ := ck_ild_inv hst
    exact lv_iload_n hx hb hd (of_decide_eq_true ho) (hL.2.2.2 _ _ hl) (k H locs ls hP hS hL hwl (List.forall_mem_cons.mpr ⟨trivial, hws⟩))
  case aload n =>
    obtain ⟨-, x, hl, rfl⟩ := ck_ald_inv hst
    have hn : n = aux := of_decide_eq_true ho
    subst hn
    exact lv_aload hx hb hd (hL.2.2.2 _ _ hl) (k H locs ls hP hS hL hwl (List.forall_mem_cons.mpr ⟨hwl _ (List.mem_of_getElem? hl), hws⟩))
  case aload_n n =>
    obtain ⟨-, x, hl, rfl⟩ := ck_ald_inv hst
    exact lv_aload_n hx hb hd (of_decide_eq_true ho) (hL.2.2.2 _ _ hl) (k H locs ls hP hS hL hwl (List.forall_mem_cons.mpr ⟨hwl _ (List.mem_of_getElem? hl), hws⟩))
  case istore n =>
    obtain ⟨-, x, r, rfl, hi, rfl⟩ := ck_ist_inv hst
    dsimp only at hi
    have hn : n = aux := of_decide_eq_true ho
    subst hn
    exact lv_istore hx hb hd (ck_has hL) (by omega) rfl (fun ls' h' => k H locs ls' hP hS (ck_set (v := .inl x) hlen h') (ck_wl_set hwl trivial) (List.forall_mem_cons.mp hws).2)
  case istore_n n =>
    obtain ⟨-, x, r, rfl, hi, rfl⟩ := ck_ist_inv hst
    dsimp only at hi
    exact lv_istore_n (i := aux) hx hb hd (of_decide_eq_true ho) (ck_has hL) (by omega) rfl (fun ls' h' => k H locs ls' hP hS (ck_set (v := .inl x) hlen h') (ck_wl_set hwl trivial) (List.forall_mem_cons.mp hws).2)
  case astore_n n =>
    obtain ⟨-, x, r, rfl, hi, rfl⟩ := ck_ast_inv hst
    dsimp only at hi
    have hv := (List.forall_mem_cons.mp hws).1
    exact lv_astore_n (i := aux) hx hb hd (of_decide_eq_true ho) (ck_has hL) (by omega) rfl (fun ls' h' => k H locs ls' hP hS (ck_set (v := .inr x) hlen h') (ck_wl_set hwl hv) (List.forall_mem_cons.mp hws).2)
  case iinc n z =>
    obtain ⟨-, x, hl, rfl⟩ := ck_inc_inv hst
    dsimp only at hl
    have ho : (decide (n = aux) && decide (Int32.ofInt z = Int32.ofInt cst)) = true := ho
    simp only [Bool.and_eq_true, decide_eq_true_eq] at ho
    obtain ⟨hn, hz⟩ := ho
    subst hn
    have hi := (List.getElem?_eq_some_iff.mp hl).1
    obtain ⟨k0, hk0⟩ := List.getElem?_of_mem (ck_lv_mem.mpr ⟨(by omega : n < ck_mL md), .inl x, hl, rfl⟩ : (n, ck_vv ad (.inl x)) ∈ ck_lv ad (ck_mL md) L)
    exact lv_iinc hx hb hd (ck_has hL) hk0 (v := Int32.ofInt (x + cst)) (by rw [Int32.ofInt_add, hz]) (by omega) rfl (fun ls' h' => k H locs ls' hP hS (ck_set (v := .inl (x + cst)) hlen h') (ck_wl_set hwl trivial) hws)
  case iadd => exact bin (fun x y => x + y) (fun x y => x + y) (fun x y => Int32.ofInt_add x y) hst (fun x y rest kk => lv_iadd hx hb hd kk)
  case isub => exact bin (fun x y => x - y) (fun x y => x - y) (fun x y => Int32.ofInt_sub x y) hst (fun x y rest kk => lv_isub hx hb hd kk)
  case imul => exact bin (fun x y => x * y) (fun x y => x * y) (fun x y => Int32.ofInt_mul x y) hst (fun x y rest kk => lv_imul hx hb hd kk)
  case iand => exact bin ck_and (fun x y => x &&& y) (fun x y => Int32.ofInt_toInt _) hst (fun x y rest kk => lv_iand hx hb hd kk)
  case ior => exact bin ck_or (fun x y => x ||| y) (fun x y => Int32.ofInt_toInt _) hst (fun x y rest kk => lv_ior hx hb hd kk)
  case ixor => exact bin ck_xor (fun x y => x ^^^ y) (fun x y => Int32.ofInt_toInt _) hst (fun x y rest kk => lv_ixor hx hb hd kk)
  case ishl => exact bin ck_shl (fun x y => x <<< (y &&& 31)) (fun x y => Int32.ofInt_toInt _) hst (fun x y rest kk => lv_ishl hx hb hd kk)
  case ishr => exact bin ck_shr (fun x y => x >>> (y &&& 31)) (fun x y => Int32.ofInt_toInt _) hst (fun x y rest kk => lv_ishr hx hb hd kk)
  case iushr => exact bin ck_ush (fun x y => (x.toUInt32 >>> (y.toUInt32 &&& Int32.toUInt32 31)).toInt32) (fun x y => Int32.ofInt_toInt _) hst (fun x y rest kk => lv_iushr hx hb hd rfl kk)
  case irem =>
    unfold ck_step at hst
    dsimp only at hst
    split at hst
    · rename_i y x r
      cases hst
      refine lv_irem hx hb hd (fun h => hps.1.2 ?_) ?_
      · exact (ck_eq hps.1.1 ck_rg0).mp (by rw [h, ck_ofz])
      · exact ck_top (Int32.ofInt_toInt _).symm (k H locs ls hP hS hL hwl (List.forall_mem_cons.mpr ⟨trivial, (List.forall_mem_cons.mp (List.forall_mem_cons.mp hws).2).2⟩))
    · cases hst
  case ineg =>
    unfold ck_step at hst
    dsimp only at hst
    split at hst
    · rename_i x r
      cases hst
      exact lv_ineg hx hb hd (ck_top (Int32.ofInt_neg _).symm (k H locs ls hP hS hL hwl (List.forall_mem_cons.mpr ⟨trivial, (List.forall_mem_cons.mp hws).2⟩)))
    · cases hst
  case dup =>
    unfold ck_step at hst
    dsimp only at hst
    split at hst
    · rename_i v r
      cases hst
      exact lv_dup hx hb hd (ck_cat ad v) (k H locs ls hP hS hL hwl (List.forall_mem_cons.mpr ⟨(List.forall_mem_cons.mp hws).1, hws⟩))
    · cases hst
  case ifCond cnd off =>
    unfold ck_step at hst
    dsimp only at hst
    split at hst
    · rename_i x r
      cases hst
      exact ck_s_if cnd hx hb hd (of_decide_eq_true ho) hps.1 (k H locs ls hP hS hL hwl (List.forall_mem_cons.mp hws).2)
    · cases hst
  case if_icmp cnd off =>
    unfold ck_step at hst
    dsimp only at hst
    split at hst
    · rename_i y x r
      cases hst
      exact ck_s_icmp cnd hx hb hd (of_decide_eq_true ho) hps.1 hps.2.1 (k H locs ls hP hS hL hwl (List.forall_mem_cons.mp (List.forall_mem_cons.mp hws).2).2)
    · cases hst
  case goto off =>
    cases (show some (([] : List Prop), aux, L, st, σ) = some (ps, X1) from hst)
    exact lv_goto hx hb hd (of_decide_eq_true ho) (k H locs ls hP hS hL hwl hws)
  case tableswitch d lo hi offs =>
    have ho : (decide ((pc : Int) + d = aux) && decide (offs.toList.map (fun o => (pc : Int) + o) = tl.map (fun t : Nat => (t : Int))) && decide (hi - lo + 1 = offs.size)) = true := ho
    simp only [Bool.and_eq_true, decide_eq_true_eq] at ho
    unfold ck_step at hst
    dsimp only at hst
    split at hst
    · rename_i x r
      cases hst
      exact ck_s_sw hx hb hd ho.1.1 ho.1.2 ho.2 hps.1 (k H locs ls hP hS hL hwl (List.forall_mem_cons.mp hws).2)
    · cases hst
  case getfield idx =>
    obtain ⟨-, cc, r, rfl, h⟩ := ck_getf_inv hst
    obtain ⟨hw, hwr⟩ := List.forall_mem_cons.mp hws
    refine ck_s_getf Cx' hd ho hw hP (fun hk => ?_)
    rcases h with ⟨q, hq, rfl⟩ | ⟨hq, rfl⟩
    · unfold ck_fv
      rw [hq]
      exact k H locs ls hP hS hL hwl (List.forall_mem_cons.mpr ⟨ck_fr_wt hw hk hq, hwr⟩)
    · unfold ck_fv
      rw [hq]
      exact k H locs ls hP hS hL hwl (List.forall_mem_cons.mpr ⟨trivial, hwr⟩)
  case putfield idx =>
    obtain ⟨x, cc, r, rfl, hq, rfl, rfl⟩ := ck_putf_inv hst
    have ho : (ck_okF (ck_mN md).cls idx aux hint && ck_okP aux cst) = true := ho
    simp only [Bool.and_eq_true] at ho
    obtain ⟨hw, hwr⟩ := List.forall_mem_cons.mp (List.forall_mem_cons.mp hws).2
    exact ck_s_putf Cx' hd ho.1 ho.2 hw hq hps hP hS (fun H1 locs1 hP1 hS1 => k H1 locs1 ls hP1 hS1 hL hwl hwr)
  case iaload =>
    obtain ⟨i, a, n, r, rfl, rfl, rfl⟩ := ck_aldI_inv hst
    obtain ⟨hw, hwr⟩ := List.forall_mem_cons.mp (List.forall_mem_cons.mp hws).2
    have hn := ck_wt_len hw
    have hlt := ck_wt_lt hw
    obtain ⟨⟨h0, h1⟩, -⟩ := hps
    refine va_iald (D := D) (cl := ck_cl) hx hb hK hP a.toNat 0 (by rw [ck_ws_get hlt.1, ck_en0 hw]) rfl (ck_vin h0 h1 hn) hd ?_
    refine ck_top ?_ (k H locs ls hP hS hL hwl (List.forall_mem_cons.mpr ⟨trivial, hwr⟩))
    show Int32.ofInt (σ a ((Int32.ofInt i).toNatClampNeg : Nat)) = _
    rw [ck_clamp h0 (by omega), Int.toNat_of_nonneg h0]
  case baload =>
    obtain ⟨i, a, n, r, rfl, rfl, rfl⟩ := ck_aldZ_inv hst
    obtain ⟨hw, hwr⟩ := List.forall_mem_cons.mp (List.forall_mem_cons.mp hws).2
    have hn := ck_wt_len hw
    have hlt := ck_wt_lt hw
    obtain ⟨⟨h0, h1⟩, -⟩ := hps
    refine va_zald (D := D) (cl := ck_cl) hx hb hK hP a.toNat 1 (by rw [ck_ws_get hlt.1, ck_en1 hw]) rfl (ck_vin h0 h1 hn) hd ?_
    refine ck_top ?_ (k H locs ls hP hS hL hwl (List.forall_mem_cons.mpr ⟨trivial, hwr⟩))
    show Int32.ofInt (σ a ((Int32.ofInt i).toNatClampNeg : Nat)) = _
    rw [ck_clamp h0 (by omega), Int.toNat_of_nonneg h0]
  case aaload =>
    obtain ⟨i, a, n, r, rfl, rfl, rfl⟩ := ck_aldA_inv hst
    obtain ⟨hw, hwr⟩ := List.forall_mem_cons.mp (List.forall_mem_cons.mp hws).2
    have hn := ck_wt_len hw
    have hlt := ck_wt_lt hw
    obtain ⟨he, h64⟩ := ck_en2 (ad := ad) (cs := cs) (σ := σ) hw
    subst h64
    obtain ⟨⟨h0, h1⟩, -⟩ := hps
    refine va_aldq (D := D) (cl := ck_cl) hx hb hK hP a.toNat 2 (by rw [ck_ws_get hlt.1, he]) rfl (ck_vin h0 h1 hn) hd ?_
    have e1 : va_rf (some (ad (25 + 7 * (Int32.ofInt i).toNatClampNeg))) = ck_vv ad (.inr (25 + 7 * i, 3, 0)) := by
      show Value.ref _ = Value.ref _
      rw [ck_clamp h0 (by omega)]
      congr 2
      show _ = (25 + 7 * i).toNat
      omega
    rw [e1]
    exact k H locs ls hP hS hL hwl (List.forall_mem_cons.mpr ⟨ck_wt_before h0 h1, hwr⟩)
  case iastore =>
    obtain ⟨x, i, a, n, r, rfl, rfl, rfl⟩ := ck_astI_inv hst
    obtain ⟨hw, hwr⟩ := List.forall_mem_cons.mp (List.forall_mem_cons.mp (List.forall_mem_cons.mp hws).2).2
    have hn := ck_wt_len hw
    have hlt := ck_wt_lt hw
    obtain ⟨⟨h0, h1⟩, -⟩ := hps
    refine va_iast (D := D) (cl := ck_cl) hx hb hK hP (hD σ) hS a.toNat 0 (by rw [ck_ws_get hlt.1, ck_en0 hw]) rfl (ck_vin h0 h1 hn) hd (fun H1 locs1 hP1 _ hS1 => k H1 locs1 ls ?_ hS1 hL hwl hwr)
    rw [ck_clamp h0 (by omega), ck_ws_set hlt.1 (σ' := ck_up σ a i x) (by rw [ck_en0 hw, ck_en_ast (cs := cs) h0]) (fun b hb' j => ck_up_ne hb' hlt.2 j)] at hP1
    exact hP1
  case bastore =>
    obtain ⟨x, i, a, n, r, rfl, rfl, rfl⟩ := ck_astZ_inv hst
    obtain ⟨hw, hwr⟩ := List.forall_mem_cons.mp (List.forall_mem_cons.mp (List.forall_mem_cons.mp hws).2).2
    have hn := ck_wt_len hw
    have hlt := ck_wt_lt hw
    obtain ⟨⟨h0, h1⟩, hz, -⟩ := hps
    have hv : vp_nar .boolean (Int32.ofInt x) = Int32.ofInt x := by rcases hz with h | h <;> subst h <;> decide +kernel
    refine va_zast (D := D) (cl := ck_cl) hx hb hK hP (hD σ) hS a.toNat 1 (by rw [ck_ws_get hlt.1, ck_en1 hw]) rfl (ck_vin h0 h1 hn) hd (fun H1 locs1 hP1 _ hS1 => k H1 locs1 ls ?_ hS1 hL hwl hwr)
    rw [hv, ck_clamp h0 (by omega), ck_ws_set hlt.1 (σ' := ck_up σ a i x) (by rw [ck_en1 hw, ck_en_ast (cs := cs) h0]) (fun b hb' j => ck_up_ne hb' hlt.2 j)] at hP1
    exact hP1
  case arraylength =>
    obtain ⟨-, a, kd, n, r, rfl, hkd, rfl⟩ := ck_aln_inv hst
    obtain ⟨hw, hwr⟩ := List.forall_mem_cons.mp hws
    have hlt := ck_wt_lt hw
    have k' := k H locs ls hP hS hL hwl (List.forall_mem_cons.mpr ⟨trivial, hwr⟩)
    rcases hkd with h | h | h
    · subst h
      exact va_alen (D := D) (cl := ck_cl) hx hb hK hP a.toNat 0 (by rw [ck_ws_get hlt.1, ck_en0 hw]) rfl (v := Int32.ofInt n) (by rw [Int32.ofInt_eq_ofNat]) hd k'
    · subst h
      exact va_alen (D := D) (cl := ck_cl) hx hb hK hP a.toNat 1 (by rw [ck_ws_get hlt.1, ck_en1 hw]) rfl (v := Int32.ofInt n) (by rw [Int32.ofInt_eq_ofNat]) hd k'
    · subst h
      exact va_alen (D := D) (cl := ck_cl) hx hb hK hP a.toNat 2 (by rw [ck_ws_get hlt.1, (ck_en2 (ad := ad) (cs := cs) (σ := σ) hw).1]) rfl (v := Int32.ofInt n) (by rw [Int32.ofInt_eq_ofNat]) hd k'
  case invokestatic idx =>
    unfold ck_step at hst
    dsimp only at hst
    split at hst
    · rename_i h999
      subst h999
      obtain ⟨n, d, b, nb, s0, a, na, rfl, rfl, rfl⟩ := ck_acp_inv hst
      obtain ⟨hs0, hd0, hn0, hna, hnb, -⟩ := hps
      subst hs0 hd0
      have hw := hws
      simp only [List.forall_mem_cons] at hw
      obtain ⟨-, -, hwb, -, hwa, -⟩ := hw
      have ha := ck_wt_lt hwa
      have hb2 := ck_wt_lt hwb
      have la := ck_wt_len hwa
      have ho : ck_okC (ck_mN md).cls idx 999 hint true = true := ho
      have ho2 : ck_wd hint (Cond.methodLink (ck_mN md).cls idx arraycopyName) = true := by
        unfold ck_okC at ho
        rw [show ck_MDs[999]? = none from by decide +kernel] at ho
        simpa using ho
      have hcn : (Int32.ofInt n).toNatClampNeg = n.toNat := ck_clamp hn0 (by omega)
      have hc0 : (Int32.ofInt 0).toNatClampNeg = 0 := by decide
      refine va_copyi (D := D) (cl := ck_cl) (ty := .int) (rest := []) hx hb (by rw [hml, hL.2.1]) hown (hts _ (ck_wd_in ho2)) (hts _ ck_natw) (hts _ ck_natS) (hts _ ck_natI) hK hP (hD σ) hS a.toNat b.toNat 0 0 (by rw [ck_ws_get ha.1, ck_en0 hwa]) (by rw [ck_ws_get hb2.1, ck_en0 hwb]) rfl rfl rfl (by decide) (by decide) (by rw [← ck_ofz, ck_lt ⟨by omega, by omega⟩ ck_rg0]; omega) (by rw [hc0, hcn]; omega) (by rw [hc0, hcn]; omega) (fun i _ => rfl) hR.1 (by have h2 := hR.2; show 0 + (nativeFrameWords "java/lang/System" "arraycopy" 5 + 11) ≤ R.locals; have h3 : nativeFrameWords "java/lang/System" "arraycopy" 5 = 7 := (by decide); omega) hd (fun H1 locs1 hP1 _ hS1 => k H1 locs1 ls ?_ hS1 hL hwl (fun v hv => absurd hv List.not_mem_nil))
      rw [hc0, hcn, ck_ws_set hb2.1 (σ' := ck_cpy σ a b n) (by
        rw [ck_en0 hwb]
        congr 4
        funext j
        unfold ck_cpy va_cpy
        by_cases hj : j < n.toNat
        · rw [if_pos ⟨rfl, by omega, by omega⟩, if_pos ⟨Nat.zero_le _, by omega⟩]
          simp
        · rw [if_neg (by rintro ⟨-, -, h⟩; omega), if_neg (by rintro ⟨-, h⟩; omega)]) (fun b' hb' j => by
        unfold ck_cpy
        rw [if_neg (by rintro ⟨h, -⟩; omega)])] at hP1
      exact hP1
    · cases hst
  all_goals exact absurd (show (none : Option (List Prop × ck_F)) = some (ps, X1) from hst) (by simp)
end CKS1
end
section
/-! What the pure machine answers, the machine answers. -/
def ck_rm (d : Nat) : Room := { frames := d, cells := 0, slots := 0, locals := 30 * d }
def ck_wsm (md : ck_MD) : List Cond := Cond.code (ck_mN md) (ck_mB md) (ck_mL md) (ck_mR md) :: ck_GW
def ck_A (ad : Nat → Nat) (sz : Nat) : Nat → Prop := fun q => (∃ c, c < 501 ∧ q = ad c) ∨ sz ≤ q
def ck_Pc (D : va_G) (ad : Nat → Nat) (cs : ck_Cs) (as : List ck_PV) (σ : ck_M) (sz : Nat) : Array Value → State → Prop := va_Pc (as.map (ck_vv ad)) (fun U => U.heap.size = sz ∧ va_P D ck_cl (ck_ws ad cs σ) U.heap ∧ va_K D ck_cl (ck_tys cs) U ∧ va_D (fun _ => True) (ck_ws ad cs σ))
def ck_Qc (D : va_G) (ad : Nat → Nat) (cs : ck_Cs) (r : Option Int) (σ' : ck_M) (sz : Nat) : Array Value → State → Outcome → State → Prop := match r with
  | some x => va_Qi (fun (v : Int32) (_ : Unit) => v = Int32.ofInt x) (fun _ t => va_P D ck_cl (ck_ws ad cs σ') t.heap) (ck_A ad sz)
  | none => va_Qv (fun (_ : Unit) => True) (fun _ t => va_P D ck_cl (ck_ws ad cs σ') t.heap) (ck_A ad sz)
def ck_Met (l : Launch) (D : va_G) (ad : Nat → Nat) (cs : ck_Cs) (d : Nat) (md : ck_MD) (as : List ck_PV) (σ : ck_M) (r : Option Int) (σ' : ck_M) : Prop := ∀ sz, Met l (ck_mN md) (ck_wsm md) (ck_rm d) (ck_Pc D ad cs as σ sz) (ck_Qc D ad cs r σ' sz) 0 0 (ck_A ad sz)
theorem ck_good {md : ck_MD} (h : ck_mok md) : GoodIn ck_GW (ck_wsm md) := by
  intro w hw
  have h1 : w ∈ ck_GW := by
    rcases List.mem_cons.mp hw with h2 | h2
    · rw [h2]; exact h.1
    · exact h2
  exact ⟨h1, good_of_word (List.mem_filter.mp h1).2⟩
theorem ck_blind {D : va_G} {ad : Nat → Nat} {cs : ck_Cs} {as : List ck_PV} {σ : ck_M} {sz : Nat} : FrameBlind (ck_Pc D ad cs as σ sz) := by
  intro a U g mk q
  obtain ⟨q0, q1, qP, qK, qD⟩ := q
  exact ⟨q0, q1, qP, va_K.moved (u := U) (U := U.calling g mk a) (Vm.Alike.refl U.vm) qK, qD⟩
section CKT
variable {p : Program} {l : Launch} {e : Env} {R : Room} {s : State} {m : MethodId} {args : Array Value} {below : List Frame} {meth : Method} {c : Code} {cells slots : Nat} {Q : State → Prop}
variable {D : va_G} {ad : Nat → Nat} {cs : ck_Cs} {A : Nat → Prop} {H0 : Heap} {md : ck_MD}
theorem ck_simN (Cx : ck_Cx p R s m args c D ad cs A H0 md) : ∀ (n : Nat) {X X1 : ck_F} {ps : List Prop}, ck_run n (ck_mT md) X = some (ps, X1) → ck_all ps → ck_W p l e R s m args below meth c cells slots Q D ad cs A H0 (ck_mL md) X1 → ck_W p l e R s m args below meth c cells slots Q D ad cs A H0 (ck_mL md) X := by
  intro n
  induction n with
  | zero =>
    intro X X1 ps h _ k
    cases h
    exact k
  | succ n ih =>
    intro X X1 ps h hps k
    unfold ck_run at h
    split at h
    · cases h
    · rename_i en hlk
      split at h
      · cases h
      · rename_i ps1 X2 hst
        split at h
        · cases h
        · rename_i qs X3 hr
          cases h
          obtain ⟨h1, h2⟩ := ck_all_app.mp hps
          exact ck_sim1 Cx hlk hst h1 (ih hr h2 k)
theorem ck_hA (hD : ∀ σ, va_D A (ck_ws ad cs σ)) (hA : ∀ q, H0.size ≤ q → A q) {σ : ck_M} {H : Heap} {locs : List Loc} (hS : va_S A H0 H locs) : ∀ q, ck_A ad H.size q → A q := by
  intro q h
  rcases h with ⟨c, hc, rfl⟩ | h
  · exact (hD σ).2 c _ (ck_ws_get hc)
  · exact hA q (Nat.le_trans hS.1 h)
set_option maxHeartbeats 4000000 in
theorem ck_simC {d : Nat} {md' : ck_MD} {as rest : List ck_PV} {r : Option Int} {σ' : ck_M} {X : ck_F} (Cx : ck_Cx p R s m args c D ad cs A H0 md) (hroom : d + 1 ≤ R.frames ∧ 30 * d + 30 ≤ R.locals) (hcs : cells ≤ R.cells ∧ slots ≤ R.slots) (hat : ck_at md X md' as rest) (hM : (∀ v ∈ as, ck_wt v) → ck_Met l D ad cs d md' as X.2.2.2 r σ')
    (k : ck_W p l e R s m args below meth c cells slots Q D ad cs A H0 (ck_mL md) (X.1 + 3, X.2.1, ck_psh r rest, σ')) : ck_W p l e R s m args below meth c cells slots Q D ad cs A H0 (ck_mL md) X := by
  obtain ⟨hx, hb, hml, hown, hts, hK, hD, hA, hmok, hR⟩ := Cx
  obtain ⟨pc, L, st, σ⟩ := X
  obtain ⟨en, hlk, hiv, hmd, hst, hlen, hrest, hthis⟩ := hat
  obtain ⟨hd, ho⟩ := ck_entry hmok hlk
  obtain ⟨ii, aux, hint, cst, tl⟩ := en
  dsimp only at hlk hiv hmd hst hd ho hM k
  subst hst
  have hmok' := ck_MOK md' (List.mem_of_getElem? hmd)
  obtain ⟨hcode, hinit, hpl, hname, hsta, hins, ⟨hl11, har⟩, -⟩ := id hmok'
  intro H locs ls hP hS hL hwl hws
  dsimp only at hP hS hL hwl hws ⊢
  have hwa : ∀ v ∈ as, ck_wt v := fun v hv => hws v (List.mem_append_left _ (List.mem_reverse.mpr hv))
  have hwr : ∀ v ∈ rest, ck_wt v := fun v hv => hws v (List.mem_append_right _ hv)
  have hM1 := hM hwa H.size
  have hF := ck_hA (cs := cs) hD hA (σ := σ) hS
  have hpre : ∀ U : State, U.heap = H → s.WarmedH U.vm → ck_Pc D ad cs as σ H.size (as.map (ck_vv ad)).toArray U := fun U hU hW => ⟨rfl, by rw [hU], by rw [hU]; exact hP, va_K.moved hW.alike hK, (hD σ).weaken (fun _ _ _ _ => trivial)⟩
  have hroom2 : (ck_rm d).frames + 1 ≤ R.frames ∧ 8 + (ck_mL md' + 11) + (ck_rm d).locals ≤ R.locals := by
    show d + 1 ≤ R.frames ∧ 8 + (ck_mL md' + 11) + 30 * d ≤ R.locals
    omega
  have hsum : 2 * (F0 m pc ls ((as.reverse ++ rest).map (ck_vv ad))).monitorRoom + ((rest.map (ck_vv ad)).map fun v => v.category).sum ≤ 8 := lv_room (by rw [ck_sum]; omega)
  have run : va_Run p l e R s m args below meth c H locs cells slots 0 0 (F0 m pc ls ((as.reverse ++ rest).map (ck_vv ad))) (rest.map (ck_vv ad)) (ck_Qc D ad cs r σ' H.size (as.map (ck_vv ad)).toArray) (ck_A ad H.size) := by
    rcases hiv with ⟨i, hi⟩ | ⟨i, hi⟩
    · subst hi
      have ho : ck_okC (ck_mN md).cls i aux hint false = true := ho
      unfold ck_okC at ho
      rw [hmd] at ho
      simp only [Bool.and_eq_true, beq_iff_eq] at ho
      obtain ⟨cc, as', rfl⟩ := hthis ho.2
      obtain ⟨hi1, hi2, hi3⟩ := hins ho.2
      have hcw := callB_of (R := R) (own := (ck_mN md).cls) (index := i) (y := ck_mN md') (bytes := ck_mB md') (maxL := ck_mL md') (ret := ck_mR md') (ws := ck_wsm md') (ws' := ck_GW) (rm := ck_rm d) (mc := 0) (ms := 0) (ck_mP md') hts (ck_good hmok') rfl rfl rfl (hts _ hinit) (hts _ (ck_wd_in ho.1)) hname hroom2
      have hw0 := hwa _ List.mem_cons_self
      have hcl : ∃ q : vw_C, ck_cl[ck_mC md']? = some q ∧ q.1 = (ck_mN md').cls := by
        cases hq : ck_cl[ck_mC md']? with
        | none => rw [hq] at hi3; cases hi3
        | some q => rw [hq] at hi3; exact ⟨q, rfl, Option.some.inj hi3⟩
      obtain ⟨q, hq1, hq2⟩ := hcl
      have hrecv := va_recv hK hP hq1 (a := ad cc.toNat) (q0 := cc.toNat) (fs := ck_fs ad σ (ck_mC md') cc) (by rw [ck_ws_get (ck_wt_lt hw0).1, ck_en3 hw0])
      rw [hq2] at hrecv
      have har2 : as'.length = ck_mP md' := by
        have h := hlen
        unfold ck_ar at h
        rw [ho.2] at h
        simpa using h
      exact va_runV (C := (ck_mN md').cls) (As := as'.map (ck_vv ad)) (b := ad cc.toNat) ⟨hx, hb, hml, hown, hts⟩ hM1 ⟨hcw, hts _ hi1, hts _ hi2⟩ ⟨ck_blind, hrecv, hpre⟩ rfl (by simpa using har2) hL.2.1 (by simp [ck_vv]) hsum hd ⟨hcs.1, hcs.2⟩
    · subst hi
      have ho : ck_okC (ck_mN md).cls i aux hint true = true := ho
      unfold ck_okC at ho
      rw [hmd] at ho
      simp only [Bool.and_eq_true, beq_iff_eq] at ho
      have hcw := callB_of (R := R) (own := (ck_mN md).cls) (index := i) (y := ck_mN md') (bytes := ck_mB md') (maxL := ck_mL md') (ret := ck_mR md') (ws := ck_wsm md') (ws' := ck_GW) (rm := ck_rm d) (mc := 0) (ms := 0) (ck_mP md') hts (ck_good hmok') rfl rfl rfl (hts _ hinit) (hts _ (ck_wd_in ho.1)) hname hroom2
      have har2 : as.length = ck_mP md' := by
        have h := hlen
        unfold ck_ar at h
        rw [ho.2] at h
        simpa using h
      exact va_runS (As := as.map (ck_vv ad)) ⟨hx, hb, hml, hown, hts⟩ hM1 ⟨hcw, hts _ (hsta ho.2)⟩ ⟨ck_blind, hpre⟩ rfl (by simpa using har2) hL.2.1 (by simp) hsum hd ⟨hcs.1, hcs.2⟩
  cases r with
  | none =>
    exact va_callv (a := (as.map (ck_vv ad)).toArray) run hS (fun q _ h => hF q h) hF (fun u t H1 locs1 ht hvm _ hB _ _ hS1 => k H1 locs1 ls (by rw [ht] at hB; exact hB) hS1 hL hwl hwr)
  | some x =>
    refine va_calli (a := (as.map (ck_vv ad)).toArray) run hS (fun q _ h => hF q h) hF (fun v u t H1 locs1 ht hvm hv hB _ _ hS1 => ?_)
    subst hv
    exact k H1 locs1 ls (by rw [ht] at hB; exact hB) hS1 hL hwl (List.forall_mem_cons.mpr ⟨trivial, hwr⟩)
theorem ck_simR {d : Nat} (Cx : ck_Cx p R s m args c D ad cs A H0 md) (hroom : d + 1 ≤ R.frames ∧ 30 * d + 30 ≤ R.locals) (hcs : cells ≤ R.cells ∧ slots ≤ R.slots)
    (hC : ∀ md' ∈ ck_MDs, ∀ as σ r σ', as.length = ck_ar md' → ck_call d md' as σ r σ' → (∀ v ∈ as, ck_wt v) → ck_Met l D ad cs d md' as σ r σ') {T : ck_F → Prop} (hT : ∀ X, T X → ck_W p l e R s m args below meth c cells slots Q D ad cs A H0 (ck_mL md) X) :
    ∀ (n : Nat) (X : ck_F), ck_rch (ck_call d) md n X T → ck_W p l e R s m args below meth c cells slots Q D ad cs A H0 (ck_mL md) X := by
  intro n
  induction n with
  | zero => exact fun X h => hT X h
  | succ n ih =>
    intro X h
    rcases h with h | ⟨k, ps, X1, h1, h2, h3⟩ | ⟨md', as, rest, r, σ', h1, h2, h3⟩
    · exact hT X h
    · exact ck_simN Cx k h1 h2 (ih X1 h3)
    · obtain ⟨en, hlk, hiv, hmd, hst, hlen, hrest, hthis⟩ := id h1
      exact ck_simC Cx hroom hcs h1 (hC md' (List.mem_of_getElem? hmd) as _ r σ' hlen h2) (ih _ h3)
end CKT
theorem ck_args_in {ad : Nat → Nat} (as : List ck_PV) : ∀ (k i : Nat) (v : ck_PV), as[i]? = some v → (k + i, ck_vv ad v) ∈ lv_args k (as.map (ck_vv ad)) := by
  induction as with
  | nil => intro k i v h; simp at h
  | cons a r ih =>
    intro k i v h
    have hc : ¬ (ck_vv ad a).category = 2 := by rw [ck_cat]; decide
    rw [List.map_cons, lv_args, if_neg hc]
    cases i with
    | zero =>
      cases h
      exact List.mem_cons_self
    | succ i =>
      have h2 := ih (k + 1) i v (by simpa using h)
      rw [show k + 1 + i = k + (i + 1) by omega] at h2
      exact List.mem_cons_of_mem _ h2
theorem ck_sl_len {ad : Nat → Nat} (as : List ck_PV) : (lg_sl (as.map (ck_vv ad))).length = as.length := by
  induction as with
  | nil => rfl
  | cons a r ih =>
    have hc : ¬ (ck_vv ad a).category = 2 := by rw [ck_cat]; decide
    have h : lg_sl ((a :: r).map (ck_vv ad)) = [Slot.val (ck_vv ad a)] ++ lg_sl (r.map (ck_vv ad)) := by
      unfold lg_sl
      rw [List.map_cons, List.flatMap_cons, if_neg hc]
    rw [h, List.length_append, ih, List.length_cons, List.length_cons, List.length_nil]
    omega
set_option maxHeartbeats 4000000 in
theorem ck_sound (l : Launch) (D : va_G) (ad : Nat → Nat) (cs : ck_Cs) : ∀ (d : Nat) (md : ck_MD), md ∈ ck_MDs → ∀ (as : List ck_PV) (σ : ck_M) (r : Option Int) (σ' : ck_M), as.length = ck_ar md → ck_call d md as σ r σ' → (∀ v ∈ as, ck_wt v) → ck_Met l D ad cs d md as σ r σ' := by
  intro d
  induction d with
  | zero => exact fun _ _ _ _ _ _ _ h => False.elim h
  | succ d ih =>
    intro md hmd as σ r σ' hlen hcall hwa sz
    obtain ⟨n, hn⟩ := hcall
    have hmok := ck_MOK md hmd
    obtain ⟨hcode, hinit, hpl, hname, hsta, hins, ⟨hl11, har⟩, -⟩ := id hmok
    refine va_MetF (cc := ck_mB md) (maxL := ck_mL md) (ret := ck_mR md) hpl rfl ?_
    intro p e s m args below meth c s₁ B hml hv
    obtain ⟨rfl, hsz, hP, hK, hD0⟩ := hv
    have hx := B.exec
    have hb := B.bytes
    have hr := B.returns
    have hts0 := atoms_spec (ws := ck_wsm md) B.pre
    have hts : ∀ w ∈ ck_GW, w.before (as.map (ck_vv ad)).toArray s = true := fun w hw => hts0 w (List.mem_cons_of_mem _ hw)
    have hown : s.vm.findClass (ck_mN md).cls = some m.cls := findClass_of_methodNamed B.named
    have hlocks := B.notSynchronized
    subst hsz
    have hD : ∀ σ, va_D (ck_A ad s.heap.size) (ck_ws ad cs σ) := fun σ2 => ck_D_any (σ := σ) ⟨hD0.1, fun k q hk => by
      obtain ⟨h1, rfl⟩ := ck_ws_inv hk
      exact Or.inl ⟨k, h1, rfl⟩⟩ σ2
    have hA : ∀ q : Nat, s.heap.size ≤ q → ck_A ad s.heap.size q := fun q h => Or.inr h
    have hS : va_S (ck_A ad s.heap.size) s.heap s.heap [] := va_S.rf
    have Cx : ck_Cx p (headSpec (ck_wsm md) (ck_rm (d + 1))).room s m (as.map (ck_vv ad)).toArray c D ad cs (ck_A ad s.heap.size) s.heap md := ⟨hx, hb, hml, hown, hts, hK, hD, hA, hmok, by show 1 ≤ d + 1 ∧ 30 ≤ 30 * (d + 1); omega⟩
    have hle : (lg_sl (as.map (ck_vv ad))).length ≤ ck_mL md := by rw [ck_sl_len, hlen]; exact har
    have hl := lv_entry (as.map (ck_vv ad)) (n := ck_mL md) hle
    rw [lg_entry_eq]
    generalize (lg_sl (as.map (ck_vv ad)) ++ List.replicate (ck_mL md - (lg_sl (as.map (ck_vv ad))).length) Slot.unset).toArray = ls at hl ⊢
    have hLR : ck_LR ad ls (ck_mL md) (ck_ent md as σ).2.1 := by
      refine ⟨by simp [ck_ent]; omega, hl.1, hl.2.1, fun i v hi => ?_⟩
      have hi2 : as[i]? = some v := by
        show as[i]? = some v
        have h3 : (as.map some ++ List.replicate (ck_mL md - as.length) none)[i]? = some (some v) := hi
        by_cases hil : i < as.length
        · rw [List.getElem?_append_left (by simpa using hil), List.getElem?_map] at h3
          cases h4 : as[i]? with
          | none => rw [h4] at h3; cases h3
          | some w => rw [h4] at h3; cases h3; rfl
        · rw [List.getElem?_append_right (by simpa using hil)] at h3
          rw [List.getElem?_replicate] at h3
          split at h3 <;> cases h3
      have h5 := hl.2.2 _ (ck_args_in (ad := ad) as 0 i v hi2)
      simpa using h5
    have hwl : ∀ v, some v ∈ (ck_ent md as σ).2.1 → ck_wt v := by
      intro v hv
      have hv : some v ∈ as.map some ++ List.replicate (ck_mL md - as.length) none := hv
      rcases List.mem_append.mp hv with h | h
      · obtain ⟨w, hw, e2⟩ := List.mem_map.mp h
        rw [← Option.some.inj e2]
        exact hwa w hw
      · have h6 := List.eq_of_mem_replicate h
        cases h6
    refine ck_simR (d := d) Cx ⟨Nat.le_refl _, by show 30 * d + 30 ≤ 30 * (d + 1); omega⟩ ⟨Nat.le_refl _, Nat.le_refl _⟩ (fun md' h' as' σ1 r1 σ2 h1 h2 h3 => ih md' h' as' σ1 r1 σ2 h1 h2 h3) (T := fun X => ck_ret md X r σ') ?_ n (ck_ent md as σ) hn s.heap [] ls hP hS hLR hwl (fun v hv => absurd hv List.not_mem_nil)
    intro X hX H locs ls' hP' hS' hL' hwl' hws'
    obtain ⟨rfl, en, hlk, hX⟩ := hX
    obtain ⟨hd, -⟩ := ck_entry hmok hlk
    obtain ⟨pc, L, st, σ2⟩ := X
    obtain ⟨i, aux, hint, cst, tl⟩ := en
    cases r with
    | none =>
      obtain ⟨h1, h2, h3⟩ := hX
      dsimp only at h1 h2 hd hP' hS' ⊢
      subst h1 h2
      exact W.vret hx hb (by rw [hr]; exact h3) (fun t ht _ => ⟨⟨(), rfl, trivial, by show va_P D ck_cl (ck_ws ad cs σ2) t.heap; rw [ht]; exact hP'⟩, hS'.F ht⟩) hS'.2.2 hd
    | some x =>
      obtain ⟨h1, h2, h3⟩ := hX
      dsimp only at h1 h2 hd hP' hS' ⊢
      subst h1 h2
      rcases h3 with h3 | ⟨h3, hz⟩
      · exact W.iret hx hb (by rw [hr]; exact h3) (fun t ht _ => ⟨⟨_, (), rfl, rfl, by show va_P D ck_cl (ck_ws ad cs σ2) t.heap; rw [ht]; exact hP'⟩, hS'.F ht⟩) hS'.2.2 hd
      · exact W.zret (ty := .boolean) hx hb (by rw [hr]; exact h3) (by rcases hz with h | h <;> subst h <;> decide +kernel) (fun t ht _ => ⟨⟨_, (), rfl, rfl, by show va_P D ck_cl (ck_ws ad cs σ2) t.heap; rw [ht]; exact hP'⟩, hS'.F ht⟩) hS'.2.2 hd
end
section
/-! Rules of the pure machine. -/
section CKR
variable {d : Nat} {md : ck_MD} {T : ck_F → Prop}
theorem ck_go_T {X : ck_F} (h : T X) : ck_go d md X T := ⟨0, h⟩
theorem ck_go_run {X : ck_F} (n : Nat) {ps : List Prop} {X1 : ck_F} (h : ck_run n (ck_mT md) X = some (ps, X1)) (hps : ck_all ps) (k : ck_go d md X1 T) : ck_go d md X T := by
  obtain ⟨j, hj⟩ := k
  exact ⟨j + 1, Or.inr (Or.inl ⟨n, ps, X1, h, hps, hj⟩)⟩
theorem ck_go_call {X : ck_F} {md' : ck_MD} {as rest : List ck_PV} {r : Option Int} {σ' : ck_M} (hc : ck_call d md' as X.2.2.2 r σ') (hat : ck_at md X md' as rest) (k : ck_go d md (X.1 + 3, X.2.1, ck_psh r rest, σ') T) : ck_go d md X T := by
  obtain ⟨j, hj⟩ := k
  exact ⟨j + 1, Or.inr (Or.inr ⟨md', as, rest, r, σ', hat, hc, hj⟩)⟩
theorem ck_go_ite {P : Prop} [Decidable P] {t f : Nat} {ls : ck_Ls} {st : List ck_PV} {σ : ck_M} (kt : P → ck_go d md (t, ls, st, σ) T) (kf : ¬ P → ck_go d md (f, ls, st, σ) T) : ck_go d md (if P then t else f, ls, st, σ) T := by
  by_cases h : P
  · rw [if_pos h]; exact kt h
  · rw [if_neg h]; exact kf h
theorem ck_rch_mono {C C' : ck_MD → List ck_PV → ck_M → Option Int → ck_M → Prop} (h : ∀ md as σ r σ', C md as σ r σ' → C' md as σ r σ') : ∀ (n : Nat) (X : ck_F), ck_rch C md n X T → ck_rch C' md n X T := by
  intro n
  induction n with
  | zero => exact fun X h => h
  | succ n ih =>
    intro X hX
    rcases hX with h1 | ⟨k, ps, X1, h1, h2, h3⟩ | ⟨md', as, rest, r, σ', h1, h2, h3⟩
    · exact Or.inl h1
    · exact Or.inr (Or.inl ⟨k, ps, X1, h1, h2, ih _ h3⟩)
    · exact Or.inr (Or.inr ⟨md', as, rest, r, σ', h1, h _ _ _ _ _ h2, ih _ h3⟩)
end CKR
theorem ck_call_s : ∀ (d : Nat) (md : ck_MD) (as : List ck_PV) (σ : ck_M) (r : Option Int) (σ' : ck_M), ck_call d md as σ r σ' → ck_call (d + 1) md as σ r σ' := by
  intro d
  induction d with
  | zero => exact fun _ _ _ _ _ h => False.elim h
  | succ d ih =>
    intro md as σ r σ' h
    obtain ⟨n, hn⟩ := h
    exact ⟨n, ck_rch_mono (fun md as σ r σ' => ih md as σ r σ') n _ hn⟩
theorem ck_call_le {d d' : Nat} (h : d ≤ d') {md : ck_MD} {as : List ck_PV} {σ : ck_M} {r : Option Int} {σ' : ck_M} (hc : ck_call d md as σ r σ') : ck_call d' md as σ r σ' := by
  induction h with
  | refl => exact hc
  | step _ ih => exact ck_call_s _ _ _ _ _ _ ih
theorem ck_call_of {d : Nat} {md : ck_MD} {as : List ck_PV} {σ : ck_M} {r : Option Int} {σ' : ck_M} (h : ck_go d md (ck_ent md as σ) (fun X => ck_ret md X r σ')) : ck_call (d + 1) md as σ r σ' := h
theorem ck_lfI {d : Nat} {md : ck_MD} {pc : Nat} {ls : ck_Ls} {x r : Int} {σ1 σ' : ck_M} {en : ck_En} (hx : x = r) (hσ : σ1 = σ') (hl : ck_lk (ck_mT md) pc = some en) (he : en.1 = .ireturn) (hr : ck_mR md = some .int) : ck_go d md (pc, ls, [.inl x], σ1) (fun X => ck_ret md X (some r) σ') := by
  subst hx hσ
  exact ck_go_T ⟨rfl, en, hl, he, rfl, Or.inl hr⟩
theorem ck_lfZ {d : Nat} {md : ck_MD} {pc : Nat} {ls : ck_Ls} {x r : Int} {σ1 σ' : ck_M} {en : ck_En} (hx : x = r) (hz : x = 0 ∨ x = 1) (hσ : σ1 = σ') (hl : ck_lk (ck_mT md) pc = some en) (he : en.1 = .ireturn) (hr : ck_mR md = some .boolean) : ck_go d md (pc, ls, [.inl x], σ1) (fun X => ck_ret md X (some r) σ') := by
  subst hx hσ
  exact ck_go_T ⟨rfl, en, hl, he, rfl, Or.inr ⟨hr, hz⟩⟩
theorem ck_lfV {d : Nat} {md : ck_MD} {pc : Nat} {ls : ck_Ls} {σ1 σ' : ck_M} {en : ck_En} (hσ : σ1 = σ') (hl : ck_lk (ck_mT md) pc = some en) (he : en.1 = .return_) (hr : ck_mR md = none) : ck_go d md (pc, ls, [], σ1) (fun X => ck_ret md X none σ') := by
  subst hσ
  exact ck_go_T ⟨rfl, en, hl, he, rfl, hr⟩
theorem ck_rgo {x : Int} (h1 : -2147483648 ≤ x) (h2 : x < 2147483648) : ck_rg x := ⟨h1, h2⟩
end
section
/-! Calls with what holds behind them. -/
def ck_cal (d : Nat) (md : ck_MD) (as : List ck_PV) (σ : ck_M) (Po : Option Int → ck_M → Prop) : Prop := ∃ r σ', ck_call d md as σ r σ' ∧ Po r σ'
def ck_end (md : ck_MD) (Po : Option Int → ck_M → Prop) (X : ck_F) : Prop := ∃ q : Option Int × ck_M, ck_ret md X q.1 q.2 ∧ Po q.1 q.2
theorem ck_rch_ex {α : Type} {C : ck_MD → List ck_PV → ck_M → Option Int → ck_M → Prop} {md : ck_MD} {T : α → ck_F → Prop} : ∀ (n : Nat) (X : ck_F), ck_rch C md n X (fun X => ∃ a, T a X) → ∃ a, ck_rch C md n X (T a) := by
  intro n
  induction n with
  | zero => exact fun X h => h
  | succ n ih =>
    intro X hX
    rcases hX with ⟨a, h1⟩ | ⟨k, ps, X1, h1, h2, h3⟩ | ⟨md', as, rest, r, σ', h1, h2, h3⟩
    · exact ⟨a, Or.inl h1⟩
    · obtain ⟨a, ha⟩ := ih X1 h3
      exact ⟨a, Or.inr (Or.inl ⟨k, ps, X1, h1, h2, ha⟩)⟩
    · obtain ⟨a, ha⟩ := ih _ h3
      exact ⟨a, Or.inr (Or.inr ⟨md', as, rest, r, σ', h1, h2, ha⟩)⟩
theorem ck_rch_and {P : Prop} {C : ck_MD → List ck_PV → ck_M → Option Int → ck_M → Prop} {md : ck_MD} {T : ck_F → Prop} : ∀ (n : Nat) (X : ck_F), ck_rch C md n X (fun X => T X ∧ P) → ck_rch C md n X T ∧ P := by
  intro n
  induction n with
  | zero => exact fun X h => h
  | succ n ih =>
    intro X hX
    rcases hX with h1 | ⟨k, ps, X1, h1, h2, h3⟩ | ⟨md', as, rest, r, σ', h1, h2, h3⟩
    · exact ⟨Or.inl h1.1, h1.2⟩
    · obtain ⟨ha, hp⟩ := ih X1 h3
      exact ⟨Or.inr (Or.inl ⟨k, ps, X1, h1, h2, ha⟩), hp⟩
    · obtain ⟨ha, hp⟩ := ih _ h3
      exact ⟨Or.inr (Or.inr ⟨md', as, rest, r, σ', h1, h2, ha⟩), hp⟩
theorem ck_cal_of {d : Nat} {md : ck_MD} {as : List ck_PV} {σ : ck_M} {Po : Option Int → ck_M → Prop} (h : ck_go d md (ck_ent md as σ) (ck_end md Po)) : ck_cal (d + 1) md as σ Po := by
  obtain ⟨n, hn⟩ := h
  obtain ⟨⟨r, σ'⟩, ha⟩ := ck_rch_ex n _ hn
  obtain ⟨h1, h2⟩ := ck_rch_and n _ ha
  exact ⟨r, σ', ⟨n, h1⟩, h2⟩
theorem ck_cal_le {d d' : Nat} (h : d ≤ d') {md : ck_MD} {as : List ck_PV} {σ : ck_M} {Po : Option Int → ck_M → Prop} (hc : ck_cal d md as σ Po) : ck_cal d' md as σ Po := by
  obtain ⟨r, σ', h1, h2⟩ := hc
  exact ⟨r, σ', ck_call_le h h1, h2⟩
theorem ck_cal_mono {d : Nat} {md : ck_MD} {as : List ck_PV} {σ : ck_M} {Po Po' : Option Int → ck_M → Prop} (hc : ck_cal d md as σ Po) (h : ∀ r σ', Po r σ' → Po' r σ') : ck_cal d md as σ Po' := by
  obtain ⟨r, σ', h1, h2⟩ := hc
  exact ⟨r, σ', h1, h _ _ h2⟩
theorem ck_eI {d : Nat} {md : ck_MD} {pc : Nat} {ls : ck_Ls} {x : Int} {σ : ck_M} {en : ck_En} {Po : Option Int → ck_M → Prop} (hp : Po (some x) σ) (hl : ck_lk (ck_mT md) pc = some en) (he : en.1 = .ireturn) (hr : ck_mR md = some .int) : ck_go d md (pc, ls, [.inl x], σ) (ck_end md Po) :=
  ck_go_T ⟨(some x, σ), ⟨rfl, en, hl, he, rfl, Or.inl hr⟩, hp⟩
theorem ck_eZ {d : Nat} {md : ck_MD} {pc : Nat} {ls : ck_Ls} {x : Int} {σ : ck_M} {en : ck_En} {Po : Option Int → ck_M → Prop} (hz : x = 0 ∨ x = 1) (hp : Po (some x) σ) (hl : ck_lk (ck_mT md) pc = some en) (he : en.1 = .ireturn) (hr : ck_mR md = some .boolean) : ck_go d md (pc, ls, [.inl x], σ) (ck_end md Po) :=
  ck_go_T ⟨(some x, σ), ⟨rfl, en, hl, he, rfl, Or.inr ⟨hr, hz⟩⟩, hp⟩
theorem ck_eV {d : Nat} {md : ck_MD} {pc : Nat} {ls : ck_Ls} {σ : ck_M} {en : ck_En} {Po : Option Int → ck_M → Prop} (hp : Po none σ) (hl : ck_lk (ck_mT md) pc = some en) (he : en.1 = .return_) (hr : ck_mR md = none) : ck_go d md (pc, ls, [], σ) (ck_end md Po) :=
  ck_go_T ⟨(none, σ), ⟨rfl, en, hl, he, rfl, hr⟩, hp⟩
section CKL
variable {d : Nat} {md : ck_MD} {T : ck_F → Prop}
theorem ck_go_t {P : Prop} {i : Decidable P} {t f : Nat} {ls : ck_Ls} {st : List ck_PV} {σ : ck_M} (h : P) (k : ck_go d md (t, ls, st, σ) T) : ck_go d md (@ite Nat P i t f, ls, st, σ) T := by rw [if_pos h]; exact k
theorem ck_go_f {P : Prop} {i : Decidable P} {t f : Nat} {ls : ck_Ls} {st : List ck_PV} {σ : ck_M} (h : ¬ P) (k : ck_go d md (f, ls, st, σ) T) : ck_go d md (@ite Nat P i t f, ls, st, σ) T := by rw [if_neg h]; exact k
theorem ck_go_cal {X : ck_F} {md' : ck_MD} {as rest : List ck_PV} {Po : Option Int → ck_M → Prop} (hc : ck_cal d md' as X.2.2.2 Po) (hat : ck_at md X md' as rest) (k : ∀ r σ', Po r σ' → ck_go d md (X.1 + 3, X.2.1, ck_psh r rest, σ') T) : ck_go d md X T := by
  obtain ⟨r, σ', h1, h2⟩ := hc
  exact ck_go_call h1 hat (k r σ' h2)
/-- a loop that counts up to B -/
theorem ck_for (hd : Nat) (ls : Int → ck_Ls) (B : Int) (I : Int → ck_M → Prop) (body : ∀ v σ, v < B → I v σ → (∀ σ', I (v + 1) σ' → ck_go d md (hd, ls (v + 1), [], σ') T) → ck_go d md (hd, ls v, [], σ) T) (stop : ∀ v σ, B ≤ v → I v σ → ck_go d md (hd, ls v, [], σ) T) : ∀ v σ, I v σ → ck_go d md (hd, ls v, [], σ) T := by
  have h : ∀ (n : Nat) (v : Int) (σ : ck_M), (B - v).toNat ≤ n → I v σ → ck_go d md (hd, ls v, [], σ) T := by
    intro n
    induction n with
    | zero => exact fun v σ hn hI => stop v σ (by omega) hI
    | succ n ih =>
      intro v σ hn hI
      by_cases hv : v < B
      · exact body v σ hv hI (fun σ' h' => ih (v + 1) σ' (by omega) h')
      · exact stop v σ (by omega) hI
  exact fun v σ hI => h _ v σ (Nat.le_refl _) hI
end CKL
theorem ck_ite_or {P1 P2 P3 : Prop} [Decidable P1] [Decidable P2] [Decidable P3] {α : Type} {x y : α} (h : P2 ↔ P1 ∨ P3) : (if P1 then x else if P3 then x else y) = if P2 then x else y := by
  by_cases h1 : P1
  · rw [if_pos h1, if_pos (h.mpr (Or.inl h1))]
  · by_cases h3 : P3
    · rw [if_neg h1, if_pos h3, if_pos (h.mpr (Or.inr h3))]
    · rw [if_neg h1, if_neg h3, if_neg (fun q => (h.mp q).elim h1 h3)]
/-! ## What is known at a point: the known numbers, the leasts, the highests, the values, the lengths, 'there' -/
abbrev ck_D : Type := (Int → Int) × (Int → Int) × (Int → Int → Int) × (Int → Int) × (Int → Int) × (Int → Int)
abbrev ck_kn (f : ck_D) : Int → Int := f.1
abbrev ck_lo (f : ck_D) : Int → Int := f.2.1
abbrev ck_hi (f : ck_D) : Int → Int → Int := f.2.2.1
abbrev ck_va (f : ck_D) : Int → Int := f.2.2.2.1
abbrev ck_sz (f : ck_D) : Int → Int := f.2.2.2.2.1
abbrev ck_th (f : ck_D) : Int → Int := f.2.2.2.2.2
def ck_N (k l : Int → Int) (h : Int → Int → Int) (v z t : Int → Int) : ck_D := (fun n => if 0 ≤ n ∧ n < 10 then k n else 0, fun n => if 0 ≤ n ∧ n < 10 then l n else 0, fun n r => if (0 ≤ n ∧ n < 10) ∧ 0 ≤ r ∧ r < 4 then h n r else 0, fun r => if 0 ≤ r ∧ r < 4 then v r else 0, fun r => if 0 ≤ r ∧ r < 4 then z r else 0, fun r => if 0 ≤ r ∧ r < 4 then t r else 0)
theorem ck_N_ext {k l v z t k' l' v' z' t' : Int → Int} {h h' : Int → Int → Int} (e1 : ∀ n, 0 ≤ n → n < 10 → k n = k' n) (e2 : ∀ n, 0 ≤ n → n < 10 → l n = l' n) (e3 : ∀ n r, 0 ≤ n → n < 10 → 0 ≤ r → r < 4 → h n r = h' n r) (e4 : ∀ r, 0 ≤ r → r < 4 → v r = v' r) (e5 : ∀ r, 0 ≤ r → r < 4 → z r = z' r) (e6 : ∀ r, 0 ≤ r → r < 4 → t r = t' r) : ck_N k l h v z t = ck_N k' l' h' v' z' t' := by
  unfold ck_N
  refine Prod.ext ?_ (Prod.ext ?_ (Prod.ext ?_ (Prod.ext ?_ (Prod.ext ?_ ?_))))
  · funext n
    by_cases hn : 0 ≤ n ∧ n < 10
    · simp only [if_pos hn]; exact e1 n hn.1 hn.2
    · simp only [if_neg hn]
  · funext n
    by_cases hn : 0 ≤ n ∧ n < 10
    · simp only [if_pos hn]; exact e2 n hn.1 hn.2
    · simp only [if_neg hn]
  · funext n r
    by_cases hn : (0 ≤ n ∧ n < 10) ∧ 0 ≤ r ∧ r < 4
    · simp only [if_pos hn]; exact e3 n r hn.1.1 hn.1.2 hn.2.1 hn.2.2
    · simp only [if_neg hn]
  · funext r
    by_cases hn : 0 ≤ r ∧ r < 4
    · simp only [if_pos hn]; exact e4 r hn.1 hn.2
    · simp only [if_neg hn]
  · funext r
    by_cases hn : 0 ≤ r ∧ r < 4
    · simp only [if_pos hn]; exact e5 r hn.1 hn.2
    · simp only [if_neg hn]
  · funext r
    by_cases hn : 0 ≤ r ∧ r < 4
    · simp only [if_pos hn]; exact e6 r hn.1 hn.2
    · simp only [if_neg hn]
section CKN
variable {k l v z t : Int → Int} {h : Int → Int → Int} {n r : Int}
theorem ck_N_kn (h0 : 0 ≤ n) (h1 : n < 10) : ck_kn (ck_N k l h v z t) n = k n := if_pos ⟨h0, h1⟩
theorem ck_N_lo (h0 : 0 ≤ n) (h1 : n < 10) : ck_lo (ck_N k l h v z t) n = l n := if_pos ⟨h0, h1⟩
theorem ck_N_hi (h0 : 0 ≤ n) (h1 : n < 10) (h2 : 0 ≤ r) (h3 : r < 4) : ck_hi (ck_N k l h v z t) n r = h n r := if_pos ⟨⟨h0, h1⟩, h2, h3⟩
theorem ck_N_va (h2 : 0 ≤ r) (h3 : r < 4) : ck_va (ck_N k l h v z t) r = v r := if_pos ⟨h2, h3⟩
theorem ck_N_sz (h2 : 0 ≤ r) (h3 : r < 4) : ck_sz (ck_N k l h v z t) r = z r := if_pos ⟨h2, h3⟩
theorem ck_N_th (h2 : 0 ≤ r) (h3 : r < 4) : ck_th (ck_N k l h v z t) r = t r := if_pos ⟨h2, h3⟩
end CKN
/-- what the class keeps in the Facts at the cell c -/
def ck_rd (σ : ck_M) (c : Int) : ck_D := ck_N (σ (c + 1)) (σ (c + 2)) (fun n r => σ (c + 3) (n * 4 + r)) (σ (c + 4)) (σ (c + 5)) (σ (c + 6))
/-- nothing but the Facts at c has changed -/
def ck_f6 (σ σ' : ck_M) (c : Int) : Prop := ∀ b j, (b ≤ c ∨ c + 6 < b) → σ' b j = σ b j
/-- all that memory holds are ints -/
def ck_RG (σ : ck_M) : Prop := ∀ b j, ck_rg (σ b j)
theorem ck_RGu {σ : ck_M} {a i x : Int} (h : ck_RG σ) (hx : ck_rg x) : ck_RG (ck_up σ a i x) := by
  intro b j
  unfold ck_up
  split
  · exact hx
  · exact h b j
def ck_bL (v : Int) : Int := if v < -200 then -1000000000 else v
def ck_bH (v : Int) : Int := if 200 < v then 1000000000 else v
def ck_mx (a b : Int) : Int := if a < b then b else a
def ck_mn (a b : Int) : Int := if b < a then b else a
def ck_hoc (f : ck_D) (v r : Int) : Int := if ck_va f r = 0 then 1000000000 else ck_bH (if ck_sz f r = 1000000000 then v else v - ck_sz f r)
abbrev ck_sm (f : ck_D) (r a : Int) : Prop := ck_va f r = ck_va f a ∧ ck_va f r ≠ 0
theorem ck_rg_bL {v : Int} (h : ck_rg v) : ck_rg (ck_bL v) := by unfold ck_bL; split; exact ⟨by decide, by decide⟩; exact h
theorem ck_rg_bH {v : Int} (h : ck_rg v) : ck_rg (ck_bH v) := by unfold ck_bH; split; exact ⟨by decide, by decide⟩; exact h
theorem ck_rg_mx {a b : Int} (h : ck_rg a) (h2 : ck_rg b) : ck_rg (ck_mx a b) := by unfold ck_mx; split; exact h2; exact h
theorem ck_rg_mn {a b : Int} (h : ck_rg a) (h2 : ck_rg b) : ck_rg (ck_mn a b) := by unfold ck_mn; split; exact h2; exact h
end
section
theorem cx_max {a b : Int} (ha : ck_rg a) (hb : ck_rg b) (σ : ck_M) : ck_cal 1 cm_Jm_max [.inl a, .inl b] σ (fun r σ' => r = some (ck_mx a b) ∧ σ' = σ) := by
  refine ck_cal_of ?_
  refine ck_go_run 3 (X1 := (if a < b then 9 else 5, [some (.inl a), some (.inl b)], [], σ)) (ps := [ck_rg a, ck_rg b]) rfl ⟨ha, hb, trivial⟩ ?_
  refine ck_go_ite (fun h => ?_) (fun h => ?_)
  · refine ck_go_run 1 (X1 := (10, [some (.inl a), some (.inl b)], [.inl b], σ)) (ps := []) rfl trivial ?_
    exact ck_eI ⟨by rw [ck_mx, if_pos h], rfl⟩ rfl rfl rfl
  · refine ck_go_run 2 (X1 := (10, [some (.inl a), some (.inl b)], [.inl a], σ)) (ps := []) rfl trivial ?_
    exact ck_eI ⟨by rw [ck_mx, if_neg h], rfl⟩ rfl rfl rfl
theorem cx_min {a b : Int} (ha : ck_rg a) (hb : ck_rg b) (σ : ck_M) : ck_cal 1 cm_Jm_min [.inl a, .inl b] σ (fun r σ' => r = some (ck_mn a b) ∧ σ' = σ) := by
  refine ck_cal_of ?_
  refine ck_go_run 3 (X1 := (if b < a then 9 else 5, [some (.inl a), some (.inl b)], [], σ)) (ps := [ck_rg a, ck_rg b]) rfl ⟨ha, hb, trivial⟩ ?_
  refine ck_go_ite (fun h => ?_) (fun h => ?_)
  · refine ck_go_run 1 (X1 := (10, [some (.inl a), some (.inl b)], [.inl b], σ)) (ps := []) rfl trivial ?_
    exact ck_eI ⟨by rw [ck_mn, if_pos h], rfl⟩ rfl rfl rfl
  · refine ck_go_run 2 (X1 := (10, [some (.inl a), some (.inl b)], [.inl a], σ)) (ps := []) rfl trivial ?_
    exact ck_eI ⟨by rw [ck_mn, if_neg h], rfl⟩ rfl rfl rfl
theorem cx_boundedLow {a : Int} (ha : ck_rg a) (σ : ck_M) : ck_cal 1 cm_Fa_boundedLow [.inl a] σ (fun r σ' => r = some (ck_bL a) ∧ σ' = σ) := by
  refine ck_cal_of ?_
  refine ck_go_run 3 (X1 := (if a < (-200) then 7 else 12, [some (.inl a)], [], σ)) (ps := [ck_rg a, ck_rg ((-200))]) rfl ⟨ha, ck_rgo (by omega) (by omega), trivial⟩ ?_
  refine ck_go_ite (fun h => ?_) (fun h => ?_)
  · refine ck_go_run 2 (X1 := (13, [some (.inl a)], [.inl ((-1000000000))], σ)) (ps := []) rfl trivial ?_
    exact ck_eI ⟨by rw [ck_bL, if_pos h], rfl⟩ rfl rfl rfl
  · refine ck_go_run 1 (X1 := (13, [some (.inl a)], [.inl a], σ)) (ps := []) rfl trivial ?_
    exact ck_eI ⟨by rw [ck_bL, if_neg h], rfl⟩ rfl rfl rfl
theorem cx_boundedHigh {a : Int} (ha : ck_rg a) (σ : ck_M) : ck_cal 1 cm_Fa_boundedHigh [.inl a] σ (fun r σ' => r = some (ck_bH a) ∧ σ' = σ) := by
  refine ck_cal_of ?_
  refine ck_go_run 3 (X1 := (if 200 < a then 7 else 12, [some (.inl a)], [], σ)) (ps := [ck_rg a, ck_rg 200]) rfl ⟨ha, ck_rgo (by omega) (by omega), trivial⟩ ?_
  refine ck_go_ite (fun h => ?_) (fun h => ?_)
  · refine ck_go_run 2 (X1 := (13, [some (.inl a)], [.inl 1000000000], σ)) (ps := []) rfl trivial ?_
    exact ck_eI ⟨by rw [ck_bH, if_pos h], rfl⟩ rfl rfl rfl
  · refine ck_go_run 1 (X1 := (13, [some (.inl a)], [.inl a], σ)) (ps := []) rfl trivial ?_
    exact ck_eI ⟨by rw [ck_bH, if_neg h], rfl⟩ rfl rfl rfl
/-- all that is known is small enough that sums of two don't wrap -/
def ck_fb (f : ck_D) : Prop := (∀ n, -1000000000 ≤ ck_kn f n ∧ ck_kn f n ≤ 1000000000) ∧ (∀ n, -1000000000 ≤ ck_lo f n ∧ ck_lo f n ≤ 1000000000) ∧ (∀ n r, -1000000000 ≤ ck_hi f n r ∧ ck_hi f n r ≤ 1000000000) ∧ (∀ r, -1000000000 ≤ ck_va f r ∧ ck_va f r ≤ 1000000000) ∧ (∀ r, -1000000000 ≤ ck_sz f r ∧ ck_sz f r ≤ 1000000000) ∧ ∀ r, 0 ≤ ck_th f r ∧ ck_th f r ≤ 1
section CKB
variable {σ : ck_M} {c n r : Int}
theorem ck_r_kn (h0 : 0 ≤ n) (h1 : n < 10) : ck_kn (ck_rd σ c) n = σ (c + 1) n := ck_N_kn h0 h1
theorem ck_r_lo (h0 : 0 ≤ n) (h1 : n < 10) : ck_lo (ck_rd σ c) n = σ (c + 2) n := ck_N_lo h0 h1
theorem ck_r_hi (h0 : 0 ≤ n) (h1 : n < 10) (h2 : 0 ≤ r) (h3 : r < 4) : ck_hi (ck_rd σ c) n r = σ (c + 3) (n * 4 + r) := ck_N_hi h0 h1 h2 h3
theorem ck_r_va (h2 : 0 ≤ r) (h3 : r < 4) : ck_va (ck_rd σ c) r = σ (c + 4) r := ck_N_va h2 h3
theorem ck_r_sz (h2 : 0 ≤ r) (h3 : r < 4) : ck_sz (ck_rd σ c) r = σ (c + 5) r := ck_N_sz h2 h3
theorem ck_r_th (h2 : 0 ≤ r) (h3 : r < 4) : ck_th (ck_rd σ c) r = σ (c + 6) r := ck_N_th h2 h3
theorem ck_b_kn (hB : ck_fb (ck_rd σ c)) (h0 : 0 ≤ n) (h1 : n < 10) : -1000000000 ≤ σ (c + 1) n ∧ σ (c + 1) n ≤ 1000000000 := by rw [← ck_r_kn (σ := σ) (c := c) h0 h1]; exact hB.1 n
theorem ck_b_lo (hB : ck_fb (ck_rd σ c)) (h0 : 0 ≤ n) (h1 : n < 10) : -1000000000 ≤ σ (c + 2) n ∧ σ (c + 2) n ≤ 1000000000 := by rw [← ck_r_lo (σ := σ) (c := c) h0 h1]; exact hB.2.1 n
theorem ck_b_hi (hB : ck_fb (ck_rd σ c)) (h0 : 0 ≤ n) (h1 : n < 10) (h2 : 0 ≤ r) (h3 : r < 4) : -1000000000 ≤ σ (c + 3) (n * 4 + r) ∧ σ (c + 3) (n * 4 + r) ≤ 1000000000 := by rw [← ck_r_hi (σ := σ) (c := c) h0 h1 h2 h3]; exact hB.2.2.1 n r
theorem ck_b_va (hB : ck_fb (ck_rd σ c)) (h2 : 0 ≤ r) (h3 : r < 4) : -1000000000 ≤ σ (c + 4) r ∧ σ (c + 4) r ≤ 1000000000 := by rw [← ck_r_va (σ := σ) (c := c) h2 h3]; exact hB.2.2.2.1 r
theorem ck_b_sz (hB : ck_fb (ck_rd σ c)) (h2 : 0 ≤ r) (h3 : r < 4) : -1000000000 ≤ σ (c + 5) r ∧ σ (c + 5) r ≤ 1000000000 := by rw [← ck_r_sz (σ := σ) (c := c) h2 h3]; exact hB.2.2.2.2.1 r
theorem ck_b_th (hB : ck_fb (ck_rd σ c)) (h2 : 0 ≤ r) (h3 : r < 4) : 0 ≤ σ (c + 6) r ∧ σ (c + 6) r ≤ 1 := by rw [← ck_r_th (σ := σ) (c := c) h2 h3]; exact hB.2.2.2.2.2 r
end CKB
theorem cx_isSameArray {c r a : Int} (hr : 0 ≤ r ∧ r < 4) (ha : 0 ≤ a ∧ a < 4) {σ : ck_M} (hr1 : ck_rg (σ (c + 4) r)) (ha1 : ck_rg (σ (c + 4) a)) : ck_cal 1 cm_Fa_isSameArray [.inr (c, 3, 0), .inl r, .inl a] σ (fun q σ' => q = some (if σ (c + 4) r = σ (c + 4) a ∧ σ (c + 4) r ≠ 0 then 1 else 0) ∧ σ' = σ) := by
  refine ck_cal_of ?_
  refine ck_go_run 9 (X1 := (if σ (c + 4) r = σ (c + 4) a then 15 else 28, [some (.inr (c, 3, 0)), some (.inl r), some (.inl a)], [], σ)) (ps := [0 ≤ r ∧ r < ((4 : Nat) : Int), 0 ≤ a ∧ a < ((4 : Nat) : Int), ck_rg (σ (c + 4) r), ck_rg (σ (c + 4) a)]) rfl ⟨⟨by omega, by omega⟩, ⟨by omega, by omega⟩, hr1, ha1, trivial⟩ ?_
  refine ck_go_ite (fun h => ?_) (fun h => ?_)
  · refine ck_go_run 5 (X1 := (if σ (c + 4) r = 0 then 28 else 24, [some (.inr (c, 3, 0)), some (.inl r), some (.inl a)], [], σ)) (ps := [0 ≤ r ∧ r < ((4 : Nat) : Int), ck_rg (σ (c + 4) r)]) rfl ⟨⟨by omega, by omega⟩, hr1, trivial⟩ ?_
    refine ck_go_ite (fun h2 => ?_) (fun h2 => ?_)
    · refine ck_go_run 1 (X1 := (29, [some (.inr (c, 3, 0)), some (.inl r), some (.inl a)], [.inl 0], σ)) (ps := []) rfl trivial ?_
      exact ck_eZ (Or.inl rfl) ⟨by rw [if_neg (fun q => q.2 h2)], rfl⟩ rfl rfl rfl
    · refine ck_go_run 2 (X1 := (29, [some (.inr (c, 3, 0)), some (.inl r), some (.inl a)], [.inl 1], σ)) (ps := []) rfl trivial ?_
      exact ck_eZ (Or.inr rfl) ⟨by rw [if_pos ⟨h, h2⟩], rfl⟩ rfl rfl rfl
  · refine ck_go_run 1 (X1 := (29, [some (.inr (c, 3, 0)), some (.inl r), some (.inl a)], [.inl 0], σ)) (ps := []) rfl trivial ?_
    exact ck_eZ (Or.inl rfl) ⟨by rw [if_neg (fun q => h q.1)], rfl⟩ rfl rfl rfl
theorem cx_highOfConstant {c v r : Int} (hr : 0 ≤ r ∧ r < 4) {σ : ck_M} (hv : -1000000000 ≤ v ∧ v ≤ 1000000000) (h1 : -1000000000 ≤ σ (c + 4) r ∧ σ (c + 4) r ≤ 1000000000) (h2 : -1000000000 ≤ σ (c + 5) r ∧ σ (c + 5) r ≤ 1000000000) : ck_cal 2 cm_Fa_highOfConstant [.inr (c, 3, 0), .inl v, .inl r] σ (fun q σ' => q = some (if σ (c + 4) r = 0 then 1000000000 else ck_bH (if σ (c + 5) r = 1000000000 then v else v - σ (c + 5) r)) ∧ σ' = σ) := by
  refine ck_cal_of ?_
  refine ck_go_run 5 (X1 := (if σ (c + 4) r = 0 then 9 else 12, [some (.inr (c, 3, 0)), some (.inl v), some (.inl r)], [], σ)) (ps := [0 ≤ r ∧ r < ((4 : Nat) : Int), ck_rg (σ (c + 4) r)]) rfl ⟨⟨by omega, by omega⟩, (ck_rgo (by omega) (by omega)), trivial⟩ ?_
  refine ck_go_ite (fun h => ?_) (fun h => ?_)
  · refine ck_go_run 1 (X1 := (11, [some (.inr (c, 3, 0)), some (.inl v), some (.inl r)], [.inl 1000000000], σ)) (ps := []) rfl trivial ?_
    exact ck_eI ⟨by rw [if_pos h], rfl⟩ rfl rfl rfl
  · refine ck_go_run 6 (X1 := (if σ (c + 5) r = 1000000000 then 23 else 27, [some (.inr (c, 3, 0)), some (.inl v), some (.inl r)], [], σ)) (ps := [0 ≤ r ∧ r < ((4 : Nat) : Int), ck_rg (σ (c + 5) r), ck_rg 1000000000]) rfl ⟨⟨by omega, by omega⟩, (ck_rgo (by omega) (by omega)), (ck_rgo (by omega) (by omega)), trivial⟩ ?_
    refine ck_go_ite (fun h3 => ?_) (fun h3 => ?_)
    · refine ck_go_run 2 (X1 := (35, [some (.inr (c, 3, 0)), some (.inl v), some (.inl r)], [.inl v], σ)) (ps := []) rfl trivial ?_
      refine ck_go_cal (rest := []) (cx_boundedHigh (a := v) (ck_rgo (by omega) (by omega)) σ) ⟨_, rfl, Or.inr ⟨_, rfl⟩, rfl, rfl, rfl, by decide, fun h => absurd h (by decide)⟩ ?_
      rintro q σ' ⟨rfl, rfl⟩
      exact ck_eI ⟨by rw [if_neg h, if_pos h3], rfl⟩ rfl rfl rfl
    · refine ck_go_run 6 (X1 := (35, [some (.inr (c, 3, 0)), some (.inl v), some (.inl r)], [.inl (v - (σ (c + 5) r))], σ)) (ps := [0 ≤ r ∧ r < ((4 : Nat) : Int)]) rfl ⟨⟨by omega, by omega⟩, trivial⟩ ?_
      refine ck_go_cal (rest := []) (cx_boundedHigh (a := v - σ (c + 5) r) (ck_rgo (by omega) (by omega)) σ) ⟨_, rfl, Or.inr ⟨_, rfl⟩, rfl, rfl, rfl, by decide, fun h => absurd h (by decide)⟩ ?_
      rintro q σ' ⟨rfl, rfl⟩
      exact ck_eI ⟨by rw [if_neg h, if_neg h3], rfl⟩ rfl rfl rfl
def ck_dNull (r : Int) (f : ck_D) : ck_D := ck_N (ck_kn f) (ck_lo f) (fun n q => if q = r then 1000000000 else ck_hi f n q) (fun q => if q = r then 0 else ck_va f q) (fun q => if q = r then 1000000000 else ck_sz f q) (fun q => if q = r then 0 else ck_th f q)
theorem cx_setNull {c r : Int} (hr : 0 ≤ r ∧ r < 4) {σ : ck_M} : ck_cal 1 cm_Fa_setNull [.inr (c, 3, 0), .inl r] σ (fun q σ' => q = none ∧ ck_f6 σ σ' c ∧ ck_rd σ' c = ck_dNull r (ck_rd σ c)) := by
  refine ck_cal_of ?_
  refine ck_go_run 17 (X1 := (24, [some (.inr (c, 3, 0)), some (.inl r), some (.inl 0)], [], ck_up (ck_up (ck_up σ (c + 4) r 0) (c + 5) r 1000000000) (c + 6) r 0)) (ps := [0 ≤ r ∧ r < ((4 : Nat) : Int), 0 ≤ r ∧ r < ((4 : Nat) : Int), 0 ≤ r ∧ r < ((4 : Nat) : Int), 0 = 0 ∨ 0 = 1]) rfl ⟨⟨by omega, by omega⟩, ⟨by omega, by omega⟩, ⟨by omega, by omega⟩, Or.inl rfl, trivial⟩ ?_
  refine ck_for 24 (fun v => [some (.inr (c, 3, 0)), some (.inl r), some (.inl v)]) 10 (fun v s => 0 ≤ v ∧ v ≤ 10 ∧ ∀ b j, s b j = if b = c + 3 ∧ 0 ≤ j ∧ j < v * 4 ∧ (j - r) % 4 = 0 then 1000000000 else (ck_up (ck_up (ck_up σ (c + 4) r 0) (c + 5) r 1000000000) (c + 6) r 0) b j) (fun v s hv hI k => ?_) (fun v s hv hI => ?_) 0 _ ⟨by omega, by omega, fun b j => by rw [if_neg (by omega)]⟩
  · obtain ⟨h0, h1, hI⟩ := hI
    refine ck_go_run 3 (X1 := (if v < 10 then 30 else 48, [some (.inr (c, 3, 0)), some (.inl r), some (.inl v)], [], s)) (ps := [ck_rg v, ck_rg 10]) rfl ⟨(ck_rgo (by omega) (by omega)), (ck_rgo (by omega) (by omega)), trivial⟩ ?_
    refine ck_go_t hv ?_
    refine ck_go_run 11 (X1 := (24, [some (.inr (c, 3, 0)), some (.inl r), some (.inl (v + 1))], [], ck_up s (c + 3) ((v * 4) + r) 1000000000)) (ps := [0 ≤ (v * 4) + r ∧ (v * 4) + r < ((40 : Nat) : Int)]) rfl ⟨⟨by omega, by omega⟩, trivial⟩ ?_
    exact k _ ⟨by omega, by omega, fun b j => by
      simp only [ck_up, hI]
      exact ck_ite_or (by omega)⟩
  · obtain ⟨h0, h1, hI⟩ := hI
    refine ck_go_run 3 (X1 := (if v < 10 then 30 else 48, [some (.inr (c, 3, 0)), some (.inl r), some (.inl v)], [], s)) (ps := [ck_rg v, ck_rg 10]) rfl ⟨(ck_rgo (by omega) (by omega)), (ck_rgo (by omega) (by omega)), trivial⟩ ?_
    refine ck_go_f (by omega) ?_
    refine ck_eV ⟨rfl, ?_, ?_⟩ rfl rfl rfl
    · intro b j hb
      simp only [hI, ck_up]
      (repeat' split) <;> first | rfl | omega
    · unfold ck_dNull
      refine ck_N_ext ?_ ?_ ?_ ?_ ?_ ?_ <;> intros <;> (first | rw [ck_r_kn] | rw [ck_r_lo] | rw [ck_r_hi] | rw [ck_r_va] | rw [ck_r_sz] | rw [ck_r_th]) <;> (try assumption) <;> simp only [hI, ck_up, true_and] <;> (repeat' split) <;> first | rfl | omega
end
section
def ck_sa (A B : Int) : Int := if A = B ∧ A ≠ 0 then 1 else 0
theorem ck_rg_sa {A B : Int} : ck_rg (ck_sa A B) := by unfold ck_sa; split <;> exact ⟨by decide, by decide⟩
theorem cx_same {c r a A B : Int} (hr : 0 ≤ r ∧ r < 4) (ha : 0 ≤ a ∧ a < 4) {σ : ck_M} (e1 : σ (c + 4) r = A) (e2 : σ (c + 4) a = B) (h1 : ck_rg A) (h2 : ck_rg B) : ck_cal 1 cm_Fa_isSameArray [.inr (c, 3, 0), .inl r, .inl a] σ (fun q σ' => q = some (ck_sa A B) ∧ σ' = σ) := by
  subst e1 e2
  exact cx_isSameArray hr ha h1 h2
def ck_hc (A B v : Int) : Int := if A = 0 then 1000000000 else ck_bH (if B = 1000000000 then v else v - B)
theorem cx_hoc {c v r A B : Int} (hr : 0 ≤ r ∧ r < 4) {σ : ck_M} (e1 : σ (c + 4) r = A) (e2 : σ (c + 5) r = B) (hv : -1000000000 ≤ v ∧ v ≤ 1000000000) (h1 : -1000000000 ≤ A ∧ A ≤ 1000000000) (h2 : -1000000000 ≤ B ∧ B ≤ 1000000000) : ck_cal 2 cm_Fa_highOfConstant [.inr (c, 3, 0), .inl v, .inl r] σ (fun q σ' => q = some (ck_hc A B v) ∧ σ' = σ) := by
  subst e1 e2
  exact cx_highOfConstant hr hv h1 h2
theorem ck_hoc_eq (f : ck_D) (v r : Int) : ck_hoc f v r = ck_hc (ck_va f r) (ck_sz f r) v := rfl
/-- one more of a row's places -/
theorem ck_st1 {s M : ck_M} {a base v x : Int} {g : Int → Int} (hI1 : ∀ b j, (b ≠ a ∨ j < base ∨ base + v ≤ j) → s b j = M b j) (hI2 : ∀ q, 0 ≤ q → q < v → s a (base + q) = g q) (hx : x = g v) (hv : 0 ≤ v) : (∀ b j, (b ≠ a ∨ j < base ∨ base + (v + 1) ≤ j) → ck_up s a (base + v) x b j = M b j) ∧ ∀ q, 0 ≤ q → q < v + 1 → ck_up s a (base + v) x a (base + q) = g q := by
  refine ⟨fun b j h => ?_, fun q h0 h1 => ?_⟩
  · unfold ck_up
    rw [if_neg (by omega)]
    exact hI1 b j (by omega)
  · unfold ck_up
    by_cases hq : q = v
    · subst hq
      rw [if_pos ⟨rfl, rfl⟩, hx]
    · rw [if_neg (by omega)]
      exact hI2 q h0 (by omega)
theorem ck_st0 {s M : ck_M} {a v x : Int} {g : Int → Int} (hI1 : ∀ b j, (b ≠ a ∨ j < 0 ∨ v ≤ j) → s b j = M b j) (hI2 : ∀ q, 0 ≤ q → q < v → s a q = g q) (hx : x = g v) (hv : 0 ≤ v) : (∀ b j, (b ≠ a ∨ j < 0 ∨ v + 1 ≤ j) → ck_up s a v x b j = M b j) ∧ ∀ q, 0 ≤ q → q < v + 1 → ck_up s a v x a q = g q := by
  refine ⟨fun b j h => ?_, fun q h0 h1 => ?_⟩
  · unfold ck_up
    rw [if_neg (by omega)]
    exact hI1 b j (by omega)
  · unfold ck_up
    by_cases hq : q = v
    · subst hq
      rw [if_pos ⟨rfl, rfl⟩, hx]
    · rw [if_neg (by omega)]
      exact hI2 q h0 (by omega)
theorem ck_st4 {s M : ck_M} {a r v x : Int} {g : Int → Int} (hI1 : ∀ b j, (b ≠ a ∨ j < r ∨ v * 4 + r ≤ j ∨ (j - r) % 4 ≠ 0) → s b j = M b j) (hI2 : ∀ q, 0 ≤ q → q < v → s a (q * 4 + r) = g q) (hx : x = g v) (hv : 0 ≤ v) : (∀ b j, (b ≠ a ∨ j < r ∨ (v + 1) * 4 + r ≤ j ∨ (j - r) % 4 ≠ 0) → ck_up s a (v * 4 + r) x b j = M b j) ∧ ∀ q, 0 ≤ q → q < v + 1 → ck_up s a (v * 4 + r) x a (q * 4 + r) = g q := by
  refine ⟨fun b j h => ?_, fun q h0 h1 => ?_⟩
  · unfold ck_up
    rw [if_neg (by omega)]
    exact hI1 b j (by omega)
  · unfold ck_up
    by_cases hq : q = v
    · subst hq
      rw [if_pos ⟨rfl, rfl⟩, hx]
    · rw [if_neg (by omega)]
      exact hI2 q h0 (by omega)
def ck_dAny (x : Int) (f : ck_D) : ck_D := ck_N (fun n => if n = x then 1000000000 else ck_kn f n) (fun n => if n = x then -1000000000 else ck_lo f n) (fun n q => if n = x then 1000000000 else ck_hi f n q) (ck_va f) (ck_sz f) (ck_th f)
theorem cx_setAnything {c x : Int} (hx : 0 ≤ x ∧ x < 10) {σ : ck_M} : ck_cal 1 cm_Fa_setAnything [.inr (c, 3, 0), .inl x] σ (fun q σ' => q = none ∧ ck_f6 σ σ' c ∧ ck_rd σ' c = ck_dAny x (ck_rd σ c)) := by
  refine ck_cal_of ?_
  refine ck_go_run 12 (X1 := (18, [some (.inr (c, 3, 0)), some (.inl x), some (.inl 0)], [], ck_up (ck_up σ (c + 1) x 1000000000) (c + 2) x ((-1000000000)))) (ps := [0 ≤ x ∧ x < ((10 : Nat) : Int), 0 ≤ x ∧ x < ((10 : Nat) : Int)]) rfl ⟨⟨by omega, by omega⟩, ⟨by omega, by omega⟩, trivial⟩ ?_
  refine ck_for 18 (fun v => [some (.inr (c, 3, 0)), some (.inl x), some (.inl v)]) 4 (fun v s => 0 ≤ v ∧ v ≤ 4 ∧ (∀ b j, (b ≠ c + 3 ∨ j < x * 4 ∨ x * 4 + v ≤ j) → s b j = (ck_up (ck_up σ (c + 1) x 1000000000) (c + 2) x ((-1000000000))) b j) ∧ ∀ q, 0 ≤ q → q < v → s (c + 3) (x * 4 + q) = 1000000000) (fun v s hv hI k => ?_) (fun v s hv hI => ?_) 0 _ ⟨by omega, by omega, fun _ _ _ => rfl, fun _ _ _ => by omega⟩
  · obtain ⟨h0, h4, hI1, hI2⟩ := hI
    refine ck_go_run 3 (X1 := (if v < 4 then 23 else 41, [some (.inr (c, 3, 0)), some (.inl x), some (.inl v)], [], s)) (ps := [ck_rg v, ck_rg 4]) rfl ⟨(ck_rgo (by omega) (by omega)), (ck_rgo (by omega) (by omega)), trivial⟩ ?_
    refine ck_go_t hv ?_
    refine ck_go_run 11 (X1 := (18, [some (.inr (c, 3, 0)), some (.inl x), some (.inl (v + 1))], [], ck_up s (c + 3) ((x * 4) + v) 1000000000)) (ps := [0 ≤ (x * 4) + v ∧ (x * 4) + v < ((40 : Nat) : Int)]) rfl ⟨⟨by omega, by omega⟩, trivial⟩ ?_
    exact k _ ⟨by omega, by omega, ck_st1 (g := fun q => 1000000000) hI1 hI2 rfl h0⟩
  · obtain ⟨h0, h4, hI1, hI2⟩ := hI
    refine ck_go_run 3 (X1 := (if v < 4 then 23 else 41, [some (.inr (c, 3, 0)), some (.inl x), some (.inl v)], [], s)) (ps := [ck_rg v, ck_rg 4]) rfl ⟨(ck_rgo (by omega) (by omega)), (ck_rgo (by omega) (by omega)), trivial⟩ ?_
    refine ck_go_f (by omega) ?_
    refine ck_eV ⟨rfl, ?_, ?_⟩ rfl rfl rfl
    · intro b j hb
      rw [hI1 b j (by omega)]
      simp only [ck_up]
      (repeat' split) <;> first | rfl | omega
    · unfold ck_dAny
      refine ck_N_ext (fun n a0 a1 => ?_) (fun n a0 a1 => ?_) (fun n q a0 a1 b0 b1 => ?_) (fun q b0 b1 => ?_) (fun q b0 b1 => ?_) (fun q b0 b1 => ?_)
      · rw [ck_r_kn a0 a1, hI1 (c + 1) n (by omega)]
        simp only [ck_up, true_and]
        (repeat' split) <;> first | rfl | omega
      · rw [ck_r_lo a0 a1, hI1 (c + 2) n (by omega)]
        simp only [ck_up, true_and]
        (repeat' split) <;> first | rfl | omega
      · by_cases hn : n = x
        · subst hn
          rw [if_pos rfl, hI2 q b0 (by omega)]
        · rw [if_neg hn, ck_r_hi a0 a1 b0 b1, hI1 (c + 3) (n * 4 + q) (by omega)]
          simp only [ck_up]
          (repeat' split) <;> first | rfl | omega
      · rw [ck_r_va b0 b1, hI1 (c + 4) q (by omega)]
        simp only [ck_up, true_and]
        (repeat' split) <;> first | rfl | omega
      · rw [ck_r_sz b0 b1, hI1 (c + 5) q (by omega)]
        simp only [ck_up, true_and]
        (repeat' split) <;> first | rfl | omega
      · rw [ck_r_th b0 b1, hI1 (c + 6) q (by omega)]
        simp only [ck_up, true_and]
        (repeat' split) <;> first | rfl | omega
end
section
section CKX
variable {s : ck_M} {c n r : Int} {f : ck_D}
theorem ck_x_kn (h : ck_rd s c = f) (h0 : 0 ≤ n) (h1 : n < 10) : s (c + 1) n = ck_kn f n := by rw [← h]; exact (ck_r_kn h0 h1).symm
theorem ck_x_lo (h : ck_rd s c = f) (h0 : 0 ≤ n) (h1 : n < 10) : s (c + 2) n = ck_lo f n := by rw [← h]; exact (ck_r_lo h0 h1).symm
theorem ck_x_hi (h : ck_rd s c = f) (h0 : 0 ≤ n) (h1 : n < 10) (h2 : 0 ≤ r) (h3 : r < 4) : s (c + 3) (n * 4 + r) = ck_hi f n r := by rw [← h]; exact (ck_r_hi h0 h1 h2 h3).symm
theorem ck_x_va (h : ck_rd s c = f) (h2 : 0 ≤ r) (h3 : r < 4) : s (c + 4) r = ck_va f r := by rw [← h]; exact (ck_r_va h2 h3).symm
theorem ck_x_sz (h : ck_rd s c = f) (h2 : 0 ≤ r) (h3 : r < 4) : s (c + 5) r = ck_sz f r := by rw [← h]; exact (ck_r_sz h2 h3).symm
theorem ck_x_th (h : ck_rd s c = f) (h2 : 0 ≤ r) (h3 : r < 4) : s (c + 6) r = ck_th f r := by rw [← h]; exact (ck_r_th h2 h3).symm
end CKX
theorem ck_f6_tr {a b d : ck_M} {c : Int} (h : ck_f6 a b c) (h2 : ck_f6 b d c) : ck_f6 a d c := fun x j hx => (h2 x j hx).trans (h x j hx)
theorem ck_sa_0 {A B : Int} (h : ck_sa A B = 0) : ¬ (A = B ∧ A ≠ 0) := by
  intro q
  unfold ck_sa at h
  rw [if_pos q] at h
  cases h
theorem ck_sa_1 {A B : Int} (h : ¬ ck_sa A B = 0) : A = B ∧ A ≠ 0 := by
  by_cases q : A = B ∧ A ≠ 0
  · exact q
  · unfold ck_sa at h
    rw [if_neg q] at h
    exact absurd rfl h
theorem cx_bL {a A : Int} (e : a = A) (ha : ck_rg A) (σ : ck_M) : ck_cal 1 cm_Fa_boundedLow [.inl a] σ (fun r σ' => r = some (ck_bL A) ∧ σ' = σ) := by subst e; exact cx_boundedLow ha σ
theorem cx_bH {a A : Int} (e : a = A) (ha : ck_rg A) (σ : ck_M) : ck_cal 1 cm_Fa_boundedHigh [.inl a] σ (fun r σ' => r = some (ck_bH A) ∧ σ' = σ) := by subst e; exact cx_boundedHigh ha σ
theorem cx_mx {a b A B : Int} (e : a = A) (e2 : b = B) (ha : ck_rg A) (hb : ck_rg B) (σ : ck_M) : ck_cal 1 cm_Jm_max [.inl a, .inl b] σ (fun r σ' => r = some (ck_mx A B) ∧ σ' = σ) := by subst e e2; exact cx_max ha hb σ
theorem cx_mn {a b A B : Int} (e : a = A) (e2 : b = B) (ha : ck_rg A) (hb : ck_rg B) (σ : ck_M) : ck_cal 1 cm_Jm_min [.inl a, .inl b] σ (fun r σ' => r = some (ck_mn A B) ∧ σ' = σ) := by subst e e2; exact cx_min ha hb σ
theorem ck_bHb {v : Int} (h : -2000000000 ≤ v) (h2 : v ≤ 2000000000) : -2000000000 ≤ ck_bH v ∧ ck_bH v ≤ 1000000000 := by unfold ck_bH; split <;> omega
theorem ck_bLb {v : Int} (h : -2000000000 ≤ v) (h2 : v ≤ 2000000000) : -1000000000 ≤ ck_bL v ∧ ck_bL v ≤ 2000000000 := by unfold ck_bL; split <;> omega
theorem ck_hcb {A B v : Int} (hv : -1000000000 ≤ v ∧ v ≤ 1000000000) (hB : -1000000000 ≤ B ∧ B ≤ 1000000000) : -2000000000 ≤ ck_hc A B v ∧ ck_hc A B v ≤ 1000000000 := by
  unfold ck_hc ck_bH
  (repeat' split) <;> omega
/-- a place that isn't written -/
theorem ck_st0n {s M : ck_M} {a v : Int} {g : Int → Int} (hI1 : ∀ b j, (b ≠ a ∨ j < 0 ∨ v ≤ j) → s b j = M b j) (hI2 : ∀ q, 0 ≤ q → q < v → s a q = g q) (hx : M a v = g v) (hv : 0 ≤ v) : (∀ b j, (b ≠ a ∨ j < 0 ∨ v + 1 ≤ j) → s b j = M b j) ∧ ∀ q, 0 ≤ q → q < v + 1 → s a q = g q := by
  refine ⟨fun b j h => hI1 b j (by omega), fun q h0 h1 => ?_⟩
  by_cases hq : q = v
  · subst hq
    rw [hI1 a q (by omega), hx]
  · exact hI2 q h0 (by omega)
theorem ck_st1n {s M : ck_M} {a base v : Int} {g : Int → Int} (hI1 : ∀ b j, (b ≠ a ∨ j < base ∨ base + v ≤ j) → s b j = M b j) (hI2 : ∀ q, 0 ≤ q → q < v → s a (base + q) = g q) (hx : M a (base + v) = g v) (hv : 0 ≤ v) : (∀ b j, (b ≠ a ∨ j < base ∨ base + (v + 1) ≤ j) → s b j = M b j) ∧ ∀ q, 0 ≤ q → q < v + 1 → s a (base + q) = g q := by
  refine ⟨fun b j h => hI1 b j (by omega), fun q h0 h1 => ?_⟩
  by_cases hq : q = v
  · subst hq
    rw [hI1 a (base + q) (by omega), hx]
  · exact hI2 q h0 (by omega)
def ck_dSet (x k : Int) (f : ck_D) : ck_D := ck_N (fun n => if n = x then k else ck_kn f n) (fun n => if n = x then k else ck_lo f n) (fun n q => if n = x then ck_hoc f k q else ck_hi f n q) (ck_va f) (ck_sz f) (ck_th f)
theorem cx_setConstant {c x k : Int} (hx : 0 ≤ x ∧ x < 10) (hk : -1000000 ≤ k ∧ k ≤ 1000000) {σ : ck_M} {f : ck_D} (hf : ck_rd σ c = f) (hB : ck_fb f) : ck_cal 3 cm_Fa_setConstant [.inr (c, 3, 0), .inl x, .inl k] σ (fun q σ' => q = none ∧ ck_f6 σ σ' c ∧ ck_rd σ' c = ck_dSet x k f) := by
  refine ck_cal_of ?_
  refine ck_go_run 12 (X1 := (16, [some (.inr (c, 3, 0)), some (.inl x), some (.inl k), some (.inl 0)], [], ck_up (ck_up σ (c + 1) x k) (c + 2) x k)) (ps := [0 ≤ x ∧ x < ((10 : Nat) : Int), 0 ≤ x ∧ x < ((10 : Nat) : Int)]) rfl ⟨⟨by omega, by omega⟩, ⟨by omega, by omega⟩, trivial⟩ ?_
  refine ck_for 16 (fun v => [some (.inr (c, 3, 0)), some (.inl x), some (.inl k), some (.inl v)]) 4 (fun v s => 0 ≤ v ∧ v ≤ 4 ∧ (∀ b j, (b ≠ c + 3 ∨ j < x * 4 ∨ x * 4 + v ≤ j) → s b j = (ck_up (ck_up σ (c + 1) x k) (c + 2) x k) b j) ∧ ∀ q, 0 ≤ q → q < v → s (c + 3) (x * 4 + q) = ck_hc (ck_va f q) (ck_sz f q) k) (fun v s hv hI kk => ?_) (fun v s hv hI => ?_) 0 _ ⟨by omega, by omega, fun _ _ _ => rfl, fun _ _ _ => by omega⟩
  · obtain ⟨h0, h4, hI1, hI2⟩ := hI
    have e4 : s (c + 4) (v) = σ (c + 4) v := by
      rw [hI1 (c + 4) (v) (by omega)]
      simp only [ck_up]
      (repeat' split) <;> first | rfl | omega
    rw [ck_x_va hf h0 hv] at e4
    have e5 : s (c + 5) (v) = σ (c + 5) v := by
      rw [hI1 (c + 5) (v) (by omega)]
      simp only [ck_up]
      (repeat' split) <;> first | rfl | omega
    rw [ck_x_sz hf h0 hv] at e5
    have b5 := hB.2.2.2.2.1 v
    have b4 := hB.2.2.2.1 v
    refine ck_go_run 3 (X1 := (if v < 4 then 21 else 43, [some (.inr (c, 3, 0)), some (.inl x), some (.inl k), some (.inl v)], [], s)) (ps := [ck_rg v, ck_rg 4]) rfl ⟨(ck_rgo (by omega) (by omega)), (ck_rgo (by omega) (by omega)), trivial⟩ ?_
    refine ck_go_t hv ?_
    refine ck_go_run 10 (X1 := (33, [some (.inr (c, 3, 0)), some (.inl x), some (.inl k), some (.inl v)], [.inl v, .inl k, .inr (c, 3, 0), .inl ((x * 4) + v), .inr (c + 3, 0, 40)], s)) (ps := []) rfl trivial ?_
    refine ck_go_cal (rest := [.inl ((x * 4) + v), .inr (c + 3, 0, 40)]) (ck_cal_le (by decide) (cx_hoc (c := c) (v := k) (r := v) (by omega) e4 e5 (by omega) b4 b5)) ⟨_, rfl, Or.inl ⟨_, rfl⟩, rfl, rfl, rfl, Nat.le_of_ble_eq_true rfl, fun _ => ⟨_, _, rfl⟩⟩ ?_
    rintro _ s' ⟨rfl, e'⟩
    rw [e']
    clear e' s'
    refine ck_go_run 3 (X1 := (16, [some (.inr (c, 3, 0)), some (.inl x), some (.inl k), some (.inl (v + 1))], [], ck_up s (c + 3) ((x * 4) + v) (ck_hc (ck_va f v) (ck_sz f v) k))) (ps := [0 ≤ (x * 4) + v ∧ (x * 4) + v < ((40 : Nat) : Int)]) rfl ⟨⟨by omega, by omega⟩, trivial⟩ ?_
    exact kk _ ⟨by omega, by omega, ck_st1 (g := fun q => ck_hc (ck_va f q) (ck_sz f q) k) hI1 hI2 rfl h0⟩
  · obtain ⟨h0, h4, hI1, hI2⟩ := hI
    refine ck_go_run 3 (X1 := (if v < 4 then 21 else 43, [some (.inr (c, 3, 0)), some (.inl x), some (.inl k), some (.inl v)], [], s)) (ps := [ck_rg v, ck_rg 4]) rfl ⟨(ck_rgo (by omega) (by omega)), (ck_rgo (by omega) (by omega)), trivial⟩ ?_
    refine ck_go_f (by omega) ?_
    refine ck_eV ⟨rfl, ?_, ?_⟩ rfl rfl rfl
    · intro b j hb
      rw [hI1 b j (by omega)]
      simp only [ck_up]
      (repeat' split) <;> first | rfl | omega
    · unfold ck_dSet
      refine ck_N_ext (fun n a0 a1 => ?_) (fun n a0 a1 => ?_) (fun n q a0 a1 b0 b1 => ?_) (fun q b0 b1 => ?_) (fun q b0 b1 => ?_) (fun q b0 b1 => ?_)
      · rw [← ck_x_kn hf a0 a1, hI1 (c + 1) n (by omega)]
        simp only [ck_up, true_and]
        (repeat' split) <;> first | rfl | omega
      · rw [← ck_x_lo hf a0 a1, hI1 (c + 2) n (by omega)]
        simp only [ck_up, true_and]
        (repeat' split) <;> first | rfl | omega
      · by_cases hn : n = x
        · subst hn
          rw [if_pos rfl, hI2 q b0 (by omega), ck_hoc_eq]
        · rw [if_neg hn, ← ck_x_hi hf a0 a1 b0 b1, hI1 (c + 3) (n * 4 + q) (by omega)]
          simp only [ck_up]
          (repeat' split) <;> first | rfl | omega
      · rw [← ck_x_va hf b0 b1, hI1 (c + 4) q (by omega)]
        simp only [ck_up, true_and]
        (repeat' split) <;> first | rfl | omega
      · rw [← ck_x_sz hf b0 b1, hI1 (c + 5) q (by omega)]
        simp only [ck_up, true_and]
        (repeat' split) <;> first | rfl | omega
      · rw [← ck_x_th hf b0 b1, hI1 (c + 6) q (by omega)]
        simp only [ck_up, true_and]
        (repeat' split) <;> first | rfl | omega
def ck_dSum (x y z : Int) (f : ck_D) : ck_D := ck_N (fun n => if n = x then (if ck_kn f y = 1000000000 then 1000000000 else ck_kn f y + z) else ck_kn f n) (fun n => if n = x then ck_bL (ck_lo f y + z) else ck_lo f n) (fun n q => if n = x then ck_bH (ck_hi f y q + z) else ck_hi f n q) (ck_va f) (ck_sz f) (ck_th f)
theorem cx_setSum {c x y z : Int} (hx : 0 ≤ x ∧ x < 10) (hy : 0 ≤ y ∧ y < 10) (hz : -1000 ≤ z ∧ z ≤ 1000) {σ : ck_M} {f : ck_D} (hf : ck_rd σ c = f) (hB : ck_fb f) : ck_cal 2 cm_Fa_setSum [.inr (c, 3, 0), .inl x, .inl y, .inl z] σ (fun q σ' => q = none ∧ ck_f6 σ σ' c ∧ ck_rd σ' c = ck_dSum x y z f) := by
  refine ck_cal_of ?_
  have bk := hB.1 y
  rw [← ck_x_kn hf hy.1 hy.2] at bk
  have bl := hB.2.1 y
  refine ck_go_run 9 (X1 := (if σ (c + 1) y = 1000000000 then 16 else 21, [some (.inr (c, 3, 0)), some (.inl x), some (.inl y), some (.inl z), none], [.inl x, .inr (c + 1, 0, 10)], σ)) (ps := [0 ≤ y ∧ y < ((10 : Nat) : Int), ck_rg (σ (c + 1) y), ck_rg 1000000000]) rfl ⟨⟨by omega, by omega⟩, (ck_rgo (by omega) (by omega)), (ck_rgo (by omega) (by omega)), trivial⟩ ?_
  refine ck_go_ite (fun h1 => ?_) (fun h1 => ?_)
  · refine ck_go_run 12 (X1 := (43, [some (.inr (c, 3, 0)), some (.inl x), some (.inl y), some (.inl z), none], [.inl (((ck_up σ (c + 1) x 1000000000) (c + 2) y) + z), .inl x, .inr (c + 2, 0, 10)], ck_up σ (c + 1) x 1000000000)) (ps := [0 ≤ x ∧ x < ((10 : Nat) : Int), 0 ≤ y ∧ y < ((10 : Nat) : Int)]) rfl ⟨⟨by omega, by omega⟩, ⟨by omega, by omega⟩, trivial⟩ ?_
    refine ck_go_cal (rest := [.inl x, .inr (c + 2, 0, 10)]) (ck_cal_le (by decide) (cx_bL (a := ((ck_up σ (c + 1) x 1000000000) (c + 2) y) + z) (A := ck_lo f y + z) (by rw [← ck_x_lo hf hy.1 hy.2]; simp only [ck_up]; rw [if_neg (by omega)]) (ck_rgo (by omega) (by omega)) _)) ⟨_, rfl, Or.inr ⟨_, rfl⟩, rfl, rfl, rfl, Nat.le_of_ble_eq_true rfl, fun h => absurd h (by decide)⟩ ?_
    rintro _ s' ⟨rfl, e'⟩
    rw [e']
    clear e' s'
    refine ck_go_run 3 (X1 := (50, [some (.inr (c, 3, 0)), some (.inl x), some (.inl y), some (.inl z), some (.inl 0)], [], ck_up (ck_up σ (c + 1) x 1000000000) (c + 2) x (ck_bL (ck_lo f y + z)))) (ps := [0 ≤ x ∧ x < ((10 : Nat) : Int)]) rfl ⟨⟨by omega, by omega⟩, trivial⟩ ?_
    refine ck_for 50 (fun v => [some (.inr (c, 3, 0)), some (.inl x), some (.inl y), some (.inl z), some (.inl v)]) 4 (fun v s => 0 ≤ v ∧ v ≤ 4 ∧ (∀ b j, (b ≠ c + 3 ∨ j < x * 4 ∨ x * 4 + v ≤ j) → s b j = (ck_up (ck_up σ (c + 1) x 1000000000) (c + 2) x (ck_bL (ck_lo f y + z))) b j) ∧ ∀ q, 0 ≤ q → q < v → s (c + 3) (x * 4 + q) = ck_bH (ck_hi f y q + z)) (fun v s hv hI kk => ?_) (fun v s hv hI => ?_) 0 _ ⟨by omega, by omega, fun _ _ _ => rfl, fun _ _ _ => by omega⟩
    · obtain ⟨h0, h4, hI1, hI2⟩ := hI
      have e3 : s (c + 3) (y * 4 + v) = ck_hi f y v := by
        rw [← ck_x_hi hf hy.1 hy.2 h0 hv, hI1 (c + 3) (y * 4 + v) (by omega)]
        simp only [ck_up]
        (repeat' split) <;> first | rfl | omega
      have b3 := hB.2.2.1 y v
      refine ck_go_run 3 (X1 := (if v < 4 then 56 else 89, [some (.inr (c, 3, 0)), some (.inl x), some (.inl y), some (.inl z), some (.inl v)], [], s)) (ps := [ck_rg v, ck_rg 4]) rfl ⟨(ck_rgo (by omega) (by omega)), (ck_rgo (by omega) (by omega)), trivial⟩ ?_
      refine ck_go_t hv ?_
      refine ck_go_run 17 (X1 := (79, [some (.inr (c, 3, 0)), some (.inl x), some (.inl y), some (.inl z), some (.inl v)], [.inl ((s (c + 3) ((y * 4) + v)) + z), .inl ((x * 4) + v), .inr (c + 3, 0, 40)], s)) (ps := [0 ≤ (y * 4) + v ∧ (y * 4) + v < ((40 : Nat) : Int)]) rfl ⟨⟨by omega, by omega⟩, trivial⟩ ?_
      refine ck_go_cal (rest := [.inl ((x * 4) + v), .inr (c + 3, 0, 40)]) (ck_cal_le (by decide) (cx_bH (a := (s (c + 3) ((y * 4) + v)) + z) (A := ck_hi f y v + z) (by rw [← e3]) (ck_rgo (by omega) (by omega)) _)) ⟨_, rfl, Or.inr ⟨_, rfl⟩, rfl, rfl, rfl, Nat.le_of_ble_eq_true rfl, fun h => absurd h (by decide)⟩ ?_
      rintro _ s' ⟨rfl, e'⟩
      rw [e']
      clear e' s'
      refine ck_go_run 3 (X1 := (50, [some (.inr (c, 3, 0)), some (.inl x), some (.inl y), some (.inl z), some (.inl (v + 1))], [], ck_up s (c + 3) ((x * 4) + v) (ck_bH (ck_hi f y v + z)))) (ps := [0 ≤ (x * 4) + v ∧ (x * 4) + v < ((40 : Nat) : Int)]) rfl ⟨⟨by omega, by omega⟩, trivial⟩ ?_
      exact kk _ ⟨by omega, by omega, ck_st1 (g := fun q => ck_bH (ck_hi f y q + z)) hI1 hI2 rfl h0⟩
    · obtain ⟨h0, h4, hI1, hI2⟩ := hI
      refine ck_go_run 3 (X1 := (if v < 4 then 56 else 89, [some (.inr (c, 3, 0)), some (.inl x), some (.inl y), some (.inl z), some (.inl v)], [], s)) (ps := [ck_rg v, ck_rg 4]) rfl ⟨(ck_rgo (by omega) (by omega)), (ck_rgo (by omega) (by omega)), trivial⟩ ?_
      refine ck_go_f (by omega) ?_
      refine ck_eV ⟨rfl, ?_, ?_⟩ rfl rfl rfl
      · intro b j hb
        rw [hI1 b j (by omega)]
        simp only [ck_up]
        (repeat' split) <;> first | rfl | omega
      · unfold ck_dSum
        refine ck_N_ext (fun n a0 a1 => ?_) (fun n a0 a1 => ?_) (fun n q a0 a1 b0 b1 => ?_) (fun q b0 b1 => ?_) (fun q b0 b1 => ?_) (fun q b0 b1 => ?_)
        · rw [← ck_x_kn hf a0 a1, ← ck_x_kn hf hy.1 hy.2, hI1 (c + 1) n (by omega)]
          simp only [ck_up, true_and]
          (repeat' split) <;> first | rfl | omega
        · rw [← ck_x_lo hf a0 a1, hI1 (c + 2) n (by omega)]
          simp only [ck_up, true_and]
          (repeat' split) <;> first | rfl | omega
        · by_cases hn : n = x
          · subst hn
            rw [if_pos rfl, hI2 q b0 (by omega)]
          · rw [if_neg hn, ← ck_x_hi hf a0 a1 b0 b1, hI1 (c + 3) (n * 4 + q) (by omega)]
            simp only [ck_up]
            (repeat' split) <;> first | rfl | omega
        · rw [← ck_x_va hf b0 b1, hI1 (c + 4) q (by omega)]
          simp only [ck_up, true_and]
          (repeat' split) <;> first | rfl | omega
        · rw [← ck_x_sz hf b0 b1, hI1 (c + 5) q (by omega)]
          simp only [ck_up, true_and]
          (repeat' split) <;> first | rfl | omega
        · rw [← ck_x_th hf b0 b1, hI1 (c + 6) q (by omega)]
          simp only [ck_up, true_and]
          (repeat' split) <;> first | rfl | omega
  · refine ck_go_run 16 (X1 := (43, [some (.inr (c, 3, 0)), some (.inl x), some (.inl y), some (.inl z), none], [.inl (((ck_up σ (c + 1) x ((σ (c + 1) y) + z)) (c + 2) y) + z), .inl x, .inr (c + 2, 0, 10)], ck_up σ (c + 1) x ((σ (c + 1) y) + z))) (ps := [0 ≤ y ∧ y < ((10 : Nat) : Int), 0 ≤ x ∧ x < ((10 : Nat) : Int), 0 ≤ y ∧ y < ((10 : Nat) : Int)]) rfl ⟨⟨by omega, by omega⟩, ⟨by omega, by omega⟩, ⟨by omega, by omega⟩, trivial⟩ ?_
    refine ck_go_cal (rest := [.inl x, .inr (c + 2, 0, 10)]) (ck_cal_le (by decide) (cx_bL (a := ((ck_up σ (c + 1) x ((σ (c + 1) y) + z)) (c + 2) y) + z) (A := ck_lo f y + z) (by rw [← ck_x_lo hf hy.1 hy.2]; simp only [ck_up]; rw [if_neg (by omega)]) (ck_rgo (by omega) (by omega)) _)) ⟨_, rfl, Or.inr ⟨_, rfl⟩, rfl, rfl, rfl, Nat.le_of_ble_eq_true rfl, fun h => absurd h (by decide)⟩ ?_
    rintro _ s' ⟨rfl, e'⟩
    rw [e']
    clear e' s'
    refine ck_go_run 3 (X1 := (50, [some (.inr (c, 3, 0)), some (.inl x), some (.inl y), some (.inl z), some (.inl 0)], [], ck_up (ck_up σ (c + 1) x ((σ (c + 1) y) + z)) (c + 2) x (ck_bL (ck_lo f y + z)))) (ps := [0 ≤ x ∧ x < ((10 : Nat) : Int)]) rfl ⟨⟨by omega, by omega⟩, trivial⟩ ?_
    refine ck_for 50 (fun v => [some (.inr (c, 3, 0)), some (.inl x), some (.inl y), some (.inl z), some (.inl v)]) 4 (fun v s => 0 ≤ v ∧ v ≤ 4 ∧ (∀ b j, (b ≠ c + 3 ∨ j < x * 4 ∨ x * 4 + v ≤ j) → s b j = (ck_up (ck_up σ (c + 1) x ((σ (c + 1) y) + z)) (c + 2) x (ck_bL (ck_lo f y + z))) b j) ∧ ∀ q, 0 ≤ q → q < v → s (c + 3) (x * 4 + q) = ck_bH (ck_hi f y q + z)) (fun v s hv hI kk => ?_) (fun v s hv hI => ?_) 0 _ ⟨by omega, by omega, fun _ _ _ => rfl, fun _ _ _ => by omega⟩
    · obtain ⟨h0, h4, hI1, hI2⟩ := hI
      have e3 : s (c + 3) (y * 4 + v) = ck_hi f y v := by
        rw [← ck_x_hi hf hy.1 hy.2 h0 hv, hI1 (c + 3) (y * 4 + v) (by omega)]
        simp only [ck_up]
        (repeat' split) <;> first | rfl | omega
      have b3 := hB.2.2.1 y v
      refine ck_go_run 3 (X1 := (if v < 4 then 56 else 89, [some (.inr (c, 3, 0)), some (.inl x), some (.inl y), some (.inl z), some (.inl v)], [], s)) (ps := [ck_rg v, ck_rg 4]) rfl ⟨(ck_rgo (by omega) (by omega)), (ck_rgo (by omega) (by omega)), trivial⟩ ?_
      refine ck_go_t hv ?_
      refine ck_go_run 17 (X1 := (79, [some (.inr (c, 3, 0)), some (.inl x), some (.inl y), some (.inl z), some (.inl v)], [.inl ((s (c + 3) ((y * 4) + v)) + z), .inl ((x * 4) + v), .inr (c + 3, 0, 40)], s)) (ps := [0 ≤ (y * 4) + v ∧ (y * 4) + v < ((40 : Nat) : Int)]) rfl ⟨⟨by omega, by omega⟩, trivial⟩ ?_
      refine ck_go_cal (rest := [.inl ((x * 4) + v), .inr (c + 3, 0, 40)]) (ck_cal_le (by decide) (cx_bH (a := (s (c + 3) ((y * 4) + v)) + z) (A := ck_hi f y v + z) (by rw [← e3]) (ck_rgo (by omega) (by omega)) _)) ⟨_, rfl, Or.inr ⟨_, rfl⟩, rfl, rfl, rfl, Nat.le_of_ble_eq_true rfl, fun h => absurd h (by decide)⟩ ?_
      rintro _ s' ⟨rfl, e'⟩
      rw [e']
      clear e' s'
      refine ck_go_run 3 (X1 := (50, [some (.inr (c, 3, 0)), some (.inl x), some (.inl y), some (.inl z), some (.inl (v + 1))], [], ck_up s (c + 3) ((x * 4) + v) (ck_bH (ck_hi f y v + z)))) (ps := [0 ≤ (x * 4) + v ∧ (x * 4) + v < ((40 : Nat) : Int)]) rfl ⟨⟨by omega, by omega⟩, trivial⟩ ?_
      exact kk _ ⟨by omega, by omega, ck_st1 (g := fun q => ck_bH (ck_hi f y q + z)) hI1 hI2 rfl h0⟩
    · obtain ⟨h0, h4, hI1, hI2⟩ := hI
      refine ck_go_run 3 (X1 := (if v < 4 then 56 else 89, [some (.inr (c, 3, 0)), some (.inl x), some (.inl y), some (.inl z), some (.inl v)], [], s)) (ps := [ck_rg v, ck_rg 4]) rfl ⟨(ck_rgo (by omega) (by omega)), (ck_rgo (by omega) (by omega)), trivial⟩ ?_
      refine ck_go_f (by omega) ?_
      refine ck_eV ⟨rfl, ?_, ?_⟩ rfl rfl rfl
      · intro b j hb
        rw [hI1 b j (by omega)]
        simp only [ck_up]
        (repeat' split) <;> first | rfl | omega
      · unfold ck_dSum
        refine ck_N_ext (fun n a0 a1 => ?_) (fun n a0 a1 => ?_) (fun n q a0 a1 b0 b1 => ?_) (fun q b0 b1 => ?_) (fun q b0 b1 => ?_) (fun q b0 b1 => ?_)
        · rw [← ck_x_kn hf a0 a1, ← ck_x_kn hf hy.1 hy.2, hI1 (c + 1) n (by omega)]
          simp only [ck_up, true_and]
          (repeat' split) <;> first | rfl | omega
        · rw [← ck_x_lo hf a0 a1, hI1 (c + 2) n (by omega)]
          simp only [ck_up, true_and]
          (repeat' split) <;> first | rfl | omega
        · by_cases hn : n = x
          · subst hn
            rw [if_pos rfl, hI2 q b0 (by omega)]
          · rw [if_neg hn, ← ck_x_hi hf a0 a1 b0 b1, hI1 (c + 3) (n * 4 + q) (by omega)]
            simp only [ck_up]
            (repeat' split) <;> first | rfl | omega
        · rw [← ck_x_va hf b0 b1, hI1 (c + 4) q (by omega)]
          simp only [ck_up, true_and]
          (repeat' split) <;> first | rfl | omega
        · rw [← ck_x_sz hf b0 b1, hI1 (c + 5) q (by omega)]
          simp only [ck_up, true_and]
          (repeat' split) <;> first | rfl | omega
        · rw [← ck_x_th hf b0 b1, hI1 (c + 6) q (by omega)]
          simp only [ck_up, true_and]
          (repeat' split) <;> first | rfl | omega
def ck_dMark (a : Int) (f : ck_D) : ck_D := ck_N (ck_kn f) (ck_lo f) (ck_hi f) (ck_va f) (ck_sz f) (fun q => if ck_va f q = ck_va f a ∧ ck_va f q ≠ 0 then 1 else ck_th f q)
theorem cx_markThere {c a : Int} (ha : 0 ≤ a ∧ a < 4) {σ : ck_M} {f : ck_D} (hf : ck_rd σ c = f) (hB : ck_fb f) : ck_cal 2 cm_Fa_markThere [.inr (c, 3, 0), .inl a] σ (fun q σ' => q = none ∧ ck_f6 σ σ' c ∧ ck_rd σ' c = ck_dMark a f) := by
  refine ck_cal_of ?_
  refine ck_go_run 2 (X1 := (2, [some (.inr (c, 3, 0)), some (.inl a), some (.inl 0)], [], σ)) (ps := []) rfl trivial ?_
  refine ck_for 2 (fun v => [some (.inr (c, 3, 0)), some (.inl a), some (.inl v)]) 4 (fun v s => 0 ≤ v ∧ v ≤ 4 ∧ (∀ b j, (b ≠ c + 6 ∨ j < 0 ∨ v ≤ j) → s b j = (σ) b j) ∧ ∀ q, 0 ≤ q → q < v → s (c + 6) q = (if ck_va f q = ck_va f a ∧ ck_va f q ≠ 0 then 1 else ck_th f q)) (fun v s hv hI kk => ?_) (fun v s hv hI => ?_) 0 _ ⟨by omega, by omega, fun _ _ _ => rfl, fun _ _ _ => by omega⟩
  · obtain ⟨h0, h4, hI1, hI2⟩ := hI
    have e4 : s (c + 4) v = ck_va f v := by rw [← ck_x_va hf h0 hv]; exact hI1 _ _ (by omega)
    have e4a : s (c + 4) a = ck_va f a := by rw [← ck_x_va hf ha.1 ha.2]; exact hI1 _ _ (by omega)
    have b4 := hB.2.2.2.1 v
    have b4a := hB.2.2.2.1 a
    refine ck_go_run 3 (X1 := (if v < 4 then 7 else 29, [some (.inr (c, 3, 0)), some (.inl a), some (.inl v)], [], s)) (ps := [ck_rg v, ck_rg 4]) rfl ⟨(ck_rgo (by omega) (by omega)), (ck_rgo (by omega) (by omega)), trivial⟩ ?_
    refine ck_go_t hv ?_
    refine ck_go_run 3 (X1 := (10, [some (.inr (c, 3, 0)), some (.inl a), some (.inl v)], [.inl a, .inl v, .inr (c, 3, 0)], s)) (ps := []) rfl trivial ?_
    refine ck_go_cal (rest := []) (ck_cal_le (by decide) (cx_same (c := c) (r := v) (a := a) (by omega) ha e4 e4a (ck_rgo (by omega) (by omega)) (ck_rgo (by omega) (by omega)))) ⟨_, rfl, Or.inl ⟨_, rfl⟩, rfl, rfl, rfl, Nat.le_of_ble_eq_true rfl, fun _ => ⟨_, _, rfl⟩⟩ ?_
    rintro _ s' ⟨rfl, e'⟩
    rw [e']
    clear e' s'
    refine ck_go_run 1 (X1 := (if ck_sa (ck_va f v) (ck_va f a) = 0 then 23 else 16, [some (.inr (c, 3, 0)), some (.inl a), some (.inl v)], [], s)) (ps := [ck_rg (ck_sa (ck_va f v) (ck_va f a))]) rfl ⟨ck_rg_sa, trivial⟩ ?_
    refine ck_go_ite (fun h1 => ?_) (fun h1 => ?_)
    · refine ck_go_run 2 (X1 := (2, [some (.inr (c, 3, 0)), some (.inl a), some (.inl (v + 1))], [], s)) (ps := []) rfl trivial ?_
      exact kk _ ⟨by omega, by omega, ck_st0n (g := fun q => (if ck_va f q = ck_va f a ∧ ck_va f q ≠ 0 then 1 else ck_th f q)) hI1 hI2 (by rw [ck_x_th hf h0 hv, if_neg (ck_sa_0 h1)]) h0⟩
    · refine ck_go_run 7 (X1 := (2, [some (.inr (c, 3, 0)), some (.inl a), some (.inl (v + 1))], [], ck_up s (c + 6) v 1)) (ps := [0 ≤ v ∧ v < ((4 : Nat) : Int), 1 = 0 ∨ 1 = 1]) rfl ⟨⟨by omega, by omega⟩, Or.inr rfl, trivial⟩ ?_
      exact kk _ ⟨by omega, by omega, ck_st0 (g := fun q => (if ck_va f q = ck_va f a ∧ ck_va f q ≠ 0 then 1 else ck_th f q)) hI1 hI2 (by rw [if_pos (ck_sa_1 h1)]) h0⟩
  · obtain ⟨h0, h4, hI1, hI2⟩ := hI
    refine ck_go_run 3 (X1 := (if v < 4 then 7 else 29, [some (.inr (c, 3, 0)), some (.inl a), some (.inl v)], [], s)) (ps := [ck_rg v, ck_rg 4]) rfl ⟨(ck_rgo (by omega) (by omega)), (ck_rgo (by omega) (by omega)), trivial⟩ ?_
    refine ck_go_f (by omega) ?_
    refine ck_eV ⟨rfl, ?_, ?_⟩ rfl rfl rfl
    · intro b j hb
      rw [hI1 b j (by omega)]
    · unfold ck_dMark
      refine ck_N_ext (fun n a0 a1 => ?_) (fun n a0 a1 => ?_) (fun n q a0 a1 b0 b1 => ?_) (fun q b0 b1 => ?_) (fun q b0 b1 => ?_) (fun q b0 b1 => ?_)
      · rw [← ck_x_kn hf a0 a1, hI1 (c + 1) n (by omega)]
      · rw [← ck_x_lo hf a0 a1, hI1 (c + 2) n (by omega)]
      · rw [← ck_x_hi hf a0 a1 b0 b1, hI1 (c + 3) (n * 4 + q) (by omega)]
      · rw [← ck_x_va hf b0 b1, hI1 (c + 4) q (by omega)]
      · rw [← ck_x_sz hf b0 b1, hI1 (c + 5) q (by omega)]
      · rw [hI2 q b0 (by omega)]
end
section
theorem ck_forU {d : Nat} {md : ck_MD} {T : ck_F → Prop} (hd : Nat) (ls : Int → (Option ck_PV × Option ck_PV × Option ck_PV) → ck_Ls) (B : Int) (I : Int → ck_M → Prop) (body : ∀ v u σ, v < B → I v σ → (∀ u' σ', I (v + 1) σ' → ck_go d md (hd, ls (v + 1) u', [], σ') T) → ck_go d md (hd, ls v u, [], σ) T) (stop : ∀ v u σ, B ≤ v → I v σ → ck_go d md (hd, ls v u, [], σ) T) : ∀ v u σ, I v σ → ck_go d md (hd, ls v u, [], σ) T := by
  have h : ∀ (n : Nat) (v : Int) (u : Option ck_PV × Option ck_PV × Option ck_PV) (σ : ck_M), (B - v).toNat ≤ n → I v σ → ck_go d md (hd, ls v u, [], σ) T := by
    intro n
    induction n with
    | zero => exact fun v u σ hn hI => stop v u σ (by omega) hI
    | succ n ih =>
      intro v u σ hn hI
      by_cases hv : v < B
      · exact body v u σ hv hI (fun u' σ' h' => ih (v + 1) u' σ' (by omega) h')
      · exact stop v u σ (by omega) hI
  exact fun v u σ hI => h _ v u σ (Nat.le_refl _) hI
theorem ck_mxb {a b : Int} : (ck_mx a b = a ∨ ck_mx a b = b) ∧ a ≤ ck_mx a b ∧ b ≤ ck_mx a b := by unfold ck_mx; split <;> omega
theorem ck_mnb {a b : Int} : (ck_mn a b = a ∨ ck_mn a b = b) ∧ ck_mn a b ≤ a ∧ ck_mn a b ≤ b := by unfold ck_mn; split <;> omega
theorem ck_rg_and {a b : Int} : ck_rg (ck_and a b) := ⟨Int32.le_toInt _, Int32.toInt_lt _⟩
def ck_dLen (x a : Int) (f : ck_D) : ck_D := ck_N (fun n => if n = x then 1000000000 else ck_kn f n) (fun n => if n = x then 0 else ck_lo f n) (fun n q => if n = x then (if ck_va f q = ck_va f a ∧ ck_va f q ≠ 0 then 0 else 1000000000) else ck_hi f n q) (ck_va f) (ck_sz f) (fun q => if ck_va f q = ck_va f a ∧ ck_va f q ≠ 0 then 1 else ck_th f q)
theorem cx_setLength {c x a : Int} (hx : 0 ≤ x ∧ x < 10) (ha : 0 ≤ a ∧ a < 4) {σ : ck_M} {f : ck_D} (hf : ck_rd σ c = f) (hB : ck_fb f) : ck_cal 3 cm_Fa_setLength [.inr (c, 3, 0), .inl x, .inl a] σ (fun q σ' => q = none ∧ ck_f6 σ σ' c ∧ ck_rd σ' c = ck_dLen x a f) := by
  refine ck_cal_of ?_
  refine ck_go_run 2 (X1 := (2, [some (.inr (c, 3, 0)), some (.inl x), some (.inl a), none], [.inl a, .inr (c, 3, 0)], σ)) (ps := []) rfl trivial ?_
  refine ck_go_cal (rest := []) (ck_cal_le (by decide) (cx_markThere (c := c) (a := a) ha hf hB)) ⟨_, rfl, Or.inl ⟨_, rfl⟩, rfl, rfl, rfl, Nat.le_of_ble_eq_true rfl, fun _ => ⟨_, _, rfl⟩⟩ ?_
  rintro _ s1 ⟨rfl, g1, r1⟩
  try dsimp only at g1 r1
  refine ck_go_run 2 (X1 := (7, [some (.inr (c, 3, 0)), some (.inl x), some (.inl a), none], [.inl x, .inr (c, 3, 0)], s1)) (ps := []) rfl trivial ?_
  refine ck_go_cal (rest := []) (ck_cal_le (by decide) (cx_setAnything (c := c) (x := x) hx)) ⟨_, rfl, Or.inl ⟨_, rfl⟩, rfl, rfl, rfl, Nat.le_of_ble_eq_true rfl, fun _ => ⟨_, _, rfl⟩⟩ ?_
  rintro _ s2 ⟨rfl, g2, r2⟩
  try dsimp only at g2 r2
  rw [r1] at r2
  refine ck_go_run 7 (X1 := (19, [some (.inr (c, 3, 0)), some (.inl x), some (.inl a), some (.inl 0)], [], ck_up s2 (c + 2) x 0)) (ps := [0 ≤ x ∧ x < ((10 : Nat) : Int)]) rfl ⟨⟨by omega, by omega⟩, trivial⟩ ?_
  refine ck_for 19 (fun v => [some (.inr (c, 3, 0)), some (.inl x), some (.inl a), some (.inl v)]) 4 (fun v s => 0 ≤ v ∧ v ≤ 4 ∧ (∀ b j, (b ≠ c + 3 ∨ j < x * 4 ∨ x * 4 + v ≤ j) → s b j = (ck_up s2 (c + 2) x 0) b j) ∧ ∀ q, 0 ≤ q → q < v → s (c + 3) (x * 4 + q) = (if ck_va f q = ck_va f a ∧ ck_va f q ≠ 0 then 0 else 1000000000)) (fun v s hv hI kk => ?_) (fun v s hv hI => ?_) 0 _ ⟨by omega, by omega, fun _ _ _ => rfl, fun _ _ _ => by omega⟩
  · obtain ⟨h0, h4, hI1, hI2⟩ := hI
    have e4 : s (c + 4) v = ck_va f v := by
      rw [hI1 _ _ (by omega)]
      simp only [ck_up]
      rw [if_neg (by omega), ck_x_va r2 h0 hv]
      simp only [ck_dAny, ck_dMark, ck_N_va h0 hv]
    have e4a : s (c + 4) a = ck_va f a := by
      rw [hI1 _ _ (by omega)]
      simp only [ck_up]
      rw [if_neg (by omega), ck_x_va r2 ha.1 ha.2]
      simp only [ck_dAny, ck_dMark, ck_N_va ha.1 ha.2]
    have b4 := hB.2.2.2.1 v
    have b4a := hB.2.2.2.1 a
    refine ck_go_run 3 (X1 := (if v < 4 then 24 else 50, [some (.inr (c, 3, 0)), some (.inl x), some (.inl a), some (.inl v)], [], s)) (ps := [ck_rg v, ck_rg 4]) rfl ⟨(ck_rgo (by omega) (by omega)), (ck_rgo (by omega) (by omega)), trivial⟩ ?_
    refine ck_go_t hv ?_
    refine ck_go_run 3 (X1 := (27, [some (.inr (c, 3, 0)), some (.inl x), some (.inl a), some (.inl v)], [.inl a, .inl v, .inr (c, 3, 0)], s)) (ps := []) rfl trivial ?_
    refine ck_go_cal (rest := []) (ck_cal_le (by decide) (cx_same (c := c) (r := v) (a := a) (by omega) ha e4 e4a (ck_rgo (by omega) (by omega)) (ck_rgo (by omega) (by omega)))) ⟨_, rfl, Or.inl ⟨_, rfl⟩, rfl, rfl, rfl, Nat.le_of_ble_eq_true rfl, fun _ => ⟨_, _, rfl⟩⟩ ?_
    rintro _ s' ⟨rfl, e'⟩
    rw [e']
    clear e' s'
    refine ck_go_run 1 (X1 := (if ck_sa (ck_va f v) (ck_va f a) = 0 then 44 else 33, [some (.inr (c, 3, 0)), some (.inl x), some (.inl a), some (.inl v)], [], s)) (ps := [ck_rg (ck_sa (ck_va f v) (ck_va f a))]) rfl ⟨ck_rg_sa, trivial⟩ ?_
    refine ck_go_ite (fun h1 => ?_) (fun h1 => ?_)
    · refine ck_go_run 2 (X1 := (19, [some (.inr (c, 3, 0)), some (.inl x), some (.inl a), some (.inl (v + 1))], [], s)) (ps := []) rfl trivial ?_
      exact kk _ ⟨by omega, by omega, ck_st1n (g := fun q => (if ck_va f q = ck_va f a ∧ ck_va f q ≠ 0 then 0 else 1000000000)) hI1 hI2 (by
        simp only [ck_up]
        rw [if_neg (by omega), ck_x_hi r2 hx.1 hx.2 h0 hv]
        simp only [ck_dAny, ck_N_hi hx.1 hx.2 h0 hv, if_true]
        rw [if_neg (ck_sa_0 h1)]) h0⟩
    · refine ck_go_run 11 (X1 := (19, [some (.inr (c, 3, 0)), some (.inl x), some (.inl a), some (.inl (v + 1))], [], ck_up s (c + 3) ((x * 4) + v) 0)) (ps := [0 ≤ (x * 4) + v ∧ (x * 4) + v < ((40 : Nat) : Int)]) rfl ⟨⟨by omega, by omega⟩, trivial⟩ ?_
      exact kk _ ⟨by omega, by omega, ck_st1 (g := fun q => (if ck_va f q = ck_va f a ∧ ck_va f q ≠ 0 then 0 else 1000000000)) hI1 hI2 (by rw [if_pos (ck_sa_1 h1)]) h0⟩
  · obtain ⟨h0, h4, hI1, hI2⟩ := hI
    refine ck_go_run 3 (X1 := (if v < 4 then 24 else 50, [some (.inr (c, 3, 0)), some (.inl x), some (.inl a), some (.inl v)], [], s)) (ps := [ck_rg v, ck_rg 4]) rfl ⟨(ck_rgo (by omega) (by omega)), (ck_rgo (by omega) (by omega)), trivial⟩ ?_
    refine ck_go_f (by omega) ?_
    refine ck_eV ⟨rfl, ?_, ?_⟩ rfl rfl rfl
    · intro b j hb
      rw [hI1 b j (by omega)]
      simp only [ck_up]
      rw [if_neg (by omega), g2 b j hb, g1 b j hb]
    · unfold ck_dLen
      refine ck_N_ext (fun n a0 a1 => ?_) (fun n a0 a1 => ?_) (fun n q a0 a1 b0 b1 => ?_) (fun q b0 b1 => ?_) (fun q b0 b1 => ?_) (fun q b0 b1 => ?_)
      · rw [hI1 (c + 1) n (by omega)]
        simp only [ck_up, true_and]
        rw [ck_x_kn r2 a0 a1]
        simp only [ck_dAny, ck_dMark, ck_N_kn a0 a1]
        try ((repeat' split) <;> first | rfl | omega)
      · rw [hI1 (c + 2) n (by omega)]
        simp only [ck_up, true_and]
        by_cases hn : n = x
        · rw [if_pos hn, if_pos hn]
        · rw [if_neg hn, if_neg hn, ck_x_lo r2 a0 a1]
          simp only [ck_dAny, ck_dMark, ck_N_lo a0 a1]
          rw [if_neg hn]
      · by_cases hn : n = x
        · subst hn
          rw [if_pos rfl, hI2 q b0 (by omega)]
        · rw [if_neg hn, hI1 (c + 3) (n * 4 + q) (by omega)]
          simp only [ck_up]
          rw [if_neg (by omega), ck_x_hi r2 a0 a1 b0 b1]
          simp only [ck_dAny, ck_dMark, ck_N_hi a0 a1 b0 b1]
          rw [if_neg hn]
      · rw [hI1 (c + 4) q (by omega)]
        simp only [ck_up, true_and]
        rw [ck_x_va r2 b0 b1]
        simp only [ck_dAny, ck_dMark, ck_N_va b0 b1]
        try ((repeat' split) <;> first | rfl | omega)
      · rw [hI1 (c + 5) q (by omega)]
        simp only [ck_up, true_and]
        rw [ck_x_sz r2 b0 b1]
        simp only [ck_dAny, ck_dMark, ck_N_sz b0 b1]
        try ((repeat' split) <;> first | rfl | omega)
      · rw [hI1 (c + 6) q (by omega)]
        simp only [ck_up, true_and]
        rw [ck_x_th r2 b0 b1]
        simp only [ck_dAny, ck_dMark, ck_N_th b0 b1]
        try ((repeat' split) <;> first | rfl | omega)
def ck_dUse (a m : Int) (f : ck_D) : ck_D := ck_N (ck_kn f) (fun n => if n = m then ck_mx (ck_lo f m) 0 else ck_lo f n) (fun n q => if n = m then (if ck_va f q = ck_va f a ∧ ck_va f q ≠ 0 then ck_mn (ck_hi f m q) (-1) else ck_hi f m q) else ck_hi f n q) (ck_va f) (ck_sz f) (fun q => if ck_va f q = ck_va f a ∧ ck_va f q ≠ 0 then 1 else ck_th f q)
theorem cx_useIndex {c a m : Int} (ha : 0 ≤ a ∧ a < 4) (hm : 0 ≤ m ∧ m < 10) {σ : ck_M} {f : ck_D} (hf : ck_rd σ c = f) (hB : ck_fb f) : ck_cal 3 cm_Fa_useIndex [.inr (c, 3, 0), .inl a, .inl m] σ (fun q σ' => q = none ∧ ck_f6 σ σ' c ∧ ck_rd σ' c = ck_dUse a m f) := by
  refine ck_cal_of ?_
  have bl := hB.2.1 m
  refine ck_go_run 2 (X1 := (2, [some (.inr (c, 3, 0)), some (.inl a), some (.inl m), none], [.inl a, .inr (c, 3, 0)], σ)) (ps := []) rfl trivial ?_
  refine ck_go_cal (rest := []) (ck_cal_le (by decide) (cx_markThere (c := c) (a := a) ha hf hB)) ⟨_, rfl, Or.inl ⟨_, rfl⟩, rfl, rfl, rfl, Nat.le_of_ble_eq_true rfl, fun _ => ⟨_, _, rfl⟩⟩ ?_
  rintro _ s1 ⟨rfl, g1, r1⟩
  try dsimp only at g1 r1
  refine ck_go_run 8 (X1 := (17, [some (.inr (c, 3, 0)), some (.inl a), some (.inl m), none], [.inl 0, .inl (s1 (c + 2) m), .inl m, .inr (c + 2, 0, 10)], s1)) (ps := [0 ≤ m ∧ m < ((10 : Nat) : Int)]) rfl ⟨⟨by omega, by omega⟩, trivial⟩ ?_
  refine ck_go_cal (rest := [.inl m, .inr (c + 2, 0, 10)]) (ck_cal_le (by decide) (cx_mx (A := ck_lo f m) (B := 0) (by rw [ck_x_lo r1 hm.1 hm.2]; simp only [ck_dMark, ck_N_lo hm.1 hm.2]) rfl (ck_rgo (by omega) (by omega)) (ck_rgo (by omega) (by omega)) _)) ⟨_, rfl, Or.inr ⟨_, rfl⟩, rfl, rfl, rfl, Nat.le_of_ble_eq_true rfl, fun h => absurd h (by decide)⟩ ?_
  rintro _ s' ⟨rfl, e'⟩
  rw [e']
  clear e' s'
  refine ck_go_run 3 (X1 := (23, [some (.inr (c, 3, 0)), some (.inl a), some (.inl m), some (.inl 0)], [], ck_up s1 (c + 2) m (ck_mx (ck_lo f m) 0))) (ps := [0 ≤ m ∧ m < ((10 : Nat) : Int)]) rfl ⟨⟨by omega, by omega⟩, trivial⟩ ?_
  refine ck_for 23 (fun v => [some (.inr (c, 3, 0)), some (.inl a), some (.inl m), some (.inl v)]) 4 (fun v s => 0 ≤ v ∧ v ≤ 4 ∧ (∀ b j, (b ≠ c + 3 ∨ j < m * 4 ∨ m * 4 + v ≤ j) → s b j = (ck_up s1 (c + 2) m (ck_mx (ck_lo f m) 0)) b j) ∧ ∀ q, 0 ≤ q → q < v → s (c + 3) (m * 4 + q) = (if ck_va f q = ck_va f a ∧ ck_va f q ≠ 0 then ck_mn (ck_hi f m q) (-1) else ck_hi f m q)) (fun v s hv hI kk => ?_) (fun v s hv hI => ?_) 0 _ ⟨by omega, by omega, fun _ _ _ => rfl, fun _ _ _ => by omega⟩
  · obtain ⟨h0, h4, hI1, hI2⟩ := hI
    have e4 : s (c + 4) v = ck_va f v := by
      rw [hI1 _ _ (by omega)]
      simp only [ck_up]
      rw [if_neg (by omega), ck_x_va r1 h0 hv]
      simp only [ck_dMark, ck_N_va h0 hv]
    have e4a : s (c + 4) a = ck_va f a := by
      rw [hI1 _ _ (by omega)]
      simp only [ck_up]
      rw [if_neg (by omega), ck_x_va r1 ha.1 ha.2]
      simp only [ck_dMark, ck_N_va ha.1 ha.2]
    have b4 := hB.2.2.2.1 v
    have b4a := hB.2.2.2.1 a
    have e3 : s (c + 3) (m * 4 + v) = ck_hi f m v := by
      rw [hI1 _ _ (by omega)]
      simp only [ck_up]
      rw [if_neg (by omega), ck_x_hi r1 hm.1 hm.2 h0 hv]
      simp only [ck_dMark, ck_N_hi hm.1 hm.2 h0 hv]
    have b3 := hB.2.2.1 m v
    refine ck_go_run 3 (X1 := (if v < 4 then 28 else 67, [some (.inr (c, 3, 0)), some (.inl a), some (.inl m), some (.inl v)], [], s)) (ps := [ck_rg v, ck_rg 4]) rfl ⟨(ck_rgo (by omega) (by omega)), (ck_rgo (by omega) (by omega)), trivial⟩ ?_
    refine ck_go_t hv ?_
    refine ck_go_run 3 (X1 := (31, [some (.inr (c, 3, 0)), some (.inl a), some (.inl m), some (.inl v)], [.inl a, .inl v, .inr (c, 3, 0)], s)) (ps := []) rfl trivial ?_
    refine ck_go_cal (rest := []) (ck_cal_le (by decide) (cx_same (c := c) (r := v) (a := a) (by omega) ha e4 e4a (ck_rgo (by omega) (by omega)) (ck_rgo (by omega) (by omega)))) ⟨_, rfl, Or.inl ⟨_, rfl⟩, rfl, rfl, rfl, Nat.le_of_ble_eq_true rfl, fun _ => ⟨_, _, rfl⟩⟩ ?_
    rintro _ s' ⟨rfl, e'⟩
    rw [e']
    clear e' s'
    refine ck_go_run 1 (X1 := (if ck_sa (ck_va f v) (ck_va f a) = 0 then 61 else 37, [some (.inr (c, 3, 0)), some (.inl a), some (.inl m), some (.inl v)], [], s)) (ps := [ck_rg (ck_sa (ck_va f v) (ck_va f a))]) rfl ⟨ck_rg_sa, trivial⟩ ?_
    refine ck_go_ite (fun h1 => ?_) (fun h1 => ?_)
    · refine ck_go_run 2 (X1 := (23, [some (.inr (c, 3, 0)), some (.inl a), some (.inl m), some (.inl (v + 1))], [], s)) (ps := []) rfl trivial ?_
      exact kk _ ⟨by omega, by omega, ck_st1n (g := fun q => (if ck_va f q = ck_va f a ∧ ck_va f q ≠ 0 then ck_mn (ck_hi f m q) (-1) else ck_hi f m q)) hI1 hI2 (by
        rw [if_neg (ck_sa_0 h1), ← e3, hI1 _ _ (by omega)]) h0⟩
    · refine ck_go_run 16 (X1 := (57, [some (.inr (c, 3, 0)), some (.inl a), some (.inl m), some (.inl v)], [.inl ((-1)), .inl (s (c + 3) ((m * 4) + v)), .inl ((m * 4) + v), .inr (c + 3, 0, 40)], s)) (ps := [0 ≤ (m * 4) + v ∧ (m * 4) + v < ((40 : Nat) : Int)]) rfl ⟨⟨by omega, by omega⟩, trivial⟩ ?_
      refine ck_go_cal (rest := [.inl ((m * 4) + v), .inr (c + 3, 0, 40)]) (ck_cal_le (by decide) (cx_mn (A := ck_hi f m v) (B := -1) e3 rfl (ck_rgo (by omega) (by omega)) (ck_rgo (by omega) (by omega)) _)) ⟨_, rfl, Or.inr ⟨_, rfl⟩, rfl, rfl, rfl, Nat.le_of_ble_eq_true rfl, fun h => absurd h (by decide)⟩ ?_
      rintro _ s' ⟨rfl, e'⟩
      rw [e']
      clear e' s'
      refine ck_go_run 3 (X1 := (23, [some (.inr (c, 3, 0)), some (.inl a), some (.inl m), some (.inl (v + 1))], [], ck_up s (c + 3) ((m * 4) + v) (ck_mn (ck_hi f m v) (-1)))) (ps := [0 ≤ (m * 4) + v ∧ (m * 4) + v < ((40 : Nat) : Int)]) rfl ⟨⟨by omega, by omega⟩, trivial⟩ ?_
      exact kk _ ⟨by omega, by omega, ck_st1 (g := fun q => (if ck_va f q = ck_va f a ∧ ck_va f q ≠ 0 then ck_mn (ck_hi f m q) (-1) else ck_hi f m q)) hI1 hI2 (by rw [if_pos (ck_sa_1 h1)]) h0⟩
  · obtain ⟨h0, h4, hI1, hI2⟩ := hI
    refine ck_go_run 3 (X1 := (if v < 4 then 28 else 67, [some (.inr (c, 3, 0)), some (.inl a), some (.inl m), some (.inl v)], [], s)) (ps := [ck_rg v, ck_rg 4]) rfl ⟨(ck_rgo (by omega) (by omega)), (ck_rgo (by omega) (by omega)), trivial⟩ ?_
    refine ck_go_f (by omega) ?_
    refine ck_eV ⟨rfl, ?_, ?_⟩ rfl rfl rfl
    · intro b j hb
      rw [hI1 b j (by omega)]
      simp only [ck_up]
      rw [if_neg (by omega), g1 b j hb]
    · unfold ck_dUse
      refine ck_N_ext (fun n a0 a1 => ?_) (fun n a0 a1 => ?_) (fun n q a0 a1 b0 b1 => ?_) (fun q b0 b1 => ?_) (fun q b0 b1 => ?_) (fun q b0 b1 => ?_)
      · rw [hI1 (c + 1) n (by omega)]
        simp only [ck_up, true_and]
        rw [ck_x_kn r1 a0 a1]
        simp only [ck_dMark, ck_N_kn a0 a1]
        try ((repeat' split) <;> first | rfl | omega)
      · rw [hI1 (c + 2) n (by omega)]
        simp only [ck_up, true_and]
        by_cases hn : n = m
        · rw [if_pos hn, if_pos hn]
        · rw [if_neg hn, if_neg hn, ck_x_lo r1 a0 a1]
          simp only [ck_dMark, ck_N_lo a0 a1]
      · by_cases hn : n = m
        · subst hn
          rw [if_pos rfl, hI2 q b0 (by omega)]
        · rw [if_neg hn, hI1 (c + 3) (n * 4 + q) (by omega)]
          simp only [ck_up]
          rw [if_neg (by omega), ck_x_hi r1 a0 a1 b0 b1]
          simp only [ck_dMark, ck_N_hi a0 a1 b0 b1]
      · rw [hI1 (c + 4) q (by omega)]
        simp only [ck_up, true_and]
        rw [ck_x_va r1 b0 b1]
        simp only [ck_dMark, ck_N_va b0 b1]
        try ((repeat' split) <;> first | rfl | omega)
      · rw [hI1 (c + 5) q (by omega)]
        simp only [ck_up, true_and]
        rw [ck_x_sz r1 b0 b1]
        simp only [ck_dMark, ck_N_sz b0 b1]
        try ((repeat' split) <;> first | rfl | omega)
      · rw [hI1 (c + 6) q (by omega)]
        simp only [ck_up, true_and]
        rw [ck_x_th r1 b0 b1]
        simp only [ck_dMark, ck_N_th b0 b1]
        try ((repeat' split) <;> first | rfl | omega)
end
section
def ck_dNew (a y k : Int) (f : ck_D) : ck_D := ck_N (ck_kn f) (fun n => if n = y then ck_mx (ck_lo f y) 0 else ck_lo f n) (fun n q => if q = a then (if n = y then 0 else if ck_kn f n = 1000000000 then 1000000000 else ck_bH (if ck_kn f y = 1000000000 then ck_kn f n else ck_kn f n - ck_kn f y)) else ck_hi f n q) (fun q => if q = a then 1 + k else ck_va f q) (fun q => if q = a then ck_kn f y else ck_sz f q) (fun q => if q = a then 1 else ck_th f q)
theorem cx_setNew {c a y k : Int} (ha : 0 ≤ a ∧ a < 4) (hy : 0 ≤ y ∧ y < 10) (hk : 0 ≤ k ∧ k < 64) {σ : ck_M} {f : ck_D} (hf : ck_rd σ c = f) (hB : ck_fb f) : ck_cal 3 cm_Fa_setNew [.inr (c, 3, 0), .inl a, .inl y, .inl k] σ (fun q σ' => q = none ∧ ck_f6 σ σ' c ∧ ck_rd σ' c = ck_dNew a y k f) := by
  refine ck_cal_of ?_
  have bl := hB.2.1 y
  refine ck_go_run 8 (X1 := (12, [some (.inr (c, 3, 0)), some (.inl a), some (.inl y), some (.inl k), none], [.inl 0, .inl (σ (c + 2) y), .inl y, .inr (c + 2, 0, 10)], σ)) (ps := [0 ≤ y ∧ y < ((10 : Nat) : Int)]) rfl ⟨⟨by omega, by omega⟩, trivial⟩ ?_
  refine ck_go_cal (rest := [.inl y, .inr (c + 2, 0, 10)]) (ck_cal_le (by decide) (cx_mx (A := ck_lo f y) (B := 0) (ck_x_lo hf hy.1 hy.2) rfl (ck_rgo (by omega) (by omega)) (ck_rgo (by omega) (by omega)) _)) ⟨_, rfl, Or.inr ⟨_, rfl⟩, rfl, rfl, rfl, Nat.le_of_ble_eq_true rfl, fun h => absurd h (by decide)⟩ ?_
  rintro _ s' ⟨rfl, e'⟩
  rw [e']
  clear e' s'
  refine ck_go_run 23 (X1 := (47, [some (.inr (c, 3, 0)), some (.inl a), some (.inl y), some (.inl k), some (.inl 0)], [], ck_up (ck_up (ck_up (ck_up σ (c + 2) y (ck_mx (ck_lo f y) 0)) (c + 4) a (1 + k)) (c + 5) a ((ck_up (ck_up σ (c + 2) y (ck_mx (ck_lo f y) 0)) (c + 4) a (1 + k)) (c + 1) y)) (c + 6) a 1)) (ps := [0 ≤ y ∧ y < ((10 : Nat) : Int), 0 ≤ a ∧ a < ((4 : Nat) : Int), 0 ≤ y ∧ y < ((10 : Nat) : Int), 0 ≤ a ∧ a < ((4 : Nat) : Int), 0 ≤ a ∧ a < ((4 : Nat) : Int), 1 = 0 ∨ 1 = 1]) rfl ⟨⟨by omega, by omega⟩, ⟨by omega, by omega⟩, ⟨by omega, by omega⟩, ⟨by omega, by omega⟩, ⟨by omega, by omega⟩, Or.inr rfl, trivial⟩ ?_
  refine ck_for 47 (fun v => [some (.inr (c, 3, 0)), some (.inl a), some (.inl y), some (.inl k), some (.inl v)]) 10 (fun v s => 0 ≤ v ∧ v ≤ 10 ∧ (∀ b j, (b ≠ c + 3 ∨ j < a ∨ v * 4 + a ≤ j ∨ (j - a) % 4 ≠ 0) → s b j = (ck_up (ck_up (ck_up (ck_up σ (c + 2) y (ck_mx (ck_lo f y) 0)) (c + 4) a (1 + k)) (c + 5) a ((ck_up (ck_up σ (c + 2) y (ck_mx (ck_lo f y) 0)) (c + 4) a (1 + k)) (c + 1) y)) (c + 6) a 1) b j) ∧ ∀ q, 0 ≤ q → q < v → s (c + 3) (q * 4 + a) = (if ck_kn f q = 1000000000 then 1000000000 else ck_hc (1 + k) (ck_kn f y) (ck_kn f q))) (fun v s hv hI kk => ?_) (fun v s hv hI => ?_) 0 _ ⟨by omega, by omega, fun _ _ _ => rfl, fun _ _ _ => by omega⟩
  · obtain ⟨h0, h4, hI1, hI2⟩ := hI
    have e1 : s (c + 1) (v) = ck_kn f v := by
      rw [hI1 (c + 1) (v) (by omega)]
      simp only [ck_up, true_and, if_true]
      rw [if_neg (by omega), if_neg (by omega), if_neg (by omega), if_neg (by omega), ck_x_kn hf h0 hv]
    have e4 : s (c + 4) (a) = 1 + k := by
      rw [hI1 (c + 4) (a) (by omega)]
      simp only [ck_up, true_and, if_true]
      rw [if_neg (by omega), if_neg (by omega)]
    have e5 : s (c + 5) a = ck_kn f y := by
      rw [hI1 (c + 5) a (by omega)]
      simp only [ck_up, true_and, if_true]
      rw [if_neg (by omega), if_neg (by omega), if_neg (by omega), ck_x_kn hf hy.1 hy.2]
    have b1 := hB.1 v
    have b1y := hB.1 y
    refine ck_go_run 3 (X1 := (if v < 10 then 54 else 100, [some (.inr (c, 3, 0)), some (.inl a), some (.inl y), some (.inl k), some (.inl v)], [], s)) (ps := [ck_rg v, ck_rg 10]) rfl ⟨(ck_rgo (by omega) (by omega)), (ck_rgo (by omega) (by omega)), trivial⟩ ?_
    refine ck_go_t hv ?_
    refine ck_go_run 13 (X1 := (if s (c + 1) v = 1000000000 then 76 else 81, [some (.inr (c, 3, 0)), some (.inl a), some (.inl y), some (.inl k), some (.inl v)], [.inl ((v * 4) + a), .inr (c + 3, 0, 40)], s)) (ps := [0 ≤ v ∧ v < ((10 : Nat) : Int), ck_rg (s (c + 1) v), ck_rg 1000000000]) rfl ⟨⟨by omega, by omega⟩, (ck_rgo (by omega) (by omega)), (ck_rgo (by omega) (by omega)), trivial⟩ ?_
    refine ck_go_ite (fun h1 => ?_) (fun h1 => ?_)
    · refine ck_go_run 5 (X1 := (47, [some (.inr (c, 3, 0)), some (.inl a), some (.inl y), some (.inl k), some (.inl (v + 1))], [], ck_up s (c + 3) ((v * 4) + a) 1000000000)) (ps := [0 ≤ (v * 4) + a ∧ (v * 4) + a < ((40 : Nat) : Int)]) rfl ⟨⟨by omega, by omega⟩, trivial⟩ ?_
      exact kk _ ⟨by omega, by omega, ck_st4 (g := fun q => (if ck_kn f q = 1000000000 then 1000000000 else ck_hc (1 + k) (ck_kn f y) (ck_kn f q))) hI1 hI2 (by rw [if_pos (e1 ▸ h1)]) h0⟩
    · refine ck_go_run 6 (X1 := (90, [some (.inr (c, 3, 0)), some (.inl a), some (.inl y), some (.inl k), some (.inl v)], [.inl a, .inl (s (c + 1) v), .inr (c, 3, 0), .inl ((v * 4) + a), .inr (c + 3, 0, 40)], s)) (ps := [0 ≤ v ∧ v < ((10 : Nat) : Int)]) rfl ⟨⟨by omega, by omega⟩, trivial⟩ ?_
      refine ck_go_cal (rest := [.inl ((v * 4) + a), .inr (c + 3, 0, 40)]) (ck_cal_le (by decide) (cx_hoc (c := c) (v := s (c + 1) v) (r := a) ha e4 e5 (by omega) (by omega) b1y)) ⟨_, rfl, Or.inl ⟨_, rfl⟩, rfl, rfl, rfl, Nat.le_of_ble_eq_true rfl, fun _ => ⟨_, _, rfl⟩⟩ ?_
      rintro _ s' ⟨rfl, e'⟩
      rw [e']
      clear e' s'
      refine ck_go_run 3 (X1 := (47, [some (.inr (c, 3, 0)), some (.inl a), some (.inl y), some (.inl k), some (.inl (v + 1))], [], ck_up s (c + 3) ((v * 4) + a) (ck_hc (1 + k) (ck_kn f y) (s (c + 1) v)))) (ps := [0 ≤ (v * 4) + a ∧ (v * 4) + a < ((40 : Nat) : Int)]) rfl ⟨⟨by omega, by omega⟩, trivial⟩ ?_
      exact kk _ ⟨by omega, by omega, ck_st4 (g := fun q => (if ck_kn f q = 1000000000 then 1000000000 else ck_hc (1 + k) (ck_kn f y) (ck_kn f q))) hI1 hI2 (by rw [if_neg (e1 ▸ h1), e1]) h0⟩
  · obtain ⟨h0, h4, hI1, hI2⟩ := hI
    refine ck_go_run 3 (X1 := (if v < 10 then 54 else 100, [some (.inr (c, 3, 0)), some (.inl a), some (.inl y), some (.inl k), some (.inl v)], [], s)) (ps := [ck_rg v, ck_rg 10]) rfl ⟨(ck_rgo (by omega) (by omega)), (ck_rgo (by omega) (by omega)), trivial⟩ ?_
    refine ck_go_f (by omega) ?_
    refine ck_go_run 9 (X1 := (111, [some (.inr (c, 3, 0)), some (.inl a), some (.inl y), some (.inl k), some (.inl v)], [], ck_up s (c + 3) ((y * 4) + a) 0)) (ps := [0 ≤ (y * 4) + a ∧ (y * 4) + a < ((40 : Nat) : Int)]) rfl ⟨⟨by omega, by omega⟩, trivial⟩ ?_
    refine ck_eV ⟨rfl, ?_, ?_⟩ rfl rfl rfl
    · intro b j hb
      simp only [ck_up]
      rw [if_neg (by omega), hI1 b j (by omega)]
      simp only [ck_up]
      (repeat' split) <;> first | rfl | omega
    · unfold ck_dNew
      refine ck_N_ext (fun n a0 a1 => ?_) (fun n a0 a1 => ?_) (fun n q a0 a1 b0 b1 => ?_) (fun q b0 b1 => ?_) (fun q b0 b1 => ?_) (fun q b0 b1 => ?_)
      · simp only [ck_up]
        rw [if_neg (by omega), ← ck_x_kn hf a0 a1, hI1 (c + 1) n (by omega)]
        simp only [ck_up, true_and]
        (repeat' split) <;> first | rfl | omega
      · simp only [ck_up]
        rw [if_neg (by omega), ← ck_x_lo hf a0 a1, hI1 (c + 2) n (by omega)]
        simp only [ck_up, true_and]
        (repeat' split) <;> first | rfl | omega
      · simp only [ck_up, true_and]
        by_cases hq : q = a
        · subst hq
          rw [if_pos rfl]
          by_cases hn : n = y
          · subst hn
            rw [if_pos rfl, if_pos rfl]
          · rw [if_neg (by omega), if_neg hn, hI2 n a0 (by omega)]
            simp only [ck_hc]
            rw [if_neg (by omega : ¬ (1 + k = 0))]
        · rw [if_neg (by omega), if_neg hq, ← ck_x_hi hf a0 a1 b0 b1, hI1 (c + 3) (n * 4 + q) (by omega)]
          simp only [ck_up]
          (repeat' split) <;> first | rfl | omega
      · simp only [ck_up]
        rw [if_neg (by omega), ← ck_x_va hf b0 b1, hI1 (c + 4) q (by omega)]
        simp only [ck_up, true_and]
        (repeat' split) <;> first | rfl | omega
      · simp only [ck_up]
        rw [if_neg (by omega), ← ck_x_sz hf b0 b1, ← ck_x_kn hf hy.1 hy.2, hI1 (c + 5) q (by omega)]
        simp only [ck_up, true_and]
        (repeat' split) <;> first | rfl | omega
      · simp only [ck_up]
        rw [if_neg (by omega), ← ck_x_th hf b0 b1, hI1 (c + 6) q (by omega)]
        simp only [ck_up, true_and]
        (repeat' split) <;> first | rfl | omega
def ck_dLet (a e : Int) (f : ck_D) : ck_D := ck_N (ck_kn f) (ck_lo f) (fun n q => if q = a then ck_hi f n e else ck_hi f n q) (fun q => if q = a then ck_va f e else ck_va f q) (fun q => if q = a then ck_sz f e else ck_sz f q) (fun q => if q = a then ck_th f e else ck_th f q)
theorem cx_setArray {c a e : Int} (ha : 0 ≤ a ∧ a < 4) (he : 0 ≤ e ∧ e < 4) {σ : ck_M} {f : ck_D} (hf : ck_rd σ c = f) (hB : ck_fb f) : ck_cal 1 cm_Fa_setArray [.inr (c, 3, 0), .inl a, .inl e] σ (fun q σ' => q = none ∧ ck_f6 σ σ' c ∧ ck_rd σ' c = ck_dLet a e f) := by
  refine ck_cal_of ?_
  refine ck_go_run 26 (X1 := (38, [some (.inr (c, 3, 0)), some (.inl a), some (.inl e), some (.inl 0)], [], ck_up (ck_up (ck_up σ (c + 4) a (σ (c + 4) e)) (c + 5) a ((ck_up σ (c + 4) a (σ (c + 4) e)) (c + 5) e)) (c + 6) a ((ck_up (ck_up σ (c + 4) a (σ (c + 4) e)) (c + 5) a ((ck_up σ (c + 4) a (σ (c + 4) e)) (c + 5) e)) (c + 6) e))) (ps := [0 ≤ e ∧ e < ((4 : Nat) : Int), 0 ≤ a ∧ a < ((4 : Nat) : Int), 0 ≤ e ∧ e < ((4 : Nat) : Int), 0 ≤ a ∧ a < ((4 : Nat) : Int), 0 ≤ e ∧ e < ((4 : Nat) : Int), 0 ≤ a ∧ a < ((4 : Nat) : Int), (ck_up (ck_up σ (c + 4) a (σ (c + 4) e)) (c + 5) a ((ck_up σ (c + 4) a (σ (c + 4) e)) (c + 5) e)) (c + 6) e = 0 ∨ (ck_up (ck_up σ (c + 4) a (σ (c + 4) e)) (c + 5) a ((ck_up σ (c + 4) a (σ (c + 4) e)) (c + 5) e)) (c + 6) e = 1]) rfl ⟨⟨by omega, by omega⟩, ⟨by omega, by omega⟩, ⟨by omega, by omega⟩, ⟨by omega, by omega⟩, ⟨by omega, by omega⟩, ⟨by omega, by omega⟩, (by
      have h6 := hB.2.2.2.2.2 e
      rw [← ck_x_th hf he.1 he.2] at h6
      simp only [ck_up]
      (repeat' split) <;> omega), trivial⟩ ?_
  refine ck_for 38 (fun v => [some (.inr (c, 3, 0)), some (.inl a), some (.inl e), some (.inl v)]) 10 (fun v s => 0 ≤ v ∧ v ≤ 10 ∧ (∀ b j, (b ≠ c + 3 ∨ j < a ∨ v * 4 + a ≤ j ∨ (j - a) % 4 ≠ 0) → s b j = (ck_up (ck_up (ck_up σ (c + 4) a (σ (c + 4) e)) (c + 5) a ((ck_up σ (c + 4) a (σ (c + 4) e)) (c + 5) e)) (c + 6) a ((ck_up (ck_up σ (c + 4) a (σ (c + 4) e)) (c + 5) a ((ck_up σ (c + 4) a (σ (c + 4) e)) (c + 5) e)) (c + 6) e)) b j) ∧ ∀ q, 0 ≤ q → q < v → s (c + 3) (q * 4 + a) = ck_hi f q e) (fun v s hv hI kk => ?_) (fun v s hv hI => ?_) 0 _ ⟨by omega, by omega, fun _ _ _ => rfl, fun _ _ _ => by omega⟩
  · obtain ⟨h0, h4, hI1, hI2⟩ := hI
    have e3 : s (c + 3) (v * 4 + e) = ck_hi f v e := by
      rw [← ck_x_hi hf h0 hv he.1 he.2, hI1 _ _ (by omega)]
      simp only [ck_up]
      (repeat' split) <;> first | rfl | omega
    refine ck_go_run 3 (X1 := (if v < 10 then 44 else 70, [some (.inr (c, 3, 0)), some (.inl a), some (.inl e), some (.inl v)], [], s)) (ps := [ck_rg v, ck_rg 10]) rfl ⟨(ck_rgo (by omega) (by omega)), (ck_rgo (by omega) (by omega)), trivial⟩ ?_
    refine ck_go_t hv ?_
    refine ck_go_run 18 (X1 := (38, [some (.inr (c, 3, 0)), some (.inl a), some (.inl e), some (.inl (v + 1))], [], ck_up s (c + 3) ((v * 4) + a) (s (c + 3) ((v * 4) + e)))) (ps := [0 ≤ (v * 4) + e ∧ (v * 4) + e < ((40 : Nat) : Int), 0 ≤ (v * 4) + a ∧ (v * 4) + a < ((40 : Nat) : Int)]) rfl ⟨⟨by omega, by omega⟩, ⟨by omega, by omega⟩, trivial⟩ ?_
    exact kk _ ⟨by omega, by omega, ck_st4 (g := fun q => ck_hi f q e) hI1 hI2 e3 h0⟩
  · obtain ⟨h0, h4, hI1, hI2⟩ := hI
    refine ck_go_run 3 (X1 := (if v < 10 then 44 else 70, [some (.inr (c, 3, 0)), some (.inl a), some (.inl e), some (.inl v)], [], s)) (ps := [ck_rg v, ck_rg 10]) rfl ⟨(ck_rgo (by omega) (by omega)), (ck_rgo (by omega) (by omega)), trivial⟩ ?_
    refine ck_go_f (by omega) ?_
    refine ck_eV ⟨rfl, ?_, ?_⟩ rfl rfl rfl
    · intro b j hb
      rw [hI1 b j (by omega)]
      simp only [ck_up]
      (repeat' split) <;> first | rfl | omega
    · unfold ck_dLet
      refine ck_N_ext (fun n a0 a1 => ?_) (fun n a0 a1 => ?_) (fun n q a0 a1 b0 b1 => ?_) (fun q b0 b1 => ?_) (fun q b0 b1 => ?_) (fun q b0 b1 => ?_)
      · rw [← ck_x_kn hf a0 a1, hI1 (c + 1) n (by omega)]
        simp only [ck_up, true_and]
        (repeat' split) <;> first | rfl | omega
      · rw [← ck_x_lo hf a0 a1, hI1 (c + 2) n (by omega)]
        simp only [ck_up, true_and]
        (repeat' split) <;> first | rfl | omega
      · by_cases hq : q = a
        · subst hq
          rw [if_pos rfl, hI2 n a0 (by omega)]
        · rw [if_neg hq, ← ck_x_hi hf a0 a1 b0 b1, hI1 (c + 3) (n * 4 + q) (by omega)]
          simp only [ck_up]
          (repeat' split) <;> first | rfl | omega
      · rw [← ck_x_va hf he.1 he.2, ← ck_x_va hf b0 b1, hI1 (c + 4) q (by omega)]
        simp only [ck_up, true_and]
        (repeat' split) <;> first | rfl | omega
      · rw [← ck_x_sz hf he.1 he.2, ← ck_x_sz hf b0 b1, hI1 (c + 5) q (by omega)]
        simp only [ck_up, true_and]
        (repeat' split) <;> first | rfl | omega
      · rw [← ck_x_th hf he.1 he.2, ← ck_x_th hf b0 b1, hI1 (c + 6) q (by omega)]
        simp only [ck_up, true_and]
        (repeat' split) <;> first | rfl | omega
def ck_dJv (r k : Int) (f : ck_D) : ck_D := ck_N (ck_kn f) (ck_lo f) (ck_hi f) (fun q => if q = r then 65 + k * 4 + r else ck_va f q) (fun q => if q = r then 1000000000 else ck_sz f q) (ck_th f)
theorem cx_setJoinedValue {c r k : Int} (hr : 0 ≤ r ∧ r < 4) {σ : ck_M} {f : ck_D} (hf : ck_rd σ c = f) : ck_cal 1 cm_Fa_setJoinedValue [.inr (c, 3, 0), .inl r, .inl k] σ (fun q σ' => q = none ∧ ck_f6 σ σ' c ∧ ck_rd σ' c = ck_dJv r k f) := by
  refine ck_cal_of ?_
  refine ck_go_run 16 (X1 := (22, [some (.inr (c, 3, 0)), some (.inl r), some (.inl k)], [], ck_up (ck_up σ (c + 4) r ((65 + (k * 4)) + r)) (c + 5) r 1000000000)) (ps := [0 ≤ r ∧ r < ((4 : Nat) : Int), 0 ≤ r ∧ r < ((4 : Nat) : Int)]) rfl ⟨⟨by omega, by omega⟩, ⟨by omega, by omega⟩, trivial⟩ ?_
  refine ck_eV ⟨rfl, ?_, ?_⟩ rfl rfl rfl
  · intro b j hb
    simp only [ck_up]
    (repeat' split) <;> first | rfl | omega
  · unfold ck_dJv
    refine ck_N_ext (fun n a0 a1 => ?_) (fun n a0 a1 => ?_) (fun n q a0 a1 b0 b1 => ?_) (fun q b0 b1 => ?_) (fun q b0 b1 => ?_) (fun q b0 b1 => ?_)
    · rw [← ck_x_kn hf a0 a1]
      simp only [ck_up, true_and]
      (repeat' split) <;> first | rfl | omega
    · rw [← ck_x_lo hf a0 a1]
      simp only [ck_up, true_and]
      (repeat' split) <;> first | rfl | omega
    · rw [← ck_x_hi hf a0 a1 b0 b1]
      simp only [ck_up, true_and]
      (repeat' split) <;> first | rfl | omega
    · rw [← ck_x_va hf b0 b1]
      simp only [ck_up, true_and]
      (repeat' split) <;> first | rfl | omega
    · rw [← ck_x_sz hf b0 b1]
      simp only [ck_up, true_and]
      (repeat' split) <;> first | rfl | omega
    · rw [← ck_x_th hf b0 b1]
      simp only [ck_up, true_and]
      (repeat' split) <;> first | rfl | omega
end
section
def ck_dBel (x y z : Int) (f : ck_D) : ck_D := ck_N (ck_kn f) (fun n => if n = y then ck_mx (ck_lo f y) (ck_bL (ck_lo f x + 1 - z)) else ck_lo f n) (fun n q => if n = x then ck_mn (ck_hi f x q) (ck_bH ((if y = 10 then ck_hoc f 0 q else ck_hi f y q) + z - 1)) else ck_hi f n q) (ck_va f) (ck_sz f) (ck_th f)
theorem cx_assumeBelow {c x y z : Int} (hx : 0 ≤ x ∧ x < 10) (hy : 0 ≤ y ∧ y ≤ 10) (hz : -1000 ≤ z ∧ z ≤ 1000) {σ : ck_M} {f : ck_D} (hf : ck_rd σ c = f) (hB : ck_fb f) : ck_cal 3 cm_Fa_assumeBelow [.inr (c, 3, 0), .inl x, .inl y, .inl z] σ (fun q σ' => q = none ∧ ck_f6 σ σ' c ∧ ck_rd σ' c = ck_dBel x y z f) := by
  refine ck_cal_of ?_
  have bl := hB.2.1 x
  have bly := hB.2.1 y
  refine ck_go_run 2 (X1 := (3, [some (.inr (c, 3, 0)), some (.inl x), some (.inl y), some (.inl z), some (.inl 0), none, none], [], σ)) (ps := []) rfl trivial ?_
  refine ck_forU 3 (fun v u => [some (.inr (c, 3, 0)), some (.inl x), some (.inl y), some (.inl z), some (.inl v), u.1, u.2.1]) 4 (fun v s => 0 ≤ v ∧ v ≤ 4 ∧ (∀ b j, (b ≠ c + 3 ∨ j < x * 4 ∨ x * 4 + v ≤ j) → s b j = σ b j) ∧ ∀ q, 0 ≤ q → q < v → s (c + 3) (x * 4 + q) = ck_mn (ck_hi f x q) (ck_bH ((if y = 10 then ck_hc (ck_va f q) (ck_sz f q) 0 else ck_hi f y q) + z - 1))) (fun v u s hv hI kk => ?_) (fun v u s hv hI => ?_) 0 (none, none, none) _ ⟨by omega, by omega, fun _ _ _ => rfl, fun _ _ _ => by omega⟩
  · obtain ⟨h0, h4, hI1, hI2⟩ := hI
    have e4 : s (c + 4) v = ck_va f v := by rw [hI1 (c + 4) v (by omega), ck_x_va hf h0 hv]
    have e5 : s (c + 5) v = ck_sz f v := by rw [hI1 (c + 5) v (by omega), ck_x_sz hf h0 hv]
    have e3 : s (c + 3) (x * 4 + v) = ck_hi f x v := by rw [hI1 _ _ (by omega), ck_x_hi hf hx.1 hx.2 h0 hv]
    have b4 := hB.2.2.2.1 v
    have b5 := hB.2.2.2.2.1 v
    have b3 := hB.2.2.1 x v
    have b3y := hB.2.2.1 y v
    have bc := ck_hcb (A := ck_va f v) (B := ck_sz f v) (v := 0) (by omega) b5
    refine ck_go_run 3 (X1 := (if v < 4 then 9 else 78, [some (.inr (c, 3, 0)), some (.inl x), some (.inl y), some (.inl z), some (.inl v), u.1, u.2.1], [], s)) (ps := [ck_rg v, ck_rg 4]) rfl ⟨(ck_rgo (by omega) (by omega)), (ck_rgo (by omega) (by omega)), trivial⟩ ?_
    refine ck_go_t hv ?_
    refine ck_go_run 9 (X1 := (if y = 10 then 23 else 33, [some (.inr (c, 3, 0)), some (.inl x), some (.inl y), some (.inl z), some (.inl v), some (.inl ((x * 4) + v)), u.2.1], [], s)) (ps := [ck_rg y, ck_rg 10]) rfl ⟨(ck_rgo (by omega) (by omega)), (ck_rgo (by omega) (by omega)), trivial⟩ ?_
    refine ck_go_ite (fun h1 => ?_) (fun h1 => ?_)
    · refine ck_go_run 3 (X1 := (27, [some (.inr (c, 3, 0)), some (.inl x), some (.inl y), some (.inl z), some (.inl v), some (.inl ((x * 4) + v)), u.2.1], [.inl v, .inl 0, .inr (c, 3, 0)], s)) (ps := []) rfl trivial ?_
      refine ck_go_cal (rest := []) (ck_cal_le (by decide) (cx_hoc (c := c) (v := 0) (r := v) (by omega) e4 e5 (by omega) b4 b5)) ⟨_, rfl, Or.inl ⟨_, rfl⟩, rfl, rfl, rfl, Nat.le_of_ble_eq_true rfl, fun _ => ⟨_, _, rfl⟩⟩ ?_
      rintro _ s' ⟨rfl, e'⟩
      rw [e']
      clear e' s'
      refine ck_go_run 14 (X1 := (65, [some (.inr (c, 3, 0)), some (.inl x), some (.inl y), some (.inl z), some (.inl v), some (.inl ((x * 4) + v)), some (.inl (ck_hc (ck_va f v) (ck_sz f v) 0))], [.inl (((ck_hc (ck_va f v) (ck_sz f v) 0) + z) - 1), .inl (s (c + 3) ((x * 4) + v)), .inl ((x * 4) + v), .inr (c + 3, 0, 40)], s)) (ps := [0 ≤ (x * 4) + v ∧ (x * 4) + v < ((40 : Nat) : Int)]) rfl ⟨⟨by omega, by omega⟩, trivial⟩ ?_
      refine ck_go_cal (rest := [.inl (s (c + 3) ((x * 4) + v)), .inl ((x * 4) + v), .inr (c + 3, 0, 40)]) (ck_cal_le (by decide) (cx_bH (A := ck_hc (ck_va f v) (ck_sz f v) 0 + z - 1) rfl (ck_rgo (by omega) (by omega)) _)) ⟨_, rfl, Or.inr ⟨_, rfl⟩, rfl, rfl, rfl, Nat.le_of_ble_eq_true rfl, fun h => absurd h (by decide)⟩ ?_
      rintro _ s' ⟨rfl, e'⟩
      rw [e']
      clear e' s'
      refine ck_go_cal (rest := [.inl ((x * 4) + v), .inr (c + 3, 0, 40)]) (ck_cal_le (by decide) (cx_mn (A := ck_hi f x v) (B := ck_bH (ck_hc (ck_va f v) (ck_sz f v) 0 + z - 1)) e3 rfl (ck_rgo (by omega) (by omega)) (ck_rg_bH (ck_rgo (by omega) (by omega))) _)) ⟨_, rfl, Or.inr ⟨_, rfl⟩, rfl, rfl, rfl, Nat.le_of_ble_eq_true rfl, fun h => absurd h (by decide)⟩ ?_
      rintro _ s' ⟨rfl, e'⟩
      rw [e']
      clear e' s'
      refine ck_go_run 3 (X1 := (3, [some (.inr (c, 3, 0)), some (.inl x), some (.inl y), some (.inl z), some (.inl (v + 1)), some (.inl ((x * 4) + v)), some (.inl (ck_hc (ck_va f v) (ck_sz f v) 0))], [], ck_up s (c + 3) ((x * 4) + v) (ck_mn (ck_hi f x v) (ck_bH (ck_hc (ck_va f v) (ck_sz f v) 0 + z - 1))))) (ps := [0 ≤ (x * 4) + v ∧ (x * 4) + v < ((40 : Nat) : Int)]) rfl ⟨⟨by omega, by omega⟩, trivial⟩ ?_
      exact kk (some (.inl ((x * 4) + v)), some (.inl (ck_hc (ck_va f v) (ck_sz f v) 0)), none) _ ⟨by omega, by omega, ck_st1 (g := fun q => ck_mn (ck_hi f x q) (ck_bH ((if y = 10 then ck_hc (ck_va f q) (ck_sz f q) 0 else ck_hi f y q) + z - 1))) hI1 hI2 (by rw [if_pos h1]) h0⟩
    · refine ck_go_run 21 (X1 := (65, [some (.inr (c, 3, 0)), some (.inl x), some (.inl y), some (.inl z), some (.inl v), some (.inl ((x * 4) + v)), some (.inl (s (c + 3) ((y * 4) + v)))], [.inl (((s (c + 3) ((y * 4) + v)) + z) - 1), .inl (s (c + 3) ((x * 4) + v)), .inl ((x * 4) + v), .inr (c + 3, 0, 40)], s)) (ps := [0 ≤ (y * 4) + v ∧ (y * 4) + v < ((40 : Nat) : Int), 0 ≤ (x * 4) + v ∧ (x * 4) + v < ((40 : Nat) : Int)]) rfl ⟨⟨by omega, by omega⟩, ⟨by omega, by omega⟩, trivial⟩ ?_
      refine ck_go_cal (rest := [.inl (s (c + 3) ((x * 4) + v)), .inl ((x * 4) + v), .inr (c + 3, 0, 40)]) (ck_cal_le (by decide) (cx_bH (A := ck_hi f y v + z - 1) (by rw [hI1 _ _ (by omega), ck_x_hi hf (by omega) (by omega) h0 hv]) (ck_rgo (by omega) (by omega)) _)) ⟨_, rfl, Or.inr ⟨_, rfl⟩, rfl, rfl, rfl, Nat.le_of_ble_eq_true rfl, fun h => absurd h (by decide)⟩ ?_
      rintro _ s' ⟨rfl, e'⟩
      rw [e']
      clear e' s'
      refine ck_go_cal (rest := [.inl ((x * 4) + v), .inr (c + 3, 0, 40)]) (ck_cal_le (by decide) (cx_mn (A := ck_hi f x v) (B := ck_bH (ck_hi f y v + z - 1)) e3 rfl (ck_rgo (by omega) (by omega)) (ck_rg_bH (ck_rgo (by omega) (by omega))) _)) ⟨_, rfl, Or.inr ⟨_, rfl⟩, rfl, rfl, rfl, Nat.le_of_ble_eq_true rfl, fun h => absurd h (by decide)⟩ ?_
      rintro _ s' ⟨rfl, e'⟩
      rw [e']
      clear e' s'
      refine ck_go_run 3 (X1 := (3, [some (.inr (c, 3, 0)), some (.inl x), some (.inl y), some (.inl z), some (.inl (v + 1)), some (.inl ((x * 4) + v)), some (.inl (s (c + 3) ((y * 4) + v)))], [], ck_up s (c + 3) ((x * 4) + v) (ck_mn (ck_hi f x v) (ck_bH (ck_hi f y v + z - 1))))) (ps := [0 ≤ (x * 4) + v ∧ (x * 4) + v < ((40 : Nat) : Int)]) rfl ⟨⟨by omega, by omega⟩, trivial⟩ ?_
      exact kk (some (.inl ((x * 4) + v)), some (.inl (s (c + 3) ((y * 4) + v))), none) _ ⟨by omega, by omega, ck_st1 (g := fun q => ck_mn (ck_hi f x q) (ck_bH ((if y = 10 then ck_hc (ck_va f q) (ck_sz f q) 0 else ck_hi f y q) + z - 1))) hI1 hI2 (by rw [if_neg h1]) h0⟩
  · obtain ⟨h0, h4, hI1, hI2⟩ := hI
    refine ck_go_run 3 (X1 := (if v < 4 then 9 else 78, [some (.inr (c, 3, 0)), some (.inl x), some (.inl y), some (.inl z), some (.inl v), u.1, u.2.1], [], s)) (ps := [ck_rg v, ck_rg 4]) rfl ⟨(ck_rgo (by omega) (by omega)), (ck_rgo (by omega) (by omega)), trivial⟩ ?_
    refine ck_go_f (by omega) ?_
    refine ck_go_run 3 (X1 := (if y = 10 then 112 else 84, [some (.inr (c, 3, 0)), some (.inl x), some (.inl y), some (.inl z), some (.inl v), u.1, u.2.1], [], s)) (ps := [ck_rg y, ck_rg 10]) rfl ⟨(ck_rgo (by omega) (by omega)), (ck_rgo (by omega) (by omega)), trivial⟩ ?_
    refine ck_go_ite (fun h2 => ?_) (fun h2 => ?_)
    · refine ck_eV ⟨rfl, ?_, ?_⟩ rfl rfl rfl
      · intro b j hb
        exact hI1 b j (by omega)
      · unfold ck_dBel
        refine ck_N_ext (fun n a0 a1 => ?_) (fun n a0 a1 => ?_) (fun n q a0 a1 b0 b1 => ?_) (fun q b0 b1 => ?_) (fun q b0 b1 => ?_) (fun q b0 b1 => ?_)
        · rw [← ck_x_kn hf a0 a1, hI1 (c + 1) n (by omega)]
        · rw [if_neg (by omega), ← ck_x_lo hf a0 a1, hI1 (c + 2) n (by omega)]
        · by_cases hn : n = x
          · subst hn
            rw [if_pos rfl, hI2 q b0 (by omega)]
            rfl
          · rw [if_neg hn, ← ck_x_hi hf a0 a1 b0 b1, hI1 (c + 3) (n * 4 + q) (by omega)]
        · rw [← ck_x_va hf b0 b1, hI1 (c + 4) q (by omega)]
        · rw [← ck_x_sz hf b0 b1, hI1 (c + 5) q (by omega)]
        · rw [← ck_x_th hf b0 b1, hI1 (c + 6) q (by omega)]
    · refine ck_go_run 15 (X1 := (105, [some (.inr (c, 3, 0)), some (.inl x), some (.inl y), some (.inl z), some (.inl v), u.1, u.2.1], [.inl (((s (c + 2) x) + 1) - z), .inl (s (c + 2) y), .inl y, .inr (c + 2, 0, 10)], s)) (ps := [0 ≤ y ∧ y < ((10 : Nat) : Int), 0 ≤ x ∧ x < ((10 : Nat) : Int)]) rfl ⟨⟨by omega, by omega⟩, ⟨by omega, by omega⟩, trivial⟩ ?_
      refine ck_go_cal (rest := [.inl (s (c + 2) y), .inl y, .inr (c + 2, 0, 10)]) (ck_cal_le (by decide) (cx_bL (A := ck_lo f x + 1 - z) (by rw [hI1 _ _ (by omega), ck_x_lo hf hx.1 hx.2]) (ck_rgo (by omega) (by omega)) _)) ⟨_, rfl, Or.inr ⟨_, rfl⟩, rfl, rfl, rfl, Nat.le_of_ble_eq_true rfl, fun h => absurd h (by decide)⟩ ?_
      rintro _ s' ⟨rfl, e'⟩
      rw [e']
      clear e' s'
      refine ck_go_cal (rest := [.inl y, .inr (c + 2, 0, 10)]) (ck_cal_le (by decide) (cx_mx (A := ck_lo f y) (B := ck_bL (ck_lo f x + 1 - z)) (by rw [hI1 _ _ (by omega), ck_x_lo hf (by omega) (by omega)]) rfl (ck_rgo (by omega) (by omega)) (ck_rg_bL (ck_rgo (by omega) (by omega))) _)) ⟨_, rfl, Or.inr ⟨_, rfl⟩, rfl, rfl, rfl, Nat.le_of_ble_eq_true rfl, fun h => absurd h (by decide)⟩ ?_
      rintro _ s' ⟨rfl, e'⟩
      rw [e']
      clear e' s'
      refine ck_go_run 1 (X1 := (112, [some (.inr (c, 3, 0)), some (.inl x), some (.inl y), some (.inl z), some (.inl v), u.1, u.2.1], [], ck_up s (c + 2) y (ck_mx (ck_lo f y) (ck_bL (ck_lo f x + 1 - z))))) (ps := [0 ≤ y ∧ y < ((10 : Nat) : Int)]) rfl ⟨⟨by omega, by omega⟩, trivial⟩ ?_
      refine ck_eV ⟨rfl, ?_, ?_⟩ rfl rfl rfl
      · intro b j hb
        simp only [ck_up, true_and]
        rw [if_neg (by omega)]
        exact hI1 b j (by omega)
      · unfold ck_dBel
        refine ck_N_ext (fun n a0 a1 => ?_) (fun n a0 a1 => ?_) (fun n q a0 a1 b0 b1 => ?_) (fun q b0 b1 => ?_) (fun q b0 b1 => ?_) (fun q b0 b1 => ?_)
        · simp only [ck_up, true_and]
          rw [if_neg (by omega)]
          rw [← ck_x_kn hf a0 a1, hI1 (c + 1) n (by omega)]
        · simp only [ck_up, true_and]
          by_cases hn : n = y
          · rw [if_pos hn, if_pos hn]
          · rw [if_neg hn, if_neg hn, ← ck_x_lo hf a0 a1, hI1 (c + 2) n (by omega)]
        · simp only [ck_up, true_and]
          rw [if_neg (by omega)]
          by_cases hn : n = x
          · subst hn
            rw [if_pos rfl, hI2 q b0 (by omega)]
            rfl
          · rw [if_neg hn, ← ck_x_hi hf a0 a1 b0 b1, hI1 (c + 3) (n * 4 + q) (by omega)]
        · simp only [ck_up, true_and]
          rw [if_neg (by omega)]
          rw [← ck_x_va hf b0 b1, hI1 (c + 4) q (by omega)]
        · simp only [ck_up, true_and]
          rw [if_neg (by omega)]
          rw [← ck_x_sz hf b0 b1, hI1 (c + 5) q (by omega)]
        · simp only [ck_up, true_and]
          rw [if_neg (by omega)]
          rw [← ck_x_th hf b0 b1, hI1 (c + 6) q (by omega)]
def ck_dNot (x y z : Int) (f : ck_D) : ck_D := ck_N (ck_kn f) (fun n => if n = x then ck_mx (ck_lo f x) (ck_bL ((if y = 10 then 0 else ck_lo f y) + z)) else ck_lo f n) (fun n q => if n = y then ck_mn (ck_hi f y q) (ck_bH (ck_hi f x q - z)) else ck_hi f n q) (ck_va f) (ck_sz f) (ck_th f)
theorem cx_assumeNotBelow {c x y z : Int} (hx : 0 ≤ x ∧ x < 10) (hy : 0 ≤ y ∧ y ≤ 10) (hz : -1000 ≤ z ∧ z ≤ 1000) {σ : ck_M} {f : ck_D} (hf : ck_rd σ c = f) (hB : ck_fb f) : ck_cal 2 cm_Fa_assumeNotBelow [.inr (c, 3, 0), .inl x, .inl y, .inl z] σ (fun q σ' => q = none ∧ ck_f6 σ σ' c ∧ ck_rd σ' c = ck_dNot x y z f) := by
  refine ck_cal_of ?_
  have bl := hB.2.1 x
  have bly := hB.2.1 y
  refine ck_go_run 10 (X1 := (if y = 10 then 17 else 21, [some (.inr (c, 3, 0)), some (.inl x), some (.inl y), some (.inl z), none, none], [.inl (σ (c + 2) x), .inl x, .inr (c + 2, 0, 10)], σ)) (ps := [0 ≤ x ∧ x < ((10 : Nat) : Int), ck_rg y, ck_rg 10]) rfl ⟨⟨by omega, by omega⟩, (ck_rgo (by omega) (by omega)), (ck_rgo (by omega) (by omega)), trivial⟩ ?_
  refine ck_go_ite (fun h1 => ?_) (fun h1 => ?_)
  · refine ck_go_run 4 (X1 := (29, [some (.inr (c, 3, 0)), some (.inl x), some (.inl y), some (.inl z), none, none], [.inl (0 + z), .inl (σ (c + 2) x), .inl x, .inr (c + 2, 0, 10)], σ)) (ps := []) rfl trivial ?_
    refine ck_go_cal (rest := [.inl (σ (c + 2) x), .inl x, .inr (c + 2, 0, 10)]) (ck_cal_le (by decide) (cx_bL (A := 0 + z) rfl (ck_rgo (by omega) (by omega)) _)) ⟨_, rfl, Or.inr ⟨_, rfl⟩, rfl, rfl, rfl, Nat.le_of_ble_eq_true rfl, fun h => absurd h (by decide)⟩ ?_
    rintro _ s' ⟨rfl, e'⟩
    rw [e']
    clear e' s'
    refine ck_go_cal (rest := [.inl x, .inr (c + 2, 0, 10)]) (ck_cal_le (by decide) (cx_mx (A := ck_lo f x) (B := ck_bL (0 + z)) (ck_x_lo hf hx.1 hx.2) rfl (ck_rgo (by omega) (by omega)) (ck_rg_bL (ck_rgo (by omega) (by omega))) _)) ⟨_, rfl, Or.inr ⟨_, rfl⟩, rfl, rfl, rfl, Nat.le_of_ble_eq_true rfl, fun h => absurd h (by decide)⟩ ?_
    rintro _ s' ⟨rfl, e'⟩
    rw [e']
    clear e' s'
    refine ck_go_run 4 (X1 := (if y = 10 then 98 else 42, [some (.inr (c, 3, 0)), some (.inl x), some (.inl y), some (.inl z), none, none], [], ck_up σ (c + 2) x (ck_mx (ck_lo f x) (ck_bL (0 + z))))) (ps := [0 ≤ x ∧ x < ((10 : Nat) : Int), ck_rg y, ck_rg 10]) rfl ⟨⟨by omega, by omega⟩, (ck_rgo (by omega) (by omega)), (ck_rgo (by omega) (by omega)), trivial⟩ ?_
    refine ck_go_ite (fun h2 => ?_) (fun h2 => ?_)
    · refine ck_eV ⟨rfl, ?_, ?_⟩ rfl rfl rfl
      · intro b j hb
        simp only [ck_up]
        (repeat' split) <;> first | rfl | omega
      · unfold ck_dNot
        refine ck_N_ext (fun n a0 a1 => ?_) (fun n a0 a1 => ?_) (fun n q a0 a1 b0 b1 => ?_) (fun q b0 b1 => ?_) (fun q b0 b1 => ?_) (fun q b0 b1 => ?_)
        · rw [← ck_x_kn hf a0 a1]
          simp only [ck_up, true_and]
          (repeat' split) <;> first | rfl | omega
        · simp only [ck_up, true_and]
          by_cases hn : n = x
          · rw [if_pos hn, if_pos hn]
            rw [if_pos (by omega)] <;> omega
          · rw [if_neg hn, if_neg hn, ← ck_x_lo hf a0 a1]
        · rw [if_neg (by omega), ← ck_x_hi hf a0 a1 b0 b1]
          simp only [ck_up]
          (repeat' split) <;> first | rfl | omega
        · rw [← ck_x_va hf b0 b1]
          simp only [ck_up, true_and]
          (repeat' split) <;> first | rfl | omega
        · rw [← ck_x_sz hf b0 b1]
          simp only [ck_up, true_and]
          (repeat' split) <;> first | rfl | omega
        · rw [← ck_x_th hf b0 b1]
          simp only [ck_up, true_and]
          (repeat' split) <;> first | rfl | omega
    · refine ck_go_run 2 (X1 := (45, [some (.inr (c, 3, 0)), some (.inl x), some (.inl y), some (.inl z), some (.inl 0), none], [], ck_up σ (c + 2) x (ck_mx (ck_lo f x) (ck_bL (0 + z))))) (ps := []) rfl trivial ?_
      refine ck_forU 45 (fun v u => [some (.inr (c, 3, 0)), some (.inl x), some (.inl y), some (.inl z), some (.inl v), u.1]) 4 (fun v s => 0 ≤ v ∧ v ≤ 4 ∧ (∀ b j, (b ≠ c + 3 ∨ j < y * 4 ∨ y * 4 + v ≤ j) → s b j = (ck_up σ (c + 2) x (ck_mx (ck_lo f x) (ck_bL (0 + z)))) b j) ∧ ∀ q, 0 ≤ q → q < v → s (c + 3) (y * 4 + q) = ck_mn (ck_hi f y q) (ck_bH (ck_hi f x q - z))) (fun v u s hv hI kk => ?_) (fun v u s hv hI => ?_) 0 (none, none, none) _ ⟨by omega, by omega, fun _ _ _ => rfl, fun _ _ _ => by omega⟩
      · obtain ⟨h0, h4, hI1, hI2⟩ := hI
        have e3 : s (c + 3) (y * 4 + v) = ck_hi f y v := by
          rw [← ck_x_hi hf (by omega) (by omega) h0 hv, hI1 _ _ (by omega)]
          simp only [ck_up]
          rw [if_neg (by omega)]
        have e3x : s (c + 3) (x * 4 + v) = ck_hi f x v := by
          rw [← ck_x_hi hf hx.1 hx.2 h0 hv, hI1 _ _ (by omega)]
          simp only [ck_up]
          rw [if_neg (by omega)]
        have b3 := hB.2.2.1 x v
        have b3y := hB.2.2.1 y v
        refine ck_go_run 3 (X1 := (if v < 4 then 51 else 98, [some (.inr (c, 3, 0)), some (.inl x), some (.inl y), some (.inl z), some (.inl v), u.1], [], s)) (ps := [ck_rg v, ck_rg 4]) rfl ⟨(ck_rgo (by omega) (by omega)), (ck_rgo (by omega) (by omega)), trivial⟩ ?_
        refine ck_go_t hv ?_
        refine ck_go_run 23 (X1 := (85, [some (.inr (c, 3, 0)), some (.inl x), some (.inl y), some (.inl z), some (.inl v), some (.inl ((y * 4) + v))], [.inl ((s (c + 3) ((x * 4) + v)) - z), .inl (s (c + 3) ((y * 4) + v)), .inl ((y * 4) + v), .inr (c + 3, 0, 40)], s)) (ps := [0 ≤ (y * 4) + v ∧ (y * 4) + v < ((40 : Nat) : Int), 0 ≤ (x * 4) + v ∧ (x * 4) + v < ((40 : Nat) : Int)]) rfl ⟨⟨by omega, by omega⟩, ⟨by omega, by omega⟩, trivial⟩ ?_
        refine ck_go_cal (rest := [.inl (s (c + 3) ((y * 4) + v)), .inl ((y * 4) + v), .inr (c + 3, 0, 40)]) (ck_cal_le (by decide) (cx_bH (A := ck_hi f x v - z) (by rw [e3x]) (ck_rgo (by omega) (by omega)) _)) ⟨_, rfl, Or.inr ⟨_, rfl⟩, rfl, rfl, rfl, Nat.le_of_ble_eq_true rfl, fun h => absurd h (by decide)⟩ ?_
        rintro _ s' ⟨rfl, e'⟩
        rw [e']
        clear e' s'
        refine ck_go_cal (rest := [.inl ((y * 4) + v), .inr (c + 3, 0, 40)]) (ck_cal_le (by decide) (cx_mn (A := ck_hi f y v) (B := ck_bH (ck_hi f x v - z)) e3 rfl (ck_rgo (by omega) (by omega)) (ck_rg_bH (ck_rgo (by omega) (by omega))) _)) ⟨_, rfl, Or.inr ⟨_, rfl⟩, rfl, rfl, rfl, Nat.le_of_ble_eq_true rfl, fun h => absurd h (by decide)⟩ ?_
        rintro _ s' ⟨rfl, e'⟩
        rw [e']
        clear e' s'
        refine ck_go_run 3 (X1 := (45, [some (.inr (c, 3, 0)), some (.inl x), some (.inl y), some (.inl z), some (.inl (v + 1)), some (.inl ((y * 4) + v))], [], ck_up s (c + 3) ((y * 4) + v) (ck_mn (ck_hi f y v) (ck_bH (ck_hi f x v - z))))) (ps := [0 ≤ (y * 4) + v ∧ (y * 4) + v < ((40 : Nat) : Int)]) rfl ⟨⟨by omega, by omega⟩, trivial⟩ ?_
        exact kk (some (.inl ((y * 4) + v)), none, none) _ ⟨by omega, by omega, ck_st1 (g := fun q => ck_mn (ck_hi f y q) (ck_bH (ck_hi f x q - z))) hI1 hI2 rfl h0⟩
      · obtain ⟨h0, h4, hI1, hI2⟩ := hI
        refine ck_go_run 3 (X1 := (if v < 4 then 51 else 98, [some (.inr (c, 3, 0)), some (.inl x), some (.inl y), some (.inl z), some (.inl v), u.1], [], s)) (ps := [ck_rg v, ck_rg 4]) rfl ⟨(ck_rgo (by omega) (by omega)), (ck_rgo (by omega) (by omega)), trivial⟩ ?_
        refine ck_go_f (by omega) ?_
        refine ck_eV ⟨rfl, ?_, ?_⟩ rfl rfl rfl
        · intro b j hb
          rw [hI1 b j (by omega)]
          simp only [ck_up]
          (repeat' split) <;> first | rfl | omega
        · unfold ck_dNot
          refine ck_N_ext (fun n a0 a1 => ?_) (fun n a0 a1 => ?_) (fun n q a0 a1 b0 b1 => ?_) (fun q b0 b1 => ?_) (fun q b0 b1 => ?_) (fun q b0 b1 => ?_)
          · rw [← ck_x_kn hf a0 a1, hI1 (c + 1) n (by omega)]
            simp only [ck_up, true_and]
            (repeat' split) <;> first | rfl | omega
          · rw [hI1 (c + 2) n (by omega)]
            simp only [ck_up, true_and]
            by_cases hn : n = x
            · rw [if_pos hn, if_pos hn]
              rw [if_neg (by omega)] <;> omega
            · rw [if_neg hn, if_neg hn, ← ck_x_lo hf a0 a1]
          · by_cases hn : n = y
            · subst hn
              rw [if_pos rfl, hI2 q b0 (by omega)]
            · rw [if_neg hn, ← ck_x_hi hf a0 a1 b0 b1, hI1 (c + 3) (n * 4 + q) (by omega)]
              simp only [ck_up]
              (repeat' split) <;> first | rfl | omega
          · rw [← ck_x_va hf b0 b1, hI1 (c + 4) q (by omega)]
            simp only [ck_up, true_and]
            (repeat' split) <;> first | rfl | omega
          · rw [← ck_x_sz hf b0 b1, hI1 (c + 5) q (by omega)]
            simp only [ck_up, true_and]
            (repeat' split) <;> first | rfl | omega
          · rw [← ck_x_th hf b0 b1, hI1 (c + 6) q (by omega)]
            simp only [ck_up, true_and]
            (repeat' split) <;> first | rfl | omega
  · refine ck_go_run 6 (X1 := (29, [some (.inr (c, 3, 0)), some (.inl x), some (.inl y), some (.inl z), none, none], [.inl ((σ (c + 2) y) + z), .inl (σ (c + 2) x), .inl x, .inr (c + 2, 0, 10)], σ)) (ps := [0 ≤ y ∧ y < ((10 : Nat) : Int)]) rfl ⟨⟨by omega, by omega⟩, trivial⟩ ?_
    refine ck_go_cal (rest := [.inl (σ (c + 2) x), .inl x, .inr (c + 2, 0, 10)]) (ck_cal_le (by decide) (cx_bL (A := ck_lo f y + z) (by rw [ck_x_lo hf (by omega) (by omega)]) (ck_rgo (by omega) (by omega)) _)) ⟨_, rfl, Or.inr ⟨_, rfl⟩, rfl, rfl, rfl, Nat.le_of_ble_eq_true rfl, fun h => absurd h (by decide)⟩ ?_
    rintro _ s' ⟨rfl, e'⟩
    rw [e']
    clear e' s'
    refine ck_go_cal (rest := [.inl x, .inr (c + 2, 0, 10)]) (ck_cal_le (by decide) (cx_mx (A := ck_lo f x) (B := ck_bL (ck_lo f y + z)) (ck_x_lo hf hx.1 hx.2) rfl (ck_rgo (by omega) (by omega)) (ck_rg_bL (ck_rgo (by omega) (by omega))) _)) ⟨_, rfl, Or.inr ⟨_, rfl⟩, rfl, rfl, rfl, Nat.le_of_ble_eq_true rfl, fun h => absurd h (by decide)⟩ ?_
    rintro _ s' ⟨rfl, e'⟩
    rw [e']
    clear e' s'
    refine ck_go_run 4 (X1 := (if y = 10 then 98 else 42, [some (.inr (c, 3, 0)), some (.inl x), some (.inl y), some (.inl z), none, none], [], ck_up σ (c + 2) x (ck_mx (ck_lo f x) (ck_bL (ck_lo f y + z))))) (ps := [0 ≤ x ∧ x < ((10 : Nat) : Int), ck_rg y, ck_rg 10]) rfl ⟨⟨by omega, by omega⟩, (ck_rgo (by omega) (by omega)), (ck_rgo (by omega) (by omega)), trivial⟩ ?_
    refine ck_go_ite (fun h3 => ?_) (fun h3 => ?_)
    · refine ck_eV ⟨rfl, ?_, ?_⟩ rfl rfl rfl
      · intro b j hb
        simp only [ck_up]
        (repeat' split) <;> first | rfl | omega
      · unfold ck_dNot
        refine ck_N_ext (fun n a0 a1 => ?_) (fun n a0 a1 => ?_) (fun n q a0 a1 b0 b1 => ?_) (fun q b0 b1 => ?_) (fun q b0 b1 => ?_) (fun q b0 b1 => ?_)
        · rw [← ck_x_kn hf a0 a1]
          simp only [ck_up, true_and]
          (repeat' split) <;> first | rfl | omega
        · simp only [ck_up, true_and]
          by_cases hn : n = x
          · rw [if_pos hn, if_pos hn]
            rw [if_pos (by omega)] <;> omega
          · rw [if_neg hn, if_neg hn, ← ck_x_lo hf a0 a1]
        · rw [if_neg (by omega), ← ck_x_hi hf a0 a1 b0 b1]
          simp only [ck_up]
          (repeat' split) <;> first | rfl | omega
        · rw [← ck_x_va hf b0 b1]
          simp only [ck_up, true_and]
          (repeat' split) <;> first | rfl | omega
        · rw [← ck_x_sz hf b0 b1]
          simp only [ck_up, true_and]
          (repeat' split) <;> first | rfl | omega
        · rw [← ck_x_th hf b0 b1]
          simp only [ck_up, true_and]
          (repeat' split) <;> first | rfl | omega
    · refine ck_go_run 2 (X1 := (45, [some (.inr (c, 3, 0)), some (.inl x), some (.inl y), some (.inl z), some (.inl 0), none], [], ck_up σ (c + 2) x (ck_mx (ck_lo f x) (ck_bL (ck_lo f y + z))))) (ps := []) rfl trivial ?_
      refine ck_forU 45 (fun v u => [some (.inr (c, 3, 0)), some (.inl x), some (.inl y), some (.inl z), some (.inl v), u.1]) 4 (fun v s => 0 ≤ v ∧ v ≤ 4 ∧ (∀ b j, (b ≠ c + 3 ∨ j < y * 4 ∨ y * 4 + v ≤ j) → s b j = (ck_up σ (c + 2) x (ck_mx (ck_lo f x) (ck_bL (ck_lo f y + z)))) b j) ∧ ∀ q, 0 ≤ q → q < v → s (c + 3) (y * 4 + q) = ck_mn (ck_hi f y q) (ck_bH (ck_hi f x q - z))) (fun v u s hv hI kk => ?_) (fun v u s hv hI => ?_) 0 (none, none, none) _ ⟨by omega, by omega, fun _ _ _ => rfl, fun _ _ _ => by omega⟩
      · obtain ⟨h0, h4, hI1, hI2⟩ := hI
        have e3 : s (c + 3) (y * 4 + v) = ck_hi f y v := by
          rw [← ck_x_hi hf (by omega) (by omega) h0 hv, hI1 _ _ (by omega)]
          simp only [ck_up]
          rw [if_neg (by omega)]
        have e3x : s (c + 3) (x * 4 + v) = ck_hi f x v := by
          rw [← ck_x_hi hf hx.1 hx.2 h0 hv, hI1 _ _ (by omega)]
          simp only [ck_up]
          rw [if_neg (by omega)]
        have b3 := hB.2.2.1 x v
        have b3y := hB.2.2.1 y v
        refine ck_go_run 3 (X1 := (if v < 4 then 51 else 98, [some (.inr (c, 3, 0)), some (.inl x), some (.inl y), some (.inl z), some (.inl v), u.1], [], s)) (ps := [ck_rg v, ck_rg 4]) rfl ⟨(ck_rgo (by omega) (by omega)), (ck_rgo (by omega) (by omega)), trivial⟩ ?_
        refine ck_go_t hv ?_
        refine ck_go_run 23 (X1 := (85, [some (.inr (c, 3, 0)), some (.inl x), some (.inl y), some (.inl z), some (.inl v), some (.inl ((y * 4) + v))], [.inl ((s (c + 3) ((x * 4) + v)) - z), .inl (s (c + 3) ((y * 4) + v)), .inl ((y * 4) + v), .inr (c + 3, 0, 40)], s)) (ps := [0 ≤ (y * 4) + v ∧ (y * 4) + v < ((40 : Nat) : Int), 0 ≤ (x * 4) + v ∧ (x * 4) + v < ((40 : Nat) : Int)]) rfl ⟨⟨by omega, by omega⟩, ⟨by omega, by omega⟩, trivial⟩ ?_
        refine ck_go_cal (rest := [.inl (s (c + 3) ((y * 4) + v)), .inl ((y * 4) + v), .inr (c + 3, 0, 40)]) (ck_cal_le (by decide) (cx_bH (A := ck_hi f x v - z) (by rw [e3x]) (ck_rgo (by omega) (by omega)) _)) ⟨_, rfl, Or.inr ⟨_, rfl⟩, rfl, rfl, rfl, Nat.le_of_ble_eq_true rfl, fun h => absurd h (by decide)⟩ ?_
        rintro _ s' ⟨rfl, e'⟩
        rw [e']
        clear e' s'
        refine ck_go_cal (rest := [.inl ((y * 4) + v), .inr (c + 3, 0, 40)]) (ck_cal_le (by decide) (cx_mn (A := ck_hi f y v) (B := ck_bH (ck_hi f x v - z)) e3 rfl (ck_rgo (by omega) (by omega)) (ck_rg_bH (ck_rgo (by omega) (by omega))) _)) ⟨_, rfl, Or.inr ⟨_, rfl⟩, rfl, rfl, rfl, Nat.le_of_ble_eq_true rfl, fun h => absurd h (by decide)⟩ ?_
        rintro _ s' ⟨rfl, e'⟩
        rw [e']
        clear e' s'
        refine ck_go_run 3 (X1 := (45, [some (.inr (c, 3, 0)), some (.inl x), some (.inl y), some (.inl z), some (.inl (v + 1)), some (.inl ((y * 4) + v))], [], ck_up s (c + 3) ((y * 4) + v) (ck_mn (ck_hi f y v) (ck_bH (ck_hi f x v - z))))) (ps := [0 ≤ (y * 4) + v ∧ (y * 4) + v < ((40 : Nat) : Int)]) rfl ⟨⟨by omega, by omega⟩, trivial⟩ ?_
        exact kk (some (.inl ((y * 4) + v)), none, none) _ ⟨by omega, by omega, ck_st1 (g := fun q => ck_mn (ck_hi f y q) (ck_bH (ck_hi f x q - z))) hI1 hI2 rfl h0⟩
      · obtain ⟨h0, h4, hI1, hI2⟩ := hI
        refine ck_go_run 3 (X1 := (if v < 4 then 51 else 98, [some (.inr (c, 3, 0)), some (.inl x), some (.inl y), some (.inl z), some (.inl v), u.1], [], s)) (ps := [ck_rg v, ck_rg 4]) rfl ⟨(ck_rgo (by omega) (by omega)), (ck_rgo (by omega) (by omega)), trivial⟩ ?_
        refine ck_go_f (by omega) ?_
        refine ck_eV ⟨rfl, ?_, ?_⟩ rfl rfl rfl
        · intro b j hb
          rw [hI1 b j (by omega)]
          simp only [ck_up]
          (repeat' split) <;> first | rfl | omega
        · unfold ck_dNot
          refine ck_N_ext (fun n a0 a1 => ?_) (fun n a0 a1 => ?_) (fun n q a0 a1 b0 b1 => ?_) (fun q b0 b1 => ?_) (fun q b0 b1 => ?_) (fun q b0 b1 => ?_)
          · rw [← ck_x_kn hf a0 a1, hI1 (c + 1) n (by omega)]
            simp only [ck_up, true_and]
            (repeat' split) <;> first | rfl | omega
          · rw [hI1 (c + 2) n (by omega)]
            simp only [ck_up, true_and]
            by_cases hn : n = x
            · rw [if_pos hn, if_pos hn]
              rw [if_neg (by omega)] <;> omega
            · rw [if_neg hn, if_neg hn, ← ck_x_lo hf a0 a1]
          · by_cases hn : n = y
            · subst hn
              rw [if_pos rfl, hI2 q b0 (by omega)]
            · rw [if_neg hn, ← ck_x_hi hf a0 a1 b0 b1, hI1 (c + 3) (n * 4 + q) (by omega)]
              simp only [ck_up]
              (repeat' split) <;> first | rfl | omega
          · rw [← ck_x_va hf b0 b1, hI1 (c + 4) q (by omega)]
            simp only [ck_up, true_and]
            (repeat' split) <;> first | rfl | omega
          · rw [← ck_x_sz hf b0 b1, hI1 (c + 5) q (by omega)]
            simp only [ck_up, true_and]
            (repeat' split) <;> first | rfl | omega
          · rw [← ck_x_th hf b0 b1, hI1 (c + 6) q (by omega)]
            simp only [ck_up, true_and]
            (repeat' split) <;> first | rfl | omega
end
section
theorem ck_x_hr {s : ck_M} {c i : Int} {f : ck_D} (h : ck_rd s c = f) (h0 : 0 ≤ i) (h1 : i < 40) : s (c + 3) i = ck_hi f (i / 4) (i % 4) := by
  rw [← ck_x_hi h (n := i / 4) (r := i % 4) (by omega) (by omega) (by omega) (by omega)]
  congr 1
  omega
def ck_dFirst : ck_D := ck_N (fun _ => 0) (fun _ => 0) (fun _ _ => 1000000000) (fun _ => 0) (fun _ => 1000000000) (fun _ => 0)
def ck_dFv (v : Int) (f : ck_D) : ck_D := ck_N (fun _ => 0) (fun _ => 0) (fun n q => if q < v then 1000000000 else ck_hi f n q) (fun q => if q < v then 0 else ck_va f q) (fun q => if q < v then 1000000000 else ck_sz f q) (fun q => if q < v then 0 else ck_th f q)
theorem ck_dFv_s {v : Int} {f : ck_D} (h0 : 0 ≤ v) (h4 : v < 4) : ck_dNull v (ck_dFv v f) = ck_dFv (v + 1) f := by
  unfold ck_dNull ck_dFv
  refine ck_N_ext (fun n a0 a1 => ?_) (fun n a0 a1 => ?_) (fun n q a0 a1 b0 b1 => ?_) (fun q b0 b1 => ?_) (fun q b0 b1 => ?_) (fun q b0 b1 => ?_)
  · rw [ck_N_kn a0 a1]
  · rw [ck_N_lo a0 a1]
  · rw [ck_N_hi a0 a1 b0 b1]
    (repeat' split) <;> first | rfl | omega
  · rw [ck_N_va b0 b1]
    (repeat' split) <;> first | rfl | omega
  · rw [ck_N_sz b0 b1]
    (repeat' split) <;> first | rfl | omega
  · rw [ck_N_th b0 b1]
    (repeat' split) <;> first | rfl | omega
theorem ck_dFv_4 {f : ck_D} {v : Int} (h : 4 ≤ v) : ck_dFv v f = ck_dFirst := by
  unfold ck_dFv ck_dFirst
  refine ck_N_ext (fun n a0 a1 => rfl) (fun n a0 a1 => rfl) (fun n q a0 a1 b0 b1 => ?_) (fun q b0 b1 => ?_) (fun q b0 b1 => ?_) (fun q b0 b1 => ?_) <;> rw [if_pos (by omega)]
theorem cx_setFirst {c : Int} {σ : ck_M} : ck_cal 2 cm_Fa_setFirst [.inr (c, 3, 0)] σ (fun q σ' => q = none ∧ ck_f6 σ σ' c ∧ ck_rd σ' c = ck_dFirst) := by
  refine ck_cal_of ?_
  refine ck_go_run 2 (X1 := (2, [some (.inr (c, 3, 0)), some (.inl 0)], [], σ)) (ps := []) rfl trivial ?_
  refine ck_for 2 (fun v => [some (.inr (c, 3, 0)), some (.inl v)]) 10 (fun v s => 0 ≤ v ∧ v ≤ 10 ∧ ∀ b j, s b j = if (b = c + 1 ∨ b = c + 2) ∧ 0 ≤ j ∧ j < v then 0 else σ b j) (fun v s hv hI kk => ?_) (fun v s hv hI => ?_) 0 _ ⟨by omega, by omega, fun b j => by rw [if_neg (by omega)]⟩
  · obtain ⟨h0, h1, hI⟩ := hI
    refine ck_go_run 3 (X1 := (if v < 10 then 8 else 28, [some (.inr (c, 3, 0)), some (.inl v)], [], s)) (ps := [ck_rg v, ck_rg 10]) rfl ⟨(ck_rgo (by omega) (by omega)), (ck_rgo (by omega) (by omega)), trivial⟩ ?_
    refine ck_go_t hv ?_
    refine ck_go_run 12 (X1 := (2, [some (.inr (c, 3, 0)), some (.inl (v + 1))], [], ck_up (ck_up s (c + 1) v 0) (c + 2) v 0)) (ps := [0 ≤ v ∧ v < ((10 : Nat) : Int), 0 ≤ v ∧ v < ((10 : Nat) : Int)]) rfl ⟨⟨by omega, by omega⟩, ⟨by omega, by omega⟩, trivial⟩ ?_
    exact kk _ ⟨by omega, by omega, fun b j => by
      simp only [ck_up, hI]
      (repeat' split) <;> first | rfl | omega⟩
  · obtain ⟨h0, h1, hI⟩ := hI
    refine ck_go_run 3 (X1 := (if v < 10 then 8 else 28, [some (.inr (c, 3, 0)), some (.inl v)], [], s)) (ps := [ck_rg v, ck_rg 10]) rfl ⟨(ck_rgo (by omega) (by omega)), (ck_rgo (by omega) (by omega)), trivial⟩ ?_
    refine ck_go_f (by omega) ?_
    refine ck_go_run 2 (X1 := (30, [some (.inr (c, 3, 0)), some (.inl 0)], [], s)) (ps := []) rfl trivial ?_
    refine ck_for 30 (fun w => [some (.inr (c, 3, 0)), some (.inl w)]) 4 (fun w t => 0 ≤ w ∧ w ≤ 4 ∧ ck_f6 σ t c ∧ ck_rd t c = ck_dFv w (ck_rd σ c)) (fun w t hv hI kk => ?_) (fun w t hv hI => ?_) 0 _ ⟨by omega, by omega, fun b j hb => by rw [hI, if_neg (by omega)], by
      unfold ck_dFv
      refine ck_N_ext (fun n a0 a1 => ?_) (fun n a0 a1 => ?_) (fun n q a0 a1 b0 b1 => ?_) (fun q b0 b1 => ?_) (fun q b0 b1 => ?_) (fun q b0 b1 => ?_)
      · rw [hI, if_pos (by omega)]
      · rw [hI, if_pos (by omega)]
      · rw [hI, if_neg (by omega), if_neg (by omega), ck_r_hi a0 a1 b0 b1]
      · rw [hI, if_neg (by omega), if_neg (by omega), ck_r_va b0 b1]
      · rw [hI, if_neg (by omega), if_neg (by omega), ck_r_sz b0 b1]
      · rw [hI, if_neg (by omega), if_neg (by omega), ck_r_th b0 b1]⟩
    · obtain ⟨k0, k1, kf, kr⟩ := hI
      refine ck_go_run 3 (X1 := (if w < 4 then 35 else 46, [some (.inr (c, 3, 0)), some (.inl w)], [], t)) (ps := [ck_rg w, ck_rg 4]) rfl ⟨(ck_rgo (by omega) (by omega)), (ck_rgo (by omega) (by omega)), trivial⟩ ?_
      refine ck_go_t hv ?_
      refine ck_go_run 2 (X1 := (37, [some (.inr (c, 3, 0)), some (.inl w)], [.inl w, .inr (c, 3, 0)], t)) (ps := []) rfl trivial ?_
      refine ck_go_cal (rest := []) (ck_cal_le (by decide) (cx_setNull (c := c) (r := w) (by omega))) ⟨_, rfl, Or.inl ⟨_, rfl⟩, rfl, rfl, rfl, Nat.le_of_ble_eq_true rfl, fun _ => ⟨_, _, rfl⟩⟩ ?_
      rintro _ s1 ⟨rfl, g1, r1⟩
      try dsimp only at g1 r1
      refine ck_go_run 2 (X1 := (30, [some (.inr (c, 3, 0)), some (.inl (w + 1))], [], s1)) (ps := []) rfl trivial ?_
      exact kk _ ⟨by omega, by omega, ck_f6_tr kf g1, by rw [r1, kr, ck_dFv_s k0 hv]⟩
    · obtain ⟨k0, k1, kf, kr⟩ := hI
      refine ck_go_run 3 (X1 := (if w < 4 then 35 else 46, [some (.inr (c, 3, 0)), some (.inl w)], [], t)) (ps := [ck_rg w, ck_rg 4]) rfl ⟨(ck_rgo (by omega) (by omega)), (ck_rgo (by omega) (by omega)), trivial⟩ ?_
      refine ck_go_f (by omega) ?_
      exact ck_eV ⟨rfl, kf, by rw [kr, ck_dFv_4 hv]⟩ rfl rfl rfl
theorem cx_copy {c e : Int} (hd : c + 6 < e ∨ e + 6 < c) {σ : ck_M} {g : ck_D} (hg : ck_rd σ e = g) (hB : ck_fb g) : ck_cal 1 cm_Fa_copy [.inr (c, 3, 0), .inr (e, 3, 0)] σ (fun q σ' => q = none ∧ ck_f6 σ σ' c ∧ ck_rd σ' c = g) := by
  refine ck_cal_of ?_
  refine ck_go_run 42 (X1 := (75, [some (.inr (c, 3, 0)), some (.inr (e, 3, 0)), some (.inl 0)], [], ck_cpy (ck_cpy (ck_cpy (ck_cpy (ck_cpy σ (e + 1) (c + 1) 10) (e + 2) (c + 2) 10) (e + 3) (c + 3) 40) (e + 4) (c + 4) 4) (e + 5) (c + 5) 4)) (ps := [0 = 0, 0 = 0, 0 ≤ 10, 10 ≤ ((10 : Nat) : Int), 10 ≤ ((10 : Nat) : Int), 0 = 0, 0 = 0, 0 ≤ 10, 10 ≤ ((10 : Nat) : Int), 10 ≤ ((10 : Nat) : Int), 0 = 0, 0 = 0, 0 ≤ 40, 40 ≤ ((40 : Nat) : Int), 40 ≤ ((40 : Nat) : Int), 0 = 0, 0 = 0, 0 ≤ 4, 4 ≤ ((4 : Nat) : Int), 4 ≤ ((4 : Nat) : Int), 0 = 0, 0 = 0, 0 ≤ 4, 4 ≤ ((4 : Nat) : Int), 4 ≤ ((4 : Nat) : Int)]) rfl ⟨(by omega), (by omega), (by omega), (by omega), (by omega), (by omega), (by omega), (by omega), (by omega), (by omega), (by omega), (by omega), (by omega), (by omega), (by omega), (by omega), (by omega), (by omega), (by omega), (by omega), (by omega), (by omega), (by omega), (by omega), (by omega), trivial⟩ ?_
  refine ck_for 75 (fun v => [some (.inr (c, 3, 0)), some (.inr (e, 3, 0)), some (.inl v)]) 4 (fun v s => 0 ≤ v ∧ v ≤ 4 ∧ (∀ b j, (b ≠ c + 6 ∨ j < 0 ∨ v ≤ j) → s b j = (ck_cpy (ck_cpy (ck_cpy (ck_cpy (ck_cpy σ (e + 1) (c + 1) 10) (e + 2) (c + 2) 10) (e + 3) (c + 3) 40) (e + 4) (c + 4) 4) (e + 5) (c + 5) 4) b j) ∧ ∀ q, 0 ≤ q → q < v → s (c + 6) q = ck_th g q) (fun v s hv hI kk => ?_) (fun v s hv hI => ?_) 0 _ ⟨by omega, by omega, fun _ _ _ => rfl, fun _ _ _ => by omega⟩
  · obtain ⟨h0, h4, hI1, hI2⟩ := hI
    have e6 : s (e + 6) v = ck_th g v := by
      rw [← ck_x_th hg h0 hv, hI1 _ _ (by omega)]
      simp only [ck_cpy]
      (repeat' split) <;> first | rfl | omega
    refine ck_go_run 3 (X1 := (if v < 4 then 80 else 98, [some (.inr (c, 3, 0)), some (.inr (e, 3, 0)), some (.inl v)], [], s)) (ps := [ck_rg v, ck_rg 4]) rfl ⟨(ck_rgo (by omega) (by omega)), (ck_rgo (by omega) (by omega)), trivial⟩ ?_
    refine ck_go_t hv ?_
    refine ck_go_run 10 (X1 := (75, [some (.inr (c, 3, 0)), some (.inr (e, 3, 0)), some (.inl (v + 1))], [], ck_up s (c + 6) v (s (e + 6) v))) (ps := [0 ≤ v ∧ v < ((4 : Nat) : Int), 0 ≤ v ∧ v < ((4 : Nat) : Int), s (e + 6) v = 0 ∨ s (e + 6) v = 1]) rfl ⟨⟨by omega, by omega⟩, ⟨by omega, by omega⟩, (by
      have h6 := hB.2.2.2.2.2 v
      rw [← e6] at h6
      omega), trivial⟩ ?_
    exact kk _ ⟨by omega, by omega, ck_st0 (g := fun q => ck_th g q) hI1 hI2 e6 h0⟩
  · obtain ⟨h0, h4, hI1, hI2⟩ := hI
    refine ck_go_run 3 (X1 := (if v < 4 then 80 else 98, [some (.inr (c, 3, 0)), some (.inr (e, 3, 0)), some (.inl v)], [], s)) (ps := [ck_rg v, ck_rg 4]) rfl ⟨(ck_rgo (by omega) (by omega)), (ck_rgo (by omega) (by omega)), trivial⟩ ?_
    refine ck_go_f (by omega) ?_
    refine ck_eV ⟨rfl, ?_, ?_⟩ rfl rfl rfl
    · intro b j hb
      rw [hI1 b j (by omega)]
      simp only [ck_cpy]
      (repeat' split) <;> first | rfl | omega
    · rw [← hg]
      refine ck_N_ext (fun n a0 a1 => ?_) (fun n a0 a1 => ?_) (fun n q a0 a1 b0 b1 => ?_) (fun q b0 b1 => ?_) (fun q b0 b1 => ?_) (fun q b0 b1 => ?_)
      · rw [hI1 (c + 1) n (by omega)]
        simp only [ck_cpy, true_and]
        (repeat' split) <;> first | rfl | omega
      · rw [hI1 (c + 2) n (by omega)]
        simp only [ck_cpy, true_and]
        (repeat' split) <;> first | rfl | omega
      · rw [hI1 (c + 3) (n * 4 + q) (by omega)]
        simp only [ck_cpy, true_and]
        (repeat' split) <;> first | rfl | omega
      · rw [hI1 (c + 4) q (by omega)]
        simp only [ck_cpy, true_and]
        (repeat' split) <;> first | rfl | omega
      · rw [hI1 (c + 5) q (by omega)]
        simp only [ck_cpy, true_and]
        (repeat' split) <;> first | rfl | omega
      · rw [hI2 q b0 (by omega), ck_x_th hg b0 b1]
end
section
theorem ck_rd_f6 {a b : ck_M} {c e : Int} (h : ck_f6 a b c) (hd : c + 6 < e ∨ e + 6 < c) : ck_rd b e = ck_rd a e := by
  refine ck_N_ext (fun n a0 a1 => ?_) (fun n a0 a1 => ?_) (fun n q a0 a1 b0 b1 => ?_) (fun q b0 b1 => ?_) (fun q b0 b1 => ?_) (fun q b0 b1 => ?_) <;> exact h _ _ (by omega)
def ck_dJb (g f : ck_D) : ck_D := ck_N (ck_kn f) (fun n => ck_mn (ck_lo f n) (ck_lo g n)) (fun n q => ck_mx (ck_hi f n q) (ck_hi g n q)) (ck_va f) (ck_sz f) (fun q => if ck_th f q = 0 ∨ ck_th g q = 0 then 0 else 1)
theorem cx_joinBounds {c e : Int} (hd : c + 6 < e ∨ e + 6 < c) {σ : ck_M} {f g : ck_D} (hf : ck_rd σ c = f) (hB : ck_fb f) (hg : ck_rd σ e = g) (hG : ck_fb g) : ck_cal 2 cm_Fa_joinBounds [.inr (c, 3, 0), .inr (e, 3, 0)] σ (fun q σ' => q = none ∧ ck_f6 σ σ' c ∧ ck_rd σ' c = ck_dJb g f) := by
  refine ck_cal_of ?_
  refine ck_go_run 2 (X1 := (2, [some (.inr (c, 3, 0)), some (.inr (e, 3, 0)), some (.inl 0)], [], σ)) (ps := []) rfl trivial ?_
  refine ck_for 2 (fun v => [some (.inr (c, 3, 0)), some (.inr (e, 3, 0)), some (.inl v)]) 10 (fun v s => 0 ≤ v ∧ v ≤ 10 ∧ (∀ b j, (b ≠ c + 2 ∨ j < 0 ∨ v ≤ j) → s b j = (σ) b j) ∧ ∀ q, 0 ≤ q → q < v → s (c + 2) q = ck_mn (ck_lo f q) (ck_lo g q)) (fun v s hv hI kk => ?_) (fun v s hv hI => ?_) 0 _ ⟨by omega, by omega, fun _ _ _ => rfl, fun _ _ _ => by omega⟩
  · obtain ⟨h0, h4, hI1, hI2⟩ := hI
    have e1 : s (c + 2) v = ck_lo f v := by rw [hI1 _ _ (by omega), ck_x_lo hf h0 hv]
    have e2 : s (e + 2) v = ck_lo g v := by rw [hI1 _ _ (by omega), ck_x_lo hg h0 hv]
    have b1 := hB.2.1 v
    have b2 := hG.2.1 v
    refine ck_go_run 3 (X1 := (if v < 10 then 8 else 35, [some (.inr (c, 3, 0)), some (.inr (e, 3, 0)), some (.inl v)], [], s)) (ps := [ck_rg v, ck_rg 10]) rfl ⟨(ck_rgo (by omega) (by omega)), (ck_rgo (by omega) (by omega)), trivial⟩ ?_
    refine ck_go_t hv ?_
    refine ck_go_run 11 (X1 := (25, [some (.inr (c, 3, 0)), some (.inr (e, 3, 0)), some (.inl v)], [.inl (s (e + 2) v), .inl (s (c + 2) v), .inl v, .inr (c + 2, 0, 10)], s)) (ps := [0 ≤ v ∧ v < ((10 : Nat) : Int), 0 ≤ v ∧ v < ((10 : Nat) : Int)]) rfl ⟨⟨by omega, by omega⟩, ⟨by omega, by omega⟩, trivial⟩ ?_
    refine ck_go_cal (rest := [.inl v, .inr (c + 2, 0, 10)]) (ck_cal_le (by decide) (cx_mn e1 e2 (ck_rgo (by omega) (by omega)) (ck_rgo (by omega) (by omega)) _)) ⟨_, rfl, Or.inr ⟨_, rfl⟩, rfl, rfl, rfl, Nat.le_of_ble_eq_true rfl, fun h => absurd h (by decide)⟩ ?_
    rintro _ s' ⟨rfl, e'⟩
    rw [e']
    clear e' s'
    refine ck_go_run 3 (X1 := (2, [some (.inr (c, 3, 0)), some (.inr (e, 3, 0)), some (.inl (v + 1))], [], ck_up s (c + 2) v (ck_mn (ck_lo f v) (ck_lo g v)))) (ps := [0 ≤ v ∧ v < ((10 : Nat) : Int)]) rfl ⟨⟨by omega, by omega⟩, trivial⟩ ?_
    exact kk _ ⟨by omega, by omega, ck_st0 (g := fun q => ck_mn (ck_lo f q) (ck_lo g q)) hI1 hI2 rfl h0⟩
  · obtain ⟨h0, h4, hI1, hI2⟩ := hI
    refine ck_go_run 3 (X1 := (if v < 10 then 8 else 35, [some (.inr (c, 3, 0)), some (.inr (e, 3, 0)), some (.inl v)], [], s)) (ps := [ck_rg v, ck_rg 10]) rfl ⟨(ck_rgo (by omega) (by omega)), (ck_rgo (by omega) (by omega)), trivial⟩ ?_
    refine ck_go_f (by omega) ?_
    refine ck_go_run 2 (X1 := (37, [some (.inr (c, 3, 0)), some (.inr (e, 3, 0)), some (.inl 0)], [], s)) (ps := []) rfl trivial ?_
    refine ck_for 37 (fun v2 => [some (.inr (c, 3, 0)), some (.inr (e, 3, 0)), some (.inl v2)]) (((40 : Nat) : Int)) (fun v2 t => 0 ≤ v2 ∧ v2 ≤ 40 ∧ (∀ b j, (b ≠ c + 3 ∨ j < 0 ∨ v2 ≤ j) → t b j = (s) b j) ∧ ∀ q, 0 ≤ q → q < v2 → t (c + 3) q = ck_mx (ck_hi f (q / 4) (q % 4)) (ck_hi g (q / 4) (q % 4))) (fun v2 t hv hI kk => ?_) (fun v2 t hv hI => ?_) 0 _ ⟨by omega, by omega, fun _ _ _ => rfl, fun _ _ _ => by omega⟩
    · obtain ⟨k0, k4, kI1, kI2⟩ := hI
      have e1 : t (c + 3) v2 = ck_hi f (v2 / 4) (v2 % 4) := by rw [kI1 _ _ (by omega), hI1 _ _ (by omega), ck_x_hr hf k0 (by omega)]
      have e2 : t (e + 3) v2 = ck_hi g (v2 / 4) (v2 % 4) := by rw [kI1 _ _ (by omega), hI1 _ _ (by omega), ck_x_hr hg k0 (by omega)]
      have b1 := hB.2.2.1 (v2 / 4) (v2 % 4)
      have b2 := hG.2.2.1 (v2 / 4) (v2 % 4)
      refine ck_go_run 5 (X1 := (if v2 < ((40 : Nat) : Int) then 46 else 73, [some (.inr (c, 3, 0)), some (.inr (e, 3, 0)), some (.inl v2)], [], t)) (ps := [ck_rg v2, ck_rg (((40 : Nat) : Int))]) rfl ⟨(ck_rgo (by omega) (by omega)), (ck_rgo (by omega) (by omega)), trivial⟩ ?_
      refine ck_go_t hv ?_
      refine ck_go_run 11 (X1 := (63, [some (.inr (c, 3, 0)), some (.inr (e, 3, 0)), some (.inl v2)], [.inl (t (e + 3) v2), .inl (t (c + 3) v2), .inl v2, .inr (c + 3, 0, 40)], t)) (ps := [0 ≤ v2 ∧ v2 < ((40 : Nat) : Int), 0 ≤ v2 ∧ v2 < ((40 : Nat) : Int)]) rfl ⟨⟨by omega, by omega⟩, ⟨by omega, by omega⟩, trivial⟩ ?_
      refine ck_go_cal (rest := [.inl v2, .inr (c + 3, 0, 40)]) (ck_cal_le (by decide) (cx_mx e1 e2 (ck_rgo (by omega) (by omega)) (ck_rgo (by omega) (by omega)) _)) ⟨_, rfl, Or.inr ⟨_, rfl⟩, rfl, rfl, rfl, Nat.le_of_ble_eq_true rfl, fun h => absurd h (by decide)⟩ ?_
      rintro _ s' ⟨rfl, e'⟩
      rw [e']
      clear e' s'
      refine ck_go_run 3 (X1 := (37, [some (.inr (c, 3, 0)), some (.inr (e, 3, 0)), some (.inl (v2 + 1))], [], ck_up t (c + 3) v2 (ck_mx (ck_hi f (v2 / 4) (v2 % 4)) (ck_hi g (v2 / 4) (v2 % 4))))) (ps := [0 ≤ v2 ∧ v2 < ((40 : Nat) : Int)]) rfl ⟨⟨by omega, by omega⟩, trivial⟩ ?_
      exact kk _ ⟨by omega, by omega, ck_st0 (g := fun q => ck_mx (ck_hi f (q / 4) (q % 4)) (ck_hi g (q / 4) (q % 4))) kI1 kI2 rfl k0⟩
    · obtain ⟨k0, k4, kI1, kI2⟩ := hI
      refine ck_go_run 5 (X1 := (if v2 < ((40 : Nat) : Int) then 46 else 73, [some (.inr (c, 3, 0)), some (.inr (e, 3, 0)), some (.inl v2)], [], t)) (ps := [ck_rg v2, ck_rg (((40 : Nat) : Int))]) rfl ⟨(ck_rgo (by omega) (by omega)), (ck_rgo (by omega) (by omega)), trivial⟩ ?_
      refine ck_go_f (by omega) ?_
      refine ck_go_run 2 (X1 := (75, [some (.inr (c, 3, 0)), some (.inr (e, 3, 0)), some (.inl 0)], [], t)) (ps := []) rfl trivial ?_
      refine ck_for 75 (fun v3 => [some (.inr (c, 3, 0)), some (.inr (e, 3, 0)), some (.inl v3)]) 4 (fun v3 w => 0 ≤ v3 ∧ v3 ≤ 4 ∧ (∀ b j, (b ≠ c + 6 ∨ j < 0 ∨ v3 ≤ j) → w b j = (t) b j) ∧ ∀ q, 0 ≤ q → q < v3 → w (c + 6) q = (if ck_th f q = 0 ∨ ck_th g q = 0 then 0 else 1)) (fun v3 w hv hI kk => ?_) (fun v3 w hv hI => ?_) 0 _ ⟨by omega, by omega, fun _ _ _ => rfl, fun _ _ _ => by omega⟩
      · obtain ⟨m0, m4, mI1, mI2⟩ := hI
        have e1 : w (c + 6) v3 = ck_th f v3 := by rw [mI1 _ _ (by omega), kI1 _ _ (by omega), hI1 _ _ (by omega), ck_x_th hf m0 hv]
        have e2 : w (e + 6) v3 = ck_th g v3 := by rw [mI1 _ _ (by omega), kI1 _ _ (by omega), hI1 _ _ (by omega), ck_x_th hg m0 hv]
        have b1 := hB.2.2.2.2.2 v3
        have b2 := hG.2.2.2.2.2 v3
        refine ck_go_run 3 (X1 := (if v3 < 4 then 80 else 115, [some (.inr (c, 3, 0)), some (.inr (e, 3, 0)), some (.inl v3)], [], w)) (ps := [ck_rg v3, ck_rg 4]) rfl ⟨(ck_rgo (by omega) (by omega)), (ck_rgo (by omega) (by omega)), trivial⟩ ?_
        refine ck_go_t hv ?_
        refine ck_go_run 8 (X1 := (if w (c + 6) v3 = 0 then 107 else 94, [some (.inr (c, 3, 0)), some (.inr (e, 3, 0)), some (.inl v3)], [.inl v3, .inr (c + 6, 1, 4)], w)) (ps := [0 ≤ v3 ∧ v3 < ((4 : Nat) : Int), ck_rg (w (c + 6) v3)]) rfl ⟨⟨by omega, by omega⟩, (ck_rgo (by omega) (by omega)), trivial⟩ ?_
        refine ck_go_ite (fun h1 => ?_) (fun h1 => ?_)
        · refine ck_go_run 4 (X1 := (75, [some (.inr (c, 3, 0)), some (.inr (e, 3, 0)), some (.inl (v3 + 1))], [], ck_up w (c + 6) v3 0)) (ps := [0 ≤ v3 ∧ v3 < ((4 : Nat) : Int), 0 = 0 ∨ 0 = 1]) rfl ⟨⟨by omega, by omega⟩, Or.inl rfl, trivial⟩ ?_
          exact kk _ ⟨by omega, by omega, ck_st0 (g := fun q => (if ck_th f q = 0 ∨ ck_th g q = 0 then 0 else 1)) mI1 mI2 (by rw [← e1, ← e2]; rw [if_pos (by omega)]) m0⟩
        · refine ck_go_run 5 (X1 := (if w (e + 6) v3 = 0 then 107 else 103, [some (.inr (c, 3, 0)), some (.inr (e, 3, 0)), some (.inl v3)], [.inl v3, .inr (c + 6, 1, 4)], w)) (ps := [0 ≤ v3 ∧ v3 < ((4 : Nat) : Int), ck_rg (w (e + 6) v3)]) rfl ⟨⟨by omega, by omega⟩, (ck_rgo (by omega) (by omega)), trivial⟩ ?_
          refine ck_go_ite (fun h2 => ?_) (fun h2 => ?_)
          · refine ck_go_run 4 (X1 := (75, [some (.inr (c, 3, 0)), some (.inr (e, 3, 0)), some (.inl (v3 + 1))], [], ck_up w (c + 6) v3 0)) (ps := [0 ≤ v3 ∧ v3 < ((4 : Nat) : Int), 0 = 0 ∨ 0 = 1]) rfl ⟨⟨by omega, by omega⟩, Or.inl rfl, trivial⟩ ?_
            exact kk _ ⟨by omega, by omega, ck_st0 (g := fun q => (if ck_th f q = 0 ∨ ck_th g q = 0 then 0 else 1)) mI1 mI2 (by rw [← e1, ← e2]; rw [if_pos (by omega)]) m0⟩
          · refine ck_go_run 5 (X1 := (75, [some (.inr (c, 3, 0)), some (.inr (e, 3, 0)), some (.inl (v3 + 1))], [], ck_up w (c + 6) v3 1)) (ps := [0 ≤ v3 ∧ v3 < ((4 : Nat) : Int), 1 = 0 ∨ 1 = 1]) rfl ⟨⟨by omega, by omega⟩, Or.inr rfl, trivial⟩ ?_
            exact kk _ ⟨by omega, by omega, ck_st0 (g := fun q => (if ck_th f q = 0 ∨ ck_th g q = 0 then 0 else 1)) mI1 mI2 (by rw [← e1, ← e2]; rw [if_neg (by omega)]) m0⟩
      · obtain ⟨m0, m4, mI1, mI2⟩ := hI
        refine ck_go_run 3 (X1 := (if v3 < 4 then 80 else 115, [some (.inr (c, 3, 0)), some (.inr (e, 3, 0)), some (.inl v3)], [], w)) (ps := [ck_rg v3, ck_rg 4]) rfl ⟨(ck_rgo (by omega) (by omega)), (ck_rgo (by omega) (by omega)), trivial⟩ ?_
        refine ck_go_f (by omega) ?_
        refine ck_eV ⟨rfl, ?_, ?_⟩ rfl rfl rfl
        · intro b j hb
          rw [mI1 b j (by omega), kI1 b j (by omega), hI1 b j (by omega)]
        · unfold ck_dJb
          refine ck_N_ext (fun n a0 a1 => ?_) (fun n a0 a1 => ?_) (fun n q a0 a1 b0 b1 => ?_) (fun q b0 b1 => ?_) (fun q b0 b1 => ?_) (fun q b0 b1 => ?_)
          · rw [mI1 _ _ (by omega), kI1 _ _ (by omega), hI1 _ _ (by omega), ck_x_kn hf a0 a1]
          · rw [mI1 _ _ (by omega), kI1 _ _ (by omega), hI2 n a0 (by omega)]
          · rw [mI1 _ _ (by omega), kI2 (n * 4 + q) (by omega) (by omega), show (n * 4 + q) / 4 = n by omega, show (n * 4 + q) % 4 = q by omega]
          · rw [mI1 _ _ (by omega), kI1 _ _ (by omega), hI1 _ _ (by omega), ck_x_va hf b0 b1]
          · rw [mI1 _ _ (by omega), kI1 _ _ (by omega), hI1 _ _ (by omega), ck_x_sz hf b0 b1]
          · rw [mI2 q b0 (by omega)]
def ck_dJwv (v : Int) (g : ck_D) (k : Int) (f : ck_D) : ck_D := ck_N (fun n => if ck_kn f n = ck_kn g n then ck_kn f n else 1000000000) (fun n => ck_mn (ck_lo f n) (ck_lo g n)) (fun n q => ck_mx (ck_hi f n q) (ck_hi g n q)) (fun q => if q < v ∧ ck_va f q ≠ ck_va g q then 65 + k * 4 + q else ck_va f q) (fun q => if q < v ∧ ck_va f q ≠ ck_va g q then 1000000000 else ck_sz f q) (fun q => if ck_th f q = 0 ∨ ck_th g q = 0 then 0 else 1)
/-- the join behind an if: g the other way, k the END -/
def ck_dJw (g : ck_D) (k : Int) (f : ck_D) : ck_D := ck_dJwv 4 g k f
theorem ck_dJwv_s {v k : Int} {f g : ck_D} (h0 : 0 ≤ v) (h4 : v < 4) (h : ¬ ck_va f v = ck_va g v) : ck_dJv v k (ck_dJwv v g k f) = ck_dJwv (v + 1) g k f := by
  unfold ck_dJv ck_dJwv
  refine ck_N_ext (fun n a0 a1 => ?_) (fun n a0 a1 => ?_) (fun n q a0 a1 b0 b1 => ?_) (fun q b0 b1 => ?_) (fun q b0 b1 => ?_) (fun q b0 b1 => ?_)
  · rw [ck_N_kn a0 a1]
  · rw [ck_N_lo a0 a1]
  · rw [ck_N_hi a0 a1 b0 b1]
  · rw [ck_N_va b0 b1]
    by_cases hq : q = v
    · subst hq
      rw [if_pos rfl, if_pos ⟨by omega, h⟩]
    · (repeat' split) <;> first | rfl | omega
  · rw [ck_N_sz b0 b1]
    by_cases hq : q = v
    · subst hq
      rw [if_pos rfl, if_pos ⟨by omega, h⟩]
    · (repeat' split) <;> first | rfl | omega
  · rw [ck_N_th b0 b1]
theorem ck_dJwv_n {v k : Int} {f g : ck_D} (h : ck_va f v = ck_va g v) : ck_dJwv v g k f = ck_dJwv (v + 1) g k f := by
  unfold ck_dJwv
  refine ck_N_ext (fun n a0 a1 => rfl) (fun n a0 a1 => rfl) (fun n q a0 a1 b0 b1 => rfl) (fun q b0 b1 => ?_) (fun q b0 b1 => ?_) (fun q b0 b1 => rfl)
  · by_cases hq : q = v
    · subst hq
      rw [if_neg (fun z => z.2 h), if_neg (fun z => z.2 h)]
    · (repeat' split) <;> first | rfl | omega
  · by_cases hq : q = v
    · subst hq
      rw [if_neg (fun z => z.2 h), if_neg (fun z => z.2 h)]
    · (repeat' split) <;> first | rfl | omega
theorem ck_dJwv_4 {v k : Int} {f g : ck_D} (h : 4 ≤ v) : ck_dJwv v g k f = ck_dJw g k f := by
  unfold ck_dJw ck_dJwv
  refine ck_N_ext (fun n a0 a1 => rfl) (fun n a0 a1 => rfl) (fun n q a0 a1 b0 b1 => rfl) (fun q b0 b1 => ?_) (fun q b0 b1 => ?_) (fun q b0 b1 => rfl) <;> (repeat' split) <;> first | rfl | omega
theorem cx_joinWays {c e k : Int} (hd : c + 6 < e ∨ e + 6 < c) {σ : ck_M} {f g : ck_D} (hf : ck_rd σ c = f) (hB : ck_fb f) (hg : ck_rd σ e = g) (hG : ck_fb g) : ck_cal 3 cm_Fa_joinWays [.inr (c, 3, 0), .inr (e, 3, 0), .inl k] σ (fun q σ' => q = none ∧ ck_f6 σ σ' c ∧ ck_rd σ' c = ck_dJw g k f) := by
  refine ck_cal_of ?_
  refine ck_go_run 2 (X1 := (2, [some (.inr (c, 3, 0)), some (.inr (e, 3, 0)), some (.inl k), none], [.inr (e, 3, 0), .inr (c, 3, 0)], σ)) (ps := []) rfl trivial ?_
  refine ck_go_cal (rest := []) (ck_cal_le (by decide) (cx_joinBounds hd hf hB hg hG)) ⟨_, rfl, Or.inl ⟨_, rfl⟩, rfl, rfl, rfl, Nat.le_of_ble_eq_true rfl, fun _ => ⟨_, _, rfl⟩⟩ ?_
  rintro _ s1 ⟨rfl, g1, r1⟩
  try dsimp only at g1 r1
  have re : ck_rd s1 e = g := by rw [ck_rd_f6 g1 hd]; exact hg
  refine ck_go_run 2 (X1 := (7, [some (.inr (c, 3, 0)), some (.inr (e, 3, 0)), some (.inl k), some (.inl 0)], [], s1)) (ps := []) rfl trivial ?_
  refine ck_for 7 (fun v => [some (.inr (c, 3, 0)), some (.inr (e, 3, 0)), some (.inl k), some (.inl v)]) 10 (fun v s => 0 ≤ v ∧ v ≤ 10 ∧ (∀ b j, (b ≠ c + 1 ∨ j < 0 ∨ v ≤ j) → s b j = (s1) b j) ∧ ∀ q, 0 ≤ q → q < v → s (c + 1) q = (if ck_kn f q = ck_kn g q then ck_kn f q else 1000000000)) (fun v s hv hI kk => ?_) (fun v s hv hI => ?_) 0 _ ⟨by omega, by omega, fun _ _ _ => rfl, fun _ _ _ => by omega⟩
  · obtain ⟨h0, h4, hI1, hI2⟩ := hI
    have e1 : s (c + 1) v = ck_kn f v := by
      rw [hI1 _ _ (by omega), ck_x_kn r1 h0 hv]
      simp only [ck_dJb, ck_N_kn h0 hv]
    have e2 : s (e + 1) v = ck_kn g v := by rw [hI1 _ _ (by omega), ck_x_kn re h0 hv]
    have b1 := hB.1 v
    have b2 := hG.1 v
    refine ck_go_run 3 (X1 := (if v < 10 then 13 else 42, [some (.inr (c, 3, 0)), some (.inr (e, 3, 0)), some (.inl k), some (.inl v)], [], s)) (ps := [ck_rg v, ck_rg 10]) rfl ⟨(ck_rgo (by omega) (by omega)), (ck_rgo (by omega) (by omega)), trivial⟩ ?_
    refine ck_go_t hv ?_
    refine ck_go_run 9 (X1 := (if s (c + 1) v = s (e + 1) v then 36 else 28, [some (.inr (c, 3, 0)), some (.inr (e, 3, 0)), some (.inl k), some (.inl v)], [], s)) (ps := [0 ≤ v ∧ v < ((10 : Nat) : Int), 0 ≤ v ∧ v < ((10 : Nat) : Int), ck_rg (s (c + 1) v), ck_rg (s (e + 1) v)]) rfl ⟨⟨by omega, by omega⟩, ⟨by omega, by omega⟩, (ck_rgo (by omega) (by omega)), (ck_rgo (by omega) (by omega)), trivial⟩ ?_
    refine ck_go_ite (fun h1 => ?_) (fun h1 => ?_)
    · refine ck_go_run 2 (X1 := (7, [some (.inr (c, 3, 0)), some (.inr (e, 3, 0)), some (.inl k), some (.inl (v + 1))], [], s)) (ps := []) rfl trivial ?_
      exact kk _ ⟨by omega, by omega, ck_st0n (g := fun q => (if ck_kn f q = ck_kn g q then ck_kn f q else 1000000000)) hI1 hI2 (by rw [if_pos (by rw [← e1, ← e2]; exact h1), ← e1, hI1 _ _ (by omega)]) h0⟩
    · refine ck_go_run 7 (X1 := (7, [some (.inr (c, 3, 0)), some (.inr (e, 3, 0)), some (.inl k), some (.inl (v + 1))], [], ck_up s (c + 1) v 1000000000)) (ps := [0 ≤ v ∧ v < ((10 : Nat) : Int)]) rfl ⟨⟨by omega, by omega⟩, trivial⟩ ?_
      exact kk _ ⟨by omega, by omega, ck_st0 (g := fun q => (if ck_kn f q = ck_kn g q then ck_kn f q else 1000000000)) hI1 hI2 (by rw [if_neg (by rw [← e1, ← e2]; exact h1)]) h0⟩
  · obtain ⟨h0, h4, hI1, hI2⟩ := hI
    refine ck_go_run 3 (X1 := (if v < 10 then 13 else 42, [some (.inr (c, 3, 0)), some (.inr (e, 3, 0)), some (.inl k), some (.inl v)], [], s)) (ps := [ck_rg v, ck_rg 10]) rfl ⟨(ck_rgo (by omega) (by omega)), (ck_rgo (by omega) (by omega)), trivial⟩ ?_
    refine ck_go_f (by omega) ?_
    refine ck_go_run 2 (X1 := (44, [some (.inr (c, 3, 0)), some (.inr (e, 3, 0)), some (.inl k), some (.inl 0)], [], s)) (ps := []) rfl trivial ?_
    refine ck_for 44 (fun v2 => [some (.inr (c, 3, 0)), some (.inr (e, 3, 0)), some (.inl k), some (.inl v2)]) 4 (fun v2 t => 0 ≤ v2 ∧ v2 ≤ 4 ∧ ck_f6 σ t c ∧ ck_rd t c = ck_dJwv v2 g k f) (fun v2 t hv hI kk => ?_) (fun v2 t hv hI => ?_) 0 _ ⟨by omega, by omega, fun b j hb => by rw [hI1 b j (by omega), g1 b j hb], by
      unfold ck_dJwv
      refine ck_N_ext (fun n a0 a1 => ?_) (fun n a0 a1 => ?_) (fun n q a0 a1 b0 b1 => ?_) (fun q b0 b1 => ?_) (fun q b0 b1 => ?_) (fun q b0 b1 => ?_)
      · rw [hI2 n a0 (by omega)]
      · rw [hI1 _ _ (by omega), ck_x_lo r1 a0 a1]
        simp only [ck_dJb, ck_N_lo a0 a1]
      · rw [hI1 _ _ (by omega), ck_x_hi r1 a0 a1 b0 b1]
        simp only [ck_dJb, ck_N_hi a0 a1 b0 b1]
      · rw [hI1 _ _ (by omega), ck_x_va r1 b0 b1, if_neg (by omega)]
        simp only [ck_dJb, ck_N_va b0 b1]
      · rw [hI1 _ _ (by omega), ck_x_sz r1 b0 b1, if_neg (by omega)]
        simp only [ck_dJb, ck_N_sz b0 b1]
      · rw [hI1 _ _ (by omega), ck_x_th r1 b0 b1]
        simp only [ck_dJb, ck_N_th b0 b1]⟩
    · obtain ⟨k0, k4, kf, kr⟩ := hI
      have e4 : t (c + 4) v2 = ck_va f v2 := by
        rw [ck_x_va kr k0 hv]
        simp only [ck_dJwv, ck_N_va k0 hv]
        rw [if_neg (by omega)]
      have e5 : t (e + 4) v2 = ck_va g v2 := by rw [kf _ _ (by omega), ck_x_va hg k0 hv]
      have b1 := hB.2.2.2.1 v2
      have b2 := hG.2.2.2.1 v2
      refine ck_go_run 3 (X1 := (if v2 < 4 then 49 else 76, [some (.inr (c, 3, 0)), some (.inr (e, 3, 0)), some (.inl k), some (.inl v2)], [], t)) (ps := [ck_rg v2, ck_rg 4]) rfl ⟨(ck_rgo (by omega) (by omega)), (ck_rgo (by omega) (by omega)), trivial⟩ ?_
      refine ck_go_t hv ?_
      refine ck_go_run 9 (X1 := (if t (c + 4) v2 = t (e + 4) v2 then 70 else 64, [some (.inr (c, 3, 0)), some (.inr (e, 3, 0)), some (.inl k), some (.inl v2)], [], t)) (ps := [0 ≤ v2 ∧ v2 < ((4 : Nat) : Int), 0 ≤ v2 ∧ v2 < ((4 : Nat) : Int), ck_rg (t (c + 4) v2), ck_rg (t (e + 4) v2)]) rfl ⟨⟨by omega, by omega⟩, ⟨by omega, by omega⟩, (ck_rgo (by omega) (by omega)), (ck_rgo (by omega) (by omega)), trivial⟩ ?_
      refine ck_go_ite (fun h2 => ?_) (fun h2 => ?_)
      · refine ck_go_run 2 (X1 := (44, [some (.inr (c, 3, 0)), some (.inr (e, 3, 0)), some (.inl k), some (.inl (v2 + 1))], [], t)) (ps := []) rfl trivial ?_
        exact kk _ ⟨by omega, by omega, kf, by rw [kr, ck_dJwv_n (by rw [← e4, ← e5]; exact h2)]⟩
      · refine ck_go_run 3 (X1 := (67, [some (.inr (c, 3, 0)), some (.inr (e, 3, 0)), some (.inl k), some (.inl v2)], [.inl k, .inl v2, .inr (c, 3, 0)], t)) (ps := []) rfl trivial ?_
        refine ck_go_cal (rest := []) (ck_cal_le (by decide) (cx_setJoinedValue (c := c) (r := v2) (k := k) (by omega) kr)) ⟨_, rfl, Or.inl ⟨_, rfl⟩, rfl, rfl, rfl, Nat.le_of_ble_eq_true rfl, fun _ => ⟨_, _, rfl⟩⟩ ?_
        rintro _ s2 ⟨rfl, gj, rj⟩
        try dsimp only at gj rj
        refine ck_go_run 2 (X1 := (44, [some (.inr (c, 3, 0)), some (.inr (e, 3, 0)), some (.inl k), some (.inl (v2 + 1))], [], s2)) (ps := []) rfl trivial ?_
        exact kk _ ⟨by omega, by omega, ck_f6_tr kf gj, by rw [rj, ck_dJwv_s k0 hv (by rw [← e4, ← e5]; exact h2)]⟩
    · obtain ⟨k0, k4, kf, kr⟩ := hI
      refine ck_go_run 3 (X1 := (if v2 < 4 then 49 else 76, [some (.inr (c, 3, 0)), some (.inr (e, 3, 0)), some (.inl k), some (.inl v2)], [], t)) (ps := [ck_rg v2, ck_rg 4]) rfl ⟨(ck_rgo (by omega) (by omega)), (ck_rgo (by omega) (by omega)), trivial⟩ ?_
      refine ck_go_f (by omega) ?_
      exact ck_eV ⟨rfl, kf, by rw [kr, ck_dJwv_4 hv]⟩ rfl rfl rfl
end
section
/-- what a while doesn't keep: the numbers nb, the arrays ab (as bits), the while k -/
def ck_dFcv (v nb ab k : Int) (f : ck_D) : ck_D := ck_N (fun n => if ck_and (ck_shr nb n) 1 = 0 then ck_kn f n else 1000000000) (ck_lo f) (ck_hi f) (fun q => if q < v ∧ ck_and (ck_shr ab q) 1 ≠ 0 then 65 + k * 4 + q else ck_va f q) (fun q => if q < v ∧ ck_and (ck_shr ab q) 1 ≠ 0 then 1000000000 else ck_sz f q) (ck_th f)
def ck_dFc (nb ab k : Int) (f : ck_D) : ck_D := ck_dFcv 4 nb ab k f
theorem ck_dFcv_s {v nb ab k : Int} {f : ck_D} (h0 : 0 ≤ v) (h4 : v < 4) (h : ¬ ck_and (ck_shr ab v) 1 = 0) : ck_dJv v k (ck_dFcv v nb ab k f) = ck_dFcv (v + 1) nb ab k f := by
  unfold ck_dJv ck_dFcv
  refine ck_N_ext (fun n a0 a1 => ?_) (fun n a0 a1 => ?_) (fun n q a0 a1 b0 b1 => ?_) (fun q b0 b1 => ?_) (fun q b0 b1 => ?_) (fun q b0 b1 => ?_)
  · rw [ck_N_kn a0 a1]
  · rw [ck_N_lo a0 a1]
  · rw [ck_N_hi a0 a1 b0 b1]
  · rw [ck_N_va b0 b1]
    by_cases hq : q = v
    · subst hq
      rw [if_pos rfl, if_pos ⟨by omega, h⟩]
    · (repeat' split) <;> first | rfl | omega
  · rw [ck_N_sz b0 b1]
    by_cases hq : q = v
    · subst hq
      rw [if_pos rfl, if_pos ⟨by omega, h⟩]
    · (repeat' split) <;> first | rfl | omega
  · rw [ck_N_th b0 b1]
theorem ck_dFcv_n {v nb ab k : Int} {f : ck_D} (h : ck_and (ck_shr ab v) 1 = 0) : ck_dFcv v nb ab k f = ck_dFcv (v + 1) nb ab k f := by
  unfold ck_dFcv
  refine ck_N_ext (fun n a0 a1 => rfl) (fun n a0 a1 => rfl) (fun n q a0 a1 b0 b1 => rfl) (fun q b0 b1 => ?_) (fun q b0 b1 => ?_) (fun q b0 b1 => rfl)
  · by_cases hq : q = v
    · subst hq
      rw [if_neg (fun z => z.2 h), if_neg (fun z => z.2 h)]
    · (repeat' split) <;> first | rfl | omega
  · by_cases hq : q = v
    · subst hq
      rw [if_neg (fun z => z.2 h), if_neg (fun z => z.2 h)]
    · (repeat' split) <;> first | rfl | omega
theorem ck_dFcv_4 {v nb ab k : Int} {f : ck_D} (h : 4 ≤ v) : ck_dFcv v nb ab k f = ck_dFc nb ab k f := by
  unfold ck_dFc ck_dFcv
  refine ck_N_ext (fun n a0 a1 => rfl) (fun n a0 a1 => rfl) (fun n q a0 a1 b0 b1 => rfl) (fun q b0 b1 => ?_) (fun q b0 b1 => ?_) (fun q b0 b1 => rfl) <;> (repeat' split) <;> first | rfl | omega
theorem cx_forgetChanged {c nb ab k : Int} {σ : ck_M} {f : ck_D} (hf : ck_rd σ c = f) : ck_cal 2 cm_Fa_forgetChanged [.inr (c, 3, 0), .inl nb, .inl ab, .inl k] σ (fun q σ' => q = none ∧ ck_f6 σ σ' c ∧ ck_rd σ' c = ck_dFc nb ab k f) := by
  refine ck_cal_of ?_
  refine ck_go_run 2 (X1 := (3, [some (.inr (c, 3, 0)), some (.inl nb), some (.inl ab), some (.inl k), some (.inl 0)], [], σ)) (ps := []) rfl trivial ?_
  refine ck_for 3 (fun v => [some (.inr (c, 3, 0)), some (.inl nb), some (.inl ab), some (.inl k), some (.inl v)]) 10 (fun v s => 0 ≤ v ∧ v ≤ 10 ∧ (∀ b j, (b ≠ c + 1 ∨ j < 0 ∨ v ≤ j) → s b j = (σ) b j) ∧ ∀ q, 0 ≤ q → q < v → s (c + 1) q = (if ck_and (ck_shr nb q) 1 = 0 then ck_kn f q else 1000000000)) (fun v s hv hI kk => ?_) (fun v s hv hI => ?_) 0 _ ⟨by omega, by omega, fun _ _ _ => rfl, fun _ _ _ => by omega⟩
  · obtain ⟨h0, h4, hI1, hI2⟩ := hI
    refine ck_go_run 3 (X1 := (if v < 10 then 10 else 34, [some (.inr (c, 3, 0)), some (.inl nb), some (.inl ab), some (.inl k), some (.inl v)], [], s)) (ps := [ck_rg v, ck_rg 10]) rfl ⟨(ck_rgo (by omega) (by omega)), (ck_rgo (by omega) (by omega)), trivial⟩ ?_
    refine ck_go_t hv ?_
    refine ck_go_run 6 (X1 := (if ck_and (ck_shr nb v) 1 = 0 then 28 else 19, [some (.inr (c, 3, 0)), some (.inl nb), some (.inl ab), some (.inl k), some (.inl v)], [], s)) (ps := [ck_rg (ck_and (ck_shr nb v) 1)]) rfl ⟨ck_rg_and, trivial⟩ ?_
    refine ck_go_ite (fun h1 => ?_) (fun h1 => ?_)
    · refine ck_go_run 2 (X1 := (3, [some (.inr (c, 3, 0)), some (.inl nb), some (.inl ab), some (.inl k), some (.inl (v + 1))], [], s)) (ps := []) rfl trivial ?_
      exact kk _ ⟨by omega, by omega, ck_st0n (g := fun q => (if ck_and (ck_shr nb q) 1 = 0 then ck_kn f q else 1000000000)) hI1 hI2 (by rw [if_pos h1, ck_x_kn hf h0 hv]) h0⟩
    · refine ck_go_run 7 (X1 := (3, [some (.inr (c, 3, 0)), some (.inl nb), some (.inl ab), some (.inl k), some (.inl (v + 1))], [], ck_up s (c + 1) v 1000000000)) (ps := [0 ≤ v ∧ v < ((10 : Nat) : Int)]) rfl ⟨⟨by omega, by omega⟩, trivial⟩ ?_
      exact kk _ ⟨by omega, by omega, ck_st0 (g := fun q => (if ck_and (ck_shr nb q) 1 = 0 then ck_kn f q else 1000000000)) hI1 hI2 (by rw [if_neg h1]) h0⟩
  · obtain ⟨h0, h4, hI1, hI2⟩ := hI
    refine ck_go_run 3 (X1 := (if v < 10 then 10 else 34, [some (.inr (c, 3, 0)), some (.inl nb), some (.inl ab), some (.inl k), some (.inl v)], [], s)) (ps := [ck_rg v, ck_rg 10]) rfl ⟨(ck_rgo (by omega) (by omega)), (ck_rgo (by omega) (by omega)), trivial⟩ ?_
    refine ck_go_f (by omega) ?_
    refine ck_go_run 2 (X1 := (37, [some (.inr (c, 3, 0)), some (.inl nb), some (.inl ab), some (.inl k), some (.inl 0)], [], s)) (ps := []) rfl trivial ?_
    refine ck_for 37 (fun v2 => [some (.inr (c, 3, 0)), some (.inl nb), some (.inl ab), some (.inl k), some (.inl v2)]) 4 (fun v2 t => 0 ≤ v2 ∧ v2 ≤ 4 ∧ ck_f6 σ t c ∧ ck_rd t c = ck_dFcv v2 nb ab k f) (fun v2 t hv hI kk => ?_) (fun v2 t hv hI => ?_) 0 _ ⟨by omega, by omega, fun b j hb => by rw [hI1 b j (by omega)], by
      unfold ck_dFcv
      refine ck_N_ext (fun n a0 a1 => ?_) (fun n a0 a1 => ?_) (fun n q a0 a1 b0 b1 => ?_) (fun q b0 b1 => ?_) (fun q b0 b1 => ?_) (fun q b0 b1 => ?_)
      · rw [hI2 n a0 (by omega)]
      · rw [hI1 _ _ (by omega), ck_x_lo hf a0 a1]
      · rw [hI1 _ _ (by omega), ck_x_hi hf a0 a1 b0 b1]
      · rw [hI1 _ _ (by omega), ck_x_va hf b0 b1, if_neg (by omega)]
      · rw [hI1 _ _ (by omega), ck_x_sz hf b0 b1, if_neg (by omega)]
      · rw [hI1 _ _ (by omega), ck_x_th hf b0 b1]⟩
    · obtain ⟨k0, k4, kf, kr⟩ := hI
      refine ck_go_run 3 (X1 := (if v2 < 4 then 43 else 65, [some (.inr (c, 3, 0)), some (.inl nb), some (.inl ab), some (.inl k), some (.inl v2)], [], t)) (ps := [ck_rg v2, ck_rg 4]) rfl ⟨(ck_rgo (by omega) (by omega)), (ck_rgo (by omega) (by omega)), trivial⟩ ?_
      refine ck_go_t hv ?_
      refine ck_go_run 6 (X1 := (if ck_and (ck_shr ab v2) 1 = 0 then 59 else 52, [some (.inr (c, 3, 0)), some (.inl nb), some (.inl ab), some (.inl k), some (.inl v2)], [], t)) (ps := [ck_rg (ck_and (ck_shr ab v2) 1)]) rfl ⟨ck_rg_and, trivial⟩ ?_
      refine ck_go_ite (fun h2 => ?_) (fun h2 => ?_)
      · refine ck_go_run 2 (X1 := (37, [some (.inr (c, 3, 0)), some (.inl nb), some (.inl ab), some (.inl k), some (.inl (v2 + 1))], [], t)) (ps := []) rfl trivial ?_
        exact kk _ ⟨by omega, by omega, kf, by rw [kr, ck_dFcv_n h2]⟩
      · refine ck_go_run 3 (X1 := (56, [some (.inr (c, 3, 0)), some (.inl nb), some (.inl ab), some (.inl k), some (.inl v2)], [.inl k, .inl v2, .inr (c, 3, 0)], t)) (ps := []) rfl trivial ?_
        refine ck_go_cal (rest := []) (ck_cal_le (by decide) (cx_setJoinedValue (c := c) (r := v2) (k := k) (by omega) kr)) ⟨_, rfl, Or.inl ⟨_, rfl⟩, rfl, rfl, rfl, Nat.le_of_ble_eq_true rfl, fun _ => ⟨_, _, rfl⟩⟩ ?_
        rintro _ s1 ⟨rfl, gj, rj⟩
        try dsimp only at gj rj
        refine ck_go_run 2 (X1 := (37, [some (.inr (c, 3, 0)), some (.inl nb), some (.inl ab), some (.inl k), some (.inl (v2 + 1))], [], s1)) (ps := []) rfl trivial ?_
        exact kk _ ⟨by omega, by omega, ck_f6_tr kf gj, by rw [rj, ck_dFcv_s k0 hv h2]⟩
    · obtain ⟨k0, k4, kf, kr⟩ := hI
      refine ck_go_run 3 (X1 := (if v2 < 4 then 43 else 65, [some (.inr (c, 3, 0)), some (.inl nb), some (.inl ab), some (.inl k), some (.inl v2)], [], t)) (ps := [ck_rg v2, ck_rg 4]) rfl ⟨(ck_rgo (by omega) (by omega)), (ck_rgo (by omega) (by omega)), trivial⟩ ?_
      refine ck_go_f (by omega) ?_
      exact ck_eV ⟨rfl, kf, by rw [kr, ck_dFcv_4 hv]⟩ rfl rfl rfl
/-- the same bounds -/
def ck_sb (f g : ck_D) : Prop := (∀ n, 0 ≤ n → n < 10 → ck_lo f n = ck_lo g n) ∧ (∀ n r, 0 ≤ n → n < 10 → 0 ≤ r → r < 4 → ck_hi f n r = ck_hi g n r) ∧ ∀ r, 0 ≤ r → r < 4 → ck_th f r = ck_th g r
theorem cx_hasSameBounds {c e : Int} {σ : ck_M} {f g : ck_D} (hf : ck_rd σ c = f) (hB : ck_fb f) (hg : ck_rd σ e = g) (hG : ck_fb g) : ck_cal 1 cm_Fa_hasSameBounds [.inr (c, 3, 0), .inr (e, 3, 0)] σ (fun q σ' => σ' = σ ∧ ((q = some 1 ∧ ck_sb f g) ∨ (q = some 0 ∧ ¬ ck_sb f g))) := by
  refine ck_cal_of ?_
  refine ck_go_run 2 (X1 := (2, [some (.inr (c, 3, 0)), some (.inr (e, 3, 0)), some (.inl 0)], [], σ)) (ps := []) rfl trivial ?_
  refine ck_for 2 (fun v => [some (.inr (c, 3, 0)), some (.inr (e, 3, 0)), some (.inl v)]) 10 (fun v s => (0 ≤ v ∧ v ≤ 10) ∧ s = σ ∧ ∀ q, 0 ≤ q → q < v → ck_lo f q = ck_lo g q) (fun v s hv hI kk => ?_) (fun v s hv hI => ?_) 0 _ ⟨⟨by omega, by omega⟩, rfl, fun _ _ _ => by omega⟩
  · obtain ⟨⟨h0, hu⟩, hs, hI2⟩ := hI
    have e1 : s (c + 2) v = ck_lo f v := by rw [hs, ck_x_lo hf h0 hv]
    have e2 : s (e + 2) v = ck_lo g v := by rw [hs, ck_x_lo hg h0 hv]
    have b1 := hB.2.1 v
    have b2 := hG.2.1 v
    refine ck_go_run 3 (X1 := (if v < 10 then 8 else 31, [some (.inr (c, 3, 0)), some (.inr (e, 3, 0)), some (.inl v)], [], s)) (ps := [ck_rg v, ck_rg 10]) rfl ⟨(ck_rgo (by omega) (by omega)), (ck_rgo (by omega) (by omega)), trivial⟩ ?_
    refine ck_go_t hv ?_
    refine ck_go_run 9 (X1 := (if s (c + 2) v = s (e + 2) v then 25 else 23, [some (.inr (c, 3, 0)), some (.inr (e, 3, 0)), some (.inl v)], [], s)) (ps := [0 ≤ v ∧ v < ((10 : Nat) : Int), 0 ≤ v ∧ v < ((10 : Nat) : Int), ck_rg (s (c + 2) v), ck_rg (s (e + 2) v)]) rfl ⟨⟨by omega, by omega⟩, ⟨by omega, by omega⟩, (ck_rgo (by omega) (by omega)), (ck_rgo (by omega) (by omega)), trivial⟩ ?_
    refine ck_go_ite (fun h1 => ?_) (fun h1 => ?_)
    · refine ck_go_run 2 (X1 := (2, [some (.inr (c, 3, 0)), some (.inr (e, 3, 0)), some (.inl (v + 1))], [], s)) (ps := []) rfl trivial ?_
      exact kk _ ⟨⟨by omega, by omega⟩, hs, fun q z0 z1 => by
        by_cases hq : q = v
        · subst hq
          rw [← e1, ← e2]
          assumption
        · exact hI2 q z0 (by omega)⟩
    · refine ck_go_run 1 (X1 := (24, [some (.inr (c, 3, 0)), some (.inr (e, 3, 0)), some (.inl v)], [.inl 0], s)) (ps := []) rfl trivial ?_
      exact ck_eZ (Or.inl rfl) ⟨hs, Or.inr ⟨rfl, fun z => h1 (by rw [e1, e2]; exact z.1 v h0 hv)⟩⟩ rfl rfl rfl
  · obtain ⟨⟨h0, hu⟩, hs, hI2⟩ := hI
    refine ck_go_run 3 (X1 := (if v < 10 then 8 else 31, [some (.inr (c, 3, 0)), some (.inr (e, 3, 0)), some (.inl v)], [], s)) (ps := [ck_rg v, ck_rg 10]) rfl ⟨(ck_rgo (by omega) (by omega)), (ck_rgo (by omega) (by omega)), trivial⟩ ?_
    refine ck_go_f (by omega) ?_
    refine ck_go_run 2 (X1 := (33, [some (.inr (c, 3, 0)), some (.inr (e, 3, 0)), some (.inl 0)], [], s)) (ps := []) rfl trivial ?_
    refine ck_for 33 (fun v2 => [some (.inr (c, 3, 0)), some (.inr (e, 3, 0)), some (.inl v2)]) (((40 : Nat) : Int)) (fun v2 t => (0 ≤ v2 ∧ v2 ≤ ((40 : Nat) : Int)) ∧ t = σ ∧ ∀ q, 0 ≤ q → q < v2 → ck_hi f (q / 4) (q % 4) = ck_hi g (q / 4) (q % 4)) (fun v2 t hv hI kk => ?_) (fun v2 t hv hI => ?_) 0 _ ⟨⟨by omega, by omega⟩, hs, fun _ _ _ => by omega⟩
    · obtain ⟨⟨k0, hu⟩, ks, kI2⟩ := hI
      have e1 : t (c + 3) v2 = ck_hi f (v2 / 4) (v2 % 4) := by rw [ks, ck_x_hr hf k0 (by omega)]
      have e2 : t (e + 3) v2 = ck_hi g (v2 / 4) (v2 % 4) := by rw [ks, ck_x_hr hg k0 (by omega)]
      have b1 := hB.2.2.1 (v2 / 4) (v2 % 4)
      have b2 := hG.2.2.1 (v2 / 4) (v2 % 4)
      refine ck_go_run 5 (X1 := (if v2 < ((40 : Nat) : Int) then 42 else 65, [some (.inr (c, 3, 0)), some (.inr (e, 3, 0)), some (.inl v2)], [], t)) (ps := [ck_rg v2, ck_rg (((40 : Nat) : Int))]) rfl ⟨(ck_rgo (by omega) (by omega)), (ck_rgo (by omega) (by omega)), trivial⟩ ?_
      refine ck_go_t hv ?_
      refine ck_go_run 9 (X1 := (if t (c + 3) v2 = t (e + 3) v2 then 59 else 57, [some (.inr (c, 3, 0)), some (.inr (e, 3, 0)), some (.inl v2)], [], t)) (ps := [0 ≤ v2 ∧ v2 < ((40 : Nat) : Int), 0 ≤ v2 ∧ v2 < ((40 : Nat) : Int), ck_rg (t (c + 3) v2), ck_rg (t (e + 3) v2)]) rfl ⟨⟨by omega, by omega⟩, ⟨by omega, by omega⟩, (ck_rgo (by omega) (by omega)), (ck_rgo (by omega) (by omega)), trivial⟩ ?_
      refine ck_go_ite (fun h2 => ?_) (fun h2 => ?_)
      · refine ck_go_run 2 (X1 := (33, [some (.inr (c, 3, 0)), some (.inr (e, 3, 0)), some (.inl (v2 + 1))], [], t)) (ps := []) rfl trivial ?_
        exact kk _ ⟨⟨by omega, by omega⟩, ks, fun q z0 z1 => by
          by_cases hq : q = v2
          · subst hq
            rw [← e1, ← e2]
            assumption
          · exact kI2 q z0 (by omega)⟩
      · refine ck_go_run 1 (X1 := (58, [some (.inr (c, 3, 0)), some (.inr (e, 3, 0)), some (.inl v2)], [.inl 0], t)) (ps := []) rfl trivial ?_
        exact ck_eZ (Or.inl rfl) ⟨ks, Or.inr ⟨rfl, fun z => h2 (by rw [e1, e2]; exact z.2.1 _ _ (by omega) (by omega) (by omega) (by omega))⟩⟩ rfl rfl rfl
    · obtain ⟨⟨k0, hu⟩, ks, kI2⟩ := hI
      refine ck_go_run 5 (X1 := (if v2 < ((40 : Nat) : Int) then 42 else 65, [some (.inr (c, 3, 0)), some (.inr (e, 3, 0)), some (.inl v2)], [], t)) (ps := [ck_rg v2, ck_rg (((40 : Nat) : Int))]) rfl ⟨(ck_rgo (by omega) (by omega)), (ck_rgo (by omega) (by omega)), trivial⟩ ?_
      refine ck_go_f (by omega) ?_
      refine ck_go_run 2 (X1 := (67, [some (.inr (c, 3, 0)), some (.inr (e, 3, 0)), some (.inl 0)], [], t)) (ps := []) rfl trivial ?_
      refine ck_for 67 (fun v3 => [some (.inr (c, 3, 0)), some (.inr (e, 3, 0)), some (.inl v3)]) 4 (fun v3 w => (0 ≤ v3 ∧ v3 ≤ 4) ∧ w = σ ∧ ∀ q, 0 ≤ q → q < v3 → ck_th f q = ck_th g q) (fun v3 w hv hI kk => ?_) (fun v3 w hv hI => ?_) 0 _ ⟨⟨by omega, by omega⟩, ks, fun _ _ _ => by omega⟩
      · obtain ⟨⟨m0, hu⟩, mss, mI2⟩ := hI
        have e1 : w (c + 6) v3 = ck_th f v3 := by rw [mss, ck_x_th hf m0 hv]
        have e2 : w (e + 6) v3 = ck_th g v3 := by rw [mss, ck_x_th hg m0 hv]
        have b1 := hB.2.2.2.2.2 v3
        have b2 := hG.2.2.2.2.2 v3
        refine ck_go_run 3 (X1 := (if v3 < 4 then 72 else 95, [some (.inr (c, 3, 0)), some (.inr (e, 3, 0)), some (.inl v3)], [], w)) (ps := [ck_rg v3, ck_rg 4]) rfl ⟨(ck_rgo (by omega) (by omega)), (ck_rgo (by omega) (by omega)), trivial⟩ ?_
        refine ck_go_t hv ?_
        refine ck_go_run 9 (X1 := (if w (c + 6) v3 = w (e + 6) v3 then 89 else 87, [some (.inr (c, 3, 0)), some (.inr (e, 3, 0)), some (.inl v3)], [], w)) (ps := [0 ≤ v3 ∧ v3 < ((4 : Nat) : Int), 0 ≤ v3 ∧ v3 < ((4 : Nat) : Int), ck_rg (w (c + 6) v3), ck_rg (w (e + 6) v3)]) rfl ⟨⟨by omega, by omega⟩, ⟨by omega, by omega⟩, (ck_rgo (by omega) (by omega)), (ck_rgo (by omega) (by omega)), trivial⟩ ?_
        refine ck_go_ite (fun h3 => ?_) (fun h3 => ?_)
        · refine ck_go_run 2 (X1 := (67, [some (.inr (c, 3, 0)), some (.inr (e, 3, 0)), some (.inl (v3 + 1))], [], w)) (ps := []) rfl trivial ?_
          exact kk _ ⟨⟨by omega, by omega⟩, mss, fun q z0 z1 => by
            by_cases hq : q = v3
            · subst hq
              rw [← e1, ← e2]
              assumption
            · exact mI2 q z0 (by omega)⟩
        · refine ck_go_run 1 (X1 := (88, [some (.inr (c, 3, 0)), some (.inr (e, 3, 0)), some (.inl v3)], [.inl 0], w)) (ps := []) rfl trivial ?_
          exact ck_eZ (Or.inl rfl) ⟨mss, Or.inr ⟨rfl, fun z => h3 (by rw [e1, e2]; exact z.2.2 v3 m0 hv)⟩⟩ rfl rfl rfl
      · obtain ⟨⟨m0, hu⟩, mss, mI2⟩ := hI
        refine ck_go_run 3 (X1 := (if v3 < 4 then 72 else 95, [some (.inr (c, 3, 0)), some (.inr (e, 3, 0)), some (.inl v3)], [], w)) (ps := [ck_rg v3, ck_rg 4]) rfl ⟨(ck_rgo (by omega) (by omega)), (ck_rgo (by omega) (by omega)), trivial⟩ ?_
        refine ck_go_f (by omega) ?_
        refine ck_go_run 1 (X1 := (96, [some (.inr (c, 3, 0)), some (.inr (e, 3, 0)), some (.inl v3)], [.inl 1], w)) (ps := []) rfl trivial ?_
        exact ck_eZ (Or.inr rfl) ⟨mss, Or.inl ⟨rfl, fun n z0 z1 => hI2 n z0 (by omega), fun n r z0 z1 z2 z3 => by
          have h9 := kI2 (n * 4 + r) (by omega) (by omega)
          rw [show (n * 4 + r) / 4 = n by omega, show (n * 4 + r) % 4 = r by omega] at h9
          exact h9, fun r z0 z1 => mI2 r z0 (by omega)⟩⟩ rfl rfl rfl
end
section
def ck_ml (v : Int) : Int := if v < -200 then 1000000000 else v
def ck_mh (v : Int) : Int := if 200 < v then 1000000000 else v
def ck_mlm (v b : Int) : Int := if v = 1000000000 then 1000000000 else ck_ml (v + b)
def ck_mhm (v b : Int) : Int := if v = 1000000000 then 1000000000 else ck_mh (v + b)
def ck_gr (a b : Int) : Int := if a = 1000000000 then b else if b = 1000000000 then a else if b < a then a else b
def ck_lw (a b : Int) : Int := if a = 1000000000 then b else if b = 1000000000 then a else if a < b then a else b
def ck_in (v f t : Int) : Int := if f ≤ v ∧ v ≤ t then 1 else 0
theorem ck_rg_ml {v : Int} (h : ck_rg v) : ck_rg (ck_ml v) := by unfold ck_ml; split; exact ⟨by decide, by decide⟩; exact h
theorem ck_rg_mh {v : Int} (h : ck_rg v) : ck_rg (ck_mh v) := by unfold ck_mh; split; exact ⟨by decide, by decide⟩; exact h
theorem ck_in_01 {v f t : Int} : ck_in v f t = 0 ∨ ck_in v f t = 1 := by unfold ck_in; split; exact Or.inr rfl; exact Or.inl rfl
theorem ck_rg_in {v f t : Int} : ck_rg (ck_in v f t) := by rcases ck_in_01 (v := v) (f := f) (t := t) with h | h <;> rw [h] <;> exact ⟨by decide, by decide⟩
theorem ck_in_0 {v f t : Int} (h : ck_in v f t = 0) : ¬ (f ≤ v ∧ v ≤ t) := by
  intro q
  unfold ck_in at h
  rw [if_pos q] at h
  cases h
theorem ck_in_1 {v f t : Int} (h : ¬ ck_in v f t = 0) : f ≤ v ∧ v ≤ t := by
  by_cases q : f ≤ v ∧ v ≤ t
  · exact q
  · unfold ck_in at h
    rw [if_neg q] at h
    exact absurd rfl h
theorem cx_leastOf {v : Int} (hv : -2000000000 ≤ v ∧ v ≤ 2000000000) (σ : ck_M) : ck_cal 1 cm_Mo_leastOf [.inl v] σ (fun r σ' => r = some (ck_ml v) ∧ σ' = σ) := by
  refine ck_cal_of ?_
  refine ck_go_run 3 (X1 := (if v < (-200) then 7 else 12, [some (.inl v)], [], σ)) (ps := [ck_rg v, ck_rg ((-200))]) rfl ⟨(ck_rgo (by omega) (by omega)), (ck_rgo (by omega) (by omega)), trivial⟩ ?_
  refine ck_go_ite (fun h1 => ?_) (fun h1 => ?_)
  · refine ck_go_run 2 (X1 := (13, [some (.inl v)], [.inl 1000000000], σ)) (ps := []) rfl trivial ?_
    exact ck_eI ⟨by (try unfold ck_ml); (repeat' split) <;> first | rfl | omega, rfl⟩ rfl rfl rfl
  · refine ck_go_run 1 (X1 := (13, [some (.inl v)], [.inl v], σ)) (ps := []) rfl trivial ?_
    exact ck_eI ⟨by (try unfold ck_ml); (repeat' split) <;> first | rfl | omega, rfl⟩ rfl rfl rfl
theorem cx_high {v : Int} (hv : -2000000000 ≤ v ∧ v ≤ 2000000000) (σ : ck_M) : ck_cal 1 cm_Mo_high [.inl v] σ (fun r σ' => r = some (ck_mh v) ∧ σ' = σ) := by
  refine ck_cal_of ?_
  refine ck_go_run 3 (X1 := (if 200 < v then 7 else 12, [some (.inl v)], [], σ)) (ps := [ck_rg v, ck_rg 200]) rfl ⟨(ck_rgo (by omega) (by omega)), (ck_rgo (by omega) (by omega)), trivial⟩ ?_
  refine ck_go_ite (fun h1 => ?_) (fun h1 => ?_)
  · refine ck_go_run 2 (X1 := (13, [some (.inl v)], [.inl 1000000000], σ)) (ps := []) rfl trivial ?_
    exact ck_eI ⟨by (try unfold ck_mh); (repeat' split) <;> first | rfl | omega, rfl⟩ rfl rfl rfl
  · refine ck_go_run 1 (X1 := (13, [some (.inl v)], [.inl v], σ)) (ps := []) rfl trivial ?_
    exact ck_eI ⟨by (try unfold ck_mh); (repeat' split) <;> first | rfl | omega, rfl⟩ rfl rfl rfl
theorem cx_leastMore {v b : Int} (hv : -1000000000 ≤ v ∧ v ≤ 1000000000) (hb : -1000 ≤ b ∧ b ≤ 1000) (σ : ck_M) : ck_cal 2 cm_Mo_leastMore [.inl v, .inl b] σ (fun r σ' => r = some (ck_mlm v b) ∧ σ' = σ) := by
  refine ck_cal_of ?_
  refine ck_go_run 3 (X1 := (if v = 1000000000 then 6 else 11, [some (.inl v), some (.inl b)], [], σ)) (ps := [ck_rg v, ck_rg 1000000000]) rfl ⟨(ck_rgo (by omega) (by omega)), (ck_rgo (by omega) (by omega)), trivial⟩ ?_
  refine ck_go_ite (fun h1 => ?_) (fun h1 => ?_)
  · refine ck_go_run 2 (X1 := (17, [some (.inl v), some (.inl b)], [.inl 1000000000], σ)) (ps := []) rfl trivial ?_
    exact ck_eI ⟨by (try unfold ck_mlm); (repeat' split) <;> first | rfl | omega, rfl⟩ rfl rfl rfl
  · refine ck_go_run 3 (X1 := (14, [some (.inl v), some (.inl b)], [.inl (v + b)], σ)) (ps := []) rfl trivial ?_
    refine ck_go_cal (rest := []) (ck_cal_le (by decide) (cx_leastOf (v := v + b) (by omega) _)) ⟨_, rfl, Or.inr ⟨_, rfl⟩, rfl, rfl, rfl, Nat.le_of_ble_eq_true rfl, fun h => absurd h (by decide)⟩ ?_
    rintro _ s' ⟨rfl, e'⟩
    rw [e']
    clear e' s'
    exact ck_eI ⟨by (try unfold ck_mlm); (repeat' split) <;> first | rfl | omega, rfl⟩ rfl rfl rfl
theorem cx_highMore {v b : Int} (hv : -1000000000 ≤ v ∧ v ≤ 1000000000) (hb : -1000 ≤ b ∧ b ≤ 1000) (σ : ck_M) : ck_cal 2 cm_Mo_highMore [.inl v, .inl b] σ (fun r σ' => r = some (ck_mhm v b) ∧ σ' = σ) := by
  refine ck_cal_of ?_
  refine ck_go_run 3 (X1 := (if v = 1000000000 then 6 else 11, [some (.inl v), some (.inl b)], [], σ)) (ps := [ck_rg v, ck_rg 1000000000]) rfl ⟨(ck_rgo (by omega) (by omega)), (ck_rgo (by omega) (by omega)), trivial⟩ ?_
  refine ck_go_ite (fun h1 => ?_) (fun h1 => ?_)
  · refine ck_go_run 2 (X1 := (17, [some (.inl v), some (.inl b)], [.inl 1000000000], σ)) (ps := []) rfl trivial ?_
    exact ck_eI ⟨by (try unfold ck_mhm); (repeat' split) <;> first | rfl | omega, rfl⟩ rfl rfl rfl
  · refine ck_go_run 3 (X1 := (14, [some (.inl v), some (.inl b)], [.inl (v + b)], σ)) (ps := []) rfl trivial ?_
    refine ck_go_cal (rest := []) (ck_cal_le (by decide) (cx_high (v := v + b) (by omega) _)) ⟨_, rfl, Or.inr ⟨_, rfl⟩, rfl, rfl, rfl, Nat.le_of_ble_eq_true rfl, fun h => absurd h (by decide)⟩ ?_
    rintro _ s' ⟨rfl, e'⟩
    rw [e']
    clear e' s'
    exact ck_eI ⟨by (try unfold ck_mhm); (repeat' split) <;> first | rfl | omega, rfl⟩ rfl rfl rfl
theorem cx_greater {a b : Int} (ha : -2000000000 ≤ a ∧ a ≤ 2000000000) (hb : -2000000000 ≤ b ∧ b ≤ 2000000000) (σ : ck_M) : ck_cal 1 cm_Mo_greater [.inl a, .inl b] σ (fun r σ' => r = some (ck_gr a b) ∧ σ' = σ) := by
  refine ck_cal_of ?_
  refine ck_go_run 3 (X1 := (if a = 1000000000 then 6 else 10, [some (.inl a), some (.inl b)], [], σ)) (ps := [ck_rg a, ck_rg 1000000000]) rfl ⟨(ck_rgo (by omega) (by omega)), (ck_rgo (by omega) (by omega)), trivial⟩ ?_
  refine ck_go_ite (fun h1 => ?_) (fun h1 => ?_)
  · refine ck_go_run 2 (X1 := (26, [some (.inl a), some (.inl b)], [.inl b], σ)) (ps := []) rfl trivial ?_
    exact ck_eI ⟨by (try unfold ck_gr); (repeat' split) <;> first | rfl | omega, rfl⟩ rfl rfl rfl
  · refine ck_go_run 3 (X1 := (if b = 1000000000 then 21 else 16, [some (.inl a), some (.inl b)], [], σ)) (ps := [ck_rg b, ck_rg 1000000000]) rfl ⟨(ck_rgo (by omega) (by omega)), (ck_rgo (by omega) (by omega)), trivial⟩ ?_
    refine ck_go_ite (fun h2 => ?_) (fun h2 => ?_)
    · refine ck_go_run 2 (X1 := (26, [some (.inl a), some (.inl b)], [.inl a], σ)) (ps := []) rfl trivial ?_
      exact ck_eI ⟨by (try unfold ck_gr); (repeat' split) <;> first | rfl | omega, rfl⟩ rfl rfl rfl
    · refine ck_go_run 3 (X1 := (if b < a then 21 else 25, [some (.inl a), some (.inl b)], [], σ)) (ps := [ck_rg a, ck_rg b]) rfl ⟨(ck_rgo (by omega) (by omega)), (ck_rgo (by omega) (by omega)), trivial⟩ ?_
      refine ck_go_ite (fun h3 => ?_) (fun h3 => ?_)
      · refine ck_go_run 2 (X1 := (26, [some (.inl a), some (.inl b)], [.inl a], σ)) (ps := []) rfl trivial ?_
        exact ck_eI ⟨by (try unfold ck_gr); (repeat' split) <;> first | rfl | omega, rfl⟩ rfl rfl rfl
      · refine ck_go_run 1 (X1 := (26, [some (.inl a), some (.inl b)], [.inl b], σ)) (ps := []) rfl trivial ?_
        exact ck_eI ⟨by (try unfold ck_gr); (repeat' split) <;> first | rfl | omega, rfl⟩ rfl rfl rfl
theorem cx_lower {a b : Int} (ha : -2000000000 ≤ a ∧ a ≤ 2000000000) (hb : -2000000000 ≤ b ∧ b ≤ 2000000000) (σ : ck_M) : ck_cal 1 cm_Mo_lower [.inl a, .inl b] σ (fun r σ' => r = some (ck_lw a b) ∧ σ' = σ) := by
  refine ck_cal_of ?_
  refine ck_go_run 3 (X1 := (if a = 1000000000 then 6 else 10, [some (.inl a), some (.inl b)], [], σ)) (ps := [ck_rg a, ck_rg 1000000000]) rfl ⟨(ck_rgo (by omega) (by omega)), (ck_rgo (by omega) (by omega)), trivial⟩ ?_
  refine ck_go_ite (fun h1 => ?_) (fun h1 => ?_)
  · refine ck_go_run 2 (X1 := (26, [some (.inl a), some (.inl b)], [.inl b], σ)) (ps := []) rfl trivial ?_
    exact ck_eI ⟨by (try unfold ck_lw); (repeat' split) <;> first | rfl | omega, rfl⟩ rfl rfl rfl
  · refine ck_go_run 3 (X1 := (if b = 1000000000 then 21 else 16, [some (.inl a), some (.inl b)], [], σ)) (ps := [ck_rg b, ck_rg 1000000000]) rfl ⟨(ck_rgo (by omega) (by omega)), (ck_rgo (by omega) (by omega)), trivial⟩ ?_
    refine ck_go_ite (fun h2 => ?_) (fun h2 => ?_)
    · refine ck_go_run 2 (X1 := (26, [some (.inl a), some (.inl b)], [.inl a], σ)) (ps := []) rfl trivial ?_
      exact ck_eI ⟨by (try unfold ck_lw); (repeat' split) <;> first | rfl | omega, rfl⟩ rfl rfl rfl
    · refine ck_go_run 3 (X1 := (if a < b then 21 else 25, [some (.inl a), some (.inl b)], [], σ)) (ps := [ck_rg a, ck_rg b]) rfl ⟨(ck_rgo (by omega) (by omega)), (ck_rgo (by omega) (by omega)), trivial⟩ ?_
      refine ck_go_ite (fun h3 => ?_) (fun h3 => ?_)
      · refine ck_go_run 2 (X1 := (26, [some (.inl a), some (.inl b)], [.inl a], σ)) (ps := []) rfl trivial ?_
        exact ck_eI ⟨by (try unfold ck_lw); (repeat' split) <;> first | rfl | omega, rfl⟩ rfl rfl rfl
      · refine ck_go_run 1 (X1 := (26, [some (.inl a), some (.inl b)], [.inl b], σ)) (ps := []) rfl trivial ?_
        exact ck_eI ⟨by (try unfold ck_lw); (repeat' split) <;> first | rfl | omega, rfl⟩ rfl rfl rfl
theorem cx_in {v f t : Int} (hv : ck_rg v) (hf : ck_rg f) (ht : ck_rg t) (σ : ck_M) : ck_cal 1 cm_Mo_in [.inl v, .inl f, .inl t] σ (fun r σ' => r = some (ck_in v f t) ∧ σ' = σ) := by
  refine ck_cal_of ?_
  obtain ⟨v1, v2⟩ := id hv
  obtain ⟨f1, f2⟩ := id hf
  obtain ⟨t1, t2⟩ := id ht
  refine ck_go_run 3 (X1 := (if v < f then 14 else 5, [some (.inl v), some (.inl f), some (.inl t)], [], σ)) (ps := [ck_rg v, ck_rg f]) rfl ⟨(ck_rgo (by omega) (by omega)), (ck_rgo (by omega) (by omega)), trivial⟩ ?_
  refine ck_go_ite (fun h1 => ?_) (fun h1 => ?_)
  · refine ck_go_run 1 (X1 := (15, [some (.inl v), some (.inl f), some (.inl t)], [.inl 0], σ)) (ps := []) rfl trivial ?_
    exact ck_eZ (Or.inl rfl) ⟨by unfold ck_in; (repeat' split) <;> first | rfl | omega, rfl⟩ rfl rfl rfl
  · refine ck_go_run 3 (X1 := (if t < v then 14 else 10, [some (.inl v), some (.inl f), some (.inl t)], [], σ)) (ps := [ck_rg v, ck_rg t]) rfl ⟨(ck_rgo (by omega) (by omega)), (ck_rgo (by omega) (by omega)), trivial⟩ ?_
    refine ck_go_ite (fun h2 => ?_) (fun h2 => ?_)
    · refine ck_go_run 1 (X1 := (15, [some (.inl v), some (.inl f), some (.inl t)], [.inl 0], σ)) (ps := []) rfl trivial ?_
      exact ck_eZ (Or.inl rfl) ⟨by unfold ck_in; (repeat' split) <;> first | rfl | omega, rfl⟩ rfl rfl rfl
    · refine ck_go_run 2 (X1 := (15, [some (.inl v), some (.inl f), some (.inl t)], [.inl 1], σ)) (ps := []) rfl trivial ?_
      exact ck_eZ (Or.inr rfl) ⟨by unfold ck_in; (repeat' split) <;> first | rfl | omega, rfl⟩ rfl rfl rfl
def ck_wo (a b g : Int) : Int := if a = 1000000000 then 1000000000 else if b = 1000000000 then 1000000000 else if g = 0 then (if b < a then b else a) else (if b < a then a else b)
theorem cx_worst {a b g : Int} (ha : -2000000000 ≤ a ∧ a ≤ 2000000000) (hb : -2000000000 ≤ b ∧ b ≤ 2000000000) (hg : g = 0 ∨ g = 1) (σ : ck_M) : ck_cal 1 cm_Mo_worst [.inl a, .inl b, .inl g] σ (fun r σ' => r = some (ck_wo a b g) ∧ σ' = σ) := by
  refine ck_cal_of ?_
  refine ck_go_run 3 (X1 := (if a = 1000000000 then 12 else 6, [some (.inl a), some (.inl b), some (.inl g)], [], σ)) (ps := [ck_rg a, ck_rg 1000000000]) rfl ⟨(ck_rgo (by omega) (by omega)), (ck_rgo (by omega) (by omega)), trivial⟩ ?_
  refine ck_go_ite (fun h1 => ?_) (fun h1 => ?_)
  · refine ck_go_run 2 (X1 := (36, [some (.inl a), some (.inl b), some (.inl g)], [.inl 1000000000], σ)) (ps := []) rfl trivial ?_
    exact ck_eI ⟨by (try unfold ck_wo); (repeat' split) <;> first | rfl | omega, rfl⟩ rfl rfl rfl
  · refine ck_go_run 3 (X1 := (if b = 1000000000 then 12 else 17, [some (.inl a), some (.inl b), some (.inl g)], [], σ)) (ps := [ck_rg b, ck_rg 1000000000]) rfl ⟨(ck_rgo (by omega) (by omega)), (ck_rgo (by omega) (by omega)), trivial⟩ ?_
    refine ck_go_ite (fun h2 => ?_) (fun h2 => ?_)
    · refine ck_go_run 2 (X1 := (36, [some (.inl a), some (.inl b), some (.inl g)], [.inl 1000000000], σ)) (ps := []) rfl trivial ?_
      exact ck_eI ⟨by (try unfold ck_wo); (repeat' split) <;> first | rfl | omega, rfl⟩ rfl rfl rfl
    · refine ck_go_run 3 (X1 := (if b < a then 22 else 26, [some (.inl a), some (.inl b), some (.inl g)], [], σ)) (ps := [ck_rg a, ck_rg b]) rfl ⟨(ck_rgo (by omega) (by omega)), (ck_rgo (by omega) (by omega)), trivial⟩ ?_
      refine ck_go_ite (fun h3 => ?_) (fun h3 => ?_)
      · refine ck_go_run 4 (X1 := (if 1 = g then 31 else 35, [some (.inl a), some (.inl b), some (.inl g)], [], σ)) (ps := [ck_rg 1, ck_rg g]) rfl ⟨(ck_rgo (by omega) (by omega)), (ck_rgo (by omega) (by omega)), trivial⟩ ?_
        refine ck_go_ite (fun h4 => ?_) (fun h4 => ?_)
        · refine ck_go_run 2 (X1 := (36, [some (.inl a), some (.inl b), some (.inl g)], [.inl a], σ)) (ps := []) rfl trivial ?_
          exact ck_eI ⟨by (try unfold ck_wo); (repeat' split) <;> first | rfl | omega, rfl⟩ rfl rfl rfl
        · refine ck_go_run 1 (X1 := (36, [some (.inl a), some (.inl b), some (.inl g)], [.inl b], σ)) (ps := []) rfl trivial ?_
          exact ck_eI ⟨by (try unfold ck_wo); (repeat' split) <;> first | rfl | omega, rfl⟩ rfl rfl rfl
      · refine ck_go_run 3 (X1 := (if 0 = g then 31 else 35, [some (.inl a), some (.inl b), some (.inl g)], [], σ)) (ps := [ck_rg 0, ck_rg g]) rfl ⟨(ck_rgo (by omega) (by omega)), (ck_rgo (by omega) (by omega)), trivial⟩ ?_
        refine ck_go_ite (fun h5 => ?_) (fun h5 => ?_)
        · refine ck_go_run 2 (X1 := (36, [some (.inl a), some (.inl b), some (.inl g)], [.inl a], σ)) (ps := []) rfl trivial ?_
          exact ck_eI ⟨by (try unfold ck_wo); (repeat' split) <;> first | rfl | omega, rfl⟩ rfl rfl rfl
        · refine ck_go_run 1 (X1 := (36, [some (.inl a), some (.inl b), some (.inl g)], [.inl b], σ)) (ps := []) rfl trivial ?_
          exact ck_eI ⟨by (try unfold ck_wo); (repeat' split) <;> first | rfl | omega, rfl⟩ rfl rfl rfl
end
section
/-! ## A row of the reference: known, is, least, value, there, long, high -/
abbrev ck_Q : Type := (Int → Int) × (Int → Int) × (Int → Int) × (Int → Int) × (Int → Int) × (Int → Int) × (Int → Int → Int)
abbrev ck_K (f : ck_Q) : Int → Int := f.1
abbrev ck_I (f : ck_Q) : Int → Int := f.2.1
abbrev ck_L (f : ck_Q) : Int → Int := f.2.2.1
abbrev ck_V (f : ck_Q) : Int → Int := f.2.2.2.1
abbrev ck_T (f : ck_Q) : Int → Int := f.2.2.2.2.1
abbrev ck_G (f : ck_Q) : Int → Int := f.2.2.2.2.2.1
abbrev ck_H (f : ck_Q) : Int → Int → Int := f.2.2.2.2.2.2
def ck_P (k i l v t g : Int → Int) (h : Int → Int → Int) : ck_Q := (fun n => if 0 ≤ n ∧ n < 10 then k n else 0, fun n => if 0 ≤ n ∧ n < 10 then i n else 0, fun n => if 0 ≤ n ∧ n < 10 then l n else 0, fun r => if 0 ≤ r ∧ r < 4 then v r else 0, fun r => if 0 ≤ r ∧ r < 4 then t r else 0, fun r => if 0 ≤ r ∧ r < 4 then g r else 0, fun n r => if (0 ≤ n ∧ n < 10) ∧ 0 ≤ r ∧ r < 4 then h n r else 0)
theorem ck_P_ext {k i l v t g k' i' l' v' t' g' : Int → Int} {h h' : Int → Int → Int} (e1 : ∀ n, 0 ≤ n → n < 10 → k n = k' n) (e2 : ∀ n, 0 ≤ n → n < 10 → i n = i' n) (e3 : ∀ n, 0 ≤ n → n < 10 → l n = l' n) (e4 : ∀ r, 0 ≤ r → r < 4 → v r = v' r) (e5 : ∀ r, 0 ≤ r → r < 4 → t r = t' r) (e6 : ∀ r, 0 ≤ r → r < 4 → g r = g' r) (e7 : ∀ n r, 0 ≤ n → n < 10 → 0 ≤ r → r < 4 → h n r = h' n r) : ck_P k i l v t g h = ck_P k' i' l' v' t' g' h' := by
  unfold ck_P
  refine Prod.ext ?_ (Prod.ext ?_ (Prod.ext ?_ (Prod.ext ?_ (Prod.ext ?_ (Prod.ext ?_ ?_)))))
  · funext n
    by_cases hn : 0 ≤ n ∧ n < 10
    · simp only [if_pos hn]; exact e1 n hn.1 hn.2
    · simp only [if_neg hn]
  · funext n
    by_cases hn : 0 ≤ n ∧ n < 10
    · simp only [if_pos hn]; exact e2 n hn.1 hn.2
    · simp only [if_neg hn]
  · funext n
    by_cases hn : 0 ≤ n ∧ n < 10
    · simp only [if_pos hn]; exact e3 n hn.1 hn.2
    · simp only [if_neg hn]
  · funext r
    by_cases hn : 0 ≤ r ∧ r < 4
    · simp only [if_pos hn]; exact e4 r hn.1 hn.2
    · simp only [if_neg hn]
  · funext r
    by_cases hn : 0 ≤ r ∧ r < 4
    · simp only [if_pos hn]; exact e5 r hn.1 hn.2
    · simp only [if_neg hn]
  · funext r
    by_cases hn : 0 ≤ r ∧ r < 4
    · simp only [if_pos hn]; exact e6 r hn.1 hn.2
    · simp only [if_neg hn]
  · funext n r
    by_cases hn : (0 ≤ n ∧ n < 10) ∧ 0 ≤ r ∧ r < 4
    · simp only [if_pos hn]; exact e7 n r hn.1.1 hn.1.2 hn.2.1 hn.2.2
    · simp only [if_neg hn]
section CKP
variable {k i l v t g : Int → Int} {h : Int → Int → Int} {n r : Int}
theorem ck_P_K (h0 : 0 ≤ n) (h1 : n < 10) : ck_K (ck_P k i l v t g h) n = k n := if_pos ⟨h0, h1⟩
theorem ck_P_I (h0 : 0 ≤ n) (h1 : n < 10) : ck_I (ck_P k i l v t g h) n = i n := if_pos ⟨h0, h1⟩
theorem ck_P_L (h0 : 0 ≤ n) (h1 : n < 10) : ck_L (ck_P k i l v t g h) n = l n := if_pos ⟨h0, h1⟩
theorem ck_P_V (h0 : 0 ≤ r) (h1 : r < 4) : ck_V (ck_P k i l v t g h) r = v r := if_pos ⟨h0, h1⟩
theorem ck_P_T (h0 : 0 ≤ r) (h1 : r < 4) : ck_T (ck_P k i l v t g h) r = t r := if_pos ⟨h0, h1⟩
theorem ck_P_G (h0 : 0 ≤ r) (h1 : r < 4) : ck_G (ck_P k i l v t g h) r = g r := if_pos ⟨h0, h1⟩
theorem ck_P_H (h0 : 0 ≤ n) (h1 : n < 10) (h2 : 0 ≤ r) (h3 : r < 4) : ck_H (ck_P k i l v t g h) n r = h n r := if_pos ⟨⟨h0, h1⟩, h2, h3⟩
end CKP
/-- the row that 82 places hold -/
def ck_mv (w : Int → Int) : ck_Q := ck_P (fun n => w (0 + n)) (fun n => w (10 + n)) (fun n => w (20 + n)) (fun r => w (30 + r)) (fun r => w (34 + r)) (fun r => w (38 + r)) (fun n r => w (42 + 4 * n + r))
section CKY
variable {w : Int → Int} {f : ck_Q} {n r : Int}
theorem ck_y_K (h : ck_mv w = f) (h0 : 0 ≤ n) (h1 : n < 10) : w (0 + n) = ck_K f n := by rw [← h]; unfold ck_mv; rw [ck_P_K h0 h1]
theorem ck_y_I (h : ck_mv w = f) (h0 : 0 ≤ n) (h1 : n < 10) : w (10 + n) = ck_I f n := by rw [← h]; unfold ck_mv; rw [ck_P_I h0 h1]
theorem ck_y_L (h : ck_mv w = f) (h0 : 0 ≤ n) (h1 : n < 10) : w (20 + n) = ck_L f n := by rw [← h]; unfold ck_mv; rw [ck_P_L h0 h1]
theorem ck_y_V (h : ck_mv w = f) (h0 : 0 ≤ r) (h1 : r < 4) : w (30 + r) = ck_V f r := by rw [← h]; unfold ck_mv; rw [ck_P_V h0 h1]
theorem ck_y_T (h : ck_mv w = f) (h0 : 0 ≤ r) (h1 : r < 4) : w (34 + r) = ck_T f r := by rw [← h]; unfold ck_mv; rw [ck_P_T h0 h1]
theorem ck_y_G (h : ck_mv w = f) (h0 : 0 ≤ r) (h1 : r < 4) : w (38 + r) = ck_G f r := by rw [← h]; unfold ck_mv; rw [ck_P_G h0 h1]
theorem ck_y_H (h : ck_mv w = f) (h0 : 0 ≤ n) (h1 : n < 10) (h2 : 0 ≤ r) (h3 : r < 4) : w (42 + 4 * n + r) = ck_H f n r := by rw [← h]; unfold ck_mv; rw [ck_P_H h0 h1 h2 h3]
end CKY
/-- nothing but the cell a has changed -/
def ck_f1 (σ σ' : ck_M) (a : Int) : Prop := ∀ b j, b ≠ a → σ' b j = σ b j
theorem ck_f1_tr {a b d : ck_M} {c : Int} (h : ck_f1 a b c) (h2 : ck_f1 b d c) : ck_f1 a d c := fun x j hx => (h2 x j hx).trans (h x j hx)
def ck_qb (f : ck_Q) : Prop := (∀ n, -1000000000 ≤ ck_K f n ∧ ck_K f n ≤ 1000000000) ∧ (∀ n, -1000000000 ≤ ck_I f n ∧ ck_I f n ≤ 1000000000) ∧ (∀ n, -1000000000 ≤ ck_L f n ∧ ck_L f n ≤ 1000000000) ∧ (∀ r, -1000000000 ≤ ck_V f r ∧ ck_V f r ≤ 1000000000) ∧ (∀ r, -1000000000 ≤ ck_T f r ∧ ck_T f r ≤ 1000000000) ∧ (∀ r, -1000000000 ≤ ck_G f r ∧ ck_G f r ≤ 1000000000) ∧ ∀ n r, -1000000000 ≤ ck_H f n r ∧ ck_H f n r ≤ 1000000000
theorem ck_su1 {s M : ck_M} {a base v x : Int} {g : Int → Int} (hI1 : ∀ b j, (b ≠ a ∨ j < base ∨ base + v ≤ j) → s b j = M b j) (hI2 : ∀ q, 0 ≤ q → q < v → s a (base + q) = g q) (hx : x = g v) (hv : 0 ≤ v) : (∀ b j, (b ≠ a ∨ j < base ∨ base + (v + 1) ≤ j) → ck_up s a (base + v) x b j = M b j) ∧ ∀ q, 0 ≤ q → q < v + 1 → ck_up s a (base + v) x a (base + q) = g q := ck_st1 hI1 hI2 hx hv
theorem ck_su4 {s M : ck_M} {a r v x : Int} {g : Int → Int} (hI1 : ∀ b j, (b ≠ a ∨ j < 42 + r ∨ 42 + 4 * v + r ≤ j ∨ (j - 42 - r) % 4 ≠ 0) → s b j = M b j) (hI2 : ∀ q, 0 ≤ q → q < v → s a (42 + 4 * q + r) = g q) (hx : x = g v) (hv : 0 ≤ v) : (∀ b j, (b ≠ a ∨ j < 42 + r ∨ 42 + 4 * (v + 1) + r ≤ j ∨ (j - 42 - r) % 4 ≠ 0) → ck_up s a (42 + 4 * v + r) x b j = M b j) ∧ ∀ q, 0 ≤ q → q < v + 1 → ck_up s a (42 + 4 * v + r) x a (42 + 4 * q + r) = g q := by
  refine ⟨fun b j h => ?_, fun q h0 h1 => ?_⟩
  · unfold ck_up
    rw [if_neg (by omega)]
    exact hI1 b j (by omega)
  · unfold ck_up
    by_cases hq : q = v
    · subst hq
      rw [if_pos ⟨rfl, rfl⟩, hx]
    · rw [if_neg (by omega)]
      exact hI2 q h0 (by omega)
def ck_qAny (x : Int) (f : ck_Q) : ck_Q := ck_P (fun n => if n = x then 0 else ck_K f n) (ck_I f) (fun n => if n = x then 1000000000 else ck_L f n) (ck_V f) (ck_T f) (ck_G f) (fun n q => if n = x then 1000000000 else ck_H f n q)
theorem cx_forget {x : Int} (hx : 0 ≤ x ∧ x < 10) {σ : ck_M} {f : ck_Q} (hf : ck_mv (σ 490) = f) : ck_cal 1 cm_Mo_forget [.inr (480, 3, 6), .inl x] σ (fun q σ' => q = none ∧ ck_f1 σ σ' 490 ∧ ck_mv (σ' 490) = ck_qAny x f) := by
  refine ck_cal_of ?_
  refine ck_go_run 16 (X1 := (22, [some (.inr (480, 3, 6)), some (.inl x), some (.inl 0)], [], ck_up (ck_up σ 490 (0 + x) 0) 490 (20 + x) 1000000000)) (ps := [0 ≤ 0 + x ∧ 0 + x < ((82 : Nat) : Int), 0 ≤ 20 + x ∧ 20 + x < ((82 : Nat) : Int)]) rfl ⟨⟨by omega, by omega⟩, ⟨by omega, by omega⟩, trivial⟩ ?_
  refine ck_for 22 (fun v => [some (.inr (480, 3, 6)), some (.inl x), some (.inl v)]) 4 (fun v s => 0 ≤ v ∧ v ≤ 4 ∧ (∀ b j, (b ≠ 490 ∨ j < 42 + 4 * x ∨ 42 + 4 * x + v ≤ j) → s b j = (ck_up (ck_up σ 490 (0 + x) 0) 490 (20 + x) 1000000000) b j) ∧ ∀ q, 0 ≤ q → q < v → s 490 (42 + 4 * x + q) = 1000000000) (fun v s hv hI kk => ?_) (fun v s hv hI => ?_) 0 _ ⟨by omega, by omega, fun _ _ _ => rfl, fun _ _ _ => by omega⟩
  · obtain ⟨h0, h4, hI1, hI2⟩ := hI
    refine ck_go_run 3 (X1 := (if v < 4 then 27 else 48, [some (.inr (480, 3, 6)), some (.inl x), some (.inl v)], [], s)) (ps := [ck_rg v, ck_rg 4]) rfl ⟨(ck_rgo (by omega) (by omega)), (ck_rgo (by omega) (by omega)), trivial⟩ ?_
    refine ck_go_t hv ?_
    refine ck_go_run 13 (X1 := (22, [some (.inr (480, 3, 6)), some (.inl x), some (.inl (v + 1))], [], ck_up s 490 ((42 + (4 * x)) + v) 1000000000)) (ps := [0 ≤ (42 + (4 * x)) + v ∧ (42 + (4 * x)) + v < ((82 : Nat) : Int)]) rfl ⟨⟨by omega, by omega⟩, trivial⟩ ?_
    exact kk _ ⟨by omega, by omega, ck_st1 (base := 42 + 4 * x) (g := fun q => 1000000000) hI1 hI2 rfl h0⟩
  · obtain ⟨h0, h4, hI1, hI2⟩ := hI
    refine ck_go_run 3 (X1 := (if v < 4 then 27 else 48, [some (.inr (480, 3, 6)), some (.inl x), some (.inl v)], [], s)) (ps := [ck_rg v, ck_rg 4]) rfl ⟨(ck_rgo (by omega) (by omega)), (ck_rgo (by omega) (by omega)), trivial⟩ ?_
    refine ck_go_f (by omega) ?_
    refine ck_eV ⟨rfl, ?_, ?_⟩ rfl rfl rfl
    · intro b j hb
      rw [hI1 b j (by omega)]
      simp only [ck_up]
      (repeat' split) <;> first | rfl | omega
    · unfold ck_qAny
      refine ck_P_ext (fun n a0 a1 => ?_) (fun n a0 a1 => ?_) (fun n a0 a1 => ?_) (fun q b0 b1 => ?_) (fun q b0 b1 => ?_) (fun q b0 b1 => ?_) (fun n q a0 a1 b0 b1 => ?_)
      · rw [← ck_y_K hf a0 a1, hI1 490 (0 + n) (by omega)]
        simp only [ck_up, true_and]
        (repeat' split) <;> first | rfl | omega
      · rw [← ck_y_I hf a0 a1, hI1 490 (10 + n) (by omega)]
        simp only [ck_up, true_and]
        (repeat' split) <;> first | rfl | omega
      · rw [← ck_y_L hf a0 a1, hI1 490 (20 + n) (by omega)]
        simp only [ck_up, true_and]
        (repeat' split) <;> first | rfl | omega
      · rw [← ck_y_V hf b0 b1, hI1 490 (30 + q) (by omega)]
        simp only [ck_up, true_and]
        (repeat' split) <;> first | rfl | omega
      · rw [← ck_y_T hf b0 b1, hI1 490 (34 + q) (by omega)]
        simp only [ck_up, true_and]
        (repeat' split) <;> first | rfl | omega
      · rw [← ck_y_G hf b0 b1, hI1 490 (38 + q) (by omega)]
        simp only [ck_up, true_and]
        (repeat' split) <;> first | rfl | omega
      · by_cases hn : n = x
        · subst hn
          rw [if_pos rfl, hI2 q b0 (by omega)]
        · rw [if_neg hn, ← ck_y_H hf a0 a1 b0 b1, hI1 490 (42 + 4 * n + q) (by omega)]
          simp only [ck_up]
          (repeat' split) <;> first | rfl | omega
def ck_ag (A B v : Int) : Int := if A = 0 then 1000000000 else ck_mh (if B = 1000000000 then v else v - B)
theorem cx_against {k r : Int} (hr : 0 ≤ r ∧ r < 4) (hk : -1000000000 ≤ k ∧ k ≤ 1000000000) {σ : ck_M} (h1 : -1000000000 ≤ σ 490 (30 + r) ∧ σ 490 (30 + r) ≤ 1000000000) (h2 : -1000000000 ≤ σ 490 (38 + r) ∧ σ 490 (38 + r) ≤ 1000000000) : ck_cal 2 cm_Mo_against [.inr (480, 3, 6), .inl k, .inl r] σ (fun q σ' => q = some (ck_ag (σ 490 (30 + r)) (σ 490 (38 + r)) k) ∧ σ' = σ) := by
  refine ck_cal_of ?_
  refine ck_go_run 7 (X1 := (if σ 490 (30 + r) = 0 then 12 else 15, [some (.inr (480, 3, 6)), some (.inl k), some (.inl r)], [], σ)) (ps := [0 ≤ 30 + r ∧ 30 + r < ((82 : Nat) : Int), ck_rg (σ 490 (30 + r))]) rfl ⟨⟨by omega, by omega⟩, (ck_rgo (by omega) (by omega)), trivial⟩ ?_
  refine ck_go_ite (fun g1 => ?_) (fun g1 => ?_)
  · refine ck_go_run 1 (X1 := (14, [some (.inr (480, 3, 6)), some (.inl k), some (.inl r)], [.inl 1000000000], σ)) (ps := []) rfl trivial ?_
    exact ck_eI ⟨by unfold ck_ag; (repeat' split) <;> first | rfl | omega, rfl⟩ rfl rfl rfl
  · refine ck_go_run 8 (X1 := (if σ 490 (38 + r) = 1000000000 then 29 else 33, [some (.inr (480, 3, 6)), some (.inl k), some (.inl r)], [], σ)) (ps := [0 ≤ 38 + r ∧ 38 + r < ((82 : Nat) : Int), ck_rg (σ 490 (38 + r)), ck_rg 1000000000]) rfl ⟨⟨by omega, by omega⟩, (ck_rgo (by omega) (by omega)), (ck_rgo (by omega) (by omega)), trivial⟩ ?_
    refine ck_go_ite (fun g2 => ?_) (fun g2 => ?_)
    · refine ck_go_run 2 (X1 := (44, [some (.inr (480, 3, 6)), some (.inl k), some (.inl r)], [.inl k], σ)) (ps := []) rfl trivial ?_
      refine ck_go_cal (rest := []) (ck_cal_le (by decide) (cx_high (v := k) (by omega) _)) ⟨_, rfl, Or.inr ⟨_, rfl⟩, rfl, rfl, rfl, Nat.le_of_ble_eq_true rfl, fun h => absurd h (by decide)⟩ ?_
      rintro _ s' ⟨rfl, e'⟩
      rw [e']
      clear e' s'
      exact ck_eI ⟨by unfold ck_ag; (repeat' split) <;> first | rfl | omega, rfl⟩ rfl rfl rfl
    · refine ck_go_run 8 (X1 := (44, [some (.inr (480, 3, 6)), some (.inl k), some (.inl r)], [.inl (k - (σ 490 (38 + r)))], σ)) (ps := [0 ≤ 38 + r ∧ 38 + r < ((82 : Nat) : Int)]) rfl ⟨⟨by omega, by omega⟩, trivial⟩ ?_
      refine ck_go_cal (rest := []) (ck_cal_le (by decide) (cx_high (v := k - (σ 490 (38 + r))) (by omega) _)) ⟨_, rfl, Or.inr ⟨_, rfl⟩, rfl, rfl, rfl, Nat.le_of_ble_eq_true rfl, fun h => absurd h (by decide)⟩ ?_
      rintro _ s' ⟨rfl, e'⟩
      rw [e']
      clear e' s'
      exact ck_eI ⟨by unfold ck_ag; (repeat' split) <;> first | rfl | omega, rfl⟩ rfl rfl rfl
theorem cx_ag {k r A B : Int} (hr : 0 ≤ r ∧ r < 4) (hk : -1000000000 ≤ k ∧ k ≤ 1000000000) {σ : ck_M} (e1 : σ 490 (30 + r) = A) (e2 : σ 490 (38 + r) = B) (h1 : -1000000000 ≤ A ∧ A ≤ 1000000000) (h2 : -1000000000 ≤ B ∧ B ≤ 1000000000) : ck_cal 2 cm_Mo_against [.inr (480, 3, 6), .inl k, .inl r] σ (fun q σ' => q = some (ck_ag A B k) ∧ σ' = σ) := by
  subst e1 e2
  exact cx_against hr hk h1 h2
def ck_qNull (r : Int) (f : ck_Q) : ck_Q := ck_P (ck_K f) (ck_I f) (ck_L f) (fun q => if q = r then 0 else ck_V f q) (fun q => if q = r then 0 else ck_T f q) (fun q => if q = r then 1000000000 else ck_G f q) (fun n q => if q = r then 1000000000 else ck_H f n q)
theorem cx_nothing {r : Int} (hr : 0 ≤ r ∧ r < 4) {σ : ck_M} {f : ck_Q} (hf : ck_mv (σ 490) = f) : ck_cal 1 cm_Mo_nothing [.inr (480, 3, 6), .inl r] σ (fun q σ' => q = none ∧ ck_f1 σ σ' 490 ∧ ck_mv (σ' 490) = ck_qNull r f) := by
  refine ck_cal_of ?_
  refine ck_go_run 23 (X1 := (33, [some (.inr (480, 3, 6)), some (.inl r), some (.inl 0)], [], ck_up (ck_up (ck_up σ 490 (30 + r) 0) 490 (34 + r) 0) 490 (38 + r) 1000000000)) (ps := [0 ≤ 30 + r ∧ 30 + r < ((82 : Nat) : Int), 0 ≤ 34 + r ∧ 34 + r < ((82 : Nat) : Int), 0 ≤ 38 + r ∧ 38 + r < ((82 : Nat) : Int)]) rfl ⟨⟨by omega, by omega⟩, ⟨by omega, by omega⟩, ⟨by omega, by omega⟩, trivial⟩ ?_
  refine ck_for 33 (fun v => [some (.inr (480, 3, 6)), some (.inl r), some (.inl v)]) 10 (fun v s => 0 ≤ v ∧ v ≤ 10 ∧ (∀ b j, (b ≠ 490 ∨ j < 42 + r ∨ 42 + 4 * v + r ≤ j ∨ (j - 42 - r) % 4 ≠ 0) → s b j = (ck_up (ck_up (ck_up σ 490 (30 + r) 0) 490 (34 + r) 0) 490 (38 + r) 1000000000) b j) ∧ ∀ q, 0 ≤ q → q < v → s 490 (42 + 4 * q + r) = 1000000000) (fun v s hv hI kk => ?_) (fun v s hv hI => ?_) 0 _ ⟨by omega, by omega, fun _ _ _ => rfl, fun _ _ _ => by omega⟩
  · obtain ⟨h0, h4, hI1, hI2⟩ := hI
    refine ck_go_run 3 (X1 := (if v < 10 then 39 else 60, [some (.inr (480, 3, 6)), some (.inl r), some (.inl v)], [], s)) (ps := [ck_rg v, ck_rg 10]) rfl ⟨(ck_rgo (by omega) (by omega)), (ck_rgo (by omega) (by omega)), trivial⟩ ?_
    refine ck_go_t hv ?_
    refine ck_go_run 13 (X1 := (33, [some (.inr (480, 3, 6)), some (.inl r), some (.inl (v + 1))], [], ck_up s 490 ((42 + (4 * v)) + r) 1000000000)) (ps := [0 ≤ (42 + (4 * v)) + r ∧ (42 + (4 * v)) + r < ((82 : Nat) : Int)]) rfl ⟨⟨by omega, by omega⟩, trivial⟩ ?_
    exact kk _ ⟨by omega, by omega, ck_su4 (g := fun q => 1000000000) hI1 hI2 rfl h0⟩
  · obtain ⟨h0, h4, hI1, hI2⟩ := hI
    refine ck_go_run 3 (X1 := (if v < 10 then 39 else 60, [some (.inr (480, 3, 6)), some (.inl r), some (.inl v)], [], s)) (ps := [ck_rg v, ck_rg 10]) rfl ⟨(ck_rgo (by omega) (by omega)), (ck_rgo (by omega) (by omega)), trivial⟩ ?_
    refine ck_go_f (by omega) ?_
    refine ck_eV ⟨rfl, ?_, ?_⟩ rfl rfl rfl
    · intro b j hb
      rw [hI1 b j (by omega)]
      simp only [ck_up]
      (repeat' split) <;> first | rfl | omega
    · unfold ck_qNull
      refine ck_P_ext (fun n a0 a1 => ?_) (fun n a0 a1 => ?_) (fun n a0 a1 => ?_) (fun q b0 b1 => ?_) (fun q b0 b1 => ?_) (fun q b0 b1 => ?_) (fun n q a0 a1 b0 b1 => ?_)
      · rw [← ck_y_K hf a0 a1, hI1 490 (0 + n) (by omega)]
        simp only [ck_up, true_and]
        (repeat' split) <;> first | rfl | omega
      · rw [← ck_y_I hf a0 a1, hI1 490 (10 + n) (by omega)]
        simp only [ck_up, true_and]
        (repeat' split) <;> first | rfl | omega
      · rw [← ck_y_L hf a0 a1, hI1 490 (20 + n) (by omega)]
        simp only [ck_up, true_and]
        (repeat' split) <;> first | rfl | omega
      · rw [← ck_y_V hf b0 b1, hI1 490 (30 + q) (by omega)]
        simp only [ck_up, true_and]
        (repeat' split) <;> first | rfl | omega
      · rw [← ck_y_T hf b0 b1, hI1 490 (34 + q) (by omega)]
        simp only [ck_up, true_and]
        (repeat' split) <;> first | rfl | omega
      · rw [← ck_y_G hf b0 b1, hI1 490 (38 + q) (by omega)]
        simp only [ck_up, true_and]
        (repeat' split) <;> first | rfl | omega
      · by_cases hq : q = r
        · subst hq
          rw [if_pos rfl, hI2 n a0 (by omega)]
        · rw [if_neg hq, ← ck_y_H hf a0 a1 b0 b1, hI1 490 (42 + 4 * n + q) (by omega)]
          simp only [ck_up]
          (repeat' split) <;> first | rfl | omega
end
section
theorem cx_lm {v b V B : Int} (e : v = V) (e2 : b = B) (hv : -1000000000 ≤ V ∧ V ≤ 1000000000) (hb : -1000 ≤ B ∧ B ≤ 1000) (σ : ck_M) : ck_cal 2 cm_Mo_leastMore [.inl v, .inl b] σ (fun r σ' => r = some (ck_mlm V B) ∧ σ' = σ) := by subst e e2; exact cx_leastMore hv hb σ
theorem cx_hm {v b V B : Int} (e : v = V) (e2 : b = B) (hv : -1000000000 ≤ V ∧ V ≤ 1000000000) (hb : -1000 ≤ B ∧ B ≤ 1000) (σ : ck_M) : ck_cal 2 cm_Mo_highMore [.inl v, .inl b] σ (fun r σ' => r = some (ck_mhm V B) ∧ σ' = σ) := by subst e e2; exact cx_highMore hv hb σ
theorem cx_gr {a b A B : Int} (e : a = A) (e2 : b = B) (ha : -2000000000 ≤ A ∧ A ≤ 2000000000) (hb : -2000000000 ≤ B ∧ B ≤ 2000000000) (σ : ck_M) : ck_cal 1 cm_Mo_greater [.inl a, .inl b] σ (fun r σ' => r = some (ck_gr A B) ∧ σ' = σ) := by subst e e2; exact cx_greater ha hb σ
theorem cx_lw {a b A B : Int} (e : a = A) (e2 : b = B) (ha : -2000000000 ≤ A ∧ A ≤ 2000000000) (hb : -2000000000 ≤ B ∧ B ≤ 2000000000) (σ : ck_M) : ck_cal 1 cm_Mo_lower [.inl a, .inl b] σ (fun r σ' => r = some (ck_lw A B) ∧ σ' = σ) := by subst e e2; exact cx_lower ha hb σ
def ck_qMark (a : Int) (f : ck_Q) : ck_Q := ck_P (ck_K f) (ck_I f) (ck_L f) (ck_V f) (fun q => if ck_V f q = ck_V f a ∧ 0 < ck_V f q then 1 else ck_T f q) (ck_G f) (ck_H f)
theorem cx_found {a : Int} (ha : 0 ≤ a ∧ a < 4) {σ : ck_M} {f : ck_Q} (hf : ck_mv (σ 490) = f) (hB : ck_qb f) : ck_cal 1 cm_Mo_found [.inr (480, 3, 6), .inl a] σ (fun q σ' => q = none ∧ ck_f1 σ σ' 490 ∧ ck_mv (σ' 490) = ck_qMark a f) := by
  refine ck_cal_of ?_
  refine ck_go_run 2 (X1 := (2, [some (.inr (480, 3, 6)), some (.inl a), some (.inl 0)], [], σ)) (ps := []) rfl trivial ?_
  refine ck_for 2 (fun v => [some (.inr (480, 3, 6)), some (.inl a), some (.inl v)]) 4 (fun v s => 0 ≤ v ∧ v ≤ 4 ∧ (∀ b j, (b ≠ 490 ∨ j < 34 ∨ 34 + v ≤ j) → s b j = σ b j) ∧ ∀ q, 0 ≤ q → q < v → s 490 (34 + q) = (if ck_V f q = ck_V f a ∧ 0 < ck_V f q then 1 else ck_T f q)) (fun v s hv hI kk => ?_) (fun v s hv hI => ?_) 0 _ ⟨by omega, by omega, fun _ _ _ => rfl, fun _ _ _ => by omega⟩
  · obtain ⟨h0, h4, hI1, hI2⟩ := hI
    have e1 : s 490 (30 + v) = ck_V f v := by rw [hI1 _ _ (by omega), ck_y_V hf h0 hv]
    have e1a : s 490 (30 + a) = ck_V f a := by rw [hI1 _ _ (by omega), ck_y_V hf ha.1 ha.2]
    have b1 := hB.2.2.2.1 v
    have b1a := hB.2.2.2.1 a
    refine ck_go_run 3 (X1 := (if v < 4 then 7 else 56, [some (.inr (480, 3, 6)), some (.inl a), some (.inl v)], [], s)) (ps := [ck_rg v, ck_rg 4]) rfl ⟨(ck_rgo (by omega) (by omega)), (ck_rgo (by omega) (by omega)), trivial⟩ ?_
    refine ck_go_t hv ?_
    refine ck_go_run 13 (X1 := (if s 490 (30 + v) = s 490 (30 + a) then 28 else 50, [some (.inr (480, 3, 6)), some (.inl a), some (.inl v)], [], s)) (ps := [0 ≤ 30 + v ∧ 30 + v < ((82 : Nat) : Int), 0 ≤ 30 + a ∧ 30 + a < ((82 : Nat) : Int), ck_rg (s 490 (30 + v)), ck_rg (s 490 (30 + a))]) rfl ⟨⟨by omega, by omega⟩, ⟨by omega, by omega⟩, (ck_rgo (by omega) (by omega)), (ck_rgo (by omega) (by omega)), trivial⟩ ?_
    refine ck_go_ite (fun h1 => ?_) (fun h1 => ?_)
    · refine ck_go_run 7 (X1 := (if 0 < s 490 (30 + v) then 40 else 50, [some (.inr (480, 3, 6)), some (.inl a), some (.inl v)], [], s)) (ps := [0 ≤ 30 + v ∧ 30 + v < ((82 : Nat) : Int), ck_rg (s 490 (30 + v))]) rfl ⟨⟨by omega, by omega⟩, (ck_rgo (by omega) (by omega)), trivial⟩ ?_
      refine ck_go_ite (fun h2 => ?_) (fun h2 => ?_)
      · refine ck_go_run 9 (X1 := (2, [some (.inr (480, 3, 6)), some (.inl a), some (.inl (v + 1))], [], ck_up s 490 (34 + v) 1)) (ps := [0 ≤ 34 + v ∧ 34 + v < ((82 : Nat) : Int)]) rfl ⟨⟨by omega, by omega⟩, trivial⟩ ?_
        exact kk _ ⟨by omega, by omega, ck_st1 (base := 34) (g := fun q => (if ck_V f q = ck_V f a ∧ 0 < ck_V f q then 1 else ck_T f q)) hI1 hI2 (by rw [if_pos (by omega)]) h0⟩
      · refine ck_go_run 2 (X1 := (2, [some (.inr (480, 3, 6)), some (.inl a), some (.inl (v + 1))], [], s)) (ps := []) rfl trivial ?_
        exact kk _ ⟨by omega, by omega, ck_st1n (base := 34) (g := fun q => (if ck_V f q = ck_V f a ∧ 0 < ck_V f q then 1 else ck_T f q)) hI1 hI2 (by rw [if_neg (by omega), ck_y_T hf h0 hv]) h0⟩
    · refine ck_go_run 2 (X1 := (2, [some (.inr (480, 3, 6)), some (.inl a), some (.inl (v + 1))], [], s)) (ps := []) rfl trivial ?_
      exact kk _ ⟨by omega, by omega, ck_st1n (base := 34) (g := fun q => (if ck_V f q = ck_V f a ∧ 0 < ck_V f q then 1 else ck_T f q)) hI1 hI2 (by rw [if_neg (by omega), ck_y_T hf h0 hv]) h0⟩
  · obtain ⟨h0, h4, hI1, hI2⟩ := hI
    refine ck_go_run 3 (X1 := (if v < 4 then 7 else 56, [some (.inr (480, 3, 6)), some (.inl a), some (.inl v)], [], s)) (ps := [ck_rg v, ck_rg 4]) rfl ⟨(ck_rgo (by omega) (by omega)), (ck_rgo (by omega) (by omega)), trivial⟩ ?_
    refine ck_go_f (by omega) ?_
    refine ck_eV ⟨rfl, ?_, ?_⟩ rfl rfl rfl
    · intro b j hb
      rw [hI1 b j (by omega)]
    · unfold ck_qMark
      refine ck_P_ext (fun n a0 a1 => ?_) (fun n a0 a1 => ?_) (fun n a0 a1 => ?_) (fun q b0 b1 => ?_) (fun q b0 b1 => ?_) (fun q b0 b1 => ?_) (fun n q a0 a1 b0 b1 => ?_)
      · rw [hI1 490 (0 + n) (by omega), ck_y_K hf a0 a1]
      · rw [hI1 490 (10 + n) (by omega), ck_y_I hf a0 a1]
      · rw [hI1 490 (20 + n) (by omega), ck_y_L hf a0 a1]
      · rw [hI1 490 (30 + q) (by omega), ck_y_V hf b0 b1]
      · rw [hI2 q b0 (by omega)]
      · rw [hI1 490 (38 + q) (by omega), ck_y_G hf b0 b1]
      · rw [hI1 490 (42 + 4 * n + q) (by omega), ck_y_H hf a0 a1 b0 b1]
def ck_qUse (a m : Int) (f : ck_Q) : ck_Q := ck_P (ck_K f) (ck_I f) (fun n => if n = m then ck_gr (ck_L f m) 0 else ck_L f n) (ck_V f) (fun q => if ck_V f q = ck_V f a ∧ 0 < ck_V f q then 1 else ck_T f q) (ck_G f) (fun n q => if n = m then (if ck_V f q = ck_V f a ∧ 0 < ck_V f q then ck_lw (ck_H f m q) (-1) else ck_H f m q) else ck_H f n q)
theorem cx_indexed {a m : Int} (ha : 0 ≤ a ∧ a < 4) (hm : 0 ≤ m ∧ m < 10) {σ : ck_M} {f : ck_Q} (hf : ck_mv (σ 490) = f) (hB : ck_qb f) : ck_cal 2 cm_Mo_indexed [.inr (480, 3, 6), .inl a, .inl m] σ (fun q σ' => q = none ∧ ck_f1 σ σ' 490 ∧ ck_mv (σ' 490) = ck_qUse a m f) := by
  refine ck_cal_of ?_
  have bl := hB.2.2.1 m
  refine ck_go_run 2 (X1 := (2, [some (.inr (480, 3, 6)), some (.inl a), some (.inl m), none], [.inl a, .inr (480, 3, 6)], σ)) (ps := []) rfl trivial ?_
  refine ck_go_cal (rest := []) (ck_cal_le (by decide) (cx_found (a := a) ha hf hB)) ⟨_, rfl, Or.inl ⟨_, rfl⟩, rfl, rfl, rfl, Nat.le_of_ble_eq_true rfl, fun _ => ⟨_, _, rfl⟩⟩ ?_
  rintro _ s1 ⟨rfl, g1, r1⟩
  try dsimp only at g1 r1
  refine ck_go_run 12 (X1 := (23, [some (.inr (480, 3, 6)), some (.inl a), some (.inl m), none], [.inl 0, .inl (s1 490 (20 + m)), .inl (20 + m), .inr (490, 0, 82)], s1)) (ps := [0 ≤ 20 + m ∧ 20 + m < ((82 : Nat) : Int)]) rfl ⟨⟨by omega, by omega⟩, trivial⟩ ?_
  refine ck_go_cal (rest := [.inl (20 + m), .inr (490, 0, 82)]) (ck_cal_le (by decide) (cx_gr (A := ck_L f m) (B := 0) (by rw [ck_y_L r1 hm.1 hm.2]; simp only [ck_qMark, ck_P_L hm.1 hm.2]) rfl (by omega) (by omega) _)) ⟨_, rfl, Or.inr ⟨_, rfl⟩, rfl, rfl, rfl, Nat.le_of_ble_eq_true rfl, fun h => absurd h (by decide)⟩ ?_
  rintro _ s' ⟨rfl, e'⟩
  rw [e']
  clear e' s'
  refine ck_go_run 3 (X1 := (29, [some (.inr (480, 3, 6)), some (.inl a), some (.inl m), some (.inl 0)], [], ck_up s1 490 (20 + m) (ck_gr (ck_L f m) 0))) (ps := [0 ≤ 20 + m ∧ 20 + m < ((82 : Nat) : Int)]) rfl ⟨⟨by omega, by omega⟩, trivial⟩ ?_
  refine ck_for 29 (fun v => [some (.inr (480, 3, 6)), some (.inl a), some (.inl m), some (.inl v)]) 4 (fun v s => 0 ≤ v ∧ v ≤ 4 ∧ (∀ b j, (b ≠ 490 ∨ j < 42 + 4 * m ∨ 42 + 4 * m + v ≤ j) → s b j = (ck_up s1 490 (20 + m) (ck_gr (ck_L f m) 0)) b j) ∧ ∀ q, 0 ≤ q → q < v → s 490 (42 + 4 * m + q) = (if ck_V f q = ck_V f a ∧ 0 < ck_V f q then ck_lw (ck_H f m q) (-1) else ck_H f m q)) (fun v s hv hI kk => ?_) (fun v s hv hI => ?_) 0 _ ⟨by omega, by omega, fun _ _ _ => rfl, fun _ _ _ => by omega⟩
  · obtain ⟨h0, h4, hI1, hI2⟩ := hI
    have e1 : s 490 (30 + v) = ck_V f v := by
      rw [hI1 _ _ (by omega)]
      simp only [ck_up, true_and]
      rw [if_neg (by omega), ck_y_V r1 h0 hv]
      simp only [ck_qMark, ck_P_V h0 hv]
    have e1a : s 490 (30 + a) = ck_V f a := by
      rw [hI1 _ _ (by omega)]
      simp only [ck_up, true_and]
      rw [if_neg (by omega), ck_y_V r1 ha.1 ha.2]
      simp only [ck_qMark, ck_P_V ha.1 ha.2]
    have e3 : s 490 (42 + 4 * m + v) = ck_H f m v := by
      rw [hI1 _ _ (by omega)]
      simp only [ck_up, true_and]
      rw [if_neg (by omega), ck_y_H r1 hm.1 hm.2 h0 hv]
      simp only [ck_qMark, ck_P_H hm.1 hm.2 h0 hv]
    have b1 := hB.2.2.2.1 v
    have b1a := hB.2.2.2.1 a
    have b3 := hB.2.2.2.2.2.2 m v
    refine ck_go_run 3 (X1 := (if v < 4 then 34 else 103, [some (.inr (480, 3, 6)), some (.inl a), some (.inl m), some (.inl v)], [], s)) (ps := [ck_rg v, ck_rg 4]) rfl ⟨(ck_rgo (by omega) (by omega)), (ck_rgo (by omega) (by omega)), trivial⟩ ?_
    refine ck_go_t hv ?_
    refine ck_go_run 13 (X1 := (if s 490 (30 + v) = s 490 (30 + a) then 55 else 97, [some (.inr (480, 3, 6)), some (.inl a), some (.inl m), some (.inl v)], [], s)) (ps := [0 ≤ 30 + v ∧ 30 + v < ((82 : Nat) : Int), 0 ≤ 30 + a ∧ 30 + a < ((82 : Nat) : Int), ck_rg (s 490 (30 + v)), ck_rg (s 490 (30 + a))]) rfl ⟨⟨by omega, by omega⟩, ⟨by omega, by omega⟩, (ck_rgo (by omega) (by omega)), (ck_rgo (by omega) (by omega)), trivial⟩ ?_
    refine ck_go_ite (fun h1 => ?_) (fun h1 => ?_)
    · refine ck_go_run 7 (X1 := (if 0 < s 490 (30 + v) then 67 else 97, [some (.inr (480, 3, 6)), some (.inl a), some (.inl m), some (.inl v)], [], s)) (ps := [0 ≤ 30 + v ∧ 30 + v < ((82 : Nat) : Int), ck_rg (s 490 (30 + v))]) rfl ⟨⟨by omega, by omega⟩, (ck_rgo (by omega) (by omega)), trivial⟩ ?_
      refine ck_go_ite (fun h2 => ?_) (fun h2 => ?_)
      · refine ck_go_run 20 (X1 := (93, [some (.inr (480, 3, 6)), some (.inl a), some (.inl m), some (.inl v)], [.inl ((-1)), .inl (s 490 ((42 + (4 * m)) + v)), .inl ((42 + (4 * m)) + v), .inr (490, 0, 82)], s)) (ps := [0 ≤ (42 + (4 * m)) + v ∧ (42 + (4 * m)) + v < ((82 : Nat) : Int)]) rfl ⟨⟨by omega, by omega⟩, trivial⟩ ?_
        refine ck_go_cal (rest := [.inl ((42 + (4 * m)) + v), .inr (490, 0, 82)]) (ck_cal_le (by decide) (cx_lw (A := ck_H f m v) (B := -1) e3 rfl (by omega) (by omega) _)) ⟨_, rfl, Or.inr ⟨_, rfl⟩, rfl, rfl, rfl, Nat.le_of_ble_eq_true rfl, fun h => absurd h (by decide)⟩ ?_
        rintro _ s' ⟨rfl, e'⟩
        rw [e']
        clear e' s'
        refine ck_go_run 3 (X1 := (29, [some (.inr (480, 3, 6)), some (.inl a), some (.inl m), some (.inl (v + 1))], [], ck_up s 490 ((42 + (4 * m)) + v) (ck_lw (ck_H f m v) (-1)))) (ps := [0 ≤ (42 + (4 * m)) + v ∧ (42 + (4 * m)) + v < ((82 : Nat) : Int)]) rfl ⟨⟨by omega, by omega⟩, trivial⟩ ?_
        exact kk _ ⟨by omega, by omega, ck_st1 (base := 42 + 4 * m) (g := fun q => (if ck_V f q = ck_V f a ∧ 0 < ck_V f q then ck_lw (ck_H f m q) (-1) else ck_H f m q)) hI1 hI2 (by rw [if_pos (by omega)]) h0⟩
      · refine ck_go_run 2 (X1 := (29, [some (.inr (480, 3, 6)), some (.inl a), some (.inl m), some (.inl (v + 1))], [], s)) (ps := []) rfl trivial ?_
        exact kk _ ⟨by omega, by omega, ck_st1n (base := 42 + 4 * m) (g := fun q => (if ck_V f q = ck_V f a ∧ 0 < ck_V f q then ck_lw (ck_H f m q) (-1) else ck_H f m q)) hI1 hI2 (by rw [if_neg (by omega), ← e3, hI1 _ _ (by omega)]) h0⟩
    · refine ck_go_run 2 (X1 := (29, [some (.inr (480, 3, 6)), some (.inl a), some (.inl m), some (.inl (v + 1))], [], s)) (ps := []) rfl trivial ?_
      exact kk _ ⟨by omega, by omega, ck_st1n (base := 42 + 4 * m) (g := fun q => (if ck_V f q = ck_V f a ∧ 0 < ck_V f q then ck_lw (ck_H f m q) (-1) else ck_H f m q)) hI1 hI2 (by rw [if_neg (by omega), ← e3, hI1 _ _ (by omega)]) h0⟩
  · obtain ⟨h0, h4, hI1, hI2⟩ := hI
    refine ck_go_run 3 (X1 := (if v < 4 then 34 else 103, [some (.inr (480, 3, 6)), some (.inl a), some (.inl m), some (.inl v)], [], s)) (ps := [ck_rg v, ck_rg 4]) rfl ⟨(ck_rgo (by omega) (by omega)), (ck_rgo (by omega) (by omega)), trivial⟩ ?_
    refine ck_go_f (by omega) ?_
    refine ck_eV ⟨rfl, ?_, ?_⟩ rfl rfl rfl
    · intro b j hb
      rw [hI1 b j (by omega)]
      simp only [ck_up]
      rw [if_neg (by omega), g1 b j hb]
    · unfold ck_qUse
      refine ck_P_ext (fun n a0 a1 => ?_) (fun n a0 a1 => ?_) (fun n a0 a1 => ?_) (fun q b0 b1 => ?_) (fun q b0 b1 => ?_) (fun q b0 b1 => ?_) (fun n q a0 a1 b0 b1 => ?_)
      · rw [hI1 490 (0 + n) (by omega)]
        simp only [ck_up, true_and]
        rw [ck_y_K r1 a0 a1]
        simp only [ck_qMark, ck_P_K a0 a1]
        try ((repeat' split) <;> first | rfl | omega)
      · rw [hI1 490 (10 + n) (by omega)]
        simp only [ck_up, true_and]
        rw [ck_y_I r1 a0 a1]
        simp only [ck_qMark, ck_P_I a0 a1]
        try ((repeat' split) <;> first | rfl | omega)
      · rw [hI1 490 (20 + n) (by omega)]
        simp only [ck_up, true_and]
        by_cases hn : n = m
        · rw [if_pos (by omega), if_pos hn]
        · rw [if_neg (by omega), if_neg hn, ck_y_L r1 a0 a1]
          simp only [ck_qMark, ck_P_L a0 a1]
      · rw [hI1 490 (30 + q) (by omega)]
        simp only [ck_up, true_and]
        rw [ck_y_V r1 b0 b1]
        simp only [ck_qMark, ck_P_V b0 b1]
        try ((repeat' split) <;> first | rfl | omega)
      · rw [hI1 490 (34 + q) (by omega)]
        simp only [ck_up, true_and]
        rw [ck_y_T r1 b0 b1]
        simp only [ck_qMark, ck_P_T b0 b1]
        try ((repeat' split) <;> first | rfl | omega)
      · rw [hI1 490 (38 + q) (by omega)]
        simp only [ck_up, true_and]
        rw [ck_y_G r1 b0 b1]
        simp only [ck_qMark, ck_P_G b0 b1]
        try ((repeat' split) <;> first | rfl | omega)
      · by_cases hn : n = m
        · subst hn
          rw [if_pos rfl, hI2 q b0 (by omega)]
        · rw [if_neg hn, hI1 490 (42 + 4 * n + q) (by omega)]
          simp only [ck_up, true_and]
          rw [if_neg (by omega), ck_y_H r1 a0 a1 b0 b1]
          simp only [ck_qMark, ck_P_H a0 a1 b0 b1]
def ck_qSet (x k : Int) (f : ck_Q) : ck_Q := ck_P (fun n => if n = x then 1 else ck_K f n) (fun n => if n = x then k else ck_I f n) (fun n => if n = x then ck_ml k else ck_L f n) (ck_V f) (ck_T f) (ck_G f) (fun n q => if n = x then ck_ag (ck_V f q) (ck_G f q) k else ck_H f n q)
theorem cx_set {x k : Int} (hx : 0 ≤ x ∧ x < 10) (hk : -1000000 ≤ k ∧ k ≤ 1000000) {σ : ck_M} {f : ck_Q} (hf : ck_mv (σ 490) = f) (hB : ck_qb f) : ck_cal 3 cm_Mo_set [.inr (480, 3, 6), .inl x, .inl k] σ (fun q σ' => q = none ∧ ck_f1 σ σ' 490 ∧ ck_mv (σ' 490) = ck_qSet x k f) := by
  refine ck_cal_of ?_
  refine ck_go_run 20 (X1 := (28, [some (.inr (480, 3, 6)), some (.inl x), some (.inl k), none], [.inl k, .inl (20 + x), .inr (490, 0, 82)], ck_up (ck_up σ 490 (0 + x) 1) 490 (10 + x) k)) (ps := [0 ≤ 0 + x ∧ 0 + x < ((82 : Nat) : Int), 0 ≤ 10 + x ∧ 10 + x < ((82 : Nat) : Int)]) rfl ⟨⟨by omega, by omega⟩, ⟨by omega, by omega⟩, trivial⟩ ?_
  refine ck_go_cal (rest := [.inl (20 + x), .inr (490, 0, 82)]) (ck_cal_le (by decide) (cx_leastOf (v := k) (by omega) _)) ⟨_, rfl, Or.inr ⟨_, rfl⟩, rfl, rfl, rfl, Nat.le_of_ble_eq_true rfl, fun h => absurd h (by decide)⟩ ?_
  rintro _ s' ⟨rfl, e'⟩
  rw [e']
  clear e' s'
  refine ck_go_run 3 (X1 := (34, [some (.inr (480, 3, 6)), some (.inl x), some (.inl k), some (.inl 0)], [], ck_up (ck_up (ck_up σ 490 (0 + x) 1) 490 (10 + x) k) 490 (20 + x) (ck_ml k))) (ps := [0 ≤ 20 + x ∧ 20 + x < ((82 : Nat) : Int)]) rfl ⟨⟨by omega, by omega⟩, trivial⟩ ?_
  refine ck_for 34 (fun v => [some (.inr (480, 3, 6)), some (.inl x), some (.inl k), some (.inl v)]) 4 (fun v s => 0 ≤ v ∧ v ≤ 4 ∧ (∀ b j, (b ≠ 490 ∨ j < 42 + 4 * x ∨ 42 + 4 * x + v ≤ j) → s b j = (ck_up (ck_up (ck_up σ 490 (0 + x) 1) 490 (10 + x) k) 490 (20 + x) (ck_ml k)) b j) ∧ ∀ q, 0 ≤ q → q < v → s 490 (42 + 4 * x + q) = ck_ag (ck_V f q) (ck_G f q) k) (fun v s hv hI kk => ?_) (fun v s hv hI => ?_) 0 _ ⟨by omega, by omega, fun _ _ _ => rfl, fun _ _ _ => by omega⟩
  · obtain ⟨h0, h4, hI1, hI2⟩ := hI
    have e4 : s 490 (30 + v) = ck_V f v := by
      rw [hI1 _ _ (by omega)]
      simp only [ck_up, true_and]
      rw [← ck_y_V hf h0 hv]
      (repeat' split) <;> first | rfl | omega
    have e5 : s 490 (38 + v) = ck_G f v := by
      rw [hI1 _ _ (by omega)]
      simp only [ck_up, true_and]
      rw [← ck_y_G hf h0 hv]
      (repeat' split) <;> first | rfl | omega
    have b4 := hB.2.2.2.1 v
    have b5 := hB.2.2.2.2.2.1 v
    refine ck_go_run 3 (X1 := (if v < 4 then 39 else 64, [some (.inr (480, 3, 6)), some (.inl x), some (.inl k), some (.inl v)], [], s)) (ps := [ck_rg v, ck_rg 4]) rfl ⟨(ck_rgo (by omega) (by omega)), (ck_rgo (by omega) (by omega)), trivial⟩ ?_
    refine ck_go_t hv ?_
    refine ck_go_run 12 (X1 := (54, [some (.inr (480, 3, 6)), some (.inl x), some (.inl k), some (.inl v)], [.inl v, .inl k, .inr (480, 3, 6), .inl ((42 + (4 * x)) + v), .inr (490, 0, 82)], s)) (ps := []) rfl trivial ?_
    refine ck_go_cal (rest := [.inl ((42 + (4 * x)) + v), .inr (490, 0, 82)]) (ck_cal_le (by decide) (cx_ag (k := k) (r := v) (by omega) (by omega) e4 e5 b4 b5)) ⟨_, rfl, Or.inl ⟨_, rfl⟩, rfl, rfl, rfl, Nat.le_of_ble_eq_true rfl, fun _ => ⟨_, _, rfl⟩⟩ ?_
    rintro _ s' ⟨rfl, e'⟩
    rw [e']
    clear e' s'
    refine ck_go_run 3 (X1 := (34, [some (.inr (480, 3, 6)), some (.inl x), some (.inl k), some (.inl (v + 1))], [], ck_up s 490 ((42 + (4 * x)) + v) (ck_ag (ck_V f v) (ck_G f v) k))) (ps := [0 ≤ (42 + (4 * x)) + v ∧ (42 + (4 * x)) + v < ((82 : Nat) : Int)]) rfl ⟨⟨by omega, by omega⟩, trivial⟩ ?_
    exact kk _ ⟨by omega, by omega, ck_st1 (base := 42 + 4 * x) (g := fun q => ck_ag (ck_V f q) (ck_G f q) k) hI1 hI2 rfl h0⟩
  · obtain ⟨h0, h4, hI1, hI2⟩ := hI
    refine ck_go_run 3 (X1 := (if v < 4 then 39 else 64, [some (.inr (480, 3, 6)), some (.inl x), some (.inl k), some (.inl v)], [], s)) (ps := [ck_rg v, ck_rg 4]) rfl ⟨(ck_rgo (by omega) (by omega)), (ck_rgo (by omega) (by omega)), trivial⟩ ?_
    refine ck_go_f (by omega) ?_
    refine ck_eV ⟨rfl, ?_, ?_⟩ rfl rfl rfl
    · intro b j hb
      rw [hI1 b j (by omega)]
      simp only [ck_up]
      (repeat' split) <;> first | rfl | omega
    · unfold ck_qSet
      refine ck_P_ext (fun n a0 a1 => ?_) (fun n a0 a1 => ?_) (fun n a0 a1 => ?_) (fun q b0 b1 => ?_) (fun q b0 b1 => ?_) (fun q b0 b1 => ?_) (fun n q a0 a1 b0 b1 => ?_)
      · rw [← ck_y_K hf a0 a1, hI1 490 (0 + n) (by omega)]
        simp only [ck_up, true_and]
        (repeat' split) <;> first | rfl | omega
      · rw [← ck_y_I hf a0 a1, hI1 490 (10 + n) (by omega)]
        simp only [ck_up, true_and]
        (repeat' split) <;> first | rfl | omega
      · rw [← ck_y_L hf a0 a1, hI1 490 (20 + n) (by omega)]
        simp only [ck_up, true_and]
        (repeat' split) <;> first | rfl | omega
      · rw [← ck_y_V hf b0 b1, hI1 490 (30 + q) (by omega)]
        simp only [ck_up, true_and]
        (repeat' split) <;> first | rfl | omega
      · rw [← ck_y_T hf b0 b1, hI1 490 (34 + q) (by omega)]
        simp only [ck_up, true_and]
        (repeat' split) <;> first | rfl | omega
      · rw [← ck_y_G hf b0 b1, hI1 490 (38 + q) (by omega)]
        simp only [ck_up, true_and]
        (repeat' split) <;> first | rfl | omega
      · by_cases hn : n = x
        · subst hn
          rw [if_pos rfl, hI2 q b0 (by omega)]
        · rw [if_neg hn, ← ck_y_H hf a0 a1 b0 b1, hI1 490 (42 + 4 * n + q) (by omega)]
          simp only [ck_up]
          (repeat' split) <;> first | rfl | omega
def ck_qSum (x y z : Int) (f : ck_Q) : ck_Q := ck_P (fun n => if n = x then ck_K f y else ck_K f n) (fun n => if n = x then ck_I f y + z else ck_I f n) (fun n => if n = x then ck_mlm (ck_L f y) z else ck_L f n) (ck_V f) (ck_T f) (ck_G f) (fun n q => if n = x then ck_mhm (ck_H f y q) z else ck_H f n q)
theorem cx_add {x y z : Int} (hx : 0 ≤ x ∧ x < 10) (hy : 0 ≤ y ∧ y < 10) (hz : -1000 ≤ z ∧ z ≤ 1000) {σ : ck_M} {f : ck_Q} (hf : ck_mv (σ 490) = f) (hB : ck_qb f) : ck_cal 3 cm_Mo_add [.inr (480, 3, 6), .inl x, .inl y, .inl z] σ (fun q σ' => q = none ∧ ck_f1 σ σ' 490 ∧ ck_mv (σ' 490) = ck_qSum x y z f) := by
  refine ck_cal_of ?_
  have bl := hB.2.2.1 y
  refine ck_go_run 38 (X1 := (54, [some (.inr (480, 3, 6)), some (.inl x), some (.inl y), some (.inl z), none], [.inl z, .inl ((ck_up (ck_up σ 490 (0 + x) (σ 490 (0 + y))) 490 (10 + x) (((ck_up σ 490 (0 + x) (σ 490 (0 + y))) 490 (10 + y)) + z)) 490 (20 + y)), .inl (20 + x), .inr (490, 0, 82)], ck_up (ck_up σ 490 (0 + x) (σ 490 (0 + y))) 490 (10 + x) (((ck_up σ 490 (0 + x) (σ 490 (0 + y))) 490 (10 + y)) + z))) (ps := [0 ≤ 0 + y ∧ 0 + y < ((82 : Nat) : Int), 0 ≤ 0 + x ∧ 0 + x < ((82 : Nat) : Int), 0 ≤ 10 + y ∧ 10 + y < ((82 : Nat) : Int), 0 ≤ 10 + x ∧ 10 + x < ((82 : Nat) : Int), 0 ≤ 20 + y ∧ 20 + y < ((82 : Nat) : Int)]) rfl ⟨⟨by omega, by omega⟩, ⟨by omega, by omega⟩, ⟨by omega, by omega⟩, ⟨by omega, by omega⟩, ⟨by omega, by omega⟩, trivial⟩ ?_
  refine ck_go_cal (rest := [.inl (20 + x), .inr (490, 0, 82)]) (ck_cal_le (by decide) (cx_lm (V := ck_L f y) (B := z) (by
      rw [← ck_y_L hf hy.1 hy.2]
      simp only [ck_up, true_and]
      (repeat' split) <;> first | rfl | omega) rfl (by omega) (by omega) _)) ⟨_, rfl, Or.inr ⟨_, rfl⟩, rfl, rfl, rfl, Nat.le_of_ble_eq_true rfl, fun h => absurd h (by decide)⟩ ?_
  rintro _ s' ⟨rfl, e'⟩
  rw [e']
  clear e' s'
  refine ck_go_run 3 (X1 := (61, [some (.inr (480, 3, 6)), some (.inl x), some (.inl y), some (.inl z), some (.inl 0)], [], ck_up (ck_up (ck_up σ 490 (0 + x) (σ 490 (0 + y))) 490 (10 + x) (((ck_up σ 490 (0 + x) (σ 490 (0 + y))) 490 (10 + y)) + z)) 490 (20 + x) (ck_mlm (ck_L f y) z))) (ps := [0 ≤ 20 + x ∧ 20 + x < ((82 : Nat) : Int)]) rfl ⟨⟨by omega, by omega⟩, trivial⟩ ?_
  refine ck_for 61 (fun v => [some (.inr (480, 3, 6)), some (.inl x), some (.inl y), some (.inl z), some (.inl v)]) 4 (fun v s => 0 ≤ v ∧ v ≤ 4 ∧ (∀ b j, (b ≠ 490 ∨ j < 42 + 4 * x ∨ 42 + 4 * x + v ≤ j) → s b j = (ck_up (ck_up (ck_up σ 490 (0 + x) (σ 490 (0 + y))) 490 (10 + x) (((ck_up σ 490 (0 + x) (σ 490 (0 + y))) 490 (10 + y)) + z)) 490 (20 + x) (ck_mlm (ck_L f y) z)) b j) ∧ ∀ q, 0 ≤ q → q < v → s 490 (42 + 4 * x + q) = ck_mhm (ck_H f y q) z) (fun v s hv hI kk => ?_) (fun v s hv hI => ?_) 0 _ ⟨by omega, by omega, fun _ _ _ => rfl, fun _ _ _ => by omega⟩
  · obtain ⟨h0, h4, hI1, hI2⟩ := hI
    have e3 : s 490 (42 + 4 * y + v) = ck_H f y v := by
      rw [hI1 _ _ (by omega)]
      simp only [ck_up, true_and]
      rw [← ck_y_H hf hy.1 hy.2 h0 hv]
      (repeat' split) <;> first | rfl | omega
    have b3 := hB.2.2.2.2.2.2 y v
    refine ck_go_run 3 (X1 := (if v < 4 then 67 else 105, [some (.inr (480, 3, 6)), some (.inl x), some (.inl y), some (.inl z), some (.inl v)], [], s)) (ps := [ck_rg v, ck_rg 4]) rfl ⟨(ck_rgo (by omega) (by omega)), (ck_rgo (by omega) (by omega)), trivial⟩ ?_
    refine ck_go_t hv ?_
    refine ck_go_run 20 (X1 := (95, [some (.inr (480, 3, 6)), some (.inl x), some (.inl y), some (.inl z), some (.inl v)], [.inl z, .inl (s 490 ((42 + (4 * y)) + v)), .inl ((42 + (4 * x)) + v), .inr (490, 0, 82)], s)) (ps := [0 ≤ (42 + (4 * y)) + v ∧ (42 + (4 * y)) + v < ((82 : Nat) : Int)]) rfl ⟨⟨by omega, by omega⟩, trivial⟩ ?_
    refine ck_go_cal (rest := [.inl ((42 + (4 * x)) + v), .inr (490, 0, 82)]) (ck_cal_le (by decide) (cx_hm (V := ck_H f y v) (B := z) e3 rfl (by omega) (by omega) _)) ⟨_, rfl, Or.inr ⟨_, rfl⟩, rfl, rfl, rfl, Nat.le_of_ble_eq_true rfl, fun h => absurd h (by decide)⟩ ?_
    rintro _ s' ⟨rfl, e'⟩
    rw [e']
    clear e' s'
    refine ck_go_run 3 (X1 := (61, [some (.inr (480, 3, 6)), some (.inl x), some (.inl y), some (.inl z), some (.inl (v + 1))], [], ck_up s 490 ((42 + (4 * x)) + v) (ck_mhm (ck_H f y v) z))) (ps := [0 ≤ (42 + (4 * x)) + v ∧ (42 + (4 * x)) + v < ((82 : Nat) : Int)]) rfl ⟨⟨by omega, by omega⟩, trivial⟩ ?_
    exact kk _ ⟨by omega, by omega, ck_st1 (base := 42 + 4 * x) (g := fun q => ck_mhm (ck_H f y q) z) hI1 hI2 rfl h0⟩
  · obtain ⟨h0, h4, hI1, hI2⟩ := hI
    refine ck_go_run 3 (X1 := (if v < 4 then 67 else 105, [some (.inr (480, 3, 6)), some (.inl x), some (.inl y), some (.inl z), some (.inl v)], [], s)) (ps := [ck_rg v, ck_rg 4]) rfl ⟨(ck_rgo (by omega) (by omega)), (ck_rgo (by omega) (by omega)), trivial⟩ ?_
    refine ck_go_f (by omega) ?_
    refine ck_eV ⟨rfl, ?_, ?_⟩ rfl rfl rfl
    · intro b j hb
      rw [hI1 b j (by omega)]
      simp only [ck_up]
      (repeat' split) <;> first | rfl | omega
    · unfold ck_qSum
      refine ck_P_ext (fun n a0 a1 => ?_) (fun n a0 a1 => ?_) (fun n a0 a1 => ?_) (fun q b0 b1 => ?_) (fun q b0 b1 => ?_) (fun q b0 b1 => ?_) (fun n q a0 a1 b0 b1 => ?_)
      · rw [← ck_y_K hf hy.1 hy.2, ← ck_y_K hf a0 a1, hI1 490 (0 + n) (by omega)]
        simp only [ck_up, true_and]
        (repeat' split) <;> first | rfl | omega
      · rw [← ck_y_I hf hy.1 hy.2, ← ck_y_I hf a0 a1, hI1 490 (10 + n) (by omega)]
        simp only [ck_up, true_and]
        (repeat' split) <;> first | rfl | omega
      · rw [← ck_y_L hf a0 a1, hI1 490 (20 + n) (by omega)]
        simp only [ck_up, true_and]
        (repeat' split) <;> first | rfl | omega
      · rw [← ck_y_V hf b0 b1, hI1 490 (30 + q) (by omega)]
        simp only [ck_up, true_and]
        (repeat' split) <;> first | rfl | omega
      · rw [← ck_y_T hf b0 b1, hI1 490 (34 + q) (by omega)]
        simp only [ck_up, true_and]
        (repeat' split) <;> first | rfl | omega
      · rw [← ck_y_G hf b0 b1, hI1 490 (38 + q) (by omega)]
        simp only [ck_up, true_and]
        (repeat' split) <;> first | rfl | omega
      · by_cases hn : n = x
        · subst hn
          rw [if_pos rfl, hI2 q b0 (by omega)]
        · rw [if_neg hn, ← ck_y_H hf a0 a1 b0 b1, hI1 490 (42 + 4 * n + q) (by omega)]
          simp only [ck_up]
          (repeat' split) <;> first | rfl | omega
end
section
def ck_qLen (x a : Int) (f : ck_Q) : ck_Q := ck_P (fun n => if n = x then 0 else ck_K f n) (ck_I f) (fun n => if n = x then 0 else ck_L f n) (ck_V f) (fun q => if ck_V f q = ck_V f a ∧ 0 < ck_V f q then 1 else ck_T f q) (ck_G f) (fun n q => if n = x then (if ck_V f q = ck_V f a ∧ 0 < ck_V f q then 0 else 1000000000) else ck_H f n q)
theorem cx_measured {x a : Int} (hx : 0 ≤ x ∧ x < 10) (ha : 0 ≤ a ∧ a < 4) {σ : ck_M} {f : ck_Q} (hf : ck_mv (σ 490) = f) (hB : ck_qb f) : ck_cal 2 cm_Mo_measured [.inr (480, 3, 6), .inl x, .inl a] σ (fun q σ' => q = none ∧ ck_f1 σ σ' 490 ∧ ck_mv (σ' 490) = ck_qLen x a f) := by
  refine ck_cal_of ?_
  refine ck_go_run 2 (X1 := (2, [some (.inr (480, 3, 6)), some (.inl x), some (.inl a), none], [.inl a, .inr (480, 3, 6)], σ)) (ps := []) rfl trivial ?_
  refine ck_go_cal (rest := []) (ck_cal_le (by decide) (cx_found (a := a) ha hf hB)) ⟨_, rfl, Or.inl ⟨_, rfl⟩, rfl, rfl, rfl, Nat.le_of_ble_eq_true rfl, fun _ => ⟨_, _, rfl⟩⟩ ?_
  rintro _ s1 ⟨rfl, g1, r1⟩
  try dsimp only at g1 r1
  refine ck_go_run 16 (X1 := (26, [some (.inr (480, 3, 6)), some (.inl x), some (.inl a), some (.inl 0)], [], ck_up (ck_up s1 490 (0 + x) 0) 490 (20 + x) 0)) (ps := [0 ≤ 0 + x ∧ 0 + x < ((82 : Nat) : Int), 0 ≤ 20 + x ∧ 20 + x < ((82 : Nat) : Int)]) rfl ⟨⟨by omega, by omega⟩, ⟨by omega, by omega⟩, trivial⟩ ?_
  refine ck_for 26 (fun v => [some (.inr (480, 3, 6)), some (.inl x), some (.inl a), some (.inl v)]) 4 (fun v s => 0 ≤ v ∧ v ≤ 4 ∧ (∀ b j, (b ≠ 490 ∨ j < 42 + 4 * x ∨ 42 + 4 * x + v ≤ j) → s b j = (ck_up (ck_up s1 490 (0 + x) 0) 490 (20 + x) 0) b j) ∧ ∀ q, 0 ≤ q → q < v → s 490 (42 + 4 * x + q) = (if ck_V f q = ck_V f a ∧ 0 < ck_V f q then 0 else 1000000000)) (fun v s hv hI kk => ?_) (fun v s hv hI => ?_) 0 _ ⟨by omega, by omega, fun _ _ _ => rfl, fun _ _ _ => by omega⟩
  · obtain ⟨h0, h4, hI1, hI2⟩ := hI
    have e1 : s 490 (30 + v) = ck_V f v := by
      rw [hI1 _ _ (by omega)]
      simp only [ck_up, true_and]
      rw [if_neg (by omega), if_neg (by omega), ck_y_V r1 h0 hv]
      simp only [ck_qMark, ck_P_V h0 hv]
    have e1a : s 490 (30 + a) = ck_V f a := by
      rw [hI1 _ _ (by omega)]
      simp only [ck_up, true_and]
      rw [if_neg (by omega), if_neg (by omega), ck_y_V r1 ha.1 ha.2]
      simp only [ck_qMark, ck_P_V ha.1 ha.2]
    have b1 := hB.2.2.2.1 v
    have b1a := hB.2.2.2.1 a
    refine ck_go_run 3 (X1 := (if v < 4 then 31 else 89, [some (.inr (480, 3, 6)), some (.inl x), some (.inl a), some (.inl v)], [], s)) (ps := [ck_rg v, ck_rg 4]) rfl ⟨(ck_rgo (by omega) (by omega)), (ck_rgo (by omega) (by omega)), trivial⟩ ?_
    refine ck_go_t hv ?_
    refine ck_go_run 22 (X1 := (if s 490 (30 + v) = s 490 (30 + a) then 64 else 80, [some (.inr (480, 3, 6)), some (.inl x), some (.inl a), some (.inl v)], [.inl ((42 + (4 * x)) + v), .inr (490, 0, 82)], s)) (ps := [0 ≤ 30 + v ∧ 30 + v < ((82 : Nat) : Int), 0 ≤ 30 + a ∧ 30 + a < ((82 : Nat) : Int), ck_rg (s 490 (30 + v)), ck_rg (s 490 (30 + a))]) rfl ⟨⟨by omega, by omega⟩, ⟨by omega, by omega⟩, (ck_rgo (by omega) (by omega)), (ck_rgo (by omega) (by omega)), trivial⟩ ?_
    refine ck_go_ite (fun h1 => ?_) (fun h1 => ?_)
    · refine ck_go_run 7 (X1 := (if 0 < s 490 (30 + v) then 76 else 80, [some (.inr (480, 3, 6)), some (.inl x), some (.inl a), some (.inl v)], [.inl ((42 + (4 * x)) + v), .inr (490, 0, 82)], s)) (ps := [0 ≤ 30 + v ∧ 30 + v < ((82 : Nat) : Int), ck_rg (s 490 (30 + v))]) rfl ⟨⟨by omega, by omega⟩, (ck_rgo (by omega) (by omega)), trivial⟩ ?_
      refine ck_go_ite (fun h2 => ?_) (fun h2 => ?_)
      · refine ck_go_run 5 (X1 := (26, [some (.inr (480, 3, 6)), some (.inl x), some (.inl a), some (.inl (v + 1))], [], ck_up s 490 ((42 + (4 * x)) + v) 0)) (ps := [0 ≤ (42 + (4 * x)) + v ∧ (42 + (4 * x)) + v < ((82 : Nat) : Int)]) rfl ⟨⟨by omega, by omega⟩, trivial⟩ ?_
        exact kk _ ⟨by omega, by omega, ck_st1 (base := 42 + 4 * x) (g := fun q => (if ck_V f q = ck_V f a ∧ 0 < ck_V f q then 0 else 1000000000)) hI1 hI2 (by rw [if_pos (by omega)]) h0⟩
      · refine ck_go_run 4 (X1 := (26, [some (.inr (480, 3, 6)), some (.inl x), some (.inl a), some (.inl (v + 1))], [], ck_up s 490 ((42 + (4 * x)) + v) 1000000000)) (ps := [0 ≤ (42 + (4 * x)) + v ∧ (42 + (4 * x)) + v < ((82 : Nat) : Int)]) rfl ⟨⟨by omega, by omega⟩, trivial⟩ ?_
        exact kk _ ⟨by omega, by omega, ck_st1 (base := 42 + 4 * x) (g := fun q => (if ck_V f q = ck_V f a ∧ 0 < ck_V f q then 0 else 1000000000)) hI1 hI2 (by rw [if_neg (by omega)]) h0⟩
    · refine ck_go_run 4 (X1 := (26, [some (.inr (480, 3, 6)), some (.inl x), some (.inl a), some (.inl (v + 1))], [], ck_up s 490 ((42 + (4 * x)) + v) 1000000000)) (ps := [0 ≤ (42 + (4 * x)) + v ∧ (42 + (4 * x)) + v < ((82 : Nat) : Int)]) rfl ⟨⟨by omega, by omega⟩, trivial⟩ ?_
      exact kk _ ⟨by omega, by omega, ck_st1 (base := 42 + 4 * x) (g := fun q => (if ck_V f q = ck_V f a ∧ 0 < ck_V f q then 0 else 1000000000)) hI1 hI2 (by rw [if_neg (by omega)]) h0⟩
  · obtain ⟨h0, h4, hI1, hI2⟩ := hI
    refine ck_go_run 3 (X1 := (if v < 4 then 31 else 89, [some (.inr (480, 3, 6)), some (.inl x), some (.inl a), some (.inl v)], [], s)) (ps := [ck_rg v, ck_rg 4]) rfl ⟨(ck_rgo (by omega) (by omega)), (ck_rgo (by omega) (by omega)), trivial⟩ ?_
    refine ck_go_f (by omega) ?_
    refine ck_eV ⟨rfl, ?_, ?_⟩ rfl rfl rfl
    · intro b j hb
      rw [hI1 b j (by omega)]
      simp only [ck_up]
      rw [if_neg (by omega), if_neg (by omega), g1 b j hb]
    · unfold ck_qLen
      refine ck_P_ext (fun n a0 a1 => ?_) (fun n a0 a1 => ?_) (fun n a0 a1 => ?_) (fun q b0 b1 => ?_) (fun q b0 b1 => ?_) (fun q b0 b1 => ?_) (fun n q a0 a1 b0 b1 => ?_)
      · rw [hI1 490 (0 + n) (by omega)]
        simp only [ck_up, true_and]
        by_cases hn : n = x
        · rw [if_neg (by omega), if_pos (by omega), if_pos hn]
        · rw [if_neg (by omega), if_neg (by omega), if_neg hn, ck_y_K r1 a0 a1]
          simp only [ck_qMark, ck_P_K a0 a1]
      · rw [hI1 490 (10 + n) (by omega)]
        simp only [ck_up, true_and]
        rw [ck_y_I r1 a0 a1]
        simp only [ck_qMark, ck_P_I a0 a1]
        try ((repeat' split) <;> first | rfl | omega)
      · rw [hI1 490 (20 + n) (by omega)]
        simp only [ck_up, true_and]
        by_cases hn : n = x
        · rw [if_pos (by omega), if_pos hn]
        · rw [if_neg (by omega), if_neg (by omega), if_neg hn, ck_y_L r1 a0 a1]
          simp only [ck_qMark, ck_P_L a0 a1]
      · rw [hI1 490 (30 + q) (by omega)]
        simp only [ck_up, true_and]
        rw [ck_y_V r1 b0 b1]
        simp only [ck_qMark, ck_P_V b0 b1]
        try ((repeat' split) <;> first | rfl | omega)
      · rw [hI1 490 (34 + q) (by omega)]
        simp only [ck_up, true_and]
        rw [ck_y_T r1 b0 b1]
        simp only [ck_qMark, ck_P_T b0 b1]
        try ((repeat' split) <;> first | rfl | omega)
      · rw [hI1 490 (38 + q) (by omega)]
        simp only [ck_up, true_and]
        rw [ck_y_G r1 b0 b1]
        simp only [ck_qMark, ck_P_G b0 b1]
        try ((repeat' split) <;> first | rfl | omega)
      · by_cases hn : n = x
        · subst hn
          rw [if_pos rfl, hI2 q b0 (by omega)]
        · rw [if_neg hn, hI1 490 (42 + 4 * n + q) (by omega)]
          simp only [ck_up, true_and]
          rw [if_neg (by omega), if_neg (by omega), ck_y_H r1 a0 a1 b0 b1]
          simp only [ck_qMark, ck_P_H a0 a1 b0 b1]
def ck_qLet (a e : Int) (f : ck_Q) : ck_Q := ck_P (ck_K f) (ck_I f) (ck_L f) (fun q => if q = a then ck_V f e else ck_V f q) (fun q => if q = a then ck_T f e else ck_T f q) (fun q => if q = a then ck_G f e else ck_G f q) (fun n q => if q = a then ck_H f n e else ck_H f n q)
theorem cx_let {a e : Int} (ha : 0 ≤ a ∧ a < 4) (he : 0 ≤ e ∧ e < 4) {σ : ck_M} {f : ck_Q} (hf : ck_mv (σ 490) = f) : ck_cal 1 cm_Mo_let [.inr (480, 3, 6), .inl a, .inl e] σ (fun q σ' => q = none ∧ ck_f1 σ σ' 490 ∧ ck_mv (σ' 490) = ck_qLet a e f) := by
  refine ck_cal_of ?_
  refine ck_go_run 38 (X1 := (56, [some (.inr (480, 3, 6)), some (.inl a), some (.inl e), some (.inl 0)], [], ck_up (ck_up (ck_up σ 490 (30 + a) (σ 490 (30 + e))) 490 (34 + a) ((ck_up σ 490 (30 + a) (σ 490 (30 + e))) 490 (34 + e))) 490 (38 + a) ((ck_up (ck_up σ 490 (30 + a) (σ 490 (30 + e))) 490 (34 + a) ((ck_up σ 490 (30 + a) (σ 490 (30 + e))) 490 (34 + e))) 490 (38 + e)))) (ps := [0 ≤ 30 + e ∧ 30 + e < ((82 : Nat) : Int), 0 ≤ 30 + a ∧ 30 + a < ((82 : Nat) : Int), 0 ≤ 34 + e ∧ 34 + e < ((82 : Nat) : Int), 0 ≤ 34 + a ∧ 34 + a < ((82 : Nat) : Int), 0 ≤ 38 + e ∧ 38 + e < ((82 : Nat) : Int), 0 ≤ 38 + a ∧ 38 + a < ((82 : Nat) : Int)]) rfl ⟨⟨by omega, by omega⟩, ⟨by omega, by omega⟩, ⟨by omega, by omega⟩, ⟨by omega, by omega⟩, ⟨by omega, by omega⟩, ⟨by omega, by omega⟩, trivial⟩ ?_
  refine ck_for 56 (fun v => [some (.inr (480, 3, 6)), some (.inl a), some (.inl e), some (.inl v)]) 10 (fun v s => 0 ≤ v ∧ v ≤ 10 ∧ (∀ b j, (b ≠ 490 ∨ j < 42 + a ∨ 42 + 4 * v + a ≤ j ∨ (j - 42 - a) % 4 ≠ 0) → s b j = (ck_up (ck_up (ck_up σ 490 (30 + a) (σ 490 (30 + e))) 490 (34 + a) ((ck_up σ 490 (30 + a) (σ 490 (30 + e))) 490 (34 + e))) 490 (38 + a) ((ck_up (ck_up σ 490 (30 + a) (σ 490 (30 + e))) 490 (34 + a) ((ck_up σ 490 (30 + a) (σ 490 (30 + e))) 490 (34 + e))) 490 (38 + e))) b j) ∧ ∀ q, 0 ≤ q → q < v → s 490 (42 + 4 * q + a) = ck_H f q e) (fun v s hv hI kk => ?_) (fun v s hv hI => ?_) 0 _ ⟨by omega, by omega, fun _ _ _ => rfl, fun _ _ _ => by omega⟩
  · obtain ⟨h0, h4, hI1, hI2⟩ := hI
    have e3 : s 490 (42 + 4 * v + e) = ck_H f v e := by
      rw [← ck_y_H hf h0 hv he.1 he.2, hI1 _ _ (by omega)]
      simp only [ck_up, true_and]
      (repeat' split) <;> first | rfl | omega
    refine ck_go_run 3 (X1 := (if v < 10 then 62 else 94, [some (.inr (480, 3, 6)), some (.inl a), some (.inl e), some (.inl v)], [], s)) (ps := [ck_rg v, ck_rg 10]) rfl ⟨(ck_rgo (by omega) (by omega)), (ck_rgo (by omega) (by omega)), trivial⟩ ?_
    refine ck_go_t hv ?_
    refine ck_go_run 22 (X1 := (56, [some (.inr (480, 3, 6)), some (.inl a), some (.inl e), some (.inl (v + 1))], [], ck_up s 490 ((42 + (4 * v)) + a) (s 490 ((42 + (4 * v)) + e)))) (ps := [0 ≤ (42 + (4 * v)) + e ∧ (42 + (4 * v)) + e < ((82 : Nat) : Int), 0 ≤ (42 + (4 * v)) + a ∧ (42 + (4 * v)) + a < ((82 : Nat) : Int)]) rfl ⟨⟨by omega, by omega⟩, ⟨by omega, by omega⟩, trivial⟩ ?_
    exact kk _ ⟨by omega, by omega, ck_su4 (g := fun q => ck_H f q e) hI1 hI2 e3 h0⟩
  · obtain ⟨h0, h4, hI1, hI2⟩ := hI
    refine ck_go_run 3 (X1 := (if v < 10 then 62 else 94, [some (.inr (480, 3, 6)), some (.inl a), some (.inl e), some (.inl v)], [], s)) (ps := [ck_rg v, ck_rg 10]) rfl ⟨(ck_rgo (by omega) (by omega)), (ck_rgo (by omega) (by omega)), trivial⟩ ?_
    refine ck_go_f (by omega) ?_
    refine ck_eV ⟨rfl, ?_, ?_⟩ rfl rfl rfl
    · intro b j hb
      rw [hI1 b j (by omega)]
      simp only [ck_up]
      (repeat' split) <;> first | rfl | omega
    · unfold ck_qLet
      refine ck_P_ext (fun n a0 a1 => ?_) (fun n a0 a1 => ?_) (fun n a0 a1 => ?_) (fun q b0 b1 => ?_) (fun q b0 b1 => ?_) (fun q b0 b1 => ?_) (fun n q a0 a1 b0 b1 => ?_)
      · rw [← ck_y_K hf a0 a1, hI1 490 (0 + n) (by omega)]
        simp only [ck_up, true_and]
        (repeat' split) <;> first | rfl | omega
      · rw [← ck_y_I hf a0 a1, hI1 490 (10 + n) (by omega)]
        simp only [ck_up, true_and]
        (repeat' split) <;> first | rfl | omega
      · rw [← ck_y_L hf a0 a1, hI1 490 (20 + n) (by omega)]
        simp only [ck_up, true_and]
        (repeat' split) <;> first | rfl | omega
      · rw [← ck_y_V hf he.1 he.2, ← ck_y_V hf b0 b1, hI1 490 (30 + q) (by omega)]
        simp only [ck_up, true_and]
        (repeat' split) <;> first | rfl | omega
      · rw [← ck_y_T hf he.1 he.2, ← ck_y_T hf b0 b1, hI1 490 (34 + q) (by omega)]
        simp only [ck_up, true_and]
        (repeat' split) <;> first | rfl | omega
      · rw [← ck_y_G hf he.1 he.2, ← ck_y_G hf b0 b1, hI1 490 (38 + q) (by omega)]
        simp only [ck_up, true_and]
        (repeat' split) <;> first | rfl | omega
      · by_cases hq : q = a
        · subst hq
          rw [if_pos rfl, hI2 n a0 (by omega)]
        · rw [if_neg hq, ← ck_y_H hf a0 a1 b0 b1, hI1 490 (42 + 4 * n + q) (by omega)]
          simp only [ck_up]
          (repeat' split) <;> first | rfl | omega
def ck_qNew (k a y : Int) (f : ck_Q) : ck_Q := ck_P (ck_K f) (ck_I f) (fun n => if n = y then ck_gr (ck_L f y) 0 else ck_L f n) (fun q => if q = a then 1 + k else ck_V f q) (fun q => if q = a then 1 else ck_T f q) (fun q => if q = a then (if ck_K f y = 1 then ck_I f y else 1000000000) else ck_G f q) (fun n q => if q = a then (if n = y then 0 else if ck_K f n = 1 then ck_ag (1 + k) (if ck_K f y = 1 then ck_I f y else 1000000000) (ck_I f n) else 1000000000) else ck_H f n q)
theorem cx_make {k a y : Int} (hk : 0 ≤ k ∧ k < 64) (ha : 0 ≤ a ∧ a < 4) (hy : 0 ≤ y ∧ y < 10) {σ : ck_M} {f : ck_Q} (hf : ck_mv (σ 490) = f) (hB : ck_qb f) : ck_cal 3 cm_Mo_make [.inr (480, 3, 6), .inl k, .inl a, .inl y] σ (fun q σ' => q = none ∧ ck_f1 σ σ' 490 ∧ ck_mv (σ' 490) = ck_qNew k a y f) := by
  refine ck_cal_of ?_
  have bl := hB.2.2.1 y
  have bK := hB.1 y
  refine ck_go_run 12 (X1 := (18, [some (.inr (480, 3, 6)), some (.inl k), some (.inl a), some (.inl y), none], [.inl 0, .inl (σ 490 (20 + y)), .inl (20 + y), .inr (490, 0, 82)], σ)) (ps := [0 ≤ 20 + y ∧ 20 + y < ((82 : Nat) : Int)]) rfl ⟨⟨by omega, by omega⟩, trivial⟩ ?_
  refine ck_go_cal (rest := [.inl (20 + y), .inr (490, 0, 82)]) (ck_cal_le (by decide) (cx_gr (A := ck_L f y) (B := 0) (ck_y_L hf hy.1 hy.2) rfl (by omega) (by omega) _)) ⟨_, rfl, Or.inr ⟨_, rfl⟩, rfl, rfl, rfl, Nat.le_of_ble_eq_true rfl, fun h => absurd h (by decide)⟩ ?_
  rintro _ s' ⟨rfl, e'⟩
  rw [e']
  clear e' s'
  refine ck_go_run 17 (X1 := (44, [some (.inr (480, 3, 6)), some (.inl k), some (.inl a), some (.inl y), none], [], ck_up (ck_up (ck_up σ 490 (20 + y) (ck_gr (ck_L f y) 0)) 490 (30 + a) (1 + k)) 490 (34 + a) 1)) (ps := [0 ≤ 20 + y ∧ 20 + y < ((82 : Nat) : Int), 0 ≤ 30 + a ∧ 30 + a < ((82 : Nat) : Int), 0 ≤ 34 + a ∧ 34 + a < ((82 : Nat) : Int)]) rfl ⟨⟨by omega, by omega⟩, ⟨by omega, by omega⟩, ⟨by omega, by omega⟩, trivial⟩ ?_
  obtain ⟨t0, ht0⟩ : ∃ z, z = ck_up (ck_up (ck_up σ 490 (20 + y) (ck_gr (ck_L f y) 0)) 490 (30 + a) (1 + k)) 490 (34 + a) 1 := ⟨_, rfl⟩
  rw [← ht0]
  have eK : t0 490 (0 + y) = ck_K f y := by
    rw [ht0, ← ck_y_K hf hy.1 hy.2]
    simp only [ck_up, true_and]
    (repeat' split) <;> first | rfl | omega
  have eI : t0 490 (10 + y) = ck_I f y := by
    rw [ht0, ← ck_y_I hf hy.1 hy.2]
    simp only [ck_up, true_and]
    (repeat' split) <;> first | rfl | omega
  refine ck_go_run 13 (X1 := (if t0 490 (0 + y) = 1 then 64 else 76, [some (.inr (480, 3, 6)), some (.inl k), some (.inl a), some (.inl y), none], [.inl (38 + a), .inr (490, 0, 82)], t0)) (ps := [0 ≤ 0 + y ∧ 0 + y < ((82 : Nat) : Int), ck_rg (t0 490 (0 + y)), ck_rg 1]) rfl ⟨⟨by omega, by omega⟩, (ck_rgo (by omega) (by omega)), (ck_rgo (by omega) (by omega)), trivial⟩ ?_
  refine ck_go_ite (fun h1 => ?_) (fun h1 => ?_)
  · refine ck_go_run 8 (X1 := (79, [some (.inr (480, 3, 6)), some (.inl k), some (.inl a), some (.inl y), none], [], ck_up t0 490 (38 + a) (t0 490 (10 + y)))) (ps := [0 ≤ 10 + y ∧ 10 + y < ((82 : Nat) : Int), 0 ≤ 38 + a ∧ 38 + a < ((82 : Nat) : Int)]) rfl ⟨⟨by omega, by omega⟩, ⟨by omega, by omega⟩, trivial⟩ ?_
    obtain ⟨t1, ht1⟩ : ∃ z, z = ck_up t0 490 (38 + a) (t0 490 (10 + y)) := ⟨_, rfl⟩
    rw [← ht1]
    have ht1 : ∀ b j, t1 b j = if b = 490 ∧ j = 38 + a then (if ck_K f y = 1 then ck_I f y else 1000000000) else t0 b j := by
      intro b j
      rw [ht1]
      simp only [ck_up]
      rw [← eK, ← eI]
      (repeat' split) <;> first | rfl | omega
    refine ck_go_run 2 (X1 := (82, [some (.inr (480, 3, 6)), some (.inl k), some (.inl a), some (.inl y), some (.inl 0)], [], t1)) (ps := []) rfl trivial ?_
    refine ck_for 82 (fun v => [some (.inr (480, 3, 6)), some (.inl k), some (.inl a), some (.inl y), some (.inl v)]) 10 (fun v s => 0 ≤ v ∧ v ≤ 10 ∧ (∀ b j, (b ≠ 490 ∨ j < 42 + a ∨ 42 + 4 * v + a ≤ j ∨ (j - 42 - a) % 4 ≠ 0) → s b j = (t1) b j) ∧ ∀ q, 0 ≤ q → q < v → s 490 (42 + 4 * q + a) = (if q = y then 0 else if ck_K f q = 1 then ck_ag (1 + k) (if ck_K f y = 1 then ck_I f y else 1000000000) (ck_I f q) else 1000000000)) (fun v s hv hI kk => ?_) (fun v s hv hI => ?_) 0 _ ⟨by omega, by omega, fun _ _ _ => rfl, fun _ _ _ => by omega⟩
    · obtain ⟨h0, h4, hI1, hI2⟩ := hI
      have e1 : s 490 (0 + v) = ck_K f v := by
        rw [hI1 _ _ (by omega), ht1, if_neg (by omega), ht0, ← ck_y_K hf h0 hv]
        simp only [ck_up, true_and]
        (repeat' split) <;> first | rfl | omega
      have e2 : s 490 (10 + v) = ck_I f v := by
        rw [hI1 _ _ (by omega), ht1, if_neg (by omega), ht0, ← ck_y_I hf h0 hv]
        simp only [ck_up, true_and]
        (repeat' split) <;> first | rfl | omega
      have e4 : s 490 (30 + a) = 1 + k := by
        rw [hI1 _ _ (by omega), ht1, if_neg (by omega), ht0]
        simp only [ck_up, true_and]
        rw [if_neg (by omega)]
        simp only [and_self, if_true]
      have e5 : s 490 (38 + a) = (if ck_K f y = 1 then ck_I f y else 1000000000) := by
        rw [hI1 _ _ (by omega), ht1, if_pos ⟨rfl, rfl⟩]
      have b1 := hB.1 v
      have b2 := hB.2.1 v
      have b2y := hB.2.1 y
      have b5 : -1000000000 ≤ (if ck_K f y = 1 then ck_I f y else 1000000000) ∧ (if ck_K f y = 1 then ck_I f y else 1000000000) ≤ 1000000000 := by split <;> omega
      refine ck_go_run 3 (X1 := (if v < 10 then 89 else 152, [some (.inr (480, 3, 6)), some (.inl k), some (.inl a), some (.inl y), some (.inl v)], [], s)) (ps := [ck_rg v, ck_rg 10]) rfl ⟨(ck_rgo (by omega) (by omega)), (ck_rgo (by omega) (by omega)), trivial⟩ ?_
      refine ck_go_t hv ?_
      refine ck_go_run 12 (X1 := (if v = y then 108 else 112, [some (.inr (480, 3, 6)), some (.inl k), some (.inl a), some (.inl y), some (.inl v)], [.inl ((42 + (4 * v)) + a), .inr (490, 0, 82)], s)) (ps := [ck_rg v, ck_rg y]) rfl ⟨(ck_rgo (by omega) (by omega)), (ck_rgo (by omega) (by omega)), trivial⟩ ?_
      refine ck_go_ite (fun h2 => ?_) (fun h2 => ?_)
      · refine ck_go_run 5 (X1 := (82, [some (.inr (480, 3, 6)), some (.inl k), some (.inl a), some (.inl y), some (.inl (v + 1))], [], ck_up s 490 ((42 + (4 * v)) + a) 0)) (ps := [0 ≤ (42 + (4 * v)) + a ∧ (42 + (4 * v)) + a < ((82 : Nat) : Int)]) rfl ⟨⟨by omega, by omega⟩, trivial⟩ ?_
        exact kk _ ⟨by omega, by omega, ck_su4 (g := fun q => (if q = y then 0 else if ck_K f q = 1 then ck_ag (1 + k) (if ck_K f y = 1 then ck_I f y else 1000000000) (ck_I f q) else 1000000000)) hI1 hI2 (by rw [if_pos (show v = y by omega)]) h0⟩
      · refine ck_go_run 8 (X1 := (if s 490 (0 + v) = 1 then 125 else 143, [some (.inr (480, 3, 6)), some (.inl k), some (.inl a), some (.inl y), some (.inl v)], [.inl ((42 + (4 * v)) + a), .inr (490, 0, 82)], s)) (ps := [0 ≤ 0 + v ∧ 0 + v < ((82 : Nat) : Int), ck_rg (s 490 (0 + v)), ck_rg 1]) rfl ⟨⟨by omega, by omega⟩, (ck_rgo (by omega) (by omega)), (ck_rgo (by omega) (by omega)), trivial⟩ ?_
        refine ck_go_ite (fun h3 => ?_) (fun h3 => ?_)
        · refine ck_go_run 8 (X1 := (137, [some (.inr (480, 3, 6)), some (.inl k), some (.inl a), some (.inl y), some (.inl v)], [.inl a, .inl (s 490 (10 + v)), .inr (480, 3, 6), .inl ((42 + (4 * v)) + a), .inr (490, 0, 82)], s)) (ps := [0 ≤ 10 + v ∧ 10 + v < ((82 : Nat) : Int)]) rfl ⟨⟨by omega, by omega⟩, trivial⟩ ?_
          refine ck_go_cal (rest := [.inl ((42 + (4 * v)) + a), .inr (490, 0, 82)]) (ck_cal_le (by decide) (cx_ag (k := s 490 (10 + v)) (r := a) ha (by omega) e4 e5 (by omega) b5)) ⟨_, rfl, Or.inl ⟨_, rfl⟩, rfl, rfl, rfl, Nat.le_of_ble_eq_true rfl, fun _ => ⟨_, _, rfl⟩⟩ ?_
          rintro _ s' ⟨rfl, e'⟩
          rw [e']
          clear e' s'
          refine ck_go_run 4 (X1 := (82, [some (.inr (480, 3, 6)), some (.inl k), some (.inl a), some (.inl y), some (.inl (v + 1))], [], ck_up s 490 ((42 + (4 * v)) + a) (ck_ag (1 + k) (if ck_K f y = 1 then ck_I f y else 1000000000) (s 490 (10 + v))))) (ps := [0 ≤ (42 + (4 * v)) + a ∧ (42 + (4 * v)) + a < ((82 : Nat) : Int)]) rfl ⟨⟨by omega, by omega⟩, trivial⟩ ?_
          exact kk _ ⟨by omega, by omega, ck_su4 (g := fun q => (if q = y then 0 else if ck_K f q = 1 then ck_ag (1 + k) (if ck_K f y = 1 then ck_I f y else 1000000000) (ck_I f q) else 1000000000)) hI1 hI2 (by rw [if_neg (show ¬ v = y by omega), if_pos (show ck_K f v = 1 by omega), e2]) h0⟩
        · refine ck_go_run 4 (X1 := (82, [some (.inr (480, 3, 6)), some (.inl k), some (.inl a), some (.inl y), some (.inl (v + 1))], [], ck_up s 490 ((42 + (4 * v)) + a) 1000000000)) (ps := [0 ≤ (42 + (4 * v)) + a ∧ (42 + (4 * v)) + a < ((82 : Nat) : Int)]) rfl ⟨⟨by omega, by omega⟩, trivial⟩ ?_
          exact kk _ ⟨by omega, by omega, ck_su4 (g := fun q => (if q = y then 0 else if ck_K f q = 1 then ck_ag (1 + k) (if ck_K f y = 1 then ck_I f y else 1000000000) (ck_I f q) else 1000000000)) hI1 hI2 (by rw [if_neg (show ¬ v = y by omega), if_neg (show ¬ ck_K f v = 1 by omega)]) h0⟩
    · obtain ⟨h0, h4, hI1, hI2⟩ := hI
      refine ck_go_run 3 (X1 := (if v < 10 then 89 else 152, [some (.inr (480, 3, 6)), some (.inl k), some (.inl a), some (.inl y), some (.inl v)], [], s)) (ps := [ck_rg v, ck_rg 10]) rfl ⟨(ck_rgo (by omega) (by omega)), (ck_rgo (by omega) (by omega)), trivial⟩ ?_
      refine ck_go_f (by omega) ?_
      refine ck_eV ⟨rfl, ?_, ?_⟩ rfl rfl rfl
      · intro b j hb
        rw [hI1 b j (by omega), ht1, if_neg (by omega), ht0]
        simp only [ck_up]
        (repeat' split) <;> first | rfl | omega
      · unfold ck_qNew
        refine ck_P_ext (fun n a0 a1 => ?_) (fun n a0 a1 => ?_) (fun n a0 a1 => ?_) (fun q b0 b1 => ?_) (fun q b0 b1 => ?_) (fun q b0 b1 => ?_) (fun n q a0 a1 b0 b1 => ?_)
        · rw [← ck_y_K hf a0 a1, hI1 490 (0 + n) (by omega), ht1, if_neg (by omega), ht0]
          simp only [ck_up, true_and]
          (repeat' split) <;> first | rfl | omega
        · rw [← ck_y_I hf a0 a1, hI1 490 (10 + n) (by omega), ht1, if_neg (by omega), ht0]
          simp only [ck_up, true_and]
          (repeat' split) <;> first | rfl | omega
        · rw [← ck_y_L hf a0 a1, hI1 490 (20 + n) (by omega), ht1, if_neg (by omega), ht0]
          simp only [ck_up, true_and]
          (repeat' split) <;> first | rfl | omega
        · rw [← ck_y_V hf b0 b1, hI1 490 (30 + q) (by omega), ht1, if_neg (by omega), ht0]
          simp only [ck_up, true_and]
          (repeat' split) <;> first | rfl | omega
        · rw [← ck_y_T hf b0 b1, hI1 490 (34 + q) (by omega), ht1, if_neg (by omega), ht0]
          simp only [ck_up, true_and]
          (repeat' split) <;> first | rfl | omega
        · rw [hI1 490 (38 + q) (by omega), ht1]
          by_cases hq : q = a
          · rw [if_pos (by omega), if_pos hq]
          · rw [if_neg (by omega), if_neg hq, ht0, ← ck_y_G hf b0 b1]
            simp only [ck_up, true_and]
            (repeat' split) <;> first | rfl | omega
        · by_cases hq : q = a
          · subst hq
            rw [if_pos rfl, hI2 n a0 (by omega)]
          · rw [if_neg hq, ← ck_y_H hf a0 a1 b0 b1, hI1 490 (42 + 4 * n + q) (by omega), ht1, if_neg (by omega), ht0]
            simp only [ck_up, true_and]
            (repeat' split) <;> first | rfl | omega
  · refine ck_go_run 2 (X1 := (79, [some (.inr (480, 3, 6)), some (.inl k), some (.inl a), some (.inl y), none], [], ck_up t0 490 (38 + a) 1000000000)) (ps := [0 ≤ 38 + a ∧ 38 + a < ((82 : Nat) : Int)]) rfl ⟨⟨by omega, by omega⟩, trivial⟩ ?_
    obtain ⟨t1, ht1⟩ : ∃ z, z = ck_up t0 490 (38 + a) 1000000000 := ⟨_, rfl⟩
    rw [← ht1]
    have ht1 : ∀ b j, t1 b j = if b = 490 ∧ j = 38 + a then (if ck_K f y = 1 then ck_I f y else 1000000000) else t0 b j := by
      intro b j
      rw [ht1]
      simp only [ck_up]
      rw [← eK, ← eI]
      (repeat' split) <;> first | rfl | omega
    refine ck_go_run 2 (X1 := (82, [some (.inr (480, 3, 6)), some (.inl k), some (.inl a), some (.inl y), some (.inl 0)], [], t1)) (ps := []) rfl trivial ?_
    refine ck_for 82 (fun v => [some (.inr (480, 3, 6)), some (.inl k), some (.inl a), some (.inl y), some (.inl v)]) 10 (fun v s => 0 ≤ v ∧ v ≤ 10 ∧ (∀ b j, (b ≠ 490 ∨ j < 42 + a ∨ 42 + 4 * v + a ≤ j ∨ (j - 42 - a) % 4 ≠ 0) → s b j = (t1) b j) ∧ ∀ q, 0 ≤ q → q < v → s 490 (42 + 4 * q + a) = (if q = y then 0 else if ck_K f q = 1 then ck_ag (1 + k) (if ck_K f y = 1 then ck_I f y else 1000000000) (ck_I f q) else 1000000000)) (fun v s hv hI kk => ?_) (fun v s hv hI => ?_) 0 _ ⟨by omega, by omega, fun _ _ _ => rfl, fun _ _ _ => by omega⟩
    · obtain ⟨h0, h4, hI1, hI2⟩ := hI
      have e1 : s 490 (0 + v) = ck_K f v := by
        rw [hI1 _ _ (by omega), ht1, if_neg (by omega), ht0, ← ck_y_K hf h0 hv]
        simp only [ck_up, true_and]
        (repeat' split) <;> first | rfl | omega
      have e2 : s 490 (10 + v) = ck_I f v := by
        rw [hI1 _ _ (by omega), ht1, if_neg (by omega), ht0, ← ck_y_I hf h0 hv]
        simp only [ck_up, true_and]
        (repeat' split) <;> first | rfl | omega
      have e4 : s 490 (30 + a) = 1 + k := by
        rw [hI1 _ _ (by omega), ht1, if_neg (by omega), ht0]
        simp only [ck_up, true_and]
        rw [if_neg (by omega)]
        simp only [and_self, if_true]
      have e5 : s 490 (38 + a) = (if ck_K f y = 1 then ck_I f y else 1000000000) := by
        rw [hI1 _ _ (by omega), ht1, if_pos ⟨rfl, rfl⟩]
      have b1 := hB.1 v
      have b2 := hB.2.1 v
      have b2y := hB.2.1 y
      have b5 : -1000000000 ≤ (if ck_K f y = 1 then ck_I f y else 1000000000) ∧ (if ck_K f y = 1 then ck_I f y else 1000000000) ≤ 1000000000 := by split <;> omega
      refine ck_go_run 3 (X1 := (if v < 10 then 89 else 152, [some (.inr (480, 3, 6)), some (.inl k), some (.inl a), some (.inl y), some (.inl v)], [], s)) (ps := [ck_rg v, ck_rg 10]) rfl ⟨(ck_rgo (by omega) (by omega)), (ck_rgo (by omega) (by omega)), trivial⟩ ?_
      refine ck_go_t hv ?_
      refine ck_go_run 12 (X1 := (if v = y then 108 else 112, [some (.inr (480, 3, 6)), some (.inl k), some (.inl a), some (.inl y), some (.inl v)], [.inl ((42 + (4 * v)) + a), .inr (490, 0, 82)], s)) (ps := [ck_rg v, ck_rg y]) rfl ⟨(ck_rgo (by omega) (by omega)), (ck_rgo (by omega) (by omega)), trivial⟩ ?_
      refine ck_go_ite (fun h4 => ?_) (fun h4 => ?_)
      · refine ck_go_run 5 (X1 := (82, [some (.inr (480, 3, 6)), some (.inl k), some (.inl a), some (.inl y), some (.inl (v + 1))], [], ck_up s 490 ((42 + (4 * v)) + a) 0)) (ps := [0 ≤ (42 + (4 * v)) + a ∧ (42 + (4 * v)) + a < ((82 : Nat) : Int)]) rfl ⟨⟨by omega, by omega⟩, trivial⟩ ?_
        exact kk _ ⟨by omega, by omega, ck_su4 (g := fun q => (if q = y then 0 else if ck_K f q = 1 then ck_ag (1 + k) (if ck_K f y = 1 then ck_I f y else 1000000000) (ck_I f q) else 1000000000)) hI1 hI2 (by rw [if_pos (show v = y by omega)]) h0⟩
      · refine ck_go_run 8 (X1 := (if s 490 (0 + v) = 1 then 125 else 143, [some (.inr (480, 3, 6)), some (.inl k), some (.inl a), some (.inl y), some (.inl v)], [.inl ((42 + (4 * v)) + a), .inr (490, 0, 82)], s)) (ps := [0 ≤ 0 + v ∧ 0 + v < ((82 : Nat) : Int), ck_rg (s 490 (0 + v)), ck_rg 1]) rfl ⟨⟨by omega, by omega⟩, (ck_rgo (by omega) (by omega)), (ck_rgo (by omega) (by omega)), trivial⟩ ?_
        refine ck_go_ite (fun h5 => ?_) (fun h5 => ?_)
        · refine ck_go_run 8 (X1 := (137, [some (.inr (480, 3, 6)), some (.inl k), some (.inl a), some (.inl y), some (.inl v)], [.inl a, .inl (s 490 (10 + v)), .inr (480, 3, 6), .inl ((42 + (4 * v)) + a), .inr (490, 0, 82)], s)) (ps := [0 ≤ 10 + v ∧ 10 + v < ((82 : Nat) : Int)]) rfl ⟨⟨by omega, by omega⟩, trivial⟩ ?_
          refine ck_go_cal (rest := [.inl ((42 + (4 * v)) + a), .inr (490, 0, 82)]) (ck_cal_le (by decide) (cx_ag (k := s 490 (10 + v)) (r := a) ha (by omega) e4 e5 (by omega) b5)) ⟨_, rfl, Or.inl ⟨_, rfl⟩, rfl, rfl, rfl, Nat.le_of_ble_eq_true rfl, fun _ => ⟨_, _, rfl⟩⟩ ?_
          rintro _ s' ⟨rfl, e'⟩
          rw [e']
          clear e' s'
          refine ck_go_run 4 (X1 := (82, [some (.inr (480, 3, 6)), some (.inl k), some (.inl a), some (.inl y), some (.inl (v + 1))], [], ck_up s 490 ((42 + (4 * v)) + a) (ck_ag (1 + k) (if ck_K f y = 1 then ck_I f y else 1000000000) (s 490 (10 + v))))) (ps := [0 ≤ (42 + (4 * v)) + a ∧ (42 + (4 * v)) + a < ((82 : Nat) : Int)]) rfl ⟨⟨by omega, by omega⟩, trivial⟩ ?_
          exact kk _ ⟨by omega, by omega, ck_su4 (g := fun q => (if q = y then 0 else if ck_K f q = 1 then ck_ag (1 + k) (if ck_K f y = 1 then ck_I f y else 1000000000) (ck_I f q) else 1000000000)) hI1 hI2 (by rw [if_neg (show ¬ v = y by omega), if_pos (show ck_K f v = 1 by omega), e2]) h0⟩
        · refine ck_go_run 4 (X1 := (82, [some (.inr (480, 3, 6)), some (.inl k), some (.inl a), some (.inl y), some (.inl (v + 1))], [], ck_up s 490 ((42 + (4 * v)) + a) 1000000000)) (ps := [0 ≤ (42 + (4 * v)) + a ∧ (42 + (4 * v)) + a < ((82 : Nat) : Int)]) rfl ⟨⟨by omega, by omega⟩, trivial⟩ ?_
          exact kk _ ⟨by omega, by omega, ck_su4 (g := fun q => (if q = y then 0 else if ck_K f q = 1 then ck_ag (1 + k) (if ck_K f y = 1 then ck_I f y else 1000000000) (ck_I f q) else 1000000000)) hI1 hI2 (by rw [if_neg (show ¬ v = y by omega), if_neg (show ¬ ck_K f v = 1 by omega)]) h0⟩
    · obtain ⟨h0, h4, hI1, hI2⟩ := hI
      refine ck_go_run 3 (X1 := (if v < 10 then 89 else 152, [some (.inr (480, 3, 6)), some (.inl k), some (.inl a), some (.inl y), some (.inl v)], [], s)) (ps := [ck_rg v, ck_rg 10]) rfl ⟨(ck_rgo (by omega) (by omega)), (ck_rgo (by omega) (by omega)), trivial⟩ ?_
      refine ck_go_f (by omega) ?_
      refine ck_eV ⟨rfl, ?_, ?_⟩ rfl rfl rfl
      · intro b j hb
        rw [hI1 b j (by omega), ht1, if_neg (by omega), ht0]
        simp only [ck_up]
        (repeat' split) <;> first | rfl | omega
      · unfold ck_qNew
        refine ck_P_ext (fun n a0 a1 => ?_) (fun n a0 a1 => ?_) (fun n a0 a1 => ?_) (fun q b0 b1 => ?_) (fun q b0 b1 => ?_) (fun q b0 b1 => ?_) (fun n q a0 a1 b0 b1 => ?_)
        · rw [← ck_y_K hf a0 a1, hI1 490 (0 + n) (by omega), ht1, if_neg (by omega), ht0]
          simp only [ck_up, true_and]
          (repeat' split) <;> first | rfl | omega
        · rw [← ck_y_I hf a0 a1, hI1 490 (10 + n) (by omega), ht1, if_neg (by omega), ht0]
          simp only [ck_up, true_and]
          (repeat' split) <;> first | rfl | omega
        · rw [← ck_y_L hf a0 a1, hI1 490 (20 + n) (by omega), ht1, if_neg (by omega), ht0]
          simp only [ck_up, true_and]
          (repeat' split) <;> first | rfl | omega
        · rw [← ck_y_V hf b0 b1, hI1 490 (30 + q) (by omega), ht1, if_neg (by omega), ht0]
          simp only [ck_up, true_and]
          (repeat' split) <;> first | rfl | omega
        · rw [← ck_y_T hf b0 b1, hI1 490 (34 + q) (by omega), ht1, if_neg (by omega), ht0]
          simp only [ck_up, true_and]
          (repeat' split) <;> first | rfl | omega
        · rw [hI1 490 (38 + q) (by omega), ht1]
          by_cases hq : q = a
          · rw [if_pos (by omega), if_pos hq]
          · rw [if_neg (by omega), if_neg hq, ht0, ← ck_y_G hf b0 b1]
            simp only [ck_up, true_and]
            (repeat' split) <;> first | rfl | omega
        · by_cases hq : q = a
          · subst hq
            rw [if_pos rfl, hI2 n a0 (by omega)]
          · rw [if_neg hq, ← ck_y_H hf a0 a1 b0 b1, hI1 490 (42 + 4 * n + q) (by omega), ht1, if_neg (by omega), ht0]
            simp only [ck_up, true_and]
            (repeat' split) <;> first | rfl | omega
end
section
theorem ck_forI {d : Nat} {md : ck_MD} {T : ck_F → Prop} (hd : Nat) (ls : Int → Int → ck_Ls) (B : Int) (I : Int → Int → ck_M → Prop) (body : ∀ v x σ, v < B → I v x σ → (∀ x' σ', I (v + 1) x' σ' → ck_go d md (hd, ls (v + 1) x', [], σ') T) → ck_go d md (hd, ls v x, [], σ) T) (stop : ∀ v x σ, B ≤ v → I v x σ → ck_go d md (hd, ls v x, [], σ) T) : ∀ v x σ, I v x σ → ck_go d md (hd, ls v x, [], σ) T := by
  have h : ∀ (n : Nat) (v x : Int) (σ : ck_M), (B - v).toNat ≤ n → I v x σ → ck_go d md (hd, ls v x, [], σ) T := by
    intro n
    induction n with
    | zero => exact fun v x σ hn hI => stop v x σ (by omega) hI
    | succ n ih =>
      intro v x σ hn hI
      by_cases hv : v < B
      · exact body v x σ hv hI (fun x' σ' h' => ih (v + 1) x' σ' (by omega) h')
      · exact stop v x σ (by omega) hI
  exact fun v x σ hI => h _ v x σ (Nat.le_refl _) hI
/-- 82 places of the array a, from 82 k on, hold what the cell 490 held; nothing else has changed -/
def ck_kp (σ σ' : ck_M) (a k : Int) : Prop := (∀ b j, (b ≠ a ∨ j < 82 * k ∨ 82 * k + 82 ≤ j) → σ' b j = σ b j) ∧ ∀ q, 0 ≤ q → q < 82 → σ' a (82 * k + q) = σ 490 q
theorem cx_keep {a k : Int} (ha : a ≠ 490) (hk : 0 ≤ k ∧ k < 64) {σ : ck_M} : ck_cal 1 cm_Mo_keep [.inr (480, 3, 6), .inr (a, 0, 5248), .inl k] σ (fun q σ' => q = none ∧ ck_kp σ σ' a k) := by
  refine ck_cal_of ?_
  refine ck_go_run 2 (X1 := (2, [some (.inr (480, 3, 6)), some (.inr (a, 0, 5248)), some (.inl k), some (.inl 0)], [], σ)) (ps := []) rfl trivial ?_
  refine ck_for 2 (fun v => [some (.inr (480, 3, 6)), some (.inr (a, 0, 5248)), some (.inl k), some (.inl v)]) 82 (fun v s => 0 ≤ v ∧ v ≤ 82 ∧ (∀ b j, (b ≠ a ∨ j < 82 * k ∨ 82 * k + v ≤ j) → s b j = σ b j) ∧ ∀ q, 0 ≤ q → q < v → s a (82 * k + q) = σ 490 q) (fun v s hv hI kk => ?_) (fun v s hv hI => ?_) 0 _ ⟨by omega, by omega, fun _ _ _ => rfl, fun _ _ _ => by omega⟩
  · obtain ⟨h0, h4, hI1, hI2⟩ := hI
    refine ck_go_run 3 (X1 := (if v < 82 then 8 else 28, [some (.inr (480, 3, 6)), some (.inr (a, 0, 5248)), some (.inl k), some (.inl v)], [], s)) (ps := [ck_rg v, ck_rg 82]) rfl ⟨(ck_rgo (by omega) (by omega)), (ck_rgo (by omega) (by omega)), trivial⟩ ?_
    refine ck_go_t hv ?_
    refine ck_go_run 13 (X1 := (2, [some (.inr (480, 3, 6)), some (.inr (a, 0, 5248)), some (.inl k), some (.inl (v + 1))], [], ck_up s a ((82 * k) + v) (s 490 v))) (ps := [0 ≤ v ∧ v < ((82 : Nat) : Int), 0 ≤ (82 * k) + v ∧ (82 * k) + v < ((5248 : Nat) : Int)]) rfl ⟨⟨by omega, by omega⟩, ⟨by omega, by omega⟩, trivial⟩ ?_
    exact kk _ ⟨by omega, by omega, ck_st1 (base := 82 * k) (g := fun q => σ 490 q) hI1 hI2 (hI1 490 v (by omega)) h0⟩
  · obtain ⟨h0, h4, hI1, hI2⟩ := hI
    refine ck_go_run 3 (X1 := (if v < 82 then 8 else 28, [some (.inr (480, 3, 6)), some (.inr (a, 0, 5248)), some (.inl k), some (.inl v)], [], s)) (ps := [ck_rg v, ck_rg 82]) rfl ⟨(ck_rgo (by omega) (by omega)), (ck_rgo (by omega) (by omega)), trivial⟩ ?_
    refine ck_go_f (by omega) ?_
    exact ck_eV ⟨rfl, fun b j hb => hI1 b j (by omega), fun q z0 z1 => hI2 q z0 (by omega)⟩ rfl rfl rfl
theorem cx_take {a k : Int} (ha : a ≠ 490) (hk : 0 ≤ k ∧ k < 64) {σ : ck_M} : ck_cal 1 cm_Mo_take [.inr (480, 3, 6), .inr (a, 0, 5248), .inl k] σ (fun q σ' => q = none ∧ ck_f1 σ σ' 490 ∧ ∀ q, 0 ≤ q → q < 82 → σ' 490 q = σ a (82 * k + q)) := by
  refine ck_cal_of ?_
  refine ck_go_run 2 (X1 := (2, [some (.inr (480, 3, 6)), some (.inr (a, 0, 5248)), some (.inl k), some (.inl 0)], [], σ)) (ps := []) rfl trivial ?_
  refine ck_for 2 (fun v => [some (.inr (480, 3, 6)), some (.inr (a, 0, 5248)), some (.inl k), some (.inl v)]) 82 (fun v s => 0 ≤ v ∧ v ≤ 82 ∧ (∀ b j, (b ≠ 490 ∨ j < 0 ∨ v ≤ j) → s b j = σ b j) ∧ ∀ q, 0 ≤ q → q < v → s 490 q = σ a (82 * k + q)) (fun v s hv hI kk => ?_) (fun v s hv hI => ?_) 0 _ ⟨by omega, by omega, fun _ _ _ => rfl, fun _ _ _ => by omega⟩
  · obtain ⟨h0, h4, hI1, hI2⟩ := hI
    refine ck_go_run 3 (X1 := (if v < 82 then 8 else 28, [some (.inr (480, 3, 6)), some (.inr (a, 0, 5248)), some (.inl k), some (.inl v)], [], s)) (ps := [ck_rg v, ck_rg 82]) rfl ⟨(ck_rgo (by omega) (by omega)), (ck_rgo (by omega) (by omega)), trivial⟩ ?_
    refine ck_go_t hv ?_
    refine ck_go_run 13 (X1 := (2, [some (.inr (480, 3, 6)), some (.inr (a, 0, 5248)), some (.inl k), some (.inl (v + 1))], [], ck_up s 490 v (s a ((82 * k) + v)))) (ps := [0 ≤ (82 * k) + v ∧ (82 * k) + v < ((5248 : Nat) : Int), 0 ≤ v ∧ v < ((82 : Nat) : Int)]) rfl ⟨⟨by omega, by omega⟩, ⟨by omega, by omega⟩, trivial⟩ ?_
    exact kk _ ⟨by omega, by omega, ck_st0 (g := fun q => σ a (82 * k + q)) hI1 hI2 (hI1 a (82 * k + v) (by omega)) h0⟩
  · obtain ⟨h0, h4, hI1, hI2⟩ := hI
    refine ck_go_run 3 (X1 := (if v < 82 then 8 else 28, [some (.inr (480, 3, 6)), some (.inr (a, 0, 5248)), some (.inl k), some (.inl v)], [], s)) (ps := [ck_rg v, ck_rg 82]) rfl ⟨(ck_rgo (by omega) (by omega)), (ck_rgo (by omega) (by omega)), trivial⟩ ?_
    refine ck_go_f (by omega) ?_
    exact ck_eV ⟨rfl, fun b j hb => hI1 b j (by omega), fun q z0 z1 => hI2 q z0 (by omega)⟩ rfl rfl rfl
theorem cx_tell {k : Int} (hk : 0 ≤ k ∧ k < 64) {σ : ck_M} (hW1 : ∀ q, 0 ≤ q → q < 82 → ck_rg (σ 491 (82 * k + q))) (hW2 : ∀ q, 0 ≤ q → q < 82 → ck_rg (σ 490 q)) : ck_cal 2 cm_Mo_tell [.inr (480, 3, 6), .inl k] σ (fun q σ' => ck_kp σ σ' 491 k ∧ ((q = some 0 ∧ ∀ q, 0 ≤ q → q < 82 → σ 491 (82 * k + q) = σ 490 q) ∨ (q = some 1 ∧ ¬ ∀ q, 0 ≤ q → q < 82 → σ 491 (82 * k + q) = σ 490 q))) := by
  refine ck_cal_of ?_
  refine ck_go_run 4 (X1 := (4, [some (.inr (480, 3, 6)), some (.inl k), some (.inl 0), some (.inl 0)], [], σ)) (ps := []) rfl trivial ?_
  refine ck_forI 4 (fun v x => [some (.inr (480, 3, 6)), some (.inl k), some (.inl x), some (.inl v)]) 82 (fun v x s => (0 ≤ v ∧ v ≤ 82) ∧ s = σ ∧ (x = 0 ∨ x = 1) ∧ (x = 0 ↔ ∀ q, 0 ≤ q → q < v → σ 491 (82 * k + q) = σ 490 q)) (fun v x s hv hI kk => ?_) (fun v x s hv hI => ?_) 0 0 _ ⟨⟨by omega, by omega⟩, rfl, Or.inl rfl, ⟨fun _ q z0 z1 => by omega, fun _ => rfl⟩⟩
  · obtain ⟨⟨h0, h4⟩, hs, hx, hI⟩ := hI
    have w1 := hW1 v h0 hv
    have w2 := hW2 v h0 hv
    rw [← hs] at w1 w2
    refine ck_go_run 3 (X1 := (if v < 82 then 10 else 46, [some (.inr (480, 3, 6)), some (.inl k), some (.inl x), some (.inl v)], [], s)) (ps := [ck_rg v, ck_rg 82]) rfl ⟨(ck_rgo (by omega) (by omega)), (ck_rgo (by omega) (by omega)), trivial⟩ ?_
    refine ck_go_t hv ?_
    refine ck_go_run 2 (X1 := (if x = 0 then 14 else 34, [some (.inr (480, 3, 6)), some (.inl k), some (.inl x), some (.inl v)], [], s)) (ps := [ck_rg x]) rfl ⟨(ck_rgo (by omega) (by omega)), trivial⟩ ?_
    refine ck_go_ite (fun h1 => ?_) (fun h1 => ?_)
    · refine ck_go_run 13 (X1 := (if s 491 ((82 * k) + v) = s 490 v then 38 else 34, [some (.inr (480, 3, 6)), some (.inl k), some (.inl x), some (.inl v)], [], s)) (ps := [0 ≤ (82 * k) + v ∧ (82 * k) + v < ((5248 : Nat) : Int), 0 ≤ v ∧ v < ((82 : Nat) : Int), ck_rg (s 491 ((82 * k) + v)), ck_rg (s 490 v)]) rfl ⟨⟨by omega, by omega⟩, ⟨by omega, by omega⟩, w1, w2, trivial⟩ ?_
      refine ck_go_ite (fun h2 => ?_) (fun h2 => ?_)
      · refine ck_go_run 4 (X1 := (4, [some (.inr (480, 3, 6)), some (.inl k), some (.inl 0), some (.inl (v + 1))], [], s)) (ps := []) rfl trivial ?_
        exact kk 0 _ ⟨⟨by omega, by omega⟩, hs, Or.inl rfl, ⟨fun _ q z0 z1 => by
          by_cases hq : q = v
          · subst hq
            rw [← hs]
            assumption
          · exact hI.mp (by assumption) q z0 (by omega), fun _ => rfl⟩⟩
      · refine ck_go_run 5 (X1 := (4, [some (.inr (480, 3, 6)), some (.inl k), some (.inl 1), some (.inl (v + 1))], [], s)) (ps := []) rfl trivial ?_
        exact kk 1 _ ⟨⟨by omega, by omega⟩, hs, Or.inr rfl, ⟨fun z => absurd z (by decide), fun z => by
          exfalso
          have hz := hI.mpr (fun q z0 z1 => z q z0 (by omega))
          have hz2 := z v h0 (by omega)
          rw [← hs] at hz2
          first | exact absurd hz (by assumption) | exact absurd hz2 (by assumption)⟩⟩
    · refine ck_go_run 5 (X1 := (4, [some (.inr (480, 3, 6)), some (.inl k), some (.inl 1), some (.inl (v + 1))], [], s)) (ps := []) rfl trivial ?_
      exact kk 1 _ ⟨⟨by omega, by omega⟩, hs, Or.inr rfl, ⟨fun z => absurd z (by decide), fun z => by
        exfalso
        have hz := hI.mpr (fun q z0 z1 => z q z0 (by omega))
        have hz2 := z v h0 (by omega)
        rw [← hs] at hz2
        first | exact absurd hz (by assumption) | exact absurd hz2 (by assumption)⟩⟩
  · obtain ⟨⟨h0, h4⟩, hs, hx, hI⟩ := hI
    refine ck_go_run 3 (X1 := (if v < 82 then 10 else 46, [some (.inr (480, 3, 6)), some (.inl k), some (.inl x), some (.inl v)], [], s)) (ps := [ck_rg v, ck_rg 82]) rfl ⟨(ck_rgo (by omega) (by omega)), (ck_rgo (by omega) (by omega)), trivial⟩ ?_
    refine ck_go_f (by omega) ?_
    refine ck_go_run 4 (X1 := (52, [some (.inr (480, 3, 6)), some (.inl k), some (.inl x), some (.inl v)], [.inl k, .inr (491, 0, 5248), .inr (480, 3, 6)], s)) (ps := []) rfl trivial ?_
    refine ck_go_cal (rest := []) (ck_cal_le (by decide) (cx_keep (a := 491) (k := k) (by decide) hk)) ⟨_, rfl, Or.inl ⟨_, rfl⟩, rfl, rfl, rfl, Nat.le_of_ble_eq_true rfl, fun _ => ⟨_, _, rfl⟩⟩ ?_
    rintro _ s1 ⟨rfl, g1⟩
    try dsimp only at g1
    rw [hs] at g1
    refine ck_go_run 1 (X1 := (56, [some (.inr (480, 3, 6)), some (.inl k), some (.inl x), some (.inl v)], [.inl x], s1)) (ps := []) rfl trivial ?_
    refine ck_eZ hx ⟨g1, ?_⟩ rfl rfl rfl
    rcases hx with hx | hx
    · left
      exact ⟨by rw [hx], fun q z0 z1 => hI.mp hx q z0 (by omega)⟩
    · right
      exact ⟨by rw [hx], fun z => absurd (hI.mpr (fun q z0 z1 => z q z0 (by omega))) (by omega)⟩
end
section
theorem ck_mid {d : Nat} {md : ck_MD} {T : ck_F → Prop} {X : ck_F} (pc : Nat) (ls : (Option ck_PV × Option ck_PV × Option ck_PV) → ck_Ls) (J : ck_M → Prop) (h2 : ∀ u σ, J σ → ck_go d md (pc, ls u, [], σ) T) (h1 : (∀ u σ, J σ → ck_go d md (pc, ls u, [], σ) T) → ck_go d md X T) : ck_go d md X T := h1 h2
section CKU
variable {s : ck_M} {f : ck_Q} {n r x : Int}
theorem ck_u_K (h : ck_mv (s 490) = f) (h0 : 0 ≤ n) (h1 : n < 10) : ck_mv ((ck_up s 490 (0 + n) x) 490) = ck_P (fun m => if m = n then x else ck_K f m) (ck_I f) (ck_L f) (ck_V f) (ck_T f) (ck_G f) (ck_H f) := by
  refine ck_P_ext (fun n a0 a1 => ?_) (fun n a0 a1 => ?_) (fun n a0 a1 => ?_) (fun q b0 b1 => ?_) (fun q b0 b1 => ?_) (fun q b0 b1 => ?_) (fun n q a0 a1 b0 b1 => ?_)
  · rw [← ck_y_K h a0 a1]
    simp only [ck_up, true_and]
    (repeat' split) <;> first | rfl | omega
  · rw [← ck_y_I h a0 a1]
    simp only [ck_up, true_and]
    (repeat' split) <;> first | rfl | omega
  · rw [← ck_y_L h a0 a1]
    simp only [ck_up, true_and]
    (repeat' split) <;> first | rfl | omega
  · rw [← ck_y_V h b0 b1]
    simp only [ck_up, true_and]
    (repeat' split) <;> first | rfl | omega
  · rw [← ck_y_T h b0 b1]
    simp only [ck_up, true_and]
    (repeat' split) <;> first | rfl | omega
  · rw [← ck_y_G h b0 b1]
    simp only [ck_up, true_and]
    (repeat' split) <;> first | rfl | omega
  · rw [← ck_y_H h a0 a1 b0 b1]
    simp only [ck_up, true_and]
    (repeat' split) <;> first | rfl | omega
theorem ck_u_I (h : ck_mv (s 490) = f) (h0 : 0 ≤ n) (h1 : n < 10) : ck_mv ((ck_up s 490 (10 + n) x) 490) = ck_P (ck_K f) (fun m => if m = n then x else ck_I f m) (ck_L f) (ck_V f) (ck_T f) (ck_G f) (ck_H f) := by
  refine ck_P_ext (fun n a0 a1 => ?_) (fun n a0 a1 => ?_) (fun n a0 a1 => ?_) (fun q b0 b1 => ?_) (fun q b0 b1 => ?_) (fun q b0 b1 => ?_) (fun n q a0 a1 b0 b1 => ?_)
  · rw [← ck_y_K h a0 a1]
    simp only [ck_up, true_and]
    (repeat' split) <;> first | rfl | omega
  · rw [← ck_y_I h a0 a1]
    simp only [ck_up, true_and]
    (repeat' split) <;> first | rfl | omega
  · rw [← ck_y_L h a0 a1]
    simp only [ck_up, true_and]
    (repeat' split) <;> first | rfl | omega
  · rw [← ck_y_V h b0 b1]
    simp only [ck_up, true_and]
    (repeat' split) <;> first | rfl | omega
  · rw [← ck_y_T h b0 b1]
    simp only [ck_up, true_and]
    (repeat' split) <;> first | rfl | omega
  · rw [← ck_y_G h b0 b1]
    simp only [ck_up, true_and]
    (repeat' split) <;> first | rfl | omega
  · rw [← ck_y_H h a0 a1 b0 b1]
    simp only [ck_up, true_and]
    (repeat' split) <;> first | rfl | omega
theorem ck_u_L (h : ck_mv (s 490) = f) (h0 : 0 ≤ n) (h1 : n < 10) : ck_mv ((ck_up s 490 (20 + n) x) 490) = ck_P (ck_K f) (ck_I f) (fun m => if m = n then x else ck_L f m) (ck_V f) (ck_T f) (ck_G f) (ck_H f) := by
  refine ck_P_ext (fun n a0 a1 => ?_) (fun n a0 a1 => ?_) (fun n a0 a1 => ?_) (fun q b0 b1 => ?_) (fun q b0 b1 => ?_) (fun q b0 b1 => ?_) (fun n q a0 a1 b0 b1 => ?_)
  · rw [← ck_y_K h a0 a1]
    simp only [ck_up, true_and]
    (repeat' split) <;> first | rfl | omega
  · rw [← ck_y_I h a0 a1]
    simp only [ck_up, true_and]
    (repeat' split) <;> first | rfl | omega
  · rw [← ck_y_L h a0 a1]
    simp only [ck_up, true_and]
    (repeat' split) <;> first | rfl | omega
  · rw [← ck_y_V h b0 b1]
    simp only [ck_up, true_and]
    (repeat' split) <;> first | rfl | omega
  · rw [← ck_y_T h b0 b1]
    simp only [ck_up, true_and]
    (repeat' split) <;> first | rfl | omega
  · rw [← ck_y_G h b0 b1]
    simp only [ck_up, true_and]
    (repeat' split) <;> first | rfl | omega
  · rw [← ck_y_H h a0 a1 b0 b1]
    simp only [ck_up, true_and]
    (repeat' split) <;> first | rfl | omega
theorem ck_u_V (h : ck_mv (s 490) = f) (h0 : 0 ≤ r) (h1 : r < 4) : ck_mv ((ck_up s 490 (30 + r) x) 490) = ck_P (ck_K f) (ck_I f) (ck_L f) (fun m => if m = r then x else ck_V f m) (ck_T f) (ck_G f) (ck_H f) := by
  refine ck_P_ext (fun n a0 a1 => ?_) (fun n a0 a1 => ?_) (fun n a0 a1 => ?_) (fun q b0 b1 => ?_) (fun q b0 b1 => ?_) (fun q b0 b1 => ?_) (fun n q a0 a1 b0 b1 => ?_)
  · rw [← ck_y_K h a0 a1]
    simp only [ck_up, true_and]
    (repeat' split) <;> first | rfl | omega
  · rw [← ck_y_I h a0 a1]
    simp only [ck_up, true_and]
    (repeat' split) <;> first | rfl | omega
  · rw [← ck_y_L h a0 a1]
    simp only [ck_up, true_and]
    (repeat' split) <;> first | rfl | omega
  · rw [← ck_y_V h b0 b1]
    simp only [ck_up, true_and]
    (repeat' split) <;> first | rfl | omega
  · rw [← ck_y_T h b0 b1]
    simp only [ck_up, true_and]
    (repeat' split) <;> first | rfl | omega
  · rw [← ck_y_G h b0 b1]
    simp only [ck_up, true_and]
    (repeat' split) <;> first | rfl | omega
  · rw [← ck_y_H h a0 a1 b0 b1]
    simp only [ck_up, true_and]
    (repeat' split) <;> first | rfl | omega
theorem ck_u_T (h : ck_mv (s 490) = f) (h0 : 0 ≤ r) (h1 : r < 4) : ck_mv ((ck_up s 490 (34 + r) x) 490) = ck_P (ck_K f) (ck_I f) (ck_L f) (ck_V f) (fun m => if m = r then x else ck_T f m) (ck_G f) (ck_H f) := by
  refine ck_P_ext (fun n a0 a1 => ?_) (fun n a0 a1 => ?_) (fun n a0 a1 => ?_) (fun q b0 b1 => ?_) (fun q b0 b1 => ?_) (fun q b0 b1 => ?_) (fun n q a0 a1 b0 b1 => ?_)
  · rw [← ck_y_K h a0 a1]
    simp only [ck_up, true_and]
    (repeat' split) <;> first | rfl | omega
  · rw [← ck_y_I h a0 a1]
    simp only [ck_up, true_and]
    (repeat' split) <;> first | rfl | omega
  · rw [← ck_y_L h a0 a1]
    simp only [ck_up, true_and]
    (repeat' split) <;> first | rfl | omega
  · rw [← ck_y_V h b0 b1]
    simp only [ck_up, true_and]
    (repeat' split) <;> first | rfl | omega
  · rw [← ck_y_T h b0 b1]
    simp only [ck_up, true_and]
    (repeat' split) <;> first | rfl | omega
  · rw [← ck_y_G h b0 b1]
    simp only [ck_up, true_and]
    (repeat' split) <;> first | rfl | omega
  · rw [← ck_y_H h a0 a1 b0 b1]
    simp only [ck_up, true_and]
    (repeat' split) <;> first | rfl | omega
theorem ck_u_G (h : ck_mv (s 490) = f) (h0 : 0 ≤ r) (h1 : r < 4) : ck_mv ((ck_up s 490 (38 + r) x) 490) = ck_P (ck_K f) (ck_I f) (ck_L f) (ck_V f) (ck_T f) (fun m => if m = r then x else ck_G f m) (ck_H f) := by
  refine ck_P_ext (fun n a0 a1 => ?_) (fun n a0 a1 => ?_) (fun n a0 a1 => ?_) (fun q b0 b1 => ?_) (fun q b0 b1 => ?_) (fun q b0 b1 => ?_) (fun n q a0 a1 b0 b1 => ?_)
  · rw [← ck_y_K h a0 a1]
    simp only [ck_up, true_and]
    (repeat' split) <;> first | rfl | omega
  · rw [← ck_y_I h a0 a1]
    simp only [ck_up, true_and]
    (repeat' split) <;> first | rfl | omega
  · rw [← ck_y_L h a0 a1]
    simp only [ck_up, true_and]
    (repeat' split) <;> first | rfl | omega
  · rw [← ck_y_V h b0 b1]
    simp only [ck_up, true_and]
    (repeat' split) <;> first | rfl | omega
  · rw [← ck_y_T h b0 b1]
    simp only [ck_up, true_and]
    (repeat' split) <;> first | rfl | omega
  · rw [← ck_y_G h b0 b1]
    simp only [ck_up, true_and]
    (repeat' split) <;> first | rfl | omega
  · rw [← ck_y_H h a0 a1 b0 b1]
    simp only [ck_up, true_and]
    (repeat' split) <;> first | rfl | omega
theorem ck_u_H (h : ck_mv (s 490) = f) (h0 : 0 ≤ n) (h1 : n < 10) (h2 : 0 ≤ r) (h3 : r < 4) : ck_mv ((ck_up s 490 (42 + 4 * n + r) x) 490) = ck_P (ck_K f) (ck_I f) (ck_L f) (ck_V f) (ck_T f) (ck_G f) (fun m q => if m = n ∧ q = r then x else ck_H f m q) := by
  refine ck_P_ext (fun n a0 a1 => ?_) (fun n a0 a1 => ?_) (fun n a0 a1 => ?_) (fun q b0 b1 => ?_) (fun q b0 b1 => ?_) (fun q b0 b1 => ?_) (fun n q a0 a1 b0 b1 => ?_)
  · rw [← ck_y_K h a0 a1]
    simp only [ck_up, true_and]
    (repeat' split) <;> first | rfl | omega
  · rw [← ck_y_I h a0 a1]
    simp only [ck_up, true_and]
    (repeat' split) <;> first | rfl | omega
  · rw [← ck_y_L h a0 a1]
    simp only [ck_up, true_and]
    (repeat' split) <;> first | rfl | omega
  · rw [← ck_y_V h b0 b1]
    simp only [ck_up, true_and]
    (repeat' split) <;> first | rfl | omega
  · rw [← ck_y_T h b0 b1]
    simp only [ck_up, true_and]
    (repeat' split) <;> first | rfl | omega
  · rw [← ck_y_G h b0 b1]
    simp only [ck_up, true_and]
    (repeat' split) <;> first | rfl | omega
  · rw [← ck_y_H h a0 a1 b0 b1]
    simp only [ck_up, true_and]
    (repeat' split) <;> first | rfl | omega
end CKU
theorem ck_f1_up {σ s : ck_M} {a i x : Int} (h : ck_f1 σ s a) : ck_f1 σ (ck_up s a i x) a := by
  intro b j hb
  unfold ck_up
  rw [if_neg (by rintro ⟨q, -⟩; exact hb q)]
  exact h b j hb
def ck_jK (g f : ck_Q) (n : Int) : Int := if ck_K f n = 1 ∧ ck_K g n = 1 ∧ ck_I f n = ck_I g n then 1 else 0
def ck_qJn (a b h w : Int) (g f : ck_Q) : ck_Q := ck_P (fun n => if n < a then ck_jK g f n else ck_K f n) (ck_I f) (fun n => if n < b then ck_wo (ck_L f n) (ck_L g n) 0 else ck_L f n) (ck_V f) (ck_T f) (ck_G f) (fun n q => if n < h ∨ (n = h ∧ q < w) then ck_wo (ck_H f n q) (ck_H g n q) 1 else ck_H f n q)
def ck_qJr (v : Int) (g : ck_Q) (k : Int) (f : ck_Q) : ck_Q := ck_P (ck_jK g f) (ck_I f) (fun n => ck_wo (ck_L f n) (ck_L g n) 0) (fun q => if q < v then (if ck_V f q = ck_V g q then ck_V f q else 100 + 4 * k + q) else ck_V f q) (fun q => if q < v then (if ck_T f q = 1 ∧ ck_T g q = 1 then 1 else 0) else ck_T f q) (fun q => if q < v then (if ck_V f q = ck_V g q then ck_G f q else 1000000000) else ck_G f q) (fun n q => ck_wo (ck_H f n q) (ck_H g n q) 1)
/-- the join of a row with the row g, at the statement k -/
def ck_qJ (g : ck_Q) (k : Int) (f : ck_Q) : ck_Q := ck_qJr 4 g k f
theorem ck_qJn_K {v : Int} {f g : ck_Q} : ck_P (fun n => if n = v then ck_jK g f v else ck_K (ck_qJn v v v 0 g f) n) (ck_I (ck_qJn v v v 0 g f)) (ck_L (ck_qJn v v v 0 g f)) (ck_V (ck_qJn v v v 0 g f)) (ck_T (ck_qJn v v v 0 g f)) (ck_G (ck_qJn v v v 0 g f)) (ck_H (ck_qJn v v v 0 g f)) = ck_qJn (v + 1) v v 0 g f := by
  unfold ck_qJn
  refine ck_P_ext (fun n a0 a1 => ?_) (fun n a0 a1 => ?_) (fun n a0 a1 => ?_) (fun q b0 b1 => ?_) (fun q b0 b1 => ?_) (fun q b0 b1 => ?_) (fun n q a0 a1 b0 b1 => ?_)
  · rw [ck_P_K a0 a1]
    by_cases hn : n = v
    · subst hn
      rw [if_pos rfl, if_pos (by omega)]
    · (repeat' split) <;> first | rfl | omega
  · rw [ck_P_I a0 a1]
  · rw [ck_P_L a0 a1]
  · rw [ck_P_V b0 b1]
  · rw [ck_P_T b0 b1]
  · rw [ck_P_G b0 b1]
  · rw [ck_P_H a0 a1 b0 b1]
theorem ck_qJn_Kx {v x : Int} {f g : ck_Q} (hx : x = ck_jK g f v) : ck_P (fun n => if n = v then x else ck_K (ck_qJn v v v 0 g f) n) (ck_I (ck_qJn v v v 0 g f)) (ck_L (ck_qJn v v v 0 g f)) (ck_V (ck_qJn v v v 0 g f)) (ck_T (ck_qJn v v v 0 g f)) (ck_G (ck_qJn v v v 0 g f)) (ck_H (ck_qJn v v v 0 g f)) = ck_qJn (v + 1) v v 0 g f := by
  subst hx
  exact ck_qJn_K
theorem ck_qJn_L {v : Int} {f g : ck_Q} : ck_P (ck_K (ck_qJn (v + 1) v v 0 g f)) (ck_I (ck_qJn (v + 1) v v 0 g f)) (fun n => if n = v then ck_wo (ck_L f v) (ck_L g v) 0 else ck_L (ck_qJn (v + 1) v v 0 g f) n) (ck_V (ck_qJn (v + 1) v v 0 g f)) (ck_T (ck_qJn (v + 1) v v 0 g f)) (ck_G (ck_qJn (v + 1) v v 0 g f)) (ck_H (ck_qJn (v + 1) v v 0 g f)) = ck_qJn (v + 1) (v + 1) v 0 g f := by
  unfold ck_qJn
  refine ck_P_ext (fun n a0 a1 => ?_) (fun n a0 a1 => ?_) (fun n a0 a1 => ?_) (fun q b0 b1 => ?_) (fun q b0 b1 => ?_) (fun q b0 b1 => ?_) (fun n q a0 a1 b0 b1 => ?_)
  · rw [ck_P_K a0 a1]
  · rw [ck_P_I a0 a1]
  · rw [ck_P_L a0 a1]
    by_cases hn : n = v
    · subst hn
      rw [if_pos rfl, if_pos (by omega)]
    · (repeat' split) <;> first | rfl | omega
  · rw [ck_P_V b0 b1]
  · rw [ck_P_T b0 b1]
  · rw [ck_P_G b0 b1]
  · rw [ck_P_H a0 a1 b0 b1]
theorem ck_qJn_H {v w : Int} {f g : ck_Q} : ck_P (ck_K (ck_qJn (v + 1) (v + 1) v w g f)) (ck_I (ck_qJn (v + 1) (v + 1) v w g f)) (ck_L (ck_qJn (v + 1) (v + 1) v w g f)) (ck_V (ck_qJn (v + 1) (v + 1) v w g f)) (ck_T (ck_qJn (v + 1) (v + 1) v w g f)) (ck_G (ck_qJn (v + 1) (v + 1) v w g f)) (fun n q => if n = v ∧ q = w then ck_wo (ck_H f v w) (ck_H g v w) 1 else ck_H (ck_qJn (v + 1) (v + 1) v w g f) n q) = ck_qJn (v + 1) (v + 1) v (w + 1) g f := by
  unfold ck_qJn
  refine ck_P_ext (fun n a0 a1 => ?_) (fun n a0 a1 => ?_) (fun n a0 a1 => ?_) (fun q b0 b1 => ?_) (fun q b0 b1 => ?_) (fun q b0 b1 => ?_) (fun n q a0 a1 b0 b1 => ?_)
  · rw [ck_P_K a0 a1]
  · rw [ck_P_I a0 a1]
  · rw [ck_P_L a0 a1]
  · rw [ck_P_V b0 b1]
  · rw [ck_P_T b0 b1]
  · rw [ck_P_G b0 b1]
  · rw [ck_P_H a0 a1 b0 b1]
    by_cases hn : n = v ∧ q = w
    · obtain ⟨rfl, rfl⟩ := hn
      rw [if_pos ⟨rfl, rfl⟩, if_pos (by omega)]
    · rw [if_neg hn]
      (repeat' split) <;> first | rfl | omega
theorem ck_qJn_n {v w : Int} {f g : ck_Q} (h : 4 ≤ w) : ck_qJn (v + 1) (v + 1) v w g f = ck_qJn (v + 1) (v + 1) (v + 1) 0 g f := by
  unfold ck_qJn
  refine ck_P_ext (fun n a0 a1 => rfl) (fun n a0 a1 => rfl) (fun n a0 a1 => rfl) (fun q b0 b1 => rfl) (fun q b0 b1 => rfl) (fun q b0 b1 => rfl) (fun n q a0 a1 b0 b1 => ?_)
  (repeat' split) <;> first | rfl | omega
theorem ck_qJn_0 {f : ck_Q} {g : ck_Q} {w : Int → Int} (h : ck_mv w = f) : ck_mv w = ck_qJn 0 0 0 0 g f := by
  unfold ck_qJn
  refine ck_P_ext (fun n a0 a1 => ?_) (fun n a0 a1 => ?_) (fun n a0 a1 => ?_) (fun q b0 b1 => ?_) (fun q b0 b1 => ?_) (fun q b0 b1 => ?_) (fun n q a0 a1 b0 b1 => ?_)
  · rw [if_neg (by omega)]; exact ck_y_K h a0 a1
  · exact ck_y_I h a0 a1
  · rw [if_neg (by omega)]; exact ck_y_L h a0 a1
  · exact ck_y_V h b0 b1
  · exact ck_y_T h b0 b1
  · exact ck_y_G h b0 b1
  · rw [if_neg (by omega)]; exact ck_y_H h a0 a1 b0 b1
theorem ck_qJn_9 {v k : Int} {f g : ck_Q} (h : 10 ≤ v) : ck_qJn v v v 0 g f = ck_qJr 0 g k f := by
  unfold ck_qJn ck_qJr
  refine ck_P_ext (fun n a0 a1 => ?_) (fun n a0 a1 => rfl) (fun n a0 a1 => ?_) (fun q b0 b1 => ?_) (fun q b0 b1 => ?_) (fun q b0 b1 => ?_) (fun n q a0 a1 b0 b1 => ?_)
  · rw [if_pos (by omega)]
  · rw [if_pos (by omega)]
  · rw [if_neg (by omega)]
  · rw [if_neg (by omega)]
  · rw [if_neg (by omega)]
  · rw [if_pos (by omega)]
theorem ck_qJr_s {v k : Int} {f g : ck_Q} (h0 : 0 ≤ v) (h4 : v < 4) {w : Int → Int} {xT xG xV : Int} (h : ck_mv w = ck_P (ck_K (ck_qJr v g k f)) (ck_I (ck_qJr v g k f)) (ck_L (ck_qJr v g k f)) (fun q => if q = v then xV else ck_V (ck_qJr v g k f) q) (fun q => if q = v then xT else ck_T (ck_qJr v g k f) q) (fun q => if q = v then xG else ck_G (ck_qJr v g k f) q) (ck_H (ck_qJr v g k f))) (hT : xT = if ck_T f v = 1 ∧ ck_T g v = 1 then 1 else 0) (hG : xG = if ck_V f v = ck_V g v then ck_G f v else 1000000000) (hV : xV = if ck_V f v = ck_V g v then ck_V f v else 100 + 4 * k + v) : ck_mv w = ck_qJr (v + 1) g k f := by
  rw [h]
  subst hT hG hV
  unfold ck_qJr
  refine ck_P_ext (fun n a0 a1 => ?_) (fun n a0 a1 => ?_) (fun n a0 a1 => ?_) (fun q b0 b1 => ?_) (fun q b0 b1 => ?_) (fun q b0 b1 => ?_) (fun n q a0 a1 b0 b1 => ?_)
  · rw [ck_P_K a0 a1]
  · rw [ck_P_I a0 a1]
  · rw [ck_P_L a0 a1]
  · rw [ck_P_V b0 b1]
    by_cases hq : q = v
    · subst hq
      rw [if_pos rfl, if_pos (show q < q + 1 by omega)]
    · rw [if_neg hq]
      by_cases hq2 : q < v
      · rw [if_pos hq2, if_pos (show q < v + 1 by omega)]
      · rw [if_neg hq2, if_neg (show ¬ q < v + 1 by omega)]
  · rw [ck_P_T b0 b1]
    by_cases hq : q = v
    · subst hq
      rw [if_pos rfl, if_pos (show q < q + 1 by omega)]
    · rw [if_neg hq]
      by_cases hq2 : q < v
      · rw [if_pos hq2, if_pos (show q < v + 1 by omega)]
      · rw [if_neg hq2, if_neg (show ¬ q < v + 1 by omega)]
  · rw [ck_P_G b0 b1]
    by_cases hq : q = v
    · subst hq
      rw [if_pos rfl, if_pos (show q < q + 1 by omega)]
    · rw [if_neg hq]
      by_cases hq2 : q < v
      · rw [if_pos hq2, if_pos (show q < v + 1 by omega)]
      · rw [if_neg hq2, if_neg (show ¬ q < v + 1 by omega)]
  · rw [ck_P_H a0 a1 b0 b1]
theorem ck_qJr_4 {v k : Int} {f g : ck_Q} (h : 4 ≤ v) : ck_qJr v g k f = ck_qJ g k f := by
  unfold ck_qJ ck_qJr
  refine ck_P_ext (fun n a0 a1 => rfl) (fun n a0 a1 => rfl) (fun n a0 a1 => rfl) (fun q b0 b1 => ?_) (fun q b0 b1 => ?_) (fun q b0 b1 => ?_) (fun n q a0 a1 b0 b1 => rfl) <;> rw [if_pos (show q < v by omega), if_pos (show q < 4 by omega)]
end
section
set_option maxHeartbeats 20000000 in
set_option maxRecDepth 4000 in
theorem cx_join {a o k : Int} (ha : a ≠ 490) (ho : 0 ≤ o ∧ o + 82 ≤ 5248) {σ : ck_M} {f g : ck_Q} (hf : ck_mv (σ 490) = f) (hB : ck_qb f) (hg : ck_mv (fun j => σ a (o + j)) = g) (hG : ck_qb g) : ck_cal 2 cm_Mo_join [.inr (480, 3, 6), .inr (a, 0, 5248), .inl o, .inl k] σ (fun q σ' => q = none ∧ ck_f1 σ σ' 490 ∧ ck_mv (σ' 490) = ck_qJ g k f) := by
  refine ck_cal_of ?_
  refine ck_go_run 2 (X1 := (3, [some (.inr (480, 3, 6)), some (.inr (a, 0, 5248)), some (.inl o), some (.inl k), some (.inl 0), none, none], [], σ)) (ps := []) rfl trivial ?_
  refine ck_forU 3 (fun v u => [some (.inr (480, 3, 6)), some (.inr (a, 0, 5248)), some (.inl o), some (.inl k), some (.inl v), u.1, u.2.1]) 10 (fun v s => 0 ≤ v ∧ v ≤ 10 ∧ ck_f1 σ s 490 ∧ ck_mv (s 490) = ck_qJn v v v 0 g f) (fun v u s hv hI kk => ?_) (fun v u s hv hI => ?_) 0 (none, none, none) _ ⟨by omega, by omega, fun _ _ _ => rfl, ck_qJn_0 hf⟩
  · obtain ⟨h0, h4, hf1, hr⟩ := hI
    have e1 : s 490 (0 + v) = ck_K f v := by
      rw [ck_y_K hr h0 hv]
      simp only [ck_qJn, ck_P_K h0 hv]
      try (rw [if_neg (by omega)])
    have e2 : s a (o + 0 + v) = ck_K g v := by
      rw [hf1 a _ ha, show o + 0 + v = o + (0 + v) by omega]
      exact ck_y_K hg h0 hv
    have e3 : s 490 (10 + v) = ck_I f v := by
      rw [ck_y_I hr h0 hv]
      simp only [ck_qJn, ck_P_I h0 hv]
      try (rw [if_neg (by omega)])
    have e4 : s a (o + 10 + v) = ck_I g v := by
      rw [hf1 a _ ha, show o + 10 + v = o + (10 + v) by omega]
      exact ck_y_I hg h0 hv
    have b1 := hB.1 v
    have b2 := hG.1 v
    have b3 := hB.2.1 v
    have b4 := hG.2.1 v
    refine ck_go_run 3 (X1 := (if v < 10 then 10 else 185, [some (.inr (480, 3, 6)), some (.inr (a, 0, 5248)), some (.inl o), some (.inl k), some (.inl v), u.1, u.2.1], [], s)) (ps := [ck_rg v, ck_rg 10]) rfl ⟨(ck_rgo (by omega) (by omega)), (ck_rgo (by omega) (by omega)), trivial⟩ ?_
    refine ck_go_t hv ?_
    refine ck_mid 83 (fun u => [some (.inr (480, 3, 6)), some (.inr (a, 0, 5248)), some (.inl o), some (.inl k), some (.inl v), u.1, u.2.1]) (fun s2 => ck_f1 σ s2 490 ∧ ck_mv (s2 490) = ck_qJn (v + 1) v v 0 g f) (fun u s2 hJ => ?_) (fun jj => ?_)
    · obtain ⟨mf, mr⟩ := hJ
      have e5 : s2 490 (20 + v) = ck_L f v := by
        rw [ck_y_L mr h0 hv]
        simp only [ck_qJn, ck_P_L h0 hv]
        try (rw [if_neg (by omega)])
      have e6 : s2 a (o + 20 + v) = ck_L g v := by
        rw [mf a _ ha, show o + 20 + v = o + (20 + v) by omega]
        exact ck_y_L hg h0 hv
      have b5 := hB.2.2.1 v
      have b6 := hG.2.2.1 v
      refine ck_go_run 19 (X1 := (112, [some (.inr (480, 3, 6)), some (.inr (a, 0, 5248)), some (.inl o), some (.inl k), some (.inl v), u.1, u.2.1], [.inl 0, .inl (s2 a ((o + 20) + v)), .inl (s2 490 (20 + v)), .inl (20 + v), .inr (490, 0, 82)], s2)) (ps := [0 ≤ 20 + v ∧ 20 + v < ((82 : Nat) : Int), 0 ≤ (o + 20) + v ∧ (o + 20) + v < ((5248 : Nat) : Int)]) rfl ⟨⟨by omega, by omega⟩, ⟨by omega, by omega⟩, trivial⟩ ?_
      refine ck_go_cal (rest := [.inl (20 + v), .inr (490, 0, 82)]) (ck_cal_le (by decide) (cx_worst (a := s2 490 (20 + v)) (b := s2 a ((o + 20) + v)) (g := 0) (by omega) (by omega) (Or.inl rfl) _)) ⟨_, rfl, Or.inr ⟨_, rfl⟩, rfl, rfl, rfl, Nat.le_of_ble_eq_true rfl, fun h => absurd h (by decide)⟩ ?_
      rintro _ s' ⟨rfl, e'⟩
      rw [e']
      clear e' s'
      refine ck_go_run 3 (X1 := (119, [some (.inr (480, 3, 6)), some (.inr (a, 0, 5248)), some (.inl o), some (.inl k), some (.inl v), u.1, some (.inl 0)], [], ck_up s2 490 (20 + v) (ck_wo (s2 490 (20 + v)) (s2 a ((o + 20) + v)) 0))) (ps := [0 ≤ 20 + v ∧ 20 + v < ((82 : Nat) : Int)]) rfl ⟨⟨by omega, by omega⟩, trivial⟩ ?_
      refine ck_for 119 (fun w => [some (.inr (480, 3, 6)), some (.inr (a, 0, 5248)), some (.inl o), some (.inl k), some (.inl v), u.1, some (.inl w)]) 4 (fun w t => 0 ≤ w ∧ w ≤ 4 ∧ ck_f1 σ t 490 ∧ ck_mv (t 490) = ck_qJn (v + 1) (v + 1) v w g f) (fun w t hv hI kk => ?_) (fun w t hv hI => ?_) 0 _ ⟨by omega, by omega, ck_f1_up mf, by
        rw [ck_u_L mr h0 (by omega), e5, e6]
        exact ck_qJn_L⟩
      · obtain ⟨k0, k4, jf, jr⟩ := hI
        have e7 : t 490 (42 + 4 * v + w) = ck_H f v w := by
          rw [ck_y_H jr h0 (by omega) k0 hv]
          simp only [ck_qJn, ck_P_H h0 (show v < 10 by omega) k0 hv]
          rw [if_neg (by omega)]
        have e8 : t a (o + 42 + 4 * v + w) = ck_H g v w := by
          rw [jf a _ ha, show o + 42 + 4 * v + w = o + (42 + 4 * v + w) by omega]
          exact ck_y_H hg h0 (by omega) k0 hv
        have b7 := hB.2.2.2.2.2.2 v w
        have b8 := hG.2.2.2.2.2.2 v w
        refine ck_go_run 3 (X1 := (if w < 4 then 125 else 179, [some (.inr (480, 3, 6)), some (.inr (a, 0, 5248)), some (.inl o), some (.inl k), some (.inl v), u.1, some (.inl w)], [], t)) (ps := [ck_rg w, ck_rg 4]) rfl ⟨(ck_rgo (by omega) (by omega)), (ck_rgo (by omega) (by omega)), trivial⟩ ?_
        refine ck_go_t hv ?_
        refine ck_go_run 31 (X1 := (169, [some (.inr (480, 3, 6)), some (.inr (a, 0, 5248)), some (.inl o), some (.inl k), some (.inl v), u.1, some (.inl w)], [.inl 1, .inl (t a (((o + 42) + (4 * v)) + w)), .inl (t 490 ((42 + (4 * v)) + w)), .inl ((42 + (4 * v)) + w), .inr (490, 0, 82)], t)) (ps := [0 ≤ (42 + (4 * v)) + w ∧ (42 + (4 * v)) + w < ((82 : Nat) : Int), 0 ≤ ((o + 42) + (4 * v)) + w ∧ ((o + 42) + (4 * v)) + w < ((5248 : Nat) : Int)]) rfl ⟨⟨by omega, by omega⟩, ⟨by omega, by omega⟩, trivial⟩ ?_
        refine ck_go_cal (rest := [.inl ((42 + (4 * v)) + w), .inr (490, 0, 82)]) (ck_cal_le (by decide) (cx_worst (a := t 490 ((42 + (4 * v)) + w)) (b := t a (((o + 42) + (4 * v)) + w)) (g := 1) (by omega) (by omega) (Or.inr rfl) _)) ⟨_, rfl, Or.inr ⟨_, rfl⟩, rfl, rfl, rfl, Nat.le_of_ble_eq_true rfl, fun h => absurd h (by decide)⟩ ?_
        rintro _ s' ⟨rfl, e'⟩
        rw [e']
        clear e' s'
        refine ck_go_run 3 (X1 := (119, [some (.inr (480, 3, 6)), some (.inr (a, 0, 5248)), some (.inl o), some (.inl k), some (.inl v), u.1, some (.inl (w + 1))], [], ck_up t 490 ((42 + (4 * v)) + w) (ck_wo (t 490 ((42 + (4 * v)) + w)) (t a (((o + 42) + (4 * v)) + w)) 1))) (ps := [0 ≤ (42 + (4 * v)) + w ∧ (42 + (4 * v)) + w < ((82 : Nat) : Int)]) rfl ⟨⟨by omega, by omega⟩, trivial⟩ ?_
        exact kk _ ⟨by omega, by omega, ck_f1_up jf, by
          rw [ck_u_H jr h0 (by omega) k0 hv, e7, e8]
          exact ck_qJn_H⟩
      · obtain ⟨k0, k4, jf, jr⟩ := hI
        refine ck_go_run 3 (X1 := (if w < 4 then 125 else 179, [some (.inr (480, 3, 6)), some (.inr (a, 0, 5248)), some (.inl o), some (.inl k), some (.inl v), u.1, some (.inl w)], [], t)) (ps := [ck_rg w, ck_rg 4]) rfl ⟨(ck_rgo (by omega) (by omega)), (ck_rgo (by omega) (by omega)), trivial⟩ ?_
        refine ck_go_f (by omega) ?_
        refine ck_go_run 2 (X1 := (3, [some (.inr (480, 3, 6)), some (.inr (a, 0, 5248)), some (.inl o), some (.inl k), some (.inl (v + 1)), u.1, some (.inl w)], [], t)) (ps := []) rfl trivial ?_
        exact kk (u.1, some (.inl w), none) _ ⟨by omega, by omega, jf, by rw [jr, ck_qJn_n hv]⟩
    · refine ck_go_run 8 (X1 := (if s 490 (0 + v) = 1 then 23 else 61, [some (.inr (480, 3, 6)), some (.inr (a, 0, 5248)), some (.inl o), some (.inl k), some (.inl v), u.1, u.2.1], [], s)) (ps := [0 ≤ 0 + v ∧ 0 + v < ((82 : Nat) : Int), ck_rg (s 490 (0 + v)), ck_rg 1]) rfl ⟨⟨by omega, by omega⟩, (ck_rgo (by omega) (by omega)), (ck_rgo (by omega) (by omega)), trivial⟩ ?_
      refine ck_go_ite (fun h1 => ?_) (fun h1 => ?_)
      · refine ck_go_run 9 (X1 := (if s a ((o + 0) + v) = 1 then 35 else 61, [some (.inr (480, 3, 6)), some (.inr (a, 0, 5248)), some (.inl o), some (.inl k), some (.inl v), u.1, u.2.1], [], s)) (ps := [0 ≤ (o + 0) + v ∧ (o + 0) + v < ((5248 : Nat) : Int), ck_rg (s a ((o + 0) + v)), ck_rg 1]) rfl ⟨⟨by omega, by omega⟩, (ck_rgo (by omega) (by omega)), (ck_rgo (by omega) (by omega)), trivial⟩ ?_
        refine ck_go_ite (fun h2 => ?_) (fun h2 => ?_)
        · refine ck_go_run 14 (X1 := (if s 490 (10 + v) = s a ((o + 10) + v) then 57 else 61, [some (.inr (480, 3, 6)), some (.inr (a, 0, 5248)), some (.inl o), some (.inl k), some (.inl v), u.1, u.2.1], [], s)) (ps := [0 ≤ 10 + v ∧ 10 + v < ((82 : Nat) : Int), 0 ≤ (o + 10) + v ∧ (o + 10) + v < ((5248 : Nat) : Int), ck_rg (s 490 (10 + v)), ck_rg (s a ((o + 10) + v))]) rfl ⟨⟨by omega, by omega⟩, ⟨by omega, by omega⟩, (ck_rgo (by omega) (by omega)), (ck_rgo (by omega) (by omega)), trivial⟩ ?_
          refine ck_go_ite (fun h3 => ?_) (fun h3 => ?_)
          · refine ck_go_run 10 (X1 := (if 1 = 0 then 81 else 77, [some (.inr (480, 3, 6)), some (.inr (a, 0, 5248)), some (.inl o), some (.inl k), some (.inl v), some (.inl 1), u.2.1], [.inl (0 + v), .inr (490, 0, 82)], s)) (ps := [ck_rg 1]) rfl ⟨(ck_rgo (by omega) (by omega)), trivial⟩ ?_
            refine ck_go_f (by decide) ?_
            refine ck_go_run 3 (X1 := (83, [some (.inr (480, 3, 6)), some (.inr (a, 0, 5248)), some (.inl o), some (.inl k), some (.inl v), some (.inl 1), u.2.1], [], ck_up s 490 (0 + v) 1)) (ps := [0 ≤ 0 + v ∧ 0 + v < ((82 : Nat) : Int)]) rfl ⟨⟨by omega, by omega⟩, trivial⟩ ?_
            exact jj (some (.inl 1), u.2.1, none) _ ⟨ck_f1_up hf1, by
              rw [ck_u_K hr h0 hv]
              exact ck_qJn_Kx (by
                unfold ck_jK
                rw [if_pos (by omega)])⟩
          · refine ck_go_run 9 (X1 := (if 0 = 0 then 81 else 77, [some (.inr (480, 3, 6)), some (.inr (a, 0, 5248)), some (.inl o), some (.inl k), some (.inl v), some (.inl 0), u.2.1], [.inl (0 + v), .inr (490, 0, 82)], s)) (ps := [ck_rg 0]) rfl ⟨(ck_rgo (by omega) (by omega)), trivial⟩ ?_
            refine ck_go_t (by decide) ?_
            refine ck_go_run 2 (X1 := (83, [some (.inr (480, 3, 6)), some (.inr (a, 0, 5248)), some (.inl o), some (.inl k), some (.inl v), some (.inl 0), u.2.1], [], ck_up s 490 (0 + v) 0)) (ps := [0 ≤ 0 + v ∧ 0 + v < ((82 : Nat) : Int)]) rfl ⟨⟨by omega, by omega⟩, trivial⟩ ?_
            exact jj (some (.inl 0), u.2.1, none) _ ⟨ck_f1_up hf1, by
              rw [ck_u_K hr h0 hv]
              exact ck_qJn_Kx (by
                unfold ck_jK
                rw [if_neg (by omega)])⟩
        · refine ck_go_run 9 (X1 := (if 0 = 0 then 81 else 77, [some (.inr (480, 3, 6)), some (.inr (a, 0, 5248)), some (.inl o), some (.inl k), some (.inl v), some (.inl 0), u.2.1], [.inl (0 + v), .inr (490, 0, 82)], s)) (ps := [ck_rg 0]) rfl ⟨(ck_rgo (by omega) (by omega)), trivial⟩ ?_
          refine ck_go_t (by decide) ?_
          refine ck_go_run 2 (X1 := (83, [some (.inr (480, 3, 6)), some (.inr (a, 0, 5248)), some (.inl o), some (.inl k), some (.inl v), some (.inl 0), u.2.1], [], ck_up s 490 (0 + v) 0)) (ps := [0 ≤ 0 + v ∧ 0 + v < ((82 : Nat) : Int)]) rfl ⟨⟨by omega, by omega⟩, trivial⟩ ?_
          exact jj (some (.inl 0), u.2.1, none) _ ⟨ck_f1_up hf1, by
            rw [ck_u_K hr h0 hv]
            exact ck_qJn_Kx (by
              unfold ck_jK
              rw [if_neg (by omega)])⟩
      · refine ck_go_run 9 (X1 := (if 0 = 0 then 81 else 77, [some (.inr (480, 3, 6)), some (.inr (a, 0, 5248)), some (.inl o), some (.inl k), some (.inl v), some (.inl 0), u.2.1], [.inl (0 + v), .inr (490, 0, 82)], s)) (ps := [ck_rg 0]) rfl ⟨(ck_rgo (by omega) (by omega)), trivial⟩ ?_
        refine ck_go_t (by decide) ?_
        refine ck_go_run 2 (X1 := (83, [some (.inr (480, 3, 6)), some (.inr (a, 0, 5248)), some (.inl o), some (.inl k), some (.inl v), some (.inl 0), u.2.1], [], ck_up s 490 (0 + v) 0)) (ps := [0 ≤ 0 + v ∧ 0 + v < ((82 : Nat) : Int)]) rfl ⟨⟨by omega, by omega⟩, trivial⟩ ?_
        exact jj (some (.inl 0), u.2.1, none) _ ⟨ck_f1_up hf1, by
          rw [ck_u_K hr h0 hv]
          exact ck_qJn_Kx (by
            unfold ck_jK
            rw [if_neg (by omega)])⟩
  · obtain ⟨h0, h4, hf1, hr⟩ := hI
    refine ck_go_run 3 (X1 := (if v < 10 then 10 else 185, [some (.inr (480, 3, 6)), some (.inr (a, 0, 5248)), some (.inl o), some (.inl k), some (.inl v), u.1, u.2.1], [], s)) (ps := [ck_rg v, ck_rg 10]) rfl ⟨(ck_rgo (by omega) (by omega)), (ck_rgo (by omega) (by omega)), trivial⟩ ?_
    refine ck_go_f (by omega) ?_
    refine ck_go_run 2 (X1 := (188, [some (.inr (480, 3, 6)), some (.inr (a, 0, 5248)), some (.inl o), some (.inl k), some (.inl 0), u.1, u.2.1], [], s)) (ps := []) rfl trivial ?_
    refine ck_forU 188 (fun y u => [some (.inr (480, 3, 6)), some (.inr (a, 0, 5248)), some (.inl o), some (.inl k), some (.inl y), u.1, u.2.1]) 4 (fun y z => 0 ≤ y ∧ y ≤ 4 ∧ ck_f1 σ z 490 ∧ ck_mv (z 490) = ck_qJr y g k f) (fun y u z hv hI kk => ?_) (fun y u z hv hI => ?_) 0 (u.1, u.2.1, none) _ ⟨by omega, by omega, hf1, by rw [hr, ck_qJn_9 hv]⟩
    · obtain ⟨n0, n4, nf, nr⟩ := hI
      have c1 : z 490 (30 + y) = ck_V f y := by
        rw [ck_y_V nr n0 hv]
        simp only [ck_qJr, ck_P_V n0 hv]
        rw [if_neg (by omega)]
      have c2 : z a (o + 30 + y) = ck_V g y := by
        rw [nf a _ ha, show o + 30 + y = o + (30 + y) by omega]
        exact ck_y_V hg n0 hv
      have c3 : z 490 (34 + y) = ck_T f y := by
        rw [ck_y_T nr n0 hv]
        simp only [ck_qJr, ck_P_T n0 hv]
        rw [if_neg (by omega)]
      have c4 : z a (o + 34 + y) = ck_T g y := by
        rw [nf a _ ha, show o + 34 + y = o + (34 + y) by omega]
        exact ck_y_T hg n0 hv
      have c5 : z 490 (38 + y) = ck_G f y := by
        rw [ck_y_G nr n0 hv]
        simp only [ck_qJr, ck_P_G n0 hv]
        rw [if_neg (by omega)]
      have d1 := hB.2.2.2.1 y
      have d2 := hG.2.2.2.1 y
      have d3 := hB.2.2.2.2.1 y
      have d4 := hG.2.2.2.2.1 y
      refine ck_go_run 3 (X1 := (if y < 4 then 194 else 338, [some (.inr (480, 3, 6)), some (.inr (a, 0, 5248)), some (.inl o), some (.inl k), some (.inl y), u.1, u.2.1], [], z)) (ps := [ck_rg y, ck_rg 4]) rfl ⟨(ck_rgo (by omega) (by omega)), (ck_rgo (by omega) (by omega)), trivial⟩ ?_
      refine ck_go_t hv ?_
      refine ck_go_run 14 (X1 := (if z 490 (30 + y) = z a ((o + 30) + y) then 216 else 220, [some (.inr (480, 3, 6)), some (.inr (a, 0, 5248)), some (.inl o), some (.inl k), some (.inl y), u.1, u.2.1], [], z)) (ps := [0 ≤ 30 + y ∧ 30 + y < ((82 : Nat) : Int), 0 ≤ (o + 30) + y ∧ (o + 30) + y < ((5248 : Nat) : Int), ck_rg (z 490 (30 + y)), ck_rg (z a ((o + 30) + y))]) rfl ⟨⟨by omega, by omega⟩, ⟨by omega, by omega⟩, (ck_rgo (by omega) (by omega)), (ck_rgo (by omega) (by omega)), trivial⟩ ?_
      refine ck_go_ite (fun h4 => ?_) (fun h4 => ?_)
      · refine ck_go_run 16 (X1 := (if z 490 (34 + y) = 1 then 246 else 263, [some (.inr (480, 3, 6)), some (.inr (a, 0, 5248)), some (.inl o), some (.inl k), some (.inl y), some (.inl 1), u.2.1], [.inl (34 + y), .inr (490, 0, 82)], z)) (ps := [0 ≤ 34 + y ∧ 34 + y < ((82 : Nat) : Int), ck_rg (z 490 (34 + y)), ck_rg 1]) rfl ⟨⟨by omega, by omega⟩, (ck_rgo (by omega) (by omega)), (ck_rgo (by omega) (by omega)), trivial⟩ ?_
        refine ck_go_ite (fun h5 => ?_) (fun h5 => ?_)
        · refine ck_go_run 9 (X1 := (if z a ((o + 34) + y) = 1 then 259 else 263, [some (.inr (480, 3, 6)), some (.inr (a, 0, 5248)), some (.inl o), some (.inl k), some (.inl y), some (.inl 1), u.2.1], [.inl (34 + y), .inr (490, 0, 82)], z)) (ps := [0 ≤ (o + 34) + y ∧ (o + 34) + y < ((5248 : Nat) : Int), ck_rg (z a ((o + 34) + y)), ck_rg 1]) rfl ⟨⟨by omega, by omega⟩, (ck_rgo (by omega) (by omega)), (ck_rgo (by omega) (by omega)), trivial⟩ ?_
          refine ck_go_ite (fun h6 => ?_) (fun h6 => ?_)
          · refine ck_go_run 10 (X1 := (if 1 = 0 then 292 else 279, [some (.inr (480, 3, 6)), some (.inr (a, 0, 5248)), some (.inl o), some (.inl k), some (.inl y), some (.inl 1), u.2.1], [.inl (38 + y), .inr (490, 0, 82)], ck_up z 490 (34 + y) 1)) (ps := [0 ≤ 34 + y ∧ 34 + y < ((82 : Nat) : Int), ck_rg 1]) rfl ⟨⟨by omega, by omega⟩, (ck_rgo (by omega) (by omega)), trivial⟩ ?_
            refine ck_go_f (by decide) ?_
            refine ck_go_run 15 (X1 := (if 1 = 0 then 322 else 309, [some (.inr (480, 3, 6)), some (.inr (a, 0, 5248)), some (.inl o), some (.inl k), some (.inl y), some (.inl 1), u.2.1], [.inl (30 + y), .inr (490, 0, 82)], ck_up (ck_up z 490 (34 + y) 1) 490 (38 + y) ((ck_up z 490 (34 + y) 1) 490 (38 + y)))) (ps := [0 ≤ 38 + y ∧ 38 + y < ((82 : Nat) : Int), 0 ≤ 38 + y ∧ 38 + y < ((82 : Nat) : Int), ck_rg 1]) rfl ⟨⟨by omega, by omega⟩, ⟨by omega, by omega⟩, (ck_rgo (by omega) (by omega)), trivial⟩ ?_
            refine ck_go_f (by decide) ?_
            refine ck_go_run 10 (X1 := (188, [some (.inr (480, 3, 6)), some (.inr (a, 0, 5248)), some (.inl o), some (.inl k), some (.inl (y + 1)), some (.inl 1), u.2.1], [], ck_up (ck_up (ck_up z 490 (34 + y) 1) 490 (38 + y) ((ck_up z 490 (34 + y) 1) 490 (38 + y))) 490 (30 + y) ((ck_up (ck_up z 490 (34 + y) 1) 490 (38 + y) ((ck_up z 490 (34 + y) 1) 490 (38 + y))) 490 (30 + y)))) (ps := [0 ≤ 30 + y ∧ 30 + y < ((82 : Nat) : Int), 0 ≤ 30 + y ∧ 30 + y < ((82 : Nat) : Int)]) rfl ⟨⟨by omega, by omega⟩, ⟨by omega, by omega⟩, trivial⟩ ?_
            exact kk (some (.inl 1), u.2.1, none) _ ⟨by omega, by omega, ck_f1_up (ck_f1_up (ck_f1_up nf)), ck_qJr_s n0 hv (by
              rw [ck_u_V (ck_u_G (ck_u_T nr n0 hv) n0 hv) n0 hv]
              refine ck_P_ext (fun n a0 a1 => ?_) (fun n a0 a1 => ?_) (fun n a0 a1 => ?_) (fun q b0 b1 => ?_) (fun q b0 b1 => ?_) (fun q b0 b1 => ?_) (fun n q a0 a1 b0 b1 => ?_)
              · rw [ck_P_K a0 a1, ck_P_K a0 a1]
              · rw [ck_P_I a0 a1, ck_P_I a0 a1]
              · rw [ck_P_L a0 a1, ck_P_L a0 a1]
              · rw [ck_P_V b0 b1, ck_P_V b0 b1]
              · rw [ck_P_T b0 b1, ck_P_T b0 b1]
              · rw [ck_P_G b0 b1, ck_P_G b0 b1]
              · rw [ck_P_H a0 a1 b0 b1, ck_P_H a0 a1 b0 b1]) (by rw [if_pos (by omega)]) (by
              rw [if_pos (show ck_V f y = ck_V g y by omega)]
              rw [← c5]
              simp only [ck_up, true_and]
              rw [if_neg (by omega)]) (by
              rw [if_pos (show ck_V f y = ck_V g y by omega)]
              rw [← c1]
              simp only [ck_up, true_and]
              rw [if_neg (by omega), if_neg (by omega)])⟩
          · refine ck_go_run 9 (X1 := (if 1 = 0 then 292 else 279, [some (.inr (480, 3, 6)), some (.inr (a, 0, 5248)), some (.inl o), some (.inl k), some (.inl y), some (.inl 1), u.2.1], [.inl (38 + y), .inr (490, 0, 82)], ck_up z 490 (34 + y) 0)) (ps := [0 ≤ 34 + y ∧ 34 + y < ((82 : Nat) : Int), ck_rg 1]) rfl ⟨⟨by omega, by omega⟩, (ck_rgo (by omega) (by omega)), trivial⟩ ?_
            refine ck_go_f (by decide) ?_
            refine ck_go_run 15 (X1 := (if 1 = 0 then 322 else 309, [some (.inr (480, 3, 6)), some (.inr (a, 0, 5248)), some (.inl o), some (.inl k), some (.inl y), some (.inl 1), u.2.1], [.inl (30 + y), .inr (490, 0, 82)], ck_up (ck_up z 490 (34 + y) 0) 490 (38 + y) ((ck_up z 490 (34 + y) 0) 490 (38 + y)))) (ps := [0 ≤ 38 + y ∧ 38 + y < ((82 : Nat) : Int), 0 ≤ 38 + y ∧ 38 + y < ((82 : Nat) : Int), ck_rg 1]) rfl ⟨⟨by omega, by omega⟩, ⟨by omega, by omega⟩, (ck_rgo (by omega) (by omega)), trivial⟩ ?_
            refine ck_go_f (by decide) ?_
            refine ck_go_run 10 (X1 := (188, [some (.inr (480, 3, 6)), some (.inr (a, 0, 5248)), some (.inl o), some (.inl k), some (.inl (y + 1)), some (.inl 1), u.2.1], [], ck_up (ck_up (ck_up z 490 (34 + y) 0) 490 (38 + y) ((ck_up z 490 (34 + y) 0) 490 (38 + y))) 490 (30 + y) ((ck_up (ck_up z 490 (34 + y) 0) 490 (38 + y) ((ck_up z 490 (34 + y) 0) 490 (38 + y))) 490 (30 + y)))) (ps := [0 ≤ 30 + y ∧ 30 + y < ((82 : Nat) : Int), 0 ≤ 30 + y ∧ 30 + y < ((82 : Nat) : Int)]) rfl ⟨⟨by omega, by omega⟩, ⟨by omega, by omega⟩, trivial⟩ ?_
            exact kk (some (.inl 1), u.2.1, none) _ ⟨by omega, by omega, ck_f1_up (ck_f1_up (ck_f1_up nf)), ck_qJr_s n0 hv (by
              rw [ck_u_V (ck_u_G (ck_u_T nr n0 hv) n0 hv) n0 hv]
              refine ck_P_ext (fun n a0 a1 => ?_) (fun n a0 a1 => ?_) (fun n a0 a1 => ?_) (fun q b0 b1 => ?_) (fun q b0 b1 => ?_) (fun q b0 b1 => ?_) (fun n q a0 a1 b0 b1 => ?_)
              · rw [ck_P_K a0 a1, ck_P_K a0 a1]
              · rw [ck_P_I a0 a1, ck_P_I a0 a1]
              · rw [ck_P_L a0 a1, ck_P_L a0 a1]
              · rw [ck_P_V b0 b1, ck_P_V b0 b1]
              · rw [ck_P_T b0 b1, ck_P_T b0 b1]
              · rw [ck_P_G b0 b1, ck_P_G b0 b1]
              · rw [ck_P_H a0 a1 b0 b1, ck_P_H a0 a1 b0 b1]) (by rw [if_neg (by omega)]) (by
              rw [if_pos (show ck_V f y = ck_V g y by omega)]
              rw [← c5]
              simp only [ck_up, true_and]
              rw [if_neg (by omega)]) (by
              rw [if_pos (show ck_V f y = ck_V g y by omega)]
              rw [← c1]
              simp only [ck_up, true_and]
              rw [if_neg (by omega), if_neg (by omega)])⟩
        · refine ck_go_run 9 (X1 := (if 1 = 0 then 292 else 279, [some (.inr (480, 3, 6)), some (.inr (a, 0, 5248)), some (.inl o), some (.inl k), some (.inl y), some (.inl 1), u.2.1], [.inl (38 + y), .inr (490, 0, 82)], ck_up z 490 (34 + y) 0)) (ps := [0 ≤ 34 + y ∧ 34 + y < ((82 : Nat) : Int), ck_rg 1]) rfl ⟨⟨by omega, by omega⟩, (ck_rgo (by omega) (by omega)), trivial⟩ ?_
          refine ck_go_f (by decide) ?_
          refine ck_go_run 15 (X1 := (if 1 = 0 then 322 else 309, [some (.inr (480, 3, 6)), some (.inr (a, 0, 5248)), some (.inl o), some (.inl k), some (.inl y), some (.inl 1), u.2.1], [.inl (30 + y), .inr (490, 0, 82)], ck_up (ck_up z 490 (34 + y) 0) 490 (38 + y) ((ck_up z 490 (34 + y) 0) 490 (38 + y)))) (ps := [0 ≤ 38 + y ∧ 38 + y < ((82 : Nat) : Int), 0 ≤ 38 + y ∧ 38 + y < ((82 : Nat) : Int), ck_rg 1]) rfl ⟨⟨by omega, by omega⟩, ⟨by omega, by omega⟩, (ck_rgo (by omega) (by omega)), trivial⟩ ?_
          refine ck_go_f (by decide) ?_
          refine ck_go_run 10 (X1 := (188, [some (.inr (480, 3, 6)), some (.inr (a, 0, 5248)), some (.inl o), some (.inl k), some (.inl (y + 1)), some (.inl 1), u.2.1], [], ck_up (ck_up (ck_up z 490 (34 + y) 0) 490 (38 + y) ((ck_up z 490 (34 + y) 0) 490 (38 + y))) 490 (30 + y) ((ck_up (ck_up z 490 (34 + y) 0) 490 (38 + y) ((ck_up z 490 (34 + y) 0) 490 (38 + y))) 490 (30 + y)))) (ps := [0 ≤ 30 + y ∧ 30 + y < ((82 : Nat) : Int), 0 ≤ 30 + y ∧ 30 + y < ((82 : Nat) : Int)]) rfl ⟨⟨by omega, by omega⟩, ⟨by omega, by omega⟩, trivial⟩ ?_
          exact kk (some (.inl 1), u.2.1, none) _ ⟨by omega, by omega, ck_f1_up (ck_f1_up (ck_f1_up nf)), ck_qJr_s n0 hv (by
            rw [ck_u_V (ck_u_G (ck_u_T nr n0 hv) n0 hv) n0 hv]
            refine ck_P_ext (fun n a0 a1 => ?_) (fun n a0 a1 => ?_) (fun n a0 a1 => ?_) (fun q b0 b1 => ?_) (fun q b0 b1 => ?_) (fun q b0 b1 => ?_) (fun n q a0 a1 b0 b1 => ?_)
            · rw [ck_P_K a0 a1, ck_P_K a0 a1]
            · rw [ck_P_I a0 a1, ck_P_I a0 a1]
            · rw [ck_P_L a0 a1, ck_P_L a0 a1]
            · rw [ck_P_V b0 b1, ck_P_V b0 b1]
            · rw [ck_P_T b0 b1, ck_P_T b0 b1]
            · rw [ck_P_G b0 b1, ck_P_G b0 b1]
            · rw [ck_P_H a0 a1 b0 b1, ck_P_H a0 a1 b0 b1]) (by rw [if_neg (by omega)]) (by
            rw [if_pos (show ck_V f y = ck_V g y by omega)]
            rw [← c5]
            simp only [ck_up, true_and]
            rw [if_neg (by omega)]) (by
            rw [if_pos (show ck_V f y = ck_V g y by omega)]
            rw [← c1]
            simp only [ck_up, true_and]
            rw [if_neg (by omega), if_neg (by omega)])⟩
      · refine ck_go_run 15 (X1 := (if z 490 (34 + y) = 1 then 246 else 263, [some (.inr (480, 3, 6)), some (.inr (a, 0, 5248)), some (.inl o), some (.inl k), some (.inl y), some (.inl 0), u.2.1], [.inl (34 + y), .inr (490, 0, 82)], z)) (ps := [0 ≤ 34 + y ∧ 34 + y < ((82 : Nat) : Int), ck_rg (z 490 (34 + y)), ck_rg 1]) rfl ⟨⟨by omega, by omega⟩, (ck_rgo (by omega) (by omega)), (ck_rgo (by omega) (by omega)), trivial⟩ ?_
        refine ck_go_ite (fun h7 => ?_) (fun h7 => ?_)
        · refine ck_go_run 9 (X1 := (if z a ((o + 34) + y) = 1 then 259 else 263, [some (.inr (480, 3, 6)), some (.inr (a, 0, 5248)), some (.inl o), some (.inl k), some (.inl y), some (.inl 0), u.2.1], [.inl (34 + y), .inr (490, 0, 82)], z)) (ps := [0 ≤ (o + 34) + y ∧ (o + 34) + y < ((5248 : Nat) : Int), ck_rg (z a ((o + 34) + y)), ck_rg 1]) rfl ⟨⟨by omega, by omega⟩, (ck_rgo (by omega) (by omega)), (ck_rgo (by omega) (by omega)), trivial⟩ ?_
          refine ck_go_ite (fun h8 => ?_) (fun h8 => ?_)
          · refine ck_go_run 10 (X1 := (if 0 = 0 then 292 else 279, [some (.inr (480, 3, 6)), some (.inr (a, 0, 5248)), some (.inl o), some (.inl k), some (.inl y), some (.inl 0), u.2.1], [.inl (38 + y), .inr (490, 0, 82)], ck_up z 490 (34 + y) 1)) (ps := [0 ≤ 34 + y ∧ 34 + y < ((82 : Nat) : Int), ck_rg 0]) rfl ⟨⟨by omega, by omega⟩, (ck_rgo (by omega) (by omega)), trivial⟩ ?_
            refine ck_go_t (by decide) ?_
            refine ck_go_run 9 (X1 := (if 0 = 0 then 322 else 309, [some (.inr (480, 3, 6)), some (.inr (a, 0, 5248)), some (.inl o), some (.inl k), some (.inl y), some (.inl 0), u.2.1], [.inl (30 + y), .inr (490, 0, 82)], ck_up (ck_up z 490 (34 + y) 1) 490 (38 + y) 1000000000)) (ps := [0 ≤ 38 + y ∧ 38 + y < ((82 : Nat) : Int), ck_rg 0]) rfl ⟨⟨by omega, by omega⟩, (ck_rgo (by omega) (by omega)), trivial⟩ ?_
            refine ck_go_t (by decide) ?_
            refine ck_go_run 10 (X1 := (188, [some (.inr (480, 3, 6)), some (.inr (a, 0, 5248)), some (.inl o), some (.inl k), some (.inl (y + 1)), some (.inl 0), u.2.1], [], ck_up (ck_up (ck_up z 490 (34 + y) 1) 490 (38 + y) 1000000000) 490 (30 + y) ((100 + (4 * k)) + y))) (ps := [0 ≤ 30 + y ∧ 30 + y < ((82 : Nat) : Int)]) rfl ⟨⟨by omega, by omega⟩, trivial⟩ ?_
            exact kk (some (.inl 0), u.2.1, none) _ ⟨by omega, by omega, ck_f1_up (ck_f1_up (ck_f1_up nf)), ck_qJr_s n0 hv (by
              rw [ck_u_V (ck_u_G (ck_u_T nr n0 hv) n0 hv) n0 hv]
              refine ck_P_ext (fun n a0 a1 => ?_) (fun n a0 a1 => ?_) (fun n a0 a1 => ?_) (fun q b0 b1 => ?_) (fun q b0 b1 => ?_) (fun q b0 b1 => ?_) (fun n q a0 a1 b0 b1 => ?_)
              · rw [ck_P_K a0 a1, ck_P_K a0 a1]
              · rw [ck_P_I a0 a1, ck_P_I a0 a1]
              · rw [ck_P_L a0 a1, ck_P_L a0 a1]
              · rw [ck_P_V b0 b1, ck_P_V b0 b1]
              · rw [ck_P_T b0 b1, ck_P_T b0 b1]
              · rw [ck_P_G b0 b1, ck_P_G b0 b1]
              · rw [ck_P_H a0 a1 b0 b1, ck_P_H a0 a1 b0 b1]) (by rw [if_pos (by omega)]) (by
              rw [if_neg (show ¬ ck_V f y = ck_V g y by omega)]) (by
              rw [if_neg (show ¬ ck_V f y = ck_V g y by omega)])⟩
          · refine ck_go_run 9 (X1 := (if 0 = 0 then 292 else 279, [some (.inr (480, 3, 6)), some (.inr (a, 0, 5248)), some (.inl o), some (.inl k), some (.inl y), some (.inl 0), u.2.1], [.inl (38 + y), .inr (490, 0, 82)], ck_up z 490 (34 + y) 0)) (ps := [0 ≤ 34 + y ∧ 34 + y < ((82 : Nat) : Int), ck_rg 0]) rfl ⟨⟨by omega, by omega⟩, (ck_rgo (by omega) (by omega)), trivial⟩ ?_
            refine ck_go_t (by decide) ?_
            refine ck_go_run 9 (X1 := (if 0 = 0 then 322 else 309, [some (.inr (480, 3, 6)), some (.inr (a, 0, 5248)), some (.inl o), some (.inl k), some (.inl y), some (.inl 0), u.2.1], [.inl (30 + y), .inr (490, 0, 82)], ck_up (ck_up z 490 (34 + y) 0) 490 (38 + y) 1000000000)) (ps := [0 ≤ 38 + y ∧ 38 + y < ((82 : Nat) : Int), ck_rg 0]) rfl ⟨⟨by omega, by omega⟩, (ck_rgo (by omega) (by omega)), trivial⟩ ?_
            refine ck_go_t (by decide) ?_
            refine ck_go_run 10 (X1 := (188, [some (.inr (480, 3, 6)), some (.inr (a, 0, 5248)), some (.inl o), some (.inl k), some (.inl (y + 1)), some (.inl 0), u.2.1], [], ck_up (ck_up (ck_up z 490 (34 + y) 0) 490 (38 + y) 1000000000) 490 (30 + y) ((100 + (4 * k)) + y))) (ps := [0 ≤ 30 + y ∧ 30 + y < ((82 : Nat) : Int)]) rfl ⟨⟨by omega, by omega⟩, trivial⟩ ?_
            exact kk (some (.inl 0), u.2.1, none) _ ⟨by omega, by omega, ck_f1_up (ck_f1_up (ck_f1_up nf)), ck_qJr_s n0 hv (by
              rw [ck_u_V (ck_u_G (ck_u_T nr n0 hv) n0 hv) n0 hv]
              refine ck_P_ext (fun n a0 a1 => ?_) (fun n a0 a1 => ?_) (fun n a0 a1 => ?_) (fun q b0 b1 => ?_) (fun q b0 b1 => ?_) (fun q b0 b1 => ?_) (fun n q a0 a1 b0 b1 => ?_)
              · rw [ck_P_K a0 a1, ck_P_K a0 a1]
              · rw [ck_P_I a0 a1, ck_P_I a0 a1]
              · rw [ck_P_L a0 a1, ck_P_L a0 a1]
              · rw [ck_P_V b0 b1, ck_P_V b0 b1]
              · rw [ck_P_T b0 b1, ck_P_T b0 b1]
              · rw [ck_P_G b0 b1, ck_P_G b0 b1]
              · rw [ck_P_H a0 a1 b0 b1, ck_P_H a0 a1 b0 b1]) (by rw [if_neg (by omega)]) (by
              rw [if_neg (show ¬ ck_V f y = ck_V g y by omega)]) (by
              rw [if_neg (show ¬ ck_V f y = ck_V g y by omega)])⟩
        · refine ck_go_run 9 (X1 := (if 0 = 0 then 292 else 279, [some (.inr (480, 3, 6)), some (.inr (a, 0, 5248)), some (.inl o), some (.inl k), some (.inl y), some (.inl 0), u.2.1], [.inl (38 + y), .inr (490, 0, 82)], ck_up z 490 (34 + y) 0)) (ps := [0 ≤ 34 + y ∧ 34 + y < ((82 : Nat) : Int), ck_rg 0]) rfl ⟨⟨by omega, by omega⟩, (ck_rgo (by omega) (by omega)), trivial⟩ ?_
          refine ck_go_t (by decide) ?_
          refine ck_go_run 9 (X1 := (if 0 = 0 then 322 else 309, [some (.inr (480, 3, 6)), some (.inr (a, 0, 5248)), some (.inl o), some (.inl k), some (.inl y), some (.inl 0), u.2.1], [.inl (30 + y), .inr (490, 0, 82)], ck_up (ck_up z 490 (34 + y) 0) 490 (38 + y) 1000000000)) (ps := [0 ≤ 38 + y ∧ 38 + y < ((82 : Nat) : Int), ck_rg 0]) rfl ⟨⟨by omega, by omega⟩, (ck_rgo (by omega) (by omega)), trivial⟩ ?_
          refine ck_go_t (by decide) ?_
          refine ck_go_run 10 (X1 := (188, [some (.inr (480, 3, 6)), some (.inr (a, 0, 5248)), some (.inl o), some (.inl k), some (.inl (y + 1)), some (.inl 0), u.2.1], [], ck_up (ck_up (ck_up z 490 (34 + y) 0) 490 (38 + y) 1000000000) 490 (30 + y) ((100 + (4 * k)) + y))) (ps := [0 ≤ 30 + y ∧ 30 + y < ((82 : Nat) : Int)]) rfl ⟨⟨by omega, by omega⟩, trivial⟩ ?_
          exact kk (some (.inl 0), u.2.1, none) _ ⟨by omega, by omega, ck_f1_up (ck_f1_up (ck_f1_up nf)), ck_qJr_s n0 hv (by
            rw [ck_u_V (ck_u_G (ck_u_T nr n0 hv) n0 hv) n0 hv]
            refine ck_P_ext (fun n a0 a1 => ?_) (fun n a0 a1 => ?_) (fun n a0 a1 => ?_) (fun q b0 b1 => ?_) (fun q b0 b1 => ?_) (fun q b0 b1 => ?_) (fun n q a0 a1 b0 b1 => ?_)
            · rw [ck_P_K a0 a1, ck_P_K a0 a1]
            · rw [ck_P_I a0 a1, ck_P_I a0 a1]
            · rw [ck_P_L a0 a1, ck_P_L a0 a1]
            · rw [ck_P_V b0 b1, ck_P_V b0 b1]
            · rw [ck_P_T b0 b1, ck_P_T b0 b1]
            · rw [ck_P_G b0 b1, ck_P_G b0 b1]
            · rw [ck_P_H a0 a1 b0 b1, ck_P_H a0 a1 b0 b1]) (by rw [if_neg (by omega)]) (by
            rw [if_neg (show ¬ ck_V f y = ck_V g y by omega)]) (by
            rw [if_neg (show ¬ ck_V f y = ck_V g y by omega)])⟩
    · obtain ⟨n0, n4, nf, nr⟩ := hI
      refine ck_go_run 3 (X1 := (if y < 4 then 194 else 338, [some (.inr (480, 3, 6)), some (.inr (a, 0, 5248)), some (.inl o), some (.inl k), some (.inl y), u.1, u.2.1], [], z)) (ps := [ck_rg y, ck_rg 4]) rfl ⟨(ck_rgo (by omega) (by omega)), (ck_rgo (by omega) (by omega)), trivial⟩ ?_
      refine ck_go_f (by omega) ?_
      exact ck_eV ⟨rfl, nf, by rw [nr, ck_qJr_4 hv]⟩ rfl rfl rfl
end
section
def ck_qBel (x y z : Int) (f : ck_Q) : ck_Q := ck_P (ck_K f) (ck_I f) (fun n => if n = y then ck_gr (ck_L f y) (ck_mlm (ck_L f x) (1 - z)) else ck_L f n) (ck_V f) (ck_T f) (ck_G f) (fun n q => if n = x then ck_lw (ck_H f x q) (ck_mhm (if y = 10 then ck_ag (ck_V f q) (ck_G f q) 0 else ck_H f y q) (z - 1)) else ck_H f n q)
def ck_qNot (x y z : Int) (f : ck_Q) : ck_Q := ck_P (ck_K f) (ck_I f) (fun n => if n = x then ck_gr (ck_L f x) (ck_mlm (if y = 10 then 0 else ck_L f y) z) else ck_L f n) (ck_V f) (ck_T f) (ck_G f) (fun n q => if n = y then ck_lw (ck_H f y q) (ck_mhm (ck_H f x q) (-z)) else ck_H f n q)
theorem ck_agb {A B v : Int} (hv : -1000000000 ≤ v ∧ v ≤ 1000000000) (hB : -1000000000 ≤ B ∧ B ≤ 1000000000) : -2000000000 ≤ ck_ag A B v ∧ ck_ag A B v ≤ 1000000000 := by
  unfold ck_ag ck_mh
  (repeat' split) <;> omega
theorem ck_agb0 {A B : Int} (hB : -1000000000 ≤ B ∧ B ≤ 1000000000) : -1000000000 ≤ ck_ag A B 0 ∧ ck_ag A B 0 ≤ 1000000000 := by
  unfold ck_ag ck_mh
  (repeat' split) <;> omega
theorem ck_mlmb {v b : Int} (hv : -1000000000 ≤ v ∧ v ≤ 1000000000) (hb : -1000 ≤ b ∧ b ≤ 1000) : -2000000000 ≤ ck_mlm v b ∧ ck_mlm v b ≤ 2000000000 := by
  unfold ck_mlm ck_ml
  (repeat' split) <;> omega
theorem ck_mhmb {v b : Int} (hv : -1000000000 ≤ v ∧ v ≤ 1000000000) (hb : -1000 ≤ b ∧ b ≤ 1000) : -2000000000 ≤ ck_mhm v b ∧ ck_mhm v b ≤ 2000000000 := by
  unfold ck_mhm ck_mh
  (repeat' split) <;> omega
set_option maxHeartbeats 20000000 in
set_option maxRecDepth 4000 in
theorem cx_branch1 {k x y z : Int} (hk : 0 ≤ k ∧ k < 64) (hx : 0 ≤ x ∧ x < 10) (hy : 0 ≤ y ∧ y ≤ 10) (hz : -100 ≤ z ∧ z ≤ 100) {σ : ck_M} (hX : σ 482 k = x) (hY : σ 483 k = y) (hZ : σ 484 k = z) {f : ck_Q} (hf : ck_mv (σ 490) = f) (hB : ck_qb f) : ck_cal 3 cm_Mo_branch [.inr (480, 3, 6), .inl k, .inl 1] σ (fun q σ' => q = none ∧ ck_f1 σ σ' 490 ∧ ck_mv (σ' 490) = ck_qBel x y z f) := by
  refine ck_cal_of ?_
  have bl := hB.2.2.1 x
  have bly := hB.2.2.1 y
  refine ck_go_run 15 (X1 := (23, [some (.inr (480, 3, 6)), some (.inl k), some (.inl 1), some (.inl (σ 482 k)), some (.inl (σ 483 k)), some (.inl (σ 484 k)), none, none, none, none, none], [], σ)) (ps := [0 ≤ k ∧ k < ((64 : Nat) : Int), 0 ≤ k ∧ k < ((64 : Nat) : Int), 0 ≤ k ∧ k < ((64 : Nat) : Int)]) rfl ⟨⟨by omega, by omega⟩, ⟨by omega, by omega⟩, ⟨by omega, by omega⟩, trivial⟩ ?_
  rw [hX, hY, hZ]
  refine ck_go_run 10 (X1 := (if y = 10 then 41 else 45, [some (.inr (480, 3, 6)), some (.inl k), some (.inl 1), some (.inl x), some (.inl y), some (.inl z), some (.inl (σ 490 (20 + x))), none, none, none, none], [], σ)) (ps := [0 ≤ 20 + x ∧ 20 + x < ((82 : Nat) : Int), ck_rg y, ck_rg 10]) rfl ⟨⟨by omega, by omega⟩, (ck_rgo (by omega) (by omega)), (ck_rgo (by omega) (by omega)), trivial⟩ ?_
  refine ck_go_ite (fun h1 => ?_) (fun h1 => ?_)
  · refine ck_go_run 5 (X1 := (if 1 = 0 then 92 else 61, [some (.inr (480, 3, 6)), some (.inl k), some (.inl 1), some (.inl x), some (.inl y), some (.inl z), some (.inl (σ 490 (20 + x))), some (.inl 0), none, none, none], [], σ)) (ps := [ck_rg 1]) rfl ⟨(ck_rgo (by omega) (by omega)), trivial⟩ ?_
    refine ck_go_f (by decide) ?_
    refine ck_go_run 3 (X1 := (if y < 10 then 68 else 92, [some (.inr (480, 3, 6)), some (.inl k), some (.inl 1), some (.inl x), some (.inl y), some (.inl z), some (.inl (σ 490 (20 + x))), some (.inl 0), none, none, none], [], σ)) (ps := [ck_rg y, ck_rg 10]) rfl ⟨(ck_rgo (by omega) (by omega)), (ck_rgo (by omega) (by omega)), trivial⟩ ?_
    refine ck_go_f (by omega) ?_
    refine ck_go_run 2 (X1 := (if 1 = 0 then 96 else 117, [some (.inr (480, 3, 6)), some (.inl k), some (.inl 1), some (.inl x), some (.inl y), some (.inl z), some (.inl (σ 490 (20 + x))), some (.inl 0), none, none, none], [], σ)) (ps := [ck_rg 1]) rfl ⟨(ck_rgo (by omega) (by omega)), trivial⟩ ?_
    refine ck_go_f (by decide) ?_
    refine ck_go_run 2 (X1 := (120, [some (.inr (480, 3, 6)), some (.inl k), some (.inl 1), some (.inl x), some (.inl y), some (.inl z), some (.inl (σ 490 (20 + x))), some (.inl 0), some (.inl 0), none, none], [], σ)) (ps := []) rfl trivial ?_
    refine ck_forU 120 (fun v u => [some (.inr (480, 3, 6)), some (.inl k), some (.inl 1), some (.inl x), some (.inl y), some (.inl z), some (.inl (σ 490 (20 + x))), some (.inl 0), some (.inl v), u.1, u.2.1]) 4 (fun v s => 0 ≤ v ∧ v ≤ 4 ∧ (∀ b j, (b ≠ 490 ∨ (j < 42 + 4 * x ∨ 42 + 4 * x + v ≤ j)) → s b j = (σ) b j) ∧ ∀ q, 0 ≤ q → q < v → s 490 (42 + 4 * x + q) = ck_lw (ck_H f x q) (ck_mhm (if y = 10 then ck_ag (ck_V f q) (ck_G f q) 0 else ck_H f y q) (z - 1))) (fun v u s hv hI kk => ?_) (fun v u s hv hI => ?_) 0 (none, none, none) _ ⟨by omega, by omega, fun _ _ _ => rfl, fun _ _ _ => by omega⟩
    · obtain ⟨h0, h4, hI1, hI2⟩ := hI
      have e1 : s 490 (42 + 4 * x + v) = ck_H f x v := by
        rw [hI1 _ _ (by omega), ← ck_y_H hf hx.1 hx.2 h0 hv]
        try (simp only [ck_up, true_and]
             (repeat' split) <;> first | rfl | omega)
      have e4 : s 490 (30 + v) = ck_V f v := by
        rw [hI1 _ _ (by omega), ← ck_y_V hf h0 hv]
        try (simp only [ck_up, true_and]
             (repeat' split) <;> first | rfl | omega)
      have e5 : s 490 (38 + v) = ck_G f v := by
        rw [hI1 _ _ (by omega), ← ck_y_G hf h0 hv]
        try (simp only [ck_up, true_and]
             (repeat' split) <;> first | rfl | omega)
      have b1 := hB.2.2.2.2.2.2 x v
      have b1y := hB.2.2.2.2.2.2 y v
      have b4 := hB.2.2.2.1 v
      have b5 := hB.2.2.2.2.2.1 v
      have bg := ck_agb0 (A := ck_V f v) b5
      refine ck_go_run 3 (X1 := (if v < 4 then 126 else 252, [some (.inr (480, 3, 6)), some (.inl k), some (.inl 1), some (.inl x), some (.inl y), some (.inl z), some (.inl (σ 490 (20 + x))), some (.inl 0), some (.inl v), u.1, u.2.1], [], s)) (ps := [ck_rg v, ck_rg 4]) rfl ⟨(ck_rgo (by omega) (by omega)), (ck_rgo (by omega) (by omega)), trivial⟩ ?_
      refine ck_go_t hv ?_
      refine ck_go_run 14 (X1 := (if y = 10 then 149 else 159, [some (.inr (480, 3, 6)), some (.inl k), some (.inl 1), some (.inl x), some (.inl y), some (.inl z), some (.inl (σ 490 (20 + x))), some (.inl 0), some (.inl v), some (.inl (s 490 ((42 + (4 * x)) + v))), u.2.1], [], s)) (ps := [0 ≤ (42 + (4 * x)) + v ∧ (42 + (4 * x)) + v < ((82 : Nat) : Int), ck_rg y, ck_rg 10]) rfl ⟨⟨by omega, by omega⟩, (ck_rgo (by omega) (by omega)), (ck_rgo (by omega) (by omega)), trivial⟩ ?_
      refine ck_go_t h1 ?_
      refine ck_go_run 3 (X1 := (153, [some (.inr (480, 3, 6)), some (.inl k), some (.inl 1), some (.inl x), some (.inl y), some (.inl z), some (.inl (σ 490 (20 + x))), some (.inl 0), some (.inl v), some (.inl (s 490 ((42 + (4 * x)) + v))), u.2.1], [.inl v, .inl 0, .inr (480, 3, 6)], s)) (ps := []) rfl trivial ?_
      refine ck_go_cal (rest := []) (ck_cal_le (by decide) (cx_ag (k := 0) (r := v) (by omega) (by omega) e4 e5 b4 b5)) ⟨_, rfl, Or.inl ⟨_, rfl⟩, rfl, rfl, rfl, Nat.le_of_ble_eq_true rfl, fun _ => ⟨_, _, rfl⟩⟩ ?_
      rintro _ s' ⟨rfl, e'⟩
      rw [e']
      clear e' s'
      refine ck_go_run 4 (X1 := (if 1 = 0 then 211 else 180, [some (.inr (480, 3, 6)), some (.inl k), some (.inl 1), some (.inl x), some (.inl y), some (.inl z), some (.inl (σ 490 (20 + x))), some (.inl 0), some (.inl v), some (.inl (s 490 ((42 + (4 * x)) + v))), some (.inl (ck_ag (ck_V f v) (ck_G f v) 0))], [], s)) (ps := [ck_rg 1]) rfl ⟨(ck_rgo (by omega) (by omega)), trivial⟩ ?_
      refine ck_go_f (by decide) ?_
      refine ck_go_run 14 (X1 := (201, [some (.inr (480, 3, 6)), some (.inl k), some (.inl 1), some (.inl x), some (.inl y), some (.inl z), some (.inl (σ 490 (20 + x))), some (.inl 0), some (.inl v), some (.inl (s 490 ((42 + (4 * x)) + v))), some (.inl (ck_ag (ck_V f v) (ck_G f v) 0))], [.inl (z - 1), .inl (ck_ag (ck_V f v) (ck_G f v) 0), .inl (s 490 ((42 + (4 * x)) + v)), .inl ((42 + (4 * x)) + v), .inr (490, 0, 82)], s)) (ps := []) rfl trivial ?_
      refine ck_go_cal (rest := [.inl (s 490 ((42 + (4 * x)) + v)), .inl ((42 + (4 * x)) + v), .inr (490, 0, 82)]) (ck_cal_le (by decide) (cx_hm (V := ck_ag (ck_V f v) (ck_G f v) 0) (B := z - 1) rfl rfl bg (by omega) _)) ⟨_, rfl, Or.inr ⟨_, rfl⟩, rfl, rfl, rfl, Nat.le_of_ble_eq_true rfl, fun h => absurd h (by decide)⟩ ?_
      rintro _ s' ⟨rfl, e'⟩
      rw [e']
      clear e' s'
      refine ck_go_cal (rest := [.inl ((42 + (4 * x)) + v), .inr (490, 0, 82)]) (ck_cal_le (by decide) (cx_lw (A := ck_H f x v) (B := ck_mhm (ck_ag (ck_V f v) (ck_G f v) 0) (z - 1)) e1 rfl (by omega) (ck_mhmb bg (by omega)) _)) ⟨_, rfl, Or.inr ⟨_, rfl⟩, rfl, rfl, rfl, Nat.le_of_ble_eq_true rfl, fun h => absurd h (by decide)⟩ ?_
      rintro _ s' ⟨rfl, e'⟩
      rw [e']
      clear e' s'
      refine ck_go_run 4 (X1 := (120, [some (.inr (480, 3, 6)), some (.inl k), some (.inl 1), some (.inl x), some (.inl y), some (.inl z), some (.inl (σ 490 (20 + x))), some (.inl 0), some (.inl (v + 1)), some (.inl (s 490 ((42 + (4 * x)) + v))), some (.inl (ck_ag (ck_V f v) (ck_G f v) 0))], [], ck_up s 490 ((42 + (4 * x)) + v) (ck_lw (ck_H f x v) (ck_mhm (ck_ag (ck_V f v) (ck_G f v) 0) (z - 1))))) (ps := [0 ≤ (42 + (4 * x)) + v ∧ (42 + (4 * x)) + v < ((82 : Nat) : Int)]) rfl ⟨⟨by omega, by omega⟩, trivial⟩ ?_
      exact kk (some (.inl (s 490 ((42 + (4 * x)) + v))), some (.inl (ck_ag (ck_V f v) (ck_G f v) 0)), none) _ ⟨by omega, by omega, ck_st1 (base := 42 + 4 * x) (g := fun q => ck_lw (ck_H f x q) (ck_mhm (if y = 10 then ck_ag (ck_V f q) (ck_G f q) 0 else ck_H f y q) (z - 1))) hI1 hI2 (by rw [if_pos h1]) h0⟩
    · obtain ⟨h0, h4, hI1, hI2⟩ := hI
      refine ck_go_run 3 (X1 := (if v < 4 then 126 else 252, [some (.inr (480, 3, 6)), some (.inl k), some (.inl 1), some (.inl x), some (.inl y), some (.inl z), some (.inl (σ 490 (20 + x))), some (.inl 0), some (.inl v), u.1, u.2.1], [], s)) (ps := [ck_rg v, ck_rg 4]) rfl ⟨(ck_rgo (by omega) (by omega)), (ck_rgo (by omega) (by omega)), trivial⟩ ?_
      refine ck_go_f (by omega) ?_
      refine ck_eV ⟨rfl, ?_, ?_⟩ rfl rfl rfl
      · intro b j hb
        rw [hI1 b j (by omega)]
        try (simp only [ck_up]
             (repeat' split) <;> first | rfl | omega)
      · unfold ck_qBel
        refine ck_P_ext (fun n a0 a1 => ?_) (fun n a0 a1 => ?_) (fun n a0 a1 => ?_) (fun q b0 b1 => ?_) (fun q b0 b1 => ?_) (fun q b0 b1 => ?_) (fun n q a0 a1 b0 b1 => ?_)
        · rw [← ck_y_K hf a0 a1, hI1 490 (0 + n) (by omega)]
          try (simp only [ck_up, true_and]
               (repeat' split) <;> first | rfl | omega)
        · rw [← ck_y_I hf a0 a1, hI1 490 (10 + n) (by omega)]
          try (simp only [ck_up, true_and]
               (repeat' split) <;> first | rfl | omega)
        · rw [← ck_y_L hf a0 a1, hI1 490 (20 + n) (by omega)]
          try (simp only [ck_up, true_and])
          by_cases hn : n = y
          · subst hn
            first | rw [if_pos rfl, if_pos rfl] | omega
          · first | rw [if_neg (by omega), if_neg hn] | rw [if_neg hn]
        · rw [← ck_y_V hf b0 b1, hI1 490 (30 + q) (by omega)]
          try (simp only [ck_up, true_and]
               (repeat' split) <;> first | rfl | omega)
        · rw [← ck_y_T hf b0 b1, hI1 490 (34 + q) (by omega)]
          try (simp only [ck_up, true_and]
               (repeat' split) <;> first | rfl | omega)
        · rw [← ck_y_G hf b0 b1, hI1 490 (38 + q) (by omega)]
          try (simp only [ck_up, true_and]
               (repeat' split) <;> first | rfl | omega)
        · by_cases hn : n = x
          · subst hn
            rw [if_pos rfl, hI2 q b0 (by omega)]
          · rw [if_neg hn, ← ck_y_H hf a0 a1 b0 b1, hI1 490 (42 + 4 * n + q) (by omega)]
            try (simp only [ck_up, true_and]
                 (repeat' split) <;> first | rfl | omega)
  · refine ck_go_run 9 (X1 := (if 1 = 0 then 92 else 61, [some (.inr (480, 3, 6)), some (.inl k), some (.inl 1), some (.inl x), some (.inl y), some (.inl z), some (.inl (σ 490 (20 + x))), some (.inl (σ 490 (20 + y))), none, none, none], [], σ)) (ps := [0 ≤ 20 + y ∧ 20 + y < ((82 : Nat) : Int), ck_rg 1]) rfl ⟨⟨by omega, by omega⟩, (ck_rgo (by omega) (by omega)), trivial⟩ ?_
    refine ck_go_f (by decide) ?_
    refine ck_go_run 3 (X1 := (if y < 10 then 68 else 92, [some (.inr (480, 3, 6)), some (.inl k), some (.inl 1), some (.inl x), some (.inl y), some (.inl z), some (.inl (σ 490 (20 + x))), some (.inl (σ 490 (20 + y))), none, none, none], [], σ)) (ps := [ck_rg y, ck_rg 10]) rfl ⟨(ck_rgo (by omega) (by omega)), (ck_rgo (by omega) (by omega)), trivial⟩ ?_
    refine ck_go_t (by omega) ?_
    refine ck_go_run 10 (X1 := (85, [some (.inr (480, 3, 6)), some (.inl k), some (.inl 1), some (.inl x), some (.inl y), some (.inl z), some (.inl (σ 490 (20 + x))), some (.inl (σ 490 (20 + y))), none, none, none], [.inl (1 - z), .inl (σ 490 (20 + x)), .inl (σ 490 (20 + y)), .inl (20 + y), .inr (490, 0, 82)], σ)) (ps := []) rfl trivial ?_
    refine ck_go_cal (rest := [.inl (σ 490 (20 + y)), .inl (20 + y), .inr (490, 0, 82)]) (ck_cal_le (by decide) (cx_lm (V := ck_L f x) (B := 1 - z) (ck_y_L hf (by omega) (by omega)) rfl (by omega) (by omega) _)) ⟨_, rfl, Or.inr ⟨_, rfl⟩, rfl, rfl, rfl, Nat.le_of_ble_eq_true rfl, fun h => absurd h (by decide)⟩ ?_
    rintro _ s' ⟨rfl, e'⟩
    rw [e']
    clear e' s'
    refine ck_go_cal (rest := [.inl (20 + y), .inr (490, 0, 82)]) (ck_cal_le (by decide) (cx_gr (A := ck_L f y) (B := ck_mlm (ck_L f x) (1 - z)) (ck_y_L hf (by omega) (by omega)) rfl (by omega) (ck_mlmb (by omega) (by omega)) _)) ⟨_, rfl, Or.inr ⟨_, rfl⟩, rfl, rfl, rfl, Nat.le_of_ble_eq_true rfl, fun h => absurd h (by decide)⟩ ?_
    rintro _ s' ⟨rfl, e'⟩
    rw [e']
    clear e' s'
    refine ck_go_run 3 (X1 := (if 1 = 0 then 96 else 117, [some (.inr (480, 3, 6)), some (.inl k), some (.inl 1), some (.inl x), some (.inl y), some (.inl z), some (.inl (σ 490 (20 + x))), some (.inl (σ 490 (20 + y))), none, none, none], [], ck_up σ 490 (20 + y) (ck_gr (ck_L f y) (ck_mlm (ck_L f x) (1 - z))))) (ps := [0 ≤ 20 + y ∧ 20 + y < ((82 : Nat) : Int), ck_rg 1]) rfl ⟨⟨by omega, by omega⟩, (ck_rgo (by omega) (by omega)), trivial⟩ ?_
    refine ck_go_f (by decide) ?_
    refine ck_go_run 2 (X1 := (120, [some (.inr (480, 3, 6)), some (.inl k), some (.inl 1), some (.inl x), some (.inl y), some (.inl z), some (.inl (σ 490 (20 + x))), some (.inl (σ 490 (20 + y))), some (.inl 0), none, none], [], ck_up σ 490 (20 + y) (ck_gr (ck_L f y) (ck_mlm (ck_L f x) (1 - z))))) (ps := []) rfl trivial ?_
    refine ck_forU 120 (fun v u => [some (.inr (480, 3, 6)), some (.inl k), some (.inl 1), some (.inl x), some (.inl y), some (.inl z), some (.inl (σ 490 (20 + x))), some (.inl (σ 490 (20 + y))), some (.inl v), u.1, u.2.1]) 4 (fun v s => 0 ≤ v ∧ v ≤ 4 ∧ (∀ b j, (b ≠ 490 ∨ (j < 42 + 4 * x ∨ 42 + 4 * x + v ≤ j)) → s b j = (ck_up σ 490 (20 + y) (ck_gr (ck_L f y) (ck_mlm (ck_L f x) (1 - z)))) b j) ∧ ∀ q, 0 ≤ q → q < v → s 490 (42 + 4 * x + q) = ck_lw (ck_H f x q) (ck_mhm (if y = 10 then ck_ag (ck_V f q) (ck_G f q) 0 else ck_H f y q) (z - 1))) (fun v u s hv hI kk => ?_) (fun v u s hv hI => ?_) 0 (none, none, none) _ ⟨by omega, by omega, fun _ _ _ => rfl, fun _ _ _ => by omega⟩
    · obtain ⟨h0, h4, hI1, hI2⟩ := hI
      have e1 : s 490 (42 + 4 * x + v) = ck_H f x v := by
        rw [hI1 _ _ (by omega), ← ck_y_H hf hx.1 hx.2 h0 hv]
        try (simp only [ck_up, true_and]
             (repeat' split) <;> first | rfl | omega)
      have e4 : s 490 (30 + v) = ck_V f v := by
        rw [hI1 _ _ (by omega), ← ck_y_V hf h0 hv]
        try (simp only [ck_up, true_and]
             (repeat' split) <;> first | rfl | omega)
      have e5 : s 490 (38 + v) = ck_G f v := by
        rw [hI1 _ _ (by omega), ← ck_y_G hf h0 hv]
        try (simp only [ck_up, true_and]
             (repeat' split) <;> first | rfl | omega)
      have b1 := hB.2.2.2.2.2.2 x v
      have b1y := hB.2.2.2.2.2.2 y v
      have b4 := hB.2.2.2.1 v
      have b5 := hB.2.2.2.2.2.1 v
      have bg := ck_agb0 (A := ck_V f v) b5
      refine ck_go_run 3 (X1 := (if v < 4 then 126 else 252, [some (.inr (480, 3, 6)), some (.inl k), some (.inl 1), some (.inl x), some (.inl y), some (.inl z), some (.inl (σ 490 (20 + x))), some (.inl (σ 490 (20 + y))), some (.inl v), u.1, u.2.1], [], s)) (ps := [ck_rg v, ck_rg 4]) rfl ⟨(ck_rgo (by omega) (by omega)), (ck_rgo (by omega) (by omega)), trivial⟩ ?_
      refine ck_go_t hv ?_
      refine ck_go_run 14 (X1 := (if y = 10 then 149 else 159, [some (.inr (480, 3, 6)), some (.inl k), some (.inl 1), some (.inl x), some (.inl y), some (.inl z), some (.inl (σ 490 (20 + x))), some (.inl (σ 490 (20 + y))), some (.inl v), some (.inl (s 490 ((42 + (4 * x)) + v))), u.2.1], [], s)) (ps := [0 ≤ (42 + (4 * x)) + v ∧ (42 + (4 * x)) + v < ((82 : Nat) : Int), ck_rg y, ck_rg 10]) rfl ⟨⟨by omega, by omega⟩, (ck_rgo (by omega) (by omega)), (ck_rgo (by omega) (by omega)), trivial⟩ ?_
      refine ck_go_f h1 ?_
      refine ck_go_run 13 (X1 := (if 1 = 0 then 211 else 180, [some (.inr (480, 3, 6)), some (.inl k), some (.inl 1), some (.inl x), some (.inl y), some (.inl z), some (.inl (σ 490 (20 + x))), some (.inl (σ 490 (20 + y))), some (.inl v), some (.inl (s 490 ((42 + (4 * x)) + v))), some (.inl (s 490 ((42 + (4 * y)) + v)))], [], s)) (ps := [0 ≤ (42 + (4 * y)) + v ∧ (42 + (4 * y)) + v < ((82 : Nat) : Int), ck_rg 1]) rfl ⟨⟨by omega, by omega⟩, (ck_rgo (by omega) (by omega)), trivial⟩ ?_
      refine ck_go_f (by decide) ?_
      refine ck_go_run 14 (X1 := (201, [some (.inr (480, 3, 6)), some (.inl k), some (.inl 1), some (.inl x), some (.inl y), some (.inl z), some (.inl (σ 490 (20 + x))), some (.inl (σ 490 (20 + y))), some (.inl v), some (.inl (s 490 ((42 + (4 * x)) + v))), some (.inl (s 490 ((42 + (4 * y)) + v)))], [.inl (z - 1), .inl (s 490 ((42 + (4 * y)) + v)), .inl (s 490 ((42 + (4 * x)) + v)), .inl ((42 + (4 * x)) + v), .inr (490, 0, 82)], s)) (ps := []) rfl trivial ?_
      refine ck_go_cal (rest := [.inl (s 490 ((42 + (4 * x)) + v)), .inl ((42 + (4 * x)) + v), .inr (490, 0, 82)]) (ck_cal_le (by decide) (cx_hm (V := ck_H f y v) (B := z - 1) (by rw [← ck_y_H hf (by omega) (by omega) h0 hv, hI1 _ _ (by omega)]; try (simp only [ck_up, true_and]; (repeat' split) <;> first | rfl | omega)) rfl b1y (by omega) _)) ⟨_, rfl, Or.inr ⟨_, rfl⟩, rfl, rfl, rfl, Nat.le_of_ble_eq_true rfl, fun h => absurd h (by decide)⟩ ?_
      rintro _ s' ⟨rfl, e'⟩
      rw [e']
      clear e' s'
      refine ck_go_cal (rest := [.inl ((42 + (4 * x)) + v), .inr (490, 0, 82)]) (ck_cal_le (by decide) (cx_lw (A := ck_H f x v) (B := ck_mhm (ck_H f y v) (z - 1)) e1 rfl (by omega) (ck_mhmb b1y (by omega)) _)) ⟨_, rfl, Or.inr ⟨_, rfl⟩, rfl, rfl, rfl, Nat.le_of_ble_eq_true rfl, fun h => absurd h (by decide)⟩ ?_
      rintro _ s' ⟨rfl, e'⟩
      rw [e']
      clear e' s'
      refine ck_go_run 4 (X1 := (120, [some (.inr (480, 3, 6)), some (.inl k), some (.inl 1), some (.inl x), some (.inl y), some (.inl z), some (.inl (σ 490 (20 + x))), some (.inl (σ 490 (20 + y))), some (.inl (v + 1)), some (.inl (s 490 ((42 + (4 * x)) + v))), some (.inl (s 490 ((42 + (4 * y)) + v)))], [], ck_up s 490 ((42 + (4 * x)) + v) (ck_lw (ck_H f x v) (ck_mhm (ck_H f y v) (z - 1))))) (ps := [0 ≤ (42 + (4 * x)) + v ∧ (42 + (4 * x)) + v < ((82 : Nat) : Int)]) rfl ⟨⟨by omega, by omega⟩, trivial⟩ ?_
      exact kk (some (.inl (s 490 ((42 + (4 * x)) + v))), some (.inl (s 490 ((42 + (4 * y)) + v))), none) _ ⟨by omega, by omega, ck_st1 (base := 42 + 4 * x) (g := fun q => ck_lw (ck_H f x q) (ck_mhm (if y = 10 then ck_ag (ck_V f q) (ck_G f q) 0 else ck_H f y q) (z - 1))) hI1 hI2 (by rw [if_neg h1]) h0⟩
    · obtain ⟨h0, h4, hI1, hI2⟩ := hI
      refine ck_go_run 3 (X1 := (if v < 4 then 126 else 252, [some (.inr (480, 3, 6)), some (.inl k), some (.inl 1), some (.inl x), some (.inl y), some (.inl z), some (.inl (σ 490 (20 + x))), some (.inl (σ 490 (20 + y))), some (.inl v), u.1, u.2.1], [], s)) (ps := [ck_rg v, ck_rg 4]) rfl ⟨(ck_rgo (by omega) (by omega)), (ck_rgo (by omega) (by omega)), trivial⟩ ?_
      refine ck_go_f (by omega) ?_
      refine ck_eV ⟨rfl, ?_, ?_⟩ rfl rfl rfl
      · intro b j hb
        rw [hI1 b j (by omega)]
        try (simp only [ck_up]
             (repeat' split) <;> first | rfl | omega)
      · unfold ck_qBel
        refine ck_P_ext (fun n a0 a1 => ?_) (fun n a0 a1 => ?_) (fun n a0 a1 => ?_) (fun q b0 b1 => ?_) (fun q b0 b1 => ?_) (fun q b0 b1 => ?_) (fun n q a0 a1 b0 b1 => ?_)
        · rw [← ck_y_K hf a0 a1, hI1 490 (0 + n) (by omega)]
          try (simp only [ck_up, true_and]
               (repeat' split) <;> first | rfl | omega)
        · rw [← ck_y_I hf a0 a1, hI1 490 (10 + n) (by omega)]
          try (simp only [ck_up, true_and]
               (repeat' split) <;> first | rfl | omega)
        · rw [← ck_y_L hf a0 a1, hI1 490 (20 + n) (by omega)]
          try (simp only [ck_up, true_and])
          by_cases hn : n = y
          · subst hn
            first | rw [if_pos rfl, if_pos rfl] | omega
          · first | rw [if_neg (by omega), if_neg hn] | rw [if_neg hn]
        · rw [← ck_y_V hf b0 b1, hI1 490 (30 + q) (by omega)]
          try (simp only [ck_up, true_and]
               (repeat' split) <;> first | rfl | omega)
        · rw [← ck_y_T hf b0 b1, hI1 490 (34 + q) (by omega)]
          try (simp only [ck_up, true_and]
               (repeat' split) <;> first | rfl | omega)
        · rw [← ck_y_G hf b0 b1, hI1 490 (38 + q) (by omega)]
          try (simp only [ck_up, true_and]
               (repeat' split) <;> first | rfl | omega)
        · by_cases hn : n = x
          · subst hn
            rw [if_pos rfl, hI2 q b0 (by omega)]
          · rw [if_neg hn, ← ck_y_H hf a0 a1 b0 b1, hI1 490 (42 + 4 * n + q) (by omega)]
            try (simp only [ck_up, true_and]
                 (repeat' split) <;> first | rfl | omega)
set_option maxHeartbeats 20000000 in
set_option maxRecDepth 4000 in
theorem cx_branch0 {k x y z : Int} (hk : 0 ≤ k ∧ k < 64) (hx : 0 ≤ x ∧ x < 10) (hy : 0 ≤ y ∧ y ≤ 10) (hz : -100 ≤ z ∧ z ≤ 100) {σ : ck_M} (hX : σ 482 k = x) (hY : σ 483 k = y) (hZ : σ 484 k = z) {f : ck_Q} (hf : ck_mv (σ 490) = f) (hB : ck_qb f) : ck_cal 3 cm_Mo_branch [.inr (480, 3, 6), .inl k, .inl 0] σ (fun q σ' => q = none ∧ ck_f1 σ σ' 490 ∧ ck_mv (σ' 490) = ck_qNot x y z f) := by
  refine ck_cal_of ?_
  have bl := hB.2.2.1 x
  have bly := hB.2.2.1 y
  refine ck_go_run 15 (X1 := (23, [some (.inr (480, 3, 6)), some (.inl k), some (.inl 0), some (.inl (σ 482 k)), some (.inl (σ 483 k)), some (.inl (σ 484 k)), none, none, none, none, none], [], σ)) (ps := [0 ≤ k ∧ k < ((64 : Nat) : Int), 0 ≤ k ∧ k < ((64 : Nat) : Int), 0 ≤ k ∧ k < ((64 : Nat) : Int)]) rfl ⟨⟨by omega, by omega⟩, ⟨by omega, by omega⟩, ⟨by omega, by omega⟩, trivial⟩ ?_
  rw [hX, hY, hZ]
  refine ck_go_run 10 (X1 := (if y = 10 then 41 else 45, [some (.inr (480, 3, 6)), some (.inl k), some (.inl 0), some (.inl x), some (.inl y), some (.inl z), some (.inl (σ 490 (20 + x))), none, none, none, none], [], σ)) (ps := [0 ≤ 20 + x ∧ 20 + x < ((82 : Nat) : Int), ck_rg y, ck_rg 10]) rfl ⟨⟨by omega, by omega⟩, (ck_rgo (by omega) (by omega)), (ck_rgo (by omega) (by omega)), trivial⟩ ?_
  refine ck_go_ite (fun h1 => ?_) (fun h1 => ?_)
  · refine ck_go_run 5 (X1 := (if 0 = 0 then 92 else 61, [some (.inr (480, 3, 6)), some (.inl k), some (.inl 0), some (.inl x), some (.inl y), some (.inl z), some (.inl (σ 490 (20 + x))), some (.inl 0), none, none, none], [], σ)) (ps := [ck_rg 0]) rfl ⟨(ck_rgo (by omega) (by omega)), trivial⟩ ?_
    refine ck_go_t (by decide) ?_
    refine ck_go_run 2 (X1 := (if 0 = 0 then 96 else 117, [some (.inr (480, 3, 6)), some (.inl k), some (.inl 0), some (.inl x), some (.inl y), some (.inl z), some (.inl (σ 490 (20 + x))), some (.inl 0), none, none, none], [], σ)) (ps := [ck_rg 0]) rfl ⟨(ck_rgo (by omega) (by omega)), trivial⟩ ?_
    refine ck_go_t (by decide) ?_
    refine ck_go_run 8 (X1 := (110, [some (.inr (480, 3, 6)), some (.inl k), some (.inl 0), some (.inl x), some (.inl y), some (.inl z), some (.inl (σ 490 (20 + x))), some (.inl 0), none, none, none], [.inl z, .inl 0, .inl (σ 490 (20 + x)), .inl (20 + x), .inr (490, 0, 82)], σ)) (ps := []) rfl trivial ?_
    refine ck_go_cal (rest := [.inl (σ 490 (20 + x)), .inl (20 + x), .inr (490, 0, 82)]) (ck_cal_le (by decide) (cx_lm (V := 0) (B := z) rfl rfl (by omega) (by omega) _)) ⟨_, rfl, Or.inr ⟨_, rfl⟩, rfl, rfl, rfl, Nat.le_of_ble_eq_true rfl, fun h => absurd h (by decide)⟩ ?_
    rintro _ s' ⟨rfl, e'⟩
    rw [e']
    clear e' s'
    refine ck_go_cal (rest := [.inl (20 + x), .inr (490, 0, 82)]) (ck_cal_le (by decide) (cx_gr (A := ck_L f x) (B := ck_mlm (0) (z)) (ck_y_L hf (by omega) (by omega)) rfl (by omega) (ck_mlmb (by omega) (by omega)) _)) ⟨_, rfl, Or.inr ⟨_, rfl⟩, rfl, rfl, rfl, Nat.le_of_ble_eq_true rfl, fun h => absurd h (by decide)⟩ ?_
    rintro _ s' ⟨rfl, e'⟩
    rw [e']
    clear e' s'
    refine ck_go_run 3 (X1 := (120, [some (.inr (480, 3, 6)), some (.inl k), some (.inl 0), some (.inl x), some (.inl y), some (.inl z), some (.inl (σ 490 (20 + x))), some (.inl 0), some (.inl 0), none, none], [], ck_up σ 490 (20 + x) (ck_gr (ck_L f x) (ck_mlm (0) (z))))) (ps := [0 ≤ 20 + x ∧ 20 + x < ((82 : Nat) : Int)]) rfl ⟨⟨by omega, by omega⟩, trivial⟩ ?_
    refine ck_forU 120 (fun v u => [some (.inr (480, 3, 6)), some (.inl k), some (.inl 0), some (.inl x), some (.inl y), some (.inl z), some (.inl (σ 490 (20 + x))), some (.inl 0), some (.inl v), u.1, u.2.1]) 4 (fun v s => 0 ≤ v ∧ v ≤ 4 ∧ (∀ b j, (b ≠ 490 ∨ j < 42 + 4 * y ∨ 42 + 4 * y + v ≤ j ∨ y = 10) → s b j = (ck_up σ 490 (20 + x) (ck_gr (ck_L f x) (ck_mlm (0) (z)))) b j) ∧ (y ≠ 10 → ∀ q, 0 ≤ q → q < v → s 490 (42 + 4 * y + q) = ck_lw (ck_H f y q) (ck_mhm (ck_H f x q) (-z)))) (fun v u s hv hI kk => ?_) (fun v u s hv hI => ?_) 0 (none, none, none) _ ⟨by omega, by omega, fun _ _ _ => rfl, fun _ _ _ _ => by omega⟩
    · obtain ⟨h0, h4, hI1, hI2⟩ := hI
      have e1 : s 490 (42 + 4 * x + v) = ck_H f x v := by
        rw [hI1 _ _ (by omega), ← ck_y_H hf hx.1 hx.2 h0 hv]
        try (simp only [ck_up, true_and]
             (repeat' split) <;> first | rfl | omega)
      have e4 : s 490 (30 + v) = ck_V f v := by
        rw [hI1 _ _ (by omega), ← ck_y_V hf h0 hv]
        try (simp only [ck_up, true_and]
             (repeat' split) <;> first | rfl | omega)
      have e5 : s 490 (38 + v) = ck_G f v := by
        rw [hI1 _ _ (by omega), ← ck_y_G hf h0 hv]
        try (simp only [ck_up, true_and]
             (repeat' split) <;> first | rfl | omega)
      have b1 := hB.2.2.2.2.2.2 x v
      have b1y := hB.2.2.2.2.2.2 y v
      have b4 := hB.2.2.2.1 v
      have b5 := hB.2.2.2.2.2.1 v
      have bg := ck_agb0 (A := ck_V f v) b5
      refine ck_go_run 3 (X1 := (if v < 4 then 126 else 252, [some (.inr (480, 3, 6)), some (.inl k), some (.inl 0), some (.inl x), some (.inl y), some (.inl z), some (.inl (σ 490 (20 + x))), some (.inl 0), some (.inl v), u.1, u.2.1], [], s)) (ps := [ck_rg v, ck_rg 4]) rfl ⟨(ck_rgo (by omega) (by omega)), (ck_rgo (by omega) (by omega)), trivial⟩ ?_
      refine ck_go_t hv ?_
      refine ck_go_run 14 (X1 := (if y = 10 then 149 else 159, [some (.inr (480, 3, 6)), some (.inl k), some (.inl 0), some (.inl x), some (.inl y), some (.inl z), some (.inl (σ 490 (20 + x))), some (.inl 0), some (.inl v), some (.inl (s 490 ((42 + (4 * x)) + v))), u.2.1], [], s)) (ps := [0 ≤ (42 + (4 * x)) + v ∧ (42 + (4 * x)) + v < ((82 : Nat) : Int), ck_rg y, ck_rg 10]) rfl ⟨⟨by omega, by omega⟩, (ck_rgo (by omega) (by omega)), (ck_rgo (by omega) (by omega)), trivial⟩ ?_
      refine ck_go_t h1 ?_
      refine ck_go_run 3 (X1 := (153, [some (.inr (480, 3, 6)), some (.inl k), some (.inl 0), some (.inl x), some (.inl y), some (.inl z), some (.inl (σ 490 (20 + x))), some (.inl 0), some (.inl v), some (.inl (s 490 ((42 + (4 * x)) + v))), u.2.1], [.inl v, .inl 0, .inr (480, 3, 6)], s)) (ps := []) rfl trivial ?_
      refine ck_go_cal (rest := []) (ck_cal_le (by decide) (cx_ag (k := 0) (r := v) (by omega) (by omega) e4 e5 b4 b5)) ⟨_, rfl, Or.inl ⟨_, rfl⟩, rfl, rfl, rfl, Nat.le_of_ble_eq_true rfl, fun _ => ⟨_, _, rfl⟩⟩ ?_
      rintro _ s' ⟨rfl, e'⟩
      rw [e']
      clear e' s'
      refine ck_go_run 4 (X1 := (if 0 = 0 then 211 else 180, [some (.inr (480, 3, 6)), some (.inl k), some (.inl 0), some (.inl x), some (.inl y), some (.inl z), some (.inl (σ 490 (20 + x))), some (.inl 0), some (.inl v), some (.inl (s 490 ((42 + (4 * x)) + v))), some (.inl (ck_ag (ck_V f v) (ck_G f v) 0))], [], s)) (ps := [ck_rg 0]) rfl ⟨(ck_rgo (by omega) (by omega)), trivial⟩ ?_
      refine ck_go_t (by decide) ?_
      refine ck_go_run 3 (X1 := (if y < 10 then 218 else 246, [some (.inr (480, 3, 6)), some (.inl k), some (.inl 0), some (.inl x), some (.inl y), some (.inl z), some (.inl (σ 490 (20 + x))), some (.inl 0), some (.inl v), some (.inl (s 490 ((42 + (4 * x)) + v))), some (.inl (ck_ag (ck_V f v) (ck_G f v) 0))], [], s)) (ps := [ck_rg y, ck_rg 10]) rfl ⟨(ck_rgo (by omega) (by omega)), (ck_rgo (by omega) (by omega)), trivial⟩ ?_
      refine ck_go_f (by omega) ?_
      refine ck_go_run 2 (X1 := (120, [some (.inr (480, 3, 6)), some (.inl k), some (.inl 0), some (.inl x), some (.inl y), some (.inl z), some (.inl (σ 490 (20 + x))), some (.inl 0), some (.inl (v + 1)), some (.inl (s 490 ((42 + (4 * x)) + v))), some (.inl (ck_ag (ck_V f v) (ck_G f v) 0))], [], s)) (ps := []) rfl trivial ?_
      exact kk (some (.inl (s 490 ((42 + (4 * x)) + v))), some (.inl (ck_ag (ck_V f v) (ck_G f v) 0)), none) _ ⟨by omega, by omega, fun b j hb => hI1 b j (by omega), fun hne => absurd h1 hne⟩
    · obtain ⟨h0, h4, hI1, hI2⟩ := hI
      refine ck_go_run 3 (X1 := (if v < 4 then 126 else 252, [some (.inr (480, 3, 6)), some (.inl k), some (.inl 0), some (.inl x), some (.inl y), some (.inl z), some (.inl (σ 490 (20 + x))), some (.inl 0), some (.inl v), u.1, u.2.1], [], s)) (ps := [ck_rg v, ck_rg 4]) rfl ⟨(ck_rgo (by omega) (by omega)), (ck_rgo (by omega) (by omega)), trivial⟩ ?_
      refine ck_go_f (by omega) ?_
      refine ck_eV ⟨rfl, ?_, ?_⟩ rfl rfl rfl
      · intro b j hb
        rw [hI1 b j (by omega)]
        try (simp only [ck_up]
             (repeat' split) <;> first | rfl | omega)
      · unfold ck_qNot
        refine ck_P_ext (fun n a0 a1 => ?_) (fun n a0 a1 => ?_) (fun n a0 a1 => ?_) (fun q b0 b1 => ?_) (fun q b0 b1 => ?_) (fun q b0 b1 => ?_) (fun n q a0 a1 b0 b1 => ?_)
        · rw [← ck_y_K hf a0 a1, hI1 490 (0 + n) (by omega)]
          try (simp only [ck_up, true_and]
               (repeat' split) <;> first | rfl | omega)
        · rw [← ck_y_I hf a0 a1, hI1 490 (10 + n) (by omega)]
          try (simp only [ck_up, true_and]
               (repeat' split) <;> first | rfl | omega)
        · rw [hI1 490 (20 + n) (by omega)]
          simp only [ck_up, true_and]
          by_cases hn : n = x
          · subst hn
            rw [if_pos rfl, if_pos rfl]
            first | rw [if_pos h1] | rw [if_neg h1]
          · rw [if_neg (by omega), if_neg hn, ck_y_L hf a0 a1]
        · rw [← ck_y_V hf b0 b1, hI1 490 (30 + q) (by omega)]
          try (simp only [ck_up, true_and]
               (repeat' split) <;> first | rfl | omega)
        · rw [← ck_y_T hf b0 b1, hI1 490 (34 + q) (by omega)]
          try (simp only [ck_up, true_and]
               (repeat' split) <;> first | rfl | omega)
        · rw [← ck_y_G hf b0 b1, hI1 490 (38 + q) (by omega)]
          try (simp only [ck_up, true_and]
               (repeat' split) <;> first | rfl | omega)
        · by_cases hn : n = y
          · subst hn
            rw [if_pos rfl, hI2 (by omega) q b0 (by omega)]
          · rw [if_neg hn, ← ck_y_H hf a0 a1 b0 b1, hI1 490 (42 + 4 * n + q) (by omega)]
            try (simp only [ck_up, true_and]
                 (repeat' split) <;> first | rfl | omega)
  · refine ck_go_run 9 (X1 := (if 0 = 0 then 92 else 61, [some (.inr (480, 3, 6)), some (.inl k), some (.inl 0), some (.inl x), some (.inl y), some (.inl z), some (.inl (σ 490 (20 + x))), some (.inl (σ 490 (20 + y))), none, none, none], [], σ)) (ps := [0 ≤ 20 + y ∧ 20 + y < ((82 : Nat) : Int), ck_rg 0]) rfl ⟨⟨by omega, by omega⟩, (ck_rgo (by omega) (by omega)), trivial⟩ ?_
    refine ck_go_t (by decide) ?_
    refine ck_go_run 2 (X1 := (if 0 = 0 then 96 else 117, [some (.inr (480, 3, 6)), some (.inl k), some (.inl 0), some (.inl x), some (.inl y), some (.inl z), some (.inl (σ 490 (20 + x))), some (.inl (σ 490 (20 + y))), none, none, none], [], σ)) (ps := [ck_rg 0]) rfl ⟨(ck_rgo (by omega) (by omega)), trivial⟩ ?_
    refine ck_go_t (by decide) ?_
    refine ck_go_run 8 (X1 := (110, [some (.inr (480, 3, 6)), some (.inl k), some (.inl 0), some (.inl x), some (.inl y), some (.inl z), some (.inl (σ 490 (20 + x))), some (.inl (σ 490 (20 + y))), none, none, none], [.inl z, .inl (σ 490 (20 + y)), .inl (σ 490 (20 + x)), .inl (20 + x), .inr (490, 0, 82)], σ)) (ps := []) rfl trivial ?_
    refine ck_go_cal (rest := [.inl (σ 490 (20 + x)), .inl (20 + x), .inr (490, 0, 82)]) (ck_cal_le (by decide) (cx_lm (V := ck_L f y) (B := z) (ck_y_L hf (by omega) (by omega)) rfl (by omega) (by omega) _)) ⟨_, rfl, Or.inr ⟨_, rfl⟩, rfl, rfl, rfl, Nat.le_of_ble_eq_true rfl, fun h => absurd h (by decide)⟩ ?_
    rintro _ s' ⟨rfl, e'⟩
    rw [e']
    clear e' s'
    refine ck_go_cal (rest := [.inl (20 + x), .inr (490, 0, 82)]) (ck_cal_le (by decide) (cx_gr (A := ck_L f x) (B := ck_mlm (ck_L f y) (z)) (ck_y_L hf (by omega) (by omega)) rfl (by omega) (ck_mlmb (by omega) (by omega)) _)) ⟨_, rfl, Or.inr ⟨_, rfl⟩, rfl, rfl, rfl, Nat.le_of_ble_eq_true rfl, fun h => absurd h (by decide)⟩ ?_
    rintro _ s' ⟨rfl, e'⟩
    rw [e']
    clear e' s'
    refine ck_go_run 3 (X1 := (120, [some (.inr (480, 3, 6)), some (.inl k), some (.inl 0), some (.inl x), some (.inl y), some (.inl z), some (.inl (σ 490 (20 + x))), some (.inl (σ 490 (20 + y))), some (.inl 0), none, none], [], ck_up σ 490 (20 + x) (ck_gr (ck_L f x) (ck_mlm (ck_L f y) (z))))) (ps := [0 ≤ 20 + x ∧ 20 + x < ((82 : Nat) : Int)]) rfl ⟨⟨by omega, by omega⟩, trivial⟩ ?_
    refine ck_forU 120 (fun v u => [some (.inr (480, 3, 6)), some (.inl k), some (.inl 0), some (.inl x), some (.inl y), some (.inl z), some (.inl (σ 490 (20 + x))), some (.inl (σ 490 (20 + y))), some (.inl v), u.1, u.2.1]) 4 (fun v s => 0 ≤ v ∧ v ≤ 4 ∧ (∀ b j, (b ≠ 490 ∨ j < 42 + 4 * y ∨ 42 + 4 * y + v ≤ j ∨ y = 10) → s b j = (ck_up σ 490 (20 + x) (ck_gr (ck_L f x) (ck_mlm (ck_L f y) (z)))) b j) ∧ (y ≠ 10 → ∀ q, 0 ≤ q → q < v → s 490 (42 + 4 * y + q) = ck_lw (ck_H f y q) (ck_mhm (ck_H f x q) (-z)))) (fun v u s hv hI kk => ?_) (fun v u s hv hI => ?_) 0 (none, none, none) _ ⟨by omega, by omega, fun _ _ _ => rfl, fun _ _ _ _ => by omega⟩
    · obtain ⟨h0, h4, hI1, hI2⟩ := hI
      have e1 : s 490 (42 + 4 * x + v) = ck_H f x v := by
        rw [hI1 _ _ (by omega), ← ck_y_H hf hx.1 hx.2 h0 hv]
        try (simp only [ck_up, true_and]
             (repeat' split) <;> first | rfl | omega)
      have e4 : s 490 (30 + v) = ck_V f v := by
        rw [hI1 _ _ (by omega), ← ck_y_V hf h0 hv]
        try (simp only [ck_up, true_and]
             (repeat' split) <;> first | rfl | omega)
      have e5 : s 490 (38 + v) = ck_G f v := by
        rw [hI1 _ _ (by omega), ← ck_y_G hf h0 hv]
        try (simp only [ck_up, true_and]
             (repeat' split) <;> first | rfl | omega)
      have b1 := hB.2.2.2.2.2.2 x v
      have b1y := hB.2.2.2.2.2.2 y v
      have b4 := hB.2.2.2.1 v
      have b5 := hB.2.2.2.2.2.1 v
      have bg := ck_agb0 (A := ck_V f v) b5
      refine ck_go_run 3 (X1 := (if v < 4 then 126 else 252, [some (.inr (480, 3, 6)), some (.inl k), some (.inl 0), some (.inl x), some (.inl y), some (.inl z), some (.inl (σ 490 (20 + x))), some (.inl (σ 490 (20 + y))), some (.inl v), u.1, u.2.1], [], s)) (ps := [ck_rg v, ck_rg 4]) rfl ⟨(ck_rgo (by omega) (by omega)), (ck_rgo (by omega) (by omega)), trivial⟩ ?_
      refine ck_go_t hv ?_
      refine ck_go_run 14 (X1 := (if y = 10 then 149 else 159, [some (.inr (480, 3, 6)), some (.inl k), some (.inl 0), some (.inl x), some (.inl y), some (.inl z), some (.inl (σ 490 (20 + x))), some (.inl (σ 490 (20 + y))), some (.inl v), some (.inl (s 490 ((42 + (4 * x)) + v))), u.2.1], [], s)) (ps := [0 ≤ (42 + (4 * x)) + v ∧ (42 + (4 * x)) + v < ((82 : Nat) : Int), ck_rg y, ck_rg 10]) rfl ⟨⟨by omega, by omega⟩, (ck_rgo (by omega) (by omega)), (ck_rgo (by omega) (by omega)), trivial⟩ ?_
      refine ck_go_f h1 ?_
      refine ck_go_run 13 (X1 := (if 0 = 0 then 211 else 180, [some (.inr (480, 3, 6)), some (.inl k), some (.inl 0), some (.inl x), some (.inl y), some (.inl z), some (.inl (σ 490 (20 + x))), some (.inl (σ 490 (20 + y))), some (.inl v), some (.inl (s 490 ((42 + (4 * x)) + v))), some (.inl (s 490 ((42 + (4 * y)) + v)))], [], s)) (ps := [0 ≤ (42 + (4 * y)) + v ∧ (42 + (4 * y)) + v < ((82 : Nat) : Int), ck_rg 0]) rfl ⟨⟨by omega, by omega⟩, (ck_rgo (by omega) (by omega)), trivial⟩ ?_
      refine ck_go_t (by decide) ?_
      refine ck_go_run 3 (X1 := (if y < 10 then 218 else 246, [some (.inr (480, 3, 6)), some (.inl k), some (.inl 0), some (.inl x), some (.inl y), some (.inl z), some (.inl (σ 490 (20 + x))), some (.inl (σ 490 (20 + y))), some (.inl v), some (.inl (s 490 ((42 + (4 * x)) + v))), some (.inl (s 490 ((42 + (4 * y)) + v)))], [], s)) (ps := [ck_rg y, ck_rg 10]) rfl ⟨(ck_rgo (by omega) (by omega)), (ck_rgo (by omega) (by omega)), trivial⟩ ?_
      refine ck_go_t (by omega) ?_
      refine ck_go_run 13 (X1 := (239, [some (.inr (480, 3, 6)), some (.inl k), some (.inl 0), some (.inl x), some (.inl y), some (.inl z), some (.inl (σ 490 (20 + x))), some (.inl (σ 490 (20 + y))), some (.inl v), some (.inl (s 490 ((42 + (4 * x)) + v))), some (.inl (s 490 ((42 + (4 * y)) + v)))], [.inl (-z), .inl (s 490 ((42 + (4 * x)) + v)), .inl (s 490 ((42 + (4 * y)) + v)), .inl ((42 + (4 * y)) + v), .inr (490, 0, 82)], s)) (ps := []) rfl trivial ?_
      refine ck_go_cal (rest := [.inl (s 490 ((42 + (4 * y)) + v)), .inl ((42 + (4 * y)) + v), .inr (490, 0, 82)]) (ck_cal_le (by decide) (cx_hm (V := ck_H f x v) (B := -z) e1 rfl b1 (by omega) _)) ⟨_, rfl, Or.inr ⟨_, rfl⟩, rfl, rfl, rfl, Nat.le_of_ble_eq_true rfl, fun h => absurd h (by decide)⟩ ?_
      rintro _ s' ⟨rfl, e'⟩
      rw [e']
      clear e' s'
      refine ck_go_cal (rest := [.inl ((42 + (4 * y)) + v), .inr (490, 0, 82)]) (ck_cal_le (by decide) (cx_lw (A := ck_H f y v) (B := ck_mhm (ck_H f x v) (-z)) (by rw [← ck_y_H hf (by omega) (by omega) h0 hv, hI1 _ _ (by omega)]; try (simp only [ck_up, true_and]; (repeat' split) <;> first | rfl | omega)) rfl (by omega) (ck_mhmb b1 (by omega)) _)) ⟨_, rfl, Or.inr ⟨_, rfl⟩, rfl, rfl, rfl, Nat.le_of_ble_eq_true rfl, fun h => absurd h (by decide)⟩ ?_
      rintro _ s' ⟨rfl, e'⟩
      rw [e']
      clear e' s'
      refine ck_go_run 3 (X1 := (120, [some (.inr (480, 3, 6)), some (.inl k), some (.inl 0), some (.inl x), some (.inl y), some (.inl z), some (.inl (σ 490 (20 + x))), some (.inl (σ 490 (20 + y))), some (.inl (v + 1)), some (.inl (s 490 ((42 + (4 * x)) + v))), some (.inl (s 490 ((42 + (4 * y)) + v)))], [], ck_up s 490 ((42 + (4 * y)) + v) (ck_lw (ck_H f y v) (ck_mhm (ck_H f x v) (-z))))) (ps := [0 ≤ (42 + (4 * y)) + v ∧ (42 + (4 * y)) + v < ((82 : Nat) : Int)]) rfl ⟨⟨by omega, by omega⟩, trivial⟩ ?_
      exact kk (some (.inl (s 490 ((42 + (4 * x)) + v))), some (.inl (s 490 ((42 + (4 * y)) + v))), none) _ ⟨by omega, by omega, (by
        have z := ck_st1 (base := 42 + 4 * y) (g := fun q => ck_lw (ck_H f y q) (ck_mhm (ck_H f x q) (-z))) (M := _) (fun b j hb => hI1 b j (by omega)) (hI2 h1) rfl h0
        exact ⟨fun b j hb => z.1 b j (by omega), fun _ => z.2⟩)⟩
    · obtain ⟨h0, h4, hI1, hI2⟩ := hI
      refine ck_go_run 3 (X1 := (if v < 4 then 126 else 252, [some (.inr (480, 3, 6)), some (.inl k), some (.inl 0), some (.inl x), some (.inl y), some (.inl z), some (.inl (σ 490 (20 + x))), some (.inl (σ 490 (20 + y))), some (.inl v), u.1, u.2.1], [], s)) (ps := [ck_rg v, ck_rg 4]) rfl ⟨(ck_rgo (by omega) (by omega)), (ck_rgo (by omega) (by omega)), trivial⟩ ?_
      refine ck_go_f (by omega) ?_
      refine ck_eV ⟨rfl, ?_, ?_⟩ rfl rfl rfl
      · intro b j hb
        rw [hI1 b j (by omega)]
        try (simp only [ck_up]
             (repeat' split) <;> first | rfl | omega)
      · unfold ck_qNot
        refine ck_P_ext (fun n a0 a1 => ?_) (fun n a0 a1 => ?_) (fun n a0 a1 => ?_) (fun q b0 b1 => ?_) (fun q b0 b1 => ?_) (fun q b0 b1 => ?_) (fun n q a0 a1 b0 b1 => ?_)
        · rw [← ck_y_K hf a0 a1, hI1 490 (0 + n) (by omega)]
          try (simp only [ck_up, true_and]
               (repeat' split) <;> first | rfl | omega)
        · rw [← ck_y_I hf a0 a1, hI1 490 (10 + n) (by omega)]
          try (simp only [ck_up, true_and]
               (repeat' split) <;> first | rfl | omega)
        · rw [hI1 490 (20 + n) (by omega)]
          simp only [ck_up, true_and]
          by_cases hn : n = x
          · subst hn
            rw [if_pos rfl, if_pos rfl]
            first | rw [if_pos h1] | rw [if_neg h1]
          · rw [if_neg (by omega), if_neg hn, ck_y_L hf a0 a1]
        · rw [← ck_y_V hf b0 b1, hI1 490 (30 + q) (by omega)]
          try (simp only [ck_up, true_and]
               (repeat' split) <;> first | rfl | omega)
        · rw [← ck_y_T hf b0 b1, hI1 490 (34 + q) (by omega)]
          try (simp only [ck_up, true_and]
               (repeat' split) <;> first | rfl | omega)
        · rw [← ck_y_G hf b0 b1, hI1 490 (38 + q) (by omega)]
          try (simp only [ck_up, true_and]
               (repeat' split) <;> first | rfl | omega)
        · by_cases hn : n = y
          · subst hn
            rw [if_pos rfl, hI2 (by omega) q b0 (by omega)]
          · rw [if_neg hn, ← ck_y_H hf a0 a1 b0 b1, hI1 490 (42 + 4 * n + q) (by omega)]
            try (simp only [ck_up, true_and]
                 (repeat' split) <;> first | rfl | omega)
end
section
/-- statements between k and e change the number n; the array r -/
def ck_cn (σ : ck_M) (k e n : Int) : Prop := ∃ j, k < j ∧ j < e ∧ σ 481 j < 5 ∧ σ 482 j = n
def ck_ca (σ : ck_M) (k e r : Int) : Prop := ∃ j, k < j ∧ j < e ∧ 6 ≤ σ 481 j ∧ σ 481 j ≤ 8 ∧ σ 482 j = r
/-- what a while doesn't keep -/
def ck_qFc (nb ab k : Int) (f : ck_Q) : ck_Q := ck_P (fun n => if ck_and (ck_shr nb n) 1 = 0 then ck_K f n else 0) (ck_I f) (ck_L f) (fun q => if ck_and (ck_shr ab q) 1 = 0 then ck_V f q else 100 + 4 * k + q) (ck_T f) (fun q => if ck_and (ck_shr ab q) 1 = 0 then ck_G f q else 1000000000) (ck_H f)
theorem ck_cn_s {σ : ck_M} {k v n : Int} (hk : k < v) : ck_cn σ k (v + 1) n ↔ ck_cn σ k v n ∨ (σ 481 v < 5 ∧ σ 482 v = n) := by
  constructor
  · rintro ⟨j, h1, h2, h3, h4⟩
    by_cases hj : j = v
    · subst hj
      exact Or.inr ⟨h3, h4⟩
    · exact Or.inl ⟨j, h1, by omega, h3, h4⟩
  · rintro (⟨j, h1, h2, h3, h4⟩ | ⟨h3, h4⟩)
    · exact ⟨j, h1, by omega, h3, h4⟩
    · exact ⟨v, hk, by omega, h3, h4⟩
theorem ck_ca_s {σ : ck_M} {k v r : Int} (hk : k < v) : ck_ca σ k (v + 1) r ↔ ck_ca σ k v r ∨ (6 ≤ σ 481 v ∧ σ 481 v ≤ 8 ∧ σ 482 v = r) := by
  constructor
  · rintro ⟨j, h1, h2, h3, h4, h5⟩
    by_cases hj : j = v
    · subst hj
      exact Or.inr ⟨h3, h4, h5⟩
    · exact Or.inl ⟨j, h1, by omega, h3, h4, h5⟩
  · rintro (⟨j, h1, h2, h3, h4, h5⟩ | ⟨h3, h4, h5⟩)
    · exact ⟨j, h1, by omega, h3, h4, h5⟩
    · exact ⟨v, hk, by omega, h3, h4, h5⟩
theorem ck_cn_0 {σ : ck_M} {k n : Int} : ¬ ck_cn σ k (k + 1) n := by rintro ⟨j, h1, h2, -⟩; omega
theorem ck_ca_0 {σ : ck_M} {k n : Int} : ¬ ck_ca σ k (k + 1) n := by rintro ⟨j, h1, h2, -⟩; omega
/-- loosened so far -/
def ck_lo2 (σ s : ck_M) (k v : Int) (f : ck_Q) : Prop := (∀ b j, b ≠ 490 → s b j = σ b j) ∧ (∀ n, 0 ≤ n → n < 10 → (ck_cn σ k v n → s 490 (0 + n) = 0) ∧ (¬ ck_cn σ k v n → s 490 (0 + n) = ck_K f n)) ∧ (∀ r, 0 ≤ r → r < 4 → (ck_ca σ k v r → s 490 (30 + r) = 100 + 4 * k + r ∧ s 490 (38 + r) = 1000000000) ∧ (¬ ck_ca σ k v r → s 490 (30 + r) = ck_V f r ∧ s 490 (38 + r) = ck_G f r)) ∧ (∀ n, 0 ≤ n → n < 10 → s 490 (10 + n) = ck_I f n ∧ s 490 (20 + n) = ck_L f n) ∧ (∀ r, 0 ≤ r → r < 4 → s 490 (34 + r) = ck_T f r) ∧ ∀ n r, 0 ≤ n → n < 10 → 0 ≤ r → r < 4 → s 490 (42 + 4 * n + r) = ck_H f n r
theorem ck_lo2_0 {σ : ck_M} {k : Int} {f : ck_Q} (hf : ck_mv (σ 490) = f) : ck_lo2 σ σ k (k + 1) f :=
  ⟨fun _ _ _ => rfl, fun n h0 h1 => ⟨fun h => absurd h ck_cn_0, fun _ => ck_y_K hf h0 h1⟩, fun r h0 h1 => ⟨fun h => absurd h ck_ca_0, fun _ => ⟨ck_y_V hf h0 h1, ck_y_G hf h0 h1⟩⟩, fun n h0 h1 => ⟨ck_y_I hf h0 h1, ck_y_L hf h0 h1⟩, fun r h0 h1 => ck_y_T hf h0 h1, fun n r h0 h1 h2 h3 => ck_y_H hf h0 h1 h2 h3⟩
theorem ck_lo2_n {σ s : ck_M} {k v x : Int} {f : ck_Q} (hk : k < v) (h : ck_lo2 σ s k v f) (h5 : σ 481 v < 5) (h0 : 0 ≤ σ 481 v) (hx : σ 482 v = x) (hx0 : 0 ≤ x) (hx1 : x < 10) : ck_lo2 σ (ck_up s 490 (0 + x) 0) k (v + 1) f := by
  obtain ⟨a1, a2, a3, a4, a5, a6⟩ := h
  have up : ∀ j, j ≠ 0 + x → ck_up s 490 (0 + x) 0 490 j = s 490 j := fun j hj => by unfold ck_up; rw [if_neg (fun q => hj q.2)]
  refine ⟨fun b j hb => ?_, fun n z0 z1 => ?_, fun r z0 z1 => ?_, fun n z0 z1 => ?_, fun r z0 z1 => ?_, fun n r z0 z1 z2 z3 => ?_⟩
  · unfold ck_up
    rw [if_neg (fun q => hb q.1)]
    exact a1 b j hb
  · rw [ck_cn_s hk]
    by_cases hn : n = x
    · subst hn
      have e : ck_up s 490 (0 + n) 0 490 (0 + n) = 0 := by unfold ck_up; rw [if_pos ⟨rfl, rfl⟩]
      exact ⟨fun _ => e, fun q => absurd (Or.inr ⟨h5, hx⟩) q⟩
    · rw [up (0 + n) (by omega)]
      refine ⟨fun q => (a2 n z0 z1).1 (q.resolve_right (fun z => hn ?_)), fun q => (a2 n z0 z1).2 (fun z => q (Or.inl z))⟩
      rw [← hx]; exact z.2.symm
  · rw [ck_ca_s hk]
    rw [up (30 + r) (by omega), up (38 + r) (by omega)]
    exact ⟨fun q => (a3 r z0 z1).1 (q.resolve_right (fun z => by omega)), fun q => (a3 r z0 z1).2 (fun z => q (Or.inl z))⟩
  · rw [up (10 + n) (by omega), up (20 + n) (by omega)]
    exact a4 n z0 z1
  · rw [up (34 + r) (by omega)]
    exact a5 r z0 z1
  · rw [up (42 + 4 * n + r) (by omega)]
    exact a6 n r z0 z1 z2 z3
theorem ck_lo2_a {σ s : ck_M} {k v x : Int} {f : ck_Q} (hk : k < v) (h : ck_lo2 σ s k v f) (h6 : 6 ≤ σ 481 v) (h8 : σ 481 v ≤ 8) (hx : σ 482 v = x) (hx0 : 0 ≤ x) (hx1 : x < 4) : ck_lo2 σ (ck_up (ck_up s 490 (30 + x) (100 + 4 * k + x)) 490 (38 + x) 1000000000) k (v + 1) f := by
  obtain ⟨a1, a2, a3, a4, a5, a6⟩ := h
  have up : ∀ j, j ≠ 30 + x → j ≠ 38 + x → ck_up (ck_up s 490 (30 + x) (100 + 4 * k + x)) 490 (38 + x) 1000000000 490 j = s 490 j := fun j hj hj2 => by unfold ck_up; rw [if_neg (fun q => hj2 q.2), if_neg (fun q => hj q.2)]
  refine ⟨fun b j hb => ?_, fun n z0 z1 => ?_, fun r z0 z1 => ?_, fun n z0 z1 => ?_, fun r z0 z1 => ?_, fun n r z0 z1 z2 z3 => ?_⟩
  · unfold ck_up
    rw [if_neg (fun q => hb q.1), if_neg (fun q => hb q.1)]
    exact a1 b j hb
  · rw [ck_cn_s hk, up (0 + n) (by omega) (by omega)]
    exact ⟨fun q => (a2 n z0 z1).1 (q.resolve_right (fun z => by omega)), fun q => (a2 n z0 z1).2 (fun z => q (Or.inl z))⟩
  · rw [ck_ca_s hk]
    by_cases hn : r = x
    · subst hn
      have e : ck_up (ck_up s 490 (30 + r) (100 + 4 * k + r)) 490 (38 + r) 1000000000 490 (30 + r) = 100 + 4 * k + r := by unfold ck_up; rw [if_neg (by omega), if_pos ⟨rfl, rfl⟩]
      have e2 : ck_up (ck_up s 490 (30 + r) (100 + 4 * k + r)) 490 (38 + r) 1000000000 490 (38 + r) = 1000000000 := by unfold ck_up; rw [if_pos ⟨rfl, rfl⟩]
      exact ⟨fun _ => ⟨e, e2⟩, fun q => absurd (Or.inr ⟨h6, h8, hx⟩) q⟩
    · rw [up (30 + r) (by omega) (by omega), up (38 + r) (by omega) (by omega)]
      refine ⟨fun q => (a3 r z0 z1).1 (q.resolve_right (fun z => hn ?_)), fun q => (a3 r z0 z1).2 (fun z => q (Or.inl z))⟩
      rw [← hx]; exact z.2.2.symm
  · rw [up (10 + n) (by omega) (by omega), up (20 + n) (by omega) (by omega)]
    exact a4 n z0 z1
  · rw [up (34 + r) (by omega) (by omega)]
    exact a5 r z0 z1
  · rw [up (42 + 4 * n + r) (by omega) (by omega)]
    exact a6 n r z0 z1 z2 z3
theorem ck_lo2_o {σ s : ck_M} {k v : Int} {f : ck_Q} (hk : k < v) (h : ck_lo2 σ s k v f) (h5 : ¬ σ 481 v < 5) (h6 : ¬ (6 ≤ σ 481 v ∧ σ 481 v ≤ 8)) : ck_lo2 σ s k (v + 1) f := by
  obtain ⟨a1, a2, a3, a4⟩ := h
  refine ⟨a1, fun n z0 z1 => ?_, fun r z0 z1 => ?_, a4⟩
  · rw [ck_cn_s hk]
    exact ⟨fun q => (a2 n z0 z1).1 (q.resolve_right (fun z => h5 z.1)), fun q => (a2 n z0 z1).2 (fun z => q (Or.inl z))⟩
  · rw [ck_ca_s hk]
    exact ⟨fun q => (a3 r z0 z1).1 (q.resolve_right (fun z => h6 ⟨z.1, z.2.1⟩)), fun q => (a3 r z0 z1).2 (fun z => q (Or.inl z))⟩
theorem ck_lo2_e {σ s : ck_M} {k e nb ab : Int} {f : ck_Q} (h : ck_lo2 σ s k e f) (hN : ∀ n, 0 ≤ n → n < 10 → (ck_and (ck_shr nb n) 1 = 0 ↔ ¬ ck_cn σ k e n)) (hA : ∀ r, 0 ≤ r → r < 4 → (ck_and (ck_shr ab r) 1 = 0 ↔ ¬ ck_ca σ k e r)) : ck_mv (s 490) = ck_qFc nb ab k f := by
  obtain ⟨a1, a2, a3, a4, a5, a6⟩ := h
  unfold ck_qFc
  refine ck_P_ext (fun n a0 a1 => ?_) (fun n a0 a1 => ?_) (fun n a0 a1 => ?_) (fun q b0 b1 => ?_) (fun q b0 b1 => ?_) (fun q b0 b1 => ?_) (fun n q a0 a1 b0 b1 => ?_)
  · by_cases hb : ck_and (ck_shr nb n) 1 = 0
    · rw [if_pos hb]
      exact (a2 n a0 a1).2 ((hN n a0 a1).mp hb)
    · rw [if_neg hb]
      exact (a2 n a0 a1).1 (Classical.byContradiction fun z => hb ((hN n a0 a1).mpr z))
  · exact (a4 n a0 a1).1
  · exact (a4 n a0 a1).2
  · by_cases hb : ck_and (ck_shr ab q) 1 = 0
    · rw [if_pos hb]
      exact ((a3 q b0 b1).2 ((hA q b0 b1).mp hb)).1
    · rw [if_neg hb]
      exact ((a3 q b0 b1).1 (Classical.byContradiction fun z => hb ((hA q b0 b1).mpr z))).1
  · exact a5 q b0 b1
  · by_cases hb : ck_and (ck_shr ab q) 1 = 0
    · rw [if_pos hb]
      exact ((a3 q b0 b1).2 ((hA q b0 b1).mp hb)).2
    · rw [if_neg hb]
      exact ((a3 q b0 b1).1 (Classical.byContradiction fun z => hb ((hA q b0 b1).mpr z))).2
  · exact a6 n q a0 a1 b0 b1
theorem cx_loosen {k e nb ab : Int} (hk : 0 ≤ k ∧ k < 64) (he : k < e ∧ e < 64) {σ : ck_M} (hE : σ 486 k = e) (hS : ∀ j, k < j → j < e → (0 ≤ σ 481 j ∧ σ 481 j ≤ 13) ∧ (0 ≤ σ 482 j ∧ σ 482 j < 10) ∧ (6 ≤ σ 481 j ∧ σ 481 j ≤ 8 → σ 482 j < 4)) (hN : ∀ n, 0 ≤ n → n < 10 → (ck_and (ck_shr nb n) 1 = 0 ↔ ¬ ck_cn σ k e n)) (hA : ∀ r, 0 ≤ r → r < 4 → (ck_and (ck_shr ab r) 1 = 0 ↔ ¬ ck_ca σ k e r)) {f : ck_Q} (hf : ck_mv (σ 490) = f) : ck_cal 1 cm_Mo_loosen [.inr (480, 3, 6), .inl k] σ (fun q σ' => q = none ∧ ck_f1 σ σ' 490 ∧ ck_mv (σ' 490) = ck_qFc nb ab k f) := by
  refine ck_cal_of ?_
  refine ck_go_run 4 (X1 := (4, [some (.inr (480, 3, 6)), some (.inl k), some (.inl (k + 1))], [], σ)) (ps := []) rfl trivial ?_
  refine ck_for 4 (fun v => [some (.inr (480, 3, 6)), some (.inl k), some (.inl v)]) e (fun v s => k < v ∧ v ≤ e ∧ ck_lo2 σ s k v f) (fun v s hv hI kk => ?_) (fun v s hv hI => ?_) (k + 1) _ ⟨by omega, by omega, ck_lo2_0 hf⟩
  · obtain ⟨h0, h4, hI⟩ := hI
    have eE : s 486 k = e := by rw [hI.1 _ _ (by decide), hE]
    have eS : s 481 v = σ 481 v := hI.1 _ _ (by decide)
    have eX : s 482 v = σ 482 v := hI.1 _ _ (by decide)
    have w1 := hS v h0 hv
    rw [← eS, ← eX] at w1
    refine ck_go_run 6 (X1 := (if v < s 486 k then 14 else 112, [some (.inr (480, 3, 6)), some (.inl k), some (.inl v)], [], s)) (ps := [0 ≤ k ∧ k < ((64 : Nat) : Int), ck_rg v, ck_rg (s 486 k)]) rfl ⟨⟨by omega, by omega⟩, (ck_rgo (by omega) (by omega)), (ck_rgo (by omega) (by omega)), trivial⟩ ?_
    refine ck_go_t (by omega) ?_
    refine ck_go_run 6 (X1 := (if s 481 v < 5 then 24 else 38, [some (.inr (480, 3, 6)), some (.inl k), some (.inl v)], [], s)) (ps := [0 ≤ v ∧ v < ((64 : Nat) : Int), ck_rg (s 481 v), ck_rg 5]) rfl ⟨⟨by omega, by omega⟩, (ck_rgo (by omega) (by omega)), (ck_rgo (by omega) (by omega)), trivial⟩ ?_
    refine ck_go_ite (fun h1 => ?_) (fun h1 => ?_)
    · refine ck_go_run 10 (X1 := (38, [some (.inr (480, 3, 6)), some (.inl k), some (.inl v)], [], ck_up s 490 (0 + (s 482 v)) 0)) (ps := [0 ≤ v ∧ v < ((64 : Nat) : Int), 0 ≤ 0 + (s 482 v) ∧ 0 + (s 482 v) < ((82 : Nat) : Int)]) rfl ⟨⟨by omega, by omega⟩, ⟨by omega, by omega⟩, trivial⟩ ?_
      obtain ⟨t, ht⟩ : ∃ z, z = ck_up s 490 (0 + (s 482 v)) 0 := ⟨_, rfl⟩
      rw [← ht]
      have tS : t 481 v = s 481 v := by rw [ht]; try (simp only [ck_up]; rw [if_neg (by omega)])
      have tX : t 482 v = s 482 v := by rw [ht]; try (simp only [ck_up]; rw [if_neg (by omega)])
      refine ck_go_run 6 (X1 := (if t 481 v < 6 then 106 else 49, [some (.inr (480, 3, 6)), some (.inl k), some (.inl v)], [], t)) (ps := [0 ≤ v ∧ v < ((64 : Nat) : Int), ck_rg (t 481 v), ck_rg 6]) rfl ⟨⟨by omega, by omega⟩, (ck_rgo (by omega) (by omega)), (ck_rgo (by omega) (by omega)), trivial⟩ ?_
      refine ck_go_ite (fun h2 => ?_) (fun h2 => ?_)
      · refine ck_go_run 2 (X1 := (4, [some (.inr (480, 3, 6)), some (.inl k), some (.inl (v + 1))], [], t)) (ps := []) rfl trivial ?_
        exact kk _ ⟨by omega, by omega, (by
          first
          | (exfalso; omega)
          | (rw [ht]; exact ck_lo2_n h0 hI (by omega) (by omega) eX.symm (by omega) (by omega))
          | (rw [ht]; exact ck_lo2_o h0 hI (by omega) (by omega)))⟩
      · refine ck_go_run 6 (X1 := (if 8 < t 481 v then 60 else 63, [some (.inr (480, 3, 6)), some (.inl k), some (.inl v)], [], t)) (ps := [0 ≤ v ∧ v < ((64 : Nat) : Int), ck_rg (t 481 v), ck_rg 8]) rfl ⟨⟨by omega, by omega⟩, (ck_rgo (by omega) (by omega)), (ck_rgo (by omega) (by omega)), trivial⟩ ?_
        refine ck_go_ite (fun h3 => ?_) (fun h3 => ?_)
        · refine ck_go_run 3 (X1 := (4, [some (.inr (480, 3, 6)), some (.inl k), some (.inl (v + 1))], [], t)) (ps := []) rfl trivial ?_
          exact kk _ ⟨by omega, by omega, (by
            first
            | (exfalso; omega)
            | (rw [ht]; exact ck_lo2_n h0 hI (by omega) (by omega) eX.symm (by omega) (by omega))
            | (rw [ht]; exact ck_lo2_o h0 hI (by omega) (by omega)))⟩
        · refine ck_go_run 19 (X1 := (90, [some (.inr (480, 3, 6)), some (.inl k), some (.inl v)], [], ck_up t 490 (30 + (t 482 v)) ((100 + (4 * k)) + (t 482 v)))) (ps := [0 ≤ v ∧ v < ((64 : Nat) : Int), 0 ≤ v ∧ v < ((64 : Nat) : Int), 0 ≤ 30 + (t 482 v) ∧ 30 + (t 482 v) < ((82 : Nat) : Int)]) rfl ⟨⟨by omega, by omega⟩, ⟨by omega, by omega⟩, ⟨by omega, by omega⟩, trivial⟩ ?_
          obtain ⟨t2, ht2⟩ : ∃ z, z = ck_up t 490 (30 + (t 482 v)) ((100 + (4 * k)) + (t 482 v)) := ⟨_, rfl⟩
          rw [← ht2]
          have t2X : t2 482 v = s 482 v := by rw [ht2]; simp only [ck_up]; rw [if_neg (by omega)]; exact tX
          refine ck_go_run 12 (X1 := (4, [some (.inr (480, 3, 6)), some (.inl k), some (.inl (v + 1))], [], ck_up t2 490 (38 + (t2 482 v)) 1000000000)) (ps := [0 ≤ v ∧ v < ((64 : Nat) : Int), 0 ≤ 38 + (t2 482 v) ∧ 38 + (t2 482 v) < ((82 : Nat) : Int)]) rfl ⟨⟨by omega, by omega⟩, ⟨by omega, by omega⟩, trivial⟩ ?_
          exact kk _ ⟨by omega, by omega, (by
            first
            | (exfalso; omega)
            | (rw [t2X, ht2, tX, ht]; exact ck_lo2_a h0 hI (by omega) (by omega) eX.symm (by omega) (by omega)))⟩
    · obtain ⟨t, ht⟩ : ∃ z, z = s := ⟨_, rfl⟩
      rw [← ht]
      have tS : t 481 v = s 481 v := by rw [ht]; try (simp only [ck_up]; rw [if_neg (by omega)])
      have tX : t 482 v = s 482 v := by rw [ht]; try (simp only [ck_up]; rw [if_neg (by omega)])
      refine ck_go_run 6 (X1 := (if t 481 v < 6 then 106 else 49, [some (.inr (480, 3, 6)), some (.inl k), some (.inl v)], [], t)) (ps := [0 ≤ v ∧ v < ((64 : Nat) : Int), ck_rg (t 481 v), ck_rg 6]) rfl ⟨⟨by omega, by omega⟩, (ck_rgo (by omega) (by omega)), (ck_rgo (by omega) (by omega)), trivial⟩ ?_
      refine ck_go_ite (fun h4 => ?_) (fun h4 => ?_)
      · refine ck_go_run 2 (X1 := (4, [some (.inr (480, 3, 6)), some (.inl k), some (.inl (v + 1))], [], t)) (ps := []) rfl trivial ?_
        exact kk _ ⟨by omega, by omega, (by
          first
          | (exfalso; omega)
          | (rw [ht]; exact ck_lo2_n h0 hI (by omega) (by omega) eX.symm (by omega) (by omega))
          | (rw [ht]; exact ck_lo2_o h0 hI (by omega) (by omega)))⟩
      · refine ck_go_run 6 (X1 := (if 8 < t 481 v then 60 else 63, [some (.inr (480, 3, 6)), some (.inl k), some (.inl v)], [], t)) (ps := [0 ≤ v ∧ v < ((64 : Nat) : Int), ck_rg (t 481 v), ck_rg 8]) rfl ⟨⟨by omega, by omega⟩, (ck_rgo (by omega) (by omega)), (ck_rgo (by omega) (by omega)), trivial⟩ ?_
        refine ck_go_ite (fun h5 => ?_) (fun h5 => ?_)
        · refine ck_go_run 3 (X1 := (4, [some (.inr (480, 3, 6)), some (.inl k), some (.inl (v + 1))], [], t)) (ps := []) rfl trivial ?_
          exact kk _ ⟨by omega, by omega, (by
            first
            | (exfalso; omega)
            | (rw [ht]; exact ck_lo2_n h0 hI (by omega) (by omega) eX.symm (by omega) (by omega))
            | (rw [ht]; exact ck_lo2_o h0 hI (by omega) (by omega)))⟩
        · refine ck_go_run 19 (X1 := (90, [some (.inr (480, 3, 6)), some (.inl k), some (.inl v)], [], ck_up t 490 (30 + (t 482 v)) ((100 + (4 * k)) + (t 482 v)))) (ps := [0 ≤ v ∧ v < ((64 : Nat) : Int), 0 ≤ v ∧ v < ((64 : Nat) : Int), 0 ≤ 30 + (t 482 v) ∧ 30 + (t 482 v) < ((82 : Nat) : Int)]) rfl ⟨⟨by omega, by omega⟩, ⟨by omega, by omega⟩, ⟨by omega, by omega⟩, trivial⟩ ?_
          obtain ⟨t2, ht2⟩ : ∃ z, z = ck_up t 490 (30 + (t 482 v)) ((100 + (4 * k)) + (t 482 v)) := ⟨_, rfl⟩
          rw [← ht2]
          have t2X : t2 482 v = s 482 v := by rw [ht2]; simp only [ck_up]; rw [if_neg (by omega)]; exact tX
          refine ck_go_run 12 (X1 := (4, [some (.inr (480, 3, 6)), some (.inl k), some (.inl (v + 1))], [], ck_up t2 490 (38 + (t2 482 v)) 1000000000)) (ps := [0 ≤ v ∧ v < ((64 : Nat) : Int), 0 ≤ 38 + (t2 482 v) ∧ 38 + (t2 482 v) < ((82 : Nat) : Int)]) rfl ⟨⟨by omega, by omega⟩, ⟨by omega, by omega⟩, trivial⟩ ?_
          exact kk _ ⟨by omega, by omega, (by
            first
            | (exfalso; omega)
            | (rw [t2X, ht2, tX, ht]; exact ck_lo2_a h0 hI (by omega) (by omega) eX.symm (by omega) (by omega)))⟩
  · obtain ⟨h0, h4, hI⟩ := hI
    have eE : s 486 k = e := by rw [hI.1 _ _ (by decide), hE]
    refine ck_go_run 6 (X1 := (if v < s 486 k then 14 else 112, [some (.inr (480, 3, 6)), some (.inl k), some (.inl v)], [], s)) (ps := [0 ≤ k ∧ k < ((64 : Nat) : Int), ck_rg v, ck_rg (s 486 k)]) rfl ⟨⟨by omega, by omega⟩, (ck_rgo (by omega) (by omega)), (ck_rgo (by omega) (by omega)), trivial⟩ ?_
    refine ck_go_f (by omega) ?_
    obtain rfl : v = e := by omega
    exact ck_eV ⟨rfl, hI.1, ck_lo2_e hI hN hA⟩ rfl rfl rfl
end
section
theorem ck_go_pc {d : Nat} {md : ck_MD} {T : ck_F → Prop} {p q : Nat} {ls : ck_Ls} {st : List ck_PV} {σ : ck_M} (h : p = q) (k : ck_go d md (q, ls, st, σ) T) : ck_go d md (p, ls, st, σ) T := h ▸ k
/-- what a statement that is no if, while, ELSE or END does to a row -/
def ck_qEff (t x y z k : Int) (f : ck_Q) : ck_Q := if t = 0 then ck_qSet x y f else if t = 1 then ck_qSum x y z f else if t = 2 then ck_qAny x f else if t = 3 then ck_qLen x y f else if t = 4 then ck_qAny x (ck_qUse y z f) else if t = 5 then ck_qUse x y f else if t = 6 then ck_qNew k x y f else if t = 7 then ck_qNull x f else if t = 8 then ck_qLet x y f else f
/-- a statement's numbers are in their ranges -/
def ck_sOk (t x y z : Int) : Prop := (t = 0 ∧ (0 ≤ x ∧ x < 10) ∧ (-100 ≤ y ∧ y ≤ 100)) ∨ (t = 1 ∧ (0 ≤ x ∧ x < 10) ∧ (0 ≤ y ∧ y < 10) ∧ (-100 ≤ z ∧ z ≤ 100)) ∨ (t = 2 ∧ 0 ≤ x ∧ x < 10) ∨ (t = 3 ∧ (0 ≤ x ∧ x < 10) ∧ 0 ≤ y ∧ y < 4) ∨ (t = 4 ∧ (0 ≤ x ∧ x < 10) ∧ (0 ≤ y ∧ y < 4) ∧ 0 ≤ z ∧ z < 10) ∨ (t = 5 ∧ (0 ≤ x ∧ x < 4) ∧ (0 ≤ y ∧ y < 10) ∧ 0 ≤ z ∧ z < 10) ∨ (t = 6 ∧ (0 ≤ x ∧ x < 4) ∧ 0 ≤ y ∧ y < 10) ∨ (t = 7 ∧ 0 ≤ x ∧ x < 4) ∨ (t = 8 ∧ (0 ≤ x ∧ x < 4) ∧ 0 ≤ y ∧ y < 4) ∨ (t = 9 ∧ (0 ≤ x ∧ x < 10) ∧ (0 ≤ y ∧ y ≤ 10) ∧ (-100 ≤ z ∧ z ≤ 100)) ∨ t = 10 ∨ t = 11 ∨ (t = 12 ∧ (0 ≤ x ∧ x < 10) ∧ (0 ≤ y ∧ y ≤ 10) ∧ (-100 ≤ z ∧ z ≤ 100)) ∨ (t = 13 ∧ 0 ≤ x ∧ x < 10)
set_option maxHeartbeats 20000000 in
theorem cx_effect {k : Int} (hk : 0 ≤ k ∧ k < 64) {σ : ck_M} (hO : ck_sOk (σ 481 k) (σ 482 k) (σ 483 k) (σ 484 k)) {f : ck_Q} (hf : ck_mv (σ 490) = f) (hB : ck_qb f) : ck_cal 4 cm_Mo_effect [.inr (480, 3, 6), .inl k] σ (fun q σ' => q = none ∧ ck_f1 σ σ' 490 ∧ ck_mv (σ' 490) = ck_qEff (σ 481 k) (σ 482 k) (σ 483 k) (σ 484 k) k f) := by
  refine ck_cal_of ?_
  have hT : σ 481 k = 0 ∨ σ 481 k = 1 ∨ σ 481 k = 2 ∨ σ 481 k = 3 ∨ σ 481 k = 4 ∨ σ 481 k = 5 ∨ σ 481 k = 6 ∨ σ 481 k = 7 ∨ σ 481 k = 8 ∨ σ 481 k = 9 ∨ σ 481 k = 10 ∨ σ 481 k = 11 ∨ σ 481 k = 12 ∨ σ 481 k = 13 := by unfold ck_sOk at hO; omega
  refine ck_go_run 5 (X1 := (ck_sw 0 (σ 481 k) 232 [56, 75, 100, 113, 132, 161, 180, 200, 213], [some (.inr (480, 3, 6)), some (.inl k)], [], σ)) (ps := [0 ≤ k ∧ k < ((64 : Nat) : Int), ck_rg (σ 481 k)]) rfl ⟨⟨by omega, by omega⟩, (ck_rgo (by omega) (by omega)), trivial⟩ ?_
  rcases hT with hsw | hsw | hsw | hsw | hsw | hsw | hsw | hsw | hsw | hsw | hsw | hsw | hsw | hsw
  · rw [hsw]
    refine ck_go_pc (q := 56) rfl ?_
    refine ck_go_run 9 (X1 := (69, [some (.inr (480, 3, 6)), some (.inl k)], [.inl (σ 483 k), .inl (σ 482 k), .inr (480, 3, 6)], σ)) (ps := [0 ≤ k ∧ k < ((64 : Nat) : Int), 0 ≤ k ∧ k < ((64 : Nat) : Int)]) rfl ⟨⟨by omega, by omega⟩, ⟨by omega, by omega⟩, trivial⟩ ?_
    refine ck_go_cal (rest := []) (ck_cal_le (by decide) (cx_set (x := σ 482 k) (k := σ 483 k) (by unfold ck_sOk at hO; omega) (by unfold ck_sOk at hO; omega) hf hB)) ⟨_, rfl, Or.inl ⟨_, rfl⟩, rfl, rfl, rfl, Nat.le_of_ble_eq_true rfl, fun _ => ⟨_, _, rfl⟩⟩ ?_
    rintro _ s1 ⟨rfl, g1, r1⟩
    try dsimp only at g1 r1
    refine ck_go_run 1 (X1 := (232, [some (.inr (480, 3, 6)), some (.inl k)], [], s1)) (ps := []) rfl trivial ?_
    first
    | exact ck_eV ⟨rfl, g1, by rw [r1]; rfl⟩ rfl rfl rfl
    | exact ck_eV ⟨rfl, ck_f1_tr g0 g1, by rw [r1, g0 _ _ (by decide)]; rfl⟩ rfl rfl rfl
  · rw [hsw]
    refine ck_go_pc (q := 75) rfl ?_
    refine ck_go_run 13 (X1 := (94, [some (.inr (480, 3, 6)), some (.inl k)], [.inl (σ 484 k), .inl (σ 483 k), .inl (σ 482 k), .inr (480, 3, 6)], σ)) (ps := [0 ≤ k ∧ k < ((64 : Nat) : Int), 0 ≤ k ∧ k < ((64 : Nat) : Int), 0 ≤ k ∧ k < ((64 : Nat) : Int)]) rfl ⟨⟨by omega, by omega⟩, ⟨by omega, by omega⟩, ⟨by omega, by omega⟩, trivial⟩ ?_
    refine ck_go_cal (rest := []) (ck_cal_le (by decide) (cx_add (x := σ 482 k) (y := σ 483 k) (z := σ 484 k) (by unfold ck_sOk at hO; omega) (by unfold ck_sOk at hO; omega) (by unfold ck_sOk at hO; omega) hf hB)) ⟨_, rfl, Or.inl ⟨_, rfl⟩, rfl, rfl, rfl, Nat.le_of_ble_eq_true rfl, fun _ => ⟨_, _, rfl⟩⟩ ?_
    rintro _ s2 ⟨rfl, g2, r2⟩
    try dsimp only at g2 r2
    refine ck_go_run 1 (X1 := (232, [some (.inr (480, 3, 6)), some (.inl k)], [], s2)) (ps := []) rfl trivial ?_
    first
    | exact ck_eV ⟨rfl, g2, by rw [r2]; rfl⟩ rfl rfl rfl
    | exact ck_eV ⟨rfl, ck_f1_tr g1 g2, by rw [r2, g1 _ _ (by decide)]; rfl⟩ rfl rfl rfl
  · rw [hsw]
    refine ck_go_pc (q := 100) rfl ?_
    refine ck_go_run 5 (X1 := (107, [some (.inr (480, 3, 6)), some (.inl k)], [.inl (σ 482 k), .inr (480, 3, 6)], σ)) (ps := [0 ≤ k ∧ k < ((64 : Nat) : Int)]) rfl ⟨⟨by omega, by omega⟩, trivial⟩ ?_
    refine ck_go_cal (rest := []) (ck_cal_le (by decide) (cx_forget (x := σ 482 k) (by unfold ck_sOk at hO; omega) hf)) ⟨_, rfl, Or.inl ⟨_, rfl⟩, rfl, rfl, rfl, Nat.le_of_ble_eq_true rfl, fun _ => ⟨_, _, rfl⟩⟩ ?_
    rintro _ s3 ⟨rfl, g3, r3⟩
    try dsimp only at g3 r3
    refine ck_go_run 1 (X1 := (232, [some (.inr (480, 3, 6)), some (.inl k)], [], s3)) (ps := []) rfl trivial ?_
    first
    | exact ck_eV ⟨rfl, g3, by rw [r3]; rfl⟩ rfl rfl rfl
    | exact ck_eV ⟨rfl, ck_f1_tr g2 g3, by rw [r3, g2 _ _ (by decide)]; rfl⟩ rfl rfl rfl
  · rw [hsw]
    refine ck_go_pc (q := 113) rfl ?_
    refine ck_go_run 9 (X1 := (126, [some (.inr (480, 3, 6)), some (.inl k)], [.inl (σ 483 k), .inl (σ 482 k), .inr (480, 3, 6)], σ)) (ps := [0 ≤ k ∧ k < ((64 : Nat) : Int), 0 ≤ k ∧ k < ((64 : Nat) : Int)]) rfl ⟨⟨by omega, by omega⟩, ⟨by omega, by omega⟩, trivial⟩ ?_
    refine ck_go_cal (rest := []) (ck_cal_le (by decide) (cx_measured (x := σ 482 k) (a := σ 483 k) (by unfold ck_sOk at hO; omega) (by unfold ck_sOk at hO; omega) hf hB)) ⟨_, rfl, Or.inl ⟨_, rfl⟩, rfl, rfl, rfl, Nat.le_of_ble_eq_true rfl, fun _ => ⟨_, _, rfl⟩⟩ ?_
    rintro _ s4 ⟨rfl, g4, r4⟩
    try dsimp only at g4 r4
    refine ck_go_run 1 (X1 := (232, [some (.inr (480, 3, 6)), some (.inl k)], [], s4)) (ps := []) rfl trivial ?_
    first
    | exact ck_eV ⟨rfl, g4, by rw [r4]; rfl⟩ rfl rfl rfl
    | exact ck_eV ⟨rfl, ck_f1_tr g3 g4, by rw [r4, g3 _ _ (by decide)]; rfl⟩ rfl rfl rfl
  · rw [hsw]
    refine ck_go_pc (q := 132) rfl ?_
    refine ck_go_run 9 (X1 := (145, [some (.inr (480, 3, 6)), some (.inl k)], [.inl (σ 484 k), .inl (σ 483 k), .inr (480, 3, 6)], σ)) (ps := [0 ≤ k ∧ k < ((64 : Nat) : Int), 0 ≤ k ∧ k < ((64 : Nat) : Int)]) rfl ⟨⟨by omega, by omega⟩, ⟨by omega, by omega⟩, trivial⟩ ?_
    refine ck_go_cal (rest := []) (ck_cal_le (by decide) (cx_indexed (a := σ 483 k) (m := σ 484 k) (by unfold ck_sOk at hO; omega) (by unfold ck_sOk at hO; omega) hf hB)) ⟨_, rfl, Or.inl ⟨_, rfl⟩, rfl, rfl, rfl, Nat.le_of_ble_eq_true rfl, fun _ => ⟨_, _, rfl⟩⟩ ?_
    rintro _ s5 ⟨rfl, g5, r5⟩
    try dsimp only at g5 r5
    refine ck_go_run 5 (X1 := (155, [some (.inr (480, 3, 6)), some (.inl k)], [.inl (s5 482 k), .inr (480, 3, 6)], s5)) (ps := [0 ≤ k ∧ k < ((64 : Nat) : Int)]) rfl ⟨⟨by omega, by omega⟩, trivial⟩ ?_
    refine ck_go_cal (rest := []) (ck_cal_le (by decide) (cx_forget (x := s5 482 k) (by rw [g5 _ _ (by decide)]; unfold ck_sOk at hO; omega) r5)) ⟨_, rfl, Or.inl ⟨_, rfl⟩, rfl, rfl, rfl, Nat.le_of_ble_eq_true rfl, fun _ => ⟨_, _, rfl⟩⟩ ?_
    rintro _ s6 ⟨rfl, g6, r6⟩
    try dsimp only at g6 r6
    refine ck_go_run 1 (X1 := (232, [some (.inr (480, 3, 6)), some (.inl k)], [], s6)) (ps := []) rfl trivial ?_
    first
    | exact ck_eV ⟨rfl, g6, by rw [r6]; rfl⟩ rfl rfl rfl
    | exact ck_eV ⟨rfl, ck_f1_tr g5 g6, by rw [r6, g5 _ _ (by decide)]; rfl⟩ rfl rfl rfl
  · rw [hsw]
    refine ck_go_pc (q := 161) rfl ?_
    refine ck_go_run 9 (X1 := (174, [some (.inr (480, 3, 6)), some (.inl k)], [.inl (σ 483 k), .inl (σ 482 k), .inr (480, 3, 6)], σ)) (ps := [0 ≤ k ∧ k < ((64 : Nat) : Int), 0 ≤ k ∧ k < ((64 : Nat) : Int)]) rfl ⟨⟨by omega, by omega⟩, ⟨by omega, by omega⟩, trivial⟩ ?_
    refine ck_go_cal (rest := []) (ck_cal_le (by decide) (cx_indexed (a := σ 482 k) (m := σ 483 k) (by unfold ck_sOk at hO; omega) (by unfold ck_sOk at hO; omega) hf hB)) ⟨_, rfl, Or.inl ⟨_, rfl⟩, rfl, rfl, rfl, Nat.le_of_ble_eq_true rfl, fun _ => ⟨_, _, rfl⟩⟩ ?_
    rintro _ s7 ⟨rfl, g7, r7⟩
    try dsimp only at g7 r7
    refine ck_go_run 1 (X1 := (232, [some (.inr (480, 3, 6)), some (.inl k)], [], s7)) (ps := []) rfl trivial ?_
    first
    | exact ck_eV ⟨rfl, g7, by rw [r7]; rfl⟩ rfl rfl rfl
    | exact ck_eV ⟨rfl, ck_f1_tr g6 g7, by rw [r7, g6 _ _ (by decide)]; rfl⟩ rfl rfl rfl
  · rw [hsw]
    refine ck_go_pc (q := 180) rfl ?_
    refine ck_go_run 10 (X1 := (194, [some (.inr (480, 3, 6)), some (.inl k)], [.inl (σ 483 k), .inl (σ 482 k), .inl k, .inr (480, 3, 6)], σ)) (ps := [0 ≤ k ∧ k < ((64 : Nat) : Int), 0 ≤ k ∧ k < ((64 : Nat) : Int)]) rfl ⟨⟨by omega, by omega⟩, ⟨by omega, by omega⟩, trivial⟩ ?_
    refine ck_go_cal (rest := []) (ck_cal_le (by decide) (cx_make (k := k) (a := σ 482 k) (y := σ 483 k) hk (by unfold ck_sOk at hO; omega) (by unfold ck_sOk at hO; omega) hf hB)) ⟨_, rfl, Or.inl ⟨_, rfl⟩, rfl, rfl, rfl, Nat.le_of_ble_eq_true rfl, fun _ => ⟨_, _, rfl⟩⟩ ?_
    rintro _ s8 ⟨rfl, g8, r8⟩
    try dsimp only at g8 r8
    refine ck_go_run 1 (X1 := (232, [some (.inr (480, 3, 6)), some (.inl k)], [], s8)) (ps := []) rfl trivial ?_
    first
    | exact ck_eV ⟨rfl, g8, by rw [r8]; rfl⟩ rfl rfl rfl
    | exact ck_eV ⟨rfl, ck_f1_tr g7 g8, by rw [r8, g7 _ _ (by decide)]; rfl⟩ rfl rfl rfl
  · rw [hsw]
    refine ck_go_pc (q := 200) rfl ?_
    refine ck_go_run 5 (X1 := (207, [some (.inr (480, 3, 6)), some (.inl k)], [.inl (σ 482 k), .inr (480, 3, 6)], σ)) (ps := [0 ≤ k ∧ k < ((64 : Nat) : Int)]) rfl ⟨⟨by omega, by omega⟩, trivial⟩ ?_
    refine ck_go_cal (rest := []) (ck_cal_le (by decide) (cx_nothing (r := σ 482 k) (by unfold ck_sOk at hO; omega) hf)) ⟨_, rfl, Or.inl ⟨_, rfl⟩, rfl, rfl, rfl, Nat.le_of_ble_eq_true rfl, fun _ => ⟨_, _, rfl⟩⟩ ?_
    rintro _ s9 ⟨rfl, g9, r9⟩
    try dsimp only at g9 r9
    refine ck_go_run 1 (X1 := (232, [some (.inr (480, 3, 6)), some (.inl k)], [], s9)) (ps := []) rfl trivial ?_
    first
    | exact ck_eV ⟨rfl, g9, by rw [r9]; rfl⟩ rfl rfl rfl
    | exact ck_eV ⟨rfl, ck_f1_tr g8 g9, by rw [r9, g8 _ _ (by decide)]; rfl⟩ rfl rfl rfl
  · rw [hsw]
    refine ck_go_pc (q := 213) rfl ?_
    refine ck_go_run 9 (X1 := (226, [some (.inr (480, 3, 6)), some (.inl k)], [.inl (σ 483 k), .inl (σ 482 k), .inr (480, 3, 6)], σ)) (ps := [0 ≤ k ∧ k < ((64 : Nat) : Int), 0 ≤ k ∧ k < ((64 : Nat) : Int)]) rfl ⟨⟨by omega, by omega⟩, ⟨by omega, by omega⟩, trivial⟩ ?_
    refine ck_go_cal (rest := []) (ck_cal_le (by decide) (cx_let (a := σ 482 k) (e := σ 483 k) (by unfold ck_sOk at hO; omega) (by unfold ck_sOk at hO; omega) hf)) ⟨_, rfl, Or.inl ⟨_, rfl⟩, rfl, rfl, rfl, Nat.le_of_ble_eq_true rfl, fun _ => ⟨_, _, rfl⟩⟩ ?_
    rintro _ s10 ⟨rfl, g10, r10⟩
    try dsimp only at g10 r10
    refine ck_go_run 1 (X1 := (232, [some (.inr (480, 3, 6)), some (.inl k)], [], s10)) (ps := []) rfl trivial ?_
    first
    | exact ck_eV ⟨rfl, g10, by rw [r10]; rfl⟩ rfl rfl rfl
    | exact ck_eV ⟨rfl, ck_f1_tr g9 g10, by rw [r10, g9 _ _ (by decide)]; rfl⟩ rfl rfl rfl
  · rw [hsw]
    refine ck_go_pc (q := 232) rfl ?_
    exact ck_eV ⟨rfl, fun _ _ _ => rfl, by rw [hf]; rfl⟩ rfl rfl rfl
  · rw [hsw]
    refine ck_go_pc (q := 232) rfl ?_
    exact ck_eV ⟨rfl, fun _ _ _ => rfl, by rw [hf]; rfl⟩ rfl rfl rfl
  · rw [hsw]
    refine ck_go_pc (q := 232) rfl ?_
    exact ck_eV ⟨rfl, fun _ _ _ => rfl, by rw [hf]; rfl⟩ rfl rfl rfl
  · rw [hsw]
    refine ck_go_pc (q := 232) rfl ?_
    exact ck_eV ⟨rfl, fun _ _ _ => rfl, by rw [hf]; rfl⟩ rfl rfl rfl
  · rw [hsw]
    refine ck_go_pc (q := 232) rfl ?_
    exact ck_eV ⟨rfl, fun _ _ _ => rfl, by rw [hf]; rfl⟩ rfl rfl rfl
end
section
/-- g with the values of f -/
def ck_qV (g f : ck_Q) : ck_Q := ck_P (ck_K g) (ck_I g) (ck_L g) (ck_V f) (ck_T g) (ck_G g) (ck_H g)
theorem ck_qb_V {g f : ck_Q} (hg : ck_qb g) (hf : ck_qb f) : ck_qb (ck_qV g f) := by
  obtain ⟨a1, a2, a3, a4, a5, a6, a7⟩ := hg
  have zz : (-1000000000 : Int) ≤ 0 ∧ (0 : Int) ≤ 1000000000 := by decide
  refine ⟨fun n => ?_, fun n => ?_, fun n => ?_, fun r => ?_, fun r => ?_, fun r => ?_, fun n r => ?_⟩
  · show _ ≤ (if _ then _ else _) ∧ (if _ then _ else _) ≤ _
    split; exact a1 n; exact zz
  · show _ ≤ (if _ then _ else _) ∧ (if _ then _ else _) ≤ _
    split; exact a2 n; exact zz
  · show _ ≤ (if _ then _ else _) ∧ (if _ then _ else _) ≤ _
    split; exact a3 n; exact zz
  · show _ ≤ (if _ then _ else _) ∧ (if _ then _ else _) ≤ _
    split; exact hf.2.2.2.1 r; exact zz
  · show _ ≤ (if _ then _ else _) ∧ (if _ then _ else _) ≤ _
    split; exact a5 r; exact zz
  · show _ ≤ (if _ then _ else _) ∧ (if _ then _ else _) ≤ _
    split; exact a6 r; exact zz
  · show _ ≤ (if _ then _ else _) ∧ (if _ then _ else _) ≤ _
    split; exact a7 n r; exact zz
theorem cx_joinBack {k : Int} (hk : 0 ≤ k ∧ k < 64) {σ : ck_M} {f g : ck_Q} (hf : ck_mv (σ 490) = f) (hB : ck_qb f) (hg : ck_mv (fun j => σ 494 (82 * k + j)) = g) (hG : ck_qb g) : ck_cal 3 cm_Mo_joinBack [.inr (480, 3, 6), .inl k] σ (fun q σ' => q = none ∧ (∀ b j, b ≠ 490 → (b ≠ 494 ∨ j < 82 * k + 30 ∨ 82 * k + 34 ≤ j) → σ' b j = σ b j) ∧ ck_mv (σ' 490) = ck_qJ (ck_qV g f) k f) := by
  refine ck_cal_of ?_
  refine ck_go_run 2 (X1 := (2, [some (.inr (480, 3, 6)), some (.inl k), some (.inl 0)], [], σ)) (ps := []) rfl trivial ?_
  refine ck_for 2 (fun v => [some (.inr (480, 3, 6)), some (.inl k), some (.inl v)]) 4 (fun v s => 0 ≤ v ∧ v ≤ 4 ∧ (∀ b j, (b ≠ 494 ∨ j < 82 * k + 30 ∨ 82 * k + 30 + v ≤ j) → s b j = σ b j) ∧ ∀ q, 0 ≤ q → q < v → s 494 (82 * k + 30 + q) = ck_V f q) (fun v s hv hI kk => ?_) (fun v s hv hI => ?_) 0 _ ⟨by omega, by omega, fun _ _ _ => rfl, fun _ _ _ => by omega⟩
  · obtain ⟨h0, h4, hI1, hI2⟩ := hI
    refine ck_go_run 3 (X1 := (if v < 4 then 7 else 36, [some (.inr (480, 3, 6)), some (.inl k), some (.inl v)], [], s)) (ps := [ck_rg v, ck_rg 4]) rfl ⟨(ck_rgo (by omega) (by omega)), (ck_rgo (by omega) (by omega)), trivial⟩ ?_
    refine ck_go_t hv ?_
    refine ck_go_run 18 (X1 := (2, [some (.inr (480, 3, 6)), some (.inl k), some (.inl (v + 1))], [], ck_up s 494 (((82 * k) + 30) + v) (s 490 (30 + v)))) (ps := [0 ≤ 30 + v ∧ 30 + v < ((82 : Nat) : Int), 0 ≤ ((82 * k) + 30) + v ∧ ((82 * k) + 30) + v < ((5248 : Nat) : Int)]) rfl ⟨⟨by omega, by omega⟩, ⟨by omega, by omega⟩, trivial⟩ ?_
    exact kk _ ⟨by omega, by omega, ck_st1 (base := 82 * k + 30) (g := fun q => ck_V f q) hI1 hI2 (by rw [hI1 _ _ (by omega), ck_y_V hf h0 hv]) h0⟩
  · obtain ⟨h0, h4, hI1, hI2⟩ := hI
    refine ck_go_run 3 (X1 := (if v < 4 then 7 else 36, [some (.inr (480, 3, 6)), some (.inl k), some (.inl v)], [], s)) (ps := [ck_rg v, ck_rg 4]) rfl ⟨(ck_rgo (by omega) (by omega)), (ck_rgo (by omega) (by omega)), trivial⟩ ?_
    refine ck_go_f (by omega) ?_
    refine ck_go_run 7 (X1 := (46, [some (.inr (480, 3, 6)), some (.inl k), some (.inl v)], [.inl k, .inl (82 * k), .inr (494, 0, 5248), .inr (480, 3, 6)], s)) (ps := []) rfl trivial ?_
    refine ck_go_cal (rest := []) (ck_cal_le (by decide) (cx_join (σ := s) (a := 494) (o := 82 * k) (k := k) (f := f) (g := ck_qV g f) (by decide) (by omega) (by
        rw [← hf]
        congr 1
        funext j
        exact hI1 490 j (by omega)) hB (by
        unfold ck_qV
        refine ck_P_ext (fun n a0 a1 => ?_) (fun n a0 a1 => ?_) (fun n a0 a1 => ?_) (fun q b0 b1 => ?_) (fun q b0 b1 => ?_) (fun q b0 b1 => ?_) (fun n q a0 a1 b0 b1 => ?_)
        · show s 494 (82 * k + (0 + n)) = _
          rw [hI1 _ _ (by omega)]; exact ck_y_K hg a0 a1
        · show s 494 (82 * k + (10 + n)) = _
          rw [hI1 _ _ (by omega)]; exact ck_y_I hg a0 a1
        · show s 494 (82 * k + (20 + n)) = _
          rw [hI1 _ _ (by omega)]; exact ck_y_L hg a0 a1
        · show s 494 (82 * k + (30 + q)) = _
          rw [show 82 * k + (30 + q) = 82 * k + 30 + q by omega]; exact hI2 q b0 (by omega)
        · show s 494 (82 * k + (34 + q)) = _
          rw [hI1 _ _ (by omega)]; exact ck_y_T hg b0 b1
        · show s 494 (82 * k + (38 + q)) = _
          rw [hI1 _ _ (by omega)]; exact ck_y_G hg b0 b1
        · show s 494 (82 * k + (42 + 4 * n + q)) = _
          rw [hI1 _ _ (by omega)]; exact ck_y_H hg a0 a1 b0 b1) (ck_qb_V hG hB))) ⟨_, rfl, Or.inl ⟨_, rfl⟩, rfl, rfl, rfl, Nat.le_of_ble_eq_true rfl, fun _ => ⟨_, _, rfl⟩⟩ ?_
    rintro _ s1 ⟨rfl, g1, r1⟩
    try dsimp only at g1 r1
    exact ck_eV ⟨rfl, fun b j hb hj => by rw [g1 b j hb]; exact hI1 b j (by omega), r1⟩ rfl rfl rfl
/-- the rows of an array of the reference -/
def ck_rw (σ : ck_M) (a k : Int) : ck_Q := ck_mv (fun j => σ a (82 * k + j))
theorem ck_mv_congr {w w' : Int → Int} (h : ∀ q, 0 ≤ q → q < 82 → w q = w' q) : ck_mv w = ck_mv w' := by
  refine ck_P_ext (fun n a0 a1 => ?_) (fun n a0 a1 => ?_) (fun n a0 a1 => ?_) (fun q b0 b1 => ?_) (fun q b0 b1 => ?_) (fun q b0 b1 => ?_) (fun n q a0 a1 b0 b1 => ?_) <;> exact h _ (by omega) (by omega)
theorem ck_kp_rw {σ σ' : ck_M} {a k : Int} (h : ck_kp σ σ' a k) (j : Int) : ck_rw σ' a j = if j = k then ck_mv (σ 490) else ck_rw σ a j := by
  by_cases hj : j = k
  · subst hj
    rw [if_pos rfl]
    exact ck_mv_congr (fun q h0 h1 => h.2 q h0 h1)
  · rw [if_neg hj]
    exact ck_mv_congr (fun q h0 h1 => h.1 _ _ (by omega))
theorem cx_close {h k : Int} (hh : 0 ≤ h ∧ h < 64) {σ : ck_M} (hS : ck_rg (σ 481 h)) (hO : ck_rg (σ 485 h)) {f : ck_Q} (hf : ck_mv (σ 490) = f) (hB : ck_qb f) (hG492 : ck_qb (ck_rw σ 492 h)) (hG493 : ck_qb (ck_rw σ 493 h)) : ck_cal 3 cm_Mo_close [.inr (480, 3, 6), .inl h, .inl k] σ (fun q σ' => q = none ∧ (σ 481 h = 12 → (∀ b j, b ≠ 490 → (b ≠ 495 ∨ j ≠ h) → (b ≠ 494 ∨ j < 82 * h ∨ 82 * h + 82 ≤ j) → σ' b j = σ b j) ∧ σ' 495 h = 1 ∧ (∀ q, 0 ≤ q → q < 82 → σ' 494 (82 * h + q) = σ 490 q) ∧ ck_mv (σ' 490) = ck_rw σ 492 h) ∧ (σ 481 h ≠ 12 → σ 485 h = -1 → ck_f1 σ σ' 490 ∧ ck_mv (σ' 490) = ck_qJ (ck_rw σ 492 h) k f) ∧ (σ 481 h ≠ 12 → σ 485 h ≠ -1 → ck_f1 σ σ' 490 ∧ ck_mv (σ' 490) = ck_qJ (ck_rw σ 493 h) k f)) := by
  refine ck_cal_of ?_
  obtain ⟨o1, o2⟩ := id hO
  obtain ⟨p1, p2⟩ := id hS
  refine ck_go_run 6 (X1 := (if σ 481 h = 12 then 11 else 39, [some (.inr (480, 3, 6)), some (.inl h), some (.inl k)], [], σ)) (ps := [0 ≤ h ∧ h < ((64 : Nat) : Int), ck_rg (σ 481 h), ck_rg 12]) rfl ⟨⟨by omega, by omega⟩, (ck_rgo (by omega) (by omega)), (ck_rgo (by omega) (by omega)), trivial⟩ ?_
  refine ck_go_ite (fun h1 => ?_) (fun h1 => ?_)
  · refine ck_go_run 4 (X1 := (17, [some (.inr (480, 3, 6)), some (.inl h), some (.inl k)], [.inl h, .inr (494, 0, 5248), .inr (480, 3, 6)], σ)) (ps := []) rfl trivial ?_
    refine ck_go_cal (rest := []) (ck_cal_le (by decide) (cx_keep (σ := σ) (a := 494) (k := h) (by decide) hh)) ⟨_, rfl, Or.inl ⟨_, rfl⟩, rfl, rfl, rfl, Nat.le_of_ble_eq_true rfl, fun _ => ⟨_, _, rfl⟩⟩ ?_
    rintro _ s1 ⟨rfl, g1⟩
    try dsimp only at g1
    refine ck_go_run 9 (X1 := (33, [some (.inr (480, 3, 6)), some (.inl h), some (.inl k)], [.inl h, .inr (492, 0, 5248), .inr (480, 3, 6)], ck_up s1 495 h 1)) (ps := [0 ≤ h ∧ h < ((64 : Nat) : Int), 1 = 0 ∨ 1 = 1]) rfl ⟨⟨by omega, by omega⟩, Or.inr rfl, trivial⟩ ?_
    refine ck_go_cal (rest := []) (ck_cal_le (by decide) (cx_take (σ := ck_up s1 495 h 1) (a := 492) (k := h) (by decide) hh)) ⟨_, rfl, Or.inl ⟨_, rfl⟩, rfl, rfl, rfl, Nat.le_of_ble_eq_true rfl, fun _ => ⟨_, _, rfl⟩⟩ ?_
    rintro _ s2 ⟨rfl, g2, r2⟩
    try dsimp only at g2 r2
    refine ck_go_run 1 (X1 := (78, [some (.inr (480, 3, 6)), some (.inl h), some (.inl k)], [], s2)) (ps := []) rfl trivial ?_
    refine ck_eV ⟨rfl, fun _ => ⟨?_, ?_, ?_⟩, fun q _ => absurd h1 q, fun q _ => absurd h1 q⟩ rfl rfl rfl
    · intro b j z0 z1 z2
      rw [g2 b j z0]
      simp only [ck_up]
      rw [if_neg (by omega)]
      exact g1.1 b j (by omega)
    · rw [g2 _ _ (by decide)]
      simp only [ck_up, and_self, if_true]
    · refine ⟨fun q z0 z1 => ?_, ck_mv_congr (fun q z0 z1 => ?_)⟩
      · rw [g2 _ _ (by decide)]
        simp only [ck_up]
        rw [if_neg (by omega)]
        exact g1.2 q z0 z1
      · rw [r2 q z0 z1]
        simp only [ck_up]
        rw [if_neg (by omega)]
        exact g1.1 _ _ (by omega)
  · refine ck_go_run 6 (X1 := (if σ 485 h = (-1) then 49 else 65, [some (.inr (480, 3, 6)), some (.inl h), some (.inl k)], [], σ)) (ps := [0 ≤ h ∧ h < ((64 : Nat) : Int), ck_rg (σ 485 h), ck_rg ((-1))]) rfl ⟨⟨by omega, by omega⟩, (ck_rgo (by omega) (by omega)), (ck_rgo (by omega) (by omega)), trivial⟩ ?_
    refine ck_go_ite (fun h2 => ?_) (fun h2 => ?_)
    · refine ck_go_run 7 (X1 := (59, [some (.inr (480, 3, 6)), some (.inl h), some (.inl k)], [.inl k, .inl (82 * h), .inr (492, 0, 5248), .inr (480, 3, 6)], σ)) (ps := []) rfl trivial ?_
      refine ck_go_cal (rest := []) (ck_cal_le (by decide) (cx_join (σ := σ) (a := 492) (o := 82 * h) (k := k) (f := f) (g := ck_rw σ 492 h) (by decide) (by omega) hf hB rfl hG492)) ⟨_, rfl, Or.inl ⟨_, rfl⟩, rfl, rfl, rfl, Nat.le_of_ble_eq_true rfl, fun _ => ⟨_, _, rfl⟩⟩ ?_
      rintro _ s3 ⟨rfl, g1, r1⟩
      try dsimp only at g1 r1
      refine ck_go_run 1 (X1 := (78, [some (.inr (480, 3, 6)), some (.inl h), some (.inl k)], [], s3)) (ps := []) rfl trivial ?_
      exact ck_eV ⟨rfl, fun q => absurd q h1, fun _ _ => ⟨g1, r1⟩, fun _ q => absurd h2 q⟩ rfl rfl rfl
    · refine ck_go_run 7 (X1 := (75, [some (.inr (480, 3, 6)), some (.inl h), some (.inl k)], [.inl k, .inl (82 * h), .inr (493, 0, 5248), .inr (480, 3, 6)], σ)) (ps := []) rfl trivial ?_
      refine ck_go_cal (rest := []) (ck_cal_le (by decide) (cx_join (σ := σ) (a := 493) (o := 82 * h) (k := k) (f := f) (g := ck_rw σ 493 h) (by decide) (by omega) hf hB rfl hG493)) ⟨_, rfl, Or.inl ⟨_, rfl⟩, rfl, rfl, rfl, Nat.le_of_ble_eq_true rfl, fun _ => ⟨_, _, rfl⟩⟩ ?_
      rintro _ s4 ⟨rfl, g1, r1⟩
      try dsimp only at g1 r1
      exact ck_eV ⟨rfl, fun q => absurd q h1, fun _ q => absurd q h2, fun _ _ => ⟨g1, r1⟩⟩ rfl rfl rfl
/-- which checks of a statement are spared, by the row before it -/
def ck_spq (t x y z : Int) (f : ck_Q) : Int := if t < 3 ∨ 5 < t then 0 else if t = 3 then ck_T f y else if t = 5 then ck_T f x + (if ck_L f y ≠ 1000000000 ∧ 0 ≤ ck_L f y then 2 else 0) + (if ck_H f y x ≠ 1000000000 ∧ ck_H f y x ≤ -1 then 4 else 0) else ck_T f y + (if ck_L f z ≠ 1000000000 ∧ 0 ≤ ck_L f z then 2 else 0) + (if ck_H f z y ≠ 1000000000 ∧ ck_H f z y ≤ -1 then 4 else 0)
theorem cx_spared3 {k : Int} (hk : 0 ≤ k ∧ k < 64) {σ : ck_M} (hT : σ 481 k = 3) (hO : ck_sOk (σ 481 k) (σ 482 k) (σ 483 k) (σ 484 k)) {f : ck_Q} (hf : ck_rw σ 491 k = f) (hB : ck_qb f) : ck_cal 1 cm_Mo_spared [.inr (480, 3, 6), .inl k] σ (fun q σ' => q = some (ck_spq (σ 481 k) (σ 482 k) (σ 483 k) (σ 484 k) f) ∧ σ' = σ) := by
  refine ck_cal_of ?_
  have eT : σ 491 (82 * k + 34 + (σ 483 k)) = ck_T f (σ 483 k) := by
    rw [show 82 * k + 34 + (σ 483 k) = 82 * k + (34 + (σ 483 k)) by omega]
    exact ck_y_T hf (by unfold ck_sOk at hO; omega) (by unfold ck_sOk at hO; omega)
  have bT := hB.2.2.2.2.1 (σ 483 k)
  have hi : 0 ≤ (σ 483 k) ∧ (σ 483 k) < 4 := by unfold ck_sOk at hO; omega
  refine ck_go_run 10 (X1 := (if σ 481 k = 5 then 15 else 24, [some (.inr (480, 3, 6)), some (.inl k), some (.inl (82 * k)), none, none, none], [], σ)) (ps := [0 ≤ k ∧ k < ((64 : Nat) : Int), ck_rg (σ 481 k), ck_rg 5]) rfl ⟨⟨by omega, by omega⟩, (ck_rgo (by omega) (by omega)), (ck_rgo (by omega) (by omega)), trivial⟩ ?_
  refine ck_go_f (by omega) ?_
  refine ck_go_run 11 (X1 := (if σ 481 k = 5 then 41 else 50, [some (.inr (480, 3, 6)), some (.inl k), some (.inl (82 * k)), some (.inl (σ 483 k)), none, none], [], σ)) (ps := [0 ≤ k ∧ k < ((64 : Nat) : Int), 0 ≤ k ∧ k < ((64 : Nat) : Int), ck_rg (σ 481 k), ck_rg 5]) rfl ⟨⟨by omega, by omega⟩, ⟨by omega, by omega⟩, (ck_rgo (by omega) (by omega)), (ck_rgo (by omega) (by omega)), trivial⟩ ?_
  refine ck_go_f (by omega) ?_
  refine ck_go_run 11 (X1 := (if σ 481 k < 3 then 78 else 68, [some (.inr (480, 3, 6)), some (.inl k), some (.inl (82 * k)), some (.inl (σ 483 k)), some (.inl (σ 484 k)), none], [], σ)) (ps := [0 ≤ k ∧ k < ((64 : Nat) : Int), 0 ≤ k ∧ k < ((64 : Nat) : Int), ck_rg (σ 481 k), ck_rg 3]) rfl ⟨⟨by omega, by omega⟩, ⟨by omega, by omega⟩, (ck_rgo (by omega) (by omega)), (ck_rgo (by omega) (by omega)), trivial⟩ ?_
  refine ck_go_f (by omega) ?_
  refine ck_go_run 6 (X1 := (if 5 < σ 481 k then 78 else 80, [some (.inr (480, 3, 6)), some (.inl k), some (.inl (82 * k)), some (.inl (σ 483 k)), some (.inl (σ 484 k)), none], [], σ)) (ps := [0 ≤ k ∧ k < ((64 : Nat) : Int), ck_rg (σ 481 k), ck_rg 5]) rfl ⟨⟨by omega, by omega⟩, (ck_rgo (by omega) (by omega)), (ck_rgo (by omega) (by omega)), trivial⟩ ?_
  refine ck_go_f (by omega) ?_
  refine ck_go_run 15 (X1 := (if σ 481 k = 3 then 103 else 106, [some (.inr (480, 3, 6)), some (.inl k), some (.inl (82 * k)), some (.inl (σ 483 k)), some (.inl (σ 484 k)), some (.inl (σ 491 (((82 * k) + 34) + (σ 483 k))))], [], σ)) (ps := [0 ≤ ((82 * k) + 34) + (σ 483 k) ∧ ((82 * k) + 34) + (σ 483 k) < ((5248 : Nat) : Int), 0 ≤ k ∧ k < ((64 : Nat) : Int), ck_rg (σ 481 k), ck_rg 3]) rfl ⟨⟨by omega, by omega⟩, ⟨by omega, by omega⟩, (ck_rgo (by omega) (by omega)), (ck_rgo (by omega) (by omega)), trivial⟩ ?_
  refine ck_go_t (by omega) ?_
  refine ck_go_run 1 (X1 := (105, [some (.inr (480, 3, 6)), some (.inl k), some (.inl (82 * k)), some (.inl (σ 483 k)), some (.inl (σ 484 k)), some (.inl (σ 491 (((82 * k) + 34) + (σ 483 k))))], [.inl (σ 491 (((82 * k) + 34) + (σ 483 k)))], σ)) (ps := []) rfl trivial ?_
  refine ck_eI ⟨?_, rfl⟩ rfl rfl rfl
  unfold ck_spq
  rw [if_neg (by omega), if_pos hT]
  rw [eT]
  first | done | rfl | (congr 1; (repeat' split) <;> omega)
theorem cx_spared4 {k : Int} (hk : 0 ≤ k ∧ k < 64) {σ : ck_M} (hT : σ 481 k = 4) (hO : ck_sOk (σ 481 k) (σ 482 k) (σ 483 k) (σ 484 k)) {f : ck_Q} (hf : ck_rw σ 491 k = f) (hB : ck_qb f) : ck_cal 1 cm_Mo_spared [.inr (480, 3, 6), .inl k] σ (fun q σ' => q = some (ck_spq (σ 481 k) (σ 482 k) (σ 483 k) (σ 484 k) f) ∧ σ' = σ) := by
  refine ck_cal_of ?_
  have eT : σ 491 (82 * k + 34 + (σ 483 k)) = ck_T f (σ 483 k) := by
    rw [show 82 * k + 34 + (σ 483 k) = 82 * k + (34 + (σ 483 k)) by omega]
    exact ck_y_T hf (by unfold ck_sOk at hO; omega) (by unfold ck_sOk at hO; omega)
  have bT := hB.2.2.2.2.1 (σ 483 k)
  have eL : σ 491 (82 * k + 20 + (σ 484 k)) = ck_L f (σ 484 k) := by
    rw [show 82 * k + 20 + (σ 484 k) = 82 * k + (20 + (σ 484 k)) by omega]
    exact ck_y_L hf (by unfold ck_sOk at hO; omega) (by unfold ck_sOk at hO; omega)
  have bL := hB.2.2.1 (σ 484 k)
  have eH : σ 491 (82 * k + 42 + 4 * (σ 484 k) + (σ 483 k)) = ck_H f (σ 484 k) (σ 483 k) := by
    rw [show 82 * k + 42 + 4 * (σ 484 k) + (σ 483 k) = 82 * k + (42 + 4 * (σ 484 k) + (σ 483 k)) by omega]
    exact ck_y_H hf (by unfold ck_sOk at hO; omega) (by unfold ck_sOk at hO; omega) (by unfold ck_sOk at hO; omega) (by unfold ck_sOk at hO; omega)
  have bH := hB.2.2.2.2.2.2 (σ 484 k) (σ 483 k)
  have hi : 0 ≤ (σ 483 k) ∧ (σ 483 k) < 4 ∧ 0 ≤ (σ 484 k) ∧ (σ 484 k) < 10 := by unfold ck_sOk at hO; omega
  refine ck_go_run 10 (X1 := (if σ 481 k = 5 then 15 else 24, [some (.inr (480, 3, 6)), some (.inl k), some (.inl (82 * k)), none, none, none], [], σ)) (ps := [0 ≤ k ∧ k < ((64 : Nat) : Int), ck_rg (σ 481 k), ck_rg 5]) rfl ⟨⟨by omega, by omega⟩, (ck_rgo (by omega) (by omega)), (ck_rgo (by omega) (by omega)), trivial⟩ ?_
  refine ck_go_f (by omega) ?_
  refine ck_go_run 11 (X1 := (if σ 481 k = 5 then 41 else 50, [some (.inr (480, 3, 6)), some (.inl k), some (.inl (82 * k)), some (.inl (σ 483 k)), none, none], [], σ)) (ps := [0 ≤ k ∧ k < ((64 : Nat) : Int), 0 ≤ k ∧ k < ((64 : Nat) : Int), ck_rg (σ 481 k), ck_rg 5]) rfl ⟨⟨by omega, by omega⟩, ⟨by omega, by omega⟩, (ck_rgo (by omega) (by omega)), (ck_rgo (by omega) (by omega)), trivial⟩ ?_
  refine ck_go_f (by omega) ?_
  refine ck_go_run 11 (X1 := (if σ 481 k < 3 then 78 else 68, [some (.inr (480, 3, 6)), some (.inl k), some (.inl (82 * k)), some (.inl (σ 483 k)), some (.inl (σ 484 k)), none], [], σ)) (ps := [0 ≤ k ∧ k < ((64 : Nat) : Int), 0 ≤ k ∧ k < ((64 : Nat) : Int), ck_rg (σ 481 k), ck_rg 3]) rfl ⟨⟨by omega, by omega⟩, ⟨by omega, by omega⟩, (ck_rgo (by omega) (by omega)), (ck_rgo (by omega) (by omega)), trivial⟩ ?_
  refine ck_go_f (by omega) ?_
  refine ck_go_run 6 (X1 := (if 5 < σ 481 k then 78 else 80, [some (.inr (480, 3, 6)), some (.inl k), some (.inl (82 * k)), some (.inl (σ 483 k)), some (.inl (σ 484 k)), none], [], σ)) (ps := [0 ≤ k ∧ k < ((64 : Nat) : Int), ck_rg (σ 481 k), ck_rg 5]) rfl ⟨⟨by omega, by omega⟩, (ck_rgo (by omega) (by omega)), (ck_rgo (by omega) (by omega)), trivial⟩ ?_
  refine ck_go_f (by omega) ?_
  refine ck_go_run 15 (X1 := (if σ 481 k = 3 then 103 else 106, [some (.inr (480, 3, 6)), some (.inl k), some (.inl (82 * k)), some (.inl (σ 483 k)), some (.inl (σ 484 k)), some (.inl (σ 491 (((82 * k) + 34) + (σ 483 k))))], [], σ)) (ps := [0 ≤ ((82 * k) + 34) + (σ 483 k) ∧ ((82 * k) + 34) + (σ 483 k) < ((5248 : Nat) : Int), 0 ≤ k ∧ k < ((64 : Nat) : Int), ck_rg (σ 481 k), ck_rg 3]) rfl ⟨⟨by omega, by omega⟩, ⟨by omega, by omega⟩, (ck_rgo (by omega) (by omega)), (ck_rgo (by omega) (by omega)), trivial⟩ ?_
  refine ck_go_f (by omega) ?_
  refine ck_go_run 11 (X1 := (if σ 491 (((82 * k) + 20) + (σ 484 k)) = 1000000000 then 144 else 125, [some (.inr (480, 3, 6)), some (.inl k), some (.inl (82 * k)), some (.inl (σ 483 k)), some (.inl (σ 484 k)), some (.inl (σ 491 (((82 * k) + 34) + (σ 483 k))))], [.inl (σ 491 (((82 * k) + 34) + (σ 483 k)))], σ)) (ps := [0 ≤ ((82 * k) + 20) + (σ 484 k) ∧ ((82 * k) + 20) + (σ 484 k) < ((5248 : Nat) : Int), ck_rg (σ 491 (((82 * k) + 20) + (σ 484 k))), ck_rg 1000000000]) rfl ⟨⟨by omega, by omega⟩, (ck_rgo (by omega) (by omega)), (ck_rgo (by omega) (by omega)), trivial⟩ ?_
  refine ck_go_ite (fun h1 => ?_) (fun h1 => ?_)
  · refine ck_go_run 18 (X1 := (if σ 491 ((((82 * k) + 42) + (4 * (σ 484 k))) + (σ 483 k)) = 1000000000 then 195 else 171, [some (.inr (480, 3, 6)), some (.inl k), some (.inl (82 * k)), some (.inl (σ 483 k)), some (.inl (σ 484 k)), some (.inl ((σ 491 (((82 * k) + 34) + (σ 483 k))) + 0))], [.inl ((σ 491 (((82 * k) + 34) + (σ 483 k))) + 0)], σ)) (ps := [0 ≤ (((82 * k) + 42) + (4 * (σ 484 k))) + (σ 483 k) ∧ (((82 * k) + 42) + (4 * (σ 484 k))) + (σ 483 k) < ((5248 : Nat) : Int), ck_rg (σ 491 ((((82 * k) + 42) + (4 * (σ 484 k))) + (σ 483 k))), ck_rg 1000000000]) rfl ⟨⟨by omega, by omega⟩, (ck_rgo (by omega) (by omega)), (ck_rgo (by omega) (by omega)), trivial⟩ ?_
    refine ck_go_ite (fun h2 => ?_) (fun h2 => ?_)
    · refine ck_go_run 2 (X1 := (197, [some (.inr (480, 3, 6)), some (.inl k), some (.inl (82 * k)), some (.inl (σ 483 k)), some (.inl (σ 484 k)), some (.inl ((σ 491 (((82 * k) + 34) + (σ 483 k))) + 0))], [.inl (((σ 491 (((82 * k) + 34) + (σ 483 k))) + 0) + 0)], σ)) (ps := []) rfl trivial ?_
      refine ck_eI ⟨?_, rfl⟩ rfl rfl rfl
      unfold ck_spq
      rw [if_neg (by omega), if_neg (by omega), if_neg (by omega)]
      rw [← eT, ← eL, ← eH]
      first | done | rfl | (congr 1; (repeat' split) <;> omega)
    · refine ck_go_run 14 (X1 := (if (-1) < σ 491 ((((82 * k) + 42) + (4 * (σ 484 k))) + (σ 483 k)) then 195 else 191, [some (.inr (480, 3, 6)), some (.inl k), some (.inl (82 * k)), some (.inl (σ 483 k)), some (.inl (σ 484 k)), some (.inl ((σ 491 (((82 * k) + 34) + (σ 483 k))) + 0))], [.inl ((σ 491 (((82 * k) + 34) + (σ 483 k))) + 0)], σ)) (ps := [0 ≤ (((82 * k) + 42) + (4 * (σ 484 k))) + (σ 483 k) ∧ (((82 * k) + 42) + (4 * (σ 484 k))) + (σ 483 k) < ((5248 : Nat) : Int), ck_rg (σ 491 ((((82 * k) + 42) + (4 * (σ 484 k))) + (σ 483 k))), ck_rg ((-1))]) rfl ⟨⟨by omega, by omega⟩, (ck_rgo (by omega) (by omega)), (ck_rgo (by omega) (by omega)), trivial⟩ ?_
      refine ck_go_ite (fun h3 => ?_) (fun h3 => ?_)
      · refine ck_go_run 2 (X1 := (197, [some (.inr (480, 3, 6)), some (.inl k), some (.inl (82 * k)), some (.inl (σ 483 k)), some (.inl (σ 484 k)), some (.inl ((σ 491 (((82 * k) + 34) + (σ 483 k))) + 0))], [.inl (((σ 491 (((82 * k) + 34) + (σ 483 k))) + 0) + 0)], σ)) (ps := []) rfl trivial ?_
        refine ck_eI ⟨?_, rfl⟩ rfl rfl rfl
        unfold ck_spq
        rw [if_neg (by omega), if_neg (by omega), if_neg (by omega)]
        rw [← eT, ← eL, ← eH]
        first | done | rfl | (congr 1; (repeat' split) <;> omega)
      · refine ck_go_run 3 (X1 := (197, [some (.inr (480, 3, 6)), some (.inl k), some (.inl (82 * k)), some (.inl (σ 483 k)), some (.inl (σ 484 k)), some (.inl ((σ 491 (((82 * k) + 34) + (σ 483 k))) + 0))], [.inl (((σ 491 (((82 * k) + 34) + (σ 483 k))) + 0) + 4)], σ)) (ps := []) rfl trivial ?_
        refine ck_eI ⟨?_, rfl⟩ rfl rfl rfl
        unfold ck_spq
        rw [if_neg (by omega), if_neg (by omega), if_neg (by omega)]
        rw [← eT, ← eL, ← eH]
        first | done | rfl | (congr 1; (repeat' split) <;> omega)
  · refine ck_go_run 9 (X1 := (if σ 491 (((82 * k) + 20) + (σ 484 k)) < 0 then 144 else 140, [some (.inr (480, 3, 6)), some (.inl k), some (.inl (82 * k)), some (.inl (σ 483 k)), some (.inl (σ 484 k)), some (.inl (σ 491 (((82 * k) + 34) + (σ 483 k))))], [.inl (σ 491 (((82 * k) + 34) + (σ 483 k)))], σ)) (ps := [0 ≤ ((82 * k) + 20) + (σ 484 k) ∧ ((82 * k) + 20) + (σ 484 k) < ((5248 : Nat) : Int), ck_rg (σ 491 (((82 * k) + 20) + (σ 484 k)))]) rfl ⟨⟨by omega, by omega⟩, (ck_rgo (by omega) (by omega)), trivial⟩ ?_
    refine ck_go_ite (fun h4 => ?_) (fun h4 => ?_)
    · refine ck_go_run 18 (X1 := (if σ 491 ((((82 * k) + 42) + (4 * (σ 484 k))) + (σ 483 k)) = 1000000000 then 195 else 171, [some (.inr (480, 3, 6)), some (.inl k), some (.inl (82 * k)), some (.inl (σ 483 k)), some (.inl (σ 484 k)), some (.inl ((σ 491 (((82 * k) + 34) + (σ 483 k))) + 0))], [.inl ((σ 491 (((82 * k) + 34) + (σ 483 k))) + 0)], σ)) (ps := [0 ≤ (((82 * k) + 42) + (4 * (σ 484 k))) + (σ 483 k) ∧ (((82 * k) + 42) + (4 * (σ 484 k))) + (σ 483 k) < ((5248 : Nat) : Int), ck_rg (σ 491 ((((82 * k) + 42) + (4 * (σ 484 k))) + (σ 483 k))), ck_rg 1000000000]) rfl ⟨⟨by omega, by omega⟩, (ck_rgo (by omega) (by omega)), (ck_rgo (by omega) (by omega)), trivial⟩ ?_
      refine ck_go_ite (fun h5 => ?_) (fun h5 => ?_)
      · refine ck_go_run 2 (X1 := (197, [some (.inr (480, 3, 6)), some (.inl k), some (.inl (82 * k)), some (.inl (σ 483 k)), some (.inl (σ 484 k)), some (.inl ((σ 491 (((82 * k) + 34) + (σ 483 k))) + 0))], [.inl (((σ 491 (((82 * k) + 34) + (σ 483 k))) + 0) + 0)], σ)) (ps := []) rfl trivial ?_
        refine ck_eI ⟨?_, rfl⟩ rfl rfl rfl
        unfold ck_spq
        rw [if_neg (by omega), if_neg (by omega), if_neg (by omega)]
        rw [← eT, ← eL, ← eH]
        first | done | rfl | (congr 1; (repeat' split) <;> omega)
      · refine ck_go_run 14 (X1 := (if (-1) < σ 491 ((((82 * k) + 42) + (4 * (σ 484 k))) + (σ 483 k)) then 195 else 191, [some (.inr (480, 3, 6)), some (.inl k), some (.inl (82 * k)), some (.inl (σ 483 k)), some (.inl (σ 484 k)), some (.inl ((σ 491 (((82 * k) + 34) + (σ 483 k))) + 0))], [.inl ((σ 491 (((82 * k) + 34) + (σ 483 k))) + 0)], σ)) (ps := [0 ≤ (((82 * k) + 42) + (4 * (σ 484 k))) + (σ 483 k) ∧ (((82 * k) + 42) + (4 * (σ 484 k))) + (σ 483 k) < ((5248 : Nat) : Int), ck_rg (σ 491 ((((82 * k) + 42) + (4 * (σ 484 k))) + (σ 483 k))), ck_rg ((-1))]) rfl ⟨⟨by omega, by omega⟩, (ck_rgo (by omega) (by omega)), (ck_rgo (by omega) (by omega)), trivial⟩ ?_
        refine ck_go_ite (fun h6 => ?_) (fun h6 => ?_)
        · refine ck_go_run 2 (X1 := (197, [some (.inr (480, 3, 6)), some (.inl k), some (.inl (82 * k)), some (.inl (σ 483 k)), some (.inl (σ 484 k)), some (.inl ((σ 491 (((82 * k) + 34) + (σ 483 k))) + 0))], [.inl (((σ 491 (((82 * k) + 34) + (σ 483 k))) + 0) + 0)], σ)) (ps := []) rfl trivial ?_
          refine ck_eI ⟨?_, rfl⟩ rfl rfl rfl
          unfold ck_spq
          rw [if_neg (by omega), if_neg (by omega), if_neg (by omega)]
          rw [← eT, ← eL, ← eH]
          first | done | rfl | (congr 1; (repeat' split) <;> omega)
        · refine ck_go_run 3 (X1 := (197, [some (.inr (480, 3, 6)), some (.inl k), some (.inl (82 * k)), some (.inl (σ 483 k)), some (.inl (σ 484 k)), some (.inl ((σ 491 (((82 * k) + 34) + (σ 483 k))) + 0))], [.inl (((σ 491 (((82 * k) + 34) + (σ 483 k))) + 0) + 4)], σ)) (ps := []) rfl trivial ?_
          refine ck_eI ⟨?_, rfl⟩ rfl rfl rfl
          unfold ck_spq
          rw [if_neg (by omega), if_neg (by omega), if_neg (by omega)]
          rw [← eT, ← eL, ← eH]
          first | done | rfl | (congr 1; (repeat' split) <;> omega)
    · refine ck_go_run 19 (X1 := (if σ 491 ((((82 * k) + 42) + (4 * (σ 484 k))) + (σ 483 k)) = 1000000000 then 195 else 171, [some (.inr (480, 3, 6)), some (.inl k), some (.inl (82 * k)), some (.inl (σ 483 k)), some (.inl (σ 484 k)), some (.inl ((σ 491 (((82 * k) + 34) + (σ 483 k))) + 2))], [.inl ((σ 491 (((82 * k) + 34) + (σ 483 k))) + 2)], σ)) (ps := [0 ≤ (((82 * k) + 42) + (4 * (σ 484 k))) + (σ 483 k) ∧ (((82 * k) + 42) + (4 * (σ 484 k))) + (σ 483 k) < ((5248 : Nat) : Int), ck_rg (σ 491 ((((82 * k) + 42) + (4 * (σ 484 k))) + (σ 483 k))), ck_rg 1000000000]) rfl ⟨⟨by omega, by omega⟩, (ck_rgo (by omega) (by omega)), (ck_rgo (by omega) (by omega)), trivial⟩ ?_
      refine ck_go_ite (fun h7 => ?_) (fun h7 => ?_)
      · refine ck_go_run 2 (X1 := (197, [some (.inr (480, 3, 6)), some (.inl k), some (.inl (82 * k)), some (.inl (σ 483 k)), some (.inl (σ 484 k)), some (.inl ((σ 491 (((82 * k) + 34) + (σ 483 k))) + 2))], [.inl (((σ 491 (((82 * k) + 34) + (σ 483 k))) + 2) + 0)], σ)) (ps := []) rfl trivial ?_
        refine ck_eI ⟨?_, rfl⟩ rfl rfl rfl
        unfold ck_spq
        rw [if_neg (by omega), if_neg (by omega), if_neg (by omega)]
        rw [← eT, ← eL, ← eH]
        first | done | rfl | (congr 1; (repeat' split) <;> omega)
      · refine ck_go_run 14 (X1 := (if (-1) < σ 491 ((((82 * k) + 42) + (4 * (σ 484 k))) + (σ 483 k)) then 195 else 191, [some (.inr (480, 3, 6)), some (.inl k), some (.inl (82 * k)), some (.inl (σ 483 k)), some (.inl (σ 484 k)), some (.inl ((σ 491 (((82 * k) + 34) + (σ 483 k))) + 2))], [.inl ((σ 491 (((82 * k) + 34) + (σ 483 k))) + 2)], σ)) (ps := [0 ≤ (((82 * k) + 42) + (4 * (σ 484 k))) + (σ 483 k) ∧ (((82 * k) + 42) + (4 * (σ 484 k))) + (σ 483 k) < ((5248 : Nat) : Int), ck_rg (σ 491 ((((82 * k) + 42) + (4 * (σ 484 k))) + (σ 483 k))), ck_rg ((-1))]) rfl ⟨⟨by omega, by omega⟩, (ck_rgo (by omega) (by omega)), (ck_rgo (by omega) (by omega)), trivial⟩ ?_
        refine ck_go_ite (fun h8 => ?_) (fun h8 => ?_)
        · refine ck_go_run 2 (X1 := (197, [some (.inr (480, 3, 6)), some (.inl k), some (.inl (82 * k)), some (.inl (σ 483 k)), some (.inl (σ 484 k)), some (.inl ((σ 491 (((82 * k) + 34) + (σ 483 k))) + 2))], [.inl (((σ 491 (((82 * k) + 34) + (σ 483 k))) + 2) + 0)], σ)) (ps := []) rfl trivial ?_
          refine ck_eI ⟨?_, rfl⟩ rfl rfl rfl
          unfold ck_spq
          rw [if_neg (by omega), if_neg (by omega), if_neg (by omega)]
          rw [← eT, ← eL, ← eH]
          first | done | rfl | (congr 1; (repeat' split) <;> omega)
        · refine ck_go_run 3 (X1 := (197, [some (.inr (480, 3, 6)), some (.inl k), some (.inl (82 * k)), some (.inl (σ 483 k)), some (.inl (σ 484 k)), some (.inl ((σ 491 (((82 * k) + 34) + (σ 483 k))) + 2))], [.inl (((σ 491 (((82 * k) + 34) + (σ 483 k))) + 2) + 4)], σ)) (ps := []) rfl trivial ?_
          refine ck_eI ⟨?_, rfl⟩ rfl rfl rfl
          unfold ck_spq
          rw [if_neg (by omega), if_neg (by omega), if_neg (by omega)]
          rw [← eT, ← eL, ← eH]
          first | done | rfl | (congr 1; (repeat' split) <;> omega)
theorem cx_spared5 {k : Int} (hk : 0 ≤ k ∧ k < 64) {σ : ck_M} (hT : σ 481 k = 5) (hO : ck_sOk (σ 481 k) (σ 482 k) (σ 483 k) (σ 484 k)) {f : ck_Q} (hf : ck_rw σ 491 k = f) (hB : ck_qb f) : ck_cal 1 cm_Mo_spared [.inr (480, 3, 6), .inl k] σ (fun q σ' => q = some (ck_spq (σ 481 k) (σ 482 k) (σ 483 k) (σ 484 k) f) ∧ σ' = σ) := by
  refine ck_cal_of ?_
  have eT : σ 491 (82 * k + 34 + (σ 482 k)) = ck_T f (σ 482 k) := by
    rw [show 82 * k + 34 + (σ 482 k) = 82 * k + (34 + (σ 482 k)) by omega]
    exact ck_y_T hf (by unfold ck_sOk at hO; omega) (by unfold ck_sOk at hO; omega)
  have bT := hB.2.2.2.2.1 (σ 482 k)
  have eL : σ 491 (82 * k + 20 + (σ 483 k)) = ck_L f (σ 483 k) := by
    rw [show 82 * k + 20 + (σ 483 k) = 82 * k + (20 + (σ 483 k)) by omega]
    exact ck_y_L hf (by unfold ck_sOk at hO; omega) (by unfold ck_sOk at hO; omega)
  have bL := hB.2.2.1 (σ 483 k)
  have eH : σ 491 (82 * k + 42 + 4 * (σ 483 k) + (σ 482 k)) = ck_H f (σ 483 k) (σ 482 k) := by
    rw [show 82 * k + 42 + 4 * (σ 483 k) + (σ 482 k) = 82 * k + (42 + 4 * (σ 483 k) + (σ 482 k)) by omega]
    exact ck_y_H hf (by unfold ck_sOk at hO; omega) (by unfold ck_sOk at hO; omega) (by unfold ck_sOk at hO; omega) (by unfold ck_sOk at hO; omega)
  have bH := hB.2.2.2.2.2.2 (σ 483 k) (σ 482 k)
  have hi : 0 ≤ (σ 482 k) ∧ (σ 482 k) < 4 ∧ 0 ≤ (σ 483 k) ∧ (σ 483 k) < 10 := by unfold ck_sOk at hO; omega
  refine ck_go_run 10 (X1 := (if σ 481 k = 5 then 15 else 24, [some (.inr (480, 3, 6)), some (.inl k), some (.inl (82 * k)), none, none, none], [], σ)) (ps := [0 ≤ k ∧ k < ((64 : Nat) : Int), ck_rg (σ 481 k), ck_rg 5]) rfl ⟨⟨by omega, by omega⟩, (ck_rgo (by omega) (by omega)), (ck_rgo (by omega) (by omega)), trivial⟩ ?_
  refine ck_go_t (by omega) ?_
  refine ck_go_run 12 (X1 := (if σ 481 k = 5 then 41 else 50, [some (.inr (480, 3, 6)), some (.inl k), some (.inl (82 * k)), some (.inl (σ 482 k)), none, none], [], σ)) (ps := [0 ≤ k ∧ k < ((64 : Nat) : Int), 0 ≤ k ∧ k < ((64 : Nat) : Int), ck_rg (σ 481 k), ck_rg 5]) rfl ⟨⟨by omega, by omega⟩, ⟨by omega, by omega⟩, (ck_rgo (by omega) (by omega)), (ck_rgo (by omega) (by omega)), trivial⟩ ?_
  refine ck_go_t (by omega) ?_
  refine ck_go_run 12 (X1 := (if σ 481 k < 3 then 78 else 68, [some (.inr (480, 3, 6)), some (.inl k), some (.inl (82 * k)), some (.inl (σ 482 k)), some (.inl (σ 483 k)), none], [], σ)) (ps := [0 ≤ k ∧ k < ((64 : Nat) : Int), 0 ≤ k ∧ k < ((64 : Nat) : Int), ck_rg (σ 481 k), ck_rg 3]) rfl ⟨⟨by omega, by omega⟩, ⟨by omega, by omega⟩, (ck_rgo (by omega) (by omega)), (ck_rgo (by omega) (by omega)), trivial⟩ ?_
  refine ck_go_f (by omega) ?_
  refine ck_go_run 6 (X1 := (if 5 < σ 481 k then 78 else 80, [some (.inr (480, 3, 6)), some (.inl k), some (.inl (82 * k)), some (.inl (σ 482 k)), some (.inl (σ 483 k)), none], [], σ)) (ps := [0 ≤ k ∧ k < ((64 : Nat) : Int), ck_rg (σ 481 k), ck_rg 5]) rfl ⟨⟨by omega, by omega⟩, (ck_rgo (by omega) (by omega)), (ck_rgo (by omega) (by omega)), trivial⟩ ?_
  refine ck_go_f (by omega) ?_
  refine ck_go_run 15 (X1 := (if σ 481 k = 3 then 103 else 106, [some (.inr (480, 3, 6)), some (.inl k), some (.inl (82 * k)), some (.inl (σ 482 k)), some (.inl (σ 483 k)), some (.inl (σ 491 (((82 * k) + 34) + (σ 482 k))))], [], σ)) (ps := [0 ≤ ((82 * k) + 34) + (σ 482 k) ∧ ((82 * k) + 34) + (σ 482 k) < ((5248 : Nat) : Int), 0 ≤ k ∧ k < ((64 : Nat) : Int), ck_rg (σ 481 k), ck_rg 3]) rfl ⟨⟨by omega, by omega⟩, ⟨by omega, by omega⟩, (ck_rgo (by omega) (by omega)), (ck_rgo (by omega) (by omega)), trivial⟩ ?_
  refine ck_go_f (by omega) ?_
  refine ck_go_run 11 (X1 := (if σ 491 (((82 * k) + 20) + (σ 483 k)) = 1000000000 then 144 else 125, [some (.inr (480, 3, 6)), some (.inl k), some (.inl (82 * k)), some (.inl (σ 482 k)), some (.inl (σ 483 k)), some (.inl (σ 491 (((82 * k) + 34) + (σ 482 k))))], [.inl (σ 491 (((82 * k) + 34) + (σ 482 k)))], σ)) (ps := [0 ≤ ((82 * k) + 20) + (σ 483 k) ∧ ((82 * k) + 20) + (σ 483 k) < ((5248 : Nat) : Int), ck_rg (σ 491 (((82 * k) + 20) + (σ 483 k))), ck_rg 1000000000]) rfl ⟨⟨by omega, by omega⟩, (ck_rgo (by omega) (by omega)), (ck_rgo (by omega) (by omega)), trivial⟩ ?_
  refine ck_go_ite (fun h1 => ?_) (fun h1 => ?_)
  · refine ck_go_run 18 (X1 := (if σ 491 ((((82 * k) + 42) + (4 * (σ 483 k))) + (σ 482 k)) = 1000000000 then 195 else 171, [some (.inr (480, 3, 6)), some (.inl k), some (.inl (82 * k)), some (.inl (σ 482 k)), some (.inl (σ 483 k)), some (.inl ((σ 491 (((82 * k) + 34) + (σ 482 k))) + 0))], [.inl ((σ 491 (((82 * k) + 34) + (σ 482 k))) + 0)], σ)) (ps := [0 ≤ (((82 * k) + 42) + (4 * (σ 483 k))) + (σ 482 k) ∧ (((82 * k) + 42) + (4 * (σ 483 k))) + (σ 482 k) < ((5248 : Nat) : Int), ck_rg (σ 491 ((((82 * k) + 42) + (4 * (σ 483 k))) + (σ 482 k))), ck_rg 1000000000]) rfl ⟨⟨by omega, by omega⟩, (ck_rgo (by omega) (by omega)), (ck_rgo (by omega) (by omega)), trivial⟩ ?_
    refine ck_go_ite (fun h2 => ?_) (fun h2 => ?_)
    · refine ck_go_run 2 (X1 := (197, [some (.inr (480, 3, 6)), some (.inl k), some (.inl (82 * k)), some (.inl (σ 482 k)), some (.inl (σ 483 k)), some (.inl ((σ 491 (((82 * k) + 34) + (σ 482 k))) + 0))], [.inl (((σ 491 (((82 * k) + 34) + (σ 482 k))) + 0) + 0)], σ)) (ps := []) rfl trivial ?_
      refine ck_eI ⟨?_, rfl⟩ rfl rfl rfl
      unfold ck_spq
      rw [if_neg (by omega), if_neg (by omega), if_pos hT]
      rw [← eT, ← eL, ← eH]
      first | done | rfl | (congr 1; (repeat' split) <;> omega)
    · refine ck_go_run 14 (X1 := (if (-1) < σ 491 ((((82 * k) + 42) + (4 * (σ 483 k))) + (σ 482 k)) then 195 else 191, [some (.inr (480, 3, 6)), some (.inl k), some (.inl (82 * k)), some (.inl (σ 482 k)), some (.inl (σ 483 k)), some (.inl ((σ 491 (((82 * k) + 34) + (σ 482 k))) + 0))], [.inl ((σ 491 (((82 * k) + 34) + (σ 482 k))) + 0)], σ)) (ps := [0 ≤ (((82 * k) + 42) + (4 * (σ 483 k))) + (σ 482 k) ∧ (((82 * k) + 42) + (4 * (σ 483 k))) + (σ 482 k) < ((5248 : Nat) : Int), ck_rg (σ 491 ((((82 * k) + 42) + (4 * (σ 483 k))) + (σ 482 k))), ck_rg ((-1))]) rfl ⟨⟨by omega, by omega⟩, (ck_rgo (by omega) (by omega)), (ck_rgo (by omega) (by omega)), trivial⟩ ?_
      refine ck_go_ite (fun h3 => ?_) (fun h3 => ?_)
      · refine ck_go_run 2 (X1 := (197, [some (.inr (480, 3, 6)), some (.inl k), some (.inl (82 * k)), some (.inl (σ 482 k)), some (.inl (σ 483 k)), some (.inl ((σ 491 (((82 * k) + 34) + (σ 482 k))) + 0))], [.inl (((σ 491 (((82 * k) + 34) + (σ 482 k))) + 0) + 0)], σ)) (ps := []) rfl trivial ?_
        refine ck_eI ⟨?_, rfl⟩ rfl rfl rfl
        unfold ck_spq
        rw [if_neg (by omega), if_neg (by omega), if_pos hT]
        rw [← eT, ← eL, ← eH]
        first | done | rfl | (congr 1; (repeat' split) <;> omega)
      · refine ck_go_run 3 (X1 := (197, [some (.inr (480, 3, 6)), some (.inl k), some (.inl (82 * k)), some (.inl (σ 482 k)), some (.inl (σ 483 k)), some (.inl ((σ 491 (((82 * k) + 34) + (σ 482 k))) + 0))], [.inl (((σ 491 (((82 * k) + 34) + (σ 482 k))) + 0) + 4)], σ)) (ps := []) rfl trivial ?_
        refine ck_eI ⟨?_, rfl⟩ rfl rfl rfl
        unfold ck_spq
        rw [if_neg (by omega), if_neg (by omega), if_pos hT]
        rw [← eT, ← eL, ← eH]
        first | done | rfl | (congr 1; (repeat' split) <;> omega)
  · refine ck_go_run 9 (X1 := (if σ 491 (((82 * k) + 20) + (σ 483 k)) < 0 then 144 else 140, [some (.inr (480, 3, 6)), some (.inl k), some (.inl (82 * k)), some (.inl (σ 482 k)), some (.inl (σ 483 k)), some (.inl (σ 491 (((82 * k) + 34) + (σ 482 k))))], [.inl (σ 491 (((82 * k) + 34) + (σ 482 k)))], σ)) (ps := [0 ≤ ((82 * k) + 20) + (σ 483 k) ∧ ((82 * k) + 20) + (σ 483 k) < ((5248 : Nat) : Int), ck_rg (σ 491 (((82 * k) + 20) + (σ 483 k)))]) rfl ⟨⟨by omega, by omega⟩, (ck_rgo (by omega) (by omega)), trivial⟩ ?_
    refine ck_go_ite (fun h4 => ?_) (fun h4 => ?_)
    · refine ck_go_run 18 (X1 := (if σ 491 ((((82 * k) + 42) + (4 * (σ 483 k))) + (σ 482 k)) = 1000000000 then 195 else 171, [some (.inr (480, 3, 6)), some (.inl k), some (.inl (82 * k)), some (.inl (σ 482 k)), some (.inl (σ 483 k)), some (.inl ((σ 491 (((82 * k) + 34) + (σ 482 k))) + 0))], [.inl ((σ 491 (((82 * k) + 34) + (σ 482 k))) + 0)], σ)) (ps := [0 ≤ (((82 * k) + 42) + (4 * (σ 483 k))) + (σ 482 k) ∧ (((82 * k) + 42) + (4 * (σ 483 k))) + (σ 482 k) < ((5248 : Nat) : Int), ck_rg (σ 491 ((((82 * k) + 42) + (4 * (σ 483 k))) + (σ 482 k))), ck_rg 1000000000]) rfl ⟨⟨by omega, by omega⟩, (ck_rgo (by omega) (by omega)), (ck_rgo (by omega) (by omega)), trivial⟩ ?_
      refine ck_go_ite (fun h5 => ?_) (fun h5 => ?_)
      · refine ck_go_run 2 (X1 := (197, [some (.inr (480, 3, 6)), some (.inl k), some (.inl (82 * k)), some (.inl (σ 482 k)), some (.inl (σ 483 k)), some (.inl ((σ 491 (((82 * k) + 34) + (σ 482 k))) + 0))], [.inl (((σ 491 (((82 * k) + 34) + (σ 482 k))) + 0) + 0)], σ)) (ps := []) rfl trivial ?_
        refine ck_eI ⟨?_, rfl⟩ rfl rfl rfl
        unfold ck_spq
        rw [if_neg (by omega), if_neg (by omega), if_pos hT]
        rw [← eT, ← eL, ← eH]
        first | done | rfl | (congr 1; (repeat' split) <;> omega)
      · refine ck_go_run 14 (X1 := (if (-1) < σ 491 ((((82 * k) + 42) + (4 * (σ 483 k))) + (σ 482 k)) then 195 else 191, [some (.inr (480, 3, 6)), some (.inl k), some (.inl (82 * k)), some (.inl (σ 482 k)), some (.inl (σ 483 k)), some (.inl ((σ 491 (((82 * k) + 34) + (σ 482 k))) + 0))], [.inl ((σ 491 (((82 * k) + 34) + (σ 482 k))) + 0)], σ)) (ps := [0 ≤ (((82 * k) + 42) + (4 * (σ 483 k))) + (σ 482 k) ∧ (((82 * k) + 42) + (4 * (σ 483 k))) + (σ 482 k) < ((5248 : Nat) : Int), ck_rg (σ 491 ((((82 * k) + 42) + (4 * (σ 483 k))) + (σ 482 k))), ck_rg ((-1))]) rfl ⟨⟨by omega, by omega⟩, (ck_rgo (by omega) (by omega)), (ck_rgo (by omega) (by omega)), trivial⟩ ?_
        refine ck_go_ite (fun h6 => ?_) (fun h6 => ?_)
        · refine ck_go_run 2 (X1 := (197, [some (.inr (480, 3, 6)), some (.inl k), some (.inl (82 * k)), some (.inl (σ 482 k)), some (.inl (σ 483 k)), some (.inl ((σ 491 (((82 * k) + 34) + (σ 482 k))) + 0))], [.inl (((σ 491 (((82 * k) + 34) + (σ 482 k))) + 0) + 0)], σ)) (ps := []) rfl trivial ?_
          refine ck_eI ⟨?_, rfl⟩ rfl rfl rfl
          unfold ck_spq
          rw [if_neg (by omega), if_neg (by omega), if_pos hT]
          rw [← eT, ← eL, ← eH]
          first | done | rfl | (congr 1; (repeat' split) <;> omega)
        · refine ck_go_run 3 (X1 := (197, [some (.inr (480, 3, 6)), some (.inl k), some (.inl (82 * k)), some (.inl (σ 482 k)), some (.inl (σ 483 k)), some (.inl ((σ 491 (((82 * k) + 34) + (σ 482 k))) + 0))], [.inl (((σ 491 (((82 * k) + 34) + (σ 482 k))) + 0) + 4)], σ)) (ps := []) rfl trivial ?_
          refine ck_eI ⟨?_, rfl⟩ rfl rfl rfl
          unfold ck_spq
          rw [if_neg (by omega), if_neg (by omega), if_pos hT]
          rw [← eT, ← eL, ← eH]
          first | done | rfl | (congr 1; (repeat' split) <;> omega)
    · refine ck_go_run 19 (X1 := (if σ 491 ((((82 * k) + 42) + (4 * (σ 483 k))) + (σ 482 k)) = 1000000000 then 195 else 171, [some (.inr (480, 3, 6)), some (.inl k), some (.inl (82 * k)), some (.inl (σ 482 k)), some (.inl (σ 483 k)), some (.inl ((σ 491 (((82 * k) + 34) + (σ 482 k))) + 2))], [.inl ((σ 491 (((82 * k) + 34) + (σ 482 k))) + 2)], σ)) (ps := [0 ≤ (((82 * k) + 42) + (4 * (σ 483 k))) + (σ 482 k) ∧ (((82 * k) + 42) + (4 * (σ 483 k))) + (σ 482 k) < ((5248 : Nat) : Int), ck_rg (σ 491 ((((82 * k) + 42) + (4 * (σ 483 k))) + (σ 482 k))), ck_rg 1000000000]) rfl ⟨⟨by omega, by omega⟩, (ck_rgo (by omega) (by omega)), (ck_rgo (by omega) (by omega)), trivial⟩ ?_
      refine ck_go_ite (fun h7 => ?_) (fun h7 => ?_)
      · refine ck_go_run 2 (X1 := (197, [some (.inr (480, 3, 6)), some (.inl k), some (.inl (82 * k)), some (.inl (σ 482 k)), some (.inl (σ 483 k)), some (.inl ((σ 491 (((82 * k) + 34) + (σ 482 k))) + 2))], [.inl (((σ 491 (((82 * k) + 34) + (σ 482 k))) + 2) + 0)], σ)) (ps := []) rfl trivial ?_
        refine ck_eI ⟨?_, rfl⟩ rfl rfl rfl
        unfold ck_spq
        rw [if_neg (by omega), if_neg (by omega), if_pos hT]
        rw [← eT, ← eL, ← eH]
        first | done | rfl | (congr 1; (repeat' split) <;> omega)
      · refine ck_go_run 14 (X1 := (if (-1) < σ 491 ((((82 * k) + 42) + (4 * (σ 483 k))) + (σ 482 k)) then 195 else 191, [some (.inr (480, 3, 6)), some (.inl k), some (.inl (82 * k)), some (.inl (σ 482 k)), some (.inl (σ 483 k)), some (.inl ((σ 491 (((82 * k) + 34) + (σ 482 k))) + 2))], [.inl ((σ 491 (((82 * k) + 34) + (σ 482 k))) + 2)], σ)) (ps := [0 ≤ (((82 * k) + 42) + (4 * (σ 483 k))) + (σ 482 k) ∧ (((82 * k) + 42) + (4 * (σ 483 k))) + (σ 482 k) < ((5248 : Nat) : Int), ck_rg (σ 491 ((((82 * k) + 42) + (4 * (σ 483 k))) + (σ 482 k))), ck_rg ((-1))]) rfl ⟨⟨by omega, by omega⟩, (ck_rgo (by omega) (by omega)), (ck_rgo (by omega) (by omega)), trivial⟩ ?_
        refine ck_go_ite (fun h8 => ?_) (fun h8 => ?_)
        · refine ck_go_run 2 (X1 := (197, [some (.inr (480, 3, 6)), some (.inl k), some (.inl (82 * k)), some (.inl (σ 482 k)), some (.inl (σ 483 k)), some (.inl ((σ 491 (((82 * k) + 34) + (σ 482 k))) + 2))], [.inl (((σ 491 (((82 * k) + 34) + (σ 482 k))) + 2) + 0)], σ)) (ps := []) rfl trivial ?_
          refine ck_eI ⟨?_, rfl⟩ rfl rfl rfl
          unfold ck_spq
          rw [if_neg (by omega), if_neg (by omega), if_pos hT]
          rw [← eT, ← eL, ← eH]
          first | done | rfl | (congr 1; (repeat' split) <;> omega)
        · refine ck_go_run 3 (X1 := (197, [some (.inr (480, 3, 6)), some (.inl k), some (.inl (82 * k)), some (.inl (σ 482 k)), some (.inl (σ 483 k)), some (.inl ((σ 491 (((82 * k) + 34) + (σ 482 k))) + 2))], [.inl (((σ 491 (((82 * k) + 34) + (σ 482 k))) + 2) + 4)], σ)) (ps := []) rfl trivial ?_
          refine ck_eI ⟨?_, rfl⟩ rfl rfl rfl
          unfold ck_spq
          rw [if_neg (by omega), if_neg (by omega), if_pos hT]
          rw [← eT, ← eL, ← eH]
          first | done | rfl | (congr 1; (repeat' split) <;> omega)
theorem cx_spared0 {k : Int} (hk : 0 ≤ k ∧ k < 64) {σ : ck_M} (hT : σ 481 k < 3 ∨ 5 < σ 481 k) (hO : ck_rg (σ 481 k)) (f : ck_Q) : ck_cal 1 cm_Mo_spared [.inr (480, 3, 6), .inl k] σ (fun q σ' => q = some (ck_spq (σ 481 k) (σ 482 k) (σ 483 k) (σ 484 k) f) ∧ σ' = σ) := by
  refine ck_cal_of ?_
  obtain ⟨o1, o2⟩ := id hO
  refine ck_go_run 10 (X1 := (if σ 481 k = 5 then 15 else 24, [some (.inr (480, 3, 6)), some (.inl k), some (.inl (82 * k)), none, none, none], [], σ)) (ps := [0 ≤ k ∧ k < ((64 : Nat) : Int), ck_rg (σ 481 k), ck_rg 5]) rfl ⟨⟨by omega, by omega⟩, (ck_rgo (by omega) (by omega)), (ck_rgo (by omega) (by omega)), trivial⟩ ?_
  refine ck_go_f (by omega) ?_
  refine ck_go_run 11 (X1 := (if σ 481 k = 5 then 41 else 50, [some (.inr (480, 3, 6)), some (.inl k), some (.inl (82 * k)), some (.inl (σ 483 k)), none, none], [], σ)) (ps := [0 ≤ k ∧ k < ((64 : Nat) : Int), 0 ≤ k ∧ k < ((64 : Nat) : Int), ck_rg (σ 481 k), ck_rg 5]) rfl ⟨⟨by omega, by omega⟩, ⟨by omega, by omega⟩, (ck_rgo (by omega) (by omega)), (ck_rgo (by omega) (by omega)), trivial⟩ ?_
  refine ck_go_f (by omega) ?_
  refine ck_go_run 11 (X1 := (if σ 481 k < 3 then 78 else 68, [some (.inr (480, 3, 6)), some (.inl k), some (.inl (82 * k)), some (.inl (σ 483 k)), some (.inl (σ 484 k)), none], [], σ)) (ps := [0 ≤ k ∧ k < ((64 : Nat) : Int), 0 ≤ k ∧ k < ((64 : Nat) : Int), ck_rg (σ 481 k), ck_rg 3]) rfl ⟨⟨by omega, by omega⟩, ⟨by omega, by omega⟩, (ck_rgo (by omega) (by omega)), (ck_rgo (by omega) (by omega)), trivial⟩ ?_
  refine ck_go_ite (fun h1 => ?_) (fun h1 => ?_)
  · refine ck_go_run 1 (X1 := (79, [some (.inr (480, 3, 6)), some (.inl k), some (.inl (82 * k)), some (.inl (σ 483 k)), some (.inl (σ 484 k)), none], [.inl 0], σ)) (ps := []) rfl trivial ?_
    exact ck_eI ⟨by unfold ck_spq; rw [if_pos (by omega)], rfl⟩ rfl rfl rfl
  · refine ck_go_run 6 (X1 := (if 5 < σ 481 k then 78 else 80, [some (.inr (480, 3, 6)), some (.inl k), some (.inl (82 * k)), some (.inl (σ 483 k)), some (.inl (σ 484 k)), none], [], σ)) (ps := [0 ≤ k ∧ k < ((64 : Nat) : Int), ck_rg (σ 481 k), ck_rg 5]) rfl ⟨⟨by omega, by omega⟩, (ck_rgo (by omega) (by omega)), (ck_rgo (by omega) (by omega)), trivial⟩ ?_
    refine ck_go_t (by omega) ?_
    refine ck_go_run 1 (X1 := (79, [some (.inr (480, 3, 6)), some (.inl k), some (.inl (82 * k)), some (.inl (σ 483 k)), some (.inl (σ 484 k)), none], [.inl 0], σ)) (ps := []) rfl trivial ?_
    exact ck_eI ⟨by unfold ck_spq; rw [if_pos (by omega)], rfl⟩ rfl rfl rfl
theorem cx_spared {k : Int} (hk : 0 ≤ k ∧ k < 64) {σ : ck_M} (hO : ck_sOk (σ 481 k) (σ 482 k) (σ 483 k) (σ 484 k)) {f : ck_Q} (hf : ck_rw σ 491 k = f) (hB : ck_qb f) : ck_cal 1 cm_Mo_spared [.inr (480, 3, 6), .inl k] σ (fun q σ' => q = some (ck_spq (σ 481 k) (σ 482 k) (σ 483 k) (σ 484 k) f) ∧ σ' = σ) := by
  by_cases h3 : σ 481 k = 3
  · exact cx_spared3 hk h3 hO hf hB
  · by_cases h4 : σ 481 k = 4
    · exact cx_spared4 hk h4 hO hf hB
    · by_cases h5 : σ 481 k = 5
      · exact cx_spared5 hk h5 hO hf hB
      · exact cx_spared0 hk (by omega) (by unfold ck_sOk at hO; exact ck_rgo (by omega) (by omega)) f
end
section
/-! ## The class's search: before[k] is the Facts at 25 + 7 k, the way the one at 473 -/
abbrev ck_B (σ : ck_M) (k : Int) : ck_D := ck_rd σ (25 + 7 * k)
def ck_dEff (t x y z k : Int) (f : ck_D) : ck_D := if t = 0 then ck_dSet x y f else if t = 1 then ck_dSum x y z f else if t = 2 then ck_dAny x f else if t = 3 then ck_dLen x y f else if t = 4 then ck_dAny x (ck_dUse y z f) else if t = 5 then ck_dUse x y f else if t = 6 then ck_dNew x y k f else if t = 7 then ck_dNull x f else if t = 8 then ck_dLet x y f else f
/-- the way that comes to an ELSE at e, else the one on which h doesn't hold -/
def ck_oth (σ : ck_M) (h e : Int) : ck_D := if e = -1 then ck_dNot (σ 7 h) (σ 8 h) (σ 9 h) (ck_B σ h) else ck_B σ e
/-- what comes from statement k to the next -/
def ck_fl (σ : ck_M) (k : Int) : ck_D := if σ 6 k = 9 ∨ σ 6 k = 12 then ck_dBel (σ 7 k) (σ 8 k) (σ 9 k) (ck_B σ k) else if σ 6 k = 10 then ck_oth σ (σ 10 k) (-1) else if σ 6 k = 11 then (if σ 6 (σ 10 k) = 9 then ck_dJw (ck_B σ k) k (ck_oth σ (σ 10 k) (σ 11 (σ 10 k))) else ck_oth σ (σ 10 k) (σ 11 (σ 10 k))) else ck_dEff (σ 6 k) (σ 7 k) (σ 8 k) (σ 9 k) k (ck_B σ k)
theorem cx_takeOtherWay {h e : Int} (hh : 0 ≤ h ∧ h < 64) (he : -1 ≤ e ∧ e < 64) {σ : ck_M} (hx : 0 ≤ σ 7 h ∧ σ 7 h < 10) (hy : 0 ≤ σ 8 h ∧ σ 8 h ≤ 10) (hz : -100 ≤ σ 9 h ∧ σ 9 h ≤ 100) (hBh : ck_fb (ck_B σ h)) (hBe : e ≠ -1 → ck_fb (ck_B σ e)) : ck_cal 3 cm_Fi_takeOtherWay [.inr (4, 3, 1), .inl h, .inl e] σ (fun q σ' => q = none ∧ ck_f6 σ σ' 473 ∧ ck_rd σ' 473 = ck_oth σ h e) := by
  refine ck_cal_of ?_
  refine ck_go_run 3 (X1 := (if e = (-1) then 19 else 5, [some (.inr (4, 3, 1)), some (.inl h), some (.inl e)], [], σ)) (ps := [ck_rg e, ck_rg ((-1))]) rfl ⟨(ck_rgo (by omega) (by omega)), (ck_rgo (by omega) (by omega)), trivial⟩ ?_
  refine ck_go_ite (fun h1 => ?_) (fun h1 => ?_)
  · refine ck_go_run 6 (X1 := (29, [some (.inr (4, 3, 1)), some (.inl h), some (.inl e)], [.inr (25 + 7 * h, 3, 0), .inr (473, 3, 0)], σ)) (ps := [0 ≤ h ∧ h < ((64 : Nat) : Int)]) rfl ⟨⟨by omega, by omega⟩, trivial⟩ ?_
    refine ck_go_cal (rest := []) (ck_cal_le (by decide) (cx_copy (σ := σ) (c := 473) (e := 25 + 7 * h) (by omega) rfl hBh)) ⟨_, rfl, Or.inl ⟨_, rfl⟩, rfl, rfl, rfl, Nat.le_of_ble_eq_true rfl, fun _ => ⟨_, _, rfl⟩⟩ ?_
    rintro _ s1 ⟨rfl, g1, r1⟩
    try dsimp only at g1 r1
    refine ck_go_run 17 (X1 := (63, [some (.inr (4, 3, 1)), some (.inl h), some (.inl e)], [.inl (s1 9 h), .inl (s1 8 h), .inl (s1 7 h), .inr (473, 3, 0)], s1)) (ps := [0 ≤ h ∧ h < ((64 : Nat) : Int), 0 ≤ h ∧ h < ((64 : Nat) : Int), 0 ≤ h ∧ h < ((64 : Nat) : Int)]) rfl ⟨⟨by omega, by omega⟩, ⟨by omega, by omega⟩, ⟨by omega, by omega⟩, trivial⟩ ?_
    refine ck_go_cal (rest := []) (ck_cal_le (by decide) (cx_assumeNotBelow (σ := s1) (c := 473) (x := s1 7 h) (y := s1 8 h) (z := s1 9 h) (by rw [g1 _ _ (by decide)]; omega) (by rw [g1 _ _ (by decide)]; omega) (by rw [g1 _ _ (by decide)]; omega) r1 hBh)) ⟨_, rfl, Or.inl ⟨_, rfl⟩, rfl, rfl, rfl, Nat.le_of_ble_eq_true rfl, fun _ => ⟨_, _, rfl⟩⟩ ?_
    rintro _ s2 ⟨rfl, g2, r2⟩
    try dsimp only at g2 r2
    exact ck_eV ⟨rfl, ck_f6_tr g1 g2, by rw [r2, g1 _ _ (by decide), g1 _ _ (by decide), g1 _ _ (by decide)]; unfold ck_oth; rw [if_pos h1]⟩ rfl rfl rfl
  · refine ck_go_run 6 (X1 := (15, [some (.inr (4, 3, 1)), some (.inl h), some (.inl e)], [.inr (25 + 7 * e, 3, 0), .inr (473, 3, 0)], σ)) (ps := [0 ≤ e ∧ e < ((64 : Nat) : Int)]) rfl ⟨⟨by omega, by omega⟩, trivial⟩ ?_
    refine ck_go_cal (rest := []) (ck_cal_le (by decide) (cx_copy (σ := σ) (c := 473) (e := 25 + 7 * e) (by omega) rfl (hBe h1))) ⟨_, rfl, Or.inl ⟨_, rfl⟩, rfl, rfl, rfl, Nat.le_of_ble_eq_true rfl, fun _ => ⟨_, _, rfl⟩⟩ ?_
    rintro _ s3 ⟨rfl, g3, r3⟩
    try dsimp only at g3 r3
    exact ck_eV ⟨rfl, g3, by rw [r3]; unfold ck_oth; rw [if_neg h1]⟩ rfl rfl rfl
set_option maxHeartbeats 4000000 in
theorem cx_follow0 {k : Int} (hk : 0 ≤ k ∧ k < 64) {σ : ck_M} (hO : ck_sOk (σ 6 k) (σ 7 k) (σ 8 k) (σ 9 k)) (hBk : ck_fb (ck_B σ k)) (hT : σ 6 k = 0) : ck_cal 4 cm_Fi_follow [.inr (4, 3, 1), .inl k] σ (fun q σ' => q = none ∧ ck_f6 σ σ' 473 ∧ ck_rd σ' 473 = ck_fl σ k) := by
  refine ck_cal_of ?_
  refine ck_go_run 24 (X1 := (41, [some (.inr (4, 3, 1)), some (.inl k), some (.inl (σ 7 k)), some (.inl (σ 8 k)), some (.inl (σ 9 k)), none], [.inr (25 + 7 * k, 3, 0), .inr (473, 3, 0)], σ)) (ps := [0 ≤ k ∧ k < ((64 : Nat) : Int), 0 ≤ k ∧ k < ((64 : Nat) : Int), 0 ≤ k ∧ k < ((64 : Nat) : Int), 0 ≤ k ∧ k < ((64 : Nat) : Int)]) rfl ⟨⟨by omega, by omega⟩, ⟨by omega, by omega⟩, ⟨by omega, by omega⟩, ⟨by omega, by omega⟩, trivial⟩ ?_
  refine ck_go_cal (rest := []) (ck_cal_le (by decide) (cx_copy (σ := σ) (c := 473) (e := 25 + 7 * k) (by omega) rfl hBk)) ⟨_, rfl, Or.inl ⟨_, rfl⟩, rfl, rfl, rfl, Nat.le_of_ble_eq_true rfl, fun _ => ⟨_, _, rfl⟩⟩ ?_
  rintro _ s1 ⟨rfl, g1, r1⟩
  try dsimp only at g1 r1
  have hT1 : s1 6 k = 0 := by rw [g1 _ _ (by decide)]; exact hT
  refine ck_go_run 6 (X1 := (ck_sw 0 (s1 6 k) 328 [120, 132, 146, 157, 169, 190, 202, 215, 226, 238, 252, 269, 238], [some (.inr (4, 3, 1)), some (.inl k), some (.inl (σ 7 k)), some (.inl (σ 8 k)), some (.inl (σ 9 k)), none], [], s1)) (ps := [0 ≤ k ∧ k < ((64 : Nat) : Int), ck_rg (s1 6 k)]) rfl ⟨⟨by omega, by omega⟩, (ck_rgo (by omega) (by omega)), trivial⟩ ?_
  have hsw := hT1
  · rw [hsw]
    refine ck_go_pc (q := 120) rfl ?_
    refine ck_go_run 4 (X1 := (126, [some (.inr (4, 3, 1)), some (.inl k), some (.inl (σ 7 k)), some (.inl (σ 8 k)), some (.inl (σ 9 k)), none], [.inl (σ 8 k), .inl (σ 7 k), .inr (473, 3, 0)], s1)) (ps := []) rfl trivial ?_
    refine ck_go_cal (rest := []) (ck_cal_le (by decide) (cx_setConstant (σ := s1) (c := 473) (x := σ 7 k) (k := σ 8 k) (by unfold ck_sOk at hO; omega) (by unfold ck_sOk at hO; omega) r1 hBk)) ⟨_, rfl, Or.inl ⟨_, rfl⟩, rfl, rfl, rfl, Nat.le_of_ble_eq_true rfl, fun _ => ⟨_, _, rfl⟩⟩ ?_
    rintro _ s2 ⟨rfl, g2, r2⟩
    try dsimp only at g2 r2
    refine ck_go_run 1 (X1 := (328, [some (.inr (4, 3, 1)), some (.inl k), some (.inl (σ 7 k)), some (.inl (σ 8 k)), some (.inl (σ 9 k)), none], [], s2)) (ps := []) rfl trivial ?_
    exact ck_eV ⟨rfl, (ck_f6_tr g1 g2), by rw [r2]; (try rw [r1]); unfold ck_fl; rw [hT]; rfl⟩ rfl rfl rfl
set_option maxHeartbeats 4000000 in
theorem cx_follow1 {k : Int} (hk : 0 ≤ k ∧ k < 64) {σ : ck_M} (hO : ck_sOk (σ 6 k) (σ 7 k) (σ 8 k) (σ 9 k)) (hBk : ck_fb (ck_B σ k)) (hT : σ 6 k = 1) : ck_cal 4 cm_Fi_follow [.inr (4, 3, 1), .inl k] σ (fun q σ' => q = none ∧ ck_f6 σ σ' 473 ∧ ck_rd σ' 473 = ck_fl σ k) := by
  refine ck_cal_of ?_
  refine ck_go_run 24 (X1 := (41, [some (.inr (4, 3, 1)), some (.inl k), some (.inl (σ 7 k)), some (.inl (σ 8 k)), some (.inl (σ 9 k)), none], [.inr (25 + 7 * k, 3, 0), .inr (473, 3, 0)], σ)) (ps := [0 ≤ k ∧ k < ((64 : Nat) : Int), 0 ≤ k ∧ k < ((64 : Nat) : Int), 0 ≤ k ∧ k < ((64 : Nat) : Int), 0 ≤ k ∧ k < ((64 : Nat) : Int)]) rfl ⟨⟨by omega, by omega⟩, ⟨by omega, by omega⟩, ⟨by omega, by omega⟩, ⟨by omega, by omega⟩, trivial⟩ ?_
  refine ck_go_cal (rest := []) (ck_cal_le (by decide) (cx_copy (σ := σ) (c := 473) (e := 25 + 7 * k) (by omega) rfl hBk)) ⟨_, rfl, Or.inl ⟨_, rfl⟩, rfl, rfl, rfl, Nat.le_of_ble_eq_true rfl, fun _ => ⟨_, _, rfl⟩⟩ ?_
  rintro _ s1 ⟨rfl, g1, r1⟩
  try dsimp only at g1 r1
  have hT1 : s1 6 k = 1 := by rw [g1 _ _ (by decide)]; exact hT
  refine ck_go_run 6 (X1 := (ck_sw 0 (s1 6 k) 328 [120, 132, 146, 157, 169, 190, 202, 215, 226, 238, 252, 269, 238], [some (.inr (4, 3, 1)), some (.inl k), some (.inl (σ 7 k)), some (.inl (σ 8 k)), some (.inl (σ 9 k)), none], [], s1)) (ps := [0 ≤ k ∧ k < ((64 : Nat) : Int), ck_rg (s1 6 k)]) rfl ⟨⟨by omega, by omega⟩, (ck_rgo (by omega) (by omega)), trivial⟩ ?_
  have hsw := hT1
  · rw [hsw]
    refine ck_go_pc (q := 132) rfl ?_
    refine ck_go_run 5 (X1 := (140, [some (.inr (4, 3, 1)), some (.inl k), some (.inl (σ 7 k)), some (.inl (σ 8 k)), some (.inl (σ 9 k)), none], [.inl (σ 9 k), .inl (σ 8 k), .inl (σ 7 k), .inr (473, 3, 0)], s1)) (ps := []) rfl trivial ?_
    refine ck_go_cal (rest := []) (ck_cal_le (by decide) (cx_setSum (σ := s1) (c := 473) (x := σ 7 k) (y := σ 8 k) (z := σ 9 k) (by unfold ck_sOk at hO; omega) (by unfold ck_sOk at hO; omega) (by unfold ck_sOk at hO; omega) r1 hBk)) ⟨_, rfl, Or.inl ⟨_, rfl⟩, rfl, rfl, rfl, Nat.le_of_ble_eq_true rfl, fun _ => ⟨_, _, rfl⟩⟩ ?_
    rintro _ s2 ⟨rfl, g2, r2⟩
    try dsimp only at g2 r2
    refine ck_go_run 1 (X1 := (328, [some (.inr (4, 3, 1)), some (.inl k), some (.inl (σ 7 k)), some (.inl (σ 8 k)), some (.inl (σ 9 k)), none], [], s2)) (ps := []) rfl trivial ?_
    exact ck_eV ⟨rfl, (ck_f6_tr g1 g2), by rw [r2]; (try rw [r1]); unfold ck_fl; rw [hT]; rfl⟩ rfl rfl rfl
set_option maxHeartbeats 4000000 in
theorem cx_follow2 {k : Int} (hk : 0 ≤ k ∧ k < 64) {σ : ck_M} (hO : ck_sOk (σ 6 k) (σ 7 k) (σ 8 k) (σ 9 k)) (hBk : ck_fb (ck_B σ k)) (hT : σ 6 k = 2) : ck_cal 4 cm_Fi_follow [.inr (4, 3, 1), .inl k] σ (fun q σ' => q = none ∧ ck_f6 σ σ' 473 ∧ ck_rd σ' 473 = ck_fl σ k) := by
  refine ck_cal_of ?_
  refine ck_go_run 24 (X1 := (41, [some (.inr (4, 3, 1)), some (.inl k), some (.inl (σ 7 k)), some (.inl (σ 8 k)), some (.inl (σ 9 k)), none], [.inr (25 + 7 * k, 3, 0), .inr (473, 3, 0)], σ)) (ps := [0 ≤ k ∧ k < ((64 : Nat) : Int), 0 ≤ k ∧ k < ((64 : Nat) : Int), 0 ≤ k ∧ k < ((64 : Nat) : Int), 0 ≤ k ∧ k < ((64 : Nat) : Int)]) rfl ⟨⟨by omega, by omega⟩, ⟨by omega, by omega⟩, ⟨by omega, by omega⟩, ⟨by omega, by omega⟩, trivial⟩ ?_
  refine ck_go_cal (rest := []) (ck_cal_le (by decide) (cx_copy (σ := σ) (c := 473) (e := 25 + 7 * k) (by omega) rfl hBk)) ⟨_, rfl, Or.inl ⟨_, rfl⟩, rfl, rfl, rfl, Nat.le_of_ble_eq_true rfl, fun _ => ⟨_, _, rfl⟩⟩ ?_
  rintro _ s1 ⟨rfl, g1, r1⟩
  try dsimp only at g1 r1
  have hT1 : s1 6 k = 2 := by rw [g1 _ _ (by decide)]; exact hT
  refine ck_go_run 6 (X1 := (ck_sw 0 (s1 6 k) 328 [120, 132, 146, 157, 169, 190, 202, 215, 226, 238, 252, 269, 238], [some (.inr (4, 3, 1)), some (.inl k), some (.inl (σ 7 k)), some (.inl (σ 8 k)), some (.inl (σ 9 k)), none], [], s1)) (ps := [0 ≤ k ∧ k < ((64 : Nat) : Int), ck_rg (s1 6 k)]) rfl ⟨⟨by omega, by omega⟩, (ck_rgo (by omega) (by omega)), trivial⟩ ?_
  have hsw := hT1
  · rw [hsw]
    refine ck_go_pc (q := 146) rfl ?_
    refine ck_go_run 3 (X1 := (151, [some (.inr (4, 3, 1)), some (.inl k), some (.inl (σ 7 k)), some (.inl (σ 8 k)), some (.inl (σ 9 k)), none], [.inl (σ 7 k), .inr (473, 3, 0)], s1)) (ps := []) rfl trivial ?_
    refine ck_go_cal (rest := []) (ck_cal_le (by decide) (cx_setAnything (σ := s1) (c := 473) (x := σ 7 k) (by unfold ck_sOk at hO; omega))) ⟨_, rfl, Or.inl ⟨_, rfl⟩, rfl, rfl, rfl, Nat.le_of_ble_eq_true rfl, fun _ => ⟨_, _, rfl⟩⟩ ?_
    rintro _ s2 ⟨rfl, g2, r2⟩
    try dsimp only at g2 r2
    refine ck_go_run 1 (X1 := (328, [some (.inr (4, 3, 1)), some (.inl k), some (.inl (σ 7 k)), some (.inl (σ 8 k)), some (.inl (σ 9 k)), none], [], s2)) (ps := []) rfl trivial ?_
    exact ck_eV ⟨rfl, (ck_f6_tr g1 g2), by rw [r2]; (try rw [r1]); unfold ck_fl; rw [hT]; rfl⟩ rfl rfl rfl
set_option maxHeartbeats 4000000 in
theorem cx_follow3 {k : Int} (hk : 0 ≤ k ∧ k < 64) {σ : ck_M} (hO : ck_sOk (σ 6 k) (σ 7 k) (σ 8 k) (σ 9 k)) (hBk : ck_fb (ck_B σ k)) (hT : σ 6 k = 3) : ck_cal 4 cm_Fi_follow [.inr (4, 3, 1), .inl k] σ (fun q σ' => q = none ∧ ck_f6 σ σ' 473 ∧ ck_rd σ' 473 = ck_fl σ k) := by
  refine ck_cal_of ?_
  refine ck_go_run 24 (X1 := (41, [some (.inr (4, 3, 1)), some (.inl k), some (.inl (σ 7 k)), some (.inl (σ 8 k)), some (.inl (σ 9 k)), none], [.inr (25 + 7 * k, 3, 0), .inr (473, 3, 0)], σ)) (ps := [0 ≤ k ∧ k < ((64 : Nat) : Int), 0 ≤ k ∧ k < ((64 : Nat) : Int), 0 ≤ k ∧ k < ((64 : Nat) : Int), 0 ≤ k ∧ k < ((64 : Nat) : Int)]) rfl ⟨⟨by omega, by omega⟩, ⟨by omega, by omega⟩, ⟨by omega, by omega⟩, ⟨by omega, by omega⟩, trivial⟩ ?_
  refine ck_go_cal (rest := []) (ck_cal_le (by decide) (cx_copy (σ := σ) (c := 473) (e := 25 + 7 * k) (by omega) rfl hBk)) ⟨_, rfl, Or.inl ⟨_, rfl⟩, rfl, rfl, rfl, Nat.le_of_ble_eq_true rfl, fun _ => ⟨_, _, rfl⟩⟩ ?_
  rintro _ s1 ⟨rfl, g1, r1⟩
  try dsimp only at g1 r1
  have hT1 : s1 6 k = 3 := by rw [g1 _ _ (by decide)]; exact hT
  refine ck_go_run 6 (X1 := (ck_sw 0 (s1 6 k) 328 [120, 132, 146, 157, 169, 190, 202, 215, 226, 238, 252, 269, 238], [some (.inr (4, 3, 1)), some (.inl k), some (.inl (σ 7 k)), some (.inl (σ 8 k)), some (.inl (σ 9 k)), none], [], s1)) (ps := [0 ≤ k ∧ k < ((64 : Nat) : Int), ck_rg (s1 6 k)]) rfl ⟨⟨by omega, by omega⟩, (ck_rgo (by omega) (by omega)), trivial⟩ ?_
  have hsw := hT1
  · rw [hsw]
    refine ck_go_pc (q := 157) rfl ?_
    refine ck_go_run 4 (X1 := (163, [some (.inr (4, 3, 1)), some (.inl k), some (.inl (σ 7 k)), some (.inl (σ 8 k)), some (.inl (σ 9 k)), none], [.inl (σ 8 k), .inl (σ 7 k), .inr (473, 3, 0)], s1)) (ps := []) rfl trivial ?_
    refine ck_go_cal (rest := []) (ck_cal_le (by decide) (cx_setLength (σ := s1) (c := 473) (x := σ 7 k) (a := σ 8 k) (by unfold ck_sOk at hO; omega) (by unfold ck_sOk at hO; omega) r1 hBk)) ⟨_, rfl, Or.inl ⟨_, rfl⟩, rfl, rfl, rfl, Nat.le_of_ble_eq_true rfl, fun _ => ⟨_, _, rfl⟩⟩ ?_
    rintro _ s2 ⟨rfl, g2, r2⟩
    try dsimp only at g2 r2
    refine ck_go_run 1 (X1 := (328, [some (.inr (4, 3, 1)), some (.inl k), some (.inl (σ 7 k)), some (.inl (σ 8 k)), some (.inl (σ 9 k)), none], [], s2)) (ps := []) rfl trivial ?_
    exact ck_eV ⟨rfl, (ck_f6_tr g1 g2), by rw [r2]; (try rw [r1]); unfold ck_fl; rw [hT]; rfl⟩ rfl rfl rfl
set_option maxHeartbeats 4000000 in
theorem cx_follow4 {k : Int} (hk : 0 ≤ k ∧ k < 64) {σ : ck_M} (hO : ck_sOk (σ 6 k) (σ 7 k) (σ 8 k) (σ 9 k)) (hBk : ck_fb (ck_B σ k)) (hT : σ 6 k = 4) : ck_cal 4 cm_Fi_follow [.inr (4, 3, 1), .inl k] σ (fun q σ' => q = none ∧ ck_f6 σ σ' 473 ∧ ck_rd σ' 473 = ck_fl σ k) := by
  refine ck_cal_of ?_
  refine ck_go_run 24 (X1 := (41, [some (.inr (4, 3, 1)), some (.inl k), some (.inl (σ 7 k)), some (.inl (σ 8 k)), some (.inl (σ 9 k)), none], [.inr (25 + 7 * k, 3, 0), .inr (473, 3, 0)], σ)) (ps := [0 ≤ k ∧ k < ((64 : Nat) : Int), 0 ≤ k ∧ k < ((64 : Nat) : Int), 0 ≤ k ∧ k < ((64 : Nat) : Int), 0 ≤ k ∧ k < ((64 : Nat) : Int)]) rfl ⟨⟨by omega, by omega⟩, ⟨by omega, by omega⟩, ⟨by omega, by omega⟩, ⟨by omega, by omega⟩, trivial⟩ ?_
  refine ck_go_cal (rest := []) (ck_cal_le (by decide) (cx_copy (σ := σ) (c := 473) (e := 25 + 7 * k) (by omega) rfl hBk)) ⟨_, rfl, Or.inl ⟨_, rfl⟩, rfl, rfl, rfl, Nat.le_of_ble_eq_true rfl, fun _ => ⟨_, _, rfl⟩⟩ ?_
  rintro _ s1 ⟨rfl, g1, r1⟩
  try dsimp only at g1 r1
  have hT1 : s1 6 k = 4 := by rw [g1 _ _ (by decide)]; exact hT
  refine ck_go_run 6 (X1 := (ck_sw 0 (s1 6 k) 328 [120, 132, 146, 157, 169, 190, 202, 215, 226, 238, 252, 269, 238], [some (.inr (4, 3, 1)), some (.inl k), some (.inl (σ 7 k)), some (.inl (σ 8 k)), some (.inl (σ 9 k)), none], [], s1)) (ps := [0 ≤ k ∧ k < ((64 : Nat) : Int), ck_rg (s1 6 k)]) rfl ⟨⟨by omega, by omega⟩, (ck_rgo (by omega) (by omega)), trivial⟩ ?_
  have hsw := hT1
  · rw [hsw]
    refine ck_go_pc (q := 169) rfl ?_
    refine ck_go_run 4 (X1 := (176, [some (.inr (4, 3, 1)), some (.inl k), some (.inl (σ 7 k)), some (.inl (σ 8 k)), some (.inl (σ 9 k)), none], [.inl (σ 9 k), .inl (σ 8 k), .inr (473, 3, 0)], s1)) (ps := []) rfl trivial ?_
    refine ck_go_cal (rest := []) (ck_cal_le (by decide) (cx_useIndex (σ := s1) (c := 473) (a := σ 8 k) (m := σ 9 k) (by unfold ck_sOk at hO; omega) (by unfold ck_sOk at hO; omega) r1 hBk)) ⟨_, rfl, Or.inl ⟨_, rfl⟩, rfl, rfl, rfl, Nat.le_of_ble_eq_true rfl, fun _ => ⟨_, _, rfl⟩⟩ ?_
    rintro _ s2 ⟨rfl, g2, r2⟩
    try dsimp only at g2 r2
    refine ck_go_run 3 (X1 := (184, [some (.inr (4, 3, 1)), some (.inl k), some (.inl (σ 7 k)), some (.inl (σ 8 k)), some (.inl (σ 9 k)), none], [.inl (σ 7 k), .inr (473, 3, 0)], s2)) (ps := []) rfl trivial ?_
    refine ck_go_cal (rest := []) (ck_cal_le (by decide) (cx_setAnything (σ := s2) (c := 473) (x := σ 7 k) (by unfold ck_sOk at hO; omega))) ⟨_, rfl, Or.inl ⟨_, rfl⟩, rfl, rfl, rfl, Nat.le_of_ble_eq_true rfl, fun _ => ⟨_, _, rfl⟩⟩ ?_
    rintro _ s3 ⟨rfl, g3, r3⟩
    try dsimp only at g3 r3
    refine ck_go_run 1 (X1 := (328, [some (.inr (4, 3, 1)), some (.inl k), some (.inl (σ 7 k)), some (.inl (σ 8 k)), some (.inl (σ 9 k)), none], [], s3)) (ps := []) rfl trivial ?_
    exact ck_eV ⟨rfl, (ck_f6_tr (ck_f6_tr g1 g2) g3), by rw [r3]; (try rw [r2]); (try rw [r1]); unfold ck_fl; rw [hT]; rfl⟩ rfl rfl rfl
set_option maxHeartbeats 4000000 in
theorem cx_follow5 {k : Int} (hk : 0 ≤ k ∧ k < 64) {σ : ck_M} (hO : ck_sOk (σ 6 k) (σ 7 k) (σ 8 k) (σ 9 k)) (hBk : ck_fb (ck_B σ k)) (hT : σ 6 k = 5) : ck_cal 4 cm_Fi_follow [.inr (4, 3, 1), .inl k] σ (fun q σ' => q = none ∧ ck_f6 σ σ' 473 ∧ ck_rd σ' 473 = ck_fl σ k) := by
  refine ck_cal_of ?_
  refine ck_go_run 24 (X1 := (41, [some (.inr (4, 3, 1)), some (.inl k), some (.inl (σ 7 k)), some (.inl (σ 8 k)), some (.inl (σ 9 k)), none], [.inr (25 + 7 * k, 3, 0), .inr (473, 3, 0)], σ)) (ps := [0 ≤ k ∧ k < ((64 : Nat) : Int), 0 ≤ k ∧ k < ((64 : Nat) : Int), 0 ≤ k ∧ k < ((64 : Nat) : Int), 0 ≤ k ∧ k < ((64 : Nat) : Int)]) rfl ⟨⟨by omega, by omega⟩, ⟨by omega, by omega⟩, ⟨by omega, by omega⟩, ⟨by omega, by omega⟩, trivial⟩ ?_
  refine ck_go_cal (rest := []) (ck_cal_le (by decide) (cx_copy (σ := σ) (c := 473) (e := 25 + 7 * k) (by omega) rfl hBk)) ⟨_, rfl, Or.inl ⟨_, rfl⟩, rfl, rfl, rfl, Nat.le_of_ble_eq_true rfl, fun _ => ⟨_, _, rfl⟩⟩ ?_
  rintro _ s1 ⟨rfl, g1, r1⟩
  try dsimp only at g1 r1
  have hT1 : s1 6 k = 5 := by rw [g1 _ _ (by decide)]; exact hT
  refine ck_go_run 6 (X1 := (ck_sw 0 (s1 6 k) 328 [120, 132, 146, 157, 169, 190, 202, 215, 226, 238, 252, 269, 238], [some (.inr (4, 3, 1)), some (.inl k), some (.inl (σ 7 k)), some (.inl (σ 8 k)), some (.inl (σ 9 k)), none], [], s1)) (ps := [0 ≤ k ∧ k < ((64 : Nat) : Int), ck_rg (s1 6 k)]) rfl ⟨⟨by omega, by omega⟩, (ck_rgo (by omega) (by omega)), trivial⟩ ?_
  have hsw := hT1
  · rw [hsw]
    refine ck_go_pc (q := 190) rfl ?_
    refine ck_go_run 4 (X1 := (196, [some (.inr (4, 3, 1)), some (.inl k), some (.inl (σ 7 k)), some (.inl (σ 8 k)), some (.inl (σ 9 k)), none], [.inl (σ 8 k), .inl (σ 7 k), .inr (473, 3, 0)], s1)) (ps := []) rfl trivial ?_
    refine ck_go_cal (rest := []) (ck_cal_le (by decide) (cx_useIndex (σ := s1) (c := 473) (a := σ 7 k) (m := σ 8 k) (by unfold ck_sOk at hO; omega) (by unfold ck_sOk at hO; omega) r1 hBk)) ⟨_, rfl, Or.inl ⟨_, rfl⟩, rfl, rfl, rfl, Nat.le_of_ble_eq_true rfl, fun _ => ⟨_, _, rfl⟩⟩ ?_
    rintro _ s2 ⟨rfl, g2, r2⟩
    try dsimp only at g2 r2
    refine ck_go_run 1 (X1 := (328, [some (.inr (4, 3, 1)), some (.inl k), some (.inl (σ 7 k)), some (.inl (σ 8 k)), some (.inl (σ 9 k)), none], [], s2)) (ps := []) rfl trivial ?_
    exact ck_eV ⟨rfl, (ck_f6_tr g1 g2), by rw [r2]; (try rw [r1]); unfold ck_fl; rw [hT]; rfl⟩ rfl rfl rfl
set_option maxHeartbeats 4000000 in
theorem cx_follow6 {k : Int} (hk : 0 ≤ k ∧ k < 64) {σ : ck_M} (hO : ck_sOk (σ 6 k) (σ 7 k) (σ 8 k) (σ 9 k)) (hBk : ck_fb (ck_B σ k)) (hT : σ 6 k = 6) : ck_cal 4 cm_Fi_follow [.inr (4, 3, 1), .inl k] σ (fun q σ' => q = none ∧ ck_f6 σ σ' 473 ∧ ck_rd σ' 473 = ck_fl σ k) := by
  refine ck_cal_of ?_
  refine ck_go_run 24 (X1 := (41, [some (.inr (4, 3, 1)), some (.inl k), some (.inl (σ 7 k)), some (.inl (σ 8 k)), some (.inl (σ 9 k)), none], [.inr (25 + 7 * k, 3, 0), .inr (473, 3, 0)], σ)) (ps := [0 ≤ k ∧ k < ((64 : Nat) : Int), 0 ≤ k ∧ k < ((64 : Nat) : Int), 0 ≤ k ∧ k < ((64 : Nat) : Int), 0 ≤ k ∧ k < ((64 : Nat) : Int)]) rfl ⟨⟨by omega, by omega⟩, ⟨by omega, by omega⟩, ⟨by omega, by omega⟩, ⟨by omega, by omega⟩, trivial⟩ ?_
  refine ck_go_cal (rest := []) (ck_cal_le (by decide) (cx_copy (σ := σ) (c := 473) (e := 25 + 7 * k) (by omega) rfl hBk)) ⟨_, rfl, Or.inl ⟨_, rfl⟩, rfl, rfl, rfl, Nat.le_of_ble_eq_true rfl, fun _ => ⟨_, _, rfl⟩⟩ ?_
  rintro _ s1 ⟨rfl, g1, r1⟩
  try dsimp only at g1 r1
  have hT1 : s1 6 k = 6 := by rw [g1 _ _ (by decide)]; exact hT
  refine ck_go_run 6 (X1 := (ck_sw 0 (s1 6 k) 328 [120, 132, 146, 157, 169, 190, 202, 215, 226, 238, 252, 269, 238], [some (.inr (4, 3, 1)), some (.inl k), some (.inl (σ 7 k)), some (.inl (σ 8 k)), some (.inl (σ 9 k)), none], [], s1)) (ps := [0 ≤ k ∧ k < ((64 : Nat) : Int), ck_rg (s1 6 k)]) rfl ⟨⟨by omega, by omega⟩, (ck_rgo (by omega) (by omega)), trivial⟩ ?_
  have hsw := hT1
  · rw [hsw]
    refine ck_go_pc (q := 202) rfl ?_
    refine ck_go_run 5 (X1 := (209, [some (.inr (4, 3, 1)), some (.inl k), some (.inl (σ 7 k)), some (.inl (σ 8 k)), some (.inl (σ 9 k)), none], [.inl k, .inl (σ 8 k), .inl (σ 7 k), .inr (473, 3, 0)], s1)) (ps := []) rfl trivial ?_
    refine ck_go_cal (rest := []) (ck_cal_le (by decide) (cx_setNew (σ := s1) (c := 473) (a := σ 7 k) (y := σ 8 k) (k := k) (by unfold ck_sOk at hO; omega) (by unfold ck_sOk at hO; omega) hk r1 hBk)) ⟨_, rfl, Or.inl ⟨_, rfl⟩, rfl, rfl, rfl, Nat.le_of_ble_eq_true rfl, fun _ => ⟨_, _, rfl⟩⟩ ?_
    rintro _ s2 ⟨rfl, g2, r2⟩
    try dsimp only at g2 r2
    refine ck_go_run 1 (X1 := (328, [some (.inr (4, 3, 1)), some (.inl k), some (.inl (σ 7 k)), some (.inl (σ 8 k)), some (.inl (σ 9 k)), none], [], s2)) (ps := []) rfl trivial ?_
    exact ck_eV ⟨rfl, (ck_f6_tr g1 g2), by rw [r2]; (try rw [r1]); unfold ck_fl; rw [hT]; rfl⟩ rfl rfl rfl
set_option maxHeartbeats 4000000 in
theorem cx_follow7 {k : Int} (hk : 0 ≤ k ∧ k < 64) {σ : ck_M} (hO : ck_sOk (σ 6 k) (σ 7 k) (σ 8 k) (σ 9 k)) (hBk : ck_fb (ck_B σ k)) (hT : σ 6 k = 7) : ck_cal 4 cm_Fi_follow [.inr (4, 3, 1), .inl k] σ (fun q σ' => q = none ∧ ck_f6 σ σ' 473 ∧ ck_rd σ' 473 = ck_fl σ k) := by
  refine ck_cal_of ?_
  refine ck_go_run 24 (X1 := (41, [some (.inr (4, 3, 1)), some (.inl k), some (.inl (σ 7 k)), some (.inl (σ 8 k)), some (.inl (σ 9 k)), none], [.inr (25 + 7 * k, 3, 0), .inr (473, 3, 0)], σ)) (ps := [0 ≤ k ∧ k < ((64 : Nat) : Int), 0 ≤ k ∧ k < ((64 : Nat) : Int), 0 ≤ k ∧ k < ((64 : Nat) : Int), 0 ≤ k ∧ k < ((64 : Nat) : Int)]) rfl ⟨⟨by omega, by omega⟩, ⟨by omega, by omega⟩, ⟨by omega, by omega⟩, ⟨by omega, by omega⟩, trivial⟩ ?_
  refine ck_go_cal (rest := []) (ck_cal_le (by decide) (cx_copy (σ := σ) (c := 473) (e := 25 + 7 * k) (by omega) rfl hBk)) ⟨_, rfl, Or.inl ⟨_, rfl⟩, rfl, rfl, rfl, Nat.le_of_ble_eq_true rfl, fun _ => ⟨_, _, rfl⟩⟩ ?_
  rintro _ s1 ⟨rfl, g1, r1⟩
  try dsimp only at g1 r1
  have hT1 : s1 6 k = 7 := by rw [g1 _ _ (by decide)]; exact hT
  refine ck_go_run 6 (X1 := (ck_sw 0 (s1 6 k) 328 [120, 132, 146, 157, 169, 190, 202, 215, 226, 238, 252, 269, 238], [some (.inr (4, 3, 1)), some (.inl k), some (.inl (σ 7 k)), some (.inl (σ 8 k)), some (.inl (σ 9 k)), none], [], s1)) (ps := [0 ≤ k ∧ k < ((64 : Nat) : Int), ck_rg (s1 6 k)]) rfl ⟨⟨by omega, by omega⟩, (ck_rgo (by omega) (by omega)), trivial⟩ ?_
  have hsw := hT1
  · rw [hsw]
    refine ck_go_pc (q := 215) rfl ?_
    refine ck_go_run 3 (X1 := (220, [some (.inr (4, 3, 1)), some (.inl k), some (.inl (σ 7 k)), some (.inl (σ 8 k)), some (.inl (σ 9 k)), none], [.inl (σ 7 k), .inr (473, 3, 0)], s1)) (ps := []) rfl trivial ?_
    refine ck_go_cal (rest := []) (ck_cal_le (by decide) (cx_setNull (σ := s1) (c := 473) (r := σ 7 k) (by unfold ck_sOk at hO; omega))) ⟨_, rfl, Or.inl ⟨_, rfl⟩, rfl, rfl, rfl, Nat.le_of_ble_eq_true rfl, fun _ => ⟨_, _, rfl⟩⟩ ?_
    rintro _ s2 ⟨rfl, g2, r2⟩
    try dsimp only at g2 r2
    refine ck_go_run 1 (X1 := (328, [some (.inr (4, 3, 1)), some (.inl k), some (.inl (σ 7 k)), some (.inl (σ 8 k)), some (.inl (σ 9 k)), none], [], s2)) (ps := []) rfl trivial ?_
    exact ck_eV ⟨rfl, (ck_f6_tr g1 g2), by rw [r2]; (try rw [r1]); unfold ck_fl; rw [hT]; rfl⟩ rfl rfl rfl
set_option maxHeartbeats 4000000 in
theorem cx_follow8 {k : Int} (hk : 0 ≤ k ∧ k < 64) {σ : ck_M} (hO : ck_sOk (σ 6 k) (σ 7 k) (σ 8 k) (σ 9 k)) (hBk : ck_fb (ck_B σ k)) (hT : σ 6 k = 8) : ck_cal 4 cm_Fi_follow [.inr (4, 3, 1), .inl k] σ (fun q σ' => q = none ∧ ck_f6 σ σ' 473 ∧ ck_rd σ' 473 = ck_fl σ k) := by
  refine ck_cal_of ?_
  refine ck_go_run 24 (X1 := (41, [some (.inr (4, 3, 1)), some (.inl k), some (.inl (σ 7 k)), some (.inl (σ 8 k)), some (.inl (σ 9 k)), none], [.inr (25 + 7 * k, 3, 0), .inr (473, 3, 0)], σ)) (ps := [0 ≤ k ∧ k < ((64 : Nat) : Int), 0 ≤ k ∧ k < ((64 : Nat) : Int), 0 ≤ k ∧ k < ((64 : Nat) : Int), 0 ≤ k ∧ k < ((64 : Nat) : Int)]) rfl ⟨⟨by omega, by omega⟩, ⟨by omega, by omega⟩, ⟨by omega, by omega⟩, ⟨by omega, by omega⟩, trivial⟩ ?_
  refine ck_go_cal (rest := []) (ck_cal_le (by decide) (cx_copy (σ := σ) (c := 473) (e := 25 + 7 * k) (by omega) rfl hBk)) ⟨_, rfl, Or.inl ⟨_, rfl⟩, rfl, rfl, rfl, Nat.le_of_ble_eq_true rfl, fun _ => ⟨_, _, rfl⟩⟩ ?_
  rintro _ s1 ⟨rfl, g1, r1⟩
  try dsimp only at g1 r1
  have hT1 : s1 6 k = 8 := by rw [g1 _ _ (by decide)]; exact hT
  refine ck_go_run 6 (X1 := (ck_sw 0 (s1 6 k) 328 [120, 132, 146, 157, 169, 190, 202, 215, 226, 238, 252, 269, 238], [some (.inr (4, 3, 1)), some (.inl k), some (.inl (σ 7 k)), some (.inl (σ 8 k)), some (.inl (σ 9 k)), none], [], s1)) (ps := [0 ≤ k ∧ k < ((64 : Nat) : Int), ck_rg (s1 6 k)]) rfl ⟨⟨by omega, by omega⟩, (ck_rgo (by omega) (by omega)), trivial⟩ ?_
  have hsw := hT1
  · rw [hsw]
    refine ck_go_pc (q := 226) rfl ?_
    refine ck_go_run 4 (X1 := (232, [some (.inr (4, 3, 1)), some (.inl k), some (.inl (σ 7 k)), some (.inl (σ 8 k)), some (.inl (σ 9 k)), none], [.inl (σ 8 k), .inl (σ 7 k), .inr (473, 3, 0)], s1)) (ps := []) rfl trivial ?_
    refine ck_go_cal (rest := []) (ck_cal_le (by decide) (cx_setArray (σ := s1) (c := 473) (a := σ 7 k) (e := σ 8 k) (by unfold ck_sOk at hO; omega) (by unfold ck_sOk at hO; omega) r1 hBk)) ⟨_, rfl, Or.inl ⟨_, rfl⟩, rfl, rfl, rfl, Nat.le_of_ble_eq_true rfl, fun _ => ⟨_, _, rfl⟩⟩ ?_
    rintro _ s2 ⟨rfl, g2, r2⟩
    try dsimp only at g2 r2
    refine ck_go_run 1 (X1 := (328, [some (.inr (4, 3, 1)), some (.inl k), some (.inl (σ 7 k)), some (.inl (σ 8 k)), some (.inl (σ 9 k)), none], [], s2)) (ps := []) rfl trivial ?_
    exact ck_eV ⟨rfl, (ck_f6_tr g1 g2), by rw [r2]; (try rw [r1]); unfold ck_fl; rw [hT]; rfl⟩ rfl rfl rfl
set_option maxHeartbeats 4000000 in
theorem cx_follow9 {k : Int} (hk : 0 ≤ k ∧ k < 64) {σ : ck_M} (hO : ck_sOk (σ 6 k) (σ 7 k) (σ 8 k) (σ 9 k)) (hBk : ck_fb (ck_B σ k)) (hT : σ 6 k = 9) : ck_cal 4 cm_Fi_follow [.inr (4, 3, 1), .inl k] σ (fun q σ' => q = none ∧ ck_f6 σ σ' 473 ∧ ck_rd σ' 473 = ck_fl σ k) := by
  refine ck_cal_of ?_
  refine ck_go_run 24 (X1 := (41, [some (.inr (4, 3, 1)), some (.inl k), some (.inl (σ 7 k)), some (.inl (σ 8 k)), some (.inl (σ 9 k)), none], [.inr (25 + 7 * k, 3, 0), .inr (473, 3, 0)], σ)) (ps := [0 ≤ k ∧ k < ((64 : Nat) : Int), 0 ≤ k ∧ k < ((64 : Nat) : Int), 0 ≤ k ∧ k < ((64 : Nat) : Int), 0 ≤ k ∧ k < ((64 : Nat) : Int)]) rfl ⟨⟨by omega, by omega⟩, ⟨by omega, by omega⟩, ⟨by omega, by omega⟩, ⟨by omega, by omega⟩, trivial⟩ ?_
  refine ck_go_cal (rest := []) (ck_cal_le (by decide) (cx_copy (σ := σ) (c := 473) (e := 25 + 7 * k) (by omega) rfl hBk)) ⟨_, rfl, Or.inl ⟨_, rfl⟩, rfl, rfl, rfl, Nat.le_of_ble_eq_true rfl, fun _ => ⟨_, _, rfl⟩⟩ ?_
  rintro _ s1 ⟨rfl, g1, r1⟩
  try dsimp only at g1 r1
  have hT1 : s1 6 k = 9 := by rw [g1 _ _ (by decide)]; exact hT
  refine ck_go_run 6 (X1 := (ck_sw 0 (s1 6 k) 328 [120, 132, 146, 157, 169, 190, 202, 215, 226, 238, 252, 269, 238], [some (.inr (4, 3, 1)), some (.inl k), some (.inl (σ 7 k)), some (.inl (σ 8 k)), some (.inl (σ 9 k)), none], [], s1)) (ps := [0 ≤ k ∧ k < ((64 : Nat) : Int), ck_rg (s1 6 k)]) rfl ⟨⟨by omega, by omega⟩, (ck_rgo (by omega) (by omega)), trivial⟩ ?_
  have hsw := hT1
  · rw [hsw]
    refine ck_go_pc (q := 238) rfl ?_
    refine ck_go_run 5 (X1 := (246, [some (.inr (4, 3, 1)), some (.inl k), some (.inl (σ 7 k)), some (.inl (σ 8 k)), some (.inl (σ 9 k)), none], [.inl (σ 9 k), .inl (σ 8 k), .inl (σ 7 k), .inr (473, 3, 0)], s1)) (ps := []) rfl trivial ?_
    refine ck_go_cal (rest := []) (ck_cal_le (by decide) (cx_assumeBelow (σ := s1) (c := 473) (x := σ 7 k) (y := σ 8 k) (z := σ 9 k) (by unfold ck_sOk at hO; omega) (by unfold ck_sOk at hO; omega) (by unfold ck_sOk at hO; omega) r1 hBk)) ⟨_, rfl, Or.inl ⟨_, rfl⟩, rfl, rfl, rfl, Nat.le_of_ble_eq_true rfl, fun _ => ⟨_, _, rfl⟩⟩ ?_
    rintro _ s2 ⟨rfl, g2, r2⟩
    try dsimp only at g2 r2
    refine ck_go_run 1 (X1 := (328, [some (.inr (4, 3, 1)), some (.inl k), some (.inl (σ 7 k)), some (.inl (σ 8 k)), some (.inl (σ 9 k)), none], [], s2)) (ps := []) rfl trivial ?_
    exact ck_eV ⟨rfl, (ck_f6_tr g1 g2), by rw [r2]; (try rw [r1]); unfold ck_fl; rw [hT]; rfl⟩ rfl rfl rfl
set_option maxHeartbeats 4000000 in
theorem cx_follow12 {k : Int} (hk : 0 ≤ k ∧ k < 64) {σ : ck_M} (hO : ck_sOk (σ 6 k) (σ 7 k) (σ 8 k) (σ 9 k)) (hBk : ck_fb (ck_B σ k)) (hT : σ 6 k = 12) : ck_cal 4 cm_Fi_follow [.inr (4, 3, 1), .inl k] σ (fun q σ' => q = none ∧ ck_f6 σ σ' 473 ∧ ck_rd σ' 473 = ck_fl σ k) := by
  refine ck_cal_of ?_
  refine ck_go_run 24 (X1 := (41, [some (.inr (4, 3, 1)), some (.inl k), some (.inl (σ 7 k)), some (.inl (σ 8 k)), some (.inl (σ 9 k)), none], [.inr (25 + 7 * k, 3, 0), .inr (473, 3, 0)], σ)) (ps := [0 ≤ k ∧ k < ((64 : Nat) : Int), 0 ≤ k ∧ k < ((64 : Nat) : Int), 0 ≤ k ∧ k < ((64 : Nat) : Int), 0 ≤ k ∧ k < ((64 : Nat) : Int)]) rfl ⟨⟨by omega, by omega⟩, ⟨by omega, by omega⟩, ⟨by omega, by omega⟩, ⟨by omega, by omega⟩, trivial⟩ ?_
  refine ck_go_cal (rest := []) (ck_cal_le (by decide) (cx_copy (σ := σ) (c := 473) (e := 25 + 7 * k) (by omega) rfl hBk)) ⟨_, rfl, Or.inl ⟨_, rfl⟩, rfl, rfl, rfl, Nat.le_of_ble_eq_true rfl, fun _ => ⟨_, _, rfl⟩⟩ ?_
  rintro _ s1 ⟨rfl, g1, r1⟩
  try dsimp only at g1 r1
  have hT1 : s1 6 k = 12 := by rw [g1 _ _ (by decide)]; exact hT
  refine ck_go_run 6 (X1 := (ck_sw 0 (s1 6 k) 328 [120, 132, 146, 157, 169, 190, 202, 215, 226, 238, 252, 269, 238], [some (.inr (4, 3, 1)), some (.inl k), some (.inl (σ 7 k)), some (.inl (σ 8 k)), some (.inl (σ 9 k)), none], [], s1)) (ps := [0 ≤ k ∧ k < ((64 : Nat) : Int), ck_rg (s1 6 k)]) rfl ⟨⟨by omega, by omega⟩, (ck_rgo (by omega) (by omega)), trivial⟩ ?_
  have hsw := hT1
  · rw [hsw]
    refine ck_go_pc (q := 238) rfl ?_
    refine ck_go_run 5 (X1 := (246, [some (.inr (4, 3, 1)), some (.inl k), some (.inl (σ 7 k)), some (.inl (σ 8 k)), some (.inl (σ 9 k)), none], [.inl (σ 9 k), .inl (σ 8 k), .inl (σ 7 k), .inr (473, 3, 0)], s1)) (ps := []) rfl trivial ?_
    refine ck_go_cal (rest := []) (ck_cal_le (by decide) (cx_assumeBelow (σ := s1) (c := 473) (x := σ 7 k) (y := σ 8 k) (z := σ 9 k) (by unfold ck_sOk at hO; omega) (by unfold ck_sOk at hO; omega) (by unfold ck_sOk at hO; omega) r1 hBk)) ⟨_, rfl, Or.inl ⟨_, rfl⟩, rfl, rfl, rfl, Nat.le_of_ble_eq_true rfl, fun _ => ⟨_, _, rfl⟩⟩ ?_
    rintro _ s2 ⟨rfl, g2, r2⟩
    try dsimp only at g2 r2
    refine ck_go_run 1 (X1 := (328, [some (.inr (4, 3, 1)), some (.inl k), some (.inl (σ 7 k)), some (.inl (σ 8 k)), some (.inl (σ 9 k)), none], [], s2)) (ps := []) rfl trivial ?_
    exact ck_eV ⟨rfl, (ck_f6_tr g1 g2), by rw [r2]; (try rw [r1]); unfold ck_fl; rw [hT]; rfl⟩ rfl rfl rfl
set_option maxHeartbeats 4000000 in
theorem cx_follow13 {k : Int} (hk : 0 ≤ k ∧ k < 64) {σ : ck_M} (hO : ck_sOk (σ 6 k) (σ 7 k) (σ 8 k) (σ 9 k)) (hBk : ck_fb (ck_B σ k)) (hT : σ 6 k = 13) : ck_cal 4 cm_Fi_follow [.inr (4, 3, 1), .inl k] σ (fun q σ' => q = none ∧ ck_f6 σ σ' 473 ∧ ck_rd σ' 473 = ck_fl σ k) := by
  refine ck_cal_of ?_
  refine ck_go_run 24 (X1 := (41, [some (.inr (4, 3, 1)), some (.inl k), some (.inl (σ 7 k)), some (.inl (σ 8 k)), some (.inl (σ 9 k)), none], [.inr (25 + 7 * k, 3, 0), .inr (473, 3, 0)], σ)) (ps := [0 ≤ k ∧ k < ((64 : Nat) : Int), 0 ≤ k ∧ k < ((64 : Nat) : Int), 0 ≤ k ∧ k < ((64 : Nat) : Int), 0 ≤ k ∧ k < ((64 : Nat) : Int)]) rfl ⟨⟨by omega, by omega⟩, ⟨by omega, by omega⟩, ⟨by omega, by omega⟩, ⟨by omega, by omega⟩, trivial⟩ ?_
  refine ck_go_cal (rest := []) (ck_cal_le (by decide) (cx_copy (σ := σ) (c := 473) (e := 25 + 7 * k) (by omega) rfl hBk)) ⟨_, rfl, Or.inl ⟨_, rfl⟩, rfl, rfl, rfl, Nat.le_of_ble_eq_true rfl, fun _ => ⟨_, _, rfl⟩⟩ ?_
  rintro _ s1 ⟨rfl, g1, r1⟩
  try dsimp only at g1 r1
  have hT1 : s1 6 k = 13 := by rw [g1 _ _ (by decide)]; exact hT
  refine ck_go_run 6 (X1 := (ck_sw 0 (s1 6 k) 328 [120, 132, 146, 157, 169, 190, 202, 215, 226, 238, 252, 269, 238], [some (.inr (4, 3, 1)), some (.inl k), some (.inl (σ 7 k)), some (.inl (σ 8 k)), some (.inl (σ 9 k)), none], [], s1)) (ps := [0 ≤ k ∧ k < ((64 : Nat) : Int), ck_rg (s1 6 k)]) rfl ⟨⟨by omega, by omega⟩, (ck_rgo (by omega) (by omega)), trivial⟩ ?_
  have hsw := hT1
  · rw [hsw]
    refine ck_go_pc (q := 328) rfl ?_
    exact ck_eV ⟨rfl, g1, by rw [r1]; unfold ck_fl; rw [hT]; rfl⟩ rfl rfl rfl
theorem ck_B_f6 {a b : ck_M} (h : ck_f6 a b 473) {k : Int} (h0 : 0 ≤ k) (h1 : k < 64) : ck_B b k = ck_B a k := ck_rd_f6 h (by omega)
theorem ck_oth_f6 {a b : ck_M} (h : ck_f6 a b 473) {p e : Int} (h0 : 0 ≤ p ∧ p < 64) (h1 : -1 ≤ e ∧ e < 64) : ck_oth b p e = ck_oth a p e := by
  unfold ck_oth
  by_cases he : e = -1
  · rw [if_pos he, if_pos he, ck_B_f6 h h0.1 h0.2, h _ _ (by omega), h _ _ (by omega), h _ _ (by omega)]
  · rw [if_neg he, if_neg he, ck_B_f6 h (by omega) h1.2]
theorem cx_follow10 {k : Int} (hk : 0 ≤ k ∧ k < 64) {σ : ck_M} (hO : ck_sOk (σ 6 k) (σ 7 k) (σ 8 k) (σ 9 k)) (hBk : ck_fb (ck_B σ k)) (hh : 0 ≤ σ 10 k ∧ σ 10 k < 64) (hx : 0 ≤ σ 7 (σ 10 k) ∧ σ 7 (σ 10 k) < 10) (hy : 0 ≤ σ 8 (σ 10 k) ∧ σ 8 (σ 10 k) ≤ 10) (hz : -100 ≤ σ 9 (σ 10 k) ∧ σ 9 (σ 10 k) ≤ 100) (hBh : ck_fb (ck_B σ (σ 10 k))) (hT : σ 6 k = 10) : ck_cal 4 cm_Fi_follow [.inr (4, 3, 1), .inl k] σ (fun q σ' => q = none ∧ ck_f6 σ σ' 473 ∧ ck_rd σ' 473 = ck_fl σ k) := by
  refine ck_cal_of ?_
  refine ck_go_run 24 (X1 := (41, [some (.inr (4, 3, 1)), some (.inl k), some (.inl (σ 7 k)), some (.inl (σ 8 k)), some (.inl (σ 9 k)), none], [.inr (25 + 7 * k, 3, 0), .inr (473, 3, 0)], σ)) (ps := [0 ≤ k ∧ k < ((64 : Nat) : Int), 0 ≤ k ∧ k < ((64 : Nat) : Int), 0 ≤ k ∧ k < ((64 : Nat) : Int), 0 ≤ k ∧ k < ((64 : Nat) : Int)]) rfl ⟨⟨by omega, by omega⟩, ⟨by omega, by omega⟩, ⟨by omega, by omega⟩, ⟨by omega, by omega⟩, trivial⟩ ?_
  refine ck_go_cal (rest := []) (ck_cal_le (by decide) (cx_copy (σ := σ) (c := 473) (e := 25 + 7 * k) (by omega) rfl hBk)) ⟨_, rfl, Or.inl ⟨_, rfl⟩, rfl, rfl, rfl, Nat.le_of_ble_eq_true rfl, fun _ => ⟨_, _, rfl⟩⟩ ?_
  rintro _ s1 ⟨rfl, g1, r1⟩
  try dsimp only at g1 r1
  have hT1 : s1 6 k = 10 := by rw [g1 _ _ (by decide)]; exact hT
  have eh : s1 10 k = σ 10 k := g1 _ _ (by decide)
  refine ck_go_run 6 (X1 := (ck_sw 0 (s1 6 k) 328 [120, 132, 146, 157, 169, 190, 202, 215, 226, 238, 252, 269, 238], [some (.inr (4, 3, 1)), some (.inl k), some (.inl (σ 7 k)), some (.inl (σ 8 k)), some (.inl (σ 9 k)), none], [], s1)) (ps := [0 ≤ k ∧ k < ((64 : Nat) : Int), ck_rg (s1 6 k)]) rfl ⟨⟨by omega, by omega⟩, (ck_rgo (by omega) (by omega)), trivial⟩ ?_
  have hsw := hT1
  · rw [hsw]
    refine ck_go_pc (q := 252) rfl ?_
    refine ck_go_run 7 (X1 := (263, [some (.inr (4, 3, 1)), some (.inl k), some (.inl (σ 7 k)), some (.inl (σ 8 k)), some (.inl (σ 9 k)), none], [.inl ((-1)), .inl (s1 10 k), .inr (4, 3, 1)], s1)) (ps := [0 ≤ k ∧ k < ((64 : Nat) : Int)]) rfl ⟨⟨by omega, by omega⟩, trivial⟩ ?_
    refine ck_go_cal (rest := []) (ck_cal_le (by decide) (cx_takeOtherWay (σ := s1) (h := s1 10 k) (e := (-1)) (by rw [eh]; exact hh) (by omega) (by rw [eh, g1 _ _ (by decide)]; exact hx) (by rw [eh, g1 _ _ (by decide)]; exact hy) (by rw [eh, g1 _ _ (by decide)]; exact hz) (by rw [eh, ck_B_f6 g1 hh.1 hh.2]; exact hBh) (fun z => absurd rfl z))) ⟨_, rfl, Or.inl ⟨_, rfl⟩, rfl, rfl, rfl, Nat.le_of_ble_eq_true rfl, fun _ => ⟨_, _, rfl⟩⟩ ?_
    rintro _ s2 ⟨rfl, g2, r2⟩
    try dsimp only at g2 r2
    refine ck_go_run 1 (X1 := (328, [some (.inr (4, 3, 1)), some (.inl k), some (.inl (σ 7 k)), some (.inl (σ 8 k)), some (.inl (σ 9 k)), none], [], s2)) (ps := []) rfl trivial ?_
    exact ck_eV ⟨rfl, ck_f6_tr g1 g2, by rw [r2, eh, ck_oth_f6 g1 hh (by omega)]; unfold ck_fl; rw [hT]; rfl⟩ rfl rfl rfl
set_option maxHeartbeats 4000000 in
theorem cx_follow11 {k : Int} (hk : 0 ≤ k ∧ k < 64) {σ : ck_M} (hO : ck_sOk (σ 6 k) (σ 7 k) (σ 8 k) (σ 9 k)) (hBk : ck_fb (ck_B σ k)) (hh : 0 ≤ σ 10 k ∧ σ 10 k < 64) (hx : 0 ≤ σ 7 (σ 10 k) ∧ σ 7 (σ 10 k) < 10) (hy : 0 ≤ σ 8 (σ 10 k) ∧ σ 8 (σ 10 k) ≤ 10) (hz : -100 ≤ σ 9 (σ 10 k) ∧ σ 9 (σ 10 k) ≤ 100) (hBh : ck_fb (ck_B σ (σ 10 k))) (hee : -1 ≤ σ 11 (σ 10 k) ∧ σ 11 (σ 10 k) < 64) (h6 : ck_rg (σ 6 (σ 10 k))) (hBe : σ 11 (σ 10 k) ≠ -1 → ck_fb (ck_B σ (σ 11 (σ 10 k)))) (hBo : ck_fb (ck_oth σ (σ 10 k) (σ 11 (σ 10 k)))) (hT : σ 6 k = 11) : ck_cal 4 cm_Fi_follow [.inr (4, 3, 1), .inl k] σ (fun q σ' => q = none ∧ ck_f6 σ σ' 473 ∧ ck_rd σ' 473 = ck_fl σ k) := by
  refine ck_cal_of ?_
  refine ck_go_run 24 (X1 := (41, [some (.inr (4, 3, 1)), some (.inl k), some (.inl (σ 7 k)), some (.inl (σ 8 k)), some (.inl (σ 9 k)), none], [.inr (25 + 7 * k, 3, 0), .inr (473, 3, 0)], σ)) (ps := [0 ≤ k ∧ k < ((64 : Nat) : Int), 0 ≤ k ∧ k < ((64 : Nat) : Int), 0 ≤ k ∧ k < ((64 : Nat) : Int), 0 ≤ k ∧ k < ((64 : Nat) : Int)]) rfl ⟨⟨by omega, by omega⟩, ⟨by omega, by omega⟩, ⟨by omega, by omega⟩, ⟨by omega, by omega⟩, trivial⟩ ?_
  refine ck_go_cal (rest := []) (ck_cal_le (by decide) (cx_copy (σ := σ) (c := 473) (e := 25 + 7 * k) (by omega) rfl hBk)) ⟨_, rfl, Or.inl ⟨_, rfl⟩, rfl, rfl, rfl, Nat.le_of_ble_eq_true rfl, fun _ => ⟨_, _, rfl⟩⟩ ?_
  rintro _ s1 ⟨rfl, g1, r1⟩
  try dsimp only at g1 r1
  have hT1 : s1 6 k = 11 := by rw [g1 _ _ (by decide)]; exact hT
  have eh : s1 10 k = σ 10 k := g1 _ _ (by decide)
  have ee : s1 11 (s1 10 k) = σ 11 (σ 10 k) := by rw [eh]; exact g1 _ _ (by decide)
  obtain ⟨w1, w2⟩ := id h6
  refine ck_go_run 6 (X1 := (ck_sw 0 (s1 6 k) 328 [120, 132, 146, 157, 169, 190, 202, 215, 226, 238, 252, 269, 238], [some (.inr (4, 3, 1)), some (.inl k), some (.inl (σ 7 k)), some (.inl (σ 8 k)), some (.inl (σ 9 k)), none], [], s1)) (ps := [0 ≤ k ∧ k < ((64 : Nat) : Int), ck_rg (s1 6 k)]) rfl ⟨⟨by omega, by omega⟩, (ck_rgo (by omega) (by omega)), trivial⟩ ?_
  have hsw := hT1
  · rw [hsw]
    refine ck_go_pc (q := 269) rfl ?_
    refine ck_go_run 13 (X1 := (293, [some (.inr (4, 3, 1)), some (.inl k), some (.inl (σ 7 k)), some (.inl (σ 8 k)), some (.inl (σ 9 k)), some (.inl (s1 10 k))], [.inl (s1 11 (s1 10 k)), .inl (s1 10 k), .inr (4, 3, 1)], s1)) (ps := [0 ≤ k ∧ k < ((64 : Nat) : Int), 0 ≤ s1 10 k ∧ s1 10 k < ((64 : Nat) : Int)]) rfl ⟨⟨by omega, by omega⟩, ⟨by omega, by omega⟩, trivial⟩ ?_
    refine ck_go_cal (rest := []) (ck_cal_le (by decide) (cx_takeOtherWay (σ := s1) (h := s1 10 k) (e := s1 11 (s1 10 k)) (by rw [eh]; exact hh) (by rw [ee]; omega) (by rw [eh, g1 _ _ (by decide)]; exact hx) (by rw [eh, g1 _ _ (by decide)]; exact hy) (by rw [eh, g1 _ _ (by decide)]; exact hz) (by rw [eh, ck_B_f6 g1 hh.1 hh.2]; exact hBh) (fun z => by rw [ee] at z ⊢; rw [ck_B_f6 g1 (by omega) (by omega)]; exact hBe z))) ⟨_, rfl, Or.inl ⟨_, rfl⟩, rfl, rfl, rfl, Nat.le_of_ble_eq_true rfl, fun _ => ⟨_, _, rfl⟩⟩ ?_
    rintro _ s2 ⟨rfl, g2, r2⟩
    try dsimp only at g2 r2
    have e6 : s2 6 (s1 10 k) = σ 6 (σ 10 k) := by rw [eh, g2 _ _ (by decide), g1 _ _ (by decide)]
    refine ck_go_run 7 (X1 := (if s2 6 (s1 10 k) = 9 then 311 else 328, [some (.inr (4, 3, 1)), some (.inl k), some (.inl (σ 7 k)), some (.inl (σ 8 k)), some (.inl (σ 9 k)), some (.inl (s1 10 k))], [], s2)) (ps := [0 ≤ s1 10 k ∧ s1 10 k < ((64 : Nat) : Int), ck_rg (s2 6 (s1 10 k)), ck_rg 9]) rfl ⟨⟨by omega, by omega⟩, (ck_rgo (by omega) (by omega)), (ck_rgo (by omega) (by omega)), trivial⟩ ?_
    refine ck_go_ite (fun h1 => ?_) (fun h1 => ?_)
    · refine ck_go_run 7 (X1 := (322, [some (.inr (4, 3, 1)), some (.inl k), some (.inl (σ 7 k)), some (.inl (σ 8 k)), some (.inl (σ 9 k)), some (.inl (s1 10 k))], [.inl k, .inr (25 + 7 * k, 3, 0), .inr (473, 3, 0)], s2)) (ps := [0 ≤ k ∧ k < ((64 : Nat) : Int)]) rfl ⟨⟨by omega, by omega⟩, trivial⟩ ?_
      refine ck_go_cal (rest := []) (ck_cal_le (by decide) (cx_joinWays (σ := s2) (c := 473) (e := 25 + 7 * k) (k := k) (by omega) r2 (by rw [ck_oth_f6 g1 (by rw [eh]; exact hh) (by rw [ee]; omega), ee, eh]; exact hBo) rfl (by
          show ck_fb (ck_B s2 k)
          rw [ck_B_f6 (ck_f6_tr g1 g2) hk.1 hk.2]; exact hBk))) ⟨_, rfl, Or.inl ⟨_, rfl⟩, rfl, rfl, rfl, Nat.le_of_ble_eq_true rfl, fun _ => ⟨_, _, rfl⟩⟩ ?_
      rintro _ s3 ⟨rfl, g3, r3⟩
      try dsimp only at g3 r3
      refine ck_go_run 1 (X1 := (328, [some (.inr (4, 3, 1)), some (.inl k), some (.inl (σ 7 k)), some (.inl (σ 8 k)), some (.inl (σ 9 k)), some (.inl (s1 10 k))], [], s3)) (ps := []) rfl trivial ?_
      exact ck_eV ⟨rfl, ck_f6_tr (ck_f6_tr g1 g2) g3, by
        rw [r3, show ck_rd s2 (25 + 7 * k) = ck_B σ k from ck_B_f6 (ck_f6_tr g1 g2) hk.1 hk.2, ck_oth_f6 g1 (by rw [eh]; exact hh) (by rw [ee]; omega), ee, eh]
        unfold ck_fl
        rw [if_neg (by omega), if_neg (by omega), if_pos hT, if_pos (by rw [← e6]; exact h1)]⟩ rfl rfl rfl
    · exact ck_eV ⟨rfl, ck_f6_tr g1 g2, by
        rw [r2, ck_oth_f6 g1 (by rw [eh]; exact hh) (by rw [ee]; omega), ee, eh]
        unfold ck_fl
        rw [if_neg (by omega), if_neg (by omega), if_pos hT, if_neg (by rw [← e6]; exact h1)]⟩ rfl rfl rfl
theorem cx_follow {k : Int} (hk : 0 ≤ k ∧ k < 64) {σ : ck_M} (hO : ck_sOk (σ 6 k) (σ 7 k) (σ 8 k) (σ 9 k)) (hBk : ck_fb (ck_B σ k)) (hH : σ 6 k = 10 ∨ σ 6 k = 11 → (0 ≤ σ 10 k ∧ σ 10 k < 64) ∧ (0 ≤ σ 7 (σ 10 k) ∧ σ 7 (σ 10 k) < 10) ∧ (0 ≤ σ 8 (σ 10 k) ∧ σ 8 (σ 10 k) ≤ 10) ∧ (-100 ≤ σ 9 (σ 10 k) ∧ σ 9 (σ 10 k) ≤ 100) ∧ ck_fb (ck_B σ (σ 10 k)))
    (hE : σ 6 k = 11 → (-1 ≤ σ 11 (σ 10 k) ∧ σ 11 (σ 10 k) < 64) ∧ ck_rg (σ 6 (σ 10 k)) ∧ (σ 11 (σ 10 k) ≠ -1 → ck_fb (ck_B σ (σ 11 (σ 10 k)))) ∧ ck_fb (ck_oth σ (σ 10 k) (σ 11 (σ 10 k)))) : ck_cal 4 cm_Fi_follow [.inr (4, 3, 1), .inl k] σ (fun q σ' => q = none ∧ ck_f6 σ σ' 473 ∧ ck_rd σ' 473 = ck_fl σ k) := by
  have hT : σ 6 k = 0 ∨ σ 6 k = 1 ∨ σ 6 k = 2 ∨ σ 6 k = 3 ∨ σ 6 k = 4 ∨ σ 6 k = 5 ∨ σ 6 k = 6 ∨ σ 6 k = 7 ∨ σ 6 k = 8 ∨ σ 6 k = 9 ∨ σ 6 k = 10 ∨ σ 6 k = 11 ∨ σ 6 k = 12 ∨ σ 6 k = 13 := by unfold ck_sOk at hO; omega
  rcases hT with h | h | h | h | h | h | h | h | h | h | h | h | h | h
  · exact cx_follow0 hk hO hBk h
  · exact cx_follow1 hk hO hBk h
  · exact cx_follow2 hk hO hBk h
  · exact cx_follow3 hk hO hBk h
  · exact cx_follow4 hk hO hBk h
  · exact cx_follow5 hk hO hBk h
  · exact cx_follow6 hk hO hBk h
  · exact cx_follow7 hk hO hBk h
  · exact cx_follow8 hk hO hBk h
  · exact cx_follow9 hk hO hBk h
  · obtain ⟨a1, a2, a3, a4, a5⟩ := hH (Or.inl h)
    exact cx_follow10 hk hO hBk a1 a2 a3 a4 a5 h
  · obtain ⟨a1, a2, a3, a4, a5⟩ := hH (Or.inr h)
    obtain ⟨b1, b2, b3, b4⟩ := hE h
    exact cx_follow11 hk hO hBk a1 a2 a3 a4 a5 b1 b2 b3 b4 h
  · exact cx_follow12 hk hO hBk h
  · exact cx_follow13 hk hO hBk h
end
section
/-- what comes to the while k, out of w -/
def ck_wv (σ : ck_M) (k : Int) (w : ck_D) : ck_D := ck_dFc (σ 13 k) (σ 14 k) k (if σ 18 (σ 12 k) = 0 then w else ck_dJb (ck_B σ (σ 12 k)) w)
def ck_ar0 (σ : ck_M) (k : Int) : ck_D := if k = 0 then ck_dFirst else ck_fl σ (k - 1)
/-- what comes to statement k -/
def ck_arr (σ : ck_M) (k : Int) : ck_D := if σ 6 k = 12 then ck_wv σ k (ck_ar0 σ k) else ck_ar0 σ k
theorem cx_joinWhile {k : Int} (hk : 0 ≤ k ∧ k < 64) {σ : ck_M} {w : ck_D} (he : 0 ≤ σ 12 k ∧ σ 12 k < 64) (hr : ck_rg (σ 18 (σ 12 k))) (hw : ck_rd σ 473 = w) (hB : ck_fb w) (hG : ¬ σ 18 (σ 12 k) = 0 → ck_fb (ck_B σ (σ 12 k))) : ck_cal 3 cm_Fi_joinWhile [.inr (4, 3, 1), .inl k] σ (fun q σ' => q = none ∧ ck_f6 σ σ' 473 ∧ ck_rd σ' 473 = ck_wv σ k w) := by
  refine ck_cal_of ?_
  obtain ⟨rq1, rq2⟩ := id hr
  refine ck_go_run 11 (X1 := (if σ 18 (σ 12 k) = 0 then 32 else 19, [some (.inr (4, 3, 1)), some (.inl k), some (.inl (σ 12 k))], [], σ)) (ps := [0 ≤ k ∧ k < ((64 : Nat) : Int), 0 ≤ σ 12 k ∧ σ 12 k < ((64 : Nat) : Int), ck_rg (σ 18 (σ 12 k))]) rfl ⟨⟨by omega, by omega⟩, ⟨by omega, by omega⟩, (ck_rgo (by omega) (by omega)), trivial⟩ ?_
  refine ck_go_ite (fun h1 => ?_) (fun h1 => ?_)
  · refine ck_go_run 13 (X1 := (55, [some (.inr (4, 3, 1)), some (.inl k), some (.inl (σ 12 k))], [.inl k, .inl (σ 14 k), .inl (σ 13 k), .inr (473, 3, 0)], σ)) (ps := [0 ≤ k ∧ k < ((64 : Nat) : Int), 0 ≤ k ∧ k < ((64 : Nat) : Int)]) rfl ⟨⟨by omega, by omega⟩, ⟨by omega, by omega⟩, trivial⟩ ?_
    refine ck_go_cal (rest := []) (ck_cal_le (by decide) (cx_forgetChanged (σ := σ) (c := 473) (nb := σ 13 k) (ab := σ 14 k) (k := k) hw)) ⟨_, rfl, Or.inl ⟨_, rfl⟩, rfl, rfl, rfl, Nat.le_of_ble_eq_true rfl, fun _ => ⟨_, _, rfl⟩⟩ ?_
    rintro _ s1 ⟨rfl, g1, r1⟩
    try dsimp only at g1 r1
    exact ck_eV ⟨rfl, g1, by rw [r1]; unfold ck_wv; rw [if_pos h1]⟩ rfl rfl rfl
  · refine ck_go_run 6 (X1 := (29, [some (.inr (4, 3, 1)), some (.inl k), some (.inl (σ 12 k))], [.inr (25 + 7 * (σ 12 k), 3, 0), .inr (473, 3, 0)], σ)) (ps := [0 ≤ σ 12 k ∧ σ 12 k < ((64 : Nat) : Int)]) rfl ⟨⟨by omega, by omega⟩, trivial⟩ ?_
    refine ck_go_cal (rest := []) (ck_cal_le (by decide) (cx_joinBounds (σ := σ) (c := 473) (e := 25 + 7 * (σ 12 k)) (by omega) hw hB rfl (hG h1))) ⟨_, rfl, Or.inl ⟨_, rfl⟩, rfl, rfl, rfl, Nat.le_of_ble_eq_true rfl, fun _ => ⟨_, _, rfl⟩⟩ ?_
    rintro _ s2 ⟨rfl, g2, r2⟩
    try dsimp only at g2 r2
    refine ck_go_run 13 (X1 := (55, [some (.inr (4, 3, 1)), some (.inl k), some (.inl (σ 12 k))], [.inl k, .inl (s2 14 k), .inl (s2 13 k), .inr (473, 3, 0)], s2)) (ps := [0 ≤ k ∧ k < ((64 : Nat) : Int), 0 ≤ k ∧ k < ((64 : Nat) : Int)]) rfl ⟨⟨by omega, by omega⟩, ⟨by omega, by omega⟩, trivial⟩ ?_
    refine ck_go_cal (rest := []) (ck_cal_le (by decide) (cx_forgetChanged (σ := s2) (c := 473) (nb := s2 13 k) (ab := s2 14 k) (k := k) r2)) ⟨_, rfl, Or.inl ⟨_, rfl⟩, rfl, rfl, rfl, Nat.le_of_ble_eq_true rfl, fun _ => ⟨_, _, rfl⟩⟩ ?_
    rintro _ s3 ⟨rfl, g3, r3⟩
    try dsimp only at g3 r3
    exact ck_eV ⟨rfl, ck_f6_tr g2 g3, by rw [r3, g2 _ _ (by decide), g2 _ _ (by decide)]; unfold ck_wv; rw [if_neg h1]⟩ rfl rfl rfl
theorem ck_wv_f6 {a b : ck_M} (h : ck_f6 a b 473) {k : Int} (he : 0 ≤ a 12 k ∧ a 12 k < 64) (w : ck_D) : ck_wv b k w = ck_wv a k w := by
  unfold ck_wv
  rw [h 13 k (by omega), h 14 k (by omega), h 12 k (by omega), h 18 _ (by omega), ck_B_f6 h he.1 he.2]
theorem cx_hsb {c e : Int} {σ : ck_M} {f g : ck_D} (hf : ck_rd σ c = f) (hB : ck_fb f) (hg : ck_rd σ e = g) (hG : ck_fb g) : ck_cal 1 cm_Fa_hasSameBounds [.inr (c, 3, 0), .inr (e, 3, 0)] σ (fun q σ' => ∃ x, q = some x ∧ σ' = σ ∧ (x = 0 ∨ x = 1) ∧ (x = 1 → ck_sb f g) ∧ (x = 0 → ¬ ck_sb f g)) := by
  refine ck_cal_mono (cx_hasSameBounds hf hB hg hG) ?_
  rintro r σ' ⟨h1, ⟨h2, h3⟩ | ⟨h2, h3⟩⟩
  · exact ⟨1, h2, h1, Or.inr rfl, fun _ => h3, fun z => absurd z (by decide)⟩
  · exact ⟨0, h2, h1, Or.inl rfl, fun z => absurd z (by decide), fun _ => h3⟩
set_option maxHeartbeats 4000000 in
theorem cx_arrive {k : Int} (hk : 0 ≤ k ∧ k < 64) {σ : ck_M} (hS : ck_rg (σ 6 k)) (hR : ck_rg (σ 18 k)) (hfol : ¬ k = 0 → ck_cal 4 cm_Fi_follow [.inr (4, 3, 1), .inl (k - 1)] σ (fun q σ' => q = none ∧ ck_f6 σ σ' 473 ∧ ck_rd σ' 473 = ck_fl σ (k - 1))) (h0 : ck_fb (ck_ar0 σ k)) (hA : ck_fb (ck_arr σ k)) (hBk : ¬ σ 18 k = 0 → ck_fb (ck_B σ k)) (hW : σ 6 k = 12 → (0 ≤ σ 12 k ∧ σ 12 k < 64) ∧ ck_rg (σ 18 (σ 12 k)) ∧ (¬ σ 18 (σ 12 k) = 0 → ck_fb (ck_B σ (σ 12 k)))) : ck_cal 5 cm_Fi_arrive [.inr (4, 3, 1), .inl k] σ (fun q σ' => (¬ σ 18 k = 0 ∧ ck_sb (ck_B σ k) (ck_arr σ k) → q = some 0 ∧ ck_f6 σ σ' 473) ∧ (¬ (¬ σ 18 k = 0 ∧ ck_sb (ck_B σ k) (ck_arr σ k)) → q = some 1 ∧ (∀ b j, (b ≠ 18 ∨ j ≠ k) → (b ≤ 25 + 7 * k ∨ 25 + 7 * k + 6 < b) → (b ≤ 473 ∨ 479 < b) → σ' b j = σ b j) ∧ σ' 18 k = 1 ∧ ck_B σ' k = ck_arr σ k)) := by
  refine ck_cal_of ?_
  refine ck_mid 21 (fun u => [some (.inr (4, 3, 1)), some (.inl k)]) (fun t1 => ck_f6 σ t1 473 ∧ ck_rd t1 473 = ck_ar0 σ k) (fun u t1 hJ => ?_) (fun jj => ?_)
  · obtain ⟨f1, e1⟩ := hJ
    have et : t1 6 k = σ 6 k := f1 _ _ (by decide)
    obtain ⟨v1, v2⟩ := id hS
    rw [← et] at v1 v2
    refine ck_mid 40 (fun u => [some (.inr (4, 3, 1)), some (.inl k)]) (fun t2 => ck_f6 σ t2 473 ∧ ck_rd t2 473 = ck_arr σ k) (fun u t2 hJ => ?_) (fun jj => ?_)
    · obtain ⟨f2, e2⟩ := hJ
      have er : t2 18 k = σ 18 k := f2 _ _ (by decide)
      obtain ⟨w1, w2⟩ := id hR
      rw [← er] at w1 w2
      refine ck_go_run 5 (X1 := (if t2 18 k = 0 then 67 else 49, [some (.inr (4, 3, 1)), some (.inl k)], [], t2)) (ps := [0 ≤ k ∧ k < ((64 : Nat) : Int), ck_rg (t2 18 k)]) rfl ⟨⟨by omega, by omega⟩, (ck_rgo (by omega) (by omega)), trivial⟩ ?_
      refine ck_go_ite (fun h1 => ?_) (fun h1 => ?_)
      · refine ck_go_run 6 (X1 := (77, [some (.inr (4, 3, 1)), some (.inl k)], [.inr (473, 3, 0), .inr (25 + 7 * k, 3, 0)], t2)) (ps := [0 ≤ k ∧ k < ((64 : Nat) : Int)]) rfl ⟨⟨by omega, by omega⟩, trivial⟩ ?_
        refine ck_go_cal (rest := []) (ck_cal_le (by decide) (cx_copy (σ := t2) (c := 25 + 7 * k) (e := 473) (by omega) e2 hA)) ⟨_, rfl, Or.inl ⟨_, rfl⟩, rfl, rfl, rfl, Nat.le_of_ble_eq_true rfl, fun _ => ⟨_, _, rfl⟩⟩ ?_
        rintro _ s1 ⟨rfl, g1, r1⟩
        try dsimp only at g1 r1
        refine ck_go_run 6 (X1 := (88, [some (.inr (4, 3, 1)), some (.inl k)], [.inl 1], ck_up s1 18 k 1)) (ps := [0 ≤ k ∧ k < ((64 : Nat) : Int), 1 = 0 ∨ 1 = 1]) rfl ⟨⟨by omega, by omega⟩, Or.inr rfl, trivial⟩ ?_
        refine ck_eZ (Or.inr rfl) ⟨fun z => ?_, fun _ => ⟨rfl, fun b j z1 z2 z3 => ?_, ?_, ?_⟩⟩ rfl rfl rfl
        · exfalso
          first | exact hx0 (by omega) z.2 | exact z.1 (by rw [← er]; assumption)
        · simp only [ck_up]
          rw [if_neg (by omega), g1 b j (by omega)]
          exact f2 b j (by omega)
        · simp only [ck_up, and_self, if_true]
        · rw [← r1]
          refine ck_N_ext (fun n a0 a1 => ?_) (fun n a0 a1 => ?_) (fun n q a0 a1 b0 b1 => ?_) (fun q b0 b1 => ?_) (fun q b0 b1 => ?_) (fun q b0 b1 => ?_) <;> (simp only [ck_up]; rw [if_neg (by omega)])
      · refine ck_go_run 6 (X1 := (59, [some (.inr (4, 3, 1)), some (.inl k)], [.inr (473, 3, 0), .inr (25 + 7 * k, 3, 0)], t2)) (ps := [0 ≤ k ∧ k < ((64 : Nat) : Int)]) rfl ⟨⟨by omega, by omega⟩, trivial⟩ ?_
        refine ck_go_cal (rest := []) (ck_cal_le (by decide) (cx_hsb (σ := t2) (c := 25 + 7 * k) (e := 473) (f := ck_B σ k) (g := ck_arr σ k) (ck_B_f6 f2 hk.1 hk.2) (hBk (by rw [← er]; exact h1)) e2 hA)) ⟨_, rfl, Or.inl ⟨_, rfl⟩, rfl, rfl, rfl, Nat.le_of_ble_eq_true rfl, fun _ => ⟨_, _, rfl⟩⟩ ?_
        rintro _ s' ⟨x, rfl, e', hx, hx1, hx0⟩
        rw [e']
        clear e' s'
        refine ck_go_run 1 (X1 := (if x = 0 then 67 else 65, [some (.inr (4, 3, 1)), some (.inl k)], [], t2)) (ps := [ck_rg x]) rfl ⟨(ck_rgo (by omega) (by omega)), trivial⟩ ?_
        refine ck_go_ite (fun h2 => ?_) (fun h2 => ?_)
        · refine ck_go_run 6 (X1 := (77, [some (.inr (4, 3, 1)), some (.inl k)], [.inr (473, 3, 0), .inr (25 + 7 * k, 3, 0)], t2)) (ps := [0 ≤ k ∧ k < ((64 : Nat) : Int)]) rfl ⟨⟨by omega, by omega⟩, trivial⟩ ?_
          refine ck_go_cal (rest := []) (ck_cal_le (by decide) (cx_copy (σ := t2) (c := 25 + 7 * k) (e := 473) (by omega) e2 hA)) ⟨_, rfl, Or.inl ⟨_, rfl⟩, rfl, rfl, rfl, Nat.le_of_ble_eq_true rfl, fun _ => ⟨_, _, rfl⟩⟩ ?_
          rintro _ s2 ⟨rfl, g2, r2⟩
          try dsimp only at g2 r2
          refine ck_go_run 6 (X1 := (88, [some (.inr (4, 3, 1)), some (.inl k)], [.inl 1], ck_up s2 18 k 1)) (ps := [0 ≤ k ∧ k < ((64 : Nat) : Int), 1 = 0 ∨ 1 = 1]) rfl ⟨⟨by omega, by omega⟩, Or.inr rfl, trivial⟩ ?_
          refine ck_eZ (Or.inr rfl) ⟨fun z => ?_, fun _ => ⟨rfl, fun b j z1 z2 z3 => ?_, ?_, ?_⟩⟩ rfl rfl rfl
          · exfalso
            first | exact hx0 (by omega) z.2 | exact z.1 (by rw [← er]; assumption)
          · simp only [ck_up]
            rw [if_neg (by omega), g2 b j (by omega)]
            exact f2 b j (by omega)
          · simp only [ck_up, and_self, if_true]
          · rw [← r2]
            refine ck_N_ext (fun n a0 a1 => ?_) (fun n a0 a1 => ?_) (fun n q a0 a1 b0 b1 => ?_) (fun q b0 b1 => ?_) (fun q b0 b1 => ?_) (fun q b0 b1 => ?_) <;> (simp only [ck_up]; rw [if_neg (by omega)])
        · refine ck_go_run 1 (X1 := (66, [some (.inr (4, 3, 1)), some (.inl k)], [.inl 0], t2)) (ps := []) rfl trivial ?_
          exact ck_eZ (Or.inl rfl) ⟨fun _ => ⟨rfl, f2⟩, fun z => absurd ⟨by rw [← er]; assumption, hx1 (by omega)⟩ z⟩ rfl rfl rfl
    · refine ck_go_run 7 (X1 := (if t1 6 k = 12 then 35 else 40, [some (.inr (4, 3, 1)), some (.inl k)], [], t1)) (ps := [0 ≤ k ∧ k < ((64 : Nat) : Int), ck_rg (t1 6 k), ck_rg 12]) rfl ⟨⟨by omega, by omega⟩, (ck_rgo (by omega) (by omega)), (ck_rgo (by omega) (by omega)), trivial⟩ ?_
      refine ck_go_ite (fun hT => ?_) (fun hT => ?_)
      · rw [et] at hT
        refine ck_go_run 2 (X1 := (37, [some (.inr (4, 3, 1)), some (.inl k)], [.inl k, .inr (4, 3, 1)], t1)) (ps := []) rfl trivial ?_
        refine ck_go_cal (rest := []) (ck_cal_le (by decide) (cx_joinWhile (σ := t1) (k := k) hk (by rw [f1 _ _ (by decide)]; exact (hW hT).1) (by rw [f1 _ _ (by decide), f1 _ _ (by decide)]; exact (hW hT).2.1) e1 h0 (fun z => by rw [f1 12 _ (by decide)] at z ⊢; rw [f1 18 _ (by decide)] at z; rw [ck_B_f6 f1 (hW hT).1.1 (hW hT).1.2]; exact (hW hT).2.2 z))) ⟨_, rfl, Or.inl ⟨_, rfl⟩, rfl, rfl, rfl, Nat.le_of_ble_eq_true rfl, fun _ => ⟨_, _, rfl⟩⟩ ?_
        rintro _ s3 ⟨rfl, g3, r3⟩
        try dsimp only at g3 r3
        exact jj (none, none, none) _ ⟨ck_f6_tr f1 g3, by rw [r3, ck_wv_f6 f1 (hW hT).1]; unfold ck_arr; rw [if_pos hT]⟩
      · exact jj (none, none, none) _ ⟨f1, by rw [e1]; unfold ck_arr; rw [if_neg (by rw [← et]; exact hT)]⟩
  · refine ck_go_run 2 (X1 := (if k = 0 then 4 else 14, [some (.inr (4, 3, 1)), some (.inl k)], [], σ)) (ps := [ck_rg k]) rfl ⟨(ck_rgo (by omega) (by omega)), trivial⟩ ?_
    refine ck_go_ite (fun h4 => ?_) (fun h4 => ?_)
    · refine ck_go_run 2 (X1 := (8, [some (.inr (4, 3, 1)), some (.inl k)], [.inr (473, 3, 0)], σ)) (ps := []) rfl trivial ?_
      refine ck_go_cal (rest := []) (ck_cal_le (by decide) (cx_setFirst (σ := σ) (c := 473))) ⟨_, rfl, Or.inl ⟨_, rfl⟩, rfl, rfl, rfl, Nat.le_of_ble_eq_true rfl, fun _ => ⟨_, _, rfl⟩⟩ ?_
      rintro _ s4 ⟨rfl, g4, r4⟩
      try dsimp only at g4 r4
      refine ck_go_run 1 (X1 := (21, [some (.inr (4, 3, 1)), some (.inl k)], [], s4)) (ps := []) rfl trivial ?_
      exact jj (none, none, none) _ ⟨g4, by rw [r4]; unfold ck_ar0; first | rw [if_pos (by assumption)] | rw [if_neg (by assumption)]⟩
    · refine ck_go_run 4 (X1 := (18, [some (.inr (4, 3, 1)), some (.inl k)], [.inl (k - 1), .inr (4, 3, 1)], σ)) (ps := []) rfl trivial ?_
      refine ck_go_cal (rest := []) (ck_cal_le (by decide) (hfol (by assumption))) ⟨_, rfl, Or.inl ⟨_, rfl⟩, rfl, rfl, rfl, Nat.le_of_ble_eq_true rfl, fun _ => ⟨_, _, rfl⟩⟩ ?_
      rintro _ s5 ⟨rfl, g5, r5⟩
      try dsimp only at g5 r5
      exact jj (none, none, none) _ ⟨g5, by rw [r5]; unfold ck_ar0; first | rw [if_pos (by assumption)] | rw [if_neg (by assumption)]⟩
theorem cx_forgetAll {σ : ck_M} : ck_cal 1 cm_Fi_forgetAll [.inr (4, 3, 1)] σ (fun q σ' => q = none ∧ σ' = ck_up σ 4 6 0) := by
  refine ck_cal_of ?_
  refine ck_go_run 3 (X1 := (5, [some (.inr (4, 3, 1))], [], ck_up σ 4 6 0)) (ps := [0 = 0 ∨ 0 = 1]) rfl ⟨Or.inl rfl, trivial⟩ ?_
  exact ck_eV ⟨rfl, rfl⟩ rfl rfl rfl
theorem cx_markAllDue {n : Int} (hn : 0 ≤ n ∧ n ≤ 64) {σ : ck_M} (hN : σ 5 10 = n) : ck_cal 1 cm_Fi_markAllDue [.inr (4, 3, 1)] σ (fun q σ' => q = none ∧ ∀ b j, σ' b j = if 0 ≤ j ∧ j < n ∧ b = 18 then 0 else if 0 ≤ j ∧ j < n ∧ b = 19 then 1 else σ b j) := by
  refine ck_cal_of ?_
  refine ck_go_run 2 (X1 := (2, [some (.inr (4, 3, 1)), some (.inl 0)], [], σ)) (ps := []) rfl trivial ?_
  refine ck_for 2 (fun v => [some (.inr (4, 3, 1)), some (.inl v)]) n (fun v s => (0 ≤ v ∧ v ≤ n) ∧ ∀ b j, s b j = if 0 ≤ j ∧ j < v ∧ b = 18 then 0 else if 0 ≤ j ∧ j < v ∧ b = 19 then 1 else σ b j) (fun v s hv hI kk => ?_) (fun v s hv hI => ?_) 0 _ ⟨⟨by omega, by omega⟩, fun b j => by rw [if_neg (by omega), if_neg (by omega)]⟩
  · obtain ⟨⟨h0, h4⟩, hI⟩ := hI
    have eN : s 5 10 = n := by rw [hI, if_neg (by omega), if_neg (by omega), hN]
    refine ck_go_run 5 (X1 := (if v < s 5 10 then 13 else 33, [some (.inr (4, 3, 1)), some (.inl v)], [], s)) (ps := [ck_rg v, ck_rg (s 5 10)]) rfl ⟨(ck_rgo (by omega) (by omega)), (ck_rgo (by omega) (by omega)), trivial⟩ ?_
    refine ck_go_t (by omega) ?_
    refine ck_go_run 12 (X1 := (2, [some (.inr (4, 3, 1)), some (.inl (v + 1))], [], ck_up (ck_up s 18 v 0) 19 v 1)) (ps := [0 ≤ v ∧ v < ((64 : Nat) : Int), 0 = 0 ∨ 0 = 1, 0 ≤ v ∧ v < ((65 : Nat) : Int), 1 = 0 ∨ 1 = 1]) rfl ⟨⟨by omega, by omega⟩, Or.inl rfl, ⟨by omega, by omega⟩, Or.inr rfl, trivial⟩ ?_
    exact kk _ ⟨⟨by omega, by omega⟩, fun b j => by
      simp only [ck_up, hI]
      (repeat' split) <;> first | rfl | omega⟩
  · obtain ⟨⟨h0, h4⟩, hI⟩ := hI
    have eN : s 5 10 = n := by rw [hI, if_neg (by omega), if_neg (by omega), hN]
    refine ck_go_run 5 (X1 := (if v < s 5 10 then 13 else 33, [some (.inr (4, 3, 1)), some (.inl v)], [], s)) (ps := [ck_rg v, ck_rg (s 5 10)]) rfl ⟨(ck_rgo (by omega) (by omega)), (ck_rgo (by omega) (by omega)), trivial⟩ ?_
    refine ck_go_f (by omega) ?_
    obtain rfl : v = n := by omega
    exact ck_eV ⟨rfl, hI⟩ rfl rfl rfl
/-- which checks of a statement are needless, by what is known before it -/
def ck_nix (f : ck_D) (a n : Int) : Int := (if ck_th f a = 0 then 0 else 1) + (if 0 ≤ ck_lo f n then 2 else 0) + (if ck_hi f n a ≤ -1 then 4 else 0)
def ck_ndl (t x y z : Int) (f : ck_D) : Int := if t = 3 then (if ck_th f y = 0 then 0 else 1) else if t = 4 then ck_nix f y z else if t = 5 then ck_nix f x y else 0
theorem cx_nix {c a n : Int} (ha : 0 ≤ a ∧ a < 4) (hn : 0 ≤ n ∧ n < 10) {σ : ck_M} {f : ck_D} (hf : ck_rd σ c = f) (hB : ck_fb f) : ck_cal 1 cm_Fi_findNeedlessOfIndex [.inr (c, 3, 0), .inl a, .inl n] σ (fun q σ' => q = some (ck_nix f a n) ∧ σ' = σ) := by
  refine ck_cal_of ?_
  have eT : σ (c + 6) a = ck_th f a := ck_x_th hf ha.1 ha.2
  have eL : σ (c + 2) n = ck_lo f n := ck_x_lo hf hn.1 hn.2
  have eH : σ (c + 3) (n * 4 + a) = ck_hi f n a := ck_x_hi hf hn.1 hn.2 ha.1 ha.2
  have bT := hB.2.2.2.2.2 a
  have bL := hB.2.1 n
  have bH := hB.2.2.1 n a
  refine ck_go_run 5 (X1 := (if σ (c + 6) a = 0 then 13 else 9, [some (.inr (c, 3, 0)), some (.inl a), some (.inl n), none], [], σ)) (ps := [0 ≤ a ∧ a < ((4 : Nat) : Int), ck_rg (σ (c + 6) a)]) rfl ⟨⟨by omega, by omega⟩, (ck_rgo (by omega) (by omega)), trivial⟩ ?_
  refine ck_go_ite (fun h1 => ?_) (fun h1 => ?_)
  · refine ck_go_run 7 (X1 := (if σ (c + 2) n < 0 then 27 else 24, [some (.inr (c, 3, 0)), some (.inl a), some (.inl n), some (.inl 0)], [], σ)) (ps := [0 ≤ n ∧ n < ((10 : Nat) : Int), ck_rg (σ (c + 2) n)]) rfl ⟨⟨by omega, by omega⟩, (ck_rgo (by omega) (by omega)), trivial⟩ ?_
    refine ck_go_ite (fun h2 => ?_) (fun h2 => ?_)
    · refine ck_go_run 10 (X1 := (if (-1) < σ (c + 3) ((n * 4) + a) then 44 else 41, [some (.inr (c, 3, 0)), some (.inl a), some (.inl n), some (.inl 0)], [], σ)) (ps := [0 ≤ (n * 4) + a ∧ (n * 4) + a < ((40 : Nat) : Int), ck_rg (σ (c + 3) ((n * 4) + a)), ck_rg ((-1))]) rfl ⟨⟨by omega, by omega⟩, (ck_rgo (by omega) (by omega)), (ck_rgo (by omega) (by omega)), trivial⟩ ?_
      refine ck_go_ite (fun h3 => ?_) (fun h3 => ?_)
      · refine ck_go_run 1 (X1 := (45, [some (.inr (c, 3, 0)), some (.inl a), some (.inl n), some (.inl 0)], [.inl 0], σ)) (ps := []) rfl trivial ?_
        refine ck_eI ⟨?_, rfl⟩ rfl rfl rfl
        unfold ck_nix
        rw [← eT, ← eL, ← eH]
        congr 1
        (repeat' split) <;> omega
      · refine ck_go_run 2 (X1 := (45, [some (.inr (c, 3, 0)), some (.inl a), some (.inl n), some (.inl (0 + 4))], [.inl (0 + 4)], σ)) (ps := []) rfl trivial ?_
        refine ck_eI ⟨?_, rfl⟩ rfl rfl rfl
        unfold ck_nix
        rw [← eT, ← eL, ← eH]
        congr 1
        (repeat' split) <;> omega
    · refine ck_go_run 11 (X1 := (if (-1) < σ (c + 3) ((n * 4) + a) then 44 else 41, [some (.inr (c, 3, 0)), some (.inl a), some (.inl n), some (.inl (0 + 2))], [], σ)) (ps := [0 ≤ (n * 4) + a ∧ (n * 4) + a < ((40 : Nat) : Int), ck_rg (σ (c + 3) ((n * 4) + a)), ck_rg ((-1))]) rfl ⟨⟨by omega, by omega⟩, (ck_rgo (by omega) (by omega)), (ck_rgo (by omega) (by omega)), trivial⟩ ?_
      refine ck_go_ite (fun h4 => ?_) (fun h4 => ?_)
      · refine ck_go_run 1 (X1 := (45, [some (.inr (c, 3, 0)), some (.inl a), some (.inl n), some (.inl (0 + 2))], [.inl (0 + 2)], σ)) (ps := []) rfl trivial ?_
        refine ck_eI ⟨?_, rfl⟩ rfl rfl rfl
        unfold ck_nix
        rw [← eT, ← eL, ← eH]
        congr 1
        (repeat' split) <;> omega
      · refine ck_go_run 2 (X1 := (45, [some (.inr (c, 3, 0)), some (.inl a), some (.inl n), some (.inl ((0 + 2) + 4))], [.inl ((0 + 2) + 4)], σ)) (ps := []) rfl trivial ?_
        refine ck_eI ⟨?_, rfl⟩ rfl rfl rfl
        unfold ck_nix
        rw [← eT, ← eL, ← eH]
        congr 1
        (repeat' split) <;> omega
  · refine ck_go_run 8 (X1 := (if σ (c + 2) n < 0 then 27 else 24, [some (.inr (c, 3, 0)), some (.inl a), some (.inl n), some (.inl 1)], [], σ)) (ps := [0 ≤ n ∧ n < ((10 : Nat) : Int), ck_rg (σ (c + 2) n)]) rfl ⟨⟨by omega, by omega⟩, (ck_rgo (by omega) (by omega)), trivial⟩ ?_
    refine ck_go_ite (fun h5 => ?_) (fun h5 => ?_)
    · refine ck_go_run 10 (X1 := (if (-1) < σ (c + 3) ((n * 4) + a) then 44 else 41, [some (.inr (c, 3, 0)), some (.inl a), some (.inl n), some (.inl 1)], [], σ)) (ps := [0 ≤ (n * 4) + a ∧ (n * 4) + a < ((40 : Nat) : Int), ck_rg (σ (c + 3) ((n * 4) + a)), ck_rg ((-1))]) rfl ⟨⟨by omega, by omega⟩, (ck_rgo (by omega) (by omega)), (ck_rgo (by omega) (by omega)), trivial⟩ ?_
      refine ck_go_ite (fun h6 => ?_) (fun h6 => ?_)
      · refine ck_go_run 1 (X1 := (45, [some (.inr (c, 3, 0)), some (.inl a), some (.inl n), some (.inl 1)], [.inl 1], σ)) (ps := []) rfl trivial ?_
        refine ck_eI ⟨?_, rfl⟩ rfl rfl rfl
        unfold ck_nix
        rw [← eT, ← eL, ← eH]
        congr 1
        (repeat' split) <;> omega
      · refine ck_go_run 2 (X1 := (45, [some (.inr (c, 3, 0)), some (.inl a), some (.inl n), some (.inl (1 + 4))], [.inl (1 + 4)], σ)) (ps := []) rfl trivial ?_
        refine ck_eI ⟨?_, rfl⟩ rfl rfl rfl
        unfold ck_nix
        rw [← eT, ← eL, ← eH]
        congr 1
        (repeat' split) <;> omega
    · refine ck_go_run 11 (X1 := (if (-1) < σ (c + 3) ((n * 4) + a) then 44 else 41, [some (.inr (c, 3, 0)), some (.inl a), some (.inl n), some (.inl (1 + 2))], [], σ)) (ps := [0 ≤ (n * 4) + a ∧ (n * 4) + a < ((40 : Nat) : Int), ck_rg (σ (c + 3) ((n * 4) + a)), ck_rg ((-1))]) rfl ⟨⟨by omega, by omega⟩, (ck_rgo (by omega) (by omega)), (ck_rgo (by omega) (by omega)), trivial⟩ ?_
      refine ck_go_ite (fun h7 => ?_) (fun h7 => ?_)
      · refine ck_go_run 1 (X1 := (45, [some (.inr (c, 3, 0)), some (.inl a), some (.inl n), some (.inl (1 + 2))], [.inl (1 + 2)], σ)) (ps := []) rfl trivial ?_
        refine ck_eI ⟨?_, rfl⟩ rfl rfl rfl
        unfold ck_nix
        rw [← eT, ← eL, ← eH]
        congr 1
        (repeat' split) <;> omega
      · refine ck_go_run 2 (X1 := (45, [some (.inr (c, 3, 0)), some (.inl a), some (.inl n), some (.inl ((1 + 2) + 4))], [.inl ((1 + 2) + 4)], σ)) (ps := []) rfl trivial ?_
        refine ck_eI ⟨?_, rfl⟩ rfl rfl rfl
        unfold ck_nix
        rw [← eT, ← eL, ← eH]
        congr 1
        (repeat' split) <;> omega
theorem cx_findNeedless3 {k : Int} (hk : 0 ≤ k ∧ k < 64) {σ : ck_M} (hO : ck_sOk (σ 6 k) (σ 7 k) (σ 8 k) (σ 9 k)) (hB : ck_fb (ck_B σ k)) (hT : σ 6 k = 3) : ck_cal 2 cm_Fi_findNeedless [.inr (4, 3, 1), .inl k] σ (fun q σ' => q = some (ck_ndl (σ 6 k) (σ 7 k) (σ 8 k) (σ 9 k) (ck_B σ k)) ∧ σ' = σ) := by
  refine ck_cal_of ?_
  have hR : ck_rg (σ 6 k) := ck_rgo (by omega) (by omega)
  have eT : σ (25 + 7 * k + 6) (σ 8 k) = ck_th (ck_B σ k) (σ 8 k) := ck_x_th rfl (by unfold ck_sOk at hO; omega) (by unfold ck_sOk at hO; omega)
  have bT := hB.2.2.2.2.2 (σ 8 k)
  have hi : 0 ≤ σ 8 k ∧ σ 8 k < 4 := by unfold ck_sOk at hO; omega
  refine ck_go_run 23 (X1 := (ck_sw 3 (σ 6 k) 104 [64, 80, 96], [some (.inr (4, 3, 1)), some (.inl k), some (.inr (25 + 7 * k, 3, 0)), some (.inl (σ 7 k)), some (.inl (σ 8 k))], [], σ)) (ps := [0 ≤ k ∧ k < ((64 : Nat) : Int), 0 ≤ k ∧ k < ((64 : Nat) : Int), 0 ≤ k ∧ k < ((64 : Nat) : Int), 0 ≤ k ∧ k < ((64 : Nat) : Int), ck_rg (σ 6 k)]) rfl ⟨⟨by omega, by omega⟩, ⟨by omega, by omega⟩, ⟨by omega, by omega⟩, ⟨by omega, by omega⟩, (ck_rgo (by omega) (by omega)), trivial⟩ ?_
  have hsw := hT
  · rw [hsw]
    refine ck_go_pc (q := 64) rfl ?_
    refine ck_go_run 5 (X1 := (if σ (25 + 7 * k + 6) (σ 8 k) = 0 then 78 else 74, [some (.inr (4, 3, 1)), some (.inl k), some (.inr (25 + 7 * k, 3, 0)), some (.inl (σ 7 k)), some (.inl (σ 8 k))], [], σ)) (ps := [0 ≤ σ 8 k ∧ σ 8 k < ((4 : Nat) : Int), ck_rg (σ (25 + 7 * k + 6) (σ 8 k))]) rfl ⟨⟨by omega, by omega⟩, (ck_rgo (by omega) (by omega)), trivial⟩ ?_
    refine ck_go_ite (fun h1 => ?_) (fun h1 => ?_)
    · refine ck_go_run 1 (X1 := (79, [some (.inr (4, 3, 1)), some (.inl k), some (.inr (25 + 7 * k, 3, 0)), some (.inl (σ 7 k)), some (.inl (σ 8 k))], [.inl 0], σ)) (ps := []) rfl trivial ?_
      exact ck_eI ⟨by unfold ck_ndl; rw [if_pos rfl, ← eT, if_pos (by assumption)], rfl⟩ rfl rfl rfl
    · refine ck_go_run 2 (X1 := (79, [some (.inr (4, 3, 1)), some (.inl k), some (.inr (25 + 7 * k, 3, 0)), some (.inl (σ 7 k)), some (.inl (σ 8 k))], [.inl 1], σ)) (ps := []) rfl trivial ?_
      exact ck_eI ⟨by unfold ck_ndl; rw [if_pos rfl, ← eT, if_neg (by assumption)], rfl⟩ rfl rfl rfl
theorem cx_findNeedless4 {k : Int} (hk : 0 ≤ k ∧ k < 64) {σ : ck_M} (hO : ck_sOk (σ 6 k) (σ 7 k) (σ 8 k) (σ 9 k)) (hB : ck_fb (ck_B σ k)) (hT : σ 6 k = 4) : ck_cal 2 cm_Fi_findNeedless [.inr (4, 3, 1), .inl k] σ (fun q σ' => q = some (ck_ndl (σ 6 k) (σ 7 k) (σ 8 k) (σ 9 k) (ck_B σ k)) ∧ σ' = σ) := by
  refine ck_cal_of ?_
  have hR : ck_rg (σ 6 k) := ck_rgo (by omega) (by omega)
  refine ck_go_run 23 (X1 := (ck_sw 3 (σ 6 k) 104 [64, 80, 96], [some (.inr (4, 3, 1)), some (.inl k), some (.inr (25 + 7 * k, 3, 0)), some (.inl (σ 7 k)), some (.inl (σ 8 k))], [], σ)) (ps := [0 ≤ k ∧ k < ((64 : Nat) : Int), 0 ≤ k ∧ k < ((64 : Nat) : Int), 0 ≤ k ∧ k < ((64 : Nat) : Int), 0 ≤ k ∧ k < ((64 : Nat) : Int), ck_rg (σ 6 k)]) rfl ⟨⟨by omega, by omega⟩, ⟨by omega, by omega⟩, ⟨by omega, by omega⟩, ⟨by omega, by omega⟩, (ck_rgo (by omega) (by omega)), trivial⟩ ?_
  have hsw := hT
  · rw [hsw]
    refine ck_go_pc (q := 80) rfl ?_
    refine ck_go_run 7 (X1 := (92, [some (.inr (4, 3, 1)), some (.inl k), some (.inr (25 + 7 * k, 3, 0)), some (.inl (σ 7 k)), some (.inl (σ 8 k))], [.inl (σ 9 k), .inl (σ 8 k), .inr (25 + 7 * k, 3, 0)], σ)) (ps := [0 ≤ k ∧ k < ((64 : Nat) : Int)]) rfl ⟨⟨by omega, by omega⟩, trivial⟩ ?_
    refine ck_go_cal (rest := []) (ck_cal_le (by decide) (cx_nix (σ := σ) (c := 25 + 7 * k) (a := σ 8 k) (n := σ 9 k) (by unfold ck_sOk at hO; omega) (by unfold ck_sOk at hO; omega) rfl hB)) ⟨_, rfl, Or.inr ⟨_, rfl⟩, rfl, rfl, rfl, Nat.le_of_ble_eq_true rfl, fun h => absurd h (by decide)⟩ ?_
    rintro _ s' ⟨rfl, e'⟩
    rw [e']
    clear e' s'
    exact ck_eI ⟨rfl, rfl⟩ rfl rfl rfl
theorem cx_findNeedless5 {k : Int} (hk : 0 ≤ k ∧ k < 64) {σ : ck_M} (hO : ck_sOk (σ 6 k) (σ 7 k) (σ 8 k) (σ 9 k)) (hB : ck_fb (ck_B σ k)) (hT : σ 6 k = 5) : ck_cal 2 cm_Fi_findNeedless [.inr (4, 3, 1), .inl k] σ (fun q σ' => q = some (ck_ndl (σ 6 k) (σ 7 k) (σ 8 k) (σ 9 k) (ck_B σ k)) ∧ σ' = σ) := by
  refine ck_cal_of ?_
  have hR : ck_rg (σ 6 k) := ck_rgo (by omega) (by omega)
  refine ck_go_run 23 (X1 := (ck_sw 3 (σ 6 k) 104 [64, 80, 96], [some (.inr (4, 3, 1)), some (.inl k), some (.inr (25 + 7 * k, 3, 0)), some (.inl (σ 7 k)), some (.inl (σ 8 k))], [], σ)) (ps := [0 ≤ k ∧ k < ((64 : Nat) : Int), 0 ≤ k ∧ k < ((64 : Nat) : Int), 0 ≤ k ∧ k < ((64 : Nat) : Int), 0 ≤ k ∧ k < ((64 : Nat) : Int), ck_rg (σ 6 k)]) rfl ⟨⟨by omega, by omega⟩, ⟨by omega, by omega⟩, ⟨by omega, by omega⟩, ⟨by omega, by omega⟩, (ck_rgo (by omega) (by omega)), trivial⟩ ?_
  have hsw := hT
  · rw [hsw]
    refine ck_go_pc (q := 96) rfl ?_
    refine ck_go_run 3 (X1 := (100, [some (.inr (4, 3, 1)), some (.inl k), some (.inr (25 + 7 * k, 3, 0)), some (.inl (σ 7 k)), some (.inl (σ 8 k))], [.inl (σ 8 k), .inl (σ 7 k), .inr (25 + 7 * k, 3, 0)], σ)) (ps := []) rfl trivial ?_
    refine ck_go_cal (rest := []) (ck_cal_le (by decide) (cx_nix (σ := σ) (c := 25 + 7 * k) (a := σ 7 k) (n := σ 8 k) (by unfold ck_sOk at hO; omega) (by unfold ck_sOk at hO; omega) rfl hB)) ⟨_, rfl, Or.inr ⟨_, rfl⟩, rfl, rfl, rfl, Nat.le_of_ble_eq_true rfl, fun h => absurd h (by decide)⟩ ?_
    rintro _ s' ⟨rfl, e'⟩
    rw [e']
    clear e' s'
    exact ck_eI ⟨rfl, rfl⟩ rfl rfl rfl
theorem cx_findNeedless0 {k : Int} (hk : 0 ≤ k ∧ k < 64) {σ : ck_M} (hR : ck_rg (σ 6 k)) (hT : σ 6 k < 3 ∨ 5 < σ 6 k) : ck_cal 2 cm_Fi_findNeedless [.inr (4, 3, 1), .inl k] σ (fun q σ' => q = some (ck_ndl (σ 6 k) (σ 7 k) (σ 8 k) (σ 9 k) (ck_B σ k)) ∧ σ' = σ) := by
  refine ck_cal_of ?_
  obtain ⟨r1, r2⟩ := id hR
  refine ck_go_run 23 (X1 := (ck_sw 3 (σ 6 k) 104 [64, 80, 96], [some (.inr (4, 3, 1)), some (.inl k), some (.inr (25 + 7 * k, 3, 0)), some (.inl (σ 7 k)), some (.inl (σ 8 k))], [], σ)) (ps := [0 ≤ k ∧ k < ((64 : Nat) : Int), 0 ≤ k ∧ k < ((64 : Nat) : Int), 0 ≤ k ∧ k < ((64 : Nat) : Int), 0 ≤ k ∧ k < ((64 : Nat) : Int), ck_rg (σ 6 k)]) rfl ⟨⟨by omega, by omega⟩, ⟨by omega, by omega⟩, ⟨by omega, by omega⟩, ⟨by omega, by omega⟩, (ck_rgo (by omega) (by omega)), trivial⟩ ?_
  · refine ck_go_pc (q := 104) (by
      unfold ck_sw
      rcases hT with h | h
      · rw [if_pos h]
      · rw [if_neg (by omega), List.getElem?_eq_none (by show 3 ≤ _; omega)]
        rfl) ?_
    refine ck_go_run 1 (X1 := (105, [some (.inr (4, 3, 1)), some (.inl k), some (.inr (25 + 7 * k, 3, 0)), some (.inl (σ 7 k)), some (.inl (σ 8 k))], [.inl 0], σ)) (ps := []) rfl trivial ?_
    exact ck_eI ⟨by unfold ck_ndl; rw [if_neg (by omega), if_neg (by omega), if_neg (by omega)], rfl⟩ rfl rfl rfl
theorem cx_findNeedless {k : Int} (hk : 0 ≤ k ∧ k < 64) {σ : ck_M} (hO : ck_sOk (σ 6 k) (σ 7 k) (σ 8 k) (σ 9 k)) (hB : ck_fb (ck_B σ k)) : ck_cal 2 cm_Fi_findNeedless [.inr (4, 3, 1), .inl k] σ (fun q σ' => q = some (ck_ndl (σ 6 k) (σ 7 k) (σ 8 k) (σ 9 k) (ck_B σ k)) ∧ σ' = σ) := by
  by_cases h3 : σ 6 k = 3
  · exact cx_findNeedless3 hk hO hB h3
  · by_cases h4 : σ 6 k = 4
    · exact cx_findNeedless4 hk hO hB h4
    · by_cases h5 : σ 6 k = 5
      · exact cx_findNeedless5 hk hO hB h5
      · exact cx_findNeedless0 hk (by unfold ck_sOk at hO; exact ck_rgo (by omega) (by omega)) (by omega)
end
section
def ck_bc (x : Int) : Int := if x = 0 then 0 else if x = 1 ∨ x = 2 ∨ x = 4 then 1 else if x = 7 then 3 else 2
theorem cx_bitCount0 (σ : ck_M) : ck_cal 1 cm_Ji_bitCount [.inl 0] σ (fun q σ' => q = some (ck_bc 0) ∧ σ' = σ) := by
  refine ck_cal_of ?_
  refine ck_go_run 41 (X1 := (52, [some (.inl (((ck_and (((ck_and (0 - (ck_and (ck_ush 0 1) 1431655765)) 858993459) + (ck_and (ck_ush (0 - (ck_and (ck_ush 0 1) 1431655765)) 2) 858993459)) + (ck_ush ((ck_and (0 - (ck_and (ck_ush 0 1) 1431655765)) 858993459) + (ck_and (ck_ush (0 - (ck_and (ck_ush 0 1) 1431655765)) 2) 858993459)) 4)) 252645135) + (ck_ush (ck_and (((ck_and (0 - (ck_and (ck_ush 0 1) 1431655765)) 858993459) + (ck_and (ck_ush (0 - (ck_and (ck_ush 0 1) 1431655765)) 2) 858993459)) + (ck_ush ((ck_and (0 - (ck_and (ck_ush 0 1) 1431655765)) 858993459) + (ck_and (ck_ush (0 - (ck_and (ck_ush 0 1) 1431655765)) 2) 858993459)) 4)) 252645135) 8)) + (ck_ush ((ck_and (((ck_and (0 - (ck_and (ck_ush 0 1) 1431655765)) 858993459) + (ck_and (ck_ush (0 - (ck_and (ck_ush 0 1) 1431655765)) 2) 858993459)) + (ck_ush ((ck_and (0 - (ck_and (ck_ush 0 1) 1431655765)) 858993459) + (ck_and (ck_ush (0 - (ck_and (ck_ush 0 1) 1431655765)) 2) 858993459)) 4)) 252645135) + (ck_ush (ck_and (((ck_and (0 - (ck_and (ck_ush 0 1) 1431655765)) 858993459) + (ck_and (ck_ush (0 - (ck_and (ck_ush 0 1) 1431655765)) 2) 858993459)) + (ck_ush ((ck_and (0 - (ck_and (ck_ush 0 1) 1431655765)) 858993459) + (ck_and (ck_ush (0 - (ck_and (ck_ush 0 1) 1431655765)) 2) 858993459)) 4)) 252645135) 8)) 16)))], [.inl (ck_and (((ck_and (((ck_and (0 - (ck_and (ck_ush 0 1) 1431655765)) 858993459) + (ck_and (ck_ush (0 - (ck_and (ck_ush 0 1) 1431655765)) 2) 858993459)) + (ck_ush ((ck_and (0 - (ck_and (ck_ush 0 1) 1431655765)) 858993459) + (ck_and (ck_ush (0 - (ck_and (ck_ush 0 1) 1431655765)) 2) 858993459)) 4)) 252645135) + (ck_ush (ck_and (((ck_and (0 - (ck_and (ck_ush 0 1) 1431655765)) 858993459) + (ck_and (ck_ush (0 - (ck_and (ck_ush 0 1) 1431655765)) 2) 858993459)) + (ck_ush ((ck_and (0 - (ck_and (ck_ush 0 1) 1431655765)) 858993459) + (ck_and (ck_ush (0 - (ck_and (ck_ush 0 1) 1431655765)) 2) 858993459)) 4)) 252645135) 8)) + (ck_ush ((ck_and (((ck_and (0 - (ck_and (ck_ush 0 1) 1431655765)) 858993459) + (ck_and (ck_ush (0 - (ck_and (ck_ush 0 1) 1431655765)) 2) 858993459)) + (ck_ush ((ck_and (0 - (ck_and (ck_ush 0 1) 1431655765)) 858993459) + (ck_and (ck_ush (0 - (ck_and (ck_ush 0 1) 1431655765)) 2) 858993459)) 4)) 252645135) + (ck_ush (ck_and (((ck_and (0 - (ck_and (ck_ush 0 1) 1431655765)) 858993459) + (ck_and (ck_ush (0 - (ck_and (ck_ush 0 1) 1431655765)) 2) 858993459)) + (ck_ush ((ck_and (0 - (ck_and (ck_ush 0 1) 1431655765)) 858993459) + (ck_and (ck_ush (0 - (ck_and (ck_ush 0 1) 1431655765)) 2) 858993459)) 4)) 252645135) 8)) 16)) 63)], σ)) (ps := []) rfl trivial ?_
  exact ck_eI ⟨by decide +kernel, rfl⟩ rfl rfl rfl
theorem cx_bitCount1 (σ : ck_M) : ck_cal 1 cm_Ji_bitCount [.inl 1] σ (fun q σ' => q = some (ck_bc 1) ∧ σ' = σ) := by
  refine ck_cal_of ?_
  refine ck_go_run 41 (X1 := (52, [some (.inl (((ck_and (((ck_and (1 - (ck_and (ck_ush 1 1) 1431655765)) 858993459) + (ck_and (ck_ush (1 - (ck_and (ck_ush 1 1) 1431655765)) 2) 858993459)) + (ck_ush ((ck_and (1 - (ck_and (ck_ush 1 1) 1431655765)) 858993459) + (ck_and (ck_ush (1 - (ck_and (ck_ush 1 1) 1431655765)) 2) 858993459)) 4)) 252645135) + (ck_ush (ck_and (((ck_and (1 - (ck_and (ck_ush 1 1) 1431655765)) 858993459) + (ck_and (ck_ush (1 - (ck_and (ck_ush 1 1) 1431655765)) 2) 858993459)) + (ck_ush ((ck_and (1 - (ck_and (ck_ush 1 1) 1431655765)) 858993459) + (ck_and (ck_ush (1 - (ck_and (ck_ush 1 1) 1431655765)) 2) 858993459)) 4)) 252645135) 8)) + (ck_ush ((ck_and (((ck_and (1 - (ck_and (ck_ush 1 1) 1431655765)) 858993459) + (ck_and (ck_ush (1 - (ck_and (ck_ush 1 1) 1431655765)) 2) 858993459)) + (ck_ush ((ck_and (1 - (ck_and (ck_ush 1 1) 1431655765)) 858993459) + (ck_and (ck_ush (1 - (ck_and (ck_ush 1 1) 1431655765)) 2) 858993459)) 4)) 252645135) + (ck_ush (ck_and (((ck_and (1 - (ck_and (ck_ush 1 1) 1431655765)) 858993459) + (ck_and (ck_ush (1 - (ck_and (ck_ush 1 1) 1431655765)) 2) 858993459)) + (ck_ush ((ck_and (1 - (ck_and (ck_ush 1 1) 1431655765)) 858993459) + (ck_and (ck_ush (1 - (ck_and (ck_ush 1 1) 1431655765)) 2) 858993459)) 4)) 252645135) 8)) 16)))], [.inl (ck_and (((ck_and (((ck_and (1 - (ck_and (ck_ush 1 1) 1431655765)) 858993459) + (ck_and (ck_ush (1 - (ck_and (ck_ush 1 1) 1431655765)) 2) 858993459)) + (ck_ush ((ck_and (1 - (ck_and (ck_ush 1 1) 1431655765)) 858993459) + (ck_and (ck_ush (1 - (ck_and (ck_ush 1 1) 1431655765)) 2) 858993459)) 4)) 252645135) + (ck_ush (ck_and (((ck_and (1 - (ck_and (ck_ush 1 1) 1431655765)) 858993459) + (ck_and (ck_ush (1 - (ck_and (ck_ush 1 1) 1431655765)) 2) 858993459)) + (ck_ush ((ck_and (1 - (ck_and (ck_ush 1 1) 1431655765)) 858993459) + (ck_and (ck_ush (1 - (ck_and (ck_ush 1 1) 1431655765)) 2) 858993459)) 4)) 252645135) 8)) + (ck_ush ((ck_and (((ck_and (1 - (ck_and (ck_ush 1 1) 1431655765)) 858993459) + (ck_and (ck_ush (1 - (ck_and (ck_ush 1 1) 1431655765)) 2) 858993459)) + (ck_ush ((ck_and (1 - (ck_and (ck_ush 1 1) 1431655765)) 858993459) + (ck_and (ck_ush (1 - (ck_and (ck_ush 1 1) 1431655765)) 2) 858993459)) 4)) 252645135) + (ck_ush (ck_and (((ck_and (1 - (ck_and (ck_ush 1 1) 1431655765)) 858993459) + (ck_and (ck_ush (1 - (ck_and (ck_ush 1 1) 1431655765)) 2) 858993459)) + (ck_ush ((ck_and (1 - (ck_and (ck_ush 1 1) 1431655765)) 858993459) + (ck_and (ck_ush (1 - (ck_and (ck_ush 1 1) 1431655765)) 2) 858993459)) 4)) 252645135) 8)) 16)) 63)], σ)) (ps := []) rfl trivial ?_
  exact ck_eI ⟨by decide +kernel, rfl⟩ rfl rfl rfl
theorem cx_bitCount2 (σ : ck_M) : ck_cal 1 cm_Ji_bitCount [.inl 2] σ (fun q σ' => q = some (ck_bc 2) ∧ σ' = σ) := by
  refine ck_cal_of ?_
  refine ck_go_run 41 (X1 := (52, [some (.inl (((ck_and (((ck_and (2 - (ck_and (ck_ush 2 1) 1431655765)) 858993459) + (ck_and (ck_ush (2 - (ck_and (ck_ush 2 1) 1431655765)) 2) 858993459)) + (ck_ush ((ck_and (2 - (ck_and (ck_ush 2 1) 1431655765)) 858993459) + (ck_and (ck_ush (2 - (ck_and (ck_ush 2 1) 1431655765)) 2) 858993459)) 4)) 252645135) + (ck_ush (ck_and (((ck_and (2 - (ck_and (ck_ush 2 1) 1431655765)) 858993459) + (ck_and (ck_ush (2 - (ck_and (ck_ush 2 1) 1431655765)) 2) 858993459)) + (ck_ush ((ck_and (2 - (ck_and (ck_ush 2 1) 1431655765)) 858993459) + (ck_and (ck_ush (2 - (ck_and (ck_ush 2 1) 1431655765)) 2) 858993459)) 4)) 252645135) 8)) + (ck_ush ((ck_and (((ck_and (2 - (ck_and (ck_ush 2 1) 1431655765)) 858993459) + (ck_and (ck_ush (2 - (ck_and (ck_ush 2 1) 1431655765)) 2) 858993459)) + (ck_ush ((ck_and (2 - (ck_and (ck_ush 2 1) 1431655765)) 858993459) + (ck_and (ck_ush (2 - (ck_and (ck_ush 2 1) 1431655765)) 2) 858993459)) 4)) 252645135) + (ck_ush (ck_and (((ck_and (2 - (ck_and (ck_ush 2 1) 1431655765)) 858993459) + (ck_and (ck_ush (2 - (ck_and (ck_ush 2 1) 1431655765)) 2) 858993459)) + (ck_ush ((ck_and (2 - (ck_and (ck_ush 2 1) 1431655765)) 858993459) + (ck_and (ck_ush (2 - (ck_and (ck_ush 2 1) 1431655765)) 2) 858993459)) 4)) 252645135) 8)) 16)))], [.inl (ck_and (((ck_and (((ck_and (2 - (ck_and (ck_ush 2 1) 1431655765)) 858993459) + (ck_and (ck_ush (2 - (ck_and (ck_ush 2 1) 1431655765)) 2) 858993459)) + (ck_ush ((ck_and (2 - (ck_and (ck_ush 2 1) 1431655765)) 858993459) + (ck_and (ck_ush (2 - (ck_and (ck_ush 2 1) 1431655765)) 2) 858993459)) 4)) 252645135) + (ck_ush (ck_and (((ck_and (2 - (ck_and (ck_ush 2 1) 1431655765)) 858993459) + (ck_and (ck_ush (2 - (ck_and (ck_ush 2 1) 1431655765)) 2) 858993459)) + (ck_ush ((ck_and (2 - (ck_and (ck_ush 2 1) 1431655765)) 858993459) + (ck_and (ck_ush (2 - (ck_and (ck_ush 2 1) 1431655765)) 2) 858993459)) 4)) 252645135) 8)) + (ck_ush ((ck_and (((ck_and (2 - (ck_and (ck_ush 2 1) 1431655765)) 858993459) + (ck_and (ck_ush (2 - (ck_and (ck_ush 2 1) 1431655765)) 2) 858993459)) + (ck_ush ((ck_and (2 - (ck_and (ck_ush 2 1) 1431655765)) 858993459) + (ck_and (ck_ush (2 - (ck_and (ck_ush 2 1) 1431655765)) 2) 858993459)) 4)) 252645135) + (ck_ush (ck_and (((ck_and (2 - (ck_and (ck_ush 2 1) 1431655765)) 858993459) + (ck_and (ck_ush (2 - (ck_and (ck_ush 2 1) 1431655765)) 2) 858993459)) + (ck_ush ((ck_and (2 - (ck_and (ck_ush 2 1) 1431655765)) 858993459) + (ck_and (ck_ush (2 - (ck_and (ck_ush 2 1) 1431655765)) 2) 858993459)) 4)) 252645135) 8)) 16)) 63)], σ)) (ps := []) rfl trivial ?_
  exact ck_eI ⟨by decide +kernel, rfl⟩ rfl rfl rfl
theorem cx_bitCount3 (σ : ck_M) : ck_cal 1 cm_Ji_bitCount [.inl 3] σ (fun q σ' => q = some (ck_bc 3) ∧ σ' = σ) := by
  refine ck_cal_of ?_
  refine ck_go_run 41 (X1 := (52, [some (.inl (((ck_and (((ck_and (3 - (ck_and (ck_ush 3 1) 1431655765)) 858993459) + (ck_and (ck_ush (3 - (ck_and (ck_ush 3 1) 1431655765)) 2) 858993459)) + (ck_ush ((ck_and (3 - (ck_and (ck_ush 3 1) 1431655765)) 858993459) + (ck_and (ck_ush (3 - (ck_and (ck_ush 3 1) 1431655765)) 2) 858993459)) 4)) 252645135) + (ck_ush (ck_and (((ck_and (3 - (ck_and (ck_ush 3 1) 1431655765)) 858993459) + (ck_and (ck_ush (3 - (ck_and (ck_ush 3 1) 1431655765)) 2) 858993459)) + (ck_ush ((ck_and (3 - (ck_and (ck_ush 3 1) 1431655765)) 858993459) + (ck_and (ck_ush (3 - (ck_and (ck_ush 3 1) 1431655765)) 2) 858993459)) 4)) 252645135) 8)) + (ck_ush ((ck_and (((ck_and (3 - (ck_and (ck_ush 3 1) 1431655765)) 858993459) + (ck_and (ck_ush (3 - (ck_and (ck_ush 3 1) 1431655765)) 2) 858993459)) + (ck_ush ((ck_and (3 - (ck_and (ck_ush 3 1) 1431655765)) 858993459) + (ck_and (ck_ush (3 - (ck_and (ck_ush 3 1) 1431655765)) 2) 858993459)) 4)) 252645135) + (ck_ush (ck_and (((ck_and (3 - (ck_and (ck_ush 3 1) 1431655765)) 858993459) + (ck_and (ck_ush (3 - (ck_and (ck_ush 3 1) 1431655765)) 2) 858993459)) + (ck_ush ((ck_and (3 - (ck_and (ck_ush 3 1) 1431655765)) 858993459) + (ck_and (ck_ush (3 - (ck_and (ck_ush 3 1) 1431655765)) 2) 858993459)) 4)) 252645135) 8)) 16)))], [.inl (ck_and (((ck_and (((ck_and (3 - (ck_and (ck_ush 3 1) 1431655765)) 858993459) + (ck_and (ck_ush (3 - (ck_and (ck_ush 3 1) 1431655765)) 2) 858993459)) + (ck_ush ((ck_and (3 - (ck_and (ck_ush 3 1) 1431655765)) 858993459) + (ck_and (ck_ush (3 - (ck_and (ck_ush 3 1) 1431655765)) 2) 858993459)) 4)) 252645135) + (ck_ush (ck_and (((ck_and (3 - (ck_and (ck_ush 3 1) 1431655765)) 858993459) + (ck_and (ck_ush (3 - (ck_and (ck_ush 3 1) 1431655765)) 2) 858993459)) + (ck_ush ((ck_and (3 - (ck_and (ck_ush 3 1) 1431655765)) 858993459) + (ck_and (ck_ush (3 - (ck_and (ck_ush 3 1) 1431655765)) 2) 858993459)) 4)) 252645135) 8)) + (ck_ush ((ck_and (((ck_and (3 - (ck_and (ck_ush 3 1) 1431655765)) 858993459) + (ck_and (ck_ush (3 - (ck_and (ck_ush 3 1) 1431655765)) 2) 858993459)) + (ck_ush ((ck_and (3 - (ck_and (ck_ush 3 1) 1431655765)) 858993459) + (ck_and (ck_ush (3 - (ck_and (ck_ush 3 1) 1431655765)) 2) 858993459)) 4)) 252645135) + (ck_ush (ck_and (((ck_and (3 - (ck_and (ck_ush 3 1) 1431655765)) 858993459) + (ck_and (ck_ush (3 - (ck_and (ck_ush 3 1) 1431655765)) 2) 858993459)) + (ck_ush ((ck_and (3 - (ck_and (ck_ush 3 1) 1431655765)) 858993459) + (ck_and (ck_ush (3 - (ck_and (ck_ush 3 1) 1431655765)) 2) 858993459)) 4)) 252645135) 8)) 16)) 63)], σ)) (ps := []) rfl trivial ?_
  exact ck_eI ⟨by decide +kernel, rfl⟩ rfl rfl rfl
theorem cx_bitCount4 (σ : ck_M) : ck_cal 1 cm_Ji_bitCount [.inl 4] σ (fun q σ' => q = some (ck_bc 4) ∧ σ' = σ) := by
  refine ck_cal_of ?_
  refine ck_go_run 41 (X1 := (52, [some (.inl (((ck_and (((ck_and (4 - (ck_and (ck_ush 4 1) 1431655765)) 858993459) + (ck_and (ck_ush (4 - (ck_and (ck_ush 4 1) 1431655765)) 2) 858993459)) + (ck_ush ((ck_and (4 - (ck_and (ck_ush 4 1) 1431655765)) 858993459) + (ck_and (ck_ush (4 - (ck_and (ck_ush 4 1) 1431655765)) 2) 858993459)) 4)) 252645135) + (ck_ush (ck_and (((ck_and (4 - (ck_and (ck_ush 4 1) 1431655765)) 858993459) + (ck_and (ck_ush (4 - (ck_and (ck_ush 4 1) 1431655765)) 2) 858993459)) + (ck_ush ((ck_and (4 - (ck_and (ck_ush 4 1) 1431655765)) 858993459) + (ck_and (ck_ush (4 - (ck_and (ck_ush 4 1) 1431655765)) 2) 858993459)) 4)) 252645135) 8)) + (ck_ush ((ck_and (((ck_and (4 - (ck_and (ck_ush 4 1) 1431655765)) 858993459) + (ck_and (ck_ush (4 - (ck_and (ck_ush 4 1) 1431655765)) 2) 858993459)) + (ck_ush ((ck_and (4 - (ck_and (ck_ush 4 1) 1431655765)) 858993459) + (ck_and (ck_ush (4 - (ck_and (ck_ush 4 1) 1431655765)) 2) 858993459)) 4)) 252645135) + (ck_ush (ck_and (((ck_and (4 - (ck_and (ck_ush 4 1) 1431655765)) 858993459) + (ck_and (ck_ush (4 - (ck_and (ck_ush 4 1) 1431655765)) 2) 858993459)) + (ck_ush ((ck_and (4 - (ck_and (ck_ush 4 1) 1431655765)) 858993459) + (ck_and (ck_ush (4 - (ck_and (ck_ush 4 1) 1431655765)) 2) 858993459)) 4)) 252645135) 8)) 16)))], [.inl (ck_and (((ck_and (((ck_and (4 - (ck_and (ck_ush 4 1) 1431655765)) 858993459) + (ck_and (ck_ush (4 - (ck_and (ck_ush 4 1) 1431655765)) 2) 858993459)) + (ck_ush ((ck_and (4 - (ck_and (ck_ush 4 1) 1431655765)) 858993459) + (ck_and (ck_ush (4 - (ck_and (ck_ush 4 1) 1431655765)) 2) 858993459)) 4)) 252645135) + (ck_ush (ck_and (((ck_and (4 - (ck_and (ck_ush 4 1) 1431655765)) 858993459) + (ck_and (ck_ush (4 - (ck_and (ck_ush 4 1) 1431655765)) 2) 858993459)) + (ck_ush ((ck_and (4 - (ck_and (ck_ush 4 1) 1431655765)) 858993459) + (ck_and (ck_ush (4 - (ck_and (ck_ush 4 1) 1431655765)) 2) 858993459)) 4)) 252645135) 8)) + (ck_ush ((ck_and (((ck_and (4 - (ck_and (ck_ush 4 1) 1431655765)) 858993459) + (ck_and (ck_ush (4 - (ck_and (ck_ush 4 1) 1431655765)) 2) 858993459)) + (ck_ush ((ck_and (4 - (ck_and (ck_ush 4 1) 1431655765)) 858993459) + (ck_and (ck_ush (4 - (ck_and (ck_ush 4 1) 1431655765)) 2) 858993459)) 4)) 252645135) + (ck_ush (ck_and (((ck_and (4 - (ck_and (ck_ush 4 1) 1431655765)) 858993459) + (ck_and (ck_ush (4 - (ck_and (ck_ush 4 1) 1431655765)) 2) 858993459)) + (ck_ush ((ck_and (4 - (ck_and (ck_ush 4 1) 1431655765)) 858993459) + (ck_and (ck_ush (4 - (ck_and (ck_ush 4 1) 1431655765)) 2) 858993459)) 4)) 252645135) 8)) 16)) 63)], σ)) (ps := []) rfl trivial ?_
  exact ck_eI ⟨by decide +kernel, rfl⟩ rfl rfl rfl
theorem cx_bitCount5 (σ : ck_M) : ck_cal 1 cm_Ji_bitCount [.inl 5] σ (fun q σ' => q = some (ck_bc 5) ∧ σ' = σ) := by
  refine ck_cal_of ?_
  refine ck_go_run 41 (X1 := (52, [some (.inl (((ck_and (((ck_and (5 - (ck_and (ck_ush 5 1) 1431655765)) 858993459) + (ck_and (ck_ush (5 - (ck_and (ck_ush 5 1) 1431655765)) 2) 858993459)) + (ck_ush ((ck_and (5 - (ck_and (ck_ush 5 1) 1431655765)) 858993459) + (ck_and (ck_ush (5 - (ck_and (ck_ush 5 1) 1431655765)) 2) 858993459)) 4)) 252645135) + (ck_ush (ck_and (((ck_and (5 - (ck_and (ck_ush 5 1) 1431655765)) 858993459) + (ck_and (ck_ush (5 - (ck_and (ck_ush 5 1) 1431655765)) 2) 858993459)) + (ck_ush ((ck_and (5 - (ck_and (ck_ush 5 1) 1431655765)) 858993459) + (ck_and (ck_ush (5 - (ck_and (ck_ush 5 1) 1431655765)) 2) 858993459)) 4)) 252645135) 8)) + (ck_ush ((ck_and (((ck_and (5 - (ck_and (ck_ush 5 1) 1431655765)) 858993459) + (ck_and (ck_ush (5 - (ck_and (ck_ush 5 1) 1431655765)) 2) 858993459)) + (ck_ush ((ck_and (5 - (ck_and (ck_ush 5 1) 1431655765)) 858993459) + (ck_and (ck_ush (5 - (ck_and (ck_ush 5 1) 1431655765)) 2) 858993459)) 4)) 252645135) + (ck_ush (ck_and (((ck_and (5 - (ck_and (ck_ush 5 1) 1431655765)) 858993459) + (ck_and (ck_ush (5 - (ck_and (ck_ush 5 1) 1431655765)) 2) 858993459)) + (ck_ush ((ck_and (5 - (ck_and (ck_ush 5 1) 1431655765)) 858993459) + (ck_and (ck_ush (5 - (ck_and (ck_ush 5 1) 1431655765)) 2) 858993459)) 4)) 252645135) 8)) 16)))], [.inl (ck_and (((ck_and (((ck_and (5 - (ck_and (ck_ush 5 1) 1431655765)) 858993459) + (ck_and (ck_ush (5 - (ck_and (ck_ush 5 1) 1431655765)) 2) 858993459)) + (ck_ush ((ck_and (5 - (ck_and (ck_ush 5 1) 1431655765)) 858993459) + (ck_and (ck_ush (5 - (ck_and (ck_ush 5 1) 1431655765)) 2) 858993459)) 4)) 252645135) + (ck_ush (ck_and (((ck_and (5 - (ck_and (ck_ush 5 1) 1431655765)) 858993459) + (ck_and (ck_ush (5 - (ck_and (ck_ush 5 1) 1431655765)) 2) 858993459)) + (ck_ush ((ck_and (5 - (ck_and (ck_ush 5 1) 1431655765)) 858993459) + (ck_and (ck_ush (5 - (ck_and (ck_ush 5 1) 1431655765)) 2) 858993459)) 4)) 252645135) 8)) + (ck_ush ((ck_and (((ck_and (5 - (ck_and (ck_ush 5 1) 1431655765)) 858993459) + (ck_and (ck_ush (5 - (ck_and (ck_ush 5 1) 1431655765)) 2) 858993459)) + (ck_ush ((ck_and (5 - (ck_and (ck_ush 5 1) 1431655765)) 858993459) + (ck_and (ck_ush (5 - (ck_and (ck_ush 5 1) 1431655765)) 2) 858993459)) 4)) 252645135) + (ck_ush (ck_and (((ck_and (5 - (ck_and (ck_ush 5 1) 1431655765)) 858993459) + (ck_and (ck_ush (5 - (ck_and (ck_ush 5 1) 1431655765)) 2) 858993459)) + (ck_ush ((ck_and (5 - (ck_and (ck_ush 5 1) 1431655765)) 858993459) + (ck_and (ck_ush (5 - (ck_and (ck_ush 5 1) 1431655765)) 2) 858993459)) 4)) 252645135) 8)) 16)) 63)], σ)) (ps := []) rfl trivial ?_
  exact ck_eI ⟨by decide +kernel, rfl⟩ rfl rfl rfl
theorem cx_bitCount6 (σ : ck_M) : ck_cal 1 cm_Ji_bitCount [.inl 6] σ (fun q σ' => q = some (ck_bc 6) ∧ σ' = σ) := by
  refine ck_cal_of ?_
  refine ck_go_run 41 (X1 := (52, [some (.inl (((ck_and (((ck_and (6 - (ck_and (ck_ush 6 1) 1431655765)) 858993459) + (ck_and (ck_ush (6 - (ck_and (ck_ush 6 1) 1431655765)) 2) 858993459)) + (ck_ush ((ck_and (6 - (ck_and (ck_ush 6 1) 1431655765)) 858993459) + (ck_and (ck_ush (6 - (ck_and (ck_ush 6 1) 1431655765)) 2) 858993459)) 4)) 252645135) + (ck_ush (ck_and (((ck_and (6 - (ck_and (ck_ush 6 1) 1431655765)) 858993459) + (ck_and (ck_ush (6 - (ck_and (ck_ush 6 1) 1431655765)) 2) 858993459)) + (ck_ush ((ck_and (6 - (ck_and (ck_ush 6 1) 1431655765)) 858993459) + (ck_and (ck_ush (6 - (ck_and (ck_ush 6 1) 1431655765)) 2) 858993459)) 4)) 252645135) 8)) + (ck_ush ((ck_and (((ck_and (6 - (ck_and (ck_ush 6 1) 1431655765)) 858993459) + (ck_and (ck_ush (6 - (ck_and (ck_ush 6 1) 1431655765)) 2) 858993459)) + (ck_ush ((ck_and (6 - (ck_and (ck_ush 6 1) 1431655765)) 858993459) + (ck_and (ck_ush (6 - (ck_and (ck_ush 6 1) 1431655765)) 2) 858993459)) 4)) 252645135) + (ck_ush (ck_and (((ck_and (6 - (ck_and (ck_ush 6 1) 1431655765)) 858993459) + (ck_and (ck_ush (6 - (ck_and (ck_ush 6 1) 1431655765)) 2) 858993459)) + (ck_ush ((ck_and (6 - (ck_and (ck_ush 6 1) 1431655765)) 858993459) + (ck_and (ck_ush (6 - (ck_and (ck_ush 6 1) 1431655765)) 2) 858993459)) 4)) 252645135) 8)) 16)))], [.inl (ck_and (((ck_and (((ck_and (6 - (ck_and (ck_ush 6 1) 1431655765)) 858993459) + (ck_and (ck_ush (6 - (ck_and (ck_ush 6 1) 1431655765)) 2) 858993459)) + (ck_ush ((ck_and (6 - (ck_and (ck_ush 6 1) 1431655765)) 858993459) + (ck_and (ck_ush (6 - (ck_and (ck_ush 6 1) 1431655765)) 2) 858993459)) 4)) 252645135) + (ck_ush (ck_and (((ck_and (6 - (ck_and (ck_ush 6 1) 1431655765)) 858993459) + (ck_and (ck_ush (6 - (ck_and (ck_ush 6 1) 1431655765)) 2) 858993459)) + (ck_ush ((ck_and (6 - (ck_and (ck_ush 6 1) 1431655765)) 858993459) + (ck_and (ck_ush (6 - (ck_and (ck_ush 6 1) 1431655765)) 2) 858993459)) 4)) 252645135) 8)) + (ck_ush ((ck_and (((ck_and (6 - (ck_and (ck_ush 6 1) 1431655765)) 858993459) + (ck_and (ck_ush (6 - (ck_and (ck_ush 6 1) 1431655765)) 2) 858993459)) + (ck_ush ((ck_and (6 - (ck_and (ck_ush 6 1) 1431655765)) 858993459) + (ck_and (ck_ush (6 - (ck_and (ck_ush 6 1) 1431655765)) 2) 858993459)) 4)) 252645135) + (ck_ush (ck_and (((ck_and (6 - (ck_and (ck_ush 6 1) 1431655765)) 858993459) + (ck_and (ck_ush (6 - (ck_and (ck_ush 6 1) 1431655765)) 2) 858993459)) + (ck_ush ((ck_and (6 - (ck_and (ck_ush 6 1) 1431655765)) 858993459) + (ck_and (ck_ush (6 - (ck_and (ck_ush 6 1) 1431655765)) 2) 858993459)) 4)) 252645135) 8)) 16)) 63)], σ)) (ps := []) rfl trivial ?_
  exact ck_eI ⟨by decide +kernel, rfl⟩ rfl rfl rfl
theorem cx_bitCount7 (σ : ck_M) : ck_cal 1 cm_Ji_bitCount [.inl 7] σ (fun q σ' => q = some (ck_bc 7) ∧ σ' = σ) := by
  refine ck_cal_of ?_
  refine ck_go_run 41 (X1 := (52, [some (.inl (((ck_and (((ck_and (7 - (ck_and (ck_ush 7 1) 1431655765)) 858993459) + (ck_and (ck_ush (7 - (ck_and (ck_ush 7 1) 1431655765)) 2) 858993459)) + (ck_ush ((ck_and (7 - (ck_and (ck_ush 7 1) 1431655765)) 858993459) + (ck_and (ck_ush (7 - (ck_and (ck_ush 7 1) 1431655765)) 2) 858993459)) 4)) 252645135) + (ck_ush (ck_and (((ck_and (7 - (ck_and (ck_ush 7 1) 1431655765)) 858993459) + (ck_and (ck_ush (7 - (ck_and (ck_ush 7 1) 1431655765)) 2) 858993459)) + (ck_ush ((ck_and (7 - (ck_and (ck_ush 7 1) 1431655765)) 858993459) + (ck_and (ck_ush (7 - (ck_and (ck_ush 7 1) 1431655765)) 2) 858993459)) 4)) 252645135) 8)) + (ck_ush ((ck_and (((ck_and (7 - (ck_and (ck_ush 7 1) 1431655765)) 858993459) + (ck_and (ck_ush (7 - (ck_and (ck_ush 7 1) 1431655765)) 2) 858993459)) + (ck_ush ((ck_and (7 - (ck_and (ck_ush 7 1) 1431655765)) 858993459) + (ck_and (ck_ush (7 - (ck_and (ck_ush 7 1) 1431655765)) 2) 858993459)) 4)) 252645135) + (ck_ush (ck_and (((ck_and (7 - (ck_and (ck_ush 7 1) 1431655765)) 858993459) + (ck_and (ck_ush (7 - (ck_and (ck_ush 7 1) 1431655765)) 2) 858993459)) + (ck_ush ((ck_and (7 - (ck_and (ck_ush 7 1) 1431655765)) 858993459) + (ck_and (ck_ush (7 - (ck_and (ck_ush 7 1) 1431655765)) 2) 858993459)) 4)) 252645135) 8)) 16)))], [.inl (ck_and (((ck_and (((ck_and (7 - (ck_and (ck_ush 7 1) 1431655765)) 858993459) + (ck_and (ck_ush (7 - (ck_and (ck_ush 7 1) 1431655765)) 2) 858993459)) + (ck_ush ((ck_and (7 - (ck_and (ck_ush 7 1) 1431655765)) 858993459) + (ck_and (ck_ush (7 - (ck_and (ck_ush 7 1) 1431655765)) 2) 858993459)) 4)) 252645135) + (ck_ush (ck_and (((ck_and (7 - (ck_and (ck_ush 7 1) 1431655765)) 858993459) + (ck_and (ck_ush (7 - (ck_and (ck_ush 7 1) 1431655765)) 2) 858993459)) + (ck_ush ((ck_and (7 - (ck_and (ck_ush 7 1) 1431655765)) 858993459) + (ck_and (ck_ush (7 - (ck_and (ck_ush 7 1) 1431655765)) 2) 858993459)) 4)) 252645135) 8)) + (ck_ush ((ck_and (((ck_and (7 - (ck_and (ck_ush 7 1) 1431655765)) 858993459) + (ck_and (ck_ush (7 - (ck_and (ck_ush 7 1) 1431655765)) 2) 858993459)) + (ck_ush ((ck_and (7 - (ck_and (ck_ush 7 1) 1431655765)) 858993459) + (ck_and (ck_ush (7 - (ck_and (ck_ush 7 1) 1431655765)) 2) 858993459)) 4)) 252645135) + (ck_ush (ck_and (((ck_and (7 - (ck_and (ck_ush 7 1) 1431655765)) 858993459) + (ck_and (ck_ush (7 - (ck_and (ck_ush 7 1) 1431655765)) 2) 858993459)) + (ck_ush ((ck_and (7 - (ck_and (ck_ush 7 1) 1431655765)) 858993459) + (ck_and (ck_ush (7 - (ck_and (ck_ush 7 1) 1431655765)) 2) 858993459)) 4)) 252645135) 8)) 16)) 63)], σ)) (ps := []) rfl trivial ?_
  exact ck_eI ⟨by decide +kernel, rfl⟩ rfl rfl rfl
theorem cx_bitCount {x : Int} (h : 0 ≤ x ∧ x ≤ 7) (σ : ck_M) : ck_cal 1 cm_Ji_bitCount [.inl x] σ (fun q σ' => q = some (ck_bc x) ∧ σ' = σ) := by
  have h2 : x = 0 ∨ x = 1 ∨ x = 2 ∨ x = 3 ∨ x = 4 ∨ x = 5 ∨ x = 6 ∨ x = 7 := by omega
  rcases h2 with rfl | rfl | rfl | rfl | rfl | rfl | rfl | rfl
  · exact cx_bitCount0 σ
  · exact cx_bitCount1 σ
  · exact cx_bitCount2 σ
  · exact cx_bitCount3 σ
  · exact cx_bitCount4 σ
  · exact cx_bitCount5 σ
  · exact cx_bitCount6 σ
  · exact cx_bitCount7 σ
/-- f 0 + .. + f (n - 1) -/
def ck_sum0 (f : Int → Int) : Nat → Int
  | 0 => 0
  | n + 1 => ck_sum0 f n + f n
theorem cx_countNeedless {n : Int} (hn : 0 ≤ n ∧ n ≤ 64) {σ : ck_M} (hN : σ 5 10 = n) (hC : ∀ k, 0 ≤ k → k < n → 0 ≤ σ 17 k ∧ σ 17 k ≤ 7) : ck_cal 2 cm_Fi_countNeedless [.inr (4, 3, 1)] σ (fun q σ' => q = some (ck_sum0 (fun k => ck_bc (σ 17 k)) n.toNat) ∧ σ' = σ) := by
  refine ck_cal_of ?_
  refine ck_go_run 4 (X1 := (4, [some (.inr (4, 3, 1)), some (.inl 0), some (.inl 0)], [], σ)) (ps := []) rfl trivial ?_
  refine ck_forI 4 (fun v a => [some (.inr (4, 3, 1)), some (.inl a), some (.inl v)]) n (fun v a s => (0 ≤ v ∧ v ≤ n) ∧ s = σ ∧ a = ck_sum0 (fun k => ck_bc (σ 17 k)) v.toNat) (fun v a s hv hI kk => ?_) (fun v a s hv hI => ?_) 0 0 _ ⟨⟨by omega, by omega⟩, rfl, rfl⟩
  · obtain ⟨⟨h0, h4⟩, hs, ha⟩ := hI
    have eN : s 5 10 = n := by rw [hs, hN]
    refine ck_go_run 5 (X1 := (if v < s 5 10 then 15 else 33, [some (.inr (4, 3, 1)), some (.inl a), some (.inl v)], [], s)) (ps := [ck_rg v, ck_rg (s 5 10)]) rfl ⟨(ck_rgo (by omega) (by omega)), (ck_rgo (by omega) (by omega)), trivial⟩ ?_
    refine ck_go_t (by omega) ?_
    refine ck_go_run 5 (X1 := (22, [some (.inr (4, 3, 1)), some (.inl a), some (.inl v)], [.inl (s 17 v), .inl a], s)) (ps := [0 ≤ v ∧ v < ((64 : Nat) : Int)]) rfl ⟨⟨by omega, by omega⟩, trivial⟩ ?_
    refine ck_go_cal (rest := [.inl a]) (ck_cal_le (by decide) (cx_bitCount (x := s 17 v) (by have := hC v h0 (by omega); rw [hs]; omega) _)) ⟨_, rfl, Or.inr ⟨_, rfl⟩, rfl, rfl, rfl, Nat.le_of_ble_eq_true rfl, fun h => absurd h (by decide)⟩ ?_
    rintro _ s' ⟨rfl, e'⟩
    rw [e']
    clear e' s'
    refine ck_go_run 4 (X1 := (4, [some (.inr (4, 3, 1)), some (.inl (a + (ck_bc (s 17 v)))), some (.inl (v + 1))], [], s)) (ps := []) rfl trivial ?_
    exact kk (a + (ck_bc (s 17 v))) _ ⟨⟨by omega, by omega⟩, hs, by
      have e1 : (v + 1).toNat = v.toNat + 1 := by omega
      rw [e1, ck_sum0, ha, hs, Int.toNat_of_nonneg h0]⟩
  · obtain ⟨⟨h0, h4⟩, hs, ha⟩ := hI
    have eN : s 5 10 = n := by rw [hs, hN]
    refine ck_go_run 5 (X1 := (if v < s 5 10 then 15 else 33, [some (.inr (4, 3, 1)), some (.inl a), some (.inl v)], [], s)) (ps := [ck_rg v, ck_rg (s 5 10)]) rfl ⟨(ck_rgo (by omega) (by omega)), (ck_rgo (by omega) (by omega)), trivial⟩ ?_
    refine ck_go_f (by omega) ?_
    refine ck_go_run 1 (X1 := (34, [some (.inr (4, 3, 1)), some (.inl a), some (.inl v)], [.inl a], s)) (ps := []) rfl trivial ?_
    obtain rfl : v = n := by omega
    exact ck_eI ⟨by rw [ha], hs⟩ rfl rfl rfl
/-- what is due behind a move before statement k -/
def ck_du (σ : ck_M) (k j : Int) : Prop := j = k + 1 ∨ ((σ 6 k = 9 ∨ σ 6 k = 12) ∧ (j = σ 12 k + 1 ∨ (σ 11 k ≠ -1 ∧ j = σ 11 k + 1))) ∨ (σ 6 k = 11 ∧ σ 6 (σ 10 k) = 12 ∧ j = σ 10 k)
set_option maxHeartbeats 8000000 in
theorem cx_passOn {k : Int} (hk : 0 ≤ k ∧ k < 64) {σ : ck_M} (hS : 0 ≤ σ 6 k ∧ σ 6 k ≤ 13) (hE : σ 6 k = 9 ∨ σ 6 k = 12 → (0 ≤ σ 12 k ∧ σ 12 k < 64) ∧ (-1 ≤ σ 11 k ∧ σ 11 k < 64)) (hH : σ 6 k = 11 → (0 ≤ σ 10 k ∧ σ 10 k < 64) ∧ 0 ≤ σ 6 (σ 10 k) ∧ σ 6 (σ 10 k) ≤ 13) : ck_cal 1 cm_Fi_passOn [.inr (4, 3, 1), .inl k] σ (fun q σ' => q = some (if σ 6 k = 11 ∧ σ 6 (σ 10 k) = 12 then σ 10 k else k + 1) ∧ (∀ b j, b ≠ 19 → σ' b j = σ b j) ∧ ∀ j, (ck_du σ k j → σ' 19 j = 1) ∧ (¬ ck_du σ k j → σ' 19 j = σ 19 j)) := by
  refine ck_cal_of ?_
  refine ck_go_run 16 (X1 := (if σ 6 k = 9 then 31 else 25, [some (.inr (4, 3, 1)), some (.inl k), some (.inl (σ 6 k))], [], ck_up σ 19 (k + 1) 1)) (ps := [0 ≤ k + 1 ∧ k + 1 < ((65 : Nat) : Int), 1 = 0 ∨ 1 = 1, 0 ≤ k ∧ k < ((64 : Nat) : Int), ck_rg (σ 6 k), ck_rg 9]) rfl ⟨⟨by omega, by omega⟩, Or.inr rfl, ⟨by omega, by omega⟩, (ck_rgo (by omega) (by omega)), (ck_rgo (by omega) (by omega)), trivial⟩ ?_
  refine ck_go_ite (fun h1 => ?_) (fun h1 => ?_)
  · refine ck_go_run 18 (X1 := (if σ 11 k = (-1) then 78 else 61, [some (.inr (4, 3, 1)), some (.inl k), some (.inl (σ 6 k))], [], ck_up (ck_up σ 19 (k + 1) 1) 19 ((σ 12 k) + 1) 1)) (ps := [0 ≤ k ∧ k < ((64 : Nat) : Int), 0 ≤ (σ 12 k) + 1 ∧ (σ 12 k) + 1 < ((65 : Nat) : Int), 1 = 0 ∨ 1 = 1, 0 ≤ k ∧ k < ((64 : Nat) : Int), ck_rg (σ 11 k), ck_rg ((-1))]) rfl ⟨⟨by omega, by omega⟩, ⟨by omega, by omega⟩, Or.inr rfl, ⟨by omega, by omega⟩, (ck_rgo (by omega) (by omega)), (ck_rgo (by omega) (by omega)), trivial⟩ ?_
    refine ck_go_ite (fun h2 => ?_) (fun h2 => ?_)
    · refine ck_go_run 3 (X1 := (if σ 6 k = 11 then 84 else 131, [some (.inr (4, 3, 1)), some (.inl k), some (.inl (σ 6 k))], [], ck_up (ck_up σ 19 (k + 1) 1) 19 ((σ 12 k) + 1) 1)) (ps := [ck_rg (σ 6 k), ck_rg 11]) rfl ⟨(ck_rgo (by omega) (by omega)), (ck_rgo (by omega) (by omega)), trivial⟩ ?_
      refine ck_go_f (by omega) ?_
      refine ck_go_run 3 (X1 := (134, [some (.inr (4, 3, 1)), some (.inl k), some (.inl (σ 6 k))], [.inl (k + 1)], ck_up (ck_up σ 19 (k + 1) 1) 19 ((σ 12 k) + 1) 1)) (ps := []) rfl trivial ?_
      refine ck_eI ⟨?_, ?_, fun j => ⟨fun hd => ?_, fun hd => ?_⟩⟩ rfl rfl rfl
      · first | rw [if_pos (by omega)] | rw [if_neg (by omega)]
      · intro b j hb
        simp only [ck_up]
        (repeat' split) <;> first | rfl | omega
      · unfold ck_du at hd
        simp only [ck_up, true_and]
        (repeat' split) <;> first | rfl | omega
      · unfold ck_du at hd
        simp only [ck_up, true_and]
        (repeat' split) <;> first | rfl | omega
    · refine ck_go_run 14 (X1 := (if σ 6 k = 11 then 84 else 131, [some (.inr (4, 3, 1)), some (.inl k), some (.inl (σ 6 k))], [], ck_up (ck_up (ck_up σ 19 (k + 1) 1) 19 ((σ 12 k) + 1) 1) 19 ((σ 11 k) + 1) 1)) (ps := [0 ≤ k ∧ k < ((64 : Nat) : Int), 0 ≤ (σ 11 k) + 1 ∧ (σ 11 k) + 1 < ((65 : Nat) : Int), 1 = 0 ∨ 1 = 1, ck_rg (σ 6 k), ck_rg 11]) rfl ⟨⟨by omega, by omega⟩, ⟨by omega, by omega⟩, Or.inr rfl, (ck_rgo (by omega) (by omega)), (ck_rgo (by omega) (by omega)), trivial⟩ ?_
      refine ck_go_f (by omega) ?_
      refine ck_go_run 3 (X1 := (134, [some (.inr (4, 3, 1)), some (.inl k), some (.inl (σ 6 k))], [.inl (k + 1)], ck_up (ck_up (ck_up σ 19 (k + 1) 1) 19 ((σ 12 k) + 1) 1) 19 ((σ 11 k) + 1) 1)) (ps := []) rfl trivial ?_
      refine ck_eI ⟨?_, ?_, fun j => ⟨fun hd => ?_, fun hd => ?_⟩⟩ rfl rfl rfl
      · first | rw [if_pos (by omega)] | rw [if_neg (by omega)]
      · intro b j hb
        simp only [ck_up]
        (repeat' split) <;> first | rfl | omega
      · unfold ck_du at hd
        simp only [ck_up, true_and]
        (repeat' split) <;> first | rfl | omega
      · unfold ck_du at hd
        simp only [ck_up, true_and]
        (repeat' split) <;> first | rfl | omega
  · refine ck_go_run 3 (X1 := (if σ 6 k = 12 then 31 else 78, [some (.inr (4, 3, 1)), some (.inl k), some (.inl (σ 6 k))], [], ck_up σ 19 (k + 1) 1)) (ps := [ck_rg (σ 6 k), ck_rg 12]) rfl ⟨(ck_rgo (by omega) (by omega)), (ck_rgo (by omega) (by omega)), trivial⟩ ?_
    refine ck_go_ite (fun h3 => ?_) (fun h3 => ?_)
    · refine ck_go_run 18 (X1 := (if σ 11 k = (-1) then 78 else 61, [some (.inr (4, 3, 1)), some (.inl k), some (.inl (σ 6 k))], [], ck_up (ck_up σ 19 (k + 1) 1) 19 ((σ 12 k) + 1) 1)) (ps := [0 ≤ k ∧ k < ((64 : Nat) : Int), 0 ≤ (σ 12 k) + 1 ∧ (σ 12 k) + 1 < ((65 : Nat) : Int), 1 = 0 ∨ 1 = 1, 0 ≤ k ∧ k < ((64 : Nat) : Int), ck_rg (σ 11 k), ck_rg ((-1))]) rfl ⟨⟨by omega, by omega⟩, ⟨by omega, by omega⟩, Or.inr rfl, ⟨by omega, by omega⟩, (ck_rgo (by omega) (by omega)), (ck_rgo (by omega) (by omega)), trivial⟩ ?_
      refine ck_go_ite (fun h4 => ?_) (fun h4 => ?_)
      · refine ck_go_run 3 (X1 := (if σ 6 k = 11 then 84 else 131, [some (.inr (4, 3, 1)), some (.inl k), some (.inl (σ 6 k))], [], ck_up (ck_up σ 19 (k + 1) 1) 19 ((σ 12 k) + 1) 1)) (ps := [ck_rg (σ 6 k), ck_rg 11]) rfl ⟨(ck_rgo (by omega) (by omega)), (ck_rgo (by omega) (by omega)), trivial⟩ ?_
        refine ck_go_f (by omega) ?_
        refine ck_go_run 3 (X1 := (134, [some (.inr (4, 3, 1)), some (.inl k), some (.inl (σ 6 k))], [.inl (k + 1)], ck_up (ck_up σ 19 (k + 1) 1) 19 ((σ 12 k) + 1) 1)) (ps := []) rfl trivial ?_
        refine ck_eI ⟨?_, ?_, fun j => ⟨fun hd => ?_, fun hd => ?_⟩⟩ rfl rfl rfl
        · first | rw [if_pos (by omega)] | rw [if_neg (by omega)]
        · intro b j hb
          simp only [ck_up]
          (repeat' split) <;> first | rfl | omega
        · unfold ck_du at hd
          simp only [ck_up, true_and]
          (repeat' split) <;> first | rfl | omega
        · unfold ck_du at hd
          simp only [ck_up, true_and]
          (repeat' split) <;> first | rfl | omega
      · refine ck_go_run 14 (X1 := (if σ 6 k = 11 then 84 else 131, [some (.inr (4, 3, 1)), some (.inl k), some (.inl (σ 6 k))], [], ck_up (ck_up (ck_up σ 19 (k + 1) 1) 19 ((σ 12 k) + 1) 1) 19 ((σ 11 k) + 1) 1)) (ps := [0 ≤ k ∧ k < ((64 : Nat) : Int), 0 ≤ (σ 11 k) + 1 ∧ (σ 11 k) + 1 < ((65 : Nat) : Int), 1 = 0 ∨ 1 = 1, ck_rg (σ 6 k), ck_rg 11]) rfl ⟨⟨by omega, by omega⟩, ⟨by omega, by omega⟩, Or.inr rfl, (ck_rgo (by omega) (by omega)), (ck_rgo (by omega) (by omega)), trivial⟩ ?_
        refine ck_go_f (by omega) ?_
        refine ck_go_run 3 (X1 := (134, [some (.inr (4, 3, 1)), some (.inl k), some (.inl (σ 6 k))], [.inl (k + 1)], ck_up (ck_up (ck_up σ 19 (k + 1) 1) 19 ((σ 12 k) + 1) 1) 19 ((σ 11 k) + 1) 1)) (ps := []) rfl trivial ?_
        refine ck_eI ⟨?_, ?_, fun j => ⟨fun hd => ?_, fun hd => ?_⟩⟩ rfl rfl rfl
        · first | rw [if_pos (by omega)] | rw [if_neg (by omega)]
        · intro b j hb
          simp only [ck_up]
          (repeat' split) <;> first | rfl | omega
        · unfold ck_du at hd
          simp only [ck_up, true_and]
          (repeat' split) <;> first | rfl | omega
        · unfold ck_du at hd
          simp only [ck_up, true_and]
          (repeat' split) <;> first | rfl | omega
    · refine ck_go_run 3 (X1 := (if σ 6 k = 11 then 84 else 131, [some (.inr (4, 3, 1)), some (.inl k), some (.inl (σ 6 k))], [], ck_up σ 19 (k + 1) 1)) (ps := [ck_rg (σ 6 k), ck_rg 11]) rfl ⟨(ck_rgo (by omega) (by omega)), (ck_rgo (by omega) (by omega)), trivial⟩ ?_
      refine ck_go_ite (fun h5 => ?_) (fun h5 => ?_)
      · refine ck_go_run 11 (X1 := (if σ 6 (σ 10 k) = 12 then 106 else 131, [some (.inr (4, 3, 1)), some (.inl k), some (.inl (σ 6 k))], [], ck_up σ 19 (k + 1) 1)) (ps := [0 ≤ k ∧ k < ((64 : Nat) : Int), 0 ≤ σ 10 k ∧ σ 10 k < ((64 : Nat) : Int), ck_rg (σ 6 (σ 10 k)), ck_rg 12]) rfl ⟨⟨by omega, by omega⟩, ⟨by omega, by omega⟩, (ck_rgo (by omega) (by omega)), (ck_rgo (by omega) (by omega)), trivial⟩ ?_
        refine ck_go_ite (fun h6 => ?_) (fun h6 => ?_)
        · refine ck_go_run 14 (X1 := (130, [some (.inr (4, 3, 1)), some (.inl k), some (.inl (σ 6 k))], [.inl (σ 10 k)], ck_up (ck_up σ 19 (k + 1) 1) 19 (σ 10 k) 1)) (ps := [0 ≤ k ∧ k < ((64 : Nat) : Int), 0 ≤ σ 10 k ∧ σ 10 k < ((65 : Nat) : Int), 1 = 0 ∨ 1 = 1, 0 ≤ k ∧ k < ((64 : Nat) : Int)]) rfl ⟨⟨by omega, by omega⟩, ⟨by omega, by omega⟩, Or.inr rfl, ⟨by omega, by omega⟩, trivial⟩ ?_
          refine ck_eI ⟨?_, ?_, fun j => ⟨fun hd => ?_, fun hd => ?_⟩⟩ rfl rfl rfl
          · first | rw [if_pos (by omega)] | rw [if_neg (by omega)]
          · intro b j hb
            simp only [ck_up]
            (repeat' split) <;> first | rfl | omega
          · unfold ck_du at hd
            simp only [ck_up, true_and]
            (repeat' split) <;> first | rfl | omega
          · unfold ck_du at hd
            simp only [ck_up, true_and]
            (repeat' split) <;> first | rfl | omega
        · refine ck_go_run 3 (X1 := (134, [some (.inr (4, 3, 1)), some (.inl k), some (.inl (σ 6 k))], [.inl (k + 1)], ck_up σ 19 (k + 1) 1)) (ps := []) rfl trivial ?_
          refine ck_eI ⟨?_, ?_, fun j => ⟨fun hd => ?_, fun hd => ?_⟩⟩ rfl rfl rfl
          · first | rw [if_pos (by omega)] | rw [if_neg (by omega)]
          · intro b j hb
            simp only [ck_up]
            (repeat' split) <;> first | rfl | omega
          · unfold ck_du at hd
            simp only [ck_up, true_and]
            (repeat' split) <;> first | rfl | omega
          · unfold ck_du at hd
            simp only [ck_up, true_and]
            (repeat' split) <;> first | rfl | omega
      · refine ck_go_run 3 (X1 := (134, [some (.inr (4, 3, 1)), some (.inl k), some (.inl (σ 6 k))], [.inl (k + 1)], ck_up σ 19 (k + 1) 1)) (ps := []) rfl trivial ?_
        refine ck_eI ⟨?_, ?_, fun j => ⟨fun hd => ?_, fun hd => ?_⟩⟩ rfl rfl rfl
        · first | rw [if_pos (by omega)] | rw [if_neg (by omega)]
        · intro b j hb
          simp only [ck_up]
          (repeat' split) <;> first | rfl | omega
        · unfold ck_du at hd
          simp only [ck_up, true_and]
          (repeat' split) <;> first | rfl | omega
        · unfold ck_du at hd
          simp only [ck_up, true_and]
          (repeat' split) <;> first | rfl | omega
end
section
/-! ## Looser: the same values, lower leasts, higher highests, less that is there -/
def co_le (f g : ck_D) : Prop := ck_kn f = ck_kn g ∧ ck_va f = ck_va g ∧ ck_sz f = ck_sz g ∧ (∀ n, ck_lo g n ≤ ck_lo f n) ∧ (∀ n r, ck_hi f n r ≤ ck_hi g n r) ∧ ∀ r, ck_th f r = 0 → ck_th g r = 0
theorem co_le_rfl (f : ck_D) : co_le f f := ⟨rfl, rfl, rfl, fun _ => Int.le_refl _, fun _ _ => Int.le_refl _, fun _ h => h⟩
theorem co_le_tr {f g h : ck_D} (a : co_le f g) (b : co_le g h) : co_le f h := ⟨a.1.trans b.1, a.2.1.trans b.2.1, a.2.2.1.trans b.2.2.1, fun n => Int.le_trans (b.2.2.2.1 n) (a.2.2.2.1 n), fun n r => Int.le_trans (a.2.2.2.2.1 n r) (b.2.2.2.2.1 n r), fun r q => b.2.2.2.2.2 r (a.2.2.2.2.2 r q)⟩
theorem co_le_N {k l v z t k' l' v' z' t' : Int → Int} {h h' : Int → Int → Int} (e1 : ∀ n, 0 ≤ n → n < 10 → k n = k' n) (e2 : ∀ n, 0 ≤ n → n < 10 → l' n ≤ l n) (e3 : ∀ n r, 0 ≤ n → n < 10 → 0 ≤ r → r < 4 → h n r ≤ h' n r) (e4 : ∀ r, 0 ≤ r → r < 4 → v r = v' r) (e5 : ∀ r, 0 ≤ r → r < 4 → z r = z' r) (e6 : ∀ r, 0 ≤ r → r < 4 → t r = 0 → t' r = 0) : co_le (ck_N k l h v z t) (ck_N k' l' h' v' z' t') := by
  unfold ck_N
  refine ⟨?_, ?_, ?_, fun n => ?_, fun n r => ?_, fun r => ?_⟩
  · funext n
    show (if _ then _ else _) = (if _ then _ else _)
    by_cases hn : 0 ≤ n ∧ n < 10
    · rw [if_pos hn, if_pos hn]; exact e1 n hn.1 hn.2
    · rw [if_neg hn, if_neg hn]
  · funext n
    show (if _ then _ else _) = (if _ then _ else _)
    by_cases hn : 0 ≤ n ∧ n < 4
    · rw [if_pos hn, if_pos hn]; exact e4 n hn.1 hn.2
    · rw [if_neg hn, if_neg hn]
  · funext n
    show (if _ then _ else _) = (if _ then _ else _)
    by_cases hn : 0 ≤ n ∧ n < 4
    · rw [if_pos hn, if_pos hn]; exact e5 n hn.1 hn.2
    · rw [if_neg hn, if_neg hn]
  · show (if _ then _ else _) ≤ (if _ then _ else _)
    by_cases hn : 0 ≤ n ∧ n < 10
    · rw [if_pos hn, if_pos hn]; exact e2 n hn.1 hn.2
    · rw [if_neg hn, if_neg hn]; exact Int.le_refl _
  · show (if _ then _ else _) ≤ (if _ then _ else _)
    by_cases hn : (0 ≤ n ∧ n < 10) ∧ 0 ≤ r ∧ r < 4
    · rw [if_pos hn, if_pos hn]; exact e3 n r hn.1.1 hn.1.2 hn.2.1 hn.2.2
    · rw [if_neg hn, if_neg hn]; exact Int.le_refl _
  · show (if _ then _ else _) = _ → (if _ then _ else _) = _
    by_cases hn : 0 ≤ r ∧ r < 4
    · rw [if_pos hn, if_pos hn]; exact e6 r hn.1 hn.2
    · rw [if_neg hn, if_neg hn]; exact fun h => h
theorem ck_bL_mono {a b : Int} (h : a ≤ b) : ck_bL a ≤ ck_bL b := by unfold ck_bL; split <;> split <;> omega
theorem ck_bH_mono {a b : Int} (h : a ≤ b) : ck_bH a ≤ ck_bH b := by unfold ck_bH; split <;> split <;> omega
theorem ck_mx_mono {a b c d : Int} (h : a ≤ b) (h2 : c ≤ d) : ck_mx a c ≤ ck_mx b d := by unfold ck_mx; split <;> split <;> omega
theorem ck_mn_mono {a b c d : Int} (h : a ≤ b) (h2 : c ≤ d) : ck_mn a c ≤ ck_mn b d := by unfold ck_mn; split <;> split <;> omega
section CKO
variable {f g : ck_D}
theorem ck_hoc_le (h : co_le f g) (v r : Int) : ck_hoc f v r = ck_hoc g v r := by
  unfold ck_hoc
  rw [h.2.1, h.2.2.1]
theorem co_le_dSet (h : co_le f g) (x k : Int) : co_le (ck_dSet x k f) (ck_dSet x k g) := by
  have e := ck_hoc_le h
  obtain ⟨hk, hv, hz, hl, hh, ht⟩ := h
  refine co_le_N (fun n _ _ => ?_) (fun n _ _ => ?_) (fun n q _ _ _ _ => ?_) (fun q _ _ => ?_) (fun q _ _ => ?_) (fun q _ _ => ?_)
  · rw [hk]
  · split
    · exact Int.le_refl _
    · exact hl n
  · split
    · rw [e]; exact Int.le_refl _
    · exact hh n q
  · rw [hv]
  · rw [hz]
  · exact ht q
theorem co_le_dSum (h : co_le f g) (x y z : Int) : co_le (ck_dSum x y z f) (ck_dSum x y z g) := by
  obtain ⟨hk, hv, hz, hl, hh, ht⟩ := h
  refine co_le_N (fun n _ _ => ?_) (fun n _ _ => ?_) (fun n q _ _ _ _ => ?_) (fun q _ _ => ?_) (fun q _ _ => ?_) (fun q _ _ => ?_)
  · rw [hk]
  · split
    · exact ck_bL_mono (Int.add_le_add_right (hl y) z)
    · exact hl n
  · split
    · exact ck_bH_mono (Int.add_le_add_right (hh y q) z)
    · exact hh n q
  · rw [hv]
  · rw [hz]
  · exact ht q
theorem co_le_dAny (h : co_le f g) (x : Int) : co_le (ck_dAny x f) (ck_dAny x g) := by
  obtain ⟨hk, hv, hz, hl, hh, ht⟩ := h
  refine co_le_N (fun n _ _ => ?_) (fun n _ _ => ?_) (fun n q _ _ _ _ => ?_) (fun q _ _ => ?_) (fun q _ _ => ?_) (fun q _ _ => ?_)
  · rw [hk]
  · split
    · exact Int.le_refl _
    · exact hl n
  · split
    · exact Int.le_refl _
    · exact hh n q
  · rw [hv]
  · rw [hz]
  · exact ht q
theorem co_le_dLen (h : co_le f g) (x a : Int) : co_le (ck_dLen x a f) (ck_dLen x a g) := by
  obtain ⟨hk, hv, hz, hl, hh, ht⟩ := h
  refine co_le_N (fun n _ _ => ?_) (fun n _ _ => ?_) (fun n q _ _ _ _ => ?_) (fun q _ _ => ?_) (fun q _ _ => ?_) (fun q _ _ => ?_)
  · rw [hk]
  · split
    · exact Int.le_refl _
    · exact hl n
  · rw [hv]
    split
    · exact Int.le_refl _
    · exact hh n q
  · rw [hv]
  · rw [hz]
  · rw [hv]
    split
    · exact fun h => h
    · exact ht q
theorem co_le_dUse (h : co_le f g) (a m : Int) : co_le (ck_dUse a m f) (ck_dUse a m g) := by
  obtain ⟨hk, hv, hz, hl, hh, ht⟩ := h
  refine co_le_N (fun n _ _ => ?_) (fun n _ _ => ?_) (fun n q _ _ _ _ => ?_) (fun q _ _ => ?_) (fun q _ _ => ?_) (fun q _ _ => ?_)
  · rw [hk]
  · split
    · exact ck_mx_mono (hl m) (Int.le_refl _)
    · exact hl n
  · rw [hv]
    split
    · split
      · exact ck_mn_mono (hh m q) (Int.le_refl _)
      · exact hh m q
    · exact hh n q
  · rw [hv]
  · rw [hz]
  · rw [hv]
    split
    · exact fun h => h
    · exact ht q
theorem co_le_dNew (h : co_le f g) (a y k : Int) : co_le (ck_dNew a y k f) (ck_dNew a y k g) := by
  obtain ⟨hk, hv, hz, hl, hh, ht⟩ := h
  refine co_le_N (fun n _ _ => ?_) (fun n _ _ => ?_) (fun n q _ _ _ _ => ?_) (fun q _ _ => ?_) (fun q _ _ => ?_) (fun q _ _ => ?_)
  · rw [hk]
  · split
    · exact ck_mx_mono (hl y) (Int.le_refl _)
    · exact hl n
  · rw [hk]
    split
    · exact Int.le_refl _
    · exact hh n q
  · rw [hv]
  · rw [hz, hk]
  · split
    · exact fun h => h
    · exact ht q
theorem co_le_dNull (h : co_le f g) (a : Int) : co_le (ck_dNull a f) (ck_dNull a g) := by
  obtain ⟨hk, hv, hz, hl, hh, ht⟩ := h
  refine co_le_N (fun n _ _ => ?_) (fun n _ _ => ?_) (fun n q _ _ _ _ => ?_) (fun q _ _ => ?_) (fun q _ _ => ?_) (fun q _ _ => ?_)
  · rw [hk]
  · exact hl n
  · split
    · exact Int.le_refl _
    · exact hh n q
  · rw [hv]
  · rw [hz]
  · split
    · exact fun h => h
    · exact ht q
theorem co_le_dLet (h : co_le f g) (a e : Int) : co_le (ck_dLet a e f) (ck_dLet a e g) := by
  obtain ⟨hk, hv, hz, hl, hh, ht⟩ := h
  refine co_le_N (fun n _ _ => ?_) (fun n _ _ => ?_) (fun n q _ _ _ _ => ?_) (fun q _ _ => ?_) (fun q _ _ => ?_) (fun q _ _ => ?_)
  · rw [hk]
  · exact hl n
  · split
    · exact hh n e
    · exact hh n q
  · rw [hv]
  · rw [hz]
  · split
    · exact ht e
    · exact ht q
theorem co_le_dBel (h : co_le f g) (x y z : Int) : co_le (ck_dBel x y z f) (ck_dBel x y z g) := by
  have e := ck_hoc_le h
  obtain ⟨hk, hv, hz, hl, hh, ht⟩ := h
  refine co_le_N (fun n _ _ => ?_) (fun n _ _ => ?_) (fun n q _ _ _ _ => ?_) (fun q _ _ => ?_) (fun q _ _ => ?_) (fun q _ _ => ?_)
  · rw [hk]
  · split
    · exact ck_mx_mono (hl y) (ck_bL_mono (by have := hl x; omega))
    · exact hl n
  · rw [e]
    split
    · refine ck_mn_mono (hh x q) (ck_bH_mono ?_)
      have := hh y q
      split <;> omega
    · exact hh n q
  · rw [hv]
  · rw [hz]
  · exact ht q
theorem co_le_dNot (h : co_le f g) (x y z : Int) : co_le (ck_dNot x y z f) (ck_dNot x y z g) := by
  obtain ⟨hk, hv, hz, hl, hh, ht⟩ := h
  refine co_le_N (fun n _ _ => ?_) (fun n _ _ => ?_) (fun n q _ _ _ _ => ?_) (fun q _ _ => ?_) (fun q _ _ => ?_) (fun q _ _ => ?_)
  · rw [hk]
  · split
    · refine ck_mx_mono (hl x) (ck_bL_mono ?_)
      have := hl y
      split <;> omega
    · exact hl n
  · split
    · exact ck_mn_mono (hh y q) (ck_bH_mono (by have := hh x q; omega))
    · exact hh n q
  · rw [hv]
  · rw [hz]
  · exact ht q
theorem co_le_dJb {f' g' : ck_D} (h : co_le f g) (h' : co_le f' g') : co_le (ck_dJb f' f) (ck_dJb g' g) := by
  obtain ⟨hk, hv, hz, hl, hh, ht⟩ := h
  obtain ⟨hk', hv', hz', hl', hh', ht'⟩ := h'
  refine co_le_N (fun n _ _ => ?_) (fun n _ _ => ?_) (fun n q _ _ _ _ => ?_) (fun q _ _ => ?_) (fun q _ _ => ?_) (fun q _ _ => ?_)
  · rw [hk]
  · exact ck_mn_mono (hl n) (hl' n)
  · exact ck_mx_mono (hh n q) (hh' n q)
  · rw [hv]
  · rw [hz]
  · intro hq
    rw [if_pos]
    by_cases h1 : ck_th f q = 0 ∨ ck_th f' q = 0
    · rcases h1 with h1 | h1
      · exact Or.inl (ht q h1)
      · exact Or.inr (ht' q h1)
    · rw [if_neg h1] at hq
      exact absurd hq (by decide)
theorem co_le_dJb0 {g' : ck_D} (h : co_le f g) : co_le (ck_N (ck_kn f) (ck_lo f) (ck_hi f) (ck_va f) (ck_sz f) (ck_th f)) (ck_dJb g' g) := by
  obtain ⟨hk, hv, hz, hl, hh, ht⟩ := h
  refine co_le_N (fun n _ _ => ?_) (fun n _ _ => ?_) (fun n q _ _ _ _ => ?_) (fun q _ _ => ?_) (fun q _ _ => ?_) (fun q _ _ => ?_)
  · rw [hk]
  · have := hl n
    unfold ck_mn; split <;> omega
  · have := hh n q
    unfold ck_mx; split <;> omega
  · rw [hv]
  · rw [hz]
  · intro hq
    rw [if_pos (Or.inl (ht q hq))]
theorem co_le_dJw {f' g' : ck_D} (h : co_le f g) (h' : co_le f' g') (k : Int) : co_le (ck_dJw f' k f) (ck_dJw g' k g) := by
  obtain ⟨hk, hv, hz, hl, hh, ht⟩ := h
  obtain ⟨hk', hv', hz', hl', hh', ht'⟩ := h'
  refine co_le_N (fun n _ _ => ?_) (fun n _ _ => ?_) (fun n q _ _ _ _ => ?_) (fun q _ _ => ?_) (fun q _ _ => ?_) (fun q _ _ => ?_)
  · rw [hk, hk']
  · exact ck_mn_mono (hl n) (hl' n)
  · exact ck_mx_mono (hh n q) (hh' n q)
  · rw [hv, hv']
  · rw [hv, hv', hz]
  · intro hq
    rw [if_pos]
    by_cases h1 : ck_th f q = 0 ∨ ck_th f' q = 0
    · rcases h1 with h1 | h1
      · exact Or.inl (ht q h1)
      · exact Or.inr (ht' q h1)
    · rw [if_neg h1] at hq
      exact absurd hq (by decide)
theorem co_le_dFc (h : co_le f g) (nb ab k : Int) : co_le (ck_dFc nb ab k f) (ck_dFc nb ab k g) := by
  obtain ⟨hk, hv, hz, hl, hh, ht⟩ := h
  refine co_le_N (fun n _ _ => ?_) (fun n _ _ => ?_) (fun n q _ _ _ _ => ?_) (fun q _ _ => ?_) (fun q _ _ => ?_) (fun q _ _ => ?_)
  · rw [hk]
  · exact hl n
  · exact hh n q
  · rw [hv]
  · rw [hz]
  · exact ht q
theorem co_le_dEff (h : co_le f g) (t x y z k : Int) : co_le (ck_dEff t x y z k f) (ck_dEff t x y z k g) := by
  unfold ck_dEff
  split
  · exact co_le_dSet h _ _
  split
  · exact co_le_dSum h _ _ _
  split
  · exact co_le_dAny h _
  split
  · exact co_le_dLen h _ _
  split
  · exact co_le_dAny (co_le_dUse h _ _) _
  split
  · exact co_le_dUse h _ _
  split
  · exact co_le_dNew h _ _ _
  split
  · exact co_le_dNull h _
  split
  · exact co_le_dLet h _ _
  · exact h
end CKO
end
section
/-! ## How large what is known before statement k can be -/
def co_wb (k : Int) (f : ck_D) : Prop := (∀ n, ck_kn f n = 1000000000 ∨ (-(100 * k) ≤ ck_kn f n ∧ ck_kn f n ≤ 100 * k)) ∧ (∀ n, ck_lo f n = -1000000000 ∨ (-200 ≤ ck_lo f n ∧ ck_lo f n ≤ 101 * k)) ∧ (∀ n r, ck_hi f n r = 1000000000 ∨ (-(201 * k) ≤ ck_hi f n r ∧ ck_hi f n r ≤ 200)) ∧ (∀ r, 0 ≤ ck_va f r ∧ ck_va f r < 69 + 4 * k) ∧ (∀ r, ck_sz f r = 1000000000 ∨ (-(100 * k) ≤ ck_sz f r ∧ ck_sz f r ≤ 100 * k)) ∧ ∀ r, ck_th f r = 0 ∨ ck_th f r = 1
theorem co_wb_N {j : Int} (hj : 0 ≤ j) {k l v z t : Int → Int} {h : Int → Int → Int} (e1 : ∀ n, 0 ≤ n → n < 10 → k n = 1000000000 ∨ (-(100 * j) ≤ k n ∧ k n ≤ 100 * j)) (e2 : ∀ n, 0 ≤ n → n < 10 → l n = -1000000000 ∨ (-200 ≤ l n ∧ l n ≤ 101 * j)) (e3 : ∀ n r, 0 ≤ n → n < 10 → 0 ≤ r → r < 4 → h n r = 1000000000 ∨ (-(201 * j) ≤ h n r ∧ h n r ≤ 200)) (e4 : ∀ r, 0 ≤ r → r < 4 → 0 ≤ v r ∧ v r < 69 + 4 * j) (e5 : ∀ r, 0 ≤ r → r < 4 → z r = 1000000000 ∨ (-(100 * j) ≤ z r ∧ z r ≤ 100 * j)) (e6 : ∀ r, 0 ≤ r → r < 4 → t r = 0 ∨ t r = 1) : co_wb j (ck_N k l h v z t) := by
  refine ⟨fun n => ?_, fun n => ?_, fun n r => ?_, fun r => ?_, fun r => ?_, fun r => ?_⟩
  · by_cases hn : 0 ≤ n ∧ n < 10
    · rw [ck_N_kn hn.1 hn.2]; exact e1 n hn.1 hn.2
    · have : ck_kn (ck_N k l h v z t) n = 0 := if_neg hn
      omega
  · by_cases hn : 0 ≤ n ∧ n < 10
    · rw [ck_N_lo hn.1 hn.2]; exact e2 n hn.1 hn.2
    · have : ck_lo (ck_N k l h v z t) n = 0 := if_neg hn
      omega
  · by_cases hn : (0 ≤ n ∧ n < 10) ∧ 0 ≤ r ∧ r < 4
    · rw [ck_N_hi hn.1.1 hn.1.2 hn.2.1 hn.2.2]; exact e3 n r hn.1.1 hn.1.2 hn.2.1 hn.2.2
    · have : ck_hi (ck_N k l h v z t) n r = 0 := if_neg hn
      omega
  · by_cases hn : 0 ≤ r ∧ r < 4
    · rw [ck_N_va hn.1 hn.2]; exact e4 r hn.1 hn.2
    · have : ck_va (ck_N k l h v z t) r = 0 := if_neg hn
      omega
  · by_cases hn : 0 ≤ r ∧ r < 4
    · rw [ck_N_sz hn.1 hn.2]; exact e5 r hn.1 hn.2
    · have : ck_sz (ck_N k l h v z t) r = 0 := if_neg hn
      omega
  · by_cases hn : 0 ≤ r ∧ r < 4
    · rw [ck_N_th hn.1 hn.2]; exact e6 r hn.1 hn.2
    · have : ck_th (ck_N k l h v z t) r = 0 := if_neg hn
      omega
theorem co_wb_up {j k : Int} (h : j ≤ k) {f : ck_D} (hf : co_wb j f) : co_wb k f := by
  obtain ⟨hk, hl, hh, hv, hz, ht⟩ := hf
  refine ⟨fun n => ?_, fun n => ?_, fun n r => ?_, fun r => ?_, fun r => ?_, ht⟩
  · have := hk n; omega
  · have := hl n; omega
  · have := hh n r; omega
  · have := hv r; omega
  · have := hz r; omega
theorem co_wb_fb {k : Int} (h : 0 ≤ k ∧ k ≤ 1000) {f : ck_D} (hf : co_wb k f) : ck_fb f := by
  obtain ⟨hk, hl, hh, hv, hz, ht⟩ := hf
  refine ⟨fun n => ?_, fun n => ?_, fun n r => ?_, fun r => ?_, fun r => ?_, fun r => ?_⟩
  · have := hk n; omega
  · have := hl n; omega
  · have := hh n r; omega
  · have := hv r; omega
  · have := hz r; omega
  · have := ht r; omega
theorem co_wb_dSet {k : Int} (hk0 : 0 ≤ k) {f : ck_D} (hf : co_wb k f) {x v : Int} (hv0 : -100 ≤ v ∧ v ≤ 100) : co_wb (k + 1) (ck_dSet x v f) := by
  obtain ⟨hk, hl, hh, hv, hz, ht⟩ := hf
  refine co_wb_N (by omega) (fun n _ _ => ?_) (fun n _ _ => ?_) (fun n q _ _ _ _ => ?_) (fun q _ _ => ?_) (fun q _ _ => ?_) (fun q _ _ => ?_)
  · skip
    have := hk n
    try unfold ck_hoc
    try unfold ck_bL
    try unfold ck_bH
    try unfold ck_mx
    try unfold ck_mn
    (repeat' split) <;> omega
  · skip
    have := hl n
    try unfold ck_hoc
    try unfold ck_bL
    try unfold ck_bH
    try unfold ck_mx
    try unfold ck_mn
    (repeat' split) <;> omega
  · skip
    have := hh n q
    have := hz q
    try unfold ck_hoc
    try unfold ck_bL
    try unfold ck_bH
    try unfold ck_mx
    try unfold ck_mn
    (repeat' split) <;> omega
  · skip
    have := hv q
    try unfold ck_hoc
    try unfold ck_bL
    try unfold ck_bH
    try unfold ck_mx
    try unfold ck_mn
    (repeat' split) <;> omega
  · skip
    have := hz q
    try unfold ck_hoc
    try unfold ck_bL
    try unfold ck_bH
    try unfold ck_mx
    try unfold ck_mn
    (repeat' split) <;> omega
  · skip
    have := ht q
    try unfold ck_hoc
    try unfold ck_bL
    try unfold ck_bH
    try unfold ck_mx
    try unfold ck_mn
    (repeat' split) <;> omega
theorem co_wb_dSum {k : Int} (hk0 : 0 ≤ k) {f : ck_D} (hf : co_wb k f) {x y z : Int} (hz0 : -100 ≤ z ∧ z ≤ 100) : co_wb (k + 1) (ck_dSum x y z f) := by
  obtain ⟨hk, hl, hh, hv, hz, ht⟩ := hf
  refine co_wb_N (by omega) (fun n _ _ => ?_) (fun n _ _ => ?_) (fun n q _ _ _ _ => ?_) (fun q _ _ => ?_) (fun q _ _ => ?_) (fun q _ _ => ?_)
  · skip
    have := hk n
    have := hk y
    try unfold ck_hoc
    try unfold ck_bL
    try unfold ck_bH
    try unfold ck_mx
    try unfold ck_mn
    (repeat' split) <;> omega
  · skip
    have := hl n
    have := hl y
    try unfold ck_hoc
    try unfold ck_bL
    try unfold ck_bH
    try unfold ck_mx
    try unfold ck_mn
    (repeat' split) <;> omega
  · skip
    have := hh n q
    have := hh y q
    have := hz q
    try unfold ck_hoc
    try unfold ck_bL
    try unfold ck_bH
    try unfold ck_mx
    try unfold ck_mn
    (repeat' split) <;> omega
  · skip
    have := hv q
    try unfold ck_hoc
    try unfold ck_bL
    try unfold ck_bH
    try unfold ck_mx
    try unfold ck_mn
    (repeat' split) <;> omega
  · skip
    have := hz q
    try unfold ck_hoc
    try unfold ck_bL
    try unfold ck_bH
    try unfold ck_mx
    try unfold ck_mn
    (repeat' split) <;> omega
  · skip
    have := ht q
    try unfold ck_hoc
    try unfold ck_bL
    try unfold ck_bH
    try unfold ck_mx
    try unfold ck_mn
    (repeat' split) <;> omega
theorem co_wb_dAny {k : Int} (hk0 : 0 ≤ k) {f : ck_D} (hf : co_wb k f) {x : Int} : co_wb (k + 1) (ck_dAny x f) := by
  obtain ⟨hk, hl, hh, hv, hz, ht⟩ := hf
  refine co_wb_N (by omega) (fun n _ _ => ?_) (fun n _ _ => ?_) (fun n q _ _ _ _ => ?_) (fun q _ _ => ?_) (fun q _ _ => ?_) (fun q _ _ => ?_)
  · skip
    have := hk n
    try unfold ck_hoc
    try unfold ck_bL
    try unfold ck_bH
    try unfold ck_mx
    try unfold ck_mn
    (repeat' split) <;> omega
  · skip
    have := hl n
    try unfold ck_hoc
    try unfold ck_bL
    try unfold ck_bH
    try unfold ck_mx
    try unfold ck_mn
    (repeat' split) <;> omega
  · skip
    have := hh n q
    have := hz q
    try unfold ck_hoc
    try unfold ck_bL
    try unfold ck_bH
    try unfold ck_mx
    try unfold ck_mn
    (repeat' split) <;> omega
  · skip
    have := hv q
    try unfold ck_hoc
    try unfold ck_bL
    try unfold ck_bH
    try unfold ck_mx
    try unfold ck_mn
    (repeat' split) <;> omega
  · skip
    have := hz q
    try unfold ck_hoc
    try unfold ck_bL
    try unfold ck_bH
    try unfold ck_mx
    try unfold ck_mn
    (repeat' split) <;> omega
  · skip
    have := ht q
    try unfold ck_hoc
    try unfold ck_bL
    try unfold ck_bH
    try unfold ck_mx
    try unfold ck_mn
    (repeat' split) <;> omega
theorem co_wb_dLen {k : Int} (hk0 : 0 ≤ k) {f : ck_D} (hf : co_wb k f) {x a : Int} : co_wb (k + 1) (ck_dLen x a f) := by
  obtain ⟨hk, hl, hh, hv, hz, ht⟩ := hf
  refine co_wb_N (by omega) (fun n _ _ => ?_) (fun n _ _ => ?_) (fun n q _ _ _ _ => ?_) (fun q _ _ => ?_) (fun q _ _ => ?_) (fun q _ _ => ?_)
  · skip
    have := hk n
    try unfold ck_hoc
    try unfold ck_bL
    try unfold ck_bH
    try unfold ck_mx
    try unfold ck_mn
    (repeat' split) <;> omega
  · skip
    have := hl n
    try unfold ck_hoc
    try unfold ck_bL
    try unfold ck_bH
    try unfold ck_mx
    try unfold ck_mn
    (repeat' split) <;> omega
  · skip
    have := hh n q
    have := hz q
    try unfold ck_hoc
    try unfold ck_bL
    try unfold ck_bH
    try unfold ck_mx
    try unfold ck_mn
    (repeat' split) <;> omega
  · skip
    have := hv q
    try unfold ck_hoc
    try unfold ck_bL
    try unfold ck_bH
    try unfold ck_mx
    try unfold ck_mn
    (repeat' split) <;> omega
  · skip
    have := hz q
    try unfold ck_hoc
    try unfold ck_bL
    try unfold ck_bH
    try unfold ck_mx
    try unfold ck_mn
    (repeat' split) <;> omega
  · skip
    have := ht q
    try unfold ck_hoc
    try unfold ck_bL
    try unfold ck_bH
    try unfold ck_mx
    try unfold ck_mn
    (repeat' split) <;> omega
theorem co_wb_dUse {k : Int} (hk0 : 0 ≤ k) {f : ck_D} (hf : co_wb k f) {a m : Int} : co_wb (k + 1) (ck_dUse a m f) := by
  obtain ⟨hk, hl, hh, hv, hz, ht⟩ := hf
  refine co_wb_N (by omega) (fun n _ _ => ?_) (fun n _ _ => ?_) (fun n q _ _ _ _ => ?_) (fun q _ _ => ?_) (fun q _ _ => ?_) (fun q _ _ => ?_)
  · skip
    have := hk n
    have := hk m
    try unfold ck_hoc
    try unfold ck_bL
    try unfold ck_bH
    try unfold ck_mx
    try unfold ck_mn
    (repeat' split) <;> omega
  · skip
    have := hl n
    have := hl m
    try unfold ck_hoc
    try unfold ck_bL
    try unfold ck_bH
    try unfold ck_mx
    try unfold ck_mn
    (repeat' split) <;> omega
  · skip
    have := hh n q
    have := hh m q
    have := hz q
    try unfold ck_hoc
    try unfold ck_bL
    try unfold ck_bH
    try unfold ck_mx
    try unfold ck_mn
    (repeat' split) <;> omega
  · skip
    have := hv q
    try unfold ck_hoc
    try unfold ck_bL
    try unfold ck_bH
    try unfold ck_mx
    try unfold ck_mn
    (repeat' split) <;> omega
  · skip
    have := hz q
    try unfold ck_hoc
    try unfold ck_bL
    try unfold ck_bH
    try unfold ck_mx
    try unfold ck_mn
    (repeat' split) <;> omega
  · skip
    have := ht q
    try unfold ck_hoc
    try unfold ck_bL
    try unfold ck_bH
    try unfold ck_mx
    try unfold ck_mn
    (repeat' split) <;> omega
theorem co_wb_dNew {k : Int} (hk0 : 0 ≤ k) {f : ck_D} (hf : co_wb k f) {a y : Int} (hk1 : k < 64) : co_wb (k + 1) (ck_dNew a y k f) := by
  obtain ⟨hk, hl, hh, hv, hz, ht⟩ := hf
  refine co_wb_N (by omega) (fun n _ _ => ?_) (fun n _ _ => ?_) (fun n q _ _ _ _ => ?_) (fun q _ _ => ?_) (fun q _ _ => ?_) (fun q _ _ => ?_)
  · skip
    have := hk n
    have := hk y
    try unfold ck_hoc
    try unfold ck_bL
    try unfold ck_bH
    try unfold ck_mx
    try unfold ck_mn
    (repeat' split) <;> omega
  · skip
    have := hl n
    have := hl y
    try unfold ck_hoc
    try unfold ck_bL
    try unfold ck_bH
    try unfold ck_mx
    try unfold ck_mn
    (repeat' split) <;> omega
  · skip
    have := hh n q
    have := hh y q
    have := hk n
    have := hk y
    have := hz q
    try unfold ck_hoc
    try unfold ck_bL
    try unfold ck_bH
    try unfold ck_mx
    try unfold ck_mn
    (repeat' split) <;> omega
  · skip
    have := hv q
    try unfold ck_hoc
    try unfold ck_bL
    try unfold ck_bH
    try unfold ck_mx
    try unfold ck_mn
    (repeat' split) <;> omega
  · skip
    have := hz q
    have := hk y
    try unfold ck_hoc
    try unfold ck_bL
    try unfold ck_bH
    try unfold ck_mx
    try unfold ck_mn
    (repeat' split) <;> omega
  · skip
    have := ht q
    try unfold ck_hoc
    try unfold ck_bL
    try unfold ck_bH
    try unfold ck_mx
    try unfold ck_mn
    (repeat' split) <;> omega
theorem co_wb_dNull {k : Int} (hk0 : 0 ≤ k) {f : ck_D} (hf : co_wb k f) {a : Int} : co_wb (k + 1) (ck_dNull a f) := by
  obtain ⟨hk, hl, hh, hv, hz, ht⟩ := hf
  refine co_wb_N (by omega) (fun n _ _ => ?_) (fun n _ _ => ?_) (fun n q _ _ _ _ => ?_) (fun q _ _ => ?_) (fun q _ _ => ?_) (fun q _ _ => ?_)
  · skip
    have := hk n
    try unfold ck_hoc
    try unfold ck_bL
    try unfold ck_bH
    try unfold ck_mx
    try unfold ck_mn
    (repeat' split) <;> omega
  · skip
    have := hl n
    try unfold ck_hoc
    try unfold ck_bL
    try unfold ck_bH
    try unfold ck_mx
    try unfold ck_mn
    (repeat' split) <;> omega
  · skip
    have := hh n q
    have := hz q
    try unfold ck_hoc
    try unfold ck_bL
    try unfold ck_bH
    try unfold ck_mx
    try unfold ck_mn
    (repeat' split) <;> omega
  · skip
    have := hv q
    try unfold ck_hoc
    try unfold ck_bL
    try unfold ck_bH
    try unfold ck_mx
    try unfold ck_mn
    (repeat' split) <;> omega
  · skip
    have := hz q
    try unfold ck_hoc
    try unfold ck_bL
    try unfold ck_bH
    try unfold ck_mx
    try unfold ck_mn
    (repeat' split) <;> omega
  · skip
    have := ht q
    try unfold ck_hoc
    try unfold ck_bL
    try unfold ck_bH
    try unfold ck_mx
    try unfold ck_mn
    (repeat' split) <;> omega
theorem co_wb_dLet {k : Int} (hk0 : 0 ≤ k) {f : ck_D} (hf : co_wb k f) {a e : Int} : co_wb (k + 1) (ck_dLet a e f) := by
  obtain ⟨hk, hl, hh, hv, hz, ht⟩ := hf
  refine co_wb_N (by omega) (fun n _ _ => ?_) (fun n _ _ => ?_) (fun n q _ _ _ _ => ?_) (fun q _ _ => ?_) (fun q _ _ => ?_) (fun q _ _ => ?_)
  · skip
    have := hk n
    try unfold ck_hoc
    try unfold ck_bL
    try unfold ck_bH
    try unfold ck_mx
    try unfold ck_mn
    (repeat' split) <;> omega
  · skip
    have := hl n
    try unfold ck_hoc
    try unfold ck_bL
    try unfold ck_bH
    try unfold ck_mx
    try unfold ck_mn
    (repeat' split) <;> omega
  · skip
    have := hh n q
    have := hh n e
    have := hz q
    try unfold ck_hoc
    try unfold ck_bL
    try unfold ck_bH
    try unfold ck_mx
    try unfold ck_mn
    (repeat' split) <;> omega
  · skip
    have := hv q
    have := hv e
    try unfold ck_hoc
    try unfold ck_bL
    try unfold ck_bH
    try unfold ck_mx
    try unfold ck_mn
    (repeat' split) <;> omega
  · skip
    have := hz q
    have := hz e
    try unfold ck_hoc
    try unfold ck_bL
    try unfold ck_bH
    try unfold ck_mx
    try unfold ck_mn
    (repeat' split) <;> omega
  · skip
    have := ht q
    have := ht e
    try unfold ck_hoc
    try unfold ck_bL
    try unfold ck_bH
    try unfold ck_mx
    try unfold ck_mn
    (repeat' split) <;> omega
theorem co_wb_dBel {k : Int} (hk0 : 0 ≤ k) {f : ck_D} (hf : co_wb k f) {x y z : Int} (hz0 : -100 ≤ z ∧ z ≤ 100) : co_wb (k + 1) (ck_dBel x y z f) := by
  obtain ⟨hk, hl, hh, hv, hz, ht⟩ := hf
  refine co_wb_N (by omega) (fun n _ _ => ?_) (fun n _ _ => ?_) (fun n q _ _ _ _ => ?_) (fun q _ _ => ?_) (fun q _ _ => ?_) (fun q _ _ => ?_)
  · skip
    have := hk n
    have := hk x
    have := hk y
    try unfold ck_hoc
    try unfold ck_bL
    try unfold ck_bH
    try unfold ck_mx
    try unfold ck_mn
    (repeat' split) <;> omega
  · skip
    have := hl n
    have := hl x
    have := hl y
    try unfold ck_hoc
    try unfold ck_bL
    try unfold ck_bH
    try unfold ck_mx
    try unfold ck_mn
    (repeat' split) <;> omega
  · skip
    have := hh n q
    have := hh x q
    have := hh y q
    have := hz q
    try unfold ck_hoc
    try unfold ck_bL
    try unfold ck_bH
    try unfold ck_mx
    try unfold ck_mn
    (repeat' split) <;> omega
  · skip
    have := hv q
    try unfold ck_hoc
    try unfold ck_bL
    try unfold ck_bH
    try unfold ck_mx
    try unfold ck_mn
    (repeat' split) <;> omega
  · skip
    have := hz q
    try unfold ck_hoc
    try unfold ck_bL
    try unfold ck_bH
    try unfold ck_mx
    try unfold ck_mn
    (repeat' split) <;> omega
  · skip
    have := ht q
    try unfold ck_hoc
    try unfold ck_bL
    try unfold ck_bH
    try unfold ck_mx
    try unfold ck_mn
    (repeat' split) <;> omega
theorem co_wb_dNot {k : Int} (hk0 : 0 ≤ k) {f : ck_D} (hf : co_wb k f) {x y z : Int} (hz0 : -100 ≤ z ∧ z ≤ 100) : co_wb (k + 1) (ck_dNot x y z f) := by
  obtain ⟨hk, hl, hh, hv, hz, ht⟩ := hf
  refine co_wb_N (by omega) (fun n _ _ => ?_) (fun n _ _ => ?_) (fun n q _ _ _ _ => ?_) (fun q _ _ => ?_) (fun q _ _ => ?_) (fun q _ _ => ?_)
  · skip
    have := hk n
    have := hk x
    have := hk y
    try unfold ck_hoc
    try unfold ck_bL
    try unfold ck_bH
    try unfold ck_mx
    try unfold ck_mn
    (repeat' split) <;> omega
  · skip
    have := hl n
    have := hl x
    have := hl y
    try unfold ck_hoc
    try unfold ck_bL
    try unfold ck_bH
    try unfold ck_mx
    try unfold ck_mn
    (repeat' split) <;> omega
  · skip
    have := hh n q
    have := hh x q
    have := hh y q
    have := hz q
    try unfold ck_hoc
    try unfold ck_bL
    try unfold ck_bH
    try unfold ck_mx
    try unfold ck_mn
    (repeat' split) <;> omega
  · skip
    have := hv q
    try unfold ck_hoc
    try unfold ck_bL
    try unfold ck_bH
    try unfold ck_mx
    try unfold ck_mn
    (repeat' split) <;> omega
  · skip
    have := hz q
    try unfold ck_hoc
    try unfold ck_bL
    try unfold ck_bH
    try unfold ck_mx
    try unfold ck_mn
    (repeat' split) <;> omega
  · skip
    have := ht q
    try unfold ck_hoc
    try unfold ck_bL
    try unfold ck_bH
    try unfold ck_mx
    try unfold ck_mn
    (repeat' split) <;> omega
theorem co_wb_dJw {k : Int} (hk0 : 0 ≤ k) {f g : ck_D} (hf : co_wb k f) (hg : co_wb k g) : co_wb (k + 1) (ck_dJw g k f) := by
  obtain ⟨hk, hl, hh, hv, hz, ht⟩ := hf
  obtain ⟨hk', hl', hh', hv', hz', ht'⟩ := hg
  refine co_wb_N (by omega) (fun n _ _ => ?_) (fun n _ _ => ?_) (fun n q _ _ _ _ => ?_) (fun q _ _ => ?_) (fun q _ _ => ?_) (fun q _ _ => ?_)
  · skip
    have := hk n
    have := hk' n
    try unfold ck_hoc
    try unfold ck_bL
    try unfold ck_bH
    try unfold ck_mx
    try unfold ck_mn
    (repeat' split) <;> omega
  · skip
    have := hl n
    have := hl' n
    try unfold ck_hoc
    try unfold ck_bL
    try unfold ck_bH
    try unfold ck_mx
    try unfold ck_mn
    (repeat' split) <;> omega
  · skip
    have := hh n q
    have := hh' n q
    have := hz q
    have := hz' q
    try unfold ck_hoc
    try unfold ck_bL
    try unfold ck_bH
    try unfold ck_mx
    try unfold ck_mn
    (repeat' split) <;> omega
  · skip
    have := hv q
    have := hv' q
    try unfold ck_hoc
    try unfold ck_bL
    try unfold ck_bH
    try unfold ck_mx
    try unfold ck_mn
    (repeat' split) <;> omega
  · skip
    have := hz q
    have := hz' q
    try unfold ck_hoc
    try unfold ck_bL
    try unfold ck_bH
    try unfold ck_mx
    try unfold ck_mn
    (repeat' split) <;> omega
  · skip
    have := ht q
    have := ht' q
    try unfold ck_hoc
    try unfold ck_bL
    try unfold ck_bH
    try unfold ck_mx
    try unfold ck_mn
    (repeat' split) <;> omega
theorem co_wb_dFc {k : Int} (hk0 : 0 ≤ k) {f : ck_D} (hf : co_wb k f) {nb ab : Int} : co_wb (k) (ck_dFc nb ab k f) := by
  obtain ⟨hk, hl, hh, hv, hz, ht⟩ := hf
  refine co_wb_N (by omega) (fun n _ _ => ?_) (fun n _ _ => ?_) (fun n q _ _ _ _ => ?_) (fun q _ _ => ?_) (fun q _ _ => ?_) (fun q _ _ => ?_)
  · skip
    have := hk n
    try unfold ck_hoc
    try unfold ck_bL
    try unfold ck_bH
    try unfold ck_mx
    try unfold ck_mn
    (repeat' split) <;> omega
  · skip
    have := hl n
    try unfold ck_hoc
    try unfold ck_bL
    try unfold ck_bH
    try unfold ck_mx
    try unfold ck_mn
    (repeat' split) <;> omega
  · skip
    have := hh n q
    have := hz q
    try unfold ck_hoc
    try unfold ck_bL
    try unfold ck_bH
    try unfold ck_mx
    try unfold ck_mn
    (repeat' split) <;> omega
  · skip
    have := hv q
    try unfold ck_hoc
    try unfold ck_bL
    try unfold ck_bH
    try unfold ck_mx
    try unfold ck_mn
    (repeat' split) <;> omega
  · skip
    have := hz q
    try unfold ck_hoc
    try unfold ck_bL
    try unfold ck_bH
    try unfold ck_mx
    try unfold ck_mn
    (repeat' split) <;> omega
  · skip
    have := ht q
    try unfold ck_hoc
    try unfold ck_bL
    try unfold ck_bH
    try unfold ck_mx
    try unfold ck_mn
    (repeat' split) <;> omega
theorem co_wb_dAny0 {k : Int} (hk0 : 0 ≤ k) {f : ck_D} (hf : co_wb k f) {x : Int} : co_wb (k) (ck_dAny x f) := by
  obtain ⟨hk, hl, hh, hv, hz, ht⟩ := hf
  refine co_wb_N (by omega) (fun n _ _ => ?_) (fun n _ _ => ?_) (fun n q _ _ _ _ => ?_) (fun q _ _ => ?_) (fun q _ _ => ?_) (fun q _ _ => ?_)
  · skip
    have := hk n
    try unfold ck_hoc
    try unfold ck_bL
    try unfold ck_bH
    try unfold ck_mx
    try unfold ck_mn
    (repeat' split) <;> omega
  · skip
    have := hl n
    try unfold ck_hoc
    try unfold ck_bL
    try unfold ck_bH
    try unfold ck_mx
    try unfold ck_mn
    (repeat' split) <;> omega
  · skip
    have := hh n q
    have := hz q
    try unfold ck_hoc
    try unfold ck_bL
    try unfold ck_bH
    try unfold ck_mx
    try unfold ck_mn
    (repeat' split) <;> omega
  · skip
    have := hv q
    try unfold ck_hoc
    try unfold ck_bL
    try unfold ck_bH
    try unfold ck_mx
    try unfold ck_mn
    (repeat' split) <;> omega
  · skip
    have := hz q
    try unfold ck_hoc
    try unfold ck_bL
    try unfold ck_bH
    try unfold ck_mx
    try unfold ck_mn
    (repeat' split) <;> omega
  · skip
    have := ht q
    try unfold ck_hoc
    try unfold ck_bL
    try unfold ck_bH
    try unfold ck_mx
    try unfold ck_mn
    (repeat' split) <;> omega
theorem co_wb_dJb {k m : Int} (hk0 : 0 ≤ k) {f g : ck_D} (hf : co_wb k f) (hg : co_wb m g) : co_wb k (ck_dJb g f) := by
  obtain ⟨hk, hl, hh, hv, hz, ht⟩ := hf
  obtain ⟨hk', hl', hh', hv', hz', ht'⟩ := hg
  refine co_wb_N (by omega) (fun n _ _ => hk n) (fun n _ _ => ?_) (fun n q _ _ _ _ => ?_) (fun q _ _ => hv q) (fun q _ _ => hz q) (fun q _ _ => ?_)
  · have := hl n
    have := hl' n
    unfold ck_mn
    split <;> omega
  · have := hh n q
    have := hh' n q
    unfold ck_mx
    split <;> omega
  · split <;> omega
theorem co_wb_first : co_wb 0 ck_dFirst := co_wb_N (by decide) (fun _ _ _ => by omega) (fun _ _ _ => by omega) (fun _ _ _ _ _ _ => by omega) (fun _ _ _ => by omega) (fun _ _ _ => by omega) (fun _ _ _ => by omega)
theorem co_wb_dEff {k : Int} (hk0 : 0 ≤ k ∧ k < 64) {f : ck_D} (hf : co_wb k f) {t x y z : Int} (hO : ck_sOk t x y z) : co_wb (k + 1) (ck_dEff t x y z k f) := by
  unfold ck_sOk at hO
  unfold ck_dEff
  split
  · exact co_wb_dSet hk0.1 hf (by omega)
  split
  · exact co_wb_dSum hk0.1 hf (by omega)
  split
  · exact co_wb_dAny hk0.1 hf
  split
  · exact co_wb_dLen hk0.1 hf
  split
  · have h2 : co_wb (k + 1) (ck_dUse y z f) := co_wb_dUse hk0.1 hf
    exact co_wb_dAny0 (by omega) h2
  split
  · exact co_wb_dUse hk0.1 hf
  split
  · exact co_wb_dNew hk0.1 hf hk0.2
  split
  · exact co_wb_dNull hk0.1 hf
  split
  · exact co_wb_dLet hk0.1 hf
  · exact co_wb_up (by omega) hf
end
section
/-! ## A program's form -/
def co_pS (p : ck_M) (n : Int) : Prop := ∀ k, 0 ≤ k → k < n → ck_sOk (p 6 k) (p 7 k) (p 8 k) (p 9 k)
def co_pH (p : ck_M) (n : Int) : Prop := ∀ k, 0 ≤ k → k < n → p 6 k = 9 ∨ p 6 k = 12 → (k < p 12 k ∧ p 12 k < n) ∧ p 6 (p 12 k) = 11 ∧ p 10 (p 12 k) = k ∧ (p 11 k = -1 ∨ (p 6 k = 9 ∧ (k < p 11 k ∧ p 11 k < p 12 k) ∧ p 6 (p 11 k) = 10 ∧ p 10 (p 11 k) = k))
def co_pE (p : ck_M) (n : Int) : Prop := ∀ k, 0 ≤ k → k < n → p 6 k = 10 ∨ p 6 k = 11 → (0 ≤ p 10 k ∧ p 10 k < k) ∧ (p 6 k = 10 → p 6 (p 10 k) = 9 ∧ p 11 (p 10 k) = k) ∧ (p 6 k = 11 → (p 6 (p 10 k) = 9 ∨ p 6 (p 10 k) = 12) ∧ p 12 (p 10 k) = k)
def co_pN (p : ck_M) (n : Int) : Prop := ∀ k, 0 ≤ k → k < n → p 6 k = 9 ∨ p 6 k = 12 → ∀ j, k < j → j < p 12 k → p 6 j = 10 ∨ p 6 j = 11 → k ≤ p 10 j
def co_cn (p : ck_M) (k e n : Int) : Prop := ∃ j, k < j ∧ j < e ∧ p 6 j < 5 ∧ p 7 j = n
def co_ca (p : ck_M) (k e r : Int) : Prop := ∃ j, k < j ∧ j < e ∧ 6 ≤ p 6 j ∧ p 6 j ≤ 8 ∧ p 7 j = r
def co_pM (p : ck_M) (n : Int) : Prop := ∀ k, 0 ≤ k → k < n → p 6 k = 12 → (∀ m, 0 ≤ m → m < 10 → (ck_and (ck_shr (p 13 k) m) 1 = 0 ↔ ¬ co_cn p k (p 12 k) m)) ∧ ∀ r, 0 ≤ r → r < 4 → (ck_and (ck_shr (p 14 k) r) 1 = 0 ↔ ¬ co_ca p k (p 12 k) r)
def co_pg (p : ck_M) (n : Int) : Prop := (0 ≤ n ∧ n ≤ 64) ∧ co_pS p n ∧ co_pH p n ∧ co_pE p n ∧ co_pN p n ∧ co_pM p n
/-! ## What follows from what is known before the statements -/
def co_O (p : ck_M) (B : Int → ck_D) (h e : Int) : ck_D := if e = -1 then ck_dNot (p 7 h) (p 8 h) (p 9 h) (B h) else B e
def co_F (p : ck_M) (B : Int → ck_D) (k : Int) : ck_D := if p 6 k = 9 ∨ p 6 k = 12 then ck_dBel (p 7 k) (p 8 k) (p 9 k) (B k) else if p 6 k = 10 then co_O p B (p 10 k) (-1) else if p 6 k = 11 then (if p 6 (p 10 k) = 9 then ck_dJw (B k) k (co_O p B (p 10 k) (p 11 (p 10 k))) else co_O p B (p 10 k) (p 11 (p 10 k))) else ck_dEff (p 6 k) (p 7 k) (p 8 k) (p 9 k) k (B k)
def co_A0 (p : ck_M) (B : Int → ck_D) (k : Int) : ck_D := if k = 0 then ck_dFirst else co_F p B (k - 1)
def co_A (p : ck_M) (B Z : Int → ck_D) (r : Int) (k : Int) : ck_D := if p 6 k = 12 then ck_dFc (p 13 k) (p 14 k) k (if r = 0 then co_A0 p B k else ck_dJb (Z (p 12 k)) (co_A0 p B k)) else co_A0 p B k
theorem co_fl_eq (σ : ck_M) (k : Int) : ck_fl σ k = co_F σ (ck_B σ) k := rfl
theorem co_ar0_eq (σ : ck_M) (k : Int) : ck_ar0 σ k = co_A0 σ (ck_B σ) k := rfl
theorem co_arr_eq (σ : ck_M) (k : Int) : ck_arr σ k = co_A σ (ck_B σ) (ck_B σ) (σ 18 (σ 12 k)) k := rfl
section COF
variable {p : ck_M} {n : Int}
theorem co_F_le (hp : co_pg p n) {B B' : Int → ck_D} {k : Int} (h0 : 0 ≤ k) (h1 : k < n) (h : ∀ j, 0 ≤ j → j ≤ k → co_le (B j) (B' j)) : co_le (co_F p B k) (co_F p B' k) := by
  obtain ⟨hn, hS, hH, hE, hN, hM⟩ := hp
  unfold co_F
  split
  · exact co_le_dBel (h k h0 (Int.le_refl _)) _ _ _
  split
  · rename_i h2 h3
    obtain ⟨a, -, -⟩ := hE k h0 h1 (Or.inl h3)
    unfold co_O
    rw [if_pos rfl, if_pos rfl]
    exact co_le_dNot (h _ a.1 (by omega)) _ _ _
  split
  · rename_i h2 h3 h4
    obtain ⟨a, -, b⟩ := hE k h0 h1 (Or.inr h4)
    obtain ⟨b1, b2⟩ := b h4
    obtain ⟨c1, -, -, c4⟩ := hH _ a.1 (by omega) b1
    have hO : co_le (co_O p B (p 10 k) (p 11 (p 10 k))) (co_O p B' (p 10 k) (p 11 (p 10 k))) := by
      unfold co_O
      split
      · exact co_le_dNot (h _ a.1 (by omega)) _ _ _
      · exact h _ (by omega) (by omega)
    split
    · exact co_le_dJw hO (h k h0 (Int.le_refl _)) _
    · exact hO
  · exact co_le_dEff (h k h0 (Int.le_refl _)) _ _ _ _ _
theorem co_F_congr (hp : co_pg p n) {B B' : Int → ck_D} {k : Int} (h0 : 0 ≤ k) (h1 : k < n) (h : ∀ j, 0 ≤ j → j ≤ k → B j = B' j) : co_F p B k = co_F p B' k := by
  obtain ⟨hn, hS, hH, hE, hN, hM⟩ := hp
  unfold co_F
  rw [h k h0 (Int.le_refl _)]
  split
  · rfl
  split
  · rename_i h2 h3
    obtain ⟨a, -, -⟩ := hE k h0 h1 (Or.inl h3)
    unfold co_O
    rw [if_pos rfl, if_pos rfl, h _ a.1 (by omega)]
  split
  · rename_i h2 h3 h4
    obtain ⟨a, -, b⟩ := hE k h0 h1 (Or.inr h4)
    obtain ⟨b1, b2⟩ := b h4
    obtain ⟨c1, -, -, c4⟩ := hH _ a.1 (by omega) b1
    have hO : co_O p B (p 10 k) (p 11 (p 10 k)) = co_O p B' (p 10 k) (p 11 (p 10 k)) := by
      unfold co_O
      split
      · rw [h _ a.1 (by omega)]
      · exact h _ (by omega) (by omega)
    rw [hO]
  · rfl
theorem co_A0_le (hp : co_pg p n) {B B' : Int → ck_D} {k : Int} (h0 : 0 ≤ k) (h1 : k < n) (h : ∀ j, 0 ≤ j → j < k → co_le (B j) (B' j)) : co_le (co_A0 p B k) (co_A0 p B' k) := by
  unfold co_A0
  split
  · exact co_le_rfl _
  · exact co_F_le hp (by omega) (by omega) (fun j a b => h j a (by omega))
theorem co_A0_congr (hp : co_pg p n) {B B' : Int → ck_D} {k : Int} (h0 : 0 ≤ k) (h1 : k < n) (h : ∀ j, 0 ≤ j → j < k → B j = B' j) : co_A0 p B k = co_A0 p B' k := by
  unfold co_A0
  split
  · rfl
  · exact co_F_congr hp (by omega) (by omega) (fun j a b => h j a (by omega))
theorem co_le_dFcJ {f g g' : ck_D} (h : co_le f g) (nb ab k : Int) : co_le (ck_dFc nb ab k f) (ck_dFc nb ab k (ck_dJb g' g)) := by
  obtain ⟨hk, hv, hz, hl, hh, ht⟩ := h
  refine co_le_N (fun n a b => ?_) (fun n a b => ?_) (fun n q a b c d => ?_) (fun q a b => ?_) (fun q a b => ?_) (fun q a b => ?_)
  · unfold ck_dJb
    rw [ck_N_kn a b, hk]
  · unfold ck_dJb
    rw [ck_N_lo a b]
    have := hl n
    unfold ck_mn; split <;> omega
  · unfold ck_dJb
    rw [ck_N_hi a b c d]
    have := hh n q
    unfold ck_mx; split <;> omega
  · unfold ck_dJb
    rw [ck_N_va a b, hv]
  · unfold ck_dJb
    rw [ck_N_sz a b, hz]
  · unfold ck_dJb
    rw [ck_N_th a b]
    intro hq
    rw [if_pos (Or.inl (ht q hq))]
theorem co_A_le (hp : co_pg p n) {B B' Z Z' : Int → ck_D} {r r' k : Int} (h0 : 0 ≤ k) (h1 : k < n) (h : ∀ j, 0 ≤ j → j < k → co_le (B j) (B' j)) (hr : p 6 k = 12 → r ≠ 0 → r' ≠ 0 ∧ co_le (Z (p 12 k)) (Z' (p 12 k))) : co_le (co_A p B Z r k) (co_A p B' Z' r' k) := by
  have hA := co_A0_le hp h0 h1 h
  unfold co_A
  split
  · rename_i ht
    by_cases hr0 : r = 0
    · rw [if_pos hr0]
      split
      · exact co_le_dFc hA _ _ _
      · exact co_le_dFcJ hA _ _ _
    · rw [if_neg hr0, if_neg (hr ht hr0).1]
      exact co_le_dFc (co_le_dJb hA (hr ht hr0).2) _ _ _
  · exact hA
theorem co_A_congr (hp : co_pg p n) {B B' : Int → ck_D} {Z : Int → ck_D} {r k : Int} (h0 : 0 ≤ k) (h1 : k < n) (h : ∀ j, 0 ≤ j → j < k → B j = B' j) : co_A p B Z r k = co_A p B' Z r k := by
  unfold co_A
  rw [co_A0_congr hp h0 h1 h]
theorem co_O_wb (hp : co_pg p n) {B : Int → ck_D} {k : Int} (h0 : 0 ≤ k) (h1 : k < n) (h2 : p 6 k = 10 ∨ p 6 k = 11) (h : ∀ j, 0 ≤ j → j ≤ k → co_wb j (B j)) : co_wb k (co_O p B (p 10 k) (-1)) ∧ co_wb k (co_O p B (p 10 k) (p 11 (p 10 k))) := by
  obtain ⟨hn, hS, hH, hE, hN, hM⟩ := hp
  obtain ⟨a, b, c⟩ := hE k h0 h1 h2
  have b1 : p 6 (p 10 k) = 9 ∨ p 6 (p 10 k) = 12 := by
    rcases h2 with h2 | h2
    · exact Or.inl (b h2).1
    · exact (c h2).1
  obtain ⟨c1, -, -, c4⟩ := hH _ a.1 (by omega) b1
  have hs := hS _ a.1 (by omega)
  have hz : -100 ≤ p 9 (p 10 k) ∧ p 9 (p 10 k) ≤ 100 := by unfold ck_sOk at hs; omega
  have hO : co_wb k (ck_dNot (p 7 (p 10 k)) (p 8 (p 10 k)) (p 9 (p 10 k)) (B (p 10 k))) := co_wb_up (j := p 10 k + 1) (by omega) (co_wb_dNot a.1 (h _ a.1 (by omega)) hz)
  refine ⟨?_, ?_⟩
  · unfold co_O
    rw [if_pos rfl]
    exact hO
  · unfold co_O
    split
    · exact hO
    · have e : p 11 (p 10 k) ≤ k := by
        rcases h2 with h2 | h2
        · have := (b h2).2; omega
        · have := (c h2).2; omega
      exact co_wb_up e (h _ (by omega) e)
theorem co_F_wb (hp : co_pg p n) {B : Int → ck_D} {k : Int} (h0 : 0 ≤ k) (h1 : k < n) (h : ∀ j, 0 ≤ j → j ≤ k → co_wb j (B j)) : co_wb (k + 1) (co_F p B k) := by
  have hk := h k h0 (Int.le_refl _)
  have hn := hp.1
  have hs := hp.2.1 k h0 h1
  unfold co_F
  split
  · rename_i h2
    exact co_wb_dBel h0 hk (by unfold ck_sOk at hs; omega)
  split
  · rename_i h2 h3
    exact co_wb_up (by omega) (co_O_wb hp h0 h1 (Or.inl h3) h).1
  split
  · rename_i h2 h3 h4
    have hO := (co_O_wb hp h0 h1 (Or.inr h4) h).2
    split
    · exact co_wb_dJw h0 hO hk
    · exact co_wb_up (by omega) hO
  · exact co_wb_dEff ⟨h0, by omega⟩ hk hs
theorem co_A0_wb (hp : co_pg p n) {B : Int → ck_D} {k : Int} (h0 : 0 ≤ k) (h1 : k < n) (h : ∀ j, 0 ≤ j → j < k → co_wb j (B j)) : co_wb k (co_A0 p B k) := by
  unfold co_A0
  split
  · rename_i e
    rw [e]
    exact co_wb_first
  · have := co_F_wb hp (B := B) (k := k - 1) (by omega) (by omega) (fun j a b => h j a (by omega))
    rwa [Int.sub_add_cancel] at this
theorem co_A_wb (hp : co_pg p n) {B Z : Int → ck_D} {r k : Int} (h0 : 0 ≤ k) (h1 : k < n) (h : ∀ j, 0 ≤ j → j < k → co_wb j (B j)) (hZ : p 6 k = 12 → r ≠ 0 → co_wb (p 12 k) (Z (p 12 k))) : co_wb k (co_A p B Z r k) := by
  have hA := co_A0_wb hp h0 h1 h
  unfold co_A
  split
  · rename_i ht
    split
    · exact co_wb_dFc h0 hA
    · rename_i hr
      exact co_wb_dFc h0 (co_wb_dJb h0 hA (hZ ht hr))
  · exact hA
end COF
/-! ## A pass through the statements, the ends of whiles by Z -/
def co_tb (p : ck_M) (Z : Int → ck_D) (r : Int) : Nat → Int → ck_D
  | 0 => fun _ => ck_dFirst
  | m + 1 => fun j => if j = m then co_A p (co_tb p Z r m) Z r m else co_tb p Z r m j
def co_ps (p : ck_M) (Z : Int → ck_D) (r : Int) (k : Int) : ck_D := co_tb p Z r (k.toNat + 1) k
theorem co_tb_st (p : ck_M) (Z : Int → ck_D) (r : Int) {j : Int} (hj : 0 ≤ j) : ∀ m : Nat, j < m → co_tb p Z r m j = co_ps p Z r j := by
  intro m
  induction m with
  | zero => intro h; exact absurd h (by omega)
  | succ m ih =>
    intro h
    by_cases e : j = m
    · unfold co_ps
      have : j.toNat + 1 = m + 1 := by omega
      rw [this]
    · rw [← ih (by omega)]
      exact if_neg e
theorem co_ps_eq {p : ck_M} {n : Int} (hp : co_pg p n) (Z : Int → ck_D) (r : Int) {k : Int} (h0 : 0 ≤ k) (h1 : k < n) : co_ps p Z r k = co_A p (co_ps p Z r) Z r k := by
  have e : (k.toNat : Int) = k := Int.toNat_of_nonneg h0
  have h : co_ps p Z r k = co_A p (co_tb p Z r k.toNat) Z r (k.toNat : Int) := if_pos e.symm
  rw [h, e]
  exact co_A_congr hp h0 h1 (fun j a b => co_tb_st p Z r a _ (by omega))
theorem co_ind {P : Int → Prop} {n : Int} (h : ∀ k, 0 ≤ k → k < n → (∀ j, 0 ≤ j → j < k → P j) → P k) : ∀ k, 0 ≤ k → k < n → P k := by
  have : ∀ (m : Nat) (k : Int), 0 ≤ k → k < n → k < m → P k := by
    intro m
    induction m with
    | zero => intro k a b c; exact absurd c (by omega)
    | succ m ih => exact fun k a b c => h k a b (fun j a' b' => ih j a' (by omega) (by omega))
  exact fun k a b => this (k.toNat + 1) k a b (by omega)
/-- a solution: what is known before each statement fits together -/
def co_sol (p : ck_M) (n : Int) (X : Int → ck_D) : Prop := ∀ k, 0 ≤ k → k < n → X k = co_A p X X 1 k
section COP
variable {p : ck_M} {n : Int}
theorem co_ps_le (hp : co_pg p n) {Z Z' : Int → ck_D} {r r' : Int} (h : r ≠ 0 → r' ≠ 0 ∧ ∀ j, 0 ≤ j → j < n → co_le (Z j) (Z' j)) : ∀ k, 0 ≤ k → k < n → co_le (co_ps p Z r k) (co_ps p Z' r' k) := by
  refine co_ind (fun k h0 h1 ih => ?_)
  rw [co_ps_eq hp Z r h0 h1, co_ps_eq hp Z' r' h0 h1]
  refine co_A_le hp h0 h1 ih (fun ht hr => ⟨(h hr).1, (h hr).2 _ ?_ ?_⟩)
  · have := (hp.2.2.1 k h0 h1 (Or.inr ht)).1; omega
  · exact (hp.2.2.1 k h0 h1 (Or.inr ht)).1.2
theorem co_ps_sol (hp : co_pg p n) {Z X : Int → ck_D} {r : Int} (hX : co_sol p n X) (h : r ≠ 0 → ∀ j, 0 ≤ j → j < n → co_le (Z j) (X j)) : ∀ k, 0 ≤ k → k < n → co_le (co_ps p Z r k) (X k) := by
  refine co_ind (fun k h0 h1 ih => ?_)
  rw [co_ps_eq hp Z r h0 h1, hX k h0 h1]
  refine co_A_le hp h0 h1 ih (fun ht hr => ⟨by decide, h hr _ ?_ ?_⟩)
  · have := (hp.2.2.1 k h0 h1 (Or.inr ht)).1; omega
  · exact (hp.2.2.1 k h0 h1 (Or.inr ht)).1.2
theorem co_ps_wb (hp : co_pg p n) {Z : Int → ck_D} {r : Int} (h : r ≠ 0 → ∀ j, 0 ≤ j → j < n → co_wb j (Z j)) : ∀ k, 0 ≤ k → k < n → co_wb k (co_ps p Z r k) := by
  refine co_ind (fun k h0 h1 ih => ?_)
  rw [co_ps_eq hp Z r h0 h1]
  refine co_A_wb hp h0 h1 ih (fun ht hr => h hr _ ?_ ?_)
  · have := (hp.2.2.1 k h0 h1 (Or.inr ht)).1; omega
  · exact (hp.2.2.1 k h0 h1 (Or.inr ht)).1.2
end COP
/-- the passes -/
def co_Fi (p : ck_M) : Nat → Int → ck_D
  | 0 => co_ps p (fun _ => ck_dFirst) 0
  | i + 1 => co_ps p (co_Fi p i) 1
section COI
variable {p : ck_M} {n : Int}
theorem co_Fi_wb (hp : co_pg p n) : ∀ i k, 0 ≤ k → k < n → co_wb k (co_Fi p i k) := by
  intro i
  induction i with
  | zero => exact co_ps_wb hp (fun h => absurd rfl h)
  | succ i ih => exact co_ps_wb hp (fun _ => ih)
theorem co_Fi_sol (hp : co_pg p n) {X : Int → ck_D} (hX : co_sol p n X) : ∀ i k, 0 ≤ k → k < n → co_le (co_Fi p i k) (X k) := by
  intro i
  induction i with
  | zero => exact co_ps_sol hp hX (fun h => absurd rfl h)
  | succ i ih => exact co_ps_sol hp hX (fun _ => ih)
theorem co_Fi_le (hp : co_pg p n) : ∀ i k, 0 ≤ k → k < n → co_le (co_Fi p i k) (co_Fi p (i + 1) k) := by
  intro i
  induction i with
  | zero => exact co_ps_le hp (fun h => absurd rfl h)
  | succ i ih => exact co_ps_le hp (fun _ => ⟨by decide, ih⟩)
theorem co_Fi_end (hp : co_pg p n) {i : Nat} (h : ∀ k, 0 ≤ k → k < n → co_Fi p i k = co_Fi p (i + 1) k) : co_sol p n (co_Fi p (i + 1)) := by
  intro k h0 h1
  have e : co_Fi p (i + 1) k = co_A p (co_Fi p (i + 1)) (co_Fi p i) 1 k := co_ps_eq hp _ _ h0 h1
  refine e.trans ?_
  unfold co_A
  split
  · rename_i ht
    rw [if_neg (by decide), if_neg (by decide)]
    have a := (hp.2.2.1 k h0 h1 (Or.inr ht)).1
    rw [h (p 12 k) (by omega) a.2]
  · rfl
end COI
end
