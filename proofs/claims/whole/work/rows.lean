section
-- ===== PART A: goes FIRST, ahead of the names: the tables' words, and 'selects' of the private methods out of them =====
/-- a private method of a class that the tables say can be made, by its rows of tables_1 -/
def lw_okq (q : MethodName × Nat) : Prop := (q.1.cls ≠ "java/lang/invoke/MethodHandle" ∧ q.1.cls ≠ "java/lang/invoke/VarHandle") ∧ Cond.instantiable q.1.cls q.2 ∈ tables_1 ∧ Cond.privateMethod q.1 ∈ tables_1 ∧ Cond.instanceMethod q.1 ∈ tables_1
theorem lw_p0 : lw_okq (⟨"ChainLoader", "feedNumber", "(I)V"⟩, 9) := ⟨⟨by decide +kernel, by decide +kernel⟩, List.mem_of_getElem? (i := 22) (by decide +kernel), List.mem_of_getElem? (i := 465) (by decide +kernel), List.mem_of_getElem? (i := 466) (by decide +kernel)⟩
theorem lw_p1 : lw_okq (⟨"ChainLoader$Told", "hasRoom", "(II)Z"⟩, 19) := ⟨⟨by decide +kernel, by decide +kernel⟩, List.mem_of_getElem? (i := 51) (by decide +kernel), List.mem_of_getElem? (i := 593) (by decide +kernel), List.mem_of_getElem? (i := 594) (by decide +kernel)⟩
theorem lw_p2 : lw_okq (⟨"ChainLoader$Writer", "layOut", "()V"⟩, 11) := ⟨⟨by decide +kernel, by decide +kernel⟩, List.mem_of_getElem? (i := 163) (by decide +kernel), List.mem_of_getElem? (i := 626) (by decide +kernel), List.mem_of_getElem? (i := 627) (by decide +kernel)⟩
theorem lw_p3 : lw_okq (⟨"ChainLoader$Writer", "layOutFixups", "()V"⟩, 11) := ⟨⟨by decide +kernel, by decide +kernel⟩, List.mem_of_getElem? (i := 163) (by decide +kernel), List.mem_of_getElem? (i := 633) (by decide +kernel), List.mem_of_getElem? (i := 634) (by decide +kernel)⟩
theorem lw_p4 : lw_okq (⟨"ChainLoader$Writer", "addHead", "()V"⟩, 11) := ⟨⟨by decide +kernel, by decide +kernel⟩, List.mem_of_getElem? (i := 163) (by decide +kernel), List.mem_of_getElem? (i := 657) (by decide +kernel), List.mem_of_getElem? (i := 658) (by decide +kernel)⟩
theorem lw_p5 : lw_okq (⟨"ChainLoader$Writer", "addSegmentCommand", "(I)V"⟩, 11) := ⟨⟨by decide +kernel, by decide +kernel⟩, List.mem_of_getElem? (i := 163) (by decide +kernel), List.mem_of_getElem? (i := 666) (by decide +kernel), List.mem_of_getElem? (i := 667) (by decide +kernel)⟩
theorem lw_p6 : lw_okq (⟨"ChainLoader$Writer", "addSectionsOf", "(I)V"⟩, 11) := ⟨⟨by decide +kernel, by decide +kernel⟩, List.mem_of_getElem? (i := 163) (by decide +kernel), List.mem_of_getElem? (i := 690) (by decide +kernel), List.mem_of_getElem? (i := 691) (by decide +kernel)⟩
theorem lw_p7 : lw_okq (⟨"ChainLoader$Writer", "addTableCommands", "()V"⟩, 11) := ⟨⟨by decide +kernel, by decide +kernel⟩, List.mem_of_getElem? (i := 163) (by decide +kernel), List.mem_of_getElem? (i := 699) (by decide +kernel), List.mem_of_getElem? (i := 700) (by decide +kernel)⟩
theorem lw_p8 : lw_okq (⟨"ChainLoader$Writer", "addContents", "(I)V"⟩, 11) := ⟨⟨by decide +kernel, by decide +kernel⟩, List.mem_of_getElem? (i := 163) (by decide +kernel), List.mem_of_getElem? (i := 707) (by decide +kernel), List.mem_of_getElem? (i := 708) (by decide +kernel)⟩
theorem lw_p9 : lw_okq (⟨"ChainLoader$Writer", "threaded", "(II)J"⟩, 11) := ⟨⟨by decide +kernel, by decide +kernel⟩, List.mem_of_getElem? (i := 163) (by decide +kernel), List.mem_of_getElem? (i := 719) (by decide +kernel), List.mem_of_getElem? (i := 720) (by decide +kernel)⟩
theorem lw_p10 : lw_okq (⟨"ChainLoader$Writer", "addFixups", "()V"⟩, 11) := ⟨⟨by decide +kernel, by decide +kernel⟩, List.mem_of_getElem? (i := 163) (by decide +kernel), List.mem_of_getElem? (i := 728) (by decide +kernel), List.mem_of_getElem? (i := 729) (by decide +kernel)⟩
theorem lw_p11 : lw_okq (⟨"ChainLoader$Writer", "addPages", "(I)V"⟩, 11) := ⟨⟨by decide +kernel, by decide +kernel⟩, List.mem_of_getElem? (i := 163) (by decide +kernel), List.mem_of_getElem? (i := 733) (by decide +kernel), List.mem_of_getElem? (i := 734) (by decide +kernel)⟩
theorem lw_p12 : lw_okq (⟨"ChainLoader$Writer", "addImports", "()V"⟩, 11) := ⟨⟨by decide +kernel, by decide +kernel⟩, List.mem_of_getElem? (i := 163) (by decide +kernel), List.mem_of_getElem? (i := 738) (by decide +kernel), List.mem_of_getElem? (i := 739) (by decide +kernel)⟩
theorem lw_p13 : lw_okq (⟨"ChainLoader$Writer", "addSymbols", "()V"⟩, 11) := ⟨⟨by decide +kernel, by decide +kernel⟩, List.mem_of_getElem? (i := 163) (by decide +kernel), List.mem_of_getElem? (i := 747) (by decide +kernel), List.mem_of_getElem? (i := 748) (by decide +kernel)⟩
theorem lw_p14 : lw_okq (⟨"ChainLoader$Writer", "addStrings", "()V"⟩, 11) := ⟨⟨by decide +kernel, by decide +kernel⟩, List.mem_of_getElem? (i := 163) (by decide +kernel), List.mem_of_getElem? (i := 752) (by decide +kernel), List.mem_of_getElem? (i := 753) (by decide +kernel)⟩
theorem lw_p15 : lw_okq (⟨"ChainLoader$Exports", "indexOf", "(ILChainLoader$Row;I)I"⟩, 3) := ⟨⟨by decide +kernel, by decide +kernel⟩, List.mem_of_getElem? (i := 203) (by decide +kernel), List.mem_of_getElem? (i := 781) (by decide +kernel), List.mem_of_getElem? (i := 782) (by decide +kernel)⟩
def lw_privs_1 : List (MethodName × Nat) := [(⟨"ChainLoader", "feedNumber", "(I)V"⟩, 9), (⟨"ChainLoader$Told", "hasRoom", "(II)Z"⟩, 19), (⟨"ChainLoader$Writer", "layOut", "()V"⟩, 11), (⟨"ChainLoader$Writer", "layOutFixups", "()V"⟩, 11), (⟨"ChainLoader$Writer", "addHead", "()V"⟩, 11), (⟨"ChainLoader$Writer", "addSegmentCommand", "(I)V"⟩, 11), (⟨"ChainLoader$Writer", "addSectionsOf", "(I)V"⟩, 11), (⟨"ChainLoader$Writer", "addTableCommands", "()V"⟩, 11), (⟨"ChainLoader$Writer", "addContents", "(I)V"⟩, 11), (⟨"ChainLoader$Writer", "threaded", "(II)J"⟩, 11), (⟨"ChainLoader$Writer", "addFixups", "()V"⟩, 11), (⟨"ChainLoader$Writer", "addPages", "(I)V"⟩, 11), (⟨"ChainLoader$Writer", "addImports", "()V"⟩, 11), (⟨"ChainLoader$Writer", "addSymbols", "()V"⟩, 11), (⟨"ChainLoader$Writer", "addStrings", "()V"⟩, 11), (⟨"ChainLoader$Exports", "indexOf", "(ILChainLoader$Row;I)I"⟩, 3)]
theorem lw_r1 : ∀ q ∈ lw_privs_1, lw_okq q := List.forall_mem_cons.mpr ⟨lw_p0, List.forall_mem_cons.mpr ⟨lw_p1, List.forall_mem_cons.mpr ⟨lw_p2, List.forall_mem_cons.mpr ⟨lw_p3, List.forall_mem_cons.mpr ⟨lw_p4, List.forall_mem_cons.mpr ⟨lw_p5, List.forall_mem_cons.mpr ⟨lw_p6, List.forall_mem_cons.mpr ⟨lw_p7, List.forall_mem_cons.mpr ⟨lw_p8, List.forall_mem_cons.mpr ⟨lw_p9, List.forall_mem_cons.mpr ⟨lw_p10, List.forall_mem_cons.mpr ⟨lw_p11, List.forall_mem_cons.mpr ⟨lw_p12, List.forall_mem_cons.mpr ⟨lw_p13, List.forall_mem_cons.mpr ⟨lw_p14, List.forall_mem_cons.mpr ⟨lw_p15, fun _ h => absurd h List.not_mem_nil⟩⟩⟩⟩⟩⟩⟩⟩⟩⟩⟩⟩⟩⟩⟩⟩
theorem lw_p16 : lw_okq (⟨"ChainLoader$Commands", "forget", "()V"⟩, 12) := ⟨⟨by decide +kernel, by decide +kernel⟩, List.mem_of_getElem? (i := 241) (by decide +kernel), List.mem_of_getElem? (i := 800) (by decide +kernel), List.mem_of_getElem? (i := 801) (by decide +kernel)⟩
theorem lw_p17 : lw_okq (⟨"ChainLoader$Commands", "headHolds", "()Z"⟩, 12) := ⟨⟨by decide +kernel, by decide +kernel⟩, List.mem_of_getElem? (i := 241) (by decide +kernel), List.mem_of_getElem? (i := 808) (by decide +kernel), List.mem_of_getElem? (i := 809) (by decide +kernel)⟩
theorem lw_p18 : lw_okq (⟨"ChainLoader$Commands", "u4", "(I)J"⟩, 12) := ⟨⟨by decide +kernel, by decide +kernel⟩, List.mem_of_getElem? (i := 241) (by decide +kernel), List.mem_of_getElem? (i := 816) (by decide +kernel), List.mem_of_getElem? (i := 817) (by decide +kernel)⟩
theorem lw_p19 : lw_okq (⟨"ChainLoader$Commands", "commandsHold", "()Z"⟩, 12) := ⟨⟨by decide +kernel, by decide +kernel⟩, List.mem_of_getElem? (i := 241) (by decide +kernel), List.mem_of_getElem? (i := 827) (by decide +kernel), List.mem_of_getElem? (i := 828) (by decide +kernel)⟩
theorem lw_p20 : lw_okq (⟨"ChainLoader$Commands", "sizeHolds", "(II)Z"⟩, 12) := ⟨⟨by decide +kernel, by decide +kernel⟩, List.mem_of_getElem? (i := 241) (by decide +kernel), List.mem_of_getElem? (i := 831) (by decide +kernel), List.mem_of_getElem? (i := 832) (by decide +kernel)⟩
theorem lw_p21 : lw_okq (⟨"ChainLoader$Commands", "commandHolds", "(I)Z"⟩, 12) := ⟨⟨by decide +kernel, by decide +kernel⟩, List.mem_of_getElem? (i := 241) (by decide +kernel), List.mem_of_getElem? (i := 836) (by decide +kernel), List.mem_of_getElem? (i := 837) (by decide +kernel)⟩
theorem lw_p22 : lw_okq (⟨"ChainLoader$Commands", "segmentHolds", "(I)Z"⟩, 12) := ⟨⟨by decide +kernel, by decide +kernel⟩, List.mem_of_getElem? (i := 241) (by decide +kernel), List.mem_of_getElem? (i := 841) (by decide +kernel), List.mem_of_getElem? (i := 842) (by decide +kernel)⟩
theorem lw_p23 : lw_okq (⟨"ChainLoader$Commands", "u8", "(I)J"⟩, 12) := ⟨⟨by decide +kernel, by decide +kernel⟩, List.mem_of_getElem? (i := 241) (by decide +kernel), List.mem_of_getElem? (i := 851) (by decide +kernel), List.mem_of_getElem? (i := 852) (by decide +kernel)⟩
theorem lw_p24 : lw_okq (⟨"ChainLoader$Commands", "spanHolds", "(I)Z"⟩, 12) := ⟨⟨by decide +kernel, by decide +kernel⟩, List.mem_of_getElem? (i := 241) (by decide +kernel), List.mem_of_getElem? (i := 856) (by decide +kernel), List.mem_of_getElem? (i := 857) (by decide +kernel)⟩
theorem lw_p25 : lw_okq (⟨"ChainLoader$Commands", "sectionsHold", "(I)Z"⟩, 12) := ⟨⟨by decide +kernel, by decide +kernel⟩, List.mem_of_getElem? (i := 241) (by decide +kernel), List.mem_of_getElem? (i := 879) (by decide +kernel), List.mem_of_getElem? (i := 880) (by decide +kernel)⟩
theorem lw_p26 : lw_okq (⟨"ChainLoader$Commands", "symtabHolds", "(I)Z"⟩, 12) := ⟨⟨by decide +kernel, by decide +kernel⟩, List.mem_of_getElem? (i := 241) (by decide +kernel), List.mem_of_getElem? (i := 884) (by decide +kernel), List.mem_of_getElem? (i := 885) (by decide +kernel)⟩
theorem lw_p27 : lw_okq (⟨"ChainLoader$Commands", "chainsHold", "(I)Z"⟩, 12) := ⟨⟨by decide +kernel, by decide +kernel⟩, List.mem_of_getElem? (i := 241) (by decide +kernel), List.mem_of_getElem? (i := 891) (by decide +kernel), List.mem_of_getElem? (i := 892) (by decide +kernel)⟩
theorem lw_p28 : lw_okq (⟨"ChainLoader$Commands", "symbolsHold", "()Z"⟩, 12) := ⟨⟨by decide +kernel, by decide +kernel⟩, List.mem_of_getElem? (i := 241) (by decide +kernel), List.mem_of_getElem? (i := 896) (by decide +kernel), List.mem_of_getElem? (i := 897) (by decide +kernel)⟩
theorem lw_p29 : lw_okq (⟨"ChainLoader$Fixups", "headHolds", "()Z"⟩, 13) := ⟨⟨by decide +kernel, by decide +kernel⟩, List.mem_of_getElem? (i := 326) (by decide +kernel), List.mem_of_getElem? (i := 913) (by decide +kernel), List.mem_of_getElem? (i := 914) (by decide +kernel)⟩
theorem lw_p30 : lw_okq (⟨"ChainLoader$Fixups", "u4", "(I)J"⟩, 13) := ⟨⟨by decide +kernel, by decide +kernel⟩, List.mem_of_getElem? (i := 326) (by decide +kernel), List.mem_of_getElem? (i := 917) (by decide +kernel), List.mem_of_getElem? (i := 918) (by decide +kernel)⟩
theorem lw_p31 : lw_okq (⟨"ChainLoader$Fixups", "needs", "(ZI)Z"⟩, 13) := ⟨⟨by decide +kernel, by decide +kernel⟩, List.mem_of_getElem? (i := 326) (by decide +kernel), List.mem_of_getElem? (i := 922) (by decide +kernel), List.mem_of_getElem? (i := 923) (by decide +kernel)⟩
def lw_privs_2 : List (MethodName × Nat) := [(⟨"ChainLoader$Commands", "forget", "()V"⟩, 12), (⟨"ChainLoader$Commands", "headHolds", "()Z"⟩, 12), (⟨"ChainLoader$Commands", "u4", "(I)J"⟩, 12), (⟨"ChainLoader$Commands", "commandsHold", "()Z"⟩, 12), (⟨"ChainLoader$Commands", "sizeHolds", "(II)Z"⟩, 12), (⟨"ChainLoader$Commands", "commandHolds", "(I)Z"⟩, 12), (⟨"ChainLoader$Commands", "segmentHolds", "(I)Z"⟩, 12), (⟨"ChainLoader$Commands", "u8", "(I)J"⟩, 12), (⟨"ChainLoader$Commands", "spanHolds", "(I)Z"⟩, 12), (⟨"ChainLoader$Commands", "sectionsHold", "(I)Z"⟩, 12), (⟨"ChainLoader$Commands", "symtabHolds", "(I)Z"⟩, 12), (⟨"ChainLoader$Commands", "chainsHold", "(I)Z"⟩, 12), (⟨"ChainLoader$Commands", "symbolsHold", "()Z"⟩, 12), (⟨"ChainLoader$Fixups", "headHolds", "()Z"⟩, 13), (⟨"ChainLoader$Fixups", "u4", "(I)J"⟩, 13), (⟨"ChainLoader$Fixups", "needs", "(ZI)Z"⟩, 13)]
theorem lw_r2 : ∀ q ∈ lw_privs_2, lw_okq q := List.forall_mem_cons.mpr ⟨lw_p16, List.forall_mem_cons.mpr ⟨lw_p17, List.forall_mem_cons.mpr ⟨lw_p18, List.forall_mem_cons.mpr ⟨lw_p19, List.forall_mem_cons.mpr ⟨lw_p20, List.forall_mem_cons.mpr ⟨lw_p21, List.forall_mem_cons.mpr ⟨lw_p22, List.forall_mem_cons.mpr ⟨lw_p23, List.forall_mem_cons.mpr ⟨lw_p24, List.forall_mem_cons.mpr ⟨lw_p25, List.forall_mem_cons.mpr ⟨lw_p26, List.forall_mem_cons.mpr ⟨lw_p27, List.forall_mem_cons.mpr ⟨lw_p28, List.forall_mem_cons.mpr ⟨lw_p29, List.forall_mem_cons.mpr ⟨lw_p30, List.forall_mem_cons.mpr ⟨lw_p31, fun _ h => absurd h List.not_mem_nil⟩⟩⟩⟩⟩⟩⟩⟩⟩⟩⟩⟩⟩⟩⟩⟩
theorem lw_p32 : lw_okq (⟨"ChainLoader$Fixups", "startsHold", "()Z"⟩, 13) := ⟨⟨by decide +kernel, by decide +kernel⟩, List.mem_of_getElem? (i := 326) (by decide +kernel), List.mem_of_getElem? (i := 927) (by decide +kernel), List.mem_of_getElem? (i := 928) (by decide +kernel)⟩
theorem lw_p33 : lw_okq (⟨"ChainLoader$Fixups", "importsHold", "()Z"⟩, 13) := ⟨⟨by decide +kernel, by decide +kernel⟩, List.mem_of_getElem? (i := 326) (by decide +kernel), List.mem_of_getElem? (i := 932) (by decide +kernel), List.mem_of_getElem? (i := 933) (by decide +kernel)⟩
theorem lw_p34 : lw_okq (⟨"ChainLoader$Fixups", "allPagesHold", "()Z"⟩, 13) := ⟨⟨by decide +kernel, by decide +kernel⟩, List.mem_of_getElem? (i := 326) (by decide +kernel), List.mem_of_getElem? (i := 944) (by decide +kernel), List.mem_of_getElem? (i := 945) (by decide +kernel)⟩
theorem lw_p35 : lw_okq (⟨"ChainLoader$Fixups", "pagesHold", "(II)Z"⟩, 13) := ⟨⟨by decide +kernel, by decide +kernel⟩, List.mem_of_getElem? (i := 326) (by decide +kernel), List.mem_of_getElem? (i := 949) (by decide +kernel), List.mem_of_getElem? (i := 950) (by decide +kernel)⟩
theorem lw_p36 : lw_okq (⟨"ChainLoader$Fixups", "u2", "(I)I"⟩, 13) := ⟨⟨by decide +kernel, by decide +kernel⟩, List.mem_of_getElem? (i := 326) (by decide +kernel), List.mem_of_getElem? (i := 953) (by decide +kernel), List.mem_of_getElem? (i := 954) (by decide +kernel)⟩
theorem lw_p37 : lw_okq (⟨"ChainLoader$Fixups", "allChainsHold", "()Z"⟩, 13) := ⟨⟨by decide +kernel, by decide +kernel⟩, List.mem_of_getElem? (i := 326) (by decide +kernel), List.mem_of_getElem? (i := 960) (by decide +kernel), List.mem_of_getElem? (i := 961) (by decide +kernel)⟩
theorem lw_p38 : lw_okq (⟨"ChainLoader$Fixups", "chainsOfHold", "(II)Z"⟩, 13) := ⟨⟨by decide +kernel, by decide +kernel⟩, List.mem_of_getElem? (i := 326) (by decide +kernel), List.mem_of_getElem? (i := 964) (by decide +kernel), List.mem_of_getElem? (i := 965) (by decide +kernel)⟩
theorem lw_p39 : lw_okq (⟨"ChainLoader$Fixups", "chainHolds", "(III)Z"⟩, 13) := ⟨⟨by decide +kernel, by decide +kernel⟩, List.mem_of_getElem? (i := 326) (by decide +kernel), List.mem_of_getElem? (i := 970) (by decide +kernel), List.mem_of_getElem? (i := 971) (by decide +kernel)⟩
theorem lw_p40 : lw_okq (⟨"ChainLoader$Fixups", "pointerHolds", "(JI)Z"⟩, 13) := ⟨⟨by decide +kernel, by decide +kernel⟩, List.mem_of_getElem? (i := 326) (by decide +kernel), List.mem_of_getElem? (i := 982) (by decide +kernel), List.mem_of_getElem? (i := 983) (by decide +kernel)⟩
theorem lw_p41 : lw_okq (⟨"ChainLoader$Loaded", "takeSegments", "(LChainLoader$Row;LChainLoader$Segments;I)V"⟩, 7) := ⟨⟨by decide +kernel, by decide +kernel⟩, List.mem_of_getElem? (i := 395) (by decide +kernel), List.mem_of_getElem? (i := 1006) (by decide +kernel), List.mem_of_getElem? (i := 1007) (by decide +kernel)⟩
theorem lw_p42 : lw_okq (⟨"java/lang/Throwable", "fillInStackTrace", "(I)Ljava/lang/Throwable;"⟩, 6) := ⟨⟨by decide +kernel, by decide +kernel⟩, List.mem_of_getElem? (i := 1108) (by decide +kernel), List.mem_of_getElem? (i := 1106) (by decide +kernel), List.mem_of_getElem? (i := 1107) (by decide +kernel)⟩
theorem lw_p43 : lw_okq (⟨"ChainLoaderModel", "come", "(I)V"⟩, 78) := ⟨⟨by decide +kernel, by decide +kernel⟩, List.mem_of_getElem? (i := 1148) (by decide +kernel), List.mem_of_getElem? (i := 1399) (by decide +kernel), List.mem_of_getElem? (i := 1400) (by decide +kernel)⟩
theorem lw_p44 : lw_okq (⟨"ChainLoaderModel", "takes", "(I)Z"⟩, 78) := ⟨⟨by decide +kernel, by decide +kernel⟩, List.mem_of_getElem? (i := 1148) (by decide +kernel), List.mem_of_getElem? (i := 1424) (by decide +kernel), List.mem_of_getElem? (i := 1425) (by decide +kernel)⟩
theorem lw_p45 : lw_okq (⟨"ChainLoaderModel", "isSegment", "(I)Z"⟩, 78) := ⟨⟨by decide +kernel, by decide +kernel⟩, List.mem_of_getElem? (i := 1148) (by decide +kernel), List.mem_of_getElem? (i := 1432) (by decide +kernel), List.mem_of_getElem? (i := 1433) (by decide +kernel)⟩
theorem lw_p46 : lw_okq (⟨"ChainLoaderModel", "points", "(IIJIZ)Z"⟩, 78) := ⟨⟨by decide +kernel, by decide +kernel⟩, List.mem_of_getElem? (i := 1148) (by decide +kernel), List.mem_of_getElem? (i := 1453) (by decide +kernel), List.mem_of_getElem? (i := 1454) (by decide +kernel)⟩
theorem lw_p47 : lw_okq (⟨"ChainLoaderModel", "pointerAtPlace", "(II)I"⟩, 78) := ⟨⟨by decide +kernel, by decide +kernel⟩, List.mem_of_getElem? (i := 1148) (by decide +kernel), List.mem_of_getElem? (i := 1457) (by decide +kernel), List.mem_of_getElem? (i := 1458) (by decide +kernel)⟩
def lw_privs_3 : List (MethodName × Nat) := [(⟨"ChainLoader$Fixups", "startsHold", "()Z"⟩, 13), (⟨"ChainLoader$Fixups", "importsHold", "()Z"⟩, 13), (⟨"ChainLoader$Fixups", "allPagesHold", "()Z"⟩, 13), (⟨"ChainLoader$Fixups", "pagesHold", "(II)Z"⟩, 13), (⟨"ChainLoader$Fixups", "u2", "(I)I"⟩, 13), (⟨"ChainLoader$Fixups", "allChainsHold", "()Z"⟩, 13), (⟨"ChainLoader$Fixups", "chainsOfHold", "(II)Z"⟩, 13), (⟨"ChainLoader$Fixups", "chainHolds", "(III)Z"⟩, 13), (⟨"ChainLoader$Fixups", "pointerHolds", "(JI)Z"⟩, 13), (⟨"ChainLoader$Loaded", "takeSegments", "(LChainLoader$Row;LChainLoader$Segments;I)V"⟩, 7), (⟨"java/lang/Throwable", "fillInStackTrace", "(I)Ljava/lang/Throwable;"⟩, 6), (⟨"ChainLoaderModel", "come", "(I)V"⟩, 78), (⟨"ChainLoaderModel", "takes", "(I)Z"⟩, 78), (⟨"ChainLoaderModel", "isSegment", "(I)Z"⟩, 78), (⟨"ChainLoaderModel", "points", "(IIJIZ)Z"⟩, 78), (⟨"ChainLoaderModel", "pointerAtPlace", "(II)I"⟩, 78)]
theorem lw_r3 : ∀ q ∈ lw_privs_3, lw_okq q := List.forall_mem_cons.mpr ⟨lw_p32, List.forall_mem_cons.mpr ⟨lw_p33, List.forall_mem_cons.mpr ⟨lw_p34, List.forall_mem_cons.mpr ⟨lw_p35, List.forall_mem_cons.mpr ⟨lw_p36, List.forall_mem_cons.mpr ⟨lw_p37, List.forall_mem_cons.mpr ⟨lw_p38, List.forall_mem_cons.mpr ⟨lw_p39, List.forall_mem_cons.mpr ⟨lw_p40, List.forall_mem_cons.mpr ⟨lw_p41, List.forall_mem_cons.mpr ⟨lw_p42, List.forall_mem_cons.mpr ⟨lw_p43, List.forall_mem_cons.mpr ⟨lw_p44, List.forall_mem_cons.mpr ⟨lw_p45, List.forall_mem_cons.mpr ⟨lw_p46, List.forall_mem_cons.mpr ⟨lw_p47, fun _ h => absurd h List.not_mem_nil⟩⟩⟩⟩⟩⟩⟩⟩⟩⟩⟩⟩⟩⟩⟩⟩
theorem lw_p48 : lw_okq (⟨"ChainLoaderModel", "gone", "(I)V"⟩, 78) := ⟨⟨by decide +kernel, by decide +kernel⟩, List.mem_of_getElem? (i := 1148) (by decide +kernel), List.mem_of_getElem? (i := 1461) (by decide +kernel), List.mem_of_getElem? (i := 1462) (by decide +kernel)⟩
theorem lw_p49 : lw_okq (⟨"ChainLoaderModel", "move", "(II)V"⟩, 78) := ⟨⟨by decide +kernel, by decide +kernel⟩, List.mem_of_getElem? (i := 1148) (by decide +kernel), List.mem_of_getElem? (i := 1465) (by decide +kernel), List.mem_of_getElem? (i := 1466) (by decide +kernel)⟩
theorem lw_p50 : lw_okq (⟨"ChainLoaderModel", "sectionsOf", "(I)I"⟩, 78) := ⟨⟨by decide +kernel, by decide +kernel⟩, List.mem_of_getElem? (i := 1148) (by decide +kernel), List.mem_of_getElem? (i := 1481) (by decide +kernel), List.mem_of_getElem? (i := 1482) (by decide +kernel)⟩
theorem lw_p51 : lw_okq (⟨"ChainLoaderModel", "even", "(I)V"⟩, 78) := ⟨⟨by decide +kernel, by decide +kernel⟩, List.mem_of_getElem? (i := 1148) (by decide +kernel), List.mem_of_getElem? (i := 1485) (by decide +kernel), List.mem_of_getElem? (i := 1486) (by decide +kernel)⟩
theorem lw_p52 : lw_okq (⟨"ChainLoaderModel", "put", "(JI)V"⟩, 78) := ⟨⟨by decide +kernel, by decide +kernel⟩, List.mem_of_getElem? (i := 1148) (by decide +kernel), List.mem_of_getElem? (i := 1489) (by decide +kernel), List.mem_of_getElem? (i := 1490) (by decide +kernel)⟩
theorem lw_p53 : lw_okq (⟨"ChainLoaderModel", "writeFixups", "()V"⟩, 78) := ⟨⟨by decide +kernel, by decide +kernel⟩, List.mem_of_getElem? (i := 1148) (by decide +kernel), List.mem_of_getElem? (i := 1493) (by decide +kernel), List.mem_of_getElem? (i := 1494) (by decide +kernel)⟩
theorem lw_p54 : lw_okq (⟨"ChainLoaderModel", "hasPointers", "(I)Z"⟩, 78) := ⟨⟨by decide +kernel, by decide +kernel⟩, List.mem_of_getElem? (i := 1148) (by decide +kernel), List.mem_of_getElem? (i := 1497) (by decide +kernel), List.mem_of_getElem? (i := 1498) (by decide +kernel)⟩
theorem lw_p55 : lw_okq (⟨"ChainLoaderModel", "spanOf", "(I)I"⟩, 78) := ⟨⟨by decide +kernel, by decide +kernel⟩, List.mem_of_getElem? (i := 1148) (by decide +kernel), List.mem_of_getElem? (i := 1501) (by decide +kernel), List.mem_of_getElem? (i := 1502) (by decide +kernel)⟩
theorem lw_p56 : lw_okq (⟨"ChainLoaderModel", "addressOf", "(I)I"⟩, 78) := ⟨⟨by decide +kernel, by decide +kernel⟩, List.mem_of_getElem? (i := 1148) (by decide +kernel), List.mem_of_getElem? (i := 1506) (by decide +kernel), List.mem_of_getElem? (i := 1507) (by decide +kernel)⟩
theorem lw_p57 : lw_okq (⟨"ChainLoaderModel", "longOf", "(I)I"⟩, 78) := ⟨⟨by decide +kernel, by decide +kernel⟩, List.mem_of_getElem? (i := 1148) (by decide +kernel), List.mem_of_getElem? (i := 1511) (by decide +kernel), List.mem_of_getElem? (i := 1512) (by decide +kernel)⟩
theorem lw_p58 : lw_okq (⟨"ChainLoaderModel", "putName", "(II)V"⟩, 78) := ⟨⟨by decide +kernel, by decide +kernel⟩, List.mem_of_getElem? (i := 1148) (by decide +kernel), List.mem_of_getElem? (i := 1515) (by decide +kernel), List.mem_of_getElem? (i := 1516) (by decide +kernel)⟩
theorem lw_p59 : lw_okq (⟨"ChainLoaderModel", "putFours", "(JJJJ)V"⟩, 78) := ⟨⟨by decide +kernel, by decide +kernel⟩, List.mem_of_getElem? (i := 1148) (by decide +kernel), List.mem_of_getElem? (i := 1520) (by decide +kernel), List.mem_of_getElem? (i := 1521) (by decide +kernel)⟩
theorem lw_p60 : lw_okq (⟨"ChainLoaderModel", "writePointers", "()V"⟩, 78) := ⟨⟨by decide +kernel, by decide +kernel⟩, List.mem_of_getElem? (i := 1148) (by decide +kernel), List.mem_of_getElem? (i := 1525) (by decide +kernel), List.mem_of_getElem? (i := 1526) (by decide +kernel)⟩
theorem lw_p61 : lw_okq (⟨"ChainLoaderModel", "writeCommands", "(I)V"⟩, 78) := ⟨⟨by decide +kernel, by decide +kernel⟩, List.mem_of_getElem? (i := 1148) (by decide +kernel), List.mem_of_getElem? (i := 1530) (by decide +kernel), List.mem_of_getElem? (i := 1531) (by decide +kernel)⟩
theorem lw_p62 : lw_okq (⟨"ChainLoaderModel", "isTaped", "(II)Z"⟩, 78) := ⟨⟨by decide +kernel, by decide +kernel⟩, List.mem_of_getElem? (i := 1148) (by decide +kernel), List.mem_of_getElem? (i := 1559) (by decide +kernel), List.mem_of_getElem? (i := 1560) (by decide +kernel)⟩
theorem lw_p63 : lw_okq (⟨"ChainLoaderModel", "reads", "()Z"⟩, 78) := ⟨⟨by decide +kernel, by decide +kernel⟩, List.mem_of_getElem? (i := 1148) (by decide +kernel), List.mem_of_getElem? (i := 1567) (by decide +kernel), List.mem_of_getElem? (i := 1568) (by decide +kernel)⟩
def lw_privs_4 : List (MethodName × Nat) := [(⟨"ChainLoaderModel", "gone", "(I)V"⟩, 78), (⟨"ChainLoaderModel", "move", "(II)V"⟩, 78), (⟨"ChainLoaderModel", "sectionsOf", "(I)I"⟩, 78), (⟨"ChainLoaderModel", "even", "(I)V"⟩, 78), (⟨"ChainLoaderModel", "put", "(JI)V"⟩, 78), (⟨"ChainLoaderModel", "writeFixups", "()V"⟩, 78), (⟨"ChainLoaderModel", "hasPointers", "(I)Z"⟩, 78), (⟨"ChainLoaderModel", "spanOf", "(I)I"⟩, 78), (⟨"ChainLoaderModel", "addressOf", "(I)I"⟩, 78), (⟨"ChainLoaderModel", "longOf", "(I)I"⟩, 78), (⟨"ChainLoaderModel", "putName", "(II)V"⟩, 78), (⟨"ChainLoaderModel", "putFours", "(JJJJ)V"⟩, 78), (⟨"ChainLoaderModel", "writePointers", "()V"⟩, 78), (⟨"ChainLoaderModel", "writeCommands", "(I)V"⟩, 78), (⟨"ChainLoaderModel", "isTaped", "(II)Z"⟩, 78), (⟨"ChainLoaderModel", "reads", "()Z"⟩, 78)]
theorem lw_r4 : ∀ q ∈ lw_privs_4, lw_okq q := List.forall_mem_cons.mpr ⟨lw_p48, List.forall_mem_cons.mpr ⟨lw_p49, List.forall_mem_cons.mpr ⟨lw_p50, List.forall_mem_cons.mpr ⟨lw_p51, List.forall_mem_cons.mpr ⟨lw_p52, List.forall_mem_cons.mpr ⟨lw_p53, List.forall_mem_cons.mpr ⟨lw_p54, List.forall_mem_cons.mpr ⟨lw_p55, List.forall_mem_cons.mpr ⟨lw_p56, List.forall_mem_cons.mpr ⟨lw_p57, List.forall_mem_cons.mpr ⟨lw_p58, List.forall_mem_cons.mpr ⟨lw_p59, List.forall_mem_cons.mpr ⟨lw_p60, List.forall_mem_cons.mpr ⟨lw_p61, List.forall_mem_cons.mpr ⟨lw_p62, List.forall_mem_cons.mpr ⟨lw_p63, fun _ h => absurd h List.not_mem_nil⟩⟩⟩⟩⟩⟩⟩⟩⟩⟩⟩⟩⟩⟩⟩⟩
theorem lw_p64 : lw_okq (⟨"ChainLoaderModel", "bad", "(IJ)Z"⟩, 78) := ⟨⟨by decide +kernel, by decide +kernel⟩, List.mem_of_getElem? (i := 1148) (by decide +kernel), List.mem_of_getElem? (i := 1571) (by decide +kernel), List.mem_of_getElem? (i := 1572) (by decide +kernel)⟩
theorem lw_p65 : lw_okq (⟨"ChainLoaderModel", "four", "(J)J"⟩, 78) := ⟨⟨by decide +kernel, by decide +kernel⟩, List.mem_of_getElem? (i := 1148) (by decide +kernel), List.mem_of_getElem? (i := 1575) (by decide +kernel), List.mem_of_getElem? (i := 1576) (by decide +kernel)⟩
theorem lw_p66 : lw_okq (⟨"ChainLoaderModel", "readSegment", "(JJ)Z"⟩, 78) := ⟨⟨by decide +kernel, by decide +kernel⟩, List.mem_of_getElem? (i := 1148) (by decide +kernel), List.mem_of_getElem? (i := 1583) (by decide +kernel), List.mem_of_getElem? (i := 1584) (by decide +kernel)⟩
theorem lw_p67 : lw_okq (⟨"ChainLoaderModel", "isNumber", "(J)Z"⟩, 78) := ⟨⟨by decide +kernel, by decide +kernel⟩, List.mem_of_getElem? (i := 1148) (by decide +kernel), List.mem_of_getElem? (i := 1590) (by decide +kernel), List.mem_of_getElem? (i := 1591) (by decide +kernel)⟩
theorem lw_p68 : lw_okq (⟨"ChainLoaderModel", "eight", "(J)J"⟩, 78) := ⟨⟨by decide +kernel, by decide +kernel⟩, List.mem_of_getElem? (i := 1148) (by decide +kernel), List.mem_of_getElem? (i := 1594) (by decide +kernel), List.mem_of_getElem? (i := 1595) (by decide +kernel)⟩
theorem lw_p69 : lw_okq (⟨"ChainLoaderModel", "readTable", "(JJ)Z"⟩, 78) := ⟨⟨by decide +kernel, by decide +kernel⟩, List.mem_of_getElem? (i := 1148) (by decide +kernel), List.mem_of_getElem? (i := 1602) (by decide +kernel), List.mem_of_getElem? (i := 1603) (by decide +kernel)⟩
theorem lw_p70 : lw_okq (⟨"ChainLoaderModel", "readChains", "(JJ)Z"⟩, 78) := ⟨⟨by decide +kernel, by decide +kernel⟩, List.mem_of_getElem? (i := 1148) (by decide +kernel), List.mem_of_getElem? (i := 1607) (by decide +kernel), List.mem_of_getElem? (i := 1608) (by decide +kernel)⟩
theorem lw_p71 : lw_okq (⟨"ChainLoaderModel", "readsSymbols", "()Z"⟩, 78) := ⟨⟨by decide +kernel, by decide +kernel⟩, List.mem_of_getElem? (i := 1148) (by decide +kernel), List.mem_of_getElem? (i := 1612) (by decide +kernel), List.mem_of_getElem? (i := 1613) (by decide +kernel)⟩
theorem lw_p72 : lw_okq (⟨"ChainLoaderModel", "zero", "(JJ)J"⟩, 78) := ⟨⟨by decide +kernel, by decide +kernel⟩, List.mem_of_getElem? (i := 1148) (by decide +kernel), List.mem_of_getElem? (i := 1616) (by decide +kernel), List.mem_of_getElem? (i := 1617) (by decide +kernel)⟩
theorem lw_p73 : lw_okq (⟨"ChainLoaderModel", "readsFixups", "(I)Z"⟩, 78) := ⟨⟨by decide +kernel, by decide +kernel⟩, List.mem_of_getElem? (i := 1148) (by decide +kernel), List.mem_of_getElem? (i := 1621) (by decide +kernel), List.mem_of_getElem? (i := 1622) (by decide +kernel)⟩
theorem lw_p74 : lw_okq (⟨"ChainLoaderModel", "readsPages", "(IJJ)Z"⟩, 78) := ⟨⟨by decide +kernel, by decide +kernel⟩, List.mem_of_getElem? (i := 1148) (by decide +kernel), List.mem_of_getElem? (i := 1625) (by decide +kernel), List.mem_of_getElem? (i := 1626) (by decide +kernel)⟩
theorem lw_p75 : lw_okq (⟨"ChainLoaderModel", "two", "(J)I"⟩, 78) := ⟨⟨by decide +kernel, by decide +kernel⟩, List.mem_of_getElem? (i := 1148) (by decide +kernel), List.mem_of_getElem? (i := 1630) (by decide +kernel), List.mem_of_getElem? (i := 1631) (by decide +kernel)⟩
theorem lw_p76 : lw_okq (⟨"ChainLoaderModel", "walks", "(IIIJ)Z"⟩, 78) := ⟨⟨by decide +kernel, by decide +kernel⟩, List.mem_of_getElem? (i := 1148) (by decide +kernel), List.mem_of_getElem? (i := 1634) (by decide +kernel), List.mem_of_getElem? (i := 1635) (by decide +kernel)⟩
theorem lw_p77 : lw_okq (⟨"ChainLoaderModel", "isWithin", "(IIII)Z"⟩, 78) := ⟨⟨by decide +kernel, by decide +kernel⟩, List.mem_of_getElem? (i := 1148) (by decide +kernel), List.mem_of_getElem? (i := 1638) (by decide +kernel), List.mem_of_getElem? (i := 1639) (by decide +kernel)⟩
theorem lw_p78 : lw_okq (⟨"ChainLoaderModel", "wordOf", "(IJ)J"⟩, 78) := ⟨⟨by decide +kernel, by decide +kernel⟩, List.mem_of_getElem? (i := 1148) (by decide +kernel), List.mem_of_getElem? (i := 1642) (by decide +kernel), List.mem_of_getElem? (i := 1643) (by decide +kernel)⟩
theorem lw_p79 : lw_okq (⟨"ChainLoaderModel", "isWeakImport", "(J)Z"⟩, 78) := ⟨⟨by decide +kernel, by decide +kernel⟩, List.mem_of_getElem? (i := 1148) (by decide +kernel), List.mem_of_getElem? (i := 1649) (by decide +kernel), List.mem_of_getElem? (i := 1650) (by decide +kernel)⟩
def lw_privs_5 : List (MethodName × Nat) := [(⟨"ChainLoaderModel", "bad", "(IJ)Z"⟩, 78), (⟨"ChainLoaderModel", "four", "(J)J"⟩, 78), (⟨"ChainLoaderModel", "readSegment", "(JJ)Z"⟩, 78), (⟨"ChainLoaderModel", "isNumber", "(J)Z"⟩, 78), (⟨"ChainLoaderModel", "eight", "(J)J"⟩, 78), (⟨"ChainLoaderModel", "readTable", "(JJ)Z"⟩, 78), (⟨"ChainLoaderModel", "readChains", "(JJ)Z"⟩, 78), (⟨"ChainLoaderModel", "readsSymbols", "()Z"⟩, 78), (⟨"ChainLoaderModel", "zero", "(JJ)J"⟩, 78), (⟨"ChainLoaderModel", "readsFixups", "(I)Z"⟩, 78), (⟨"ChainLoaderModel", "readsPages", "(IJJ)Z"⟩, 78), (⟨"ChainLoaderModel", "two", "(J)I"⟩, 78), (⟨"ChainLoaderModel", "walks", "(IIIJ)Z"⟩, 78), (⟨"ChainLoaderModel", "isWithin", "(IIII)Z"⟩, 78), (⟨"ChainLoaderModel", "wordOf", "(IJ)J"⟩, 78), (⟨"ChainLoaderModel", "isWeakImport", "(J)Z"⟩, 78)]
theorem lw_r5 : ∀ q ∈ lw_privs_5, lw_okq q := List.forall_mem_cons.mpr ⟨lw_p64, List.forall_mem_cons.mpr ⟨lw_p65, List.forall_mem_cons.mpr ⟨lw_p66, List.forall_mem_cons.mpr ⟨lw_p67, List.forall_mem_cons.mpr ⟨lw_p68, List.forall_mem_cons.mpr ⟨lw_p69, List.forall_mem_cons.mpr ⟨lw_p70, List.forall_mem_cons.mpr ⟨lw_p71, List.forall_mem_cons.mpr ⟨lw_p72, List.forall_mem_cons.mpr ⟨lw_p73, List.forall_mem_cons.mpr ⟨lw_p74, List.forall_mem_cons.mpr ⟨lw_p75, List.forall_mem_cons.mpr ⟨lw_p76, List.forall_mem_cons.mpr ⟨lw_p77, List.forall_mem_cons.mpr ⟨lw_p78, List.forall_mem_cons.mpr ⟨lw_p79, fun _ h => absurd h List.not_mem_nil⟩⟩⟩⟩⟩⟩⟩⟩⟩⟩⟩⟩⟩⟩⟩⟩
theorem lw_p80 : lw_okq (⟨"ChainLoaderModel", "importOf", "(J)J"⟩, 78) := ⟨⟨by decide +kernel, by decide +kernel⟩, List.mem_of_getElem? (i := 1148) (by decide +kernel), List.mem_of_getElem? (i := 1653) (by decide +kernel), List.mem_of_getElem? (i := 1654) (by decide +kernel)⟩
theorem lw_p81 : lw_okq (⟨"ChainLoaderModel", "exportFor", "(J)I"⟩, 78) := ⟨⟨by decide +kernel, by decide +kernel⟩, List.mem_of_getElem? (i := 1148) (by decide +kernel), List.mem_of_getElem? (i := 1657) (by decide +kernel), List.mem_of_getElem? (i := 1658) (by decide +kernel)⟩
theorem lw_p82 : lw_okq (⟨"ChainLoaderModel", "fits", "(I)Z"⟩, 78) := ⟨⟨by decide +kernel, by decide +kernel⟩, List.mem_of_getElem? (i := 1148) (by decide +kernel), List.mem_of_getElem? (i := 1662) (by decide +kernel), List.mem_of_getElem? (i := 1663) (by decide +kernel)⟩
theorem lw_p83 : lw_okq (⟨"ChainLoaderModel", "keeps", "(I)V"⟩, 78) := ⟨⟨by decide +kernel, by decide +kernel⟩, List.mem_of_getElem? (i := 1148) (by decide +kernel), List.mem_of_getElem? (i := 1666) (by decide +kernel), List.mem_of_getElem? (i := 1667) (by decide +kernel)⟩
theorem lw_p84 : lw_okq (⟨"ChainLoaderModel", "holds", "(JI)I"⟩, 78) := ⟨⟨by decide +kernel, by decide +kernel⟩, List.mem_of_getElem? (i := 1148) (by decide +kernel), List.mem_of_getElem? (i := 1680) (by decide +kernel), List.mem_of_getElem? (i := 1681) (by decide +kernel)⟩
theorem lw_p85 : lw_okq (⟨"ChainLoaderModel", "byteAt", "(IJ)I"⟩, 78) := ⟨⟨by decide +kernel, by decide +kernel⟩, List.mem_of_getElem? (i := 1148) (by decide +kernel), List.mem_of_getElem? (i := 1684) (by decide +kernel), List.mem_of_getElem? (i := 1685) (by decide +kernel)⟩
def lw_privs_6 : List (MethodName × Nat) := [(⟨"ChainLoaderModel", "importOf", "(J)J"⟩, 78), (⟨"ChainLoaderModel", "exportFor", "(J)I"⟩, 78), (⟨"ChainLoaderModel", "fits", "(I)Z"⟩, 78), (⟨"ChainLoaderModel", "keeps", "(I)V"⟩, 78), (⟨"ChainLoaderModel", "holds", "(JI)I"⟩, 78), (⟨"ChainLoaderModel", "byteAt", "(IJ)I"⟩, 78)]
theorem lw_r6 : ∀ q ∈ lw_privs_6, lw_okq q := List.forall_mem_cons.mpr ⟨lw_p80, List.forall_mem_cons.mpr ⟨lw_p81, List.forall_mem_cons.mpr ⟨lw_p82, List.forall_mem_cons.mpr ⟨lw_p83, List.forall_mem_cons.mpr ⟨lw_p84, List.forall_mem_cons.mpr ⟨lw_p85, fun _ h => absurd h List.not_mem_nil⟩⟩⟩⟩⟩⟩
def lw_privs : List (MethodName × Nat) := lw_privs_1 ++ (lw_privs_2 ++ (lw_privs_3 ++ (lw_privs_4 ++ (lw_privs_5 ++ (lw_privs_6)))))
def lw_tbl : List Cond := k2_sels lw_privs ++ tables_1
theorem lw_privs_ok : ∀ q ∈ lw_privs, lw_okq q := by
  show ∀ q ∈ lw_privs_1 ++ (lw_privs_2 ++ (lw_privs_3 ++ (lw_privs_4 ++ (lw_privs_5 ++ (lw_privs_6))))), lw_okq q
  exact List.forall_mem_append.mpr ⟨lw_r1, List.forall_mem_append.mpr ⟨lw_r2, List.forall_mem_append.mpr ⟨lw_r3, List.forall_mem_append.mpr ⟨lw_r4, List.forall_mem_append.mpr ⟨lw_r5, lw_r6⟩⟩⟩⟩⟩
end
section
def RX0 : String := "ChainLoader$Commands"
def TX0 : u_T := fun k => match k with
  | 0 => ("ChainLoader$Commands", "image", "LChainLoader$Row;", true)
  | 1 => ("ChainLoader$Commands", "fault", "LChainLoader$Fault;", true)
  | 2 => ("ChainLoader$Commands", "segments", "LChainLoader$Segments;", true)
  | 3 => ("ChainLoader$Commands", "sections", "I", false)
  | 4 => ("ChainLoader$Commands", "hasSymtab", "Z", false)
  | 5 => ("ChainLoader$Commands", "symbols", "I", false)
  | 6 => ("ChainLoader$Commands", "symbolsAt", "I", false)
  | 7 => ("ChainLoader$Commands", "strings", "I", false)
  | 8 => ("ChainLoader$Commands", "stringBytes", "I", false)
  | 9 => ("ChainLoader$Commands", "hasChains", "Z", false)
  | 10 => ("ChainLoader$Commands", "fixups", "I", false)
  | _ => ("ChainLoader$Commands", "fixupBytes", "I", false)
def tyX0 : Nat → FieldType := fun k => match k with
  | 0 => .object "ChainLoader$Row"
  | 1 => .object "ChainLoader$Fault"
  | 2 => .object "ChainLoader$Segments"
  | 3 => .int
  | 4 => .boolean
  | 5 => .int
  | 6 => .int
  | 7 => .int
  | 8 => .int
  | 9 => .boolean
  | 10 => .int
  | _ => .int
theorem nmX0 : ∀ a, a < 12 → ∀ b, b < 12 → a ≠ b → (TX0 a).2.1 ≠ (TX0 b).2.1 := by decide +kernel
theorem tyX0_ok : ∀ k, k < 12 → parseFieldDescriptor (TX0 k).2.2.1 = some (tyX0 k) := by decide +kernel
abbrev cX0_init : ByteArray := prog_2_method_1_code
def yX0_init : MethodName := ⟨RX0, "<init>", "(LChainLoader$Row;LChainLoader$Fault;)V"⟩
abbrev cX0_hold : ByteArray := prog_2_method_2_code
def yX0_hold : MethodName := ⟨RX0, "hold", "()Z"⟩
abbrev cX0_forget : ByteArray := prog_2_method_3_code
def yX0_forget : MethodName := ⟨RX0, "forget", "()V"⟩
abbrev cX0_headHolds : ByteArray := prog_2_method_4_code
def yX0_headHolds : MethodName := ⟨RX0, "headHolds", "()Z"⟩
abbrev cX0_commandsHold : ByteArray := prog_2_method_5_code
def yX0_commandsHold : MethodName := ⟨RX0, "commandsHold", "()Z"⟩
abbrev cX0_sizeHolds : ByteArray := prog_2_method_6_code
def yX0_sizeHolds : MethodName := ⟨RX0, "sizeHolds", "(II)Z"⟩
abbrev cX0_commandHolds : ByteArray := prog_2_method_7_code
def yX0_commandHolds : MethodName := ⟨RX0, "commandHolds", "(I)Z"⟩
abbrev cX0_segmentHolds : ByteArray := prog_2_method_8_code
def yX0_segmentHolds : MethodName := ⟨RX0, "segmentHolds", "(I)Z"⟩
abbrev cX0_spanHolds : ByteArray := prog_2_method_9_code
def yX0_spanHolds : MethodName := ⟨RX0, "spanHolds", "(I)Z"⟩
abbrev cX0_sectionsHold : ByteArray := prog_2_method_10_code
def yX0_sectionsHold : MethodName := ⟨RX0, "sectionsHold", "(I)Z"⟩
abbrev cX0_symtabHolds : ByteArray := prog_2_method_11_code
def yX0_symtabHolds : MethodName := ⟨RX0, "symtabHolds", "(I)Z"⟩
abbrev cX0_chainsHold : ByteArray := prog_2_method_12_code
def yX0_chainsHold : MethodName := ⟨RX0, "chainsHold", "(I)Z"⟩
abbrev cX0_symbolsHold : ByteArray := prog_2_method_13_code
def yX0_symbolsHold : MethodName := ⟨RX0, "symbolsHold", "()Z"⟩
abbrev cX0_numberHolds : ByteArray := prog_2_method_14_code
def yX0_numberHolds : MethodName := ⟨RX0, "numberHolds", "(I)Z"⟩
abbrev cX0_u4 : ByteArray := prog_2_method_15_code
def yX0_u4 : MethodName := ⟨RX0, "u4", "(I)J"⟩
abbrev cX0_u8 : ByteArray := prog_2_method_16_code
def yX0_u8 : MethodName := ⟨RX0, "u8", "(I)J"⟩
def RX1 : String := "ChainLoader$Exports"
def TX1 : u_T := fun k => match k with
  | 0 => ("ChainLoader$Exports", "names", "LChainLoader$Names;", true)
  | 1 => ("ChainLoader$Exports", "libraries", "[I", true)
  | _ => ("ChainLoader$Exports", "addresses", "[I", true)
def tyX1 : Nat → FieldType := fun k => match k with
  | 0 => .object "ChainLoader$Names"
  | 1 => .array .int
  | _ => .array .int
theorem nmX1 : ∀ a, a < 3 → ∀ b, b < 3 → a ≠ b → (TX1 a).2.1 ≠ (TX1 b).2.1 := by decide +kernel
theorem tyX1_ok : ∀ k, k < 3 → parseFieldDescriptor (TX1 k).2.2.1 = some (tyX1 k) := by decide +kernel
abbrev cX1_init : ByteArray := prog_3_method_1_code
def yX1_init : MethodName := ⟨RX1, "<init>", "()V"⟩
abbrev cX1_put : ByteArray := prog_3_method_2_code
def yX1_put : MethodName := ⟨RX1, "put", "(LChainLoader$Row;II)Z"⟩
abbrev cX1_indexOf : ByteArray := prog_3_method_3_code
def yX1_indexOf : MethodName := ⟨RX1, "indexOf", "(ILChainLoader$Row;I)I"⟩
abbrev cX1_addressOf : ByteArray := prog_3_method_4_code
def yX1_addressOf : MethodName := ⟨RX1, "addressOf", "(ILChainLoader$Row;I)I"⟩
def RX2 : String := "ChainLoader$Fault"
def TX2 : u_T := fun k => match k with
  | 0 => ("ChainLoader$Fault", "kind", "I", false)
  | _ => ("ChainLoader$Fault", "where", "I", false)
def tyX2 : Nat → FieldType := fun k => match k with
  | 0 => .int
  | _ => .int
theorem nmX2 : ∀ a, a < 2 → ∀ b, b < 2 → a ≠ b → (TX2 a).2.1 ≠ (TX2 b).2.1 := by decide +kernel
theorem tyX2_ok : ∀ k, k < 2 → parseFieldDescriptor (TX2 k).2.2.1 = some (tyX2 k) := by decide +kernel
abbrev cX2_init : ByteArray := prog_4_method_1_code
def yX2_init : MethodName := ⟨RX2, "<init>", "()V"⟩
abbrev cX2_clear : ByteArray := prog_4_method_2_code
def yX2_clear : MethodName := ⟨RX2, "clear", "()V"⟩
abbrev cX2_unless : ByteArray := prog_4_method_3_code
def yX2_unless : MethodName := ⟨RX2, "unless", "(ZII)Z"⟩
def RX3 : String := "ChainLoader$Fixups"
def TX3 : u_T := fun k => match k with
  | 0 => ("ChainLoader$Fixups", "image", "LChainLoader$Row;", true)
  | 1 => ("ChainLoader$Fixups", "fault", "LChainLoader$Fault;", true)
  | 2 => ("ChainLoader$Fixups", "exports", "LChainLoader$Exports;", true)
  | 3 => ("ChainLoader$Fixups", "commands", "LChainLoader$Commands;", true)
  | 4 => ("ChainLoader$Fixups", "segments", "LChainLoader$Segments;", true)
  | 5 => ("ChainLoader$Fixups", "visits", "LChainLoader$Visits;", true)
  | 6 => ("ChainLoader$Fixups", "pagesAt", "[I", true)
  | 7 => ("ChainLoader$Fixups", "importWeak", "[Z", true)
  | 8 => ("ChainLoader$Fixups", "importAddress", "[I", true)
  | 9 => ("ChainLoader$Fixups", "imports", "I", false)
  | 10 => ("ChainLoader$Fixups", "begin", "I", false)
  | 11 => ("ChainLoader$Fixups", "size", "I", false)
  | _ => ("ChainLoader$Fixups", "starts", "I", false)
def tyX3 : Nat → FieldType := fun k => match k with
  | 0 => .object "ChainLoader$Row"
  | 1 => .object "ChainLoader$Fault"
  | 2 => .object "ChainLoader$Exports"
  | 3 => .object "ChainLoader$Commands"
  | 4 => .object "ChainLoader$Segments"
  | 5 => .object "ChainLoader$Visits"
  | 6 => .array .int
  | 7 => .array .boolean
  | 8 => .array .int
  | 9 => .int
  | 10 => .int
  | 11 => .int
  | _ => .int
theorem nmX3 : ∀ a, a < 13 → ∀ b, b < 13 → a ≠ b → (TX3 a).2.1 ≠ (TX3 b).2.1 := by decide +kernel
theorem tyX3_ok : ∀ k, k < 13 → parseFieldDescriptor (TX3 k).2.2.1 = some (tyX3 k) := by decide +kernel
abbrev cX3_init : ByteArray := prog_5_method_1_code
def yX3_init : MethodName := ⟨RX3, "<init>", "(LChainLoader$Row;LChainLoader$Fault;LChainLoader$Exports;LChainLoader$Commands;)V"⟩
abbrev cX3_hold : ByteArray := prog_5_method_2_code
def yX3_hold : MethodName := ⟨RX3, "hold", "()Z"⟩
abbrev cX3_headHolds : ByteArray := prog_5_method_3_code
def yX3_headHolds : MethodName := ⟨RX3, "headHolds", "()Z"⟩
abbrev cX3_startsHold : ByteArray := prog_5_method_4_code
def yX3_startsHold : MethodName := ⟨RX3, "startsHold", "()Z"⟩
abbrev cX3_importsHold : ByteArray := prog_5_method_5_code
def yX3_importsHold : MethodName := ⟨RX3, "importsHold", "()Z"⟩
abbrev cX3_allPagesHold : ByteArray := prog_5_method_6_code
def yX3_allPagesHold : MethodName := ⟨RX3, "allPagesHold", "()Z"⟩
abbrev cX3_pagesHold : ByteArray := prog_5_method_7_code
def yX3_pagesHold : MethodName := ⟨RX3, "pagesHold", "(II)Z"⟩
abbrev cX3_allChainsHold : ByteArray := prog_5_method_8_code
def yX3_allChainsHold : MethodName := ⟨RX3, "allChainsHold", "()Z"⟩
abbrev cX3_chainsOfHold : ByteArray := prog_5_method_9_code
def yX3_chainsOfHold : MethodName := ⟨RX3, "chainsOfHold", "(II)Z"⟩
abbrev cX3_chainHolds : ByteArray := prog_5_method_10_code
def yX3_chainHolds : MethodName := ⟨RX3, "chainHolds", "(III)Z"⟩
abbrev cX3_pointerHolds : ByteArray := prog_5_method_11_code
def yX3_pointerHolds : MethodName := ⟨RX3, "pointerHolds", "(JI)Z"⟩
abbrev cX3_valueOf : ByteArray := prog_5_method_12_code
def yX3_valueOf : MethodName := ⟨RX3, "valueOf", "(JI)J"⟩
abbrev cX3_needs : ByteArray := prog_5_method_13_code
def yX3_needs : MethodName := ⟨RX3, "needs", "(ZI)Z"⟩
abbrev cX3_u2 : ByteArray := prog_5_method_14_code
def yX3_u2 : MethodName := ⟨RX3, "u2", "(I)I"⟩
abbrev cX3_u4 : ByteArray := prog_5_method_15_code
def yX3_u4 : MethodName := ⟨RX3, "u4", "(I)J"⟩
def RX4 : String := "ChainLoader$Loaded"
def TX4 : u_T := fun k => match k with
  | 0 => ("ChainLoader$Loaded", "segments", "LChainLoader$Segments;", true)
  | 1 => ("ChainLoader$Loaded", "memory", "LChainLoader$Row;", true)
  | 2 => ("ChainLoader$Loaded", "visits", "LChainLoader$Visits;", true)
  | 3 => ("ChainLoader$Loaded", "strings", "LChainLoader$Row;", true)
  | 4 => ("ChainLoader$Loaded", "symbolNames", "[I", true)
  | 5 => ("ChainLoader$Loaded", "symbolAddresses", "[I", true)
  | _ => ("ChainLoader$Loaded", "symbols", "I", false)
def tyX4 : Nat → FieldType := fun k => match k with
  | 0 => .object "ChainLoader$Segments"
  | 1 => .object "ChainLoader$Row"
  | 2 => .object "ChainLoader$Visits"
  | 3 => .object "ChainLoader$Row"
  | 4 => .array .int
  | 5 => .array .int
  | _ => .int
theorem nmX4 : ∀ a, a < 7 → ∀ b, b < 7 → a ≠ b → (TX4 a).2.1 ≠ (TX4 b).2.1 := by decide +kernel
theorem tyX4_ok : ∀ k, k < 7 → parseFieldDescriptor (TX4 k).2.2.1 = some (tyX4 k) := by decide +kernel
abbrev cX4_init : ByteArray := prog_6_method_1_code
def yX4_init : MethodName := ⟨RX4, "<init>", "()V"⟩
abbrev cX4_take : ByteArray := prog_6_method_2_code
def yX4_take : MethodName := ⟨RX4, "take", "(LChainLoader$Row;LChainLoader$Commands;I)V"⟩
abbrev cX4_takeSegments : ByteArray := prog_6_method_3_code
def yX4_takeSegments : MethodName := ⟨RX4, "takeSegments", "(LChainLoader$Row;LChainLoader$Segments;I)V"⟩
abbrev cX4_setPointers : ByteArray := prog_6_method_4_code
def yX4_setPointers : MethodName := ⟨RX4, "setPointers", "(LChainLoader$Fixups;I)V"⟩
abbrev cX4_symbolAddress : ByteArray := prog_6_method_5_code
def yX4_symbolAddress : MethodName := ⟨RX4, "symbolAddress", "(LChainLoader$Row;)I"⟩
def RX5 : String := "ChainLoader$Names"
def TX5 : u_T := fun k => match k with
  | 0 => ("ChainLoader$Names", "bytes", "[B", true)
  | 1 => ("ChainLoader$Names", "sizes", "[I", true)
  | _ => ("ChainLoader$Names", "total", "I", false)
def tyX5 : Nat → FieldType := fun k => match k with
  | 0 => .array .byte
  | 1 => .array .int
  | _ => .int
theorem nmX5 : ∀ a, a < 3 → ∀ b, b < 3 → a ≠ b → (TX5 a).2.1 ≠ (TX5 b).2.1 := by decide +kernel
theorem tyX5_ok : ∀ k, k < 3 → parseFieldDescriptor (TX5 k).2.2.1 = some (tyX5 k) := by decide +kernel
abbrev cX5_init : ByteArray := prog_7_method_1_code
def yX5_init : MethodName := ⟨RX5, "<init>", "(I)V"⟩
abbrev cX5_clear : ByteArray := prog_7_method_2_code
def yX5_clear : MethodName := ⟨RX5, "clear", "()V"⟩
abbrev cX5_has : ByteArray := prog_7_method_3_code
def yX5_has : MethodName := ⟨RX5, "has", "(I)Z"⟩
abbrev cX5_takes : ByteArray := prog_7_method_4_code
def yX5_takes : MethodName := ⟨RX5, "takes", "(LChainLoader$Row;)Z"⟩
abbrev cX5_add : ByteArray := prog_7_method_5_code
def yX5_add : MethodName := ⟨RX5, "add", "(LChainLoader$Row;)I"⟩
abbrev cX5_bytesWithZeros : ByteArray := prog_7_method_6_code
def yX5_bytesWithZeros : MethodName := ⟨RX5, "bytesWithZeros", "()I"⟩
abbrev cX5_addFilledTo : ByteArray := prog_7_method_7_code
def yX5_addFilledTo : MethodName := ⟨RX5, "addFilledTo", "(LChainLoader$Row;I)V"⟩
abbrev cX5_addAllTo : ByteArray := prog_7_method_8_code
def yX5_addAllTo : MethodName := ⟨RX5, "addAllTo", "(LChainLoader$Row;)V"⟩
def RX6 : String := "ChainLoader$Row"
def TX6 : u_T := fun k => match k with
  | 0 => ("ChainLoader$Row", "bytes", "[B", true)
  | _ => ("ChainLoader$Row", "size", "I", false)
def tyX6 : Nat → FieldType := fun k => match k with
  | 0 => .array .byte
  | _ => .int
theorem nmX6 : ∀ a, a < 2 → ∀ b, b < 2 → a ≠ b → (TX6 a).2.1 ≠ (TX6 b).2.1 := by decide +kernel
theorem tyX6_ok : ∀ k, k < 2 → parseFieldDescriptor (TX6 k).2.2.1 = some (tyX6 k) := by decide +kernel
abbrev cX6_init : ByteArray := prog_8_method_1_code
def yX6_init : MethodName := ⟨RX6, "<init>", "(I)V"⟩
abbrev cX6_clear : ByteArray := prog_8_method_2_code
def yX6_clear : MethodName := ⟨RX6, "clear", "()V"⟩
abbrev cX6_has : ByteArray := prog_8_method_3_code
def yX6_has : MethodName := ⟨RX6, "has", "(I)Z"⟩
abbrev cX6_shorten : ByteArray := prog_8_method_4_code
def yX6_shorten : MethodName := ⟨RX6, "shorten", "(I)Z"⟩
abbrev cX6_at : ByteArray := prog_8_method_5_code
def yX6_at : MethodName := ⟨RX6, "at", "(I)I"⟩
abbrev cX6_number : ByteArray := prog_8_method_6_code
def yX6_number : MethodName := ⟨RX6, "number", "(II)J"⟩
abbrev cX6_put : ByteArray := prog_8_method_7_code
def yX6_put : MethodName := ⟨RX6, "put", "(IIJ)V"⟩
abbrev cX6_add : ByteArray := prog_8_method_8_code
def yX6_add : MethodName := ⟨RX6, "add", "(IJ)V"⟩
abbrev cX6_addZeros : ByteArray := prog_8_method_9_code
def yX6_addZeros : MethodName := ⟨RX6, "addZeros", "(I)V"⟩
abbrev cX6_addFrom : ByteArray := prog_8_method_10_code
def yX6_addFrom : MethodName := ⟨RX6, "addFrom", "([BII)V"⟩
abbrev cX6_fillUp : ByteArray := prog_8_method_11_code
def yX6_fillUp : MethodName := ⟨RX6, "fillUp", "(I)V"⟩
abbrev cX6_lastZero : ByteArray := prog_8_method_12_code
def yX6_lastZero : MethodName := ⟨RX6, "lastZero", "(II)I"⟩
abbrev cX6_isName : ByteArray := prog_8_method_13_code
def yX6_isName : MethodName := ⟨RX6, "isName", "()Z"⟩
abbrev cX6_reads : ByteArray := prog_8_method_14_code
def yX6_reads : MethodName := ⟨RX6, "reads", "(I[BII)Z"⟩
def RX7 : String := "ChainLoader$Segments"
def TX7 : u_T := fun k => match k with
  | 0 => ("ChainLoader$Segments", "address", "[I", true)
  | 1 => ("ChainLoader$Segments", "span", "[I", true)
  | 2 => ("ChainLoader$Segments", "from", "[I", true)
  | 3 => ("ChainLoader$Segments", "bytes", "[I", true)
  | _ => ("ChainLoader$Segments", "total", "I", false)
def tyX7 : Nat → FieldType := fun k => match k with
  | 0 => .array .int
  | 1 => .array .int
  | 2 => .array .int
  | 3 => .array .int
  | _ => .int
theorem nmX7 : ∀ a, a < 5 → ∀ b, b < 5 → a ≠ b → (TX7 a).2.1 ≠ (TX7 b).2.1 := by decide +kernel
theorem tyX7_ok : ∀ k, k < 5 → parseFieldDescriptor (TX7 k).2.2.1 = some (tyX7 k) := by decide +kernel
abbrev cX7_init : ByteArray := prog_9_method_1_code
def yX7_init : MethodName := ⟨RX7, "<init>", "()V"⟩
abbrev cX7_clear : ByteArray := prog_9_method_2_code
def yX7_clear : MethodName := ⟨RX7, "clear", "()V"⟩
abbrev cX7_add : ByteArray := prog_9_method_3_code
def yX7_add : MethodName := ⟨RX7, "add", "(IIII)V"⟩
abbrev cX7_spanOfAll : ByteArray := prog_9_method_4_code
def yX7_spanOfAll : MethodName := ⟨RX7, "spanOfAll", "()I"⟩
abbrev cX7_shareByte : ByteArray := prog_9_method_5_code
def yX7_shareByte : MethodName := ⟨RX7, "shareByte", "(JJ)Z"⟩
abbrev cX7_fitWith : ByteArray := prog_9_method_6_code
def yX7_fitWith : MethodName := ⟨RX7, "fitWith", "(I)Z"⟩
abbrev cX7_placeOf : ByteArray := prog_9_method_7_code
def yX7_placeOf : MethodName := ⟨RX7, "placeOf", "(II)I"⟩
abbrev cX7_pointerBits : ByteArray := prog_9_method_8_code
def yX7_pointerBits : MethodName := ⟨RX7, "pointerBits", "(LChainLoader$Row;II)J"⟩
def RX8 : String := "ChainLoader$Told"
def TX8 : u_T := fun k => match k with
  | 0 => ("ChainLoader$Told", "base", "I", false)
  | 1 => ("ChainLoader$Told", "page", "I", false)
  | 2 => ("ChainLoader$Told", "segments", "LChainLoader$Names;", true)
  | 3 => ("ChainLoader$Told", "segmentBytes", "[I", true)
  | 4 => ("ChainLoader$Told", "segmentAllowed", "[I", true)
  | 5 => ("ChainLoader$Told", "contents", "[B", true)
  | 6 => ("ChainLoader$Told", "sections", "LChainLoader$Names;", true)
  | 7 => ("ChainLoader$Told", "sectionSegment", "[I", true)
  | 8 => ("ChainLoader$Told", "sectionPlace", "[I", true)
  | 9 => ("ChainLoader$Told", "sectionBytes", "[I", true)
  | 10 => ("ChainLoader$Told", "symbols", "LChainLoader$Names;", true)
  | 11 => ("ChainLoader$Told", "symbolSection", "[I", true)
  | 12 => ("ChainLoader$Told", "symbolPlace", "[I", true)
  | 13 => ("ChainLoader$Told", "imports", "LChainLoader$Names;", true)
  | 14 => ("ChainLoader$Told", "importLibrary", "[I", true)
  | 15 => ("ChainLoader$Told", "importWeak", "[Z", true)
  | 16 => ("ChainLoader$Told", "pointerThere", "[Z", true)
  | 17 => ("ChainLoader$Told", "pointerBits", "[J", true)
  | _ => ("ChainLoader$Told", "pointers", "I", false)
def tyX8 : Nat → FieldType := fun k => match k with
  | 0 => .int
  | 1 => .int
  | 2 => .object "ChainLoader$Names"
  | 3 => .array .int
  | 4 => .array .int
  | 5 => .array .byte
  | 6 => .object "ChainLoader$Names"
  | 7 => .array .int
  | 8 => .array .int
  | 9 => .array .int
  | 10 => .object "ChainLoader$Names"
  | 11 => .array .int
  | 12 => .array .int
  | 13 => .object "ChainLoader$Names"
  | 14 => .array .int
  | 15 => .array .boolean
  | 16 => .array .boolean
  | 17 => .array .long
  | _ => .int
theorem nmX8 : ∀ a, a < 19 → ∀ b, b < 19 → a ≠ b → (TX8 a).2.1 ≠ (TX8 b).2.1 := by decide +kernel
theorem tyX8_ok : ∀ k, k < 19 → parseFieldDescriptor (TX8 k).2.2.1 = some (tyX8 k) := by decide +kernel
abbrev cX8_init : ByteArray := prog_10_method_1_code
def yX8_init : MethodName := ⟨RX8, "<init>", "()V"⟩
abbrev cX8_forget : ByteArray := prog_10_method_2_code
def yX8_forget : MethodName := ⟨RX8, "forget", "(II)V"⟩
abbrev cX8_addSegment : ByteArray := prog_10_method_3_code
def yX8_addSegment : MethodName := ⟨RX8, "addSegment", "(LChainLoader$Row;II)I"⟩
abbrev cX8_setContents : ByteArray := prog_10_method_4_code
def yX8_setContents : MethodName := ⟨RX8, "setContents", "(LChainLoader$Row;II)Z"⟩
abbrev cX8_addSection : ByteArray := prog_10_method_5_code
def yX8_addSection : MethodName := ⟨RX8, "addSection", "(LChainLoader$Row;III)I"⟩
abbrev cX8_addSymbol : ByteArray := prog_10_method_6_code
def yX8_addSymbol : MethodName := ⟨RX8, "addSymbol", "(LChainLoader$Row;II)I"⟩
abbrev cX8_addImport : ByteArray := prog_10_method_7_code
def yX8_addImport : MethodName := ⟨RX8, "addImport", "(LChainLoader$Row;IZ)I"⟩
abbrev cX8_setPointer : ByteArray := prog_10_method_8_code
def yX8_setPointer : MethodName := ⟨RX8, "setPointer", "(IIJ)Z"⟩
abbrev cX8_removePointer : ByteArray := prog_10_method_9_code
def yX8_removePointer : MethodName := ⟨RX8, "removePointer", "(II)Z"⟩
abbrev cX8_hasRoom : ByteArray := prog_10_method_10_code
def yX8_hasRoom : MethodName := ⟨RX8, "hasRoom", "(II)Z"⟩
abbrev cX8_hasPointer : ByteArray := prog_10_method_11_code
def yX8_hasPointer : MethodName := ⟨RX8, "hasPointer", "(II)Z"⟩
abbrev cX8_slot : ByteArray := prog_10_method_12_code
def yX8_slot : MethodName := ⟨RX8, "slot", "(II)I"⟩
abbrev cX8_bitsAt : ByteArray := prog_10_method_13_code
def yX8_bitsAt : MethodName := ⟨RX8, "bitsAt", "(II)J"⟩
abbrev cX8_firstPointer : ByteArray := prog_10_method_14_code
def yX8_firstPointer : MethodName := ⟨RX8, "firstPointer", "(III)I"⟩
abbrev cX8_spanOf : ByteArray := prog_10_method_15_code
def yX8_spanOf : MethodName := ⟨RX8, "spanOf", "(I)I"⟩
abbrev cX8_addressOf : ByteArray := prog_10_method_16_code
def yX8_addressOf : MethodName := ⟨RX8, "addressOf", "(I)I"⟩
abbrev cX8_sectionsOf : ByteArray := prog_10_method_17_code
def yX8_sectionsOf : MethodName := ⟨RX8, "sectionsOf", "(I)I"⟩
def RX9 : String := "ChainLoader$Visits"
def TX9 : u_T := fun k => match k with
  | 0 => ("ChainLoader$Visits", "address", "[I", true)
  | 1 => ("ChainLoader$Visits", "bits", "[J", true)
  | _ => ("ChainLoader$Visits", "total", "I", false)
def tyX9 : Nat → FieldType := fun k => match k with
  | 0 => .array .int
  | 1 => .array .long
  | _ => .int
theorem nmX9 : ∀ a, a < 3 → ∀ b, b < 3 → a ≠ b → (TX9 a).2.1 ≠ (TX9 b).2.1 := by decide +kernel
theorem tyX9_ok : ∀ k, k < 3 → parseFieldDescriptor (TX9 k).2.2.1 = some (tyX9 k) := by decide +kernel
abbrev cX9_init : ByteArray := prog_11_method_1_code
def yX9_init : MethodName := ⟨RX9, "<init>", "()V"⟩
abbrev cX9_clear : ByteArray := prog_11_method_2_code
def yX9_clear : MethodName := ⟨RX9, "clear", "()V"⟩
abbrev cX9_has : ByteArray := prog_11_method_3_code
def yX9_has : MethodName := ⟨RX9, "has", "(I)Z"⟩
abbrev cX9_add : ByteArray := prog_11_method_4_code
def yX9_add : MethodName := ⟨RX9, "add", "(IJ)V"⟩
abbrev cX9_isBind : ByteArray := prog_11_method_5_code
def yX9_isBind : MethodName := ⟨RX9, "isBind", "(J)Z"⟩
abbrev cX9_nextOf : ByteArray := prog_11_method_6_code
def yX9_nextOf : MethodName := ⟨RX9, "nextOf", "(J)I"⟩
abbrev cX9_subjectOf : ByteArray := prog_11_method_7_code
def yX9_subjectOf : MethodName := ⟨RX9, "subjectOf", "(J)J"⟩
abbrev cX9_extraOf : ByteArray := prog_11_method_8_code
def yX9_extraOf : MethodName := ⟨RX9, "extraOf", "(J)J"⟩
def RX10 : String := "ChainLoader$Writer"
def TX10 : u_T := fun k => match k with
  | 0 => ("ChainLoader$Writer", "told", "LChainLoader$Told;", true)
  | 1 => ("ChainLoader$Writer", "image", "LChainLoader$Row;", true)
  | 2 => ("ChainLoader$Writer", "segmentPlace", "[I", true)
  | 3 => ("ChainLoader$Writer", "pagesPlace", "[I", true)
  | 4 => ("ChainLoader$Writer", "commandBytes", "I", false)
  | 5 => ("ChainLoader$Writer", "fixups", "I", false)
  | 6 => ("ChainLoader$Writer", "fixupBytes", "I", false)
  | 7 => ("ChainLoader$Writer", "importsPlace", "I", false)
  | 8 => ("ChainLoader$Writer", "namesPlace", "I", false)
  | 9 => ("ChainLoader$Writer", "symbols", "I", false)
  | _ => ("ChainLoader$Writer", "strings", "I", false)
def tyX10 : Nat → FieldType := fun k => match k with
  | 0 => .object "ChainLoader$Told"
  | 1 => .object "ChainLoader$Row"
  | 2 => .array .int
  | 3 => .array .int
  | 4 => .int
  | 5 => .int
  | 6 => .int
  | 7 => .int
  | 8 => .int
  | 9 => .int
  | _ => .int
theorem nmX10 : ∀ a, a < 11 → ∀ b, b < 11 → a ≠ b → (TX10 a).2.1 ≠ (TX10 b).2.1 := by decide +kernel
theorem tyX10_ok : ∀ k, k < 11 → parseFieldDescriptor (TX10 k).2.2.1 = some (tyX10 k) := by decide +kernel
abbrev cX10_init : ByteArray := prog_12_method_1_code
def yX10_init : MethodName := ⟨RX10, "<init>", "(LChainLoader$Told;LChainLoader$Row;)V"⟩
abbrev cX10_writeAll : ByteArray := prog_12_method_2_code
def yX10_writeAll : MethodName := ⟨RX10, "writeAll", "()V"⟩
abbrev cX10_layOut : ByteArray := prog_12_method_3_code
def yX10_layOut : MethodName := ⟨RX10, "layOut", "()V"⟩
abbrev cX10_layOutFixups : ByteArray := prog_12_method_4_code
def yX10_layOutFixups : MethodName := ⟨RX10, "layOutFixups", "()V"⟩
abbrev cX10_addHead : ByteArray := prog_12_method_5_code
def yX10_addHead : MethodName := ⟨RX10, "addHead", "()V"⟩
abbrev cX10_addSegmentCommand : ByteArray := prog_12_method_6_code
def yX10_addSegmentCommand : MethodName := ⟨RX10, "addSegmentCommand", "(I)V"⟩
abbrev cX10_addSectionsOf : ByteArray := prog_12_method_7_code
def yX10_addSectionsOf : MethodName := ⟨RX10, "addSectionsOf", "(I)V"⟩
abbrev cX10_addTableCommands : ByteArray := prog_12_method_8_code
def yX10_addTableCommands : MethodName := ⟨RX10, "addTableCommands", "()V"⟩
abbrev cX10_addContents : ByteArray := prog_12_method_9_code
def yX10_addContents : MethodName := ⟨RX10, "addContents", "(I)V"⟩
abbrev cX10_threaded : ByteArray := prog_12_method_10_code
def yX10_threaded : MethodName := ⟨RX10, "threaded", "(II)J"⟩
abbrev cX10_addFixups : ByteArray := prog_12_method_11_code
def yX10_addFixups : MethodName := ⟨RX10, "addFixups", "()V"⟩
abbrev cX10_addPages : ByteArray := prog_12_method_12_code
def yX10_addPages : MethodName := ⟨RX10, "addPages", "(I)V"⟩
abbrev cX10_addImports : ByteArray := prog_12_method_13_code
def yX10_addImports : MethodName := ⟨RX10, "addImports", "()V"⟩
abbrev cX10_addSymbols : ByteArray := prog_12_method_14_code
def yX10_addSymbols : MethodName := ⟨RX10, "addSymbols", "()V"⟩
abbrev cX10_addStrings : ByteArray := prog_12_method_15_code
def yX10_addStrings : MethodName := ⟨RX10, "addStrings", "()V"⟩
def RX11 : String := "ChainLoader"
def TX11 : u_T := fun k => match k with
  | 0 => ("ChainLoader", "tape", "LChainLoader$Row;", true)
  | 1 => ("ChainLoader", "image", "LChainLoader$Row;", true)
  | 2 => ("ChainLoader", "told", "LChainLoader$Told;", true)
  | 3 => ("ChainLoader", "writer", "LChainLoader$Writer;", true)
  | 4 => ("ChainLoader", "exports", "LChainLoader$Exports;", true)
  | 5 => ("ChainLoader", "fault", "LChainLoader$Fault;", true)
  | 6 => ("ChainLoader", "commands", "LChainLoader$Commands;", true)
  | 7 => ("ChainLoader", "fixups", "LChainLoader$Fixups;", true)
  | _ => ("ChainLoader", "loaded", "LChainLoader$Loaded;", true)
def tyX11 : Nat → FieldType := fun k => match k with
  | 0 => .object "ChainLoader$Row"
  | 1 => .object "ChainLoader$Row"
  | 2 => .object "ChainLoader$Told"
  | 3 => .object "ChainLoader$Writer"
  | 4 => .object "ChainLoader$Exports"
  | 5 => .object "ChainLoader$Fault"
  | 6 => .object "ChainLoader$Commands"
  | 7 => .object "ChainLoader$Fixups"
  | _ => .object "ChainLoader$Loaded"
theorem nmX11 : ∀ a, a < 9 → ∀ b, b < 9 → a ≠ b → (TX11 a).2.1 ≠ (TX11 b).2.1 := by decide +kernel
theorem tyX11_ok : ∀ k, k < 9 → parseFieldDescriptor (TX11 k).2.2.1 = some (tyX11 k) := by decide +kernel
abbrev cX11_init : ByteArray := prog_1_method_1_code
def yX11_init : MethodName := ⟨RX11, "<init>", "()V"⟩
abbrev cX11_feed : ByteArray := prog_1_method_2_code
def yX11_feed : MethodName := ⟨RX11, "feed", "(IIIII)I"⟩
abbrev cX11_feedNumber : ByteArray := prog_1_method_3_code
def yX11_feedNumber : MethodName := ⟨RX11, "feedNumber", "(I)V"⟩
abbrev cX11_end : ByteArray := prog_1_method_4_code
def yX11_end : MethodName := ⟨RX11, "end", "(I)Z"⟩
abbrev cX11_anew : ByteArray := prog_1_method_5_code
def yX11_anew : MethodName := ⟨RX11, "anew", "(II)Z"⟩
abbrev cX11_segment : ByteArray := prog_1_method_6_code
def yX11_segment : MethodName := ⟨RX11, "segment", "(II)I"⟩
abbrev cX11_fill : ByteArray := prog_1_method_7_code
def yX11_fill : MethodName := ⟨RX11, "fill", "(II)Z"⟩
abbrev cX11_section : ByteArray := prog_1_method_8_code
def yX11_section : MethodName := ⟨RX11, "section", "(III)I"⟩
abbrev cX11_symbol : ByteArray := prog_1_method_9_code
def yX11_symbol : MethodName := ⟨RX11, "symbol", "(II)I"⟩
abbrev cX11_imports : ByteArray := prog_1_method_10_code
def yX11_imports : MethodName := ⟨RX11, "imports", "(IZ)I"⟩
abbrev cX11_rebase : ByteArray := prog_1_method_11_code
def yX11_rebase : MethodName := ⟨RX11, "rebase", "(IIJI)Z"⟩
abbrev cX11_bind : ByteArray := prog_1_method_12_code
def yX11_bind : MethodName := ⟨RX11, "bind", "(IIII)Z"⟩
abbrev cX11_drop : ByteArray := prog_1_method_13_code
def yX11_drop : MethodName := ⟨RX11, "drop", "(II)Z"⟩
abbrev cX11_write : ByteArray := prog_1_method_14_code
def yX11_write : MethodName := ⟨RX11, "write", "()I"⟩
abbrev cX11_image : ByteArray := prog_1_method_15_code
def yX11_image : MethodName := ⟨RX11, "image", "(I)I"⟩
abbrev cX11_damage : ByteArray := prog_1_method_16_code
def yX11_damage : MethodName := ⟨RX11, "damage", "(II)Z"⟩
abbrev cX11_cut : ByteArray := prog_1_method_17_code
def yX11_cut : MethodName := ⟨RX11, "cut", "(I)Z"⟩
abbrev cX11_export : ByteArray := prog_1_method_18_code
def yX11_export : MethodName := ⟨RX11, "export", "(II)Z"⟩
abbrev cX11_load : ByteArray := prog_1_method_19_code
def yX11_load : MethodName := ⟨RX11, "load", "(I)I"⟩
abbrev cX11_place : ByteArray := prog_1_method_20_code
def yX11_place : MethodName := ⟨RX11, "place", "()I"⟩
abbrev cX11_memory : ByteArray := prog_1_method_21_code
def yX11_memory : MethodName := ⟨RX11, "memory", "(I)I"⟩
abbrev cX11_pointer : ByteArray := prog_1_method_22_code
def yX11_pointer : MethodName := ⟨RX11, "pointer", "(I)J"⟩
abbrev cX11_visit : ByteArray := prog_1_method_23_code
def yX11_visit : MethodName := ⟨RX11, "visit", "(II)J"⟩
abbrev cX11_find : ByteArray := prog_1_method_24_code
def yX11_find : MethodName := ⟨RX11, "find", "()I"⟩
abbrev cX11_count : ByteArray := prog_1_method_25_code
def yX11_count : MethodName := ⟨RX11, "count", "(I)I"⟩
abbrev cX11_isByte : ByteArray := prog_1_method_26_code
def yX11_isByte : MethodName := ⟨RX11, "isByte", "(I)Z"⟩
abbrev cX11_isLibrary : ByteArray := prog_1_method_27_code
def yX11_isLibrary : MethodName := ⟨RX11, "isLibrary", "(I)Z"⟩
abbrev cX11_isPage : ByteArray := prog_1_method_28_code
def yX11_isPage : MethodName := ⟨RX11, "isPage", "(I)Z"⟩
abbrev cX11_pagesIn : ByteArray := prog_1_method_29_code
def yX11_pagesIn : MethodName := ⟨RX11, "pagesIn", "(II)I"⟩
abbrev cX11_filledUp : ByteArray := prog_1_method_30_code
def yX11_filledUp : MethodName := ⟨RX11, "filledUp", "(II)I"⟩
def RX12 : String := "ChainLoaderModel"
def TX12 : u_T := fun k => match k with
  | 0 => ("ChainLoaderModel", "thrown", "I", false)
  | 1 => ("ChainLoaderModel", "tape", "[I", true)
  | 2 => ("ChainLoaderModel", "taped", "I", false)
  | 3 => ("ChainLoaderModel", "name", "[I", true)
  | 4 => ("ChainLoaderModel", "base", "I", false)
  | 5 => ("ChainLoaderModel", "page", "I", false)
  | 6 => ("ChainLoaderModel", "segments", "I", false)
  | 7 => ("ChainLoaderModel", "sections", "I", false)
  | 8 => ("ChainLoaderModel", "symbols", "I", false)
  | 9 => ("ChainLoaderModel", "imports", "I", false)
  | 10 => ("ChainLoaderModel", "pointers", "I", false)
  | 11 => ("ChainLoaderModel", "exports", "I", false)
  | 12 => ("ChainLoaderModel", "bytes", "[I", true)
  | 13 => ("ChainLoaderModel", "allowed", "[I", true)
  | 14 => ("ChainLoaderModel", "data", "[I", true)
  | 15 => ("ChainLoaderModel", "sectionOf", "[I", true)
  | 16 => ("ChainLoaderModel", "sectionAt", "[I", true)
  | 17 => ("ChainLoaderModel", "sectionSize", "[I", true)
  | 18 => ("ChainLoaderModel", "symbolIn", "[I", true)
  | 19 => ("ChainLoaderModel", "symbolAt", "[I", true)
  | 20 => ("ChainLoaderModel", "library", "[I", true)
  | 21 => ("ChainLoaderModel", "weak", "[Z", true)
  | 22 => ("ChainLoaderModel", "pointerOf", "[I", true)
  | 23 => ("ChainLoaderModel", "pointerAt", "[I", true)
  | 24 => ("ChainLoaderModel", "pointerBy", "[I", true)
  | 25 => ("ChainLoaderModel", "pointerTo", "[J", true)
  | 26 => ("ChainLoaderModel", "isBind", "[Z", true)
  | 27 => ("ChainLoaderModel", "exportOf", "[I", true)
  | 28 => ("ChainLoaderModel", "exportAt", "[I", true)
  | 29 => ("ChainLoaderModel", "image", "[I", true)
  | 30 => ("ChainLoaderModel", "size", "I", false)
  | 31 => ("ChainLoaderModel", "w", "I", false)
  | 32 => ("ChainLoaderModel", "bytesAt", "[I", true)
  | 33 => ("ChainLoaderModel", "fixupsAt", "I", false)
  | 34 => ("ChainLoaderModel", "fixupsSize", "I", false)
  | 35 => ("ChainLoaderModel", "symbolsAt", "I", false)
  | 36 => ("ChainLoaderModel", "stringsAt", "I", false)
  | 37 => ("ChainLoaderModel", "stringsSize", "I", false)
  | 38 => ("ChainLoaderModel", "pagesAt", "[I", true)
  | 39 => ("ChainLoaderModel", "fault", "I", false)
  | 40 => ("ChainLoaderModel", "place", "J", false)
  | 41 => ("ChainLoaderModel", "found", "I", false)
  | 42 => ("ChainLoaderModel", "parts", "I", false)
  | 43 => ("ChainLoaderModel", "spans", "I", false)
  | 44 => ("ChainLoaderModel", "address", "[J", true)
  | 45 => ("ChainLoaderModel", "span", "[J", true)
  | 46 => ("ChainLoaderModel", "from", "[J", true)
  | 47 => ("ChainLoaderModel", "there", "[J", true)
  | 48 => ("ChainLoaderModel", "hasSymbols", "Z", false)
  | 49 => ("ChainLoaderModel", "hasChains", "Z", false)
  | 50 => ("ChainLoaderModel", "symbolPlace", "J", false)
  | 51 => ("ChainLoaderModel", "symbolMany", "J", false)
  | 52 => ("ChainLoaderModel", "stringPlace", "J", false)
  | 53 => ("ChainLoaderModel", "stringSize", "J", false)
  | 54 => ("ChainLoaderModel", "fixups", "J", false)
  | 55 => ("ChainLoaderModel", "fixupEnd", "J", false)
  | 56 => ("ChainLoaderModel", "importPlace", "J", false)
  | 57 => ("ChainLoaderModel", "importMany", "J", false)
  | 58 => ("ChainLoaderModel", "namePlace", "J", false)
  | 59 => ("ChainLoaderModel", "visits", "I", false)
  | 60 => ("ChainLoaderModel", "visitWord", "[J", true)
  | 61 => ("ChainLoaderModel", "visitOf", "[I", true)
  | 62 => ("ChainLoaderModel", "visitAt", "[I", true)
  | 63 => ("ChainLoaderModel", "loaded", "I", false)
  | 64 => ("ChainLoaderModel", "loadedVisits", "I", false)
  | 65 => ("ChainLoaderModel", "loadedSymbols", "I", false)
  | 66 => ("ChainLoaderModel", "loadedAt", "[J", true)
  | 67 => ("ChainLoaderModel", "loadedSpan", "[J", true)
  | 68 => ("ChainLoaderModel", "loadedFrom", "[I", true)
  | 69 => ("ChainLoaderModel", "memory", "[I", true)
  | 70 => ("ChainLoaderModel", "seenAt", "[J", true)
  | 71 => ("ChainLoaderModel", "seenTo", "[J", true)
  | 72 => ("ChainLoaderModel", "seenBy", "[I", true)
  | 73 => ("ChainLoaderModel", "seenBind", "[Z", true)
  | 74 => ("ChainLoaderModel", "letters", "[I", true)
  | 75 => ("ChainLoaderModel", "nameFrom", "[I", true)
  | 76 => ("ChainLoaderModel", "nameLong", "[I", true)
  | _ => ("ChainLoaderModel", "symbolNow", "[I", true)
def tyX12 : Nat → FieldType := fun k => match k with
  | 0 => .int
  | 1 => .array .int
  | 2 => .int
  | 3 => .array .int
  | 4 => .int
  | 5 => .int
  | 6 => .int
  | 7 => .int
  | 8 => .int
  | 9 => .int
  | 10 => .int
  | 11 => .int
  | 12 => .array .int
  | 13 => .array .int
  | 14 => .array .int
  | 15 => .array .int
  | 16 => .array .int
  | 17 => .array .int
  | 18 => .array .int
  | 19 => .array .int
  | 20 => .array .int
  | 21 => .array .boolean
  | 22 => .array .int
  | 23 => .array .int
  | 24 => .array .int
  | 25 => .array .long
  | 26 => .array .boolean
  | 27 => .array .int
  | 28 => .array .int
  | 29 => .array .int
  | 30 => .int
  | 31 => .int
  | 32 => .array .int
  | 33 => .int
  | 34 => .int
  | 35 => .int
  | 36 => .int
  | 37 => .int
  | 38 => .array .int
  | 39 => .int
  | 40 => .long
  | 41 => .int
  | 42 => .int
  | 43 => .int
  | 44 => .array .long
  | 45 => .array .long
  | 46 => .array .long
  | 47 => .array .long
  | 48 => .boolean
  | 49 => .boolean
  | 50 => .long
  | 51 => .long
  | 52 => .long
  | 53 => .long
  | 54 => .long
  | 55 => .long
  | 56 => .long
  | 57 => .long
  | 58 => .long
  | 59 => .int
  | 60 => .array .long
  | 61 => .array .int
  | 62 => .array .int
  | 63 => .int
  | 64 => .int
  | 65 => .int
  | 66 => .array .long
  | 67 => .array .long
  | 68 => .array .int
  | 69 => .array .int
  | 70 => .array .long
  | 71 => .array .long
  | 72 => .array .int
  | 73 => .array .boolean
  | 74 => .array .int
  | 75 => .array .int
  | 76 => .array .int
  | _ => .array .int
theorem nmX12 : ∀ a, a < 78 → ∀ b, b < 78 → a ≠ b → (TX12 a).2.1 ≠ (TX12 b).2.1 := by decide +kernel
theorem tyX12_ok : ∀ k, k < 78 → parseFieldDescriptor (TX12 k).2.2.1 = some (tyX12 k) := by decide +kernel
abbrev cX12_init : ByteArray := prog_14_method_1_code
def yX12_init : MethodName := ⟨RX12, "<init>", "()V"⟩
abbrev cX12_thrown : ByteArray := prog_14_method_2_code
def yX12_thrown : MethodName := ⟨RX12, "thrown", "()I"⟩
abbrev cX12_come : ByteArray := prog_14_method_3_code
def yX12_come : MethodName := ⟨RX12, "come", "(I)V"⟩
abbrev cX12_feed : ByteArray := prog_14_method_4_code
def yX12_feed : MethodName := ⟨RX12, "feed", "(IIIII)I"⟩
abbrev cX12_end : ByteArray := prog_14_method_5_code
def yX12_end : MethodName := ⟨RX12, "end", "(I)Z"⟩
abbrev cX12_takes : ByteArray := prog_14_method_6_code
def yX12_takes : MethodName := ⟨RX12, "takes", "(I)Z"⟩
abbrev cX12_longOf : ByteArray := prog_14_method_7_code
def yX12_longOf : MethodName := ⟨RX12, "longOf", "(I)I"⟩
abbrev cX12_isPage : ByteArray := prog_14_method_8_code
def yX12_isPage : MethodName := ⟨RX12, "isPage", "(J)Z"⟩
abbrev cX12_anew : ByteArray := prog_14_method_9_code
def yX12_anew : MethodName := ⟨RX12, "anew", "(II)Z"⟩
abbrev cX12_segment : ByteArray := prog_14_method_10_code
def yX12_segment : MethodName := ⟨RX12, "segment", "(II)I"⟩
abbrev cX12_isSegment : ByteArray := prog_14_method_11_code
def yX12_isSegment : MethodName := ⟨RX12, "isSegment", "(I)Z"⟩
abbrev cX12_fill : ByteArray := prog_14_method_12_code
def yX12_fill : MethodName := ⟨RX12, "fill", "(II)Z"⟩
abbrev cX12_section : ByteArray := prog_14_method_13_code
def yX12_section : MethodName := ⟨RX12, "section", "(III)I"⟩
abbrev cX12_symbol : ByteArray := prog_14_method_14_code
def yX12_symbol : MethodName := ⟨RX12, "symbol", "(II)I"⟩
abbrev cX12_imports : ByteArray := prog_14_method_15_code
def yX12_imports : MethodName := ⟨RX12, "imports", "(IZ)I"⟩
abbrev cX12_pointerAtPlace : ByteArray := prog_14_method_16_code
def yX12_pointerAtPlace : MethodName := ⟨RX12, "pointerAtPlace", "(II)I"⟩
abbrev cX12_gone : ByteArray := prog_14_method_17_code
def yX12_gone : MethodName := ⟨RX12, "gone", "(I)V"⟩
abbrev cX12_move : ByteArray := prog_14_method_18_code
def yX12_move : MethodName := ⟨RX12, "move", "(II)V"⟩
abbrev cX12_points : ByteArray := prog_14_method_19_code
def yX12_points : MethodName := ⟨RX12, "points", "(IIJIZ)Z"⟩
abbrev cX12_rebase : ByteArray := prog_14_method_20_code
def yX12_rebase : MethodName := ⟨RX12, "rebase", "(IIJI)Z"⟩
abbrev cX12_bind : ByteArray := prog_14_method_21_code
def yX12_bind : MethodName := ⟨RX12, "bind", "(IIII)Z"⟩
abbrev cX12_drop : ByteArray := prog_14_method_22_code
def yX12_drop : MethodName := ⟨RX12, "drop", "(II)Z"⟩
abbrev cX12_put : ByteArray := prog_14_method_23_code
def yX12_put : MethodName := ⟨RX12, "put", "(JI)V"⟩
abbrev cX12_putFours : ByteArray := prog_14_method_24_code
def yX12_putFours : MethodName := ⟨RX12, "putFours", "(JJJJ)V"⟩
abbrev cX12_putName : ByteArray := prog_14_method_25_code
def yX12_putName : MethodName := ⟨RX12, "putName", "(II)V"⟩
abbrev cX12_even : ByteArray := prog_14_method_26_code
def yX12_even : MethodName := ⟨RX12, "even", "(I)V"⟩
abbrev cX12_spanOf : ByteArray := prog_14_method_27_code
def yX12_spanOf : MethodName := ⟨RX12, "spanOf", "(I)I"⟩
abbrev cX12_addressOf : ByteArray := prog_14_method_28_code
def yX12_addressOf : MethodName := ⟨RX12, "addressOf", "(I)I"⟩
abbrev cX12_sectionsOf : ByteArray := prog_14_method_29_code
def yX12_sectionsOf : MethodName := ⟨RX12, "sectionsOf", "(I)I"⟩
abbrev cX12_write : ByteArray := prog_14_method_30_code
def yX12_write : MethodName := ⟨RX12, "write", "()I"⟩
abbrev cX12_writePointers : ByteArray := prog_14_method_31_code
def yX12_writePointers : MethodName := ⟨RX12, "writePointers", "()V"⟩
abbrev cX12_hasPointers : ByteArray := prog_14_method_32_code
def yX12_hasPointers : MethodName := ⟨RX12, "hasPointers", "(I)Z"⟩
abbrev cX12_writeFixups : ByteArray := prog_14_method_33_code
def yX12_writeFixups : MethodName := ⟨RX12, "writeFixups", "()V"⟩
abbrev cX12_writeCommands : ByteArray := prog_14_method_34_code
def yX12_writeCommands : MethodName := ⟨RX12, "writeCommands", "(I)V"⟩
abbrev cX12_image : ByteArray := prog_14_method_35_code
def yX12_image : MethodName := ⟨RX12, "image", "(I)I"⟩
abbrev cX12_damage : ByteArray := prog_14_method_36_code
def yX12_damage : MethodName := ⟨RX12, "damage", "(II)Z"⟩
abbrev cX12_cut : ByteArray := prog_14_method_37_code
def yX12_cut : MethodName := ⟨RX12, "cut", "(I)Z"⟩
abbrev cX12_export : ByteArray := prog_14_method_38_code
def yX12_export : MethodName := ⟨RX12, "export", "(II)Z"⟩
abbrev cX12_isTaped : ByteArray := prog_14_method_39_code
def yX12_isTaped : MethodName := ⟨RX12, "isTaped", "(II)Z"⟩
abbrev cX12_four : ByteArray := prog_14_method_40_code
def yX12_four : MethodName := ⟨RX12, "four", "(J)J"⟩
abbrev cX12_two : ByteArray := prog_14_method_41_code
def yX12_two : MethodName := ⟨RX12, "two", "(J)I"⟩
abbrev cX12_eight : ByteArray := prog_14_method_42_code
def yX12_eight : MethodName := ⟨RX12, "eight", "(J)J"⟩
abbrev cX12_bad : ByteArray := prog_14_method_43_code
def yX12_bad : MethodName := ⟨RX12, "bad", "(IJ)Z"⟩
abbrev cX12_isNumber : ByteArray := prog_14_method_44_code
def yX12_isNumber : MethodName := ⟨RX12, "isNumber", "(J)Z"⟩
abbrev cX12_load : ByteArray := prog_14_method_45_code
def yX12_load : MethodName := ⟨RX12, "load", "(I)I"⟩
abbrev cX12_reads : ByteArray := prog_14_method_46_code
def yX12_reads : MethodName := ⟨RX12, "reads", "()Z"⟩
abbrev cX12_readSegment : ByteArray := prog_14_method_47_code
def yX12_readSegment : MethodName := ⟨RX12, "readSegment", "(JJ)Z"⟩
abbrev cX12_readTable : ByteArray := prog_14_method_48_code
def yX12_readTable : MethodName := ⟨RX12, "readTable", "(JJ)Z"⟩
abbrev cX12_readChains : ByteArray := prog_14_method_49_code
def yX12_readChains : MethodName := ⟨RX12, "readChains", "(JJ)Z"⟩
abbrev cX12_zero : ByteArray := prog_14_method_50_code
def yX12_zero : MethodName := ⟨RX12, "zero", "(JJ)J"⟩
abbrev cX12_readsSymbols : ByteArray := prog_14_method_51_code
def yX12_readsSymbols : MethodName := ⟨RX12, "readsSymbols", "()Z"⟩
abbrev cX12_readsFixups : ByteArray := prog_14_method_52_code
def yX12_readsFixups : MethodName := ⟨RX12, "readsFixups", "(I)Z"⟩
abbrev cX12_readsPages : ByteArray := prog_14_method_53_code
def yX12_readsPages : MethodName := ⟨RX12, "readsPages", "(IJJ)Z"⟩
abbrev cX12_wordOf : ByteArray := prog_14_method_54_code
def yX12_wordOf : MethodName := ⟨RX12, "wordOf", "(IJ)J"⟩
abbrev cX12_walks : ByteArray := prog_14_method_55_code
def yX12_walks : MethodName := ⟨RX12, "walks", "(IIIJ)Z"⟩
abbrev cX12_isWithin : ByteArray := prog_14_method_56_code
def yX12_isWithin : MethodName := ⟨RX12, "isWithin", "(IIII)Z"⟩
abbrev cX12_importOf : ByteArray := prog_14_method_57_code
def yX12_importOf : MethodName := ⟨RX12, "importOf", "(J)J"⟩
abbrev cX12_isWeakImport : ByteArray := prog_14_method_58_code
def yX12_isWeakImport : MethodName := ⟨RX12, "isWeakImport", "(J)Z"⟩
abbrev cX12_exportFor : ByteArray := prog_14_method_59_code
def yX12_exportFor : MethodName := ⟨RX12, "exportFor", "(J)I"⟩
abbrev cX12_fits : ByteArray := prog_14_method_60_code
def yX12_fits : MethodName := ⟨RX12, "fits", "(I)Z"⟩
abbrev cX12_keeps : ByteArray := prog_14_method_61_code
def yX12_keeps : MethodName := ⟨RX12, "keeps", "(I)V"⟩
abbrev cX12_place : ByteArray := prog_14_method_62_code
def yX12_place : MethodName := ⟨RX12, "place", "()I"⟩
abbrev cX12_holds : ByteArray := prog_14_method_63_code
def yX12_holds : MethodName := ⟨RX12, "holds", "(JI)I"⟩
abbrev cX12_byteAt : ByteArray := prog_14_method_64_code
def yX12_byteAt : MethodName := ⟨RX12, "byteAt", "(IJ)I"⟩
abbrev cX12_memory : ByteArray := prog_14_method_65_code
def yX12_memory : MethodName := ⟨RX12, "memory", "(I)I"⟩
abbrev cX12_pointer : ByteArray := prog_14_method_66_code
def yX12_pointer : MethodName := ⟨RX12, "pointer", "(I)J"⟩
abbrev cX12_visit : ByteArray := prog_14_method_67_code
def yX12_visit : MethodName := ⟨RX12, "visit", "(II)J"⟩
abbrev cX12_find : ByteArray := prog_14_method_68_code
def yX12_find : MethodName := ⟨RX12, "find", "()I"⟩
abbrev cX12_count : ByteArray := prog_14_method_69_code
def yX12_count : MethodName := ⟨RX12, "count", "(I)I"⟩
def RJ9 : String := "java/lang/Math"
def TJ9 : u_T := fun k => match k with
  | _ => ("", "", "", false)
def tyJ9 : Nat → FieldType := fun k => match k with
  | _ => .int
theorem nmJ9 : ∀ a, a < 0 → ∀ b, b < 0 → a ≠ b → (TJ9 a).2.1 ≠ (TJ9 b).2.1 := by decide +kernel
theorem tyJ9_ok : ∀ k, k < 0 → parseFieldDescriptor (TJ9 k).2.2.1 = some (tyJ9 k) := by decide +kernel
abbrev cJ9_max_f86c9 : ByteArray := prog_16_method_66_code
def yJ9_max_f86c9 : MethodName := ⟨RJ9, "max", "(JJ)J"⟩
abbrev cJ9_min_7cf53 : ByteArray := prog_16_method_69_code
def yJ9_min_7cf53 : MethodName := ⟨RJ9, "min", "(II)I"⟩
abbrev cJ9_min_f86c9 : ByteArray := prog_16_method_70_code
def yJ9_min_f86c9 : MethodName := ⟨RJ9, "min", "(JJ)J"⟩
def RJ10 : String := "java/lang/System"
def TJ10 : u_T := fun k => match k with
  | _ => ("", "", "", false)
def tyJ10 : Nat → FieldType := fun k => match k with
  | _ => .int
theorem nmJ10 : ∀ a, a < 0 → ∀ b, b < 0 → a ≠ b → (TJ10 a).2.1 ≠ (TJ10 b).2.1 := by decide +kernel
theorem tyJ10_ok : ∀ k, k < 0 → parseFieldDescriptor (TJ10 k).2.2.1 = some (tyJ10 k) := by decide +kernel
def RJ7 : String := "java/util/Arrays"
def TJ7 : u_T := fun k => match k with
  | _ => ("", "", "", false)
def tyJ7 : Nat → FieldType := fun k => match k with
  | _ => .int
theorem nmJ7 : ∀ a, a < 0 → ∀ b, b < 0 → a ≠ b → (TJ7 a).2.1 ≠ (TJ7 b).2.1 := by decide +kernel
theorem tyJ7_ok : ∀ k, k < 0 → parseFieldDescriptor (TJ7 k).2.2.1 = some (tyJ7 k) := by decide +kernel
abbrev cJ7_rangeCheck_23922 : ByteArray := prog_20_method_30_code
def yJ7_rangeCheck_23922 : MethodName := ⟨RJ7, "rangeCheck", "(III)V"⟩
abbrev cJ7_fill_eb02e : ByteArray := prog_20_method_110_code
def yJ7_fill_eb02e : MethodName := ⟨RJ7, "fill", "([BIIB)V"⟩
def RL : String := "ChainLoaderLaw"
abbrev cL_pointer : ByteArray := method_3_code
def yL_pointer : MethodName := ⟨RL, "pointer", "(LChainLoader;I[J)I"⟩
abbrev cL_visit : ByteArray := method_4_code
def yL_visit : MethodName := ⟨RL, "visit", "(LChainLoader;II[J)I"⟩
abbrev cL_law : ByteArray := code
def yL_law : MethodName := ⟨RL, "law", "([I)Z"⟩
abbrev vwCl : List vw_C := [(RX0, TX0, 12), (RX1, TX1, 3), (RX2, TX2, 2), (RX3, TX3, 13), (RX4, TX4, 7), (RX5, TX5, 3), (RX6, TX6, 2), (RX7, TX7, 5), (RX8, TX8, 19), (RX9, TX9, 3), (RX10, TX10, 11), (RX11, TX11, 9), (RX12, TX12, 78)]
def GT : List Cond := lw_tbl.filter goodWord
theorem GT_ix (i : Nat) {w : Cond} (h : lw_tbl[i]? = some w) (hg : goodWord w = true) : w ∈ GT := List.mem_filter.mpr ⟨List.mem_of_getElem? h, hg⟩
theorem GT_rs (ws : List Cond) (ps : List Nat) (hp : ws = ps.filterMap (fun i => lw_tbl[i]?)) (h : ws.all goodWord = true) : ∀ w ∈ ws, w ∈ GT := by
  intro w hw
  have h1 := List.all_eq_true.mp h w hw
  rw [hp] at hw
  obtain ⟨i, -, hi⟩ := List.mem_filterMap.mp hw
  exact List.mem_filter.mpr ⟨List.mem_of_getElem? hi, h1⟩
theorem GTi1 {w : Cond} (h : w ∈ tables_1_1) : w ∈ tables_1 := List.mem_append_left _ h
theorem GT1 (i : Nat) {w : Cond} (h : tables_1_1[i]? = some w) (hg : goodWord w = true) : w ∈ GT := List.mem_filter.mpr ⟨List.mem_append_right _ (GTi1 (List.mem_of_getElem? h)), hg⟩
theorem GTi2 {w : Cond} (h : w ∈ tables_1_2) : w ∈ tables_1 := List.mem_append_right _ (List.mem_append_left _ h)
theorem GT2 (i : Nat) {w : Cond} (h : tables_1_2[i]? = some w) (hg : goodWord w = true) : w ∈ GT := List.mem_filter.mpr ⟨List.mem_append_right _ (GTi2 (List.mem_of_getElem? h)), hg⟩
theorem GTi3 {w : Cond} (h : w ∈ tables_1_3) : w ∈ tables_1 := List.mem_append_right _ (List.mem_append_right _ (List.mem_append_left _ h))
theorem GT3 (i : Nat) {w : Cond} (h : tables_1_3[i]? = some w) (hg : goodWord w = true) : w ∈ GT := List.mem_filter.mpr ⟨List.mem_append_right _ (GTi3 (List.mem_of_getElem? h)), hg⟩
theorem GTi4 {w : Cond} (h : w ∈ tables_1_4) : w ∈ tables_1 := List.mem_append_right _ (List.mem_append_right _ (List.mem_append_right _ (List.mem_append_left _ h)))
theorem GT4 (i : Nat) {w : Cond} (h : tables_1_4[i]? = some w) (hg : goodWord w = true) : w ∈ GT := List.mem_filter.mpr ⟨List.mem_append_right _ (GTi4 (List.mem_of_getElem? h)), hg⟩
theorem GTi5 {w : Cond} (h : w ∈ tables_1_5) : w ∈ tables_1 := List.mem_append_right _ (List.mem_append_right _ (List.mem_append_right _ (List.mem_append_right _ (List.mem_append_left _ h))))
theorem GT5 (i : Nat) {w : Cond} (h : tables_1_5[i]? = some w) (hg : goodWord w = true) : w ∈ GT := List.mem_filter.mpr ⟨List.mem_append_right _ (GTi5 (List.mem_of_getElem? h)), hg⟩
theorem GTi6 {w : Cond} (h : w ∈ tables_1_6) : w ∈ tables_1 := List.mem_append_right _ (List.mem_append_right _ (List.mem_append_right _ (List.mem_append_right _ (List.mem_append_right _ (List.mem_append_left _ h)))))
theorem GT6 (i : Nat) {w : Cond} (h : tables_1_6[i]? = some w) (hg : goodWord w = true) : w ∈ GT := List.mem_filter.mpr ⟨List.mem_append_right _ (GTi6 (List.mem_of_getElem? h)), hg⟩
theorem GTi7 {w : Cond} (h : w ∈ tables_1_7) : w ∈ tables_1 := List.mem_append_right _ (List.mem_append_right _ (List.mem_append_right _ (List.mem_append_right _ (List.mem_append_right _ (List.mem_append_right _ (List.mem_append_left _ h))))))
theorem GT7 (i : Nat) {w : Cond} (h : tables_1_7[i]? = some w) (hg : goodWord w = true) : w ∈ GT := List.mem_filter.mpr ⟨List.mem_append_right _ (GTi7 (List.mem_of_getElem? h)), hg⟩
theorem GTi8 {w : Cond} (h : w ∈ tables_1_8) : w ∈ tables_1 := List.mem_append_right _ (List.mem_append_right _ (List.mem_append_right _ (List.mem_append_right _ (List.mem_append_right _ (List.mem_append_right _ (List.mem_append_right _ (h)))))))
theorem GT8 (i : Nat) {w : Cond} (h : tables_1_8[i]? = some w) (hg : goodWord w = true) : w ∈ GT := List.mem_filter.mpr ⟨List.mem_append_right _ (GTi8 (List.mem_of_getElem? h)), hg⟩
theorem GTs (i : Nat) {w : Cond} (h : (k2_sels lw_privs)[i]? = some w) (hg : goodWord w = true) : w ∈ GT := List.mem_filter.mpr ⟨List.mem_append_left _ (List.mem_of_getElem? h), hg⟩
theorem ing0 : ∀ w ∈ u_ws RX0 TX0 12, w ∈ GT := GT_rs _ [386, 388, 390, 392, 394, 396, 398, 400, 402, 404, 406, 408] (by decide +kernel) (by decide +kernel)
theorem ing1 : ∀ w ∈ u_ws RX1 TX1 3, w ∈ GT := GT_rs _ [300, 302, 304] (by decide +kernel) (by decide +kernel)
theorem ing2 : ∀ w ∈ u_ws RX2 TX2 2, w ∈ GT := GT_rs _ [321, 323] (by decide +kernel) (by decide +kernel)
theorem ing3 : ∀ w ∈ u_ws RX3 TX3 13, w ∈ GT := GT_rs _ [453, 455, 457, 459, 461, 463, 465, 467, 469, 471, 473, 475, 477] (by decide +kernel) (by decide +kernel)
theorem ing4 : ∀ w ∈ u_ws RX4 TX4 7, w ∈ GT := GT_rs _ [503, 505, 507, 509, 511, 513, 515] (by decide +kernel) (by decide +kernel)
theorem ing5 : ∀ w ∈ u_ws RX5 TX5 3, w ∈ GT := GT_rs _ [159, 161, 163] (by decide +kernel) (by decide +kernel)
theorem ing6 : ∀ w ∈ u_ws RX6 TX6 2, w ∈ GT := GT_rs _ [130, 132] (by decide +kernel) (by decide +kernel)
theorem ing7 : ∀ w ∈ u_ws RX7 TX7 5, w ∈ GT := GT_rs _ [353, 355, 357, 359, 361] (by decide +kernel) (by decide +kernel)
theorem ing8 : ∀ w ∈ u_ws RX8 TX8 19, w ∈ GT := GT_rs _ [207, 209, 211, 213, 215, 217, 219, 221, 223, 225, 227, 229, 231, 233, 235, 237, 239, 241, 243] (by decide +kernel) (by decide +kernel)
theorem ing9 : ∀ w ∈ u_ws RX9 TX9 3, w ∈ GT := GT_rs _ [432, 434, 436] (by decide +kernel) (by decide +kernel)
theorem ing10 : ∀ w ∈ u_ws RX10 TX10 11, w ∈ GT := GT_rs _ [265, 267, 269, 271, 273, 275, 277, 279, 281, 283, 285] (by decide +kernel) (by decide +kernel)
theorem ing11 : ∀ w ∈ u_ws RX11 TX11 9, w ∈ GT := GT_rs _ [527, 529, 531, 533, 535, 537, 539, 541, 543] (by decide +kernel) (by decide +kernel)
theorem ing12 : ∀ w ∈ u_ws RX12 TX12 78, w ∈ GT := GT_rs _ [1319, 1321, 1323, 1325, 1327, 1329, 1331, 1333, 1335, 1337, 1339, 1341, 1343, 1345, 1347, 1349, 1351, 1353, 1355, 1357, 1359, 1361, 1363, 1365, 1367, 1369, 1371, 1373, 1375, 1377, 1379, 1381, 1383, 1385, 1387, 1389, 1391, 1393, 1395, 1397, 1399, 1401, 1403, 1405, 1407, 1409, 1411, 1413, 1415, 1417, 1419, 1421, 1423, 1425, 1427, 1429, 1431, 1433, 1435, 1437, 1439, 1441, 1443, 1445, 1447, 1449, 1451, 1453, 1455, 1457, 1459, 1461, 1463, 1465, 1467, 1469, 1471, 1473] (by decide +kernel) (by decide +kernel)
end
section
/-! the state: numbers by cell and place -/
abbrev St : Type := (Nat → Nat → Int32) × (Nat → Nat → Int64)
def sI (σ : St) (k j : Nat) (v : Int32) : St := (fun a => if a = k then upd (σ.1 k) j v else σ.1 a, σ.2)
def sJ (σ : St) (k j : Nat) (v : Int64) : St := (σ.1, fun a => if a = k then vp_updL (σ.2 k) j v else σ.2 a)
def sR (σ : St) (k : Nat) (f : Nat → Int32) : St := (fun a => if a = k then f else σ.1 a, σ.2)
abbrev Ce : Type := (Nat → Int32) → (Nat → Int64) → va_E

def cT (h : Nat → Nat) (cy : Nat → ClassId) : List Ce := [(fun x y => .inr (11, [.ref (h 1), .ref (h 3), .ref (h 5), .ref (h 30), .ref (h 33), .ref (h 39), .ref (h 40), .ref (h 46), .ref (h 53)])),
  (fun x y => .inr (6, [.ref (h 2), .int (x 1)])),
  (fun x y => .inl (cy 0, 1040, .inl x)),
  (fun x y => .inr (6, [.ref (h 4), .int (x 1)])),
  (fun x y => .inl (cy 0, 6400, .inl x)),
  (fun x y => .inr (8, [.int (x 0), .int (x 1), .ref (h 6), .ref (h 9), .ref (h 10), .ref (h 11), .ref (h 12), .ref (h 15), .ref (h 16), .ref (h 17), .ref (h 18), .ref (h 21), .ref (h 22), .ref (h 23), .ref (h 26), .ref (h 27), .ref (h 28), .ref (h 29), .int (x 18)])),
  (fun x y => .inr (5, [.ref (h 7), .ref (h 8), .int (x 2)])),
  (fun x y => .inl (cy 0, 64, .inl x)),
  (fun x y => .inl (cy 1, 4, .inl x)),
  (fun x y => .inl (cy 1, 4, .inl x)),
  (fun x y => .inl (cy 1, 4, .inl x)),
  (fun x y => .inl (cy 0, 4096, .inl x)),
  (fun x y => .inr (5, [.ref (h 13), .ref (h 14), .int (x 2)])),
  (fun x y => .inl (cy 0, 128, .inl x)),
  (fun x y => .inl (cy 1, 8, .inl x)),
  (fun x y => .inl (cy 1, 8, .inl x)),
  (fun x y => .inl (cy 1, 8, .inl x)),
  (fun x y => .inl (cy 1, 8, .inl x)),
  (fun x y => .inr (5, [.ref (h 19), .ref (h 20), .int (x 2)])),
  (fun x y => .inl (cy 0, 320, .inl x)),
  (fun x y => .inl (cy 1, 20, .inl x)),
  (fun x y => .inl (cy 1, 20, .inl x)),
  (fun x y => .inl (cy 1, 20, .inl x)),
  (fun x y => .inr (5, [.ref (h 24), .ref (h 25), .int (x 2)])),
  (fun x y => .inl (cy 0, 320, .inl x)),
  (fun x y => .inl (cy 1, 20, .inl x)),
  (fun x y => .inl (cy 1, 20, .inl x)),
  (fun x y => .inl (cy 3, 20, .inl x)),
  (fun x y => .inl (cy 3, 1024, .inl x)),
  (fun x y => .inl (cy 2, 1024, .inr (.inl y))),
  (fun x y => .inr (10, [.ref (h 5), .ref (h 3), .ref (h 31), .ref (h 32), .int (x 4), .int (x 5), .int (x 6), .int (x 7), .int (x 8), .int (x 9), .int (x 10)])),
  (fun x y => .inl (cy 1, 4, .inl x)),
  (fun x y => .inl (cy 1, 4, .inl x)),
  (fun x y => .inr (1, [.ref (h 34), .ref (h 37), .ref (h 38)])),
  (fun x y => .inr (5, [.ref (h 35), .ref (h 36), .int (x 2)])),
  (fun x y => .inl (cy 0, 480, .inl x)),
  (fun x y => .inl (cy 1, 30, .inl x)),
  (fun x y => .inl (cy 1, 30, .inl x)),
  (fun x y => .inl (cy 1, 30, .inl x)),
  (fun x y => .inr (2, [.int (x 0), .int (x 1)])),
  (fun x y => .inr (0, [.ref (h 3), .ref (h 39), .ref (h 41), .int (x 3), .int (x 4), .int (x 5), .int (x 6), .int (x 7), .int (x 8), .int (x 9), .int (x 10), .int (x 11)])),
  (fun x y => .inr (7, [.ref (h 42), .ref (h 43), .ref (h 44), .ref (h 45), .int (x 4)])),
  (fun x y => .inl (cy 1, 4, .inl x)),
  (fun x y => .inl (cy 1, 4, .inl x)),
  (fun x y => .inl (cy 1, 4, .inl x)),
  (fun x y => .inl (cy 1, 4, .inl x)),
  (fun x y => .inr (3, [.ref (h 3), .ref (h 39), .ref (h 33), .ref (h 40), .ref (h 41), .ref (h 47), .ref (h 50), .ref (h 51), .ref (h 52), .int (x 9), .int (x 10), .int (x 11), .int (x 12)])),
  (fun x y => .inr (9, [.ref (h 48), .ref (h 49), .int (x 2)])),
  (fun x y => .inl (cy 1, 2048, .inl x)),
  (fun x y => .inl (cy 2, 2048, .inr (.inl y))),
  (fun x y => .inl (cy 1, 4, .inl x)),
  (fun x y => .inl (cy 3, 64, .inl x)),
  (fun x y => .inl (cy 1, 64, .inl x)),
  (fun x y => .inr (4, [.ref (h 54), .ref (h 59), .ref (h 61), .ref (h 64), .ref (h 66), .ref (h 67), .int (x 6)])),
  (fun x y => .inr (7, [.ref (h 55), .ref (h 56), .ref (h 57), .ref (h 58), .int (x 4)])),
  (fun x y => .inl (cy 1, 4, .inl x)),
  (fun x y => .inl (cy 1, 4, .inl x)),
  (fun x y => .inl (cy 1, 4, .inl x)),
  (fun x y => .inl (cy 1, 4, .inl x)),
  (fun x y => .inr (6, [.ref (h 60), .int (x 1)])),
  (fun x y => .inl (cy 0, 16384, .inl x)),
  (fun x y => .inr (9, [.ref (h 62), .ref (h 63), .int (x 2)])),
  (fun x y => .inl (cy 1, 2048, .inl x)),
  (fun x y => .inl (cy 2, 2048, .inr (.inl y))),
  (fun x y => .inr (6, [.ref (h 65), .int (x 1)])),
  (fun x y => .inl (cy 0, 6400, .inl x)),
  (fun x y => .inl (cy 1, 64, .inl x)),
  (fun x y => .inl (cy 1, 64, .inl x)),
  (fun x y => .inr (12, [.int (x 0), .ref (h 69), .int (x 2), .ref (h 70), .int (x 4), .int (x 5), .int (x 6), .int (x 7), .int (x 8), .int (x 9), .int (x 10), .int (x 11), .ref (h 71), .ref (h 72), .ref (h 73), .ref (h 74), .ref (h 75), .ref (h 76), .ref (h 77), .ref (h 78), .ref (h 79), .ref (h 80), .ref (h 81), .ref (h 82), .ref (h 83), .ref (h 84), .ref (h 85), .ref (h 86), .ref (h 87), .ref (h 88), .int (x 30), .int (x 31), .ref (h 89), .int (x 33), .int (x 34), .int (x 35), .int (x 36), .int (x 37), .ref (h 90), .int (x 39), .long (y 40), .int (x 41), .int (x 42), .int (x 43), .ref (h 91), .ref (h 92), .ref (h 93), .ref (h 94), .int (x 48), .int (x 49), .long (y 50), .long (y 51), .long (y 52), .long (y 53), .long (y 54), .long (y 55), .long (y 56), .long (y 57), .long (y 58), .int (x 59), .ref (h 95), .ref (h 96), .ref (h 97), .int (x 63), .int (x 64), .int (x 65), .ref (h 98), .ref (h 99), .ref (h 100), .ref (h 101), .ref (h 102), .ref (h 103), .ref (h 104), .ref (h 105), .ref (h 106), .ref (h 107), .ref (h 108), .ref (h 109)])),
  (fun x y => .inl (cy 1, 1040, .inl x)),
  (fun x y => .inl (cy 1, 1312, .inl x)),
  (fun x y => .inl (cy 1, 4, .inl x)),
  (fun x y => .inl (cy 1, 4, .inl x)),
  (fun x y => .inl (cy 1, 4096, .inl x)),
  (fun x y => .inl (cy 1, 9, .inl x)),
  (fun x y => .inl (cy 1, 9, .inl x)),
  (fun x y => .inl (cy 1, 9, .inl x)),
  (fun x y => .inl (cy 1, 20, .inl x)),
  (fun x y => .inl (cy 1, 20, .inl x)),
  (fun x y => .inl (cy 1, 20, .inl x)),
  (fun x y => .inl (cy 3, 20, .inl x)),
  (fun x y => .inl (cy 1, 101, .inl x)),
  (fun x y => .inl (cy 1, 101, .inl x)),
  (fun x y => .inl (cy 1, 101, .inl x)),
  (fun x y => .inl (cy 2, 101, .inr (.inl y))),
  (fun x y => .inl (cy 3, 101, .inl x)),
  (fun x y => .inl (cy 1, 30, .inl x)),
  (fun x y => .inl (cy 1, 30, .inl x)),
  (fun x y => .inl (cy 1, 9000, .inl x)),
  (fun x y => .inl (cy 1, 4, .inl x)),
  (fun x y => .inl (cy 1, 4, .inl x)),
  (fun x y => .inl (cy 2, 4, .inr (.inl y))),
  (fun x y => .inl (cy 2, 4, .inr (.inl y))),
  (fun x y => .inl (cy 2, 4, .inr (.inl y))),
  (fun x y => .inl (cy 2, 4, .inr (.inl y))),
  (fun x y => .inl (cy 2, 2100, .inr (.inl y))),
  (fun x y => .inl (cy 1, 2100, .inl x)),
  (fun x y => .inl (cy 1, 2100, .inl x)),
  (fun x y => .inl (cy 2, 4, .inr (.inl y))),
  (fun x y => .inl (cy 2, 4, .inr (.inl y))),
  (fun x y => .inl (cy 1, 4, .inl x)),
  (fun x y => .inl (cy 1, 16384, .inl x)),
  (fun x y => .inl (cy 2, 2100, .inr (.inl y))),
  (fun x y => .inl (cy 2, 2100, .inr (.inl y))),
  (fun x y => .inl (cy 1, 2100, .inl x)),
  (fun x y => .inl (cy 3, 2100, .inl x)),
  (fun x y => .inl (cy 1, 9000, .inl x)),
  (fun x y => .inl (cy 1, 64, .inl x)),
  (fun x y => .inl (cy 1, 64, .inl x)),
  (fun x y => .inl (cy 1, 64, .inl x)),
  (fun x y => .inl (cy 2, 1, .inr (.inl y)))]
abbrev NC : Nat := 111
theorem cT_len (h : Nat → Nat) (cy : Nat → ClassId) : (cT h cy).length = 111 := rfl
def cF (h : Nat → Nat) (cy : Nat → ClassId) (k : Nat) : Ce := (cT h cy).getD k (fun _ _ => .inr (0, []))
def wd (h : Nat → Nat) (cy : Nat → ClassId) (σ : St) : va_W := (List.range NC).map (fun k => (h k, cF h cy k (σ.1 k) (σ.2 k)))
def Sh (k : Nat) (f : (Nat → Nat) → (Nat → ClassId) → Ce) : Prop := k < NC ∧ ∀ h cy, cF h cy k = f h cy
def Inj (h : Nat → Nat) : Prop := ∀ i j, i < NC → j < NC → h i = h j → i = j
def Az (h : Nat → Nat) (sz : Nat) : Nat → Prop := fun q => (∃ k, k < NC ∧ q = h k) ∨ sz ≤ q
def tyL (cy : Nat → ClassId) : List (ClassId × FieldType) := [(cy 0, .byte), (cy 1, .int), (cy 2, .long), (cy 3, .boolean)]
theorem wd_get {h : Nat → Nat} {cy : Nat → ClassId} {σ : St} {k : Nat} (hk : k < NC) : (wd h cy σ)[k]? = some (h k, cF h cy k (σ.1 k) (σ.2 k)) := by
  simp only [wd, List.getElem?_map, List.getElem?_range hk, Option.map_some]
theorem wd_at {h : Nat → Nat} {cy : Nat → ClassId} {σ : St} {k : Nat} {f : (Nat → Nat) → (Nat → ClassId) → Ce} (hk : Sh k f) : (wd h cy σ)[k]? = some (h k, f h cy (σ.1 k) (σ.2 k)) := by
  rw [wd_get hk.1, hk.2]
theorem wd_set {h : Nat → Nat} {cy : Nat → ClassId} {σ : St} (σ' : St) {k : Nat} {e : va_E} (hk : k < NC) (h1 : ∀ a, a ≠ k → σ'.1 a = σ.1 a) (h2 : ∀ a, a ≠ k → σ'.2 a = σ.2 a) (he : e = cF h cy k (σ'.1 k) (σ'.2 k)) : (wd h cy σ).set k (h k, e) = wd h cy σ' := by
  apply List.ext_getElem?
  intro i
  rw [List.getElem?_set]
  by_cases hi : k = i
  · subst hi
    have hl : k < (wd h cy σ).length := by simpa [wd] using hk
    rw [if_pos rfl, if_pos hl, wd_get hk, he]
  · rw [if_neg hi]
    by_cases hn : i < NC
    · rw [wd_get hn, wd_get hn, h1 i (fun q => hi q.symm), h2 i (fun q => hi q.symm)]
    · have e1 : (wd h cy σ)[i]? = none := List.getElem?_eq_none (by simpa [wd] using Nat.le_of_not_lt hn)
      have e2 : (wd h cy σ')[i]? = none := List.getElem?_eq_none (by simpa [wd] using Nat.le_of_not_lt hn)
      rw [e1, e2]
theorem wd_D {h : Nat → Nat} {cy : Nat → ClassId} {sz : Nat} (hj : Inj h) (σ : St) : va_D (Az h sz) (wd h cy σ) := by
  have key : ∀ i q, (wd h cy σ)[i]? = some q → i < NC ∧ q.1 = h i := by
    intro i q hq
    by_cases hn : i < NC
    · rw [wd_get hn] at hq
      cases hq
      exact ⟨hn, rfl⟩
    · rw [List.getElem?_eq_none (by simpa [wd] using Nat.le_of_not_lt hn)] at hq
      cases hq
  refine ⟨fun i j p q hp hq e => ?_, fun k q hq => ?_⟩
  · obtain ⟨a1, a2⟩ := key i p hp
    obtain ⟨b1, b2⟩ := key j q hq
    exact hj i j a1 b1 (by rw [← a2, ← b2, e])
  · obtain ⟨a1, a2⟩ := key k q hq
    exact Or.inl ⟨k, a1, a2⟩
theorem sI_1 {σ : St} {k j : Nat} {v : Int32} : (sI σ k j v).1 k = upd (σ.1 k) j v := if_pos rfl
theorem sI_n {σ : St} {k j : Nat} {v : Int32} (a : Nat) (ha : a ≠ k) : (sI σ k j v).1 a = σ.1 a := if_neg ha
theorem sJ_1 {σ : St} {k j : Nat} {v : Int64} : (sJ σ k j v).2 k = vp_updL (σ.2 k) j v := if_pos rfl
theorem sJ_n {σ : St} {k j : Nat} {v : Int64} (a : Nat) (ha : a ≠ k) : (sJ σ k j v).2 a = σ.2 a := if_neg ha
theorem sR_1 {σ : St} {k : Nat} {f : Nat → Int32} : (sR σ k f).1 k = f := if_pos rfl
theorem sR_n {σ : St} {k : Nat} {f : Nat → Int32} (a : Nat) (ha : a ≠ k) : (sR σ k f).1 a = σ.1 a := if_neg ha
theorem wd_sI {h : Nat → Nat} {cy : Nat → ClassId} {σ : St} {k j : Nat} {v : Int32} {f : (Nat → Nat) → (Nat → ClassId) → Ce} {e : va_E} (hk : Sh k f) (he : e = f h cy (upd (σ.1 k) j v) (σ.2 k)) : (wd h cy σ).set k (h k, e) = wd h cy (sI σ k j v) :=
  wd_set (sI σ k j v) hk.1 (fun a ha => sI_n a ha) (fun _ _ => rfl) (by rw [he, hk.2, sI_1]; rfl)
theorem wd_sJ {h : Nat → Nat} {cy : Nat → ClassId} {σ : St} {k j : Nat} {v : Int64} {f : (Nat → Nat) → (Nat → ClassId) → Ce} {e : va_E} (hk : Sh k f) (he : e = f h cy (σ.1 k) (vp_updL (σ.2 k) j v)) : (wd h cy σ).set k (h k, e) = wd h cy (sJ σ k j v) :=
  wd_set (sJ σ k j v) hk.1 (fun _ _ => rfl) (fun a ha => sJ_n a ha) (by rw [he, hk.2, sJ_1]; rfl)
theorem wd_sR {h : Nat → Nat} {cy : Nat → ClassId} {σ : St} {k : Nat} {g : Nat → Int32} {f : (Nat → Nat) → (Nat → ClassId) → Ce} {e : va_E} (hk : Sh k f) (he : e = f h cy g (σ.2 k)) : (wd h cy σ).set k (h k, e) = wd h cy (sR σ k g) :=
  wd_set (sR σ k g) hk.1 (fun a ha => sR_n a ha) (fun _ _ => rfl) (by rw [he, hk.2, sR_1]; rfl)
/-! the pure side: what a method does, or none -/
def gd (c : Prop) [Decidable c] {β : Type} (x : Option β) : Option β := if c then x else none
theorem gd_s {c : Prop} [Decidable c] {β : Type} {x : Option β} {y : β} (h : gd c x = some y) : c ∧ x = some y := by
  unfold gd at h
  by_cases hc : c
  · rw [if_pos hc] at h
    exact ⟨hc, h⟩
  · rw [if_neg hc] at h
    cases h
def bi {α β : Type} (x : Option (α × St)) (f : α → St → Option β) : Option β := match x with
  | none => none
  | some q => f q.1 q.2
theorem bi_s {α β : Type} {x : Option (α × St)} {f : α → St → Option β} {y : β} (h : bi x f = some y) : ∃ (a : α) (σ : St), x = some (a, σ) ∧ f a σ = some y := by
  cases x with
  | none => cases h
  | some q => exact ⟨q.1, q.2, rfl, h⟩
def bv {β : Type} (x : Option St) (f : St → Option β) : Option β := match x with
  | none => none
  | some q => f q
theorem bv_s {β : Type} {x : Option St} {f : St → Option β} {y : β} (h : bv x f = some y) : ∃ (σ : St), x = some σ ∧ f σ = some y := by
  cases x with
  | none => cases h
  | some q => exact ⟨q, rfl, h⟩
def zn {α β : Type} (x : α) (f : α → β) : β := f x
theorem zn_e {α β : Type} {x z : α} {f : α → β} {y : β} (e : z = x) (h : zn x f = y) : f z = y := by
  subst e
  exact h
theorem itp {c : Prop} {i : Decidable c} {β : Type} {a b y : β} (hc : c) (h : @ite β c i a b = y) : a = y := by
  rw [if_pos hc] at h
  exact h
theorem itn {c : Prop} {i : Decidable c} {β : Type} {a b y : β} (hc : ¬ c) (h : @ite β c i a b = y) : b = y := by
  rw [if_neg hc] at h
  exact h
theorem nn {β : Type} {y : β} {P : Prop} (h : (none : Option β) = some y) : P := by cases h
def it {α β : Type} (F : (α → Option β) → α → Option β) : Nat → α → Option β
  | 0, _ => none
  | n + 1, a => F (it F n) a
theorem it_W {α β : Type} {F : (α → Option β) → α → Option β} {P : α → β → Prop} (hs : ∀ k : α → Option β, (∀ a y, k a = some y → P a y) → ∀ a y, F k a = some y → P a y) : ∀ (n : Nat) (a : α) (y : β), it F n a = some y → P a y := by
  intro n
  induction n with
  | zero => intro a y h; cases h
  | succ n ih => intro a y h; exact hs _ ih a y h
def FU : Nat := 100000

theorem sh_0 : Sh 0 (fun h cy x y => .inr (11, [.ref (h 1), .ref (h 3), .ref (h 5), .ref (h 30), .ref (h 33), .ref (h 39), .ref (h 40), .ref (h 46), .ref (h 53)])) := ⟨by decide, fun _ _ => rfl⟩
theorem sh_1 : Sh 1 (fun h cy x y => .inr (6, [.ref (h 2), .int (x 1)])) := ⟨by decide, fun _ _ => rfl⟩
theorem sh_2 : Sh 2 (fun h cy x y => .inl (cy 0, 1040, .inl x)) := ⟨by decide, fun _ _ => rfl⟩
theorem sh_3 : Sh 3 (fun h cy x y => .inr (6, [.ref (h 4), .int (x 1)])) := ⟨by decide, fun _ _ => rfl⟩
theorem sh_4 : Sh 4 (fun h cy x y => .inl (cy 0, 6400, .inl x)) := ⟨by decide, fun _ _ => rfl⟩
theorem sh_5 : Sh 5 (fun h cy x y => .inr (8, [.int (x 0), .int (x 1), .ref (h 6), .ref (h 9), .ref (h 10), .ref (h 11), .ref (h 12), .ref (h 15), .ref (h 16), .ref (h 17), .ref (h 18), .ref (h 21), .ref (h 22), .ref (h 23), .ref (h 26), .ref (h 27), .ref (h 28), .ref (h 29), .int (x 18)])) := ⟨by decide, fun _ _ => rfl⟩
theorem sh_6 : Sh 6 (fun h cy x y => .inr (5, [.ref (h 7), .ref (h 8), .int (x 2)])) := ⟨by decide, fun _ _ => rfl⟩
theorem sh_7 : Sh 7 (fun h cy x y => .inl (cy 0, 64, .inl x)) := ⟨by decide, fun _ _ => rfl⟩
theorem sh_8 : Sh 8 (fun h cy x y => .inl (cy 1, 4, .inl x)) := ⟨by decide, fun _ _ => rfl⟩
theorem sh_9 : Sh 9 (fun h cy x y => .inl (cy 1, 4, .inl x)) := ⟨by decide, fun _ _ => rfl⟩
theorem sh_10 : Sh 10 (fun h cy x y => .inl (cy 1, 4, .inl x)) := ⟨by decide, fun _ _ => rfl⟩
theorem sh_11 : Sh 11 (fun h cy x y => .inl (cy 0, 4096, .inl x)) := ⟨by decide, fun _ _ => rfl⟩
theorem sh_12 : Sh 12 (fun h cy x y => .inr (5, [.ref (h 13), .ref (h 14), .int (x 2)])) := ⟨by decide, fun _ _ => rfl⟩
theorem sh_13 : Sh 13 (fun h cy x y => .inl (cy 0, 128, .inl x)) := ⟨by decide, fun _ _ => rfl⟩
theorem sh_14 : Sh 14 (fun h cy x y => .inl (cy 1, 8, .inl x)) := ⟨by decide, fun _ _ => rfl⟩
theorem sh_15 : Sh 15 (fun h cy x y => .inl (cy 1, 8, .inl x)) := ⟨by decide, fun _ _ => rfl⟩
theorem sh_16 : Sh 16 (fun h cy x y => .inl (cy 1, 8, .inl x)) := ⟨by decide, fun _ _ => rfl⟩
theorem sh_17 : Sh 17 (fun h cy x y => .inl (cy 1, 8, .inl x)) := ⟨by decide, fun _ _ => rfl⟩
theorem sh_18 : Sh 18 (fun h cy x y => .inr (5, [.ref (h 19), .ref (h 20), .int (x 2)])) := ⟨by decide, fun _ _ => rfl⟩
theorem sh_19 : Sh 19 (fun h cy x y => .inl (cy 0, 320, .inl x)) := ⟨by decide, fun _ _ => rfl⟩
theorem sh_20 : Sh 20 (fun h cy x y => .inl (cy 1, 20, .inl x)) := ⟨by decide, fun _ _ => rfl⟩
theorem sh_21 : Sh 21 (fun h cy x y => .inl (cy 1, 20, .inl x)) := ⟨by decide, fun _ _ => rfl⟩
theorem sh_22 : Sh 22 (fun h cy x y => .inl (cy 1, 20, .inl x)) := ⟨by decide, fun _ _ => rfl⟩
theorem sh_23 : Sh 23 (fun h cy x y => .inr (5, [.ref (h 24), .ref (h 25), .int (x 2)])) := ⟨by decide, fun _ _ => rfl⟩
theorem sh_24 : Sh 24 (fun h cy x y => .inl (cy 0, 320, .inl x)) := ⟨by decide, fun _ _ => rfl⟩
theorem sh_25 : Sh 25 (fun h cy x y => .inl (cy 1, 20, .inl x)) := ⟨by decide, fun _ _ => rfl⟩
theorem sh_26 : Sh 26 (fun h cy x y => .inl (cy 1, 20, .inl x)) := ⟨by decide, fun _ _ => rfl⟩
theorem sh_27 : Sh 27 (fun h cy x y => .inl (cy 3, 20, .inl x)) := ⟨by decide, fun _ _ => rfl⟩
theorem sh_28 : Sh 28 (fun h cy x y => .inl (cy 3, 1024, .inl x)) := ⟨by decide, fun _ _ => rfl⟩
theorem sh_29 : Sh 29 (fun h cy x y => .inl (cy 2, 1024, .inr (.inl y))) := ⟨by decide, fun _ _ => rfl⟩
theorem sh_30 : Sh 30 (fun h cy x y => .inr (10, [.ref (h 5), .ref (h 3), .ref (h 31), .ref (h 32), .int (x 4), .int (x 5), .int (x 6), .int (x 7), .int (x 8), .int (x 9), .int (x 10)])) := ⟨by decide, fun _ _ => rfl⟩
theorem sh_31 : Sh 31 (fun h cy x y => .inl (cy 1, 4, .inl x)) := ⟨by decide, fun _ _ => rfl⟩
theorem sh_32 : Sh 32 (fun h cy x y => .inl (cy 1, 4, .inl x)) := ⟨by decide, fun _ _ => rfl⟩
theorem sh_33 : Sh 33 (fun h cy x y => .inr (1, [.ref (h 34), .ref (h 37), .ref (h 38)])) := ⟨by decide, fun _ _ => rfl⟩
theorem sh_34 : Sh 34 (fun h cy x y => .inr (5, [.ref (h 35), .ref (h 36), .int (x 2)])) := ⟨by decide, fun _ _ => rfl⟩
theorem sh_35 : Sh 35 (fun h cy x y => .inl (cy 0, 480, .inl x)) := ⟨by decide, fun _ _ => rfl⟩
theorem sh_36 : Sh 36 (fun h cy x y => .inl (cy 1, 30, .inl x)) := ⟨by decide, fun _ _ => rfl⟩
theorem sh_37 : Sh 37 (fun h cy x y => .inl (cy 1, 30, .inl x)) := ⟨by decide, fun _ _ => rfl⟩
theorem sh_38 : Sh 38 (fun h cy x y => .inl (cy 1, 30, .inl x)) := ⟨by decide, fun _ _ => rfl⟩
theorem sh_39 : Sh 39 (fun h cy x y => .inr (2, [.int (x 0), .int (x 1)])) := ⟨by decide, fun _ _ => rfl⟩
theorem sh_40 : Sh 40 (fun h cy x y => .inr (0, [.ref (h 3), .ref (h 39), .ref (h 41), .int (x 3), .int (x 4), .int (x 5), .int (x 6), .int (x 7), .int (x 8), .int (x 9), .int (x 10), .int (x 11)])) := ⟨by decide, fun _ _ => rfl⟩
theorem sh_41 : Sh 41 (fun h cy x y => .inr (7, [.ref (h 42), .ref (h 43), .ref (h 44), .ref (h 45), .int (x 4)])) := ⟨by decide, fun _ _ => rfl⟩
theorem sh_42 : Sh 42 (fun h cy x y => .inl (cy 1, 4, .inl x)) := ⟨by decide, fun _ _ => rfl⟩
theorem sh_43 : Sh 43 (fun h cy x y => .inl (cy 1, 4, .inl x)) := ⟨by decide, fun _ _ => rfl⟩
theorem sh_44 : Sh 44 (fun h cy x y => .inl (cy 1, 4, .inl x)) := ⟨by decide, fun _ _ => rfl⟩
theorem sh_45 : Sh 45 (fun h cy x y => .inl (cy 1, 4, .inl x)) := ⟨by decide, fun _ _ => rfl⟩
theorem sh_46 : Sh 46 (fun h cy x y => .inr (3, [.ref (h 3), .ref (h 39), .ref (h 33), .ref (h 40), .ref (h 41), .ref (h 47), .ref (h 50), .ref (h 51), .ref (h 52), .int (x 9), .int (x 10), .int (x 11), .int (x 12)])) := ⟨by decide, fun _ _ => rfl⟩
theorem sh_47 : Sh 47 (fun h cy x y => .inr (9, [.ref (h 48), .ref (h 49), .int (x 2)])) := ⟨by decide, fun _ _ => rfl⟩
theorem sh_48 : Sh 48 (fun h cy x y => .inl (cy 1, 2048, .inl x)) := ⟨by decide, fun _ _ => rfl⟩
theorem sh_49 : Sh 49 (fun h cy x y => .inl (cy 2, 2048, .inr (.inl y))) := ⟨by decide, fun _ _ => rfl⟩
theorem sh_50 : Sh 50 (fun h cy x y => .inl (cy 1, 4, .inl x)) := ⟨by decide, fun _ _ => rfl⟩
theorem sh_51 : Sh 51 (fun h cy x y => .inl (cy 3, 64, .inl x)) := ⟨by decide, fun _ _ => rfl⟩
theorem sh_52 : Sh 52 (fun h cy x y => .inl (cy 1, 64, .inl x)) := ⟨by decide, fun _ _ => rfl⟩
theorem sh_53 : Sh 53 (fun h cy x y => .inr (4, [.ref (h 54), .ref (h 59), .ref (h 61), .ref (h 64), .ref (h 66), .ref (h 67), .int (x 6)])) := ⟨by decide, fun _ _ => rfl⟩
theorem sh_54 : Sh 54 (fun h cy x y => .inr (7, [.ref (h 55), .ref (h 56), .ref (h 57), .ref (h 58), .int (x 4)])) := ⟨by decide, fun _ _ => rfl⟩
theorem sh_55 : Sh 55 (fun h cy x y => .inl (cy 1, 4, .inl x)) := ⟨by decide, fun _ _ => rfl⟩
theorem sh_56 : Sh 56 (fun h cy x y => .inl (cy 1, 4, .inl x)) := ⟨by decide, fun _ _ => rfl⟩
theorem sh_57 : Sh 57 (fun h cy x y => .inl (cy 1, 4, .inl x)) := ⟨by decide, fun _ _ => rfl⟩
theorem sh_58 : Sh 58 (fun h cy x y => .inl (cy 1, 4, .inl x)) := ⟨by decide, fun _ _ => rfl⟩
theorem sh_59 : Sh 59 (fun h cy x y => .inr (6, [.ref (h 60), .int (x 1)])) := ⟨by decide, fun _ _ => rfl⟩
theorem sh_60 : Sh 60 (fun h cy x y => .inl (cy 0, 16384, .inl x)) := ⟨by decide, fun _ _ => rfl⟩
theorem sh_61 : Sh 61 (fun h cy x y => .inr (9, [.ref (h 62), .ref (h 63), .int (x 2)])) := ⟨by decide, fun _ _ => rfl⟩
theorem sh_62 : Sh 62 (fun h cy x y => .inl (cy 1, 2048, .inl x)) := ⟨by decide, fun _ _ => rfl⟩
theorem sh_63 : Sh 63 (fun h cy x y => .inl (cy 2, 2048, .inr (.inl y))) := ⟨by decide, fun _ _ => rfl⟩
theorem sh_64 : Sh 64 (fun h cy x y => .inr (6, [.ref (h 65), .int (x 1)])) := ⟨by decide, fun _ _ => rfl⟩
theorem sh_65 : Sh 65 (fun h cy x y => .inl (cy 0, 6400, .inl x)) := ⟨by decide, fun _ _ => rfl⟩
theorem sh_66 : Sh 66 (fun h cy x y => .inl (cy 1, 64, .inl x)) := ⟨by decide, fun _ _ => rfl⟩
theorem sh_67 : Sh 67 (fun h cy x y => .inl (cy 1, 64, .inl x)) := ⟨by decide, fun _ _ => rfl⟩
theorem sh_68 : Sh 68 (fun h cy x y => .inr (12, [.int (x 0), .ref (h 69), .int (x 2), .ref (h 70), .int (x 4), .int (x 5), .int (x 6), .int (x 7), .int (x 8), .int (x 9), .int (x 10), .int (x 11), .ref (h 71), .ref (h 72), .ref (h 73), .ref (h 74), .ref (h 75), .ref (h 76), .ref (h 77), .ref (h 78), .ref (h 79), .ref (h 80), .ref (h 81), .ref (h 82), .ref (h 83), .ref (h 84), .ref (h 85), .ref (h 86), .ref (h 87), .ref (h 88), .int (x 30), .int (x 31), .ref (h 89), .int (x 33), .int (x 34), .int (x 35), .int (x 36), .int (x 37), .ref (h 90), .int (x 39), .long (y 40), .int (x 41), .int (x 42), .int (x 43), .ref (h 91), .ref (h 92), .ref (h 93), .ref (h 94), .int (x 48), .int (x 49), .long (y 50), .long (y 51), .long (y 52), .long (y 53), .long (y 54), .long (y 55), .long (y 56), .long (y 57), .long (y 58), .int (x 59), .ref (h 95), .ref (h 96), .ref (h 97), .int (x 63), .int (x 64), .int (x 65), .ref (h 98), .ref (h 99), .ref (h 100), .ref (h 101), .ref (h 102), .ref (h 103), .ref (h 104), .ref (h 105), .ref (h 106), .ref (h 107), .ref (h 108), .ref (h 109)])) := ⟨by decide, fun _ _ => rfl⟩
theorem sh_69 : Sh 69 (fun h cy x y => .inl (cy 1, 1040, .inl x)) := ⟨by decide, fun _ _ => rfl⟩
theorem sh_70 : Sh 70 (fun h cy x y => .inl (cy 1, 1312, .inl x)) := ⟨by decide, fun _ _ => rfl⟩
theorem sh_71 : Sh 71 (fun h cy x y => .inl (cy 1, 4, .inl x)) := ⟨by decide, fun _ _ => rfl⟩
theorem sh_72 : Sh 72 (fun h cy x y => .inl (cy 1, 4, .inl x)) := ⟨by decide, fun _ _ => rfl⟩
theorem sh_73 : Sh 73 (fun h cy x y => .inl (cy 1, 4096, .inl x)) := ⟨by decide, fun _ _ => rfl⟩
theorem sh_74 : Sh 74 (fun h cy x y => .inl (cy 1, 9, .inl x)) := ⟨by decide, fun _ _ => rfl⟩
theorem sh_75 : Sh 75 (fun h cy x y => .inl (cy 1, 9, .inl x)) := ⟨by decide, fun _ _ => rfl⟩
theorem sh_76 : Sh 76 (fun h cy x y => .inl (cy 1, 9, .inl x)) := ⟨by decide, fun _ _ => rfl⟩
theorem sh_77 : Sh 77 (fun h cy x y => .inl (cy 1, 20, .inl x)) := ⟨by decide, fun _ _ => rfl⟩
theorem sh_78 : Sh 78 (fun h cy x y => .inl (cy 1, 20, .inl x)) := ⟨by decide, fun _ _ => rfl⟩
theorem sh_79 : Sh 79 (fun h cy x y => .inl (cy 1, 20, .inl x)) := ⟨by decide, fun _ _ => rfl⟩
theorem sh_80 : Sh 80 (fun h cy x y => .inl (cy 3, 20, .inl x)) := ⟨by decide, fun _ _ => rfl⟩
theorem sh_81 : Sh 81 (fun h cy x y => .inl (cy 1, 101, .inl x)) := ⟨by decide, fun _ _ => rfl⟩
theorem sh_82 : Sh 82 (fun h cy x y => .inl (cy 1, 101, .inl x)) := ⟨by decide, fun _ _ => rfl⟩
theorem sh_83 : Sh 83 (fun h cy x y => .inl (cy 1, 101, .inl x)) := ⟨by decide, fun _ _ => rfl⟩
theorem sh_84 : Sh 84 (fun h cy x y => .inl (cy 2, 101, .inr (.inl y))) := ⟨by decide, fun _ _ => rfl⟩
theorem sh_85 : Sh 85 (fun h cy x y => .inl (cy 3, 101, .inl x)) := ⟨by decide, fun _ _ => rfl⟩
theorem sh_86 : Sh 86 (fun h cy x y => .inl (cy 1, 30, .inl x)) := ⟨by decide, fun _ _ => rfl⟩
theorem sh_87 : Sh 87 (fun h cy x y => .inl (cy 1, 30, .inl x)) := ⟨by decide, fun _ _ => rfl⟩
theorem sh_88 : Sh 88 (fun h cy x y => .inl (cy 1, 9000, .inl x)) := ⟨by decide, fun _ _ => rfl⟩
theorem sh_89 : Sh 89 (fun h cy x y => .inl (cy 1, 4, .inl x)) := ⟨by decide, fun _ _ => rfl⟩
theorem sh_90 : Sh 90 (fun h cy x y => .inl (cy 1, 4, .inl x)) := ⟨by decide, fun _ _ => rfl⟩
theorem sh_91 : Sh 91 (fun h cy x y => .inl (cy 2, 4, .inr (.inl y))) := ⟨by decide, fun _ _ => rfl⟩
theorem sh_92 : Sh 92 (fun h cy x y => .inl (cy 2, 4, .inr (.inl y))) := ⟨by decide, fun _ _ => rfl⟩
theorem sh_93 : Sh 93 (fun h cy x y => .inl (cy 2, 4, .inr (.inl y))) := ⟨by decide, fun _ _ => rfl⟩
theorem sh_94 : Sh 94 (fun h cy x y => .inl (cy 2, 4, .inr (.inl y))) := ⟨by decide, fun _ _ => rfl⟩
theorem sh_95 : Sh 95 (fun h cy x y => .inl (cy 2, 2100, .inr (.inl y))) := ⟨by decide, fun _ _ => rfl⟩
theorem sh_96 : Sh 96 (fun h cy x y => .inl (cy 1, 2100, .inl x)) := ⟨by decide, fun _ _ => rfl⟩
theorem sh_97 : Sh 97 (fun h cy x y => .inl (cy 1, 2100, .inl x)) := ⟨by decide, fun _ _ => rfl⟩
theorem sh_98 : Sh 98 (fun h cy x y => .inl (cy 2, 4, .inr (.inl y))) := ⟨by decide, fun _ _ => rfl⟩
theorem sh_99 : Sh 99 (fun h cy x y => .inl (cy 2, 4, .inr (.inl y))) := ⟨by decide, fun _ _ => rfl⟩
theorem sh_100 : Sh 100 (fun h cy x y => .inl (cy 1, 4, .inl x)) := ⟨by decide, fun _ _ => rfl⟩
theorem sh_101 : Sh 101 (fun h cy x y => .inl (cy 1, 16384, .inl x)) := ⟨by decide, fun _ _ => rfl⟩
theorem sh_102 : Sh 102 (fun h cy x y => .inl (cy 2, 2100, .inr (.inl y))) := ⟨by decide, fun _ _ => rfl⟩
theorem sh_103 : Sh 103 (fun h cy x y => .inl (cy 2, 2100, .inr (.inl y))) := ⟨by decide, fun _ _ => rfl⟩
theorem sh_104 : Sh 104 (fun h cy x y => .inl (cy 1, 2100, .inl x)) := ⟨by decide, fun _ _ => rfl⟩
theorem sh_105 : Sh 105 (fun h cy x y => .inl (cy 3, 2100, .inl x)) := ⟨by decide, fun _ _ => rfl⟩
theorem sh_106 : Sh 106 (fun h cy x y => .inl (cy 1, 9000, .inl x)) := ⟨by decide, fun _ _ => rfl⟩
theorem sh_107 : Sh 107 (fun h cy x y => .inl (cy 1, 64, .inl x)) := ⟨by decide, fun _ _ => rfl⟩
theorem sh_108 : Sh 108 (fun h cy x y => .inl (cy 1, 64, .inl x)) := ⟨by decide, fun _ _ => rfl⟩
theorem sh_109 : Sh 109 (fun h cy x y => .inl (cy 1, 64, .inl x)) := ⟨by decide, fun _ _ => rfl⟩
theorem sh_110 : Sh 110 (fun h cy x y => .inl (cy 2, 1, .inr (.inl y))) := ⟨by decide, fun _ _ => rfl⟩
def RowS (k n : Nat) : Prop := Sh k (fun h cy x y => .inr (6, [.ref (h (k + 1)), .int (x 1)])) ∧ Sh (k + 1) (fun h cy x y => .inl (cy 0, n, .inl x))
def NamesS (k b n : Nat) : Prop := Sh k (fun h cy x y => .inr (5, [.ref (h (k + 1)), .ref (h (k + 2)), .int (x 2)])) ∧ Sh (k + 1) (fun h cy x y => .inl (cy 0, b, .inl x)) ∧ Sh (k + 2) (fun h cy x y => .inl (cy 1, n, .inl x))
def SegsS (k : Nat) : Prop := Sh k (fun h cy x y => .inr (7, [.ref (h (k + 1)), .ref (h (k + 2)), .ref (h (k + 3)), .ref (h (k + 4)), .int (x 4)])) ∧ Sh (k + 1) (fun h cy x y => .inl (cy 1, 4, .inl x)) ∧ Sh (k + 2) (fun h cy x y => .inl (cy 1, 4, .inl x)) ∧ Sh (k + 3) (fun h cy x y => .inl (cy 1, 4, .inl x)) ∧ Sh (k + 4) (fun h cy x y => .inl (cy 1, 4, .inl x))
def VisS (k : Nat) : Prop := Sh k (fun h cy x y => .inr (9, [.ref (h (k + 1)), .ref (h (k + 2)), .int (x 2)])) ∧ Sh (k + 1) (fun h cy x y => .inl (cy 1, 2048, .inl x)) ∧ Sh (k + 2) (fun h cy x y => .inl (cy 2, 2048, .inr (.inl y)))
theorem row_1 : RowS 1 1040 := ⟨sh_1, sh_2⟩
theorem row_3 : RowS 3 6400 := ⟨sh_3, sh_4⟩
theorem names_6 : NamesS 6 64 4 := ⟨sh_6, sh_7, sh_8⟩
theorem names_12 : NamesS 12 128 8 := ⟨sh_12, sh_13, sh_14⟩
theorem names_18 : NamesS 18 320 20 := ⟨sh_18, sh_19, sh_20⟩
theorem names_23 : NamesS 23 320 20 := ⟨sh_23, sh_24, sh_25⟩
theorem names_34 : NamesS 34 480 30 := ⟨sh_34, sh_35, sh_36⟩
theorem segs_41 : SegsS 41 := ⟨sh_41, sh_42, sh_43, sh_44, sh_45⟩
theorem vis_47 : VisS 47 := ⟨sh_47, sh_48, sh_49⟩
theorem segs_54 : SegsS 54 := ⟨sh_54, sh_55, sh_56, sh_57, sh_58⟩
theorem row_59 : RowS 59 16384 := ⟨sh_59, sh_60⟩
theorem vis_61 : VisS 61 := ⟨sh_61, sh_62, sh_63⟩
theorem row_64 : RowS 64 6400 := ⟨sh_64, sh_65⟩
def NWs : List Cond := [Cond.methodLinkNest RX8 115 yX11_isLibrary RX11, Cond.methodLinkNest RX10 39 yX11_filledUp RX11, Cond.methodLinkNest RX8 134 yX11_filledUp RX11, Cond.methodLinkNest RX10 112 yX11_pagesIn RX11, Cond.methodLinkNest RX6 39 yX11_filledUp RX11, Cond.methodLinkNest RX1 33 yX11_isLibrary RX11, Cond.methodLinkNest RX3 140 yX11_isPage RX11, Cond.methodLinkNest RX3 154 yX11_pagesIn RX11, Cond.declares ⟨"java/lang/RuntimeException", "<init>", "()V"⟩, Cond.declares ⟨"java/lang/Exception", "<init>", "()V"⟩, Cond.declares ⟨"java/lang/Throwable", "<init>", "()V"⟩, Cond.castable "java/util/NoSuchElementException" "java/util/NoSuchElementException"]
theorem NWs_ok : ∀ w ∈ NWs, w ∈ lw_tbl := by
  intro w hw
  have h : NWs = [663, 715, 733, 734, 800, 865, 1042, 1044, 1160, 1162, 1164, 1159].filterMap (fun i => lw_tbl[i]?) := by decide +kernel
  rw [h] at hw
  obtain ⟨i, -, hi⟩ := List.mem_filterMap.mp hw
  exact List.mem_of_getElem? hi
theorem NWs_M : ∀ w ∈ NWs, (∃ a i x h, w = Cond.methodLinkNest a i x h) ∨ (∃ x, w = Cond.declares x) ∨ ∃ a b, w = Cond.castable a b := by
  intro w hw
  simp only [NWs, List.mem_cons, List.not_mem_nil, or_false] at hw
  rcases hw with rfl | rfl | rfl | rfl | rfl | rfl | rfl | rfl | rfl | rfl | rfl | rfl <;> first | exact Or.inl ⟨_, _, _, _, rfl⟩ | exact Or.inr (Or.inl ⟨_, rfl⟩) | exact Or.inr (Or.inr ⟨_, _, rfl⟩)
theorem ac_nat : Cond.native arraycopyName ∈ GT := GT_ix 638 (by decide +kernel) (by decide +kernel)
theorem ac_st : Cond.static arraycopyName ∈ GT := GT_ix 637 (by decide +kernel) (by decide +kernel)
theorem ac_in : Cond.initialized "java/lang/System" ∈ GT := GT_ix 101 (by decide +kernel) (by decide +kernel)
theorem zcmp_eq (x y : Int64) : (lg_cmp x y = 0) ↔ (x = y) := by
  unfold lg_cmp
  simp only [gt_iff_lt, Int64.lt_iff_toInt_lt, Int64.le_iff_toInt_le, ← Int64.toInt_inj]
  repeat' split
  all_goals (first | (simp; omega) | simp_all | omega)
theorem zcmp_ne (x y : Int64) : (¬ lg_cmp x y = 0) ↔ (¬ x = y) := by
  unfold lg_cmp
  simp only [gt_iff_lt, Int64.lt_iff_toInt_lt, Int64.le_iff_toInt_le, ← Int64.toInt_inj]
  repeat' split
  all_goals (first | (simp; omega) | simp_all | omega)
theorem zcmp_lt (x y : Int64) : (lg_cmp x y < 0) ↔ (x < y) := by
  unfold lg_cmp
  simp only [gt_iff_lt, Int64.lt_iff_toInt_lt, Int64.le_iff_toInt_le, ← Int64.toInt_inj]
  repeat' split
  all_goals (first | (simp; omega) | simp_all | omega)
theorem zcmp_ge (x y : Int64) : (0 ≤ lg_cmp x y) ↔ (y ≤ x) := by
  unfold lg_cmp
  simp only [gt_iff_lt, Int64.lt_iff_toInt_lt, Int64.le_iff_toInt_le, ← Int64.toInt_inj]
  repeat' split
  all_goals (first | (simp; omega) | simp_all | omega)
theorem zcmp_gt (x y : Int64) : (0 < lg_cmp x y) ↔ (y < x) := by
  unfold lg_cmp
  simp only [gt_iff_lt, Int64.lt_iff_toInt_lt, Int64.le_iff_toInt_le, ← Int64.toInt_inj]
  repeat' split
  all_goals (first | (simp; omega) | simp_all | omega)
theorem zcmp_le (x y : Int64) : (lg_cmp x y ≤ 0) ↔ (x ≤ y) := by
  unfold lg_cmp
  simp only [gt_iff_lt, Int64.lt_iff_toInt_lt, Int64.le_iff_toInt_le, ← Int64.toInt_inj]
  repeat' split
  all_goals (first | (simp; omega) | simp_all | omega)
abbrev ib (i : Int32) (n : Nat) : Prop := 0 ≤ i.toInt ∧ i.toInt < n
def Nst (U : State) : Prop := ∀ w ∈ NWs, va_Nw w U
theorem Nst.warm {s U : State} (hW : s.WarmedH U.vm) (h : Nst s) : Nst U := by
  intro w hw
  rcases NWs_M w hw with ⟨a, i, x, hh, rfl⟩ | ⟨x, rfl⟩ | ⟨a, b, rfl⟩
  · exact (h _ hw).warmM hW
  · exact (h _ hw).warmD hW
  · exact (h _ hw).warmC hW
theorem Nst.same {u U : State} (e : u.vm = U.vm) (h : Nst u) : Nst U := by
  intro w hw
  rcases NWs_M w hw with ⟨a, i, x, hh, rfl⟩ | ⟨x, rfl⟩ | ⟨a, b, rfl⟩
  · exact (h _ hw).same rfl e
  · exact (h _ hw).same rfl e
  · exact (h _ hw).same rfl e
def rmz (f lo : Nat) : Room := { frames := f, cells := 0, slots := 0, locals := lo }
def wz (y : MethodName) (b : ByteArray) (n : Nat) (r : Option FieldType) : List Cond := .code y b n r :: GT
theorem good_wz {y : MethodName} {b : ByteArray} {n : Nat} {r : Option FieldType} (h : Cond.code y b n r ∈ GT) : GoodIn GT (wz y b n r) := by
  intro w hw
  rcases List.mem_cons.mp hw with rfl | hw
  · exact ⟨h, good_of_word (List.mem_filter.mp h).2⟩
  · exact ⟨hw, good_of_word (List.mem_filter.mp hw).2⟩
/-- what holds at a method's entry and on -/
def Cx (p : Program) (s : State) (m : MethodId) (args : Array Value) (c : Code) (D : va_G) (h : Nat → Nat) (cy : Nat → ClassId) (own : String) (cc : ByteArray) (nL : Nat) : Prop :=
  p.tables.exec = Jvm.exec ∧ c.code = cc ∧ c.maxLocals = nL ∧ s.vm.findClass own = some m.cls ∧ (∀ w ∈ GT, w.before args s = true) ∧ va_K D vwCl (tyL cy) s ∧ Inj h ∧ Nst s
def Zt (D : va_G) (h : Nat → Nat) (cy : Nat → ClassId) (s : State) (σ : St) (H : Heap) (locs : List Loc) : Prop :=
  va_P D vwCl (wd h cy σ) H ∧ va_S (Az h s.heap.size) s.heap H locs
def Pz (D : va_G) (h : Nat → Nat) (cy : Nat → ClassId) (av : List Value) (σ : St) (sz : Nat) : Array Value → State → Prop := va_Pc av (fun U => U.heap.size = sz ∧ va_P D vwCl (wd h cy σ) U.heap ∧ va_K D vwCl (tyL cy) U ∧ Inj h ∧ Nst U)
def Bz (D : va_G) (h : Nat → Nat) (cy : Nat → ClassId) (u : St) (t : State) : Prop := va_P D vwCl (wd h cy u) t.heap
def QI (D : va_G) (h : Nat → Nat) (cy : Nat → ClassId) (sz : Nat) (y : Int32 × St) := va_Qi (fun r (u : St) => r = y.1 ∧ u = y.2) (Bz D h cy) (Az h sz)
def QL (D : va_G) (h : Nat → Nat) (cy : Nat → ClassId) (sz : Nat) (y : Int64 × St) := va_Ql (fun r (u : St) => r = y.1 ∧ u = y.2) (Bz D h cy) (Az h sz)
def QV (D : va_G) (h : Nat → Nat) (cy : Nat → ClassId) (sz : Nat) (y : St) := va_Qv (fun (u : St) => u = y) (Bz D h cy) (Az h sz)
def CI (l : Launch) (y : MethodName) (b : ByteArray) (n : Nat) (ret : Option FieldType) (f lo : Nat) (D : va_G) (h : Nat → Nat) (cy : Nat → ClassId) (av : List Value) (σ : St) (z : Int32 × St) : Prop := ∀ sz, Met l y (wz y b n ret) (rmz f lo) (Pz D h cy av σ sz) (QI D h cy sz z) 0 0 (Az h sz)
def CL (l : Launch) (y : MethodName) (b : ByteArray) (n : Nat) (ret : Option FieldType) (f lo : Nat) (D : va_G) (h : Nat → Nat) (cy : Nat → ClassId) (av : List Value) (σ : St) (z : Int64 × St) : Prop := ∀ sz, Met l y (wz y b n ret) (rmz f lo) (Pz D h cy av σ sz) (QL D h cy sz z) 0 0 (Az h sz)
def CV (l : Launch) (y : MethodName) (b : ByteArray) (n : Nat) (ret : Option FieldType) (f lo : Nat) (D : va_G) (h : Nat → Nat) (cy : Nat → ClassId) (av : List Value) (σ : St) (z : St) : Prop := ∀ sz, Met l y (wz y b n ret) (rmz f lo) (Pz D h cy av σ sz) (QV D h cy sz z) 0 0 (Az h sz)
def EI (below : List Frame) (args : Array Value) (s : State) (D : va_G) (h : Nat → Nat) (cy : Nat → ClassId) (y : Int32 × St) : State → Prop := MQ below (QI D h cy s.heap.size y) args s 0 0 (Az h s.heap.size)
def EL (below : List Frame) (args : Array Value) (s : State) (D : va_G) (h : Nat → Nat) (cy : Nat → ClassId) (y : Int64 × St) : State → Prop := MQ below (QL D h cy s.heap.size y) args s 0 0 (Az h s.heap.size)
def EV (below : List Frame) (args : Array Value) (s : State) (D : va_G) (h : Nat → Nat) (cy : Nat → ClassId) (y : St) : State → Prop := MQ below (QV D h cy s.heap.size y) args s 0 0 (Az h s.heap.size)
theorem ent {l : Launch} {y : MethodName} {b : ByteArray} {n : Nat} {ret : Option FieldType} {f lo : Nat} {D : va_G} {h : Nat → Nat} {cy : Nat → ClassId} {av : List Value} {σ : St} {Qc : Nat → Array Value → State → Outcome → State → Prop} (hy : plainName y.cls = true) (hn : (lg_sl av).length ≤ n)
    (body : ∀ (p : Program) (e : Env) (s : State) (m : MethodId) (below : List Frame) (meth : Method) (c : Code) (ls : Array Slot), Cx p s m av.toArray c D h cy y.cls b n → Zt D h cy s σ s.heap [] → meth.sig.returnType = ret → meth.locks = false → lv_has ls n (lv_args 0 av) → W p l e (rmz f lo) s m av.toArray below meth c s.heap [] 0 0 (MQ below (Qc s.heap.size) av.toArray s 0 0 (Az h s.heap.size)) (F0 m 0 ls [])) :
    ∀ sz, Met l y (wz y b n ret) (rmz f lo) (Pz D h cy av σ sz) (Qc sz) 0 0 (Az h sz) := by
  intro sz
  refine Met.ofW (cc := b) (maxL := n) (ret := ret) hy rfl ?_
  intro p e s m args below meth c s₁ B hml hv
  obtain ⟨rfl, hsz, hP, hK, hj, hN⟩ := hv
  subst hsz
  have hts0 := atoms_spec (ws := wz y b n ret) B.pre
  have hl := lv_entry av (n := n) hn
  rw [lg_entry_eq]
  generalize (lg_sl av ++ List.replicate (n - (lg_sl av).length) Slot.unset).toArray = ls at hl ⊢
  exact body p e s m below meth c ls ⟨B.exec, B.bytes, hml, findClass_of_methodNamed B.named, fun w hw => hts0 w (List.mem_cons_of_mem _ hw), hK, hj, hN⟩ ⟨hP, va_S.rf⟩ B.returns B.notSynchronized hl
section RT
variable {p : Program} {l : Launch} {e : Env} {R : Room} {s : State} {m : MethodId} {args : Array Value} {below : List Frame} {meth : Method} {c : Code} {H : Heap} {locs : List Loc} {cells slots : Nat} {Q : State → Prop} {D : va_G} {h : Nat → Nat} {cy : Nat → ClassId} {σ : St} {own : String} {cc : ByteArray} {nL pc : Nat} {ls : Array Slot} {rest : List Value}
theorem Cx.x (X : Cx p s m args c D h cy own cc nL) : p.tables.exec = Jvm.exec := X.1
theorem Cx.b (X : Cx p s m args c D h cy own cc nL) : c.code = cc := X.2.1
theorem Cx.n (X : Cx p s m args c D h cy own cc nL) : c.maxLocals = nL := X.2.2.1
theorem Cx.o (X : Cx p s m args c D h cy own cc nL) : s.vm.findClass own = some m.cls := X.2.2.2.1
theorem Cx.t (X : Cx p s m args c D h cy own cc nL) : ∀ w ∈ GT, w.before args s = true := X.2.2.2.2.1
theorem Cx.k (X : Cx p s m args c D h cy own cc nL) : va_K D vwCl (tyL cy) s := X.2.2.2.2.2.1
theorem Cx.j (X : Cx p s m args c D h cy own cc nL) : Inj h := X.2.2.2.2.2.2.1
theorem Cx.w (X : Cx p s m args c D h cy own cc nL) : Nst s := X.2.2.2.2.2.2.2
theorem retI (X : Cx p s m args c D h cy own cc nL) (hr : meth.sig.returnType = some .int) (hk : meth.locks = false) (Z : Zt D h cy s σ H locs) {v : Int32} {y : Int32 × St} (hf : some (v, σ) = some y) (hdg : decode cc pc = .ok (.ireturn, 1)) : W p l e R s m args below meth c H locs 0 0 (EI below args s D h cy y) (F0 m pc ls [.int v]) := by
  cases hf
  exact W.iret (v := v) X.x X.b hr (fun t ht hW => ⟨⟨v, σ, rfl, ⟨rfl, rfl⟩, by show va_P _ _ _ t.heap; rw [ht]; exact Z.1⟩, Z.2.F ht⟩) Z.2.2.2 hdg
theorem retZ (X : Cx p s m args c D h cy own cc nL) (hr : meth.sig.returnType = some .boolean) (hk : meth.locks = false) (Z : Zt D h cy s σ H locs) {v : Int32} {y : Int32 × St} (hv : v = 0 ∨ v = 1) (hf : some (v, σ) = some y) (hdg : decode cc pc = .ok (.ireturn, 1)) : W p l e R s m args below meth c H locs 0 0 (EI below args s D h cy y) (F0 m pc ls [.int v]) := by
  cases hf
  exact W.zret (v := v) X.x X.b hr (by rcases hv with rfl | rfl <;> rfl) (fun t ht hW => ⟨⟨v, σ, rfl, ⟨rfl, rfl⟩, by show va_P _ _ _ t.heap; rw [ht]; exact Z.1⟩, Z.2.F ht⟩) Z.2.2.2 hdg
theorem retL (X : Cx p s m args c D h cy own cc nL) (hr : meth.sig.returnType = some .long) (hk : meth.locks = false) (Z : Zt D h cy s σ H locs) {v : Int64} {y : Int64 × St} (hf : some (v, σ) = some y) (hdg : decode cc pc = .ok (.lreturn, 1)) : W p l e R s m args below meth c H locs 0 0 (EL below args s D h cy y) (F0 m pc ls [.long v]) := by
  cases hf
  exact W.lret (v := v) X.x X.b hr (fun t ht hW => ⟨⟨v, σ, rfl, ⟨rfl, rfl⟩, by show va_P _ _ _ t.heap; rw [ht]; exact Z.1⟩, Z.2.F ht⟩) Z.2.2.2 hdg
theorem retV (X : Cx p s m args c D h cy own cc nL) (hr : meth.sig.returnType = none) (hk : meth.locks = false) (Z : Zt D h cy s σ H locs) {y : St} (hf : some σ = some y) (hdg : decode cc pc = .ok (.return_, 1)) : W p l e R s m args below meth c H locs 0 0 (EV below args s D h cy y) (F0 m pc ls []) := by
  cases hf
  exact W.vret X.x X.b hr (fun t ht hW => ⟨⟨σ, rfl, rfl, by show va_P _ _ _ t.heap; rw [ht]; exact Z.1⟩, Z.2.F ht⟩) Z.2.2.2 hdg
/-! fields -/
theorem x_get (X : Cx p s m args c D h cy own cc nL) (Z : Zt D h cy s σ H locs) {C : String} {T : u_T} {N ci index k : Nat} {f : (Nat → Nat) → (Nat → ClassId) → Ce} {fs : List Value} (hk : Sh k f) (hin : ∀ w ∈ u_ws C T N, w ∈ GT) (hc : vwCl[ci]? = some (C, T, N)) (j : Nat) (hj : j < N) (hl : Cond.fieldLink own index (T j).1 (T j).2.1 (T j).2.2.1 ∈ GT) (he : f h cy (σ.1 k) (σ.2 k) = .inr (ci, fs)) {v : Value} (hv : fs[j]? = some v) (hdg : decode cc pc = .ok (.getfield index, 3))
    (kk : W p l e R s m args below meth c H locs cells slots Q (F0 m (pc + 3) ls (v :: rest))) : W p l e R s m args below meth c H locs cells slots Q (F0 m pc ls (.ref (h k) :: rest)) :=
  va_get (D := D) (cl := vwCl) (ci := ci) (C := C) (T := T) (N := N) X.x X.b X.t hin X.o X.k Z.1 k (by rw [wd_at hk, he]) hc j hj (X.t _ hl) (fun _ h9 => h9) hv hdg kk
theorem x_put (X : Cx p s m args c D h cy own cc nL) (Z : Zt D h cy s σ H locs) {C : String} {T : u_T} {N ci index k : Nat} {f : (Nat → Nat) → (Nat → ClassId) → Ce} {fs : List Value} (hk : Sh k f) (hin : ∀ w ∈ u_ws C T N, w ∈ GT) (ty0 : Nat → FieldType) (hty : ∀ k, k < N → parseFieldDescriptor (T k).2.2.1 = some (ty0 k)) (hnm : ∀ a, a < N → ∀ b, b < N → a ≠ b → (T a).2.1 ≠ (T b).2.1) (hc : vwCl[ci]? = some (C, T, N)) (j : Nat) (hj : j < N) (hl : Cond.fieldLink own index (T j).1 (T j).2.1 (T j).2.2.1 ∈ GT) (hfin : (T j).2.2.2 = false) (he : f h cy (σ.1 k) (σ.2 k) = .inr (ci, fs)) {v : Value} (hn : narrow (ty0 j) v = v) (hfit : fits (ty0 j) v = true) (hjl : j < fs.length) (σ' : St) (hw : (wd h cy σ).set k (h k, .inr (ci, fs.set j v)) = wd h cy σ') (hdg : decode cc pc = .ok (.putfield index, 3))
    (kk : ∀ (σ2 : St) (H : Heap) (locs : List Loc), σ2 = σ' → Zt D h cy s σ2 H locs → W p l e R s m args below meth c H locs cells slots Q (F0 m (pc + 3) ls rest)) : W p l e R s m args below meth c H locs cells slots Q (F0 m pc ls (v :: .ref (h k) :: rest)) :=
  va_put (D := D) (cl := vwCl) (ci := ci) (C := C) (T := T) (N := N) X.x X.b X.t hin ty0 hty hnm X.o X.k Z.1 (wd_D X.j σ) Z.2 k (by rw [wd_at hk, he]) hc j hj (X.t _ hl) (fun _ h9 => h9) hfin (hty j hj) hn hfit hjl hdg (fun H1 l1 hP hD hS => kk _ H1 l1 rfl ⟨by rw [← hw]; exact hP, hS⟩)
/-! arrays -/
theorem in_of {i : Int32} {n : Nat} (hi : 0 ≤ i.toInt ∧ i.toInt < n) : vp_in i n := vp_in_iff.mpr hi
theorem x_iald (X : Cx p s m args c D h cy own cc nL) (Z : Zt D h cy s σ H locs) {k n : Nat} {i : Int32} (hk : Sh k (fun _ cy x _ => .inl (cy 1, n, .inl x))) (hi : 0 ≤ i.toInt ∧ i.toInt < n) (hdg : decode cc pc = .ok (.iaload, 1))
    (kk : W p l e R s m args below meth c H locs cells slots Q (F0 m (pc + 1) ls (.int (σ.1 k i.toNatClampNeg) :: rest))) : W p l e R s m args below meth c H locs cells slots Q (F0 m pc ls (.int i :: .ref (h k) :: rest)) :=
  va_iald X.x X.b X.k Z.1 k 1 (wd_at hk) rfl (in_of hi) hdg kk
theorem x_bald (X : Cx p s m args c D h cy own cc nL) (Z : Zt D h cy s σ H locs) {k n : Nat} {i : Int32} (hk : Sh k (fun _ cy x _ => .inl (cy 0, n, .inl x))) (hi : 0 ≤ i.toInt ∧ i.toInt < n) (hdg : decode cc pc = .ok (.baload, 1))
    (kk : W p l e R s m args below meth c H locs cells slots Q (F0 m (pc + 1) ls (.int (σ.1 k i.toNatClampNeg) :: rest))) : W p l e R s m args below meth c H locs cells slots Q (F0 m pc ls (.int i :: .ref (h k) :: rest)) :=
  va_bald X.x X.b X.k Z.1 k 0 (wd_at hk) rfl (in_of hi) hdg kk
theorem x_zald (X : Cx p s m args c D h cy own cc nL) (Z : Zt D h cy s σ H locs) {k n : Nat} {i : Int32} (hk : Sh k (fun _ cy x _ => .inl (cy 3, n, .inl x))) (hi : 0 ≤ i.toInt ∧ i.toInt < n) (hdg : decode cc pc = .ok (.baload, 1))
    (kk : W p l e R s m args below meth c H locs cells slots Q (F0 m (pc + 1) ls (.int (σ.1 k i.toNatClampNeg) :: rest))) : W p l e R s m args below meth c H locs cells slots Q (F0 m pc ls (.int i :: .ref (h k) :: rest)) :=
  va_zald X.x X.b X.k Z.1 k 3 (wd_at hk) rfl (in_of hi) hdg kk
theorem x_lald (X : Cx p s m args c D h cy own cc nL) (Z : Zt D h cy s σ H locs) {k n : Nat} {i : Int32} (hk : Sh k (fun _ cy _ y => .inl (cy 2, n, .inr (.inl y)))) (hi : 0 ≤ i.toInt ∧ i.toInt < n) (hdg : decode cc pc = .ok (.laload, 1))
    (kk : W p l e R s m args below meth c H locs cells slots Q (F0 m (pc + 1) ls (.long (σ.2 k i.toNatClampNeg) :: rest))) : W p l e R s m args below meth c H locs cells slots Q (F0 m pc ls (.int i :: .ref (h k) :: rest)) :=
  va_lald X.x X.b X.k Z.1 k 2 (wd_at hk) rfl (in_of hi) hdg kk
theorem x_iast (X : Cx p s m args c D h cy own cc nL) (Z : Zt D h cy s σ H locs) {k n : Nat} {i x : Int32} (hk : Sh k (fun _ cy x _ => .inl (cy 1, n, .inl x))) (hi : 0 ≤ i.toInt ∧ i.toInt < n) (hdg : decode cc pc = .ok (.iastore, 1))
    (kk : ∀ (σ2 : St) (H : Heap) (locs : List Loc), σ2 = sI σ k i.toNatClampNeg x → Zt D h cy s σ2 H locs → W p l e R s m args below meth c H locs cells slots Q (F0 m (pc + 1) ls rest)) : W p l e R s m args below meth c H locs cells slots Q (F0 m pc ls (.int x :: .int i :: .ref (h k) :: rest)) :=
  va_iast X.x X.b X.k Z.1 (wd_D X.j σ) Z.2 k 1 (wd_at hk) rfl (in_of hi) hdg (fun H1 l1 hP hD hS => kk _ H1 l1 rfl ⟨by rw [← wd_sI hk rfl]; exact hP, hS⟩)
theorem x_bast (X : Cx p s m args c D h cy own cc nL) (Z : Zt D h cy s σ H locs) {k n : Nat} {i x : Int32} (hk : Sh k (fun _ cy x _ => .inl (cy 0, n, .inl x))) (hi : 0 ≤ i.toInt ∧ i.toInt < n) (hdg : decode cc pc = .ok (.bastore, 1))
    (kk : ∀ (σ2 : St) (H : Heap) (locs : List Loc), σ2 = sI σ k i.toNatClampNeg (vp_nar .byte x) → Zt D h cy s σ2 H locs → W p l e R s m args below meth c H locs cells slots Q (F0 m (pc + 1) ls rest)) : W p l e R s m args below meth c H locs cells slots Q (F0 m pc ls (.int x :: .int i :: .ref (h k) :: rest)) :=
  va_bast X.x X.b X.k Z.1 (wd_D X.j σ) Z.2 k 0 (wd_at hk) rfl (in_of hi) hdg (fun H1 l1 hP hD hS => kk _ H1 l1 rfl ⟨by rw [← wd_sI hk rfl]; exact hP, hS⟩)
theorem x_zast (X : Cx p s m args c D h cy own cc nL) (Z : Zt D h cy s σ H locs) {k n : Nat} {i x : Int32} (hk : Sh k (fun _ cy x _ => .inl (cy 3, n, .inl x))) (hi : 0 ≤ i.toInt ∧ i.toInt < n) (hdg : decode cc pc = .ok (.bastore, 1))
    (kk : ∀ (σ2 : St) (H : Heap) (locs : List Loc), σ2 = sI σ k i.toNatClampNeg (vp_nar .boolean x) → Zt D h cy s σ2 H locs → W p l e R s m args below meth c H locs cells slots Q (F0 m (pc + 1) ls rest)) : W p l e R s m args below meth c H locs cells slots Q (F0 m pc ls (.int x :: .int i :: .ref (h k) :: rest)) :=
  va_zast X.x X.b X.k Z.1 (wd_D X.j σ) Z.2 k 3 (wd_at hk) rfl (in_of hi) hdg (fun H1 l1 hP hD hS => kk _ H1 l1 rfl ⟨by rw [← wd_sI hk rfl]; exact hP, hS⟩)
theorem x_last (X : Cx p s m args c D h cy own cc nL) (Z : Zt D h cy s σ H locs) {k n : Nat} {i : Int32} {x : Int64} (hk : Sh k (fun _ cy _ y => .inl (cy 2, n, .inr (.inl y)))) (hi : 0 ≤ i.toInt ∧ i.toInt < n) (hdg : decode cc pc = .ok (.lastore, 1))
    (kk : ∀ (σ2 : St) (H : Heap) (locs : List Loc), σ2 = sJ σ k i.toNatClampNeg x → Zt D h cy s σ2 H locs → W p l e R s m args below meth c H locs cells slots Q (F0 m (pc + 1) ls rest)) : W p l e R s m args below meth c H locs cells slots Q (F0 m pc ls (.long x :: .int i :: .ref (h k) :: rest)) :=
  va_last X.x X.b X.k Z.1 (wd_D X.j σ) Z.2 k 2 (wd_at hk) rfl (in_of hi) hdg (fun H1 l1 hP hD hS => kk _ H1 l1 rfl ⟨by rw [← wd_sJ hk rfl]; exact hP, hS⟩)
theorem x_blen (X : Cx p s m args c D h cy own cc nL) (Z : Zt D h cy s σ H locs) {k n : Nat} (hk : Sh k (fun _ cy x _ => .inl (cy 0, n, .inl x))) (hdg : decode cc pc = .ok (.arraylength, 1))
    (kk : W p l e R s m args below meth c H locs cells slots Q (F0 m (pc + 1) ls (.int (Int32.ofNat n) :: rest))) : W p l e R s m args below meth c H locs cells slots Q (F0 m pc ls (.ref (h k) :: rest)) :=
  va_alen X.x X.b X.k Z.1 k 0 (wd_at hk) rfl rfl hdg kk
theorem x_ilen (X : Cx p s m args c D h cy own cc nL) (Z : Zt D h cy s σ H locs) {k n : Nat} (hk : Sh k (fun _ cy x _ => .inl (cy 1, n, .inl x))) (hdg : decode cc pc = .ok (.arraylength, 1))
    (kk : W p l e R s m args below meth c H locs cells slots Q (F0 m (pc + 1) ls (.int (Int32.ofNat n) :: rest))) : W p l e R s m args below meth c H locs cells slots Q (F0 m pc ls (.ref (h k) :: rest)) :=
  va_alen X.x X.b X.k Z.1 k 1 (wd_at hk) rfl rfl hdg kk
theorem x_zlen (X : Cx p s m args c D h cy own cc nL) (Z : Zt D h cy s σ H locs) {k n : Nat} (hk : Sh k (fun _ cy x _ => .inl (cy 3, n, .inl x))) (hdg : decode cc pc = .ok (.arraylength, 1))
    (kk : W p l e R s m args below meth c H locs cells slots Q (F0 m (pc + 1) ls (.int (Int32.ofNat n) :: rest))) : W p l e R s m args below meth c H locs cells slots Q (F0 m pc ls (.ref (h k) :: rest)) :=
  va_alen X.x X.b X.k Z.1 k 3 (wd_at hk) rfl rfl hdg kk
/-! calls -/
def Lk (own : String) (idx : Nat) (y : MethodName) (b : ByteArray) (n : Nat) (ret : Option FieldType) (na : Nat) : Prop :=
  Cond.methodLink own idx y ∈ GT ∧ Cond.code y b n ret ∈ GT ∧ Cond.initialized y.cls ∈ GT ∧ (y.cls ≠ "java/lang/invoke/MethodHandle" ∧ y.cls ≠ "java/lang/invoke/VarHandle" ∧ (parseMethodDescriptor y.desc).map (fun d => d.parameters.length) = some na)
def LkV (own : String) (idx : Nat) (y : MethodName) (b : ByteArray) (n : Nat) (ret : Option FieldType) (na : Nat) : Prop := Lk own idx y b n ret na ∧ Cond.instanceMethod y ∈ GT ∧ Cond.selects y.cls y y ∈ GT
def LkS (own : String) (idx : Nat) (y : MethodName) (b : ByteArray) (n : Nat) (ret : Option FieldType) (na : Nat) : Prop := Lk own idx y b n ret na ∧ Cond.static y ∈ GT
def LkN (own : String) (idx : Nat) (y : MethodName) (b : ByteArray) (n : Nat) (ret : Option FieldType) (na : Nat) (host : String) : Prop :=
  Cond.methodLinkNest own idx y host ∈ NWs ∧ Cond.code y b n ret ∈ GT ∧ Cond.initialized y.cls ∈ GT ∧ (y.cls ≠ "java/lang/invoke/MethodHandle" ∧ y.cls ≠ "java/lang/invoke/VarHandle" ∧ (parseMethodDescriptor y.desc).map (fun d => d.parameters.length) = some na) ∧ Cond.static y ∈ GT
theorem Pz_blind {av : List Value} {sz : Nat} : FrameBlind (Pz D h cy av σ sz) := fun a U g mk q => by
  obtain ⟨q0, q1, qP, qK, qj, qN⟩ := q
  exact ⟨q0, q1, qP, va_K.moved (u := U) (U := U.calling g mk a) (Vm.Alike.refl U.vm) qK, qj, Nst.same (u := U) rfl qN⟩
theorem Pz_at (X : Cx p s m args c D h cy own cc nL) (Z : Zt D h cy s σ H locs) (av : List Value) : ∀ U : State, U.heap = H → s.WarmedH U.vm → Pz D h cy av σ H.size av.toArray U := fun U hU hW =>
  ⟨rfl, by rw [hU], by rw [hU]; exact Z.1, va_K.moved hW.alike X.k, X.j, X.w.warm hW⟩
theorem Az_le (Z : Zt D h cy s σ H locs) : ∀ q, Az h H.size q → Az h s.heap.size q := fun q hq => hq.elim Or.inl (fun g => Or.inr (Nat.le_trans Z.2.1 g))
theorem lkB (X : Cx p s m args c D h cy own cc nL) {idx n na f lo : Nat} {y : MethodName} {b : ByteArray} {ret : Option FieldType} (hL : Lk own idx y b n ret na) (hR : f + 1 ≤ R.frames ∧ 8 + (n + 11) + lo ≤ R.locals) : CallB R s args own idx y b n ret (wz y b n ret) (rmz f lo) 0 0 na :=
  callB_of na X.t (good_wz hL.2.1) rfl rfl rfl (X.t _ hL.2.2.1) (X.t _ hL.1) hL.2.2.2 hR
def Recv (C : String) (k : Nat) : Prop := ∃ (ci : Nat) (T : u_T) (N : Nat) (F : (Nat → Nat) → (Nat → ClassId) → (Nat → Int32) → (Nat → Int64) → List Value), vwCl[ci]? = some (C, T, N) ∧ Sh k (fun h cy x y => .inr (ci, F h cy x y))
theorem x_recv (X : Cx p s m args c D h cy own cc nL) (Z : Zt D h cy s σ H locs) {C : String} {k : Nat} (hr : Recv C k) : ∃ cellB : Cell, H[h k]? = some cellB ∧ cellB.vm.isStatics = false ∧ s.vm.findClass C = some cellB.cls := by
  obtain ⟨ci, T, N, F, h1, h2⟩ := hr
  exact va_recv X.k Z.1 h1 (wd_at h2)
theorem run_V (X : Cx p s m args c D h cy own cc nL) (Z : Zt D h cy s σ H locs) {idx n na f lo k : Nat} {y : MethodName} {b : ByteArray} {ret : Option FieldType} {As : List Value} {Qc : Array Value → State → Outcome → State → Prop} (hM : Met l y (wz y b n ret) (rmz f lo) (Pz D h cy (.ref (h k) :: As) σ H.size) Qc 0 0 (Az h H.size)) (hL : LkV own idx y b n ret na) (hR : f + 1 ≤ R.frames ∧ 8 + (n + 11) + lo ≤ R.locals) (hrv : Recv y.cls k) (hn : As.length = na) (hsz : ls.size = nL) {st0 : List Value} (hst : st0 = As.reverse ++ .ref (h k) :: rest) (hrm : (rest.map fun v => v.category).sum ≤ 8) (hcs : cells ≤ R.cells ∧ slots ≤ R.slots) (hdg : decode cc pc = .ok (.invokevirtual idx, 3)) :
    va_Run p l e R s m args below meth c H locs cells slots 0 0 (F0 m pc ls st0) rest (Qc (Value.ref (h k) :: As).toArray) (Az h H.size) :=
  va_runV (As := As) (rest := rest) ⟨X.x, X.b, X.n, X.o, X.t⟩ hM ⟨lkB X hL.1 hR, X.t _ hL.2.1, X.t _ hL.2.2⟩ ⟨Pz_blind, x_recv X Z hrv, Pz_at X Z _⟩ rfl hn hsz hst (lv_room hrm) hdg hcs
theorem run_S (X : Cx p s m args c D h cy own cc nL) (Z : Zt D h cy s σ H locs) {idx n na f lo : Nat} {y : MethodName} {b : ByteArray} {ret : Option FieldType} {As : List Value} {Qc : Array Value → State → Outcome → State → Prop} (hM : Met l y (wz y b n ret) (rmz f lo) (Pz D h cy As σ H.size) Qc 0 0 (Az h H.size)) (hL : LkS own idx y b n ret na) (hR : f + 1 ≤ R.frames ∧ 8 + (n + 11) + lo ≤ R.locals) (hn : As.length = na) (hsz : ls.size = nL) {st0 : List Value} (hst : st0 = As.reverse ++ rest) (hrm : (rest.map fun v => v.category).sum ≤ 8) (hcs : cells ≤ R.cells ∧ slots ≤ R.slots) (hdg : decode cc pc = .ok (.invokestatic idx, 3)) :
    va_Run p l e R s m args below meth c H locs cells slots 0 0 (F0 m pc ls st0) rest (Qc As.toArray) (Az h H.size) :=
  va_runS (As := As) (rest := rest) ⟨X.x, X.b, X.n, X.o, X.t⟩ hM ⟨lkB X hL.1 hR, X.t _ hL.2⟩ ⟨Pz_blind, Pz_at X Z _⟩ rfl hn hsz hst (lv_room hrm) hdg hcs
theorem run_N (X : Cx p s m args c D h cy own cc nL) (Z : Zt D h cy s σ H locs) {idx n na f lo : Nat} {y : MethodName} {b : ByteArray} {ret : Option FieldType} {host : String} {As : List Value} {Qc : Array Value → State → Outcome → State → Prop} (hM : Met l y (wz y b n ret) (rmz f lo) (Pz D h cy As σ H.size) Qc 0 0 (Az h H.size)) (hL : LkN own idx y b n ret na host) (hR : f + 1 ≤ R.frames ∧ 8 + (n + 11) + lo ≤ R.locals) (hn : As.length = na) (hsz : ls.size = nL) {st0 : List Value} (hst : st0 = As.reverse ++ rest) (hrm : (rest.map fun v => v.category).sum ≤ 8) (hcs : cells ≤ R.cells ∧ slots ≤ R.slots) (hdg : decode cc pc = .ok (.invokestatic idx, 3)) :
    va_Run p l e R s m args below meth c H locs cells slots 0 0 (F0 m pc ls st0) rest (Qc As.toArray) (Az h H.size) :=
  va_runSN (As := As) (rest := rest) ⟨X.x, X.b, X.n, X.o, X.t⟩ hM ⟨va_cnB na X.t (good_wz hL.2.1) rfl rfl rfl (X.w _ hL.1) (X.t _ hL.2.2.1) hL.2.2.2.1 hR, X.t _ hL.2.2.2.2, trivial⟩ ⟨Pz_blind, Pz_at X Z _⟩ rfl hn hsz hst (lv_room hrm) hdg hcs
theorem goI (Z : Zt D h cy s σ H locs) {st0 : List Value} {a : Array Value} {r : Int32} {σ1 : St} (hr : va_Run p l e R s m args below meth c H locs cells slots 0 0 (F0 m pc ls st0) rest (QI D h cy H.size (r, σ1) a) (Az h H.size))
    (kk : ∀ (H : Heap) (locs : List Loc), Zt D h cy s σ1 H locs → W p l e R s m args below meth c H locs cells slots Q (F0 m (pc + 3) ls (.int r :: rest))) : W p l e R s m args below meth c H locs cells slots Q (F0 m pc ls st0) :=
  va_calli hr Z.2 (fun q _ hq => Az_le Z q hq) (Az_le Z) (fun r1 u t H1 l1 ht hvm hw hB hz hk hS => by
    obtain ⟨rfl, rfl⟩ := hw
    exact kk H1 l1 ⟨by rw [← ht]; exact hB, hS⟩)
theorem goL (Z : Zt D h cy s σ H locs) {st0 : List Value} {a : Array Value} {r : Int64} {σ1 : St} (hr : va_Run p l e R s m args below meth c H locs cells slots 0 0 (F0 m pc ls st0) rest (QL D h cy H.size (r, σ1) a) (Az h H.size))
    (kk : ∀ (H : Heap) (locs : List Loc), Zt D h cy s σ1 H locs → W p l e R s m args below meth c H locs cells slots Q (F0 m (pc + 3) ls (.long r :: rest))) : W p l e R s m args below meth c H locs cells slots Q (F0 m pc ls st0) :=
  va_calll hr Z.2 (fun q _ hq => Az_le Z q hq) (Az_le Z) (fun r1 u t H1 l1 ht hvm hw hB hz hk hS => by
    obtain ⟨rfl, rfl⟩ := hw
    exact kk H1 l1 ⟨by rw [← ht]; exact hB, hS⟩)
theorem goV (Z : Zt D h cy s σ H locs) {st0 : List Value} {a : Array Value} {y : St} (hr : va_Run p l e R s m args below meth c H locs cells slots 0 0 (F0 m pc ls st0) rest (QV D h cy H.size y a) (Az h H.size))
    (kk : ∀ (H : Heap) (locs : List Loc), Zt D h cy s y H locs → W p l e R s m args below meth c H locs cells slots Q (F0 m (pc + 3) ls rest)) : W p l e R s m args below meth c H locs cells slots Q (F0 m pc ls st0) :=
  va_callv hr Z.2 (fun q _ hq => Az_le Z q hq) (Az_le Z) (fun u t H1 l1 ht hvm hw hB hz hk hS => by
    subst hw
    exact kk H1 l1 ⟨by rw [← ht]; exact hB, hS⟩)
/-! a long compare and its branch -/
theorem x_lif_eq (X : Cx p s m args c D h cy own cc nL) {x y : Int64} {off : Int} {tgt : Nat} (hd1 : decode cc pc = .ok (.lcmp, 1)) (hd2 : decode cc (pc + 1) = .ok (.ifCond .eq off, 3)) (ht : ((pc + 1 : Nat) : Int) + off = (tgt : Int)) (kt : x = y → W p l e R s m args below meth c H locs cells slots Q (F0 m tgt ls rest)) (kf : ¬ (x = y) → W p l e R s m args below meth c H locs cells slots Q (F0 m (pc + 4) ls rest)) : W p l e R s m args below meth c H locs cells slots Q (F0 m pc ls (.long y :: .long x :: rest)) :=
  W.lcmp X.x X.b hd1 (lv_if_eq X.x X.b hd2 ht (fun hc => kt ((zcmp_eq x y).mp hc)) (fun hc => kf (fun q => hc ((zcmp_eq x y).mpr q))))
theorem x_lif_ne (X : Cx p s m args c D h cy own cc nL) {x y : Int64} {off : Int} {tgt : Nat} (hd1 : decode cc pc = .ok (.lcmp, 1)) (hd2 : decode cc (pc + 1) = .ok (.ifCond .ne off, 3)) (ht : ((pc + 1 : Nat) : Int) + off = (tgt : Int)) (kt : ¬ x = y → W p l e R s m args below meth c H locs cells slots Q (F0 m tgt ls rest)) (kf : x = y → W p l e R s m args below meth c H locs cells slots Q (F0 m (pc + 4) ls rest)) : W p l e R s m args below meth c H locs cells slots Q (F0 m pc ls (.long y :: .long x :: rest)) :=
  W.lcmp X.x X.b hd1 (lv_if_ne X.x X.b hd2 ht (fun hc => kt ((zcmp_ne x y).mp hc)) (fun hc => kf ((zcmp_eq x y).mp hc)))
theorem x_lif_lt (X : Cx p s m args c D h cy own cc nL) {x y : Int64} {off : Int} {tgt : Nat} (hd1 : decode cc pc = .ok (.lcmp, 1)) (hd2 : decode cc (pc + 1) = .ok (.ifCond .lt off, 3)) (ht : ((pc + 1 : Nat) : Int) + off = (tgt : Int)) (kt : x < y → W p l e R s m args below meth c H locs cells slots Q (F0 m tgt ls rest)) (kf : ¬ (x < y) → W p l e R s m args below meth c H locs cells slots Q (F0 m (pc + 4) ls rest)) : W p l e R s m args below meth c H locs cells slots Q (F0 m pc ls (.long y :: .long x :: rest)) :=
  W.lcmp X.x X.b hd1 (lv_if_lt X.x X.b hd2 ht (fun hc => kt ((zcmp_lt x y).mp hc)) (fun hc => kf (fun q => hc ((zcmp_lt x y).mpr q))))
theorem x_lif_ge (X : Cx p s m args c D h cy own cc nL) {x y : Int64} {off : Int} {tgt : Nat} (hd1 : decode cc pc = .ok (.lcmp, 1)) (hd2 : decode cc (pc + 1) = .ok (.ifCond .ge off, 3)) (ht : ((pc + 1 : Nat) : Int) + off = (tgt : Int)) (kt : y ≤ x → W p l e R s m args below meth c H locs cells slots Q (F0 m tgt ls rest)) (kf : ¬ (y ≤ x) → W p l e R s m args below meth c H locs cells slots Q (F0 m (pc + 4) ls rest)) : W p l e R s m args below meth c H locs cells slots Q (F0 m pc ls (.long y :: .long x :: rest)) :=
  W.lcmp X.x X.b hd1 (lv_if_ge X.x X.b hd2 ht (fun hc => kt ((zcmp_ge x y).mp hc)) (fun hc => kf (fun q => hc ((zcmp_ge x y).mpr q))))
theorem x_lif_gt (X : Cx p s m args c D h cy own cc nL) {x y : Int64} {off : Int} {tgt : Nat} (hd1 : decode cc pc = .ok (.lcmp, 1)) (hd2 : decode cc (pc + 1) = .ok (.ifCond .gt off, 3)) (ht : ((pc + 1 : Nat) : Int) + off = (tgt : Int)) (kt : y < x → W p l e R s m args below meth c H locs cells slots Q (F0 m tgt ls rest)) (kf : ¬ (y < x) → W p l e R s m args below meth c H locs cells slots Q (F0 m (pc + 4) ls rest)) : W p l e R s m args below meth c H locs cells slots Q (F0 m pc ls (.long y :: .long x :: rest)) :=
  W.lcmp X.x X.b hd1 (lv_if_gt X.x X.b hd2 ht (fun hc => kt ((zcmp_gt x y).mp hc)) (fun hc => kf (fun q => hc ((zcmp_gt x y).mpr q))))
theorem x_lif_le (X : Cx p s m args c D h cy own cc nL) {x y : Int64} {off : Int} {tgt : Nat} (hd1 : decode cc pc = .ok (.lcmp, 1)) (hd2 : decode cc (pc + 1) = .ok (.ifCond .le off, 3)) (ht : ((pc + 1 : Nat) : Int) + off = (tgt : Int)) (kt : x ≤ y → W p l e R s m args below meth c H locs cells slots Q (F0 m tgt ls rest)) (kf : ¬ (x ≤ y) → W p l e R s m args below meth c H locs cells slots Q (F0 m (pc + 4) ls rest)) : W p l e R s m args below meth c H locs cells slots Q (F0 m pc ls (.long y :: .long x :: rest)) :=
  W.lcmp X.x X.b hd1 (lv_if_le X.x X.b hd2 ht (fun hc => kt ((zcmp_le x y).mp hc)) (fun hc => kf (fun q => hc ((zcmp_le x y).mpr q))))
/-! a block copy -/
abbrev cpOk (σ : St) (k0 n0 n1 : Nat) (sp dp n : Int32) : Prop := ¬ sp < 0 ∧ ¬ dp < 0 ∧ ¬ n < 0 ∧ sp.toNatClampNeg + n.toNatClampNeg ≤ n0 ∧ dp.toNatClampNeg + n.toNatClampNeg ≤ n1 ∧ ∀ i, i < n.toNatClampNeg → fits .byte (.int (σ.1 k0 (sp.toNatClampNeg + i))) = true
theorem x_copyb (X : Cx p s m args c D h cy own cc nL) (Z : Zt D h cy s σ H locs) (hsz : ls.size = nL) {k0 k1 n0 n1 idx : Nat} (h0 : Sh k0 (fun _ cy x _ => .inl (cy 0, n0, .inl x))) (h1 : Sh k1 (fun _ cy x _ => .inl (cy 0, n1, .inl x))) {sp dp n : Int32} (hg : cpOk σ k0 n0 n1 sp dp n) (hlk : Cond.methodLink own idx arraycopyName ∈ GT) (hfr : 1 ≤ R.frames) (hlo : (rest.map fun v => v.category).sum + (nativeFrameWords "java/lang/System" "arraycopy" 5 + 11) ≤ R.locals) (hdg : decode cc pc = .ok (.invokestatic idx, 3))
    (kk : ∀ (σ2 : St) (H : Heap) (locs : List Loc), σ2 = sR σ k1 (va_cpy (σ.1 k0) (σ.1 k1) sp.toNatClampNeg dp.toNatClampNeg n.toNatClampNeg) → Zt D h cy s σ2 H locs → W p l e R s m args below meth c H locs cells slots Q (F0 m (pc + 3) ls rest)) : W p l e R s m args below meth c H locs cells slots Q (F0 m pc ls (.int n :: .int dp :: .ref (h k1) :: .int sp :: .ref (h k0) :: rest)) :=
  va_copyi X.x X.b (by rw [X.n, hsz]) X.o (X.t _ hlk) (X.t _ ac_nat) (X.t _ ac_st) (X.t _ ac_in) X.k Z.1 (wd_D X.j σ) Z.2 k0 k1 0 0 (wd_at h0) (wd_at h1) rfl rfl rfl hg.1 hg.2.1 hg.2.2.1 hg.2.2.2.1 hg.2.2.2.2.1 hg.2.2.2.2.2 hfr hlo hdg (fun H1 l1 hP hD hS => kk _ H1 l1 rfl ⟨by rw [← wd_sR h1 rfl]; exact hP, hS⟩)
end RT
end
section
/-! ===== BEGIN exceptions that leave a method, and their catching by the caller (launches without stack traces) ===== -/
section VXA
/-! The laws vx_back, vx_callV, vx_callS, vx_callSW, vx_throw0, vx_throwS follow proofs of the library, with one case more: JvmDerived/Free/Laws.lean (Back.of_free), Shelf42/LK1.lean (callV, callS), Shelf/KitTraced.lean (throwNew0V, throwNewS). -/
/-- where a method has thrown q: the class by its name, the cell, what was written, the world -/
def vx_T (XC : String → State → State → Prop) (st : State) (q : Addr) (t : State) (mc ms : Nat) (free : Addr → Prop) : Prop :=
  ∃ (E : String) (ce : Cell) (L : List Loc), XC E st t ∧ t.heap[q]? = some ce ∧ ce.vm = .none ∧ st.vm.findClass E = some ce.cls ∧ st.WarmedH t.vm ∧ st.sameButNew ({ t with vm := st.vm } : State) L mc ms ∧ ∀ z ∈ L, free z.base
def vx_Q (Qc : Array Value → State → Outcome → State → Prop) (XC : String → State → State → Prop) (mc ms : Nat) (free : Addr → Prop) : Array Value → State → Outcome → State → Prop := fun a st o t =>
  (Qc a st o t ∧ ∃ L, FrameEnd st o t L mc ms ∧ ∀ q ∈ L, free q.base) ∨ ∃ q, o = .threw q ∧ vx_T XC st q t mc ms free
/-- a callee that returns or throws -/
def vx_Met (l : Launch) (y : MethodName) (ws : List Cond) (rm : Room) (Pc : Array Value → State → Prop) (Qc : Array Value → State → Outcome → State → Prop) (XC : String → State → State → Prop) (mc ms : Nat) (free : Addr → Prop) : Prop :=
  MetFree l y (headSpec ws rm) Pc (fun _ _ _ _ _ => True) (vx_Q Qc XC mc ms free)
def vx_Post (XC : String → State → State → Prop) (mc ms : Nat) (free : Addr → Prop) : Pt → Array Value → Addr → Pt → Prop := fun A a q B =>
  ∃ (g : JFrame) (mk : MethodId) (t : State) (L : List Loc) (E : String) (ce : Cell), B.U.heap = t.heap ∧ B.U.vm = t.vm ∧ XC E (A.U.calling g mk a) t ∧ t.heap[q]? = some ce ∧ ce.vm = .none ∧ A.U.vm.findClass E = some ce.cls ∧ B.locs = A.locs ++ L ∧ (∀ z ∈ L, free z.base) ∧ B.cells = A.cells + mc ∧ B.slots = A.slots + ms
def vx_Back (l : Launch) (R : Room) (p : Program) (e : Env) (below : List Frame) (s : State) (sargs : Array Value) (y : MethodName) (len W9 : Nat)
    (Pre : Pt → Array Value → Prop) (Post : Pt → Array Value → Option Value → Pt → Prop) (PostX : Pt → Array Value → Addr → Pt → Prop) : Prop :=
  ∀ (m : MethodId) (meth : Method) (c : Code) (A : Pt) (g : JFrame) (ig : Instr) (mk : MethodId) (a : Array Value),
    Stand p l e R s m sargs below meth c A.U A.locs A.cells A.slots → g.method = m → g.locals.size = c.maxLocals → decode c.code g.pc = .ok (ig, len) →
    2 * g.monitorRoom + (g.stack.map fun v => v.category).sum ≤ W9 → A.U.methodNamed? y = some mk → Pre A a →
    (∃ (v : Option Value) (B : Pt), Stand p l e R s m sargs below meth c B.U B.locs B.cells B.slots ∧ Post A a v B ∧
      Steps p.tables e below (doInvoke e (A.U.setTop g) [] mk a).1 (B.U.setTop { g with pc := g.pc + len, stack := v.toList ++ g.stack })) ∨
    (∃ (q : Addr) (B : Pt), Stand p l e R s m sargs below meth c B.U B.locs B.cells B.slots ∧ PostX A a q B ∧
      Steps p.tables e below (doInvoke e (A.U.setTop g) [] mk a).1 ((B.U.setTop g).pushFrame (.throwing q)))
section Payer
variable {l : Launch} {R : Room} {p : Program} {e : Env} {below : List Frame} {s : State} {sargs : Array Value} {y : MethodName} {len W9 : Nat}
theorem vx_back {ws : List Cond} {rm : Room} {Pc : Array Value → State → Prop} {Qc : Array Value → State → Outcome → State → Prop} {XC : String → State → State → Prop} {mc ms : Nat} {free : Addr → Prop} {bytes : ByteArray} {maxL : Nat} {ret : Option FieldType}
    (hM : vx_Met l y ws rm Pc Qc XC mc ms free) (hblind : FrameBlind Pc) (hrc : rm.cells = mc) (hrs : rm.slots = ms)
    (hframes : rm.frames + 1 ≤ R.frames) (hlocals : W9 + (maxL + 11) + rm.locals ≤ R.locals)
    (hws : ∀ w ∈ ws, ∀ a' U, s.WarmedH U.vm → w.before a' U = true) (hcode : Cond.code y bytes maxL ret ∈ ws) (hinit : ∀ a' U, s.WarmedH U.vm → (Cond.initialized y.cls).before a' U = true) :
    vx_Back l R p e below s sargs y len W9 (PreOf R mc ms Pc) (PostOf Qc mc ms free) (vx_Post XC mc ms free) := by
  intro m meth c A g ig mk a X hg hsize hdg hW hn hp
  have h1 : (headSpec ws rm).pre.before a A.U = true := atoms_intro fun w hw => hws w hw _ _ X.warmed
  have h2 : (Cond.code y bytes maxL ret).before a A.U = true := hws _ hcode _ _ X.warmed
  have h3 : (Cond.initialized y.cls).before a A.U = true := hinit _ _ X.warmed
  have h4 : A.cells + (headSpec ws rm).room.cells ≤ R.cells := by rw [show (headSpec ws rm).room.cells = mc from hrc]; exact hp.1
  have h5 : A.slots + (headSpec ws rm).room.slots ≤ R.slots := by rw [show (headSpec ws rm).room.slots = ms from hrs]; exact hp.2.1
  have hPc : Pc a (A.U.calling g mk a) := hblind _ _ _ _ hp.2.2
  obtain ⟨U, Ls, c0, s0⟩ := A
  dsimp only [Pt.U, Pt.locs, Pt.cells, Pt.slots] at h1 h2 h3 h4 h5 X hn hPc ⊢
  obtain ⟨methY, cY, hmY, hcY, -, hlY, -, -, -, -⟩ := Cond.code_spec hn h2
  obtain ⟨kY, hkY, -⟩ := className_of_methodNamed hn
  have hinitY : kY.init = .initialized := Cond.initialized_spec (findClass_of_methodNamed hn) hkY h3
  have h : At U g.method c below := by rw [hg]; exact X.here
  have hlocals9 : W9 + (maxL + 11) + (headSpec ws rm).room.locals ≤ R.locals := hlocals
  have happ : (headSpec ws rm).appliesLoose y e.platform (U.calling g mk a) = true :=
    Spec.appliesLoose_calling (g := g) h hdg hn hkY hinitY
      (X.room_calling (g := g) (R' := (headSpec ws rm).room) hsize hmY hcY hframes (by rw [hlY]; omega) h4 h5) h1
  obtain ⟨mid, hmid⟩ := h.above
  have hfr : (U.setTop g).frames = (.java g :: mid) ++ below := by rw [State.frames_setTop' g h.top, hmid]; rfl
  obtain ⟨o, s₂, hsteps, -, hend, hq⟩ := Steps.callFree hM p X.admits X.cas X.clock (acts := []) hfr happ hPc trivial
  have hq' : vx_Q Qc XC mc ms free a (U.calling g mk a) o s₂ := hq
  rw [State.frames_setTop' g h.top] at hend
  obtain ⟨g₀, hg0⟩ := Option.isSome_iff_exists.mp h.top
  obtain ⟨r, hr⟩ := State.topJava?_eq_some.mp hg0
  have hr' : (({ U with heap := s₂.heap, slotsUsed := s₂.slotsUsed } : State).setVm s₂.vm).frames = .java g₀ :: r := hr
  rcases hq' with ⟨hqc, L, hfe, hL⟩ | ⟨q, rfl, E, ce, L, hx, hce, hcv, hcl, hW₂, hsm, hL⟩
  · obtain ⟨⟨v, rfl⟩, hW₂, e2, q2, q3, q4, q5, q6⟩ := id hfe
    have e3 : s₂ = ({ (U.calling g mk a).setFrames s₂.frames with heap := s₂.heap, slotsUsed := s₂.slotsUsed } : State).setVm s₂.vm := by
      have : s₂ = ({ s₂ with vm := (U.calling g mk a).vm } : State).setVm s₂.vm := rfl
      rw [e2] at this
      exact this
    obtain ⟨c₂, i₂, len₂, hc₂, hd₂, hf₂⟩ := hend
    have hW' : U.WarmedH s₂.vm := hW₂
    have hcc : c₂ = c := by
      have h1 : s₂.code? g.method = U.code? g.method := by
        rw [State.code?_eq, State.code?_eq, hW'.alike.method?]
      exact Option.some.inj (hc₂.symm.trans (h1.trans h.code))
    subst hcc
    have hlen : len₂ = len := by rw [hdg] at hd₂; cases hd₂; rfl
    subst hlen
    have hs₂ : s₂ = (({ U with heap := s₂.heap, slotsUsed := s₂.slotsUsed } : State).setVm s₂.vm).setTop { g with pc := g.pc + len₂, stack := v.toList ++ g.stack } := by
      refine e3.trans ?_
      rw [hf₂, State.calling_eq h.top, State.setFrames_setFrames, State.setTop_of_frames _ hr', hr]
      rfl
    have hsame : U.sameButNew ({ U with heap := s₂.heap, slotsUsed := s₂.slotsUsed } : State) L mc ms := by
      refine ⟨?_, q2, q3, q4, q5, q6⟩
      obtain ⟨t, ht, -⟩ := State.frames_cons hr
      show ({ U with heap := s₂.heap, slotsUsed := s₂.slotsUsed } : State) = { U.setFrames U.frames with heap := s₂.heap, slotsUsed := s₂.slotsUsed }
      rw [State.setFrames_self ht]
    subst hg
    refine Or.inl ⟨v, ⟨(({ U with heap := s₂.heap, slotsUsed := s₂.slotsUsed } : State).setVm s₂.vm), Ls ++ L, c0 + mc, s0 + ms⟩,
      ⟨X.admits, X.cas, X.clock, X.frames, X.room, X.hears, X.method, X.code, (X.here.setHeapUsed s₂.heap s₂.slotsUsed).setVm hW'.alike, X.tail, State.WarmedH.trans X.warmed hW', X.limits, X.bytes, X.same.trans (hsame.setVm s.vm)⟩,
      ⟨g, mk, s₂, L, rfl, rfl, hqc, rfl, hL, rfl, rfl⟩, ?_⟩
    show Steps p.tables e below _ ((({ U with heap := s₂.heap, slotsUsed := s₂.slotsUsed } : State).setVm s₂.vm).setTop { g with pc := g.pc + len₂, stack := v.toList ++ g.stack })
    rw [← hs₂]
    exact hsteps
  · obtain ⟨e2, q2, q3, q4, q5, q6⟩ := id hsm
    have e3 : s₂ = ({ (U.calling g mk a).setFrames s₂.frames with heap := s₂.heap, slotsUsed := s₂.slotsUsed } : State).setVm s₂.vm := by
      have : s₂ = ({ s₂ with vm := (U.calling g mk a).vm } : State).setVm s₂.vm := rfl
      rw [e2] at this
      exact this
    have hf₂ : s₂.frames = .throwing q :: .java g :: U.frames.tail := hend
    have hW' : U.WarmedH s₂.vm := hW₂
    have hs₂ : s₂ = ((({ U with heap := s₂.heap, slotsUsed := s₂.slotsUsed } : State).setVm s₂.vm).setTop g).pushFrame (.throwing q) := by
      refine e3.trans ?_
      rw [hf₂, State.calling_eq h.top, State.setFrames_setFrames, State.pushFrame, State.frames_setTop _ hr', State.setTop_of_frames _ hr', State.setFrames_setFrames, hr]
      rfl
    have hsame : U.sameButNew ({ U with heap := s₂.heap, slotsUsed := s₂.slotsUsed } : State) L mc ms := by
      refine ⟨?_, q2, q3, q4, q5, q6⟩
      obtain ⟨t, ht, -⟩ := State.frames_cons hr
      show ({ U with heap := s₂.heap, slotsUsed := s₂.slotsUsed } : State) = { U.setFrames U.frames with heap := s₂.heap, slotsUsed := s₂.slotsUsed }
      rw [State.setFrames_self ht]
    subst hg
    refine Or.inr ⟨q, ⟨(({ U with heap := s₂.heap, slotsUsed := s₂.slotsUsed } : State).setVm s₂.vm), Ls ++ L, c0 + mc, s0 + ms⟩,
      ⟨X.admits, X.cas, X.clock, X.frames, X.room, X.hears, X.method, X.code, (X.here.setHeapUsed s₂.heap s₂.slotsUsed).setVm hW'.alike, X.tail, State.WarmedH.trans X.warmed hW', X.limits, X.bytes, X.same.trans (hsame.setVm s.vm)⟩,
      ⟨g, mk, s₂, L, E, ce, rfl, rfl, hx, hce, hcv, hcl, rfl, hL, rfl, rfl⟩, ?_⟩
    show Steps p.tables e below _ (((({ U with heap := s₂.heap, slotsUsed := s₂.slotsUsed } : State).setVm s₂.vm).setTop g).pushFrame (.throwing q))
    rw [← hs₂]
    exact hsteps
end Payer
section Calls
variable {p : Program} {l : Launch} {e : Env} {R : Room} {s : State} {m : MethodId} {args : Array Value} {below : List Frame} {meth : Method} {c : Code} {T : State} {locs : List Loc} {cells slots : Nat}
theorem vx_callV (X : Stand p l e R s m args below meth c T locs cells slots) (hexec : p.tables.exec = Jvm.exec) {own C : String} {index : Nat} {y : MethodName} {bytes : ByteArray} {maxL : Nat} {ret : Option FieldType}
    (hown : s.vm.findClass own = some m.cls) (hlink : (Cond.methodLink own index y).before args s = true) (hinst : (Cond.instanceMethod y).before args s = true) (hsel : (Cond.selects C y y).before args s = true)
    (hcode : (Cond.code y bytes maxL ret).before args s = true) (hy : y.cls ≠ "java/lang/invoke/MethodHandle" ∧ y.cls ≠ "java/lang/invoke/VarHandle")
    {W9 : Nat} {Pre : Pt → Array Value → Prop} {Post : Pt → Array Value → Option Value → Pt → Prop} {PostX : Pt → Array Value → Addr → Pt → Prop} (hK : vx_Back l R p e below s args y 3 W9 Pre Post PostX)
    {b : Addr} {cellB : Cell} (hcell : T.heap[b]? = some cellB) (hobj : cellB.vm.isStatics = false) (hcls : s.vm.findClass C = some cellB.cls)
    {g : JFrame} (hg : g.method = m) (hsize : g.locals.size = c.maxLocals) {argsL rest : List Value} (hlen : ∀ sig, parseMethodDescriptor y.desc = some sig → argsL.length = sig.parameters.length)
    (hstack : g.stack = argsL.reverse ++ .ref b :: rest) (hW : 2 * g.monitorRoom + (rest.map fun v => v.category).sum ≤ W9) (hdg : decode c.code g.pc = .ok (.invokevirtual index, 3))
    (hpre : ∀ vm₁, s.WarmedH vm₁ → Pre ⟨T.setVm vm₁, locs, cells, slots⟩ (Value.ref b :: argsL).toArray) :
    (∃ (v : Option Value) (vm₁ : Vm) (B : Pt), s.WarmedH vm₁ ∧ Stand p l e R s m args below meth c B.U B.locs B.cells B.slots ∧ Post ⟨T.setVm vm₁, locs, cells, slots⟩ (Value.ref b :: argsL).toArray v B ∧
      ∀ target, Steps p.tables e below (B.U.setTop { g with pc := g.pc + 3, stack := v.toList ++ rest }) target → Steps p.tables e below (T.setTop g) target) ∨
    (∃ (q : Addr) (vm₁ : Vm) (B : Pt), s.WarmedH vm₁ ∧ Stand p l e R s m args below meth c B.U B.locs B.cells B.slots ∧ PostX ⟨T.setVm vm₁, locs, cells, slots⟩ (Value.ref b :: argsL).toArray q B ∧
      Steps p.tables e below (T.setTop g) ((B.U.setTop { g with stack := rest }).pushFrame (.throwing q))) := by
  obtain ⟨mk, methM, hnamed, hmethM, hstM, habM⟩ := Cond.instanceMethod_spec hinst
  obtain ⟨methM', cM, hmethM', -, -, -, -, -, -, hsigM⟩ := Cond.code_spec hnamed hcode
  cases hmethM.symm.trans hmethM'
  obtain ⟨c2, r2, m2, q1, q2, q3, q4, kP, hkP, hkPi⟩ := Cond.selects_spec hsel
  cases hcls.symm.trans q1
  cases (State.methodFound?_of_named hnamed hy).symm.trans q2
  cases hnamed.symm.trans q3
  have hselP : selectMethod e.platform s.vm cellB.cls mk = .method mk := by rw [Launch.admits_selectMethod X.admits]; exact q4
  obtain ⟨vm₁, X₁, hstep₁⟩ := X.invokevirtual hexec hown hlink hnamed hmethM hstM hkP hkPi hy (a := b) (cell := cellB) hcell
    (fun z h => by rw [h] at hobj; cases hobj) hselP hmethM habM hkP hkPi (g := g) hg (argsL := argsL) (rest := rest) (hlen _ hsigM) hstack hdg
  rcases hK m meth c ⟨T.setVm vm₁, locs, cells, slots⟩ { g with stack := rest } (.invokevirtual index) mk (Value.ref b :: argsL).toArray X₁ hg hsize hdg hW (X₁.named hnamed) (hpre vm₁ X₁.warmed) with ⟨v, B, X', hpost, hsteps⟩ | ⟨q, B, X', hpost, hsteps⟩
  · exact Or.inl ⟨v, vm₁, B, X₁.warmed, X', hpost, fun target h => hstep₁ _ fun acts => by rw [doInvoke_state]; exact hsteps.trans h⟩
  · exact Or.inr ⟨q, vm₁, B, X₁.warmed, X', hpost, hstep₁ _ fun acts => by rw [doInvoke_state]; exact hsteps⟩
theorem vx_callS (X : Stand p l e R s m args below meth c T locs cells slots) (hexec : p.tables.exec = Jvm.exec) {own : String} {index : Nat} {y : MethodName} {bytes : ByteArray} {maxL : Nat} {ret : Option FieldType}
    (hown : s.vm.findClass own = some m.cls) (hlink : (Cond.methodLink own index y).before args s = true) (hstat : (Cond.static y).before args s = true) (hinit : (Cond.initialized y.cls).before args s = true)
    (hcode : (Cond.code y bytes maxL ret).before args s = true) (hy : y.cls ≠ "java/lang/invoke/MethodHandle" ∧ y.cls ≠ "java/lang/invoke/VarHandle")
    {W9 : Nat} {Pre : Pt → Array Value → Prop} {Post : Pt → Array Value → Option Value → Pt → Prop} {PostX : Pt → Array Value → Addr → Pt → Prop} (hK : vx_Back l R p e below s args y 3 W9 Pre Post PostX)
    {g : JFrame} (hg : g.method = m) (hsize : g.locals.size = c.maxLocals) {argsL rest : List Value} (hlen : ∀ sig, parseMethodDescriptor y.desc = some sig → argsL.length = sig.parameters.length)
    (hstack : g.stack = argsL.reverse ++ rest) (hW : 2 * g.monitorRoom + (rest.map fun v => v.category).sum ≤ W9) (hdg : decode c.code g.pc = .ok (.invokestatic index, 3))
    (hpre : ∀ vm₁, s.WarmedH vm₁ → Pre ⟨T.setVm vm₁, locs, cells, slots⟩ argsL.toArray) :
    (∃ (v : Option Value) (vm₁ : Vm) (B : Pt), s.WarmedH vm₁ ∧ Stand p l e R s m args below meth c B.U B.locs B.cells B.slots ∧ Post ⟨T.setVm vm₁, locs, cells, slots⟩ argsL.toArray v B ∧
      ∀ target, Steps p.tables e below (B.U.setTop { g with pc := g.pc + 3, stack := v.toList ++ rest }) target → Steps p.tables e below (T.setTop g) target) ∨
    (∃ (q : Addr) (vm₁ : Vm) (B : Pt), s.WarmedH vm₁ ∧ Stand p l e R s m args below meth c B.U B.locs B.cells B.slots ∧ PostX ⟨T.setVm vm₁, locs, cells, slots⟩ argsL.toArray q B ∧
      Steps p.tables e below (T.setTop g) ((B.U.setTop { g with stack := rest }).pushFrame (.throwing q))) := by
  obtain ⟨mk, hnamed⟩ := Cond.code_named hcode
  obtain ⟨methM, cM, hmethM, -, -, -, -, -, -, hsigM⟩ := Cond.code_spec hnamed hcode
  have hstatic : methM.isStatic = true := Cond.static_spec hnamed hmethM hstat
  obtain ⟨kP, hkP, -⟩ := className_of_methodNamed hnamed
  have hinitP : kP.init = .initialized := Cond.initialized_spec (findClass_of_methodNamed hnamed) hkP hinit
  obtain ⟨vm₁, X₁, hstep₁⟩ := X.invokestatic hexec hown hlink hnamed hmethM hstatic hkP hinitP hy (g := g) hg (argsL := argsL) (rest := rest) (hlen _ hsigM) hstack hdg
  rcases hK m meth c ⟨T.setVm vm₁, locs, cells, slots⟩ { g with stack := rest } (.invokestatic index) mk argsL.toArray X₁ hg hsize hdg hW (X₁.named hnamed) (hpre vm₁ X₁.warmed) with ⟨v, B, X', hpost, hsteps⟩ | ⟨q, B, X', hpost, hsteps⟩
  · exact Or.inl ⟨v, vm₁, B, X₁.warmed, X', hpost, fun target h => hstep₁ _ fun acts => by rw [doInvoke_state]; exact hsteps.trans h⟩
  · exact Or.inr ⟨q, vm₁, B, X₁.warmed, X', hpost, hstep₁ _ fun acts => by rw [doInvoke_state]; exact hsteps⟩
end Calls
theorem vx_cls {s : State} {T : State} {vm₁ : Vm} {E : String} {k : ClassId} (hW : s.WarmedH vm₁) (h : (T.setVm vm₁).vm.findClass E = some k) : s.vm.findClass E = some k := by
  have h1 : vm₁.findClass E = some k := h
  rw [hW.alike.findClass] at h1
  exact h1
/-- the method's frame g, with q thrown over it -/
def vx_W (p : Program) (l : Launch) (e : Env) (R : Room) (s : State) (m : MethodId) (args : Array Value) (below : List Frame) (meth : Method) (c : Code) (H : Heap) (locs : List Loc) (cells slots : Nat) (Q : State → Prop) (g : JFrame) (q : Addr) : Prop :=
  ∀ T : State, T.heap = H → Stand p l e R s m args below meth c T locs cells slots → ∃ t, Steps p.tables e below ((T.setTop g).pushFrame (.throwing q)) t ∧ Q t
def vx_Run (p : Program) (l : Launch) (e : Env) (R : Room) (s : State) (m : MethodId) (args : Array Value) (below : List Frame) (meth : Method) (c : Code) (H : Heap) (locs : List Loc) (cells slots mc ms : Nat) (g : JFrame) (rest : List Value) (Qa : State → Outcome → State → Prop) (XC : String → State → State → Prop) (free : Addr → Prop) : Prop :=
  ∀ T : State, T.heap = H → Stand p l e R s m args below meth c T locs cells slots →
    (∃ (v : Option Value) (st₀ t T' : State) (L : List Loc), st₀.heap = H ∧ Stand p l e R s m args below meth c T' (locs ++ L) (cells + mc) (slots + ms) ∧ (∀ q ∈ L, free q.base) ∧ T'.heap = t.heap ∧ T'.vm = t.vm ∧ Qa st₀ (.returned v) t ∧
      Goes p e below T g T' { g with pc := g.pc + 3, stack := v.toList ++ rest }) ∨
    (∃ (q : Addr) (st₀ t T' : State) (L : List Loc) (E : String) (ce : Cell), st₀.heap = H ∧ Stand p l e R s m args below meth c T' (locs ++ L) (cells + mc) (slots + ms) ∧ (∀ z ∈ L, free z.base) ∧ T'.heap = t.heap ∧ T'.vm = t.vm ∧ XC E st₀ t ∧ t.heap[q]? = some ce ∧ ce.vm = .none ∧ s.vm.findClass E = some ce.cls ∧
      Steps p.tables e below (T.setTop g) ((T'.setTop { g with stack := rest }).pushFrame (.throwing q)))
def vx_X {S : Type} (px : S → Prop) (B : String → S → State → Prop) (A : Nat → Prop) : String → State → State → Prop := fun E st t => ∃ u : S, px u ∧ B E u t ∧ va_F A st t
section Runs
variable {p : Program} {l : Launch} {e : Env} {R : Room} {s : State} {m : MethodId} {args : Array Value} {below : List Frame} {meth : Method} {c : Code} {H : Heap} {locs : List Loc} {cells slots : Nat}
variable {y : MethodName} {bytes cc : ByteArray} {maxL nL mc ms n index : Nat} {ret : Option FieldType} {ws : List Cond} {rm : Room} {Pc : Array Value → State → Prop} {Qc : Array Value → State → Outcome → State → Prop} {XC : String → State → State → Prop} {free : Addr → Prop} {Ts : List Cond} {own C : String} {b : Addr} {As rest : List Value} {g : JFrame}
theorem vx_callBack (cb : CallB R s args own index y bytes maxL ret ws rm mc ms n) (hM : vx_Met l y ws rm Pc Qc XC mc ms free) (hbl : FrameBlind Pc) : vx_Back l R p e below s args y 3 8 (PreOf R mc ms Pc) (PostOf Qc mc ms free) (vx_Post XC mc ms free) := by
  obtain ⟨hrc, hrs, hfr, hlo, hws, hcw, -, hini, -⟩ := cb
  exact vx_back (bytes := bytes) (maxL := maxL) (ret := ret) hM hbl hrc hrs hfr hlo hws hcw (fun a' U hW => word_at hW (Or.inl (by first | rfl | simp [Cond.onTables, Cond.keeps, Cond.steady])) hini)
theorem vx_runV (S : CallFix p m c cc nL s args Ts own) (hM : vx_Met l y ws rm Pc Qc XC mc ms free) (cw : CallW R s args own C index y bytes maxL ret ws rm mc ms n) (hp : PreV s H C b Pc As)
    (hg : g.method = m) (hn : As.length = n) (hsize : g.locals.size = nL) (hstack : g.stack = As.reverse ++ .ref b :: rest) (hW : 2 * g.monitorRoom + (rest.map fun v => v.category).sum ≤ 8) (hdg : decode cc g.pc = .ok (.invokevirtual index, 3)) (hf : cells + mc ≤ R.cells ∧ slots + ms ≤ R.slots) :
    vx_Run p l e R s m args below meth c H locs cells slots mc ms g rest (Qc (Value.ref b :: As).toArray) XC free := by
  have hK : vx_Back l R p e below s args y 3 8 (PreOf R mc ms Pc) (PostOf Qc mc ms free) (vx_Post XC mc ms free) := vx_callBack cw.1 hM hp.1
  obtain ⟨⟨-, -, -, -, -, -, hcode, -, hy, hlen, hl⟩, hin, hse⟩ := cw
  obtain ⟨hx, hb, hml, ho, -⟩ := S
  obtain ⟨-, ⟨cellB, hcB, hoB, hclB⟩, hPc⟩ := hp
  intro T hT X
  rcases vx_callV X hx (C := C) (bytes := bytes) (maxL := maxL) (ret := ret) ho hl hin hse hcode hy hK (by rw [hT]; exact hcB) hoB hclB hg (hsize.trans hml.symm) (argsL := As) (rest := rest) (fun sig h => hn.trans (hlen sig h)) hstack hW (by rw [hb]; exact hdg)
    (fun vm₁ hW₁ => ⟨hf.1, hf.2, hPc (T.setVm vm₁) hT hW₁⟩) with ⟨v, vm₁, ⟨U', l2, c2, s2⟩, hW₁, X', ⟨g', mk, t, L, e1, e2, hq, h1, hL, h2, h3⟩, st⟩ | ⟨q, vm₁, ⟨U', l2, c2, s2⟩, hW₁, X', ⟨g', mk, t, L, E, ce, e1, e2, hq, hce, hcv, hcl, h1, hL, h2, h3⟩, st⟩
  · dsimp only [Pt.U, Pt.locs, Pt.cells, Pt.slots] at X' e1 e2 h1 h2 h3 st
    subst h1; subst h2; subst h3
    exact Or.inl ⟨v, (T.setVm vm₁).calling g' mk (Value.ref b :: As).toArray, t, U', L, hT, X', hL, e1, e2, hq, st⟩
  · dsimp only [Pt.U, Pt.locs, Pt.cells, Pt.slots] at X' e1 e2 h1 h2 h3 st hcl
    subst h1; subst h2; subst h3
    exact Or.inr ⟨q, (T.setVm vm₁).calling g' mk (Value.ref b :: As).toArray, t, U', L, E, ce, hT, X', hL, e1, e2, hq, hce, hcv, vx_cls hW₁ hcl, st⟩
theorem vx_runS (S : CallFix p m c cc nL s args Ts own) (hM : vx_Met l y ws rm Pc Qc XC mc ms free) (cw : CallB R s args own index y bytes maxL ret ws rm mc ms n ∧ (Cond.static y).before args s = true) (hp : PreS s H Pc As)
    (hg : g.method = m) (hn : As.length = n) (hsize : g.locals.size = nL) (hstack : g.stack = As.reverse ++ rest) (hW : 2 * g.monitorRoom + (rest.map fun v => v.category).sum ≤ 8) (hdg : decode cc g.pc = .ok (.invokestatic index, 3)) (hf : cells + mc ≤ R.cells ∧ slots + ms ≤ R.slots) :
    vx_Run p l e R s m args below meth c H locs cells slots mc ms g rest (Qc As.toArray) XC free := by
  have hK : vx_Back l R p e below s args y 3 8 (PreOf R mc ms Pc) (PostOf Qc mc ms free) (vx_Post XC mc ms free) := vx_callBack cw.1 hM hp.1
  obtain ⟨⟨-, -, -, -, -, -, hcode, hini, hy, hlen, hl⟩, hstt⟩ := cw
  obtain ⟨hx, hb, hml, ho, -⟩ := S
  intro T hT X
  rcases vx_callS X hx (bytes := bytes) (maxL := maxL) (ret := ret) ho hl hstt hini hcode hy hK hg (hsize.trans hml.symm) (argsL := As) (rest := rest) (fun sig h => hn.trans (hlen sig h)) hstack hW (by rw [hb]; exact hdg)
    (fun vm₁ hW₁ => ⟨hf.1, hf.2, hp.2 (T.setVm vm₁) hT hW₁⟩) with ⟨v, vm₁, ⟨U', l2, c2, s2⟩, hW₁, X', ⟨g', mk, t, L, e1, e2, hq, h1, hL, h2, h3⟩, st⟩ | ⟨q, vm₁, ⟨U', l2, c2, s2⟩, hW₁, X', ⟨g', mk, t, L, E, ce, e1, e2, hq, hce, hcv, hcl, h1, hL, h2, h3⟩, st⟩
  · dsimp only [Pt.U, Pt.locs, Pt.cells, Pt.slots] at X' e1 e2 h1 h2 h3 st
    subst h1; subst h2; subst h3
    exact Or.inl ⟨v, (T.setVm vm₁).calling g' mk As.toArray, t, U', L, hT, X', hL, e1, e2, hq, st⟩
  · dsimp only [Pt.U, Pt.locs, Pt.cells, Pt.slots] at X' e1 e2 h1 h2 h3 st hcl
    subst h1; subst h2; subst h3
    exact Or.inr ⟨q, (T.setVm vm₁).calling g' mk As.toArray, t, U', L, E, ce, hT, X', hL, e1, e2, hq, hce, hcv, vx_cls hW₁ hcl, st⟩
end Runs
section Rows
variable {p : Program} {l : Launch} {e : Env} {R : Room} {s : State} {m : MethodId} {args : Array Value} {below : List Frame} {meth : Method} {c : Code} {H : Heap} {locs : List Loc} {cells slots : Nat} {Q : State → Prop}
variable {mc ms : Nat} {free : Addr → Prop} {A0 A1 : Nat → Prop} {H0 : Heap} {a : Array Value} {pc : Nat} {ls : Array Slot} {st0 rest : List Value}
theorem vx_keep {st₀ t T' : State} {L : List Loc} (h0 : st₀.heap = H) (e1 : T'.heap = t.heap) (hS : va_S A0 H0 H locs) (hA : ∀ q, q < H.size → A1 q → A0 q) (hf : ∀ q, free q → A0 q) (hL : ∀ q ∈ L, free q.base) (hF : va_F A1 st₀ t) :
    H.size ≤ T'.heap.size ∧ (∀ q : Nat, q < H.size → ¬ A1 q → T'.heap[q]? = H[q]?) ∧ va_S A0 H0 T'.heap (locs ++ L) := by
  obtain ⟨hz, hk⟩ := hF
  rw [h0] at hz hk
  exact ⟨by rw [e1]; exact hz, fun q h1 h2 => by rw [e1]; exact hk q h1 h2,
    ⟨Nat.le_trans hS.1 (by rw [e1]; exact hz), fun q h1 h2 => by rw [e1, hk q (Nat.lt_of_lt_of_le h1 hS.1) (fun z => h2 (hA q (Nat.lt_of_lt_of_le h1 hS.1) z))]; exact hS.2.1 q h1 h2, fun q hq => by
      rcases List.mem_append.mp hq with h | h
      · exact hS.2.2 q h
      · exact hf _ (hL q h)⟩⟩
theorem vx_calli {S SX : Type} {post : Int32 → S → Prop} {px : SX → Prop} {B : S → State → Prop} {BX : String → SX → State → Prop} {AX : Nat → Prop} (hr : vx_Run p l e R s m args below meth c H locs cells slots mc ms (F0 m pc ls st0) rest (va_Qi post B A1 a) (vx_X px BX AX) free) (hS : va_S A0 H0 H locs) (hA : ∀ q, q < H.size → A1 q → A0 q) (hf : ∀ q, free q → A0 q) (hAX : ∀ q, q < H.size → AX q → A0 q)
    (kx : ∀ (E : String) (ce : Cell) (q9 : Addr) (u : SX) (t : State) (H1 : Heap) (locs1 : List Loc), t.heap = H1 → s.vm.Alike t.vm → px u → BX E u t → H.size ≤ H1.size → (∀ q : Nat, q < H.size → ¬ AX q → H1[q]? = H[q]?) → va_S A0 H0 H1 locs1 → H1[q9]? = some ce → ce.vm = .none → s.vm.findClass E = some ce.cls → vx_W p l e R s m args below meth c H1 locs1 (cells + mc) (slots + ms) Q (F0 m pc ls rest) q9)
    (kk : ∀ (r : Int32) (u : S) (t : State) (H1 : Heap) (locs1 : List Loc), t.heap = H1 → s.vm.Alike t.vm → post r u → B u t → H.size ≤ H1.size → (∀ q : Nat, q < H.size → ¬ A1 q → H1[q]? = H[q]?) → va_S A0 H0 H1 locs1 → W p l e R s m args below meth c H1 locs1 (cells + mc) (slots + ms) Q (F0 m (pc + 3) ls (.int r :: rest))) : W p l e R s m args below meth c H locs cells slots Q (F0 m pc ls st0) := by
  intro T hT X
  rcases hr T hT X with ⟨v, st₀, t, T', L, h0, X', hL, e1, e2, ⟨⟨r, u, hv, hp, hb⟩, hF⟩, st⟩ | ⟨q, st₀, t, T', L, E, ce, h0, X', hL, e1, e2, ⟨u, hp, hb, hF⟩, hce, hcv, hcl, st⟩
  · cases hv
    obtain ⟨k1, k2, k3⟩ := vx_keep h0 e1 hS hA hf hL hF
    obtain ⟨t2, a1, b1⟩ := kk r u t T'.heap (locs ++ L) e1.symm (by rw [← e2]; exact X'.warmed.alike) hp hb k1 k2 k3 T' rfl X'
    exact ⟨t2, st t2 a1, b1⟩
  · obtain ⟨k1, k2, k3⟩ := vx_keep h0 e1 hS hAX hf hL hF
    obtain ⟨t2, a1, b1⟩ := kx E ce q u t T'.heap (locs ++ L) e1.symm (by rw [← e2]; exact X'.warmed.alike) hp hb k1 k2 k3 (by rw [e1]; exact hce) hcv hcl T' rfl X'
    exact ⟨t2, st.trans a1, b1⟩
theorem vx_calll {S SX : Type} {post : Int64 → S → Prop} {px : SX → Prop} {B : S → State → Prop} {BX : String → SX → State → Prop} {AX : Nat → Prop} (hr : vx_Run p l e R s m args below meth c H locs cells slots mc ms (F0 m pc ls st0) rest (va_Ql post B A1 a) (vx_X px BX AX) free) (hS : va_S A0 H0 H locs) (hA : ∀ q, q < H.size → A1 q → A0 q) (hf : ∀ q, free q → A0 q) (hAX : ∀ q, q < H.size → AX q → A0 q)
    (kx : ∀ (E : String) (ce : Cell) (q9 : Addr) (u : SX) (t : State) (H1 : Heap) (locs1 : List Loc), t.heap = H1 → s.vm.Alike t.vm → px u → BX E u t → H.size ≤ H1.size → (∀ q : Nat, q < H.size → ¬ AX q → H1[q]? = H[q]?) → va_S A0 H0 H1 locs1 → H1[q9]? = some ce → ce.vm = .none → s.vm.findClass E = some ce.cls → vx_W p l e R s m args below meth c H1 locs1 (cells + mc) (slots + ms) Q (F0 m pc ls rest) q9)
    (kk : ∀ (r : Int64) (u : S) (t : State) (H1 : Heap) (locs1 : List Loc), t.heap = H1 → s.vm.Alike t.vm → post r u → B u t → H.size ≤ H1.size → (∀ q : Nat, q < H.size → ¬ A1 q → H1[q]? = H[q]?) → va_S A0 H0 H1 locs1 → W p l e R s m args below meth c H1 locs1 (cells + mc) (slots + ms) Q (F0 m (pc + 3) ls (.long r :: rest))) : W p l e R s m args below meth c H locs cells slots Q (F0 m pc ls st0) := by
  intro T hT X
  rcases hr T hT X with ⟨v, st₀, t, T', L, h0, X', hL, e1, e2, ⟨⟨r, u, hv, hp, hb⟩, hF⟩, st⟩ | ⟨q, st₀, t, T', L, E, ce, h0, X', hL, e1, e2, ⟨u, hp, hb, hF⟩, hce, hcv, hcl, st⟩
  · cases hv
    obtain ⟨k1, k2, k3⟩ := vx_keep h0 e1 hS hA hf hL hF
    obtain ⟨t2, a1, b1⟩ := kk r u t T'.heap (locs ++ L) e1.symm (by rw [← e2]; exact X'.warmed.alike) hp hb k1 k2 k3 T' rfl X'
    exact ⟨t2, st t2 a1, b1⟩
  · obtain ⟨k1, k2, k3⟩ := vx_keep h0 e1 hS hAX hf hL hF
    obtain ⟨t2, a1, b1⟩ := kx E ce q u t T'.heap (locs ++ L) e1.symm (by rw [← e2]; exact X'.warmed.alike) hp hb k1 k2 k3 (by rw [e1]; exact hce) hcv hcl T' rfl X'
    exact ⟨t2, st.trans a1, b1⟩
theorem vx_callf {S SX : Type} {post : UInt32 → S → Prop} {px : SX → Prop} {B : S → State → Prop} {BX : String → SX → State → Prop} {AX : Nat → Prop} (hr : vx_Run p l e R s m args below meth c H locs cells slots mc ms (F0 m pc ls st0) rest (va_Qf post B A1 a) (vx_X px BX AX) free) (hS : va_S A0 H0 H locs) (hA : ∀ q, q < H.size → A1 q → A0 q) (hf : ∀ q, free q → A0 q) (hAX : ∀ q, q < H.size → AX q → A0 q)
    (kx : ∀ (E : String) (ce : Cell) (q9 : Addr) (u : SX) (t : State) (H1 : Heap) (locs1 : List Loc), t.heap = H1 → s.vm.Alike t.vm → px u → BX E u t → H.size ≤ H1.size → (∀ q : Nat, q < H.size → ¬ AX q → H1[q]? = H[q]?) → va_S A0 H0 H1 locs1 → H1[q9]? = some ce → ce.vm = .none → s.vm.findClass E = some ce.cls → vx_W p l e R s m args below meth c H1 locs1 (cells + mc) (slots + ms) Q (F0 m pc ls rest) q9)
    (kk : ∀ (r : UInt32) (u : S) (t : State) (H1 : Heap) (locs1 : List Loc), t.heap = H1 → s.vm.Alike t.vm → post r u → B u t → H.size ≤ H1.size → (∀ q : Nat, q < H.size → ¬ A1 q → H1[q]? = H[q]?) → va_S A0 H0 H1 locs1 → W p l e R s m args below meth c H1 locs1 (cells + mc) (slots + ms) Q (F0 m (pc + 3) ls (.float r :: rest))) : W p l e R s m args below meth c H locs cells slots Q (F0 m pc ls st0) := by
  intro T hT X
  rcases hr T hT X with ⟨v, st₀, t, T', L, h0, X', hL, e1, e2, ⟨⟨r, u, hv, hp, hb⟩, hF⟩, st⟩ | ⟨q, st₀, t, T', L, E, ce, h0, X', hL, e1, e2, ⟨u, hp, hb, hF⟩, hce, hcv, hcl, st⟩
  · cases hv
    obtain ⟨k1, k2, k3⟩ := vx_keep h0 e1 hS hA hf hL hF
    obtain ⟨t2, a1, b1⟩ := kk r u t T'.heap (locs ++ L) e1.symm (by rw [← e2]; exact X'.warmed.alike) hp hb k1 k2 k3 T' rfl X'
    exact ⟨t2, st t2 a1, b1⟩
  · obtain ⟨k1, k2, k3⟩ := vx_keep h0 e1 hS hAX hf hL hF
    obtain ⟨t2, a1, b1⟩ := kx E ce q u t T'.heap (locs ++ L) e1.symm (by rw [← e2]; exact X'.warmed.alike) hp hb k1 k2 k3 (by rw [e1]; exact hce) hcv hcl T' rfl X'
    exact ⟨t2, st.trans a1, b1⟩
theorem vx_calld {S SX : Type} {post : UInt64 → S → Prop} {px : SX → Prop} {B : S → State → Prop} {BX : String → SX → State → Prop} {AX : Nat → Prop} (hr : vx_Run p l e R s m args below meth c H locs cells slots mc ms (F0 m pc ls st0) rest (va_Qd post B A1 a) (vx_X px BX AX) free) (hS : va_S A0 H0 H locs) (hA : ∀ q, q < H.size → A1 q → A0 q) (hf : ∀ q, free q → A0 q) (hAX : ∀ q, q < H.size → AX q → A0 q)
    (kx : ∀ (E : String) (ce : Cell) (q9 : Addr) (u : SX) (t : State) (H1 : Heap) (locs1 : List Loc), t.heap = H1 → s.vm.Alike t.vm → px u → BX E u t → H.size ≤ H1.size → (∀ q : Nat, q < H.size → ¬ AX q → H1[q]? = H[q]?) → va_S A0 H0 H1 locs1 → H1[q9]? = some ce → ce.vm = .none → s.vm.findClass E = some ce.cls → vx_W p l e R s m args below meth c H1 locs1 (cells + mc) (slots + ms) Q (F0 m pc ls rest) q9)
    (kk : ∀ (r : UInt64) (u : S) (t : State) (H1 : Heap) (locs1 : List Loc), t.heap = H1 → s.vm.Alike t.vm → post r u → B u t → H.size ≤ H1.size → (∀ q : Nat, q < H.size → ¬ A1 q → H1[q]? = H[q]?) → va_S A0 H0 H1 locs1 → W p l e R s m args below meth c H1 locs1 (cells + mc) (slots + ms) Q (F0 m (pc + 3) ls (.double r :: rest))) : W p l e R s m args below meth c H locs cells slots Q (F0 m pc ls st0) := by
  intro T hT X
  rcases hr T hT X with ⟨v, st₀, t, T', L, h0, X', hL, e1, e2, ⟨⟨r, u, hv, hp, hb⟩, hF⟩, st⟩ | ⟨q, st₀, t, T', L, E, ce, h0, X', hL, e1, e2, ⟨u, hp, hb, hF⟩, hce, hcv, hcl, st⟩
  · cases hv
    obtain ⟨k1, k2, k3⟩ := vx_keep h0 e1 hS hA hf hL hF
    obtain ⟨t2, a1, b1⟩ := kk r u t T'.heap (locs ++ L) e1.symm (by rw [← e2]; exact X'.warmed.alike) hp hb k1 k2 k3 T' rfl X'
    exact ⟨t2, st t2 a1, b1⟩
  · obtain ⟨k1, k2, k3⟩ := vx_keep h0 e1 hS hAX hf hL hF
    obtain ⟨t2, a1, b1⟩ := kx E ce q u t T'.heap (locs ++ L) e1.symm (by rw [← e2]; exact X'.warmed.alike) hp hb k1 k2 k3 (by rw [e1]; exact hce) hcv hcl T' rfl X'
    exact ⟨t2, st.trans a1, b1⟩
theorem vx_callv {S SX : Type} {post : S → Prop} {px : SX → Prop} {B : S → State → Prop} {BX : String → SX → State → Prop} {AX : Nat → Prop} (hr : vx_Run p l e R s m args below meth c H locs cells slots mc ms (F0 m pc ls st0) rest (va_Qv post B A1 a) (vx_X px BX AX) free) (hS : va_S A0 H0 H locs) (hA : ∀ q, q < H.size → A1 q → A0 q) (hf : ∀ q, free q → A0 q) (hAX : ∀ q, q < H.size → AX q → A0 q)
    (kx : ∀ (E : String) (ce : Cell) (q9 : Addr) (u : SX) (t : State) (H1 : Heap) (locs1 : List Loc), t.heap = H1 → s.vm.Alike t.vm → px u → BX E u t → H.size ≤ H1.size → (∀ q : Nat, q < H.size → ¬ AX q → H1[q]? = H[q]?) → va_S A0 H0 H1 locs1 → H1[q9]? = some ce → ce.vm = .none → s.vm.findClass E = some ce.cls → vx_W p l e R s m args below meth c H1 locs1 (cells + mc) (slots + ms) Q (F0 m pc ls rest) q9)
    (kk : ∀ (u : S) (t : State) (H1 : Heap) (locs1 : List Loc), t.heap = H1 → s.vm.Alike t.vm → post u → B u t → H.size ≤ H1.size → (∀ q : Nat, q < H.size → ¬ A1 q → H1[q]? = H[q]?) → va_S A0 H0 H1 locs1 → W p l e R s m args below meth c H1 locs1 (cells + mc) (slots + ms) Q (F0 m (pc + 3) ls (rest))) : W p l e R s m args below meth c H locs cells slots Q (F0 m pc ls st0) := by
  intro T hT X
  rcases hr T hT X with ⟨v, st₀, t, T', L, h0, X', hL, e1, e2, ⟨⟨u, hv, hp, hb⟩, hF⟩, st⟩ | ⟨q, st₀, t, T', L, E, ce, h0, X', hL, e1, e2, ⟨u, hp, hb, hF⟩, hce, hcv, hcl, st⟩
  · cases hv
    obtain ⟨k1, k2, k3⟩ := vx_keep h0 e1 hS hA hf hL hF
    obtain ⟨t2, a1, b1⟩ := kk u t T'.heap (locs ++ L) e1.symm (by rw [← e2]; exact X'.warmed.alike) hp hb k1 k2 k3 T' rfl X'
    exact ⟨t2, st t2 a1, b1⟩
  · obtain ⟨k1, k2, k3⟩ := vx_keep h0 e1 hS hAX hf hL hF
    obtain ⟨t2, a1, b1⟩ := kx E ce q u t T'.heap (locs ++ L) e1.symm (by rw [← e2]; exact X'.warmed.alike) hp hb k1 k2 k3 (by rw [e1]; exact hce) hcv hcl T' rfl X'
    exact ⟨t2, st.trans a1, b1⟩
/-- caught by the row x of this method's table; the rows ahead don't take it -/
theorem vx_catch {own name : String} {E : String} {ce : Cell} {q : Addr} (hown : s.vm.findClass own = some m.cls) (pre : List ExceptionTableEntry) (x : ExceptionTableEntry) (suf : List ExceptionTableEntry) (hsplit : c.exceptionTable.toList = pre ++ x :: suf)
    (hpass : ∀ z ∈ pre, covers z pc = false ∨ (z.catchType ≠ 0 ∧ ∃ nm : String, (Cond.classLink own z.catchType nm).before args s = true ∧ va_Nc E nm s)) (hx : covers x pc = true) (h0 : x.catchType ≠ 0)
    (hlink : (Cond.classLink own x.catchType name).before args s = true) (hcast : (Cond.castable E name).before args s = true) (hcell : H[q]? = some ce) (hv : ce.vm = .none) (hcl : s.vm.findClass E = some ce.cls)
    (kk : W p l e R s m args below meth c H locs cells slots Q (F0 m x.handlerPc ls [.ref q])) : vx_W p l e R s m args below meth c H locs cells slots Q (F0 m pc ls rest) q := by
  intro T hT X
  have hpl : e.platform.magicAccessors = ({} : Platform).magicAccessors := by rw [X.admits.platform]
  obtain ⟨c3, c4, hc3, hc4, hasg⟩ := Cond.castable_spec hcast
  cases Option.some.inj (hc3.symm.trans hcl)
  obtain ⟨c5, hc5, hcl5⟩ := Cond.classLink_spec hown hlink e.platform hpl
  cases Option.some.inj (hc4.symm.trans hc5)
  obtain ⟨vm', X', st⟩ := X.thenCaughtThrough q (g := F0 m pc ls rest) rfl (Steps.refl _) (by rw [hT]; exact hcell) (by rw [hv]; rfl) (by obtain ⟨k9, h9, -⟩ := Vm.findClass_spec hcl; exact ⟨k9, h9⟩) pre x suf hsplit
    (fun z hz => by
      rcases hpass z hz with h | ⟨hz0, nm, hl1, hn1⟩
      · exact Or.inl h
      · obtain ⟨c6, hc6, hcl6⟩ := Cond.classLink_spec hown hl1 e.platform hpl
        obtain ⟨a8, b8, h1, h2, h3⟩ := hn1
        cases Option.some.inj (h1.symm.trans hcl)
        cases Option.some.inj (h2.symm.trans hc6)
        exact Or.inr ⟨hz0, _, hcl6, h3⟩) hx (Or.inr ⟨h0, c4, hcl5, hasg⟩)
  obtain ⟨t, a1, b1⟩ := kk (T.setVm vm') hT X'
  exact ⟨t, st.trans a1, b1⟩
end Rows
section Ends
variable {p : Program} {l : Launch} {e : Env} {R : Room} {s : State} {m : MethodId} {args : Array Value} {below : List Frame} {meth : Method} {c : Code} {H : Heap} {locs : List Loc} {cells slots : Nat} {Q : State → Prop}
variable {mc ms : Nat} {free : Addr → Prop} {A0 A1 : Nat → Prop} {H0 : Heap} {a : Array Value} {ls : Array Slot} {st0 rest : List Value}
variable {Qc : Array Value → State → Outcome → State → Prop} {XC : String → State → State → Prop}
/-- what a body that may throw owes at its end -/
def vx_MQ (below : List Frame) (Qc : Array Value → State → Outcome → State → Prop) (XC : String → State → State → Prop) (a : Array Value) (s : State) (mc ms : Nat) (free : Addr → Prop) : State → Prop := fun t =>
  ∃ o, t.status = .running ∧ Ended t below o ∧ vx_Q Qc XC mc ms free a s o t
theorem vx_ret {g : JFrame} {mc ms : Nat} (k : W p l e R s m args below meth c H locs cells slots (MQ below Qc args s mc ms free) g) : W p l e R s m args below meth c H locs cells slots (vx_MQ below Qc XC args s mc ms free) g := by
  intro T hT X
  obtain ⟨t, a1, o, b1, b2, b3, b4⟩ := k T hT X
  exact ⟨t, a1, o, b1, b2, Or.inl ⟨b3, b4⟩⟩
/-- not caught here: it goes on to the caller -/
theorem vx_widen {g : JFrame} {q : Addr} {k n : Nat} (h1 : cells ≤ k) (h2 : slots ≤ n) (kk : vx_W p l e R s m args below meth c H locs k n Q g q) : vx_W p l e R s m args below meth c H locs cells slots Q g q := fun T hT X => kk T hT (stand_widen X h1 h2)
theorem vx_out {pc : Nat} {E : String} {ce : Cell} {q : Addr} {mc ms : Nat} (hout : ∀ x ∈ c.exceptionTable.toList, covers x pc = false) (hlocks : meth.locks = false) (hcell : H[q]? = some ce) (hv : ce.vm = .none) (hcl : s.vm.findClass E = some ce.cls)
    (hx : ∀ t : State, t.heap = H → s.vm.Alike t.vm → XC E s t) (hf : ∀ z ∈ locs, free z.base) (hc : cells ≤ mc) (hs : slots ≤ ms) :
    vx_W p l e R s m args below meth c H locs cells slots (vx_MQ below Qc XC args s mc ms free) (F0 m pc ls rest) q := by
  intro T hT X
  obtain ⟨st1, hrun, hend, hW, hsm⟩ := X.leaveThrown q (g := F0 m pc ls rest) rfl rfl rfl hout hlocks
  have hcell9 : (T.setFrames (.throwing q :: below)).heap[q]? = some ce := by
    show T.heap[q]? = some ce
    rw [hT]; exact hcell
  exact ⟨_, st1, .threw q, hrun, hend, Or.inr ⟨q, rfl, E, ce, locs, hx _ hT hW.alike, hcell9, hv, hcl, hW, hsm.mono hc hs, hf⟩⟩
theorem vx_frame {U : State} {k n : Nat} (h : s.sameButNew ({ U with vm := s.vm } : State) locs k n) : s.heap.size ≤ U.heap.size ∧ ∀ q : Nat, q < s.heap.size → (∀ z ∈ locs, z.base ≠ q) → U.heap[q]? = s.heap[q]? := by
  obtain ⟨-, h2, -, -, -, h6⟩ := h
  refine ⟨h2, fun q hq hz => ?_⟩
  obtain ⟨c9, e1, e2, e3, e4⟩ := h6 q _ (Array.getElem?_eq_getElem hq)
  have hs : c9.slots = (s.heap[q]).slots := Array.ext_getElem? fun i => e4 i fun hm => hz _ hm rfl
  have h9 : c9 = s.heap[q] := by
    rw [hs] at e2
    exact e2
  have e5 : U.heap[q]? = some c9 := e1
  rw [e5, h9, Array.getElem?_eq_getElem hq]
/-- the words of a throw but the four that speak of the heap -/
def vx_no (w : Cond) : Bool := decide (w ≠ .isRef (.static Bundle.tN "UNASSIGNED_STACK" Bundle.steD)) && decide (w ≠ .isRef (.static Bundle.tN "SUPPRESSED_SENTINEL" Bundle.listD)) && decide (w ≠ .laysStatic Bundle.tN "UNASSIGNED_STACK" Bundle.steD) && decide (w ≠ .laysStatic Bundle.tN "SUPPRESSED_SENTINEL" Bundle.listD)
def vx_at0 (own : String) (ic : Nat) (X : String) (names : List String) : List Cond := (Bundle.ownAtoms0 own ic X names).filter vx_no
def vx_atS (own : String) (ic : Nat) (X : String) (names : List String) : List Cond := (Bundle.ownAtoms own ic X names).filter vx_no
/-- a word that the tables alone decide, or a good one -/
def vx_ot (w : Cond) : Bool := w.onTables || goodWord w
theorem vx_ot_at {args a' : Array Value} {s U : State} {w : Cond} (hW : s.WarmedH U.vm) (hvm : s.vm = U.vm) (hg : vx_ot w = true) (h : w.before args s = true) : w.before a' U = true := by
  simp only [vx_ot, Bool.or_eq_true] at hg
  rcases hg with hg | hg
  · exact va_tabs hg hvm h
  · exact word_at hW (good_of_word hg) h
/-- a list's words: the good ones out of the method's own list, the others by premises of their own -/
theorem vx_hat {args : Array Value} {s : State} {L B : List Cond} (h1 : ∀ w ∈ L.filter goodWord, w.before args s = true) (h2 : ∀ w ∈ L.filter (fun w => !goodWord w), w ∈ B) (h3 : ∀ w ∈ B, w.before args s = true) : ∀ w ∈ L, w.before args s = true := by
  intro w hw
  by_cases g : goodWord w = true
  · exact h1 w (List.mem_filter.mpr ⟨hw, g⟩)
  · refine h3 w (h2 w (List.mem_filter.mpr ⟨hw, ?_⟩))
    show (!goodWord w) = true
    cases hgw : goodWord w
    · rfl
    · exact absurd hgw g
theorem vx_c {args : Array Value} {s : State} {w : Cond} {B : List Cond} (h : w.before args s = true) (t : ∀ w ∈ B, w.before args s = true) : ∀ w' ∈ w :: B, w'.before args s = true := fun w' h' => (List.mem_cons.mp h').elim (fun e => by rw [e]; exact h) (t w')
theorem vx_n {args : Array Value} {s : State} : ∀ w ∈ ([] : List Cond), w.before args s = true := fun _ h => nomatch h
theorem vx_own {args : Array Value} {s : State} {L : List Cond} (h1 : ∀ w ∈ L.filter vx_no, w.before args s = true)
    (hU : (Cond.isRef (.static Bundle.tN "UNASSIGNED_STACK" Bundle.steD)).before args s = true) (hN : (Cond.isRef (.static Bundle.tN "SUPPRESSED_SENTINEL" Bundle.listD)).before args s = true)
    (lU : (Cond.laysStatic Bundle.tN "UNASSIGNED_STACK" Bundle.steD).before args s = true) (lN : (Cond.laysStatic Bundle.tN "SUPPRESSED_SENTINEL" Bundle.listD).before args s = true) : ∀ w ∈ L, w.before args s = true := by
  intro w hw
  by_cases e1 : w = .isRef (.static Bundle.tN "UNASSIGNED_STACK" Bundle.steD)
  · rw [e1]; exact hU
  · by_cases e2 : w = .isRef (.static Bundle.tN "SUPPRESSED_SENTINEL" Bundle.listD)
    · rw [e2]; exact hN
    · by_cases e3 : w = .laysStatic Bundle.tN "UNASSIGNED_STACK" Bundle.steD
      · rw [e3]; exact lU
      · by_cases e4 : w = .laysStatic Bundle.tN "SUPPRESSED_SENTINEL" Bundle.listD
        · rw [e4]; exact lN
        · exact h1 w (List.mem_filter.mpr ⟨hw, by unfold vx_no; rw [decide_eq_true e1, decide_eq_true e2, decide_eq_true e3, decide_eq_true e4]; rfl⟩)
/-- where a static field lies, its class's statics cell in H -/
def vx_L (C n d : String) (A : Nat → Prop) (U : State) (H : Heap) : Prop := ∃ (c : ClassId) (k : Class) (i : Nat) (f : Field) (a : Nat) (cell : Cell), U.vm.findClass C = some c ∧ U.fieldFound? C n d = some (c, k, i, f) ∧ f.isStatic = true ∧ k.statics = some a ∧ H[a]? = some cell ∧ cell.vm.isStatics = true ∧ cell.cls = c ∧ f.slot < cell.slots.size ∧ k.staticTypes[f.slot]? = some f.type ∧ ¬ A a
theorem vx_L.moved {C n d : String} {A : Nat → Prop} {u U : State} {H : Heap} (hvm : u.vm.Alike U.vm) (h : vx_L C n d A u H) : vx_L C n d A U H := by
  obtain ⟨c, k, i, f, a, cell, h1, h2, h3, h4, h5, h6, h7, h8, h9, h10⟩ := h
  obtain ⟨k', hi', he⟩ := State.fieldFound?_setVm hvm h2
  exact ⟨c, k', i, f, a, cell, by rw [hvm.findClass]; exact h1, hi', h3, by rw [he]; exact h4, h5, h6, h7, h8, by rw [he]; exact h9, h10⟩
theorem vx_L.kept {C n d : String} {A : Nat → Prop} {U : State} {H H1 : Heap} (h : vx_L C n d A U H) (hq : ∀ a : Nat, a < H.size → ¬ A a → H1[a]? = H[a]?) : vx_L C n d A U H1 := by
  obtain ⟨c, k, i, f, a, cell, h1, h2, h3, h4, h5, h6, h7, h8, h9, h10⟩ := h
  exact ⟨c, k, i, f, a, cell, h1, h2, h3, h4, by rw [hq a (Array.getElem?_eq_some_iff.mp h5).1 h10]; exact h5, h6, h7, h8, h9, h10⟩
theorem vx_L.narrow {C n d : String} {A B : Nat → Prop} {U : State} {H : Heap} (h : vx_L C n d A U H) (hAB : ∀ q, B q → A q) : vx_L C n d B U H := by
  obtain ⟨c, k, i, f, a, cell, h1, h2, h3, h4, h5, h6, h7, h8, h9, h10⟩ := h
  exact ⟨c, k, i, f, a, cell, h1, h2, h3, h4, h5, h6, h7, h8, h9, fun z => h10 (hAB _ z)⟩
theorem vx_L.word {C n d : String} {A : Nat → Prop} {s : State} {args : Array Value} (h : vx_L C n d A s s.heap) : (Cond.laysStatic C n d).before args s = true := by
  obtain ⟨c, k, i, f, a, cell, h1, h2, h3, h4, h5, h6, h7, h8, h9, -⟩ := h
  show (Cond.laysStatic C n d).holds args s none s [] = true
  exact Cond.laysStatic_of h1 h2 h3 h4 h5 h6 h7 h8 h9
/-- .. and what it holds: null or some reference -/
def vx_Zq (C n d : String) (A : Nat → Prop) (U : State) (H : Heap) : Prop := va_Zq C n d A U H ∧ vx_L C n d A U H
theorem vx_Zq.moved {C n d : String} {A : Nat → Prop} {u U : State} {H : Heap} (hvm : u.vm.Alike U.vm) (h : vx_Zq C n d A u H) : vx_Zq C n d A U H := ⟨va_Zq.moved hvm h.1, vx_L.moved hvm h.2⟩
theorem vx_Zq.kept {C n d : String} {A : Nat → Prop} {U : State} {H H1 : Heap} (h : vx_Zq C n d A U H) (hq : ∀ a : Nat, a < H.size → ¬ A a → H1[a]? = H[a]?) : vx_Zq C n d A U H1 := ⟨va_Zq.kept h.1 hq, vx_L.kept h.2 hq⟩
theorem vx_Zq.narrow {C n d : String} {A B : Nat → Prop} {U : State} {H : Heap} (h : vx_Zq C n d A U H) (hAB : ∀ q, B q → A q) : vx_Zq C n d B U H := ⟨va_Zq.narrow h.1 hAB, vx_L.narrow h.2 hAB⟩
theorem vx_Zqof {args : Array Value} {s : State} {C n d : String} {A : Nat → Prop} (hl : (Cond.laysStatic C n d).before args s = true) (hini : (Cond.initialized C).before args s = true) (h : (Cond.isRef (.static C n d)).before args s = true) (hA : ∀ a : Nat, a < s.heap.size → ¬ A a) : vx_Zq C n d A s s.heap := by
  refine ⟨va_Zqof hl hini h hA, ?_⟩
  obtain ⟨c, k, i, f, a, cell, h1, h2, h3, h4, h5, h6, h7, h8, h9⟩ := Cond.laysStatic_spec hl
  exact ⟨c, k, i, f, a, cell, h1, h2, h3, h4, h5, h6, h7, h8, h9, hA a (Array.getElem?_eq_some_iff.mp h5).1⟩
theorem vx_isRef {C n d : String} {v : Value} {A : Nat → Prop} {s : State} {args : Array Value} (h : va_Z C n d v A s s.heap) (hv : v.isRef = true) : (Cond.isRef (.static C n d)).before args s = true := by
  obtain ⟨cf, kf, fi, f, a, cell, h1, h2, h3, h4, h5, h6, h7, -⟩ := h
  have he : (Term.static C n d).eval args s none [] s = some v := by
    simp [Term.eval, State.fieldNamed?, h1, h2, h4, h5, h6, h7]
  simp only [Cond.before, Cond.holds, Cond.value, he]
  cases v <;> simp_all [Value.isRef]
theorem vx_isRefq {C n d : String} {A : Nat → Prop} {s : State} {args : Array Value} (h : va_Zq C n d A s s.heap) : (Cond.isRef (.static C n d)).before args s = true := by
  rcases h with h | ⟨t, h⟩
  · exact vx_isRef h rfl
  · exact vx_isRef h rfl
/-- the same frame, seen from here: as if the method were called anew in this heap -/
theorem vx_rebase {T : State} (X : Stand p l e R s m args below meth c T locs cells slots) {R' : Room} (hf : R'.frames ≤ R.frames) (hl : R'.locals ≤ R.locals) (hc : cells + R'.cells ≤ R.cells) (hs : slots + R'.slots ≤ R.slots) :
    Stand p l e R' ((T.setVm s.vm).setFrames (.invoking m args :: below)) m args below meth c T [] 0 0 := by
  have htop : (T.setVm s.vm).topJava?.isSome := X.here.top
  have hF : ((T.setVm s.vm).setFrames (.invoking m args :: below)).frames = .invoking m args :: below := State.frames_setFrames _ (State.cur_lt_of_top htop)
  obtain ⟨g₀, hg0⟩ := Option.isSome_iff_exists.mp htop
  obtain ⟨r, hr⟩ := State.topJava?_eq_some.mp hg0
  have hl9 : e.platform.stackLimits (T.setVm s.vm).me = e.platform.stackLimits s.me := X.limits
  have hb9 : (T.setVm s.vm).me.stackBytes = s.me.stackBytes := X.bytes
  refine ⟨X.admits, X.cas, X.clock, hF, ?_, X.hears, X.method, X.code, X.here, X.tail, X.warmed, ?_, ?_, ?_⟩
  · have h := X.room
    have hU : ((T.setVm s.vm).setFrames (.invoking m args :: below)).localsInUse = s.localsInUse := by
      rw [State.localsInUse_invoking hF (meth := meth) (c := c) X.method X.code, State.localsInUse_invoking X.frames X.method X.code]
    simp only [State.hasRoom, Bool.and_eq_true, decide_eq_true_eq] at h ⊢
    obtain ⟨⟨⟨⟨h1, h2, h3, h4, h5, h6⟩, h7⟩, h8⟩, h9⟩ := h
    rw [X.frames, List.length_cons] at h2 h3
    have q1 := X.heapSize
    have q2 := X.used
    simp only [hF, hU, List.length_cons, State.stackLimits_setFrames, State.stackBytes_setFrames, hl9, hb9]
    refine ⟨⟨⟨⟨by omega, by omega, by omega, by omega, by omega, h6⟩, ?_⟩, ?_⟩, X.book⟩
    · show T.heap.size + R'.cells ≤ e.platform.maxCells
      omega
    · show T.slotsUsed + R'.slots ≤ e.platform.maxSlots
      omega
  · rw [State.stackLimits_setFrames]; rfl
  · rw [State.stackBytes_setFrames]; rfl
  · refine ⟨?_, Nat.le_refl _, Nat.le_refl _, ?_, ?_, fun a c9 h9 => ⟨c9, h9, rfl, rfl, fun _ _ => rfl⟩⟩
    · obtain ⟨t, ht, -⟩ := State.frames_cons hr
      show T.setVm s.vm = { ((T.setVm s.vm).setFrames (.invoking m args :: below)).setFrames (T.setVm s.vm).frames with heap := T.heap, slotsUsed := T.slotsUsed }
      rw [State.setFrames_setFrames, State.setFrames_self ht]
      rfl
    · show T.slotsUsed = T.slotsUsed + ((T.heap.toList.drop T.heap.size).map (·.slots.size)).sum
      rw [List.drop_eq_nil_of_le (Nat.le_of_eq Array.length_toList)]
      rfl
    · show ((T.heap.toList.drop T.heap.size).map (·.slots.size)).sum ≤ 0
      rw [List.drop_eq_nil_of_le (Nat.le_of_eq Array.length_toList)]
      exact Nat.le_refl _
/-- 'throw new E()': new; dup; invokespecial; athrow -/
theorem vx_throw0 {cc : ByteArray} {pc : Nat} (hexec : p.tables.exec = Jvm.exec) (hb : c.code = cc) (hl : l.stackTraces = false) {own cls : String} {names : List String} {ik ic mc ms : Nat} {A : Nat → Prop}
    (hown : s.vm.findClass own = some m.cls) (hcls : Bundle.fit cls = true) (hnames : ∀ n ∈ names, Bundle.fit n = true)
    (hk : (Cond.classLink own ik cls).before args s = true) (hini : (Cond.initialized cls).before args s = true) (hat : ∀ w ∈ vx_at0 own ic cls names, w.before args s = true)
    (hgood : ∀ w ∈ Cond.classLink own ik cls :: Cond.initialized cls :: vx_at0 own ic cls names, vx_ot w = true)
    (hU : vx_Zq Bundle.tN "UNASSIGNED_STACK" Bundle.steD A s s.heap) (hN : vx_Zq Bundle.tN "SUPPRESSED_SENTINEL" Bundle.listD A s s.heap) (hS : va_S A s.heap H locs) (hsize : ls.size = c.maxLocals)
    (d0 : decode cc pc = .ok (.new ik, 3)) (d3 : decode cc (pc + 3) = .ok (.dup, 1)) (d4 : decode cc (pc + 4) = .ok (.invokespecial ic, 3)) (d7 : decode cc (pc + 7) = .ok (.athrow, 1))
    (hout : ∀ x ∈ c.exceptionTable.toList, covers x (pc + 7) = false)
    (hRframes : names.length + 3 < R.frames) (hRlocals : (rest.map fun v => v.category).sum + (13 * (names.length + 1) + 42) ≤ R.locals) (hRcells : cells + 1 ≤ R.cells) (hRslots : slots + 6 ≤ R.slots) (hlocks : meth.locks = false)
    (hx : ∀ t : State, s.vm.Alike t.vm → H.size ≤ t.heap.size → (∀ q : Nat, q < H.size → t.heap[q]? = H[q]?) → XC cls s t)
    (hf : ∀ z ∈ locs, free z.base) (hc : cells + 1 ≤ mc) (hs : slots + 6 ≤ ms) :
    W p l e R s m args below meth c H locs cells slots (vx_MQ below Qc XC args s mc ms free) (F0 m pc ls rest) := by
  intro T hT X
  have htr : e.platform.stackTraces = false := (show e.platform.stackTraces = l.stackTraces by rw [X.admits.platform]).trans hl
  have Y := vx_rebase X (R' := { frames := R.frames, locals := R.locals, cells := 1, slots := 6 }) (Nat.le_refl _) (Nat.le_refl _) hRcells hRslots
  obtain ⟨s', hA⟩ : ∃ z, z = (T.setVm s.vm).setFrames (.invoking m args :: below) := ⟨_, rfl⟩
  rw [← hA] at Y
  have hvm : s'.vm = s.vm := by rw [hA]; rfl
  have hhp : s'.heap = H := by rw [hA]; exact hT
  have hW0 : s.WarmedH s'.vm := by rw [hvm]; exact State.WarmedH.refl s
  have hat' : ∀ w ∈ vx_at0 own ic cls names, w.before args s' = true := fun w hw => vx_ot_at hW0 hvm.symm (hgood w (List.mem_cons_of_mem _ (List.mem_cons_of_mem _ hw))) (hat w hw)
  have hk' : (Cond.classLink own ik cls).before args s' = true := vx_ot_at hW0 hvm.symm (hgood _ List.mem_cons_self) hk
  have hini' : (Cond.initialized cls).before args s' = true := vx_ot_at hW0 hvm.symm (hgood _ (List.mem_cons_of_mem _ List.mem_cons_self)) hini
  have hU' : vx_Zq Bundle.tN "UNASSIGNED_STACK" Bundle.steD A s' s'.heap := by rw [hhp]; exact vx_Zq.moved hW0.alike (hU.kept hS.2.1)
  have hN' : vx_Zq Bundle.tN "SUPPRESSED_SENTINEL" Bundle.listD A s' s'.heap := by rw [hhp]; exact vx_Zq.moved hW0.alike (hN.kept hS.2.1)
  have h : ∀ w ∈ Bundle.ownAtoms0 own ic cls names, w.before args s' = true := vx_own hat' (vx_isRefq hU'.1) (vx_isRefq hN'.1) hU'.2.word hN'.2.word
  have hown' : s'.vm.findClass own = some m.cls := by rw [hvm]; exact hown
  have hins : (Cond.instantiable cls 6).before args s' = true := h _ (by simp [Bundle.ownAtoms0])
  obtain ⟨vm₁, cX, kX, hfX, hkX, -, -, X₁, st1⟩ := Y.newCold hexec (own := own) (C := cls) (index := ik) (n := 6) hown' hk' hins hini'
    (g := F0 m pc ls rest) rfl (by rw [hb]; exact d0) (Nat.le_refl _) (Nat.le_refl _)
  generalize hT1 : (T.setVm vm₁).pushCell { cls := cX, slots := kX.instanceTypes.map defaultValue, vm := .none } = T1 at X₁ st1
  have hcat : (Value.ref T.heap.size).category = 1 := rfl
  have hcellA : T1.heap[T.heap.size]? = some (freshCell cX kX) := by rw [← hT1]; exact State.heap_pushCell_size _ _
  have d3' : decode c.code (pc + 3) = .ok (.dup, 1) := by rw [hb]; exact d3
  obtain ⟨U, hsteps, hrun, hend, hW, hsame, ce, hce, hO⟩ := X₁.ctorThrow0 hexec htr (own := own) (cls := cls) (names := names) (ic := ic) hown' hcls hnames h (fun x hx => nomatch hx) hfX hkX hcellA (by rw [hhp, hT]; exact Nat.le_refl _)
    (g := { method := m, pc := pc + 4, locals := ls, stack := .ref T.heap.size :: .ref T.heap.size :: rest, locked := none }) rfl hsize rfl rfl (rest := rest) rfl
    (by rw [hb]; exact d4) (by rw [hb]; exact d7) hout hRframes (by simp only [List.map_cons, List.sum_cons, hcat]; omega) hlocks
  obtain ⟨f1, f2⟩ := vx_frame hsame
  rw [hhp] at f1 f2
  have hWs : s.WarmedH U.vm := State.WarmedH.trans hW0 hW
  have hcl : s.vm.findClass cls = some ce.cls := by
    have h9 := hO.cls
    rw [hvm] at h9
    exact h9
  have hall : s.sameButNew ({ U with vm := s.vm } : State) locs mc ms := by
    subst hA
    obtain ⟨e1, e2⟩ := hsame
    rw [State.setFrames_setFrames] at e1
    have h2 : (T.setVm s.vm).sameButNew ({ U with vm := s.vm } : State) [] (0 + 1) (0 + 6) := ⟨e1, e2⟩
    have h3 := X.same.trans h2
    rw [List.append_nil] at h3
    exact h3.mono hc hs
  refine ⟨U, ?_, .threw T.heap.size, hrun, hend, Or.inr ⟨T.heap.size, rfl, cls, ce, locs, hx U hWs.alike f1 (fun q hq => f2 q hq (fun z hz => nomatch hz)), hce, hO.vm, hcl, hWs, hall, hf⟩⟩
  refine st1 _ ?_
  show Steps p.tables e below (T1.setTop { method := m, pc := pc + 3, locals := ls, stack := .ref T.heap.size :: rest, locked := none }) _
  jvm_step X₁.here [X₁.here.top, hexec, d3', Value.category]
  exact hsteps
/-- 'throw new E("text")': new; dup; ldc; invokespecial; athrow -/
theorem vx_throwS {cc : ByteArray} {pc : Nat} (hexec : p.tables.exec = Jvm.exec) (hb : c.code = cc) (hl : l.stackTraces = false) {own cls text : String} {names : List String} {ik is ic mc ms sa : Nat} {A : Nat → Prop}
    (hown : s.vm.findClass own = some m.cls) (hcls : Bundle.fit cls = true) (hnames : ∀ n ∈ names, Bundle.fit n = true)
    (hk : (Cond.classLink own ik cls).before args s = true) (hini : (Cond.initialized cls).before args s = true) (hstr : vk_R own is text sa s) (hat : ∀ w ∈ vx_atS own ic cls names, w.before args s = true)
    (hgood : ∀ w ∈ Cond.classLink own ik cls :: Cond.initialized cls :: vx_atS own ic cls names, vx_ot w = true)
    (hU : vx_Zq Bundle.tN "UNASSIGNED_STACK" Bundle.steD A s s.heap) (hN : vx_Zq Bundle.tN "SUPPRESSED_SENTINEL" Bundle.listD A s s.heap) (hS : va_S A s.heap H locs) (hsize : ls.size = c.maxLocals)
    (d0 : decode cc pc = .ok (.new ik, 3)) (d3 : decode cc (pc + 3) = .ok (.dup, 1)) (d4 : decode cc (pc + 4) = .ok (.ldc is, 2)) (d6 : decode cc (pc + 6) = .ok (.invokespecial ic, 3)) (d9 : decode cc (pc + 9) = .ok (.athrow, 1))
    (hout : ∀ x ∈ c.exceptionTable.toList, covers x (pc + 9) = false)
    (hRframes : names.length + 3 < R.frames) (hRlocals : (rest.map fun v => v.category).sum + (13 * (names.length + 1) + 43) ≤ R.locals) (hRcells : cells + 1 ≤ R.cells) (hRslots : slots + 6 ≤ R.slots) (hlocks : meth.locks = false)
    (hx : ∀ t : State, s.vm.Alike t.vm → H.size ≤ t.heap.size → (∀ q : Nat, q < H.size → t.heap[q]? = H[q]?) → XC cls s t)
    (hf : ∀ z ∈ locs, free z.base) (hc : cells + 1 ≤ mc) (hs : slots + 6 ≤ ms) :
    W p l e R s m args below meth c H locs cells slots (vx_MQ below Qc XC args s mc ms free) (F0 m pc ls rest) := by
  intro T hT X
  have htr : e.platform.stackTraces = false := (show e.platform.stackTraces = l.stackTraces by rw [X.admits.platform]).trans hl
  have Y := vx_rebase X (R' := { frames := R.frames, locals := R.locals, cells := 1, slots := 6 }) (Nat.le_refl _) (Nat.le_refl _) hRcells hRslots
  obtain ⟨s', hA⟩ : ∃ z, z = (T.setVm s.vm).setFrames (.invoking m args :: below) := ⟨_, rfl⟩
  rw [← hA] at Y
  have hvm : s'.vm = s.vm := by rw [hA]; rfl
  have hhp : s'.heap = H := by rw [hA]; exact hT
  have hW0 : s.WarmedH s'.vm := by rw [hvm]; exact State.WarmedH.refl s
  have hat' : ∀ w ∈ vx_atS own ic cls names, w.before args s' = true := fun w hw => vx_ot_at hW0 hvm.symm (hgood w (List.mem_cons_of_mem _ (List.mem_cons_of_mem _ hw))) (hat w hw)
  have hk' : (Cond.classLink own ik cls).before args s' = true := vx_ot_at hW0 hvm.symm (hgood _ List.mem_cons_self) hk
  have hini' : (Cond.initialized cls).before args s' = true := vx_ot_at hW0 hvm.symm (hgood _ (List.mem_cons_of_mem _ List.mem_cons_self)) hini
  have hU' : vx_Zq Bundle.tN "UNASSIGNED_STACK" Bundle.steD A s' s'.heap := by rw [hhp]; exact vx_Zq.moved hW0.alike (hU.kept hS.2.1)
  have hN' : vx_Zq Bundle.tN "SUPPRESSED_SENTINEL" Bundle.listD A s' s'.heap := by rw [hhp]; exact vx_Zq.moved hW0.alike (hN.kept hS.2.1)
  have h : ∀ w ∈ Bundle.ownAtoms own ic cls names, w.before args s' = true := vx_own hat' (vx_isRefq hU'.1) (vx_isRefq hN'.1) hU'.2.word hN'.2.word
  have hown' : s'.vm.findClass own = some m.cls := by rw [hvm]; exact hown
  have hins : (Cond.instantiable cls 6).before args s' = true := h _ (by simp [Bundle.ownAtoms])
  obtain ⟨vm₁, cX, kX, hfX, hkX, -, -, X₁, st1⟩ := Y.newCold hexec (own := own) (C := cls) (index := ik) (n := 6) hown' hk' hins hini'
    (g := F0 m pc ls rest) rfl (by rw [hb]; exact d0) (Nat.le_refl _) (Nat.le_refl _)
  generalize hT1 : (T.setVm vm₁).pushCell { cls := cX, slots := kX.instanceTypes.map defaultValue, vm := .none } = T1 at X₁ st1
  have hcat : (Value.ref T.heap.size).category = 1 := rfl
  have hcellA : T1.heap[T.heap.size]? = some (freshCell cX kX) := by rw [← hT1]; exact State.heap_pushCell_size _ _
  have d3' : decode c.code (pc + 3) = .ok (.dup, 1) := by rw [hb]; exact d3
  have d4' : decode c.code (pc + 4) = .ok (.ldc is, 2) := by rw [hb]; exact d4
  have hstr' : vk_R own is text sa s' := vk_R.warm hW0 hstr
  obtain ⟨U, hsteps, hrun, hend, hW, hsame, ce, hce, hO⟩ := X₁.ctorThrowS hexec htr (own := own) (cls := cls) (names := names) (ic := ic) hown' hcls hnames h (fun x hx => nomatch hx) hfX hkX hcellA (by rw [hhp, hT]; exact Nat.le_refl _) (msg := .ref sa) rfl
    (g := { method := m, pc := pc + 6, locals := ls, stack := .ref sa :: .ref T.heap.size :: .ref T.heap.size :: rest, locked := none }) rfl hsize rfl rfl (rest := rest) rfl
    (by rw [hb]; exact d6) (by rw [hb]; exact d9) hout hRframes (by simp only [List.map_cons, List.sum_cons, hcat]; omega) hlocks
  obtain ⟨f1, f2⟩ := vx_frame hsame
  rw [hhp] at f1 f2
  have hWs : s.WarmedH U.vm := State.WarmedH.trans hW0 hW
  have hcl : s.vm.findClass cls = some ce.cls := by
    have h9 := hO.cls
    rw [hvm] at h9
    exact h9
  have hall : s.sameButNew ({ U with vm := s.vm } : State) locs mc ms := by
    subst hA
    obtain ⟨e1, e2⟩ := hsame
    rw [State.setFrames_setFrames] at e1
    have h2 : (T.setVm s.vm).sameButNew ({ U with vm := s.vm } : State) [] (0 + 1) (0 + 6) := ⟨e1, e2⟩
    have h3 := X.same.trans h2
    rw [List.append_nil] at h3
    exact h3.mono hc hs
  refine ⟨U, ?_, .threw T.heap.size, hrun, hend, Or.inr ⟨T.heap.size, rfl, cls, ce, locs, hx U hWs.alike f1 (fun q hq => f2 q hq (fun z hz => nomatch hz)), hce, hO.vm, hcl, hWs, hall, hf⟩⟩
  refine st1 _ ?_
  show Steps p.tables e below (T1.setTop { method := m, pc := pc + 3, locals := ls, stack := .ref T.heap.size :: rest, locked := none }) _
  jvm_step X₁.here [X₁.here.top, hexec, d3', Value.category]
  exact X₁.ldcString hexec (own := own) (text := text) (index := is) (a := sa) hown' hstr'.1 hstr'.2
    (g := { method := m, pc := pc + 4, locals := ls, stack := .ref T.heap.size :: .ref T.heap.size :: rest, locked := none }) rfl d4' _ hsteps
/-- 'throw new E("text")', the text by a wide index -/
theorem vx_throwSW {cc : ByteArray} {pc : Nat} (hexec : p.tables.exec = Jvm.exec) (hb : c.code = cc) (hl : l.stackTraces = false) {own cls text : String} {names : List String} {ik is ic mc ms sa : Nat} {A : Nat → Prop}
    (hown : s.vm.findClass own = some m.cls) (hcls : Bundle.fit cls = true) (hnames : ∀ n ∈ names, Bundle.fit n = true)
    (hk : (Cond.classLink own ik cls).before args s = true) (hini : (Cond.initialized cls).before args s = true) (hstr : vk_R own is text sa s) (hat : ∀ w ∈ vx_atS own ic cls names, w.before args s = true)
    (hgood : ∀ w ∈ Cond.classLink own ik cls :: Cond.initialized cls :: vx_atS own ic cls names, vx_ot w = true)
    (hU : vx_Zq Bundle.tN "UNASSIGNED_STACK" Bundle.steD A s s.heap) (hN : vx_Zq Bundle.tN "SUPPRESSED_SENTINEL" Bundle.listD A s s.heap) (hS : va_S A s.heap H locs) (hsize : ls.size = c.maxLocals)
    (d0 : decode cc pc = .ok (.new ik, 3)) (d3 : decode cc (pc + 3) = .ok (.dup, 1)) (d4 : decode cc (pc + 4) = .ok (.ldc_w is, 3)) (d7 : decode cc (pc + 7) = .ok (.invokespecial ic, 3)) (d10 : decode cc (pc + 10) = .ok (.athrow, 1))
    (hout : ∀ x ∈ c.exceptionTable.toList, covers x (pc + 10) = false)
    (hRframes : names.length + 3 < R.frames) (hRlocals : (rest.map fun v => v.category).sum + (13 * (names.length + 1) + 43) ≤ R.locals) (hRcells : cells + 1 ≤ R.cells) (hRslots : slots + 6 ≤ R.slots) (hlocks : meth.locks = false)
    (hx : ∀ t : State, s.vm.Alike t.vm → H.size ≤ t.heap.size → (∀ q : Nat, q < H.size → t.heap[q]? = H[q]?) → XC cls s t)
    (hf : ∀ z ∈ locs, free z.base) (hc : cells + 1 ≤ mc) (hs : slots + 6 ≤ ms) :
    W p l e R s m args below meth c H locs cells slots (vx_MQ below Qc XC args s mc ms free) (F0 m pc ls rest) := by
  intro T hT X
  have htr : e.platform.stackTraces = false := (show e.platform.stackTraces = l.stackTraces by rw [X.admits.platform]).trans hl
  have Y := vx_rebase X (R' := { frames := R.frames, locals := R.locals, cells := 1, slots := 6 }) (Nat.le_refl _) (Nat.le_refl _) hRcells hRslots
  obtain ⟨s', hA⟩ : ∃ z, z = (T.setVm s.vm).setFrames (.invoking m args :: below) := ⟨_, rfl⟩
  rw [← hA] at Y
  have hvm : s'.vm = s.vm := by rw [hA]; rfl
  have hhp : s'.heap = H := by rw [hA]; exact hT
  have hW0 : s.WarmedH s'.vm := by rw [hvm]; exact State.WarmedH.refl s
  have hat' : ∀ w ∈ vx_atS own ic cls names, w.before args s' = true := fun w hw => vx_ot_at hW0 hvm.symm (hgood w (List.mem_cons_of_mem _ (List.mem_cons_of_mem _ hw))) (hat w hw)
  have hk' : (Cond.classLink own ik cls).before args s' = true := vx_ot_at hW0 hvm.symm (hgood _ List.mem_cons_self) hk
  have hini' : (Cond.initialized cls).before args s' = true := vx_ot_at hW0 hvm.symm (hgood _ (List.mem_cons_of_mem _ List.mem_cons_self)) hini
  have hU' : vx_Zq Bundle.tN "UNASSIGNED_STACK" Bundle.steD A s' s'.heap := by rw [hhp]; exact vx_Zq.moved hW0.alike (hU.kept hS.2.1)
  have hN' : vx_Zq Bundle.tN "SUPPRESSED_SENTINEL" Bundle.listD A s' s'.heap := by rw [hhp]; exact vx_Zq.moved hW0.alike (hN.kept hS.2.1)
  have h : ∀ w ∈ Bundle.ownAtoms own ic cls names, w.before args s' = true := vx_own hat' (vx_isRefq hU'.1) (vx_isRefq hN'.1) hU'.2.word hN'.2.word
  have hown' : s'.vm.findClass own = some m.cls := by rw [hvm]; exact hown
  have hins : (Cond.instantiable cls 6).before args s' = true := h _ (by simp [Bundle.ownAtoms])
  obtain ⟨vm₁, cX, kX, hfX, hkX, -, -, X₁, st1⟩ := Y.newCold hexec (own := own) (C := cls) (index := ik) (n := 6) hown' hk' hins hini'
    (g := F0 m pc ls rest) rfl (by rw [hb]; exact d0) (Nat.le_refl _) (Nat.le_refl _)
  generalize hT1 : (T.setVm vm₁).pushCell { cls := cX, slots := kX.instanceTypes.map defaultValue, vm := .none } = T1 at X₁ st1
  have hcat : (Value.ref T.heap.size).category = 1 := rfl
  have hcellA : T1.heap[T.heap.size]? = some (freshCell cX kX) := by rw [← hT1]; exact State.heap_pushCell_size _ _
  have d3' : decode c.code (pc + 3) = .ok (.dup, 1) := by rw [hb]; exact d3
  have d4' : decode c.code (pc + 4) = .ok (.ldc_w is, 3) := by rw [hb]; exact d4
  have hstr' : vk_R own is text sa s' := vk_R.warm hW0 hstr
  obtain ⟨U, hsteps, hrun, hend, hW, hsame, ce, hce, hO⟩ := X₁.ctorThrowS hexec htr (own := own) (cls := cls) (names := names) (ic := ic) hown' hcls hnames h (fun x hx => nomatch hx) hfX hkX hcellA (by rw [hhp, hT]; exact Nat.le_refl _) (msg := .ref sa) rfl
    (g := { method := m, pc := pc + 7, locals := ls, stack := .ref sa :: .ref T.heap.size :: .ref T.heap.size :: rest, locked := none }) rfl hsize rfl rfl (rest := rest) rfl
    (by rw [hb]; exact d7) (by rw [hb]; exact d10) hout hRframes (by simp only [List.map_cons, List.sum_cons, hcat]; omega) hlocks
  obtain ⟨f1, f2⟩ := vx_frame hsame
  rw [hhp] at f1 f2
  have hWs : s.WarmedH U.vm := State.WarmedH.trans hW0 hW
  have hcl : s.vm.findClass cls = some ce.cls := by
    have h9 := hO.cls
    rw [hvm] at h9
    exact h9
  have hall : s.sameButNew ({ U with vm := s.vm } : State) locs mc ms := by
    subst hA
    obtain ⟨e1, e2⟩ := hsame
    rw [State.setFrames_setFrames] at e1
    have h2 : (T.setVm s.vm).sameButNew ({ U with vm := s.vm } : State) [] (0 + 1) (0 + 6) := ⟨e1, e2⟩
    have h3 := X.same.trans h2
    rw [List.append_nil] at h3
    exact h3.mono hc hs
  refine ⟨U, ?_, .threw T.heap.size, hrun, hend, Or.inr ⟨T.heap.size, rfl, cls, ce, locs, hx U hWs.alike f1 (fun q hq => f2 q hq (fun z hz => nomatch hz)), hce, hO.vm, hcl, hWs, hall, hf⟩⟩
  refine st1 _ ?_
  show Steps p.tables e below (T1.setTop { method := m, pc := pc + 3, locals := ls, stack := .ref T.heap.size :: rest, locked := none }) _
  jvm_step X₁.here [X₁.here.top, hexec, d3', Value.category]
  exact X₁.ldcStringW hexec (own := own) (text := text) (index := is) (a := sa) hown' hstr'.1 hstr'.2
    (g := { method := m, pc := pc + 4, locals := ls, stack := .ref T.heap.size :: .ref T.heap.size :: rest, locked := none }) rfl d4' _ hsteps
end Ends
section Bodies
variable {l : Launch}
theorem vx_ofW {y : MethodName} {ws ws' : List Cond} {rm : Room} {Pc : Array Value → State → Prop} {Qc : Array Value → State → Outcome → State → Prop} {XC : String → State → State → Prop} {mc ms : Nat} {free : Addr → Prop} {cc : ByteArray} {maxL : Nat} {ret : Option FieldType}
    (hy : plainName y.cls = true) (hw : ws = Cond.code y cc maxL ret :: ws')
    (body : ∀ p e s m args below meth c s₁, BodyLoose p l y (headSpec ws rm) cc maxL ret e s m args below meth c s₁ → c.maxLocals = maxL → (∀ x ∈ c.exceptionTable.toList, False) → Pc args s →
      W p l e (headSpec ws rm).room s m args below meth c s.heap [] 0 0 (vx_MQ below Qc XC args s mc ms free) (entryFrame m args maxL)) : vx_Met l y ws rm Pc Qc XC mc ms free := by
  refine MetFree.of_bodyS (code := cc) (maxLocals := maxL) (ret := ret) hy ?_ ?_
  · intro args s m h hn
    obtain ⟨meth, c, h1, h2, h3, h4, h5, h6, -, -⟩ := Cond.code_spec hn (atoms_spec (ws := ws) h _ (by rw [hw]; exact List.mem_cons_self))
    exact ⟨meth, c, h1, h2, h3, h4, h5, h6⟩
  · intro p e s m args below meth c s₁ B hml hP _
    have hh0 : s₁.heap = s.heap := by rw [B.state]; rfl
    have ht : ∀ x ∈ c.exceptionTable.toList, False := by
      obtain ⟨meth9, c9, h1, h2, -, -, -, -, h7, -⟩ := Cond.code_spec B.named (atoms_spec (ws := ws) B.pre _ (by rw [hw]; exact List.mem_cons_self))
      cases Option.some.inj (h1.symm.trans B.method)
      cases Option.some.inj (h2.symm.trans (Stand.of_body B).code)
      intro x hx
      rw [Array.isEmpty_iff.mp h7] at hx
      cases hx
    obtain ⟨t, a1, o, b1, b2, b3⟩ := body p e s m args below meth c s₁ B hml ht hP s₁ hh0 (Stand.of_body B)
    exact ⟨t, o, a1, b1, b2, b3⟩
/-- the table of a body with handlers -/
theorem vx_table {p : Program} {x y : MethodName} {S : Spec} {cc bytes : ByteArray} {maxL maxL' : Nat} {ret ret' : Option FieldType} {e : Env} {s s₁ : State} {m : MethodId} {args : Array Value} {below : List Frame} {meth : Method} {c : Code} {hh : List (Nat × Nat × Nat × Nat)}
    (B : BodyLoose p l y S cc maxL ret e s m args below meth c s₁) (h : (Cond.codeWith y bytes maxL' ret' hh).before args s = true) : c.exceptionTable.toList = tableOf hh := by
  obtain ⟨m9, meth9, c9, hn9, h1, h2, -, -, h6, -⟩ := Cond.codeWith_spec h
  cases Option.some.inj (hn9.symm.trans B.named)
  cases Option.some.inj (h1.symm.trans B.method)
  cases Option.some.inj (h2.symm.trans (Stand.of_body B).code)
  rw [← h6, table_eq]
end Bodies
end VXA
/-! ===== END ===== -/
/-! ===== BEGIN a static call of a method with an exception table ===== -/
section VXS
variable {p : Program} {l : Launch} {e : Env} {R : Room} {s : State} {m : MethodId} {args : Array Value} {below : List Frame} {meth : Method} {c : Code} {T : State} {H : Heap} {locs : List Loc} {cells slots : Nat}
abbrev vx_CSW (R : Room) (s : State) (args : Array Value) (own : String) (index : Nat) (y : MethodName) (bytes : ByteArray) (maxL : Nat) (ret : Option FieldType) (hh : List (Nat × Nat × Nat × Nat)) (ws : List Cond) (rm : Room) (mc ms n : Nat) : Prop :=
  (rm.cells = mc ∧ rm.slots = ms ∧ rm.frames + 1 ≤ R.frames ∧ 8 + (maxL + 11) + rm.locals ≤ R.locals ∧ (∀ w ∈ ws, ∀ (a' : Array Value) (U : State), s.WarmedH U.vm → w.before a' U = true) ∧ Cond.codeWith y bytes maxL ret hh ∈ ws) ∧
  (Cond.codeWith y bytes maxL ret hh).before args s = true ∧ (Cond.initialized y.cls).before args s = true ∧ (y.cls ≠ "java/lang/invoke/MethodHandle" ∧ y.cls ≠ "java/lang/invoke/VarHandle") ∧
  (∀ sig, parseMethodDescriptor y.desc = some sig → n = sig.parameters.length) ∧ (Cond.methodLink own index y).before args s = true ∧ (Cond.static y).before args s = true
theorem vx_cwSW {own : String} {index maxL mc ms : Nat} {y : MethodName} {bytes : ByteArray} {ret : Option FieldType} {hh : List (Nat × Nat × Nat × Nat)} {Ts ws ws' : List Cond} {rm : Room} (n : Nat) (ht : ∀ w ∈ Ts, w.before args s = true) (hT : GoodIn Ts (va_wsS own index y ws)) (hw : ws = Cond.codeWith y bytes maxL ret hh :: ws') (hrc : rm.cells = mc) (hrs : rm.slots = ms)
    (hd : y.cls ≠ "java/lang/invoke/MethodHandle" ∧ y.cls ≠ "java/lang/invoke/VarHandle" ∧ (parseMethodDescriptor y.desc).map (fun d => d.parameters.length) = some n) (hR : rm.frames + 1 ≤ R.frames ∧ 8 + (maxL + 11) + rm.locals ≤ R.locals) :
    vx_CSW R s args own index y bytes maxL ret hh ws rm mc ms n := by
  have ok : ∀ w ∈ va_wsS own index y ws, w.before args s = true := fun w h => ht w (hT w h).1
  have hG : GoodIn Ts ws := fun w h => hT w (by unfold va_wsS; exact List.mem_append_right _ h)
  have hc : Cond.codeWith y bytes maxL ret hh ∈ ws := by rw [hw]; exact List.mem_cons_self
  refine ⟨⟨hrc, hrs, hR.1, hR.2, pay_in ht hG, hc⟩, ht _ (hG _ hc).1, ok _ (by simp [va_wsS]), ⟨hd.1, hd.2.1⟩, fun sig h => ?_, ok _ (by simp [va_wsS]), ok _ (by simp [va_wsS])⟩
  have h2 := hd.2.2
  rw [h] at h2
  exact (Option.some.inj h2).symm
theorem vx_callSW (X : Stand p l e R s m args below meth c T locs cells slots) (hexec : p.tables.exec = Jvm.exec) {own : String} {index : Nat} {y : MethodName} {bytes : ByteArray} {maxL : Nat} {ret : Option FieldType} {hh : List (Nat × Nat × Nat × Nat)}
    (hown : s.vm.findClass own = some m.cls) (hlink : (Cond.methodLink own index y).before args s = true) (hstat : (Cond.static y).before args s = true) (hinit : (Cond.initialized y.cls).before args s = true)
    (hcode : (Cond.codeWith y bytes maxL ret hh).before args s = true) (hy : y.cls ≠ "java/lang/invoke/MethodHandle" ∧ y.cls ≠ "java/lang/invoke/VarHandle")
    {W9 : Nat} {Pre : Pt → Array Value → Prop} {Post : Pt → Array Value → Option Value → Pt → Prop} (hK : Back l R p e below s args y 3 W9 Pre Post)
    {g : JFrame} (hg : g.method = m) (hsize : g.locals.size = c.maxLocals) {argsL rest : List Value} (hlen : ∀ sig, parseMethodDescriptor y.desc = some sig → argsL.length = sig.parameters.length)
    (hstack : g.stack = argsL.reverse ++ rest) (hW : 2 * g.monitorRoom + (rest.map fun v => v.category).sum ≤ W9) (hdg : decode c.code g.pc = .ok (.invokestatic index, 3))
    (hpre : ∀ vm₁, s.WarmedH vm₁ → Pre ⟨T.setVm vm₁, locs, cells, slots⟩ argsL.toArray) :
    ∃ (v : Option Value) (vm₁ : Vm) (B : Pt), s.WarmedH vm₁ ∧ Stand p l e R s m args below meth c B.U B.locs B.cells B.slots ∧ Post ⟨T.setVm vm₁, locs, cells, slots⟩ argsL.toArray v B ∧
      ∀ target, Steps p.tables e below (B.U.setTop { g with pc := g.pc + 3, stack := v.toList ++ rest }) target → Steps p.tables e below (T.setTop g) target := by
  obtain ⟨mk, methM, cM, hnamed, hmethM, -, -, -, -, -, -, hsigM⟩ := Cond.codeWith_spec hcode
  have hstatic : methM.isStatic = true := Cond.static_spec hnamed hmethM hstat
  obtain ⟨kP, hkP, -⟩ := className_of_methodNamed hnamed
  have hinitP : kP.init = .initialized := Cond.initialized_spec (findClass_of_methodNamed hnamed) hkP hinit
  obtain ⟨vm₁, X₁, hstep₁⟩ := X.invokestatic hexec hown hlink hnamed hmethM hstatic hkP hinitP hy (g := g) hg (argsL := argsL) (rest := rest) (hlen _ hsigM) hstack hdg
  obtain ⟨v, B, X', hpost, hsteps⟩ := hK m meth c ⟨T.setVm vm₁, locs, cells, slots⟩ { g with stack := rest } (.invokestatic index) mk argsL.toArray X₁ hg hsize hdg hW (X₁.named hnamed) (hpre vm₁ X₁.warmed)
  exact ⟨v, vm₁, B, X₁.warmed, X', hpost, fun target h => hstep₁ _ fun acts => by rw [doInvoke_state]; exact hsteps.trans h⟩
theorem vx_runSW {y : MethodName} {bytes cc : ByteArray} {maxL nL mc ms n index : Nat} {ret : Option FieldType} {hh : List (Nat × Nat × Nat × Nat)} {ws : List Cond} {rm : Room} {Pc : Array Value → State → Prop} {Qc : Array Value → State → Outcome → State → Prop} {free : Addr → Prop} {Ts : List Cond} {own : String} {As rest : List Value} {g : JFrame}
    (S : CallFix p m c cc nL s args Ts own) (hM : Met l y ws rm Pc Qc mc ms free) (cw : vx_CSW R s args own index y bytes maxL ret hh ws rm mc ms n) (hp : PreS s H Pc As)
    (hg : g.method = m) (hn : As.length = n) (hsize : g.locals.size = nL) (hstack : g.stack = As.reverse ++ rest) (hW : 2 * g.monitorRoom + (rest.map fun v => v.category).sum ≤ 8) (hdg : decode cc g.pc = .ok (.invokestatic index, 3)) (hf : cells + mc ≤ R.cells ∧ slots + ms ≤ R.slots) :
    va_Run p l e R s m args below meth c H locs cells slots mc ms g rest (Qc As.toArray) (free) := by
  obtain ⟨⟨hrc, hrs, hfr, hlo, hws, hcw⟩, hcode, hini, hy, hlen, hl, hstt⟩ := cw
  have hK : Back l R p e below s args y 3 8 (PreOf R mc ms Pc) (PostOf Qc mc ms free) := va_backW (hh := hh) (bytes := bytes) (maxL := maxL) (ret := ret) hM hp.1 hrc hrs hfr hlo hws hcw (fun a' U hW => word_at hW (Or.inl (by first | rfl | simp [Cond.onTables, Cond.keeps, Cond.steady])) hini)
  obtain ⟨hx, hb, hml, ho, -⟩ := S
  intro T hT X
  obtain ⟨v, vm₁, ⟨U', l2, c2, s2⟩, hW₁, X', ⟨g', mk, t, L, e1, e2, hq, h1, hL, h2, h3⟩, st⟩ := vx_callSW X hx (hh := hh) (bytes := bytes) (maxL := maxL) (ret := ret) ho hl hstt hini hcode hy hK hg (hsize.trans hml.symm) (argsL := As) (rest := rest) (fun sig h => hn.trans (hlen sig h)) hstack hW (by rw [hb]; exact hdg)
    (fun vm₁ hW₁ => ⟨hf.1, hf.2, hp.2 (T.setVm vm₁) hT hW₁⟩)
  dsimp only [Pt.U, Pt.locs, Pt.cells, Pt.slots] at X' e1 e2 h1 h2 h3 st
  subst h1; subst h2; subst h3
  exact ⟨v, (T.setVm vm₁).calling g' mk As.toArray, t, U', L, hT, X', hL, e1, e2, hq, st⟩
/-- not caught here, past rows that name other classes: it goes on to the caller -/
theorem vx_outP {p : Program} {l : Launch} {e : Env} {R : Room} {s : State} {m : MethodId} {args : Array Value} {below : List Frame} {meth : Method} {c : Code} {H : Heap} {locs : List Loc} {cells slots : Nat} {free : Addr → Prop} {ls : Array Slot} {rest : List Value} {Qc : Array Value → State → Outcome → State → Prop} {XC : String → State → State → Prop}
    {pc : Nat} {own E : String} {ce : Cell} {q : Addr} {mc ms : Nat} (hown : s.vm.findClass own = some m.cls) (hlocks : meth.locks = false)
    (hpass : ∀ z ∈ c.exceptionTable.toList, covers z pc = false ∨ (z.catchType ≠ 0 ∧ ∃ nm : String, (Cond.classLink own z.catchType nm).before args s = true ∧ va_Nc E nm s)) (hcell : H[q]? = some ce) (hv : ce.vm = .none) (hcl : s.vm.findClass E = some ce.cls)
    (hx : ∀ t : State, t.heap = H → s.vm.Alike t.vm → XC E s t) (hf : ∀ z ∈ locs, free z.base) (hc : cells ≤ mc) (hs : slots ≤ ms) :
    vx_W p l e R s m args below meth c H locs cells slots (vx_MQ below Qc XC args s mc ms free) (F0 m pc ls rest) q := by
  intro T hT X
  have hpl : e.platform.magicAccessors = ({} : Platform).magicAccessors := by rw [X.admits.platform]
  obtain ⟨vm', hW', X', st⟩ := X.outThrough hlocks q (g := F0 m pc ls rest) rfl rfl rfl (cell := ce) (by rw [hT]; exact hcell) (by rw [hv]; rfl)
    (by obtain ⟨k9, h9, -⟩ := Vm.findClass_spec hcl; exact ⟨k9, h9⟩) (fun z hz => by
      rcases hpass z hz with h | ⟨hz0, nm, hl1, hn1⟩
      · exact Or.inl h
      · obtain ⟨c6, hc6, hcl6⟩ := Cond.classLink_spec hown hl1 e.platform hpl
        obtain ⟨a8, b8, h1, h2, h3⟩ := hn1
        cases Option.some.inj (h1.symm.trans hcl)
        cases Option.some.inj (h2.symm.trans hc6)
        exact Or.inr ⟨hz0, _, hcl6, h3⟩)
  obtain ⟨g₀, hfr⟩ := X'.frames_eq
  have hcell9 : ((T.setVm vm').setFrames (.throwing q :: below)).heap[q]? = some ce := by
    show T.heap[q]? = some ce
    rw [hT]; exact hcell
  have hend : Ended ((T.setVm vm').setFrames (.throwing q :: below)) below (.threw q) := State.frames_setFrames _ (State.cur_lt_of_frames hfr)
  refine ⟨(T.setVm vm').setFrames (.throwing q :: below), ?_, .threw q, X'.here.running, hend, Or.inr ⟨q, rfl, E, ce, locs, hx _ hT (X'.ends _).1.alike, hcell9, hv, hcl, (X'.ends _).1, (X'.ends _).2.mono hc hs, hf⟩⟩
  rw [X.pushThrowing_eq]
  exact st
/-- a thing of a world lies in the heap -/
theorem vx_lt {D : va_G} {cl : List vw_C} {ws : va_W} {H1 : Heap} (h : va_P D cl ws H1) {k : Nat} {q : Nat × va_E} (hk : ws[k]? = some q) : q.1 < H1.size := (h k q hk).lt
end VXS
/-! ===== END ===== -/
/-! ===== BEGIN methods with a table of their own: called by a name, returning or throwing ===== -/
section VXH
/-! vx_backW, vx_callVX, vx_callSX, vx_callVW, vx_runVW, vx_runVX, vx_runSX, vx_ofWH follow the same proofs as their sisters above (Free/Laws.lean, Shelf42/LK1.lean); vx_outP calls Shelf42/NT130.lean (outThrough). -/
section
variable {l : Launch} {R : Room} {p : Program} {e : Env} {below : List Frame} {s : State} {sargs : Array Value} {y : MethodName} {len W9 : Nat}
theorem vx_backW {ws : List Cond} {rm : Room} {Pc : Array Value → State → Prop} {Qc : Array Value → State → Outcome → State → Prop} {XC : String → State → State → Prop} {mc ms : Nat} {free : Addr → Prop} {bytes : ByteArray} {maxL : Nat} {ret : Option FieldType} {hh : List (Nat × Nat × Nat × Nat)}
    (hM : vx_Met l y ws rm Pc Qc XC mc ms free) (hblind : FrameBlind Pc) (hrc : rm.cells = mc) (hrs : rm.slots = ms)
    (hframes : rm.frames + 1 ≤ R.frames) (hlocals : W9 + (maxL + 11) + rm.locals ≤ R.locals)
    (hws : ∀ w ∈ ws, ∀ a' U, s.WarmedH U.vm → w.before a' U = true) (hcode : Cond.codeWith y bytes maxL ret hh ∈ ws) (hinit : ∀ a' U, s.WarmedH U.vm → (Cond.initialized y.cls).before a' U = true) :
    vx_Back l R p e below s sargs y len W9 (PreOf R mc ms Pc) (PostOf Qc mc ms free) (vx_Post XC mc ms free) := by
  intro m meth c A g ig mk a X hg hsize hdg hW hn hp
  have h1 : (headSpec ws rm).pre.before a A.U = true := atoms_intro fun w hw => hws w hw _ _ X.warmed
  have h2 : (Cond.codeWith y bytes maxL ret hh).before a A.U = true := hws _ hcode _ _ X.warmed
  have h3 : (Cond.initialized y.cls).before a A.U = true := hinit _ _ X.warmed
  have h4 : A.cells + (headSpec ws rm).room.cells ≤ R.cells := by rw [show (headSpec ws rm).room.cells = mc from hrc]; exact hp.1
  have h5 : A.slots + (headSpec ws rm).room.slots ≤ R.slots := by rw [show (headSpec ws rm).room.slots = ms from hrs]; exact hp.2.1
  have hPc : Pc a (A.U.calling g mk a) := hblind _ _ _ _ hp.2.2
  obtain ⟨U, Ls, c0, s0⟩ := A
  dsimp only [Pt.U, Pt.locs, Pt.cells, Pt.slots] at h1 h2 h3 h4 h5 X hn hPc ⊢
  obtain ⟨m9, methY, cY, hn9, hmY, hcY, -, hlY, -⟩ := Cond.codeWith_spec h2
  cases Option.some.inj (hn9.symm.trans hn)
  obtain ⟨kY, hkY, -⟩ := className_of_methodNamed hn
  have hinitY : kY.init = .initialized := Cond.initialized_spec (findClass_of_methodNamed hn) hkY h3
  have h : At U g.method c below := by rw [hg]; exact X.here
  have hlocals9 : W9 + (maxL + 11) + (headSpec ws rm).room.locals ≤ R.locals := hlocals
  have happ : (headSpec ws rm).appliesLoose y e.platform (U.calling g mk a) = true :=
    Spec.appliesLoose_calling (g := g) h hdg hn hkY hinitY
      (X.room_calling (g := g) (R' := (headSpec ws rm).room) hsize hmY hcY hframes (by rw [hlY]; omega) h4 h5) h1
  obtain ⟨mid, hmid⟩ := h.above
  have hfr : (U.setTop g).frames = (.java g :: mid) ++ below := by rw [State.frames_setTop' g h.top, hmid]; rfl
  obtain ⟨o, s₂, hsteps, -, hend, hq⟩ := Steps.callFree hM p X.admits X.cas X.clock (acts := []) hfr happ hPc trivial
  have hq' : vx_Q Qc XC mc ms free a (U.calling g mk a) o s₂ := hq
  rw [State.frames_setTop' g h.top] at hend
  obtain ⟨g₀, hg0⟩ := Option.isSome_iff_exists.mp h.top
  obtain ⟨r, hr⟩ := State.topJava?_eq_some.mp hg0
  have hr' : (({ U with heap := s₂.heap, slotsUsed := s₂.slotsUsed } : State).setVm s₂.vm).frames = .java g₀ :: r := hr
  rcases hq' with ⟨hqc, L, hfe, hL⟩ | ⟨q, rfl, E, ce, L, hx, hce, hcv, hcl, hW₂, hsm, hL⟩
  · obtain ⟨⟨v, rfl⟩, hW₂, e2, q2, q3, q4, q5, q6⟩ := id hfe
    have e3 : s₂ = ({ (U.calling g mk a).setFrames s₂.frames with heap := s₂.heap, slotsUsed := s₂.slotsUsed } : State).setVm s₂.vm := by
      have : s₂ = ({ s₂ with vm := (U.calling g mk a).vm } : State).setVm s₂.vm := rfl
      rw [e2] at this
      exact this
    obtain ⟨c₂, i₂, len₂, hc₂, hd₂, hf₂⟩ := hend
    have hW' : U.WarmedH s₂.vm := hW₂
    have hcc : c₂ = c := by
      have h1 : s₂.code? g.method = U.code? g.method := by
        rw [State.code?_eq, State.code?_eq, hW'.alike.method?]
      exact Option.some.inj (hc₂.symm.trans (h1.trans h.code))
    subst hcc
    have hlen : len₂ = len := by rw [hdg] at hd₂; cases hd₂; rfl
    subst hlen
    have hs₂ : s₂ = (({ U with heap := s₂.heap, slotsUsed := s₂.slotsUsed } : State).setVm s₂.vm).setTop { g with pc := g.pc + len₂, stack := v.toList ++ g.stack } := by
      refine e3.trans ?_
      rw [hf₂, State.calling_eq h.top, State.setFrames_setFrames, State.setTop_of_frames _ hr', hr]
      rfl
    have hsame : U.sameButNew ({ U with heap := s₂.heap, slotsUsed := s₂.slotsUsed } : State) L mc ms := by
      refine ⟨?_, q2, q3, q4, q5, q6⟩
      obtain ⟨t, ht, -⟩ := State.frames_cons hr
      show ({ U with heap := s₂.heap, slotsUsed := s₂.slotsUsed } : State) = { U.setFrames U.frames with heap := s₂.heap, slotsUsed := s₂.slotsUsed }
      rw [State.setFrames_self ht]
    subst hg
    refine Or.inl ⟨v, ⟨(({ U with heap := s₂.heap, slotsUsed := s₂.slotsUsed } : State).setVm s₂.vm), Ls ++ L, c0 + mc, s0 + ms⟩,
      ⟨X.admits, X.cas, X.clock, X.frames, X.room, X.hears, X.method, X.code, (X.here.setHeapUsed s₂.heap s₂.slotsUsed).setVm hW'.alike, X.tail, State.WarmedH.trans X.warmed hW', X.limits, X.bytes, X.same.trans (hsame.setVm s.vm)⟩,
      ⟨g, mk, s₂, L, rfl, rfl, hqc, rfl, hL, rfl, rfl⟩, ?_⟩
    show Steps p.tables e below _ ((({ U with heap := s₂.heap, slotsUsed := s₂.slotsUsed } : State).setVm s₂.vm).setTop { g with pc := g.pc + len₂, stack := v.toList ++ g.stack })
    rw [← hs₂]
    exact hsteps
  · obtain ⟨e2, q2, q3, q4, q5, q6⟩ := id hsm
    have e3 : s₂ = ({ (U.calling g mk a).setFrames s₂.frames with heap := s₂.heap, slotsUsed := s₂.slotsUsed } : State).setVm s₂.vm := by
      have : s₂ = ({ s₂ with vm := (U.calling g mk a).vm } : State).setVm s₂.vm := rfl
      rw [e2] at this
      exact this
    have hf₂ : s₂.frames = .throwing q :: .java g :: U.frames.tail := hend
    have hW' : U.WarmedH s₂.vm := hW₂
    have hs₂ : s₂ = ((({ U with heap := s₂.heap, slotsUsed := s₂.slotsUsed } : State).setVm s₂.vm).setTop g).pushFrame (.throwing q) := by
      refine e3.trans ?_
      rw [hf₂, State.calling_eq h.top, State.setFrames_setFrames, State.pushFrame, State.frames_setTop _ hr', State.setTop_of_frames _ hr', State.setFrames_setFrames, hr]
      rfl
    have hsame : U.sameButNew ({ U with heap := s₂.heap, slotsUsed := s₂.slotsUsed } : State) L mc ms := by
      refine ⟨?_, q2, q3, q4, q5, q6⟩
      obtain ⟨t, ht, -⟩ := State.frames_cons hr
      show ({ U with heap := s₂.heap, slotsUsed := s₂.slotsUsed } : State) = { U.setFrames U.frames with heap := s₂.heap, slotsUsed := s₂.slotsUsed }
      rw [State.setFrames_self ht]
    subst hg
    refine Or.inr ⟨q, ⟨(({ U with heap := s₂.heap, slotsUsed := s₂.slotsUsed } : State).setVm s₂.vm), Ls ++ L, c0 + mc, s0 + ms⟩,
      ⟨X.admits, X.cas, X.clock, X.frames, X.room, X.hears, X.method, X.code, (X.here.setHeapUsed s₂.heap s₂.slotsUsed).setVm hW'.alike, X.tail, State.WarmedH.trans X.warmed hW', X.limits, X.bytes, X.same.trans (hsame.setVm s.vm)⟩,
      ⟨g, mk, s₂, L, E, ce, rfl, rfl, hx, hce, hcv, hcl, rfl, hL, rfl, rfl⟩, ?_⟩
    show Steps p.tables e below _ (((({ U with heap := s₂.heap, slotsUsed := s₂.slotsUsed } : State).setVm s₂.vm).setTop g).pushFrame (.throwing q))
    rw [← hs₂]
    exact hsteps
end
variable {p : Program} {l : Launch} {e : Env} {R : Room} {s : State} {m : MethodId} {args : Array Value} {below : List Frame} {meth : Method} {c : Code} {T : State} {H : Heap} {locs : List Loc} {cells slots : Nat}
theorem vx_callVX (X : Stand p l e R s m args below meth c T locs cells slots) (hexec : p.tables.exec = Jvm.exec) {own C : String} {index : Nat} {y : MethodName} {bytes : ByteArray} {maxL : Nat} {ret : Option FieldType} {hh : List (Nat × Nat × Nat × Nat)}
    (hown : s.vm.findClass own = some m.cls) (hlink : (Cond.methodLink own index y).before args s = true) (hinst : (Cond.instanceMethod y).before args s = true) (hsel : (Cond.selects C y y).before args s = true)
    (hcode : (Cond.codeWith y bytes maxL ret hh).before args s = true) (hy : y.cls ≠ "java/lang/invoke/MethodHandle" ∧ y.cls ≠ "java/lang/invoke/VarHandle")
    {W9 : Nat} {Pre : Pt → Array Value → Prop} {Post : Pt → Array Value → Option Value → Pt → Prop} {PostX : Pt → Array Value → Addr → Pt → Prop} (hK : vx_Back l R p e below s args y 3 W9 Pre Post PostX)
    {b : Addr} {cellB : Cell} (hcell : T.heap[b]? = some cellB) (hobj : cellB.vm.isStatics = false) (hcls : s.vm.findClass C = some cellB.cls)
    {g : JFrame} (hg : g.method = m) (hsize : g.locals.size = c.maxLocals) {argsL rest : List Value} (hlen : ∀ sig, parseMethodDescriptor y.desc = some sig → argsL.length = sig.parameters.length)
    (hstack : g.stack = argsL.reverse ++ .ref b :: rest) (hW : 2 * g.monitorRoom + (rest.map fun v => v.category).sum ≤ W9) (hdg : decode c.code g.pc = .ok (.invokevirtual index, 3))
    (hpre : ∀ vm₁, s.WarmedH vm₁ → Pre ⟨T.setVm vm₁, locs, cells, slots⟩ (Value.ref b :: argsL).toArray) :
    (∃ (v : Option Value) (vm₁ : Vm) (B : Pt), s.WarmedH vm₁ ∧ Stand p l e R s m args below meth c B.U B.locs B.cells B.slots ∧ Post ⟨T.setVm vm₁, locs, cells, slots⟩ (Value.ref b :: argsL).toArray v B ∧
      ∀ target, Steps p.tables e below (B.U.setTop { g with pc := g.pc + 3, stack := v.toList ++ rest }) target → Steps p.tables e below (T.setTop g) target) ∨
    (∃ (q : Addr) (vm₁ : Vm) (B : Pt), s.WarmedH vm₁ ∧ Stand p l e R s m args below meth c B.U B.locs B.cells B.slots ∧ PostX ⟨T.setVm vm₁, locs, cells, slots⟩ (Value.ref b :: argsL).toArray q B ∧
      Steps p.tables e below (T.setTop g) ((B.U.setTop { g with stack := rest }).pushFrame (.throwing q))) := by
  obtain ⟨mk, methM, hnamed, hmethM, hstM, habM⟩ := Cond.instanceMethod_spec hinst
  obtain ⟨m8, methM', cM, hn8, hmethM', -, -, -, -, -, -, hsigM⟩ := Cond.codeWith_spec hcode
  cases Option.some.inj (hn8.symm.trans hnamed)
  cases hmethM.symm.trans hmethM'
  obtain ⟨c2, r2, m2, q1, q2, q3, q4, kP, hkP, hkPi⟩ := Cond.selects_spec hsel
  cases hcls.symm.trans q1
  cases (State.methodFound?_of_named hnamed hy).symm.trans q2
  cases hnamed.symm.trans q3
  have hselP : selectMethod e.platform s.vm cellB.cls mk = .method mk := by rw [Launch.admits_selectMethod X.admits]; exact q4
  obtain ⟨vm₁, X₁, hstep₁⟩ := X.invokevirtual hexec hown hlink hnamed hmethM hstM hkP hkPi hy (a := b) (cell := cellB) hcell
    (fun z h => by rw [h] at hobj; cases hobj) hselP hmethM habM hkP hkPi (g := g) hg (argsL := argsL) (rest := rest) (hlen _ hsigM) hstack hdg
  rcases hK m meth c ⟨T.setVm vm₁, locs, cells, slots⟩ { g with stack := rest } (.invokevirtual index) mk (Value.ref b :: argsL).toArray X₁ hg hsize hdg hW (X₁.named hnamed) (hpre vm₁ X₁.warmed) with ⟨v, B, X', hpost, hsteps⟩ | ⟨q, B, X', hpost, hsteps⟩
  · exact Or.inl ⟨v, vm₁, B, X₁.warmed, X', hpost, fun target h => hstep₁ _ fun acts => by rw [doInvoke_state]; exact hsteps.trans h⟩
  · exact Or.inr ⟨q, vm₁, B, X₁.warmed, X', hpost, hstep₁ _ fun acts => by rw [doInvoke_state]; exact hsteps⟩
theorem vx_callSX (X : Stand p l e R s m args below meth c T locs cells slots) (hexec : p.tables.exec = Jvm.exec) {own : String} {index : Nat} {y : MethodName} {bytes : ByteArray} {maxL : Nat} {ret : Option FieldType} {hh : List (Nat × Nat × Nat × Nat)}
    (hown : s.vm.findClass own = some m.cls) (hlink : (Cond.methodLink own index y).before args s = true) (hstat : (Cond.static y).before args s = true) (hinit : (Cond.initialized y.cls).before args s = true)
    (hcode : (Cond.codeWith y bytes maxL ret hh).before args s = true) (hy : y.cls ≠ "java/lang/invoke/MethodHandle" ∧ y.cls ≠ "java/lang/invoke/VarHandle")
    {W9 : Nat} {Pre : Pt → Array Value → Prop} {Post : Pt → Array Value → Option Value → Pt → Prop} {PostX : Pt → Array Value → Addr → Pt → Prop} (hK : vx_Back l R p e below s args y 3 W9 Pre Post PostX)
    {g : JFrame} (hg : g.method = m) (hsize : g.locals.size = c.maxLocals) {argsL rest : List Value} (hlen : ∀ sig, parseMethodDescriptor y.desc = some sig → argsL.length = sig.parameters.length)
    (hstack : g.stack = argsL.reverse ++ rest) (hW : 2 * g.monitorRoom + (rest.map fun v => v.category).sum ≤ W9) (hdg : decode c.code g.pc = .ok (.invokestatic index, 3))
    (hpre : ∀ vm₁, s.WarmedH vm₁ → Pre ⟨T.setVm vm₁, locs, cells, slots⟩ argsL.toArray) :
    (∃ (v : Option Value) (vm₁ : Vm) (B : Pt), s.WarmedH vm₁ ∧ Stand p l e R s m args below meth c B.U B.locs B.cells B.slots ∧ Post ⟨T.setVm vm₁, locs, cells, slots⟩ argsL.toArray v B ∧
      ∀ target, Steps p.tables e below (B.U.setTop { g with pc := g.pc + 3, stack := v.toList ++ rest }) target → Steps p.tables e below (T.setTop g) target) ∨
    (∃ (q : Addr) (vm₁ : Vm) (B : Pt), s.WarmedH vm₁ ∧ Stand p l e R s m args below meth c B.U B.locs B.cells B.slots ∧ PostX ⟨T.setVm vm₁, locs, cells, slots⟩ argsL.toArray q B ∧
      Steps p.tables e below (T.setTop g) ((B.U.setTop { g with stack := rest }).pushFrame (.throwing q))) := by
  obtain ⟨mk, methM, cM, hnamed, hmethM, -, -, -, -, -, -, hsigM⟩ := Cond.codeWith_spec hcode
  have hstatic : methM.isStatic = true := Cond.static_spec hnamed hmethM hstat
  obtain ⟨kP, hkP, -⟩ := className_of_methodNamed hnamed
  have hinitP : kP.init = .initialized := Cond.initialized_spec (findClass_of_methodNamed hnamed) hkP hinit
  obtain ⟨vm₁, X₁, hstep₁⟩ := X.invokestatic hexec hown hlink hnamed hmethM hstatic hkP hinitP hy (g := g) hg (argsL := argsL) (rest := rest) (hlen _ hsigM) hstack hdg
  rcases hK m meth c ⟨T.setVm vm₁, locs, cells, slots⟩ { g with stack := rest } (.invokestatic index) mk argsL.toArray X₁ hg hsize hdg hW (X₁.named hnamed) (hpre vm₁ X₁.warmed) with ⟨v, B, X', hpost, hsteps⟩ | ⟨q, B, X', hpost, hsteps⟩
  · exact Or.inl ⟨v, vm₁, B, X₁.warmed, X', hpost, fun target h => hstep₁ _ fun acts => by rw [doInvoke_state]; exact hsteps.trans h⟩
  · exact Or.inr ⟨q, vm₁, B, X₁.warmed, X', hpost, hstep₁ _ fun acts => by rw [doInvoke_state]; exact hsteps⟩
theorem vx_callVW (X : Stand p l e R s m args below meth c T locs cells slots) (hexec : p.tables.exec = Jvm.exec) {own C : String} {index : Nat} {y : MethodName} {bytes : ByteArray} {maxL : Nat} {ret : Option FieldType} {hh : List (Nat × Nat × Nat × Nat)}
    (hown : s.vm.findClass own = some m.cls) (hlink : (Cond.methodLink own index y).before args s = true) (hinst : (Cond.instanceMethod y).before args s = true) (hsel : (Cond.selects C y y).before args s = true)
    (hcode : (Cond.codeWith y bytes maxL ret hh).before args s = true) (hy : y.cls ≠ "java/lang/invoke/MethodHandle" ∧ y.cls ≠ "java/lang/invoke/VarHandle")
    {W9 : Nat} {Pre : Pt → Array Value → Prop} {Post : Pt → Array Value → Option Value → Pt → Prop} (hK : Back l R p e below s args y 3 W9 Pre Post)
    {b : Addr} {cellB : Cell} (hcell : T.heap[b]? = some cellB) (hobj : cellB.vm.isStatics = false) (hcls : s.vm.findClass C = some cellB.cls)
    {g : JFrame} (hg : g.method = m) (hsize : g.locals.size = c.maxLocals) {argsL rest : List Value} (hlen : ∀ sig, parseMethodDescriptor y.desc = some sig → argsL.length = sig.parameters.length)
    (hstack : g.stack = argsL.reverse ++ .ref b :: rest) (hW : 2 * g.monitorRoom + (rest.map fun v => v.category).sum ≤ W9) (hdg : decode c.code g.pc = .ok (.invokevirtual index, 3))
    (hpre : ∀ vm₁, s.WarmedH vm₁ → Pre ⟨T.setVm vm₁, locs, cells, slots⟩ (Value.ref b :: argsL).toArray) :
    ∃ (v : Option Value) (vm₁ : Vm) (B : Pt), s.WarmedH vm₁ ∧ Stand p l e R s m args below meth c B.U B.locs B.cells B.slots ∧ Post ⟨T.setVm vm₁, locs, cells, slots⟩ (Value.ref b :: argsL).toArray v B ∧
      ∀ target, Steps p.tables e below (B.U.setTop { g with pc := g.pc + 3, stack := v.toList ++ rest }) target → Steps p.tables e below (T.setTop g) target := by
  obtain ⟨mk, methM, hnamed, hmethM, hstM, habM⟩ := Cond.instanceMethod_spec hinst
  obtain ⟨m8, methM', cM, hn8, hmethM', -, -, -, -, -, -, hsigM⟩ := Cond.codeWith_spec hcode
  cases Option.some.inj (hn8.symm.trans hnamed)
  cases hmethM.symm.trans hmethM'
  obtain ⟨c2, r2, m2, q1, q2, q3, q4, kP, hkP, hkPi⟩ := Cond.selects_spec hsel
  cases hcls.symm.trans q1
  cases (State.methodFound?_of_named hnamed hy).symm.trans q2
  cases hnamed.symm.trans q3
  have hselP : selectMethod e.platform s.vm cellB.cls mk = .method mk := by rw [Launch.admits_selectMethod X.admits]; exact q4
  obtain ⟨vm₁, X₁, hstep₁⟩ := X.invokevirtual hexec hown hlink hnamed hmethM hstM hkP hkPi hy (a := b) (cell := cellB) hcell
    (fun z h => by rw [h] at hobj; cases hobj) hselP hmethM habM hkP hkPi (g := g) hg (argsL := argsL) (rest := rest) (hlen _ hsigM) hstack hdg
  obtain ⟨v, B, X', hpost, hsteps⟩ := hK m meth c ⟨T.setVm vm₁, locs, cells, slots⟩ { g with stack := rest } (.invokevirtual index) mk (Value.ref b :: argsL).toArray X₁ hg hsize hdg hW (X₁.named hnamed) (hpre vm₁ X₁.warmed)
  exact ⟨v, vm₁, B, X₁.warmed, X', hpost, fun target h => hstep₁ _ fun acts => by rw [doInvoke_state]; exact hsteps.trans h⟩
abbrev vx_CVW (R : Room) (s : State) (args : Array Value) (own C : String) (index : Nat) (y : MethodName) (bytes : ByteArray) (maxL : Nat) (ret : Option FieldType) (hh : List (Nat × Nat × Nat × Nat)) (ws : List Cond) (rm : Room) (mc ms n : Nat) : Prop :=
  (rm.cells = mc ∧ rm.slots = ms ∧ rm.frames + 1 ≤ R.frames ∧ 8 + (maxL + 11) + rm.locals ≤ R.locals ∧ (∀ w ∈ ws, ∀ (a' : Array Value) (U : State), s.WarmedH U.vm → w.before a' U = true) ∧ Cond.codeWith y bytes maxL ret hh ∈ ws) ∧
  (Cond.codeWith y bytes maxL ret hh).before args s = true ∧ (Cond.initialized y.cls).before args s = true ∧ (y.cls ≠ "java/lang/invoke/MethodHandle" ∧ y.cls ≠ "java/lang/invoke/VarHandle") ∧
  (∀ sig, parseMethodDescriptor y.desc = some sig → n = sig.parameters.length) ∧ (Cond.methodLink own index y).before args s = true ∧ (Cond.instanceMethod y).before args s = true ∧ (Cond.selects C y y).before args s = true
theorem vx_cwVW {own C : String} {index maxL mc ms : Nat} {y : MethodName} {bytes : ByteArray} {ret : Option FieldType} {hh : List (Nat × Nat × Nat × Nat)} {Ts ws ws' : List Cond} {rm : Room} (n : Nat) (ht : ∀ w ∈ Ts, w.before args s = true) (hT : GoodIn Ts (wsV own index C y ws)) (hw : ws = Cond.codeWith y bytes maxL ret hh :: ws') (hrc : rm.cells = mc) (hrs : rm.slots = ms)
    (hd : y.cls = C ∧ y.cls ≠ "java/lang/invoke/MethodHandle" ∧ y.cls ≠ "java/lang/invoke/VarHandle" ∧ (parseMethodDescriptor y.desc).map (fun d => d.parameters.length) = some n) (hR : rm.frames + 1 ≤ R.frames ∧ 8 + (maxL + 11) + rm.locals ≤ R.locals) :
    vx_CVW R s args own C index y bytes maxL ret hh ws rm mc ms n := by
  obtain ⟨hC, hd⟩ := hd
  subst hC
  have ok : ∀ w ∈ wsV own index y.cls y ws, w.before args s = true := fun w h => ht w (hT w h).1
  have hG : GoodIn Ts ws := fun w h => hT w (by unfold wsV; exact List.mem_append_right _ h)
  have hc : Cond.codeWith y bytes maxL ret hh ∈ ws := by rw [hw]; exact List.mem_cons_self
  refine ⟨⟨hrc, hrs, hR.1, hR.2, pay_in ht hG, hc⟩, ht _ (hG _ hc).1, ok _ (by simp [wsV]), ⟨hd.1, hd.2.1⟩, fun sig h => ?_, ok _ (by simp [wsV]), ok _ (by simp [wsV]), ok _ (by simp [wsV])⟩
  have h2 := hd.2.2
  rw [h] at h2
  exact (Option.some.inj h2).symm
theorem vx_runVW {y : MethodName} {bytes cc : ByteArray} {maxL nL mc ms n index : Nat} {ret : Option FieldType} {hh : List (Nat × Nat × Nat × Nat)} {ws : List Cond} {rm : Room} {Pc : Array Value → State → Prop} {Qc : Array Value → State → Outcome → State → Prop} {free : Addr → Prop} {Ts : List Cond} {own C : String} {b : Addr} {As rest : List Value} {g : JFrame}
    (S : CallFix p m c cc nL s args Ts own) (hM : Met l y ws rm Pc Qc mc ms free) (cw : vx_CVW R s args own C index y bytes maxL ret hh ws rm mc ms n) (hp : PreV s H C b Pc As)
    (hg : g.method = m) (hn : As.length = n) (hsize : g.locals.size = nL) (hstack : g.stack = As.reverse ++ .ref b :: rest) (hW : 2 * g.monitorRoom + (rest.map fun v => v.category).sum ≤ 8) (hdg : decode cc g.pc = .ok (.invokevirtual index, 3)) (hf : cells + mc ≤ R.cells ∧ slots + ms ≤ R.slots) :
    va_Run p l e R s m args below meth c H locs cells slots mc ms g rest (Qc (Value.ref b :: As).toArray) free := by
  obtain ⟨⟨hrc, hrs, hfr, hlo, hws, hcw⟩, hcode, hini, hy, hlen, hl, hin, hse⟩ := cw
  have hK : Back l R p e below s args y 3 8 (PreOf R mc ms Pc) (PostOf Qc mc ms free) := va_backW (hh := hh) (bytes := bytes) (maxL := maxL) (ret := ret) hM hp.1 hrc hrs hfr hlo hws hcw (fun a' U hW => word_at hW (Or.inl (by first | rfl | simp [Cond.onTables, Cond.keeps, Cond.steady])) hini)
  obtain ⟨hx, hb, hml, ho, -⟩ := S
  obtain ⟨-, ⟨cellB, hcB, hoB, hclB⟩, hPc⟩ := hp
  intro T hT X
  obtain ⟨v, vm₁, ⟨U', l2, c2, s2⟩, hW₁, X', ⟨g', mk, t, L, e1, e2, hq, h1, hL, h2, h3⟩, st⟩ := vx_callVW X hx (C := C) (hh := hh) (bytes := bytes) (maxL := maxL) (ret := ret) ho hl hin hse hcode hy hK (by rw [hT]; exact hcB) hoB hclB hg (hsize.trans hml.symm) (argsL := As) (rest := rest) (fun sig h => hn.trans (hlen sig h)) hstack hW (by rw [hb]; exact hdg)
    (fun vm₁ hW₁ => ⟨hf.1, hf.2, hPc (T.setVm vm₁) hT hW₁⟩)
  dsimp only [Pt.U, Pt.locs, Pt.cells, Pt.slots] at X' e1 e2 h1 h2 h3 st
  subst h1; subst h2; subst h3
  exact ⟨v, (T.setVm vm₁).calling g' mk (Value.ref b :: As).toArray, t, U', L, hT, X', hL, e1, e2, hq, st⟩
section
variable {y : MethodName} {bytes cc : ByteArray} {maxL nL mc ms n index : Nat} {ret : Option FieldType} {ws : List Cond} {rm : Room} {Pc : Array Value → State → Prop} {Qc : Array Value → State → Outcome → State → Prop} {XC : String → State → State → Prop} {free : Addr → Prop} {Ts : List Cond} {own C : String} {b : Addr} {As rest : List Value} {g : JFrame}
theorem vx_runVX {hh : List (Nat × Nat × Nat × Nat)} (S : CallFix p m c cc nL s args Ts own) (hM : vx_Met l y ws rm Pc Qc XC mc ms free) (cw : vx_CVW R s args own C index y bytes maxL ret hh ws rm mc ms n) (hp : PreV s H C b Pc As)
    (hg : g.method = m) (hn : As.length = n) (hsize : g.locals.size = nL) (hstack : g.stack = As.reverse ++ .ref b :: rest) (hW : 2 * g.monitorRoom + (rest.map fun v => v.category).sum ≤ 8) (hdg : decode cc g.pc = .ok (.invokevirtual index, 3)) (hf : cells + mc ≤ R.cells ∧ slots + ms ≤ R.slots) :
    vx_Run p l e R s m args below meth c H locs cells slots mc ms g rest (Qc (Value.ref b :: As).toArray) XC free := by
  obtain ⟨⟨hrc, hrs, hfr, hlo, hws, hcw⟩, hcode, hini, hy, hlen, hl, hin, hse⟩ := cw
  have hK : vx_Back l R p e below s args y 3 8 (PreOf R mc ms Pc) (PostOf Qc mc ms free) (vx_Post XC mc ms free) := vx_backW (hh := hh) (bytes := bytes) (maxL := maxL) (ret := ret) hM hp.1 hrc hrs hfr hlo hws hcw (fun a' U hW => word_at hW (Or.inl (by first | rfl | simp [Cond.onTables, Cond.keeps, Cond.steady])) hini)
  obtain ⟨hx, hb, hml, ho, -⟩ := S
  obtain ⟨-, ⟨cellB, hcB, hoB, hclB⟩, hPc⟩ := hp
  intro T hT X
  rcases vx_callVX X hx (C := C) (hh := hh) (bytes := bytes) (maxL := maxL) (ret := ret) ho hl hin hse hcode hy hK (by rw [hT]; exact hcB) hoB hclB hg (hsize.trans hml.symm) (argsL := As) (rest := rest) (fun sig h => hn.trans (hlen sig h)) hstack hW (by rw [hb]; exact hdg)
    (fun vm₁ hW₁ => ⟨hf.1, hf.2, hPc (T.setVm vm₁) hT hW₁⟩) with ⟨v, vm₁, ⟨U', l2, c2, s2⟩, hW₁, X', ⟨g', mk, t, L, e1, e2, hq, h1, hL, h2, h3⟩, st⟩ | ⟨q, vm₁, ⟨U', l2, c2, s2⟩, hW₁, X', ⟨g', mk, t, L, E, ce, e1, e2, hq, hce, hcv, hcl, h1, hL, h2, h3⟩, st⟩
  · dsimp only [Pt.U, Pt.locs, Pt.cells, Pt.slots] at X' e1 e2 h1 h2 h3 st
    subst h1; subst h2; subst h3
    exact Or.inl ⟨v, (T.setVm vm₁).calling g' mk (Value.ref b :: As).toArray, t, U', L, hT, X', hL, e1, e2, hq, st⟩
  · dsimp only [Pt.U, Pt.locs, Pt.cells, Pt.slots] at X' e1 e2 h1 h2 h3 st hcl
    subst h1; subst h2; subst h3
    exact Or.inr ⟨q, (T.setVm vm₁).calling g' mk (Value.ref b :: As).toArray, t, U', L, E, ce, hT, X', hL, e1, e2, hq, hce, hcv, vx_cls hW₁ hcl, st⟩
theorem vx_runSX {hh : List (Nat × Nat × Nat × Nat)} (S : CallFix p m c cc nL s args Ts own) (hM : vx_Met l y ws rm Pc Qc XC mc ms free) (cw : vx_CSW R s args own index y bytes maxL ret hh ws rm mc ms n) (hp : PreS s H Pc As)
    (hg : g.method = m) (hn : As.length = n) (hsize : g.locals.size = nL) (hstack : g.stack = As.reverse ++ rest) (hW : 2 * g.monitorRoom + (rest.map fun v => v.category).sum ≤ 8) (hdg : decode cc g.pc = .ok (.invokestatic index, 3)) (hf : cells + mc ≤ R.cells ∧ slots + ms ≤ R.slots) :
    vx_Run p l e R s m args below meth c H locs cells slots mc ms g rest (Qc As.toArray) XC free := by
  obtain ⟨⟨hrc, hrs, hfr, hlo, hws, hcw⟩, hcode, hini, hy, hlen, hl, hstt⟩ := cw
  have hK : vx_Back l R p e below s args y 3 8 (PreOf R mc ms Pc) (PostOf Qc mc ms free) (vx_Post XC mc ms free) := vx_backW (hh := hh) (bytes := bytes) (maxL := maxL) (ret := ret) hM hp.1 hrc hrs hfr hlo hws hcw (fun a' U hW => word_at hW (Or.inl (by first | rfl | simp [Cond.onTables, Cond.keeps, Cond.steady])) hini)
  obtain ⟨hx, hb, hml, ho, -⟩ := S
  intro T hT X
  rcases vx_callSX X hx (hh := hh) (bytes := bytes) (maxL := maxL) (ret := ret) ho hl hstt hini hcode hy hK hg (hsize.trans hml.symm) (argsL := As) (rest := rest) (fun sig h => hn.trans (hlen sig h)) hstack hW (by rw [hb]; exact hdg)
    (fun vm₁ hW₁ => ⟨hf.1, hf.2, hp.2 (T.setVm vm₁) hT hW₁⟩) with ⟨v, vm₁, ⟨U', l2, c2, s2⟩, hW₁, X', ⟨g', mk, t, L, e1, e2, hq, h1, hL, h2, h3⟩, st⟩ | ⟨q, vm₁, ⟨U', l2, c2, s2⟩, hW₁, X', ⟨g', mk, t, L, E, ce, e1, e2, hq, hce, hcv, hcl, h1, hL, h2, h3⟩, st⟩
  · dsimp only [Pt.U, Pt.locs, Pt.cells, Pt.slots] at X' e1 e2 h1 h2 h3 st
    subst h1; subst h2; subst h3
    exact Or.inl ⟨v, (T.setVm vm₁).calling g' mk As.toArray, t, U', L, hT, X', hL, e1, e2, hq, st⟩
  · dsimp only [Pt.U, Pt.locs, Pt.cells, Pt.slots] at X' e1 e2 h1 h2 h3 st hcl
    subst h1; subst h2; subst h3
    exact Or.inr ⟨q, (T.setVm vm₁).calling g' mk As.toArray, t, U', L, E, ce, hT, X', hL, e1, e2, hq, hce, hcv, vx_cls hW₁ hcl, st⟩
end
end VXH
theorem vx_ofWH {l : Launch} {y : MethodName} {ws ws' : List Cond} {rm : Room} {Pc : Array Value → State → Prop} {Qc : Array Value → State → Outcome → State → Prop} {XC : String → State → State → Prop} {mc ms : Nat} {free : Addr → Prop} {cc : ByteArray} {maxL : Nat} {ret : Option FieldType} {hh : List (Nat × Nat × Nat × Nat)}
    (hy : plainName y.cls = true) (hw : ws = Cond.codeWith y cc maxL ret hh :: ws')
    (body : ∀ p e s m args below meth c s₁, BodyLoose p l y (headSpec ws rm) cc maxL ret e s m args below meth c s₁ → c.maxLocals = maxL → Pc args s →
      W p l e (headSpec ws rm).room s m args below meth c s.heap [] 0 0 (vx_MQ below Qc XC args s mc ms free) (entryFrame m args maxL)) : vx_Met l y ws rm Pc Qc XC mc ms free := by
  refine MetFree.of_bodyS (code := cc) (maxLocals := maxL) (ret := ret) hy ?_ ?_
  · intro args s m h hn
    obtain ⟨m9, meth, c, hn9, h1, h2, h3, h4, -, h5, h6, -⟩ := Cond.codeWith_spec (atoms_spec (ws := ws) h _ (by rw [hw]; exact List.mem_cons_self))
    cases hn.symm.trans hn9
    exact ⟨meth, c, h1, h2, h3, h4, h5, h6⟩
  · intro p e s m args below meth c s₁ B hml hP _
    have hh0 : s₁.heap = s.heap := by rw [B.state]; rfl
    obtain ⟨t, a1, o, b1, b2, b3⟩ := body p e s m args below meth c s₁ B hml hP s₁ hh0 (Stand.of_body B)
    exact ⟨t, o, a1, b1, b2, b3⟩
/-! ===== END ===== -/
abbrev NSE : String := "java/util/NoSuchElementException"
abbrev NSN : List String := ["java/lang/RuntimeException", "java/lang/Exception"]
theorem th_g : ∀ w ∈ (vx_at0 RX11 202 NSE NSN).filter goodWord, w ∈ lw_tbl := by decide +kernel
theorem th_n : ∀ w ∈ (vx_at0 RX11 202 NSE NSN).filter (fun w => !goodWord w), w ∈ NWs := by decide +kernel
theorem th_ot : ∀ w ∈ Cond.classLink RX11 200 NSE :: Cond.initialized NSE :: vx_at0 RX11 202 NSE NSN, vx_ot w = true := by decide +kernel
theorem th_at {args : Array Value} {s : State} (hts : ∀ w ∈ GT, w.before args s = true) (hN : Nst s) : ∀ w ∈ vx_at0 RX11 202 NSE NSN, w.before args s = true := by
  intro w hw
  by_cases g : goodWord w = true
  · exact hts w (List.mem_filter.mpr ⟨th_g w (List.mem_filter.mpr ⟨hw, g⟩), g⟩)
  · have hm := th_n w (List.mem_filter.mpr ⟨hw, by simp only [Bool.not_eq_true] at g; simp [g]⟩)
    have ho : w.onTables = true := by
      rcases NWs_M w hm with ⟨a, i, x, hh, rfl⟩ | ⟨x, rfl⟩ | ⟨a, b, rfl⟩ <;> rfl
    exact (hN w hm).use ho
end
