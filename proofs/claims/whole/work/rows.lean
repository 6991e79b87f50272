section
-- ===== PART A: goes FIRST, ahead of the names: the tables' words, and 'selects' of the private methods out of them =====
/-- a private method of a class that the tables say can be made, by its rows of tables_1 -/
def lw_okq (q : MethodName × Nat) : Prop := (q.1.cls ≠ "java/lang/invoke/MethodHandle" ∧ q.1.cls ≠ "java/lang/invoke/VarHandle") ∧ Cond.instantiable q.1.cls q.2 ∈ tables_1 ∧ Cond.privateMethod q.1 ∈ tables_1 ∧ Cond.instanceMethod q.1 ∈ tables_1
theorem lw_p0 : lw_okq (⟨"ChainLoader", "feedNumber", "(I)V"⟩, 9) := ⟨⟨by decide +kernel, by decide +kernel⟩, List.mem_of_getElem? (i := 22) (by decide +kernel), List.mem_of_getElem? (i := 465) (by decide +kernel), List.mem_of_getElem? (i := 466) (by decide +kernel)⟩
theorem lw_p1 : lw_okq (⟨"ChainLoader$Told", "hasRoom", "(II)Z"⟩, 19) := ⟨⟨by decide +kernel, by decide +kernel⟩, List.mem_of_getElem? (i := 51) (by decide +kernel), List.mem_of_getElem? (i := 593) (by decide +kernel), List.mem_of_getElem? (i := 594) (by decide +kernel)⟩
theorem lw_p2 : lw_okq (⟨"ChainLoader$Writer", "layOut", "()V"⟩, 11) := ⟨⟨by decide +kernel, by decide +kernel⟩, List.mem_of_getElem? (i := 163) (by decide +kernel), List.mem_of_getElem? (i := 626) (by decide +kernel), List.mem_of_getElem? (i := 627) (by decide +kernel)⟩
theorem lw_p3 : lw_okq (⟨"ChainLoader$Writer", "layOutFixups", "()V"⟩, 11) := ⟨⟨by decide +kernel, by decide +kernel⟩, List.mem_of_getElem? (i := 163) (by decide +kernel), List.mem_of_getElem? (i := 633) (by decide +kernel), List.mem_of_getElem? (i := 634) (by decide +kernel)⟩
theorem lw_p4 : lw_okq (⟨"ChainLoader$Writer", "addHead", "()V"⟩, 11) := ⟨⟨by decide +kernel, by decide +kernel⟩, List.mem_of_getElem? (i := 163) (by decide +kernel), List.mem_of_getElem? (i := 657) (by decide +kernel), List.mem_of_getElem? (i := 658) (by decide +kernel)⟩
theorem lw_p5 : lw_okq (⟨"ChainLoader$Writer", "addSegmentCommand", "(I)V"⟩, 11) := ⟨⟨by decide +kernel, by decide +kernel⟩, List.mem_of_getElem? (i := 163) (by decide +kernel), List.mem_of_getElem? (i := 666) (by decide +kernel), List.mem_of_getElem? (i := 667) (by decide +kernel)⟩
theorem lw_p6 : lw_okq (⟨"ChainLoader$Writer", "addSectionsOf", "(I)V"⟩, 11) := ⟨⟨by decide +kernel, by decide +kernel⟩, List.mem_of_getElem? (i := 163) (by decide +kernel), List.mem_of_getElem? (i := 690) (by decide +kernel), List.mem_of_getElem? (i := 691) (by decide +kernel)⟩
theorem lw_p7 : lw_okq (⟨"ChainLoader$Writer", "addTableCommands", "()V"⟩, 11) := ⟨⟨by decide +kernel, by decide +kernel⟩, List.mem_of_getElem? (i := 163) (by decide +kernel), List.mem_of_getElem? (i := 699) (by decide +kernel), List.mem_of_getElem? (i := 700) (by decide +kernel)⟩
theorem lw_p8 : lw_okq (⟨"ChainLoader$Writer", "addContents", "(I)V"⟩, 11) := ⟨⟨by decide +kernel, by decide +kernel⟩, List.mem_of_getElem? (i := 163) (by decide +kernel), List.mem_of_getElem? (i := 707) (by decide +kernel), List.mem_of_getElem? (i := 708) (by decide +kernel)⟩
theorem lw_p9 : lw_okq (⟨"ChainLoader$Writer", "threaded", "(II)J"⟩, 11) := ⟨⟨by decide +kernel, by decide +kernel⟩, List.mem_of_getElem? (i := 163) (by decide +kernel), List.mem_of_getElem? (i := 719) (by decide +kernel), List.mem_of_getElem? (i := 720) (by decide +kernel)⟩
theorem lw_p10 : lw_okq (⟨"ChainLoader$Writer", "addFixups", "()V"⟩, 11) := ⟨⟨by decide +kernel, by decide +kernel⟩, List.mem_of_getElem? (i := 163) (by decide +kernel), List.mem_of_getElem? (i := 728) (by decide +kernel), List.mem_of_getElem? (i := 729) (by decide +kernel)⟩
theorem lw_p11 : lw_okq (⟨"ChainLoader$Writer", "addPages", "(I)V"⟩, 11) := ⟨⟨by decide +kernel, by decide +kernel⟩, List.mem_of_getElem? (i := 163) (by decide +kernel), List.mem_of_getElem? (i := 733) (by decide +kernel), List.mem_of_getElem? (i := 734) (by decide +kernel)⟩
theorem lw_p12 : lw_okq (⟨"ChainLoader$Writer", "addImports", "()V"⟩, 11) := ⟨⟨by decide +kernel, by decide +kernel⟩, List.mem_of_getElem? (i := 163) (by decide +kernel), List.mem_of_getElem? (i := 738) (by decide +kernel), List.mem_of_getElem? (i := 739) (by decide +kernel)⟩
theorem lw_p13 : lw_okq (⟨"ChainLoader$Writer", "addSymbols", "()V"⟩, 11) := ⟨⟨by decide +kernel, by decide +kernel⟩, List.mem_of_getElem? (i := 163) (by decide +kernel), List.mem_of_getElem? (i := 747) (by decide +kernel), List.mem_of_getElem? (i := 748) (by decide +kernel)⟩
theorem lw_p14 : lw_okq (⟨"ChainLoader$Writer", "addStrings", "()V"⟩, 11) := ⟨⟨by decide +kernel, by decide +kernel⟩, List.mem_of_getElem? (i := 163) (by decide +kernel), List.mem_of_getElem? (i := 752) (by decide +kernel), List.mem_of_getElem? (i := 753) (by decide +kernel)⟩
theorem lw_p15 : lw_okq (⟨"ChainLoader$Exports", "indexOf", "(ILChainLoader$Row;I)I"⟩, 3) := ⟨⟨by decide +kernel, by decide +kernel⟩, List.mem_of_getElem? (i := 203) (by decide +kernel), List.mem_of_getElem? (i := 781) (by decide +kernel), List.mem_of_getElem? (i := 782) (by decide +kernel)⟩
def lw_privs_1 : List (MethodName × Nat) := [(⟨"ChainLoader", "feedNumber", "(I)V"⟩, 9), (⟨"ChainLoader$Told", "hasRoom", "(II)Z"⟩, 19), (⟨"ChainLoader$Writer", "layOut", "()V"⟩, 11), (⟨"ChainLoader$Writer", "layOutFixups", "()V"⟩, 11), (⟨"ChainLoader$Writer", "addHead", "()V"⟩, 11), (⟨"ChainLoader$Writer", "addSegmentCommand", "(I)V"⟩, 11), (⟨"ChainLoader$Writer", "addSectionsOf", "(I)V"⟩, 11), (⟨"ChainLoader$Writer", "addTableCommands", "()V"⟩, 11), (⟨"ChainLoader$Writer", "addContents", "(I)V"⟩, 11), (⟨"ChainLoader$Writer", "threaded", "(II)J"⟩, 11), (⟨"ChainLoader$Writer", "addFixups", "()V"⟩, 11), (⟨"ChainLoader$Writer", "addPages", "(I)V"⟩, 11), (⟨"ChainLoader$Writer", "addImports", "()V"⟩, 11), (⟨"ChainLoader$Writer", "addSymbols", "()V"⟩, 11), (⟨"ChainLoader$Writer", "addStrings", "()V"⟩, 11), (⟨"ChainLoader$Exports", "indexOf", "(ILChainLoader$Row;I)I"⟩, 3)]
theorem lw_r1 : ∀ q ∈ lw_privs_1, lw_okq q := List.forall_mem_cons.mpr ⟨lw_p0, List.forall_mem_cons.mpr ⟨lw_p1, List.forall_mem_cons.mpr ⟨lw_p2, List.forall_mem_cons.mpr ⟨lw_p3, List.forall_mem_cons.mpr ⟨lw_p4, List.forall_mem_cons.mpr ⟨lw_p5, List.forall_mem_cons.mpr ⟨lw_p6, List.forall_mem_cons.mpr ⟨lw_p7, List.forall_mem_cons.mpr ⟨lw_p8, List.forall_mem_cons.mpr ⟨lw_p9, List.forall_mem_cons.mpr ⟨lw_p10, List.forall_mem_cons.mpr ⟨lw_p11, List.forall_mem_cons.mpr ⟨lw_p12, List.forall_mem_cons.mpr ⟨lw_p13, List.forall_mem_cons.mpr ⟨lw_p14, List.forall_mem_cons.mpr ⟨lw_p15, fun _ h => absurd h List.not_mem_nil⟩⟩⟩⟩⟩⟩⟩⟩⟩⟩⟩⟩⟩⟩⟩⟩
theorem lw_p16 : lw_okq (⟨"ChainLoader$Commands", "forget", "()V"⟩, 12) := ⟨⟨by decide +kernel, by decide +kernel⟩, List.mem_of_getElem? (i := 241) (by decide +kernel), List.mem_of_getElem? (i := 800) (by decide +kernel), List.mem_of_getElem? (i := 801) (by decide +kernel)⟩
theorem lw_p17 : lw_okq (⟨"ChainLoader$Commands", "headHolds", "()Z"⟩, 12) := ⟨⟨by decide +kernel, by decide +kernel⟩, List.mem_of_getElem? (i := 241) (by decide +kernel), List.mem_of_getElem? (i := 808) (by decide +kernel), List.mem_of_getElem? (i := 809) (by decide +kernel)⟩
theorem lw_p18 : lw_okq (⟨"ChainLoader$Commands", "u4", "(I)J"⟩, 12) := ⟨⟨by decide +kernel, by decide +kernel⟩, List.mem_of_getElem? (i := 241) (by decide +kernel), List.mem_of_getElem? (i := 816) (by decide +kernel), List.mem_of_getElem? (i := 817) (by decide +kernel)⟩
theorem lw_p19 : lw_okq (⟨"ChainLoader$Commands", "commandsHold", "()Z"⟩, 12) := ⟨⟨by decide +kernel, by decide +kernel⟩, List.mem_of_getElem? (i := 241) (by decide +kernel), List.mem_of_getElem? (i := 827) (by decide +kernel), List.mem_of_getElem? (i := 828) (by decide +kernel)⟩
theorem lw_p20 : lw_okq (⟨"ChainLoader$Commands", "sizeHolds", "(II)Z"⟩, 12) := ⟨⟨by decide +kernel, by decide +kernel⟩, List.mem_of_getElem? (i := 241) (by decide +kernel), List.mem_of_getElem? (i := 831) (by decide +kernel), List.mem_of_getElem? (i := 832) (by decide +kernel)⟩
theorem lw_p21 : lw_okq (⟨"ChainLoader$Commands", "commandHolds", "(I)Z"⟩, 12) := ⟨⟨by decide +kernel, by decide +kernel⟩, List.mem_of_getElem? (i := 241) (by decide +kernel), List.mem_of_getElem? (i := 836) (by decide +kernel), List.mem_of_getElem? (i := 837) (by decide +kernel)⟩
theorem lw_p22 : lw_okq (⟨"ChainLoader$Commands", "segmentHolds", "(I)Z"⟩, 12) := ⟨⟨by decide +kernel, by decide +kernel⟩, List.mem_of_getElem? (i := 241) (by decide +kernel), List.mem_of_getElem? (i := 841) (by decide +kernel), List.mem_of_getElem? (i := 842) (by decide +kernel)⟩
theorem lw_p23 : lw_okq (⟨"ChainLoader$Commands", "u8", "(I)J"⟩, 12) := ⟨⟨by decide +kernel, by decide +kernel⟩, List.mem_of_getElem? (i := 241) (by decide +kernel), List.mem_of_getElem? (i := 851) (by decide +kernel), List.mem_of_getElem? (i := 852) (by decide +kernel)⟩
theorem lw_p24 : lw_okq (⟨"ChainLoader$Commands", "spanHolds", "(I)Z"⟩, 12) := ⟨⟨by decide +kernel, by decide +kernel⟩, List.mem_of_getElem? (i := 241) (by decide +kernel), List.mem_of_getElem? (i := 856) (by decide +kernel), List.mem_of_getElem? (i := 857) (by decide +kernel)⟩
theorem lw_p25 : lw_okq (⟨"ChainLoader$Commands", "sectionsHold", "(I)Z"⟩, 12) := ⟨⟨by decide +kernel, by decide +kernel⟩, List.mem_of_getElem? (i := 241) (by decide +kernel), List.mem_of_getElem? (i := 879) (by decide +kernel), List.mem_of_getElem? (i := 880) (by decide +kernel)⟩
theorem lw_p26 : lw_okq (⟨"ChainLoader$Commands", "symtabHolds", "(I)Z"⟩, 12) := ⟨⟨by decide +kernel, by decide +kernel⟩, List.mem_of_getElem? (i := 241) (by decide +kernel), List.mem_of_getElem? (i := 884) (by decide +kernel), List.mem_of_getElem? (i := 885) (by decide +kernel)⟩
theorem lw_p27 : lw_okq (⟨"ChainLoader$Commands", "chainsHold", "(I)Z"⟩, 12) := ⟨⟨by decide +kernel, by decide +kernel⟩, List.mem_of_getElem? (i := 241) (by decide +kernel), List.mem_of_getElem? (i := 891) (by decide +kernel), List.mem_of_getElem? (i := 892) (by decide +kernel)⟩
theorem lw_p28 : lw_okq (⟨"ChainLoader$Commands", "symbolsHold", "()Z"⟩, 12) := ⟨⟨by decide +kernel, by decide +kernel⟩, List.mem_of_getElem? (i := 241) (by decide +kernel), List.mem_of_getElem? (i := 896) (by decide +kernel), List.mem_of_getElem? (i := 897) (by decide +kernel)⟩
theorem lw_p29 : lw_okq (⟨"ChainLoader$Fixups", "headHolds", "()Z"⟩, 13) := ⟨⟨by decide +kernel, by decide +kernel⟩, List.mem_of_getElem? (i := 326) (by decide +kernel), List.mem_of_getElem? (i := 913) (by decide +kernel), List.mem_of_getElem? (i := 914) (by decide +kernel)⟩
theorem lw_p30 : lw_okq (⟨"ChainLoader$Fixups", "u4", "(I)J"⟩, 13) := ⟨⟨by decide +kernel, by decide +kernel⟩, List.mem_of_getElem? (i := 326) (by decide +kernel), List.mem_of_getElem? (i := 917) (by decide +kernel), List.mem_of_getElem? (i := 918) (by decide +kernel)⟩
theorem lw_p31 : lw_okq (⟨"ChainLoader$Fixups", "needs", "(ZI)Z"⟩, 13) := ⟨⟨by decide +kernel, by decide +kernel⟩, List.mem_of_getElem? (i := 326) (by decide +kernel), List.mem_of_getElem? (i := 922) (by decide +kernel), List.mem_of_getElem? (i := 923) (by decide +kernel)⟩
def lw_privs_2 : List (MethodName × Nat) := [(⟨"ChainLoader$Commands", "forget", "()V"⟩, 12), (⟨"ChainLoader$Commands", "headHolds", "()Z"⟩, 12), (⟨"ChainLoader$Commands", "u4", "(I)J"⟩, 12), (⟨"ChainLoader$Commands", "commandsHold", "()Z"⟩, 12), (⟨"ChainLoader$Commands", "sizeHolds", "(II)Z"⟩, 12), (⟨"ChainLoader$Commands", "commandHolds", "(I)Z"⟩, 12), (⟨"ChainLoader$Commands", "segmentHolds", "(I)Z"⟩, 12), (⟨"ChainLoader$Commands", "u8", "(I)J"⟩, 12), (⟨"ChainLoader$Commands", "spanHolds", "(I)Z"⟩, 12), (⟨"ChainLoader$Commands", "sectionsHold", "(I)Z"⟩, 12), (⟨"ChainLoader$Commands", "symtabHolds", "(I)Z"⟩, 12), (⟨"ChainLoader$Commands", "chainsHold", "(I)Z"⟩, 12), (⟨"ChainLoader$Commands", "symbolsHold", "()Z"⟩, 12), (⟨"ChainLoader$Fixups", "headHolds", "()Z"⟩, 13), (⟨"ChainLoader$Fixups", "u4", "(I)J"⟩, 13), (⟨"ChainLoader$Fixups", "needs", "(ZI)Z"⟩, 13)]
theorem lw_r2 : ∀ q ∈ lw_privs_2, lw_okq q := List.forall_mem_cons.mpr ⟨lw_p16, List.forall_mem_cons.mpr ⟨lw_p17, List.forall_mem_cons.mpr ⟨lw_p18, List.forall_mem_cons.mpr ⟨lw_p19, List.forall_mem_cons.mpr ⟨lw_p20, List.forall_mem_cons.mpr ⟨lw_p21, List.forall_mem_cons.mpr ⟨lw_p22, List.forall_mem_cons.mpr ⟨lw_p23, List.forall_mem_cons.mpr ⟨lw_p24, List.forall_mem_cons.mpr ⟨lw_p25, List.forall_mem_cons.mpr ⟨lw_p26, List.forall_mem_cons.mpr ⟨lw_p27, List.forall_mem_cons.mpr ⟨lw_p28, List.forall_mem_cons.mpr ⟨lw_p29, List.forall_mem_cons.mpr ⟨lw_p30, List.forall_mem_cons.mpr ⟨lw_p31, fun _ h => absurd h List.not_mem_nil⟩⟩⟩⟩⟩⟩⟩⟩⟩⟩⟩⟩⟩⟩⟩⟩
theorem lw_p32 : lw_okq (⟨"ChainLoader$Fixups", "startsHold", "()Z"⟩, 13) := ⟨⟨by decide +kernel, by decide +kernel⟩, List.mem_of_getElem? (i := 326) (by decide +kernel), List.mem_of_getElem? (i := 927) (by decide +kernel), List.mem_of_getElem? (i := 928) (by decide +kernel)⟩
theorem lw_p33 : lw_okq (⟨"ChainLoader$Fixups", "importsHold", "()Z"⟩, 13) := ⟨⟨by decide +kernel, by decide +kernel⟩, List.mem_of_getElem? (i := 326) (by decide +kernel), List.mem_of_getElem? (i := 932) (by decide +kernel), List.mem_of_getElem? (i := 933) (by decide +kernel)⟩
theorem lw_p34 : lw_okq (⟨"ChainLoader$Fixups", "allPagesHold", "()Z"⟩, 13) := ⟨⟨by decide +kernel, by decide +kernel⟩, List.mem_of_getElem? (i := 326) (by decide +kernel), List.mem_of_getElem? (i := 944) (by decide +kernel), List.mem_of_getElem? (i := 945) (by decide +kernel)⟩
theorem lw_p35 : lw_okq (⟨"ChainLoader$Fixups", "pagesHold", "(II)Z"⟩, 13) := ⟨⟨by decide +kernel, by decide +kernel⟩, List.mem_of_getElem? (i := 326) (by decide +kernel), List.mem_of_getElem? (i := 949) (by decide +kernel), List.mem_of_getElem? (i := 950) (by decide +kernel)⟩
theorem lw_p36 : lw_okq (⟨"ChainLoader$Fixups", "u2", "(I)I"⟩, 13) := ⟨⟨by decide +kernel, by decide +kernel⟩, List.mem_of_getElem? (i := 326) (by decide +kernel), List.mem_of_getElem? (i := 953) (by decide +kernel), List.mem_of_getElem? (i := 954) (by decide +kernel)⟩
theorem lw_p37 : lw_okq (⟨"ChainLoader$Fixups", "allChainsHold", "()Z"⟩, 13) := ⟨⟨by decide +kernel, by decide +kernel⟩, List.mem_of_getElem? (i := 326) (by decide +kernel), List.mem_of_getElem? (i := 960) (by decide +kernel), List.mem_of_getElem? (i := 961) (by decide +kernel)⟩
theorem lw_p38 : lw_okq (⟨"ChainLoader$Fixups", "chainsOfHold", "(II)Z"⟩, 13) := ⟨⟨by decide +kernel, by decide +kernel⟩, List.mem_of_getElem? (i := 326) (by decide +kernel), List.mem_of_getElem? (i := 964) (by decide +kernel), List.mem_of_getElem? (i := 965) (by decide +kernel)⟩
theorem lw_p39 : lw_okq (⟨"ChainLoader$Fixups", "chainHolds", "(III)Z"⟩, 13) := ⟨⟨by decide +kernel, by decide +kernel⟩, List.mem_of_getElem? (i := 326) (by decide +kernel), List.mem_of_getElem? (i := 970) (by decide +kernel), List.mem_of_getElem? (i := 971) (by decide +kernel)⟩
theorem lw_p40 : lw_okq (⟨"ChainLoader$Fixups", "pointerHolds", "(JI)Z"⟩, 13) := ⟨⟨by decide +kernel, by decide +kernel⟩, List.mem_of_getElem? (i := 326) (by decide +kernel), List.mem_of_getElem? (i := 982) (by decide +kernel), List.mem_of_getElem? (i := 983) (by decide +kernel)⟩
theorem lw_p41 : lw_okq (⟨"ChainLoader$Loaded", "takeSegments", "(LChainLoader$Row;LChainLoader$Segments;I)V"⟩, 7) := ⟨⟨by decide +kernel, by decide +kernel⟩, List.mem_of_getElem? (i := 395) (by decide +kernel), List.mem_of_getElem? (i := 1006) (by decide +kernel), List.mem_of_getElem? (i := 1007) (by decide +kernel)⟩
theorem lw_p42 : lw_okq (⟨"java/lang/Throwable", "fillInStackTrace", "(I)Ljava/lang/Throwable;"⟩, 6) := ⟨⟨by decide +kernel, by decide +kernel⟩, List.mem_of_getElem? (i := 1108) (by decide +kernel), List.mem_of_getElem? (i := 1106) (by decide +kernel), List.mem_of_getElem? (i := 1107) (by decide +kernel)⟩
theorem lw_p43 : lw_okq (⟨"ChainLoaderModel", "come", "(I)V"⟩, 78) := ⟨⟨by decide +kernel, by decide +kernel⟩, List.mem_of_getElem? (i := 1148) (by decide +kernel), List.mem_of_getElem? (i := 1399) (by decide +kernel), List.mem_of_getElem? (i := 1400) (by decide +kernel)⟩
theorem lw_p44 : lw_okq (⟨"ChainLoaderModel", "takes", "(I)Z"⟩, 78) := ⟨⟨by decide +kernel, by decide +kernel⟩, List.mem_of_getElem? (i := 1148) (by decide +kernel), List.mem_of_getElem? (i := 1424) (by decide +kernel), List.mem_of_getElem? (i := 1425) (by decide +kernel)⟩
theorem lw_p45 : lw_okq (⟨"ChainLoaderModel", "isSegment", "(I)Z"⟩, 78) := ⟨⟨by decide +kernel, by decide +kernel⟩, List.mem_of_getElem? (i := 1148) (by decide +kernel), List.mem_of_getElem? (i := 1432) (by decide +kernel), List.mem_of_getElem? (i := 1433) (by decide +kernel)⟩
theorem lw_p46 : lw_okq (⟨"ChainLoaderModel", "points", "(IIJIZ)Z"⟩, 78) := ⟨⟨by decide +kernel, by decide +kernel⟩, List.mem_of_getElem? (i := 1148) (by decide +kernel), List.mem_of_getElem? (i := 1453) (by decide +kernel), List.mem_of_getElem? (i := 1454) (by decide +kernel)⟩
theorem lw_p47 : lw_okq (⟨"ChainLoaderModel", "pointerAtPlace", "(II)I"⟩, 78) := ⟨⟨by decide +kernel, by decide +kernel⟩, List.mem_of_getElem? (i := 1148) (by decide +kernel), List.mem_of_getElem? (i := 1457) (by decide +kernel), List.mem_of_getElem? (i := 1458) (by decide +kernel)⟩
def lw_privs_3 : List (MethodName × Nat) := [(⟨"ChainLoader$Fixups", "startsHold", "()Z"⟩, 13), (⟨"ChainLoader$Fixups", "importsHold", "()Z"⟩, 13), (⟨"ChainLoader$Fixups", "allPagesHold", "()Z"⟩, 13), (⟨"ChainLoader$Fixups", "pagesHold", "(II)Z"⟩, 13), (⟨"ChainLoader$Fixups", "u2", "(I)I"⟩, 13), (⟨"ChainLoader$Fixups", "allChainsHold", "()Z"⟩, 13), (⟨"ChainLoader$Fixups", "chainsOfHold", "(II)Z"⟩, 13), (⟨"ChainLoader$Fixups", "chainHolds", "(III)Z"⟩, 13), (⟨"ChainLoader$Fixups", "pointerHolds", "(JI)Z"⟩, 13), (⟨"ChainLoader$Loaded", "takeSegments", "(LChainLoader$Row;LChainLoader$Segments;I)V"⟩, 7), (⟨"java/lang/Throwable", "fillInStackTrace", "(I)Ljava/lang/Throwable;"⟩, 6), (⟨"ChainLoaderModel", "come", "(I)V"⟩, 78), (⟨"ChainLoaderModel", "takes", "(I)Z"⟩, 78), (⟨"ChainLoaderModel", "isSegment", "(I)Z"⟩, 78), (⟨"ChainLoaderModel", "points", "(IIJIZ)Z"⟩, 78), (⟨"ChainLoaderModel", "pointerAtPlace", "(II)I"⟩, 78)]
theorem lw_r3 : ∀ q ∈ lw_privs_3, lw_okq q := List.forall_mem_cons.mpr ⟨lw_p32, List.forall_mem_cons.mpr ⟨lw_p33, List.forall_mem_cons.mpr ⟨lw_p34, List.forall_mem_cons.mpr ⟨lw_p35, List.forall_mem_cons.mpr ⟨lw_p36, List.forall_mem_cons.mpr ⟨lw_p37, List.forall_mem_cons.mpr ⟨lw_p38, List.forall_mem_cons.mpr ⟨lw_p39, List.forall_mem_cons.mpr ⟨lw_p40, List.forall_mem_cons.mpr ⟨lw_p41, List.forall_mem_cons.mpr ⟨lw_p42, List.forall_mem_cons.mpr ⟨lw_p43, List.forall_mem_cons.mpr ⟨lw_p44, List.forall_mem_cons.mpr ⟨lw_p45, List.forall_mem_cons.mpr ⟨lw_p46, List.forall_mem_cons.mpr ⟨lw_p47, fun _ h => absurd h List.not_mem_nil⟩⟩⟩⟩⟩⟩⟩⟩⟩⟩⟩⟩⟩⟩⟩⟩
theorem lw_p48 : lw_okq (⟨"ChainLoaderModel", "gone", "(I)V"⟩, 78) := ⟨⟨by decide +kernel, by decide +kernel⟩, List.mem_of_getElem? (i := 1148) (by decide +kernel), List.mem_of_getElem? (i := 1461) (by decide +kernel), List.mem_of_getElem? (i := 1462) (by decide +kernel)⟩
theorem lw_p49 : lw_okq (⟨"ChainLoaderModel", "move", "(II)V"⟩, 78) := ⟨⟨by decide +kernel, by decide +kernel⟩, List.mem_of_getElem? (i := 1148) (by decide +kernel), List.mem_of_getElem? (i := 1465) (by decide +kernel), List.mem_of_getElem? (i := 1466) (by decide +kernel)⟩
theorem lw_p50 : lw_okq (⟨"ChainLoaderModel", "sectionsOf", "(I)I"⟩, 78) := ⟨⟨by decide +kernel, by decide +kernel⟩, List.mem_of_getElem? (i := 1148) (by decide +kernel), List.mem_of_getElem? (i := 1481) (by decide +kernel), List.mem_of_getElem? (i := 1482) (by decide +kernel)⟩
theorem lw_p51 : lw_okq (⟨"ChainLoaderModel", "even", "(I)V"⟩, 78) := ⟨⟨by decide +kernel, by decide +kernel⟩, List.mem_of_getElem? (i := 1148) (by decide +kernel), List.mem_of_getElem? (i := 1485) (by decide +kernel), List.mem_of_getElem? (i := 1486) (by decide +kernel)⟩
theorem lw_p52 : lw_okq (⟨"ChainLoaderModel", "put", "(JI)V"⟩, 78) := ⟨⟨by decide +kernel, by decide +kernel⟩, List.mem_of_getElem? (i := 1148) (by decide +kernel), List.mem_of_getElem? (i := 1489) (by decide +kernel), List.mem_of_getElem? (i := 1490) (by decide +kernel)⟩
theorem lw_p53 : lw_okq (⟨"ChainLoaderModel", "writeFixups", "()V"⟩, 78) := ⟨⟨by decide +kernel, by decide +kernel⟩, List.mem_of_getElem? (i := 1148) (by decide +kernel), List.mem_of_getElem? (i := 1493) (by decide +kernel), List.mem_of_getElem? (i := 1494) (by decide +kernel)⟩
theorem lw_p54 : lw_okq (⟨"ChainLoaderModel", "hasPointers", "(I)Z"⟩, 78) := ⟨⟨by decide +kernel, by decide +kernel⟩, List.mem_of_getElem? (i := 1148) (by decide +kernel), List.mem_of_getElem? (i := 1497) (by decide +kernel), List.mem_of_getElem? (i := 1498) (by decide +kernel)⟩
theorem lw_p55 : lw_okq (⟨"ChainLoaderModel", "spanOf", "(I)I"⟩, 78) := ⟨⟨by decide +kernel, by decide +kernel⟩, List.mem_of_getElem? (i := 1148) (by decide +kernel), List.mem_of_getElem? (i := 1501) (by decide +kernel), List.mem_of_getElem? (i := 1502) (by decide +kernel)⟩
theorem lw_p56 : lw_okq (⟨"ChainLoaderModel", "addressOf", "(I)I"⟩, 78) := ⟨⟨by decide +kernel, by decide +kernel⟩, List.mem_of_getElem? (i := 1148) (by decide +kernel), List.mem_of_getElem? (i := 1506) (by decide +kernel), List.mem_of_getElem? (i := 1507) (by decide +kernel)⟩
theorem lw_p57 : lw_okq (⟨"ChainLoaderModel", "longOf", "(I)I"⟩, 78) := ⟨⟨by decide +kernel, by decide +kernel⟩, List.mem_of_getElem? (i := 1148) (by decide +kernel), List.mem_of_getElem? (i := 1511) (by decide +kernel), List.mem_of_getElem? (i := 1512) (by decide +kernel)⟩
theorem lw_p58 : lw_okq (⟨"ChainLoaderModel", "putName", "(II)V"⟩, 78) := ⟨⟨by decide +kernel, by decide +kernel⟩, List.mem_of_getElem? (i := 1148) (by decide +kernel), List.mem_of_getElem? (i := 1515) (by decide +kernel), List.mem_of_getElem? (i := 1516) (by decide +kernel)⟩
theorem lw_p59 : lw_okq (⟨"ChainLoaderModel", "putFours", "(JJJJ)V"⟩, 78) := ⟨⟨by decide +kernel, by decide +kernel⟩, List.mem_of_getElem? (i := 1148) (by decide +kernel), List.mem_of_getElem? (i := 1520) (by decide +kernel), List.mem_of_getElem? (i := 1521) (by decide +kernel)⟩
theorem lw_p60 : lw_okq (⟨"ChainLoaderModel", "writePointers", "()V"⟩, 78) := ⟨⟨by decide +kernel, by decide +kernel⟩, List.mem_of_getElem? (i := 1148) (by decide +kernel), List.mem_of_getElem? (i := 1525) (by decide +kernel), List.mem_of_getElem? (i := 1526) (by decide +kernel)⟩
theorem lw_p61 : lw_okq (⟨"ChainLoaderModel", "writeCommands", "(I)V"⟩, 78) := ⟨⟨by decide +kernel, by decide +kernel⟩, List.mem_of_getElem? (i := 1148) (by decide +kernel), List.mem_of_getElem? (i := 1530) (by decide +kernel), List.mem_of_getElem? (i := 1531) (by decide +kernel)⟩
theorem lw_p62 : lw_okq (⟨"ChainLoaderModel", "isTaped", "(II)Z"⟩, 78) := ⟨⟨by decide +kernel, by decide +kernel⟩, List.mem_of_getElem? (i := 1148) (by decide +kernel), List.mem_of_getElem? (i := 1559) (by decide +kernel), List.mem_of_getElem? (i := 1560) (by decide +kernel)⟩
theorem lw_p63 : lw_okq (⟨"ChainLoaderModel", "reads", "()Z"⟩, 78) := ⟨⟨by decide +kernel, by decide +kernel⟩, List.mem_of_getElem? (i := 1148) (by decide +kernel), List.mem_of_getElem? (i := 1567) (by decide +kernel), List.mem_of_getElem? (i := 1568) (by decide +kernel)⟩
def lw_privs_4 : List (MethodName × Nat) := [(⟨"ChainLoaderModel", "gone", "(I)V"⟩, 78), (⟨"ChainLoaderModel", "move", "(II)V"⟩, 78), (⟨"ChainLoaderModel", "sectionsOf", "(I)I"⟩, 78), (⟨"ChainLoaderModel", "even", "(I)V"⟩, 78), (⟨"ChainLoaderModel", "put", "(JI)V"⟩, 78), (⟨"ChainLoaderModel", "writeFixups", "()V"⟩, 78), (⟨"ChainLoaderModel", "hasPointers", "(I)Z"⟩, 78), (⟨"ChainLoaderModel", "spanOf", "(I)I"⟩, 78), (⟨"ChainLoaderModel", "addressOf", "(I)I"⟩, 78), (⟨"ChainLoaderModel", "longOf", "(I)I"⟩, 78), (⟨"ChainLoaderModel", "putName", "(II)V"⟩, 78), (⟨"ChainLoaderModel", "putFours", "(JJJJ)V"⟩, 78), (⟨"ChainLoaderModel", "writePointers", "()V"⟩, 78), (⟨"ChainLoaderModel", "writeCommands", "(I)V"⟩, 78), (⟨"ChainLoaderModel", "isTaped", "(II)Z"⟩, 78), (⟨"ChainLoaderModel", "reads", "()Z"⟩, 78)]
theorem lw_r4 : ∀ q ∈ lw_privs_4, lw_okq q := List.forall_mem_cons.mpr ⟨lw_p48, List.forall_mem_cons.mpr ⟨lw_p49, List.forall_mem_cons.mpr ⟨lw_p50, List.forall_mem_cons.mpr ⟨lw_p51, List.forall_mem_cons.mpr ⟨lw_p52, List.forall_mem_cons.mpr ⟨lw_p53, List.forall_mem_cons.mpr ⟨lw_p54, List.forall_mem_cons.mpr ⟨lw_p55, List.forall_mem_cons.mpr ⟨lw_p56, List.forall_mem_cons.mpr ⟨lw_p57, List.forall_mem_cons.mpr ⟨lw_p58, List.forall_mem_cons.mpr ⟨lw_p59, List.forall_mem_cons.mpr ⟨lw_p60, List.forall_mem_cons.mpr ⟨lw_p61, List.forall_mem_cons.mpr ⟨lw_p62, List.forall_mem_cons.mpr ⟨lw_p63, fun _ h => absurd h List.not_mem_nil⟩⟩⟩⟩⟩⟩⟩⟩⟩⟩⟩⟩⟩⟩⟩⟩
theorem lw_p64 : lw_okq (⟨"ChainLoaderModel", "bad", "(IJ)Z"⟩, 78) := ⟨⟨by decide +kernel, by decide +kernel⟩, List.mem_of_getElem? (i := 1148) (by decide +kernel), List.mem_of_getElem? (i := 1571) (by decide +kernel), List.mem_of_getElem? (i := 1572) (by decide +kernel)⟩
theorem lw_p65 : lw_okq (⟨"ChainLoaderModel", "four", "(J)J"⟩, 78) := ⟨⟨by decide +kernel, by decide +kernel⟩, List.mem_of_getElem? (i := 1148) (by decide +kernel), List.mem_of_getElem? (i := 1575) (by decide +kernel), List.mem_of_getElem? (i := 1576) (by decide +kernel)⟩
theorem lw_p66 : lw_okq (⟨"ChainLoaderModel", "readSegment", "(JJ)Z"⟩, 78) := ⟨⟨by decide +kernel, by decide +kernel⟩, List.mem_of_getElem? (i := 1148) (by decide +kernel), List.mem_of_getElem? (i := 1583) (by decide +kernel), List.mem_of_getElem? (i := 1584) (by decide +kernel)⟩
theorem lw_p67 : lw_okq (⟨"ChainLoaderModel", "isNumber", "(J)Z"⟩, 78) := ⟨⟨by decide +kernel, by decide +kernel⟩, List.mem_of_getElem? (i := 1148) (by decide +kernel), List.mem_of_getElem? (i := 1590) (by decide +kernel), List.mem_of_getElem? (i := 1591) (by decide +kernel)⟩
theorem lw_p68 : lw_okq (⟨"ChainLoaderModel", "eight", "(J)J"⟩, 78) := ⟨⟨by decide +kernel, by decide +kernel⟩, List.mem_of_getElem? (i := 1148) (by decide +kernel), List.mem_of_getElem? (i := 1594) (by decide +kernel), List.mem_of_getElem? (i := 1595) (by decide +kernel)⟩
theorem lw_p69 : lw_okq (⟨"ChainLoaderModel", "readTable", "(JJ)Z"⟩, 78) := ⟨⟨by decide +kernel, by decide +kernel⟩, List.mem_of_getElem? (i := 1148) (by decide +kernel), List.mem_of_getElem? (i := 1602) (by decide +kernel), List.mem_of_getElem? (i := 1603) (by decide +kernel)⟩
theorem lw_p70 : lw_okq (⟨"ChainLoaderModel", "readChains", "(JJ)Z"⟩, 78) := ⟨⟨by decide +kernel, by decide +kernel⟩, List.mem_of_getElem? (i := 1148) (by decide +kernel), List.mem_of_getElem? (i := 1607) (by decide +kernel), List.mem_of_getElem? (i := 1608) (by decide +kernel)⟩
theorem lw_p71 : lw_okq (⟨"ChainLoaderModel", "readsSymbols", "()Z"⟩, 78) := ⟨⟨by decide +kernel, by decide +kernel⟩, List.mem_of_getElem? (i := 1148) (by decide +kernel), List.mem_of_getElem? (i := 1612) (by decide +kernel), List.mem_of_getElem? (i := 1613) (by decide +kernel)⟩
theorem lw_p72 : lw_okq (⟨"ChainLoaderModel", "zero", "(JJ)J"⟩, 78) := ⟨⟨by decide +kernel, by decide +kernel⟩, List.mem_of_getElem? (i := 1148) (by decide +kernel), List.mem_of_getElem? (i := 1616) (by decide +kernel), List.mem_of_getElem? (i := 1617) (by decide +kernel)⟩
theorem lw_p73 : lw_okq (⟨"ChainLoaderModel", "readsFixups", "(I)Z"⟩, 78) := ⟨⟨by decide +kernel, by decide +kernel⟩, List.mem_of_getElem? (i := 1148) (by decide +kernel), List.mem_of_getElem? (i := 1621) (by decide +kernel), List.mem_of_getElem? (i := 1622) (by decide +kernel)⟩
theorem lw_p74 : lw_okq (⟨"ChainLoaderModel", "readsPages", "(IJJ)Z"⟩, 78) := ⟨⟨by decide +kernel, by decide +kernel⟩, List.mem_of_getElem? (i := 1148) (by decide +kernel), List.mem_of_getElem? (i := 1625) (by decide +kernel), List.mem_of_getElem? (i := 1626) (by decide +kernel)⟩
theorem lw_p75 : lw_okq (⟨"ChainLoaderModel", "two", "(J)I"⟩, 78) := ⟨⟨by decide +kernel, by decide +kernel⟩, List.mem_of_getElem? (i := 1148) (by decide +kernel), List.mem_of_getElem? (i := 1630) (by decide +kernel), List.mem_of_getElem? (i := 1631) (by decide +kernel)⟩
theorem lw_p76 : lw_okq (⟨"ChainLoaderModel", "walks", "(IIIJ)Z"⟩, 78) := ⟨⟨by decide +kernel, by decide +kernel⟩, List.mem_of_getElem? (i := 1148) (by decide +kernel), List.mem_of_getElem? (i := 1634) (by decide +kernel), List.mem_of_getElem? (i := 1635) (by decide +kernel)⟩
theorem lw_p77 : lw_okq (⟨"ChainLoaderModel", "isWithin", "(IIII)Z"⟩, 78) := ⟨⟨by decide +kernel, by decide +kernel⟩, List.mem_of_getElem? (i := 1148) (by decide +kernel), List.mem_of_getElem? (i := 1638) (by decide +kernel), List.mem_of_getElem? (i := 1639) (by decide +kernel)⟩
theorem lw_p78 : lw_okq (⟨"ChainLoaderModel", "wordOf", "(IJ)J"⟩, 78) := ⟨⟨by decide +kernel, by decide +kernel⟩, List.mem_of_getElem? (i := 1148) (by decide +kernel), List.mem_of_getElem? (i := 1642) (by decide +kernel), List.mem_of_getElem? (i := 1643) (by decide +kernel)⟩
theorem lw_p79 : lw_okq (⟨"ChainLoaderModel", "isWeakImport", "(J)Z"⟩, 78) := ⟨⟨by decide +kernel, by decide +kernel⟩, List.mem_of_getElem? (i := 1148) (by decide +kernel), List.mem_of_getElem? (i := 1649) (by decide +kernel), List.mem_of_getElem? (i := 1650) (by decide +kernel)⟩
def lw_privs_5 : List (MethodName × Nat) := [(⟨"ChainLoaderModel", "bad", "(IJ)Z"⟩, 78), (⟨"ChainLoaderModel", "four", "(J)J"⟩, 78), (⟨"ChainLoaderModel", "readSegment", "(JJ)Z"⟩, 78), (⟨"ChainLoaderModel", "isNumber", "(J)Z"⟩, 78), (⟨"ChainLoaderModel", "eight", "(J)J"⟩, 78), (⟨"ChainLoaderModel", "readTable", "(JJ)Z"⟩, 78), (⟨"ChainLoaderModel", "readChains", "(JJ)Z"⟩, 78), (⟨"ChainLoaderModel", "readsSymbols", "()Z"⟩, 78), (⟨"ChainLoaderModel", "zero", "(JJ)J"⟩, 78), (⟨"ChainLoaderModel", "readsFixups", "(I)Z"⟩, 78), (⟨"ChainLoaderModel", "readsPages", "(IJJ)Z"⟩, 78), (⟨"ChainLoaderModel", "two", "(J)I"⟩, 78), (⟨"ChainLoaderModel", "walks", "(IIIJ)Z"⟩, 78), (⟨"ChainLoaderModel", "isWithin", "(IIII)Z"⟩, 78), (⟨"ChainLoaderModel", "wordOf", "(IJ)J"⟩, 78), (⟨"ChainLoaderModel", "isWeakImport", "(J)Z"⟩, 78)]
theorem lw_r5 : ∀ q ∈ lw_privs_5, lw_okq q := List.forall_mem_cons.mpr ⟨lw_p64, List.forall_mem_cons.mpr ⟨lw_p65, List.forall_mem_cons.mpr ⟨lw_p66, List.forall_mem_cons.mpr ⟨lw_p67, List.forall_mem_cons.mpr ⟨lw_p68, List.forall_mem_cons.mpr ⟨lw_p69, List.forall_mem_cons.mpr ⟨lw_p70, List.forall_mem_cons.mpr ⟨lw_p71, List.forall_mem_cons.mpr ⟨lw_p72, List.forall_mem_cons.mpr ⟨lw_p73, List.forall_mem_cons.mpr ⟨lw_p74, List.forall_mem_cons.mpr ⟨lw_p75, List.forall_mem_cons.mpr ⟨lw_p76, List.forall_mem_cons.mpr ⟨lw_p77, List.forall_mem_cons.mpr ⟨lw_p78, List.forall_mem_cons.mpr ⟨lw_p79, fun _ h => absurd h List.not_mem_nil⟩⟩⟩⟩⟩⟩⟩⟩⟩⟩⟩⟩⟩⟩⟩⟩
theorem lw_p80 : lw_okq (⟨"ChainLoaderModel", "importOf", "(J)J"⟩, 78) := ⟨⟨by decide +kernel, by decide +kernel⟩, List.mem_of_getElem? (i := 1148) (by decide +kernel), List.mem_of_getElem? (i := 1653) (by decide +kernel), List.mem_of_getElem? (i := 1654) (by decide +kernel)⟩
theorem lw_p81 : lw_okq (⟨"ChainLoaderModel", "exportFor", "(J)I"⟩, 78) := ⟨⟨by decide +kernel, by decide +kernel⟩, List.mem_of_getElem? (i := 1148) (by decide +kernel), List.mem_of_getElem? (i := 1657) (by decide +kernel), List.mem_of_getElem? (i := 1658) (by decide +kernel)⟩
theorem lw_p82 : lw_okq (⟨"ChainLoaderModel", "fits", "(I)Z"⟩, 78) := ⟨⟨by decide +kernel, by decide +kernel⟩, List.mem_of_getElem? (i := 1148) (by decide +kernel), List.mem_of_getElem? (i := 1662) (by decide +kernel), List.mem_of_getElem? (i := 1663) (by decide +kernel)⟩
theorem lw_p83 : lw_okq (⟨"ChainLoaderModel", "keeps", "(I)V"⟩, 78) := ⟨⟨by decide +kernel, by decide +kernel⟩, List.mem_of_getElem? (i := 1148) (by decide +kernel), List.mem_of_getElem? (i := 1666) (by decide +kernel), List.mem_of_getElem? (i := 1667) (by decide +kernel)⟩
theorem lw_p84 : lw_okq (⟨"ChainLoaderModel", "holds", "(JI)I"⟩, 78) := ⟨⟨by decide +kernel, by decide +kernel⟩, List.mem_of_getElem? (i := 1148) (by decide +kernel), List.mem_of_getElem? (i := 1680) (by decide +kernel), List.mem_of_getElem? (i := 1681) (by decide +kernel)⟩
theorem lw_p85 : lw_okq (⟨"ChainLoaderModel", "byteAt", "(IJ)I"⟩, 78) := ⟨⟨by decide +kernel, by decide +kernel⟩, List.mem_of_getElem? (i := 1148) (by decide +kernel), List.mem_of_getElem? (i := 1684) (by decide +kernel), List.mem_of_getElem? (i := 1685) (by decide +kernel)⟩
def lw_privs_6 : List (MethodName × Nat) := [(⟨"ChainLoaderModel", "importOf", "(J)J"⟩, 78), (⟨"ChainLoaderModel", "exportFor", "(J)I"⟩, 78), (⟨"ChainLoaderModel", "fits", "(I)Z"⟩, 78), (⟨"ChainLoaderModel", "keeps", "(I)V"⟩, 78), (⟨"ChainLoaderModel", "holds", "(JI)I"⟩, 78), (⟨"ChainLoaderModel", "byteAt", "(IJ)I"⟩, 78)]
theorem lw_r6 : ∀ q ∈ lw_privs_6, lw_okq q := List.forall_mem_cons.mpr ⟨lw_p80, List.forall_mem_cons.mpr ⟨lw_p81, List.forall_mem_cons.mpr ⟨lw_p82, List.forall_mem_cons.mpr ⟨lw_p83, List.forall_mem_cons.mpr ⟨lw_p84, List.forall_mem_cons.mpr ⟨lw_p85, fun _ h => absurd h List.not_mem_nil⟩⟩⟩⟩⟩⟩
def lw_privs : List (MethodName × Nat) := lw_privs_1 ++ (lw_privs_2 ++ (lw_privs_3 ++ (lw_privs_4 ++ (lw_privs_5 ++ (lw_privs_6)))))
def lw_tbl : List Cond := k2_sels lw_privs ++ tables_1
theorem lw_privs_ok : ∀ q ∈ lw_privs, lw_okq q := by
  show ∀ q ∈ lw_privs_1 ++ (lw_privs_2 ++ (lw_privs_3 ++ (lw_privs_4 ++ (lw_privs_5 ++ (lw_privs_6))))), lw_okq q
  exact List.forall_mem_append.mpr ⟨lw_r1, List.forall_mem_append.mpr ⟨lw_r2, List.forall_mem_append.mpr ⟨lw_r3, List.forall_mem_append.mpr ⟨lw_r4, List.forall_mem_append.mpr ⟨lw_r5, lw_r6⟩⟩⟩⟩⟩
end
section
def RX0 : String := "ChainLoader$Commands"
def TX0 : u_T := fun k => match k with
  | 0 => ("ChainLoader$Commands", "image", "LChainLoader$Row;", true)
  | 1 => ("ChainLoader$Commands", "fault", "LChainLoader$Fault;", true)
  | 2 => ("ChainLoader$Commands", "segments", "LChainLoader$Segments;", true)
  | 3 => ("ChainLoader$Commands", "sections", "I", false)
  | 4 => ("ChainLoader$Commands", "hasSymtab", "Z", false)
  | 5 => ("ChainLoader$Commands", "symbols", "I", false)
  | 6 => ("ChainLoader$Commands", "symbolsAt", "I", false)
  | 7 => ("ChainLoader$Commands", "strings", "I", false)
  | 8 => ("ChainLoader$Commands", "stringBytes", "I", false)
  | 9 => ("ChainLoader$Commands", "hasChains", "Z", false)
  | 10 => ("ChainLoader$Commands", "fixups", "I", false)
  | _ => ("ChainLoader$Commands", "fixupBytes", "I", false)
def tyX0 : Nat → FieldType := fun k => match k with
  | 0 => .object "ChainLoader$Row"
  | 1 => .object "ChainLoader$Fault"
  | 2 => .object "ChainLoader$Segments"
  | 3 => .int
  | 4 => .boolean
  | 5 => .int
  | 6 => .int
  | 7 => .int
  | 8 => .int
  | 9 => .boolean
  | 10 => .int
  | _ => .int
theorem nmX0 : ∀ a, a < 12 → ∀ b, b < 12 → a ≠ b → (TX0 a).2.1 ≠ (TX0 b).2.1 := by decide +kernel
theorem tyX0_ok : ∀ k, k < 12 → parseFieldDescriptor (TX0 k).2.2.1 = some (tyX0 k) := by decide +kernel
abbrev cX0_init : ByteArray := prog_2_method_1_code
def yX0_init : MethodName := ⟨RX0, "<init>", "(LChainLoader$Row;LChainLoader$Fault;)V"⟩
abbrev cX0_hold : ByteArray := prog_2_method_2_code
def yX0_hold : MethodName := ⟨RX0, "hold", "()Z"⟩
abbrev cX0_forget : ByteArray := prog_2_method_3_code
def yX0_forget : MethodName := ⟨RX0, "forget", "()V"⟩
abbrev cX0_headHolds : ByteArray := prog_2_method_4_code
def yX0_headHolds : MethodName := ⟨RX0, "headHolds", "()Z"⟩
abbrev cX0_commandsHold : ByteArray := prog_2_method_5_code
def yX0_commandsHold : MethodName := ⟨RX0, "commandsHold", "()Z"⟩
abbrev cX0_sizeHolds : ByteArray := prog_2_method_6_code
def yX0_sizeHolds : MethodName := ⟨RX0, "sizeHolds", "(II)Z"⟩
abbrev cX0_commandHolds : ByteArray := prog_2_method_7_code
def yX0_commandHolds : MethodName := ⟨RX0, "commandHolds", "(I)Z"⟩
abbrev cX0_segmentHolds : ByteArray := prog_2_method_8_code
def yX0_segmentHolds : MethodName := ⟨RX0, "segmentHolds", "(I)Z"⟩
abbrev cX0_spanHolds : ByteArray := prog_2_method_9_code
def yX0_spanHolds : MethodName := ⟨RX0, "spanHolds", "(I)Z"⟩
abbrev cX0_sectionsHold : ByteArray := prog_2_method_10_code
def yX0_sectionsHold : MethodName := ⟨RX0, "sectionsHold", "(I)Z"⟩
abbrev cX0_symtabHolds : ByteArray := prog_2_method_11_code
def yX0_symtabHolds : MethodName := ⟨RX0, "symtabHolds", "(I)Z"⟩
abbrev cX0_chainsHold : ByteArray := prog_2_method_12_code
def yX0_chainsHold : MethodName := ⟨RX0, "chainsHold", "(I)Z"⟩
abbrev cX0_symbolsHold : ByteArray := prog_2_method_13_code
def yX0_symbolsHold : MethodName := ⟨RX0, "symbolsHold", "()Z"⟩
abbrev cX0_numberHolds : ByteArray := prog_2_method_14_code
def yX0_numberHolds : MethodName := ⟨RX0, "numberHolds", "(I)Z"⟩
abbrev cX0_u4 : ByteArray := prog_2_method_15_code
def yX0_u4 : MethodName := ⟨RX0, "u4", "(I)J"⟩
abbrev cX0_u8 : ByteArray := prog_2_method_16_code
def yX0_u8 : MethodName := ⟨RX0, "u8", "(I)J"⟩
def RX1 : String := "ChainLoader$Exports"
def TX1 : u_T := fun k => match k with
  | 0 => ("ChainLoader$Exports", "names", "LChainLoader$Names;", true)
  | 1 => ("ChainLoader$Exports", "libraries", "[I", true)
  | _ => ("ChainLoader$Exports", "addresses", "[I", true)
def tyX1 : Nat → FieldType := fun k => match k with
  | 0 => .object "ChainLoader$Names"
  | 1 => .array .int
  | _ => .array .int
theorem nmX1 : ∀ a, a < 3 → ∀ b, b < 3 → a ≠ b → (TX1 a).2.1 ≠ (TX1 b).2.1 := by decide +kernel
theorem tyX1_ok : ∀ k, k < 3 → parseFieldDescriptor (TX1 k).2.2.1 = some (tyX1 k) := by decide +kernel
abbrev cX1_init : ByteArray := prog_3_method_1_code
def yX1_init : MethodName := ⟨RX1, "<init>", "()V"⟩
abbrev cX1_put : ByteArray := prog_3_method_2_code
def yX1_put : MethodName := ⟨RX1, "put", "(LChainLoader$Row;II)Z"⟩
abbrev cX1_indexOf : ByteArray := prog_3_method_3_code
def yX1_indexOf : MethodName := ⟨RX1, "indexOf", "(ILChainLoader$Row;I)I"⟩
abbrev cX1_addressOf : ByteArray := prog_3_method_4_code
def yX1_addressOf : MethodName := ⟨RX1, "addressOf", "(ILChainLoader$Row;I)I"⟩
def RX2 : String := "ChainLoader$Fault"
def TX2 : u_T := fun k => match k with
  | 0 => ("ChainLoader$Fault", "kind", "I", false)
  | _ => ("ChainLoader$Fault", "where", "I", false)
def tyX2 : Nat → FieldType := fun k => match k with
  | 0 => .int
  | _ => .int
theorem nmX2 : ∀ a, a < 2 → ∀ b, b < 2 → a ≠ b → (TX2 a).2.1 ≠ (TX2 b).2.1 := by decide +kernel
theorem tyX2_ok : ∀ k, k < 2 → parseFieldDescriptor (TX2 k).2.2.1 = some (tyX2 k) := by decide +kernel
abbrev cX2_init : ByteArray := prog_4_method_1_code
def yX2_init : MethodName := ⟨RX2, "<init>", "()V"⟩
abbrev cX2_clear : ByteArray := prog_4_method_2_code
def yX2_clear : MethodName := ⟨RX2, "clear", "()V"⟩
abbrev cX2_unless : ByteArray := prog_4_method_3_code
def yX2_unless : MethodName := ⟨RX2, "unless", "(ZII)Z"⟩
def RX3 : String := "ChainLoader$Fixups"
def TX3 : u_T := fun k => match k with
  | 0 => ("ChainLoader$Fixups", "image", "LChainLoader$Row;", true)
  | 1 => ("ChainLoader$Fixups", "fault", "LChainLoader$Fault;", true)
  | 2 => ("ChainLoader$Fixups", "exports", "LChainLoader$Exports;", true)
  | 3 => ("ChainLoader$Fixups", "commands", "LChainLoader$Commands;", true)
  | 4 => ("ChainLoader$Fixups", "segments", "LChainLoader$Segments;", true)
  | 5 => ("ChainLoader$Fixups", "visits", "LChainLoader$Visits;", true)
  | 6 => ("ChainLoader$Fixups", "pagesAt", "[I", true)
  | 7 => ("ChainLoader$Fixups", "importWeak", "[Z", true)
  | 8 => ("ChainLoader$Fixups", "importAddress", "[I", true)
  | 9 => ("ChainLoader$Fixups", "imports", "I", false)
  | 10 => ("ChainLoader$Fixups", "begin", "I", false)
  | 11 => ("ChainLoader$Fixups", "size", "I", false)
  | _ => ("ChainLoader$Fixups", "starts", "I", false)
def tyX3 : Nat → FieldType := fun k => match k with
  | 0 => .object "ChainLoader$Row"
  | 1 => .object "ChainLoader$Fault"
  | 2 => .object "ChainLoader$Exports"
  | 3 => .object "ChainLoader$Commands"
  | 4 => .object "ChainLoader$Segments"
  | 5 => .object "ChainLoader$Visits"
  | 6 => .array .int
  | 7 => .array .boolean
  | 8 => .array .int
  | 9 => .int
  | 10 => .int
  | 11 => .int
  | _ => .int
theorem nmX3 : ∀ a, a < 13 → ∀ b, b < 13 → a ≠ b → (TX3 a).2.1 ≠ (TX3 b).2.1 := by decide +kernel
theorem tyX3_ok : ∀ k, k < 13 → parseFieldDescriptor (TX3 k).2.2.1 = some (tyX3 k) := by decide +kernel
abbrev cX3_init : ByteArray := prog_5_method_1_code
def yX3_init : MethodName := ⟨RX3, "<init>", "(LChainLoader$Row;LChainLoader$Fault;LChainLoader$Exports;LChainLoader$Commands;)V"⟩
abbrev cX3_hold : ByteArray := prog_5_method_2_code
def yX3_hold : MethodName := ⟨RX3, "hold", "()Z"⟩
abbrev cX3_headHolds : ByteArray := prog_5_method_3_code
def yX3_headHolds : MethodName := ⟨RX3, "headHolds", "()Z"⟩
abbrev cX3_startsHold : ByteArray := prog_5_method_4_code
def yX3_startsHold : MethodName := ⟨RX3, "startsHold", "()Z"⟩
abbrev cX3_importsHold : ByteArray := prog_5_method_5_code
def yX3_importsHold : MethodName := ⟨RX3, "importsHold", "()Z"⟩
abbrev cX3_allPagesHold : ByteArray := prog_5_method_6_code
def yX3_allPagesHold : MethodName := ⟨RX3, "allPagesHold", "()Z"⟩
abbrev cX3_pagesHold : ByteArray := prog_5_method_7_code
def yX3_pagesHold : MethodName := ⟨RX3, "pagesHold", "(II)Z"⟩
abbrev cX3_allChainsHold : ByteArray := prog_5_method_8_code
def yX3_allChainsHold : MethodName := ⟨RX3, "allChainsHold", "()Z"⟩
abbrev cX3_chainsOfHold : ByteArray := prog_5_method_9_code
def yX3_chainsOfHold : MethodName := ⟨RX3, "chainsOfHold", "(II)Z"⟩
abbrev cX3_chainHolds : ByteArray := prog_5_method_10_code
def yX3_chainHolds : MethodName := ⟨RX3, "chainHolds", "(III)Z"⟩
abbrev cX3_pointerHolds : ByteArray := prog_5_method_11_code
def yX3_pointerHolds : MethodName := ⟨RX3, "pointerHolds", "(JI)Z"⟩
abbrev cX3_valueOf : ByteArray := prog_5_method_12_code
def yX3_valueOf : MethodName := ⟨RX3, "valueOf", "(JI)J"⟩
abbrev cX3_needs : ByteArray := prog_5_method_13_code
def yX3_needs : MethodName := ⟨RX3, "needs", "(ZI)Z"⟩
abbrev cX3_u2 : ByteArray := prog_5_method_14_code
def yX3_u2 : MethodName := ⟨RX3, "u2", "(I)I"⟩
abbrev cX3_u4 : ByteArray := prog_5_method_15_code
def yX3_u4 : MethodName := ⟨RX3, "u4", "(I)J"⟩
def RX4 : String := "ChainLoader$Loaded"
def TX4 : u_T := fun k => match k with
  | 0 => ("ChainLoader$Loaded", "segments", "LChainLoader$Segments;", true)
  | 1 => ("ChainLoader$Loaded", "memory", "LChainLoader$Row;", true)
  | 2 => ("ChainLoader$Loaded", "visits", "LChainLoader$Visits;", true)
  | 3 => ("ChainLoader$Loaded", "strings", "LChainLoader$Row;", true)
  | 4 => ("ChainLoader$Loaded", "symbolNames", "[I", true)
  | 5 => ("ChainLoader$Loaded", "symbolAddresses", "[I", true)
  | _ => ("ChainLoader$Loaded", "symbols", "I", false)
def tyX4 : Nat → FieldType := fun k => match k with
  | 0 => .object "ChainLoader$Segments"
  | 1 => .object "ChainLoader$Row"
  | 2 => .object "ChainLoader$Visits"
  | 3 => .object "ChainLoader$Row"
  | 4 => .array .int
  | 5 => .array .int
  | _ => .int
theorem nmX4 : ∀ a, a < 7 → ∀ b, b < 7 → a ≠ b → (TX4 a).2.1 ≠ (TX4 b).2.1 := by decide +kernel
theorem tyX4_ok : ∀ k, k < 7 → parseFieldDescriptor (TX4 k).2.2.1 = some (tyX4 k) := by decide +kernel
abbrev cX4_init : ByteArray := prog_6_method_1_code
def yX4_init : MethodName := ⟨RX4, "<init>", "()V"⟩
abbrev cX4_take : ByteArray := prog_6_method_2_code
def yX4_take : MethodName := ⟨RX4, "take", "(LChainLoader$Row;LChainLoader$Commands;I)V"⟩
abbrev cX4_takeSegments : ByteArray := prog_6_method_3_code
def yX4_takeSegments : MethodName := ⟨RX4, "takeSegments", "(LChainLoader$Row;LChainLoader$Segments;I)V"⟩
abbrev cX4_setPointers : ByteArray := prog_6_method_4_code
def yX4_setPointers : MethodName := ⟨RX4, "setPointers", "(LChainLoader$Fixups;I)V"⟩
abbrev cX4_symbolAddress : ByteArray := prog_6_method_5_code
def yX4_symbolAddress : MethodName := ⟨RX4, "symbolAddress", "(LChainLoader$Row;)I"⟩
def RX5 : String := "ChainLoader$Names"
def TX5 : u_T := fun k => match k with
  | 0 => ("ChainLoader$Names", "bytes", "[B", true)
  | 1 => ("ChainLoader$Names", "sizes", "[I", true)
  | _ => ("ChainLoader$Names", "total", "I", false)
def tyX5 : Nat → FieldType := fun k => match k with
  | 0 => .array .byte
  | 1 => .array .int
  | _ => .int
theorem nmX5 : ∀ a, a < 3 → ∀ b, b < 3 → a ≠ b → (TX5 a).2.1 ≠ (TX5 b).2.1 := by decide +kernel
theorem tyX5_ok : ∀ k, k < 3 → parseFieldDescriptor (TX5 k).2.2.1 = some (tyX5 k) := by decide +kernel
abbrev cX5_init : ByteArray := prog_7_method_1_code
def yX5_init : MethodName := ⟨RX5, "<init>", "(I)V"⟩
abbrev cX5_clear : ByteArray := prog_7_method_2_code
def yX5_clear : MethodName := ⟨RX5, "clear", "()V"⟩
abbrev cX5_has : ByteArray := prog_7_method_3_code
def yX5_has : MethodName := ⟨RX5, "has", "(I)Z"⟩
abbrev cX5_takes : ByteArray := prog_7_method_4_code
def yX5_takes : MethodName := ⟨RX5, "takes", "(LChainLoader$Row;)Z"⟩
abbrev cX5_add : ByteArray := prog_7_method_5_code
def yX5_add : MethodName := ⟨RX5, "add", "(LChainLoader$Row;)I"⟩
abbrev cX5_bytesWithZeros : ByteArray := prog_7_method_6_code
def yX5_bytesWithZeros : MethodName := ⟨RX5, "bytesWithZeros", "()I"⟩
abbrev cX5_addFilledTo : ByteArray := prog_7_method_7_code
def yX5_addFilledTo : MethodName := ⟨RX5, "addFilledTo", "(LChainLoader$Row;I)V"⟩
abbrev cX5_addAllTo : ByteArray := prog_7_method_8_code
def yX5_addAllTo : MethodName := ⟨RX5, "addAllTo", "(LChainLoader$Row;)V"⟩
def RX6 : String := "ChainLoader$Row"
def TX6 : u_T := fun k => match k with
  | 0 => ("ChainLoader$Row", "bytes", "[B", true)
  | _ => ("ChainLoader$Row", "size", "I", false)
def tyX6 : Nat → FieldType := fun k => match k with
  | 0 => .array .byte
  | _ => .int
theorem nmX6 : ∀ a, a < 2 → ∀ b, b < 2 → a ≠ b → (TX6 a).2.1 ≠ (TX6 b).2.1 := by decide +kernel
theorem tyX6_ok : ∀ k, k < 2 → parseFieldDescriptor (TX6 k).2.2.1 = some (tyX6 k) := by decide +kernel
abbrev cX6_init : ByteArray := prog_8_method_1_code
def yX6_init : MethodName := ⟨RX6, "<init>", "(I)V"⟩
abbrev cX6_clear : ByteArray := prog_8_method_2_code
def yX6_clear : MethodName := ⟨RX6, "clear", "()V"⟩
abbrev cX6_has : ByteArray := prog_8_method_3_code
def yX6_has : MethodName := ⟨RX6, "has", "(I)Z"⟩
abbrev cX6_shorten : ByteArray := prog_8_method_4_code
def yX6_shorten : MethodName := ⟨RX6, "shorten", "(I)Z"⟩
abbrev cX6_at : ByteArray := prog_8_method_5_code
def yX6_at : MethodName := ⟨RX6, "at", "(I)I"⟩
abbrev cX6_number : ByteArray := prog_8_method_6_code
def yX6_number : MethodName := ⟨RX6, "number", "(II)J"⟩
abbrev cX6_put : ByteArray := prog_8_method_7_code
def yX6_put : MethodName := ⟨RX6, "put", "(IIJ)V"⟩
abbrev cX6_add : ByteArray := prog_8_method_8_code
def yX6_add : MethodName := ⟨RX6, "add", "(IJ)V"⟩
abbrev cX6_addZeros : ByteArray := prog_8_method_9_code
def yX6_addZeros : MethodName := ⟨RX6, "addZeros", "(I)V"⟩
abbrev cX6_addFrom : ByteArray := prog_8_method_10_code
def yX6_addFrom : MethodName := ⟨RX6, "addFrom", "([BII)V"⟩
abbrev cX6_fillUp : ByteArray := prog_8_method_11_code
def yX6_fillUp : MethodName := ⟨RX6, "fillUp", "(I)V"⟩
abbrev cX6_lastZero : ByteArray := prog_8_method_12_code
def yX6_lastZero : MethodName := ⟨RX6, "lastZero", "(II)I"⟩
abbrev cX6_isName : ByteArray := prog_8_method_13_code
def yX6_isName : MethodName := ⟨RX6, "isName", "()Z"⟩
abbrev cX6_reads : ByteArray := prog_8_method_14_code
def yX6_reads : MethodName := ⟨RX6, "reads", "(I[BII)Z"⟩
def RX7 : String := "ChainLoader$Segments"
def TX7 : u_T := fun k => match k with
  | 0 => ("ChainLoader$Segments", "address", "[I", true)
  | 1 => ("ChainLoader$Segments", "span", "[I", true)
  | 2 => ("ChainLoader$Segments", "from", "[I", true)
  | 3 => ("ChainLoader$Segments", "bytes", "[I", true)
  | _ => ("ChainLoader$Segments", "total", "I", false)
def tyX7 : Nat → FieldType := fun k => match k with
  | 0 => .array .int
  | 1 => .array .int
  | 2 => .array .int
  | 3 => .array .int
  | _ => .int
theorem nmX7 : ∀ a, a < 5 → ∀ b, b < 5 → a ≠ b → (TX7 a).2.1 ≠ (TX7 b).2.1 := by decide +kernel
theorem tyX7_ok : ∀ k, k < 5 → parseFieldDescriptor (TX7 k).2.2.1 = some (tyX7 k) := by decide +kernel
abbrev cX7_init : ByteArray := prog_9_method_1_code
def yX7_init : MethodName := ⟨RX7, "<init>", "()V"⟩
abbrev cX7_clear : ByteArray := prog_9_method_2_code
def yX7_clear : MethodName := ⟨RX7, "clear", "()V"⟩
abbrev cX7_add : ByteArray := prog_9_method_3_code
def yX7_add : MethodName := ⟨RX7, "add", "(IIII)V"⟩
abbrev cX7_spanOfAll : ByteArray := prog_9_method_4_code
def yX7_spanOfAll : MethodName := ⟨RX7, "spanOfAll", "()I"⟩
abbrev cX7_shareByte : ByteArray := prog_9_method_5_code
def yX7_shareByte : MethodName := ⟨RX7, "shareByte", "(JJ)Z"⟩
abbrev cX7_fitWith : ByteArray := prog_9_method_6_code
def yX7_fitWith : MethodName := ⟨RX7, "fitWith", "(I)Z"⟩
abbrev cX7_placeOf : ByteArray := prog_9_method_7_code
def yX7_placeOf : MethodName := ⟨RX7, "placeOf", "(II)I"⟩
abbrev cX7_pointerBits : ByteArray := prog_9_method_8_code
def yX7_pointerBits : MethodName := ⟨RX7, "pointerBits", "(LChainLoader$Row;II)J"⟩
def RX8 : String := "ChainLoader$Told"
def TX8 : u_T := fun k => match k with
  | 0 => ("ChainLoader$Told", "base", "I", false)
  | 1 => ("ChainLoader$Told", "page", "I", false)
  | 2 => ("ChainLoader$Told", "segments", "LChainLoader$Names;", true)
  | 3 => ("ChainLoader$Told", "segmentBytes", "[I", true)
  | 4 => ("ChainLoader$Told", "segmentAllowed", "[I", true)
  | 5 => ("ChainLoader$Told", "contents", "[B", true)
  | 6 => ("ChainLoader$Told", "sections", "LChainLoader$Names;", true)
  | 7 => ("ChainLoader$Told", "sectionSegment", "[I", true)
  | 8 => ("ChainLoader$Told", "sectionPlace", "[I", true)
  | 9 => ("ChainLoader$Told", "sectionBytes", "[I", true)
  | 10 => ("ChainLoader$Told", "symbols", "LChainLoader$Names;", true)
  | 11 => ("ChainLoader$Told", "symbolSection", "[I", true)
  | 12 => ("ChainLoader$Told", "symbolPlace", "[I", true)
  | 13 => ("ChainLoader$Told", "imports", "LChainLoader$Names;", true)
  | 14 => ("ChainLoader$Told", "importLibrary", "[I", true)
  | 15 => ("ChainLoader$Told", "importWeak", "[Z", true)
  | 16 => ("ChainLoader$Told", "pointerThere", "[Z", true)
  | 17 => ("ChainLoader$Told", "pointerBits", "[J", true)
  | _ => ("ChainLoader$Told", "pointers", "I", false)
def tyX8 : Nat → FieldType := fun k => match k with
  | 0 => .int
  | 1 => .int
  | 2 => .object "ChainLoader$Names"
  | 3 => .array .int
  | 4 => .array .int
  | 5 => .array .byte
  | 6 => .object "ChainLoader$Names"
  | 7 => .array .int
  | 8 => .array .int
  | 9 => .array .int
  | 10 => .object "ChainLoader$Names"
  | 11 => .array .int
  | 12 => .array .int
  | 13 => .object "ChainLoader$Names"
  | 14 => .array .int
  | 15 => .array .boolean
  | 16 => .array .boolean
  | 17 => .array .long
  | _ => .int
theorem nmX8 : ∀ a, a < 19 → ∀ b, b < 19 → a ≠ b → (TX8 a).2.1 ≠ (TX8 b).2.1 := by decide +kernel
theorem tyX8_ok : ∀ k, k < 19 → parseFieldDescriptor (TX8 k).2.2.1 = some (tyX8 k) := by decide +kernel
abbrev cX8_init : ByteArray := prog_10_method_1_code
def yX8_init : MethodName := ⟨RX8, "<init>", "()V"⟩
abbrev cX8_forget : ByteArray := prog_10_method_2_code
def yX8_forget : MethodName := ⟨RX8, "forget", "(II)V"⟩
abbrev cX8_addSegment : ByteArray := prog_10_method_3_code
def yX8_addSegment : MethodName := ⟨RX8, "addSegment", "(LChainLoader$Row;II)I"⟩
abbrev cX8_setContents : ByteArray := prog_10_method_4_code
def yX8_setContents : MethodName := ⟨RX8, "setContents", "(LChainLoader$Row;II)Z"⟩
abbrev cX8_addSection : ByteArray := prog_10_method_5_code
def yX8_addSection : MethodName := ⟨RX8, "addSection", "(LChainLoader$Row;III)I"⟩
abbrev cX8_addSymbol : ByteArray := prog_10_method_6_code
def yX8_addSymbol : MethodName := ⟨RX8, "addSymbol", "(LChainLoader$Row;II)I"⟩
abbrev cX8_addImport : ByteArray := prog_10_method_7_code
def yX8_addImport : MethodName := ⟨RX8, "addImport", "(LChainLoader$Row;IZ)I"⟩
abbrev cX8_setPointer : ByteArray := prog_10_method_8_code
def yX8_setPointer : MethodName := ⟨RX8, "setPointer", "(IIJ)Z"⟩
abbrev cX8_removePointer : ByteArray := prog_10_method_9_code
def yX8_removePointer : MethodName := ⟨RX8, "removePointer", "(II)Z"⟩
abbrev cX8_hasRoom : ByteArray := prog_10_method_10_code
def yX8_hasRoom : MethodName := ⟨RX8, "hasRoom", "(II)Z"⟩
abbrev cX8_hasPointer : ByteArray := prog_10_method_11_code
def yX8_hasPointer : MethodName := ⟨RX8, "hasPointer", "(II)Z"⟩
abbrev cX8_slot : ByteArray := prog_10_method_12_code
def yX8_slot : MethodName := ⟨RX8, "slot", "(II)I"⟩
abbrev cX8_bitsAt : ByteArray := prog_10_method_13_code
def yX8_bitsAt : MethodName := ⟨RX8, "bitsAt", "(II)J"⟩
abbrev cX8_firstPointer : ByteArray := prog_10_method_14_code
def yX8_firstPointer : MethodName := ⟨RX8, "firstPointer", "(III)I"⟩
abbrev cX8_spanOf : ByteArray := prog_10_method_15_code
def yX8_spanOf : MethodName := ⟨RX8, "spanOf", "(I)I"⟩
abbrev cX8_addressOf : ByteArray := prog_10_method_16_code
def yX8_addressOf : MethodName := ⟨RX8, "addressOf", "(I)I"⟩
abbrev cX8_sectionsOf : ByteArray := prog_10_method_17_code
def yX8_sectionsOf : MethodName := ⟨RX8, "sectionsOf", "(I)I"⟩
def RX9 : String := "ChainLoader$Visits"
def TX9 : u_T := fun k => match k with
  | 0 => ("ChainLoader$Visits", "address", "[I", true)
  | 1 => ("ChainLoader$Visits", "bits", "[J", true)
  | _ => ("ChainLoader$Visits", "total", "I", false)
def tyX9 : Nat → FieldType := fun k => match k with
  | 0 => .array .int
  | 1 => .array .long
  | _ => .int
theorem nmX9 : ∀ a, a < 3 → ∀ b, b < 3 → a ≠ b → (TX9 a).2.1 ≠ (TX9 b).2.1 := by decide +kernel
theorem tyX9_ok : ∀ k, k < 3 → parseFieldDescriptor (TX9 k).2.2.1 = some (tyX9 k) := by decide +kernel
abbrev cX9_init : ByteArray := prog_11_method_1_code
def yX9_init : MethodName := ⟨RX9, "<init>", "()V"⟩
abbrev cX9_clear : ByteArray := prog_11_method_2_code
def yX9_clear : MethodName := ⟨RX9, "clear", "()V"⟩
abbrev cX9_has : ByteArray := prog_11_method_3_code
def yX9_has : MethodName := ⟨RX9, "has", "(I)Z"⟩
abbrev cX9_add : ByteArray := prog_11_method_4_code
def yX9_add : MethodName := ⟨RX9, "add", "(IJ)V"⟩
abbrev cX9_isBind : ByteArray := prog_11_method_5_code
def yX9_isBind : MethodName := ⟨RX9, "isBind", "(J)Z"⟩
abbrev cX9_nextOf : ByteArray := prog_11_method_6_code
def yX9_nextOf : MethodName := ⟨RX9, "nextOf", "(J)I"⟩
abbrev cX9_subjectOf : ByteArray := prog_11_method_7_code
def yX9_subjectOf : MethodName := ⟨RX9, "subjectOf", "(J)J"⟩
abbrev cX9_extraOf : ByteArray := prog_11_method_8_code
def yX9_extraOf : MethodName := ⟨RX9, "extraOf", "(J)J"⟩
def RX10 : String := "ChainLoader$Writer"
def TX10 : u_T := fun k => match k with
  | 0 => ("ChainLoader$Writer", "told", "LChainLoader$Told;", true)
  | 1 => ("ChainLoader$Writer", "image", "LChainLoader$Row;", true)
  | 2 => ("ChainLoader$Writer", "segmentPlace", "[I", true)
  | 3 => ("ChainLoader$Writer", "pagesPlace", "[I", true)
  | 4 => ("ChainLoader$Writer", "commandBytes", "I", false)
  | 5 => ("ChainLoader$Writer", "fixups", "I", false)
  | 6 => ("ChainLoader$Writer", "fixupBytes", "I", false)
  | 7 => ("ChainLoader$Writer", "importsPlace", "I", false)
  | 8 => ("ChainLoader$Writer", "namesPlace", "I", false)
  | 9 => ("ChainLoader$Writer", "symbols", "I", false)
  | _ => ("ChainLoader$Writer", "strings", "I", false)
def tyX10 : Nat → FieldType := fun k => match k with
  | 0 => .object "ChainLoader$Told"
  | 1 => .object "ChainLoader$Row"
  | 2 => .array .int
  | 3 => .array .int
  | 4 => .int
  | 5 => .int
  | 6 => .int
  | 7 => .int
  | 8 => .int
  | 9 => .int
  | _ => .int
theorem nmX10 : ∀ a, a < 11 → ∀ b, b < 11 → a ≠ b → (TX10 a).2.1 ≠ (TX10 b).2.1 := by decide +kernel
theorem tyX10_ok : ∀ k, k < 11 → parseFieldDescriptor (TX10 k).2.2.1 = some (tyX10 k) := by decide +kernel
abbrev cX10_init : ByteArray := prog_12_method_1_code
def yX10_init : MethodName := ⟨RX10, "<init>", "(LChainLoader$Told;LChainLoader$Row;)V"⟩
abbrev cX10_writeAll : ByteArray := prog_12_method_2_code
def yX10_writeAll : MethodName := ⟨RX10, "writeAll", "()V"⟩
abbrev cX10_layOut : ByteArray := prog_12_method_3_code
def yX10_layOut : MethodName := ⟨RX10, "layOut", "()V"⟩
abbrev cX10_layOutFixups : ByteArray := prog_12_method_4_code
def yX10_layOutFixups : MethodName := ⟨RX10, "layOutFixups", "()V"⟩
abbrev cX10_addHead : ByteArray := prog_12_method_5_code
def yX10_addHead : MethodName := ⟨RX10, "addHead", "()V"⟩
abbrev cX10_addSegmentCommand : ByteArray := prog_12_method_6_code
def yX10_addSegmentCommand : MethodName := ⟨RX10, "addSegmentCommand", "(I)V"⟩
abbrev cX10_addSectionsOf : ByteArray := prog_12_method_7_code
def yX10_addSectionsOf : MethodName := ⟨RX10, "addSectionsOf", "(I)V"⟩
abbrev cX10_addTableCommands : ByteArray := prog_12_method_8_code
def yX10_addTableCommands : MethodName := ⟨RX10, "addTableCommands", "()V"⟩
abbrev cX10_addContents : ByteArray := prog_12_method_9_code
def yX10_addContents : MethodName := ⟨RX10, "addContents", "(I)V"⟩
abbrev cX10_threaded : ByteArray := prog_12_method_10_code
def yX10_threaded : MethodName := ⟨RX10, "threaded", "(II)J"⟩
abbrev cX10_addFixups : ByteArray := prog_12_method_11_code
def yX10_addFixups : MethodName := ⟨RX10, "addFixups", "()V"⟩
abbrev cX10_addPages : ByteArray := prog_12_method_12_code
def yX10_addPages : MethodName := ⟨RX10, "addPages", "(I)V"⟩
abbrev cX10_addImports : ByteArray := prog_12_method_13_code
def yX10_addImports : MethodName := ⟨RX10, "addImports", "()V"⟩
abbrev cX10_addSymbols : ByteArray := prog_12_method_14_code
def yX10_addSymbols : MethodName := ⟨RX10, "addSymbols", "()V"⟩
abbrev cX10_addStrings : ByteArray := prog_12_method_15_code
def yX10_addStrings : MethodName := ⟨RX10, "addStrings", "()V"⟩
def RX11 : String := "ChainLoader"
def TX11 : u_T := fun k => match k with
  | 0 => ("ChainLoader", "tape", "LChainLoader$Row;", true)
  | 1 => ("ChainLoader", "image", "LChainLoader$Row;", true)
  | 2 => ("ChainLoader", "told", "LChainLoader$Told;", true)
  | 3 => ("ChainLoader", "writer", "LChainLoader$Writer;", true)
  | 4 => ("ChainLoader", "exports", "LChainLoader$Exports;", true)
  | 5 => ("ChainLoader", "fault", "LChainLoader$Fault;", true)
  | 6 => ("ChainLoader", "commands", "LChainLoader$Commands;", true)
  | 7 => ("ChainLoader", "fixups", "LChainLoader$Fixups;", true)
  | _ => ("ChainLoader", "loaded", "LChainLoader$Loaded;", true)
def tyX11 : Nat → FieldType := fun k => match k with
  | 0 => .object "ChainLoader$Row"
  | 1 => .object "ChainLoader$Row"
  | 2 => .object "ChainLoader$Told"
  | 3 => .object "ChainLoader$Writer"
  | 4 => .object "ChainLoader$Exports"
  | 5 => .object "ChainLoader$Fault"
  | 6 => .object "ChainLoader$Commands"
  | 7 => .object "ChainLoader$Fixups"
  | _ => .object "ChainLoader$Loaded"
theorem nmX11 : ∀ a, a < 9 → ∀ b, b < 9 → a ≠ b → (TX11 a).2.1 ≠ (TX11 b).2.1 := by decide +kernel
theorem tyX11_ok : ∀ k, k < 9 → parseFieldDescriptor (TX11 k).2.2.1 = some (tyX11 k) := by decide +kernel
abbrev cX11_init : ByteArray := prog_1_method_1_code
def yX11_init : MethodName := ⟨RX11, "<init>", "()V"⟩
abbrev cX11_feed : ByteArray := prog_1_method_2_code
def yX11_feed : MethodName := ⟨RX11, "feed", "(IIIII)I"⟩
abbrev cX11_feedNumber : ByteArray := prog_1_method_3_code
def yX11_feedNumber : MethodName := ⟨RX11, "feedNumber", "(I)V"⟩
abbrev cX11_end : ByteArray := prog_1_method_4_code
def yX11_end : MethodName := ⟨RX11, "end", "(I)Z"⟩
abbrev cX11_anew : ByteArray := prog_1_method_5_code
def yX11_anew : MethodName := ⟨RX11, "anew", "(II)Z"⟩
abbrev cX11_segment : ByteArray := prog_1_method_6_code
def yX11_segment : MethodName := ⟨RX11, "segment", "(II)I"⟩
abbrev cX11_fill : ByteArray := prog_1_method_7_code
def yX11_fill : MethodName := ⟨RX11, "fill", "(II)Z"⟩
abbrev cX11_section : ByteArray := prog_1_method_8_code
def yX11_section : MethodName := ⟨RX11, "section", "(III)I"⟩
abbrev cX11_symbol : ByteArray := prog_1_method_9_code
def yX11_symbol : MethodName := ⟨RX11, "symbol", "(II)I"⟩
abbrev cX11_imports : ByteArray := prog_1_method_10_code
def yX11_imports : MethodName := ⟨RX11, "imports", "(IZ)I"⟩
abbrev cX11_rebase : ByteArray := prog_1_method_11_code
def yX11_rebase : MethodName := ⟨RX11, "rebase", "(IIJI)Z"⟩
abbrev cX11_bind : ByteArray := prog_1_method_12_code
def yX11_bind : MethodName := ⟨RX11, "bind", "(IIII)Z"⟩
abbrev cX11_drop : ByteArray := prog_1_method_13_code
def yX11_drop : MethodName := ⟨RX11, "drop", "(II)Z"⟩
abbrev cX11_write : ByteArray := prog_1_method_14_code
def yX11_write : MethodName := ⟨RX11, "write", "()I"⟩
abbrev cX11_image : ByteArray := prog_1_method_15_code
def yX11_image : MethodName := ⟨RX11, "image", "(I)I"⟩
abbrev cX11_damage : ByteArray := prog_1_method_16_code
def yX11_damage : MethodName := ⟨RX11, "damage", "(II)Z"⟩
abbrev cX11_cut : ByteArray := prog_1_method_17_code
def yX11_cut : MethodName := ⟨RX11, "cut", "(I)Z"⟩
abbrev cX11_export : ByteArray := prog_1_method_18_code
def yX11_export : MethodName := ⟨RX11, "export", "(II)Z"⟩
abbrev cX11_load : ByteArray := prog_1_method_19_code
def yX11_load : MethodName := ⟨RX11, "load", "(I)I"⟩
abbrev cX11_place : ByteArray := prog_1_method_20_code
def yX11_place : MethodName := ⟨RX11, "place", "()I"⟩
abbrev cX11_memory : ByteArray := prog_1_method_21_code
def yX11_memory : MethodName := ⟨RX11, "memory", "(I)I"⟩
abbrev cX11_pointer : ByteArray := prog_1_method_22_code
def yX11_pointer : MethodName := ⟨RX11, "pointer", "(I)J"⟩
abbrev cX11_visit : ByteArray := prog_1_method_23_code
def yX11_visit : MethodName := ⟨RX11, "visit", "(II)J"⟩
abbrev cX11_find : ByteArray := prog_1_method_24_code
def yX11_find : MethodName := ⟨RX11, "find", "()I"⟩
abbrev cX11_count : ByteArray := prog_1_method_25_code
def yX11_count : MethodName := ⟨RX11, "count", "(I)I"⟩
abbrev cX11_isByte : ByteArray := prog_1_method_26_code
def yX11_isByte : MethodName := ⟨RX11, "isByte", "(I)Z"⟩
abbrev cX11_isLibrary : ByteArray := prog_1_method_27_code
def yX11_isLibrary : MethodName := ⟨RX11, "isLibrary", "(I)Z"⟩
abbrev cX11_isPage : ByteArray := prog_1_method_28_code
def yX11_isPage : MethodName := ⟨RX11, "isPage", "(I)Z"⟩
abbrev cX11_pagesIn : ByteArray := prog_1_method_29_code
def yX11_pagesIn : MethodName := ⟨RX11, "pagesIn", "(II)I"⟩
abbrev cX11_filledUp : ByteArray := prog_1_method_30_code
def yX11_filledUp : MethodName := ⟨RX11, "filledUp", "(II)I"⟩
def RX12 : String := "ChainLoaderModel"
def TX12 : u_T := fun k => match k with
  | 0 => ("ChainLoaderModel", "thrown", "I", false)
  | 1 => ("ChainLoaderModel", "tape", "[I", true)
  | 2 => ("ChainLoaderModel", "taped", "I", false)
  | 3 => ("ChainLoaderModel", "name", "[I", true)
  | 4 => ("ChainLoaderModel", "base", "I", false)
  | 5 => ("ChainLoaderModel", "page", "I", false)
  | 6 => ("ChainLoaderModel", "segments", "I", false)
  | 7 => ("ChainLoaderModel", "sections", "I", false)
  | 8 => ("ChainLoaderModel", "symbols", "I", false)
  | 9 => ("ChainLoaderModel", "imports", "I", false)
  | 10 => ("ChainLoaderModel", "pointers", "I", false)
  | 11 => ("ChainLoaderModel", "exports", "I", false)
  | 12 => ("ChainLoaderModel", "bytes", "[I", true)
  | 13 => ("ChainLoaderModel", "allowed", "[I", true)
  | 14 => ("ChainLoaderModel", "data", "[I", true)
  | 15 => ("ChainLoaderModel", "sectionOf", "[I", true)
  | 16 => ("ChainLoaderModel", "sectionAt", "[I", true)
  | 17 => ("ChainLoaderModel", "sectionSize", "[I", true)
  | 18 => ("ChainLoaderModel", "symbolIn", "[I", true)
  | 19 => ("ChainLoaderModel", "symbolAt", "[I", true)
  | 20 => ("ChainLoaderModel", "library", "[I", true)
  | 21 => ("ChainLoaderModel", "weak", "[Z", true)
  | 22 => ("ChainLoaderModel", "pointerOf", "[I", true)
  | 23 => ("ChainLoaderModel", "pointerAt", "[I", true)
  | 24 => ("ChainLoaderModel", "pointerBy", "[I", true)
  | 25 => ("ChainLoaderModel", "pointerTo", "[J", true)
  | 26 => ("ChainLoaderModel", "isBind", "[Z", true)
  | 27 => ("ChainLoaderModel", "exportOf", "[I", true)
  | 28 => ("ChainLoaderModel", "exportAt", "[I", true)
  | 29 => ("ChainLoaderModel", "image", "[I", true)
  | 30 => ("ChainLoaderModel", "size", "I", false)
  | 31 => ("ChainLoaderModel", "w", "I", false)
  | 32 => ("ChainLoaderModel", "bytesAt", "[I", true)
  | 33 => ("ChainLoaderModel", "fixupsAt", "I", false)
  | 34 => ("ChainLoaderModel", "fixupsSize", "I", false)
  | 35 => ("ChainLoaderModel", "symbolsAt", "I", false)
  | 36 => ("ChainLoaderModel", "stringsAt", "I", false)
  | 37 => ("ChainLoaderModel", "stringsSize", "I", false)
  | 38 => ("ChainLoaderModel", "pagesAt", "[I", true)
  | 39 => ("ChainLoaderModel", "fault", "I", false)
  | 40 => ("ChainLoaderModel", "place", "J", false)
  | 41 => ("ChainLoaderModel", "found", "I", false)
  | 42 => ("ChainLoaderModel", "parts", "I", false)
  | 43 => ("ChainLoaderModel", "spans", "I", false)
  | 44 => ("ChainLoaderModel", "address", "[J", true)
  | 45 => ("ChainLoaderModel", "span", "[J", true)
  | 46 => ("ChainLoaderModel", "from", "[J", true)
  | 47 => ("ChainLoaderModel", "there", "[J", true)
  | 48 => ("ChainLoaderModel", "hasSymbols", "Z", false)
  | 49 => ("ChainLoaderModel", "hasChains", "Z", false)
  | 50 => ("ChainLoaderModel", "symbolPlace", "J", false)
  | 51 => ("ChainLoaderModel", "symbolMany", "J", false)
  | 52 => ("ChainLoaderModel", "stringPlace", "J", false)
  | 53 => ("ChainLoaderModel", "stringSize", "J", false)
  | 54 => ("ChainLoaderModel", "fixups", "J", false)
  | 55 => ("ChainLoaderModel", "fixupEnd", "J", false)
  | 56 => ("ChainLoaderModel", "importPlace", "J", false)
  | 57 => ("ChainLoaderModel", "importMany", "J", false)
  | 58 => ("ChainLoaderModel", "namePlace", "J", false)
  | 59 => ("ChainLoaderModel", "visits", "I", false)
  | 60 => ("ChainLoaderModel", "visitWord", "[J", true)
  | 61 => ("ChainLoaderModel", "visitOf", "[I", true)
  | 62 => ("ChainLoaderModel", "visitAt", "[I", true)
  | 63 => ("ChainLoaderModel", "loaded", "I", false)
  | 64 => ("ChainLoaderModel", "loadedVisits", "I", false)
  | 65 => ("ChainLoaderModel", "loadedSymbols", "I", false)
  | 66 => ("ChainLoaderModel", "loadedAt", "[J", true)
  | 67 => ("ChainLoaderModel", "loadedSpan", "[J", true)
  | 68 => ("ChainLoaderModel", "loadedFrom", "[I", true)
  | 69 => ("ChainLoaderModel", "memory", "[I", true)
  | 70 => ("ChainLoaderModel", "seenAt", "[J", true)
  | 71 => ("ChainLoaderModel", "seenTo", "[J", true)
  | 72 => ("ChainLoaderModel", "seenBy", "[I", true)
  | 73 => ("ChainLoaderModel", "seenBind", "[Z", true)
  | 74 => ("ChainLoaderModel", "letters", "[I", true)
  | 75 => ("ChainLoaderModel", "nameFrom", "[I", true)
  | 76 => ("ChainLoaderModel", "nameLong", "[I", true)
  | _ => ("ChainLoaderModel", "symbolNow", "[I", true)
def tyX12 : Nat → FieldType := fun k => match k with
  | 0 => .int
  | 1 => .array .int
  | 2 => .int
  | 3 => .array .int
  | 4 => .int
  | 5 => .int
  | 6 => .int
  | 7 => .int
  | 8 => .int
  | 9 => .int
  | 10 => .int
  | 11 => .int
  | 12 => .array .int
  | 13 => .array .int
  | 14 => .array .int
  | 15 => .array .int
  | 16 => .array .int
  | 17 => .array .int
  | 18 => .array .int
  | 19 => .array .int
  | 20 => .array .int
  | 21 => .array .boolean
  | 22 => .array .int
  | 23 => .array .int
  | 24 => .array .int
  | 25 => .array .long
  | 26 => .array .boolean
  | 27 => .array .int
  | 28 => .array .int
  | 29 => .array .int
  | 30 => .int
  | 31 => .int
  | 32 => .array .int
  | 33 => .int
  | 34 => .int
  | 35 => .int
  | 36 => .int
  | 37 => .int
  | 38 => .array .int
  | 39 => .int
  | 40 => .long
  | 41 => .int
  | 42 => .int
  | 43 => .int
  | 44 => .array .long
  | 45 => .array .long
  | 46 => .array .long
  | 47 => .array .long
  | 48 => .boolean
  | 49 => .boolean
  | 50 => .long
  | 51 => .long
  | 52 => .long
  | 53 => .long
  | 54 => .long
  | 55 => .long
  | 56 => .long
  | 57 => .long
  | 58 => .long
  | 59 => .int
  | 60 => .array .long
  | 61 => .array .int
  | 62 => .array .int
  | 63 => .int
  | 64 => .int
  | 65 => .int
  | 66 => .array .long
  | 67 => .array .long
  | 68 => .array .int
  | 69 => .array .int
  | 70 => .array .long
  | 71 => .array .long
  | 72 => .array .int
  | 73 => .array .boolean
  | 74 => .array .int
  | 75 => .array .int
  | 76 => .array .int
  | _ => .array .int
theorem nmX12 : ∀ a, a < 78 → ∀ b, b < 78 → a ≠ b → (TX12 a).2.1 ≠ (TX12 b).2.1 := by decide +kernel
theorem tyX12_ok : ∀ k, k < 78 → parseFieldDescriptor (TX12 k).2.2.1 = some (tyX12 k) := by decide +kernel
abbrev cX12_init : ByteArray := prog_14_method_1_code
def yX12_init : MethodName := ⟨RX12, "<init>", "()V"⟩
abbrev cX12_thrown : ByteArray := prog_14_method_2_code
def yX12_thrown : MethodName := ⟨RX12, "thrown", "()I"⟩
abbrev cX12_come : ByteArray := prog_14_method_3_code
def yX12_come : MethodName := ⟨RX12, "come", "(I)V"⟩
abbrev cX12_feed : ByteArray := prog_14_method_4_code
def yX12_feed : MethodName := ⟨RX12, "feed", "(IIIII)I"⟩
abbrev cX12_end : ByteArray := prog_14_method_5_code
def yX12_end : MethodName := ⟨RX12, "end", "(I)Z"⟩
abbrev cX12_takes : ByteArray := prog_14_method_6_code
def yX12_takes : MethodName := ⟨RX12, "takes", "(I)Z"⟩
abbrev cX12_longOf : ByteArray := prog_14_method_7_code
def yX12_longOf : MethodName := ⟨RX12, "longOf", "(I)I"⟩
abbrev cX12_isPage : ByteArray := prog_14_method_8_code
def yX12_isPage : MethodName := ⟨RX12, "isPage", "(J)Z"⟩
abbrev cX12_anew : ByteArray := prog_14_method_9_code
def yX12_anew : MethodName := ⟨RX12, "anew", "(II)Z"⟩
abbrev cX12_segment : ByteArray := prog_14_method_10_code
def yX12_segment : MethodName := ⟨RX12, "segment", "(II)I"⟩
abbrev cX12_isSegment : ByteArray := prog_14_method_11_code
def yX12_isSegment : MethodName := ⟨RX12, "isSegment", "(I)Z"⟩
abbrev cX12_fill : ByteArray := prog_14_method_12_code
def yX12_fill : MethodName := ⟨RX12, "fill", "(II)Z"⟩
abbrev cX12_section : ByteArray := prog_14_method_13_code
def yX12_section : MethodName := ⟨RX12, "section", "(III)I"⟩
abbrev cX12_symbol : ByteArray := prog_14_method_14_code
def yX12_symbol : MethodName := ⟨RX12, "symbol", "(II)I"⟩
abbrev cX12_imports : ByteArray := prog_14_method_15_code
def yX12_imports : MethodName := ⟨RX12, "imports", "(IZ)I"⟩
abbrev cX12_pointerAtPlace : ByteArray := prog_14_method_16_code
def yX12_pointerAtPlace : MethodName := ⟨RX12, "pointerAtPlace", "(II)I"⟩
abbrev cX12_gone : ByteArray := prog_14_method_17_code
def yX12_gone : MethodName := ⟨RX12, "gone", "(I)V"⟩
abbrev cX12_move : ByteArray := prog_14_method_18_code
def yX12_move : MethodName := ⟨RX12, "move", "(II)V"⟩
abbrev cX12_points : ByteArray := prog_14_method_19_code
def yX12_points : MethodName := ⟨RX12, "points", "(IIJIZ)Z"⟩
abbrev cX12_rebase : ByteArray := prog_14_method_20_code
def yX12_rebase : MethodName := ⟨RX12, "rebase", "(IIJI)Z"⟩
abbrev cX12_bind : ByteArray := prog_14_method_21_code
def yX12_bind : MethodName := ⟨RX12, "bind", "(IIII)Z"⟩
abbrev cX12_drop : ByteArray := prog_14_method_22_code
def yX12_drop : MethodName := ⟨RX12, "drop", "(II)Z"⟩
abbrev cX12_put : ByteArray := prog_14_method_23_code
def yX12_put : MethodName := ⟨RX12, "put", "(JI)V"⟩
abbrev cX12_putFours : ByteArray := prog_14_method_24_code
def yX12_putFours : MethodName := ⟨RX12, "putFours", "(JJJJ)V"⟩
abbrev cX12_putName : ByteArray := prog_14_method_25_code
def yX12_putName : MethodName := ⟨RX12, "putName", "(II)V"⟩
abbrev cX12_even : ByteArray := prog_14_method_26_code
def yX12_even : MethodName := ⟨RX12, "even", "(I)V"⟩
abbrev cX12_spanOf : ByteArray := prog_14_method_27_code
def yX12_spanOf : MethodName := ⟨RX12, "spanOf", "(I)I"⟩
abbrev cX12_addressOf : ByteArray := prog_14_method_28_code
def yX12_addressOf : MethodName := ⟨RX12, "addressOf", "(I)I"⟩
abbrev cX12_sectionsOf : ByteArray := prog_14_method_29_code
def yX12_sectionsOf : MethodName := ⟨RX12, "sectionsOf", "(I)I"⟩
abbrev cX12_write : ByteArray := prog_14_method_30_code
def yX12_write : MethodName := ⟨RX12, "write", "()I"⟩
abbrev cX12_writePointers : ByteArray := prog_14_method_31_code
def yX12_writePointers : MethodName := ⟨RX12, "writePointers", "()V"⟩
abbrev cX12_hasPointers : ByteArray := prog_14_method_32_code
def yX12_hasPointers : MethodName := ⟨RX12, "hasPointers", "(I)Z"⟩
abbrev cX12_writeFixups : ByteArray := prog_14_method_33_code
def yX12_writeFixups : MethodName := ⟨RX12, "writeFixups", "()V"⟩
abbrev cX12_writeCommands : ByteArray := prog_14_method_34_code
def yX12_writeCommands : MethodName := ⟨RX12, "writeCommands", "(I)V"⟩
abbrev cX12_image : ByteArray := prog_14_method_35_code
def yX12_image : MethodName := ⟨RX12, "image", "(I)I"⟩
abbrev cX12_damage : ByteArray := prog_14_method_36_code
def yX12_damage : MethodName := ⟨RX12, "damage", "(II)Z"⟩
abbrev cX12_cut : ByteArray := prog_14_method_37_code
def yX12_cut : MethodName := ⟨RX12, "cut", "(I)Z"⟩
abbrev cX12_export : ByteArray := prog_14_method_38_code
def yX12_export : MethodName := ⟨RX12, "export", "(II)Z"⟩
abbrev cX12_isTaped : ByteArray := prog_14_method_39_code
def yX12_isTaped : MethodName := ⟨RX12, "isTaped", "(II)Z"⟩
abbrev cX12_four : ByteArray := prog_14_method_40_code
def yX12_four : MethodName := ⟨RX12, "four", "(J)J"⟩
abbrev cX12_two : ByteArray := prog_14_method_41_code
def yX12_two : MethodName := ⟨RX12, "two", "(J)I"⟩
abbrev cX12_eight : ByteArray := prog_14_method_42_code
def yX12_eight : MethodName := ⟨RX12, "eight", "(J)J"⟩
abbrev cX12_bad : ByteArray := prog_14_method_43_code
def yX12_bad : MethodName := ⟨RX12, "bad", "(IJ)Z"⟩
abbrev cX12_isNumber : ByteArray := prog_14_method_44_code
def yX12_isNumber : MethodName := ⟨RX12, "isNumber", "(J)Z"⟩
abbrev cX12_load : ByteArray := prog_14_method_45_code
def yX12_load : MethodName := ⟨RX12, "load", "(I)I"⟩
abbrev cX12_reads : ByteArray := prog_14_method_46_code
def yX12_reads : MethodName := ⟨RX12, "reads", "()Z"⟩
abbrev cX12_readSegment : ByteArray := prog_14_method_47_code
def yX12_readSegment : MethodName := ⟨RX12, "readSegment", "(JJ)Z"⟩
abbrev cX12_readTable : ByteArray := prog_14_method_48_code
def yX12_readTable : MethodName := ⟨RX12, "readTable", "(JJ)Z"⟩
abbrev cX12_readChains : ByteArray := prog_14_method_49_code
def yX12_readChains : MethodName := ⟨RX12, "readChains", "(JJ)Z"⟩
abbrev cX12_zero : ByteArray := prog_14_method_50_code
def yX12_zero : MethodName := ⟨RX12, "zero", "(JJ)J"⟩
abbrev cX12_readsSymbols : ByteArray := prog_14_method_51_code
def yX12_readsSymbols : MethodName := ⟨RX12, "readsSymbols", "()Z"⟩
abbrev cX12_readsFixups : ByteArray := prog_14_method_52_code
def yX12_readsFixups : MethodName := ⟨RX12, "readsFixups", "(I)Z"⟩
abbrev cX12_readsPages : ByteArray := prog_14_method_53_code
def yX12_readsPages : MethodName := ⟨RX12, "readsPages", "(IJJ)Z"⟩
abbrev cX12_wordOf : ByteArray := prog_14_method_54_code
def yX12_wordOf : MethodName := ⟨RX12, "wordOf", "(IJ)J"⟩
abbrev cX12_walks : ByteArray := prog_14_method_55_code
def yX12_walks : MethodName := ⟨RX12, "walks", "(IIIJ)Z"⟩
abbrev cX12_isWithin : ByteArray := prog_14_method_56_code
def yX12_isWithin : MethodName := ⟨RX12, "isWithin", "(IIII)Z"⟩
abbrev cX12_importOf : ByteArray := prog_14_method_57_code
def yX12_importOf : MethodName := ⟨RX12, "importOf", "(J)J"⟩
abbrev cX12_isWeakImport : ByteArray := prog_14_method_58_code
def yX12_isWeakImport : MethodName := ⟨RX12, "isWeakImport", "(J)Z"⟩
abbrev cX12_exportFor : ByteArray := prog_14_method_59_code
def yX12_exportFor : MethodName := ⟨RX12, "exportFor", "(J)I"⟩
abbrev cX12_fits : ByteArray := prog_14_method_60_code
def yX12_fits : MethodName := ⟨RX12, "fits", "(I)Z"⟩
abbrev cX12_keeps : ByteArray := prog_14_method_61_code
def yX12_keeps : MethodName := ⟨RX12, "keeps", "(I)V"⟩
abbrev cX12_place : ByteArray := prog_14_method_62_code
def yX12_place : MethodName := ⟨RX12, "place", "()I"⟩
abbrev cX12_holds : ByteArray := prog_14_method_63_code
def yX12_holds : MethodName := ⟨RX12, "holds", "(JI)I"⟩
abbrev cX12_byteAt : ByteArray := prog_14_method_64_code
def yX12_byteAt : MethodName := ⟨RX12, "byteAt", "(IJ)I"⟩
abbrev cX12_memory : ByteArray := prog_14_method_65_code
def yX12_memory : MethodName := ⟨RX12, "memory", "(I)I"⟩
abbrev cX12_pointer : ByteArray := prog_14_method_66_code
def yX12_pointer : MethodName := ⟨RX12, "pointer", "(I)J"⟩
abbrev cX12_visit : ByteArray := prog_14_method_67_code
def yX12_visit : MethodName := ⟨RX12, "visit", "(II)J"⟩
abbrev cX12_find : ByteArray := prog_14_method_68_code
def yX12_find : MethodName := ⟨RX12, "find", "()I"⟩
abbrev cX12_count : ByteArray := prog_14_method_69_code
def yX12_count : MethodName := ⟨RX12, "count", "(I)I"⟩
def RJ9 : String := "java/lang/Math"
def TJ9 : u_T := fun k => match k with
  | _ => ("", "", "", false)
def tyJ9 : Nat → FieldType := fun k => match k with
  | _ => .int
theorem nmJ9 : ∀ a, a < 0 → ∀ b, b < 0 → a ≠ b → (TJ9 a).2.1 ≠ (TJ9 b).2.1 := by decide +kernel
theorem tyJ9_ok : ∀ k, k < 0 → parseFieldDescriptor (TJ9 k).2.2.1 = some (tyJ9 k) := by decide +kernel
abbrev cJ9_max_f86c9 : ByteArray := prog_16_method_66_code
def yJ9_max_f86c9 : MethodName := ⟨RJ9, "max", "(JJ)J"⟩
abbrev cJ9_min_7cf53 : ByteArray := prog_16_method_69_code
def yJ9_min_7cf53 : MethodName := ⟨RJ9, "min", "(II)I"⟩
abbrev cJ9_min_f86c9 : ByteArray := prog_16_method_70_code
def yJ9_min_f86c9 : MethodName := ⟨RJ9, "min", "(JJ)J"⟩
def RJ10 : String := "java/lang/System"
def TJ10 : u_T := fun k => match k with
  | _ => ("", "", "", false)
def tyJ10 : Nat → FieldType := fun k => match k with
  | _ => .int
theorem nmJ10 : ∀ a, a < 0 → ∀ b, b < 0 → a ≠ b → (TJ10 a).2.1 ≠ (TJ10 b).2.1 := by decide +kernel
theorem tyJ10_ok : ∀ k, k < 0 → parseFieldDescriptor (TJ10 k).2.2.1 = some (tyJ10 k) := by decide +kernel
def RJ7 : String := "java/util/Arrays"
def TJ7 : u_T := fun k => match k with
  | _ => ("", "", "", false)
def tyJ7 : Nat → FieldType := fun k => match k with
  | _ => .int
theorem nmJ7 : ∀ a, a < 0 → ∀ b, b < 0 → a ≠ b → (TJ7 a).2.1 ≠ (TJ7 b).2.1 := by decide +kernel
theorem tyJ7_ok : ∀ k, k < 0 → parseFieldDescriptor (TJ7 k).2.2.1 = some (tyJ7 k) := by decide +kernel
abbrev cJ7_rangeCheck_23922 : ByteArray := prog_20_method_30_code
def yJ7_rangeCheck_23922 : MethodName := ⟨RJ7, "rangeCheck", "(III)V"⟩
abbrev cJ7_fill_eb02e : ByteArray := prog_20_method_110_code
def yJ7_fill_eb02e : MethodName := ⟨RJ7, "fill", "([BIIB)V"⟩
def RL : String := "ChainLoaderLaw"
abbrev cL_pointer : ByteArray := method_3_code
def yL_pointer : MethodName := ⟨RL, "pointer", "(LChainLoader;I[J)I"⟩
abbrev cL_visit : ByteArray := method_4_code
def yL_visit : MethodName := ⟨RL, "visit", "(LChainLoader;II[J)I"⟩
abbrev cL_law : ByteArray := code
def yL_law : MethodName := ⟨RL, "law", "([I)Z"⟩
abbrev vwCl : List vw_C := [(RX0, TX0, 12), (RX1, TX1, 3), (RX2, TX2, 2), (RX3, TX3, 13), (RX4, TX4, 7), (RX5, TX5, 3), (RX6, TX6, 2), (RX7, TX7, 5), (RX8, TX8, 19), (RX9, TX9, 3), (RX10, TX10, 11), (RX11, TX11, 9), (RX12, TX12, 78)]
def GT : List Cond := lw_tbl.filter goodWord
theorem GT_ix (i : Nat) {w : Cond} (h : lw_tbl[i]? = some w) (hg : goodWord w = true) : w ∈ GT := List.mem_filter.mpr ⟨List.mem_of_getElem? h, hg⟩
theorem GT_rs (ws : List Cond) (ps : List Nat) (hp : ws = ps.filterMap (fun i => lw_tbl[i]?)) (h : ws.all goodWord = true) : ∀ w ∈ ws, w ∈ GT := by
  intro w hw
  have h1 := List.all_eq_true.mp h w hw
  rw [hp] at hw
  obtain ⟨i, -, hi⟩ := List.mem_filterMap.mp hw
  exact List.mem_filter.mpr ⟨List.mem_of_getElem? hi, h1⟩
theorem GTi1 {w : Cond} (h : w ∈ tables_1_1) : w ∈ tables_1 := List.mem_append_left _ h
theorem GT1 (i : Nat) {w : Cond} (h : tables_1_1[i]? = some w) (hg : goodWord w = true) : w ∈ GT := List.mem_filter.mpr ⟨List.mem_append_right _ (GTi1 (List.mem_of_getElem? h)), hg⟩
theorem GTi2 {w : Cond} (h : w ∈ tables_1_2) : w ∈ tables_1 := List.mem_append_right _ (List.mem_append_left _ h)
theorem GT2 (i : Nat) {w : Cond} (h : tables_1_2[i]? = some w) (hg : goodWord w = true) : w ∈ GT := List.mem_filter.mpr ⟨List.mem_append_right _ (GTi2 (List.mem_of_getElem? h)), hg⟩
theorem GTi3 {w : Cond} (h : w ∈ tables_1_3) : w ∈ tables_1 := List.mem_append_right _ (List.mem_append_right _ (List.mem_append_left _ h))
theorem GT3 (i : Nat) {w : Cond} (h : tables_1_3[i]? = some w) (hg : goodWord w = true) : w ∈ GT := List.mem_filter.mpr ⟨List.mem_append_right _ (GTi3 (List.mem_of_getElem? h)), hg⟩
theorem GTi4 {w : Cond} (h : w ∈ tables_1_4) : w ∈ tables_1 := List.mem_append_right _ (List.mem_append_right _ (List.mem_append_right _ (List.mem_append_left _ h)))
theorem GT4 (i : Nat) {w : Cond} (h : tables_1_4[i]? = some w) (hg : goodWord w = true) : w ∈ GT := List.mem_filter.mpr ⟨List.mem_append_right _ (GTi4 (List.mem_of_getElem? h)), hg⟩
theorem GTi5 {w : Cond} (h : w ∈ tables_1_5) : w ∈ tables_1 := List.mem_append_right _ (List.mem_append_right _ (List.mem_append_right _ (List.mem_append_right _ (List.mem_append_left _ h))))
theorem GT5 (i : Nat) {w : Cond} (h : tables_1_5[i]? = some w) (hg : goodWord w = true) : w ∈ GT := List.mem_filter.mpr ⟨List.mem_append_right _ (GTi5 (List.mem_of_getElem? h)), hg⟩
theorem GTi6 {w : Cond} (h : w ∈ tables_1_6) : w ∈ tables_1 := List.mem_append_right _ (List.mem_append_right _ (List.mem_append_right _ (List.mem_append_right _ (List.mem_append_right _ (List.mem_append_left _ h)))))
theorem GT6 (i : Nat) {w : Cond} (h : tables_1_6[i]? = some w) (hg : goodWord w = true) : w ∈ GT := List.mem_filter.mpr ⟨List.mem_append_right _ (GTi6 (List.mem_of_getElem? h)), hg⟩
theorem GTi7 {w : Cond} (h : w ∈ tables_1_7) : w ∈ tables_1 := List.mem_append_right _ (List.mem_append_right _ (List.mem_append_right _ (List.mem_append_right _ (List.mem_append_right _ (List.mem_append_right _ (List.mem_append_left _ h))))))
theorem GT7 (i : Nat) {w : Cond} (h : tables_1_7[i]? = some w) (hg : goodWord w = true) : w ∈ GT := List.mem_filter.mpr ⟨List.mem_append_right _ (GTi7 (List.mem_of_getElem? h)), hg⟩
theorem GTi8 {w : Cond} (h : w ∈ tables_1_8) : w ∈ tables_1 := List.mem_append_right _ (List.mem_append_right _ (List.mem_append_right _ (List.mem_append_right _ (List.mem_append_right _ (List.mem_append_right _ (List.mem_append_right _ (h)))))))
theorem GT8 (i : Nat) {w : Cond} (h : tables_1_8[i]? = some w) (hg : goodWord w = true) : w ∈ GT := List.mem_filter.mpr ⟨List.mem_append_right _ (GTi8 (List.mem_of_getElem? h)), hg⟩
theorem GTs (i : Nat) {w : Cond} (h : (k2_sels lw_privs)[i]? = some w) (hg : goodWord w = true) : w ∈ GT := List.mem_filter.mpr ⟨List.mem_append_left _ (List.mem_of_getElem? h), hg⟩
theorem ing0 : ∀ w ∈ u_ws RX0 TX0 12, w ∈ GT := GT_rs _ [386, 388, 390, 392, 394, 396, 398, 400, 402, 404, 406, 408] (by decide +kernel) (by decide +kernel)
theorem ing1 : ∀ w ∈ u_ws RX1 TX1 3, w ∈ GT := GT_rs _ [300, 302, 304] (by decide +kernel) (by decide +kernel)
theorem ing2 : ∀ w ∈ u_ws RX2 TX2 2, w ∈ GT := GT_rs _ [321, 323] (by decide +kernel) (by decide +kernel)
theorem ing3 : ∀ w ∈ u_ws RX3 TX3 13, w ∈ GT := GT_rs _ [453, 455, 457, 459, 461, 463, 465, 467, 469, 471, 473, 475, 477] (by decide +kernel) (by decide +kernel)
theorem ing4 : ∀ w ∈ u_ws RX4 TX4 7, w ∈ GT := GT_rs _ [503, 505, 507, 509, 511, 513, 515] (by decide +kernel) (by decide +kernel)
theorem ing5 : ∀ w ∈ u_ws RX5 TX5 3, w ∈ GT := GT_rs _ [159, 161, 163] (by decide +kernel) (by decide +kernel)
theorem ing6 : ∀ w ∈ u_ws RX6 TX6 2, w ∈ GT := GT_rs _ [130, 132] (by decide +kernel) (by decide +kernel)
theorem ing7 : ∀ w ∈ u_ws RX7 TX7 5, w ∈ GT := GT_rs _ [353, 355, 357, 359, 361] (by decide +kernel) (by decide +kernel)
theorem ing8 : ∀ w ∈ u_ws RX8 TX8 19, w ∈ GT := GT_rs _ [207, 209, 211, 213, 215, 217, 219, 221, 223, 225, 227, 229, 231, 233, 235, 237, 239, 241, 243] (by decide +kernel) (by decide +kernel)
theorem ing9 : ∀ w ∈ u_ws RX9 TX9 3, w ∈ GT := GT_rs _ [432, 434, 436] (by decide +kernel) (by decide +kernel)
theorem ing10 : ∀ w ∈ u_ws RX10 TX10 11, w ∈ GT := GT_rs _ [265, 267, 269, 271, 273, 275, 277, 279, 281, 283, 285] (by decide +kernel) (by decide +kernel)
theorem ing11 : ∀ w ∈ u_ws RX11 TX11 9, w ∈ GT := GT_rs _ [527, 529, 531, 533, 535, 537, 539, 541, 543] (by decide +kernel) (by decide +kernel)
theorem ing12 : ∀ w ∈ u_ws RX12 TX12 78, w ∈ GT := GT_rs _ [1319, 1321, 1323, 1325, 1327, 1329, 1331, 1333, 1335, 1337, 1339, 1341, 1343, 1345, 1347, 1349, 1351, 1353, 1355, 1357, 1359, 1361, 1363, 1365, 1367, 1369, 1371, 1373, 1375, 1377, 1379, 1381, 1383, 1385, 1387, 1389, 1391, 1393, 1395, 1397, 1399, 1401, 1403, 1405, 1407, 1409, 1411, 1413, 1415, 1417, 1419, 1421, 1423, 1425, 1427, 1429, 1431, 1433, 1435, 1437, 1439, 1441, 1443, 1445, 1447, 1449, 1451, 1453, 1455, 1457, 1459, 1461, 1463, 1465, 1467, 1469, 1471, 1473] (by decide +kernel) (by decide +kernel)
end
section
/-! the state: numbers by cell and place -/
abbrev St : Type := (Nat → Nat → Int32) × (Nat → Nat → Int64)
def sI (σ : St) (k j : Nat) (v : Int32) : St := (fun a => if a = k then upd (σ.1 k) j v else σ.1 a, σ.2)
def sJ (σ : St) (k j : Nat) (v : Int64) : St := (σ.1, fun a => if a = k then vp_updL (σ.2 k) j v else σ.2 a)
def sR (σ : St) (k : Nat) (f : Nat → Int32) : St := (fun a => if a = k then f else σ.1 a, σ.2)
abbrev Ce : Type := (Nat → Int32) → (Nat → Int64) → va_E

def cT (h : Nat → Nat) (cy : Nat → ClassId) : List Ce := [(fun x y => .inr (11, [.ref (h 1), .ref (h 3), .ref (h 5), .ref (h 30), .ref (h 33), .ref (h 39), .ref (h 40), .ref (h 46), .ref (h 53)])),
  (fun x y => .inr (6, [.ref (h 2), .int (x 1)])),
  (fun x y => .inl (cy 0, 1040, .inl x)),
  (fun x y => .inr (6, [.ref (h 4), .int (x 1)])),
  (fun x y => .inl (cy 0, 6400, .inl x)),
  (fun x y => .inr (8, [.int (x 0), .int (x 1), .ref (h 6), .ref (h 9), .ref (h 10), .ref (h 11), .ref (h 12), .ref (h 15), .ref (h 16), .ref (h 17), .ref (h 18), .ref (h 21), .ref (h 22), .ref (h 23), .ref (h 26), .ref (h 27), .ref (h 28), .ref (h 29), .int (x 18)])),
  (fun x y => .inr (5, [.ref (h 7), .ref (h 8), .int (x 2)])),
  (fun x y => .inl (cy 0, 64, .inl x)),
  (fun x y => .inl (cy 1, 4, .inl x)),
  (fun x y => .inl (cy 1, 4, .inl x)),
  (fun x y => .inl (cy 1, 4, .inl x)),
  (fun x y => .inl (cy 0, 4096, .inl x)),
  (fun x y => .inr (5, [.ref (h 13), .ref (h 14), .int (x 2)])),
  (fun x y => .inl (cy 0, 128, .inl x)),
  (fun x y => .inl (cy 1, 8, .inl x)),
  (fun x y => .inl (cy 1, 8, .inl x)),
  (fun x y => .inl (cy 1, 8, .inl x)),
  (fun x y => .inl (cy 1, 8, .inl x)),
  (fun x y => .inr (5, [.ref (h 19), .ref (h 20), .int (x 2)])),
  (fun x y => .inl (cy 0, 320, .inl x)),
  (fun x y => .inl (cy 1, 20, .inl x)),
  (fun x y => .inl (cy 1, 20, .inl x)),
  (fun x y => .inl (cy 1, 20, .inl x)),
  (fun x y => .inr (5, [.ref (h 24), .ref (h 25), .int (x 2)])),
  (fun x y => .inl (cy 0, 320, .inl x)),
  (fun x y => .inl (cy 1, 20, .inl x)),
  (fun x y => .inl (cy 1, 20, .inl x)),
  (fun x y => .inl (cy 3, 20, .inl x)),
  (fun x y => .inl (cy 3, 1024, .inl x)),
  (fun x y => .inl (cy 2, 1024, .inr (.inl y))),
  (fun x y => .inr (10, [.ref (h 5), .ref (h 3), .ref (h 31), .ref (h 32), .int (x 4), .int (x 5), .int (x 6), .int (x 7), .int (x 8), .int (x 9), .int (x 10)])),
  (fun x y => .inl (cy 1, 4, .inl x)),
  (fun x y => .inl (cy 1, 4, .inl x)),
  (fun x y => .inr (1, [.ref (h 34), .ref (h 37), .ref (h 38)])),
  (fun x y => .inr (5, [.ref (h 35), .ref (h 36), .int (x 2)])),
  (fun x y => .inl (cy 0, 480, .inl x)),
  (fun x y => .inl (cy 1, 30, .inl x)),
  (fun x y => .inl (cy 1, 30, .inl x)),
  (fun x y => .inl (cy 1, 30, .inl x)),
  (fun x y => .inr (2, [.int (x 0), .int (x 1)])),
  (fun x y => .inr (0, [.ref (h 3), .ref (h 39), .ref (h 41), .int (x 3), .int (x 4), .int (x 5), .int (x 6), .int (x 7), .int (x 8), .int (x 9), .int (x 10), .int (x 11)])),
  (fun x y => .inr (7, [.ref (h 42), .ref (h 43), .ref (h 44), .ref (h 45), .int (x 4)])),
  (fun x y => .inl (cy 1, 4, .inl x)),
  (fun x y => .inl (cy 1, 4, .inl x)),
  (fun x y => .inl (cy 1, 4, .inl x)),
  (fun x y => .inl (cy 1, 4, .inl x)),
  (fun x y => .inr (3, [.ref (h 3), .ref (h 39), .ref (h 33), .ref (h 40), .ref (h 41), .ref (h 47), .ref (h 50), .ref (h 51), .ref (h 52), .int (x 9), .int (x 10), .int (x 11), .int (x 12)])),
  (fun x y => .inr (9, [.ref (h 48), .ref (h 49), .int (x 2)])),
  (fun x y => .inl (cy 1, 2048, .inl x)),
  (fun x y => .inl (cy 2, 2048, .inr (.inl y))),
  (fun x y => .inl (cy 1, 4, .inl x)),
  (fun x y => .inl (cy 3, 64, .inl x)),
  (fun x y => .inl (cy 1, 64, .inl x)),
  (fun x y => .inr (4, [.ref (h 54), .ref (h 59), .ref (h 61), .ref (h 64), .ref (h 66), .ref (h 67), .int (x 6)])),
  (fun x y => .inr (7, [.ref (h 55), .ref (h 56), .ref (h 57), .ref (h 58), .int (x 4)])),
  (fun x y => .inl (cy 1, 4, .inl x)),
  (fun x y => .inl (cy 1, 4, .inl x)),
  (fun x y => .inl (cy 1, 4, .inl x)),
  (fun x y => .inl (cy 1, 4, .inl x)),
  (fun x y => .inr (6, [.ref (h 60), .int (x 1)])),
  (fun x y => .inl (cy 0, 16384, .inl x)),
  (fun x y => .inr (9, [.ref (h 62), .ref (h 63), .int (x 2)])),
  (fun x y => .inl (cy 1, 2048, .inl x)),
  (fun x y => .inl (cy 2, 2048, .inr (.inl y))),
  (fun x y => .inr (6, [.ref (h 65), .int (x 1)])),
  (fun x y => .inl (cy 0, 6400, .inl x)),
  (fun x y => .inl (cy 1, 64, .inl x)),
  (fun x y => .inl (cy 1, 64, .inl x)),
  (fun x y => .inr (12, [.int (x 0), .ref (h 69), .int (x 2), .ref (h 70), .int (x 4), .int (x 5), .int (x 6), .int (x 7), .int (x 8), .int (x 9), .int (x 10), .int (x 11), .ref (h 71), .ref (h 72), .ref (h 73), .ref (h 74), .ref (h 75), .ref (h 76), .ref (h 77), .ref (h 78), .ref (h 79), .ref (h 80), .ref (h 81), .ref (h 82), .ref (h 83), .ref (h 84), .ref (h 85), .ref (h 86), .ref (h 87), .ref (h 88), .int (x 30), .int (x 31), .ref (h 89), .int (x 33), .int (x 34), .int (x 35), .int (x 36), .int (x 37), .ref (h 90), .int (x 39), .long (y 40), .int (x 41), .int (x 42), .int (x 43), .ref (h 91), .ref (h 92), .ref (h 93), .ref (h 94), .int (x 48), .int (x 49), .long (y 50), .long (y 51), .long (y 52), .long (y 53), .long (y 54), .long (y 55), .long (y 56), .long (y 57), .long (y 58), .int (x 59), .ref (h 95), .ref (h 96), .ref (h 97), .int (x 63), .int (x 64), .int (x 65), .ref (h 98), .ref (h 99), .ref (h 100), .ref (h 101), .ref (h 102), .ref (h 103), .ref (h 104), .ref (h 105), .ref (h 106), .ref (h 107), .ref (h 108), .ref (h 109)])),
  (fun x y => .inl (cy 1, 1040, .inl x)),
  (fun x y => .inl (cy 1, 1312, .inl x)),
  (fun x y => .inl (cy 1, 4, .inl x)),
  (fun x y => .inl (cy 1, 4, .inl x)),
  (fun x y => .inl (cy 1, 4096, .inl x)),
  (fun x y => .inl (cy 1, 9, .inl x)),
  (fun x y => .inl (cy 1, 9, .inl x)),
  (fun x y => .inl (cy 1, 9, .inl x)),
  (fun x y => .inl (cy 1, 20, .inl x)),
  (fun x y => .inl (cy 1, 20, .inl x)),
  (fun x y => .inl (cy 1, 20, .inl x)),
  (fun x y => .inl (cy 3, 20, .inl x)),
  (fun x y => .inl (cy 1, 101, .inl x)),
  (fun x y => .inl (cy 1, 101, .inl x)),
  (fun x y => .inl (cy 1, 101, .inl x)),
  (fun x y => .inl (cy 2, 101, .inr (.inl y))),
  (fun x y => .inl (cy 3, 101, .inl x)),
  (fun x y => .inl (cy 1, 30, .inl x)),
  (fun x y => .inl (cy 1, 30, .inl x)),
  (fun x y => .inl (cy 1, 9000, .inl x)),
  (fun x y => .inl (cy 1, 4, .inl x)),
  (fun x y => .inl (cy 1, 4, .inl x)),
  (fun x y => .inl (cy 2, 4, .inr (.inl y))),
  (fun x y => .inl (cy 2, 4, .inr (.inl y))),
  (fun x y => .inl (cy 2, 4, .inr (.inl y))),
  (fun x y => .inl (cy 2, 4, .inr (.inl y))),
  (fun x y => .inl (cy 2, 2100, .inr (.inl y))),
  (fun x y => .inl (cy 1, 2100, .inl x)),
  (fun x y => .inl (cy 1, 2100, .inl x)),
  (fun x y => .inl (cy 2, 4, .inr (.inl y))),
  (fun x y => .inl (cy 2, 4, .inr (.inl y))),
  (fun x y => .inl (cy 1, 4, .inl x)),
  (fun x y => .inl (cy 1, 16384, .inl x)),
  (fun x y => .inl (cy 2, 2100, .inr (.inl y))),
  (fun x y => .inl (cy 2, 2100, .inr (.inl y))),
  (fun x y => .inl (cy 1, 2100, .inl x)),
  (fun x y => .inl (cy 3, 2100, .inl x)),
  (fun x y => .inl (cy 1, 9000, .inl x)),
  (fun x y => .inl (cy 1, 64, .inl x)),
  (fun x y => .inl (cy 1, 64, .inl x)),
  (fun x y => .inl (cy 1, 64, .inl x)),
  (fun x y => .inl (cy 2, 1, .inr (.inl y)))]
abbrev NC : Nat := 111
theorem cT_len (h : Nat → Nat) (cy : Nat → ClassId) : (cT h cy).length = 111 := rfl
def cF (h : Nat → Nat) (cy : Nat → ClassId) (k : Nat) : Ce := (cT h cy).getD k (fun _ _ => .inr (0, []))
def wd (h : Nat → Nat) (cy : Nat → ClassId) (σ : St) : va_W := (List.range NC).map (fun k => (h k, cF h cy k (σ.1 k) (σ.2 k)))
def Sh (k : Nat) (f : (Nat → Nat) → (Nat → ClassId) → Ce) : Prop := k < NC ∧ ∀ h cy, cF h cy k = f h cy
def Inj (h : Nat → Nat) : Prop := ∀ i j, i < NC → j < NC → h i = h j → i = j
def Az (h : Nat → Nat) (sz : Nat) : Nat → Prop := fun q => (∃ k, k < NC ∧ q = h k) ∨ sz ≤ q
def tyL (cy : Nat → ClassId) : List (ClassId × FieldType) := [(cy 0, .byte), (cy 1, .int), (cy 2, .long), (cy 3, .boolean)]
theorem wd_get {h : Nat → Nat} {cy : Nat → ClassId} {σ : St} {k : Nat} (hk : k < NC) : (wd h cy σ)[k]? = some (h k, cF h cy k (σ.1 k) (σ.2 k)) := by
  simp only [wd, List.getElem?_map, List.getElem?_range hk, Option.map_some]
theorem wd_at {h : Nat → Nat} {cy : Nat → ClassId} {σ : St} {k : Nat} {f : (Nat → Nat) → (Nat → ClassId) → Ce} (hk : Sh k f) : (wd h cy σ)[k]? = some (h k, f h cy (σ.1 k) (σ.2 k)) := by
  rw [wd_get hk.1, hk.2]
theorem wd_set {h : Nat → Nat} {cy : Nat → ClassId} {σ : St} (σ' : St) {k : Nat} {e : va_E} (hk : k < NC) (h1 : ∀ a, a ≠ k → σ'.1 a = σ.1 a) (h2 : ∀ a, a ≠ k → σ'.2 a = σ.2 a) (he : e = cF h cy k (σ'.1 k) (σ'.2 k)) : (wd h cy σ).set k (h k, e) = wd h cy σ' := by
  apply List.ext_getElem?
  intro i
  rw [List.getElem?_set]
  by_cases hi : k = i
  · subst hi
    have hl : k < (wd h cy σ).length := by simpa [wd] using hk
    rw [if_pos rfl, if_pos hl, wd_get hk, he]
  · rw [if_neg hi]
    by_cases hn : i < NC
    · rw [wd_get hn, wd_get hn, h1 i (fun q => hi q.symm), h2 i (fun q => hi q.symm)]
    · have e1 : (wd h cy σ)[i]? = none := List.getElem?_eq_none (by simpa [wd] using Nat.le_of_not_lt hn)
      have e2 : (wd h cy σ')[i]? = none := List.getElem?_eq_none (by simpa [wd] using Nat.le_of_not_lt hn)
      rw [e1, e2]
theorem wd_D {h : Nat → Nat} {cy : Nat → ClassId} {sz : Nat} (hj : Inj h) (σ : St) : va_D (Az h sz) (wd h cy σ) := by
  have key : ∀ i q, (wd h cy σ)[i]? = some q → i < NC ∧ q.1 = h i := by
    intro i q hq
    by_cases hn : i < NC
    · rw [wd_get hn] at hq
      cases hq
      exact ⟨hn, rfl⟩
    · rw [List.getElem?_eq_none (by simpa [wd] using Nat.le_of_not_lt hn)] at hq
      cases hq
  refine ⟨fun i j p q hp hq e => ?_, fun k q hq => ?_⟩
  · obtain ⟨a1, a2⟩ := key i p hp
    obtain ⟨b1, b2⟩ := key j q hq
    exact hj i j a1 b1 (by rw [← a2, ← b2, e])
  · obtain ⟨a1, a2⟩ := key k q hq
    exact Or.inl ⟨k, a1, a2⟩
theorem sI_1 {σ : St} {k j : Nat} {v : Int32} : (sI σ k j v).1 k = upd (σ.1 k) j v := if_pos rfl
theorem sI_n {σ : St} {k j : Nat} {v : Int32} (a : Nat) (ha : a ≠ k) : (sI σ k j v).1 a = σ.1 a := if_neg ha
theorem sJ_1 {σ : St} {k j : Nat} {v : Int64} : (sJ σ k j v).2 k = vp_updL (σ.2 k) j v := if_pos rfl
theorem sJ_n {σ : St} {k j : Nat} {v : Int64} (a : Nat) (ha : a ≠ k) : (sJ σ k j v).2 a = σ.2 a := if_neg ha
theorem sR_1 {σ : St} {k : Nat} {f : Nat → Int32} : (sR σ k f).1 k = f := if_pos rfl
theorem sR_n {σ : St} {k : Nat} {f : Nat → Int32} (a : Nat) (ha : a ≠ k) : (sR σ k f).1 a = σ.1 a := if_neg ha
theorem wd_sI {h : Nat → Nat} {cy : Nat → ClassId} {σ : St} {k j : Nat} {v : Int32} {f : (Nat → Nat) → (Nat → ClassId) → Ce} {e : va_E} (hk : Sh k f) (he : e = f h cy (upd (σ.1 k) j v) (σ.2 k)) : (wd h cy σ).set k (h k, e) = wd h cy (sI σ k j v) :=
  wd_set (sI σ k j v) hk.1 (fun a ha => sI_n a ha) (fun _ _ => rfl) (by rw [he, hk.2, sI_1]; rfl)
theorem wd_sJ {h : Nat → Nat} {cy : Nat → ClassId} {σ : St} {k j : Nat} {v : Int64} {f : (Nat → Nat) → (Nat → ClassId) → Ce} {e : va_E} (hk : Sh k f) (he : e = f h cy (σ.1 k) (vp_updL (σ.2 k) j v)) : (wd h cy σ).set k (h k, e) = wd h cy (sJ σ k j v) :=
  wd_set (sJ σ k j v) hk.1 (fun _ _ => rfl) (fun a ha => sJ_n a ha) (by rw [he, hk.2, sJ_1]; rfl)
theorem wd_sR {h : Nat → Nat} {cy : Nat → ClassId} {σ : St} {k : Nat} {g : Nat → Int32} {f : (Nat → Nat) → (Nat → ClassId) → Ce} {e : va_E} (hk : Sh k f) (he : e = f h cy g (σ.2 k)) : (wd h cy σ).set k (h k, e) = wd h cy (sR σ k g) :=
  wd_set (sR σ k g) hk.1 (fun a ha => sR_n a ha) (fun _ _ => rfl) (by rw [he, hk.2, sR_1]; rfl)
/-! the pure side: what a method does, or none -/
def gd (c : Prop) [Decidable c] {β : Type} (x : Option β) : Option β := if c then x else none
theorem gd_s {c : Prop} [Decidable c] {β : Type} {x : Option β} {y : β} (h : gd c x = some y) : c ∧ x = some y := by
  unfold gd at h
  by_cases hc : c
  · rw [if_pos hc] at h
    exact ⟨hc, h⟩
  · rw [if_neg hc] at h
    cases h
def bi {α β : Type} (x : Option (α × St)) (f : α → St → Option β) : Option β := match x with
  | none => none
  | some q => f q.1 q.2
theorem bi_s {α β : Type} {x : Option (α × St)} {f : α → St → Option β} {y : β} (h : bi x f = some y) : ∃ (a : α) (σ : St), x = some (a, σ) ∧ f a σ = some y := by
  cases x with
  | none => cases h
  | some q => exact ⟨q.1, q.2, rfl, h⟩
def bv {β : Type} (x : Option St) (f : St → Option β) : Option β := match x with
  | none => none
  | some q => f q
theorem bv_s {β : Type} {x : Option St} {f : St → Option β} {y : β} (h : bv x f = some y) : ∃ (σ : St), x = some σ ∧ f σ = some y := by
  cases x with
  | none => cases h
  | some q => exact ⟨q, rfl, h⟩
def zn {α β : Type} (x : α) (f : α → β) : β := f x
theorem zn_e {α β : Type} {x z : α} {f : α → β} {y : β} (e : z = x) (h : zn x f = y) : f z = y := by
  subst e
  exact h
theorem itp {c : Prop} {i : Decidable c} {β : Type} {a b y : β} (hc : c) (h : @ite β c i a b = y) : a = y := by
  rw [if_pos hc] at h
  exact h
theorem itn {c : Prop} {i : Decidable c} {β : Type} {a b y : β} (hc : ¬ c) (h : @ite β c i a b = y) : b = y := by
  rw [if_neg hc] at h
  exact h
theorem nn {β : Type} {y : β} {P : Prop} (h : (none : Option β) = some y) : P := by cases h
def it {α β : Type} (F : (α → Option β) → α → Option β) : Nat → α → Option β
  | 0, _ => none
  | n + 1, a => F (it F n) a
theorem it_W {α β : Type} {F : (α → Option β) → α → Option β} {P : α → β → Prop} (hs : ∀ k : α → Option β, (∀ a y, k a = some y → P a y) → ∀ a y, F k a = some y → P a y) : ∀ (n : Nat) (a : α) (y : β), it F n a = some y → P a y := by
  intro n
  induction n with
  | zero => intro a y h; cases h
  | succ n ih => intro a y h; exact hs _ ih a y h
def FU : Nat := 100000

theorem sh_0 : Sh 0 (fun h cy x y => .inr (11, [.ref (h 1), .ref (h 3), .ref (h 5), .ref (h 30), .ref (h 33), .ref (h 39), .ref (h 40), .ref (h 46), .ref (h 53)])) := ⟨by decide, fun _ _ => rfl⟩
theorem sh_1 : Sh 1 (fun h cy x y => .inr (6, [.ref (h 2), .int (x 1)])) := ⟨by decide, fun _ _ => rfl⟩
theorem sh_2 : Sh 2 (fun h cy x y => .inl (cy 0, 1040, .inl x)) := ⟨by decide, fun _ _ => rfl⟩
theorem sh_3 : Sh 3 (fun h cy x y => .inr (6, [.ref (h 4), .int (x 1)])) := ⟨by decide, fun _ _ => rfl⟩
theorem sh_4 : Sh 4 (fun h cy x y => .inl (cy 0, 6400, .inl x)) := ⟨by decide, fun _ _ => rfl⟩
theorem sh_5 : Sh 5 (fun h cy x y => .inr (8, [.int (x 0), .int (x 1), .ref (h 6), .ref (h 9), .ref (h 10), .ref (h 11), .ref (h 12), .ref (h 15), .ref (h 16), .ref (h 17), .ref (h 18), .ref (h 21), .ref (h 22), .ref (h 23), .ref (h 26), .ref (h 27), .ref (h 28), .ref (h 29), .int (x 18)])) := ⟨by decide, fun _ _ => rfl⟩
theorem sh_6 : Sh 6 (fun h cy x y => .inr (5, [.ref (h 7), .ref (h 8), .int (x 2)])) := ⟨by decide, fun _ _ => rfl⟩
theorem sh_7 : Sh 7 (fun h cy x y => .inl (cy 0, 64, .inl x)) := ⟨by decide, fun _ _ => rfl⟩
theorem sh_8 : Sh 8 (fun h cy x y => .inl (cy 1, 4, .inl x)) := ⟨by decide, fun _ _ => rfl⟩
theorem sh_9 : Sh 9 (fun h cy x y => .inl (cy 1, 4, .inl x)) := ⟨by decide, fun _ _ => rfl⟩
theorem sh_10 : Sh 10 (fun h cy x y => .inl (cy 1, 4, .inl x)) := ⟨by decide, fun _ _ => rfl⟩
theorem sh_11 : Sh 11 (fun h cy x y => .inl (cy 0, 4096, .inl x)) := ⟨by decide, fun _ _ => rfl⟩
theorem sh_12 : Sh 12 (fun h cy x y => .inr (5, [.ref (h 13), .ref (h 14), .int (x 2)])) := ⟨by decide, fun _ _ => rfl⟩
theorem sh_13 : Sh 13 (fun h cy x y => .inl (cy 0, 128, .inl x)) := ⟨by decide, fun _ _ => rfl⟩
theorem sh_14 : Sh 14 (fun h cy x y => .inl (cy 1, 8, .inl x)) := ⟨by decide, fun _ _ => rfl⟩
theorem sh_15 : Sh 15 (fun h cy x y => .inl (cy 1, 8, .inl x)) := ⟨by decide, fun _ _ => rfl⟩
theorem sh_16 : Sh 16 (fun h cy x y => .inl (cy 1, 8, .inl x)) := ⟨by decide, fun _ _ => rfl⟩
theorem sh_17 : Sh 17 (fun h cy x y => .inl (cy 1, 8, .inl x)) := ⟨by decide, fun _ _ => rfl⟩
theorem sh_18 : Sh 18 (fun h cy x y => .inr (5, [.ref (h 19), .ref (h 20), .int (x 2)])) := ⟨by decide, fun _ _ => rfl⟩
theorem sh_19 : Sh 19 (fun h cy x y => .inl (cy 0, 320, .inl x)) := ⟨by decide, fun _ _ => rfl⟩
theorem sh_20 : Sh 20 (fun h cy x y => .inl (cy 1, 20, .inl x)) := ⟨by decide, fun _ _ => rfl⟩
theorem sh_21 : Sh 21 (fun h cy x y => .inl (cy 1, 20, .inl x)) := ⟨by decide, fun _ _ => rfl⟩
theorem sh_22 : Sh 22 (fun h cy x y => .inl (cy 1, 20, .inl x)) := ⟨by decide, fun _ _ => rfl⟩
theorem sh_23 : Sh 23 (fun h cy x y => .inr (5, [.ref (h 24), .ref (h 25), .int (x 2)])) := ⟨by decide, fun _ _ => rfl⟩
theorem sh_24 : Sh 24 (fun h cy x y => .inl (cy 0, 320, .inl x)) := ⟨by decide, fun _ _ => rfl⟩
theorem sh_25 : Sh 25 (fun h cy x y => .inl (cy 1, 20, .inl x)) := ⟨by decide, fun _ _ => rfl⟩
theorem sh_26 : Sh 26 (fun h cy x y => .inl (cy 1, 20, .inl x)) := ⟨by decide, fun _ _ => rfl⟩
theorem sh_27 : Sh 27 (fun h cy x y => .inl (cy 3, 20, .inl x)) := ⟨by decide, fun _ _ => rfl⟩
theorem sh_28 : Sh 28 (fun h cy x y => .inl (cy 3, 1024, .inl x)) := ⟨by decide, fun _ _ => rfl⟩
theorem sh_29 : Sh 29 (fun h cy x y => .inl (cy 2, 1024, .inr (.inl y))) := ⟨by decide, fun _ _ => rfl⟩
theorem sh_30 : Sh 30 (fun h cy x y => .inr (10, [.ref (h 5), .ref (h 3), .ref (h 31), .ref (h 32), .int (x 4), .int (x 5), .int (x 6), .int (x 7), .int (x 8), .int (x 9), .int (x 10)])) := ⟨by decide, fun _ _ => rfl⟩
theorem sh_31 : Sh 31 (fun h cy x y => .inl (cy 1, 4, .inl x)) := ⟨by decide, fun _ _ => rfl⟩
theorem sh_32 : Sh 32 (fun h cy x y => .inl (cy 1, 4, .inl x)) := ⟨by decide, fun _ _ => rfl⟩
theorem sh_33 : Sh 33 (fun h cy x y => .inr (1, [.ref (h 34), .ref (h 37), .ref (h 38)])) := ⟨by decide, fun _ _ => rfl⟩
theorem sh_34 : Sh 34 (fun h cy x y => .inr (5, [.ref (h 35), .ref (h 36), .int (x 2)])) := ⟨by decide, fun _ _ => rfl⟩
theorem sh_35 : Sh 35 (fun h cy x y => .inl (cy 0, 480, .inl x)) := ⟨by decide, fun _ _ => rfl⟩
theorem sh_36 : Sh 36 (fun h cy x y => .inl (cy 1, 30, .inl x)) := ⟨by decide, fun _ _ => rfl⟩
theorem sh_37 : Sh 37 (fun h cy x y => .inl (cy 1, 30, .inl x)) := ⟨by decide, fun _ _ => rfl⟩
theorem sh_38 : Sh 38 (fun h cy x y => .inl (cy 1, 30, .inl x)) := ⟨by decide, fun _ _ => rfl⟩
theorem sh_39 : Sh 39 (fun h cy x y => .inr (2, [.int (x 0), .int (x 1)])) := ⟨by decide, fun _ _ => rfl⟩
theorem sh_40 : Sh 40 (fun h cy x y => .inr (0, [.ref (h 3), .ref (h 39), .ref (h 41), .int (x 3), .int (x 4), .int (x 5), .int (x 6), .int (x 7), .int (x 8), .int (x 9), .int (x 10), .int (x 11)])) := ⟨by decide, fun _ _ => rfl⟩
theorem sh_41 : Sh 41 (fun h cy x y => .inr (7, [.ref (h 42), .ref (h 43), .ref (h 44), .ref (h 45), .int (x 4)])) := ⟨by decide, fun _ _ => rfl⟩
theorem sh_42 : Sh 42 (fun h cy x y => .inl (cy 1, 4, .inl x)) := ⟨by decide, fun _ _ => rfl⟩
theorem sh_43 : Sh 43 (fun h cy x y => .inl (cy 1, 4, .inl x)) := ⟨by decide, fun _ _ => rfl⟩
theorem sh_44 : Sh 44 (fun h cy x y => .inl (cy 1, 4, .inl x)) := ⟨by decide, fun _ _ => rfl⟩
theorem sh_45 : Sh 45 (fun h cy x y => .inl (cy 1, 4, .inl x)) := ⟨by decide, fun _ _ => rfl⟩
theorem sh_46 : Sh 46 (fun h cy x y => .inr (3, [.ref (h 3), .ref (h 39), .ref (h 33), .ref (h 40), .ref (h 41), .ref (h 47), .ref (h 50), .ref (h 51), .ref (h 52), .int (x 9), .int (x 10), .int (x 11), .int (x 12)])) := ⟨by decide, fun _ _ => rfl⟩
theorem sh_47 : Sh 47 (fun h cy x y => .inr (9, [.ref (h 48), .ref (h 49), .int (x 2)])) := ⟨by decide, fun _ _ => rfl⟩
theorem sh_48 : Sh 48 (fun h cy x y => .inl (cy 1, 2048, .inl x)) := ⟨by decide, fun _ _ => rfl⟩
theorem sh_49 : Sh 49 (fun h cy x y => .inl (cy 2, 2048, .inr (.inl y))) := ⟨by decide, fun _ _ => rfl⟩
theorem sh_50 : Sh 50 (fun h cy x y => .inl (cy 1, 4, .inl x)) := ⟨by decide, fun _ _ => rfl⟩
theorem sh_51 : Sh 51 (fun h cy x y => .inl (cy 3, 64, .inl x)) := ⟨by decide, fun _ _ => rfl⟩
theorem sh_52 : Sh 52 (fun h cy x y => .inl (cy 1, 64, .inl x)) := ⟨by decide, fun _ _ => rfl⟩
theorem sh_53 : Sh 53 (fun h cy x y => .inr (4, [.ref (h 54), .ref (h 59), .ref (h 61), .ref (h 64), .ref (h 66), .ref (h 67), .int (x 6)])) := ⟨by decide, fun _ _ => rfl⟩
theorem sh_54 : Sh 54 (fun h cy x y => .inr (7, [.ref (h 55), .ref (h 56), .ref (h 57), .ref (h 58), .int (x 4)])) := ⟨by decide, fun _ _ => rfl⟩
theorem sh_55 : Sh 55 (fun h cy x y => .inl (cy 1, 4, .inl x)) := ⟨by decide, fun _ _ => rfl⟩
theorem sh_56 : Sh 56 (fun h cy x y => .inl (cy 1, 4, .inl x)) := ⟨by decide, fun _ _ => rfl⟩
theorem sh_57 : Sh 57 (fun h cy x y => .inl (cy 1, 4, .inl x)) := ⟨by decide, fun _ _ => rfl⟩
theorem sh_58 : Sh 58 (fun h cy x y => .inl (cy 1, 4, .inl x)) := ⟨by decide, fun _ _ => rfl⟩
theorem sh_59 : Sh 59 (fun h cy x y => .inr (6, [.ref (h 60), .int (x 1)])) := ⟨by decide, fun _ _ => rfl⟩
theorem sh_60 : Sh 60 (fun h cy x y => .inl (cy 0, 16384, .inl x)) := ⟨by decide, fun _ _ => rfl⟩
theorem sh_61 : Sh 61 (fun h cy x y => .inr (9, [.ref (h 62), .ref (h 63), .int (x 2)])) := ⟨by decide, fun _ _ => rfl⟩
theorem sh_62 : Sh 62 (fun h cy x y => .inl (cy 1, 2048, .inl x)) := ⟨by decide, fun _ _ => rfl⟩
theorem sh_63 : Sh 63 (fun h cy x y => .inl (cy 2, 2048, .inr (.inl y))) := ⟨by decide, fun _ _ => rfl⟩
theorem sh_64 : Sh 64 (fun h cy x y => .inr (6, [.ref (h 65), .int (x 1)])) := ⟨by decide, fun _ _ => rfl⟩
theorem sh_65 : Sh 65 (fun h cy x y => .inl (cy 0, 6400, .inl x)) := ⟨by decide, fun _ _ => rfl⟩
theorem sh_66 : Sh 66 (fun h cy x y => .inl (cy 1, 64, .inl x)) := ⟨by decide, fun _ _ => rfl⟩
theorem sh_67 : Sh 67 (fun h cy x y => .inl (cy 1, 64, .inl x)) := ⟨by decide, fun _ _ => rfl⟩
theorem sh_68 : Sh 68 (fun h cy x y => .inr (12, [.int (x 0), .ref (h 69), .int (x 2), .ref (h 70), .int (x 4), .int (x 5), .int (x 6), .int (x 7), .int (x 8), .int (x 9), .int (x 10), .int (x 11), .ref (h 71), .ref (h 72), .ref (h 73), .ref (h 74), .ref (h 75), .ref (h 76), .ref (h 77), .ref (h 78), .ref (h 79), .ref (h 80), .ref (h 81), .ref (h 82), .ref (h 83), .ref (h 84), .ref (h 85), .ref (h 86), .ref (h 87), .ref (h 88), .int (x 30), .int (x 31), .ref (h 89), .int (x 33), .int (x 34), .int (x 35), .int (x 36), .int (x 37), .ref (h 90), .int (x 39), .long (y 40), .int (x 41), .int (x 42), .int (x 43), .ref (h 91), .ref (h 92), .ref (h 93), .ref (h 94), .int (x 48), .int (x 49), .long (y 50), .long (y 51), .long (y 52), .long (y 53), .long (y 54), .long (y 55), .long (y 56), .long (y 57), .long (y 58), .int (x 59), .ref (h 95), .ref (h 96), .ref (h 97), .int (x 63), .int (x 64), .int (x 65), .ref (h 98), .ref (h 99), .ref (h 100), .ref (h 101), .ref (h 102), .ref (h 103), .ref (h 104), .ref (h 105), .ref (h 106), .ref (h 107), .ref (h 108), .ref (h 109)])) := ⟨by decide, fun _ _ => rfl⟩
theorem sh_69 : Sh 69 (fun h cy x y => .inl (cy 1, 1040, .inl x)) := ⟨by decide, fun _ _ => rfl⟩
theorem sh_70 : Sh 70 (fun h cy x y => .inl (cy 1, 1312, .inl x)) := ⟨by decide, fun _ _ => rfl⟩
theorem sh_71 : Sh 71 (fun h cy x y => .inl (cy 1, 4, .inl x)) := ⟨by decide, fun _ _ => rfl⟩
theorem sh_72 : Sh 72 (fun h cy x y => .inl (cy 1, 4, .inl x)) := ⟨by decide, fun _ _ => rfl⟩
theorem sh_73 : Sh 73 (fun h cy x y => .inl (cy 1, 4096, .inl x)) := ⟨by decide, fun _ _ => rfl⟩
theorem sh_74 : Sh 74 (fun h cy x y => .inl (cy 1, 9, .inl x)) := ⟨by decide, fun _ _ => rfl⟩
theorem sh_75 : Sh 75 (fun h cy x y => .inl (cy 1, 9, .inl x)) := ⟨by decide, fun _ _ => rfl⟩
theorem sh_76 : Sh 76 (fun h cy x y => .inl (cy 1, 9, .inl x)) := ⟨by decide, fun _ _ => rfl⟩
theorem sh_77 : Sh 77 (fun h cy x y => .inl (cy 1, 20, .inl x)) := ⟨by decide, fun _ _ => rfl⟩
theorem sh_78 : Sh 78 (fun h cy x y => .inl (cy 1, 20, .inl x)) := ⟨by decide, fun _ _ => rfl⟩
theorem sh_79 : Sh 79 (fun h cy x y => .inl (cy 1, 20, .inl x)) := ⟨by decide, fun _ _ => rfl⟩
theorem sh_80 : Sh 80 (fun h cy x y => .inl (cy 3, 20, .inl x)) := ⟨by decide, fun _ _ => rfl⟩
theorem sh_81 : Sh 81 (fun h cy x y => .inl (cy 1, 101, .inl x)) := ⟨by decide, fun _ _ => rfl⟩
theorem sh_82 : Sh 82 (fun h cy x y => .inl (cy 1, 101, .inl x)) := ⟨by decide, fun _ _ => rfl⟩
theorem sh_83 : Sh 83 (fun h cy x y => .inl (cy 1, 101, .inl x)) := ⟨by decide, fun _ _ => rfl⟩
theorem sh_84 : Sh 84 (fun h cy x y => .inl (cy 2, 101, .inr (.inl y))) := ⟨by decide, fun _ _ => rfl⟩
theorem sh_85 : Sh 85 (fun h cy x y => .inl (cy 3, 101, .inl x)) := ⟨by decide, fun _ _ => rfl⟩
theorem sh_86 : Sh 86 (fun h cy x y => .inl (cy 1, 30, .inl x)) := ⟨by decide, fun _ _ => rfl⟩
theorem sh_87 : Sh 87 (fun h cy x y => .inl (cy 1, 30, .inl x)) := ⟨by decide, fun _ _ => rfl⟩
theorem sh_88 : Sh 88 (fun h cy x y => .inl (cy 1, 9000, .inl x)) := ⟨by decide, fun _ _ => rfl⟩
theorem sh_89 : Sh 89 (fun h cy x y => .inl (cy 1, 4, .inl x)) := ⟨by decide, fun _ _ => rfl⟩
theorem sh_90 : Sh 90 (fun h cy x y => .inl (cy 1, 4, .inl x)) := ⟨by decide, fun _ _ => rfl⟩
theorem sh_91 : Sh 91 (fun h cy x y => .inl (cy 2, 4, .inr (.inl y))) := ⟨by decide, fun _ _ => rfl⟩
theorem sh_92 : Sh 92 (fun h cy x y => .inl (cy 2, 4, .inr (.inl y))) := ⟨by decide, fun _ _ => rfl⟩
theorem sh_93 : Sh 93 (fun h cy x y => .inl (cy 2, 4, .inr (.inl y))) := ⟨by decide, fun _ _ => rfl⟩
theorem sh_94 : Sh 94 (fun h cy x y => .inl (cy 2, 4, .inr (.inl y))) := ⟨by decide, fun _ _ => rfl⟩
theorem sh_95 : Sh 95 (fun h cy x y => .inl (cy 2, 2100, .inr (.inl y))) := ⟨by decide, fun _ _ => rfl⟩
theorem sh_96 : Sh 96 (fun h cy x y => .inl (cy 1, 2100, .inl x)) := ⟨by decide, fun _ _ => rfl⟩
theorem sh_97 : Sh 97 (fun h cy x y => .inl (cy 1, 2100, .inl x)) := ⟨by decide, fun _ _ => rfl⟩
theorem sh_98 : Sh 98 (fun h cy x y => .inl (cy 2, 4, .inr (.inl y))) := ⟨by decide, fun _ _ => rfl⟩
theorem sh_99 : Sh 99 (fun h cy x y => .inl (cy 2, 4, .inr (.inl y))) := ⟨by decide, fun _ _ => rfl⟩
theorem sh_100 : Sh 100 (fun h cy x y => .inl (cy 1, 4, .inl x)) := ⟨by decide, fun _ _ => rfl⟩
theorem sh_101 : Sh 101 (fun h cy x y => .inl (cy 1, 16384, .inl x)) := ⟨by decide, fun _ _ => rfl⟩
theorem sh_102 : Sh 102 (fun h cy x y => .inl (cy 2, 2100, .inr (.inl y))) := ⟨by decide, fun _ _ => rfl⟩
theorem sh_103 : Sh 103 (fun h cy x y => .inl (cy 2, 2100, .inr (.inl y))) := ⟨by decide, fun _ _ => rfl⟩
theorem sh_104 : Sh 104 (fun h cy x y => .inl (cy 1, 2100, .inl x)) := ⟨by decide, fun _ _ => rfl⟩
theorem sh_105 : Sh 105 (fun h cy x y => .inl (cy 3, 2100, .inl x)) := ⟨by decide, fun _ _ => rfl⟩
theorem sh_106 : Sh 106 (fun h cy x y => .inl (cy 1, 9000, .inl x)) := ⟨by decide, fun _ _ => rfl⟩
theorem sh_107 : Sh 107 (fun h cy x y => .inl (cy 1, 64, .inl x)) := ⟨by decide, fun _ _ => rfl⟩
theorem sh_108 : Sh 108 (fun h cy x y => .inl (cy 1, 64, .inl x)) := ⟨by decide, fun _ _ => rfl⟩
theorem sh_109 : Sh 109 (fun h cy x y => .inl (cy 1, 64, .inl x)) := ⟨by decide, fun _ _ => rfl⟩
theorem sh_110 : Sh 110 (fun h cy x y => .inl (cy 2, 1, .inr (.inl y))) := ⟨by decide, fun _ _ => rfl⟩
def RowS (k n : Nat) : Prop := Sh k (fun h cy x y => .inr (6, [.ref (h (k + 1)), .int (x 1)])) ∧ Sh (k + 1) (fun h cy x y => .inl (cy 0, n, .inl x))
def NamesS (k b n : Nat) : Prop := Sh k (fun h cy x y => .inr (5, [.ref (h (k + 1)), .ref (h (k + 2)), .int (x 2)])) ∧ Sh (k + 1) (fun h cy x y => .inl (cy 0, b, .inl x)) ∧ Sh (k + 2) (fun h cy x y => .inl (cy 1, n, .inl x))
def SegsS (k : Nat) : Prop := Sh k (fun h cy x y => .inr (7, [.ref (h (k + 1)), .ref (h (k + 2)), .ref (h (k + 3)), .ref (h (k + 4)), .int (x 4)])) ∧ Sh (k + 1) (fun h cy x y => .inl (cy 1, 4, .inl x)) ∧ Sh (k + 2) (fun h cy x y => .inl (cy 1, 4, .inl x)) ∧ Sh (k + 3) (fun h cy x y => .inl (cy 1, 4, .inl x)) ∧ Sh (k + 4) (fun h cy x y => .inl (cy 1, 4, .inl x))
def VisS (k : Nat) : Prop := Sh k (fun h cy x y => .inr (9, [.ref (h (k + 1)), .ref (h (k + 2)), .int (x 2)])) ∧ Sh (k + 1) (fun h cy x y => .inl (cy 1, 2048, .inl x)) ∧ Sh (k + 2) (fun h cy x y => .inl (cy 2, 2048, .inr (.inl y)))
theorem row_1 : RowS 1 1040 := ⟨sh_1, sh_2⟩
theorem row_3 : RowS 3 6400 := ⟨sh_3, sh_4⟩
theorem names_6 : NamesS 6 64 4 := ⟨sh_6, sh_7, sh_8⟩
theorem names_12 : NamesS 12 128 8 := ⟨sh_12, sh_13, sh_14⟩
theorem names_18 : NamesS 18 320 20 := ⟨sh_18, sh_19, sh_20⟩
theorem names_23 : NamesS 23 320 20 := ⟨sh_23, sh_24, sh_25⟩
theorem names_34 : NamesS 34 480 30 := ⟨sh_34, sh_35, sh_36⟩
theorem segs_41 : SegsS 41 := ⟨sh_41, sh_42, sh_43, sh_44, sh_45⟩
theorem vis_47 : VisS 47 := ⟨sh_47, sh_48, sh_49⟩
theorem segs_54 : SegsS 54 := ⟨sh_54, sh_55, sh_56, sh_57, sh_58⟩
theorem row_59 : RowS 59 16384 := ⟨sh_59, sh_60⟩
theorem vis_61 : VisS 61 := ⟨sh_61, sh_62, sh_63⟩
theorem row_64 : RowS 64 6400 := ⟨sh_64, sh_65⟩
def NWs : List Cond := [Cond.methodLinkNest RX8 115 yX11_isLibrary RX11, Cond.methodLinkNest RX10 39 yX11_filledUp RX11, Cond.methodLinkNest RX8 134 yX11_filledUp RX11, Cond.methodLinkNest RX10 112 yX11_pagesIn RX11, Cond.methodLinkNest RX6 39 yX11_filledUp RX11, Cond.methodLinkNest RX1 33 yX11_isLibrary RX11, Cond.methodLinkNest RX3 140 yX11_isPage RX11, Cond.methodLinkNest RX3 154 yX11_pagesIn RX11]
theorem NWs_ok : ∀ w ∈ NWs, w ∈ lw_tbl := by
  intro w hw
  have h : NWs = [663, 715, 733, 734, 800, 865, 1042, 1044].filterMap (fun i => lw_tbl[i]?) := by decide +kernel
  rw [h] at hw
  obtain ⟨i, -, hi⟩ := List.mem_filterMap.mp hw
  exact List.mem_of_getElem? hi
theorem NWs_M : ∀ w ∈ NWs, ∃ a i x h, w = Cond.methodLinkNest a i x h := by
  intro w hw
  simp only [NWs, List.mem_cons, List.not_mem_nil, or_false] at hw
  rcases hw with rfl | rfl | rfl | rfl | rfl | rfl | rfl | rfl <;> exact ⟨_, _, _, _, rfl⟩
theorem ac_nat : Cond.native arraycopyName ∈ GT := GT_ix 638 (by decide +kernel) (by decide +kernel)
theorem ac_st : Cond.static arraycopyName ∈ GT := GT_ix 637 (by decide +kernel) (by decide +kernel)
theorem ac_in : Cond.initialized "java/lang/System" ∈ GT := GT_ix 101 (by decide +kernel) (by decide +kernel)
theorem zcmp_eq (x y : Int64) : (lg_cmp x y = 0) ↔ (x = y) := by
  unfold lg_cmp
  simp only [gt_iff_lt, Int64.lt_iff_toInt_lt, Int64.le_iff_toInt_le, ← Int64.toInt_inj]
  repeat' split
  all_goals (first | (simp; omega) | simp_all | omega)
theorem zcmp_ne (x y : Int64) : (¬ lg_cmp x y = 0) ↔ (¬ x = y) := by
  unfold lg_cmp
  simp only [gt_iff_lt, Int64.lt_iff_toInt_lt, Int64.le_iff_toInt_le, ← Int64.toInt_inj]
  repeat' split
  all_goals (first | (simp; omega) | simp_all | omega)
theorem zcmp_lt (x y : Int64) : (lg_cmp x y < 0) ↔ (x < y) := by
  unfold lg_cmp
  simp only [gt_iff_lt, Int64.lt_iff_toInt_lt, Int64.le_iff_toInt_le, ← Int64.toInt_inj]
  repeat' split
  all_goals (first | (simp; omega) | simp_all | omega)
theorem zcmp_ge (x y : Int64) : (0 ≤ lg_cmp x y) ↔ (y ≤ x) := by
  unfold lg_cmp
  simp only [gt_iff_lt, Int64.lt_iff_toInt_lt, Int64.le_iff_toInt_le, ← Int64.toInt_inj]
  repeat' split
  all_goals (first | (simp; omega) | simp_all | omega)
theorem zcmp_gt (x y : Int64) : (0 < lg_cmp x y) ↔ (y < x) := by
  unfold lg_cmp
  simp only [gt_iff_lt, Int64.lt_iff_toInt_lt, Int64.le_iff_toInt_le, ← Int64.toInt_inj]
  repeat' split
  all_goals (first | (simp; omega) | simp_all | omega)
theorem zcmp_le (x y : Int64) : (lg_cmp x y ≤ 0) ↔ (x ≤ y) := by
  unfold lg_cmp
  simp only [gt_iff_lt, Int64.lt_iff_toInt_lt, Int64.le_iff_toInt_le, ← Int64.toInt_inj]
  repeat' split
  all_goals (first | (simp; omega) | simp_all | omega)
abbrev ib (i : Int32) (n : Nat) : Prop := 0 ≤ i.toInt ∧ i.toInt < n
def Nst (U : State) : Prop := ∀ w ∈ NWs, va_Nw w U
theorem Nst.warm {s U : State} (hW : s.WarmedH U.vm) (h : Nst s) : Nst U := by
  intro w hw
  obtain ⟨a, i, x, hh, rfl⟩ := NWs_M w hw
  exact (h _ hw).warmM hW
theorem Nst.same {u U : State} (e : u.vm = U.vm) (h : Nst u) : Nst U := by
  intro w hw
  obtain ⟨a, i, x, hh, rfl⟩ := NWs_M w hw
  exact (h _ hw).same rfl e
def rmz (f lo : Nat) : Room := { frames := f, cells := 0, slots := 0, locals := lo }
def wz (y : MethodName) (b : ByteArray) (n : Nat) (r : Option FieldType) : List Cond := .code y b n r :: GT
theorem good_wz {y : MethodName} {b : ByteArray} {n : Nat} {r : Option FieldType} (h : Cond.code y b n r ∈ GT) : GoodIn GT (wz y b n r) := by
  intro w hw
  rcases List.mem_cons.mp hw with rfl | hw
  · exact ⟨h, good_of_word (List.mem_filter.mp h).2⟩
  · exact ⟨hw, good_of_word (List.mem_filter.mp hw).2⟩
/-- what holds at a method's entry and on -/
def Cx (p : Program) (s : State) (m : MethodId) (args : Array Value) (c : Code) (D : va_G) (h : Nat → Nat) (cy : Nat → ClassId) (own : String) (cc : ByteArray) (nL : Nat) : Prop :=
  p.tables.exec = Jvm.exec ∧ c.code = cc ∧ c.maxLocals = nL ∧ s.vm.findClass own = some m.cls ∧ (∀ w ∈ GT, w.before args s = true) ∧ va_K D vwCl (tyL cy) s ∧ Inj h ∧ Nst s
def Zt (D : va_G) (h : Nat → Nat) (cy : Nat → ClassId) (s : State) (σ : St) (H : Heap) (locs : List Loc) : Prop :=
  va_P D vwCl (wd h cy σ) H ∧ va_S (Az h s.heap.size) s.heap H locs
def Pz (D : va_G) (h : Nat → Nat) (cy : Nat → ClassId) (av : List Value) (σ : St) (sz : Nat) : Array Value → State → Prop := va_Pc av (fun U => U.heap.size = sz ∧ va_P D vwCl (wd h cy σ) U.heap ∧ va_K D vwCl (tyL cy) U ∧ Inj h ∧ Nst U)
def Bz (D : va_G) (h : Nat → Nat) (cy : Nat → ClassId) (u : St) (t : State) : Prop := va_P D vwCl (wd h cy u) t.heap
def QI (D : va_G) (h : Nat → Nat) (cy : Nat → ClassId) (sz : Nat) (y : Int32 × St) := va_Qi (fun r (u : St) => r = y.1 ∧ u = y.2) (Bz D h cy) (Az h sz)
def QL (D : va_G) (h : Nat → Nat) (cy : Nat → ClassId) (sz : Nat) (y : Int64 × St) := va_Ql (fun r (u : St) => r = y.1 ∧ u = y.2) (Bz D h cy) (Az h sz)
def QV (D : va_G) (h : Nat → Nat) (cy : Nat → ClassId) (sz : Nat) (y : St) := va_Qv (fun (u : St) => u = y) (Bz D h cy) (Az h sz)
def CI (l : Launch) (y : MethodName) (b : ByteArray) (n : Nat) (ret : Option FieldType) (f lo : Nat) (D : va_G) (h : Nat → Nat) (cy : Nat → ClassId) (av : List Value) (σ : St) (z : Int32 × St) : Prop := ∀ sz, Met l y (wz y b n ret) (rmz f lo) (Pz D h cy av σ sz) (QI D h cy sz z) 0 0 (Az h sz)
def CL (l : Launch) (y : MethodName) (b : ByteArray) (n : Nat) (ret : Option FieldType) (f lo : Nat) (D : va_G) (h : Nat → Nat) (cy : Nat → ClassId) (av : List Value) (σ : St) (z : Int64 × St) : Prop := ∀ sz, Met l y (wz y b n ret) (rmz f lo) (Pz D h cy av σ sz) (QL D h cy sz z) 0 0 (Az h sz)
def CV (l : Launch) (y : MethodName) (b : ByteArray) (n : Nat) (ret : Option FieldType) (f lo : Nat) (D : va_G) (h : Nat → Nat) (cy : Nat → ClassId) (av : List Value) (σ : St) (z : St) : Prop := ∀ sz, Met l y (wz y b n ret) (rmz f lo) (Pz D h cy av σ sz) (QV D h cy sz z) 0 0 (Az h sz)
def EI (below : List Frame) (args : Array Value) (s : State) (D : va_G) (h : Nat → Nat) (cy : Nat → ClassId) (y : Int32 × St) : State → Prop := MQ below (QI D h cy s.heap.size y) args s 0 0 (Az h s.heap.size)
def EL (below : List Frame) (args : Array Value) (s : State) (D : va_G) (h : Nat → Nat) (cy : Nat → ClassId) (y : Int64 × St) : State → Prop := MQ below (QL D h cy s.heap.size y) args s 0 0 (Az h s.heap.size)
def EV (below : List Frame) (args : Array Value) (s : State) (D : va_G) (h : Nat → Nat) (cy : Nat → ClassId) (y : St) : State → Prop := MQ below (QV D h cy s.heap.size y) args s 0 0 (Az h s.heap.size)
theorem ent {l : Launch} {y : MethodName} {b : ByteArray} {n : Nat} {ret : Option FieldType} {f lo : Nat} {D : va_G} {h : Nat → Nat} {cy : Nat → ClassId} {av : List Value} {σ : St} {Qc : Nat → Array Value → State → Outcome → State → Prop} (hy : plainName y.cls = true) (hn : (lg_sl av).length ≤ n)
    (body : ∀ (p : Program) (e : Env) (s : State) (m : MethodId) (below : List Frame) (meth : Method) (c : Code) (ls : Array Slot), Cx p s m av.toArray c D h cy y.cls b n → Zt D h cy s σ s.heap [] → meth.sig.returnType = ret → meth.locks = false → lv_has ls n (lv_args 0 av) → W p l e (rmz f lo) s m av.toArray below meth c s.heap [] 0 0 (MQ below (Qc s.heap.size) av.toArray s 0 0 (Az h s.heap.size)) (F0 m 0 ls [])) :
    ∀ sz, Met l y (wz y b n ret) (rmz f lo) (Pz D h cy av σ sz) (Qc sz) 0 0 (Az h sz) := by
  intro sz
  refine Met.ofW (cc := b) (maxL := n) (ret := ret) hy rfl ?_
  intro p e s m args below meth c s₁ B hml hv
  obtain ⟨rfl, hsz, hP, hK, hj, hN⟩ := hv
  subst hsz
  have hts0 := atoms_spec (ws := wz y b n ret) B.pre
  have hl := lv_entry av (n := n) hn
  rw [lg_entry_eq]
  generalize (lg_sl av ++ List.replicate (n - (lg_sl av).length) Slot.unset).toArray = ls at hl ⊢
  exact body p e s m below meth c ls ⟨B.exec, B.bytes, hml, findClass_of_methodNamed B.named, fun w hw => hts0 w (List.mem_cons_of_mem _ hw), hK, hj, hN⟩ ⟨hP, va_S.rf⟩ B.returns B.notSynchronized hl
section RT
variable {p : Program} {l : Launch} {e : Env} {R : Room} {s : State} {m : MethodId} {args : Array Value} {below : List Frame} {meth : Method} {c : Code} {H : Heap} {locs : List Loc} {cells slots : Nat} {Q : State → Prop} {D : va_G} {h : Nat → Nat} {cy : Nat → ClassId} {σ : St} {own : String} {cc : ByteArray} {nL pc : Nat} {ls : Array Slot} {rest : List Value}
theorem Cx.x (X : Cx p s m args c D h cy own cc nL) : p.tables.exec = Jvm.exec := X.1
theorem Cx.b (X : Cx p s m args c D h cy own cc nL) : c.code = cc := X.2.1
theorem Cx.n (X : Cx p s m args c D h cy own cc nL) : c.maxLocals = nL := X.2.2.1
theorem Cx.o (X : Cx p s m args c D h cy own cc nL) : s.vm.findClass own = some m.cls := X.2.2.2.1
theorem Cx.t (X : Cx p s m args c D h cy own cc nL) : ∀ w ∈ GT, w.before args s = true := X.2.2.2.2.1
theorem Cx.k (X : Cx p s m args c D h cy own cc nL) : va_K D vwCl (tyL cy) s := X.2.2.2.2.2.1
theorem Cx.j (X : Cx p s m args c D h cy own cc nL) : Inj h := X.2.2.2.2.2.2.1
theorem Cx.w (X : Cx p s m args c D h cy own cc nL) : Nst s := X.2.2.2.2.2.2.2
theorem retI (X : Cx p s m args c D h cy own cc nL) (hr : meth.sig.returnType = some .int) (hk : meth.locks = false) (Z : Zt D h cy s σ H locs) {v : Int32} {y : Int32 × St} (hf : some (v, σ) = some y) (hdg : decode cc pc = .ok (.ireturn, 1)) : W p l e R s m args below meth c H locs 0 0 (EI below args s D h cy y) (F0 m pc ls [.int v]) := by
  cases hf
  exact W.iret (v := v) X.x X.b hr (fun t ht hW => ⟨⟨v, σ, rfl, ⟨rfl, rfl⟩, by show va_P _ _ _ t.heap; rw [ht]; exact Z.1⟩, Z.2.F ht⟩) Z.2.2.2 hdg
theorem retZ (X : Cx p s m args c D h cy own cc nL) (hr : meth.sig.returnType = some .boolean) (hk : meth.locks = false) (Z : Zt D h cy s σ H locs) {v : Int32} {y : Int32 × St} (hv : v = 0 ∨ v = 1) (hf : some (v, σ) = some y) (hdg : decode cc pc = .ok (.ireturn, 1)) : W p l e R s m args below meth c H locs 0 0 (EI below args s D h cy y) (F0 m pc ls [.int v]) := by
  cases hf
  exact W.zret (v := v) X.x X.b hr (by rcases hv with rfl | rfl <;> rfl) (fun t ht hW => ⟨⟨v, σ, rfl, ⟨rfl, rfl⟩, by show va_P _ _ _ t.heap; rw [ht]; exact Z.1⟩, Z.2.F ht⟩) Z.2.2.2 hdg
theorem retL (X : Cx p s m args c D h cy own cc nL) (hr : meth.sig.returnType = some .long) (hk : meth.locks = false) (Z : Zt D h cy s σ H locs) {v : Int64} {y : Int64 × St} (hf : some (v, σ) = some y) (hdg : decode cc pc = .ok (.lreturn, 1)) : W p l e R s m args below meth c H locs 0 0 (EL below args s D h cy y) (F0 m pc ls [.long v]) := by
  cases hf
  exact W.lret (v := v) X.x X.b hr (fun t ht hW => ⟨⟨v, σ, rfl, ⟨rfl, rfl⟩, by show va_P _ _ _ t.heap; rw [ht]; exact Z.1⟩, Z.2.F ht⟩) Z.2.2.2 hdg
theorem retV (X : Cx p s m args c D h cy own cc nL) (hr : meth.sig.returnType = none) (hk : meth.locks = false) (Z : Zt D h cy s σ H locs) {y : St} (hf : some σ = some y) (hdg : decode cc pc = .ok (.return_, 1)) : W p l e R s m args below meth c H locs 0 0 (EV below args s D h cy y) (F0 m pc ls []) := by
  cases hf
  exact W.vret X.x X.b hr (fun t ht hW => ⟨⟨σ, rfl, rfl, by show va_P _ _ _ t.heap; rw [ht]; exact Z.1⟩, Z.2.F ht⟩) Z.2.2.2 hdg
/-! fields -/
theorem x_get (X : Cx p s m args c D h cy own cc nL) (Z : Zt D h cy s σ H locs) {C : String} {T : u_T} {N ci index k : Nat} {f : (Nat → Nat) → (Nat → ClassId) → Ce} {fs : List Value} (hk : Sh k f) (hin : ∀ w ∈ u_ws C T N, w ∈ GT) (hc : vwCl[ci]? = some (C, T, N)) (j : Nat) (hj : j < N) (hl : Cond.fieldLink own index (T j).1 (T j).2.1 (T j).2.2.1 ∈ GT) (he : f h cy (σ.1 k) (σ.2 k) = .inr (ci, fs)) {v : Value} (hv : fs[j]? = some v) (hdg : decode cc pc = .ok (.getfield index, 3))
    (kk : W p l e R s m args below meth c H locs cells slots Q (F0 m (pc + 3) ls (v :: rest))) : W p l e R s m args below meth c H locs cells slots Q (F0 m pc ls (.ref (h k) :: rest)) :=
  va_get (D := D) (cl := vwCl) (ci := ci) (C := C) (T := T) (N := N) X.x X.b X.t hin X.o X.k Z.1 k (by rw [wd_at hk, he]) hc j hj (X.t _ hl) (fun _ h9 => h9) hv hdg kk
theorem x_put (X : Cx p s m args c D h cy own cc nL) (Z : Zt D h cy s σ H locs) {C : String} {T : u_T} {N ci index k : Nat} {f : (Nat → Nat) → (Nat → ClassId) → Ce} {fs : List Value} (hk : Sh k f) (hin : ∀ w ∈ u_ws C T N, w ∈ GT) (ty0 : Nat → FieldType) (hty : ∀ k, k < N → parseFieldDescriptor (T k).2.2.1 = some (ty0 k)) (hnm : ∀ a, a < N → ∀ b, b < N → a ≠ b → (T a).2.1 ≠ (T b).2.1) (hc : vwCl[ci]? = some (C, T, N)) (j : Nat) (hj : j < N) (hl : Cond.fieldLink own index (T j).1 (T j).2.1 (T j).2.2.1 ∈ GT) (hfin : (T j).2.2.2 = false) (he : f h cy (σ.1 k) (σ.2 k) = .inr (ci, fs)) {v : Value} (hn : narrow (ty0 j) v = v) (hfit : fits (ty0 j) v = true) (hjl : j < fs.length) (σ' : St) (hw : (wd h cy σ).set k (h k, .inr (ci, fs.set j v)) = wd h cy σ') (hdg : decode cc pc = .ok (.putfield index, 3))
    (kk : ∀ (σ2 : St) (H : Heap) (locs : List Loc), σ2 = σ' → Zt D h cy s σ2 H locs → W p l e R s m args below meth c H locs cells slots Q (F0 m (pc + 3) ls rest)) : W p l e R s m args below meth c H locs cells slots Q (F0 m pc ls (v :: .ref (h k) :: rest)) :=
  va_put (D := D) (cl := vwCl) (ci := ci) (C := C) (T := T) (N := N) X.x X.b X.t hin ty0 hty hnm X.o X.k Z.1 (wd_D X.j σ) Z.2 k (by rw [wd_at hk, he]) hc j hj (X.t _ hl) (fun _ h9 => h9) hfin (hty j hj) hn hfit hjl hdg (fun H1 l1 hP hD hS => kk _ H1 l1 rfl ⟨by rw [← hw]; exact hP, hS⟩)
/-! arrays -/
theorem in_of {i : Int32} {n : Nat} (hi : 0 ≤ i.toInt ∧ i.toInt < n) : vp_in i n := vp_in_iff.mpr hi
theorem x_iald (X : Cx p s m args c D h cy own cc nL) (Z : Zt D h cy s σ H locs) {k n : Nat} {i : Int32} (hk : Sh k (fun _ cy x _ => .inl (cy 1, n, .inl x))) (hi : 0 ≤ i.toInt ∧ i.toInt < n) (hdg : decode cc pc = .ok (.iaload, 1))
    (kk : W p l e R s m args below meth c H locs cells slots Q (F0 m (pc + 1) ls (.int (σ.1 k i.toNatClampNeg) :: rest))) : W p l e R s m args below meth c H locs cells slots Q (F0 m pc ls (.int i :: .ref (h k) :: rest)) :=
  va_iald X.x X.b X.k Z.1 k 1 (wd_at hk) rfl (in_of hi) hdg kk
theorem x_bald (X : Cx p s m args c D h cy own cc nL) (Z : Zt D h cy s σ H locs) {k n : Nat} {i : Int32} (hk : Sh k (fun _ cy x _ => .inl (cy 0, n, .inl x))) (hi : 0 ≤ i.toInt ∧ i.toInt < n) (hdg : decode cc pc = .ok (.baload, 1))
    (kk : W p l e R s m args below meth c H locs cells slots Q (F0 m (pc + 1) ls (.int (σ.1 k i.toNatClampNeg) :: rest))) : W p l e R s m args below meth c H locs cells slots Q (F0 m pc ls (.int i :: .ref (h k) :: rest)) :=
  va_bald X.x X.b X.k Z.1 k 0 (wd_at hk) rfl (in_of hi) hdg kk
theorem x_zald (X : Cx p s m args c D h cy own cc nL) (Z : Zt D h cy s σ H locs) {k n : Nat} {i : Int32} (hk : Sh k (fun _ cy x _ => .inl (cy 3, n, .inl x))) (hi : 0 ≤ i.toInt ∧ i.toInt < n) (hdg : decode cc pc = .ok (.baload, 1))
    (kk : W p l e R s m args below meth c H locs cells slots Q (F0 m (pc + 1) ls (.int (σ.1 k i.toNatClampNeg) :: rest))) : W p l e R s m args below meth c H locs cells slots Q (F0 m pc ls (.int i :: .ref (h k) :: rest)) :=
  va_zald X.x X.b X.k Z.1 k 3 (wd_at hk) rfl (in_of hi) hdg kk
theorem x_lald (X : Cx p s m args c D h cy own cc nL) (Z : Zt D h cy s σ H locs) {k n : Nat} {i : Int32} (hk : Sh k (fun _ cy _ y => .inl (cy 2, n, .inr (.inl y)))) (hi : 0 ≤ i.toInt ∧ i.toInt < n) (hdg : decode cc pc = .ok (.laload, 1))
    (kk : W p l e R s m args below meth c H locs cells slots Q (F0 m (pc + 1) ls (.long (σ.2 k i.toNatClampNeg) :: rest))) : W p l e R s m args below meth c H locs cells slots Q (F0 m pc ls (.int i :: .ref (h k) :: rest)) :=
  va_lald X.x X.b X.k Z.1 k 2 (wd_at hk) rfl (in_of hi) hdg kk
theorem x_iast (X : Cx p s m args c D h cy own cc nL) (Z : Zt D h cy s σ H locs) {k n : Nat} {i x : Int32} (hk : Sh k (fun _ cy x _ => .inl (cy 1, n, .inl x))) (hi : 0 ≤ i.toInt ∧ i.toInt < n) (hdg : decode cc pc = .ok (.iastore, 1))
    (kk : ∀ (σ2 : St) (H : Heap) (locs : List Loc), σ2 = sI σ k i.toNatClampNeg x → Zt D h cy s σ2 H locs → W p l e R s m args below meth c H locs cells slots Q (F0 m (pc + 1) ls rest)) : W p l e R s m args below meth c H locs cells slots Q (F0 m pc ls (.int x :: .int i :: .ref (h k) :: rest)) :=
  va_iast X.x X.b X.k Z.1 (wd_D X.j σ) Z.2 k 1 (wd_at hk) rfl (in_of hi) hdg (fun H1 l1 hP hD hS => kk _ H1 l1 rfl ⟨by rw [← wd_sI hk rfl]; exact hP, hS⟩)
theorem x_bast (X : Cx p s m args c D h cy own cc nL) (Z : Zt D h cy s σ H locs) {k n : Nat} {i x : Int32} (hk : Sh k (fun _ cy x _ => .inl (cy 0, n, .inl x))) (hi : 0 ≤ i.toInt ∧ i.toInt < n) (hdg : decode cc pc = .ok (.bastore, 1))
    (kk : ∀ (σ2 : St) (H : Heap) (locs : List Loc), σ2 = sI σ k i.toNatClampNeg (vp_nar .byte x) → Zt D h cy s σ2 H locs → W p l e R s m args below meth c H locs cells slots Q (F0 m (pc + 1) ls rest)) : W p l e R s m args below meth c H locs cells slots Q (F0 m pc ls (.int x :: .int i :: .ref (h k) :: rest)) :=
  va_bast X.x X.b X.k Z.1 (wd_D X.j σ) Z.2 k 0 (wd_at hk) rfl (in_of hi) hdg (fun H1 l1 hP hD hS => kk _ H1 l1 rfl ⟨by rw [← wd_sI hk rfl]; exact hP, hS⟩)
theorem x_zast (X : Cx p s m args c D h cy own cc nL) (Z : Zt D h cy s σ H locs) {k n : Nat} {i x : Int32} (hk : Sh k (fun _ cy x _ => .inl (cy 3, n, .inl x))) (hi : 0 ≤ i.toInt ∧ i.toInt < n) (hdg : decode cc pc = .ok (.bastore, 1))
    (kk : ∀ (σ2 : St) (H : Heap) (locs : List Loc), σ2 = sI σ k i.toNatClampNeg (vp_nar .boolean x) → Zt D h cy s σ2 H locs → W p l e R s m args below meth c H locs cells slots Q (F0 m (pc + 1) ls rest)) : W p l e R s m args below meth c H locs cells slots Q (F0 m pc ls (.int x :: .int i :: .ref (h k) :: rest)) :=
  va_zast X.x X.b X.k Z.1 (wd_D X.j σ) Z.2 k 3 (wd_at hk) rfl (in_of hi) hdg (fun H1 l1 hP hD hS => kk _ H1 l1 rfl ⟨by rw [← wd_sI hk rfl]; exact hP, hS⟩)
theorem x_last (X : Cx p s m args c D h cy own cc nL) (Z : Zt D h cy s σ H locs) {k n : Nat} {i : Int32} {x : Int64} (hk : Sh k (fun _ cy _ y => .inl (cy 2, n, .inr (.inl y)))) (hi : 0 ≤ i.toInt ∧ i.toInt < n) (hdg : decode cc pc = .ok (.lastore, 1))
    (kk : ∀ (σ2 : St) (H : Heap) (locs : List Loc), σ2 = sJ σ k i.toNatClampNeg x → Zt D h cy s σ2 H locs → W p l e R s m args below meth c H locs cells slots Q (F0 m (pc + 1) ls rest)) : W p l e R s m args below meth c H locs cells slots Q (F0 m pc ls (.long x :: .int i :: .ref (h k) :: rest)) :=
  va_last X.x X.b X.k Z.1 (wd_D X.j σ) Z.2 k 2 (wd_at hk) rfl (in_of hi) hdg (fun H1 l1 hP hD hS => kk _ H1 l1 rfl ⟨by rw [← wd_sJ hk rfl]; exact hP, hS⟩)
theorem x_blen (X : Cx p s m args c D h cy own cc nL) (Z : Zt D h cy s σ H locs) {k n : Nat} (hk : Sh k (fun _ cy x _ => .inl (cy 0, n, .inl x))) (hdg : decode cc pc = .ok (.arraylength, 1))
    (kk : W p l e R s m args below meth c H locs cells slots Q (F0 m (pc + 1) ls (.int (Int32.ofNat n) :: rest))) : W p l e R s m args below meth c H locs cells slots Q (F0 m pc ls (.ref (h k) :: rest)) :=
  va_alen X.x X.b X.k Z.1 k 0 (wd_at hk) rfl rfl hdg kk
theorem x_ilen (X : Cx p s m args c D h cy own cc nL) (Z : Zt D h cy s σ H locs) {k n : Nat} (hk : Sh k (fun _ cy x _ => .inl (cy 1, n, .inl x))) (hdg : decode cc pc = .ok (.arraylength, 1))
    (kk : W p l e R s m args below meth c H locs cells slots Q (F0 m (pc + 1) ls (.int (Int32.ofNat n) :: rest))) : W p l e R s m args below meth c H locs cells slots Q (F0 m pc ls (.ref (h k) :: rest)) :=
  va_alen X.x X.b X.k Z.1 k 1 (wd_at hk) rfl rfl hdg kk
theorem x_zlen (X : Cx p s m args c D h cy own cc nL) (Z : Zt D h cy s σ H locs) {k n : Nat} (hk : Sh k (fun _ cy x _ => .inl (cy 3, n, .inl x))) (hdg : decode cc pc = .ok (.arraylength, 1))
    (kk : W p l e R s m args below meth c H locs cells slots Q (F0 m (pc + 1) ls (.int (Int32.ofNat n) :: rest))) : W p l e R s m args below meth c H locs cells slots Q (F0 m pc ls (.ref (h k) :: rest)) :=
  va_alen X.x X.b X.k Z.1 k 3 (wd_at hk) rfl rfl hdg kk
/-! calls -/
def Lk (own : String) (idx : Nat) (y : MethodName) (b : ByteArray) (n : Nat) (ret : Option FieldType) (na : Nat) : Prop :=
  Cond.methodLink own idx y ∈ GT ∧ Cond.code y b n ret ∈ GT ∧ Cond.initialized y.cls ∈ GT ∧ (y.cls ≠ "java/lang/invoke/MethodHandle" ∧ y.cls ≠ "java/lang/invoke/VarHandle" ∧ (parseMethodDescriptor y.desc).map (fun d => d.parameters.length) = some na)
def LkV (own : String) (idx : Nat) (y : MethodName) (b : ByteArray) (n : Nat) (ret : Option FieldType) (na : Nat) : Prop := Lk own idx y b n ret na ∧ Cond.instanceMethod y ∈ GT ∧ Cond.selects y.cls y y ∈ GT
def LkS (own : String) (idx : Nat) (y : MethodName) (b : ByteArray) (n : Nat) (ret : Option FieldType) (na : Nat) : Prop := Lk own idx y b n ret na ∧ Cond.static y ∈ GT
def LkN (own : String) (idx : Nat) (y : MethodName) (b : ByteArray) (n : Nat) (ret : Option FieldType) (na : Nat) (host : String) : Prop :=
  Cond.methodLinkNest own idx y host ∈ NWs ∧ Cond.code y b n ret ∈ GT ∧ Cond.initialized y.cls ∈ GT ∧ (y.cls ≠ "java/lang/invoke/MethodHandle" ∧ y.cls ≠ "java/lang/invoke/VarHandle" ∧ (parseMethodDescriptor y.desc).map (fun d => d.parameters.length) = some na) ∧ Cond.static y ∈ GT
theorem Pz_blind {av : List Value} {sz : Nat} : FrameBlind (Pz D h cy av σ sz) := fun a U g mk q => by
  obtain ⟨q0, q1, qP, qK, qj, qN⟩ := q
  exact ⟨q0, q1, qP, va_K.moved (u := U) (U := U.calling g mk a) (Vm.Alike.refl U.vm) qK, qj, Nst.same (u := U) rfl qN⟩
theorem Pz_at (X : Cx p s m args c D h cy own cc nL) (Z : Zt D h cy s σ H locs) (av : List Value) : ∀ U : State, U.heap = H → s.WarmedH U.vm → Pz D h cy av σ H.size av.toArray U := fun U hU hW =>
  ⟨rfl, by rw [hU], by rw [hU]; exact Z.1, va_K.moved hW.alike X.k, X.j, X.w.warm hW⟩
theorem Az_le (Z : Zt D h cy s σ H locs) : ∀ q, Az h H.size q → Az h s.heap.size q := fun q hq => hq.elim Or.inl (fun g => Or.inr (Nat.le_trans Z.2.1 g))
theorem lkB (X : Cx p s m args c D h cy own cc nL) {idx n na f lo : Nat} {y : MethodName} {b : ByteArray} {ret : Option FieldType} (hL : Lk own idx y b n ret na) (hR : f + 1 ≤ R.frames ∧ 8 + (n + 11) + lo ≤ R.locals) : CallB R s args own idx y b n ret (wz y b n ret) (rmz f lo) 0 0 na :=
  callB_of na X.t (good_wz hL.2.1) rfl rfl rfl (X.t _ hL.2.2.1) (X.t _ hL.1) hL.2.2.2 hR
def Recv (C : String) (k : Nat) : Prop := ∃ (ci : Nat) (T : u_T) (N : Nat) (F : (Nat → Nat) → (Nat → ClassId) → (Nat → Int32) → (Nat → Int64) → List Value), vwCl[ci]? = some (C, T, N) ∧ Sh k (fun h cy x y => .inr (ci, F h cy x y))
theorem x_recv (X : Cx p s m args c D h cy own cc nL) (Z : Zt D h cy s σ H locs) {C : String} {k : Nat} (hr : Recv C k) : ∃ cellB : Cell, H[h k]? = some cellB ∧ cellB.vm.isStatics = false ∧ s.vm.findClass C = some cellB.cls := by
  obtain ⟨ci, T, N, F, h1, h2⟩ := hr
  exact va_recv X.k Z.1 h1 (wd_at h2)
theorem run_V (X : Cx p s m args c D h cy own cc nL) (Z : Zt D h cy s σ H locs) {idx n na f lo k : Nat} {y : MethodName} {b : ByteArray} {ret : Option FieldType} {As : List Value} {Qc : Array Value → State → Outcome → State → Prop} (hM : Met l y (wz y b n ret) (rmz f lo) (Pz D h cy (.ref (h k) :: As) σ H.size) Qc 0 0 (Az h H.size)) (hL : LkV own idx y b n ret na) (hR : f + 1 ≤ R.frames ∧ 8 + (n + 11) + lo ≤ R.locals) (hrv : Recv y.cls k) (hn : As.length = na) (hsz : ls.size = nL) {st0 : List Value} (hst : st0 = As.reverse ++ .ref (h k) :: rest) (hrm : (rest.map fun v => v.category).sum ≤ 8) (hcs : cells ≤ R.cells ∧ slots ≤ R.slots) (hdg : decode cc pc = .ok (.invokevirtual idx, 3)) :
    va_Run p l e R s m args below meth c H locs cells slots 0 0 (F0 m pc ls st0) rest (Qc (Value.ref (h k) :: As).toArray) (Az h H.size) :=
  va_runV (As := As) (rest := rest) ⟨X.x, X.b, X.n, X.o, X.t⟩ hM ⟨lkB X hL.1 hR, X.t _ hL.2.1, X.t _ hL.2.2⟩ ⟨Pz_blind, x_recv X Z hrv, Pz_at X Z _⟩ rfl hn hsz hst (lv_room hrm) hdg hcs
theorem run_S (X : Cx p s m args c D h cy own cc nL) (Z : Zt D h cy s σ H locs) {idx n na f lo : Nat} {y : MethodName} {b : ByteArray} {ret : Option FieldType} {As : List Value} {Qc : Array Value → State → Outcome → State → Prop} (hM : Met l y (wz y b n ret) (rmz f lo) (Pz D h cy As σ H.size) Qc 0 0 (Az h H.size)) (hL : LkS own idx y b n ret na) (hR : f + 1 ≤ R.frames ∧ 8 + (n + 11) + lo ≤ R.locals) (hn : As.length = na) (hsz : ls.size = nL) {st0 : List Value} (hst : st0 = As.reverse ++ rest) (hrm : (rest.map fun v => v.category).sum ≤ 8) (hcs : cells ≤ R.cells ∧ slots ≤ R.slots) (hdg : decode cc pc = .ok (.invokestatic idx, 3)) :
    va_Run p l e R s m args below meth c H locs cells slots 0 0 (F0 m pc ls st0) rest (Qc As.toArray) (Az h H.size) :=
  va_runS (As := As) (rest := rest) ⟨X.x, X.b, X.n, X.o, X.t⟩ hM ⟨lkB X hL.1 hR, X.t _ hL.2⟩ ⟨Pz_blind, Pz_at X Z _⟩ rfl hn hsz hst (lv_room hrm) hdg hcs
theorem run_N (X : Cx p s m args c D h cy own cc nL) (Z : Zt D h cy s σ H locs) {idx n na f lo : Nat} {y : MethodName} {b : ByteArray} {ret : Option FieldType} {host : String} {As : List Value} {Qc : Array Value → State → Outcome → State → Prop} (hM : Met l y (wz y b n ret) (rmz f lo) (Pz D h cy As σ H.size) Qc 0 0 (Az h H.size)) (hL : LkN own idx y b n ret na host) (hR : f + 1 ≤ R.frames ∧ 8 + (n + 11) + lo ≤ R.locals) (hn : As.length = na) (hsz : ls.size = nL) {st0 : List Value} (hst : st0 = As.reverse ++ rest) (hrm : (rest.map fun v => v.category).sum ≤ 8) (hcs : cells ≤ R.cells ∧ slots ≤ R.slots) (hdg : decode cc pc = .ok (.invokestatic idx, 3)) :
    va_Run p l e R s m args below meth c H locs cells slots 0 0 (F0 m pc ls st0) rest (Qc As.toArray) (Az h H.size) :=
  va_runSN (As := As) (rest := rest) ⟨X.x, X.b, X.n, X.o, X.t⟩ hM ⟨va_cnB na X.t (good_wz hL.2.1) rfl rfl rfl (X.w _ hL.1) (X.t _ hL.2.2.1) hL.2.2.2.1 hR, X.t _ hL.2.2.2.2, trivial⟩ ⟨Pz_blind, Pz_at X Z _⟩ rfl hn hsz hst (lv_room hrm) hdg hcs
theorem goI (Z : Zt D h cy s σ H locs) {st0 : List Value} {a : Array Value} {r : Int32} {σ1 : St} (hr : va_Run p l e R s m args below meth c H locs cells slots 0 0 (F0 m pc ls st0) rest (QI D h cy H.size (r, σ1) a) (Az h H.size))
    (kk : ∀ (H : Heap) (locs : List Loc), Zt D h cy s σ1 H locs → W p l e R s m args below meth c H locs cells slots Q (F0 m (pc + 3) ls (.int r :: rest))) : W p l e R s m args below meth c H locs cells slots Q (F0 m pc ls st0) :=
  va_calli hr Z.2 (fun q _ hq => Az_le Z q hq) (Az_le Z) (fun r1 u t H1 l1 ht hvm hw hB hz hk hS => by
    obtain ⟨rfl, rfl⟩ := hw
    exact kk H1 l1 ⟨by rw [← ht]; exact hB, hS⟩)
theorem goL (Z : Zt D h cy s σ H locs) {st0 : List Value} {a : Array Value} {r : Int64} {σ1 : St} (hr : va_Run p l e R s m args below meth c H locs cells slots 0 0 (F0 m pc ls st0) rest (QL D h cy H.size (r, σ1) a) (Az h H.size))
    (kk : ∀ (H : Heap) (locs : List Loc), Zt D h cy s σ1 H locs → W p l e R s m args below meth c H locs cells slots Q (F0 m (pc + 3) ls (.long r :: rest))) : W p l e R s m args below meth c H locs cells slots Q (F0 m pc ls st0) :=
  va_calll hr Z.2 (fun q _ hq => Az_le Z q hq) (Az_le Z) (fun r1 u t H1 l1 ht hvm hw hB hz hk hS => by
    obtain ⟨rfl, rfl⟩ := hw
    exact kk H1 l1 ⟨by rw [← ht]; exact hB, hS⟩)
theorem goV (Z : Zt D h cy s σ H locs) {st0 : List Value} {a : Array Value} {y : St} (hr : va_Run p l e R s m args below meth c H locs cells slots 0 0 (F0 m pc ls st0) rest (QV D h cy H.size y a) (Az h H.size))
    (kk : ∀ (H : Heap) (locs : List Loc), Zt D h cy s y H locs → W p l e R s m args below meth c H locs cells slots Q (F0 m (pc + 3) ls rest)) : W p l e R s m args below meth c H locs cells slots Q (F0 m pc ls st0) :=
  va_callv hr Z.2 (fun q _ hq => Az_le Z q hq) (Az_le Z) (fun u t H1 l1 ht hvm hw hB hz hk hS => by
    subst hw
    exact kk H1 l1 ⟨by rw [← ht]; exact hB, hS⟩)
/-! a long compare and its branch -/
theorem x_lif_eq (X : Cx p s m args c D h cy own cc nL) {x y : Int64} {off : Int} {tgt : Nat} (hd1 : decode cc pc = .ok (.lcmp, 1)) (hd2 : decode cc (pc + 1) = .ok (.ifCond .eq off, 3)) (ht : ((pc + 1 : Nat) : Int) + off = (tgt : Int)) (kt : x = y → W p l e R s m args below meth c H locs cells slots Q (F0 m tgt ls rest)) (kf : ¬ (x = y) → W p l e R s m args below meth c H locs cells slots Q (F0 m (pc + 4) ls rest)) : W p l e R s m args below meth c H locs cells slots Q (F0 m pc ls (.long y :: .long x :: rest)) :=
  W.lcmp X.x X.b hd1 (lv_if_eq X.x X.b hd2 ht (fun hc => kt ((zcmp_eq x y).mp hc)) (fun hc => kf (fun q => hc ((zcmp_eq x y).mpr q))))
theorem x_lif_ne (X : Cx p s m args c D h cy own cc nL) {x y : Int64} {off : Int} {tgt : Nat} (hd1 : decode cc pc = .ok (.lcmp, 1)) (hd2 : decode cc (pc + 1) = .ok (.ifCond .ne off, 3)) (ht : ((pc + 1 : Nat) : Int) + off = (tgt : Int)) (kt : ¬ x = y → W p l e R s m args below meth c H locs cells slots Q (F0 m tgt ls rest)) (kf : x = y → W p l e R s m args below meth c H locs cells slots Q (F0 m (pc + 4) ls rest)) : W p l e R s m args below meth c H locs cells slots Q (F0 m pc ls (.long y :: .long x :: rest)) :=
  W.lcmp X.x X.b hd1 (lv_if_ne X.x X.b hd2 ht (fun hc => kt ((zcmp_ne x y).mp hc)) (fun hc => kf ((zcmp_eq x y).mp hc)))
theorem x_lif_lt (X : Cx p s m args c D h cy own cc nL) {x y : Int64} {off : Int} {tgt : Nat} (hd1 : decode cc pc = .ok (.lcmp, 1)) (hd2 : decode cc (pc + 1) = .ok (.ifCond .lt off, 3)) (ht : ((pc + 1 : Nat) : Int) + off = (tgt : Int)) (kt : x < y → W p l e R s m args below meth c H locs cells slots Q (F0 m tgt ls rest)) (kf : ¬ (x < y) → W p l e R s m args below meth c H locs cells slots Q (F0 m (pc + 4) ls rest)) : W p l e R s m args below meth c H locs cells slots Q (F0 m pc ls (.long y :: .long x :: rest)) :=
  W.lcmp X.x X.b hd1 (lv_if_lt X.x X.b hd2 ht (fun hc => kt ((zcmp_lt x y).mp hc)) (fun hc => kf (fun q => hc ((zcmp_lt x y).mpr q))))
theorem x_lif_ge (X : Cx p s m args c D h cy own cc nL) {x y : Int64} {off : Int} {tgt : Nat} (hd1 : decode cc pc = .ok (.lcmp, 1)) (hd2 : decode cc (pc + 1) = .ok (.ifCond .ge off, 3)) (ht : ((pc + 1 : Nat) : Int) + off = (tgt : Int)) (kt : y ≤ x → W p l e R s m args below meth c H locs cells slots Q (F0 m tgt ls rest)) (kf : ¬ (y ≤ x) → W p l e R s m args below meth c H locs cells slots Q (F0 m (pc + 4) ls rest)) : W p l e R s m args below meth c H locs cells slots Q (F0 m pc ls (.long y :: .long x :: rest)) :=
  W.lcmp X.x X.b hd1 (lv_if_ge X.x X.b hd2 ht (fun hc => kt ((zcmp_ge x y).mp hc)) (fun hc => kf (fun q => hc ((zcmp_ge x y).mpr q))))
theorem x_lif_gt (X : Cx p s m args c D h cy own cc nL) {x y : Int64} {off : Int} {tgt : Nat} (hd1 : decode cc pc = .ok (.lcmp, 1)) (hd2 : decode cc (pc + 1) = .ok (.ifCond .gt off, 3)) (ht : ((pc + 1 : Nat) : Int) + off = (tgt : Int)) (kt : y < x → W p l e R s m args below meth c H locs cells slots Q (F0 m tgt ls rest)) (kf : ¬ (y < x) → W p l e R s m args below meth c H locs cells slots Q (F0 m (pc + 4) ls rest)) : W p l e R s m args below meth c H locs cells slots Q (F0 m pc ls (.long y :: .long x :: rest)) :=
  W.lcmp X.x X.b hd1 (lv_if_gt X.x X.b hd2 ht (fun hc => kt ((zcmp_gt x y).mp hc)) (fun hc => kf (fun q => hc ((zcmp_gt x y).mpr q))))
theorem x_lif_le (X : Cx p s m args c D h cy own cc nL) {x y : Int64} {off : Int} {tgt : Nat} (hd1 : decode cc pc = .ok (.lcmp, 1)) (hd2 : decode cc (pc + 1) = .ok (.ifCond .le off, 3)) (ht : ((pc + 1 : Nat) : Int) + off = (tgt : Int)) (kt : x ≤ y → W p l e R s m args below meth c H locs cells slots Q (F0 m tgt ls rest)) (kf : ¬ (x ≤ y) → W p l e R s m args below meth c H locs cells slots Q (F0 m (pc + 4) ls rest)) : W p l e R s m args below meth c H locs cells slots Q (F0 m pc ls (.long y :: .long x :: rest)) :=
  W.lcmp X.x X.b hd1 (lv_if_le X.x X.b hd2 ht (fun hc => kt ((zcmp_le x y).mp hc)) (fun hc => kf (fun q => hc ((zcmp_le x y).mpr q))))
/-! a block copy -/
abbrev cpOk (σ : St) (k0 n0 n1 : Nat) (sp dp n : Int32) : Prop := ¬ sp < 0 ∧ ¬ dp < 0 ∧ ¬ n < 0 ∧ sp.toNatClampNeg + n.toNatClampNeg ≤ n0 ∧ dp.toNatClampNeg + n.toNatClampNeg ≤ n1 ∧ ∀ i, i < n.toNatClampNeg → fits .byte (.int (σ.1 k0 (sp.toNatClampNeg + i))) = true
theorem x_copyb (X : Cx p s m args c D h cy own cc nL) (Z : Zt D h cy s σ H locs) (hsz : ls.size = nL) {k0 k1 n0 n1 idx : Nat} (h0 : Sh k0 (fun _ cy x _ => .inl (cy 0, n0, .inl x))) (h1 : Sh k1 (fun _ cy x _ => .inl (cy 0, n1, .inl x))) {sp dp n : Int32} (hg : cpOk σ k0 n0 n1 sp dp n) (hlk : Cond.methodLink own idx arraycopyName ∈ GT) (hfr : 1 ≤ R.frames) (hlo : (rest.map fun v => v.category).sum + (nativeFrameWords "java/lang/System" "arraycopy" 5 + 11) ≤ R.locals) (hdg : decode cc pc = .ok (.invokestatic idx, 3))
    (kk : ∀ (σ2 : St) (H : Heap) (locs : List Loc), σ2 = sR σ k1 (va_cpy (σ.1 k0) (σ.1 k1) sp.toNatClampNeg dp.toNatClampNeg n.toNatClampNeg) → Zt D h cy s σ2 H locs → W p l e R s m args below meth c H locs cells slots Q (F0 m (pc + 3) ls rest)) : W p l e R s m args below meth c H locs cells slots Q (F0 m pc ls (.int n :: .int dp :: .ref (h k1) :: .int sp :: .ref (h k0) :: rest)) :=
  va_copyi X.x X.b (by rw [X.n, hsz]) X.o (X.t _ hlk) (X.t _ ac_nat) (X.t _ ac_st) (X.t _ ac_in) X.k Z.1 (wd_D X.j σ) Z.2 k0 k1 0 0 (wd_at h0) (wd_at h1) rfl rfl rfl hg.1 hg.2.1 hg.2.2.1 hg.2.2.2.1 hg.2.2.2.2.1 hg.2.2.2.2.2 hfr hlo hdg (fun H1 l1 hP hD hS => kk _ H1 l1 rfl ⟨by rw [← wd_sR h1 rfl]; exact hP, hS⟩)
end RT
end
section
def zushr (x y : Int32) : Int32 := (x.toUInt32 >>> (y.toUInt32 &&& Int32.toUInt32 31)).toInt32
def zlshl (x : Int64) (y : Int32) : Int64 := x <<< (y.toInt64 &&& 63)
def zlshr (x : Int64) (y : Int32) : Int64 := x >>> (y.toInt64 &&& 63)
def zlushr (x : Int64) (y : Int32) : Int64 := (x.toUInt64 >>> (y.toInt64.toUInt64 &&& Int64.toUInt64 63)).toInt64
theorem tsw_out {x : Int32} (n : Nat) (h : ∀ i : Nat, i < n → ¬ x = Int32.ofNat i) : x.toInt < 0 ∨ ((n : Int) - 1) < x.toInt := by
  rcases Int.lt_or_le x.toInt 0 with h0 | h0
  · exact Or.inl h0
  · refine Or.inr ?_
    rcases Int.lt_or_le x.toInt n with h1 | h1
    · exfalso
      refine h x.toInt.toNat (by omega) ?_
      rw [← Int32.toInt_inj, Int32.toInt_ofNat_of_lt (by have := x.toInt_lt; omega)]
      omega
    · omega

def f_X7_clear (k0 : Nat) (σ : St) : Option (St) :=
  zn (sI σ k0 4 (0 : Int32)) fun s1 => some s1

def f_X0_forget (σ : St) : Option (St) :=
  bv (f_X7_clear 41 σ) fun s2 => zn (sI s2 40 3 (0 : Int32)) fun s3 => zn (sI s3 40 4 (0 : Int32)) fun s4 => zn (sI s4 40 5 (0 : Int32)) fun s5 => zn (sI s5 40 6 (0 : Int32)) fun s6 => zn (sI s6 40 7 (0 : Int32)) fun s7 => zn (sI s7 40 8 (0 : Int32)) fun s8 => zn (sI s8 40 9 (0 : Int32)) fun s9 => zn (sI s9 40 10 (0 : Int32)) fun s10 => zn (sI s10 40 11 (0 : Int32)) fun s11 => some s11

def f_X2_unless (a1 : Int32) (a2 : Int32) (a3 : Int32) (σ : St) : Option (Int32 × St) :=
  if a1 = 0 then (zn (sI σ 39 0 a2) fun s3 => zn (sI s3 39 1 a3) fun s4 => gd (a1 = 0 ∨ a1 = 1) (some (a1, s4))) else (gd (a1 = 0 ∨ a1 = 1) (some (a1, σ)))

def f_X6_number_51 (k0 n0 : Nat) (K7 : (Int32 × Int64 × Int32 × St) → Option (Int64 × St)) (x1 : Int32) (x5 : Int32) (t0 : Int32) (t1 : Int64) (σ : St) : Option (Int64 × St) :=
  zn (t1 ||| t0.toInt64) fun v6 => zn (x5 + (-1)) fun v7 => K7 (x1, v6, v7, σ)

def f_X6_number_50 (k0 n0 : Nat) (K7 : (Int32 × Int64 × Int32 × St) → Option (Int64 × St)) (x1 : Int32) (x5 : Int32) (t0 : Int64) (σ : St) : Option (Int64 × St) :=
  f_X6_number_51 k0 n0 K7 x1 x5 (0 : Int32) t0 σ

def f_X6_number_7b (k0 n0 : Nat) (K7 : (Int32 × Int64 × Int32 × St) → Option (Int64 × St)) (x1 : Int32) (x3 : Int64) (x5 : Int32) (σ : St) : Option (Int64 × St) :=
  if x5 < 0 then (some (x3, σ)) else (zn (x1 + x5) fun v4 => if v4 < 0 then (f_X6_number_50 k0 n0 K7 x1 x5 ((zlshl x3 (8 : Int32))) σ) else (if (σ.1 k0 1) ≤ v4 then (f_X6_number_50 k0 n0 K7 x1 x5 ((zlshl x3 (8 : Int32))) σ) else (gd (ib v4 n0) (f_X6_number_51 k0 n0 K7 x1 x5 (((σ.1 (k0 + 1) v4.toNatClampNeg) &&& (255 : Int32))) ((zlshl x3 (8 : Int32))) σ))))

def f_X6_number_7 (k0 n0 : Nat) (x1 : Int32) (x3 : Int64) (x5 : Int32) (σ : St) : Option (Int64 × St) :=
  it (fun K a => f_X6_number_7b k0 n0 K a.1 a.2.1 a.2.2.1 a.2.2.2) FU (x1, x3, x5, σ)

def f_X6_number (k0 n0 : Nat) (a1 : Int32) (a2 : Int32) (σ : St) : Option (Int64 × St) :=
  zn (0 : Int64) fun v1 => zn ((a2 - (1 : Int32))) fun v2 => f_X6_number_7 k0 n0 a1 v1 v2 σ

def f_X0_u4 (a1 : Int32) (σ : St) : Option (Int64 × St) :=
  bi (f_X6_number 3 6400 a1 (4 : Int32) σ) fun r3 s2 => some (r3, s2)

def f_X0_headHolds_126 (t0 : Int32) (σ : St) : Option (Int32 × St) :=
  bi (f_X2_unless t0 (1 : Int32) (20 : Int32) σ) fun r28 s27 => if r28 = 0 then (some ((0 : Int32), s27)) else (some ((1 : Int32), s27))

def f_X0_headHolds_86 (t0 : Int32) (σ : St) : Option (Int32 × St) :=
  bi (f_X2_unless t0 (3 : Int32) (16 : Int32) σ) fun r20 s19 => if r20 = 0 then (some ((0 : Int32), s19)) else (bi (f_X0_u4 (20 : Int32) s19) fun r24 s23 => if (s23.1 3 1).toInt64 < ((32 : Int64) + r24) then (f_X0_headHolds_126 (0 : Int32) s23) else (f_X0_headHolds_126 (1 : Int32) s23))

def f_X0_headHolds_56 (t0 : Int32) (σ : St) : Option (Int32 × St) :=
  bi (f_X2_unless t0 (2 : Int32) (0 : Int32) σ) fun r12 s11 => if r12 = 0 then (some ((0 : Int32), s11)) else (bi (f_X0_u4 (16 : Int32) s11) fun r16 s15 => if (16 : Int64) < r16 then (f_X0_headHolds_86 (0 : Int32) s15) else (f_X0_headHolds_86 (1 : Int32) s15))

def f_X0_headHolds_21 (t0 : Int32) (σ : St) : Option (Int32 × St) :=
  bi (f_X2_unless t0 (1 : Int32) (σ.1 3 1) σ) fun r4 s3 => if r4 = 0 then (some ((0 : Int32), s3)) else (bi (f_X0_u4 (0 : Int32) s3) fun r8 s7 => if r8 = (4277009103 : Int64) then (f_X0_headHolds_56 (1 : Int32) s7) else (f_X0_headHolds_56 (0 : Int32) s7))

def f_X0_headHolds (σ : St) : Option (Int32 × St) :=
  if (σ.1 3 1) < (32 : Int32) then (f_X0_headHolds_21 (0 : Int32) σ) else (f_X0_headHolds_21 (1 : Int32) σ)

def f_X0_sizeHolds_70 (x1 : Int32) (t0 : Int32) (σ : St) : Option (Int32 × St) :=
  bi (f_X2_unless t0 (3 : Int32) ((x1 + (4 : Int32))) σ) fun r12 s11 => if r12 = 0 then (some ((0 : Int32), s11)) else (some ((1 : Int32), s11))

def f_X0_sizeHolds_69 (x1 : Int32) (σ : St) : Option (Int32 × St) :=
  f_X0_sizeHolds_70 x1 (0 : Int32) σ

def f_X0_sizeHolds_25 (x1 : Int32) (x2 : Int32) (x3 : Int64) (t0 : Int32) (σ : St) : Option (Int32 × St) :=
  bi (f_X2_unless t0 (3 : Int32) x1 σ) fun r7 s6 => if r7 = 0 then (some ((0 : Int32), s6)) else (if x3 < (8 : Int64) then (f_X0_sizeHolds_69 x1 s6) else (if (x3 - x3 / (8 : Int64) * (8 : Int64)) = (0 : Int64) then (if x2.toInt64 < (x1.toInt64 + x3) then (f_X0_sizeHolds_69 x1 s6) else (f_X0_sizeHolds_70 x1 (1 : Int32) s6)) else (f_X0_sizeHolds_69 x1 s6)))

def f_X0_sizeHolds (a1 : Int32) (a2 : Int32) (σ : St) : Option (Int32 × St) :=
  bi (f_X0_u4 ((a1 + (4 : Int32))) σ) fun r3 s2 => if (a2 - a1) < (8 : Int32) then (f_X0_sizeHolds_25 a1 a2 r3 (0 : Int32) s2) else (f_X0_sizeHolds_25 a1 a2 r3 (1 : Int32) s2)

def f_X0_chainsHold_95 (x1 : Int32) (t0 : Int32) (σ : St) : Option (Int32 × St) :=
  bi (f_X2_unless t0 (1 : Int32) ((x1 + (8 : Int32))) σ) fun r23 s22 => if r23 = 0 then (some ((0 : Int32), s22)) else (zn (sI s22 40 9 (1 : Int32)) fun s25 => bi (f_X0_u4 ((x1 + (8 : Int32))) s25) fun r28 s27 => zn (sI s27 40 10 r28.toInt32) fun s29 => bi (f_X0_u4 ((x1 + (12 : Int32))) s29) fun r32 s31 => zn (sI s31 40 11 r32.toInt32) fun s33 => some ((1 : Int32), s33))

def f_X0_chainsHold_47 (x1 : Int32) (t0 : Int32) (σ : St) : Option (Int32 × St) :=
  bi (f_X2_unless t0 (3 : Int32) ((x1 + (4 : Int32))) σ) fun r12 s11 => if r12 = 0 then (some ((0 : Int32), s11)) else (bi (f_X0_u4 ((x1 + (8 : Int32))) s11) fun r16 s15 => bi (f_X0_u4 ((x1 + (12 : Int32))) s15) fun r19 s18 => if (s18.1 3 1).toInt64 < (r16 + r19) then (f_X0_chainsHold_95 x1 (0 : Int32) s18) else (f_X0_chainsHold_95 x1 (1 : Int32) s18))

def f_X0_chainsHold_16 (x1 : Int32) (t0 : Int32) (σ : St) : Option (Int32 × St) :=
  bi (f_X2_unless t0 (3 : Int32) x1 σ) fun r4 s3 => if r4 = 0 then (some ((0 : Int32), s3)) else (bi (f_X0_u4 ((x1 + (4 : Int32))) s3) fun r8 s7 => if r8 = (16 : Int64) then (f_X0_chainsHold_47 x1 (1 : Int32) s7) else (f_X0_chainsHold_47 x1 (0 : Int32) s7))

def f_X0_chainsHold (a1 : Int32) (σ : St) : Option (Int32 × St) :=
  if (σ.1 40 9) = 0 then (f_X0_chainsHold_16 a1 (1 : Int32) σ) else (f_X0_chainsHold_16 a1 (0 : Int32) σ)

def f_X0_symtabHolds_178 (x1 : Int32) (x2 : Int64) (t0 : Int32) (σ : St) : Option (Int32 × St) :=
  bi (f_X2_unless t0 (1 : Int32) ((x1 + (16 : Int32))) σ) fun r39 s38 => if r39 = 0 then (some ((0 : Int32), s38)) else (zn (sI s38 40 4 (1 : Int32)) fun s41 => bi (f_X0_u4 ((x1 + (8 : Int32))) s41) fun r44 s43 => zn (sI s43 40 6 r44.toInt32) fun s45 => zn (sI s45 40 5 x2.toInt32) fun s46 => bi (f_X0_u4 ((x1 + (16 : Int32))) s46) fun r49 s48 => zn (sI s48 40 7 r49.toInt32) fun s50 => bi (f_X0_u4 ((x1 + (20 : Int32))) s50) fun r53 s52 => zn (sI s52 40 8 r53.toInt32) fun s54 => some ((1 : Int32), s54))

def f_X0_symtabHolds_129 (x1 : Int32) (x2 : Int64) (t0 : Int32) (σ : St) : Option (Int32 × St) :=
  bi (f_X2_unless t0 (1 : Int32) ((x1 + (8 : Int32))) σ) fun r28 s27 => if r28 = 0 then (some ((0 : Int32), s27)) else (bi (f_X0_u4 ((x1 + (16 : Int32))) s27) fun r32 s31 => bi (f_X0_u4 ((x1 + (20 : Int32))) s31) fun r35 s34 => if (s34.1 3 1).toInt64 < (r32 + r35) then (f_X0_symtabHolds_178 x1 x2 (0 : Int32) s34) else (f_X0_symtabHolds_178 x1 x2 (1 : Int32) s34))

def f_X0_symtabHolds_83 (x1 : Int32) (x2 : Int64) (t0 : Int32) (σ : St) : Option (Int32 × St) :=
  bi (f_X2_unless t0 (3 : Int32) ((x1 + (12 : Int32))) σ) fun r20 s19 => if r20 = 0 then (some ((0 : Int32), s19)) else (bi (f_X0_u4 ((x1 + (8 : Int32))) s19) fun r24 s23 => if (s23.1 3 1).toInt64 < (r24 + ((16 : Int64) * x2)) then (f_X0_symtabHolds_129 x1 x2 (0 : Int32) s23) else (f_X0_symtabHolds_129 x1 x2 (1 : Int32) s23))

def f_X0_symtabHolds_56 (x1 : Int32) (x2 : Int64) (t0 : Int32) (σ : St) : Option (Int32 × St) :=
  bi (f_X2_unless t0 (3 : Int32) ((x1 + (4 : Int32))) σ) fun r15 s14 => if r15 = 0 then (some ((0 : Int32), s14)) else (if (64 : Int64) < x2 then (f_X0_symtabHolds_83 x1 x2 (0 : Int32) s14) else (f_X0_symtabHolds_83 x1 x2 (1 : Int32) s14))

def f_X0_symtabHolds_25 (x1 : Int32) (x2 : Int64) (t0 : Int32) (σ : St) : Option (Int32 × St) :=
  bi (f_X2_unless t0 (3 : Int32) x1 σ) fun r7 s6 => if r7 = 0 then (some ((0 : Int32), s6)) else (bi (f_X0_u4 ((x1 + (4 : Int32))) s6) fun r11 s10 => if r11 = (24 : Int64) then (f_X0_symtabHolds_56 x1 x2 (1 : Int32) s10) else (f_X0_symtabHolds_56 x1 x2 (0 : Int32) s10))

def f_X0_symtabHolds (a1 : Int32) (σ : St) : Option (Int32 × St) :=
  bi (f_X0_u4 ((a1 + (12 : Int32))) σ) fun r3 s2 => if (s2.1 40 4) = 0 then (f_X0_symtabHolds_25 a1 r3 (1 : Int32) s2) else (f_X0_symtabHolds_25 a1 r3 (0 : Int32) s2)

def f_X0_u8 (a1 : Int32) (σ : St) : Option (Int64 × St) :=
  bi (f_X6_number 3 6400 a1 (8 : Int32) σ) fun r3 s2 => some (r3, s2)

def f_X0_numberHolds_29 (x1 : Int32) (t0 : Int32) (σ : St) : Option (Int32 × St) :=
  bi (f_X2_unless t0 (5 : Int32) x1 σ) fun r7 s6 => gd (r7 = 0 ∨ r7 = 1) (some (r7, s6))

def f_X0_numberHolds_28 (x1 : Int32) (σ : St) : Option (Int32 × St) :=
  f_X0_numberHolds_29 x1 (0 : Int32) σ

def f_X0_numberHolds (a1 : Int32) (σ : St) : Option (Int32 × St) :=
  bi (f_X0_u8 a1 σ) fun r3 s2 => if r3 < (0 : Int64) then (f_X0_numberHolds_28 a1 s2) else (if (2147483647 : Int64) < r3 then (f_X0_numberHolds_28 a1 s2) else (f_X0_numberHolds_29 a1 (1 : Int32) s2))

def f_X0_segmentHolds_93 (x1 : Int32) (t0 : Int32) (σ : St) : Option (Int32 × St) :=
  bi (f_X2_unless t0 (3 : Int32) ((x1 + (4 : Int32))) σ) fun r20 s19 => if r20 = 0 then (some ((0 : Int32), s19)) else (bi (f_X0_numberHolds ((x1 + (24 : Int32))) s19) fun r24 s23 => if r24 = 0 then (some ((0 : Int32), s23)) else (bi (f_X0_numberHolds ((x1 + (32 : Int32))) s23) fun r28 s27 => if r28 = 0 then (some ((0 : Int32), s27)) else (bi (f_X0_numberHolds ((x1 + (40 : Int32))) s27) fun r32 s31 => if r32 = 0 then (some ((0 : Int32), s31)) else (bi (f_X0_numberHolds ((x1 + (48 : Int32))) s31) fun r36 s35 => if r36 = 0 then (some ((0 : Int32), s35)) else (some ((1 : Int32), s35))))))

def f_X0_segmentHolds_53 (x1 : Int32) (x2 : Int64) (t0 : Int32) (σ : St) : Option (Int32 × St) :=
  bi (f_X2_unless t0 (3 : Int32) ((x1 + (4 : Int32))) σ) fun r12 s11 => if r12 = 0 then (some ((0 : Int32), s11)) else (bi (f_X0_u4 ((x1 + (64 : Int32))) s11) fun r16 s15 => if x2 = ((72 : Int64) + ((80 : Int64) * r16)) then (f_X0_segmentHolds_93 x1 (1 : Int32) s15) else (f_X0_segmentHolds_93 x1 (0 : Int32) s15))

def f_X0_segmentHolds_28 (x1 : Int32) (x2 : Int64) (t0 : Int32) (σ : St) : Option (Int32 × St) :=
  bi (f_X2_unless t0 (3 : Int32) x1 σ) fun r7 s6 => if r7 = 0 then (some ((0 : Int32), s6)) else (if x2 < (72 : Int64) then (f_X0_segmentHolds_53 x1 x2 (0 : Int32) s6) else (f_X0_segmentHolds_53 x1 x2 (1 : Int32) s6))

def f_X0_segmentHolds (a1 : Int32) (σ : St) : Option (Int32 × St) :=
  bi (f_X0_u4 ((a1 + (4 : Int32))) σ) fun r3 s2 => if (4 : Int32) ≤ (s2.1 41 4) then (f_X0_segmentHolds_28 a1 r3 (0 : Int32) s2) else (f_X0_segmentHolds_28 a1 r3 (1 : Int32) s2)

def f_X7_spanOfAll_4b (k0 : Nat) (K4 : (Int32 × Int32 × St) → Option (Int32 × St)) (x1 : Int32) (x2 : Int32) (σ : St) : Option (Int32 × St) :=
  if (σ.1 k0 4) ≤ x2 then (some (x1, σ)) else (gd (ib x2 4) (zn ((x1 + (σ.1 (k0 + 2) x2.toNatClampNeg))) fun v5 => zn (x2 + 1) fun v6 => K4 (v5, v6, σ)))

def f_X7_spanOfAll_4 (k0 : Nat) (x1 : Int32) (x2 : Int32) (σ : St) : Option (Int32 × St) :=
  it (fun K a => f_X7_spanOfAll_4b k0 K a.1 a.2.1 a.2.2) FU (x1, x2, σ)

def f_X7_spanOfAll (k0 : Nat) (σ : St) : Option (Int32 × St) :=
  zn (0 : Int32) fun v1 => zn (0 : Int32) fun v2 => f_X7_spanOfAll_4 k0 v1 v2 σ

def f_J9_min_f86c9 (a0 : Int64) (a1 : Int64) (σ : St) : Option (Int64 × St) :=
  if a1 < a0 then (some (a1, σ)) else (some (a0, σ))

def f_J9_max_f86c9 (a0 : Int64) (a1 : Int64) (σ : St) : Option (Int64 × St) :=
  if a0 < a1 then (some (a1, σ)) else (some (a0, σ))

def f_X7_shareByte_3b (k0 : Nat) (K3 : (Int64 × Int64 × Int32 × St) → Option (Int32 × St)) (x1 : Int64) (x3 : Int64) (x5 : Int32) (σ : St) : Option (Int32 × St) :=
  if (σ.1 k0 4) ≤ x5 then (some ((0 : Int32), σ)) else (gd (ib x5 4) (gd (ib x5 4) (bi (f_J9_min_f86c9 (x1 + x3) ((((σ.1 (k0 + 1) x5.toNatClampNeg)).toInt64 + ((σ.1 (k0 + 2) x5.toNatClampNeg)).toInt64)) σ) fun r7 s6 => gd (ib x5 4) (bi (f_J9_max_f86c9 x1 (((s6.1 (k0 + 1) x5.toNatClampNeg)).toInt64) s6) fun r11 s10 => if r7 ≤ r11 then (zn (x5 + 1) fun v13 => K3 (x1, x3, v13, s10)) else (some ((1 : Int32), s10))))))

def f_X7_shareByte_3 (k0 : Nat) (x1 : Int64) (x3 : Int64) (x5 : Int32) (σ : St) : Option (Int32 × St) :=
  it (fun K a => f_X7_shareByte_3b k0 K a.1 a.2.1 a.2.2.1 a.2.2.2) FU (x1, x3, x5, σ)

def f_X7_shareByte (k0 : Nat) (a1 : Int64) (a2 : Int64) (σ : St) : Option (Int32 × St) :=
  zn (0 : Int32) fun v1 => f_X7_shareByte_3 k0 a1 a2 v1 σ

def f_X7_add (k0 : Nat) (a1 : Int32) (a2 : Int32) (a3 : Int32) (a4 : Int32) (σ : St) : Option (St) :=
  if (4 : Int32) ≤ (σ.1 k0 4) then (some σ) else (gd (ib (σ.1 k0 4) 4) (zn (sI σ (k0 + 1) (σ.1 k0 4).toNatClampNeg a1) fun s3 => gd (ib (s3.1 k0 4) 4) (zn (sI s3 (k0 + 2) (s3.1 k0 4).toNatClampNeg a2) fun s5 => gd (ib (s5.1 k0 4) 4) (zn (sI s5 (k0 + 3) (s5.1 k0 4).toNatClampNeg a3) fun s7 => gd (ib (s7.1 k0 4) 4) (zn (sI s7 (k0 + 4) (s7.1 k0 4).toNatClampNeg a4) fun s9 => zn (sI s9 k0 4 (((s9.1 k0 4) + (1 : Int32)))) fun s10 => some s10)))))

def f_X0_spanHolds_196 (x1 : Int32) (x2 : Int64) (x4 : Int64) (x6 : Int64) (x8 : Int64) (t0 : Int32) (σ : St) : Option (Int32 × St) :=
  bi (f_X2_unless t0 (6 : Int32) ((x1 + (24 : Int32))) σ) fun r42 s41 => if r42 = 0 then (some ((0 : Int32), s41)) else (bv (f_X7_add 41 x2.toInt32 x4.toInt32 x6.toInt32 x8.toInt32 s41) fun s45 => some ((1 : Int32), s45))

def f_X0_spanHolds_162 (x1 : Int32) (x2 : Int64) (x4 : Int64) (x6 : Int64) (x8 : Int64) (t0 : Int32) (σ : St) : Option (Int32 × St) :=
  bi (f_X2_unless t0 (6 : Int32) ((x1 + (48 : Int32))) σ) fun r34 s33 => if r34 = 0 then (some ((0 : Int32), s33)) else (bi (f_X7_shareByte 41 x2 x4 s33) fun r38 s37 => if r38 = 0 then (f_X0_spanHolds_196 x1 x2 x4 x6 x8 (1 : Int32) s37) else (f_X0_spanHolds_196 x1 x2 x4 x6 x8 (0 : Int32) s37))

def f_X0_spanHolds_134 (x1 : Int32) (x2 : Int64) (x4 : Int64) (x6 : Int64) (x8 : Int64) (t0 : Int32) (σ : St) : Option (Int32 × St) :=
  bi (f_X2_unless t0 (1 : Int32) ((x1 + (40 : Int32))) σ) fun r29 s28 => if r29 = 0 then (some ((0 : Int32), s28)) else (if x4 < x8 then (f_X0_spanHolds_162 x1 x2 x4 x6 x8 (0 : Int32) s28) else (f_X0_spanHolds_162 x1 x2 x4 x6 x8 (1 : Int32) s28))

def f_X0_spanHolds_97 (x1 : Int32) (x2 : Int64) (x4 : Int64) (x6 : Int64) (x8 : Int64) (t0 : Int32) (σ : St) : Option (Int32 × St) :=
  bi (f_X2_unless t0 (5 : Int32) ((x1 + (24 : Int32))) σ) fun r24 s23 => if r24 = 0 then (some ((0 : Int32), s23)) else (if (s23.1 3 1).toInt64 < (x6 + x8) then (f_X0_spanHolds_134 x1 x2 x4 x6 x8 (0 : Int32) s23) else (f_X0_spanHolds_134 x1 x2 x4 x6 x8 (1 : Int32) s23))

def f_X0_spanHolds_66 (x1 : Int32) (x2 : Int64) (x4 : Int64) (x6 : Int64) (x8 : Int64) (t0 : Int32) (σ : St) : Option (Int32 × St) :=
  bi (f_X2_unless t0 (5 : Int32) ((x1 + (32 : Int32))) σ) fun r19 s18 => if r19 = 0 then (some ((0 : Int32), s18)) else (if (2147483647 : Int64) < (x2 + x4) then (f_X0_spanHolds_97 x1 x2 x4 x6 x8 (0 : Int32) s18) else (f_X0_spanHolds_97 x1 x2 x4 x6 x8 (1 : Int32) s18))

def f_X0_spanHolds (a1 : Int32) (σ : St) : Option (Int32 × St) :=
  bi (f_X0_u8 ((a1 + (24 : Int32))) σ) fun r3 s2 => bi (f_X0_u8 ((a1 + (32 : Int32))) s2) fun r6 s5 => bi (f_X0_u8 ((a1 + (40 : Int32))) s5) fun r9 s8 => bi (f_X0_u8 ((a1 + (48 : Int32))) s8) fun r12 s11 => bi (f_X7_spanOfAll 41 s11) fun r15 s14 => if (16384 : Int64) < (r15.toInt64 + r6) then (f_X0_spanHolds_66 a1 r3 r6 r9 r12 (0 : Int32) s14) else (f_X0_spanHolds_66 a1 r3 r6 r9 r12 (1 : Int32) s14)

def f_X0_sectionsHold_148 (K35 : (Int32 × Int64 × Int64 × Int32 × Int32 × St) → Option (Int32 × St)) (x1 : Int32) (x2 : Int64) (x4 : Int64) (x6 : Int32) (x7 : Int32) (x8 : Int32) (t0 : Int32) (σ : St) : Option (Int32 × St) :=
  bi (f_X2_unless t0 (7 : Int32) x8 σ) fun r34 s33 => if r34 = 0 then (some ((0 : Int32), s33)) else (zn (sI s33 40 3 (((s33.1 40 3) + (1 : Int32)))) fun s36 => zn (x7 + 1) fun v37 => K35 (x1, x2, x4, x6, v37, s36))

def f_X0_sectionsHold_147 (K35 : (Int32 × Int64 × Int64 × Int32 × Int32 × St) → Option (Int32 × St)) (x1 : Int32) (x2 : Int64) (x4 : Int64) (x6 : Int32) (x7 : Int32) (x8 : Int32) (σ : St) : Option (Int32 × St) :=
  f_X0_sectionsHold_148 K35 x1 x2 x4 x6 x7 x8 (0 : Int32) σ

def f_X0_sectionsHold_72 (K35 : (Int32 × Int64 × Int64 × Int32 × Int32 × St) → Option (Int32 × St)) (x1 : Int32) (x2 : Int64) (x4 : Int64) (x6 : Int32) (x7 : Int32) (x8 : Int32) (t0 : Int32) (σ : St) : Option (Int32 × St) :=
  bi (f_X2_unless t0 (3 : Int32) x8 σ) fun r18 s17 => if r18 = 0 then (some ((0 : Int32), s17)) else (bi (f_X0_numberHolds ((x8 + (32 : Int32))) s17) fun r22 s21 => if r22 = 0 then (some ((0 : Int32), s21)) else (bi (f_X0_numberHolds ((x8 + (40 : Int32))) s21) fun r26 s25 => if r26 = 0 then (some ((0 : Int32), s25)) else (bi (f_X0_u8 ((x8 + (32 : Int32))) s25) fun r30 s29 => if r30 < x2 then (f_X0_sectionsHold_147 K35 x1 x2 x4 x6 x7 x8 s29) else (bi (f_X0_u8 ((x8 + (40 : Int32))) s29) fun r40 s39 => if x4 < (r30 + r40) then (f_X0_sectionsHold_147 K35 x1 x2 x4 x6 x7 x8 s39) else (f_X0_sectionsHold_148 K35 x1 x2 x4 x6 x7 x8 (1 : Int32) s39)))))

def f_X0_sectionsHold_35b (K35 : (Int32 × Int64 × Int64 × Int32 × Int32 × St) → Option (Int32 × St)) (x1 : Int32) (x2 : Int64) (x4 : Int64) (x6 : Int32) (x7 : Int32) (σ : St) : Option (Int32 × St) :=
  if x6 ≤ x7 then (some ((1 : Int32), σ)) else (zn (((x1 + (72 : Int32)) + ((80 : Int32) * x7))) fun v14 => if (16 : Int32) ≤ (σ.1 40 3) then (f_X0_sectionsHold_72 K35 x1 x2 x4 x6 x7 v14 (0 : Int32) σ) else (f_X0_sectionsHold_72 K35 x1 x2 x4 x6 x7 v14 (1 : Int32) σ))

def f_X0_sectionsHold_35 (x1 : Int32) (x2 : Int64) (x4 : Int64) (x6 : Int32) (x7 : Int32) (σ : St) : Option (Int32 × St) :=
  it (fun K a => f_X0_sectionsHold_35b K a.1 a.2.1 a.2.2.1 a.2.2.2.1 a.2.2.2.2.1 a.2.2.2.2.2) FU (x1, x2, x4, x6, x7, σ)

def f_X0_sectionsHold (a1 : Int32) (σ : St) : Option (Int32 × St) :=
  bi (f_X0_u8 ((a1 + (24 : Int32))) σ) fun r3 s2 => bi (f_X0_u8 ((a1 + (32 : Int32))) s2) fun r6 s5 => zn (r3 + r6) fun v7 => bi (f_X0_u4 ((a1 + (64 : Int32))) s5) fun r10 s9 => zn r10.toInt32 fun v11 => zn (0 : Int32) fun v12 => f_X0_sectionsHold_35 a1 r3 v7 v11 v12 s9

def f_X0_commandHolds_91 (x1 : Int32) (t0 : Int32) (σ : St) : Option (Int32 × St) :=
  bi (f_X2_unless t0 (4 : Int32) x1 σ) fun r10 s9 => gd (r10 = 0 ∨ r10 = 1) (some (r10, s9))

def f_X0_commandHolds (a1 : Int32) (σ : St) : Option (Int32 × St) :=
  bi (f_X0_u4 a1 σ) fun r3 s2 => if r3 = (25 : Int64) then (bi (f_X0_segmentHolds a1 s2) fun r22 s21 => if r22 = 0 then (some ((0 : Int32), s21)) else (bi (f_X0_spanHolds a1 s21) fun r26 s25 => if r26 = 0 then (some ((0 : Int32), s25)) else (bi (f_X0_sectionsHold a1 s25) fun r30 s29 => if r30 = 0 then (some ((0 : Int32), s29)) else (some ((1 : Int32), s29))))) else (if r3 = (2 : Int64) then (bi (f_X0_symtabHolds a1 s2) fun r18 s17 => gd (r18 = 0 ∨ r18 = 1) (some (r18, s17))) else (if r3 = (2147483700 : Int64) then (bi (f_X0_chainsHold a1 s2) fun r14 s13 => gd (r14 = 0 ∨ r14 = 1) (some (r14, s13))) else (if (r3 &&& (2147483648 : Int64)) = (0 : Int64) then (f_X0_commandHolds_91 a1 (1 : Int32) s2) else (f_X0_commandHolds_91 a1 (0 : Int32) s2))))

def f_X0_commandsHold_81 (x3 : Int32) (t0 : Int32) (σ : St) : Option (Int32 × St) :=
  bi (f_X2_unless t0 (3 : Int32) x3 σ) fun r15 s14 => gd (r15 = 0 ∨ r15 = 1) (some (r15, s14))

def f_X0_commandsHold_25b (K25 : (Int32 × Int32 × Int32 × Int32 × St) → Option (Int32 × St)) (x1 : Int32) (x2 : Int32) (x3 : Int32) (x4 : Int32) (σ : St) : Option (Int32 × St) :=
  if x1 ≤ x4 then (if x3 = x2 then (f_X0_commandsHold_81 x3 (1 : Int32) σ) else (f_X0_commandsHold_81 x3 (0 : Int32) σ)) else (bi (f_X0_sizeHolds x3 x2 σ) fun r19 s18 => if r19 = 0 then (some ((0 : Int32), s18)) else (bi (f_X0_commandHolds x3 s18) fun r23 s22 => if r23 = 0 then (some ((0 : Int32), s22)) else (bi (f_X0_u4 ((x3 + (4 : Int32))) s22) fun r27 s26 => zn (x3 + r27.toInt32) fun v28 => zn (x4 + 1) fun v29 => K25 (x1, x2, v28, v29, s26))))

def f_X0_commandsHold_25 (x1 : Int32) (x2 : Int32) (x3 : Int32) (x4 : Int32) (σ : St) : Option (Int32 × St) :=
  it (fun K a => f_X0_commandsHold_25b K a.1 a.2.1 a.2.2.1 a.2.2.2.1 a.2.2.2.2) FU (x1, x2, x3, x4, σ)

def f_X0_commandsHold (σ : St) : Option (Int32 × St) :=
  bi (f_X0_u4 (16 : Int32) σ) fun r3 s2 => zn r3.toInt32 fun v4 => bi (f_X0_u4 (20 : Int32) s2) fun r7 s6 => zn (((32 : Int32) + r7.toInt32)) fun v8 => zn (32 : Int32) fun v9 => zn (0 : Int32) fun v10 => f_X0_commandsHold_25 v4 v8 v9 v10 s6

def f_X6_at (k0 n0 : Nat) (a1 : Int32) (σ : St) : Option (Int32 × St) :=
  if a1 < 0 then (some ((0 : Int32), σ)) else (if (σ.1 k0 1) ≤ a1 then (some ((0 : Int32), σ)) else (gd (ib a1 n0) (some (((σ.1 (k0 + 1) a1.toNatClampNeg) &&& (255 : Int32)), σ))))

def f_X6_lastZero_4b (k0 n0 : Nat) (K4 : (Int32 × Int32 × St) → Option (Int32 × St)) (x1 : Int32) (x3 : Int32) (σ : St) : Option (Int32 × St) :=
  if x3 < x1 then (some ((-1 : Int32), σ)) else (bi (f_X6_at k0 n0 x3 σ) fun r5 s4 => if r5 = 0 then (some (x3, s4)) else (zn (x3 + (-1)) fun v7 => K4 (x1, v7, s4)))

def f_X6_lastZero_4 (k0 n0 : Nat) (x1 : Int32) (x3 : Int32) (σ : St) : Option (Int32 × St) :=
  it (fun K a => f_X6_lastZero_4b k0 n0 K a.1 a.2.1 a.2.2) FU (x1, x3, σ)

def f_X6_lastZero (k0 n0 : Nat) (a1 : Int32) (a2 : Int32) (σ : St) : Option (Int32 × St) :=
  zn ((a2 - (1 : Int32))) fun v1 => f_X6_lastZero_4 k0 n0 a1 v1 σ

def f_X0_symbolsHold_102 (K23 : (Int32 × Int32 × St) → Option (Int32 × St)) (x1 : Int32) (x2 : Int32) (x3 : Int32) (t0 : Int32) (σ : St) : Option (Int32 × St) :=
  bi (f_X2_unless t0 (8 : Int32) ((x3 + (5 : Int32))) σ) fun r21 s20 => if r21 = 0 then (some ((0 : Int32), s20)) else (bi (f_X0_numberHolds ((x3 + (8 : Int32))) s20) fun r25 s24 => if r25 = 0 then (some ((0 : Int32), s24)) else (zn (x2 + 1) fun v27 => K23 (x1, v27, s24)))

def f_X0_symbolsHold_67 (K23 : (Int32 × Int32 × St) → Option (Int32 × St)) (x1 : Int32) (x2 : Int32) (x3 : Int32) (t0 : Int32) (σ : St) : Option (Int32 × St) :=
  bi (f_X2_unless t0 (8 : Int32) x3 σ) fun r13 s12 => if r13 = 0 then (some ((0 : Int32), s12)) else (bi (f_X6_at 3 6400 ((x3 + (5 : Int32))) s12) fun r17 s16 => if (s16.1 40 3) < r17 then (f_X0_symbolsHold_102 K23 x1 x2 x3 (0 : Int32) s16) else (f_X0_symbolsHold_102 K23 x1 x2 x3 (1 : Int32) s16))

def f_X0_symbolsHold_23b (K23 : (Int32 × Int32 × St) → Option (Int32 × St)) (x1 : Int32) (x2 : Int32) (σ : St) : Option (Int32 × St) :=
  if (σ.1 40 5) ≤ x2 then (some ((1 : Int32), σ)) else (zn (((σ.1 40 6) + ((16 : Int32) * x2))) fun v6 => bi (f_X0_u4 v6 σ) fun r9 s8 => if x1.toInt64 < ((σ.1 40 7).toInt64 + r9) then (f_X0_symbolsHold_67 K23 x1 x2 v6 (0 : Int32) s8) else (f_X0_symbolsHold_67 K23 x1 x2 v6 (1 : Int32) s8))

def f_X0_symbolsHold_23 (x1 : Int32) (x2 : Int32) (σ : St) : Option (Int32 × St) :=
  it (fun K a => f_X0_symbolsHold_23b K a.1 a.2.1 a.2.2) FU (x1, x2, σ)

def f_X0_symbolsHold (σ : St) : Option (Int32 × St) :=
  bi (f_X6_lastZero 3 6400 (σ.1 40 7) (((σ.1 40 7) + (σ.1 40 8))) σ) fun r3 s2 => zn (0 : Int32) fun v4 => f_X0_symbolsHold_23 r3 v4 s2

def f_X0_hold (σ : St) : Option (Int32 × St) :=
  bv (f_X0_forget σ) fun s2 => bi (f_X0_headHolds s2) fun r5 s4 => if r5 = 0 then (some ((0 : Int32), s4)) else (bi (f_X0_commandsHold s4) fun r9 s8 => if r9 = 0 then (some ((0 : Int32), s8)) else (bi (f_X0_symbolsHold s8) fun r13 s12 => if r13 = 0 then (some ((0 : Int32), s12)) else (some ((1 : Int32), s12))))

def f_X6_isName_21b (k0 n0 : Nat) (K21 : (Int32 × St) → Option (Int32 × St)) (x1 : Int32) (σ : St) : Option (Int32 × St) :=
  if (σ.1 k0 1) ≤ x1 then (some ((1 : Int32), σ)) else (gd (ib x1 n0) (if (σ.1 (k0 + 1) x1.toNatClampNeg) < (33 : Int32) then (some ((0 : Int32), σ)) else (gd (ib x1 n0) (if (σ.1 (k0 + 1) x1.toNatClampNeg) ≤ (126 : Int32) then (zn (x1 + 1) fun v9 => K21 (v9, σ)) else (some ((0 : Int32), σ))))))

def f_X6_isName_21 (k0 n0 : Nat) (x1 : Int32) (σ : St) : Option (Int32 × St) :=
  it (fun K a => f_X6_isName_21b k0 n0 K a.1 a.2) FU (x1, σ)

def f_X6_isName (k0 n0 : Nat) (σ : St) : Option (Int32 × St) :=
  if (σ.1 k0 1) < (1 : Int32) then (some ((0 : Int32), σ)) else (if (σ.1 k0 1) ≤ (16 : Int32) then (zn (0 : Int32) fun v3 => f_X6_isName_21 k0 n0 v3 σ) else (some ((0 : Int32), σ)))

def f_X11_isLibrary (a0 : Int32) (σ : St) : Option (Int32 × St) :=
  if a0 < (1 : Int32) then (some ((0 : Int32), σ)) else (if (3 : Int32) < a0 then (some ((0 : Int32), σ)) else (some ((1 : Int32), σ)))

def f_X6_reads_23b (k0 n0 : Nat) (k2 n2 : Nat) (K23 : (Int32 × Int32 × Int32 × Int32 × St) → Option (Int32 × St)) (x1 : Int32) (x3 : Int32) (x4 : Int32) (x5 : Int32) (σ : St) : Option (Int32 × St) :=
  if x4 ≤ x5 then (bi (f_X6_at k0 n0 (x1 + x4) σ) fun r8 s7 => if r8 = 0 then (some ((1 : Int32), s7)) else (some ((0 : Int32), s7))) else (gd (ib (x3 + x5) n2) (if (σ.1 k2 (x3 + x5).toNatClampNeg) = 0 then (some ((0 : Int32), σ)) else (bi (f_X6_at k0 n0 (x1 + x5) σ) fun r14 s13 => gd (ib (x3 + x5) n2) (if r14 = ((s13.1 k2 (x3 + x5).toNatClampNeg) &&& (255 : Int32)) then (zn (x5 + 1) fun v17 => K23 (x1, x3, x4, v17, s13)) else (some ((0 : Int32), s13))))))

def f_X6_reads_23 (k0 n0 : Nat) (k2 n2 : Nat) (x1 : Int32) (x3 : Int32) (x4 : Int32) (x5 : Int32) (σ : St) : Option (Int32 × St) :=
  it (fun K a => f_X6_reads_23b k0 n0 k2 n2 K a.1 a.2.1 a.2.2.1 a.2.2.2.1 a.2.2.2.2) FU (x1, x3, x4, x5, σ)

def f_X6_reads (k0 n0 : Nat) (k2 n2 : Nat) (a1 : Int32) (a3 : Int32) (a4 : Int32) (σ : St) : Option (Int32 × St) :=
  if a3 < 0 then (some ((0 : Int32), σ)) else (if a4 < 0 then (some ((0 : Int32), σ)) else (if a4 ≤ ((Int32.ofNat n2) - a3) then (zn (0 : Int32) fun v4 => f_X6_reads_23 k0 n0 k2 n2 a1 a3 a4 v4 σ) else (some ((0 : Int32), σ))))

def f_X1_indexOf_59 (k2 n2 : Nat) (K3 : (Int32 × Int32 × Int32 × St) → Option (Int32 × St)) (x1 : Int32) (x3 : Int32) (x4 : Int32) (σ : St) : Option (Int32 × St) :=
  zn (x4 + 1) fun v5 => K3 (x1, x3, v5, σ)

def f_X1_indexOf_3b (k2 n2 : Nat) (K3 : (Int32 × Int32 × Int32 × St) → Option (Int32 × St)) (x1 : Int32) (x3 : Int32) (x4 : Int32) (σ : St) : Option (Int32 × St) :=
  if (σ.1 34 2) ≤ x4 then (some ((-1 : Int32), σ)) else (gd (ib x4 30) (if (σ.1 37 x4.toNatClampNeg) = x1 then (gd (ib x4 30) (bi (f_X6_reads k2 n2 35 480 x3 ((x4 * (16 : Int32))) (σ.1 36 x4.toNatClampNeg) σ) fun r9 s8 => if r9 = 0 then (f_X1_indexOf_59 k2 n2 K3 x1 x3 x4 s8) else (some (x4, s8)))) else (f_X1_indexOf_59 k2 n2 K3 x1 x3 x4 σ)))

def f_X1_indexOf_3 (k2 n2 : Nat) (x1 : Int32) (x3 : Int32) (x4 : Int32) (σ : St) : Option (Int32 × St) :=
  it (fun K a => f_X1_indexOf_3b k2 n2 K a.1 a.2.1 a.2.2.1 a.2.2.2) FU (x1, x3, x4, σ)

def f_X1_indexOf (k2 n2 : Nat) (a1 : Int32) (a3 : Int32) (σ : St) : Option (Int32 × St) :=
  zn (0 : Int32) fun v1 => f_X1_indexOf_3 k2 n2 a1 a3 v1 σ

def f_X5_add_18b (k0 b0 n0 : Nat) (k1 n1 : Nat) (K18 : (Int32 × Int32 × St) → Option (Int32 × St)) (x2 : Int32) (x3 : Int32) (σ : St) : Option (Int32 × St) :=
  if (16 : Int32) ≤ x3 then (gd (ib x2 n0) (zn (sI σ (k0 + 2) x2.toNatClampNeg (σ.1 k1 1)) fun s6 => zn (sI s6 k0 2 (((s6.1 k0 2) + (1 : Int32)))) fun s7 => some (x2, s7))) else (bi (f_X6_at k1 n1 x3 σ) fun r10 s9 => gd (ib (((x2 * (16 : Int32)) + x3)) b0) (zn (sI s9 (k0 + 1) (((x2 * (16 : Int32)) + x3)).toNatClampNeg (vp_nar .byte r10.toInt8.toInt32)) fun s12 => zn (x3 + 1) fun v13 => K18 (x2, v13, s12)))

def f_X5_add_18 (k0 b0 n0 : Nat) (k1 n1 : Nat) (x2 : Int32) (x3 : Int32) (σ : St) : Option (Int32 × St) :=
  it (fun K a => f_X5_add_18b k0 b0 n0 k1 n1 K a.1 a.2.1 a.2.2) FU (x2, x3, σ)

def f_X5_add (k0 b0 n0 : Nat) (k1 n1 : Nat) (σ : St) : Option (Int32 × St) :=
  zn (σ.1 k0 2) fun v1 => if v1 < (Int32.ofNat n0) then (zn (0 : Int32) fun v3 => f_X5_add_18 k0 b0 n0 k1 n1 v1 v3 σ) else (some ((-1 : Int32), σ))

def f_X1_put_45 (k1 n1 : Nat) (x2 : Int32) (x3 : Int32) (x4 : Int32) (σ : St) : Option (Int32 × St) :=
  if x4 = (-1 : Int32) then (some ((0 : Int32), σ)) else (gd (ib x4 30) (zn (sI σ 37 x4.toNatClampNeg x2) fun s16 => gd (ib x4 30) (zn (sI s16 38 x4.toNatClampNeg x3) fun s18 => some ((1 : Int32), s18))))

def f_X1_put (k1 n1 : Nat) (a2 : Int32) (a3 : Int32) (σ : St) : Option (Int32 × St) :=
  bi (f_X6_isName k1 n1 σ) fun r3 s2 => if r3 = 0 then (some ((0 : Int32), s2)) else (bi (f_X11_isLibrary a2 s2) fun r7 s6 => if r7 = 0 then (some ((0 : Int32), s6)) else (if 0 ≤ a3 then (bi (f_X1_indexOf k1 n1 a2 (0 : Int32) s6) fun r12 s11 => if r12 = (-1 : Int32) then (bi (f_X5_add 34 480 30 k1 n1 s11) fun r21 s20 => f_X1_put_45 k1 n1 a2 a3 r21 s20) else (f_X1_put_45 k1 n1 a2 a3 r12 s11)) else (some ((0 : Int32), s6))))

def f_X1_addressOf (k2 n2 : Nat) (a1 : Int32) (a3 : Int32) (σ : St) : Option (Int32 × St) :=
  bi (f_X1_indexOf k2 n2 a1 a3 σ) fun r3 s2 => if r3 = (-1 : Int32) then (some ((-1 : Int32), s2)) else (gd (ib r3 30) (some ((s2.1 38 r3.toNatClampNeg), s2)))

def f_X2_clear (σ : St) : Option (St) :=
  zn (sI σ 39 0 (0 : Int32)) fun s1 => zn (sI s1 39 1 (-1 : Int32)) fun s2 => some s2

def f_X9_clear (k0 : Nat) (σ : St) : Option (St) :=
  zn (sI σ k0 2 (0 : Int32)) fun s1 => some s1

def f_X3_needs (a1 : Int32) (a2 : Int32) (σ : St) : Option (Int32 × St) :=
  bi (f_X2_unless a1 (9 : Int32) a2 σ) fun r3 s2 => gd (r3 = 0 ∨ r3 = 1) (some (r3, s2))

def f_X3_u4 (a1 : Int32) (σ : St) : Option (Int64 × St) :=
  bi (f_X6_number 3 6400 a1 (4 : Int32) σ) fun r3 s2 => some (r3, s2)

def f_X3_headHolds_95 (t0 : Int32) (σ : St) : Option (Int32 × St) :=
  bi (f_X3_needs t0 (((σ.1 46 10) + (24 : Int32))) σ) fun r20 s19 => if r20 = 0 then (some ((0 : Int32), s19)) else (some ((1 : Int32), s19))

def f_X3_headHolds_60 (t0 : Int32) (σ : St) : Option (Int32 × St) :=
  bi (f_X3_needs t0 (((σ.1 46 10) + (20 : Int32))) σ) fun r12 s11 => if r12 = 0 then (some ((0 : Int32), s11)) else (bi (f_X3_u4 (((s11.1 46 10) + (24 : Int32))) s11) fun r16 s15 => if r16 = (0 : Int64) then (f_X3_headHolds_95 (1 : Int32) s15) else (f_X3_headHolds_95 (0 : Int32) s15))

def f_X3_headHolds_28 (t0 : Int32) (σ : St) : Option (Int32 × St) :=
  bi (f_X3_needs t0 (σ.1 46 10) σ) fun r4 s3 => if r4 = 0 then (some ((0 : Int32), s3)) else (bi (f_X3_u4 (((s3.1 46 10) + (20 : Int32))) s3) fun r8 s7 => if r8 = (1 : Int64) then (f_X3_headHolds_60 (1 : Int32) s7) else (f_X3_headHolds_60 (0 : Int32) s7))

def f_X3_headHolds_27 (σ : St) : Option (Int32 × St) :=
  f_X3_headHolds_28 (0 : Int32) σ

def f_X3_headHolds (σ : St) : Option (Int32 × St) :=
  if (σ.1 46 11) < (28 : Int32) then (f_X3_headHolds_27 σ) else (bi (f_X3_u4 (σ.1 46 10) σ) fun r24 s23 => if r24 = (0 : Int64) then (f_X3_headHolds_28 (1 : Int32) s23) else (f_X3_headHolds_27 s23))

def f_X3_startsHold_107 (t0 : Int32) (σ : St) : Option (Int32 × St) :=
  bi (f_X3_needs t0 (((σ.1 46 10) + (σ.1 46 12))) σ) fun r16 s15 => gd (r16 = 0 ∨ r16 = 1) (some (r16, s15))

def f_X3_startsHold_106 (σ : St) : Option (Int32 × St) :=
  f_X3_startsHold_107 (0 : Int32) σ

def f_X3_startsHold_31 (x1 : Int64) (t0 : Int32) (σ : St) : Option (Int32 × St) :=
  bi (f_X3_needs t0 (((σ.1 46 10) + (4 : Int32))) σ) fun r7 s6 => if r7 = 0 then (some ((0 : Int32), s6)) else (zn (sI s6 46 12 x1.toInt32) fun s9 => bi (f_X3_u4 (((s9.1 46 10) + (s9.1 46 12))) s9) fun r12 s11 => if r12 = (s11.1 41 4).toInt64 then (if (s11.1 46 11).toInt64 < ((x1 + (4 : Int64)) + (((4 : Int32) * (s11.1 41 4))).toInt64) then (f_X3_startsHold_106 s11) else (f_X3_startsHold_107 (1 : Int32) s11)) else (f_X3_startsHold_106 s11))

def f_X3_startsHold (σ : St) : Option (Int32 × St) :=
  bi (f_X3_u4 (((σ.1 46 10) + (4 : Int32))) σ) fun r3 s2 => if (s2.1 46 11).toInt64 < (r3 + (4 : Int64)) then (f_X3_startsHold_31 r3 (0 : Int32) s2) else (f_X3_startsHold_31 r3 (1 : Int32) s2)

def f_X3_importsHold_229 (K148 : (Int64 × Int32 × Int64 × Int32 × Int32 × St) → Option (Int32 × St)) (x1 : Int64) (x3 : Int32) (x4 : Int64) (x6 : Int32) (x7 : Int32) (x8 : Int64) (x10 : Int64) (t0 : Int32) (t1 : Int32) (σ : St) : Option (Int32 × St) :=
  gd (ib t1 64) (zn (sI σ 51 t1.toNatClampNeg (vp_nar .boolean t0)) fun s42 => bi (f_X1_addressOf 3 6400 (((x8 &&& (255 : Int64))).toInt32) x10.toInt32 s42) fun r45 s44 => gd (ib x7 64) (zn (sI s44 52 x7.toNatClampNeg r45) fun s47 => zn (x7 + 1) fun v48 => K148 (x1, x3, x4, x6, v48, s47)))

def f_X3_importsHold_193 (K148 : (Int64 × Int32 × Int64 × Int32 × Int32 × St) → Option (Int32 × St)) (x1 : Int64) (x3 : Int32) (x4 : Int64) (x6 : Int32) (x7 : Int32) (x8 : Int64) (x10 : Int64) (t0 : Int32) (σ : St) : Option (Int32 × St) :=
  bi (f_X3_needs t0 ((x3 + ((4 : Int32) * x7))) σ) fun r38 s37 => if r38 = 0 then (some ((0 : Int32), s37)) else (if (x8 &&& (256 : Int64)) = (0 : Int64) then (f_X3_importsHold_229 K148 x1 x3 x4 x6 x7 x8 x10 (0 : Int32) x7 s37) else (f_X3_importsHold_229 K148 x1 x3 x4 x6 x7 x8 x10 (1 : Int32) x7 s37))

def f_X3_importsHold_148b (K148 : (Int64 × Int32 × Int64 × Int32 × Int32 × St) → Option (Int32 × St)) (x1 : Int64) (x3 : Int32) (x4 : Int64) (x6 : Int32) (x7 : Int32) (σ : St) : Option (Int32 × St) :=
  if x1 ≤ x7.toInt64 then (zn (sI σ 46 9 x1.toInt32) fun s30 => some ((1 : Int32), s30)) else (bi (f_X3_u4 ((x3 + ((4 : Int32) * x7))) σ) fun r33 s32 => zn ((x4 + (zlushr r33 (9 : Int32)))) fun v34 => if x6.toInt64 < v34 then (f_X3_importsHold_193 K148 x1 x3 x4 x6 x7 r33 v34 (0 : Int32) s32) else (f_X3_importsHold_193 K148 x1 x3 x4 x6 x7 r33 v34 (1 : Int32) s32))

def f_X3_importsHold_148 (x1 : Int64) (x3 : Int32) (x4 : Int64) (x6 : Int32) (x7 : Int32) (σ : St) : Option (Int32 × St) :=
  it (fun K a => f_X3_importsHold_148b K a.1 a.2.1 a.2.2.1 a.2.2.2.1 a.2.2.2.2.1 a.2.2.2.2.2) FU (x1, x3, x4, x6, x7, σ)

def f_X3_importsHold_71 (x1 : Int64) (t0 : Int32) (σ : St) : Option (Int32 × St) :=
  bi (f_X3_needs t0 (((σ.1 46 10) + (8 : Int32))) σ) fun r15 s14 => if r15 = 0 then (some ((0 : Int32), s14)) else (bi (f_X3_u4 (((s14.1 46 10) + (8 : Int32))) s14) fun r19 s18 => zn (((s14.1 46 10) + r19.toInt32)) fun v20 => bi (f_X3_u4 (((s18.1 46 10) + (12 : Int32))) s18) fun r23 s22 => zn (((s18.1 46 10).toInt64 + r23)) fun v24 => bi (f_X6_lastZero 3 6400 (s22.1 46 10) (((s22.1 46 10) + (s22.1 46 11))) s22) fun r27 s26 => zn (0 : Int32) fun v28 => f_X3_importsHold_148 x1 v20 v24 r27 v28 s26)

def f_X3_importsHold_26 (x1 : Int64) (t0 : Int32) (σ : St) : Option (Int32 × St) :=
  bi (f_X3_needs t0 (((σ.1 46 10) + (16 : Int32))) σ) fun r7 s6 => if r7 = 0 then (some ((0 : Int32), s6)) else (bi (f_X3_u4 (((s6.1 46 10) + (8 : Int32))) s6) fun r11 s10 => if (s10.1 46 11).toInt64 < (r11 + ((4 : Int64) * x1)) then (f_X3_importsHold_71 x1 (0 : Int32) s10) else (f_X3_importsHold_71 x1 (1 : Int32) s10))

def f_X3_importsHold (σ : St) : Option (Int32 × St) :=
  bi (f_X3_u4 (((σ.1 46 10) + (16 : Int32))) σ) fun r3 s2 => if (64 : Int64) < r3 then (f_X3_importsHold_26 r3 (0 : Int32) s2) else (f_X3_importsHold_26 r3 (1 : Int32) s2)

def f_X3_u2 (a1 : Int32) (σ : St) : Option (Int32 × St) :=
  bi (f_X6_number 3 6400 a1 (2 : Int32) σ) fun r3 s2 => some (r3.toInt32, s2)

def f_X11_isPage (a0 : Int32) (σ : St) : Option (Int32 × St) :=
  if a0 < (256 : Int32) then (some ((0 : Int32), σ)) else (if (4096 : Int32) < a0 then (some ((0 : Int32), σ)) else (if (a0 &&& (a0 - (1 : Int32))) = 0 then (some ((1 : Int32), σ)) else (some ((0 : Int32), σ))))

def f_X11_pagesIn (a0 : Int32) (a1 : Int32) (σ : St) : Option (Int32 × St) :=
  if (1 : Int32) ≤ a1 then (gd (¬ a1 = 0) (some ((((a0 + a1) - (1 : Int32)) / a1), σ))) else (some ((0 : Int32), σ))

def f_X3_pagesHold_207 (x2 : Int32) (t0 : Int32) (σ : St) : Option (Int32 × St) :=
  bi (f_X3_needs t0 ((x2 + (20 : Int32))) σ) fun r56 s55 => if r56 = 0 then (some ((0 : Int32), s55)) else (some ((1 : Int32), s55))

def f_X3_pagesHold_166 (x1 : Int32) (x2 : Int32) (x4 : Int32) (t0 : Int32) (σ : St) : Option (Int32 × St) :=
  bi (f_X3_needs t0 ((x2 + (8 : Int32))) σ) fun r44 s43 => if r44 = 0 then (some ((0 : Int32), s43)) else (bi (f_X3_u2 ((x2 + (20 : Int32))) s43) fun r48 s47 => gd (ib x1 4) (bi (f_X11_pagesIn (s47.1 43 x1.toNatClampNeg) x4 s47) fun r52 s51 => if r52 < r48 then (f_X3_pagesHold_207 x2 (0 : Int32) s51) else (f_X3_pagesHold_207 x2 (1 : Int32) s51)))

def f_X3_pagesHold_116 (x1 : Int32) (x2 : Int32) (x4 : Int32) (x5 : Int32) (t0 : Int32) (σ : St) : Option (Int32 × St) :=
  bi (f_X3_needs t0 ((x2 + (6 : Int32))) σ) fun r32 s31 => if r32 = 0 then (some ((0 : Int32), s31)) else (bi (f_X0_numberHolds ((x2 + (8 : Int32))) s31) fun r36 s35 => if r36 = 0 then (some ((0 : Int32), s35)) else (bi (f_X6_number 3 6400 ((x2 + (8 : Int32))) (8 : Int32) s35) fun r40 s39 => if r40 = x5.toInt64 then (f_X3_pagesHold_166 x1 x2 x4 (1 : Int32) s39) else (f_X3_pagesHold_166 x1 x2 x4 (0 : Int32) s39)))

def f_X3_pagesHold_76 (x1 : Int32) (x2 : Int32) (x4 : Int32) (x5 : Int32) (t0 : Int32) (σ : St) : Option (Int32 × St) :=
  bi (f_X3_needs t0 x2 σ) fun r17 s16 => if r17 = 0 then (some ((0 : Int32), s16)) else (bi (f_X11_isPage x4 s16) fun r21 s20 => bi (f_X3_needs r21 ((x2 + (4 : Int32))) s20) fun r24 s23 => if r24 = 0 then (some ((0 : Int32), s23)) else (bi (f_X3_u2 ((x2 + (6 : Int32))) s23) fun r28 s27 => if r28 = (2 : Int32) then (f_X3_pagesHold_116 x1 x2 x4 x5 (1 : Int32) s27) else (f_X3_pagesHold_116 x1 x2 x4 x5 (0 : Int32) s27)))

def f_X3_pagesHold_75 (x1 : Int32) (x2 : Int32) (x4 : Int32) (x5 : Int32) (σ : St) : Option (Int32 × St) :=
  f_X3_pagesHold_76 x1 x2 x4 x5 (0 : Int32) σ

def f_X3_pagesHold (a1 : Int32) (a2 : Int32) (σ : St) : Option (Int32 × St) :=
  bi (f_X3_u2 ((a2 + (20 : Int32))) σ) fun r3 s2 => zn (((22 : Int32) + ((2 : Int32) * r3))) fun v4 => bi (f_X3_u2 ((a2 + (4 : Int32))) s2) fun r7 s6 => gd (ib a1 4) (gd (ib (0 : Int32) 4) (zn (((s6.1 42 a1.toNatClampNeg) - (s6.1 42 (0 : Int32).toNatClampNeg))) fun v10 => bi (f_X3_u4 a2 s6) fun r13 s12 => if r13 = v4.toInt64 then (if (s12.1 46 11) < ((a2 - (s12.1 46 10)) + v4) then (f_X3_pagesHold_75 a1 a2 r7 v10 s12) else (f_X3_pagesHold_76 a1 a2 r7 v10 (1 : Int32) s12)) else (f_X3_pagesHold_75 a1 a2 r7 v10 s12)))

def f_X3_allPagesHold_117 (K2 : (Int32 × St) → Option (Int32 × St)) (x1 : Int32) (σ : St) : Option (Int32 × St) :=
  zn (x1 + 1) fun v10 => K2 (v10, σ)

def f_X3_allPagesHold_74 (K2 : (Int32 × St) → Option (Int32 × St)) (x1 : Int32) (x2 : Int32) (x3 : Int64) (t0 : Int32) (σ : St) : Option (Int32 × St) :=
  bi (f_X3_needs t0 x2 σ) fun r14 s13 => if r14 = 0 then (some ((0 : Int32), s13)) else (gd (ib x1 4) (zn (sI s13 50 x1.toNatClampNeg ((((s13.1 46 10) + (s13.1 46 12)) + x3.toInt32))) fun s17 => gd (ib x1 4) (bi (f_X3_pagesHold x1 (s17.1 50 x1.toNatClampNeg) s17) fun r21 s20 => if r21 = 0 then (some ((0 : Int32), s20)) else (f_X3_allPagesHold_117 K2 x1 s20))))

def f_X3_allPagesHold_2b (K2 : (Int32 × St) → Option (Int32 × St)) (x1 : Int32) (σ : St) : Option (Int32 × St) :=
  if (σ.1 41 4) ≤ x1 then (some ((1 : Int32), σ)) else (gd (ib x1 4) (zn (sI σ 50 x1.toNatClampNeg (-1 : Int32)) fun s4 => zn (((((s4.1 46 10) + (s4.1 46 12)) + (4 : Int32)) + ((4 : Int32) * x1))) fun v5 => bi (f_X3_u4 v5 s4) fun r8 s7 => if r8 = (0 : Int64) then (f_X3_allPagesHold_117 K2 x1 s7) else (if (s7.1 46 11).toInt64 < (((s7.1 46 12).toInt64 + r8) + (22 : Int64)) then (f_X3_allPagesHold_74 K2 x1 v5 r8 (0 : Int32) s7) else (f_X3_allPagesHold_74 K2 x1 v5 r8 (1 : Int32) s7))))

def f_X3_allPagesHold_2 (x1 : Int32) (σ : St) : Option (Int32 × St) :=
  it (fun K a => f_X3_allPagesHold_2b K a.1 a.2) FU (x1, σ)

def f_X3_allPagesHold (σ : St) : Option (Int32 × St) :=
  zn (0 : Int32) fun v1 => f_X3_allPagesHold_2 v1 σ

def f_J9_min_7cf53 (a0 : Int32) (a1 : Int32) (σ : St) : Option (Int32 × St) :=
  if a1 < a0 then (some (a1, σ)) else (some (a0, σ))

def f_X7_pointerBits_50 (k0 : Nat) (k1 n1 : Nat) (K11 : (Int32 × Int32 × Int64 × Int32 × St) → Option (Int64 × St)) (x2 : Int32) (x3 : Int32) (x6 : Int32) (t0 : Int32) (t1 : Int64) (σ : St) : Option (Int64 × St) :=
  zn (t1 ||| t0.toInt64) fun v6 => zn (x6 + (-1)) fun v7 => K11 (x2, x3, v6, v7, σ)

def f_X7_pointerBits_11b (k0 : Nat) (k1 n1 : Nat) (K11 : (Int32 × Int32 × Int64 × Int32 × St) → Option (Int64 × St)) (x2 : Int32) (x3 : Int32) (x4 : Int64) (x6 : Int32) (σ : St) : Option (Int64 × St) :=
  if x6 < x3 then (some (x4, σ)) else (gd (ib x2 4) (if (σ.1 (k0 + 4) x2.toNatClampNeg) ≤ x6 then (f_X7_pointerBits_50 k0 k1 n1 K11 x2 x3 x6 (0 : Int32) ((zlshl x4 (8 : Int32))) σ) else (gd (ib x2 4) (bi (f_X6_at k1 n1 (((σ.1 (k0 + 3) x2.toNatClampNeg) + x6)) σ) fun r11 s10 => f_X7_pointerBits_50 k0 k1 n1 K11 x2 x3 x6 r11 ((zlshl x4 (8 : Int32))) s10))))

def f_X7_pointerBits_11 (k0 : Nat) (k1 n1 : Nat) (x2 : Int32) (x3 : Int32) (x4 : Int64) (x6 : Int32) (σ : St) : Option (Int64 × St) :=
  it (fun K a => f_X7_pointerBits_11b k0 k1 n1 K a.1 a.2.1 a.2.2.1 a.2.2.2.1 a.2.2.2.2) FU (x2, x3, x4, x6, σ)

def f_X7_pointerBits (k0 : Nat) (k1 n1 : Nat) (a2 : Int32) (a3 : Int32) (σ : St) : Option (Int64 × St) :=
  zn (0 : Int64) fun v1 => zn (((a3 + (8 : Int32)) - (1 : Int32))) fun v2 => f_X7_pointerBits_11 k0 k1 n1 a2 a3 v1 v2 σ

def f_X9_nextOf (a0 : Int64) (σ : St) : Option (Int32 × St) :=
  some ((((zlushr a0 (51 : Int32))).toInt32 &&& (4095 : Int32)), σ)

def f_X9_isBind (a0 : Int64) (σ : St) : Option (Int32 × St) :=
  if (0 : Int64) ≤ a0 then (some ((0 : Int32), σ)) else (some ((1 : Int32), σ))

def f_X3_pointerHolds_126 (x3 : Int32) (t0 : Int32) (σ : St) : Option (Int32 × St) :=
  bi (f_X2_unless t0 (12 : Int32) x3 σ) fun r20 s19 => if r20 = 0 then (some ((0 : Int32), s19)) else (some ((1 : Int32), s19))

def f_X3_pointerHolds_121 (x3 : Int32) (σ : St) : Option (Int32 × St) :=
  f_X3_pointerHolds_126 x3 (1 : Int32) σ

def f_X3_pointerHolds_87 (x3 : Int32) (x4 : Int32) (t0 : Int32) (σ : St) : Option (Int32 × St) :=
  bi (f_X2_unless t0 (11 : Int32) x3 σ) fun r14 s13 => if r14 = 0 then (some ((0 : Int32), s13)) else (gd (ib x4 64) (if (s13.1 51 x4.toNatClampNeg) = 0 then (gd (ib x4 64) (if (s13.1 52 x4.toNatClampNeg) = (-1 : Int32) then (f_X3_pointerHolds_126 x3 (0 : Int32) s13) else (f_X3_pointerHolds_121 x3 s13))) else (f_X3_pointerHolds_121 x3 s13)))

def f_X3_pointerHolds_60 (x3 : Int32) (x4 : Int32) (t0 : Int32) (σ : St) : Option (Int32 × St) :=
  bi (f_X2_unless t0 (11 : Int32) x3 σ) fun r9 s8 => if r9 = 0 then (some ((0 : Int32), s8)) else (if (s8.1 46 9) ≤ x4 then (f_X3_pointerHolds_87 x3 x4 (0 : Int32) s8) else (f_X3_pointerHolds_87 x3 x4 (1 : Int32) s8))

def f_X3_pointerHolds_26 (x3 : Int32) (t0 : Int32) (σ : St) : Option (Int32 × St) :=
  bi (f_X2_unless t0 (11 : Int32) x3 σ) fun r27 s26 => gd (r27 = 0 ∨ r27 = 1) (some (r27, s26))

def f_X3_pointerHolds (a1 : Int64) (a2 : Int32) (σ : St) : Option (Int32 × St) :=
  bi (f_X9_isBind a1 σ) fun r3 s2 => if r3 = 0 then (if (a1 &&& (2234207627640832 : Int64)) = (0 : Int64) then (f_X3_pointerHolds_26 a2 (1 : Int32) s2) else (f_X3_pointerHolds_26 a2 (0 : Int32) s2)) else (zn (((a1 &&& (16777215 : Int64))).toInt32) fun v5 => if (a1 &&& (2251795518717952 : Int64)) = (0 : Int64) then (f_X3_pointerHolds_60 a2 v5 (1 : Int32) s2) else (f_X3_pointerHolds_60 a2 v5 (0 : Int32) s2))

def f_X9_add (k0 : Nat) (a1 : Int32) (a2 : Int64) (σ : St) : Option (St) :=
  if (2048 : Int32) ≤ (σ.1 k0 2) then (some σ) else (gd (ib (σ.1 k0 2) 2048) (zn (sI σ (k0 + 1) (σ.1 k0 2).toNatClampNeg a1) fun s3 => gd (ib (s3.1 k0 2) 2048) (zn (sJ s3 (k0 + 2) (s3.1 k0 2).toNatClampNeg a2) fun s5 => zn (sI s5 k0 2 (((s5.1 k0 2) + (1 : Int32)))) fun s6 => some s6)))

def f_X3_chainHolds_91 (K6 : (Int32 × Int32 × Int32 × Int32 × St) → Option (Int32 × St)) (x1 : Int32) (x3 : Int32) (x4 : Int32) (x5 : Int32) (x6 : Int64) (x8 : Int32) (x9 : Int32) (t0 : Int32) (σ : St) : Option (Int32 × St) :=
  bi (f_X3_pointerHolds x6 x8 σ) fun r15 s14 => if r15 = 0 then (some ((0 : Int32), s14)) else (bi (f_X2_unless t0 (10 : Int32) x8 s14) fun r19 s18 => if r19 = 0 then (some ((0 : Int32), s18)) else (gd (ib x1 4) (bv (f_X9_add 47 (((s18.1 42 x1.toNatClampNeg) + x4)) x6 s18) fun s23 => if x9 = 0 then (some ((1 : Int32), s23)) else (zn ((x4 + ((4 : Int32) * x9))) fun v25 => zn (x5 + 1) fun v26 => K6 (x1, x3, v25, v26, s23)))))

def f_X3_chainHolds_86 (K6 : (Int32 × Int32 × Int32 × Int32 × St) → Option (Int32 × St)) (x1 : Int32) (x3 : Int32) (x4 : Int32) (x5 : Int32) (x6 : Int64) (x8 : Int32) (x9 : Int32) (σ : St) : Option (Int32 × St) :=
  f_X3_chainHolds_91 K6 x1 x3 x4 x5 x6 x8 x9 (1 : Int32) σ

def f_X3_chainHolds_90 (K6 : (Int32 × Int32 × Int32 × Int32 × St) → Option (Int32 × St)) (x1 : Int32) (x3 : Int32) (x4 : Int32) (x5 : Int32) (x6 : Int64) (x8 : Int32) (x9 : Int32) (σ : St) : Option (Int32 × St) :=
  f_X3_chainHolds_91 K6 x1 x3 x4 x5 x6 x8 x9 (0 : Int32) σ

def f_X3_chainHolds_6b (K6 : (Int32 × Int32 × Int32 × Int32 × St) → Option (Int32 × St)) (x1 : Int32) (x3 : Int32) (x4 : Int32) (x5 : Int32) (σ : St) : Option (Int32 × St) :=
  if (2048 : Int32) ≤ x5 then (some ((1 : Int32), σ)) else (bi (f_X7_pointerBits 41 3 6400 x1 x4 σ) fun r5 s4 => gd (ib x1 4) (gd (ib (0 : Int32) 4) (zn ((((s4.1 42 x1.toNatClampNeg) - (s4.1 42 (0 : Int32).toNatClampNeg)) + x4)) fun v8 => bi (f_X9_nextOf r5 s4) fun r11 s10 => if r11 = 0 then (f_X3_chainHolds_86 K6 x1 x3 x4 x5 r5 v8 r11 s10) else (if r11 ≤ (1 : Int32) then (f_X3_chainHolds_90 K6 x1 x3 x4 x5 r5 v8 r11 s10) else (if x3 < ((x4 + ((4 : Int32) * r11)) + (8 : Int32)) then (f_X3_chainHolds_90 K6 x1 x3 x4 x5 r5 v8 r11 s10) else (f_X3_chainHolds_86 K6 x1 x3 x4 x5 r5 v8 r11 s10))))))

def f_X3_chainHolds_6 (x1 : Int32) (x3 : Int32) (x4 : Int32) (x5 : Int32) (σ : St) : Option (Int32 × St) :=
  it (fun K a => f_X3_chainHolds_6b K a.1 a.2.1 a.2.2.1 a.2.2.2.1 a.2.2.2.2) FU (x1, x3, x4, x5, σ)

def f_X3_chainHolds (a1 : Int32) (a2 : Int32) (a3 : Int32) (σ : St) : Option (Int32 × St) :=
  zn (0 : Int32) fun v1 => f_X3_chainHolds_6 a1 a3 a2 v1 σ

def f_X3_chainsOfHold_138 (K21 : (Int32 × Int32 × Int32 × Int32 × Int32 × St) → Option (Int32 × St)) (x1 : Int32) (x2 : Int32) (x3 : Int32) (x4 : Int32) (x5 : Int32) (σ : St) : Option (Int32 × St) :=
  zn (x5 + 1) fun v18 => K21 (x1, x2, x3, x4, v18, σ)

def f_X3_chainsOfHold_101 (K21 : (Int32 × Int32 × Int32 × Int32 × Int32 × St) → Option (Int32 × St)) (x1 : Int32) (x2 : Int32) (x3 : Int32) (x4 : Int32) (x5 : Int32) (x6 : Int32) (x7 : Int32) (x8 : Int32) (t0 : Int32) (σ : St) : Option (Int32 × St) :=
  bi (f_X2_unless t0 (10 : Int32) x6 σ) fun r22 s21 => if r22 = 0 then (some ((0 : Int32), s21)) else (bi (f_X3_chainHolds x1 (((x3 * x5) + x7)) x8 s21) fun r26 s25 => if r26 = 0 then (some ((0 : Int32), s25)) else (f_X3_chainsOfHold_138 K21 x1 x2 x3 x4 x5 s25))

def f_X3_chainsOfHold_100 (K21 : (Int32 × Int32 × Int32 × Int32 × Int32 × St) → Option (Int32 × St)) (x1 : Int32) (x2 : Int32) (x3 : Int32) (x4 : Int32) (x5 : Int32) (x6 : Int32) (x7 : Int32) (x8 : Int32) (σ : St) : Option (Int32 × St) :=
  f_X3_chainsOfHold_101 K21 x1 x2 x3 x4 x5 x6 x7 x8 (0 : Int32) σ

def f_X3_chainsOfHold_21b (K21 : (Int32 × Int32 × Int32 × Int32 × Int32 × St) → Option (Int32 × St)) (x1 : Int32) (x2 : Int32) (x3 : Int32) (x4 : Int32) (x5 : Int32) (σ : St) : Option (Int32 × St) :=
  if x4 ≤ x5 then (some ((1 : Int32), σ)) else (zn (((x2 + (22 : Int32)) + ((2 : Int32) * x5))) fun v9 => bi (f_X3_u2 v9 σ) fun r12 s11 => gd (ib x1 4) (bi (f_J9_min_7cf53 ((x3 * (x5 + (1 : Int32)))) (s11.1 43 x1.toNatClampNeg) s11) fun r16 s15 => if r12 = (65535 : Int32) then (f_X3_chainsOfHold_138 K21 x1 x2 x3 x4 x5 s15) else (if (r12 - r12 / (4 : Int32) * (4 : Int32)) = 0 then (if r16 < (((x3 * x5) + r12) + (8 : Int32)) then (f_X3_chainsOfHold_100 K21 x1 x2 x3 x4 x5 v9 r12 r16 s15) else (f_X3_chainsOfHold_101 K21 x1 x2 x3 x4 x5 v9 r12 r16 (1 : Int32) s15)) else (f_X3_chainsOfHold_100 K21 x1 x2 x3 x4 x5 v9 r12 r16 s15))))

def f_X3_chainsOfHold_21 (x1 : Int32) (x2 : Int32) (x3 : Int32) (x4 : Int32) (x5 : Int32) (σ : St) : Option (Int32 × St) :=
  it (fun K a => f_X3_chainsOfHold_21b K a.1 a.2.1 a.2.2.1 a.2.2.2.1 a.2.2.2.2.1 a.2.2.2.2.2) FU (x1, x2, x3, x4, x5, σ)

def f_X3_chainsOfHold (a1 : Int32) (a2 : Int32) (σ : St) : Option (Int32 × St) :=
  bi (f_X3_u2 ((a2 + (4 : Int32))) σ) fun r3 s2 => bi (f_X3_u2 ((a2 + (20 : Int32))) s2) fun r6 s5 => zn (0 : Int32) fun v7 => f_X3_chainsOfHold_21 a1 a2 r3 r6 v7 s5

def f_X3_allChainsHold_39 (K2 : (Int32 × St) → Option (Int32 × St)) (x1 : Int32) (σ : St) : Option (Int32 × St) :=
  zn (x1 + 1) fun v5 => K2 (v5, σ)

def f_X3_allChainsHold_2b (K2 : (Int32 × St) → Option (Int32 × St)) (x1 : Int32) (σ : St) : Option (Int32 × St) :=
  if (σ.1 41 4) ≤ x1 then (some ((1 : Int32), σ)) else (gd (ib x1 4) (if (σ.1 50 x1.toNatClampNeg) = (-1 : Int32) then (f_X3_allChainsHold_39 K2 x1 σ) else (gd (ib x1 4) (bi (f_X3_chainsOfHold x1 (σ.1 50 x1.toNatClampNeg) σ) fun r9 s8 => if r9 = 0 then (some ((0 : Int32), s8)) else (f_X3_allChainsHold_39 K2 x1 s8)))))

def f_X3_allChainsHold_2 (x1 : Int32) (σ : St) : Option (Int32 × St) :=
  it (fun K a => f_X3_allChainsHold_2b K a.1 a.2) FU (x1, σ)

def f_X3_allChainsHold (σ : St) : Option (Int32 × St) :=
  zn (0 : Int32) fun v1 => f_X3_allChainsHold_2 v1 σ

def f_X3_hold (σ : St) : Option (Int32 × St) :=
  bv (f_X9_clear 47 σ) fun s2 => zn (sI s2 46 9 (0 : Int32)) fun s3 => if (s3.1 40 9) = 0 then (some ((1 : Int32), s3)) else (zn (sI s3 46 10 (s3.1 40 10)) fun s5 => zn (sI s5 46 11 (s5.1 40 11)) fun s6 => bi (f_X3_headHolds s6) fun r9 s8 => if r9 = 0 then (some ((0 : Int32), s8)) else (bi (f_X3_startsHold s8) fun r13 s12 => if r13 = 0 then (some ((0 : Int32), s12)) else (bi (f_X3_importsHold s12) fun r17 s16 => if r17 = 0 then (some ((0 : Int32), s16)) else (bi (f_X3_allPagesHold s16) fun r21 s20 => if r21 = 0 then (some ((0 : Int32), s20)) else (bi (f_X3_allChainsHold s20) fun r25 s24 => if r25 = 0 then (some ((0 : Int32), s24)) else (some ((1 : Int32), s24)))))))

def f_X9_subjectOf (a0 : Int64) (σ : St) : Option (Int64 × St) :=
  bi (f_X9_isBind a0 σ) fun r3 s2 => if r3 = 0 then (some ((a0 &&& (68719476735 : Int64)), s2)) else (some ((a0 &&& (16777215 : Int64)), s2))

def f_X9_extraOf (a0 : Int64) (σ : St) : Option (Int64 × St) :=
  bi (f_X9_isBind a0 σ) fun r3 s2 => if r3 = 0 then (some (((zlushr a0 (36 : Int32)) &&& (255 : Int64)), s2)) else (some (((zlushr a0 (24 : Int32)) &&& (255 : Int64)), s2))

def f_X3_valueOf_67 (x4 : Int64) (x6 : Int64) (t0 : Int32) (σ : St) : Option (Int64 × St) :=
  if t0 = 0 then (some (((0 : Int32).toInt64 + x6), σ)) else (gd (ib x4.toInt32 64) (some (((σ.1 52 x4.toInt32.toNatClampNeg).toInt64 + x6), σ)))

def f_X3_valueOf_66 (x4 : Int64) (x6 : Int64) (σ : St) : Option (Int64 × St) :=
  f_X3_valueOf_67 x4 x6 (0 : Int32) σ

def f_X3_valueOf (a1 : Int64) (a2 : Int32) (σ : St) : Option (Int64 × St) :=
  bi (f_X9_subjectOf a1 σ) fun r3 s2 => bi (f_X9_extraOf a1 s2) fun r6 s5 => bi (f_X9_isBind a1 s5) fun r9 s8 => if r9 = 0 then (zn (72057594037927935 : Int64) fun v16 => some ((((r3 + a2.toInt64) &&& v16) ||| (zlshl r6 (56 : Int32))), s8)) else (if (s8.1 46 9).toInt64 ≤ r3 then (f_X3_valueOf_66 r3 r6 s8) else (gd (ib r3.toInt32 64) (if (s8.1 52 r3.toInt32.toNatClampNeg) = (-1 : Int32) then (f_X3_valueOf_66 r3 r6 s8) else (f_X3_valueOf_67 r3 r6 (1 : Int32) s8))))

def f_X6_clear (k0 n0 : Nat) (σ : St) : Option (St) :=
  zn (sI σ k0 1 (0 : Int32)) fun s1 => some s1

def f_X6_addFrom (k0 n0 : Nat) (k1 n1 : Nat) (a2 : Int32) (a3 : Int32) (σ : St) : Option (St) :=
  if a2 < 0 then (some σ) else (if a3 < 0 then (some σ) else (if ((Int32.ofNat n1) - a2) < a3 then (some σ) else (if ((Int32.ofNat n0) - (σ.1 k0 1)) < a3 then (some σ) else (gd (cpOk σ k1 n1 n0 a2 (σ.1 k0 1) a3) (zn (sR σ (k0 + 1) (va_cpy (σ.1 k1) (σ.1 (k0 + 1)) a2.toNatClampNeg (σ.1 k0 1).toNatClampNeg a3.toNatClampNeg)) fun s6 => zn (sI s6 k0 1 (((s6.1 k0 1) + a3))) fun s7 => some s7)))))

def f_J7_rangeCheck_23922 (a0 : Int32) (a1 : Int32) (a2 : Int32) (σ : St) : Option (St) :=
  if a1 ≤ a2 then (if 0 ≤ a1 then (if a2 ≤ a0 then (some σ) else (none)) else (none)) else (none)

def f_J7_fill_eb02e_10b (k0 n0 : Nat) (K10 : (Int32 × Int32 × Int32 × St) → Option (St)) (x2 : Int32) (x3 : Int32) (x4 : Int32) (σ : St) : Option (St) :=
  if x2 ≤ x4 then (some σ) else (gd (ib x4 n0) (zn (sI σ k0 x4.toNatClampNeg (vp_nar .byte x3)) fun s5 => zn (x4 + 1) fun v6 => K10 (x2, x3, v6, s5)))

def f_J7_fill_eb02e_10 (k0 n0 : Nat) (x2 : Int32) (x3 : Int32) (x4 : Int32) (σ : St) : Option (St) :=
  it (fun K a => f_J7_fill_eb02e_10b k0 n0 K a.1 a.2.1 a.2.2.1 a.2.2.2) FU (x2, x3, x4, σ)

def f_J7_fill_eb02e (k0 n0 : Nat) (a1 : Int32) (a2 : Int32) (a3 : Int32) (σ : St) : Option (St) :=
  bv (f_J7_rangeCheck_23922 (Int32.ofNat n0) a1 a2 σ) fun s2 => f_J7_fill_eb02e_10 k0 n0 a2 a3 a1 s2

def f_X6_addZeros (k0 n0 : Nat) (a1 : Int32) (σ : St) : Option (St) :=
  if a1 < 0 then (some σ) else (if ((Int32.ofNat n0) - (σ.1 k0 1)) < a1 then (some σ) else (bv (f_J7_fill_eb02e (k0 + 1) n0 (σ.1 k0 1) (((σ.1 k0 1) + a1)) (0 : Int32) σ) fun s4 => zn (sI s4 k0 1 (((s4.1 k0 1) + a1))) fun s5 => some s5))

def f_X4_takeSegments_17b (k1 n1 : Nat) (k2 : Nat) (K17 : (Int32 × Int32 × St) → Option (St)) (x3 : Int32) (x4 : Int32) (σ : St) : Option (St) :=
  if (σ.1 k2 4) ≤ x4 then (some σ) else (gd (ib x4 4) (gd (ib x4 4) (gd (ib x4 4) (bv (f_X7_add 54 (((σ.1 (k2 + 1) x4.toNatClampNeg) + x3)) ((σ.1 (k2 + 2) x4.toNatClampNeg)) (σ.1 59 1) ((σ.1 (k2 + 4) x4.toNatClampNeg)) σ) fun s11 => gd (ib x4 4) (gd (ib x4 4) (bv (f_X6_addFrom 59 16384 (k1 + 1) n1 ((s11.1 (k2 + 3) x4.toNatClampNeg)) ((s11.1 (k2 + 4) x4.toNatClampNeg)) s11) fun s15 => gd (ib x4 4) (gd (ib x4 4) (bv (f_X6_addZeros 59 16384 (((s15.1 (k2 + 2) x4.toNatClampNeg) - (s15.1 (k2 + 4) x4.toNatClampNeg))) s15) fun s19 => zn (x4 + 1) fun v20 => K17 (x3, v20, s19)))))))))

def f_X4_takeSegments_17 (k1 n1 : Nat) (k2 : Nat) (x3 : Int32) (x4 : Int32) (σ : St) : Option (St) :=
  it (fun K a => f_X4_takeSegments_17b k1 n1 k2 K a.1 a.2.1 a.2.2) FU (x3, x4, σ)

def f_X4_takeSegments (k1 n1 : Nat) (k2 : Nat) (a3 : Int32) (σ : St) : Option (St) :=
  bv (f_X7_clear 54 σ) fun s2 => bv (f_X6_clear 59 16384 s2) fun s4 => zn (0 : Int32) fun v5 => f_X4_takeSegments_17 k1 n1 k2 a3 v5 s4

def f_X4_take_47b (k1 n1 : Nat) (K47 : (Int32 × Int32 × St) → Option (St)) (x3 : Int32) (x4 : Int32) (σ : St) : Option (St) :=
  if (σ.1 53 6) ≤ x4 then (some σ) else (zn (((σ.1 40 6) + ((16 : Int32) * x4))) fun v10 => bi (f_X6_number k1 n1 v10 (4 : Int32) σ) fun r13 s12 => gd (ib x4 64) (zn (sI s12 66 x4.toNatClampNeg r13.toInt32) fun s15 => bi (f_X6_number k1 n1 ((v10 + (8 : Int32))) (4 : Int32) s15) fun r18 s17 => gd (ib x4 64) (zn (sI s17 67 x4.toNatClampNeg (r18.toInt32 + x3)) fun s20 => zn (x4 + 1) fun v21 => K47 (x3, v21, s20))))

def f_X4_take_47 (k1 n1 : Nat) (x3 : Int32) (x4 : Int32) (σ : St) : Option (St) :=
  it (fun K a => f_X4_take_47b k1 n1 K a.1 a.2.1 a.2.2) FU (x3, x4, σ)

def f_X4_take (k1 n1 : Nat) (a3 : Int32) (σ : St) : Option (St) :=
  bv (f_X4_takeSegments k1 n1 41 a3 σ) fun s2 => bv (f_X6_clear 64 6400 s2) fun s4 => bv (f_X6_addFrom 64 6400 (k1 + 1) n1 (s4.1 40 7) (s4.1 40 8) s4) fun s6 => zn (sI s6 53 6 (s6.1 40 5)) fun s7 => zn (0 : Int32) fun v8 => f_X4_take_47 k1 n1 a3 v8 s7

def f_X7_placeOf_56 (k0 : Nat) (K2 : (Int32 × Int32 × Int32 × St) → Option (Int32 × St)) (x1 : Int32) (x2 : Int32) (x3 : Int32) (σ : St) : Option (Int32 × St) :=
  zn (x3 + 1) fun v6 => K2 (x1, x2, v6, σ)

def f_X7_placeOf_2b (k0 : Nat) (K2 : (Int32 × Int32 × Int32 × St) → Option (Int32 × St)) (x1 : Int32) (x2 : Int32) (x3 : Int32) (σ : St) : Option (Int32 × St) :=
  if (σ.1 k0 4) ≤ x3 then (some ((-1 : Int32), σ)) else (gd (ib x3 4) (zn ((x1.toInt64 - ((σ.1 (k0 + 1) x3.toNatClampNeg)).toInt64)) fun v4 => if v4 < (0 : Int64) then (f_X7_placeOf_56 k0 K2 x1 x2 x3 σ) else (gd (ib x3 4) (if ((σ.1 (k0 + 2) x3.toNatClampNeg)).toInt64 < (v4 + x2.toInt64) then (f_X7_placeOf_56 k0 K2 x1 x2 x3 σ) else (gd (ib x3 4) (some (((σ.1 (k0 + 3) x3.toNatClampNeg) + v4.toInt32), σ)))))))

def f_X7_placeOf_2 (k0 : Nat) (x1 : Int32) (x2 : Int32) (x3 : Int32) (σ : St) : Option (Int32 × St) :=
  it (fun K a => f_X7_placeOf_2b k0 K a.1 a.2.1 a.2.2.1 a.2.2.2) FU (x1, x2, x3, σ)

def f_X7_placeOf (k0 : Nat) (a1 : Int32) (a2 : Int32) (σ : St) : Option (Int32 × St) :=
  zn (0 : Int32) fun v1 => f_X7_placeOf_2 k0 a1 a2 v1 σ

def f_X6_has (k0 n0 : Nat) (a1 : Int32) (σ : St) : Option (Int32 × St) :=
  if a1 < 0 then (some ((0 : Int32), σ)) else (if (σ.1 k0 1) ≤ a1 then (some ((0 : Int32), σ)) else (some ((1 : Int32), σ)))

def f_X6_put_38 (k0 n0 : Nat) (K3 : (Int32 × Int32 × Int64 × Int32 × St) → Option (St)) (x1 : Int32) (x2 : Int32) (x3 : Int64) (x5 : Int32) (σ : St) : Option (St) :=
  zn (x5 + 1) fun v7 => K3 (x1, x2, x3, v7, σ)

def f_X6_put_3b (k0 n0 : Nat) (K3 : (Int32 × Int32 × Int64 × Int32 × St) → Option (St)) (x1 : Int32) (x2 : Int32) (x3 : Int64) (x5 : Int32) (σ : St) : Option (St) :=
  if x2 ≤ x5 then (some σ) else (bi (f_X6_has k0 n0 (x1 + x5) σ) fun r5 s4 => if r5 = 0 then (f_X6_put_38 k0 n0 K3 x1 x2 x3 x5 s4) else (gd (ib (x1 + x5) n0) (zn (sI s4 (k0 + 1) (x1 + x5).toNatClampNeg (vp_nar .byte ((((zlushr x3 (((8 : Int32) * x5)))).toInt32).toInt8.toInt32))) fun s9 => f_X6_put_38 k0 n0 K3 x1 x2 x3 x5 s9)))

def f_X6_put_3 (k0 n0 : Nat) (x1 : Int32) (x2 : Int32) (x3 : Int64) (x5 : Int32) (σ : St) : Option (St) :=
  it (fun K a => f_X6_put_3b k0 n0 K a.1 a.2.1 a.2.2.1 a.2.2.2.1 a.2.2.2.2) FU (x1, x2, x3, x5, σ)

def f_X6_put (k0 n0 : Nat) (a1 : Int32) (a2 : Int32) (a3 : Int64) (σ : St) : Option (St) :=
  zn (0 : Int32) fun v1 => f_X6_put_3 k0 n0 a1 a2 a3 v1 σ

def f_X4_setPointers_92 (K9 : (Int32 × Int32 × St) → Option (St)) (x2 : Int32) (x3 : Int32) (σ : St) : Option (St) :=
  zn (x3 + 1) fun v15 => K9 (x2, v15, σ)

def f_X4_setPointers_9b (K9 : (Int32 × Int32 × St) → Option (St)) (x2 : Int32) (x3 : Int32) (σ : St) : Option (St) :=
  if (σ.1 47 2) ≤ x3 then (some σ) else (gd (ib x3 2048) (zn (((σ.1 48 x3.toNatClampNeg) + x2)) fun v6 => gd (ib x3 2048) (zn (σ.2 49 x3.toNatClampNeg) fun v8 => bv (f_X9_add 61 v6 v8 σ) fun s10 => bi (f_X7_placeOf 54 v6 (8 : Int32) s10) fun r13 s12 => if r13 = (-1 : Int32) then (f_X4_setPointers_92 K9 x2 x3 s12) else (bi (f_X3_valueOf v8 x2 s12) fun r18 s17 => bv (f_X6_put 59 16384 r13 (8 : Int32) r18 s17) fun s20 => f_X4_setPointers_92 K9 x2 x3 s20))))

def f_X4_setPointers_9 (x2 : Int32) (x3 : Int32) (σ : St) : Option (St) :=
  it (fun K a => f_X4_setPointers_9b K a.1 a.2.1 a.2.2) FU (x2, x3, σ)

def f_X4_setPointers (a2 : Int32) (σ : St) : Option (St) :=
  bv (f_X9_clear 61 σ) fun s2 => zn (0 : Int32) fun v3 => f_X4_setPointers_9 a2 v3 s2

def f_X4_symbolAddress_2b (k1 n1 : Nat) (K2 : (Int32 × St) → Option (Int32 × St)) (x2 : Int32) (σ : St) : Option (Int32 × St) :=
  if (σ.1 53 6) ≤ x2 then (some ((-1 : Int32), σ)) else (gd (ib x2 64) (bi (f_X6_reads 64 6400 (k1 + 1) n1 (σ.1 66 x2.toNatClampNeg) (0 : Int32) (σ.1 k1 1) σ) fun r6 s5 => if r6 = 0 then (zn (x2 + 1) fun v8 => K2 (v8, s5)) else (gd (ib x2 64) (some ((s5.1 67 x2.toNatClampNeg), s5)))))

def f_X4_symbolAddress_2 (k1 n1 : Nat) (x2 : Int32) (σ : St) : Option (Int32 × St) :=
  it (fun K a => f_X4_symbolAddress_2b k1 n1 K a.1 a.2) FU (x2, σ)

def f_X4_symbolAddress (k1 n1 : Nat) (σ : St) : Option (Int32 × St) :=
  zn (0 : Int32) fun v1 => f_X4_symbolAddress_2 k1 n1 v1 σ

def f_X5_clear (k0 b0 n0 : Nat) (σ : St) : Option (St) :=
  zn (sI σ k0 2 (0 : Int32)) fun s1 => some s1

def f_X5_has (k0 b0 n0 : Nat) (a1 : Int32) (σ : St) : Option (Int32 × St) :=
  if a1 < 0 then (some ((0 : Int32), σ)) else (if (σ.1 k0 2) ≤ a1 then (some ((0 : Int32), σ)) else (some ((1 : Int32), σ)))

def f_X5_takes (k0 b0 n0 : Nat) (k1 n1 : Nat) (σ : St) : Option (Int32 × St) :=
  if (Int32.ofNat n0) ≤ (σ.1 k0 2) then (some ((0 : Int32), σ)) else (bi (f_X6_isName k1 n1 σ) fun r4 s3 => if r4 = 0 then (some ((0 : Int32), s3)) else (some ((1 : Int32), s3)))

def f_X5_bytesWithZeros_4b (k0 b0 n0 : Nat) (K4 : (Int32 × Int32 × St) → Option (Int32 × St)) (x1 : Int32) (x2 : Int32) (σ : St) : Option (Int32 × St) :=
  if (σ.1 k0 2) ≤ x2 then (some (x1, σ)) else (gd (ib x2 n0) (zn ((x1 + ((σ.1 (k0 + 2) x2.toNatClampNeg) + (1 : Int32)))) fun v5 => zn (x2 + 1) fun v6 => K4 (v5, v6, σ)))

def f_X5_bytesWithZeros_4 (k0 b0 n0 : Nat) (x1 : Int32) (x2 : Int32) (σ : St) : Option (Int32 × St) :=
  it (fun K a => f_X5_bytesWithZeros_4b k0 b0 n0 K a.1 a.2.1 a.2.2) FU (x1, x2, σ)

def f_X5_bytesWithZeros (k0 b0 n0 : Nat) (σ : St) : Option (Int32 × St) :=
  zn (0 : Int32) fun v1 => zn (0 : Int32) fun v2 => f_X5_bytesWithZeros_4 k0 b0 n0 v1 v2 σ

def f_X5_addFilledTo (k0 b0 n0 : Nat) (k1 n1 : Nat) (a2 : Int32) (σ : St) : Option (St) :=
  bv (f_X6_addFrom k1 n1 (k0 + 1) b0 ((a2 * (16 : Int32))) (16 : Int32) σ) fun s2 => some s2

def f_X5_addAllTo_2b (k0 b0 n0 : Nat) (k1 n1 : Nat) (K2 : (Int32 × St) → Option (St)) (x2 : Int32) (σ : St) : Option (St) :=
  if (σ.1 k0 2) ≤ x2 then (some σ) else (gd (ib x2 n0) (bv (f_X6_addFrom k1 n1 (k0 + 1) b0 ((x2 * (16 : Int32))) ((σ.1 (k0 + 2) x2.toNatClampNeg)) σ) fun s5 => bv (f_X6_addZeros k1 n1 (1 : Int32) s5) fun s7 => zn (x2 + 1) fun v8 => K2 (v8, s7)))

def f_X5_addAllTo_2 (k0 b0 n0 : Nat) (k1 n1 : Nat) (x2 : Int32) (σ : St) : Option (St) :=
  it (fun K a => f_X5_addAllTo_2b k0 b0 n0 k1 n1 K a.1 a.2) FU (x2, σ)

def f_X5_addAllTo (k0 b0 n0 : Nat) (k1 n1 : Nat) (σ : St) : Option (St) :=
  zn (0 : Int32) fun v1 => f_X5_addAllTo_2 k0 b0 n0 k1 n1 v1 σ

def f_X6_shorten (k0 n0 : Nat) (a1 : Int32) (σ : St) : Option (Int32 × St) :=
  if a1 < 0 then (some ((0 : Int32), σ)) else (if a1 ≤ (σ.1 k0 1) then (zn (sI σ k0 1 a1) fun s3 => some ((1 : Int32), s3)) else (some ((0 : Int32), σ)))

def f_X6_add (k0 n0 : Nat) (a1 : Int32) (a2 : Int64) (σ : St) : Option (St) :=
  if a1 < 0 then (some σ) else (if ((Int32.ofNat n0) - (σ.1 k0 1)) < a1 then (some σ) else (zn (sI σ k0 1 (((σ.1 k0 1) + a1))) fun s3 => bv (f_X6_put k0 n0 (((s3.1 k0 1) - a1)) a1 a2 s3) fun s5 => some s5))

def f_X11_filledUp (a0 : Int32) (a1 : Int32) (σ : St) : Option (Int32 × St) :=
  some ((((a0 + a1) - (1 : Int32)) &&& (-a1)), σ)

def f_X6_fillUp (k0 n0 : Nat) (a1 : Int32) (σ : St) : Option (St) :=
  bi (f_X11_filledUp (σ.1 k0 1) a1 σ) fun r3 s2 => bv (f_X6_addZeros k0 n0 ((r3 - (s2.1 k0 1))) s2) fun s5 => some s5

def f_X7_fitWith_56 (k0 : Nat) (K2 : (Int32 × Int32 × St) → Option (Int32 × St)) (x1 : Int32) (x2 : Int32) (σ : St) : Option (Int32 × St) :=
  zn (x2 + 1) fun v7 => K2 (x1, v7, σ)

def f_X7_fitWith_2b (k0 : Nat) (K2 : (Int32 × Int32 × St) → Option (Int32 × St)) (x1 : Int32) (x2 : Int32) (σ : St) : Option (Int32 × St) :=
  if (σ.1 k0 4) ≤ x2 then (some ((1 : Int32), σ)) else (gd (ib x2 4) (zn ((((σ.1 (k0 + 1) x2.toNatClampNeg)).toInt64 + x1.toInt64)) fun v4 => gd (ib x2 4) (if (σ.1 (k0 + 2) x2.toNatClampNeg) ≤ 0 then (f_X7_fitWith_56 k0 K2 x1 x2 σ) else (if v4 < (0 : Int64) then (some ((0 : Int32), σ)) else (gd (ib x2 4) (if ((v4 + ((σ.1 (k0 + 2) x2.toNatClampNeg)).toInt64) - (1 : Int64)) ≤ (2147483647 : Int64) then (f_X7_fitWith_56 k0 K2 x1 x2 σ) else (some ((0 : Int32), σ))))))))

def f_X7_fitWith_2 (k0 : Nat) (x1 : Int32) (x2 : Int32) (σ : St) : Option (Int32 × St) :=
  it (fun K a => f_X7_fitWith_2b k0 K a.1 a.2.1 a.2.2) FU (x1, x2, σ)

def f_X7_fitWith (k0 : Nat) (a1 : Int32) (σ : St) : Option (Int32 × St) :=
  zn (0 : Int32) fun v1 => f_X7_fitWith_2 k0 a1 v1 σ

def f_X8_forget_40b (K40 : (Int32 × St) → Option (St)) (x3 : Int32) (σ : St) : Option (St) :=
  if (Int32.ofNat 1024) ≤ x3 then (zn (sI σ 5 18 (0 : Int32)) fun s13 => some s13) else (gd (ib x3 1024) (zn (sI σ 28 x3.toNatClampNeg (vp_nar .boolean (0 : Int32))) fun s15 => zn (x3 + 1) fun v16 => K40 (v16, s15)))

def f_X8_forget_40 (x3 : Int32) (σ : St) : Option (St) :=
  it (fun K a => f_X8_forget_40b K a.1 a.2) FU (x3, σ)

def f_X8_forget (a1 : Int32) (a2 : Int32) (σ : St) : Option (St) :=
  zn (sI σ 5 0 a1) fun s1 => zn (sI s1 5 1 a2) fun s2 => bv (f_X5_clear 6 64 4 s2) fun s4 => bv (f_X5_clear 12 128 8 s4) fun s6 => bv (f_X5_clear 18 320 20 s6) fun s8 => bv (f_X5_clear 23 320 20 s8) fun s10 => zn (0 : Int32) fun v11 => f_X8_forget_40 v11 s10

def f_X8_addSegment (k1 n1 : Nat) (a2 : Int32) (a3 : Int32) (σ : St) : Option (Int32 × St) :=
  bi (f_X5_takes 6 64 4 k1 n1 σ) fun r3 s2 => if r3 = 0 then (some ((-1 : Int32), s2)) else (if a2 < (1 : Int32) then (some ((-1 : Int32), s2)) else (if (1024 : Int32) < a2 then (some ((-1 : Int32), s2)) else (if a3 < 0 then (some ((-1 : Int32), s2)) else (if a3 ≤ (7 : Int32) then (bi (f_X5_add 6 64 4 k1 n1 s2) fun r11 s10 => gd (ib r11 4) (zn (sI s10 9 r11.toNatClampNeg a2) fun s13 => gd (ib r11 4) (zn (sI s13 10 r11.toNatClampNeg a3) fun s15 => bv (f_J7_fill_eb02e 11 4096 ((r11 * (1024 : Int32))) (((r11 + (1 : Int32)) * (1024 : Int32))) (0 : Int32) s15) fun s17 => some (r11, s17)))) else (some ((-1 : Int32), s2))))))

def f_X8_setContents (k1 n1 : Nat) (a2 : Int32) (a3 : Int32) (σ : St) : Option (Int32 × St) :=
  bi (f_X5_has 6 64 4 a2 σ) fun r3 s2 => if r3 = 0 then (some ((0 : Int32), s2)) else (if a3 < 0 then (some ((0 : Int32), s2)) else (gd (ib a2 4) (if a3 ≤ ((s2.1 9 a2.toNatClampNeg) - (s2.1 k1 1)) then (gd (cpOk s2 (k1 + 1) n1 4096 (0 : Int32) (((a2 * (1024 : Int32)) + a3)) (s2.1 k1 1)) (zn (sR s2 11 (va_cpy (s2.1 (k1 + 1)) (s2.1 11) (0 : Int32).toNatClampNeg (((a2 * (1024 : Int32)) + a3)).toNatClampNeg (s2.1 k1 1).toNatClampNeg)) fun s9 => some ((1 : Int32), s9))) else (some ((0 : Int32), s2)))))

def f_X8_addSection (k1 n1 : Nat) (a2 : Int32) (a3 : Int32) (a4 : Int32) (σ : St) : Option (Int32 × St) :=
  bi (f_X5_takes 12 128 8 k1 n1 σ) fun r3 s2 => if r3 = 0 then (some ((-1 : Int32), s2)) else (bi (f_X5_has 6 64 4 a2 s2) fun r7 s6 => if r7 = 0 then (some ((-1 : Int32), s6)) else (if a3 < 0 then (some ((-1 : Int32), s6)) else (if a4 < 0 then (some ((-1 : Int32), s6)) else (gd (ib a2 4) (if (a3.toInt64 + a4.toInt64) ≤ (s6.1 9 a2.toNatClampNeg).toInt64 then (bi (f_X5_add 12 128 8 k1 n1 s6) fun r15 s14 => gd (ib r15 8) (zn (sI s14 15 r15.toNatClampNeg a2) fun s17 => gd (ib r15 8) (zn (sI s17 16 r15.toNatClampNeg a3) fun s19 => gd (ib r15 8) (zn (sI s19 17 r15.toNatClampNeg a4) fun s21 => some ((r15 + (1 : Int32)), s21))))) else (some ((-1 : Int32), s6)))))))

def f_X8_addSymbol (k1 n1 : Nat) (a2 : Int32) (a3 : Int32) (σ : St) : Option (Int32 × St) :=
  bi (f_X5_takes 18 320 20 k1 n1 σ) fun r3 s2 => if r3 = 0 then (some ((-1 : Int32), s2)) else (if a2 < (1 : Int32) then (some ((-1 : Int32), s2)) else (bi (f_X5_has 12 128 8 ((a2 - (1 : Int32))) s2) fun r8 s7 => if r8 = 0 then (some ((-1 : Int32), s7)) else (if a3 < 0 then (some ((-1 : Int32), s7)) else (gd (ib ((a2 - (1 : Int32))) 8) (if a3 ≤ (s7.1 17 ((a2 - (1 : Int32))).toNatClampNeg) then (bi (f_X5_add 18 320 20 k1 n1 s7) fun r15 s14 => gd (ib r15 20) (zn (sI s14 21 r15.toNatClampNeg a2) fun s17 => gd (ib r15 20) (zn (sI s17 22 r15.toNatClampNeg a3) fun s19 => some (r15, s19)))) else (some ((-1 : Int32), s7)))))))

def f_X8_addImport (k1 n1 : Nat) (a2 : Int32) (a3 : Int32) (σ : St) : Option (Int32 × St) :=
  bi (f_X5_takes 23 320 20 k1 n1 σ) fun r3 s2 => if r3 = 0 then (some ((-1 : Int32), s2)) else (bi (f_X11_isLibrary a2 s2) fun r7 s6 => if r7 = 0 then (some ((-1 : Int32), s6)) else (bi (f_X5_add 23 320 20 k1 n1 s6) fun r11 s10 => gd (ib r11 20) (zn (sI s10 26 r11.toNatClampNeg a2) fun s13 => gd (ib r11 20) (zn (sI s13 27 r11.toNatClampNeg (vp_nar .boolean a3)) fun s15 => some (r11, s15)))))

def f_X8_hasRoom (a1 : Int32) (a2 : Int32) (σ : St) : Option (Int32 × St) :=
  bi (f_X5_has 6 64 4 a1 σ) fun r3 s2 => if r3 = 0 then (some ((0 : Int32), s2)) else (if a2 < 0 then (some ((0 : Int32), s2)) else (if (a2 - a2 / (4 : Int32) * (4 : Int32)) = 0 then (gd (ib a1 4) (if ((s2.1 9 a1.toNatClampNeg) - (8 : Int32)) < a2 then (some ((0 : Int32), s2)) else (if (s2.1 5 1) < ((a2 &&& ((s2.1 5 1) - (1 : Int32))) + (8 : Int32)) then (some ((0 : Int32), s2)) else (some ((1 : Int32), s2))))) else (some ((0 : Int32), s2))))

def f_X8_slot (a0 : Int32) (a1 : Int32) (σ : St) : Option (Int32 × St) :=
  some ((((a0 * (1024 : Int32)) + a1) / (4 : Int32)), σ)

def f_X8_hasPointer (a1 : Int32) (a2 : Int32) (σ : St) : Option (Int32 × St) :=
  bi (f_X5_has 6 64 4 a1 σ) fun r3 s2 => if r3 = 0 then (some ((0 : Int32), s2)) else (if a2 < 0 then (some ((0 : Int32), s2)) else (if (1024 : Int32) ≤ a2 then (some ((0 : Int32), s2)) else (if (a2 - a2 / (4 : Int32) * (4 : Int32)) = 0 then (bi (f_X8_slot a1 a2 s2) fun r10 s9 => gd (ib r10 1024) (if (s9.1 28 r10.toNatClampNeg) = 0 then (some ((0 : Int32), s9)) else (some ((1 : Int32), s9)))) else (some ((0 : Int32), s2)))))

def f_X8_setPointer_63 (x1 : Int32) (x2 : Int32) (x3 : Int64) (σ : St) : Option (Int32 × St) :=
  bi (f_X8_slot x1 x2 σ) fun r19 s18 => gd (ib r19 1024) (zn (sI s18 28 r19.toNatClampNeg (vp_nar .boolean (1 : Int32))) fun s21 => bi (f_X8_slot x1 x2 s21) fun r24 s23 => gd (ib r24 1024) (zn (sJ s23 29 r24.toNatClampNeg x3) fun s26 => some ((1 : Int32), s26)))

def f_X8_setPointer (a1 : Int32) (a2 : Int32) (a3 : Int64) (σ : St) : Option (Int32 × St) :=
  bi (f_X8_hasRoom a1 a2 σ) fun r3 s2 => if r3 = 0 then (some ((0 : Int32), s2)) else (bi (f_X8_hasPointer a1 ((a2 - (4 : Int32))) s2) fun r7 s6 => if r7 = 0 then (bi (f_X8_hasPointer a1 ((a2 + (4 : Int32))) s6) fun r11 s10 => if r11 = 0 then (bi (f_X8_hasPointer a1 a2 s10) fun r15 s14 => if r15 = 0 then (if (s14.1 5 18) < (100 : Int32) then (zn (sI s14 5 18 (((s14.1 5 18) + (1 : Int32)))) fun s28 => f_X8_setPointer_63 a1 a2 a3 s28) else (some ((0 : Int32), s14))) else (f_X8_setPointer_63 a1 a2 a3 s14)) else (some ((0 : Int32), s10))) else (some ((0 : Int32), s6)))

def f_X8_removePointer (a1 : Int32) (a2 : Int32) (σ : St) : Option (Int32 × St) :=
  bi (f_X8_hasPointer a1 a2 σ) fun r3 s2 => if r3 = 0 then (some ((0 : Int32), s2)) else (bi (f_X8_slot a1 a2 s2) fun r7 s6 => gd (ib r7 1024) (zn (sI s6 28 r7.toNatClampNeg (vp_nar .boolean (0 : Int32))) fun s9 => zn (sI s9 5 18 (((s9.1 5 18) - (1 : Int32)))) fun s10 => some ((1 : Int32), s10)))

def f_X8_bitsAt (a1 : Int32) (a2 : Int32) (σ : St) : Option (Int64 × St) :=
  bi (f_X8_hasPointer a1 a2 σ) fun r3 s2 => if r3 = 0 then (some ((0 : Int64), s2)) else (bi (f_X8_slot a1 a2 s2) fun r7 s6 => gd (ib r7 1024) (some ((s6.2 29 r7.toNatClampNeg), s6)))

def f_X8_firstPointer_14b (K14 : (Int32 × Int32 × Int32 × St) → Option (Int32 × St)) (x1 : Int32) (x4 : Int32) (x5 : Int32) (σ : St) : Option (Int32 × St) :=
  if x4 < x5 then (some ((-1 : Int32), σ)) else (bi (f_X8_hasPointer x1 x5 σ) fun r8 s7 => if r8 = 0 then (zn (x5 + 4) fun v10 => K14 (x1, x4, v10, s7)) else (some (x5, s7)))

def f_X8_firstPointer_14 (x1 : Int32) (x4 : Int32) (x5 : Int32) (σ : St) : Option (Int32 × St) :=
  it (fun K a => f_X8_firstPointer_14b K a.1 a.2.1 a.2.2.1 a.2.2.2) FU (x1, x4, x5, σ)

def f_X8_firstPointer (a1 : Int32) (a2 : Int32) (a3 : Int32) (σ : St) : Option (Int32 × St) :=
  bi (f_J9_min_7cf53 a3 (1024 : Int32) σ) fun r3 s2 => zn ((r3 - (4 : Int32))) fun v4 => f_X8_firstPointer_14 a1 v4 a2 s2

def f_X8_spanOf (a1 : Int32) (σ : St) : Option (Int32 × St) :=
  bi (f_X5_has 6 64 4 a1 σ) fun r3 s2 => if r3 = 0 then (some ((0 : Int32), s2)) else (gd (ib a1 4) (bi (f_X11_filledUp (s2.1 9 a1.toNatClampNeg) (s2.1 5 1) s2) fun r8 s7 => some (r8, s7)))

def f_X8_addressOf_7b (K7 : (Int32 × Int32 × Int32 × St) → Option (Int32 × St)) (x1 : Int32) (x2 : Int32) (x3 : Int32) (σ : St) : Option (Int32 × St) :=
  if x1 ≤ x3 then (some (x2, σ)) else (bi (f_X8_spanOf x3 σ) fun r6 s5 => zn (x2 + r6) fun v7 => zn (x3 + 1) fun v8 => K7 (x1, v7, v8, s5))

def f_X8_addressOf_7 (x1 : Int32) (x2 : Int32) (x3 : Int32) (σ : St) : Option (Int32 × St) :=
  it (fun K a => f_X8_addressOf_7b K a.1 a.2.1 a.2.2.1 a.2.2.2) FU (x1, x2, x3, σ)

def f_X8_addressOf (a1 : Int32) (σ : St) : Option (Int32 × St) :=
  zn (σ.1 5 0) fun v1 => zn (0 : Int32) fun v2 => f_X8_addressOf_7 a1 v1 v2 σ

def f_X8_sectionsOf_28 (K4 : (Int32 × Int32 × Int32 × St) → Option (Int32 × St)) (x1 : Int32) (x2 : Int32) (x3 : Int32) (σ : St) : Option (Int32 × St) :=
  zn (x3 + 1) fun v6 => K4 (x1, x2, v6, σ)

def f_X8_sectionsOf_4b (K4 : (Int32 × Int32 × Int32 × St) → Option (Int32 × St)) (x1 : Int32) (x2 : Int32) (x3 : Int32) (σ : St) : Option (Int32 × St) :=
  if (σ.1 12 2) ≤ x3 then (some (x2, σ)) else (gd (ib x3 8) (if (σ.1 15 x3.toNatClampNeg) = x1 then (zn (x2 + 1) fun v7 => f_X8_sectionsOf_28 K4 x1 v7 x3 σ) else (f_X8_sectionsOf_28 K4 x1 x2 x3 σ)))

def f_X8_sectionsOf_4 (x1 : Int32) (x2 : Int32) (x3 : Int32) (σ : St) : Option (Int32 × St) :=
  it (fun K a => f_X8_sectionsOf_4b K a.1 a.2.1 a.2.2.1 a.2.2.2) FU (x1, x2, x3, σ)

def f_X8_sectionsOf (a1 : Int32) (σ : St) : Option (Int32 × St) :=
  zn (0 : Int32) fun v1 => zn (0 : Int32) fun v2 => f_X8_sectionsOf_4 a1 v1 v2 σ

def f_X9_has (k0 : Nat) (a1 : Int32) (σ : St) : Option (Int32 × St) :=
  if a1 < 0 then (some ((0 : Int32), σ)) else (if (σ.1 k0 2) ≤ a1 then (some ((0 : Int32), σ)) else (some ((1 : Int32), σ)))

def f_X10_layOut_47b (K47 : (Int32 × Int32 × St) → Option (St)) (x1 : Int32) (x2 : Int32) (σ : St) : Option (St) :=
  if (σ.1 6 2) ≤ x2 then (bi (f_X11_filledUp x1 (8 : Int32) σ) fun r7 s6 => zn (sI s6 30 5 r7) fun s8 => some s8) else (bi (f_X11_filledUp x1 (8 : Int32) σ) fun r11 s10 => gd (ib x2 4) (zn (sI s10 31 x2.toNatClampNeg r11) fun s13 => gd (ib x2 4) (gd (ib x2 4) (zn (((s13.1 31 x2.toNatClampNeg) + (s13.1 9 x2.toNatClampNeg))) fun v16 => zn (x2 + 1) fun v17 => K47 (v16, v17, s13)))))

def f_X10_layOut_47 (x1 : Int32) (x2 : Int32) (σ : St) : Option (St) :=
  it (fun K a => f_X10_layOut_47b K a.1 a.2.1 a.2.2) FU (x1, x2, σ)

def f_X10_layOut (σ : St) : Option (St) :=
  zn (sI σ 30 4 ((((((72 : Int32) * (σ.1 6 2)) + ((80 : Int32) * (σ.1 12 2))) + (24 : Int32)) + (16 : Int32)))) fun s1 => zn (((32 : Int32) + (s1.1 30 4))) fun v2 => zn (0 : Int32) fun v3 => f_X10_layOut_47 v2 v3 s1

def f_X10_layOutFixups_97 (K18 : (Int32 × Int32 × St) → Option (St)) (x1 : Int32) (x2 : Int32) (σ : St) : Option (St) :=
  zn (x2 + 1) fun v19 => K18 (x1, v19, σ)

def f_X10_layOutFixups_18b (K18 : (Int32 × Int32 × St) → Option (St)) (x1 : Int32) (x2 : Int32) (σ : St) : Option (St) :=
  if (σ.1 6 2) ≤ x2 then (bi (f_X11_filledUp x1 (4 : Int32) σ) fun r6 s5 => zn (sI s5 30 7 r6) fun s7 => zn (sI s7 30 8 (((s7.1 30 7) + ((4 : Int32) * (s7.1 23 2))))) fun s8 => bi (f_X5_bytesWithZeros 23 320 20 s8) fun r11 s10 => zn (sI s10 30 6 (((s8.1 30 8) + r11))) fun s12 => some s12) else (gd (ib x2 4) (zn (sI σ 32 x2.toNatClampNeg (0 : Int32)) fun s14 => bi (f_X8_firstPointer x2 (0 : Int32) (1024 : Int32) s14) fun r17 s16 => if r17 = (-1 : Int32) then (f_X10_layOutFixups_97 K18 x1 x2 s16) else (bi (f_X11_filledUp x1 (4 : Int32) s16) fun r22 s21 => gd (ib x2 4) (zn (sI s21 32 x2.toNatClampNeg ((r22 - (28 : Int32)))) fun s24 => bi (f_X8_spanOf x2 s24) fun r27 s26 => bi (f_X11_pagesIn r27 (s26.1 5 1) s26) fun r30 s29 => zn ((r22 + ((22 : Int32) + ((2 : Int32) * r30)))) fun v31 => f_X10_layOutFixups_97 K18 v31 x2 s29))))

def f_X10_layOutFixups_18 (x1 : Int32) (x2 : Int32) (σ : St) : Option (St) :=
  it (fun K a => f_X10_layOutFixups_18b K a.1 a.2.1 a.2.2) FU (x1, x2, σ)

def f_X10_layOutFixups (σ : St) : Option (St) :=
  zn (((32 : Int32) + ((4 : Int32) * (σ.1 6 2)))) fun v1 => zn (0 : Int32) fun v2 => f_X10_layOutFixups_18 v1 v2 σ

def f_X10_addHead (σ : St) : Option (St) :=
  bv (f_X6_add 3 6400 (4 : Int32) (4277009103 : Int64) σ) fun s2 => bv (f_X6_add 3 6400 (4 : Int32) (16777228 : Int64) s2) fun s4 => bv (f_X6_add 3 6400 (4 : Int32) (0 : Int64) s4) fun s6 => bv (f_X6_add 3 6400 (4 : Int32) (6 : Int64) s6) fun s8 => bv (f_X6_add 3 6400 (4 : Int32) ((((s8.1 6 2) + (2 : Int32))).toInt64) s8) fun s10 => bv (f_X6_add 3 6400 (4 : Int32) ((s10.1 30 4).toInt64) s10) fun s12 => bv (f_X6_add 3 6400 (4 : Int32) (133 : Int64) s12) fun s14 => bv (f_X6_add 3 6400 (4 : Int32) (0 : Int64) s14) fun s16 => some s16

def f_X10_addTableCommands (σ : St) : Option (St) :=
  bv (f_X6_add 3 6400 (4 : Int32) (2 : Int64) σ) fun s2 => bv (f_X6_add 3 6400 (4 : Int32) (24 : Int64) s2) fun s4 => bv (f_X6_add 3 6400 (4 : Int32) ((s4.1 30 9).toInt64) s4) fun s6 => bv (f_X6_add 3 6400 (4 : Int32) ((s6.1 18 2).toInt64) s6) fun s8 => bv (f_X6_add 3 6400 (4 : Int32) ((s8.1 30 10).toInt64) s8) fun s10 => bi (f_X5_bytesWithZeros 18 320 20 s10) fun r13 s12 => bv (f_X6_add 3 6400 (4 : Int32) ((((1 : Int32) + r13)).toInt64) s12) fun s15 => bv (f_X6_add 3 6400 (4 : Int32) (2147483700 : Int64) s15) fun s17 => bv (f_X6_add 3 6400 (4 : Int32) (16 : Int64) s17) fun s19 => bv (f_X6_add 3 6400 (4 : Int32) ((s19.1 30 5).toInt64) s19) fun s21 => bv (f_X6_add 3 6400 (4 : Int32) ((s21.1 30 6).toInt64) s21) fun s23 => some s23

def f_X10_addImports_35 (K4 : (Int32 × Int32 × St) → Option (St)) (x1 : Int32) (x2 : Int32) (t0 : Int32) (σ : St) : Option (St) :=
  gd (ib x2 20) (bv (f_X6_add 3 6400 (4 : Int32) (((((σ.1 26 x2.toNatClampNeg) ||| (t0 <<< ((8 : Int32) &&& 31))) ||| (x1 <<< ((9 : Int32) &&& 31)))).toInt64) σ) fun s8 => gd (ib x2 20) (zn ((x1 + ((s8.1 25 x2.toNatClampNeg) + (1 : Int32)))) fun v10 => zn (x2 + 1) fun v11 => K4 (v10, v11, s8)))

def f_X10_addImports_4b (K4 : (Int32 × Int32 × St) → Option (St)) (x1 : Int32) (x2 : Int32) (σ : St) : Option (St) :=
  if (σ.1 23 2) ≤ x2 then (some σ) else (gd (ib x2 20) (if (σ.1 27 x2.toNatClampNeg) = 0 then (f_X10_addImports_35 K4 x1 x2 (0 : Int32) σ) else (f_X10_addImports_35 K4 x1 x2 (1 : Int32) σ)))

def f_X10_addImports_4 (x1 : Int32) (x2 : Int32) (σ : St) : Option (St) :=
  it (fun K a => f_X10_addImports_4b K a.1 a.2.1 a.2.2) FU (x1, x2, σ)

def f_X10_addImports (σ : St) : Option (St) :=
  zn (0 : Int32) fun v1 => zn (0 : Int32) fun v2 => f_X10_addImports_4 v1 v2 σ

def f_X10_addPages_177 (K116 : (Int32 × Int32 × Int32 × St) → Option (St)) (x1 : Int32) (x2 : Int32) (x3 : Int32) (t0 : Int64) (t1 : Int32) (σ : St) : Option (St) :=
  bv (f_X6_add 3 6400 t1 t0 σ) fun s32 => zn (x3 + 1) fun v33 => K116 (x1, x2, v33, s32)

def f_X10_addPages_116b (K116 : (Int32 × Int32 × Int32 × St) → Option (St)) (x1 : Int32) (x2 : Int32) (x3 : Int32) (σ : St) : Option (St) :=
  if x2 ≤ x3 then (some σ) else (zn ((x3 * (σ.1 5 1))) fun v26 => bi (f_X8_firstPointer x1 v26 ((v26 + (σ.1 5 1))) σ) fun r29 s28 => if r29 = (-1 : Int32) then (f_X10_addPages_177 K116 x1 x2 x3 (65535 : Int64) (2 : Int32) s28) else (f_X10_addPages_177 K116 x1 x2 x3 ((r29 - v26).toInt64) (2 : Int32) s28))

def f_X10_addPages_116 (x1 : Int32) (x2 : Int32) (x3 : Int32) (σ : St) : Option (St) :=
  it (fun K a => f_X10_addPages_116b K a.1 a.2.1 a.2.2.1 a.2.2.2) FU (x1, x2, x3, σ)

def f_X10_addPages (a1 : Int32) (σ : St) : Option (St) :=
  bi (f_X8_spanOf a1 σ) fun r3 s2 => bi (f_X11_pagesIn r3 (s2.1 5 1) s2) fun r6 s5 => bv (f_X6_fillUp 3 6400 (4 : Int32) s5) fun s8 => bv (f_X6_add 3 6400 (4 : Int32) ((((22 : Int32) + ((2 : Int32) * r6))).toInt64) s8) fun s10 => bv (f_X6_add 3 6400 (2 : Int32) ((s10.1 5 1).toInt64) s10) fun s12 => bv (f_X6_add 3 6400 (2 : Int32) (2 : Int64) s12) fun s14 => bi (f_X8_addressOf a1 s14) fun r17 s16 => bv (f_X6_add 3 6400 (8 : Int32) (((r17 - (s16.1 5 0))).toInt64) s16) fun s19 => bv (f_X6_add 3 6400 (4 : Int32) (0 : Int64) s19) fun s21 => bv (f_X6_add 3 6400 (2 : Int32) r6.toInt64 s21) fun s23 => zn (0 : Int32) fun v24 => f_X10_addPages_116 a1 r6 v24 s23

def f_X10_addFixups_178 (K150 : (Int32 × St) → Option (St)) (x1 : Int32) (σ : St) : Option (St) :=
  zn (x1 + 1) fun v31 => K150 (v31, σ)

def f_X10_addFixups_150b (K150 : (Int32 × St) → Option (St)) (x1 : Int32) (σ : St) : Option (St) :=
  if (σ.1 6 2) ≤ x1 then (bv (f_X6_fillUp 3 6400 (4 : Int32) σ) fun s24 => bv (f_X10_addImports s24) fun s26 => bv (f_X5_addAllTo 23 320 20 3 6400 s26) fun s28 => some s28) else (gd (ib x1 4) (if (σ.1 32 x1.toNatClampNeg) = 0 then (f_X10_addFixups_178 K150 x1 σ) else (bv (f_X10_addPages x1 σ) fun s33 => f_X10_addFixups_178 K150 x1 s33)))

def f_X10_addFixups_150 (x1 : Int32) (σ : St) : Option (St) :=
  it (fun K a => f_X10_addFixups_150b K a.1 a.2) FU (x1, σ)

def f_X10_addFixups_113b (K113 : (Int32 × St) → Option (St)) (x1 : Int32) (σ : St) : Option (St) :=
  if (σ.1 6 2) ≤ x1 then (zn (0 : Int32) fun v21 => f_X10_addFixups_150 v21 σ) else (gd (ib x1 4) (bv (f_X6_add 3 6400 (4 : Int32) ((σ.1 32 x1.toNatClampNeg).toInt64) σ) fun s36 => zn (x1 + 1) fun v37 => K113 (v37, s36)))

def f_X10_addFixups_113 (x1 : Int32) (σ : St) : Option (St) :=
  it (fun K a => f_X10_addFixups_113b K a.1 a.2) FU (x1, σ)

def f_X10_addFixups (σ : St) : Option (St) :=
  bv (f_X6_fillUp 3 6400 (8 : Int32) σ) fun s2 => bv (f_X6_add 3 6400 (4 : Int32) (0 : Int64) s2) fun s4 => bv (f_X6_add 3 6400 (4 : Int32) (28 : Int64) s4) fun s6 => bv (f_X6_add 3 6400 (4 : Int32) ((s6.1 30 7).toInt64) s6) fun s8 => bv (f_X6_add 3 6400 (4 : Int32) ((s8.1 30 8).toInt64) s8) fun s10 => bv (f_X6_add 3 6400 (4 : Int32) ((s10.1 23 2).toInt64) s10) fun s12 => bv (f_X6_add 3 6400 (4 : Int32) (1 : Int64) s12) fun s14 => bv (f_X6_add 3 6400 (4 : Int32) (0 : Int64) s14) fun s16 => bv (f_X6_add 3 6400 (4 : Int32) ((s16.1 6 2).toInt64) s16) fun s18 => zn (0 : Int32) fun v19 => f_X10_addFixups_113 v19 s18

def f_X10_addSymbols_13b (K13 : (Int32 × Int32 × St) → Option (St)) (x1 : Int32) (x2 : Int32) (σ : St) : Option (St) :=
  if (σ.1 18 2) ≤ x2 then (some σ) else (gd (ib x2 20) (zn (σ.1 21 x2.toNatClampNeg) fun v7 => gd (ib ((v7 - (1 : Int32))) 8) (gd (ib x2 20) (zn (((σ.1 16 ((v7 - (1 : Int32))).toNatClampNeg) + (σ.1 22 x2.toNatClampNeg))) fun v10 => bv (f_X6_add 3 6400 (4 : Int32) x1.toInt64 σ) fun s12 => bv (f_X6_add 3 6400 (1 : Int32) (15 : Int64) s12) fun s14 => bv (f_X6_add 3 6400 (1 : Int32) v7.toInt64 s14) fun s16 => bv (f_X6_add 3 6400 (2 : Int32) (0 : Int64) s16) fun s18 => gd (ib ((v7 - (1 : Int32))) 8) (bi (f_X8_addressOf ((s18.1 15 ((v7 - (1 : Int32))).toNatClampNeg)) s18) fun r22 s21 => bv (f_X6_add 3 6400 (8 : Int32) ((r22 + v10).toInt64) s21) fun s24 => gd (ib x2 20) (zn ((x1 + ((s24.1 20 x2.toNatClampNeg) + (1 : Int32)))) fun v26 => zn (x2 + 1) fun v27 => K13 (v26, v27, s24)))))))

def f_X10_addSymbols_13 (x1 : Int32) (x2 : Int32) (σ : St) : Option (St) :=
  it (fun K a => f_X10_addSymbols_13b K a.1 a.2.1 a.2.2) FU (x1, x2, σ)

def f_X10_addSymbols (σ : St) : Option (St) :=
  bv (f_X6_fillUp 3 6400 (8 : Int32) σ) fun s2 => zn (1 : Int32) fun v3 => zn (0 : Int32) fun v4 => f_X10_addSymbols_13 v3 v4 s2

def f_X10_addStrings (σ : St) : Option (St) :=
  bv (f_X6_fillUp 3 6400 (8 : Int32) σ) fun s2 => bv (f_X6_addZeros 3 6400 (1 : Int32) s2) fun s4 => bv (f_X5_addAllTo 18 320 20 3 6400 s4) fun s6 => some s6

def f_X10_threaded_45 (x1 : Int32) (x2 : Int32) (t0 : Int64) (σ : St) : Option (Int64 × St) :=
  bi (f_X8_bitsAt x1 x2 σ) fun r10 s9 => some ((r10 ||| (zlshl t0 (51 : Int32))), s9)

def f_X10_threaded (a1 : Int32) (a2 : Int32) (σ : St) : Option (Int64 × St) :=
  bi (f_X11_filledUp ((a2 + (1 : Int32))) (σ.1 5 1) σ) fun r3 s2 => bi (f_X8_firstPointer a1 ((a2 + (4 : Int32))) r3 s2) fun r6 s5 => if r6 = (-1 : Int32) then (f_X10_threaded_45 a1 a2 (0 : Int64) s5) else (f_X10_threaded_45 a1 a2 ((((r6 - a2) / (4 : Int32))).toInt64) s5)

def f_X10_addContents_87 (K39 : (Int32 × Int32 × St) → Option (St)) (x1 : Int32) (x2 : Int32) (σ : St) : Option (St) :=
  zn (x2 + 4) fun v13 => K39 (x1, v13, σ)

def f_X10_addContents_39b (K39 : (Int32 × Int32 × St) → Option (St)) (x1 : Int32) (x2 : Int32) (σ : St) : Option (St) :=
  gd (ib x1 4) (if (σ.1 9 x1.toNatClampNeg) ≤ x2 then (some σ) else (bi (f_X8_hasPointer x1 x2 σ) fun r11 s10 => if r11 = 0 then (f_X10_addContents_87 K39 x1 x2 s10) else (gd (ib x1 4) (bi (f_X10_threaded x1 x2 s10) fun r17 s16 => bv (f_X6_put 3 6400 (((s10.1 31 x1.toNatClampNeg) + x2)) (8 : Int32) r17 s16) fun s19 => f_X10_addContents_87 K39 x1 x2 s19))))

def f_X10_addContents_39 (x1 : Int32) (x2 : Int32) (σ : St) : Option (St) :=
  it (fun K a => f_X10_addContents_39b K a.1 a.2.1 a.2.2) FU (x1, x2, σ)

def f_X10_addContents (a1 : Int32) (σ : St) : Option (St) :=
  bv (f_X6_fillUp 3 6400 (8 : Int32) σ) fun s2 => gd (ib a1 4) (bv (f_X6_addFrom 3 6400 11 4096 ((a1 * (1024 : Int32))) (s2.1 9 a1.toNatClampNeg) s2) fun s5 => zn (0 : Int32) fun v6 => f_X10_addContents_39 a1 v6 s5)

def f_X10_addSegmentCommand (a1 : Int32) (σ : St) : Option (St) :=
  bi (f_X8_sectionsOf a1 σ) fun r3 s2 => bv (f_X6_add 3 6400 (4 : Int32) (25 : Int64) s2) fun s5 => bv (f_X6_add 3 6400 (4 : Int32) ((((72 : Int32) + ((80 : Int32) * r3))).toInt64) s5) fun s7 => bv (f_X5_addFilledTo 6 64 4 3 6400 a1 s7) fun s9 => bi (f_X8_addressOf a1 s9) fun r12 s11 => bv (f_X6_add 3 6400 (8 : Int32) r12.toInt64 s11) fun s14 => bi (f_X8_spanOf a1 s14) fun r17 s16 => bv (f_X6_add 3 6400 (8 : Int32) r17.toInt64 s16) fun s19 => gd (ib a1 4) (bv (f_X6_add 3 6400 (8 : Int32) ((s19.1 31 a1.toNatClampNeg).toInt64) s19) fun s22 => gd (ib a1 4) (bv (f_X6_add 3 6400 (8 : Int32) ((s22.1 9 a1.toNatClampNeg).toInt64) s22) fun s25 => bv (f_X6_add 3 6400 (4 : Int32) (7 : Int64) s25) fun s27 => gd (ib a1 4) (bv (f_X6_add 3 6400 (4 : Int32) ((s27.1 10 a1.toNatClampNeg).toInt64) s27) fun s30 => bv (f_X6_add 3 6400 (4 : Int32) r3.toInt64 s30) fun s32 => bv (f_X6_add 3 6400 (4 : Int32) (0 : Int64) s32) fun s34 => some s34)))

def f_X10_addSectionsOf_140 (K2 : (Int32 × Int32 × St) → Option (St)) (x1 : Int32) (x2 : Int32) (σ : St) : Option (St) :=
  zn (x2 + 1) fun v5 => K2 (x1, v5, σ)

def f_X10_addSectionsOf_2b (K2 : (Int32 × Int32 × St) → Option (St)) (x1 : Int32) (x2 : Int32) (σ : St) : Option (St) :=
  if (σ.1 12 2) ≤ x2 then (some σ) else (gd (ib x2 8) (if (σ.1 15 x2.toNatClampNeg) = x1 then (bv (f_X5_addFilledTo 12 128 8 3 6400 x2 σ) fun s7 => bv (f_X5_addFilledTo 6 64 4 3 6400 x1 s7) fun s9 => bi (f_X8_addressOf x1 s9) fun r12 s11 => gd (ib x2 8) (bv (f_X6_add 3 6400 (8 : Int32) (((r12 + (s11.1 16 x2.toNatClampNeg))).toInt64) s11) fun s15 => gd (ib x2 8) (bv (f_X6_add 3 6400 (8 : Int32) ((s15.1 17 x2.toNatClampNeg).toInt64) s15) fun s18 => gd (ib x1 4) (gd (ib x2 8) (bv (f_X6_add 3 6400 (4 : Int32) ((((s18.1 31 x1.toNatClampNeg) + (s18.1 16 x2.toNatClampNeg))).toInt64) s18) fun s22 => bv (f_X6_addZeros 3 6400 (28 : Int32) s22) fun s24 => f_X10_addSectionsOf_140 K2 x1 x2 s24))))) else (f_X10_addSectionsOf_140 K2 x1 x2 σ)))

def f_X10_addSectionsOf_2 (x1 : Int32) (x2 : Int32) (σ : St) : Option (St) :=
  it (fun K a => f_X10_addSectionsOf_2b K a.1 a.2.1 a.2.2) FU (x1, x2, σ)

def f_X10_addSectionsOf (a1 : Int32) (σ : St) : Option (St) :=
  zn (0 : Int32) fun v1 => f_X10_addSectionsOf_2 a1 v1 σ

def f_X10_writeAll_102b (K102 : (Int32 × St) → Option (St)) (x1 : Int32) (σ : St) : Option (St) :=
  if (σ.1 6 2) ≤ x1 then (bv (f_X10_addFixups σ) fun s24 => bv (f_X10_addSymbols s24) fun s26 => bv (f_X10_addStrings s26) fun s28 => some s28) else (bv (f_X10_addContents x1 σ) fun s30 => zn (x1 + 1) fun v31 => K102 (v31, s30))

def f_X10_writeAll_102 (x1 : Int32) (σ : St) : Option (St) :=
  it (fun K a => f_X10_writeAll_102b K a.1 a.2) FU (x1, σ)

def f_X10_writeAll_66b (K66 : (Int32 × St) → Option (St)) (x1 : Int32) (σ : St) : Option (St) :=
  if (σ.1 6 2) ≤ x1 then (bv (f_X10_addTableCommands σ) fun s20 => zn (0 : Int32) fun v21 => f_X10_writeAll_102 v21 s20) else (bv (f_X10_addSegmentCommand x1 σ) fun s33 => bv (f_X10_addSectionsOf x1 s33) fun s35 => zn (x1 + 1) fun v36 => K66 (v36, s35))

def f_X10_writeAll_66 (x1 : Int32) (σ : St) : Option (St) :=
  it (fun K a => f_X10_writeAll_66b K a.1 a.2) FU (x1, σ)

def f_X10_writeAll (σ : St) : Option (St) :=
  bv (f_X10_layOut σ) fun s2 => bv (f_X10_layOutFixups s2) fun s4 => bi (f_X11_filledUp (((s4.1 30 5) + (s4.1 30 6))) (8 : Int32) s4) fun r7 s6 => zn (sI s6 30 9 r7) fun s8 => bi (f_X11_filledUp (((s8.1 30 9) + ((16 : Int32) * (s8.1 18 2)))) (8 : Int32) s8) fun r11 s10 => zn (sI s10 30 10 r11) fun s12 => bv (f_X6_clear 3 6400 s12) fun s14 => bv (f_X10_addHead s14) fun s16 => zn (0 : Int32) fun v17 => f_X10_writeAll_66 v17 s16

def f_X11_feedNumber_3b (K3 : (Int32 × Int32 × St) → Option (St)) (x1 : Int32) (x2 : Int32) (σ : St) : Option (St) :=
  if x2 < 0 then (some σ) else (bv (f_X6_add 1 1040 (1 : Int32) ((zushr x1 x2).toInt64) σ) fun s4 => zn (x2 + (-8)) fun v5 => K3 (x1, v5, s4))

def f_X11_feedNumber_3 (x1 : Int32) (x2 : Int32) (σ : St) : Option (St) :=
  it (fun K a => f_X11_feedNumber_3b K a.1 a.2.1 a.2.2) FU (x1, x2, σ)

def f_X11_feedNumber (a1 : Int32) (σ : St) : Option (St) :=
  zn (24 : Int32) fun v1 => f_X11_feedNumber_3 a1 v1 σ

def f_X11_feed (a1 : Int32) (a2 : Int32) (a3 : Int32) (a4 : Int32) (a5 : Int32) (σ : St) : Option (Int32 × St) :=
  if ((σ.1 1 1) + (20 : Int32)) ≤ (1040 : Int32) then (bv (f_X11_feedNumber a1 σ) fun s3 => bv (f_X11_feedNumber a2 s3) fun s5 => bv (f_X11_feedNumber a3 s5) fun s7 => bv (f_X11_feedNumber a4 s7) fun s9 => bv (f_X11_feedNumber a5 s9) fun s11 => some ((s11.1 1 1), s11)) else (some ((-1 : Int32), σ))

def f_X11_end (a1 : Int32) (σ : St) : Option (Int32 × St) :=
  bi (f_X6_shorten 1 1040 a1 σ) fun r3 s2 => gd (r3 = 0 ∨ r3 = 1) (some (r3, s2))

def f_X11_anew (a1 : Int32) (a2 : Int32) (σ : St) : Option (Int32 × St) :=
  if a1 < 0 then (some ((0 : Int32), σ)) else (if (1073741824 : Int32) < a1 then (some ((0 : Int32), σ)) else (if (a1 - a1 / (4096 : Int32) * (4096 : Int32)) = 0 then (bi (f_X11_isPage a2 σ) fun r6 s5 => if r6 = 0 then (some ((0 : Int32), s5)) else (bv (f_X8_forget a1 a2 s5) fun s9 => some ((1 : Int32), s9))) else (some ((0 : Int32), σ))))

def f_X11_segment (a1 : Int32) (a2 : Int32) (σ : St) : Option (Int32 × St) :=
  bi (f_X8_addSegment 1 1040 a1 a2 σ) fun r3 s2 => bv (f_X6_clear 1 1040 s2) fun s5 => some (r3, s5)

def f_X11_fill (a1 : Int32) (a2 : Int32) (σ : St) : Option (Int32 × St) :=
  bi (f_X8_setContents 1 1040 a1 a2 σ) fun r3 s2 => bv (f_X6_clear 1 1040 s2) fun s5 => gd (r3 = 0 ∨ r3 = 1) (some (r3, s5))

def f_X11_section (a1 : Int32) (a2 : Int32) (a3 : Int32) (σ : St) : Option (Int32 × St) :=
  bi (f_X8_addSection 1 1040 a1 a2 a3 σ) fun r3 s2 => bv (f_X6_clear 1 1040 s2) fun s5 => some (r3, s5)

def f_X11_symbol (a1 : Int32) (a2 : Int32) (σ : St) : Option (Int32 × St) :=
  bi (f_X8_addSymbol 1 1040 a1 a2 σ) fun r3 s2 => bv (f_X6_clear 1 1040 s2) fun s5 => some (r3, s5)

def f_X11_imports (a1 : Int32) (a2 : Int32) (σ : St) : Option (Int32 × St) :=
  bi (f_X8_addImport 1 1040 a1 a2 σ) fun r3 s2 => bv (f_X6_clear 1 1040 s2) fun s5 => some (r3, s5)

def f_X11_isByte (a0 : Int32) (σ : St) : Option (Int32 × St) :=
  if a0 < 0 then (some ((0 : Int32), σ)) else (if (255 : Int32) < a0 then (some ((0 : Int32), σ)) else (some ((1 : Int32), σ)))

def f_X11_rebase (a1 : Int32) (a2 : Int32) (a3 : Int64) (a4 : Int32) (σ : St) : Option (Int32 × St) :=
  if a3 < (0 : Int64) then (some ((0 : Int32), σ)) else (if (68719476735 : Int64) < a3 then (some ((0 : Int32), σ)) else (bi (f_X11_isByte a4 σ) fun r5 s4 => if r5 = 0 then (some ((0 : Int32), s4)) else (bi (f_X8_setPointer a1 a2 ((a3 ||| (zlshl a4.toInt64 (36 : Int32)))) s4) fun r9 s8 => gd (r9 = 0 ∨ r9 = 1) (some (r9, s8)))))

def f_X11_bind (a1 : Int32) (a2 : Int32) (a3 : Int32) (a4 : Int32) (σ : St) : Option (Int32 × St) :=
  bi (f_X5_has 23 320 20 a3 σ) fun r3 s2 => if r3 = 0 then (some ((0 : Int32), s2)) else (bi (f_X11_isByte a4 s2) fun r7 s6 => if r7 = 0 then (some ((0 : Int32), s6)) else (bi (f_X8_setPointer a1 a2 ((((-9223372036854775808 : Int64) ||| (zlshl a4.toInt64 (24 : Int32))) ||| a3.toInt64)) s6) fun r11 s10 => gd (r11 = 0 ∨ r11 = 1) (some (r11, s10))))

def f_X11_drop (a1 : Int32) (a2 : Int32) (σ : St) : Option (Int32 × St) :=
  bi (f_X8_removePointer a1 a2 σ) fun r3 s2 => gd (r3 = 0 ∨ r3 = 1) (some (r3, s2))

def f_X11_write (σ : St) : Option (Int32 × St) :=
  bv (f_X10_writeAll σ) fun s2 => some ((s2.1 3 1), s2)

def f_X11_image (a1 : Int32) (σ : St) : Option (Int32 × St) :=
  bi (f_X6_has 3 6400 a1 σ) fun r3 s2 => if r3 = 0 then (some ((-1 : Int32), s2)) else (bi (f_X6_at 3 6400 a1 s2) fun r7 s6 => some (r7, s6))

def f_X11_damage (a1 : Int32) (a2 : Int32) (σ : St) : Option (Int32 × St) :=
  bi (f_X6_has 3 6400 a1 σ) fun r3 s2 => if r3 = 0 then (some ((0 : Int32), s2)) else (bi (f_X11_isByte a2 s2) fun r7 s6 => if r7 = 0 then (some ((0 : Int32), s6)) else (bv (f_X6_put 3 6400 a1 (1 : Int32) a2.toInt64 s6) fun s10 => some ((1 : Int32), s10)))

def f_X11_cut (a1 : Int32) (σ : St) : Option (Int32 × St) :=
  bi (f_X6_shorten 3 6400 a1 σ) fun r3 s2 => gd (r3 = 0 ∨ r3 = 1) (some (r3, s2))

def f_X11_export (a1 : Int32) (a2 : Int32) (σ : St) : Option (Int32 × St) :=
  bi (f_X1_put 1 1040 a1 a2 σ) fun r3 s2 => bv (f_X6_clear 1 1040 s2) fun s5 => gd (r3 = 0 ∨ r3 = 1) (some (r3, s5))

def f_X11_load (a1 : Int32) (σ : St) : Option (Int32 × St) :=
  bv (f_X2_clear σ) fun s2 => bi (f_X0_hold s2) fun r5 s4 => if r5 = 0 then (some ((s4.1 39 0), s4)) else (bi (f_X3_hold s4) fun r9 s8 => if r9 = 0 then (some ((s8.1 39 0), s8)) else (bi (f_X7_fitWith 41 a1 s8) fun r13 s12 => bi (f_X2_unless r13 (13 : Int32) (0 : Int32) s12) fun r16 s15 => if r16 = 0 then (some ((s15.1 39 0), s15)) else (bv (f_X4_take 3 6400 a1 s15) fun s19 => bv (f_X4_setPointers a1 s19) fun s21 => some ((s21.1 39 0), s21))))

def f_X11_place (σ : St) : Option (Int32 × St) :=
  some ((σ.1 39 1), σ)

def f_X11_memory (a1 : Int32) (σ : St) : Option (Int32 × St) :=
  bi (f_X7_placeOf 54 a1 (1 : Int32) σ) fun r3 s2 => if r3 = (-1 : Int32) then (some ((-1 : Int32), s2)) else (bi (f_X6_at 59 16384 r3 s2) fun r7 s6 => some (r7, s6))

def f_X11_find (σ : St) : Option (Int32 × St) :=
  bi (f_X4_symbolAddress 1 1040 σ) fun r3 s2 => bv (f_X6_clear 1 1040 s2) fun s5 => some (r3, s5)

def f_X11_count (a1 : Int32) (σ : St) : Option (Int32 × St) :=
  if a1 = 0 then (some ((σ.1 6 2), σ)) else (if a1 = 1 then (some ((σ.1 12 2), σ)) else (if a1 = 2 then (some ((σ.1 18 2), σ)) else (if a1 = 3 then (some ((σ.1 23 2), σ)) else (if a1 = 4 then (some ((σ.1 5 18), σ)) else (if a1 = 5 then (some ((σ.1 3 1), σ)) else (if a1 = 6 then (some ((σ.1 34 2), σ)) else (if a1 = 7 then (some ((σ.1 54 4), σ)) else (if a1 = 8 then (some ((σ.1 61 2), σ)) else (if a1 = 9 then (some ((σ.1 53 6), σ)) else (if a1 = 10 then (some ((σ.1 1 1), σ)) else ((some ((-1 : Int32), σ)))))))))))))

def f_X12_thrown (σ : St) : Option (Int32 × St) :=
  some ((σ.1 68 0), σ)

def f_X12_come_3b (K3 : (Int32 × Int32 × St) → Option (St)) (x1 : Int32) (x2 : Int32) (σ : St) : Option (St) :=
  if x2 < 0 then (some σ) else (gd (ib (σ.1 68 2) 1040) (zn (sI σ 69 (σ.1 68 2).toNatClampNeg (((zushr x1 x2) &&& (255 : Int32)))) fun s4 => zn (sI s4 68 2 (((s4.1 68 2) + (1 : Int32)))) fun s5 => zn (x2 + (-8)) fun v6 => K3 (x1, v6, s5)))

def f_X12_come_3 (x1 : Int32) (x2 : Int32) (σ : St) : Option (St) :=
  it (fun K a => f_X12_come_3b K a.1 a.2.1 a.2.2) FU (x1, x2, σ)

def f_X12_come (a1 : Int32) (σ : St) : Option (St) :=
  zn (24 : Int32) fun v1 => f_X12_come_3 a1 v1 σ

def f_X12_feed (a1 : Int32) (a2 : Int32) (a3 : Int32) (a4 : Int32) (a5 : Int32) (σ : St) : Option (Int32 × St) :=
  zn (sI σ 68 0 (0 : Int32)) fun s1 => if ((s1.1 68 2) + (20 : Int32)) ≤ (1040 : Int32) then (bv (f_X12_come a1 s1) fun s4 => bv (f_X12_come a2 s4) fun s6 => bv (f_X12_come a3 s6) fun s8 => bv (f_X12_come a4 s8) fun s10 => bv (f_X12_come a5 s10) fun s12 => some ((s12.1 68 2), s12)) else (some ((-1 : Int32), s1))

def f_X12_end (a1 : Int32) (σ : St) : Option (Int32 × St) :=
  zn (sI σ 68 0 (0 : Int32)) fun s1 => if a1 < 0 then (some ((0 : Int32), s1)) else (if a1 ≤ (s1.1 68 2) then (zn (sI s1 68 2 a1) fun s4 => some ((1 : Int32), s4)) else (some ((0 : Int32), s1)))

def f_X12_takes_118 (K79 : (Int32 × Int32 × Int32 × Int32 × St) → Option (Int32 × St)) (x1 : Int32) (x2 : Int32) (x3 : Int32) (x4 : Int32) (t0 : Int32) (t1 : Int32) (σ : St) : Option (Int32 × St) :=
  gd (ib t1 1312) (zn (sI σ 70 t1.toNatClampNeg t0) fun s13 => zn (x4 + 1) fun v14 => K79 (x1, x2, x3, v14, s13))

def f_X12_takes_79b (K79 : (Int32 × Int32 × Int32 × Int32 × St) → Option (Int32 × St)) (x1 : Int32) (x2 : Int32) (x3 : Int32) (x4 : Int32) (σ : St) : Option (Int32 × St) :=
  if (16 : Int32) ≤ x4 then (gd (x3 = 0 ∨ x3 = 1) (some (x3, σ))) else (if x3 = 0 then (gd (x3 = 0 ∨ x3 = 1) (some (x3, σ))) else (if x2 ≤ x4 then (f_X12_takes_118 K79 x1 x2 x3 x4 (0 : Int32) ((((16 : Int32) * x1) + x4)) σ) else (gd (ib x4 1040) (f_X12_takes_118 K79 x1 x2 x3 x4 (σ.1 69 x4.toNatClampNeg) ((((16 : Int32) * x1) + x4)) σ))))

def f_X12_takes_79 (x1 : Int32) (x2 : Int32) (x3 : Int32) (x4 : Int32) (σ : St) : Option (Int32 × St) :=
  it (fun K a => f_X12_takes_79b K a.1 a.2.1 a.2.2.1 a.2.2.2.1 a.2.2.2.2) FU (x1, x2, x3, x4, σ)

def f_X12_takes_76 (x1 : Int32) (x2 : Int32) (x3 : Int32) (σ : St) : Option (Int32 × St) :=
  zn (0 : Int32) fun v6 => f_X12_takes_79 x1 x2 x3 v6 σ

def f_X12_takes_69 (K30 : (Int32 × Int32 × Int32 × Int32 × St) → Option (Int32 × St)) (x1 : Int32) (x2 : Int32) (x4 : Int32) (t0 : Int32) (σ : St) : Option (Int32 × St) :=
  zn (x4 + 1) fun v19 => K30 (x1, x2, t0, v19, σ)

def f_X12_takes_68 (K30 : (Int32 × Int32 × Int32 × Int32 × St) → Option (Int32 × St)) (x1 : Int32) (x2 : Int32) (x4 : Int32) (σ : St) : Option (Int32 × St) :=
  f_X12_takes_69 K30 x1 x2 x4 (0 : Int32) σ

def f_X12_takes_30b (K30 : (Int32 × Int32 × Int32 × Int32 × St) → Option (Int32 × St)) (x1 : Int32) (x2 : Int32) (x3 : Int32) (x4 : Int32) (σ : St) : Option (Int32 × St) :=
  if x2 ≤ x4 then (f_X12_takes_76 x1 x2 x3 σ) else (if x3 = 0 then (f_X12_takes_76 x1 x2 x3 σ) else (gd (ib x4 1040) (if (σ.1 69 x4.toNatClampNeg) ≤ (32 : Int32) then (f_X12_takes_68 K30 x1 x2 x4 σ) else (gd (ib x4 1040) (if (127 : Int32) ≤ (σ.1 69 x4.toNatClampNeg) then (f_X12_takes_68 K30 x1 x2 x4 σ) else (f_X12_takes_69 K30 x1 x2 x4 (1 : Int32) σ))))))

def f_X12_takes_30 (x1 : Int32) (x2 : Int32) (x3 : Int32) (x4 : Int32) (σ : St) : Option (Int32 × St) :=
  it (fun K a => f_X12_takes_30b K a.1 a.2.1 a.2.2.1 a.2.2.2.1 a.2.2.2.2) FU (x1, x2, x3, x4, σ)

def f_X12_takes_26 (x1 : Int32) (x2 : Int32) (t0 : Int32) (σ : St) : Option (Int32 × St) :=
  zn (0 : Int32) fun v4 => f_X12_takes_30 x1 x2 t0 v4 σ

def f_X12_takes_25 (x1 : Int32) (x2 : Int32) (σ : St) : Option (Int32 × St) :=
  f_X12_takes_26 x1 x2 (0 : Int32) σ

def f_X12_takes (a1 : Int32) (σ : St) : Option (Int32 × St) :=
  zn (σ.1 68 2) fun v1 => zn (sI σ 68 2 (0 : Int32)) fun s2 => if v1 < (1 : Int32) then (f_X12_takes_25 a1 v1 s2) else (if (16 : Int32) < v1 then (f_X12_takes_25 a1 v1 s2) else (f_X12_takes_26 a1 v1 (1 : Int32) s2))

def f_X12_longOf_2b (K2 : (Int32 × Int32 × St) → Option (Int32 × St)) (x1 : Int32) (x2 : Int32) (σ : St) : Option (Int32 × St) :=
  if (16 : Int32) ≤ x2 then (some (x2, σ)) else (gd (ib ((((16 : Int32) * x1) + x2)) 1312) (if (σ.1 70 ((((16 : Int32) * x1) + x2)).toNatClampNeg) = 0 then (some (x2, σ)) else (zn (x2 + 1) fun v5 => K2 (x1, v5, σ))))

def f_X12_longOf_2 (x1 : Int32) (x2 : Int32) (σ : St) : Option (Int32 × St) :=
  it (fun K a => f_X12_longOf_2b K a.1 a.2.1 a.2.2) FU (x1, x2, σ)

def f_X12_longOf (a1 : Int32) (σ : St) : Option (Int32 × St) :=
  zn (0 : Int32) fun v1 => f_X12_longOf_2 a1 v1 σ

def f_X12_isPage (a0 : Int64) (σ : St) : Option (Int32 × St) :=
  if a0 = (256 : Int64) then (some ((1 : Int32), σ)) else (if a0 = (512 : Int64) then (some ((1 : Int32), σ)) else (if a0 = (1024 : Int64) then (some ((1 : Int32), σ)) else (if a0 = (2048 : Int64) then (some ((1 : Int32), σ)) else (if a0 = (4096 : Int64) then (some ((1 : Int32), σ)) else (some ((0 : Int32), σ))))))

def f_X12_anew (a1 : Int32) (a2 : Int32) (σ : St) : Option (Int32 × St) :=
  zn (sI σ 68 0 (0 : Int32)) fun s1 => if a1 < 0 then (some ((0 : Int32), s1)) else (if (1073741824 : Int32) < a1 then (some ((0 : Int32), s1)) else (if (a1 - a1 / (4096 : Int32) * (4096 : Int32)) = 0 then (bi (f_X12_isPage a2.toInt64 s1) fun r7 s6 => if r7 = 0 then (some ((0 : Int32), s6)) else (zn (sI s6 68 4 a1) fun s9 => zn (sI s9 68 5 a2) fun s10 => zn (sI s10 68 6 (0 : Int32)) fun s11 => zn (sI s11 68 7 (0 : Int32)) fun s12 => zn (sI s12 68 8 (0 : Int32)) fun s13 => zn (sI s13 68 9 (0 : Int32)) fun s14 => zn (sI s14 68 10 (0 : Int32)) fun s15 => some ((1 : Int32), s15))) else (some ((0 : Int32), s1))))

def f_X12_segment_88b (K88 : (Int32 × St) → Option (Int32 × St)) (x4 : Int32) (σ : St) : Option (Int32 × St) :=
  if (1024 : Int32) ≤ x4 then (zn (sI σ 68 6 (((σ.1 68 6) + (1 : Int32)))) fun s14 => some (((s14.1 68 6) - (1 : Int32)), s14)) else (gd (ib ((((1024 : Int32) * (σ.1 68 6)) + x4)) 4096) (zn (sI σ 73 ((((1024 : Int32) * (σ.1 68 6)) + x4)).toNatClampNeg (0 : Int32)) fun s16 => zn (x4 + 1) fun v17 => K88 (v17, s16)))

def f_X12_segment_88 (x4 : Int32) (σ : St) : Option (Int32 × St) :=
  it (fun K a => f_X12_segment_88b K a.1 a.2) FU (x4, σ)

def f_X12_segment_40 (x1 : Int32) (x2 : Int32) (t0 : Int32) (σ : St) : Option (Int32 × St) :=
  if t0 = 0 then (zn (sI σ 68 2 (0 : Int32)) fun s18 => some ((-1 : Int32), s18)) else (bi (f_X12_takes (σ.1 68 6) σ) fun r6 s5 => if r6 = 0 then (some ((-1 : Int32), s5)) else (gd (ib (s5.1 68 6) 4) (zn (sI s5 71 (s5.1 68 6).toNatClampNeg x1) fun s9 => gd (ib (s9.1 68 6) 4) (zn (sI s9 72 (s9.1 68 6).toNatClampNeg x2) fun s11 => zn (0 : Int32) fun v12 => f_X12_segment_88 v12 s11))))

def f_X12_segment_39 (x1 : Int32) (x2 : Int32) (σ : St) : Option (Int32 × St) :=
  f_X12_segment_40 x1 x2 (0 : Int32) σ

def f_X12_segment (a1 : Int32) (a2 : Int32) (σ : St) : Option (Int32 × St) :=
  zn (sI σ 68 0 (0 : Int32)) fun s1 => if (4 : Int32) ≤ (s1.1 68 6) then (f_X12_segment_39 a1 a2 s1) else (if a1 < (1 : Int32) then (f_X12_segment_39 a1 a2 s1) else (if (1024 : Int32) < a1 then (f_X12_segment_39 a1 a2 s1) else (if a2 < 0 then (f_X12_segment_39 a1 a2 s1) else (if (7 : Int32) < a2 then (f_X12_segment_39 a1 a2 s1) else (f_X12_segment_40 a1 a2 (1 : Int32) s1)))))

def f_X12_isSegment (a1 : Int32) (σ : St) : Option (Int32 × St) :=
  if a1 < 0 then (some ((0 : Int32), σ)) else (if (σ.1 68 6) ≤ a1 then (some ((0 : Int32), σ)) else (some ((1 : Int32), σ)))

def f_X12_fill_44b (K44 : (Int32 × Int32 × Int32 × Int32 × St) → Option (Int32 × St)) (x1 : Int32) (x2 : Int32) (x3 : Int32) (x4 : Int32) (σ : St) : Option (Int32 × St) :=
  if x3 ≤ x4 then (some ((1 : Int32), σ)) else (gd (ib x4 1040) (gd (ib (((((1024 : Int32) * x1) + x2) + x4)) 4096) (zn (sI σ 73 (((((1024 : Int32) * x1) + x2) + x4)).toNatClampNeg (σ.1 69 x4.toNatClampNeg)) fun s15 => zn (x4 + 1) fun v16 => K44 (x1, x2, x3, v16, s15))))

def f_X12_fill_44 (x1 : Int32) (x2 : Int32) (x3 : Int32) (x4 : Int32) (σ : St) : Option (Int32 × St) :=
  it (fun K a => f_X12_fill_44b K a.1 a.2.1 a.2.2.1 a.2.2.2.1 a.2.2.2.2) FU (x1, x2, x3, x4, σ)

def f_X12_fill (a1 : Int32) (a2 : Int32) (σ : St) : Option (Int32 × St) :=
  zn (sI σ 68 0 (0 : Int32)) fun s1 => zn (s1.1 68 2) fun v2 => zn (sI s1 68 2 (0 : Int32)) fun s3 => bi (f_X12_isSegment a1 s3) fun r6 s5 => if r6 = 0 then (some ((0 : Int32), s5)) else (if a2 < 0 then (some ((0 : Int32), s5)) else (gd (ib a1 4) (if a2 ≤ ((s5.1 71 a1.toNatClampNeg) - v2) then (zn (0 : Int32) fun v11 => f_X12_fill_44 a1 a2 v2 v11 s5) else (some ((0 : Int32), s5)))))

def f_X12_section_61 (x1 : Int32) (x2 : Int32) (x3 : Int32) (t0 : Int32) (σ : St) : Option (Int32 × St) :=
  if t0 = 0 then (zn (sI σ 68 2 (0 : Int32)) fun s15 => some ((-1 : Int32), s15)) else (bi (f_X12_takes (((4 : Int32) + (σ.1 68 7))) σ) fun r6 s5 => if r6 = 0 then (some ((-1 : Int32), s5)) else (zn (sI s5 68 7 (((s5.1 68 7) + (1 : Int32)))) fun s8 => gd (ib (s8.1 68 7) 9) (zn (sI s8 74 (s8.1 68 7).toNatClampNeg x1) fun s10 => gd (ib (s10.1 68 7) 9) (zn (sI s10 75 (s10.1 68 7).toNatClampNeg x2) fun s12 => gd (ib (s12.1 68 7) 9) (zn (sI s12 76 (s12.1 68 7).toNatClampNeg x3) fun s14 => some ((s14.1 68 7), s14))))))

def f_X12_section_60 (x1 : Int32) (x2 : Int32) (x3 : Int32) (σ : St) : Option (Int32 × St) :=
  f_X12_section_61 x1 x2 x3 (0 : Int32) σ

def f_X12_section (a1 : Int32) (a2 : Int32) (a3 : Int32) (σ : St) : Option (Int32 × St) :=
  zn (sI σ 68 0 (0 : Int32)) fun s1 => if (8 : Int32) ≤ (s1.1 68 7) then (f_X12_section_60 a1 a2 a3 s1) else (bi (f_X12_isSegment a1 s1) fun r18 s17 => if r18 = 0 then (f_X12_section_60 a1 a2 a3 s17) else (if a2 < 0 then (f_X12_section_60 a1 a2 a3 s17) else (if a3 < 0 then (f_X12_section_60 a1 a2 a3 s17) else (if (1024 : Int32) < a2 then (f_X12_section_60 a1 a2 a3 s17) else (if (1024 : Int32) < a3 then (f_X12_section_60 a1 a2 a3 s17) else (gd (ib a1 4) (if (s17.1 71 a1.toNatClampNeg) < (a2 + a3) then (f_X12_section_60 a1 a2 a3 s17) else (f_X12_section_61 a1 a2 a3 (1 : Int32) s17))))))))

def f_X12_symbol_46 (x1 : Int32) (x2 : Int32) (t0 : Int32) (σ : St) : Option (Int32 × St) :=
  if t0 = 0 then (zn (sI σ 68 2 (0 : Int32)) fun s13 => some ((-1 : Int32), s13)) else (bi (f_X12_takes (((12 : Int32) + (σ.1 68 8))) σ) fun r6 s5 => if r6 = 0 then (some ((-1 : Int32), s5)) else (gd (ib (s5.1 68 8) 20) (zn (sI s5 77 (s5.1 68 8).toNatClampNeg x1) fun s9 => gd (ib (s9.1 68 8) 20) (zn (sI s9 78 (s9.1 68 8).toNatClampNeg x2) fun s11 => zn (sI s11 68 8 (((s11.1 68 8) + (1 : Int32)))) fun s12 => some (((s12.1 68 8) - (1 : Int32)), s12)))))

def f_X12_symbol_45 (x1 : Int32) (x2 : Int32) (σ : St) : Option (Int32 × St) :=
  f_X12_symbol_46 x1 x2 (0 : Int32) σ

def f_X12_symbol (a1 : Int32) (a2 : Int32) (σ : St) : Option (Int32 × St) :=
  zn (sI σ 68 0 (0 : Int32)) fun s1 => if (20 : Int32) ≤ (s1.1 68 8) then (f_X12_symbol_45 a1 a2 s1) else (if a1 < (1 : Int32) then (f_X12_symbol_45 a1 a2 s1) else (if (s1.1 68 7) < a1 then (f_X12_symbol_45 a1 a2 s1) else (if a2 < 0 then (f_X12_symbol_45 a1 a2 s1) else (gd (ib a1 9) (if (s1.1 76 a1.toNatClampNeg) < a2 then (f_X12_symbol_45 a1 a2 s1) else (f_X12_symbol_46 a1 a2 (1 : Int32) s1))))))

def f_X12_imports_24 (σ : St) : Option (Int32 × St) :=
  zn (sI σ 68 2 (0 : Int32)) fun s3 => some ((-1 : Int32), s3)

def f_X12_imports (a1 : Int32) (a2 : Int32) (σ : St) : Option (Int32 × St) :=
  zn (sI σ 68 0 (0 : Int32)) fun s1 => if (s1.1 68 9) = (20 : Int32) then (f_X12_imports_24 s1) else (if a1 < (1 : Int32) then (f_X12_imports_24 s1) else (if a1 ≤ (3 : Int32) then (bi (f_X12_takes (((32 : Int32) + (s1.1 68 9))) s1) fun r8 s7 => if r8 = 0 then (some ((-1 : Int32), s7)) else (gd (ib (s7.1 68 9) 20) (zn (sI s7 79 (s7.1 68 9).toNatClampNeg a1) fun s11 => gd (ib (s11.1 68 9) 20) (zn (sI s11 80 (s11.1 68 9).toNatClampNeg (vp_nar .boolean a2)) fun s13 => zn (sI s13 68 9 (((s13.1 68 9) + (1 : Int32)))) fun s14 => some (((s14.1 68 9) - (1 : Int32)), s14))))) else (f_X12_imports_24 s1)))

def f_X12_pointerAtPlace_32 (K2 : (Int32 × Int32 × Int32 × St) → Option (Int32 × St)) (x1 : Int32) (x2 : Int32) (x3 : Int32) (σ : St) : Option (Int32 × St) :=
  zn (x3 + 1) fun v5 => K2 (x1, x2, v5, σ)

def f_X12_pointerAtPlace_2b (K2 : (Int32 × Int32 × Int32 × St) → Option (Int32 × St)) (x1 : Int32) (x2 : Int32) (x3 : Int32) (σ : St) : Option (Int32 × St) :=
  if (σ.1 68 10) ≤ x3 then (some ((-1 : Int32), σ)) else (gd (ib x3 101) (if (σ.1 81 x3.toNatClampNeg) = x1 then (gd (ib x3 101) (if (σ.1 82 x3.toNatClampNeg) = x2 then (some (x3, σ)) else (f_X12_pointerAtPlace_32 K2 x1 x2 x3 σ))) else (f_X12_pointerAtPlace_32 K2 x1 x2 x3 σ)))

def f_X12_pointerAtPlace_2 (x1 : Int32) (x2 : Int32) (x3 : Int32) (σ : St) : Option (Int32 × St) :=
  it (fun K a => f_X12_pointerAtPlace_2b K a.1 a.2.1 a.2.2.1 a.2.2.2) FU (x1, x2, x3, σ)

def f_X12_pointerAtPlace (a1 : Int32) (a2 : Int32) (σ : St) : Option (Int32 × St) :=
  zn (0 : Int32) fun v1 => f_X12_pointerAtPlace_2 a1 a2 v1 σ

def f_X12_move (a1 : Int32) (a2 : Int32) (σ : St) : Option (St) :=
  gd (ib a1 101) (gd (ib a2 101) (zn (sI σ 81 a2.toNatClampNeg (σ.1 81 a1.toNatClampNeg)) fun s3 => gd (ib a1 101) (gd (ib a2 101) (zn (sI s3 82 a2.toNatClampNeg (s3.1 82 a1.toNatClampNeg)) fun s6 => gd (ib a1 101) (gd (ib a2 101) (zn (sJ s6 84 a2.toNatClampNeg (s6.2 84 a1.toNatClampNeg)) fun s9 => gd (ib a1 101) (gd (ib a2 101) (zn (sI s9 83 a2.toNatClampNeg (s9.1 83 a1.toNatClampNeg)) fun s12 => gd (ib a1 101) (gd (ib a2 101) (zn (sI s12 85 a2.toNatClampNeg (vp_nar .boolean (s12.1 85 a1.toNatClampNeg))) fun s15 => some s15))))))))))

def f_X12_gone_12b (K12 : (Int32 × St) → Option (St)) (x2 : Int32) (σ : St) : Option (St) :=
  if (σ.1 68 10) ≤ x2 then (some σ) else (bv (f_X12_move ((x2 + (1 : Int32))) x2 σ) fun s4 => zn (x2 + 1) fun v5 => K12 (v5, s4))

def f_X12_gone_12 (x2 : Int32) (σ : St) : Option (St) :=
  it (fun K a => f_X12_gone_12b K a.1 a.2) FU (x2, σ)

def f_X12_gone (a1 : Int32) (σ : St) : Option (St) :=
  zn (sI σ 68 10 (((σ.1 68 10) - (1 : Int32)))) fun s1 => f_X12_gone_12 a1 s1

def f_X12_points_238 (x1 : Int32) (x2 : Int32) (x3 : Int64) (x5 : Int32) (x6 : Int32) (x8 : Int32) (σ : St) : Option (Int32 × St) :=
  gd (ib x8 101) (zn (sI σ 81 x8.toNatClampNeg x1) fun s25 => gd (ib x8 101) (zn (sI s25 82 x8.toNatClampNeg x2) fun s27 => gd (ib x8 101) (zn (sJ s27 84 x8.toNatClampNeg x3) fun s29 => gd (ib x8 101) (zn (sI s29 83 x8.toNatClampNeg x5) fun s31 => gd (ib x8 101) (zn (sI s31 85 x8.toNatClampNeg (vp_nar .boolean x6)) fun s33 => zn (sI s33 68 10 (((s33.1 68 10) + (1 : Int32)))) fun s34 => some ((1 : Int32), s34))))))

def f_X12_points_222 (K178 : (Int32 × Int32 × Int64 × Int32 × Int32 × Int32 × St) → Option (Int32 × St)) (x1 : Int32) (x2 : Int32) (x3 : Int64) (x5 : Int32) (x6 : Int32) (x8 : Int32) (σ : St) : Option (Int32 × St) :=
  bv (f_X12_move ((x8 - (1 : Int32))) x8 σ) fun s38 => zn (x8 + (-1)) fun v39 => K178 (x1, x2, x3, x5, x6, v39, s38)

def f_X12_points_178b (K178 : (Int32 × Int32 × Int64 × Int32 × Int32 × Int32 × St) → Option (Int32 × St)) (x1 : Int32) (x2 : Int32) (x3 : Int64) (x5 : Int32) (x6 : Int32) (x8 : Int32) (σ : St) : Option (Int32 × St) :=
  if x8 ≤ 0 then (f_X12_points_238 x1 x2 x3 x5 x6 x8 σ) else (gd (ib ((x8 - (1 : Int32))) 101) (if x1 < (σ.1 81 ((x8 - (1 : Int32))).toNatClampNeg) then (f_X12_points_222 K178 x1 x2 x3 x5 x6 x8 σ) else (gd (ib ((x8 - (1 : Int32))) 101) (if (σ.1 81 ((x8 - (1 : Int32))).toNatClampNeg) = x1 then (gd (ib ((x8 - (1 : Int32))) 101) (if (σ.1 82 ((x8 - (1 : Int32))).toNatClampNeg) ≤ x2 then (f_X12_points_238 x1 x2 x3 x5 x6 x8 σ) else (f_X12_points_222 K178 x1 x2 x3 x5 x6 x8 σ))) else (f_X12_points_238 x1 x2 x3 x5 x6 x8 σ)))))

def f_X12_points_178 (x1 : Int32) (x2 : Int32) (x3 : Int64) (x5 : Int32) (x6 : Int32) (x8 : Int32) (σ : St) : Option (Int32 × St) :=
  it (fun K a => f_X12_points_178b K a.1 a.2.1 a.2.2.1 a.2.2.2.1 a.2.2.2.2.1 a.2.2.2.2.2.1 a.2.2.2.2.2.2) FU (x1, x2, x3, x5, x6, x8, σ)

def f_X12_points_172 (x1 : Int32) (x2 : Int32) (x3 : Int64) (x5 : Int32) (x6 : Int32) (σ : St) : Option (Int32 × St) :=
  zn (σ.1 68 10) fun v22 => f_X12_points_178 x1 x2 x3 x5 x6 v22 σ

def f_X12_points_154 (K97 : (Int32 × Int32 × Int64 × Int32 × Int32 × Int32 × Int32 × St) → Option (Int32 × St)) (x1 : Int32) (x2 : Int32) (x3 : Int64) (x5 : Int32) (x6 : Int32) (x7 : Int32) (x8 : Int32) (σ : St) : Option (Int32 × St) :=
  zn (x8 + 1) fun v48 => K97 (x1, x2, x3, x5, x6, x7, v48, σ)

def f_X12_points_97b (K97 : (Int32 × Int32 × Int64 × Int32 × Int32 × Int32 × Int32 × St) → Option (Int32 × St)) (x1 : Int32) (x2 : Int32) (x3 : Int64) (x5 : Int32) (x6 : Int32) (x7 : Int32) (x8 : Int32) (σ : St) : Option (Int32 × St) :=
  if (σ.1 68 10) ≤ x8 then (if x7 = (-1 : Int32) then (f_X12_points_172 x1 x2 x3 x5 x6 σ) else (bv (f_X12_gone x7 σ) fun s45 => f_X12_points_172 x1 x2 x3 x5 x6 s45)) else (gd (ib x8 101) (if (σ.1 81 x8.toNatClampNeg) = x1 then (if x8 = x7 then (f_X12_points_154 K97 x1 x2 x3 x5 x6 x7 x8 σ) else (gd (ib x8 101) (if (σ.1 82 x8.toNatClampNeg) ≤ (x2 - (8 : Int32)) then (f_X12_points_154 K97 x1 x2 x3 x5 x6 x7 x8 σ) else (gd (ib x8 101) (if (x2 + (8 : Int32)) ≤ (σ.1 82 x8.toNatClampNeg) then (f_X12_points_154 K97 x1 x2 x3 x5 x6 x7 x8 σ) else (some ((0 : Int32), σ))))))) else (f_X12_points_154 K97 x1 x2 x3 x5 x6 x7 x8 σ)))

def f_X12_points_97 (x1 : Int32) (x2 : Int32) (x3 : Int64) (x5 : Int32) (x6 : Int32) (x7 : Int32) (x8 : Int32) (σ : St) : Option (Int32 × St) :=
  it (fun K a => f_X12_points_97b K a.1 a.2.1 a.2.2.1 a.2.2.2.1 a.2.2.2.2.1 a.2.2.2.2.2.1 a.2.2.2.2.2.2.1 a.2.2.2.2.2.2.2) FU (x1, x2, x3, x5, x6, x7, x8, σ)

def f_X12_points_94 (x1 : Int32) (x2 : Int32) (x3 : Int64) (x5 : Int32) (x6 : Int32) (x7 : Int32) (σ : St) : Option (Int32 × St) :=
  zn (0 : Int32) fun v19 => f_X12_points_97 x1 x2 x3 x5 x6 x7 v19 σ

def f_X12_points (a1 : Int32) (a2 : Int32) (a3 : Int64) (a4 : Int32) (a5 : Int32) (σ : St) : Option (Int32 × St) :=
  zn (sI σ 68 0 (0 : Int32)) fun s1 => bi (f_X12_isSegment a1 s1) fun r4 s3 => if r4 = 0 then (some ((0 : Int32), s3)) else (if a2 < 0 then (some ((0 : Int32), s3)) else (if (a2 - a2 / (4 : Int32) * (4 : Int32)) = 0 then (gd (ib a1 4) (if ((s3.1 71 a1.toNatClampNeg) - (8 : Int32)) < a2 then (some ((0 : Int32), s3)) else (gd (¬ (s3.1 68 5) = 0) (gd (¬ (s3.1 68 5) = 0) (if (a2 / (s3.1 68 5)) = ((a2 + (7 : Int32)) / (s3.1 68 5)) then (if a4 < 0 then (some ((0 : Int32), s3)) else (if a4 ≤ (255 : Int32) then (bi (f_X12_pointerAtPlace a1 a2 s3) fun r17 s16 => if r17 = (-1 : Int32) then (if (s16.1 68 10) = (100 : Int32) then (some ((0 : Int32), s16)) else (f_X12_points_94 a1 a2 a3 a4 a5 r17 s16)) else (f_X12_points_94 a1 a2 a3 a4 a5 r17 s16)) else (some ((0 : Int32), s3)))) else (some ((0 : Int32), s3))))))) else (some ((0 : Int32), s3))))

def f_X12_rebase (a1 : Int32) (a2 : Int32) (a3 : Int64) (a4 : Int32) (σ : St) : Option (Int32 × St) :=
  zn (sI σ 68 0 (0 : Int32)) fun s1 => if a3 < (0 : Int64) then (some ((0 : Int32), s1)) else (if (68719476736 : Int64) ≤ a3 then (some ((0 : Int32), s1)) else (bi (f_X12_points a1 a2 a3 a4 (0 : Int32) s1) fun r6 s5 => if r6 = 0 then (some ((0 : Int32), s5)) else (some ((1 : Int32), s5))))

def f_X12_bind (a1 : Int32) (a2 : Int32) (a3 : Int32) (a4 : Int32) (σ : St) : Option (Int32 × St) :=
  zn (sI σ 68 0 (0 : Int32)) fun s1 => if a3 < 0 then (some ((0 : Int32), s1)) else (if (s1.1 68 9) ≤ a3 then (some ((0 : Int32), s1)) else (bi (f_X12_points a1 a2 a3.toInt64 a4 (1 : Int32) s1) fun r6 s5 => if r6 = 0 then (some ((0 : Int32), s5)) else (some ((1 : Int32), s5))))

def f_X12_drop (a1 : Int32) (a2 : Int32) (σ : St) : Option (Int32 × St) :=
  zn (sI σ 68 0 (0 : Int32)) fun s1 => bi (f_X12_pointerAtPlace a1 a2 s1) fun r4 s3 => if r4 = (-1 : Int32) then (some ((0 : Int32), s3)) else (bv (f_X12_gone r4 s3) fun s7 => some ((1 : Int32), s7))

def f_X12_put_3b (K3 : (Int64 × Int32 × Int32 × St) → Option (St)) (x1 : Int64) (x3 : Int32) (x4 : Int32) (σ : St) : Option (St) :=
  if x3 ≤ x4 then (some σ) else (gd (ib (σ.1 68 31) 9000) (zn (sI σ 88 (σ.1 68 31).toNatClampNeg ((((zlshr x1 (((8 : Int32) * x4)))).toInt32 &&& (255 : Int32)))) fun s4 => zn (sI s4 68 31 (((s4.1 68 31) + (1 : Int32)))) fun s5 => zn (x4 + 1) fun v6 => K3 (x1, x3, v6, s5)))

def f_X12_put_3 (x1 : Int64) (x3 : Int32) (x4 : Int32) (σ : St) : Option (St) :=
  it (fun K a => f_X12_put_3b K a.1 a.2.1 a.2.2.1 a.2.2.2) FU (x1, x3, x4, σ)

def f_X12_put (a1 : Int64) (a2 : Int32) (σ : St) : Option (St) :=
  zn (0 : Int32) fun v1 => f_X12_put_3 a1 a2 v1 σ

def f_X12_putFours (a1 : Int64) (a2 : Int64) (a3 : Int64) (a4 : Int64) (σ : St) : Option (St) :=
  bv (f_X12_put a1 (4 : Int32) σ) fun s2 => bv (f_X12_put a2 (4 : Int32) s2) fun s4 => bv (f_X12_put a3 (4 : Int32) s4) fun s6 => bv (f_X12_put a4 (4 : Int32) s6) fun s8 => some s8

def f_X12_putName_2b (K2 : (Int32 × Int32 × Int32 × St) → Option (St)) (x1 : Int32) (x2 : Int32) (x3 : Int32) (σ : St) : Option (St) :=
  if x2 ≤ x3 then (some σ) else (gd (ib ((((16 : Int32) * x1) + x3)) 1312) (bv (f_X12_put (((σ.1 70 ((((16 : Int32) * x1) + x3)).toNatClampNeg)).toInt64) (1 : Int32) σ) fun s5 => zn (x3 + 1) fun v6 => K2 (x1, x2, v6, s5)))

def f_X12_putName_2 (x1 : Int32) (x2 : Int32) (x3 : Int32) (σ : St) : Option (St) :=
  it (fun K a => f_X12_putName_2b K a.1 a.2.1 a.2.2.1 a.2.2.2) FU (x1, x2, x3, σ)

def f_X12_putName (a1 : Int32) (a2 : Int32) (σ : St) : Option (St) :=
  zn (0 : Int32) fun v1 => f_X12_putName_2 a1 a2 v1 σ

def f_X12_even_0b (K0 : (Int32 × St) → Option (St)) (x1 : Int32) (σ : St) : Option (St) :=
  gd (¬ x1 = 0) (if ((σ.1 68 31) - (σ.1 68 31) / x1 * x1) = 0 then (some σ) else (bv (f_X12_put (0 : Int64) (1 : Int32) σ) fun s4 => K0 (x1, s4)))

def f_X12_even_0 (x1 : Int32) (σ : St) : Option (St) :=
  it (fun K a => f_X12_even_0b K a.1 a.2) FU (x1, σ)

def f_X12_even (a1 : Int32) (σ : St) : Option (St) :=
  f_X12_even_0 a1 σ

def f_X12_spanOf (a1 : Int32) (σ : St) : Option (Int32 × St) :=
  gd (ib a1 4) (gd (¬ (σ.1 68 5) = 0) (some ((((((σ.1 71 a1.toNatClampNeg) + (σ.1 68 5)) - (1 : Int32)) / (σ.1 68 5)) * (σ.1 68 5)), σ)))

def f_X12_addressOf_7b (K7 : (Int32 × Int32 × Int32 × St) → Option (Int32 × St)) (x1 : Int32) (x2 : Int32) (x3 : Int32) (σ : St) : Option (Int32 × St) :=
  if x1 ≤ x3 then (some (x2, σ)) else (bi (f_X12_spanOf x3 σ) fun r6 s5 => zn (x2 + r6) fun v7 => zn (x3 + 1) fun v8 => K7 (x1, v7, v8, s5))

def f_X12_addressOf_7 (x1 : Int32) (x2 : Int32) (x3 : Int32) (σ : St) : Option (Int32 × St) :=
  it (fun K a => f_X12_addressOf_7b K a.1 a.2.1 a.2.2.1 a.2.2.2) FU (x1, x2, x3, σ)

def f_X12_addressOf (a1 : Int32) (σ : St) : Option (Int32 × St) :=
  zn (σ.1 68 4) fun v1 => zn (0 : Int32) fun v2 => f_X12_addressOf_7 a1 v1 v2 σ

def f_X12_sectionsOf_25 (K4 : (Int32 × Int32 × Int32 × St) → Option (Int32 × St)) (x1 : Int32) (x2 : Int32) (x3 : Int32) (σ : St) : Option (Int32 × St) :=
  zn (x3 + 1) fun v6 => K4 (x1, x2, v6, σ)

def f_X12_sectionsOf_4b (K4 : (Int32 × Int32 × Int32 × St) → Option (Int32 × St)) (x1 : Int32) (x2 : Int32) (x3 : Int32) (σ : St) : Option (Int32 × St) :=
  if (σ.1 68 7) < x3 then (some (x2, σ)) else (gd (ib x3 9) (if (σ.1 74 x3.toNatClampNeg) = x1 then (zn (x2 + 1) fun v7 => f_X12_sectionsOf_25 K4 x1 v7 x3 σ) else (f_X12_sectionsOf_25 K4 x1 x2 x3 σ)))

def f_X12_sectionsOf_4 (x1 : Int32) (x2 : Int32) (x3 : Int32) (σ : St) : Option (Int32 × St) :=
  it (fun K a => f_X12_sectionsOf_4b K a.1 a.2.1 a.2.2.1 a.2.2.2) FU (x1, x2, x3, σ)

def f_X12_sectionsOf (a1 : Int32) (σ : St) : Option (Int32 × St) :=
  zn (0 : Int32) fun v1 => zn (1 : Int32) fun v2 => f_X12_sectionsOf_4 a1 v1 v2 σ

def f_X12_hasPointers_2b (K2 : (Int32 × Int32 × St) → Option (Int32 × St)) (x1 : Int32) (x2 : Int32) (σ : St) : Option (Int32 × St) :=
  if (σ.1 68 10) ≤ x2 then (some ((0 : Int32), σ)) else (gd (ib x2 101) (if (σ.1 81 x2.toNatClampNeg) = x1 then (some ((1 : Int32), σ)) else (zn (x2 + 1) fun v5 => K2 (x1, v5, σ))))

def f_X12_hasPointers_2 (x1 : Int32) (x2 : Int32) (σ : St) : Option (Int32 × St) :=
  it (fun K a => f_X12_hasPointers_2b K a.1 a.2.1 a.2.2) FU (x1, x2, σ)

def f_X12_hasPointers (a1 : Int32) (σ : St) : Option (Int32 × St) :=
  zn (0 : Int32) fun v1 => f_X12_hasPointers_2 a1 v1 σ

def f_X12_writeFixups_454b (K454 : (Int32 × Int32 × St) → Option (St)) (x5 : Int32) (x6 : Int32) (σ : St) : Option (St) :=
  if (σ.1 68 6) ≤ x6 then (zn (sI σ 68 31 x5) fun s30 => some s30) else (gd (ib x6 4) (bv (f_X12_put ((σ.1 90 x6.toNatClampNeg).toInt64) (4 : Int32) σ) fun s33 => zn (x6 + 1) fun v34 => K454 (x5, v34, s33)))

def f_X12_writeFixups_454 (x5 : Int32) (x6 : Int32) (σ : St) : Option (St) :=
  it (fun K a => f_X12_writeFixups_454b K a.1 a.2.1 a.2.2) FU (x5, x6, σ)

def f_X12_writeFixups_330b (K330 : (Int32 × Int32 × Int32 × St) → Option (St)) (x2 : Int32) (x4 : Int32) (x5 : Int32) (σ : St) : Option (St) :=
  if (σ.1 68 9) ≤ x5 then (zn (sI σ 68 34 (((σ.1 68 31) - (σ.1 68 33)))) fun s15 => zn (s15.1 68 31) fun v16 => zn (sI s15 68 31 (s15.1 68 33)) fun s17 => bv (f_X12_putFours (0 : Int64) (28 : Int64) (((x2 - (s17.1 68 33))).toInt64) (((x4 - (s17.1 68 33))).toInt64) s17) fun s19 => bv (f_X12_put ((s19.1 68 9).toInt64) (4 : Int32) s19) fun s21 => bv (f_X12_put (1 : Int64) (4 : Int32) s21) fun s23 => bv (f_X12_put (0 : Int64) (4 : Int32) s23) fun s25 => bv (f_X12_put ((s25.1 68 6).toInt64) (4 : Int32) s25) fun s27 => zn (0 : Int32) fun v28 => f_X12_writeFixups_454 v16 v28 s27) else (bi (f_X12_longOf (((32 : Int32) + x5)) σ) fun r37 s36 => bv (f_X12_putName (((32 : Int32) + x5)) r37 s36) fun s39 => bv (f_X12_put (0 : Int64) (1 : Int32) s39) fun s41 => zn (x5 + 1) fun v42 => K330 (x2, x4, v42, s41))

def f_X12_writeFixups_330 (x2 : Int32) (x4 : Int32) (x5 : Int32) (σ : St) : Option (St) :=
  it (fun K a => f_X12_writeFixups_330b K a.1 a.2.1 a.2.2.1 a.2.2.2) FU (x2, x4, x5, σ)

def f_X12_writeFixups_290 (K256 : (Int32 × Int32 × Int32 × St) → Option (St)) (x2 : Int32) (x3 : Int32) (x4 : Int32) (t0 : Int32) (t1 : Int32) (σ : St) : Option (St) :=
  bv (f_X12_put ((((t1 ||| t0) ||| (x3 <<< ((9 : Int32) &&& 31)))).toInt64) (4 : Int32) σ) fun s47 => bi (f_X12_longOf (((32 : Int32) + x4)) s47) fun r50 s49 => zn ((x3 + (r50 + (1 : Int32)))) fun v51 => zn (x4 + 1) fun v52 => K256 (x2, v51, v52, s49)

def f_X12_writeFixups_256b (K256 : (Int32 × Int32 × Int32 × St) → Option (St)) (x2 : Int32) (x3 : Int32) (x4 : Int32) (σ : St) : Option (St) :=
  if (σ.1 68 9) ≤ x4 then (zn (σ.1 68 31) fun v12 => zn (0 : Int32) fun v13 => f_X12_writeFixups_330 x2 v12 v13 σ) else (gd (ib x4 20) (gd (ib x4 20) (if (σ.1 80 x4.toNatClampNeg) = 0 then (f_X12_writeFixups_290 K256 x2 x3 x4 (0 : Int32) (σ.1 79 x4.toNatClampNeg) σ) else (f_X12_writeFixups_290 K256 x2 x3 x4 (256 : Int32) (σ.1 79 x4.toNatClampNeg) σ))))

def f_X12_writeFixups_256 (x2 : Int32) (x3 : Int32) (x4 : Int32) (σ : St) : Option (St) :=
  it (fun K a => f_X12_writeFixups_256b K a.1 a.2.1 a.2.2.1 a.2.2.2) FU (x2, x3, x4, σ)

def f_X12_writeFixups_235 (K32 : (Int32 × Int32 × St) → Option (St)) (x1 : Int32) (x2 : Int32) (σ : St) : Option (St) :=
  zn (x2 + 1) fun v85 => K32 (x1, v85, σ)

def f_X12_writeFixups_215 (K168 : (Int32 × Int32 × Int32 × Int32 × Int32 × Int32 × St) → Option (St)) (x1 : Int32) (x2 : Int32) (x3 : Int32) (x4 : Int32) (x5 : Int32) (x6 : Int32) (σ : St) : Option (St) :=
  zn (x6 + (-1)) fun v94 => K168 (x1, x2, x3, x4, x5, v94, σ)

def f_X12_writeFixups_168b (K149 : (Int32 × Int32 × Int32 × Int32 × St) → Option (St)) (K168 : (Int32 × Int32 × Int32 × Int32 × Int32 × Int32 × St) → Option (St)) (x1 : Int32) (x2 : Int32) (x3 : Int32) (x4 : Int32) (x5 : Int32) (x6 : Int32) (σ : St) : Option (St) :=
  if x6 < 0 then (bv (f_X12_put x5.toInt64 (2 : Int32) σ) fun s90 => zn (x4 + 1) fun v91 => K149 (x1, x2, x3, v91, s90)) else (gd (ib x6 101) (if (σ.1 81 x6.toNatClampNeg) = x2 then (gd (ib x6 101) (gd (¬ (σ.1 68 5) = 0) (if ((σ.1 82 x6.toNatClampNeg) / (σ.1 68 5)) = x4 then (gd (ib x6 101) (gd (¬ (σ.1 68 5) = 0) (zn (((σ.1 82 x6.toNatClampNeg) - (σ.1 82 x6.toNatClampNeg) / (σ.1 68 5) * (σ.1 68 5))) fun v100 => f_X12_writeFixups_215 K168 x1 x2 x3 x4 v100 x6 σ))) else (f_X12_writeFixups_215 K168 x1 x2 x3 x4 x5 x6 σ)))) else (f_X12_writeFixups_215 K168 x1 x2 x3 x4 x5 x6 σ)))

def f_X12_writeFixups_168 (K149 : (Int32 × Int32 × Int32 × Int32 × St) → Option (St)) (x1 : Int32) (x2 : Int32) (x3 : Int32) (x4 : Int32) (x5 : Int32) (x6 : Int32) (σ : St) : Option (St) :=
  it (fun K a => f_X12_writeFixups_168b K149 K a.1 a.2.1 a.2.2.1 a.2.2.2.1 a.2.2.2.2.1 a.2.2.2.2.2.1 a.2.2.2.2.2.2) FU (x1, x2, x3, x4, x5, x6, σ)

def f_X12_writeFixups_149b (K32 : (Int32 × Int32 × St) → Option (St)) (K149 : (Int32 × Int32 × Int32 × Int32 × St) → Option (St)) (x1 : Int32) (x2 : Int32) (x3 : Int32) (x4 : Int32) (σ : St) : Option (St) :=
  if x3 ≤ x4 then (f_X12_writeFixups_235 K32 x1 x2 σ) else (zn (65535 : Int32) fun v86 => zn (((σ.1 68 10) - (1 : Int32))) fun v87 => f_X12_writeFixups_168 K149 x1 x2 x3 x4 v86 v87 σ)

def f_X12_writeFixups_149 (K32 : (Int32 × Int32 × St) → Option (St)) (x1 : Int32) (x2 : Int32) (x3 : Int32) (x4 : Int32) (σ : St) : Option (St) :=
  it (fun K a => f_X12_writeFixups_149b K32 K a.1 a.2.1 a.2.2.1 a.2.2.2.1 a.2.2.2.2) FU (x1, x2, x3, x4, σ)

def f_X12_writeFixups_32b (K32 : (Int32 × Int32 × St) → Option (St)) (x1 : Int32) (x2 : Int32) (σ : St) : Option (St) :=
  if (σ.1 68 6) ≤ x2 then (bv (f_X12_even (4 : Int32) σ) fun s7 => zn (s7.1 68 31) fun v8 => zn (0 : Int32) fun v9 => zn (0 : Int32) fun v10 => f_X12_writeFixups_256 v8 v9 v10 s7) else (gd (ib x2 4) (zn (sI σ 90 x2.toNatClampNeg (0 : Int32)) fun s54 => bi (f_X12_hasPointers x2 s54) fun r57 s56 => if r57 = 0 then (f_X12_writeFixups_235 K32 x1 x2 s56) else (bv (f_X12_even (4 : Int32) s56) fun s60 => gd (ib x2 4) (zn (sI s60 90 x2.toNatClampNeg (((s60.1 68 31) - x1))) fun s62 => bi (f_X12_spanOf x2 s62) fun r65 s64 => gd (¬ (s64.1 68 5) = 0) (zn ((r65 / (s64.1 68 5))) fun v67 => bv (f_X12_put ((((22 : Int32) + ((2 : Int32) * v67))).toInt64) (4 : Int32) s64) fun s69 => bv (f_X12_put ((s69.1 68 5).toInt64) (2 : Int32) s69) fun s71 => bv (f_X12_put (2 : Int64) (2 : Int32) s71) fun s73 => bi (f_X12_addressOf x2 s73) fun r76 s75 => bv (f_X12_put (((r76 - (s75.1 68 4))).toInt64) (8 : Int32) s75) fun s78 => bv (f_X12_put (0 : Int64) (4 : Int32) s78) fun s80 => bv (f_X12_put v67.toInt64 (2 : Int32) s80) fun s82 => zn (0 : Int32) fun v83 => f_X12_writeFixups_149 K32 x1 x2 v67 v83 s82)))))

def f_X12_writeFixups_32 (x1 : Int32) (x2 : Int32) (σ : St) : Option (St) :=
  it (fun K a => f_X12_writeFixups_32b K a.1 a.2.1 a.2.2) FU (x1, x2, σ)

def f_X12_writeFixups (σ : St) : Option (St) :=
  zn (sI σ 68 33 (σ.1 68 31)) fun s1 => zn (((s1.1 68 31) + (28 : Int32))) fun v2 => zn (sI s1 68 31 (((v2 + (4 : Int32)) + ((4 : Int32) * (s1.1 68 6))))) fun s3 => zn (0 : Int32) fun v4 => f_X12_writeFixups_32 v2 v4 s3

def f_X12_writePointers_137 (K2 : (Int32 × St) → Option (St)) (x1 : Int32) (x3 : Int64) (σ : St) : Option (St) :=
  gd (ib x1 101) (gd (ib (σ.1 81 x1.toNatClampNeg) 4) (gd (ib x1 101) (zn (sI σ 68 31 (((σ.1 89 (σ.1 81 x1.toNatClampNeg).toNatClampNeg) + (σ.1 82 x1.toNatClampNeg)))) fun s15 => bv (f_X12_put x3 (8 : Int32) s15) fun s17 => zn (x1 + 1) fun v18 => K2 (v18, s17))))

def f_X12_writePointers_113 (K2 : (Int32 × St) → Option (St)) (x1 : Int32) (x2 : Int32) (t0 : Int32) (t1 : Int64) (t2 : Int64) (σ : St) : Option (St) :=
  zn (((t2 ||| (zlshl t1 t0)) ||| (zlshl x2.toInt64 (51 : Int32)))) fun v9 => gd (ib x1 101) (if (σ.1 85 x1.toNatClampNeg) = 0 then (f_X12_writePointers_137 K2 x1 v9 σ) else (zn ((v9 ||| (-9223372036854775808 : Int64))) fun v19 => f_X12_writePointers_137 K2 x1 v19 σ))

def f_X12_writePointers_84 (K2 : (Int32 × St) → Option (St)) (x1 : Int32) (x2 : Int32) (σ : St) : Option (St) :=
  gd (ib x1 101) (gd (ib x1 101) (gd (ib x1 101) (if (σ.1 85 x1.toNatClampNeg) = 0 then (f_X12_writePointers_113 K2 x1 x2 (36 : Int32) ((σ.1 83 x1.toNatClampNeg).toInt64) (σ.2 84 x1.toNatClampNeg) σ) else (f_X12_writePointers_113 K2 x1 x2 (24 : Int32) ((σ.1 83 x1.toNatClampNeg).toInt64) (σ.2 84 x1.toNatClampNeg) σ))))

def f_X12_writePointers_2b (K2 : (Int32 × St) → Option (St)) (x1 : Int32) (σ : St) : Option (St) :=
  if (σ.1 68 10) ≤ x1 then (some σ) else (zn (0 : Int32) fun v3 => if (σ.1 68 10) ≤ (x1 + (1 : Int32)) then (f_X12_writePointers_84 K2 x1 v3 σ) else (gd (ib ((x1 + (1 : Int32))) 101) (gd (ib x1 101) (if (σ.1 81 ((x1 + (1 : Int32))).toNatClampNeg) = (σ.1 81 x1.toNatClampNeg) then (gd (ib ((x1 + (1 : Int32))) 101) (gd (¬ (σ.1 68 5) = 0) (gd (ib x1 101) (gd (¬ (σ.1 68 5) = 0) (if ((σ.1 82 ((x1 + (1 : Int32))).toNatClampNeg) / (σ.1 68 5)) = ((σ.1 82 x1.toNatClampNeg) / (σ.1 68 5)) then (gd (ib ((x1 + (1 : Int32))) 101) (gd (ib x1 101) (zn ((((σ.1 82 ((x1 + (1 : Int32))).toNatClampNeg) - (σ.1 82 x1.toNatClampNeg)) / (4 : Int32))) fun v30 => f_X12_writePointers_84 K2 x1 v30 σ))) else (f_X12_writePointers_84 K2 x1 v3 σ)))))) else (f_X12_writePointers_84 K2 x1 v3 σ)))))

def f_X12_writePointers_2 (x1 : Int32) (σ : St) : Option (St) :=
  it (fun K a => f_X12_writePointers_2b K a.1 a.2) FU (x1, σ)

def f_X12_writePointers (σ : St) : Option (St) :=
  zn (0 : Int32) fun v1 => f_X12_writePointers_2 v1 σ

def f_X12_writeCommands_261 (K145 : (Int32 × Int32 × St) → Option (St)) (x2 : Int32) (x4 : Int32) (σ : St) : Option (St) :=
  zn (x4 + 1) fun v67 => K145 (x2, v67, σ)

def f_X12_writeCommands_242b (K145 : (Int32 × Int32 × St) → Option (St)) (K242 : (Int32 × Int32 × Int32 × St) → Option (St)) (x2 : Int32) (x4 : Int32) (x5 : Int32) (σ : St) : Option (St) :=
  if (7 : Int32) ≤ x5 then (f_X12_writeCommands_261 K145 x2 x4 σ) else (bv (f_X12_put (0 : Int64) (4 : Int32) σ) fun s69 => zn (x5 + 1) fun v70 => K242 (x2, x4, v70, s69))

def f_X12_writeCommands_242 (K145 : (Int32 × Int32 × St) → Option (St)) (x2 : Int32) (x4 : Int32) (x5 : Int32) (σ : St) : Option (St) :=
  it (fun K a => f_X12_writeCommands_242b K145 K a.1 a.2.1 a.2.2.1 a.2.2.2) FU (x2, x4, x5, σ)

def f_X12_writeCommands_145b (K33 : (Int32 × St) → Option (St)) (K145 : (Int32 × Int32 × St) → Option (St)) (x2 : Int32) (x4 : Int32) (σ : St) : Option (St) :=
  if (σ.1 68 7) < x4 then (zn (x2 + 1) fun v45 => K33 (v45, σ)) else (gd (ib x4 9) (if (σ.1 74 x4.toNatClampNeg) = x2 then (bv (f_X12_putName (((3 : Int32) + x4)) (16 : Int32) σ) fun s49 => bv (f_X12_putName x2 (16 : Int32) s49) fun s51 => bi (f_X12_addressOf x2 s51) fun r54 s53 => gd (ib x4 9) (bv (f_X12_put (((r54 + (s53.1 75 x4.toNatClampNeg))).toInt64) (8 : Int32) s53) fun s57 => gd (ib x4 9) (bv (f_X12_put ((s57.1 76 x4.toNatClampNeg).toInt64) (8 : Int32) s57) fun s60 => gd (ib x2 4) (gd (ib x4 9) (bv (f_X12_put ((((s60.1 89 x2.toNatClampNeg) + (s60.1 75 x4.toNatClampNeg))).toInt64) (4 : Int32) s60) fun s64 => zn (0 : Int32) fun v65 => f_X12_writeCommands_242 K145 x2 x4 v65 s64))))) else (f_X12_writeCommands_261 K145 x2 x4 σ)))

def f_X12_writeCommands_145 (K33 : (Int32 × St) → Option (St)) (x2 : Int32) (x4 : Int32) (σ : St) : Option (St) :=
  it (fun K a => f_X12_writeCommands_145b K33 K a.1 a.2.1 a.2.2) FU (x2, x4, σ)

def f_X12_writeCommands_33b (K33 : (Int32 × St) → Option (St)) (x2 : Int32) (σ : St) : Option (St) :=
  if (σ.1 68 6) ≤ x2 then (bv (f_X12_putFours (2 : Int64) (24 : Int64) ((σ.1 68 35).toInt64) ((σ.1 68 8).toInt64) σ) fun s8 => bv (f_X12_put ((s8.1 68 36).toInt64) (4 : Int32) s8) fun s10 => bv (f_X12_put ((s10.1 68 37).toInt64) (4 : Int32) s10) fun s12 => bv (f_X12_putFours (2147483700 : Int64) (16 : Int64) ((s12.1 68 33).toInt64) ((s12.1 68 34).toInt64) s12) fun s14 => some s14) else (bi (f_X12_sectionsOf x2 σ) fun r17 s16 => bv (f_X12_put (25 : Int64) (4 : Int32) s16) fun s19 => bv (f_X12_put ((((72 : Int32) + ((80 : Int32) * r17))).toInt64) (4 : Int32) s19) fun s21 => bv (f_X12_putName x2 (16 : Int32) s21) fun s23 => bi (f_X12_addressOf x2 s23) fun r26 s25 => bv (f_X12_put r26.toInt64 (8 : Int32) s25) fun s28 => bi (f_X12_spanOf x2 s28) fun r31 s30 => bv (f_X12_put r31.toInt64 (8 : Int32) s30) fun s33 => gd (ib x2 4) (bv (f_X12_put ((s33.1 89 x2.toNatClampNeg).toInt64) (8 : Int32) s33) fun s36 => gd (ib x2 4) (bv (f_X12_put ((s36.1 71 x2.toNatClampNeg).toInt64) (8 : Int32) s36) fun s39 => gd (ib x2 4) (bv (f_X12_putFours (7 : Int64) ((s39.1 72 x2.toNatClampNeg).toInt64) r17.toInt64 (0 : Int64) s39) fun s42 => zn (1 : Int32) fun v43 => f_X12_writeCommands_145 K33 x2 v43 s42))))

def f_X12_writeCommands_33 (x2 : Int32) (σ : St) : Option (St) :=
  it (fun K a => f_X12_writeCommands_33b K a.1 a.2) FU (x2, σ)

def f_X12_writeCommands (a1 : Int32) (σ : St) : Option (St) :=
  bv (f_X12_putFours (4277009103 : Int64) (16777228 : Int64) (0 : Int64) (6 : Int64) σ) fun s2 => bv (f_X12_putFours ((((s2.1 68 6) + (2 : Int32))).toInt64) a1.toInt64 (133 : Int64) (0 : Int64) s2) fun s4 => zn (0 : Int32) fun v5 => f_X12_writeCommands_33 v5 s4

def f_X12_write_261b (K261 : (Int32 × Int32 × St) → Option (Int32 × St)) (x1 : Int32) (x3 : Int32) (σ : St) : Option (Int32 × St) :=
  if (σ.1 68 8) ≤ x3 then (zn (sI σ 68 37 (((σ.1 68 31) - (σ.1 68 36)))) fun s25 => zn (sI s25 68 30 (s25.1 68 31)) fun s26 => bv (f_X12_writePointers s26) fun s28 => zn (sI s28 68 31 (0 : Int32)) fun s29 => bv (f_X12_writeCommands x1 s29) fun s31 => some ((s31.1 68 30), s31)) else (bi (f_X12_longOf (((12 : Int32) + x3)) σ) fun r34 s33 => bv (f_X12_putName (((12 : Int32) + x3)) r34 s33) fun s36 => bv (f_X12_put (0 : Int64) (1 : Int32) s36) fun s38 => zn (x3 + 1) fun v39 => K261 (x1, v39, s38))

def f_X12_write_261 (x1 : Int32) (x3 : Int32) (σ : St) : Option (Int32 × St) :=
  it (fun K a => f_X12_write_261b K a.1 a.2.1 a.2.2) FU (x1, x3, σ)

def f_X12_write_142b (K142 : (Int32 × Int32 × Int32 × St) → Option (Int32 × St)) (x1 : Int32) (x2 : Int32) (x3 : Int32) (σ : St) : Option (Int32 × St) :=
  if (σ.1 68 8) ≤ x3 then (bv (f_X12_even (8 : Int32) σ) fun s19 => zn (sI s19 68 36 (s19.1 68 31)) fun s20 => bv (f_X12_put (0 : Int64) (1 : Int32) s20) fun s22 => zn (0 : Int32) fun v23 => f_X12_write_261 x1 v23 s22) else (gd (ib x3 20) (zn (σ.1 77 x3.toNatClampNeg) fun v41 => bv (f_X12_put x2.toInt64 (4 : Int32) σ) fun s43 => bv (f_X12_put (15 : Int64) (1 : Int32) s43) fun s45 => bv (f_X12_put v41.toInt64 (1 : Int32) s45) fun s47 => bv (f_X12_put (0 : Int64) (2 : Int32) s47) fun s49 => gd (ib v41 9) (bi (f_X12_addressOf (s49.1 74 v41.toNatClampNeg) s49) fun r53 s52 => gd (ib v41 9) (gd (ib x3 20) (bv (f_X12_put ((((r53 + (s52.1 75 v41.toNatClampNeg)) + (s52.1 78 x3.toNatClampNeg))).toInt64) (8 : Int32) s52) fun s57 => bi (f_X12_longOf (((12 : Int32) + x3)) s57) fun r60 s59 => zn ((x2 + (r60 + (1 : Int32)))) fun v61 => zn (x3 + 1) fun v62 => K142 (x1, v61, v62, s59))))))

def f_X12_write_142 (x1 : Int32) (x2 : Int32) (x3 : Int32) (σ : St) : Option (Int32 × St) :=
  it (fun K a => f_X12_write_142b K a.1 a.2.1 a.2.2.1 a.2.2.2) FU (x1, x2, x3, σ)

def f_X12_write_74b (K48 : (Int32 × Int32 × St) → Option (Int32 × St)) (K74 : (Int32 × Int32 × Int32 × St) → Option (Int32 × St)) (x1 : Int32) (x2 : Int32) (x3 : Int32) (σ : St) : Option (Int32 × St) :=
  gd (ib x2 4) (if (σ.1 71 x2.toNatClampNeg) ≤ x3 then (zn (x2 + 1) fun v70 => K48 (x1, v70, σ)) else (gd (ib ((((1024 : Int32) * x2) + x3)) 4096) (bv (f_X12_put (((σ.1 73 ((((1024 : Int32) * x2) + x3)).toNatClampNeg)).toInt64) (1 : Int32) σ) fun s73 => zn (x3 + 1) fun v74 => K74 (x1, x2, v74, s73))))

def f_X12_write_74 (K48 : (Int32 × Int32 × St) → Option (Int32 × St)) (x1 : Int32) (x2 : Int32) (x3 : Int32) (σ : St) : Option (Int32 × St) :=
  it (fun K a => f_X12_write_74b K48 K a.1 a.2.1 a.2.2.1 a.2.2.2) FU (x1, x2, x3, σ)

def f_X12_write_48b (K48 : (Int32 × Int32 × St) → Option (Int32 × St)) (x1 : Int32) (x2 : Int32) (σ : St) : Option (Int32 × St) :=
  if (σ.1 68 6) ≤ x2 then (bv (f_X12_even (8 : Int32) σ) fun s9 => bv (f_X12_writeFixups s9) fun s11 => bv (f_X12_even (8 : Int32) s11) fun s13 => zn (sI s13 68 35 (s13.1 68 31)) fun s14 => zn (1 : Int32) fun v15 => zn (0 : Int32) fun v16 => f_X12_write_142 x1 v15 v16 s14) else (bv (f_X12_even (8 : Int32) σ) fun s64 => gd (ib x2 4) (zn (sI s64 89 x2.toNatClampNeg (s64.1 68 31)) fun s66 => zn (0 : Int32) fun v67 => f_X12_write_74 K48 x1 x2 v67 s66))

def f_X12_write_48 (x1 : Int32) (x2 : Int32) (σ : St) : Option (Int32 × St) :=
  it (fun K a => f_X12_write_48b K a.1 a.2.1 a.2.2) FU (x1, x2, σ)

def f_X12_write_10b (K10 : (Int32 × Int32 × St) → Option (Int32 × St)) (x1 : Int32) (x2 : Int32) (σ : St) : Option (Int32 × St) :=
  if (σ.1 68 6) ≤ x2 then (zn (sI σ 68 31 (((32 : Int32) + x1))) fun s5 => zn (0 : Int32) fun v6 => f_X12_write_48 x1 v6 s5) else (bi (f_X12_sectionsOf x2 σ) fun r77 s76 => zn ((x1 + ((72 : Int32) + ((80 : Int32) * r77)))) fun v78 => zn (x2 + 1) fun v79 => K10 (v78, v79, s76))

def f_X12_write_10 (x1 : Int32) (x2 : Int32) (σ : St) : Option (Int32 × St) :=
  it (fun K a => f_X12_write_10b K a.1 a.2.1 a.2.2) FU (x1, x2, σ)

def f_X12_write (σ : St) : Option (Int32 × St) :=
  zn (sI σ 68 0 (0 : Int32)) fun s1 => zn (40 : Int32) fun v2 => zn (0 : Int32) fun v3 => f_X12_write_10 v2 v3 s1

def f_X12_image (a1 : Int32) (σ : St) : Option (Int32 × St) :=
  zn (sI σ 68 0 (0 : Int32)) fun s1 => if a1 < 0 then (some ((-1 : Int32), s1)) else (if a1 < (s1.1 68 30) then (gd (ib a1 9000) (some ((s1.1 88 a1.toNatClampNeg), s1))) else (some ((-1 : Int32), s1)))

def f_X12_damage (a1 : Int32) (a2 : Int32) (σ : St) : Option (Int32 × St) :=
  zn (sI σ 68 0 (0 : Int32)) fun s1 => if a1 < 0 then (some ((0 : Int32), s1)) else (if (s1.1 68 30) ≤ a1 then (some ((0 : Int32), s1)) else (if a2 < 0 then (some ((0 : Int32), s1)) else (if a2 ≤ (255 : Int32) then (gd (ib a1 9000) (zn (sI s1 88 a1.toNatClampNeg a2) fun s7 => some ((1 : Int32), s7))) else (some ((0 : Int32), s1)))))

def f_X12_cut (a1 : Int32) (σ : St) : Option (Int32 × St) :=
  zn (sI σ 68 0 (0 : Int32)) fun s1 => if a1 < 0 then (some ((0 : Int32), s1)) else (if a1 ≤ (s1.1 68 30) then (zn (sI s1 68 30 a1) fun s4 => some ((1 : Int32), s4)) else (some ((0 : Int32), s1)))

def f_X12_isTaped_13b (K13 : (Int32 × Int32 × Int32 × St) → Option (Int32 × St)) (x1 : Int32) (x2 : Int32) (x3 : Int32) (σ : St) : Option (Int32 × St) :=
  if x2 ≤ x3 then (some ((1 : Int32), σ)) else (gd (ib ((((16 : Int32) * x1) + x3)) 1312) (gd (ib x3 1040) (if (σ.1 70 ((((16 : Int32) * x1) + x3)).toNatClampNeg) = (σ.1 69 x3.toNatClampNeg) then (zn (x3 + 1) fun v10 => K13 (x1, x2, v10, σ)) else (some ((0 : Int32), σ)))))

def f_X12_isTaped_13 (x1 : Int32) (x2 : Int32) (x3 : Int32) (σ : St) : Option (Int32 × St) :=
  it (fun K a => f_X12_isTaped_13b K a.1 a.2.1 a.2.2.1 a.2.2.2) FU (x1, x2, x3, σ)

def f_X12_isTaped (a1 : Int32) (a2 : Int32) (σ : St) : Option (Int32 × St) :=
  bi (f_X12_longOf a1 σ) fun r3 s2 => if r3 = a2 then (zn (0 : Int32) fun v5 => f_X12_isTaped_13 a1 a2 v5 s2) else (some ((0 : Int32), s2))

def f_X12_export_19 (σ : St) : Option (Int32 × St) :=
  zn (sI σ 68 2 (0 : Int32)) fun s3 => some ((0 : Int32), s3)

def f_X12_export_239 (x2 : Int32) (x5 : Int32) (σ : St) : Option (Int32 × St) :=
  gd (ib x5 30) (zn (sI σ 87 x5.toNatClampNeg x2) fun s17 => some ((1 : Int32), s17))

def f_X12_export_214 (K175 : (Int32 × Int32 × Int32 × Int32 × Int32 × St) → Option (Int32 × St)) (x1 : Int32) (x2 : Int32) (x3 : Int32) (x5 : Int32) (x6 : Int32) (t0 : Int32) (t1 : Int32) (σ : St) : Option (Int32 × St) :=
  gd (ib t1 1312) (zn (sI σ 70 t1.toNatClampNeg t0) fun s25 => zn (x6 + 1) fun v26 => K175 (x1, x2, x3, x5, v26, s25))

def f_X12_export_175b (K175 : (Int32 × Int32 × Int32 × Int32 × Int32 × St) → Option (Int32 × St)) (x1 : Int32) (x2 : Int32) (x3 : Int32) (x5 : Int32) (x6 : Int32) (σ : St) : Option (Int32 × St) :=
  if (16 : Int32) ≤ x6 then (gd (ib x5 30) (zn (sI σ 86 x5.toNatClampNeg x1) fun s21 => zn (sI s21 68 11 (((s21.1 68 11) + (1 : Int32)))) fun s22 => f_X12_export_239 x2 x5 s22)) else (if x3 ≤ x6 then (f_X12_export_214 K175 x1 x2 x3 x5 x6 (0 : Int32) ((((16 : Int32) * ((52 : Int32) + x5)) + x6)) σ) else (gd (ib x6 1040) (f_X12_export_214 K175 x1 x2 x3 x5 x6 (σ.1 69 x6.toNatClampNeg) ((((16 : Int32) * ((52 : Int32) + x5)) + x6)) σ)))

def f_X12_export_175 (x1 : Int32) (x2 : Int32) (x3 : Int32) (x5 : Int32) (x6 : Int32) (σ : St) : Option (Int32 × St) :=
  it (fun K a => f_X12_export_175b K a.1 a.2.1 a.2.2.1 a.2.2.2.1 a.2.2.2.2.1 a.2.2.2.2.2) FU (x1, x2, x3, x5, x6, σ)

def f_X12_export_154 (x1 : Int32) (x2 : Int32) (x3 : Int32) (x5 : Int32) (σ : St) : Option (Int32 × St) :=
  if x5 = (30 : Int32) then (some ((0 : Int32), σ)) else (if x5 = (σ.1 68 11) then (zn (0 : Int32) fun v18 => f_X12_export_175 x1 x2 x3 x5 v18 σ) else (f_X12_export_239 x2 x5 σ))

def f_X12_export_148 (K115 : (Int32 × Int32 × Int32 × Int32 × St) → Option (Int32 × St)) (x1 : Int32) (x2 : Int32) (x3 : Int32) (x5 : Int32) (σ : St) : Option (Int32 × St) :=
  zn (x5 + 1) fun v30 => K115 (x1, x2, x3, v30, σ)

def f_X12_export_115b (K115 : (Int32 × Int32 × Int32 × Int32 × St) → Option (Int32 × St)) (x1 : Int32) (x2 : Int32) (x3 : Int32) (x5 : Int32) (σ : St) : Option (Int32 × St) :=
  if (σ.1 68 11) ≤ x5 then (f_X12_export_154 x1 x2 x3 x5 σ) else (gd (ib x5 30) (if (σ.1 86 x5.toNatClampNeg) = x1 then (bi (f_X12_isTaped (((52 : Int32) + x5)) x3 σ) fun r33 s32 => if r33 = 0 then (f_X12_export_148 K115 x1 x2 x3 x5 s32) else (f_X12_export_154 x1 x2 x3 x5 s32)) else (f_X12_export_148 K115 x1 x2 x3 x5 σ)))

def f_X12_export_115 (x1 : Int32) (x2 : Int32) (x3 : Int32) (x5 : Int32) (σ : St) : Option (Int32 × St) :=
  it (fun K a => f_X12_export_115b K a.1 a.2.1 a.2.2.1 a.2.2.2.1 a.2.2.2.2) FU (x1, x2, x3, x5, σ)

def f_X12_export_100 (x1 : Int32) (x2 : Int32) (x3 : Int32) (x4 : Int32) (σ : St) : Option (Int32 × St) :=
  zn (sI σ 68 2 (0 : Int32)) fun s10 => if x4 = 0 then (some ((0 : Int32), s10)) else (zn (0 : Int32) fun v12 => f_X12_export_115 x1 x2 x3 v12 s10)

def f_X12_export_92 (K52 : (Int32 × Int32 × Int32 × Int32 × Int32 × St) → Option (Int32 × St)) (x1 : Int32) (x2 : Int32) (x3 : Int32) (x5 : Int32) (t0 : Int32) (σ : St) : Option (Int32 × St) :=
  zn (x5 + 1) fun v38 => K52 (x1, x2, x3, t0, v38, σ)

def f_X12_export_91 (K52 : (Int32 × Int32 × Int32 × Int32 × Int32 × St) → Option (Int32 × St)) (x1 : Int32) (x2 : Int32) (x3 : Int32) (x5 : Int32) (σ : St) : Option (Int32 × St) :=
  f_X12_export_92 K52 x1 x2 x3 x5 (0 : Int32) σ

def f_X12_export_52b (K52 : (Int32 × Int32 × Int32 × Int32 × Int32 × St) → Option (Int32 × St)) (x1 : Int32) (x2 : Int32) (x3 : Int32) (x4 : Int32) (x5 : Int32) (σ : St) : Option (Int32 × St) :=
  if x3 ≤ x5 then (f_X12_export_100 x1 x2 x3 x4 σ) else (if x4 = 0 then (f_X12_export_100 x1 x2 x3 x4 σ) else (gd (ib x5 1040) (if (σ.1 69 x5.toNatClampNeg) ≤ (32 : Int32) then (f_X12_export_91 K52 x1 x2 x3 x5 σ) else (gd (ib x5 1040) (if (127 : Int32) ≤ (σ.1 69 x5.toNatClampNeg) then (f_X12_export_91 K52 x1 x2 x3 x5 σ) else (f_X12_export_92 K52 x1 x2 x3 x5 (1 : Int32) σ))))))

def f_X12_export_52 (x1 : Int32) (x2 : Int32) (x3 : Int32) (x4 : Int32) (x5 : Int32) (σ : St) : Option (Int32 × St) :=
  it (fun K a => f_X12_export_52b K a.1 a.2.1 a.2.2.1 a.2.2.2.1 a.2.2.2.2.1 a.2.2.2.2.2) FU (x1, x2, x3, x4, x5, σ)

def f_X12_export_47 (x1 : Int32) (x2 : Int32) (x3 : Int32) (t0 : Int32) (σ : St) : Option (Int32 × St) :=
  zn (0 : Int32) fun v8 => f_X12_export_52 x1 x2 x3 t0 v8 σ

def f_X12_export_46 (x1 : Int32) (x2 : Int32) (x3 : Int32) (σ : St) : Option (Int32 × St) :=
  f_X12_export_47 x1 x2 x3 (0 : Int32) σ

def f_X12_export (a1 : Int32) (a2 : Int32) (σ : St) : Option (Int32 × St) :=
  zn (sI σ 68 0 (0 : Int32)) fun s1 => if a1 < (1 : Int32) then (f_X12_export_19 s1) else (if (3 : Int32) < a1 then (f_X12_export_19 s1) else (if 0 ≤ a2 then (zn (s1.1 68 2) fun v6 => if v6 < (1 : Int32) then (f_X12_export_46 a1 a2 v6 s1) else (if (16 : Int32) < v6 then (f_X12_export_46 a1 a2 v6 s1) else (f_X12_export_47 a1 a2 v6 (1 : Int32) s1))) else (f_X12_export_19 s1)))

def f_X12_four (a1 : Int64) (σ : St) : Option (Int64 × St) :=
  zn a1.toInt32 fun v1 => gd (ib v1 9000) (gd (ib ((v1 + (1 : Int32))) 9000) (gd (ib ((v1 + (2 : Int32))) 9000) (gd (ib ((v1 + (3 : Int32))) 9000) (some ((((((σ.1 88 v1.toNatClampNeg) ||| ((σ.1 88 ((v1 + (1 : Int32))).toNatClampNeg) <<< ((8 : Int32) &&& 31))) ||| ((σ.1 88 ((v1 + (2 : Int32))).toNatClampNeg) <<< ((16 : Int32) &&& 31)))).toInt64 ||| (zlshl (((σ.1 88 ((v1 + (3 : Int32))).toNatClampNeg)).toInt64) (24 : Int32))), σ)))))

def f_X12_two (a1 : Int64) (σ : St) : Option (Int32 × St) :=
  gd (ib a1.toInt32 9000) (gd (ib ((a1.toInt32 + (1 : Int32))) 9000) (some (((σ.1 88 a1.toInt32.toNatClampNeg) ||| ((σ.1 88 ((a1.toInt32 + (1 : Int32))).toNatClampNeg) <<< ((8 : Int32) &&& 31))), σ)))

def f_X12_eight (a1 : Int64) (σ : St) : Option (Int64 × St) :=
  bi (f_X12_four a1 σ) fun r3 s2 => bi (f_X12_four ((a1 + (4 : Int64))) s2) fun r6 s5 => some ((r3 ||| (zlshl r6 (32 : Int32))), s5)

def f_X12_bad (a1 : Int32) (a2 : Int64) (σ : St) : Option (Int32 × St) :=
  zn (sI σ 68 39 a1) fun s1 => zn (sJ s1 68 40 a2) fun s2 => some ((0 : Int32), s2)

def f_X12_isNumber_20 (x1 : Int64) (σ : St) : Option (Int32 × St) :=
  bi (f_X12_bad (5 : Int32) x1 σ) fun r7 s6 => if r7 = 0 then (some ((0 : Int32), s6)) else (some ((1 : Int32), s6))

def f_X12_isNumber (a1 : Int64) (σ : St) : Option (Int32 × St) :=
  bi (f_X12_eight a1 σ) fun r3 s2 => if r3 < (0 : Int64) then (f_X12_isNumber_20 a1 s2) else (if r3 ≤ (2147483647 : Int64) then (some ((1 : Int32), s2)) else (f_X12_isNumber_20 a1 s2))

def f_X12_readChains (a1 : Int64) (a2 : Int64) (σ : St) : Option (Int32 × St) :=
  if (σ.1 68 49) = 0 then (if a2 = (16 : Int64) then (zn (sI σ 68 49 (1 : Int32)) fun s3 => bi (f_X12_four ((a1 + (8 : Int64))) s3) fun r6 s5 => zn (sJ s5 68 54 r6) fun s7 => bi (f_X12_four ((a1 + (12 : Int64))) s7) fun r10 s9 => zn (sJ s9 68 55 (((s7.2 68 54) + r10))) fun s11 => if (s11.2 68 55) ≤ (s11.1 68 30).toInt64 then (some ((1 : Int32), s11)) else (bi (f_X12_bad (1 : Int32) ((a1 + (8 : Int64))) s11) fun r15 s14 => if r15 = 0 then (some ((0 : Int32), s14)) else (some ((1 : Int32), s14)))) else (bi (f_X12_bad (3 : Int32) ((a1 + (4 : Int64))) σ) fun r19 s18 => gd (r19 = 0 ∨ r19 = 1) (some (r19, s18)))) else (bi (f_X12_bad (3 : Int32) a1 σ) fun r23 s22 => gd (r23 = 0 ∨ r23 = 1) (some (r23, s22)))

def f_X12_readTable (a1 : Int64) (a2 : Int64) (σ : St) : Option (Int32 × St) :=
  if (σ.1 68 48) = 0 then (if a2 = (24 : Int64) then (zn (sI σ 68 48 (1 : Int32)) fun s3 => bi (f_X12_four ((a1 + (8 : Int64))) s3) fun r6 s5 => zn (sJ s5 68 50 r6) fun s7 => bi (f_X12_four ((a1 + (12 : Int64))) s7) fun r10 s9 => zn (sJ s9 68 51 r10) fun s11 => bi (f_X12_four ((a1 + (16 : Int64))) s11) fun r14 s13 => zn (sJ s13 68 52 r14) fun s15 => bi (f_X12_four ((a1 + (20 : Int64))) s15) fun r18 s17 => zn (sJ s17 68 53 r18) fun s19 => if (s19.2 68 51) ≤ (64 : Int64) then (if ((s19.2 68 50) + ((16 : Int64) * (s19.2 68 51))) ≤ (s19.1 68 30).toInt64 then (if ((s19.2 68 52) + (s19.2 68 53)) ≤ (s19.1 68 30).toInt64 then (some ((1 : Int32), s19)) else (bi (f_X12_bad (1 : Int32) ((a1 + (16 : Int64))) s19) fun r25 s24 => if r25 = 0 then (some ((0 : Int32), s24)) else (some ((1 : Int32), s24)))) else (bi (f_X12_bad (1 : Int32) ((a1 + (8 : Int64))) s19) fun r29 s28 => gd (r29 = 0 ∨ r29 = 1) (some (r29, s28)))) else (bi (f_X12_bad (3 : Int32) ((a1 + (12 : Int64))) s19) fun r33 s32 => gd (r33 = 0 ∨ r33 = 1) (some (r33, s32)))) else (bi (f_X12_bad (3 : Int32) ((a1 + (4 : Int64))) σ) fun r37 s36 => gd (r37 = 0 ∨ r37 = 1) (some (r37, s36)))) else (bi (f_X12_bad (3 : Int32) a1 σ) fun r41 s40 => gd (r41 = 0 ∨ r41 = 1) (some (r41, s40)))

def f_X12_readSegment_45 (x1 : Int64) (σ : St) : Option (Int32 × St) :=
  bi (f_X12_bad (3 : Int32) ((x1 + (4 : Int64))) σ) fun r5 s4 => gd (r5 = 0 ∨ r5 = 1) (some (r5, s4))

def f_X12_readSegment_519 (x9 : Int64) (σ : St) : Option (Int32 × St) :=
  bi (f_X12_bad (7 : Int32) x9 σ) fun r68 s67 => gd (r68 = 0 ∨ r68 = 1) (some (r68, s67))

def f_X12_readSegment_426b (K426 : (Int64 × Int64 × Int64 × Int64 × Int64 × St) → Option (Int32 × St)) (x1 : Int64) (x3 : Int64) (x5 : Int64) (x7 : Int64) (x9 : Int64) (σ : St) : Option (Int32 × St) :=
  if (x1 + x3) ≤ x9 then (zn (sI σ 68 41 (((σ.1 68 41) + (1 : Int32)))) fun s52 => some ((1 : Int32), s52)) else (if (σ.1 68 42) = (16 : Int32) then (bi (f_X12_bad (3 : Int32) x9 σ) fun r78 s77 => gd (r78 = 0 ∨ r78 = 1) (some (r78, s77))) else (bi (f_X12_isNumber ((x9 + (32 : Int64))) σ) fun r56 s55 => if r56 = 0 then (some ((0 : Int32), s55)) else (bi (f_X12_isNumber ((x9 + (40 : Int64))) s55) fun r60 s59 => if r60 = 0 then (some ((0 : Int32), s59)) else (bi (f_X12_eight ((x9 + (32 : Int64))) s59) fun r64 s63 => if r64 < x5 then (f_X12_readSegment_519 x9 s63) else (bi (f_X12_eight ((x9 + (40 : Int64))) s63) fun r72 s71 => if (r64 + r72) ≤ x7 then (zn (sI s71 68 42 (((s71.1 68 42) + (1 : Int32)))) fun s74 => zn ((x9 + (80 : Int64))) fun v75 => K426 (x1, x3, x5, x7, v75, s74)) else (f_X12_readSegment_519 x9 s71))))))

def f_X12_readSegment_426 (x1 : Int64) (x3 : Int64) (x5 : Int64) (x7 : Int64) (x9 : Int64) (σ : St) : Option (Int32 × St) :=
  it (fun K a => f_X12_readSegment_426b K a.1 a.2.1 a.2.2.1 a.2.2.2.1 a.2.2.2.2.1 a.2.2.2.2.2) FU (x1, x3, x5, x7, x9, σ)

def f_X12_readSegment_394 (K313 : (Int64 × Int64 × Int64 × Int64 × Int32 × St) → Option (Int32 × St)) (x1 : Int64) (x3 : Int64) (x5 : Int64) (x7 : Int64) (x9 : Int32) (σ : St) : Option (Int32 × St) :=
  zn (x9 + 1) fun v82 => K313 (x1, x3, x5, x7, v82, σ)

def f_X12_readSegment_313b (K313 : (Int64 × Int64 × Int64 × Int64 × Int32 × St) → Option (Int32 × St)) (x1 : Int64) (x3 : Int64) (x5 : Int64) (x7 : Int64) (x9 : Int32) (σ : St) : Option (Int32 × St) :=
  if (σ.1 68 41) ≤ x9 then (gd (ib (σ.1 68 41) 4) (zn (sI σ 68 43 (((σ.1 68 43) + ((σ.2 92 (σ.1 68 41).toNatClampNeg)).toInt32))) fun s49 => zn ((x1 + (72 : Int64))) fun v50 => f_X12_readSegment_426 x1 x3 x5 x7 v50 s49)) else (gd (ib (σ.1 68 41) 4) (if (σ.2 92 (σ.1 68 41).toNatClampNeg) ≤ (0 : Int64) then (f_X12_readSegment_394 K313 x1 x3 x5 x7 x9 σ) else (gd (ib x9 4) (if (σ.2 92 x9.toNatClampNeg) ≤ (0 : Int64) then (f_X12_readSegment_394 K313 x1 x3 x5 x7 x9 σ) else (gd (ib x9 4) (gd (ib x9 4) (if ((σ.2 91 x9.toNatClampNeg) + (σ.2 92 x9.toNatClampNeg)) ≤ x5 then (f_X12_readSegment_394 K313 x1 x3 x5 x7 x9 σ) else (gd (ib x9 4) (if x7 ≤ (σ.2 91 x9.toNatClampNeg) then (f_X12_readSegment_394 K313 x1 x3 x5 x7 x9 σ) else (bi (f_X12_bad (6 : Int32) ((x1 + (24 : Int64))) σ) fun r92 s91 => gd (r92 = 0 ∨ r92 = 1) (some (r92, s91))))))))))))

def f_X12_readSegment_313 (x1 : Int64) (x3 : Int64) (x5 : Int64) (x7 : Int64) (x9 : Int32) (σ : St) : Option (Int32 × St) :=
  it (fun K a => f_X12_readSegment_313b K a.1 a.2.1 a.2.2.1 a.2.2.2.1 a.2.2.2.2.1 a.2.2.2.2.2) FU (x1, x3, x5, x7, x9, σ)

def f_X12_readSegment_60b (K60 : (Int64 × Int64 × Int32 × St) → Option (Int32 × St)) (x1 : Int64) (x3 : Int64) (x5 : Int32) (σ : St) : Option (Int32 × St) :=
  if (48 : Int32) < x5 then (bi (f_X12_eight ((x1 + (24 : Int64))) σ) fun r15 s14 => gd (ib (σ.1 68 41) 4) (zn (sJ s14 91 (σ.1 68 41).toNatClampNeg r15) fun s17 => bi (f_X12_eight ((x1 + (32 : Int64))) s17) fun r20 s19 => gd (ib (s17.1 68 41) 4) (zn (sJ s19 92 (s17.1 68 41).toNatClampNeg r20) fun s22 => bi (f_X12_eight ((x1 + (40 : Int64))) s22) fun r25 s24 => gd (ib (s22.1 68 41) 4) (zn (sJ s24 93 (s22.1 68 41).toNatClampNeg r25) fun s27 => bi (f_X12_eight ((x1 + (48 : Int64))) s27) fun r30 s29 => gd (ib (s27.1 68 41) 4) (zn (sJ s29 94 (s27.1 68 41).toNatClampNeg r30) fun s32 => gd (ib (s32.1 68 41) 4) (zn ((s32.2 91 (s32.1 68 41).toNatClampNeg)) fun v34 => gd (ib (s32.1 68 41) 4) (zn ((v34 + (s32.2 92 (s32.1 68 41).toNatClampNeg))) fun v36 => gd (ib (s32.1 68 41) 4) (if ((s32.1 68 43).toInt64 + (s32.2 92 (s32.1 68 41).toNatClampNeg)) ≤ (16384 : Int64) then (if v36 ≤ (2147483647 : Int64) then (gd (ib (s32.1 68 41) 4) (gd (ib (s32.1 68 41) 4) (if ((s32.2 93 (s32.1 68 41).toNatClampNeg) + (s32.2 94 (s32.1 68 41).toNatClampNeg)) ≤ (s32.1 68 30).toInt64 then (gd (ib (s32.1 68 41) 4) (gd (ib (s32.1 68 41) 4) (if (s32.2 94 (s32.1 68 41).toNatClampNeg) ≤ (s32.2 92 (s32.1 68 41).toNatClampNeg) then (zn (0 : Int32) fun v46 => f_X12_readSegment_313 x1 x3 v34 v36 v46 s32) else (bi (f_X12_bad (6 : Int32) ((x1 + (48 : Int64))) s32) fun r96 s95 => gd (r96 = 0 ∨ r96 = 1) (some (r96, s95)))))) else (bi (f_X12_bad (1 : Int32) ((x1 + (40 : Int64))) s32) fun r100 s99 => gd (r100 = 0 ∨ r100 = 1) (some (r100, s99)))))) else (bi (f_X12_bad (5 : Int32) ((x1 + (24 : Int64))) s32) fun r104 s103 => gd (r104 = 0 ∨ r104 = 1) (some (r104, s103)))) else (bi (f_X12_bad (5 : Int32) ((x1 + (32 : Int64))) s32) fun r108 s107 => gd (r108 = 0 ∨ r108 = 1) (some (r108, s107))))))))))) else (bi (f_X12_isNumber (x1 + x5.toInt64) σ) fun r112 s111 => if r112 = 0 then (some ((0 : Int32), s111)) else (zn (x5 + 8) fun v114 => K60 (x1, x3, v114, s111)))

def f_X12_readSegment_60 (x1 : Int64) (x3 : Int64) (x5 : Int32) (σ : St) : Option (Int32 × St) :=
  it (fun K a => f_X12_readSegment_60b K a.1 a.2.1 a.2.2.1 a.2.2.2) FU (x1, x3, x5, σ)

def f_X12_readSegment (a1 : Int64) (a2 : Int64) (σ : St) : Option (Int32 × St) :=
  if (σ.1 68 41) = (4 : Int32) then (bi (f_X12_bad (3 : Int32) a1 σ) fun r117 s116 => gd (r117 = 0 ∨ r117 = 1) (some (r117, s116))) else (if a2 < (72 : Int64) then (f_X12_readSegment_45 a1 σ) else (bi (f_X12_four ((a1 + (64 : Int64))) σ) fun r9 s8 => if a2 = ((72 : Int64) + ((80 : Int64) * r9)) then (zn (24 : Int32) fun v11 => f_X12_readSegment_60 a1 a2 v11 s8) else (f_X12_readSegment_45 a1 s8)))

def f_X12_reads_197 (x5 : Int64) (σ : St) : Option (Int32 × St) :=
  bi (f_X12_bad (3 : Int32) ((x5 + (4 : Int64))) σ) fun r35 s34 => gd (r35 = 0 ∨ r35 = 1) (some (r35, s34))

def f_X12_reads_304 (K128 : (Int64 × Int64 × Int64 × Int32 × St) → Option (Int32 × St)) (x1 : Int64) (x3 : Int64) (x5 : Int64) (x7 : Int32) (x8 : Int64) (x12 : Int32) (σ : St) : Option (Int32 × St) :=
  if x12 = 0 then (some ((0 : Int32), σ)) else (zn (x5 + x8) fun v48 => zn (x7 + 1) fun v49 => K128 (x1, x3, v48, v49, σ))

def f_X12_reads_128b (K128 : (Int64 × Int64 × Int64 × Int32 × St) → Option (Int32 × St)) (x1 : Int64) (x3 : Int64) (x5 : Int64) (x7 : Int32) (σ : St) : Option (Int32 × St) :=
  if x1 ≤ x7.toInt64 then (if x5 = x3 then (some ((1 : Int32), σ)) else (bi (f_X12_bad (3 : Int32) x5 σ) fun r26 s25 => if r26 = 0 then (some ((0 : Int32), s25)) else (some ((1 : Int32), s25)))) else (if (8 : Int64) ≤ (x3 - x5) then (bi (f_X12_four ((x5 + (4 : Int64))) σ) fun r31 s30 => if r31 < (8 : Int64) then (f_X12_reads_197 x5 s30) else (if (r31 - r31 / (8 : Int64) * (8 : Int64)) = (0 : Int64) then (if r31 ≤ (x3 - x5) then (bi (f_X12_four x5 s30) fun r41 s40 => zn (1 : Int32) fun v42 => if r41 = (25 : Int64) then (bi (f_X12_readSegment x5 r31 s40) fun r61 s60 => f_X12_reads_304 K128 x1 x3 x5 x7 r31 r61 s60) else (if r41 = (2 : Int64) then (bi (f_X12_readTable x5 r31 s40) fun r58 s57 => f_X12_reads_304 K128 x1 x3 x5 x7 r31 r58 s57) else (if r41 = (2147483700 : Int64) then (bi (f_X12_readChains x5 r31 s40) fun r55 s54 => f_X12_reads_304 K128 x1 x3 x5 x7 r31 r55 s54) else (if r41 < (2147483648 : Int64) then (f_X12_reads_304 K128 x1 x3 x5 x7 r31 v42 s40) else (bi (f_X12_bad (4 : Int32) x5 s40) fun r52 s51 => f_X12_reads_304 K128 x1 x3 x5 x7 r31 r52 s51))))) else (f_X12_reads_197 x5 s30)) else (f_X12_reads_197 x5 s30))) else (bi (f_X12_bad (3 : Int32) x5 σ) fun r64 s63 => gd (r64 = 0 ∨ r64 = 1) (some (r64, s63))))

def f_X12_reads_128 (x1 : Int64) (x3 : Int64) (x5 : Int64) (x7 : Int32) (σ : St) : Option (Int32 × St) :=
  it (fun K a => f_X12_reads_128b K a.1 a.2.1 a.2.2.1 a.2.2.2.1 a.2.2.2.2) FU (x1, x3, x5, x7, σ)

def f_X12_reads (σ : St) : Option (Int32 × St) :=
  zn (sI σ 68 41 (0 : Int32)) fun s1 => zn (sI s1 68 42 (0 : Int32)) fun s2 => zn (sI s2 68 43 (0 : Int32)) fun s3 => zn (sI s3 68 48 (0 : Int32)) fun s4 => zn (sI s4 68 49 (0 : Int32)) fun s5 => if (32 : Int32) ≤ (s5.1 68 30) then (bi (f_X12_four (0 : Int64) s5) fun r9 s8 => if r9 = (4277009103 : Int64) then (bi (f_X12_four (16 : Int64) s8) fun r13 s12 => if r13 ≤ (16 : Int64) then (bi (f_X12_four (20 : Int64) s12) fun r17 s16 => zn (((32 : Int64) + r17)) fun v18 => if v18 ≤ (s16.1 68 30).toInt64 then (zn (32 : Int64) fun v20 => zn (0 : Int32) fun v21 => f_X12_reads_128 r13 v18 v20 v21 s16) else (bi (f_X12_bad (1 : Int32) (20 : Int64) s16) fun r68 s67 => gd (r68 = 0 ∨ r68 = 1) (some (r68, s67)))) else (bi (f_X12_bad (3 : Int32) (16 : Int64) s12) fun r72 s71 => gd (r72 = 0 ∨ r72 = 1) (some (r72, s71)))) else (bi (f_X12_bad (2 : Int32) (0 : Int64) s8) fun r76 s75 => gd (r76 = 0 ∨ r76 = 1) (some (r76, s75)))) else (bi (f_X12_bad (1 : Int32) ((s5.1 68 30).toInt64) s5) fun r80 s79 => gd (r80 = 0 ∨ r80 = 1) (some (r80, s79)))

def f_X12_zero_3b (K3 : (Int64 × Int64 × St) → Option (Int64 × St)) (x3 : Int64) (x5 : Int64) (σ : St) : Option (Int64 × St) :=
  if x3 ≤ x5 then (some ((-1 : Int64), σ)) else (gd (ib x5.toInt32 9000) (if (σ.1 88 x5.toInt32.toNatClampNeg) = 0 then (some (x5, σ)) else (zn ((x5 + (1 : Int64))) fun v4 => K3 (x3, v4, σ))))

def f_X12_zero_3 (x3 : Int64) (x5 : Int64) (σ : St) : Option (Int64 × St) :=
  it (fun K a => f_X12_zero_3b K a.1 a.2.1 a.2.2) FU (x3, x5, σ)

def f_X12_zero (a1 : Int64) (a2 : Int64) (σ : St) : Option (Int64 × St) :=
  f_X12_zero_3 a2 a1 σ

def f_X12_readsSymbols_5b (K5 : (Int64 × St) → Option (Int32 × St)) (x1 : Int64) (σ : St) : Option (Int32 × St) :=
  if (σ.1 68 48) = 0 then (some ((1 : Int32), σ)) else (if ((σ.2 68 50) + ((16 : Int64) * (σ.2 68 51))) ≤ x1 then (some ((1 : Int32), σ)) else (bi (f_X12_four x1 σ) fun r6 s5 => bi (f_X12_zero (((σ.2 68 52) + r6)) (((s5.2 68 52) + (s5.2 68 53))) s5) fun r9 s8 => if r9 = (-1 : Int64) then (bi (f_X12_bad (8 : Int32) x1 s8) fun r24 s23 => gd (r24 = 0 ∨ r24 = 1) (some (r24, s23))) else (gd (ib ((x1.toInt32 + (5 : Int32))) 9000) (if (s8.1 88 ((x1.toInt32 + (5 : Int32))).toNatClampNeg) ≤ (s8.1 68 42) then (bi (f_X12_isNumber ((x1 + (8 : Int64))) s8) fun r15 s14 => if r15 = 0 then (some ((0 : Int32), s14)) else (zn ((x1 + (16 : Int64))) fun v17 => K5 (v17, s14))) else (bi (f_X12_bad (8 : Int32) ((x1 + (5 : Int64))) s8) fun r20 s19 => gd (r20 = 0 ∨ r20 = 1) (some (r20, s19)))))))

def f_X12_readsSymbols_5 (x1 : Int64) (σ : St) : Option (Int32 × St) :=
  it (fun K a => f_X12_readsSymbols_5b K a.1 a.2) FU (x1, σ)

def f_X12_readsSymbols (σ : St) : Option (Int32 × St) :=
  zn (σ.2 68 50) fun v1 => f_X12_readsSymbols_5 v1 σ

def f_X12_isWithin (a1 : Int32) (a2 : Int32) (a3 : Int32) (a4 : Int32) (σ : St) : Option (Int32 × St) :=
  if a3 < (a4 + (8 : Int32)) then (some ((0 : Int32), σ)) else (gd (ib a1 4) (if (σ.2 92 a1.toNatClampNeg) < (((a2.toInt64 * a3.toInt64) + a4.toInt64) + (8 : Int64)) then (some ((0 : Int32), σ)) else (some ((1 : Int32), σ))))

def f_X12_wordOf_54 (K7 : (Int32 × Int64 × Int64 × Int32 × St) → Option (Int64 × St)) (x1 : Int32) (x2 : Int64) (x6 : Int32) (t0 : Int32) (t1 : Int64) (σ : St) : Option (Int64 × St) :=
  zn (t1 ||| t0.toInt64) fun v6 => zn (x6 + (-1)) fun v7 => K7 (x1, x2, v6, v7, σ)

def f_X12_wordOf_7b (K7 : (Int32 × Int64 × Int64 × Int32 × St) → Option (Int64 × St)) (x1 : Int32) (x2 : Int64) (x4 : Int64) (x6 : Int32) (σ : St) : Option (Int64 × St) :=
  if x6 < 0 then (some (x4, σ)) else (gd (ib x1 4) (if (σ.2 94 x1.toNatClampNeg) ≤ (x2 + x6.toInt64) then (f_X12_wordOf_54 K7 x1 x2 x6 (0 : Int32) ((zlshl x4 (8 : Int32))) σ) else (gd (ib x1 4) (gd (ib (((((σ.2 93 x1.toNatClampNeg) + x2) + x6.toInt64)).toInt32) 9000) (f_X12_wordOf_54 K7 x1 x2 x6 ((σ.1 88 (((((σ.2 93 x1.toNatClampNeg) + x2) + x6.toInt64)).toInt32).toNatClampNeg)) ((zlshl x4 (8 : Int32))) σ)))))

def f_X12_wordOf_7 (x1 : Int32) (x2 : Int64) (x4 : Int64) (x6 : Int32) (σ : St) : Option (Int64 × St) :=
  it (fun K a => f_X12_wordOf_7b K a.1 a.2.1 a.2.2.1 a.2.2.2.1 a.2.2.2.2) FU (x1, x2, x4, x6, σ)

def f_X12_wordOf (a1 : Int32) (a2 : Int64) (σ : St) : Option (Int64 × St) :=
  zn (0 : Int64) fun v1 => zn (7 : Int32) fun v2 => f_X12_wordOf_7 a1 a2 v1 v2 σ

def f_X12_importOf (a1 : Int64) (σ : St) : Option (Int64 × St) :=
  bi (f_X12_four (((σ.2 68 56) + ((4 : Int64) * (a1 &&& (16777215 : Int64))))) σ) fun r3 s2 => some (r3, s2)

def f_X12_isWeakImport (a1 : Int64) (σ : St) : Option (Int32 × St) :=
  bi (f_X12_importOf a1 σ) fun r3 s2 => if ((zlshr r3 (8 : Int32)) &&& (1 : Int64)) = (1 : Int64) then (some ((1 : Int32), s2)) else (some ((0 : Int32), s2))

def f_X12_exportFor_147 (K32 : (Int64 × Int64 × Int64 × Int32 × St) → Option (Int32 × St)) (x3 : Int64) (x5 : Int64) (x7 : Int64) (x9 : Int32) (x10 : Int32) (σ : St) : Option (Int32 × St) :=
  if x10 = 0 then (zn (x9 + 1) fun v15 => K32 (x3, x5, x7, v15, σ)) else (some (x9, σ))

def f_X12_exportFor_139 (K87 : (Int64 × Int64 × Int64 × Int32 × Int32 × Int32 × St) → Option (Int32 × St)) (x3 : Int64) (x5 : Int64) (x7 : Int64) (x9 : Int32) (x11 : Int32) (t0 : Int32) (σ : St) : Option (Int32 × St) :=
  zn (x11 + 1) fun v20 => K87 (x3, x5, x7, x9, t0, v20, σ)

def f_X12_exportFor_87b (K32 : (Int64 × Int64 × Int64 × Int32 × St) → Option (Int32 × St)) (K87 : (Int64 × Int64 × Int64 × Int32 × Int32 × Int32 × St) → Option (Int32 × St)) (x3 : Int64) (x5 : Int64) (x7 : Int64) (x9 : Int32) (x10 : Int32) (x11 : Int32) (σ : St) : Option (Int32 × St) :=
  if (x7 - x5) ≤ x11.toInt64 then (f_X12_exportFor_147 K32 x3 x5 x7 x9 x10 σ) else (if x10 = 0 then (f_X12_exportFor_147 K32 x3 x5 x7 x9 x10 σ) else (gd (ib ((((16 : Int32) * ((52 : Int32) + x9)) + x11)) 1312) (gd (ib (x5.toInt32 + x11) 9000) (if (σ.1 70 ((((16 : Int32) * ((52 : Int32) + x9)) + x11)).toNatClampNeg) = (σ.1 88 (x5.toInt32 + x11).toNatClampNeg) then (f_X12_exportFor_139 K87 x3 x5 x7 x9 x11 (1 : Int32) σ) else (f_X12_exportFor_139 K87 x3 x5 x7 x9 x11 (0 : Int32) σ)))))

def f_X12_exportFor_87 (K32 : (Int64 × Int64 × Int64 × Int32 × St) → Option (Int32 × St)) (x3 : Int64) (x5 : Int64) (x7 : Int64) (x9 : Int32) (x10 : Int32) (x11 : Int32) (σ : St) : Option (Int32 × St) :=
  it (fun K a => f_X12_exportFor_87b K32 K a.1 a.2.1 a.2.2.1 a.2.2.2.1 a.2.2.2.2.1 a.2.2.2.2.2.1 a.2.2.2.2.2.2) FU (x3, x5, x7, x9, x10, x11, σ)

def f_X12_exportFor_82 (K32 : (Int64 × Int64 × Int64 × Int32 × St) → Option (Int32 × St)) (x3 : Int64) (x5 : Int64) (x7 : Int64) (x9 : Int32) (t0 : Int32) (σ : St) : Option (Int32 × St) :=
  zn (0 : Int32) fun v12 => f_X12_exportFor_87 K32 x3 x5 x7 x9 t0 v12 σ

def f_X12_exportFor_81 (K32 : (Int64 × Int64 × Int64 × Int32 × St) → Option (Int32 × St)) (x3 : Int64) (x5 : Int64) (x7 : Int64) (x9 : Int32) (σ : St) : Option (Int32 × St) :=
  f_X12_exportFor_82 K32 x3 x5 x7 x9 (0 : Int32) σ

def f_X12_exportFor_32b (K32 : (Int64 × Int64 × Int64 × Int32 × St) → Option (Int32 × St)) (x3 : Int64) (x5 : Int64) (x7 : Int64) (x9 : Int32) (σ : St) : Option (Int32 × St) :=
  if (σ.1 68 11) ≤ x9 then (some ((-1 : Int32), σ)) else (gd (ib x9 30) (if (σ.1 86 x9.toNatClampNeg).toInt64 = (x3 &&& (255 : Int64)) then (bi (f_X12_longOf (((52 : Int32) + x9)) σ) fun r23 s22 => if r23.toInt64 = (x7 - x5) then (f_X12_exportFor_82 K32 x3 x5 x7 x9 (1 : Int32) s22) else (f_X12_exportFor_81 K32 x3 x5 x7 x9 s22)) else (f_X12_exportFor_81 K32 x3 x5 x7 x9 σ)))

def f_X12_exportFor_32 (x3 : Int64) (x5 : Int64) (x7 : Int64) (x9 : Int32) (σ : St) : Option (Int32 × St) :=
  it (fun K a => f_X12_exportFor_32b K a.1 a.2.1 a.2.2.1 a.2.2.2.1 a.2.2.2.2) FU (x3, x5, x7, x9, σ)

def f_X12_exportFor (a1 : Int64) (σ : St) : Option (Int32 × St) :=
  bi (f_X12_importOf a1 σ) fun r3 s2 => zn (((s2.2 68 58) + (zlshr r3 (9 : Int32)))) fun v4 => bi (f_X12_zero v4 (s2.2 68 55) s2) fun r7 s6 => zn (0 : Int32) fun v8 => f_X12_exportFor_32 r3 v4 r7 v8 s6

def f_X12_walks_37 (x4 : Int64) (σ : St) : Option (Int32 × St) :=
  bi (f_X12_bad (10 : Int32) x4 σ) fun r8 s7 => gd (r8 = 0 ∨ r8 = 1) (some (r8, s7))

def f_X12_walks_300 (x10 : Int64) (σ : St) : Option (Int32 × St) :=
  bi (f_X12_bad (10 : Int32) x10 σ) fun r42 s41 => gd (r42 = 0 ∨ r42 = 1) (some (r42, s41))

def f_X12_walks_263 (K49 : (Int32 × Int32 × Int32 × Int32 × Int32 × St) → Option (Int32 × St)) (x1 : Int32) (x2 : Int32) (x3 : Int32) (x6 : Int32) (x10 : Int64) (x15 : Int32) (t0 : Int32) (σ : St) : Option (Int32 × St) :=
  if t0 = 0 then (K49 (x1, x2, x3, x6, t0, σ)) else (zn ((x6 + ((4 : Int32) * x15))) fun v38 => if x15 = (1 : Int32) then (f_X12_walks_300 x10 σ) else (bi (f_X12_isWithin x1 x2 x3 v38 σ) fun r46 s45 => if r46 = 0 then (f_X12_walks_300 x10 s45) else (K49 (x1, x2, x3, v38, t0, s45))))

def f_X12_walks_198 (K49 : (Int32 × Int32 × Int32 × Int32 × Int32 × St) → Option (Int32 × St)) (x1 : Int32) (x2 : Int32) (x3 : Int32) (x6 : Int32) (x8 : Int64) (x10 : Int64) (x12 : Int64) (σ : St) : Option (Int32 × St) :=
  gd (ib (σ.1 68 59) 2100) (zn (sJ σ 95 (σ.1 68 59).toNatClampNeg x12) fun s29 => gd (ib (s29.1 68 59) 2100) (zn (sI s29 96 (s29.1 68 59).toNatClampNeg x1) fun s31 => gd (ib (s31.1 68 59) 2100) (zn (sI s31 97 (s31.1 68 59).toNatClampNeg x8.toInt32) fun s33 => zn (sI s33 68 59 (((s33.1 68 59) + (1 : Int32)))) fun s34 => zn ((((zlshr x12 (51 : Int32))).toInt32 &&& (4095 : Int32))) fun v35 => if v35 ≤ 0 then (f_X12_walks_263 K49 x1 x2 x3 x6 x10 v35 (0 : Int32) s34) else (f_X12_walks_263 K49 x1 x2 x3 x6 x10 v35 (1 : Int32) s34))))

def f_X12_walks_165 (K49 : (Int32 × Int32 × Int32 × Int32 × Int32 × St) → Option (Int32 × St)) (x1 : Int32) (x2 : Int32) (x3 : Int32) (x6 : Int32) (x8 : Int64) (x10 : Int64) (x12 : Int64) (x14 : Int32) (σ : St) : Option (Int32 × St) :=
  if x14 = 0 then (f_X12_walks_198 K49 x1 x2 x3 x6 x8 x10 x12 σ) else (bi (f_X12_isWeakImport x12 σ) fun r50 s49 => if r50 = 0 then (bi (f_X12_exportFor x12 s49) fun r54 s53 => if r54 = (-1 : Int32) then (bi (f_X12_bad (12 : Int32) x10 s53) fun r58 s57 => gd (r58 = 0 ∨ r58 = 1) (some (r58, s57))) else (f_X12_walks_198 K49 x1 x2 x3 x6 x8 x10 x12 s53)) else (f_X12_walks_198 K49 x1 x2 x3 x6 x8 x10 x12 s49))

def f_X12_walks_122 (K49 : (Int32 × Int32 × Int32 × Int32 × Int32 × St) → Option (Int32 × St)) (x1 : Int32) (x2 : Int32) (x3 : Int32) (x6 : Int32) (x8 : Int64) (x10 : Int64) (x12 : Int64) (x14 : Int32) (t0 : Int64) (t1 : Int64) (σ : St) : Option (Int32 × St) :=
  if (t1 &&& t0) = (0 : Int64) then (if x14 = 0 then (f_X12_walks_165 K49 x1 x2 x3 x6 x8 x10 x12 x14 σ) else (if (x12 &&& (16777215 : Int64)) < (σ.2 68 57) then (f_X12_walks_165 K49 x1 x2 x3 x6 x8 x10 x12 x14 σ) else (bi (f_X12_bad (11 : Int32) x10 σ) fun r63 s62 => gd (r63 = 0 ∨ r63 = 1) (some (r63, s62))))) else (bi (f_X12_bad (11 : Int32) x10 σ) fun r67 s66 => gd (r67 = 0 ∨ r67 = 1) (some (r67, s66)))

def f_X12_walks_104 (K49 : (Int32 × Int32 × Int32 × Int32 × Int32 × St) → Option (Int32 × St)) (x1 : Int32) (x2 : Int32) (x3 : Int32) (x6 : Int32) (x8 : Int64) (x10 : Int64) (x12 : Int64) (t0 : Int32) (σ : St) : Option (Int32 × St) :=
  if t0 = 0 then (f_X12_walks_122 K49 x1 x2 x3 x6 x8 x10 x12 t0 (2234207627640832 : Int64) x12 σ) else (f_X12_walks_122 K49 x1 x2 x3 x6 x8 x10 x12 t0 (2251795518717952 : Int64) x12 σ)

def f_X12_walks_49b (K49 : (Int32 × Int32 × Int32 × Int32 × Int32 × St) → Option (Int32 × St)) (x1 : Int32) (x2 : Int32) (x3 : Int32) (x6 : Int32) (x7 : Int32) (σ : St) : Option (Int32 × St) :=
  if x7 = 0 then (some ((1 : Int32), σ)) else (zn (((x2.toInt64 * x3.toInt64) + x6.toInt64)) fun v16 => gd (ib x1 4) (gd (ib (0 : Int32) 4) (zn ((((σ.2 91 x1.toNatClampNeg) + v16) - (σ.2 91 (0 : Int32).toNatClampNeg))) fun v19 => bi (f_X12_wordOf x1 v16 σ) fun r22 s21 => if (0 : Int64) ≤ r22 then (f_X12_walks_104 K49 x1 x2 x3 x6 v16 v19 r22 (0 : Int32) s21) else (f_X12_walks_104 K49 x1 x2 x3 x6 v16 v19 r22 (1 : Int32) s21))))

def f_X12_walks_49 (x1 : Int32) (x2 : Int32) (x3 : Int32) (x6 : Int32) (x7 : Int32) (σ : St) : Option (Int32 × St) :=
  it (fun K a => f_X12_walks_49b K a.1 a.2.1 a.2.2.1 a.2.2.2.1 a.2.2.2.2.1 a.2.2.2.2.2) FU (x1, x2, x3, x6, x7, σ)

def f_X12_walks (a1 : Int32) (a2 : Int32) (a3 : Int32) (a4 : Int64) (σ : St) : Option (Int32 × St) :=
  bi (f_X12_two a4 σ) fun r3 s2 => if r3 = (65535 : Int32) then (some ((1 : Int32), s2)) else (if (r3 - r3 / (4 : Int32) * (4 : Int32)) = 0 then (bi (f_X12_isWithin a1 a2 a3 r3 s2) fun r12 s11 => if r12 = 0 then (f_X12_walks_37 a4 s11) else (zn (1 : Int32) fun v14 => f_X12_walks_49 a1 a2 a3 r3 v14 s11)) else (f_X12_walks_37 a4 s2))

def f_X12_readsPages_73 (x2 : Int64) (σ : St) : Option (Int32 × St) :=
  bi (f_X12_bad (9 : Int32) x2 σ) fun r12 s11 => gd (r12 = 0 ∨ r12 = 1) (some (r12, s11))

def f_X12_readsPages (a1 : Int32) (a2 : Int64) (a3 : Int64) (σ : St) : Option (Int32 × St) :=
  if (22 : Int64) ≤ ((σ.2 68 55) - a2) then (bi (f_X12_two ((a2 + (20 : Int64))) σ) fun r4 s3 => zn r4.toInt64 fun v5 => bi (f_X12_four a2 s3) fun r8 s7 => if r8 = ((22 : Int64) + ((2 : Int64) * v5)) then (if ((22 : Int64) + ((2 : Int64) * v5)) ≤ ((s7.2 68 55) - a2) then (bi (f_X12_two ((a2 + (4 : Int64))) s7) fun r17 s16 => bi (f_X12_isPage r17.toInt64 s16) fun r20 s19 => if r20 = 0 then (bi (f_X12_bad (9 : Int32) ((a2 + (4 : Int64))) s19) fun r53 s52 => gd (r53 = 0 ∨ r53 = 1) (some (r53, s52))) else (bi (f_X12_two ((a2 + (6 : Int64))) s19) fun r24 s23 => if r24 = (2 : Int32) then (bi (f_X12_isNumber ((a2 + (8 : Int64))) s23) fun r28 s27 => if r28 = 0 then (some ((0 : Int32), s27)) else (bi (f_X12_eight ((a2 + (8 : Int64))) s27) fun r32 s31 => gd (ib a1 4) (gd (ib (0 : Int32) 4) (if r32 = ((s31.2 91 a1.toNatClampNeg) - (s31.2 91 (0 : Int32).toNatClampNeg)) then (gd (ib a1 4) (gd (¬ r17.toInt64 = 0) (if v5 ≤ ((((s31.2 92 a1.toNatClampNeg) + r17.toInt64) - (1 : Int64)) / r17.toInt64) then (some ((1 : Int32), s31)) else (bi (f_X12_bad (9 : Int32) ((a2 + (20 : Int64))) s31) fun r41 s40 => if r41 = 0 then (some ((0 : Int32), s40)) else (some ((1 : Int32), s40)))))) else (bi (f_X12_bad (9 : Int32) ((a2 + (8 : Int64))) s31) fun r45 s44 => gd (r45 = 0 ∨ r45 = 1) (some (r45, s44))))))) else (bi (f_X12_bad (9 : Int32) ((a2 + (6 : Int64))) s23) fun r49 s48 => gd (r49 = 0 ∨ r49 = 1) (some (r49, s48))))) else (f_X12_readsPages_73 a2 s7)) else (f_X12_readsPages_73 a2 s7)) else (bi (f_X12_bad (9 : Int32) a3 σ) fun r57 s56 => gd (r57 = 0 ∨ r57 = 1) (some (r57, s56)))

def f_X12_readsFixups_42 (x2 : Int64) (σ : St) : Option (Int32 × St) :=
  bi (f_X12_bad (9 : Int32) x2 σ) fun r7 s6 => gd (r7 = 0 ∨ r7 = 1) (some (r7, s6))

def f_X12_readsFixups_180 (x4 : Int64) (σ : St) : Option (Int32 × St) :=
  bi (f_X12_bad (9 : Int32) x4 σ) fun r32 s31 => gd (r32 = 0 ∨ r32 = 1) (some (r32, s31))

def f_X12_readsFixups_553 (K444 : (Int64 × Int32 × St) → Option (Int32 × St)) (x4 : Int64) (x6 : Int32) (σ : St) : Option (Int32 × St) :=
  zn (x6 + 1) fun v64 => K444 (x4, v64, σ)

def f_X12_readsFixups_486b (K444 : (Int64 × Int32 × St) → Option (Int32 × St)) (K486 : (Int64 × Int32 × Int64 × Int32 × St) → Option (Int32 × St)) (x4 : Int64) (x6 : Int32) (x7 : Int64) (x9 : Int32) (σ : St) : Option (Int32 × St) :=
  bi (f_X12_two (((x4 + x7) + (20 : Int64))) σ) fun r62 s61 => if r62 ≤ x9 then (f_X12_readsFixups_553 K444 x4 x6 s61) else (bi (f_X12_two (((x4 + x7) + (4 : Int64))) s61) fun r67 s66 => bi (f_X12_walks x6 x9 r67 ((((x4 + x7) + (22 : Int64)) + ((2 : Int64) * x9.toInt64))) s66) fun r70 s69 => if r70 = 0 then (some ((0 : Int32), s69)) else (zn (x9 + 1) fun v72 => K486 (x4, x6, x7, v72, s69)))

def f_X12_readsFixups_486 (K444 : (Int64 × Int32 × St) → Option (Int32 × St)) (x4 : Int64) (x6 : Int32) (x7 : Int64) (x9 : Int32) (σ : St) : Option (Int32 × St) :=
  it (fun K a => f_X12_readsFixups_486b K444 K a.1 a.2.1 a.2.2.1 a.2.2.2.1 a.2.2.2.2) FU (x4, x6, x7, x9, σ)

def f_X12_readsFixups_444b (K444 : (Int64 × Int32 × St) → Option (Int32 × St)) (x4 : Int64) (x6 : Int32) (σ : St) : Option (Int32 × St) :=
  if (σ.1 68 41) ≤ x6 then (some ((1 : Int32), σ)) else (bi (f_X12_four (((x4 + (4 : Int64)) + ((4 : Int64) * x6.toInt64))) σ) fun r57 s56 => if r57 = (0 : Int64) then (f_X12_readsFixups_553 K444 x4 x6 s56) else (zn (0 : Int32) fun v59 => f_X12_readsFixups_486 K444 x4 x6 r57 v59 s56))

def f_X12_readsFixups_444 (x4 : Int64) (x6 : Int32) (σ : St) : Option (Int32 × St) :=
  it (fun K a => f_X12_readsFixups_444b K a.1 a.2.1 a.2.2) FU (x4, x6, σ)

def f_X12_readsFixups_435 (K369 : (Int64 × Int32 × St) → Option (Int32 × St)) (x4 : Int64) (x6 : Int32) (σ : St) : Option (Int32 × St) :=
  zn (x6 + 1) fun v77 => K369 (x4, v77, σ)

def f_X12_readsFixups_369b (K369 : (Int64 × Int32 × St) → Option (Int32 × St)) (x4 : Int64) (x6 : Int32) (σ : St) : Option (Int32 × St) :=
  if (σ.1 68 41) ≤ x6 then (zn (0 : Int32) fun v53 => f_X12_readsFixups_444 x4 v53 σ) else (bi (f_X12_four (((x4 + (4 : Int64)) + ((4 : Int64) * x6.toInt64))) σ) fun r75 s74 => if r75 = (0 : Int64) then (f_X12_readsFixups_435 K369 x4 x6 s74) else (bi (f_X12_readsPages x6 (x4 + r75) (((x4 + (4 : Int64)) + ((4 : Int64) * x6.toInt64))) s74) fun r80 s79 => if r80 = 0 then (some ((0 : Int32), s79)) else (f_X12_readsFixups_435 K369 x4 x6 s79)))

def f_X12_readsFixups_369 (x4 : Int64) (x6 : Int32) (σ : St) : Option (Int32 × St) :=
  it (fun K a => f_X12_readsFixups_369b K a.1 a.2.1 a.2.2) FU (x4, x6, σ)

def f_X12_readsFixups_291b (K291 : (Int64 × Int32 × St) → Option (Int32 × St)) (x4 : Int64) (x6 : Int32) (σ : St) : Option (Int32 × St) :=
  if (σ.2 68 57) ≤ x6.toInt64 then (zn (0 : Int32) fun v51 => f_X12_readsFixups_369 x4 v51 σ) else (bi (f_X12_four (((σ.2 68 56) + ((4 : Int64) * x6.toInt64))) σ) fun r84 s83 => bi (f_X12_zero (((σ.2 68 58) + (zlshr r84 (9 : Int32)))) (s83.2 68 55) s83) fun r87 s86 => if r87 = (-1 : Int64) then (bi (f_X12_bad (9 : Int32) (((s86.2 68 56) + ((4 : Int64) * x6.toInt64))) s86) fun r92 s91 => gd (r92 = 0 ∨ r92 = 1) (some (r92, s91))) else (zn (x6 + 1) fun v89 => K291 (x4, v89, s86)))

def f_X12_readsFixups_291 (x4 : Int64) (x6 : Int32) (σ : St) : Option (Int32 × St) :=
  it (fun K a => f_X12_readsFixups_291b K a.1 a.2.1 a.2.2) FU (x4, x6, σ)

def f_X12_readsFixups (a1 : Int32) (σ : St) : Option (Int32 × St) :=
  zn (sI σ 68 59 (0 : Int32)) fun s1 => if (s1.1 68 49) = 0 then (some ((1 : Int32), s1)) else (zn (s1.2 68 54) fun v3 => if ((s1.2 68 55) - v3) < (28 : Int64) then (f_X12_readsFixups_42 v3 s1) else (bi (f_X12_four v3 s1) fun r11 s10 => if r11 = (0 : Int64) then (bi (f_X12_four ((v3 + (20 : Int64))) s10) fun r15 s14 => if r15 = (1 : Int64) then (bi (f_X12_four ((v3 + (24 : Int64))) s14) fun r19 s18 => if r19 = (0 : Int64) then (bi (f_X12_four ((v3 + (4 : Int64))) s18) fun r23 s22 => zn (v3 + r23) fun v24 => if (4 : Int64) ≤ ((s22.2 68 55) - v24) then (bi (f_X12_four v24 s22) fun r28 s27 => if r28 = (s27.1 68 41).toInt64 then (if ((4 : Int64) + ((4 : Int64) * (s27.1 68 41).toInt64)) ≤ ((s27.2 68 55) - v24) then (bi (f_X12_four ((v3 + (16 : Int64))) s27) fun r37 s36 => zn (sJ s36 68 57 r37) fun s38 => bi (f_X12_four ((v3 + (8 : Int64))) s38) fun r41 s40 => zn (sJ s40 68 56 (v3 + r41)) fun s42 => bi (f_X12_four ((v3 + (12 : Int64))) s42) fun r45 s44 => zn (sJ s44 68 58 (v3 + r45)) fun s46 => if (s46.2 68 57) ≤ (64 : Int64) then (if ((s46.2 68 56) + ((4 : Int64) * (s46.2 68 57))) ≤ (s46.2 68 55) then (zn (0 : Int32) fun v49 => f_X12_readsFixups_291 v24 v49 s46) else (bi (f_X12_bad (9 : Int32) ((v3 + (8 : Int64))) s46) fun r96 s95 => gd (r96 = 0 ∨ r96 = 1) (some (r96, s95)))) else (bi (f_X12_bad (9 : Int32) ((v3 + (16 : Int64))) s46) fun r100 s99 => gd (r100 = 0 ∨ r100 = 1) (some (r100, s99)))) else (f_X12_readsFixups_180 v24 s27)) else (f_X12_readsFixups_180 v24 s27)) else (bi (f_X12_bad (9 : Int32) ((v3 + (4 : Int64))) s22) fun r104 s103 => gd (r104 = 0 ∨ r104 = 1) (some (r104, s103)))) else (bi (f_X12_bad (9 : Int32) ((v3 + (24 : Int64))) s18) fun r108 s107 => gd (r108 = 0 ∨ r108 = 1) (some (r108, s107)))) else (bi (f_X12_bad (9 : Int32) ((v3 + (20 : Int64))) s14) fun r112 s111 => gd (r112 = 0 ∨ r112 = 1) (some (r112, s111)))) else (f_X12_readsFixups_42 v3 s10)))

def f_X12_fits_68 (K2 : (Int32 × Int32 × St) → Option (Int32 × St)) (x1 : Int32) (x2 : Int32) (σ : St) : Option (Int32 × St) :=
  zn (x2 + 1) fun v5 => K2 (x1, v5, σ)

def f_X12_fits_60 (σ : St) : Option (Int32 × St) :=
  bi (f_X12_bad (13 : Int32) (0 : Int64) σ) fun r10 s9 => gd (r10 = 0 ∨ r10 = 1) (some (r10, s9))

def f_X12_fits_2b (K2 : (Int32 × Int32 × St) → Option (Int32 × St)) (x1 : Int32) (x2 : Int32) (σ : St) : Option (Int32 × St) :=
  if (σ.1 68 41) ≤ x2 then (some ((1 : Int32), σ)) else (gd (ib x2 4) (if (σ.2 92 x2.toNatClampNeg) ≤ (0 : Int64) then (f_X12_fits_68 K2 x1 x2 σ) else (gd (ib x2 4) (if ((σ.2 91 x2.toNatClampNeg) + x1.toInt64) < (0 : Int64) then (f_X12_fits_60 σ) else (gd (ib x2 4) (gd (ib x2 4) (if ((((σ.2 91 x2.toNatClampNeg) + x1.toInt64) + (σ.2 92 x2.toNatClampNeg)) - (1 : Int64)) ≤ (2147483647 : Int64) then (f_X12_fits_68 K2 x1 x2 σ) else (f_X12_fits_60 σ))))))))

def f_X12_fits_2 (x1 : Int32) (x2 : Int32) (σ : St) : Option (Int32 × St) :=
  it (fun K a => f_X12_fits_2b K a.1 a.2.1 a.2.2) FU (x1, x2, σ)

def f_X12_fits (a1 : Int32) (σ : St) : Option (Int32 × St) :=
  zn (0 : Int32) fun v1 => f_X12_fits_2 a1 v1 σ

def f_X12_keeps_436b (K436 : (Int32 × Int32 × St) → Option (St)) (x1 : Int32) (x3 : Int32) (σ : St) : Option (St) :=
  if (σ.1 68 65) ≤ x3 then (some σ) else (zn (((σ.2 68 50) + ((16 : Int64) * x3.toInt64))) fun v14 => bi (f_X12_four v14 σ) fun r17 s16 => gd (ib x3 64) (zn (sI s16 107 x3.toNatClampNeg ((((σ.2 68 52) + r17)).toInt32)) fun s19 => gd (ib x3 64) (bi (f_X12_zero ((s19.1 107 x3.toNatClampNeg).toInt64) (((s19.2 68 52) + (s19.2 68 53))) s19) fun r23 s22 => gd (ib x3 64) (gd (ib x3 64) (zn (sI s22 108 x3.toNatClampNeg ((r23.toInt32 - (s22.1 107 x3.toNatClampNeg)))) fun s26 => bi (f_X12_eight ((v14 + (8 : Int64))) s26) fun r29 s28 => gd (ib x3 64) (zn (sI s28 109 x3.toNatClampNeg (r29.toInt32 + x1)) fun s31 => zn (x3 + 1) fun v32 => K436 (x1, v32, s31)))))))

def f_X12_keeps_436 (x1 : Int32) (x3 : Int32) (σ : St) : Option (St) :=
  it (fun K a => f_X12_keeps_436b K a.1 a.2.1 a.2.2) FU (x1, x3, σ)

def f_X12_keeps_431 (x1 : Int32) (t0 : Int32) (σ : St) : Option (St) :=
  zn (sI σ 68 65 t0) fun s11 => zn (0 : Int32) fun v12 => f_X12_keeps_436 x1 v12 s11

def f_X12_keeps_388b (K388 : (Int32 × Int32 × St) → Option (St)) (x1 : Int32) (x3 : Int32) (σ : St) : Option (St) :=
  if (σ.1 68 30) ≤ x3 then (if (σ.1 68 48) = 0 then (f_X12_keeps_431 x1 (0 : Int32) σ) else (f_X12_keeps_431 x1 ((σ.2 68 51).toInt32) σ)) else (gd (ib x3 9000) (gd (ib x3 9000) (zn (sI σ 106 x3.toNatClampNeg (σ.1 88 x3.toNatClampNeg)) fun s35 => zn (x3 + 1) fun v36 => K388 (x1, v36, s35))))

def f_X12_keeps_388 (x1 : Int32) (x3 : Int32) (σ : St) : Option (St) :=
  it (fun K a => f_X12_keeps_388b K a.1 a.2.1 a.2.2) FU (x1, x3, σ)

def f_X12_keeps_328b (K143 : (Int32 × Int32 × St) → Option (St)) (K328 : (Int32 × Int32 × Int64 × Int32 × St) → Option (St)) (x1 : Int32) (x3 : Int32) (x7 : Int64) (x9 : Int32) (σ : St) : Option (St) :=
  if (8 : Int32) ≤ x9 then (zn (x3 + 1) fun v59 => K143 (x1, v59, σ)) else (gd (ib x3 2100) (gd (ib (σ.1 96 x3.toNatClampNeg) 4) (gd (ib x3 2100) (gd (ib ((((σ.1 100 (σ.1 96 x3.toNatClampNeg).toNatClampNeg) + (σ.1 97 x3.toNatClampNeg)) + x9)) 16384) (zn (sI σ 101 ((((σ.1 100 (σ.1 96 x3.toNatClampNeg).toNatClampNeg) + (σ.1 97 x3.toNatClampNeg)) + x9)).toNatClampNeg ((((zlshr x7 (((8 : Int32) * x9)))).toInt32 &&& (255 : Int32)))) fun s64 => zn (x9 + 1) fun v65 => K328 (x1, x3, x7, v65, s64))))))

def f_X12_keeps_328 (K143 : (Int32 × Int32 × St) → Option (St)) (x1 : Int32) (x3 : Int32) (x7 : Int64) (x9 : Int32) (σ : St) : Option (St) :=
  it (fun K a => f_X12_keeps_328b K143 K a.1 a.2.1 a.2.2.1 a.2.2.2.1 a.2.2.2.2) FU (x1, x3, x7, x9, σ)

def f_X12_keeps_325 (K143 : (Int32 × Int32 × St) → Option (St)) (x1 : Int32) (x3 : Int32) (x7 : Int64) (σ : St) : Option (St) :=
  zn (0 : Int32) fun v57 => f_X12_keeps_328 K143 x1 x3 x7 v57 σ

def f_X12_keeps_315 (K143 : (Int32 × Int32 × St) → Option (St)) (x1 : Int32) (x3 : Int32) (t0 : Int64) (σ : St) : Option (St) :=
  gd (ib x3 2100) (zn ((t0 + (σ.1 104 x3.toNatClampNeg).toInt64)) fun v72 => f_X12_keeps_325 K143 x1 x3 v72 σ)

def f_X12_keeps_251 (K143 : (Int32 × Int32 × St) → Option (St)) (x1 : Int32) (x3 : Int32) (x4 : Int64) (x6 : Int32) (t0 : Int32) (t1 : Int64) (t2 : Int32) (σ : St) : Option (St) :=
  gd (ib t2 2100) (zn (sI σ 104 t2.toNatClampNeg (((zlshr t1 t0).toInt32 &&& (255 : Int32)))) fun s52 => gd (ib x3 2100) (gd (ib x3 2100) (zn (((((s52.2 103 x3.toNatClampNeg) + x1.toInt64) &&& (72057594037927935 : Int64)) ||| (zlshl ((s52.1 104 x3.toNatClampNeg).toInt64) (56 : Int32)))) fun v55 => if x6 = 0 then (f_X12_keeps_325 K143 x1 x3 v55 s52) else (bi (f_X12_exportFor x4 s52) fun r68 s67 => if r68 = (-1 : Int32) then (f_X12_keeps_315 K143 x1 x3 (0 : Int64) s67) else (gd (ib r68 30) (f_X12_keeps_315 K143 x1 x3 ((s67.1 87 r68.toNatClampNeg).toInt64) s67))))))

def f_X12_keeps_231 (K143 : (Int32 × Int32 × St) → Option (St)) (x1 : Int32) (x3 : Int32) (x4 : Int64) (x6 : Int32) (t0 : Int64) (t1 : Int32) (σ : St) : Option (St) :=
  gd (ib t1 2100) (zn (sJ σ 103 t1.toNatClampNeg t0) fun s49 => if x6 = 0 then (f_X12_keeps_251 K143 x1 x3 x4 x6 (36 : Int32) x4 x3 s49) else (f_X12_keeps_251 K143 x1 x3 x4 x6 (24 : Int32) x4 x3 s49))

def f_X12_keeps_171 (K143 : (Int32 × Int32 × St) → Option (St)) (x1 : Int32) (x3 : Int32) (x4 : Int64) (t0 : Int32) (σ : St) : Option (St) :=
  gd (ib x3 2100) (gd (ib (σ.1 96 x3.toNatClampNeg) 4) (gd (ib x3 2100) (gd (ib x3 2100) (zn (sJ σ 102 x3.toNatClampNeg (((σ.2 98 (σ.1 96 x3.toNatClampNeg).toNatClampNeg) + (σ.1 97 x3.toNatClampNeg).toInt64))) fun s44 => gd (ib x3 2100) (zn (sI s44 105 x3.toNatClampNeg (vp_nar .boolean t0)) fun s46 => if t0 = 0 then (f_X12_keeps_231 K143 x1 x3 x4 t0 ((x4 &&& (68719476735 : Int64))) x3 s46) else (f_X12_keeps_231 K143 x1 x3 x4 t0 ((x4 &&& (16777215 : Int64))) x3 s46))))))

def f_X12_keeps_143b (K143 : (Int32 × Int32 × St) → Option (St)) (x1 : Int32) (x3 : Int32) (σ : St) : Option (St) :=
  if (σ.1 68 59) ≤ x3 then (zn (0 : Int32) fun v8 => f_X12_keeps_388 x1 v8 σ) else (gd (ib x3 2100) (zn (σ.2 95 x3.toNatClampNeg) fun v38 => if (0 : Int64) ≤ v38 then (f_X12_keeps_171 K143 x1 x3 v38 (0 : Int32) σ) else (f_X12_keeps_171 K143 x1 x3 v38 (1 : Int32) σ)))

def f_X12_keeps_143 (x1 : Int32) (x3 : Int32) (σ : St) : Option (St) :=
  it (fun K a => f_X12_keeps_143b K a.1 a.2.1 a.2.2) FU (x1, x3, σ)

def f_X12_keeps_110 (K57 : (Int32 × Int32 × Int32 × Int32 × St) → Option (St)) (x1 : Int32) (x2 : Int32) (x3 : Int32) (x4 : Int32) (t0 : Int32) (t1 : Int32) (σ : St) : Option (St) :=
  gd (ib t1 16384) (zn (sI σ 101 t1.toNatClampNeg t0) fun s90 => zn (x4 + 1) fun v91 => K57 (x1, x2, x3, v91, s90))

def f_X12_keeps_57b (K12 : (Int32 × Int32 × Int32 × St) → Option (St)) (K57 : (Int32 × Int32 × Int32 × Int32 × St) → Option (St)) (x1 : Int32) (x2 : Int32) (x3 : Int32) (x4 : Int32) (σ : St) : Option (St) :=
  gd (ib x3 4) (if (σ.2 92 x3.toNatClampNeg) ≤ x4.toInt64 then (gd (ib x3 4) (zn ((x2 + (σ.2 92 x3.toNatClampNeg).toInt32)) fun v85 => zn (x3 + 1) fun v86 => K12 (x1, v85, v86, σ))) else (gd (ib x3 4) (if (σ.2 94 x3.toNatClampNeg) ≤ x4.toInt64 then (f_X12_keeps_110 K57 x1 x2 x3 x4 (0 : Int32) (x2 + x4) σ) else (gd (ib x3 4) (gd (ib (((σ.2 93 x3.toNatClampNeg).toInt32 + x4)) 9000) (f_X12_keeps_110 K57 x1 x2 x3 x4 ((σ.1 88 (((σ.2 93 x3.toNatClampNeg).toInt32 + x4)).toNatClampNeg)) (x2 + x4) σ))))))

def f_X12_keeps_57 (K12 : (Int32 × Int32 × Int32 × St) → Option (St)) (x1 : Int32) (x2 : Int32) (x3 : Int32) (x4 : Int32) (σ : St) : Option (St) :=
  it (fun K a => f_X12_keeps_57b K12 K a.1 a.2.1 a.2.2.1 a.2.2.2.1 a.2.2.2.2) FU (x1, x2, x3, x4, σ)

def f_X12_keeps_12b (K12 : (Int32 × Int32 × Int32 × St) → Option (St)) (x1 : Int32) (x2 : Int32) (x3 : Int32) (σ : St) : Option (St) :=
  if (σ.1 68 41) ≤ x3 then (zn (sI σ 68 64 (σ.1 68 59)) fun s5 => zn (0 : Int32) fun v6 => f_X12_keeps_143 x1 v6 s5) else (gd (ib x3 4) (gd (ib x3 4) (zn (sJ σ 98 x3.toNatClampNeg (((σ.2 91 x3.toNatClampNeg) + x1.toInt64))) fun s75 => gd (ib x3 4) (gd (ib x3 4) (zn (sJ s75 99 x3.toNatClampNeg (s75.2 92 x3.toNatClampNeg)) fun s78 => gd (ib x3 4) (zn (sI s78 100 x3.toNatClampNeg x2) fun s80 => zn (0 : Int32) fun v81 => f_X12_keeps_57 K12 x1 x2 x3 v81 s80))))))

def f_X12_keeps_12 (x1 : Int32) (x2 : Int32) (x3 : Int32) (σ : St) : Option (St) :=
  it (fun K a => f_X12_keeps_12b K a.1 a.2.1 a.2.2.1 a.2.2.2) FU (x1, x2, x3, σ)

def f_X12_keeps (a1 : Int32) (σ : St) : Option (St) :=
  zn (sI σ 68 63 (σ.1 68 41)) fun s1 => zn (0 : Int32) fun v2 => zn (0 : Int32) fun v3 => f_X12_keeps_12 a1 v2 v3 s1

def f_X12_load (a1 : Int32) (σ : St) : Option (Int32 × St) :=
  zn (sI σ 68 0 (0 : Int32)) fun s1 => zn (sI s1 68 39 (0 : Int32)) fun s2 => zn (sJ s2 68 40 (-1 : Int64)) fun s3 => bi (f_X12_reads s3) fun r6 s5 => if r6 = 0 then (some ((s5.1 68 39), s5)) else (bi (f_X12_readsSymbols s5) fun r10 s9 => if r10 = 0 then (some ((s9.1 68 39), s9)) else (bi (f_X12_readsFixups a1 s9) fun r14 s13 => if r14 = 0 then (some ((s13.1 68 39), s13)) else (bi (f_X12_fits a1 s13) fun r18 s17 => if r18 = 0 then (some ((s17.1 68 39), s17)) else (bv (f_X12_keeps a1 s17) fun s21 => some ((s21.1 68 39), s21)))))

def f_X12_place (σ : St) : Option (Int32 × St) :=
  zn (sI σ 68 0 (0 : Int32)) fun s1 => some ((s1.2 68 40).toInt32, s1)

def f_X12_holds_50 (K3 : (Int64 × Int32 × Int32 × St) → Option (Int32 × St)) (x1 : Int64) (x3 : Int32) (x4 : Int32) (σ : St) : Option (Int32 × St) :=
  zn (x4 + 1) fun v5 => K3 (x1, x3, v5, σ)

def f_X12_holds_3b (K3 : (Int64 × Int32 × Int32 × St) → Option (Int32 × St)) (x1 : Int64) (x3 : Int32) (x4 : Int32) (σ : St) : Option (Int32 × St) :=
  if (σ.1 68 63) ≤ x4 then (some ((-1 : Int32), σ)) else (gd (ib x4 4) (if x1 < (σ.2 98 x4.toNatClampNeg) then (f_X12_holds_50 K3 x1 x3 x4 σ) else (gd (ib x4 4) (gd (ib x4 4) (if ((σ.2 98 x4.toNatClampNeg) + (σ.2 99 x4.toNatClampNeg)) < (x1 + x3.toInt64) then (f_X12_holds_50 K3 x1 x3 x4 σ) else (some (x4, σ)))))))

def f_X12_holds_3 (x1 : Int64) (x3 : Int32) (x4 : Int32) (σ : St) : Option (Int32 × St) :=
  it (fun K a => f_X12_holds_3b K a.1 a.2.1 a.2.2.1 a.2.2.2) FU (x1, x3, x4, σ)

def f_X12_holds (a1 : Int64) (a2 : Int32) (σ : St) : Option (Int32 × St) :=
  zn (0 : Int32) fun v1 => f_X12_holds_3 a1 a2 v1 σ

def f_X12_byteAt (a1 : Int32) (a2 : Int64) (σ : St) : Option (Int32 × St) :=
  gd (ib a1 4) (gd (ib a1 4) (gd (ib (((σ.1 100 a1.toNatClampNeg) + ((a2 - (σ.2 98 a1.toNatClampNeg))).toInt32)) 16384) (some ((σ.1 101 (((σ.1 100 a1.toNatClampNeg) + ((a2 - (σ.2 98 a1.toNatClampNeg))).toInt32)).toNatClampNeg), σ))))

def f_X12_memory (a1 : Int32) (σ : St) : Option (Int32 × St) :=
  zn (sI σ 68 0 (0 : Int32)) fun s1 => bi (f_X12_holds a1.toInt64 (1 : Int32) s1) fun r4 s3 => if r4 = (-1 : Int32) then (some ((-1 : Int32), s3)) else (bi (f_X12_byteAt r4 a1.toInt64 s3) fun r8 s7 => some (r8, s7))

def f_X12_pointer_38b (K38 : (Int32 × Int32 × Int64 × Int32 × St) → Option (Int64 × St)) (x1 : Int32) (x2 : Int32) (x3 : Int64) (x5 : Int32) (σ : St) : Option (Int64 × St) :=
  if x5 < 0 then (some (x3, σ)) else (bi (f_X12_byteAt x2 (x1.toInt64 + x5.toInt64) σ) fun r12 s11 => zn (((zlshl x3 (8 : Int32)) ||| r12.toInt64)) fun v13 => zn (x5 + (-1)) fun v14 => K38 (x1, x2, v13, v14, s11))

def f_X12_pointer_38 (x1 : Int32) (x2 : Int32) (x3 : Int64) (x5 : Int32) (σ : St) : Option (Int64 × St) :=
  it (fun K a => f_X12_pointer_38b K a.1 a.2.1 a.2.2.1 a.2.2.2.1 a.2.2.2.2) FU (x1, x2, x3, x5, σ)

def f_X12_pointer_20 (x1 : Int32) (x2 : Int32) (t0 : Int32) (σ : St) : Option (Int64 × St) :=
  zn (sI σ 68 0 t0) fun s5 => if (s5.1 68 0) ≤ 0 then (zn (0 : Int64) fun v7 => zn (7 : Int32) fun v8 => f_X12_pointer_38 x1 x2 v7 v8 s5) else (some ((0 : Int64), s5))

def f_X12_pointer (a1 : Int32) (σ : St) : Option (Int64 × St) :=
  bi (f_X12_holds a1.toInt64 (8 : Int32) σ) fun r3 s2 => if r3 = (-1 : Int32) then (f_X12_pointer_20 a1 r3 (1 : Int32) s2) else (f_X12_pointer_20 a1 r3 (0 : Int32) s2)

def f_X12_visit_27 (x1 : Int32) (x2 : Int32) (t0 : Int32) (σ : St) : Option (Int64 × St) :=
  zn (sI σ 68 0 t0) fun s2 => if (s2.1 68 0) ≤ 0 then (if x2 = 0 then (gd (ib x1 2100) (some ((s2.2 102 x1.toNatClampNeg), s2))) else (if x2 = (1 : Int32) then (gd (ib x1 2100) (if (s2.1 105 x1.toNatClampNeg) = 0 then (some ((0 : Int64), s2)) else (some ((1 : Int64), s2)))) else (if x2 = (2 : Int32) then (gd (ib x1 2100) (some ((s2.2 103 x1.toNatClampNeg), s2))) else (gd (ib x1 2100) (some ((s2.1 104 x1.toNatClampNeg).toInt64, s2)))))) else (some ((0 : Int64), s2))

def f_X12_visit_22 (x1 : Int32) (x2 : Int32) (σ : St) : Option (Int64 × St) :=
  f_X12_visit_27 x1 x2 (1 : Int32) σ

def f_X12_visit (a1 : Int32) (a2 : Int32) (σ : St) : Option (Int64 × St) :=
  if a1 < 0 then (f_X12_visit_22 a1 a2 σ) else (if (σ.1 68 64) ≤ a1 then (f_X12_visit_22 a1 a2 σ) else (if a2 < 0 then (f_X12_visit_22 a1 a2 σ) else (if a2 ≤ (3 : Int32) then (f_X12_visit_27 a1 a2 (0 : Int32) σ) else (f_X12_visit_22 a1 a2 σ))))

def f_X12_find_90 (K17 : (Int32 × Int32 × St) → Option (Int32 × St)) (x1 : Int32) (x2 : Int32) (x3 : Int32) (σ : St) : Option (Int32 × St) :=
  if x3 = 0 then (zn (x2 + 1) fun v11 => K17 (x1, v11, σ)) else (gd (ib x2 64) (some ((σ.1 109 x2.toNatClampNeg), σ)))

def f_X12_find_83 (K44 : (Int32 × Int32 × Int32 × Int32 × St) → Option (Int32 × St)) (x1 : Int32) (x2 : Int32) (x4 : Int32) (t0 : Int32) (σ : St) : Option (Int32 × St) :=
  zn (x4 + 1) fun v18 => K44 (x1, x2, t0, v18, σ)

def f_X12_find_44b (K17 : (Int32 × Int32 × St) → Option (Int32 × St)) (K44 : (Int32 × Int32 × Int32 × Int32 × St) → Option (Int32 × St)) (x1 : Int32) (x2 : Int32) (x3 : Int32) (x4 : Int32) (σ : St) : Option (Int32 × St) :=
  if x1 ≤ x4 then (f_X12_find_90 K17 x1 x2 x3 σ) else (if x3 = 0 then (f_X12_find_90 K17 x1 x2 x3 σ) else (gd (ib x2 64) (gd (ib (((σ.1 107 x2.toNatClampNeg) + x4)) 9000) (gd (ib x4 1040) (if (σ.1 106 (((σ.1 107 x2.toNatClampNeg) + x4)).toNatClampNeg) = (σ.1 69 x4.toNatClampNeg) then (f_X12_find_83 K44 x1 x2 x4 (1 : Int32) σ) else (f_X12_find_83 K44 x1 x2 x4 (0 : Int32) σ))))))

def f_X12_find_44 (K17 : (Int32 × Int32 × St) → Option (Int32 × St)) (x1 : Int32) (x2 : Int32) (x3 : Int32) (x4 : Int32) (σ : St) : Option (Int32 × St) :=
  it (fun K a => f_X12_find_44b K17 K a.1 a.2.1 a.2.2.1 a.2.2.2.1 a.2.2.2.2) FU (x1, x2, x3, x4, σ)

def f_X12_find_40 (K17 : (Int32 × Int32 × St) → Option (Int32 × St)) (x1 : Int32) (x2 : Int32) (t0 : Int32) (σ : St) : Option (Int32 × St) :=
  zn (0 : Int32) fun v8 => f_X12_find_44 K17 x1 x2 t0 v8 σ

def f_X12_find_17b (K17 : (Int32 × Int32 × St) → Option (Int32 × St)) (x1 : Int32) (x2 : Int32) (σ : St) : Option (Int32 × St) :=
  if (σ.1 68 65) ≤ x2 then (some ((-1 : Int32), σ)) else (gd (ib x2 64) (if (σ.1 108 x2.toNatClampNeg) = x1 then (f_X12_find_40 K17 x1 x2 (1 : Int32) σ) else (f_X12_find_40 K17 x1 x2 (0 : Int32) σ)))

def f_X12_find_17 (x1 : Int32) (x2 : Int32) (σ : St) : Option (Int32 × St) :=
  it (fun K a => f_X12_find_17b K a.1 a.2.1 a.2.2) FU (x1, x2, σ)

def f_X12_find (σ : St) : Option (Int32 × St) :=
  zn (sI σ 68 0 (0 : Int32)) fun s1 => zn (s1.1 68 2) fun v2 => zn (sI s1 68 2 (0 : Int32)) fun s3 => zn (0 : Int32) fun v4 => f_X12_find_17 v2 v4 s3

def f_X12_count (a1 : Int32) (σ : St) : Option (Int32 × St) :=
  zn (sI σ 68 0 (0 : Int32)) fun s1 => if a1 = 0 then (some ((s1.1 68 6), s1)) else (if a1 = 1 then (some ((s1.1 68 7), s1)) else (if a1 = 2 then (some ((s1.1 68 8), s1)) else (if a1 = 3 then (some ((s1.1 68 9), s1)) else (if a1 = 4 then (some ((s1.1 68 10), s1)) else (if a1 = 5 then (some ((s1.1 68 30), s1)) else (if a1 = 6 then (some ((s1.1 68 11), s1)) else (if a1 = 7 then (some ((s1.1 68 63), s1)) else (if a1 = 8 then (some ((s1.1 68 64), s1)) else (if a1 = 9 then (some ((s1.1 68 65), s1)) else (if a1 = 10 then (some ((s1.1 68 2), s1)) else ((some ((-1 : Int32), s1)))))))))))))
end
section
theorem cd_J7_fill_eb02e : Cond.code yJ7_fill_eb02e cJ7_fill_eb02e 5 none ∈ GT := GT3 50 rfl rfl
theorem cd_J7_rangeCheck_23922 : Cond.code yJ7_rangeCheck_23922 cJ7_rangeCheck_23922 3 none ∈ GT := GT3 53 rfl rfl
theorem cd_J9_max_f86c9 : Cond.code yJ9_max_f86c9 cJ9_max_f86c9 4 (some .long) ∈ GT := GT4 153 rfl rfl
theorem cd_J9_min_7cf53 : Cond.code yJ9_min_7cf53 cJ9_min_7cf53 2 (some .int) ∈ GT := GT3 162 rfl rfl
theorem cd_J9_min_f86c9 : Cond.code yJ9_min_f86c9 cJ9_min_f86c9 4 (some .long) ∈ GT := GT4 150 rfl rfl
theorem cd_X0_chainsHold : Cond.code yX0_chainsHold cX0_chainsHold 2 (some .boolean) ∈ GT := GT4 173 rfl rfl
theorem cd_X0_commandHolds : Cond.code yX0_commandHolds cX0_commandHolds 4 (some .boolean) ∈ GT := GT4 118 rfl rfl
theorem cd_X0_commandsHold : Cond.code yX0_commandsHold cX0_commandsHold 5 (some .boolean) ∈ GT := GT4 109 rfl rfl
theorem cd_X0_forget : Cond.code yX0_forget cX0_forget 1 none ∈ GT := GT4 82 rfl rfl
theorem cd_X0_headHolds : Cond.code yX0_headHolds cX0_headHolds 1 (some .boolean) ∈ GT := GT4 90 rfl rfl
theorem cd_X0_hold : Cond.code yX0_hold cX0_hold 1 (some .boolean) ∈ GT := GT4 78 rfl rfl
theorem cd_X0_numberHolds : Cond.code yX0_numberHolds cX0_numberHolds 4 (some .boolean) ∈ GT := GT4 129 rfl rfl
theorem cd_X0_sectionsHold : Cond.code yX0_sectionsHold cX0_sectionsHold 12 (some .boolean) ∈ GT := GT4 161 rfl rfl
theorem cd_X0_segmentHolds : Cond.code yX0_segmentHolds cX0_segmentHolds 4 (some .boolean) ∈ GT := GT4 123 rfl rfl
theorem cd_X0_sizeHolds : Cond.code yX0_sizeHolds cX0_sizeHolds 5 (some .boolean) ∈ GT := GT4 113 rfl rfl
theorem cd_X0_spanHolds : Cond.code yX0_spanHolds cX0_spanHolds 10 (some .boolean) ∈ GT := GT4 138 rfl rfl
theorem cd_X0_symbolsHold : Cond.code yX0_symbolsHold cX0_symbolsHold 4 (some .boolean) ∈ GT := GT4 178 rfl rfl
theorem cd_X0_symtabHolds : Cond.code yX0_symtabHolds cX0_symtabHolds 4 (some .boolean) ∈ GT := GT4 166 rfl rfl
theorem cd_X0_u4 : Cond.code yX0_u4 cX0_u4 2 (some .long) ∈ GT := GT4 98 rfl rfl
theorem cd_X0_u8 : Cond.code yX0_u8 cX0_u8 2 (some .long) ∈ GT := GT4 133 rfl rfl
theorem cd_X10_addContents : Cond.code yX10_addContents cX10_addContents 3 none ∈ GT := GT3 229 rfl rfl
theorem cd_X10_addFixups : Cond.code yX10_addFixups cX10_addFixups 2 none ∈ GT := GT4 10 rfl rfl
theorem cd_X10_addHead : Cond.code yX10_addHead cX10_addHead 1 none ∈ GT := GT3 179 rfl rfl
theorem cd_X10_addImports : Cond.code yX10_addImports cX10_addImports 4 none ∈ GT := GT4 20 rfl rfl
theorem cd_X10_addPages : Cond.code yX10_addPages cX10_addPages 6 none ∈ GT := GT4 15 rfl rfl
theorem cd_X10_addSectionsOf : Cond.code yX10_addSectionsOf cX10_addSectionsOf 3 none ∈ GT := GT3 212 rfl rfl
theorem cd_X10_addSegmentCommand : Cond.code yX10_addSegmentCommand cX10_addSegmentCommand 3 none ∈ GT := GT3 188 rfl rfl
theorem cd_X10_addStrings : Cond.code yX10_addStrings cX10_addStrings 1 none ∈ GT := GT4 34 rfl rfl
theorem cd_X10_addSymbols : Cond.code yX10_addSymbols cX10_addSymbols 5 none ∈ GT := GT4 29 rfl rfl
theorem cd_X10_addTableCommands : Cond.code yX10_addTableCommands cX10_addTableCommands 1 none ∈ GT := GT3 221 rfl rfl
theorem cd_X10_layOut : Cond.code yX10_layOut cX10_layOut 3 none ∈ GT := GT3 148 rfl rfl
theorem cd_X10_layOutFixups : Cond.code yX10_layOutFixups cX10_layOutFixups 3 none ∈ GT := GT3 155 rfl rfl
theorem cd_X10_threaded : Cond.code yX10_threaded cX10_threaded 7 (some .long) ∈ GT := GT4 1 rfl rfl
theorem cd_X10_writeAll : Cond.code yX10_writeAll cX10_writeAll 2 none ∈ GT := GT3 144 rfl rfl
theorem cd_X11_feedNumber : Cond.code yX11_feedNumber cX11_feedNumber 3 none ∈ GT := GT2 227 rfl rfl
theorem cd_X11_filledUp : Cond.code yX11_filledUp cX11_filledUp 2 (some .int) ∈ GT := GT3 151 rfl rfl
theorem cd_X11_isByte : Cond.code yX11_isByte cX11_isByte 1 (some .boolean) ∈ GT := GT3 107 rfl rfl
theorem cd_X11_isLibrary : Cond.code yX11_isLibrary cX11_isLibrary 1 (some .boolean) ∈ GT := GT3 99 rfl rfl
theorem cd_X11_isPage : Cond.code yX11_isPage cX11_isPage 1 (some .boolean) ∈ GT := GT3 15 rfl rfl
theorem cd_X11_pagesIn : Cond.code yX11_pagesIn cX11_pagesIn 2 (some .int) ∈ GT := GT3 170 rfl rfl
theorem cd_X12_addressOf : Cond.code yX12_addressOf cX12_addressOf 4 (some .int) ∈ GT := GT7 68 rfl rfl
theorem cd_X12_bad : Cond.code yX12_bad cX12_bad 4 (some .boolean) ∈ GT := GT7 133 rfl rfl
theorem cd_X12_byteAt : Cond.code yX12_byteAt cX12_byteAt 4 (some .int) ∈ GT := GT8 6 rfl rfl
theorem cd_X12_come : Cond.code yX12_come cX12_come 3 none ∈ GT := GT6 201 rfl rfl
theorem cd_X12_eight : Cond.code yX12_eight cX12_eight 3 (some .long) ∈ GT := GT7 156 rfl rfl
theorem cd_X12_even : Cond.code yX12_even cX12_even 2 none ∈ GT := GT7 47 rfl rfl
theorem cd_X12_exportFor : Cond.code yX12_exportFor cX12_exportFor 12 (some .int) ∈ GT := GT7 219 rfl rfl
theorem cd_X12_fits : Cond.code yX12_fits cX12_fits 3 (some .boolean) ∈ GT := GT7 224 rfl rfl
theorem cd_X12_four : Cond.code yX12_four cX12_four 4 (some .long) ∈ GT := GT7 137 rfl rfl
theorem cd_X12_gone : Cond.code yX12_gone cX12_gone 3 none ∈ GT := GT7 23 rfl rfl
theorem cd_X12_hasPointers : Cond.code yX12_hasPointers cX12_hasPointers 3 (some .boolean) ∈ GT := GT7 59 rfl rfl
theorem cd_X12_holds : Cond.code yX12_holds cX12_holds 5 (some .int) ∈ GT := GT8 2 rfl rfl
theorem cd_X12_importOf : Cond.code yX12_importOf cX12_importOf 3 (some .long) ∈ GT := GT7 215 rfl rfl
theorem cd_X12_isNumber : Cond.code yX12_isNumber cX12_isNumber 5 (some .boolean) ∈ GT := GT7 152 rfl rfl
theorem cd_X12_isPage : Cond.code yX12_isPage cX12_isPage 2 (some .boolean) ∈ GT := GT6 213 rfl rfl
theorem cd_X12_isSegment : Cond.code yX12_isSegment cX12_isSegment 2 (some .boolean) ∈ GT := GT6 234 rfl rfl
theorem cd_X12_isTaped : Cond.code yX12_isTaped cX12_isTaped 4 (some .boolean) ∈ GT := GT7 121 rfl rfl
theorem cd_X12_isWeakImport : Cond.code yX12_isWeakImport cX12_isWeakImport 3 (some .boolean) ∈ GT := GT7 211 rfl rfl
theorem cd_X12_isWithin : Cond.code yX12_isWithin cX12_isWithin 5 (some .boolean) ∈ GT := GT7 200 rfl rfl
theorem cd_X12_keeps : Cond.code yX12_keeps cX12_keeps 10 none ∈ GT := GT7 228 rfl rfl
theorem cd_X12_longOf : Cond.code yX12_longOf cX12_longOf 3 (some .int) ∈ GT := GT7 73 rfl rfl
theorem cd_X12_move : Cond.code yX12_move cX12_move 3 none ∈ GT := GT7 27 rfl rfl
theorem cd_X12_pointerAtPlace : Cond.code yX12_pointerAtPlace cX12_pointerAtPlace 4 (some .int) ∈ GT := GT7 19 rfl rfl
theorem cd_X12_points : Cond.code yX12_points cX12_points 9 (some .boolean) ∈ GT := GT7 15 rfl rfl
theorem cd_X12_put : Cond.code yX12_put cX12_put 5 none ∈ GT := GT7 51 rfl rfl
theorem cd_X12_putFours : Cond.code yX12_putFours cX12_putFours 9 none ∈ GT := GT7 82 rfl rfl
theorem cd_X12_putName : Cond.code yX12_putName cX12_putName 4 none ∈ GT := GT7 77 rfl rfl
theorem cd_X12_readChains : Cond.code yX12_readChains cX12_readChains 5 (some .boolean) ∈ GT := GT7 169 rfl rfl
theorem cd_X12_readSegment : Cond.code yX12_readSegment cX12_readSegment 13 (some .boolean) ∈ GT := GT7 145 rfl rfl
theorem cd_X12_readTable : Cond.code yX12_readTable cX12_readTable 5 (some .boolean) ∈ GT := GT7 164 rfl rfl
theorem cd_X12_reads : Cond.code yX12_reads cX12_reads 13 (some .boolean) ∈ GT := GT7 129 rfl rfl
theorem cd_X12_readsFixups : Cond.code yX12_readsFixups cX12_readsFixups 10 (some .boolean) ∈ GT := GT7 183 rfl rfl
theorem cd_X12_readsPages : Cond.code yX12_readsPages cX12_readsPages 9 (some .boolean) ∈ GT := GT7 187 rfl rfl
theorem cd_X12_readsSymbols : Cond.code yX12_readsSymbols cX12_readsSymbols 3 (some .boolean) ∈ GT := GT7 174 rfl rfl
theorem cd_X12_sectionsOf : Cond.code yX12_sectionsOf cX12_sectionsOf 4 (some .int) ∈ GT := GT7 43 rfl rfl
theorem cd_X12_spanOf : Cond.code yX12_spanOf cX12_spanOf 2 (some .int) ∈ GT := GT7 63 rfl rfl
theorem cd_X12_takes : Cond.code yX12_takes cX12_takes 5 (some .boolean) ∈ GT := GT6 226 rfl rfl
theorem cd_X12_two : Cond.code yX12_two cX12_two 3 (some .int) ∈ GT := GT7 192 rfl rfl
theorem cd_X12_walks : Cond.code yX12_walks cX12_walks 16 (some .boolean) ∈ GT := GT7 196 rfl rfl
theorem cd_X12_wordOf : Cond.code yX12_wordOf cX12_wordOf 7 (some .long) ∈ GT := GT7 204 rfl rfl
theorem cd_X12_writeCommands : Cond.code yX12_writeCommands cX12_writeCommands 6 none ∈ GT := GT7 92 rfl rfl
theorem cd_X12_writeFixups : Cond.code yX12_writeFixups cX12_writeFixups 7 none ∈ GT := GT7 55 rfl rfl
theorem cd_X12_writePointers : Cond.code yX12_writePointers cX12_writePointers 5 none ∈ GT := GT7 87 rfl rfl
theorem cd_X12_zero : Cond.code yX12_zero cX12_zero 7 (some .long) ∈ GT := GT7 178 rfl rfl
theorem cd_X1_addressOf : Cond.code yX1_addressOf cX1_addressOf 5 (some .int) ∈ GT := GT4 222 rfl rfl
theorem cd_X1_indexOf : Cond.code yX1_indexOf cX1_indexOf 5 (some .int) ∈ GT := GT4 63 rfl rfl
theorem cd_X1_put : Cond.code yX1_put cX1_put 5 (some .boolean) ∈ GT := GT4 57 rfl rfl
theorem cd_X2_clear : Cond.code yX2_clear cX2_clear 1 none ∈ GT := GT1 230 rfl rfl
theorem cd_X2_unless : Cond.code yX2_unless cX2_unless 4 (some .boolean) ∈ GT := GT4 94 rfl rfl
theorem cd_X3_allChainsHold : Cond.code yX3_allChainsHold cX3_allChainsHold 2 (some .boolean) ∈ GT := GT5 2 rfl rfl
theorem cd_X3_allPagesHold : Cond.code yX3_allPagesHold cX3_allPagesHold 5 (some .boolean) ∈ GT := GT4 226 rfl rfl
theorem cd_X3_chainHolds : Cond.code yX3_chainHolds cX3_chainHolds 11 (some .boolean) ∈ GT := GT5 12 rfl rfl
theorem cd_X3_chainsOfHold : Cond.code yX3_chainsOfHold cX3_chainsOfHold 10 (some .boolean) ∈ GT := GT5 6 rfl rfl
theorem cd_X3_headHolds : Cond.code yX3_headHolds cX3_headHolds 1 (some .boolean) ∈ GT := GT4 195 rfl rfl
theorem cd_X3_hold : Cond.code yX3_hold cX3_hold 1 (some .boolean) ∈ GT := GT4 187 rfl rfl
theorem cd_X3_importsHold : Cond.code yX3_importsHold cX3_importsHold 12 (some .boolean) ∈ GT := GT4 214 rfl rfl
theorem cd_X3_needs : Cond.code yX3_needs cX3_needs 3 (some .boolean) ∈ GT := GT4 204 rfl rfl
theorem cd_X3_pagesHold : Cond.code yX3_pagesHold cX3_pagesHold 6 (some .boolean) ∈ GT := GT4 231 rfl rfl
theorem cd_X3_pointerHolds : Cond.code yX3_pointerHolds cX3_pointerHolds 5 (some .boolean) ∈ GT := GT5 24 rfl rfl
theorem cd_X3_startsHold : Cond.code yX3_startsHold cX3_startsHold 3 (some .boolean) ∈ GT := GT4 209 rfl rfl
theorem cd_X3_u2 : Cond.code yX3_u2 cX3_u2 2 (some .int) ∈ GT := GT4 235 rfl rfl
theorem cd_X3_u4 : Cond.code yX3_u4 cX3_u4 2 (some .long) ∈ GT := GT4 199 rfl rfl
theorem cd_X3_valueOf : Cond.code yX3_valueOf cX3_valueOf 10 (some .long) ∈ GT := GT5 68 rfl rfl
theorem cd_X4_setPointers : Cond.code yX4_setPointers cX4_setPointers 8 none ∈ GT := GT5 58 rfl rfl
theorem cd_X4_symbolAddress : Cond.code yX4_symbolAddress cX4_symbolAddress 3 (some .int) ∈ GT := GT5 97 rfl rfl
theorem cd_X4_take : Cond.code yX4_take cX4_take 6 none ∈ GT := GT5 44 rfl rfl
theorem cd_X4_takeSegments : Cond.code yX4_takeSegments cX4_takeSegments 5 none ∈ GT := GT5 48 rfl rfl
theorem cd_X5_add : Cond.code yX5_add cX5_add 4 (some .int) ∈ GT := GT3 43 rfl rfl
theorem cd_X5_addAllTo : Cond.code yX5_addAllTo cX5_addAllTo 3 none ∈ GT := GT4 24 rfl rfl
theorem cd_X5_addFilledTo : Cond.code yX5_addFilledTo cX5_addFilledTo 3 none ∈ GT := GT3 197 rfl rfl
theorem cd_X5_bytesWithZeros : Cond.code yX5_bytesWithZeros cX5_bytesWithZeros 3 (some .int) ∈ GT := GT3 174 rfl rfl
theorem cd_X5_clear : Cond.code yX5_clear cX5_clear 1 none ∈ GT := GT3 23 rfl rfl
theorem cd_X5_has : Cond.code yX5_has cX5_has 2 (some .boolean) ∈ GT := GT3 69 rfl rfl
theorem cd_X5_takes : Cond.code yX5_takes cX5_takes 2 (some .boolean) ∈ GT := GT3 35 rfl rfl
theorem cd_X6_add : Cond.code yX6_add cX6_add 4 none ∈ GT := GT2 231 rfl rfl
theorem cd_X6_addFrom : Cond.code yX6_addFrom cX6_addFrom 4 none ∈ GT := GT3 201 rfl rfl
theorem cd_X6_addZeros : Cond.code yX6_addZeros cX6_addZeros 2 none ∈ GT := GT3 216 rfl rfl
theorem cd_X6_at : Cond.code yX6_at cX6_at 2 (some .int) ∈ GT := GT3 47 rfl rfl
theorem cd_X6_clear : Cond.code yX6_clear cX6_clear 1 none ∈ GT := GT3 57 rfl rfl
theorem cd_X6_fillUp : Cond.code yX6_fillUp cX6_fillUp 2 none ∈ GT := GT3 233 rfl rfl
theorem cd_X6_has : Cond.code yX6_has cX6_has 2 (some .boolean) ∈ GT := GT2 239 rfl rfl
theorem cd_X6_isName : Cond.code yX6_isName cX6_isName 2 (some .boolean) ∈ GT := GT3 39 rfl rfl
theorem cd_X6_lastZero : Cond.code yX6_lastZero cX6_lastZero 4 (some .int) ∈ GT := GT4 182 rfl rfl
theorem cd_X6_number : Cond.code yX6_number cX6_number 7 (some .long) ∈ GT := GT4 102 rfl rfl
theorem cd_X6_put : Cond.code yX6_put cX6_put 6 none ∈ GT := GT2 235 rfl rfl
theorem cd_X6_reads : Cond.code yX6_reads cX6_reads 6 (some .boolean) ∈ GT := GT4 67 rfl rfl
theorem cd_X6_shorten : Cond.code yX6_shorten cX6_shorten 2 (some .boolean) ∈ GT := GT3 7 rfl rfl
theorem cd_X7_add : Cond.code yX7_add cX7_add 5 none ∈ GT := GT4 157 rfl rfl
theorem cd_X7_clear : Cond.code yX7_clear cX7_clear 1 none ∈ GT := GT4 86 rfl rfl
theorem cd_X7_fitWith : Cond.code yX7_fitWith cX7_fitWith 5 (some .boolean) ∈ GT := GT5 38 rfl rfl
theorem cd_X7_placeOf : Cond.code yX7_placeOf cX7_placeOf 6 (some .int) ∈ GT := GT5 64 rfl rfl
theorem cd_X7_pointerBits : Cond.code yX7_pointerBits cX7_pointerBits 7 (some .long) ∈ GT := GT5 16 rfl rfl
theorem cd_X7_shareByte : Cond.code yX7_shareByte cX7_shareByte 8 (some .boolean) ∈ GT := GT4 147 rfl rfl
theorem cd_X7_spanOfAll : Cond.code yX7_spanOfAll cX7_spanOfAll 3 (some .int) ∈ GT := GT4 142 rfl rfl
theorem cd_X8_addImport : Cond.code yX8_addImport cX8_addImport 5 (some .int) ∈ GT := GT3 96 rfl rfl
theorem cd_X8_addSection : Cond.code yX8_addSection cX8_addSection 6 (some .int) ∈ GT := GT3 80 rfl rfl
theorem cd_X8_addSegment : Cond.code yX8_addSegment cX8_addSegment 5 (some .int) ∈ GT := GT3 31 rfl rfl
theorem cd_X8_addSymbol : Cond.code yX8_addSymbol cX8_addSymbol 5 (some .int) ∈ GT := GT3 88 rfl rfl
theorem cd_X8_addressOf : Cond.code yX8_addressOf cX8_addressOf 4 (some .int) ∈ GT := GT3 206 rfl rfl
theorem cd_X8_bitsAt : Cond.code yX8_bitsAt cX8_bitsAt 3 (some .long) ∈ GT := GT4 5 rfl rfl
theorem cd_X8_firstPointer : Cond.code yX8_firstPointer cX8_firstPointer 6 (some .int) ∈ GT := GT3 159 rfl rfl
theorem cd_X8_forget : Cond.code yX8_forget cX8_forget 4 none ∈ GT := GT3 19 rfl rfl
theorem cd_X8_hasPointer : Cond.code yX8_hasPointer cX8_hasPointer 3 (some .boolean) ∈ GT := GT3 119 rfl rfl
theorem cd_X8_hasRoom : Cond.code yX8_hasRoom cX8_hasRoom 3 (some .boolean) ∈ GT := GT3 115 rfl rfl
theorem cd_X8_removePointer : Cond.code yX8_removePointer cX8_removePointer 3 (some .boolean) ∈ GT := GT3 136 rfl rfl
theorem cd_X8_sectionsOf : Cond.code yX8_sectionsOf cX8_sectionsOf 4 (some .int) ∈ GT := GT3 192 rfl rfl
theorem cd_X8_setContents : Cond.code yX8_setContents cX8_setContents 4 (some .boolean) ∈ GT := GT3 65 rfl rfl
theorem cd_X8_setPointer : Cond.code yX8_setPointer cX8_setPointer 5 (some .boolean) ∈ GT := GT3 111 rfl rfl
theorem cd_X8_slot : Cond.code yX8_slot cX8_slot 2 (some .int) ∈ GT := GT3 122 rfl rfl
theorem cd_X8_spanOf : Cond.code yX8_spanOf cX8_spanOf 2 (some .int) ∈ GT := GT3 166 rfl rfl
theorem cd_X9_add : Cond.code yX9_add cX9_add 4 none ∈ GT := GT5 34 rfl rfl
theorem cd_X9_clear : Cond.code yX9_clear cX9_clear 1 none ∈ GT := GT4 191 rfl rfl
theorem cd_X9_extraOf : Cond.code yX9_extraOf cX9_extraOf 2 (some .long) ∈ GT := GT5 77 rfl rfl
theorem cd_X9_isBind : Cond.code yX9_isBind cX9_isBind 2 (some .boolean) ∈ GT := GT5 27 rfl rfl
theorem cd_X9_nextOf : Cond.code yX9_nextOf cX9_nextOf 2 (some .int) ∈ GT := GT5 20 rfl rfl
theorem cd_X9_subjectOf : Cond.code yX9_subjectOf cX9_subjectOf 2 (some .long) ∈ GT := GT5 71 rfl rfl
theorem in_RJ7 : Cond.initialized RJ7 ∈ GT := GT1 14 rfl rfl
theorem in_RJ9 : Cond.initialized RJ9 ∈ GT := GT1 16 rfl rfl
theorem in_RX0 : Cond.initialized RX0 ∈ GT := GT1 8 rfl rfl
theorem in_RX1 : Cond.initialized RX1 ∈ GT := GT1 6 rfl rfl
theorem in_RX10 : Cond.initialized RX10 ∈ GT := GT1 5 rfl rfl
theorem in_RX11 : Cond.initialized RX11 ∈ GT := GT1 1 rfl rfl
theorem in_RX12 : Cond.initialized RX12 ∈ GT := GT1 13 rfl rfl
theorem in_RX2 : Cond.initialized RX2 ∈ GT := GT1 7 rfl rfl
theorem in_RX3 : Cond.initialized RX3 ∈ GT := GT1 10 rfl rfl
theorem in_RX4 : Cond.initialized RX4 ∈ GT := GT1 12 rfl rfl
theorem in_RX5 : Cond.initialized RX5 ∈ GT := GT1 4 rfl rfl
theorem in_RX6 : Cond.initialized RX6 ∈ GT := GT1 2 rfl rfl
theorem in_RX7 : Cond.initialized RX7 ∈ GT := GT1 9 rfl rfl
theorem in_RX8 : Cond.initialized RX8 ∈ GT := GT1 3 rfl rfl
theorem in_RX9 : Cond.initialized RX9 ∈ GT := GT1 11 rfl rfl
theorem iv_X0_chainsHold : Cond.instanceMethod yX0_chainsHold ∈ GT := GT4 172 rfl rfl
theorem sl_X0_chainsHold : Cond.selects yX0_chainsHold.cls yX0_chainsHold yX0_chainsHold ∈ GT := GTs 27 rfl rfl
theorem iv_X0_commandHolds : Cond.instanceMethod yX0_commandHolds ∈ GT := GT4 117 rfl rfl
theorem sl_X0_commandHolds : Cond.selects yX0_commandHolds.cls yX0_commandHolds yX0_commandHolds ∈ GT := GTs 21 rfl rfl
theorem iv_X0_commandsHold : Cond.instanceMethod yX0_commandsHold ∈ GT := GT4 108 rfl rfl
theorem sl_X0_commandsHold : Cond.selects yX0_commandsHold.cls yX0_commandsHold yX0_commandsHold ∈ GT := GTs 19 rfl rfl
theorem iv_X0_forget : Cond.instanceMethod yX0_forget ∈ GT := GT4 81 rfl rfl
theorem sl_X0_forget : Cond.selects yX0_forget.cls yX0_forget yX0_forget ∈ GT := GTs 16 rfl rfl
theorem iv_X0_headHolds : Cond.instanceMethod yX0_headHolds ∈ GT := GT4 89 rfl rfl
theorem sl_X0_headHolds : Cond.selects yX0_headHolds.cls yX0_headHolds yX0_headHolds ∈ GT := GTs 17 rfl rfl
theorem iv_X0_hold : Cond.instanceMethod yX0_hold ∈ GT := GT4 76 rfl rfl
theorem sl_X0_hold : Cond.selects yX0_hold.cls yX0_hold yX0_hold ∈ GT := GT4 77 rfl rfl
theorem iv_X0_numberHolds : Cond.instanceMethod yX0_numberHolds ∈ GT := GT4 127 rfl rfl
theorem sl_X0_numberHolds : Cond.selects yX0_numberHolds.cls yX0_numberHolds yX0_numberHolds ∈ GT := GT4 128 rfl rfl
theorem iv_X0_sectionsHold : Cond.instanceMethod yX0_sectionsHold ∈ GT := GT4 160 rfl rfl
theorem sl_X0_sectionsHold : Cond.selects yX0_sectionsHold.cls yX0_sectionsHold yX0_sectionsHold ∈ GT := GTs 25 rfl rfl
theorem iv_X0_segmentHolds : Cond.instanceMethod yX0_segmentHolds ∈ GT := GT4 122 rfl rfl
theorem sl_X0_segmentHolds : Cond.selects yX0_segmentHolds.cls yX0_segmentHolds yX0_segmentHolds ∈ GT := GTs 22 rfl rfl
theorem iv_X0_sizeHolds : Cond.instanceMethod yX0_sizeHolds ∈ GT := GT4 112 rfl rfl
theorem sl_X0_sizeHolds : Cond.selects yX0_sizeHolds.cls yX0_sizeHolds yX0_sizeHolds ∈ GT := GTs 20 rfl rfl
theorem iv_X0_spanHolds : Cond.instanceMethod yX0_spanHolds ∈ GT := GT4 137 rfl rfl
theorem sl_X0_spanHolds : Cond.selects yX0_spanHolds.cls yX0_spanHolds yX0_spanHolds ∈ GT := GTs 24 rfl rfl
theorem iv_X0_symbolsHold : Cond.instanceMethod yX0_symbolsHold ∈ GT := GT4 177 rfl rfl
theorem sl_X0_symbolsHold : Cond.selects yX0_symbolsHold.cls yX0_symbolsHold yX0_symbolsHold ∈ GT := GTs 28 rfl rfl
theorem iv_X0_symtabHolds : Cond.instanceMethod yX0_symtabHolds ∈ GT := GT4 165 rfl rfl
theorem sl_X0_symtabHolds : Cond.selects yX0_symtabHolds.cls yX0_symtabHolds yX0_symtabHolds ∈ GT := GTs 26 rfl rfl
theorem iv_X0_u4 : Cond.instanceMethod yX0_u4 ∈ GT := GT4 97 rfl rfl
theorem sl_X0_u4 : Cond.selects yX0_u4.cls yX0_u4 yX0_u4 ∈ GT := GTs 18 rfl rfl
theorem iv_X0_u8 : Cond.instanceMethod yX0_u8 ∈ GT := GT4 132 rfl rfl
theorem sl_X0_u8 : Cond.selects yX0_u8.cls yX0_u8 yX0_u8 ∈ GT := GTs 23 rfl rfl
theorem iv_X10_addContents : Cond.instanceMethod yX10_addContents ∈ GT := GT3 228 rfl rfl
theorem sl_X10_addContents : Cond.selects yX10_addContents.cls yX10_addContents yX10_addContents ∈ GT := GTs 8 rfl rfl
theorem iv_X10_addFixups : Cond.instanceMethod yX10_addFixups ∈ GT := GT4 9 rfl rfl
theorem sl_X10_addFixups : Cond.selects yX10_addFixups.cls yX10_addFixups yX10_addFixups ∈ GT := GTs 10 rfl rfl
theorem iv_X10_addHead : Cond.instanceMethod yX10_addHead ∈ GT := GT3 178 rfl rfl
theorem sl_X10_addHead : Cond.selects yX10_addHead.cls yX10_addHead yX10_addHead ∈ GT := GTs 4 rfl rfl
theorem iv_X10_addImports : Cond.instanceMethod yX10_addImports ∈ GT := GT4 19 rfl rfl
theorem sl_X10_addImports : Cond.selects yX10_addImports.cls yX10_addImports yX10_addImports ∈ GT := GTs 12 rfl rfl
theorem iv_X10_addPages : Cond.instanceMethod yX10_addPages ∈ GT := GT4 14 rfl rfl
theorem sl_X10_addPages : Cond.selects yX10_addPages.cls yX10_addPages yX10_addPages ∈ GT := GTs 11 rfl rfl
theorem iv_X10_addSectionsOf : Cond.instanceMethod yX10_addSectionsOf ∈ GT := GT3 211 rfl rfl
theorem sl_X10_addSectionsOf : Cond.selects yX10_addSectionsOf.cls yX10_addSectionsOf yX10_addSectionsOf ∈ GT := GTs 6 rfl rfl
theorem iv_X10_addSegmentCommand : Cond.instanceMethod yX10_addSegmentCommand ∈ GT := GT3 187 rfl rfl
theorem sl_X10_addSegmentCommand : Cond.selects yX10_addSegmentCommand.cls yX10_addSegmentCommand yX10_addSegmentCommand ∈ GT := GTs 5 rfl rfl
theorem iv_X10_addStrings : Cond.instanceMethod yX10_addStrings ∈ GT := GT4 33 rfl rfl
theorem sl_X10_addStrings : Cond.selects yX10_addStrings.cls yX10_addStrings yX10_addStrings ∈ GT := GTs 14 rfl rfl
theorem iv_X10_addSymbols : Cond.instanceMethod yX10_addSymbols ∈ GT := GT4 28 rfl rfl
theorem sl_X10_addSymbols : Cond.selects yX10_addSymbols.cls yX10_addSymbols yX10_addSymbols ∈ GT := GTs 13 rfl rfl
theorem iv_X10_addTableCommands : Cond.instanceMethod yX10_addTableCommands ∈ GT := GT3 220 rfl rfl
theorem sl_X10_addTableCommands : Cond.selects yX10_addTableCommands.cls yX10_addTableCommands yX10_addTableCommands ∈ GT := GTs 7 rfl rfl
theorem iv_X10_layOut : Cond.instanceMethod yX10_layOut ∈ GT := GT3 147 rfl rfl
theorem sl_X10_layOut : Cond.selects yX10_layOut.cls yX10_layOut yX10_layOut ∈ GT := GTs 2 rfl rfl
theorem iv_X10_layOutFixups : Cond.instanceMethod yX10_layOutFixups ∈ GT := GT3 154 rfl rfl
theorem sl_X10_layOutFixups : Cond.selects yX10_layOutFixups.cls yX10_layOutFixups yX10_layOutFixups ∈ GT := GTs 3 rfl rfl
theorem iv_X10_threaded : Cond.instanceMethod yX10_threaded ∈ GT := GT4 0 rfl rfl
theorem sl_X10_threaded : Cond.selects yX10_threaded.cls yX10_threaded yX10_threaded ∈ GT := GTs 9 rfl rfl
theorem iv_X10_writeAll : Cond.instanceMethod yX10_writeAll ∈ GT := GT3 142 rfl rfl
theorem sl_X10_writeAll : Cond.selects yX10_writeAll.cls yX10_writeAll yX10_writeAll ∈ GT := GT3 143 rfl rfl
theorem iv_X11_feedNumber : Cond.instanceMethod yX11_feedNumber ∈ GT := GT2 226 rfl rfl
theorem sl_X11_feedNumber : Cond.selects yX11_feedNumber.cls yX11_feedNumber yX11_feedNumber ∈ GT := GTs 0 rfl rfl
theorem iv_X12_addressOf : Cond.instanceMethod yX12_addressOf ∈ GT := GT7 67 rfl rfl
theorem sl_X12_addressOf : Cond.selects yX12_addressOf.cls yX12_addressOf yX12_addressOf ∈ GT := GTs 56 rfl rfl
theorem iv_X12_bad : Cond.instanceMethod yX12_bad ∈ GT := GT7 132 rfl rfl
theorem sl_X12_bad : Cond.selects yX12_bad.cls yX12_bad yX12_bad ∈ GT := GTs 64 rfl rfl
theorem iv_X12_byteAt : Cond.instanceMethod yX12_byteAt ∈ GT := GT8 5 rfl rfl
theorem sl_X12_byteAt : Cond.selects yX12_byteAt.cls yX12_byteAt yX12_byteAt ∈ GT := GTs 85 rfl rfl
theorem iv_X12_come : Cond.instanceMethod yX12_come ∈ GT := GT6 200 rfl rfl
theorem sl_X12_come : Cond.selects yX12_come.cls yX12_come yX12_come ∈ GT := GTs 43 rfl rfl
theorem iv_X12_eight : Cond.instanceMethod yX12_eight ∈ GT := GT7 155 rfl rfl
theorem sl_X12_eight : Cond.selects yX12_eight.cls yX12_eight yX12_eight ∈ GT := GTs 68 rfl rfl
theorem iv_X12_even : Cond.instanceMethod yX12_even ∈ GT := GT7 46 rfl rfl
theorem sl_X12_even : Cond.selects yX12_even.cls yX12_even yX12_even ∈ GT := GTs 51 rfl rfl
theorem iv_X12_exportFor : Cond.instanceMethod yX12_exportFor ∈ GT := GT7 218 rfl rfl
theorem sl_X12_exportFor : Cond.selects yX12_exportFor.cls yX12_exportFor yX12_exportFor ∈ GT := GTs 81 rfl rfl
theorem iv_X12_fits : Cond.instanceMethod yX12_fits ∈ GT := GT7 223 rfl rfl
theorem sl_X12_fits : Cond.selects yX12_fits.cls yX12_fits yX12_fits ∈ GT := GTs 82 rfl rfl
theorem iv_X12_four : Cond.instanceMethod yX12_four ∈ GT := GT7 136 rfl rfl
theorem sl_X12_four : Cond.selects yX12_four.cls yX12_four yX12_four ∈ GT := GTs 65 rfl rfl
theorem iv_X12_gone : Cond.instanceMethod yX12_gone ∈ GT := GT7 22 rfl rfl
theorem sl_X12_gone : Cond.selects yX12_gone.cls yX12_gone yX12_gone ∈ GT := GTs 48 rfl rfl
theorem iv_X12_hasPointers : Cond.instanceMethod yX12_hasPointers ∈ GT := GT7 58 rfl rfl
theorem sl_X12_hasPointers : Cond.selects yX12_hasPointers.cls yX12_hasPointers yX12_hasPointers ∈ GT := GTs 54 rfl rfl
theorem iv_X12_holds : Cond.instanceMethod yX12_holds ∈ GT := GT8 1 rfl rfl
theorem sl_X12_holds : Cond.selects yX12_holds.cls yX12_holds yX12_holds ∈ GT := GTs 84 rfl rfl
theorem iv_X12_importOf : Cond.instanceMethod yX12_importOf ∈ GT := GT7 214 rfl rfl
theorem sl_X12_importOf : Cond.selects yX12_importOf.cls yX12_importOf yX12_importOf ∈ GT := GTs 80 rfl rfl
theorem iv_X12_isNumber : Cond.instanceMethod yX12_isNumber ∈ GT := GT7 151 rfl rfl
theorem sl_X12_isNumber : Cond.selects yX12_isNumber.cls yX12_isNumber yX12_isNumber ∈ GT := GTs 67 rfl rfl
theorem iv_X12_isSegment : Cond.instanceMethod yX12_isSegment ∈ GT := GT6 233 rfl rfl
theorem sl_X12_isSegment : Cond.selects yX12_isSegment.cls yX12_isSegment yX12_isSegment ∈ GT := GTs 45 rfl rfl
theorem iv_X12_isTaped : Cond.instanceMethod yX12_isTaped ∈ GT := GT7 120 rfl rfl
theorem sl_X12_isTaped : Cond.selects yX12_isTaped.cls yX12_isTaped yX12_isTaped ∈ GT := GTs 62 rfl rfl
theorem iv_X12_isWeakImport : Cond.instanceMethod yX12_isWeakImport ∈ GT := GT7 210 rfl rfl
theorem sl_X12_isWeakImport : Cond.selects yX12_isWeakImport.cls yX12_isWeakImport yX12_isWeakImport ∈ GT := GTs 79 rfl rfl
theorem iv_X12_isWithin : Cond.instanceMethod yX12_isWithin ∈ GT := GT7 199 rfl rfl
theorem sl_X12_isWithin : Cond.selects yX12_isWithin.cls yX12_isWithin yX12_isWithin ∈ GT := GTs 77 rfl rfl
theorem iv_X12_keeps : Cond.instanceMethod yX12_keeps ∈ GT := GT7 227 rfl rfl
theorem sl_X12_keeps : Cond.selects yX12_keeps.cls yX12_keeps yX12_keeps ∈ GT := GTs 83 rfl rfl
theorem iv_X12_longOf : Cond.instanceMethod yX12_longOf ∈ GT := GT7 72 rfl rfl
theorem sl_X12_longOf : Cond.selects yX12_longOf.cls yX12_longOf yX12_longOf ∈ GT := GTs 57 rfl rfl
theorem iv_X12_move : Cond.instanceMethod yX12_move ∈ GT := GT7 26 rfl rfl
theorem sl_X12_move : Cond.selects yX12_move.cls yX12_move yX12_move ∈ GT := GTs 49 rfl rfl
theorem iv_X12_pointerAtPlace : Cond.instanceMethod yX12_pointerAtPlace ∈ GT := GT7 18 rfl rfl
theorem sl_X12_pointerAtPlace : Cond.selects yX12_pointerAtPlace.cls yX12_pointerAtPlace yX12_pointerAtPlace ∈ GT := GTs 47 rfl rfl
theorem iv_X12_points : Cond.instanceMethod yX12_points ∈ GT := GT7 14 rfl rfl
theorem sl_X12_points : Cond.selects yX12_points.cls yX12_points yX12_points ∈ GT := GTs 46 rfl rfl
theorem iv_X12_put : Cond.instanceMethod yX12_put ∈ GT := GT7 50 rfl rfl
theorem sl_X12_put : Cond.selects yX12_put.cls yX12_put yX12_put ∈ GT := GTs 52 rfl rfl
theorem iv_X12_putFours : Cond.instanceMethod yX12_putFours ∈ GT := GT7 81 rfl rfl
theorem sl_X12_putFours : Cond.selects yX12_putFours.cls yX12_putFours yX12_putFours ∈ GT := GTs 59 rfl rfl
theorem iv_X12_putName : Cond.instanceMethod yX12_putName ∈ GT := GT7 76 rfl rfl
theorem sl_X12_putName : Cond.selects yX12_putName.cls yX12_putName yX12_putName ∈ GT := GTs 58 rfl rfl
theorem iv_X12_readChains : Cond.instanceMethod yX12_readChains ∈ GT := GT7 168 rfl rfl
theorem sl_X12_readChains : Cond.selects yX12_readChains.cls yX12_readChains yX12_readChains ∈ GT := GTs 70 rfl rfl
theorem iv_X12_readSegment : Cond.instanceMethod yX12_readSegment ∈ GT := GT7 144 rfl rfl
theorem sl_X12_readSegment : Cond.selects yX12_readSegment.cls yX12_readSegment yX12_readSegment ∈ GT := GTs 66 rfl rfl
theorem iv_X12_readTable : Cond.instanceMethod yX12_readTable ∈ GT := GT7 163 rfl rfl
theorem sl_X12_readTable : Cond.selects yX12_readTable.cls yX12_readTable yX12_readTable ∈ GT := GTs 69 rfl rfl
theorem iv_X12_reads : Cond.instanceMethod yX12_reads ∈ GT := GT7 128 rfl rfl
theorem sl_X12_reads : Cond.selects yX12_reads.cls yX12_reads yX12_reads ∈ GT := GTs 63 rfl rfl
theorem iv_X12_readsFixups : Cond.instanceMethod yX12_readsFixups ∈ GT := GT7 182 rfl rfl
theorem sl_X12_readsFixups : Cond.selects yX12_readsFixups.cls yX12_readsFixups yX12_readsFixups ∈ GT := GTs 73 rfl rfl
theorem iv_X12_readsPages : Cond.instanceMethod yX12_readsPages ∈ GT := GT7 186 rfl rfl
theorem sl_X12_readsPages : Cond.selects yX12_readsPages.cls yX12_readsPages yX12_readsPages ∈ GT := GTs 74 rfl rfl
theorem iv_X12_readsSymbols : Cond.instanceMethod yX12_readsSymbols ∈ GT := GT7 173 rfl rfl
theorem sl_X12_readsSymbols : Cond.selects yX12_readsSymbols.cls yX12_readsSymbols yX12_readsSymbols ∈ GT := GTs 71 rfl rfl
theorem iv_X12_sectionsOf : Cond.instanceMethod yX12_sectionsOf ∈ GT := GT7 42 rfl rfl
theorem sl_X12_sectionsOf : Cond.selects yX12_sectionsOf.cls yX12_sectionsOf yX12_sectionsOf ∈ GT := GTs 50 rfl rfl
theorem iv_X12_spanOf : Cond.instanceMethod yX12_spanOf ∈ GT := GT7 62 rfl rfl
theorem sl_X12_spanOf : Cond.selects yX12_spanOf.cls yX12_spanOf yX12_spanOf ∈ GT := GTs 55 rfl rfl
theorem iv_X12_takes : Cond.instanceMethod yX12_takes ∈ GT := GT6 225 rfl rfl
theorem sl_X12_takes : Cond.selects yX12_takes.cls yX12_takes yX12_takes ∈ GT := GTs 44 rfl rfl
theorem iv_X12_two : Cond.instanceMethod yX12_two ∈ GT := GT7 191 rfl rfl
theorem sl_X12_two : Cond.selects yX12_two.cls yX12_two yX12_two ∈ GT := GTs 75 rfl rfl
theorem iv_X12_walks : Cond.instanceMethod yX12_walks ∈ GT := GT7 195 rfl rfl
theorem sl_X12_walks : Cond.selects yX12_walks.cls yX12_walks yX12_walks ∈ GT := GTs 76 rfl rfl
theorem iv_X12_wordOf : Cond.instanceMethod yX12_wordOf ∈ GT := GT7 203 rfl rfl
theorem sl_X12_wordOf : Cond.selects yX12_wordOf.cls yX12_wordOf yX12_wordOf ∈ GT := GTs 78 rfl rfl
theorem iv_X12_writeCommands : Cond.instanceMethod yX12_writeCommands ∈ GT := GT7 91 rfl rfl
theorem sl_X12_writeCommands : Cond.selects yX12_writeCommands.cls yX12_writeCommands yX12_writeCommands ∈ GT := GTs 61 rfl rfl
theorem iv_X12_writeFixups : Cond.instanceMethod yX12_writeFixups ∈ GT := GT7 54 rfl rfl
theorem sl_X12_writeFixups : Cond.selects yX12_writeFixups.cls yX12_writeFixups yX12_writeFixups ∈ GT := GTs 53 rfl rfl
theorem iv_X12_writePointers : Cond.instanceMethod yX12_writePointers ∈ GT := GT7 86 rfl rfl
theorem sl_X12_writePointers : Cond.selects yX12_writePointers.cls yX12_writePointers yX12_writePointers ∈ GT := GTs 60 rfl rfl
theorem iv_X12_zero : Cond.instanceMethod yX12_zero ∈ GT := GT7 177 rfl rfl
theorem sl_X12_zero : Cond.selects yX12_zero.cls yX12_zero yX12_zero ∈ GT := GTs 72 rfl rfl
theorem iv_X1_addressOf : Cond.instanceMethod yX1_addressOf ∈ GT := GT4 220 rfl rfl
theorem sl_X1_addressOf : Cond.selects yX1_addressOf.cls yX1_addressOf yX1_addressOf ∈ GT := GT4 221 rfl rfl
theorem iv_X1_indexOf : Cond.instanceMethod yX1_indexOf ∈ GT := GT4 62 rfl rfl
theorem sl_X1_indexOf : Cond.selects yX1_indexOf.cls yX1_indexOf yX1_indexOf ∈ GT := GTs 15 rfl rfl
theorem iv_X1_put : Cond.instanceMethod yX1_put ∈ GT := GT4 55 rfl rfl
theorem sl_X1_put : Cond.selects yX1_put.cls yX1_put yX1_put ∈ GT := GT4 56 rfl rfl
theorem iv_X2_clear : Cond.instanceMethod yX2_clear ∈ GT := GT1 228 rfl rfl
theorem sl_X2_clear : Cond.selects yX2_clear.cls yX2_clear yX2_clear ∈ GT := GT1 229 rfl rfl
theorem iv_X2_unless : Cond.instanceMethod yX2_unless ∈ GT := GT4 92 rfl rfl
theorem sl_X2_unless : Cond.selects yX2_unless.cls yX2_unless yX2_unless ∈ GT := GT4 93 rfl rfl
theorem iv_X3_allChainsHold : Cond.instanceMethod yX3_allChainsHold ∈ GT := GT5 1 rfl rfl
theorem sl_X3_allChainsHold : Cond.selects yX3_allChainsHold.cls yX3_allChainsHold yX3_allChainsHold ∈ GT := GTs 37 rfl rfl
theorem iv_X3_allPagesHold : Cond.instanceMethod yX3_allPagesHold ∈ GT := GT4 225 rfl rfl
theorem sl_X3_allPagesHold : Cond.selects yX3_allPagesHold.cls yX3_allPagesHold yX3_allPagesHold ∈ GT := GTs 34 rfl rfl
theorem iv_X3_chainHolds : Cond.instanceMethod yX3_chainHolds ∈ GT := GT5 11 rfl rfl
theorem sl_X3_chainHolds : Cond.selects yX3_chainHolds.cls yX3_chainHolds yX3_chainHolds ∈ GT := GTs 39 rfl rfl
theorem iv_X3_chainsOfHold : Cond.instanceMethod yX3_chainsOfHold ∈ GT := GT5 5 rfl rfl
theorem sl_X3_chainsOfHold : Cond.selects yX3_chainsOfHold.cls yX3_chainsOfHold yX3_chainsOfHold ∈ GT := GTs 38 rfl rfl
theorem iv_X3_headHolds : Cond.instanceMethod yX3_headHolds ∈ GT := GT4 194 rfl rfl
theorem sl_X3_headHolds : Cond.selects yX3_headHolds.cls yX3_headHolds yX3_headHolds ∈ GT := GTs 29 rfl rfl
theorem iv_X3_hold : Cond.instanceMethod yX3_hold ∈ GT := GT4 185 rfl rfl
theorem sl_X3_hold : Cond.selects yX3_hold.cls yX3_hold yX3_hold ∈ GT := GT4 186 rfl rfl
theorem iv_X3_importsHold : Cond.instanceMethod yX3_importsHold ∈ GT := GT4 213 rfl rfl
theorem sl_X3_importsHold : Cond.selects yX3_importsHold.cls yX3_importsHold yX3_importsHold ∈ GT := GTs 33 rfl rfl
theorem iv_X3_needs : Cond.instanceMethod yX3_needs ∈ GT := GT4 203 rfl rfl
theorem sl_X3_needs : Cond.selects yX3_needs.cls yX3_needs yX3_needs ∈ GT := GTs 31 rfl rfl
theorem iv_X3_pagesHold : Cond.instanceMethod yX3_pagesHold ∈ GT := GT4 230 rfl rfl
theorem sl_X3_pagesHold : Cond.selects yX3_pagesHold.cls yX3_pagesHold yX3_pagesHold ∈ GT := GTs 35 rfl rfl
theorem iv_X3_pointerHolds : Cond.instanceMethod yX3_pointerHolds ∈ GT := GT5 23 rfl rfl
theorem sl_X3_pointerHolds : Cond.selects yX3_pointerHolds.cls yX3_pointerHolds yX3_pointerHolds ∈ GT := GTs 40 rfl rfl
theorem iv_X3_startsHold : Cond.instanceMethod yX3_startsHold ∈ GT := GT4 208 rfl rfl
theorem sl_X3_startsHold : Cond.selects yX3_startsHold.cls yX3_startsHold yX3_startsHold ∈ GT := GTs 32 rfl rfl
theorem iv_X3_u2 : Cond.instanceMethod yX3_u2 ∈ GT := GT4 234 rfl rfl
theorem sl_X3_u2 : Cond.selects yX3_u2.cls yX3_u2 yX3_u2 ∈ GT := GTs 36 rfl rfl
theorem iv_X3_u4 : Cond.instanceMethod yX3_u4 ∈ GT := GT4 198 rfl rfl
theorem sl_X3_u4 : Cond.selects yX3_u4.cls yX3_u4 yX3_u4 ∈ GT := GTs 30 rfl rfl
theorem iv_X3_valueOf : Cond.instanceMethod yX3_valueOf ∈ GT := GT5 66 rfl rfl
theorem sl_X3_valueOf : Cond.selects yX3_valueOf.cls yX3_valueOf yX3_valueOf ∈ GT := GT5 67 rfl rfl
theorem iv_X4_setPointers : Cond.instanceMethod yX4_setPointers ∈ GT := GT5 56 rfl rfl
theorem sl_X4_setPointers : Cond.selects yX4_setPointers.cls yX4_setPointers yX4_setPointers ∈ GT := GT5 57 rfl rfl
theorem iv_X4_symbolAddress : Cond.instanceMethod yX4_symbolAddress ∈ GT := GT5 95 rfl rfl
theorem sl_X4_symbolAddress : Cond.selects yX4_symbolAddress.cls yX4_symbolAddress yX4_symbolAddress ∈ GT := GT5 96 rfl rfl
theorem iv_X4_take : Cond.instanceMethod yX4_take ∈ GT := GT5 42 rfl rfl
theorem sl_X4_take : Cond.selects yX4_take.cls yX4_take yX4_take ∈ GT := GT5 43 rfl rfl
theorem iv_X4_takeSegments : Cond.instanceMethod yX4_takeSegments ∈ GT := GT5 47 rfl rfl
theorem sl_X4_takeSegments : Cond.selects yX4_takeSegments.cls yX4_takeSegments yX4_takeSegments ∈ GT := GTs 41 rfl rfl
theorem iv_X5_add : Cond.instanceMethod yX5_add ∈ GT := GT3 41 rfl rfl
theorem sl_X5_add : Cond.selects yX5_add.cls yX5_add yX5_add ∈ GT := GT3 42 rfl rfl
theorem iv_X5_addAllTo : Cond.instanceMethod yX5_addAllTo ∈ GT := GT4 22 rfl rfl
theorem sl_X5_addAllTo : Cond.selects yX5_addAllTo.cls yX5_addAllTo yX5_addAllTo ∈ GT := GT4 23 rfl rfl
theorem iv_X5_addFilledTo : Cond.instanceMethod yX5_addFilledTo ∈ GT := GT3 195 rfl rfl
theorem sl_X5_addFilledTo : Cond.selects yX5_addFilledTo.cls yX5_addFilledTo yX5_addFilledTo ∈ GT := GT3 196 rfl rfl
theorem iv_X5_bytesWithZeros : Cond.instanceMethod yX5_bytesWithZeros ∈ GT := GT3 172 rfl rfl
theorem sl_X5_bytesWithZeros : Cond.selects yX5_bytesWithZeros.cls yX5_bytesWithZeros yX5_bytesWithZeros ∈ GT := GT3 173 rfl rfl
theorem iv_X5_clear : Cond.instanceMethod yX5_clear ∈ GT := GT3 21 rfl rfl
theorem sl_X5_clear : Cond.selects yX5_clear.cls yX5_clear yX5_clear ∈ GT := GT3 22 rfl rfl
theorem iv_X5_has : Cond.instanceMethod yX5_has ∈ GT := GT3 67 rfl rfl
theorem sl_X5_has : Cond.selects yX5_has.cls yX5_has yX5_has ∈ GT := GT3 68 rfl rfl
theorem iv_X5_takes : Cond.instanceMethod yX5_takes ∈ GT := GT3 33 rfl rfl
theorem sl_X5_takes : Cond.selects yX5_takes.cls yX5_takes yX5_takes ∈ GT := GT3 34 rfl rfl
theorem iv_X6_add : Cond.instanceMethod yX6_add ∈ GT := GT2 229 rfl rfl
theorem sl_X6_add : Cond.selects yX6_add.cls yX6_add yX6_add ∈ GT := GT2 230 rfl rfl
theorem iv_X6_addFrom : Cond.instanceMethod yX6_addFrom ∈ GT := GT3 199 rfl rfl
theorem sl_X6_addFrom : Cond.selects yX6_addFrom.cls yX6_addFrom yX6_addFrom ∈ GT := GT3 200 rfl rfl
theorem iv_X6_addZeros : Cond.instanceMethod yX6_addZeros ∈ GT := GT3 214 rfl rfl
theorem sl_X6_addZeros : Cond.selects yX6_addZeros.cls yX6_addZeros yX6_addZeros ∈ GT := GT3 215 rfl rfl
theorem iv_X6_at : Cond.instanceMethod yX6_at ∈ GT := GT3 45 rfl rfl
theorem sl_X6_at : Cond.selects yX6_at.cls yX6_at yX6_at ∈ GT := GT3 46 rfl rfl
theorem iv_X6_clear : Cond.instanceMethod yX6_clear ∈ GT := GT3 55 rfl rfl
theorem sl_X6_clear : Cond.selects yX6_clear.cls yX6_clear yX6_clear ∈ GT := GT3 56 rfl rfl
theorem iv_X6_fillUp : Cond.instanceMethod yX6_fillUp ∈ GT := GT3 231 rfl rfl
theorem sl_X6_fillUp : Cond.selects yX6_fillUp.cls yX6_fillUp yX6_fillUp ∈ GT := GT3 232 rfl rfl
theorem iv_X6_has : Cond.instanceMethod yX6_has ∈ GT := GT2 237 rfl rfl
theorem sl_X6_has : Cond.selects yX6_has.cls yX6_has yX6_has ∈ GT := GT2 238 rfl rfl
theorem iv_X6_isName : Cond.instanceMethod yX6_isName ∈ GT := GT3 37 rfl rfl
theorem sl_X6_isName : Cond.selects yX6_isName.cls yX6_isName yX6_isName ∈ GT := GT3 38 rfl rfl
theorem iv_X6_lastZero : Cond.instanceMethod yX6_lastZero ∈ GT := GT4 180 rfl rfl
theorem sl_X6_lastZero : Cond.selects yX6_lastZero.cls yX6_lastZero yX6_lastZero ∈ GT := GT4 181 rfl rfl
theorem iv_X6_number : Cond.instanceMethod yX6_number ∈ GT := GT4 100 rfl rfl
theorem sl_X6_number : Cond.selects yX6_number.cls yX6_number yX6_number ∈ GT := GT4 101 rfl rfl
theorem iv_X6_put : Cond.instanceMethod yX6_put ∈ GT := GT2 233 rfl rfl
theorem sl_X6_put : Cond.selects yX6_put.cls yX6_put yX6_put ∈ GT := GT2 234 rfl rfl
theorem iv_X6_reads : Cond.instanceMethod yX6_reads ∈ GT := GT4 65 rfl rfl
theorem sl_X6_reads : Cond.selects yX6_reads.cls yX6_reads yX6_reads ∈ GT := GT4 66 rfl rfl
theorem iv_X6_shorten : Cond.instanceMethod yX6_shorten ∈ GT := GT3 5 rfl rfl
theorem sl_X6_shorten : Cond.selects yX6_shorten.cls yX6_shorten yX6_shorten ∈ GT := GT3 6 rfl rfl
theorem iv_X7_add : Cond.instanceMethod yX7_add ∈ GT := GT4 155 rfl rfl
theorem sl_X7_add : Cond.selects yX7_add.cls yX7_add yX7_add ∈ GT := GT4 156 rfl rfl
theorem iv_X7_clear : Cond.instanceMethod yX7_clear ∈ GT := GT4 84 rfl rfl
theorem sl_X7_clear : Cond.selects yX7_clear.cls yX7_clear yX7_clear ∈ GT := GT4 85 rfl rfl
theorem iv_X7_fitWith : Cond.instanceMethod yX7_fitWith ∈ GT := GT5 36 rfl rfl
theorem sl_X7_fitWith : Cond.selects yX7_fitWith.cls yX7_fitWith yX7_fitWith ∈ GT := GT5 37 rfl rfl
theorem iv_X7_placeOf : Cond.instanceMethod yX7_placeOf ∈ GT := GT5 62 rfl rfl
theorem sl_X7_placeOf : Cond.selects yX7_placeOf.cls yX7_placeOf yX7_placeOf ∈ GT := GT5 63 rfl rfl
theorem iv_X7_pointerBits : Cond.instanceMethod yX7_pointerBits ∈ GT := GT5 14 rfl rfl
theorem sl_X7_pointerBits : Cond.selects yX7_pointerBits.cls yX7_pointerBits yX7_pointerBits ∈ GT := GT5 15 rfl rfl
theorem iv_X7_shareByte : Cond.instanceMethod yX7_shareByte ∈ GT := GT4 145 rfl rfl
theorem sl_X7_shareByte : Cond.selects yX7_shareByte.cls yX7_shareByte yX7_shareByte ∈ GT := GT4 146 rfl rfl
theorem iv_X7_spanOfAll : Cond.instanceMethod yX7_spanOfAll ∈ GT := GT4 140 rfl rfl
theorem sl_X7_spanOfAll : Cond.selects yX7_spanOfAll.cls yX7_spanOfAll yX7_spanOfAll ∈ GT := GT4 141 rfl rfl
theorem iv_X8_addImport : Cond.instanceMethod yX8_addImport ∈ GT := GT3 94 rfl rfl
theorem sl_X8_addImport : Cond.selects yX8_addImport.cls yX8_addImport yX8_addImport ∈ GT := GT3 95 rfl rfl
theorem iv_X8_addSection : Cond.instanceMethod yX8_addSection ∈ GT := GT3 78 rfl rfl
theorem sl_X8_addSection : Cond.selects yX8_addSection.cls yX8_addSection yX8_addSection ∈ GT := GT3 79 rfl rfl
theorem iv_X8_addSegment : Cond.instanceMethod yX8_addSegment ∈ GT := GT3 29 rfl rfl
theorem sl_X8_addSegment : Cond.selects yX8_addSegment.cls yX8_addSegment yX8_addSegment ∈ GT := GT3 30 rfl rfl
theorem iv_X8_addSymbol : Cond.instanceMethod yX8_addSymbol ∈ GT := GT3 86 rfl rfl
theorem sl_X8_addSymbol : Cond.selects yX8_addSymbol.cls yX8_addSymbol yX8_addSymbol ∈ GT := GT3 87 rfl rfl
theorem iv_X8_addressOf : Cond.instanceMethod yX8_addressOf ∈ GT := GT3 204 rfl rfl
theorem sl_X8_addressOf : Cond.selects yX8_addressOf.cls yX8_addressOf yX8_addressOf ∈ GT := GT3 205 rfl rfl
theorem iv_X8_bitsAt : Cond.instanceMethod yX8_bitsAt ∈ GT := GT4 3 rfl rfl
theorem sl_X8_bitsAt : Cond.selects yX8_bitsAt.cls yX8_bitsAt yX8_bitsAt ∈ GT := GT4 4 rfl rfl
theorem iv_X8_firstPointer : Cond.instanceMethod yX8_firstPointer ∈ GT := GT3 157 rfl rfl
theorem sl_X8_firstPointer : Cond.selects yX8_firstPointer.cls yX8_firstPointer yX8_firstPointer ∈ GT := GT3 158 rfl rfl
theorem iv_X8_forget : Cond.instanceMethod yX8_forget ∈ GT := GT3 17 rfl rfl
theorem sl_X8_forget : Cond.selects yX8_forget.cls yX8_forget yX8_forget ∈ GT := GT3 18 rfl rfl
theorem iv_X8_hasPointer : Cond.instanceMethod yX8_hasPointer ∈ GT := GT3 117 rfl rfl
theorem sl_X8_hasPointer : Cond.selects yX8_hasPointer.cls yX8_hasPointer yX8_hasPointer ∈ GT := GT3 118 rfl rfl
theorem iv_X8_hasRoom : Cond.instanceMethod yX8_hasRoom ∈ GT := GT3 114 rfl rfl
theorem sl_X8_hasRoom : Cond.selects yX8_hasRoom.cls yX8_hasRoom yX8_hasRoom ∈ GT := GTs 1 rfl rfl
theorem iv_X8_removePointer : Cond.instanceMethod yX8_removePointer ∈ GT := GT3 134 rfl rfl
theorem sl_X8_removePointer : Cond.selects yX8_removePointer.cls yX8_removePointer yX8_removePointer ∈ GT := GT3 135 rfl rfl
theorem iv_X8_sectionsOf : Cond.instanceMethod yX8_sectionsOf ∈ GT := GT3 190 rfl rfl
theorem sl_X8_sectionsOf : Cond.selects yX8_sectionsOf.cls yX8_sectionsOf yX8_sectionsOf ∈ GT := GT3 191 rfl rfl
theorem iv_X8_setContents : Cond.instanceMethod yX8_setContents ∈ GT := GT3 63 rfl rfl
theorem sl_X8_setContents : Cond.selects yX8_setContents.cls yX8_setContents yX8_setContents ∈ GT := GT3 64 rfl rfl
theorem iv_X8_setPointer : Cond.instanceMethod yX8_setPointer ∈ GT := GT3 109 rfl rfl
theorem sl_X8_setPointer : Cond.selects yX8_setPointer.cls yX8_setPointer yX8_setPointer ∈ GT := GT3 110 rfl rfl
theorem iv_X8_spanOf : Cond.instanceMethod yX8_spanOf ∈ GT := GT3 164 rfl rfl
theorem sl_X8_spanOf : Cond.selects yX8_spanOf.cls yX8_spanOf yX8_spanOf ∈ GT := GT3 165 rfl rfl
theorem iv_X9_add : Cond.instanceMethod yX9_add ∈ GT := GT5 32 rfl rfl
theorem sl_X9_add : Cond.selects yX9_add.cls yX9_add yX9_add ∈ GT := GT5 33 rfl rfl
theorem iv_X9_clear : Cond.instanceMethod yX9_clear ∈ GT := GT4 189 rfl rfl
theorem sl_X9_clear : Cond.selects yX9_clear.cls yX9_clear yX9_clear ∈ GT := GT4 190 rfl rfl
theorem fl_RX11_14 : Cond.fieldLink RX11 14 (TX11 0).1 (TX11 0).2.1 (TX11 0).2.2.1 ∈ GT := GT2 192 rfl rfl
theorem gf_RX11_14 {p : Program} {l : Launch} {e : Env} {R : Room} {s : State} {m : MethodId} {args : Array Value} {below : List Frame} {meth : Method} {c : Code} {H : Heap} {locs : List Loc} {cells slots : Nat} {Q : State → Prop} {D : va_G} {h : Nat → Nat} {cy : Nat → ClassId} {σ : St} {cc : ByteArray} {nL pc : Nat} {ls : Array Slot} {rest : List Value} (X : Cx p s m args c D h cy RX11 cc nL) (Z : Zt D h cy s σ H locs) (hdg : decode cc pc = .ok (.getfield 14, 3)) (kk : W p l e R s m args below meth c H locs cells slots Q (F0 m (pc + 3) ls (.ref (h 1) :: rest))) : W p l e R s m args below meth c H locs cells slots Q (F0 m pc ls (.ref (h 0) :: rest)) :=
  x_get (T := TX11) X Z sh_0 ing11 rfl 0 (by decide) fl_RX11_14 rfl rfl hdg kk
theorem fl_RX11_18 : Cond.fieldLink RX11 18 (TX11 1).1 (TX11 1).2.1 (TX11 1).2.2.1 ∈ GT := GT2 193 rfl rfl
theorem gf_RX11_18 {p : Program} {l : Launch} {e : Env} {R : Room} {s : State} {m : MethodId} {args : Array Value} {below : List Frame} {meth : Method} {c : Code} {H : Heap} {locs : List Loc} {cells slots : Nat} {Q : State → Prop} {D : va_G} {h : Nat → Nat} {cy : Nat → ClassId} {σ : St} {cc : ByteArray} {nL pc : Nat} {ls : Array Slot} {rest : List Value} (X : Cx p s m args c D h cy RX11 cc nL) (Z : Zt D h cy s σ H locs) (hdg : decode cc pc = .ok (.getfield 18, 3)) (kk : W p l e R s m args below meth c H locs cells slots Q (F0 m (pc + 3) ls (.ref (h 3) :: rest))) : W p l e R s m args below meth c H locs cells slots Q (F0 m pc ls (.ref (h 0) :: rest)) :=
  x_get (T := TX11) X Z sh_0 ing11 rfl 1 (by decide) fl_RX11_18 rfl rfl hdg kk
theorem fl_RX11_24 : Cond.fieldLink RX11 24 (TX11 2).1 (TX11 2).2.1 (TX11 2).2.2.1 ∈ GT := GT2 194 rfl rfl
theorem gf_RX11_24 {p : Program} {l : Launch} {e : Env} {R : Room} {s : State} {m : MethodId} {args : Array Value} {below : List Frame} {meth : Method} {c : Code} {H : Heap} {locs : List Loc} {cells slots : Nat} {Q : State → Prop} {D : va_G} {h : Nat → Nat} {cy : Nat → ClassId} {σ : St} {cc : ByteArray} {nL pc : Nat} {ls : Array Slot} {rest : List Value} (X : Cx p s m args c D h cy RX11 cc nL) (Z : Zt D h cy s σ H locs) (hdg : decode cc pc = .ok (.getfield 24, 3)) (kk : W p l e R s m args below meth c H locs cells slots Q (F0 m (pc + 3) ls (.ref (h 5) :: rest))) : W p l e R s m args below meth c H locs cells slots Q (F0 m pc ls (.ref (h 0) :: rest)) :=
  x_get (T := TX11) X Z sh_0 ing11 rfl 2 (by decide) fl_RX11_24 rfl rfl hdg kk
theorem fl_RX11_33 : Cond.fieldLink RX11 33 (TX11 3).1 (TX11 3).2.1 (TX11 3).2.2.1 ∈ GT := GT2 195 rfl rfl
theorem gf_RX11_33 {p : Program} {l : Launch} {e : Env} {R : Room} {s : State} {m : MethodId} {args : Array Value} {below : List Frame} {meth : Method} {c : Code} {H : Heap} {locs : List Loc} {cells slots : Nat} {Q : State → Prop} {D : va_G} {h : Nat → Nat} {cy : Nat → ClassId} {σ : St} {cc : ByteArray} {nL pc : Nat} {ls : Array Slot} {rest : List Value} (X : Cx p s m args c D h cy RX11 cc nL) (Z : Zt D h cy s σ H locs) (hdg : decode cc pc = .ok (.getfield 33, 3)) (kk : W p l e R s m args below meth c H locs cells slots Q (F0 m (pc + 3) ls (.ref (h 30) :: rest))) : W p l e R s m args below meth c H locs cells slots Q (F0 m pc ls (.ref (h 0) :: rest)) :=
  x_get (T := TX11) X Z sh_0 ing11 rfl 3 (by decide) fl_RX11_33 rfl rfl hdg kk
theorem fl_RX11_40 : Cond.fieldLink RX11 40 (TX11 4).1 (TX11 4).2.1 (TX11 4).2.2.1 ∈ GT := GT2 196 rfl rfl
theorem gf_RX11_40 {p : Program} {l : Launch} {e : Env} {R : Room} {s : State} {m : MethodId} {args : Array Value} {below : List Frame} {meth : Method} {c : Code} {H : Heap} {locs : List Loc} {cells slots : Nat} {Q : State → Prop} {D : va_G} {h : Nat → Nat} {cy : Nat → ClassId} {σ : St} {cc : ByteArray} {nL pc : Nat} {ls : Array Slot} {rest : List Value} (X : Cx p s m args c D h cy RX11 cc nL) (Z : Zt D h cy s σ H locs) (hdg : decode cc pc = .ok (.getfield 40, 3)) (kk : W p l e R s m args below meth c H locs cells slots Q (F0 m (pc + 3) ls (.ref (h 33) :: rest))) : W p l e R s m args below meth c H locs cells slots Q (F0 m pc ls (.ref (h 0) :: rest)) :=
  x_get (T := TX11) X Z sh_0 ing11 rfl 4 (by decide) fl_RX11_40 rfl rfl hdg kk
theorem fl_RX11_47 : Cond.fieldLink RX11 47 (TX11 5).1 (TX11 5).2.1 (TX11 5).2.2.1 ∈ GT := GT2 197 rfl rfl
theorem gf_RX11_47 {p : Program} {l : Launch} {e : Env} {R : Room} {s : State} {m : MethodId} {args : Array Value} {below : List Frame} {meth : Method} {c : Code} {H : Heap} {locs : List Loc} {cells slots : Nat} {Q : State → Prop} {D : va_G} {h : Nat → Nat} {cy : Nat → ClassId} {σ : St} {cc : ByteArray} {nL pc : Nat} {ls : Array Slot} {rest : List Value} (X : Cx p s m args c D h cy RX11 cc nL) (Z : Zt D h cy s σ H locs) (hdg : decode cc pc = .ok (.getfield 47, 3)) (kk : W p l e R s m args below meth c H locs cells slots Q (F0 m (pc + 3) ls (.ref (h 39) :: rest))) : W p l e R s m args below meth c H locs cells slots Q (F0 m pc ls (.ref (h 0) :: rest)) :=
  x_get (T := TX11) X Z sh_0 ing11 rfl 5 (by decide) fl_RX11_47 rfl rfl hdg kk
theorem fl_RX11_56 : Cond.fieldLink RX11 56 (TX11 6).1 (TX11 6).2.1 (TX11 6).2.2.1 ∈ GT := GT2 198 rfl rfl
theorem gf_RX11_56 {p : Program} {l : Launch} {e : Env} {R : Room} {s : State} {m : MethodId} {args : Array Value} {below : List Frame} {meth : Method} {c : Code} {H : Heap} {locs : List Loc} {cells slots : Nat} {Q : State → Prop} {D : va_G} {h : Nat → Nat} {cy : Nat → ClassId} {σ : St} {cc : ByteArray} {nL pc : Nat} {ls : Array Slot} {rest : List Value} (X : Cx p s m args c D h cy RX11 cc nL) (Z : Zt D h cy s σ H locs) (hdg : decode cc pc = .ok (.getfield 56, 3)) (kk : W p l e R s m args below meth c H locs cells slots Q (F0 m (pc + 3) ls (.ref (h 40) :: rest))) : W p l e R s m args below meth c H locs cells slots Q (F0 m pc ls (.ref (h 0) :: rest)) :=
  x_get (T := TX11) X Z sh_0 ing11 rfl 6 (by decide) fl_RX11_56 rfl rfl hdg kk
theorem fl_RX11_65 : Cond.fieldLink RX11 65 (TX11 7).1 (TX11 7).2.1 (TX11 7).2.2.1 ∈ GT := GT2 199 rfl rfl
theorem gf_RX11_65 {p : Program} {l : Launch} {e : Env} {R : Room} {s : State} {m : MethodId} {args : Array Value} {below : List Frame} {meth : Method} {c : Code} {H : Heap} {locs : List Loc} {cells slots : Nat} {Q : State → Prop} {D : va_G} {h : Nat → Nat} {cy : Nat → ClassId} {σ : St} {cc : ByteArray} {nL pc : Nat} {ls : Array Slot} {rest : List Value} (X : Cx p s m args c D h cy RX11 cc nL) (Z : Zt D h cy s σ H locs) (hdg : decode cc pc = .ok (.getfield 65, 3)) (kk : W p l e R s m args below meth c H locs cells slots Q (F0 m (pc + 3) ls (.ref (h 46) :: rest))) : W p l e R s m args below meth c H locs cells slots Q (F0 m pc ls (.ref (h 0) :: rest)) :=
  x_get (T := TX11) X Z sh_0 ing11 rfl 7 (by decide) fl_RX11_65 rfl rfl hdg kk
theorem fl_RX11_72 : Cond.fieldLink RX11 72 (TX11 8).1 (TX11 8).2.1 (TX11 8).2.2.1 ∈ GT := GT2 200 rfl rfl
theorem gf_RX11_72 {p : Program} {l : Launch} {e : Env} {R : Room} {s : State} {m : MethodId} {args : Array Value} {below : List Frame} {meth : Method} {c : Code} {H : Heap} {locs : List Loc} {cells slots : Nat} {Q : State → Prop} {D : va_G} {h : Nat → Nat} {cy : Nat → ClassId} {σ : St} {cc : ByteArray} {nL pc : Nat} {ls : Array Slot} {rest : List Value} (X : Cx p s m args c D h cy RX11 cc nL) (Z : Zt D h cy s σ H locs) (hdg : decode cc pc = .ok (.getfield 72, 3)) (kk : W p l e R s m args below meth c H locs cells slots Q (F0 m (pc + 3) ls (.ref (h 53) :: rest))) : W p l e R s m args below meth c H locs cells slots Q (F0 m pc ls (.ref (h 0) :: rest)) :=
  x_get (T := TX11) X Z sh_0 ing11 rfl 8 (by decide) fl_RX11_72 rfl rfl hdg kk
theorem fl_RX11_76 : Cond.fieldLink RX11 76 (TX6 1).1 (TX6 1).2.1 (TX6 1).2.2.1 ∈ GT := GT1 39 rfl rfl
theorem gf_RX11_76 {p : Program} {l : Launch} {e : Env} {R : Room} {s : State} {m : MethodId} {args : Array Value} {below : List Frame} {meth : Method} {c : Code} {H : Heap} {locs : List Loc} {cells slots : Nat} {Q : State → Prop} {D : va_G} {h : Nat → Nat} {cy : Nat → ClassId} {σ : St} {cc : ByteArray} {nL pc : Nat} {ls : Array Slot} {rest : List Value} (X : Cx p s m args c D h cy RX11 cc nL) (Z : Zt D h cy s σ H locs) {k n : Nat} (hk : RowS k n) (hdg : decode cc pc = .ok (.getfield 76, 3)) (kk : W p l e R s m args below meth c H locs cells slots Q (F0 m (pc + 3) ls (.int (σ.1 k 1) :: rest))) : W p l e R s m args below meth c H locs cells slots Q (F0 m pc ls (.ref (h k) :: rest)) :=
  x_get (T := TX6) X Z hk.1 ing6 rfl 1 (by decide) fl_RX11_76 rfl rfl hdg kk
theorem fl_RX11_130 : Cond.fieldLink RX11 130 (TX8 13).1 (TX8 13).2.1 (TX8 13).2.2.1 ∈ GT := GT1 112 rfl rfl
theorem gf_RX11_130 {p : Program} {l : Launch} {e : Env} {R : Room} {s : State} {m : MethodId} {args : Array Value} {below : List Frame} {meth : Method} {c : Code} {H : Heap} {locs : List Loc} {cells slots : Nat} {Q : State → Prop} {D : va_G} {h : Nat → Nat} {cy : Nat → ClassId} {σ : St} {cc : ByteArray} {nL pc : Nat} {ls : Array Slot} {rest : List Value} (X : Cx p s m args c D h cy RX11 cc nL) (Z : Zt D h cy s σ H locs) (hdg : decode cc pc = .ok (.getfield 130, 3)) (kk : W p l e R s m args below meth c H locs cells slots Q (F0 m (pc + 3) ls (.ref (h 23) :: rest))) : W p l e R s m args below meth c H locs cells slots Q (F0 m pc ls (.ref (h 5) :: rest)) :=
  x_get (T := TX8) X Z sh_5 ing8 rfl 13 (by decide) fl_RX11_130 rfl rfl hdg kk
theorem fl_RX11_165 : Cond.fieldLink RX11 165 (TX0 2).1 (TX0 2).2.1 (TX0 2).2.2.1 ∈ GT := GT2 43 rfl rfl
theorem gf_RX11_165 {p : Program} {l : Launch} {e : Env} {R : Room} {s : State} {m : MethodId} {args : Array Value} {below : List Frame} {meth : Method} {c : Code} {H : Heap} {locs : List Loc} {cells slots : Nat} {Q : State → Prop} {D : va_G} {h : Nat → Nat} {cy : Nat → ClassId} {σ : St} {cc : ByteArray} {nL pc : Nat} {ls : Array Slot} {rest : List Value} (X : Cx p s m args c D h cy RX11 cc nL) (Z : Zt D h cy s σ H locs) (hdg : decode cc pc = .ok (.getfield 165, 3)) (kk : W p l e R s m args below meth c H locs cells slots Q (F0 m (pc + 3) ls (.ref (h 41) :: rest))) : W p l e R s m args below meth c H locs cells slots Q (F0 m pc ls (.ref (h 40) :: rest)) :=
  x_get (T := TX0) X Z sh_40 ing0 rfl 2 (by decide) fl_RX11_165 rfl rfl hdg kk
theorem fl_RX11_186 : Cond.fieldLink RX11 186 (TX2 0).1 (TX2 0).2.1 (TX2 0).2.2.1 ∈ GT := GT1 232 rfl rfl
theorem gf_RX11_186 {p : Program} {l : Launch} {e : Env} {R : Room} {s : State} {m : MethodId} {args : Array Value} {below : List Frame} {meth : Method} {c : Code} {H : Heap} {locs : List Loc} {cells slots : Nat} {Q : State → Prop} {D : va_G} {h : Nat → Nat} {cy : Nat → ClassId} {σ : St} {cc : ByteArray} {nL pc : Nat} {ls : Array Slot} {rest : List Value} (X : Cx p s m args c D h cy RX11 cc nL) (Z : Zt D h cy s σ H locs) (hdg : decode cc pc = .ok (.getfield 186, 3)) (kk : W p l e R s m args below meth c H locs cells slots Q (F0 m (pc + 3) ls (.int (σ.1 39 0) :: rest))) : W p l e R s m args below meth c H locs cells slots Q (F0 m pc ls (.ref (h 39) :: rest)) :=
  x_get (T := TX2) X Z sh_39 ing2 rfl 0 (by decide) fl_RX11_186 rfl rfl hdg kk
theorem fl_RX11_189 : Cond.fieldLink RX11 189 (TX2 1).1 (TX2 1).2.1 (TX2 1).2.2.1 ∈ GT := GT1 234 rfl rfl
theorem gf_RX11_189 {p : Program} {l : Launch} {e : Env} {R : Room} {s : State} {m : MethodId} {args : Array Value} {below : List Frame} {meth : Method} {c : Code} {H : Heap} {locs : List Loc} {cells slots : Nat} {Q : State → Prop} {D : va_G} {h : Nat → Nat} {cy : Nat → ClassId} {σ : St} {cc : ByteArray} {nL pc : Nat} {ls : Array Slot} {rest : List Value} (X : Cx p s m args c D h cy RX11 cc nL) (Z : Zt D h cy s σ H locs) (hdg : decode cc pc = .ok (.getfield 189, 3)) (kk : W p l e R s m args below meth c H locs cells slots Q (F0 m (pc + 3) ls (.int (σ.1 39 1) :: rest))) : W p l e R s m args below meth c H locs cells slots Q (F0 m pc ls (.ref (h 39) :: rest)) :=
  x_get (T := TX2) X Z sh_39 ing2 rfl 1 (by decide) fl_RX11_189 rfl rfl hdg kk
theorem fl_RX11_192 : Cond.fieldLink RX11 192 (TX4 0).1 (TX4 0).2.1 (TX4 0).2.2.1 ∈ GT := GT2 167 rfl rfl
theorem gf_RX11_192 {p : Program} {l : Launch} {e : Env} {R : Room} {s : State} {m : MethodId} {args : Array Value} {below : List Frame} {meth : Method} {c : Code} {H : Heap} {locs : List Loc} {cells slots : Nat} {Q : State → Prop} {D : va_G} {h : Nat → Nat} {cy : Nat → ClassId} {σ : St} {cc : ByteArray} {nL pc : Nat} {ls : Array Slot} {rest : List Value} (X : Cx p s m args c D h cy RX11 cc nL) (Z : Zt D h cy s σ H locs) (hdg : decode cc pc = .ok (.getfield 192, 3)) (kk : W p l e R s m args below meth c H locs cells slots Q (F0 m (pc + 3) ls (.ref (h 54) :: rest))) : W p l e R s m args below meth c H locs cells slots Q (F0 m pc ls (.ref (h 53) :: rest)) :=
  x_get (T := TX4) X Z sh_53 ing4 rfl 0 (by decide) fl_RX11_192 rfl rfl hdg kk
theorem fl_RX11_197 : Cond.fieldLink RX11 197 (TX4 1).1 (TX4 1).2.1 (TX4 1).2.2.1 ∈ GT := GT2 169 rfl rfl
theorem gf_RX11_197 {p : Program} {l : Launch} {e : Env} {R : Room} {s : State} {m : MethodId} {args : Array Value} {below : List Frame} {meth : Method} {c : Code} {H : Heap} {locs : List Loc} {cells slots : Nat} {Q : State → Prop} {D : va_G} {h : Nat → Nat} {cy : Nat → ClassId} {σ : St} {cc : ByteArray} {nL pc : Nat} {ls : Array Slot} {rest : List Value} (X : Cx p s m args c D h cy RX11 cc nL) (Z : Zt D h cy s σ H locs) (hdg : decode cc pc = .ok (.getfield 197, 3)) (kk : W p l e R s m args below meth c H locs cells slots Q (F0 m (pc + 3) ls (.ref (h 59) :: rest))) : W p l e R s m args below meth c H locs cells slots Q (F0 m pc ls (.ref (h 53) :: rest)) :=
  x_get (T := TX4) X Z sh_53 ing4 rfl 1 (by decide) fl_RX11_197 rfl rfl hdg kk
theorem fl_RX11_207 : Cond.fieldLink RX11 207 (TX4 2).1 (TX4 2).2.1 (TX4 2).2.2.1 ∈ GT := GT2 171 rfl rfl
theorem gf_RX11_207 {p : Program} {l : Launch} {e : Env} {R : Room} {s : State} {m : MethodId} {args : Array Value} {below : List Frame} {meth : Method} {c : Code} {H : Heap} {locs : List Loc} {cells slots : Nat} {Q : State → Prop} {D : va_G} {h : Nat → Nat} {cy : Nat → ClassId} {σ : St} {cc : ByteArray} {nL pc : Nat} {ls : Array Slot} {rest : List Value} (X : Cx p s m args c D h cy RX11 cc nL) (Z : Zt D h cy s σ H locs) (hdg : decode cc pc = .ok (.getfield 207, 3)) (kk : W p l e R s m args below meth c H locs cells slots Q (F0 m (pc + 3) ls (.ref (h 61) :: rest))) : W p l e R s m args below meth c H locs cells slots Q (F0 m pc ls (.ref (h 53) :: rest)) :=
  x_get (T := TX4) X Z sh_53 ing4 rfl 2 (by decide) fl_RX11_207 rfl rfl hdg kk
theorem fl_RX11_237 : Cond.fieldLink RX11 237 (TX8 2).1 (TX8 2).2.1 (TX8 2).2.2.1 ∈ GT := GT1 87 rfl rfl
theorem gf_RX11_237 {p : Program} {l : Launch} {e : Env} {R : Room} {s : State} {m : MethodId} {args : Array Value} {below : List Frame} {meth : Method} {c : Code} {H : Heap} {locs : List Loc} {cells slots : Nat} {Q : State → Prop} {D : va_G} {h : Nat → Nat} {cy : Nat → ClassId} {σ : St} {cc : ByteArray} {nL pc : Nat} {ls : Array Slot} {rest : List Value} (X : Cx p s m args c D h cy RX11 cc nL) (Z : Zt D h cy s σ H locs) (hdg : decode cc pc = .ok (.getfield 237, 3)) (kk : W p l e R s m args below meth c H locs cells slots Q (F0 m (pc + 3) ls (.ref (h 6) :: rest))) : W p l e R s m args below meth c H locs cells slots Q (F0 m pc ls (.ref (h 5) :: rest)) :=
  x_get (T := TX8) X Z sh_5 ing8 rfl 2 (by decide) fl_RX11_237 rfl rfl hdg kk
theorem fl_RX11_239 : Cond.fieldLink RX11 239 (TX5 2).1 (TX5 2).2.1 (TX5 2).2.2.1 ∈ GT := GT1 72 rfl rfl
theorem gf_RX11_239 {p : Program} {l : Launch} {e : Env} {R : Room} {s : State} {m : MethodId} {args : Array Value} {below : List Frame} {meth : Method} {c : Code} {H : Heap} {locs : List Loc} {cells slots : Nat} {Q : State → Prop} {D : va_G} {h : Nat → Nat} {cy : Nat → ClassId} {σ : St} {cc : ByteArray} {nL pc : Nat} {ls : Array Slot} {rest : List Value} (X : Cx p s m args c D h cy RX11 cc nL) (Z : Zt D h cy s σ H locs) {k b n : Nat} (hk : NamesS k b n) (hdg : decode cc pc = .ok (.getfield 239, 3)) (kk : W p l e R s m args below meth c H locs cells slots Q (F0 m (pc + 3) ls (.int (σ.1 k 2) :: rest))) : W p l e R s m args below meth c H locs cells slots Q (F0 m pc ls (.ref (h k) :: rest)) :=
  x_get (T := TX5) X Z hk.1 ing5 rfl 2 (by decide) fl_RX11_239 rfl rfl hdg kk
theorem fl_RX11_242 : Cond.fieldLink RX11 242 (TX8 6).1 (TX8 6).2.1 (TX8 6).2.2.1 ∈ GT := GT1 96 rfl rfl
theorem gf_RX11_242 {p : Program} {l : Launch} {e : Env} {R : Room} {s : State} {m : MethodId} {args : Array Value} {below : List Frame} {meth : Method} {c : Code} {H : Heap} {locs : List Loc} {cells slots : Nat} {Q : State → Prop} {D : va_G} {h : Nat → Nat} {cy : Nat → ClassId} {σ : St} {cc : ByteArray} {nL pc : Nat} {ls : Array Slot} {rest : List Value} (X : Cx p s m args c D h cy RX11 cc nL) (Z : Zt D h cy s σ H locs) (hdg : decode cc pc = .ok (.getfield 242, 3)) (kk : W p l e R s m args below meth c H locs cells slots Q (F0 m (pc + 3) ls (.ref (h 12) :: rest))) : W p l e R s m args below meth c H locs cells slots Q (F0 m pc ls (.ref (h 5) :: rest)) :=
  x_get (T := TX8) X Z sh_5 ing8 rfl 6 (by decide) fl_RX11_242 rfl rfl hdg kk
theorem fl_RX11_245 : Cond.fieldLink RX11 245 (TX8 10).1 (TX8 10).2.1 (TX8 10).2.2.1 ∈ GT := GT1 105 rfl rfl
theorem gf_RX11_245 {p : Program} {l : Launch} {e : Env} {R : Room} {s : State} {m : MethodId} {args : Array Value} {below : List Frame} {meth : Method} {c : Code} {H : Heap} {locs : List Loc} {cells slots : Nat} {Q : State → Prop} {D : va_G} {h : Nat → Nat} {cy : Nat → ClassId} {σ : St} {cc : ByteArray} {nL pc : Nat} {ls : Array Slot} {rest : List Value} (X : Cx p s m args c D h cy RX11 cc nL) (Z : Zt D h cy s σ H locs) (hdg : decode cc pc = .ok (.getfield 245, 3)) (kk : W p l e R s m args below meth c H locs cells slots Q (F0 m (pc + 3) ls (.ref (h 18) :: rest))) : W p l e R s m args below meth c H locs cells slots Q (F0 m pc ls (.ref (h 5) :: rest)) :=
  x_get (T := TX8) X Z sh_5 ing8 rfl 10 (by decide) fl_RX11_245 rfl rfl hdg kk
theorem fl_RX11_248 : Cond.fieldLink RX11 248 (TX8 18).1 (TX8 18).2.1 (TX8 18).2.2.1 ∈ GT := GT1 120 rfl rfl
theorem gf_RX11_248 {p : Program} {l : Launch} {e : Env} {R : Room} {s : State} {m : MethodId} {args : Array Value} {below : List Frame} {meth : Method} {c : Code} {H : Heap} {locs : List Loc} {cells slots : Nat} {Q : State → Prop} {D : va_G} {h : Nat → Nat} {cy : Nat → ClassId} {σ : St} {cc : ByteArray} {nL pc : Nat} {ls : Array Slot} {rest : List Value} (X : Cx p s m args c D h cy RX11 cc nL) (Z : Zt D h cy s σ H locs) (hdg : decode cc pc = .ok (.getfield 248, 3)) (kk : W p l e R s m args below meth c H locs cells slots Q (F0 m (pc + 3) ls (.int (σ.1 5 18) :: rest))) : W p l e R s m args below meth c H locs cells slots Q (F0 m pc ls (.ref (h 5) :: rest)) :=
  x_get (T := TX8) X Z sh_5 ing8 rfl 18 (by decide) fl_RX11_248 rfl rfl hdg kk
theorem fl_RX11_251 : Cond.fieldLink RX11 251 (TX1 0).1 (TX1 0).2.1 (TX1 0).2.2.1 ∈ GT := GT1 211 rfl rfl
theorem gf_RX11_251 {p : Program} {l : Launch} {e : Env} {R : Room} {s : State} {m : MethodId} {args : Array Value} {below : List Frame} {meth : Method} {c : Code} {H : Heap} {locs : List Loc} {cells slots : Nat} {Q : State → Prop} {D : va_G} {h : Nat → Nat} {cy : Nat → ClassId} {σ : St} {cc : ByteArray} {nL pc : Nat} {ls : Array Slot} {rest : List Value} (X : Cx p s m args c D h cy RX11 cc nL) (Z : Zt D h cy s σ H locs) (hdg : decode cc pc = .ok (.getfield 251, 3)) (kk : W p l e R s m args below meth c H locs cells slots Q (F0 m (pc + 3) ls (.ref (h 34) :: rest))) : W p l e R s m args below meth c H locs cells slots Q (F0 m pc ls (.ref (h 33) :: rest)) :=
  x_get (T := TX1) X Z sh_33 ing1 rfl 0 (by decide) fl_RX11_251 rfl rfl hdg kk
theorem fl_RX11_254 : Cond.fieldLink RX11 254 (TX7 4).1 (TX7 4).2.1 (TX7 4).2.2.1 ∈ GT := GT2 26 rfl rfl
theorem gf_RX11_254 {p : Program} {l : Launch} {e : Env} {R : Room} {s : State} {m : MethodId} {args : Array Value} {below : List Frame} {meth : Method} {c : Code} {H : Heap} {locs : List Loc} {cells slots : Nat} {Q : State → Prop} {D : va_G} {h : Nat → Nat} {cy : Nat → ClassId} {σ : St} {cc : ByteArray} {nL pc : Nat} {ls : Array Slot} {rest : List Value} (X : Cx p s m args c D h cy RX11 cc nL) (Z : Zt D h cy s σ H locs) {k : Nat} (hk : SegsS k) (hdg : decode cc pc = .ok (.getfield 254, 3)) (kk : W p l e R s m args below meth c H locs cells slots Q (F0 m (pc + 3) ls (.int (σ.1 k 4) :: rest))) : W p l e R s m args below meth c H locs cells slots Q (F0 m pc ls (.ref (h k) :: rest)) :=
  x_get (T := TX7) X Z hk.1 ing7 rfl 4 (by decide) fl_RX11_254 rfl rfl hdg kk
theorem fl_RX11_255 : Cond.fieldLink RX11 255 (TX9 2).1 (TX9 2).2.1 (TX9 2).2.2.1 ∈ GT := GT2 105 rfl rfl
theorem gf_RX11_255 {p : Program} {l : Launch} {e : Env} {R : Room} {s : State} {m : MethodId} {args : Array Value} {below : List Frame} {meth : Method} {c : Code} {H : Heap} {locs : List Loc} {cells slots : Nat} {Q : State → Prop} {D : va_G} {h : Nat → Nat} {cy : Nat → ClassId} {σ : St} {cc : ByteArray} {nL pc : Nat} {ls : Array Slot} {rest : List Value} (X : Cx p s m args c D h cy RX11 cc nL) (Z : Zt D h cy s σ H locs) {k : Nat} (hk : VisS k) (hdg : decode cc pc = .ok (.getfield 255, 3)) (kk : W p l e R s m args below meth c H locs cells slots Q (F0 m (pc + 3) ls (.int (σ.1 k 2) :: rest))) : W p l e R s m args below meth c H locs cells slots Q (F0 m pc ls (.ref (h k) :: rest)) :=
  x_get (T := TX9) X Z hk.1 ing9 rfl 2 (by decide) fl_RX11_255 rfl rfl hdg kk
theorem fl_RX11_256 : Cond.fieldLink RX11 256 (TX4 6).1 (TX4 6).2.1 (TX4 6).2.2.1 ∈ GT := GT2 176 rfl rfl
theorem gf_RX11_256 {p : Program} {l : Launch} {e : Env} {R : Room} {s : State} {m : MethodId} {args : Array Value} {below : List Frame} {meth : Method} {c : Code} {H : Heap} {locs : List Loc} {cells slots : Nat} {Q : State → Prop} {D : va_G} {h : Nat → Nat} {cy : Nat → ClassId} {σ : St} {cc : ByteArray} {nL pc : Nat} {ls : Array Slot} {rest : List Value} (X : Cx p s m args c D h cy RX11 cc nL) (Z : Zt D h cy s σ H locs) (hdg : decode cc pc = .ok (.getfield 256, 3)) (kk : W p l e R s m args below meth c H locs cells slots Q (F0 m (pc + 3) ls (.int (σ.1 53 6) :: rest))) : W p l e R s m args below meth c H locs cells slots Q (F0 m pc ls (.ref (h 53) :: rest)) :=
  x_get (T := TX4) X Z sh_53 ing4 rfl 6 (by decide) fl_RX11_256 rfl rfl hdg kk
theorem fl_RX0_9 : Cond.fieldLink RX0 9 (TX0 0).1 (TX0 0).2.1 (TX0 0).2.2.1 ∈ GT := GT2 38 rfl rfl
theorem gf_RX0_9 {p : Program} {l : Launch} {e : Env} {R : Room} {s : State} {m : MethodId} {args : Array Value} {below : List Frame} {meth : Method} {c : Code} {H : Heap} {locs : List Loc} {cells slots : Nat} {Q : State → Prop} {D : va_G} {h : Nat → Nat} {cy : Nat → ClassId} {σ : St} {cc : ByteArray} {nL pc : Nat} {ls : Array Slot} {rest : List Value} (X : Cx p s m args c D h cy RX0 cc nL) (Z : Zt D h cy s σ H locs) (hdg : decode cc pc = .ok (.getfield 9, 3)) (kk : W p l e R s m args below meth c H locs cells slots Q (F0 m (pc + 3) ls (.ref (h 3) :: rest))) : W p l e R s m args below meth c H locs cells slots Q (F0 m pc ls (.ref (h 40) :: rest)) :=
  x_get (T := TX0) X Z sh_40 ing0 rfl 0 (by decide) fl_RX0_9 rfl rfl hdg kk
theorem fl_RX0_15 : Cond.fieldLink RX0 15 (TX0 1).1 (TX0 1).2.1 (TX0 1).2.2.1 ∈ GT := GT2 39 rfl rfl
theorem gf_RX0_15 {p : Program} {l : Launch} {e : Env} {R : Room} {s : State} {m : MethodId} {args : Array Value} {below : List Frame} {meth : Method} {c : Code} {H : Heap} {locs : List Loc} {cells slots : Nat} {Q : State → Prop} {D : va_G} {h : Nat → Nat} {cy : Nat → ClassId} {σ : St} {cc : ByteArray} {nL pc : Nat} {ls : Array Slot} {rest : List Value} (X : Cx p s m args c D h cy RX0 cc nL) (Z : Zt D h cy s σ H locs) (hdg : decode cc pc = .ok (.getfield 15, 3)) (kk : W p l e R s m args below meth c H locs cells slots Q (F0 m (pc + 3) ls (.ref (h 39) :: rest))) : W p l e R s m args below meth c H locs cells slots Q (F0 m pc ls (.ref (h 40) :: rest)) :=
  x_get (T := TX0) X Z sh_40 ing0 rfl 1 (by decide) fl_RX0_15 rfl rfl hdg kk
theorem fl_RX0_22 : Cond.fieldLink RX0 22 (TX0 2).1 (TX0 2).2.1 (TX0 2).2.2.1 ∈ GT := GT2 40 rfl rfl
theorem gf_RX0_22 {p : Program} {l : Launch} {e : Env} {R : Room} {s : State} {m : MethodId} {args : Array Value} {below : List Frame} {meth : Method} {c : Code} {H : Heap} {locs : List Loc} {cells slots : Nat} {Q : State → Prop} {D : va_G} {h : Nat → Nat} {cy : Nat → ClassId} {σ : St} {cc : ByteArray} {nL pc : Nat} {ls : Array Slot} {rest : List Value} (X : Cx p s m args c D h cy RX0 cc nL) (Z : Zt D h cy s σ H locs) (hdg : decode cc pc = .ok (.getfield 22, 3)) (kk : W p l e R s m args below meth c H locs cells slots Q (F0 m (pc + 3) ls (.ref (h 41) :: rest))) : W p l e R s m args below meth c H locs cells slots Q (F0 m pc ls (.ref (h 40) :: rest)) :=
  x_get (T := TX0) X Z sh_40 ing0 rfl 2 (by decide) fl_RX0_22 rfl rfl hdg kk
theorem fl_RX0_42 : Cond.fieldLink RX0 42 (TX0 3).1 (TX0 3).2.1 (TX0 3).2.2.1 ∈ GT := GT2 44 rfl rfl
theorem gf_RX0_42 {p : Program} {l : Launch} {e : Env} {R : Room} {s : State} {m : MethodId} {args : Array Value} {below : List Frame} {meth : Method} {c : Code} {H : Heap} {locs : List Loc} {cells slots : Nat} {Q : State → Prop} {D : va_G} {h : Nat → Nat} {cy : Nat → ClassId} {σ : St} {cc : ByteArray} {nL pc : Nat} {ls : Array Slot} {rest : List Value} (X : Cx p s m args c D h cy RX0 cc nL) (Z : Zt D h cy s σ H locs) (hdg : decode cc pc = .ok (.getfield 42, 3)) (kk : W p l e R s m args below meth c H locs cells slots Q (F0 m (pc + 3) ls (.int (σ.1 40 3) :: rest))) : W p l e R s m args below meth c H locs cells slots Q (F0 m pc ls (.ref (h 40) :: rest)) :=
  x_get (T := TX0) X Z sh_40 ing0 rfl 3 (by decide) fl_RX0_42 rfl rfl hdg kk
theorem pf_RX0_42 {p : Program} {l : Launch} {e : Env} {R : Room} {s : State} {m : MethodId} {args : Array Value} {below : List Frame} {meth : Method} {c : Code} {H : Heap} {locs : List Loc} {cells slots : Nat} {Q : State → Prop} {D : va_G} {h : Nat → Nat} {cy : Nat → ClassId} {σ : St} {cc : ByteArray} {nL pc : Nat} {ls : Array Slot} {rest : List Value} {v : Int32} (X : Cx p s m args c D h cy RX0 cc nL) (Z : Zt D h cy s σ H locs) (hdg : decode cc pc = .ok (.putfield 42, 3)) (kk : ∀ (σ2 : St) (H : Heap) (locs : List Loc), σ2 = sI σ 40 3 v → Zt D h cy s σ2 H locs → W p l e R s m args below meth c H locs cells slots Q (F0 m (pc + 3) ls rest)) : W p l e R s m args below meth c H locs cells slots Q (F0 m pc ls (.int v :: .ref (h 40) :: rest)) :=
  x_put (T := TX0) X Z sh_40 ing0 tyX0 tyX0_ok nmX0 rfl 3 (by decide) fl_RX0_42 rfl rfl rfl rfl (Nat.le_of_ble_eq_true rfl) _ (wd_sI sh_40 rfl) hdg kk
theorem fl_RX0_46 : Cond.fieldLink RX0 46 (TX0 4).1 (TX0 4).2.1 (TX0 4).2.2.1 ∈ GT := GT2 45 rfl rfl
theorem gf_RX0_46 {p : Program} {l : Launch} {e : Env} {R : Room} {s : State} {m : MethodId} {args : Array Value} {below : List Frame} {meth : Method} {c : Code} {H : Heap} {locs : List Loc} {cells slots : Nat} {Q : State → Prop} {D : va_G} {h : Nat → Nat} {cy : Nat → ClassId} {σ : St} {cc : ByteArray} {nL pc : Nat} {ls : Array Slot} {rest : List Value} (X : Cx p s m args c D h cy RX0 cc nL) (Z : Zt D h cy s σ H locs) (hdg : decode cc pc = .ok (.getfield 46, 3)) (kk : W p l e R s m args below meth c H locs cells slots Q (F0 m (pc + 3) ls (.int (σ.1 40 4) :: rest))) : W p l e R s m args below meth c H locs cells slots Q (F0 m pc ls (.ref (h 40) :: rest)) :=
  x_get (T := TX0) X Z sh_40 ing0 rfl 4 (by decide) fl_RX0_46 rfl rfl hdg kk
theorem pf_RX0_46 {p : Program} {l : Launch} {e : Env} {R : Room} {s : State} {m : MethodId} {args : Array Value} {below : List Frame} {meth : Method} {c : Code} {H : Heap} {locs : List Loc} {cells slots : Nat} {Q : State → Prop} {D : va_G} {h : Nat → Nat} {cy : Nat → ClassId} {σ : St} {cc : ByteArray} {nL pc : Nat} {ls : Array Slot} {rest : List Value} {v : Int32} (X : Cx p s m args c D h cy RX0 cc nL) (Z : Zt D h cy s σ H locs) (hv : v = 0 ∨ v = 1) (hdg : decode cc pc = .ok (.putfield 46, 3)) (kk : ∀ (σ2 : St) (H : Heap) (locs : List Loc), σ2 = sI σ 40 4 v → Zt D h cy s σ2 H locs → W p l e R s m args below meth c H locs cells slots Q (F0 m (pc + 3) ls rest)) : W p l e R s m args below meth c H locs cells slots Q (F0 m pc ls (.int v :: .ref (h 40) :: rest)) :=
  x_put (T := TX0) X Z sh_40 ing0 tyX0 tyX0_ok nmX0 rfl 4 (by decide) fl_RX0_46 rfl rfl (by rcases hv with rfl | rfl <;> rfl) (by rcases hv with rfl | rfl <;> rfl) (Nat.le_of_ble_eq_true rfl) _ (wd_sI sh_40 rfl) hdg kk
theorem fl_RX0_50 : Cond.fieldLink RX0 50 (TX0 5).1 (TX0 5).2.1 (TX0 5).2.2.1 ∈ GT := GT2 47 rfl rfl
theorem gf_RX0_50 {p : Program} {l : Launch} {e : Env} {R : Room} {s : State} {m : MethodId} {args : Array Value} {below : List Frame} {meth : Method} {c : Code} {H : Heap} {locs : List Loc} {cells slots : Nat} {Q : State → Prop} {D : va_G} {h : Nat → Nat} {cy : Nat → ClassId} {σ : St} {cc : ByteArray} {nL pc : Nat} {ls : Array Slot} {rest : List Value} (X : Cx p s m args c D h cy RX0 cc nL) (Z : Zt D h cy s σ H locs) (hdg : decode cc pc = .ok (.getfield 50, 3)) (kk : W p l e R s m args below meth c H locs cells slots Q (F0 m (pc + 3) ls (.int (σ.1 40 5) :: rest))) : W p l e R s m args below meth c H locs cells slots Q (F0 m pc ls (.ref (h 40) :: rest)) :=
  x_get (T := TX0) X Z sh_40 ing0 rfl 5 (by decide) fl_RX0_50 rfl rfl hdg kk
theorem pf_RX0_50 {p : Program} {l : Launch} {e : Env} {R : Room} {s : State} {m : MethodId} {args : Array Value} {below : List Frame} {meth : Method} {c : Code} {H : Heap} {locs : List Loc} {cells slots : Nat} {Q : State → Prop} {D : va_G} {h : Nat → Nat} {cy : Nat → ClassId} {σ : St} {cc : ByteArray} {nL pc : Nat} {ls : Array Slot} {rest : List Value} {v : Int32} (X : Cx p s m args c D h cy RX0 cc nL) (Z : Zt D h cy s σ H locs) (hdg : decode cc pc = .ok (.putfield 50, 3)) (kk : ∀ (σ2 : St) (H : Heap) (locs : List Loc), σ2 = sI σ 40 5 v → Zt D h cy s σ2 H locs → W p l e R s m args below meth c H locs cells slots Q (F0 m (pc + 3) ls rest)) : W p l e R s m args below meth c H locs cells slots Q (F0 m pc ls (.int v :: .ref (h 40) :: rest)) :=
  x_put (T := TX0) X Z sh_40 ing0 tyX0 tyX0_ok nmX0 rfl 5 (by decide) fl_RX0_50 rfl rfl rfl rfl (Nat.le_of_ble_eq_true rfl) _ (wd_sI sh_40 rfl) hdg kk
theorem fl_RX0_53 : Cond.fieldLink RX0 53 (TX0 6).1 (TX0 6).2.1 (TX0 6).2.2.1 ∈ GT := GT2 49 rfl rfl
theorem gf_RX0_53 {p : Program} {l : Launch} {e : Env} {R : Room} {s : State} {m : MethodId} {args : Array Value} {below : List Frame} {meth : Method} {c : Code} {H : Heap} {locs : List Loc} {cells slots : Nat} {Q : State → Prop} {D : va_G} {h : Nat → Nat} {cy : Nat → ClassId} {σ : St} {cc : ByteArray} {nL pc : Nat} {ls : Array Slot} {rest : List Value} (X : Cx p s m args c D h cy RX0 cc nL) (Z : Zt D h cy s σ H locs) (hdg : decode cc pc = .ok (.getfield 53, 3)) (kk : W p l e R s m args below meth c H locs cells slots Q (F0 m (pc + 3) ls (.int (σ.1 40 6) :: rest))) : W p l e R s m args below meth c H locs cells slots Q (F0 m pc ls (.ref (h 40) :: rest)) :=
  x_get (T := TX0) X Z sh_40 ing0 rfl 6 (by decide) fl_RX0_53 rfl rfl hdg kk
theorem pf_RX0_53 {p : Program} {l : Launch} {e : Env} {R : Room} {s : State} {m : MethodId} {args : Array Value} {below : List Frame} {meth : Method} {c : Code} {H : Heap} {locs : List Loc} {cells slots : Nat} {Q : State → Prop} {D : va_G} {h : Nat → Nat} {cy : Nat → ClassId} {σ : St} {cc : ByteArray} {nL pc : Nat} {ls : Array Slot} {rest : List Value} {v : Int32} (X : Cx p s m args c D h cy RX0 cc nL) (Z : Zt D h cy s σ H locs) (hdg : decode cc pc = .ok (.putfield 53, 3)) (kk : ∀ (σ2 : St) (H : Heap) (locs : List Loc), σ2 = sI σ 40 6 v → Zt D h cy s σ2 H locs → W p l e R s m args below meth c H locs cells slots Q (F0 m (pc + 3) ls rest)) : W p l e R s m args below meth c H locs cells slots Q (F0 m pc ls (.int v :: .ref (h 40) :: rest)) :=
  x_put (T := TX0) X Z sh_40 ing0 tyX0 tyX0_ok nmX0 rfl 6 (by decide) fl_RX0_53 rfl rfl rfl rfl (Nat.le_of_ble_eq_true rfl) _ (wd_sI sh_40 rfl) hdg kk
theorem fl_RX0_56 : Cond.fieldLink RX0 56 (TX0 7).1 (TX0 7).2.1 (TX0 7).2.2.1 ∈ GT := GT2 51 rfl rfl
theorem gf_RX0_56 {p : Program} {l : Launch} {e : Env} {R : Room} {s : State} {m : MethodId} {args : Array Value} {below : List Frame} {meth : Method} {c : Code} {H : Heap} {locs : List Loc} {cells slots : Nat} {Q : State → Prop} {D : va_G} {h : Nat → Nat} {cy : Nat → ClassId} {σ : St} {cc : ByteArray} {nL pc : Nat} {ls : Array Slot} {rest : List Value} (X : Cx p s m args c D h cy RX0 cc nL) (Z : Zt D h cy s σ H locs) (hdg : decode cc pc = .ok (.getfield 56, 3)) (kk : W p l e R s m args below meth c H locs cells slots Q (F0 m (pc + 3) ls (.int (σ.1 40 7) :: rest))) : W p l e R s m args below meth c H locs cells slots Q (F0 m pc ls (.ref (h 40) :: rest)) :=
  x_get (T := TX0) X Z sh_40 ing0 rfl 7 (by decide) fl_RX0_56 rfl rfl hdg kk
theorem pf_RX0_56 {p : Program} {l : Launch} {e : Env} {R : Room} {s : State} {m : MethodId} {args : Array Value} {below : List Frame} {meth : Method} {c : Code} {H : Heap} {locs : List Loc} {cells slots : Nat} {Q : State → Prop} {D : va_G} {h : Nat → Nat} {cy : Nat → ClassId} {σ : St} {cc : ByteArray} {nL pc : Nat} {ls : Array Slot} {rest : List Value} {v : Int32} (X : Cx p s m args c D h cy RX0 cc nL) (Z : Zt D h cy s σ H locs) (hdg : decode cc pc = .ok (.putfield 56, 3)) (kk : ∀ (σ2 : St) (H : Heap) (locs : List Loc), σ2 = sI σ 40 7 v → Zt D h cy s σ2 H locs → W p l e R s m args below meth c H locs cells slots Q (F0 m (pc + 3) ls rest)) : W p l e R s m args below meth c H locs cells slots Q (F0 m pc ls (.int v :: .ref (h 40) :: rest)) :=
  x_put (T := TX0) X Z sh_40 ing0 tyX0 tyX0_ok nmX0 rfl 7 (by decide) fl_RX0_56 rfl rfl rfl rfl (Nat.le_of_ble_eq_true rfl) _ (wd_sI sh_40 rfl) hdg kk
theorem fl_RX0_59 : Cond.fieldLink RX0 59 (TX0 8).1 (TX0 8).2.1 (TX0 8).2.2.1 ∈ GT := GT2 53 rfl rfl
theorem gf_RX0_59 {p : Program} {l : Launch} {e : Env} {R : Room} {s : State} {m : MethodId} {args : Array Value} {below : List Frame} {meth : Method} {c : Code} {H : Heap} {locs : List Loc} {cells slots : Nat} {Q : State → Prop} {D : va_G} {h : Nat → Nat} {cy : Nat → ClassId} {σ : St} {cc : ByteArray} {nL pc : Nat} {ls : Array Slot} {rest : List Value} (X : Cx p s m args c D h cy RX0 cc nL) (Z : Zt D h cy s σ H locs) (hdg : decode cc pc = .ok (.getfield 59, 3)) (kk : W p l e R s m args below meth c H locs cells slots Q (F0 m (pc + 3) ls (.int (σ.1 40 8) :: rest))) : W p l e R s m args below meth c H locs cells slots Q (F0 m pc ls (.ref (h 40) :: rest)) :=
  x_get (T := TX0) X Z sh_40 ing0 rfl 8 (by decide) fl_RX0_59 rfl rfl hdg kk
theorem pf_RX0_59 {p : Program} {l : Launch} {e : Env} {R : Room} {s : State} {m : MethodId} {args : Array Value} {below : List Frame} {meth : Method} {c : Code} {H : Heap} {locs : List Loc} {cells slots : Nat} {Q : State → Prop} {D : va_G} {h : Nat → Nat} {cy : Nat → ClassId} {σ : St} {cc : ByteArray} {nL pc : Nat} {ls : Array Slot} {rest : List Value} {v : Int32} (X : Cx p s m args c D h cy RX0 cc nL) (Z : Zt D h cy s σ H locs) (hdg : decode cc pc = .ok (.putfield 59, 3)) (kk : ∀ (σ2 : St) (H : Heap) (locs : List Loc), σ2 = sI σ 40 8 v → Zt D h cy s σ2 H locs → W p l e R s m args below meth c H locs cells slots Q (F0 m (pc + 3) ls rest)) : W p l e R s m args below meth c H locs cells slots Q (F0 m pc ls (.int v :: .ref (h 40) :: rest)) :=
  x_put (T := TX0) X Z sh_40 ing0 tyX0 tyX0_ok nmX0 rfl 8 (by decide) fl_RX0_59 rfl rfl rfl rfl (Nat.le_of_ble_eq_true rfl) _ (wd_sI sh_40 rfl) hdg kk
theorem fl_RX0_62 : Cond.fieldLink RX0 62 (TX0 9).1 (TX0 9).2.1 (TX0 9).2.2.1 ∈ GT := GT2 55 rfl rfl
theorem gf_RX0_62 {p : Program} {l : Launch} {e : Env} {R : Room} {s : State} {m : MethodId} {args : Array Value} {below : List Frame} {meth : Method} {c : Code} {H : Heap} {locs : List Loc} {cells slots : Nat} {Q : State → Prop} {D : va_G} {h : Nat → Nat} {cy : Nat → ClassId} {σ : St} {cc : ByteArray} {nL pc : Nat} {ls : Array Slot} {rest : List Value} (X : Cx p s m args c D h cy RX0 cc nL) (Z : Zt D h cy s σ H locs) (hdg : decode cc pc = .ok (.getfield 62, 3)) (kk : W p l e R s m args below meth c H locs cells slots Q (F0 m (pc + 3) ls (.int (σ.1 40 9) :: rest))) : W p l e R s m args below meth c H locs cells slots Q (F0 m pc ls (.ref (h 40) :: rest)) :=
  x_get (T := TX0) X Z sh_40 ing0 rfl 9 (by decide) fl_RX0_62 rfl rfl hdg kk
theorem pf_RX0_62 {p : Program} {l : Launch} {e : Env} {R : Room} {s : State} {m : MethodId} {args : Array Value} {below : List Frame} {meth : Method} {c : Code} {H : Heap} {locs : List Loc} {cells slots : Nat} {Q : State → Prop} {D : va_G} {h : Nat → Nat} {cy : Nat → ClassId} {σ : St} {cc : ByteArray} {nL pc : Nat} {ls : Array Slot} {rest : List Value} {v : Int32} (X : Cx p s m args c D h cy RX0 cc nL) (Z : Zt D h cy s σ H locs) (hv : v = 0 ∨ v = 1) (hdg : decode cc pc = .ok (.putfield 62, 3)) (kk : ∀ (σ2 : St) (H : Heap) (locs : List Loc), σ2 = sI σ 40 9 v → Zt D h cy s σ2 H locs → W p l e R s m args below meth c H locs cells slots Q (F0 m (pc + 3) ls rest)) : W p l e R s m args below meth c H locs cells slots Q (F0 m pc ls (.int v :: .ref (h 40) :: rest)) :=
  x_put (T := TX0) X Z sh_40 ing0 tyX0 tyX0_ok nmX0 rfl 9 (by decide) fl_RX0_62 rfl rfl (by rcases hv with rfl | rfl <;> rfl) (by rcases hv with rfl | rfl <;> rfl) (Nat.le_of_ble_eq_true rfl) _ (wd_sI sh_40 rfl) hdg kk
theorem fl_RX0_65 : Cond.fieldLink RX0 65 (TX0 10).1 (TX0 10).2.1 (TX0 10).2.2.1 ∈ GT := GT2 57 rfl rfl
theorem pf_RX0_65 {p : Program} {l : Launch} {e : Env} {R : Room} {s : State} {m : MethodId} {args : Array Value} {below : List Frame} {meth : Method} {c : Code} {H : Heap} {locs : List Loc} {cells slots : Nat} {Q : State → Prop} {D : va_G} {h : Nat → Nat} {cy : Nat → ClassId} {σ : St} {cc : ByteArray} {nL pc : Nat} {ls : Array Slot} {rest : List Value} {v : Int32} (X : Cx p s m args c D h cy RX0 cc nL) (Z : Zt D h cy s σ H locs) (hdg : decode cc pc = .ok (.putfield 65, 3)) (kk : ∀ (σ2 : St) (H : Heap) (locs : List Loc), σ2 = sI σ 40 10 v → Zt D h cy s σ2 H locs → W p l e R s m args below meth c H locs cells slots Q (F0 m (pc + 3) ls rest)) : W p l e R s m args below meth c H locs cells slots Q (F0 m pc ls (.int v :: .ref (h 40) :: rest)) :=
  x_put (T := TX0) X Z sh_40 ing0 tyX0 tyX0_ok nmX0 rfl 10 (by decide) fl_RX0_65 rfl rfl rfl rfl (Nat.le_of_ble_eq_true rfl) _ (wd_sI sh_40 rfl) hdg kk
theorem fl_RX0_68 : Cond.fieldLink RX0 68 (TX0 11).1 (TX0 11).2.1 (TX0 11).2.2.1 ∈ GT := GT2 59 rfl rfl
theorem pf_RX0_68 {p : Program} {l : Launch} {e : Env} {R : Room} {s : State} {m : MethodId} {args : Array Value} {below : List Frame} {meth : Method} {c : Code} {H : Heap} {locs : List Loc} {cells slots : Nat} {Q : State → Prop} {D : va_G} {h : Nat → Nat} {cy : Nat → ClassId} {σ : St} {cc : ByteArray} {nL pc : Nat} {ls : Array Slot} {rest : List Value} {v : Int32} (X : Cx p s m args c D h cy RX0 cc nL) (Z : Zt D h cy s σ H locs) (hdg : decode cc pc = .ok (.putfield 68, 3)) (kk : ∀ (σ2 : St) (H : Heap) (locs : List Loc), σ2 = sI σ 40 11 v → Zt D h cy s σ2 H locs → W p l e R s m args below meth c H locs cells slots Q (F0 m (pc + 3) ls rest)) : W p l e R s m args below meth c H locs cells slots Q (F0 m pc ls (.int v :: .ref (h 40) :: rest)) :=
  x_put (T := TX0) X Z sh_40 ing0 tyX0 tyX0_ok nmX0 rfl 11 (by decide) fl_RX0_68 rfl rfl rfl rfl (Nat.le_of_ble_eq_true rfl) _ (wd_sI sh_40 rfl) hdg kk
theorem fl_RX0_71 : Cond.fieldLink RX0 71 (TX6 1).1 (TX6 1).2.1 (TX6 1).2.2.1 ∈ GT := GT1 41 rfl rfl
theorem gf_RX0_71 {p : Program} {l : Launch} {e : Env} {R : Room} {s : State} {m : MethodId} {args : Array Value} {below : List Frame} {meth : Method} {c : Code} {H : Heap} {locs : List Loc} {cells slots : Nat} {Q : State → Prop} {D : va_G} {h : Nat → Nat} {cy : Nat → ClassId} {σ : St} {cc : ByteArray} {nL pc : Nat} {ls : Array Slot} {rest : List Value} (X : Cx p s m args c D h cy RX0 cc nL) (Z : Zt D h cy s σ H locs) {k n : Nat} (hk : RowS k n) (hdg : decode cc pc = .ok (.getfield 71, 3)) (kk : W p l e R s m args below meth c H locs cells slots Q (F0 m (pc + 3) ls (.int (σ.1 k 1) :: rest))) : W p l e R s m args below meth c H locs cells slots Q (F0 m pc ls (.ref (h k) :: rest)) :=
  x_get (T := TX6) X Z hk.1 ing6 rfl 1 (by decide) fl_RX0_71 rfl rfl hdg kk
theorem fl_RX0_125 : Cond.fieldLink RX0 125 (TX7 4).1 (TX7 4).2.1 (TX7 4).2.2.1 ∈ GT := GT2 25 rfl rfl
theorem gf_RX0_125 {p : Program} {l : Launch} {e : Env} {R : Room} {s : State} {m : MethodId} {args : Array Value} {below : List Frame} {meth : Method} {c : Code} {H : Heap} {locs : List Loc} {cells slots : Nat} {Q : State → Prop} {D : va_G} {h : Nat → Nat} {cy : Nat → ClassId} {σ : St} {cc : ByteArray} {nL pc : Nat} {ls : Array Slot} {rest : List Value} (X : Cx p s m args c D h cy RX0 cc nL) (Z : Zt D h cy s σ H locs) {k : Nat} (hk : SegsS k) (hdg : decode cc pc = .ok (.getfield 125, 3)) (kk : W p l e R s m args below meth c H locs cells slots Q (F0 m (pc + 3) ls (.int (σ.1 k 4) :: rest))) : W p l e R s m args below meth c H locs cells slots Q (F0 m pc ls (.ref (h k) :: rest)) :=
  x_get (T := TX7) X Z hk.1 ing7 rfl 4 (by decide) fl_RX0_125 rfl rfl hdg kk
theorem fl_RX1_14 : Cond.fieldLink RX1 14 (TX1 0).1 (TX1 0).2.1 (TX1 0).2.2.1 ∈ GT := GT1 210 rfl rfl
theorem gf_RX1_14 {p : Program} {l : Launch} {e : Env} {R : Room} {s : State} {m : MethodId} {args : Array Value} {below : List Frame} {meth : Method} {c : Code} {H : Heap} {locs : List Loc} {cells slots : Nat} {Q : State → Prop} {D : va_G} {h : Nat → Nat} {cy : Nat → ClassId} {σ : St} {cc : ByteArray} {nL pc : Nat} {ls : Array Slot} {rest : List Value} (X : Cx p s m args c D h cy RX1 cc nL) (Z : Zt D h cy s σ H locs) (hdg : decode cc pc = .ok (.getfield 14, 3)) (kk : W p l e R s m args below meth c H locs cells slots Q (F0 m (pc + 3) ls (.ref (h 34) :: rest))) : W p l e R s m args below meth c H locs cells slots Q (F0 m pc ls (.ref (h 33) :: rest)) :=
  x_get (T := TX1) X Z sh_33 ing1 rfl 0 (by decide) fl_RX1_14 rfl rfl hdg kk
theorem fl_RX1_20 : Cond.fieldLink RX1 20 (TX1 1).1 (TX1 1).2.1 (TX1 1).2.2.1 ∈ GT := GT1 212 rfl rfl
theorem gf_RX1_20 {p : Program} {l : Launch} {e : Env} {R : Room} {s : State} {m : MethodId} {args : Array Value} {below : List Frame} {meth : Method} {c : Code} {H : Heap} {locs : List Loc} {cells slots : Nat} {Q : State → Prop} {D : va_G} {h : Nat → Nat} {cy : Nat → ClassId} {σ : St} {cc : ByteArray} {nL pc : Nat} {ls : Array Slot} {rest : List Value} (X : Cx p s m args c D h cy RX1 cc nL) (Z : Zt D h cy s σ H locs) (hdg : decode cc pc = .ok (.getfield 20, 3)) (kk : W p l e R s m args below meth c H locs cells slots Q (F0 m (pc + 3) ls (.ref (h 37) :: rest))) : W p l e R s m args below meth c H locs cells slots Q (F0 m pc ls (.ref (h 33) :: rest)) :=
  x_get (T := TX1) X Z sh_33 ing1 rfl 1 (by decide) fl_RX1_20 rfl rfl hdg kk
theorem fl_RX1_24 : Cond.fieldLink RX1 24 (TX1 2).1 (TX1 2).2.1 (TX1 2).2.2.1 ∈ GT := GT1 213 rfl rfl
theorem gf_RX1_24 {p : Program} {l : Launch} {e : Env} {R : Room} {s : State} {m : MethodId} {args : Array Value} {below : List Frame} {meth : Method} {c : Code} {H : Heap} {locs : List Loc} {cells slots : Nat} {Q : State → Prop} {D : va_G} {h : Nat → Nat} {cy : Nat → ClassId} {σ : St} {cc : ByteArray} {nL pc : Nat} {ls : Array Slot} {rest : List Value} (X : Cx p s m args c D h cy RX1 cc nL) (Z : Zt D h cy s σ H locs) (hdg : decode cc pc = .ok (.getfield 24, 3)) (kk : W p l e R s m args below meth c H locs cells slots Q (F0 m (pc + 3) ls (.ref (h 38) :: rest))) : W p l e R s m args below meth c H locs cells slots Q (F0 m pc ls (.ref (h 33) :: rest)) :=
  x_get (T := TX1) X Z sh_33 ing1 rfl 2 (by decide) fl_RX1_24 rfl rfl hdg kk
theorem fl_RX1_45 : Cond.fieldLink RX1 45 (TX5 2).1 (TX5 2).2.1 (TX5 2).2.2.1 ∈ GT := GT1 70 rfl rfl
theorem gf_RX1_45 {p : Program} {l : Launch} {e : Env} {R : Room} {s : State} {m : MethodId} {args : Array Value} {below : List Frame} {meth : Method} {c : Code} {H : Heap} {locs : List Loc} {cells slots : Nat} {Q : State → Prop} {D : va_G} {h : Nat → Nat} {cy : Nat → ClassId} {σ : St} {cc : ByteArray} {nL pc : Nat} {ls : Array Slot} {rest : List Value} (X : Cx p s m args c D h cy RX1 cc nL) (Z : Zt D h cy s σ H locs) {k b n : Nat} (hk : NamesS k b n) (hdg : decode cc pc = .ok (.getfield 45, 3)) (kk : W p l e R s m args below meth c H locs cells slots Q (F0 m (pc + 3) ls (.int (σ.1 k 2) :: rest))) : W p l e R s m args below meth c H locs cells slots Q (F0 m pc ls (.ref (h k) :: rest)) :=
  x_get (T := TX5) X Z hk.1 ing5 rfl 2 (by decide) fl_RX1_45 rfl rfl hdg kk
theorem fl_RX1_49 : Cond.fieldLink RX1 49 (TX5 0).1 (TX5 0).2.1 (TX5 0).2.2.1 ∈ GT := GT1 64 rfl rfl
theorem gf_RX1_49 {p : Program} {l : Launch} {e : Env} {R : Room} {s : State} {m : MethodId} {args : Array Value} {below : List Frame} {meth : Method} {c : Code} {H : Heap} {locs : List Loc} {cells slots : Nat} {Q : State → Prop} {D : va_G} {h : Nat → Nat} {cy : Nat → ClassId} {σ : St} {cc : ByteArray} {nL pc : Nat} {ls : Array Slot} {rest : List Value} (X : Cx p s m args c D h cy RX1 cc nL) (Z : Zt D h cy s σ H locs) {k b n : Nat} (hk : NamesS k b n) (hdg : decode cc pc = .ok (.getfield 49, 3)) (kk : W p l e R s m args below meth c H locs cells slots Q (F0 m (pc + 3) ls (.ref (h (k + 1)) :: rest))) : W p l e R s m args below meth c H locs cells slots Q (F0 m pc ls (.ref (h k) :: rest)) :=
  x_get (T := TX5) X Z hk.1 ing5 rfl 0 (by decide) fl_RX1_49 rfl rfl hdg kk
theorem fl_RX1_53 : Cond.fieldLink RX1 53 (TX5 1).1 (TX5 1).2.1 (TX5 1).2.2.1 ∈ GT := GT1 66 rfl rfl
theorem gf_RX1_53 {p : Program} {l : Launch} {e : Env} {R : Room} {s : State} {m : MethodId} {args : Array Value} {below : List Frame} {meth : Method} {c : Code} {H : Heap} {locs : List Loc} {cells slots : Nat} {Q : State → Prop} {D : va_G} {h : Nat → Nat} {cy : Nat → ClassId} {σ : St} {cc : ByteArray} {nL pc : Nat} {ls : Array Slot} {rest : List Value} (X : Cx p s m args c D h cy RX1 cc nL) (Z : Zt D h cy s σ H locs) {k b n : Nat} (hk : NamesS k b n) (hdg : decode cc pc = .ok (.getfield 53, 3)) (kk : W p l e R s m args below meth c H locs cells slots Q (F0 m (pc + 3) ls (.ref (h (k + 2)) :: rest))) : W p l e R s m args below meth c H locs cells slots Q (F0 m pc ls (.ref (h k) :: rest)) :=
  x_get (T := TX5) X Z hk.1 ing5 rfl 1 (by decide) fl_RX1_53 rfl rfl hdg kk
theorem fl_RX2_14 : Cond.fieldLink RX2 14 (TX2 0).1 (TX2 0).2.1 (TX2 0).2.2.1 ∈ GT := GT1 231 rfl rfl
theorem pf_RX2_14 {p : Program} {l : Launch} {e : Env} {R : Room} {s : State} {m : MethodId} {args : Array Value} {below : List Frame} {meth : Method} {c : Code} {H : Heap} {locs : List Loc} {cells slots : Nat} {Q : State → Prop} {D : va_G} {h : Nat → Nat} {cy : Nat → ClassId} {σ : St} {cc : ByteArray} {nL pc : Nat} {ls : Array Slot} {rest : List Value} {v : Int32} (X : Cx p s m args c D h cy RX2 cc nL) (Z : Zt D h cy s σ H locs) (hdg : decode cc pc = .ok (.putfield 14, 3)) (kk : ∀ (σ2 : St) (H : Heap) (locs : List Loc), σ2 = sI σ 39 0 v → Zt D h cy s σ2 H locs → W p l e R s m args below meth c H locs cells slots Q (F0 m (pc + 3) ls rest)) : W p l e R s m args below meth c H locs cells slots Q (F0 m pc ls (.int v :: .ref (h 39) :: rest)) :=
  x_put (T := TX2) X Z sh_39 ing2 tyX2 tyX2_ok nmX2 rfl 0 (by decide) fl_RX2_14 rfl rfl rfl rfl (Nat.le_of_ble_eq_true rfl) _ (wd_sI sh_39 rfl) hdg kk
theorem fl_RX2_18 : Cond.fieldLink RX2 18 (TX2 1).1 (TX2 1).2.1 (TX2 1).2.2.1 ∈ GT := GT1 233 rfl rfl
theorem pf_RX2_18 {p : Program} {l : Launch} {e : Env} {R : Room} {s : State} {m : MethodId} {args : Array Value} {below : List Frame} {meth : Method} {c : Code} {H : Heap} {locs : List Loc} {cells slots : Nat} {Q : State → Prop} {D : va_G} {h : Nat → Nat} {cy : Nat → ClassId} {σ : St} {cc : ByteArray} {nL pc : Nat} {ls : Array Slot} {rest : List Value} {v : Int32} (X : Cx p s m args c D h cy RX2 cc nL) (Z : Zt D h cy s σ H locs) (hdg : decode cc pc = .ok (.putfield 18, 3)) (kk : ∀ (σ2 : St) (H : Heap) (locs : List Loc), σ2 = sI σ 39 1 v → Zt D h cy s σ2 H locs → W p l e R s m args below meth c H locs cells slots Q (F0 m (pc + 3) ls rest)) : W p l e R s m args below meth c H locs cells slots Q (F0 m pc ls (.int v :: .ref (h 39) :: rest)) :=
  x_put (T := TX2) X Z sh_39 ing2 tyX2 tyX2_ok nmX2 rfl 1 (by decide) fl_RX2_18 rfl rfl rfl rfl (Nat.le_of_ble_eq_true rfl) _ (wd_sI sh_39 rfl) hdg kk
theorem fl_RX3_9 : Cond.fieldLink RX3 9 (TX3 0).1 (TX3 0).2.1 (TX3 0).2.2.1 ∈ GT := GT2 113 rfl rfl
theorem gf_RX3_9 {p : Program} {l : Launch} {e : Env} {R : Room} {s : State} {m : MethodId} {args : Array Value} {below : List Frame} {meth : Method} {c : Code} {H : Heap} {locs : List Loc} {cells slots : Nat} {Q : State → Prop} {D : va_G} {h : Nat → Nat} {cy : Nat → ClassId} {σ : St} {cc : ByteArray} {nL pc : Nat} {ls : Array Slot} {rest : List Value} (X : Cx p s m args c D h cy RX3 cc nL) (Z : Zt D h cy s σ H locs) (hdg : decode cc pc = .ok (.getfield 9, 3)) (kk : W p l e R s m args below meth c H locs cells slots Q (F0 m (pc + 3) ls (.ref (h 3) :: rest))) : W p l e R s m args below meth c H locs cells slots Q (F0 m pc ls (.ref (h 46) :: rest)) :=
  x_get (T := TX3) X Z sh_46 ing3 rfl 0 (by decide) fl_RX3_9 rfl rfl hdg kk
theorem fl_RX3_15 : Cond.fieldLink RX3 15 (TX3 1).1 (TX3 1).2.1 (TX3 1).2.2.1 ∈ GT := GT2 114 rfl rfl
theorem gf_RX3_15 {p : Program} {l : Launch} {e : Env} {R : Room} {s : State} {m : MethodId} {args : Array Value} {below : List Frame} {meth : Method} {c : Code} {H : Heap} {locs : List Loc} {cells slots : Nat} {Q : State → Prop} {D : va_G} {h : Nat → Nat} {cy : Nat → ClassId} {σ : St} {cc : ByteArray} {nL pc : Nat} {ls : Array Slot} {rest : List Value} (X : Cx p s m args c D h cy RX3 cc nL) (Z : Zt D h cy s σ H locs) (hdg : decode cc pc = .ok (.getfield 15, 3)) (kk : W p l e R s m args below meth c H locs cells slots Q (F0 m (pc + 3) ls (.ref (h 39) :: rest))) : W p l e R s m args below meth c H locs cells slots Q (F0 m pc ls (.ref (h 46) :: rest)) :=
  x_get (T := TX3) X Z sh_46 ing3 rfl 1 (by decide) fl_RX3_15 rfl rfl hdg kk
theorem fl_RX3_19 : Cond.fieldLink RX3 19 (TX3 2).1 (TX3 2).2.1 (TX3 2).2.2.1 ∈ GT := GT2 115 rfl rfl
theorem gf_RX3_19 {p : Program} {l : Launch} {e : Env} {R : Room} {s : State} {m : MethodId} {args : Array Value} {below : List Frame} {meth : Method} {c : Code} {H : Heap} {locs : List Loc} {cells slots : Nat} {Q : State → Prop} {D : va_G} {h : Nat → Nat} {cy : Nat → ClassId} {σ : St} {cc : ByteArray} {nL pc : Nat} {ls : Array Slot} {rest : List Value} (X : Cx p s m args c D h cy RX3 cc nL) (Z : Zt D h cy s σ H locs) (hdg : decode cc pc = .ok (.getfield 19, 3)) (kk : W p l e R s m args below meth c H locs cells slots Q (F0 m (pc + 3) ls (.ref (h 33) :: rest))) : W p l e R s m args below meth c H locs cells slots Q (F0 m pc ls (.ref (h 46) :: rest)) :=
  x_get (T := TX3) X Z sh_46 ing3 rfl 2 (by decide) fl_RX3_19 rfl rfl hdg kk
theorem fl_RX3_23 : Cond.fieldLink RX3 23 (TX3 3).1 (TX3 3).2.1 (TX3 3).2.2.1 ∈ GT := GT2 116 rfl rfl
theorem gf_RX3_23 {p : Program} {l : Launch} {e : Env} {R : Room} {s : State} {m : MethodId} {args : Array Value} {below : List Frame} {meth : Method} {c : Code} {H : Heap} {locs : List Loc} {cells slots : Nat} {Q : State → Prop} {D : va_G} {h : Nat → Nat} {cy : Nat → ClassId} {σ : St} {cc : ByteArray} {nL pc : Nat} {ls : Array Slot} {rest : List Value} (X : Cx p s m args c D h cy RX3 cc nL) (Z : Zt D h cy s σ H locs) (hdg : decode cc pc = .ok (.getfield 23, 3)) (kk : W p l e R s m args below meth c H locs cells slots Q (F0 m (pc + 3) ls (.ref (h 40) :: rest))) : W p l e R s m args below meth c H locs cells slots Q (F0 m pc ls (.ref (h 46) :: rest)) :=
  x_get (T := TX3) X Z sh_46 ing3 rfl 3 (by decide) fl_RX3_23 rfl rfl hdg kk
theorem fl_RX3_33 : Cond.fieldLink RX3 33 (TX3 4).1 (TX3 4).2.1 (TX3 4).2.2.1 ∈ GT := GT2 117 rfl rfl
theorem gf_RX3_33 {p : Program} {l : Launch} {e : Env} {R : Room} {s : State} {m : MethodId} {args : Array Value} {below : List Frame} {meth : Method} {c : Code} {H : Heap} {locs : List Loc} {cells slots : Nat} {Q : State → Prop} {D : va_G} {h : Nat → Nat} {cy : Nat → ClassId} {σ : St} {cc : ByteArray} {nL pc : Nat} {ls : Array Slot} {rest : List Value} (X : Cx p s m args c D h cy RX3 cc nL) (Z : Zt D h cy s σ H locs) (hdg : decode cc pc = .ok (.getfield 33, 3)) (kk : W p l e R s m args below meth c H locs cells slots Q (F0 m (pc + 3) ls (.ref (h 41) :: rest))) : W p l e R s m args below meth c H locs cells slots Q (F0 m pc ls (.ref (h 46) :: rest)) :=
  x_get (T := TX3) X Z sh_46 ing3 rfl 4 (by decide) fl_RX3_33 rfl rfl hdg kk
theorem fl_RX3_37 : Cond.fieldLink RX3 37 (TX3 5).1 (TX3 5).2.1 (TX3 5).2.2.1 ∈ GT := GT2 118 rfl rfl
theorem gf_RX3_37 {p : Program} {l : Launch} {e : Env} {R : Room} {s : State} {m : MethodId} {args : Array Value} {below : List Frame} {meth : Method} {c : Code} {H : Heap} {locs : List Loc} {cells slots : Nat} {Q : State → Prop} {D : va_G} {h : Nat → Nat} {cy : Nat → ClassId} {σ : St} {cc : ByteArray} {nL pc : Nat} {ls : Array Slot} {rest : List Value} (X : Cx p s m args c D h cy RX3 cc nL) (Z : Zt D h cy s σ H locs) (hdg : decode cc pc = .ok (.getfield 37, 3)) (kk : W p l e R s m args below meth c H locs cells slots Q (F0 m (pc + 3) ls (.ref (h 47) :: rest))) : W p l e R s m args below meth c H locs cells slots Q (F0 m pc ls (.ref (h 46) :: rest)) :=
  x_get (T := TX3) X Z sh_46 ing3 rfl 5 (by decide) fl_RX3_37 rfl rfl hdg kk
theorem fl_RX3_41 : Cond.fieldLink RX3 41 (TX3 6).1 (TX3 6).2.1 (TX3 6).2.2.1 ∈ GT := GT2 120 rfl rfl
theorem gf_RX3_41 {p : Program} {l : Launch} {e : Env} {R : Room} {s : State} {m : MethodId} {args : Array Value} {below : List Frame} {meth : Method} {c : Code} {H : Heap} {locs : List Loc} {cells slots : Nat} {Q : State → Prop} {D : va_G} {h : Nat → Nat} {cy : Nat → ClassId} {σ : St} {cc : ByteArray} {nL pc : Nat} {ls : Array Slot} {rest : List Value} (X : Cx p s m args c D h cy RX3 cc nL) (Z : Zt D h cy s σ H locs) (hdg : decode cc pc = .ok (.getfield 41, 3)) (kk : W p l e R s m args below meth c H locs cells slots Q (F0 m (pc + 3) ls (.ref (h 50) :: rest))) : W p l e R s m args below meth c H locs cells slots Q (F0 m pc ls (.ref (h 46) :: rest)) :=
  x_get (T := TX3) X Z sh_46 ing3 rfl 6 (by decide) fl_RX3_41 rfl rfl hdg kk
theorem fl_RX3_45 : Cond.fieldLink RX3 45 (TX3 7).1 (TX3 7).2.1 (TX3 7).2.2.1 ∈ GT := GT2 121 rfl rfl
theorem gf_RX3_45 {p : Program} {l : Launch} {e : Env} {R : Room} {s : State} {m : MethodId} {args : Array Value} {below : List Frame} {meth : Method} {c : Code} {H : Heap} {locs : List Loc} {cells slots : Nat} {Q : State → Prop} {D : va_G} {h : Nat → Nat} {cy : Nat → ClassId} {σ : St} {cc : ByteArray} {nL pc : Nat} {ls : Array Slot} {rest : List Value} (X : Cx p s m args c D h cy RX3 cc nL) (Z : Zt D h cy s σ H locs) (hdg : decode cc pc = .ok (.getfield 45, 3)) (kk : W p l e R s m args below meth c H locs cells slots Q (F0 m (pc + 3) ls (.ref (h 51) :: rest))) : W p l e R s m args below meth c H locs cells slots Q (F0 m pc ls (.ref (h 46) :: rest)) :=
  x_get (T := TX3) X Z sh_46 ing3 rfl 7 (by decide) fl_RX3_45 rfl rfl hdg kk
theorem fl_RX3_49 : Cond.fieldLink RX3 49 (TX3 8).1 (TX3 8).2.1 (TX3 8).2.2.1 ∈ GT := GT2 122 rfl rfl
theorem gf_RX3_49 {p : Program} {l : Launch} {e : Env} {R : Room} {s : State} {m : MethodId} {args : Array Value} {below : List Frame} {meth : Method} {c : Code} {H : Heap} {locs : List Loc} {cells slots : Nat} {Q : State → Prop} {D : va_G} {h : Nat → Nat} {cy : Nat → ClassId} {σ : St} {cc : ByteArray} {nL pc : Nat} {ls : Array Slot} {rest : List Value} (X : Cx p s m args c D h cy RX3 cc nL) (Z : Zt D h cy s σ H locs) (hdg : decode cc pc = .ok (.getfield 49, 3)) (kk : W p l e R s m args below meth c H locs cells slots Q (F0 m (pc + 3) ls (.ref (h 52) :: rest))) : W p l e R s m args below meth c H locs cells slots Q (F0 m pc ls (.ref (h 46) :: rest)) :=
  x_get (T := TX3) X Z sh_46 ing3 rfl 8 (by decide) fl_RX3_49 rfl rfl hdg kk
theorem fl_RX3_55 : Cond.fieldLink RX3 55 (TX3 9).1 (TX3 9).2.1 (TX3 9).2.2.1 ∈ GT := GT2 123 rfl rfl
theorem gf_RX3_55 {p : Program} {l : Launch} {e : Env} {R : Room} {s : State} {m : MethodId} {args : Array Value} {below : List Frame} {meth : Method} {c : Code} {H : Heap} {locs : List Loc} {cells slots : Nat} {Q : State → Prop} {D : va_G} {h : Nat → Nat} {cy : Nat → ClassId} {σ : St} {cc : ByteArray} {nL pc : Nat} {ls : Array Slot} {rest : List Value} (X : Cx p s m args c D h cy RX3 cc nL) (Z : Zt D h cy s σ H locs) (hdg : decode cc pc = .ok (.getfield 55, 3)) (kk : W p l e R s m args below meth c H locs cells slots Q (F0 m (pc + 3) ls (.int (σ.1 46 9) :: rest))) : W p l e R s m args below meth c H locs cells slots Q (F0 m pc ls (.ref (h 46) :: rest)) :=
  x_get (T := TX3) X Z sh_46 ing3 rfl 9 (by decide) fl_RX3_55 rfl rfl hdg kk
theorem pf_RX3_55 {p : Program} {l : Launch} {e : Env} {R : Room} {s : State} {m : MethodId} {args : Array Value} {below : List Frame} {meth : Method} {c : Code} {H : Heap} {locs : List Loc} {cells slots : Nat} {Q : State → Prop} {D : va_G} {h : Nat → Nat} {cy : Nat → ClassId} {σ : St} {cc : ByteArray} {nL pc : Nat} {ls : Array Slot} {rest : List Value} {v : Int32} (X : Cx p s m args c D h cy RX3 cc nL) (Z : Zt D h cy s σ H locs) (hdg : decode cc pc = .ok (.putfield 55, 3)) (kk : ∀ (σ2 : St) (H : Heap) (locs : List Loc), σ2 = sI σ 46 9 v → Zt D h cy s σ2 H locs → W p l e R s m args below meth c H locs cells slots Q (F0 m (pc + 3) ls rest)) : W p l e R s m args below meth c H locs cells slots Q (F0 m pc ls (.int v :: .ref (h 46) :: rest)) :=
  x_put (T := TX3) X Z sh_46 ing3 tyX3 tyX3_ok nmX3 rfl 9 (by decide) fl_RX3_55 rfl rfl rfl rfl (Nat.le_of_ble_eq_true rfl) _ (wd_sI sh_46 rfl) hdg kk
theorem fl_RX3_59 : Cond.fieldLink RX3 59 (TX0 9).1 (TX0 9).2.1 (TX0 9).2.2.1 ∈ GT := GT2 54 rfl rfl
theorem gf_RX3_59 {p : Program} {l : Launch} {e : Env} {R : Room} {s : State} {m : MethodId} {args : Array Value} {below : List Frame} {meth : Method} {c : Code} {H : Heap} {locs : List Loc} {cells slots : Nat} {Q : State → Prop} {D : va_G} {h : Nat → Nat} {cy : Nat → ClassId} {σ : St} {cc : ByteArray} {nL pc : Nat} {ls : Array Slot} {rest : List Value} (X : Cx p s m args c D h cy RX3 cc nL) (Z : Zt D h cy s σ H locs) (hdg : decode cc pc = .ok (.getfield 59, 3)) (kk : W p l e R s m args below meth c H locs cells slots Q (F0 m (pc + 3) ls (.int (σ.1 40 9) :: rest))) : W p l e R s m args below meth c H locs cells slots Q (F0 m pc ls (.ref (h 40) :: rest)) :=
  x_get (T := TX0) X Z sh_40 ing0 rfl 9 (by decide) fl_RX3_59 rfl rfl hdg kk
theorem fl_RX3_63 : Cond.fieldLink RX3 63 (TX0 10).1 (TX0 10).2.1 (TX0 10).2.2.1 ∈ GT := GT2 56 rfl rfl
theorem gf_RX3_63 {p : Program} {l : Launch} {e : Env} {R : Room} {s : State} {m : MethodId} {args : Array Value} {below : List Frame} {meth : Method} {c : Code} {H : Heap} {locs : List Loc} {cells slots : Nat} {Q : State → Prop} {D : va_G} {h : Nat → Nat} {cy : Nat → ClassId} {σ : St} {cc : ByteArray} {nL pc : Nat} {ls : Array Slot} {rest : List Value} (X : Cx p s m args c D h cy RX3 cc nL) (Z : Zt D h cy s σ H locs) (hdg : decode cc pc = .ok (.getfield 63, 3)) (kk : W p l e R s m args below meth c H locs cells slots Q (F0 m (pc + 3) ls (.int (σ.1 40 10) :: rest))) : W p l e R s m args below meth c H locs cells slots Q (F0 m pc ls (.ref (h 40) :: rest)) :=
  x_get (T := TX0) X Z sh_40 ing0 rfl 10 (by decide) fl_RX3_63 rfl rfl hdg kk
theorem fl_RX3_66 : Cond.fieldLink RX3 66 (TX3 10).1 (TX3 10).2.1 (TX3 10).2.2.1 ∈ GT := GT2 124 rfl rfl
theorem gf_RX3_66 {p : Program} {l : Launch} {e : Env} {R : Room} {s : State} {m : MethodId} {args : Array Value} {below : List Frame} {meth : Method} {c : Code} {H : Heap} {locs : List Loc} {cells slots : Nat} {Q : State → Prop} {D : va_G} {h : Nat → Nat} {cy : Nat → ClassId} {σ : St} {cc : ByteArray} {nL pc : Nat} {ls : Array Slot} {rest : List Value} (X : Cx p s m args c D h cy RX3 cc nL) (Z : Zt D h cy s σ H locs) (hdg : decode cc pc = .ok (.getfield 66, 3)) (kk : W p l e R s m args below meth c H locs cells slots Q (F0 m (pc + 3) ls (.int (σ.1 46 10) :: rest))) : W p l e R s m args below meth c H locs cells slots Q (F0 m pc ls (.ref (h 46) :: rest)) :=
  x_get (T := TX3) X Z sh_46 ing3 rfl 10 (by decide) fl_RX3_66 rfl rfl hdg kk
theorem pf_RX3_66 {p : Program} {l : Launch} {e : Env} {R : Room} {s : State} {m : MethodId} {args : Array Value} {below : List Frame} {meth : Method} {c : Code} {H : Heap} {locs : List Loc} {cells slots : Nat} {Q : State → Prop} {D : va_G} {h : Nat → Nat} {cy : Nat → ClassId} {σ : St} {cc : ByteArray} {nL pc : Nat} {ls : Array Slot} {rest : List Value} {v : Int32} (X : Cx p s m args c D h cy RX3 cc nL) (Z : Zt D h cy s σ H locs) (hdg : decode cc pc = .ok (.putfield 66, 3)) (kk : ∀ (σ2 : St) (H : Heap) (locs : List Loc), σ2 = sI σ 46 10 v → Zt D h cy s σ2 H locs → W p l e R s m args below meth c H locs cells slots Q (F0 m (pc + 3) ls rest)) : W p l e R s m args below meth c H locs cells slots Q (F0 m pc ls (.int v :: .ref (h 46) :: rest)) :=
  x_put (T := TX3) X Z sh_46 ing3 tyX3 tyX3_ok nmX3 rfl 10 (by decide) fl_RX3_66 rfl rfl rfl rfl (Nat.le_of_ble_eq_true rfl) _ (wd_sI sh_46 rfl) hdg kk
theorem fl_RX3_69 : Cond.fieldLink RX3 69 (TX0 11).1 (TX0 11).2.1 (TX0 11).2.2.1 ∈ GT := GT2 58 rfl rfl
theorem gf_RX3_69 {p : Program} {l : Launch} {e : Env} {R : Room} {s : State} {m : MethodId} {args : Array Value} {below : List Frame} {meth : Method} {c : Code} {H : Heap} {locs : List Loc} {cells slots : Nat} {Q : State → Prop} {D : va_G} {h : Nat → Nat} {cy : Nat → ClassId} {σ : St} {cc : ByteArray} {nL pc : Nat} {ls : Array Slot} {rest : List Value} (X : Cx p s m args c D h cy RX3 cc nL) (Z : Zt D h cy s σ H locs) (hdg : decode cc pc = .ok (.getfield 69, 3)) (kk : W p l e R s m args below meth c H locs cells slots Q (F0 m (pc + 3) ls (.int (σ.1 40 11) :: rest))) : W p l e R s m args below meth c H locs cells slots Q (F0 m pc ls (.ref (h 40) :: rest)) :=
  x_get (T := TX0) X Z sh_40 ing0 rfl 11 (by decide) fl_RX3_69 rfl rfl hdg kk
theorem fl_RX3_72 : Cond.fieldLink RX3 72 (TX3 11).1 (TX3 11).2.1 (TX3 11).2.2.1 ∈ GT := GT2 125 rfl rfl
theorem gf_RX3_72 {p : Program} {l : Launch} {e : Env} {R : Room} {s : State} {m : MethodId} {args : Array Value} {below : List Frame} {meth : Method} {c : Code} {H : Heap} {locs : List Loc} {cells slots : Nat} {Q : State → Prop} {D : va_G} {h : Nat → Nat} {cy : Nat → ClassId} {σ : St} {cc : ByteArray} {nL pc : Nat} {ls : Array Slot} {rest : List Value} (X : Cx p s m args c D h cy RX3 cc nL) (Z : Zt D h cy s σ H locs) (hdg : decode cc pc = .ok (.getfield 72, 3)) (kk : W p l e R s m args below meth c H locs cells slots Q (F0 m (pc + 3) ls (.int (σ.1 46 11) :: rest))) : W p l e R s m args below meth c H locs cells slots Q (F0 m pc ls (.ref (h 46) :: rest)) :=
  x_get (T := TX3) X Z sh_46 ing3 rfl 11 (by decide) fl_RX3_72 rfl rfl hdg kk
theorem pf_RX3_72 {p : Program} {l : Launch} {e : Env} {R : Room} {s : State} {m : MethodId} {args : Array Value} {below : List Frame} {meth : Method} {c : Code} {H : Heap} {locs : List Loc} {cells slots : Nat} {Q : State → Prop} {D : va_G} {h : Nat → Nat} {cy : Nat → ClassId} {σ : St} {cc : ByteArray} {nL pc : Nat} {ls : Array Slot} {rest : List Value} {v : Int32} (X : Cx p s m args c D h cy RX3 cc nL) (Z : Zt D h cy s σ H locs) (hdg : decode cc pc = .ok (.putfield 72, 3)) (kk : ∀ (σ2 : St) (H : Heap) (locs : List Loc), σ2 = sI σ 46 11 v → Zt D h cy s σ2 H locs → W p l e R s m args below meth c H locs cells slots Q (F0 m (pc + 3) ls rest)) : W p l e R s m args below meth c H locs cells slots Q (F0 m pc ls (.int v :: .ref (h 46) :: rest)) :=
  x_put (T := TX3) X Z sh_46 ing3 tyX3 tyX3_ok nmX3 rfl 11 (by decide) fl_RX3_72 rfl rfl rfl rfl (Nat.le_of_ble_eq_true rfl) _ (wd_sI sh_46 rfl) hdg kk
theorem fl_RX3_101 : Cond.fieldLink RX3 101 (TX3 12).1 (TX3 12).2.1 (TX3 12).2.2.1 ∈ GT := GT2 126 rfl rfl
theorem gf_RX3_101 {p : Program} {l : Launch} {e : Env} {R : Room} {s : State} {m : MethodId} {args : Array Value} {below : List Frame} {meth : Method} {c : Code} {H : Heap} {locs : List Loc} {cells slots : Nat} {Q : State → Prop} {D : va_G} {h : Nat → Nat} {cy : Nat → ClassId} {σ : St} {cc : ByteArray} {nL pc : Nat} {ls : Array Slot} {rest : List Value} (X : Cx p s m args c D h cy RX3 cc nL) (Z : Zt D h cy s σ H locs) (hdg : decode cc pc = .ok (.getfield 101, 3)) (kk : W p l e R s m args below meth c H locs cells slots Q (F0 m (pc + 3) ls (.int (σ.1 46 12) :: rest))) : W p l e R s m args below meth c H locs cells slots Q (F0 m pc ls (.ref (h 46) :: rest)) :=
  x_get (T := TX3) X Z sh_46 ing3 rfl 12 (by decide) fl_RX3_101 rfl rfl hdg kk
theorem pf_RX3_101 {p : Program} {l : Launch} {e : Env} {R : Room} {s : State} {m : MethodId} {args : Array Value} {below : List Frame} {meth : Method} {c : Code} {H : Heap} {locs : List Loc} {cells slots : Nat} {Q : State → Prop} {D : va_G} {h : Nat → Nat} {cy : Nat → ClassId} {σ : St} {cc : ByteArray} {nL pc : Nat} {ls : Array Slot} {rest : List Value} {v : Int32} (X : Cx p s m args c D h cy RX3 cc nL) (Z : Zt D h cy s σ H locs) (hdg : decode cc pc = .ok (.putfield 101, 3)) (kk : ∀ (σ2 : St) (H : Heap) (locs : List Loc), σ2 = sI σ 46 12 v → Zt D h cy s σ2 H locs → W p l e R s m args below meth c H locs cells slots Q (F0 m (pc + 3) ls rest)) : W p l e R s m args below meth c H locs cells slots Q (F0 m pc ls (.int v :: .ref (h 46) :: rest)) :=
  x_put (T := TX3) X Z sh_46 ing3 tyX3 tyX3_ok nmX3 rfl 12 (by decide) fl_RX3_101 rfl rfl rfl rfl (Nat.le_of_ble_eq_true rfl) _ (wd_sI sh_46 rfl) hdg kk
theorem fl_RX3_104 : Cond.fieldLink RX3 104 (TX7 4).1 (TX7 4).2.1 (TX7 4).2.2.1 ∈ GT := GT2 24 rfl rfl
theorem gf_RX3_104 {p : Program} {l : Launch} {e : Env} {R : Room} {s : State} {m : MethodId} {args : Array Value} {below : List Frame} {meth : Method} {c : Code} {H : Heap} {locs : List Loc} {cells slots : Nat} {Q : State → Prop} {D : va_G} {h : Nat → Nat} {cy : Nat → ClassId} {σ : St} {cc : ByteArray} {nL pc : Nat} {ls : Array Slot} {rest : List Value} (X : Cx p s m args c D h cy RX3 cc nL) (Z : Zt D h cy s σ H locs) {k : Nat} (hk : SegsS k) (hdg : decode cc pc = .ok (.getfield 104, 3)) (kk : W p l e R s m args below meth c H locs cells slots Q (F0 m (pc + 3) ls (.int (σ.1 k 4) :: rest))) : W p l e R s m args below meth c H locs cells slots Q (F0 m pc ls (.ref (h k) :: rest)) :=
  x_get (T := TX7) X Z hk.1 ing7 rfl 4 (by decide) fl_RX3_104 rfl rfl hdg kk
theorem fl_RX3_137 : Cond.fieldLink RX3 137 (TX7 0).1 (TX7 0).2.1 (TX7 0).2.2.1 ∈ GT := GT2 14 rfl rfl
theorem gf_RX3_137 {p : Program} {l : Launch} {e : Env} {R : Room} {s : State} {m : MethodId} {args : Array Value} {below : List Frame} {meth : Method} {c : Code} {H : Heap} {locs : List Loc} {cells slots : Nat} {Q : State → Prop} {D : va_G} {h : Nat → Nat} {cy : Nat → ClassId} {σ : St} {cc : ByteArray} {nL pc : Nat} {ls : Array Slot} {rest : List Value} (X : Cx p s m args c D h cy RX3 cc nL) (Z : Zt D h cy s σ H locs) {k : Nat} (hk : SegsS k) (hdg : decode cc pc = .ok (.getfield 137, 3)) (kk : W p l e R s m args below meth c H locs cells slots Q (F0 m (pc + 3) ls (.ref (h (k + 1)) :: rest))) : W p l e R s m args below meth c H locs cells slots Q (F0 m pc ls (.ref (h k) :: rest)) :=
  x_get (T := TX7) X Z hk.1 ing7 rfl 0 (by decide) fl_RX3_137 rfl rfl hdg kk
theorem fl_RX3_151 : Cond.fieldLink RX3 151 (TX7 1).1 (TX7 1).2.1 (TX7 1).2.2.1 ∈ GT := GT2 17 rfl rfl
theorem gf_RX3_151 {p : Program} {l : Launch} {e : Env} {R : Room} {s : State} {m : MethodId} {args : Array Value} {below : List Frame} {meth : Method} {c : Code} {H : Heap} {locs : List Loc} {cells slots : Nat} {Q : State → Prop} {D : va_G} {h : Nat → Nat} {cy : Nat → ClassId} {σ : St} {cc : ByteArray} {nL pc : Nat} {ls : Array Slot} {rest : List Value} (X : Cx p s m args c D h cy RX3 cc nL) (Z : Zt D h cy s σ H locs) {k : Nat} (hk : SegsS k) (hdg : decode cc pc = .ok (.getfield 151, 3)) (kk : W p l e R s m args below meth c H locs cells slots Q (F0 m (pc + 3) ls (.ref (h (k + 2)) :: rest))) : W p l e R s m args below meth c H locs cells slots Q (F0 m pc ls (.ref (h k) :: rest)) :=
  x_get (T := TX7) X Z hk.1 ing7 rfl 1 (by decide) fl_RX3_151 rfl rfl hdg kk
theorem fl_RX4_12 : Cond.fieldLink RX4 12 (TX4 0).1 (TX4 0).2.1 (TX4 0).2.2.1 ∈ GT := GT2 166 rfl rfl
theorem gf_RX4_12 {p : Program} {l : Launch} {e : Env} {R : Room} {s : State} {m : MethodId} {args : Array Value} {below : List Frame} {meth : Method} {c : Code} {H : Heap} {locs : List Loc} {cells slots : Nat} {Q : State → Prop} {D : va_G} {h : Nat → Nat} {cy : Nat → ClassId} {σ : St} {cc : ByteArray} {nL pc : Nat} {ls : Array Slot} {rest : List Value} (X : Cx p s m args c D h cy RX4 cc nL) (Z : Zt D h cy s σ H locs) (hdg : decode cc pc = .ok (.getfield 12, 3)) (kk : W p l e R s m args below meth c H locs cells slots Q (F0 m (pc + 3) ls (.ref (h 54) :: rest))) : W p l e R s m args below meth c H locs cells slots Q (F0 m pc ls (.ref (h 53) :: rest)) :=
  x_get (T := TX4) X Z sh_53 ing4 rfl 0 (by decide) fl_RX4_12 rfl rfl hdg kk
theorem fl_RX4_23 : Cond.fieldLink RX4 23 (TX4 1).1 (TX4 1).2.1 (TX4 1).2.2.1 ∈ GT := GT2 168 rfl rfl
theorem gf_RX4_23 {p : Program} {l : Launch} {e : Env} {R : Room} {s : State} {m : MethodId} {args : Array Value} {below : List Frame} {meth : Method} {c : Code} {H : Heap} {locs : List Loc} {cells slots : Nat} {Q : State → Prop} {D : va_G} {h : Nat → Nat} {cy : Nat → ClassId} {σ : St} {cc : ByteArray} {nL pc : Nat} {ls : Array Slot} {rest : List Value} (X : Cx p s m args c D h cy RX4 cc nL) (Z : Zt D h cy s σ H locs) (hdg : decode cc pc = .ok (.getfield 23, 3)) (kk : W p l e R s m args below meth c H locs cells slots Q (F0 m (pc + 3) ls (.ref (h 59) :: rest))) : W p l e R s m args below meth c H locs cells slots Q (F0 m pc ls (.ref (h 53) :: rest)) :=
  x_get (T := TX4) X Z sh_53 ing4 rfl 1 (by decide) fl_RX4_23 rfl rfl hdg kk
theorem fl_RX4_30 : Cond.fieldLink RX4 30 (TX4 2).1 (TX4 2).2.1 (TX4 2).2.2.1 ∈ GT := GT2 170 rfl rfl
theorem gf_RX4_30 {p : Program} {l : Launch} {e : Env} {R : Room} {s : State} {m : MethodId} {args : Array Value} {below : List Frame} {meth : Method} {c : Code} {H : Heap} {locs : List Loc} {cells slots : Nat} {Q : State → Prop} {D : va_G} {h : Nat → Nat} {cy : Nat → ClassId} {σ : St} {cc : ByteArray} {nL pc : Nat} {ls : Array Slot} {rest : List Value} (X : Cx p s m args c D h cy RX4 cc nL) (Z : Zt D h cy s σ H locs) (hdg : decode cc pc = .ok (.getfield 30, 3)) (kk : W p l e R s m args below meth c H locs cells slots Q (F0 m (pc + 3) ls (.ref (h 61) :: rest))) : W p l e R s m args below meth c H locs cells slots Q (F0 m pc ls (.ref (h 53) :: rest)) :=
  x_get (T := TX4) X Z sh_53 ing4 rfl 2 (by decide) fl_RX4_30 rfl rfl hdg kk
theorem fl_RX4_34 : Cond.fieldLink RX4 34 (TX4 3).1 (TX4 3).2.1 (TX4 3).2.2.1 ∈ GT := GT2 172 rfl rfl
theorem gf_RX4_34 {p : Program} {l : Launch} {e : Env} {R : Room} {s : State} {m : MethodId} {args : Array Value} {below : List Frame} {meth : Method} {c : Code} {H : Heap} {locs : List Loc} {cells slots : Nat} {Q : State → Prop} {D : va_G} {h : Nat → Nat} {cy : Nat → ClassId} {σ : St} {cc : ByteArray} {nL pc : Nat} {ls : Array Slot} {rest : List Value} (X : Cx p s m args c D h cy RX4 cc nL) (Z : Zt D h cy s σ H locs) (hdg : decode cc pc = .ok (.getfield 34, 3)) (kk : W p l e R s m args below meth c H locs cells slots Q (F0 m (pc + 3) ls (.ref (h 64) :: rest))) : W p l e R s m args below meth c H locs cells slots Q (F0 m pc ls (.ref (h 53) :: rest)) :=
  x_get (T := TX4) X Z sh_53 ing4 rfl 3 (by decide) fl_RX4_34 rfl rfl hdg kk
theorem fl_RX4_37 : Cond.fieldLink RX4 37 (TX4 4).1 (TX4 4).2.1 (TX4 4).2.2.1 ∈ GT := GT2 173 rfl rfl
theorem gf_RX4_37 {p : Program} {l : Launch} {e : Env} {R : Room} {s : State} {m : MethodId} {args : Array Value} {below : List Frame} {meth : Method} {c : Code} {H : Heap} {locs : List Loc} {cells slots : Nat} {Q : State → Prop} {D : va_G} {h : Nat → Nat} {cy : Nat → ClassId} {σ : St} {cc : ByteArray} {nL pc : Nat} {ls : Array Slot} {rest : List Value} (X : Cx p s m args c D h cy RX4 cc nL) (Z : Zt D h cy s σ H locs) (hdg : decode cc pc = .ok (.getfield 37, 3)) (kk : W p l e R s m args below meth c H locs cells slots Q (F0 m (pc + 3) ls (.ref (h 66) :: rest))) : W p l e R s m args below meth c H locs cells slots Q (F0 m pc ls (.ref (h 53) :: rest)) :=
  x_get (T := TX4) X Z sh_53 ing4 rfl 4 (by decide) fl_RX4_37 rfl rfl hdg kk
theorem fl_RX4_41 : Cond.fieldLink RX4 41 (TX4 5).1 (TX4 5).2.1 (TX4 5).2.2.1 ∈ GT := GT2 174 rfl rfl
theorem gf_RX4_41 {p : Program} {l : Launch} {e : Env} {R : Room} {s : State} {m : MethodId} {args : Array Value} {below : List Frame} {meth : Method} {c : Code} {H : Heap} {locs : List Loc} {cells slots : Nat} {Q : State → Prop} {D : va_G} {h : Nat → Nat} {cy : Nat → ClassId} {σ : St} {cc : ByteArray} {nL pc : Nat} {ls : Array Slot} {rest : List Value} (X : Cx p s m args c D h cy RX4 cc nL) (Z : Zt D h cy s σ H locs) (hdg : decode cc pc = .ok (.getfield 41, 3)) (kk : W p l e R s m args below meth c H locs cells slots Q (F0 m (pc + 3) ls (.ref (h 67) :: rest))) : W p l e R s m args below meth c H locs cells slots Q (F0 m pc ls (.ref (h 53) :: rest)) :=
  x_get (T := TX4) X Z sh_53 ing4 rfl 5 (by decide) fl_RX4_41 rfl rfl hdg kk
theorem fl_RX4_44 : Cond.fieldLink RX4 44 (TX4 6).1 (TX4 6).2.1 (TX4 6).2.2.1 ∈ GT := GT2 175 rfl rfl
theorem gf_RX4_44 {p : Program} {l : Launch} {e : Env} {R : Room} {s : State} {m : MethodId} {args : Array Value} {below : List Frame} {meth : Method} {c : Code} {H : Heap} {locs : List Loc} {cells slots : Nat} {Q : State → Prop} {D : va_G} {h : Nat → Nat} {cy : Nat → ClassId} {σ : St} {cc : ByteArray} {nL pc : Nat} {ls : Array Slot} {rest : List Value} (X : Cx p s m args c D h cy RX4 cc nL) (Z : Zt D h cy s σ H locs) (hdg : decode cc pc = .ok (.getfield 44, 3)) (kk : W p l e R s m args below meth c H locs cells slots Q (F0 m (pc + 3) ls (.int (σ.1 53 6) :: rest))) : W p l e R s m args below meth c H locs cells slots Q (F0 m pc ls (.ref (h 53) :: rest)) :=
  x_get (T := TX4) X Z sh_53 ing4 rfl 6 (by decide) fl_RX4_44 rfl rfl hdg kk
theorem pf_RX4_44 {p : Program} {l : Launch} {e : Env} {R : Room} {s : State} {m : MethodId} {args : Array Value} {below : List Frame} {meth : Method} {c : Code} {H : Heap} {locs : List Loc} {cells slots : Nat} {Q : State → Prop} {D : va_G} {h : Nat → Nat} {cy : Nat → ClassId} {σ : St} {cc : ByteArray} {nL pc : Nat} {ls : Array Slot} {rest : List Value} {v : Int32} (X : Cx p s m args c D h cy RX4 cc nL) (Z : Zt D h cy s σ H locs) (hdg : decode cc pc = .ok (.putfield 44, 3)) (kk : ∀ (σ2 : St) (H : Heap) (locs : List Loc), σ2 = sI σ 53 6 v → Zt D h cy s σ2 H locs → W p l e R s m args below meth c H locs cells slots Q (F0 m (pc + 3) ls rest)) : W p l e R s m args below meth c H locs cells slots Q (F0 m pc ls (.int v :: .ref (h 53) :: rest)) :=
  x_put (T := TX4) X Z sh_53 ing4 tyX4 tyX4_ok nmX4 rfl 6 (by decide) fl_RX4_44 rfl rfl rfl rfl (Nat.le_of_ble_eq_true rfl) _ (wd_sI sh_53 rfl) hdg kk
theorem fl_RX4_48 : Cond.fieldLink RX4 48 (TX0 2).1 (TX0 2).2.1 (TX0 2).2.2.1 ∈ GT := GT2 42 rfl rfl
theorem gf_RX4_48 {p : Program} {l : Launch} {e : Env} {R : Room} {s : State} {m : MethodId} {args : Array Value} {below : List Frame} {meth : Method} {c : Code} {H : Heap} {locs : List Loc} {cells slots : Nat} {Q : State → Prop} {D : va_G} {h : Nat → Nat} {cy : Nat → ClassId} {σ : St} {cc : ByteArray} {nL pc : Nat} {ls : Array Slot} {rest : List Value} (X : Cx p s m args c D h cy RX4 cc nL) (Z : Zt D h cy s σ H locs) (hdg : decode cc pc = .ok (.getfield 48, 3)) (kk : W p l e R s m args below meth c H locs cells slots Q (F0 m (pc + 3) ls (.ref (h 41) :: rest))) : W p l e R s m args below meth c H locs cells slots Q (F0 m pc ls (.ref (h 40) :: rest)) :=
  x_get (T := TX0) X Z sh_40 ing0 rfl 2 (by decide) fl_RX4_48 rfl rfl hdg kk
theorem fl_RX4_58 : Cond.fieldLink RX4 58 (TX6 0).1 (TX6 0).2.1 (TX6 0).2.2.1 ∈ GT := GT1 36 rfl rfl
theorem gf_RX4_58 {p : Program} {l : Launch} {e : Env} {R : Room} {s : State} {m : MethodId} {args : Array Value} {below : List Frame} {meth : Method} {c : Code} {H : Heap} {locs : List Loc} {cells slots : Nat} {Q : State → Prop} {D : va_G} {h : Nat → Nat} {cy : Nat → ClassId} {σ : St} {cc : ByteArray} {nL pc : Nat} {ls : Array Slot} {rest : List Value} (X : Cx p s m args c D h cy RX4 cc nL) (Z : Zt D h cy s σ H locs) {k n : Nat} (hk : RowS k n) (hdg : decode cc pc = .ok (.getfield 58, 3)) (kk : W p l e R s m args below meth c H locs cells slots Q (F0 m (pc + 3) ls (.ref (h (k + 1)) :: rest))) : W p l e R s m args below meth c H locs cells slots Q (F0 m pc ls (.ref (h k) :: rest)) :=
  x_get (T := TX6) X Z hk.1 ing6 rfl 0 (by decide) fl_RX4_58 rfl rfl hdg kk
theorem fl_RX4_62 : Cond.fieldLink RX4 62 (TX0 7).1 (TX0 7).2.1 (TX0 7).2.2.1 ∈ GT := GT2 50 rfl rfl
theorem gf_RX4_62 {p : Program} {l : Launch} {e : Env} {R : Room} {s : State} {m : MethodId} {args : Array Value} {below : List Frame} {meth : Method} {c : Code} {H : Heap} {locs : List Loc} {cells slots : Nat} {Q : State → Prop} {D : va_G} {h : Nat → Nat} {cy : Nat → ClassId} {σ : St} {cc : ByteArray} {nL pc : Nat} {ls : Array Slot} {rest : List Value} (X : Cx p s m args c D h cy RX4 cc nL) (Z : Zt D h cy s σ H locs) (hdg : decode cc pc = .ok (.getfield 62, 3)) (kk : W p l e R s m args below meth c H locs cells slots Q (F0 m (pc + 3) ls (.int (σ.1 40 7) :: rest))) : W p l e R s m args below meth c H locs cells slots Q (F0 m pc ls (.ref (h 40) :: rest)) :=
  x_get (T := TX0) X Z sh_40 ing0 rfl 7 (by decide) fl_RX4_62 rfl rfl hdg kk
theorem fl_RX4_64 : Cond.fieldLink RX4 64 (TX0 8).1 (TX0 8).2.1 (TX0 8).2.2.1 ∈ GT := GT2 52 rfl rfl
theorem gf_RX4_64 {p : Program} {l : Launch} {e : Env} {R : Room} {s : State} {m : MethodId} {args : Array Value} {below : List Frame} {meth : Method} {c : Code} {H : Heap} {locs : List Loc} {cells slots : Nat} {Q : State → Prop} {D : va_G} {h : Nat → Nat} {cy : Nat → ClassId} {σ : St} {cc : ByteArray} {nL pc : Nat} {ls : Array Slot} {rest : List Value} (X : Cx p s m args c D h cy RX4 cc nL) (Z : Zt D h cy s σ H locs) (hdg : decode cc pc = .ok (.getfield 64, 3)) (kk : W p l e R s m args below meth c H locs cells slots Q (F0 m (pc + 3) ls (.int (σ.1 40 8) :: rest))) : W p l e R s m args below meth c H locs cells slots Q (F0 m pc ls (.ref (h 40) :: rest)) :=
  x_get (T := TX0) X Z sh_40 ing0 rfl 8 (by decide) fl_RX4_64 rfl rfl hdg kk
theorem fl_RX4_71 : Cond.fieldLink RX4 71 (TX0 5).1 (TX0 5).2.1 (TX0 5).2.2.1 ∈ GT := GT2 46 rfl rfl
theorem gf_RX4_71 {p : Program} {l : Launch} {e : Env} {R : Room} {s : State} {m : MethodId} {args : Array Value} {below : List Frame} {meth : Method} {c : Code} {H : Heap} {locs : List Loc} {cells slots : Nat} {Q : State → Prop} {D : va_G} {h : Nat → Nat} {cy : Nat → ClassId} {σ : St} {cc : ByteArray} {nL pc : Nat} {ls : Array Slot} {rest : List Value} (X : Cx p s m args c D h cy RX4 cc nL) (Z : Zt D h cy s σ H locs) (hdg : decode cc pc = .ok (.getfield 71, 3)) (kk : W p l e R s m args below meth c H locs cells slots Q (F0 m (pc + 3) ls (.int (σ.1 40 5) :: rest))) : W p l e R s m args below meth c H locs cells slots Q (F0 m pc ls (.ref (h 40) :: rest)) :=
  x_get (T := TX0) X Z sh_40 ing0 rfl 5 (by decide) fl_RX4_71 rfl rfl hdg kk
theorem fl_RX4_72 : Cond.fieldLink RX4 72 (TX0 6).1 (TX0 6).2.1 (TX0 6).2.2.1 ∈ GT := GT2 48 rfl rfl
theorem gf_RX4_72 {p : Program} {l : Launch} {e : Env} {R : Room} {s : State} {m : MethodId} {args : Array Value} {below : List Frame} {meth : Method} {c : Code} {H : Heap} {locs : List Loc} {cells slots : Nat} {Q : State → Prop} {D : va_G} {h : Nat → Nat} {cy : Nat → ClassId} {σ : St} {cc : ByteArray} {nL pc : Nat} {ls : Array Slot} {rest : List Value} (X : Cx p s m args c D h cy RX4 cc nL) (Z : Zt D h cy s σ H locs) (hdg : decode cc pc = .ok (.getfield 72, 3)) (kk : W p l e R s m args below meth c H locs cells slots Q (F0 m (pc + 3) ls (.int (σ.1 40 6) :: rest))) : W p l e R s m args below meth c H locs cells slots Q (F0 m pc ls (.ref (h 40) :: rest)) :=
  x_get (T := TX0) X Z sh_40 ing0 rfl 6 (by decide) fl_RX4_72 rfl rfl hdg kk
theorem fl_RX4_80 : Cond.fieldLink RX4 80 (TX7 4).1 (TX7 4).2.1 (TX7 4).2.2.1 ∈ GT := GT2 23 rfl rfl
theorem gf_RX4_80 {p : Program} {l : Launch} {e : Env} {R : Room} {s : State} {m : MethodId} {args : Array Value} {below : List Frame} {meth : Method} {c : Code} {H : Heap} {locs : List Loc} {cells slots : Nat} {Q : State → Prop} {D : va_G} {h : Nat → Nat} {cy : Nat → ClassId} {σ : St} {cc : ByteArray} {nL pc : Nat} {ls : Array Slot} {rest : List Value} (X : Cx p s m args c D h cy RX4 cc nL) (Z : Zt D h cy s σ H locs) {k : Nat} (hk : SegsS k) (hdg : decode cc pc = .ok (.getfield 80, 3)) (kk : W p l e R s m args below meth c H locs cells slots Q (F0 m (pc + 3) ls (.int (σ.1 k 4) :: rest))) : W p l e R s m args below meth c H locs cells slots Q (F0 m pc ls (.ref (h k) :: rest)) :=
  x_get (T := TX7) X Z hk.1 ing7 rfl 4 (by decide) fl_RX4_80 rfl rfl hdg kk
theorem fl_RX4_83 : Cond.fieldLink RX4 83 (TX7 0).1 (TX7 0).2.1 (TX7 0).2.2.1 ∈ GT := GT2 13 rfl rfl
theorem gf_RX4_83 {p : Program} {l : Launch} {e : Env} {R : Room} {s : State} {m : MethodId} {args : Array Value} {below : List Frame} {meth : Method} {c : Code} {H : Heap} {locs : List Loc} {cells slots : Nat} {Q : State → Prop} {D : va_G} {h : Nat → Nat} {cy : Nat → ClassId} {σ : St} {cc : ByteArray} {nL pc : Nat} {ls : Array Slot} {rest : List Value} (X : Cx p s m args c D h cy RX4 cc nL) (Z : Zt D h cy s σ H locs) {k : Nat} (hk : SegsS k) (hdg : decode cc pc = .ok (.getfield 83, 3)) (kk : W p l e R s m args below meth c H locs cells slots Q (F0 m (pc + 3) ls (.ref (h (k + 1)) :: rest))) : W p l e R s m args below meth c H locs cells slots Q (F0 m pc ls (.ref (h k) :: rest)) :=
  x_get (T := TX7) X Z hk.1 ing7 rfl 0 (by decide) fl_RX4_83 rfl rfl hdg kk
theorem fl_RX4_86 : Cond.fieldLink RX4 86 (TX7 1).1 (TX7 1).2.1 (TX7 1).2.2.1 ∈ GT := GT2 16 rfl rfl
theorem gf_RX4_86 {p : Program} {l : Launch} {e : Env} {R : Room} {s : State} {m : MethodId} {args : Array Value} {below : List Frame} {meth : Method} {c : Code} {H : Heap} {locs : List Loc} {cells slots : Nat} {Q : State → Prop} {D : va_G} {h : Nat → Nat} {cy : Nat → ClassId} {σ : St} {cc : ByteArray} {nL pc : Nat} {ls : Array Slot} {rest : List Value} (X : Cx p s m args c D h cy RX4 cc nL) (Z : Zt D h cy s σ H locs) {k : Nat} (hk : SegsS k) (hdg : decode cc pc = .ok (.getfield 86, 3)) (kk : W p l e R s m args below meth c H locs cells slots Q (F0 m (pc + 3) ls (.ref (h (k + 2)) :: rest))) : W p l e R s m args below meth c H locs cells slots Q (F0 m pc ls (.ref (h k) :: rest)) :=
  x_get (T := TX7) X Z hk.1 ing7 rfl 1 (by decide) fl_RX4_86 rfl rfl hdg kk
theorem fl_RX4_89 : Cond.fieldLink RX4 89 (TX6 1).1 (TX6 1).2.1 (TX6 1).2.2.1 ∈ GT := GT1 40 rfl rfl
theorem gf_RX4_89 {p : Program} {l : Launch} {e : Env} {R : Room} {s : State} {m : MethodId} {args : Array Value} {below : List Frame} {meth : Method} {c : Code} {H : Heap} {locs : List Loc} {cells slots : Nat} {Q : State → Prop} {D : va_G} {h : Nat → Nat} {cy : Nat → ClassId} {σ : St} {cc : ByteArray} {nL pc : Nat} {ls : Array Slot} {rest : List Value} (X : Cx p s m args c D h cy RX4 cc nL) (Z : Zt D h cy s σ H locs) {k n : Nat} (hk : RowS k n) (hdg : decode cc pc = .ok (.getfield 89, 3)) (kk : W p l e R s m args below meth c H locs cells slots Q (F0 m (pc + 3) ls (.int (σ.1 k 1) :: rest))) : W p l e R s m args below meth c H locs cells slots Q (F0 m pc ls (.ref (h k) :: rest)) :=
  x_get (T := TX6) X Z hk.1 ing6 rfl 1 (by decide) fl_RX4_89 rfl rfl hdg kk
theorem fl_RX4_92 : Cond.fieldLink RX4 92 (TX7 3).1 (TX7 3).2.1 (TX7 3).2.2.1 ∈ GT := GT2 21 rfl rfl
theorem gf_RX4_92 {p : Program} {l : Launch} {e : Env} {R : Room} {s : State} {m : MethodId} {args : Array Value} {below : List Frame} {meth : Method} {c : Code} {H : Heap} {locs : List Loc} {cells slots : Nat} {Q : State → Prop} {D : va_G} {h : Nat → Nat} {cy : Nat → ClassId} {σ : St} {cc : ByteArray} {nL pc : Nat} {ls : Array Slot} {rest : List Value} (X : Cx p s m args c D h cy RX4 cc nL) (Z : Zt D h cy s σ H locs) {k : Nat} (hk : SegsS k) (hdg : decode cc pc = .ok (.getfield 92, 3)) (kk : W p l e R s m args below meth c H locs cells slots Q (F0 m (pc + 3) ls (.ref (h (k + 4)) :: rest))) : W p l e R s m args below meth c H locs cells slots Q (F0 m pc ls (.ref (h k) :: rest)) :=
  x_get (T := TX7) X Z hk.1 ing7 rfl 3 (by decide) fl_RX4_92 rfl rfl hdg kk
theorem fl_RX4_98 : Cond.fieldLink RX4 98 (TX7 2).1 (TX7 2).2.1 (TX7 2).2.2.1 ∈ GT := GT2 19 rfl rfl
theorem gf_RX4_98 {p : Program} {l : Launch} {e : Env} {R : Room} {s : State} {m : MethodId} {args : Array Value} {below : List Frame} {meth : Method} {c : Code} {H : Heap} {locs : List Loc} {cells slots : Nat} {Q : State → Prop} {D : va_G} {h : Nat → Nat} {cy : Nat → ClassId} {σ : St} {cc : ByteArray} {nL pc : Nat} {ls : Array Slot} {rest : List Value} (X : Cx p s m args c D h cy RX4 cc nL) (Z : Zt D h cy s σ H locs) {k : Nat} (hk : SegsS k) (hdg : decode cc pc = .ok (.getfield 98, 3)) (kk : W p l e R s m args below meth c H locs cells slots Q (F0 m (pc + 3) ls (.ref (h (k + 3)) :: rest))) : W p l e R s m args below meth c H locs cells slots Q (F0 m pc ls (.ref (h k) :: rest)) :=
  x_get (T := TX7) X Z hk.1 ing7 rfl 2 (by decide) fl_RX4_98 rfl rfl hdg kk
theorem fl_RX4_105 : Cond.fieldLink RX4 105 (TX3 5).1 (TX3 5).2.1 (TX3 5).2.2.1 ∈ GT := GT2 119 rfl rfl
theorem gf_RX4_105 {p : Program} {l : Launch} {e : Env} {R : Room} {s : State} {m : MethodId} {args : Array Value} {below : List Frame} {meth : Method} {c : Code} {H : Heap} {locs : List Loc} {cells slots : Nat} {Q : State → Prop} {D : va_G} {h : Nat → Nat} {cy : Nat → ClassId} {σ : St} {cc : ByteArray} {nL pc : Nat} {ls : Array Slot} {rest : List Value} (X : Cx p s m args c D h cy RX4 cc nL) (Z : Zt D h cy s σ H locs) (hdg : decode cc pc = .ok (.getfield 105, 3)) (kk : W p l e R s m args below meth c H locs cells slots Q (F0 m (pc + 3) ls (.ref (h 47) :: rest))) : W p l e R s m args below meth c H locs cells slots Q (F0 m pc ls (.ref (h 46) :: rest)) :=
  x_get (T := TX3) X Z sh_46 ing3 rfl 5 (by decide) fl_RX4_105 rfl rfl hdg kk
theorem fl_RX4_108 : Cond.fieldLink RX4 108 (TX9 2).1 (TX9 2).2.1 (TX9 2).2.2.1 ∈ GT := GT2 104 rfl rfl
theorem gf_RX4_108 {p : Program} {l : Launch} {e : Env} {R : Room} {s : State} {m : MethodId} {args : Array Value} {below : List Frame} {meth : Method} {c : Code} {H : Heap} {locs : List Loc} {cells slots : Nat} {Q : State → Prop} {D : va_G} {h : Nat → Nat} {cy : Nat → ClassId} {σ : St} {cc : ByteArray} {nL pc : Nat} {ls : Array Slot} {rest : List Value} (X : Cx p s m args c D h cy RX4 cc nL) (Z : Zt D h cy s σ H locs) {k : Nat} (hk : VisS k) (hdg : decode cc pc = .ok (.getfield 108, 3)) (kk : W p l e R s m args below meth c H locs cells slots Q (F0 m (pc + 3) ls (.int (σ.1 k 2) :: rest))) : W p l e R s m args below meth c H locs cells slots Q (F0 m pc ls (.ref (h k) :: rest)) :=
  x_get (T := TX9) X Z hk.1 ing9 rfl 2 (by decide) fl_RX4_108 rfl rfl hdg kk
theorem fl_RX4_109 : Cond.fieldLink RX4 109 (TX9 0).1 (TX9 0).2.1 (TX9 0).2.2.1 ∈ GT := GT2 98 rfl rfl
theorem gf_RX4_109 {p : Program} {l : Launch} {e : Env} {R : Room} {s : State} {m : MethodId} {args : Array Value} {below : List Frame} {meth : Method} {c : Code} {H : Heap} {locs : List Loc} {cells slots : Nat} {Q : State → Prop} {D : va_G} {h : Nat → Nat} {cy : Nat → ClassId} {σ : St} {cc : ByteArray} {nL pc : Nat} {ls : Array Slot} {rest : List Value} (X : Cx p s m args c D h cy RX4 cc nL) (Z : Zt D h cy s σ H locs) {k : Nat} (hk : VisS k) (hdg : decode cc pc = .ok (.getfield 109, 3)) (kk : W p l e R s m args below meth c H locs cells slots Q (F0 m (pc + 3) ls (.ref (h (k + 1)) :: rest))) : W p l e R s m args below meth c H locs cells slots Q (F0 m pc ls (.ref (h k) :: rest)) :=
  x_get (T := TX9) X Z hk.1 ing9 rfl 0 (by decide) fl_RX4_109 rfl rfl hdg kk
theorem fl_RX4_110 : Cond.fieldLink RX4 110 (TX9 1).1 (TX9 1).2.1 (TX9 1).2.2.1 ∈ GT := GT2 101 rfl rfl
theorem gf_RX4_110 {p : Program} {l : Launch} {e : Env} {R : Room} {s : State} {m : MethodId} {args : Array Value} {below : List Frame} {meth : Method} {c : Code} {H : Heap} {locs : List Loc} {cells slots : Nat} {Q : State → Prop} {D : va_G} {h : Nat → Nat} {cy : Nat → ClassId} {σ : St} {cc : ByteArray} {nL pc : Nat} {ls : Array Slot} {rest : List Value} (X : Cx p s m args c D h cy RX4 cc nL) (Z : Zt D h cy s σ H locs) {k : Nat} (hk : VisS k) (hdg : decode cc pc = .ok (.getfield 110, 3)) (kk : W p l e R s m args below meth c H locs cells slots Q (F0 m (pc + 3) ls (.ref (h (k + 2)) :: rest))) : W p l e R s m args below meth c H locs cells slots Q (F0 m pc ls (.ref (h k) :: rest)) :=
  x_get (T := TX9) X Z hk.1 ing9 rfl 1 (by decide) fl_RX4_110 rfl rfl hdg kk
theorem fl_RX5_9 : Cond.fieldLink RX5 9 (TX5 0).1 (TX5 0).2.1 (TX5 0).2.2.1 ∈ GT := GT1 63 rfl rfl
theorem gf_RX5_9 {p : Program} {l : Launch} {e : Env} {R : Room} {s : State} {m : MethodId} {args : Array Value} {below : List Frame} {meth : Method} {c : Code} {H : Heap} {locs : List Loc} {cells slots : Nat} {Q : State → Prop} {D : va_G} {h : Nat → Nat} {cy : Nat → ClassId} {σ : St} {cc : ByteArray} {nL pc : Nat} {ls : Array Slot} {rest : List Value} (X : Cx p s m args c D h cy RX5 cc nL) (Z : Zt D h cy s σ H locs) {k b n : Nat} (hk : NamesS k b n) (hdg : decode cc pc = .ok (.getfield 9, 3)) (kk : W p l e R s m args below meth c H locs cells slots Q (F0 m (pc + 3) ls (.ref (h (k + 1)) :: rest))) : W p l e R s m args below meth c H locs cells slots Q (F0 m pc ls (.ref (h k) :: rest)) :=
  x_get (T := TX5) X Z hk.1 ing5 rfl 0 (by decide) fl_RX5_9 rfl rfl hdg kk
theorem fl_RX5_15 : Cond.fieldLink RX5 15 (TX5 1).1 (TX5 1).2.1 (TX5 1).2.2.1 ∈ GT := GT1 65 rfl rfl
theorem gf_RX5_15 {p : Program} {l : Launch} {e : Env} {R : Room} {s : State} {m : MethodId} {args : Array Value} {below : List Frame} {meth : Method} {c : Code} {H : Heap} {locs : List Loc} {cells slots : Nat} {Q : State → Prop} {D : va_G} {h : Nat → Nat} {cy : Nat → ClassId} {σ : St} {cc : ByteArray} {nL pc : Nat} {ls : Array Slot} {rest : List Value} (X : Cx p s m args c D h cy RX5 cc nL) (Z : Zt D h cy s σ H locs) {k b n : Nat} (hk : NamesS k b n) (hdg : decode cc pc = .ok (.getfield 15, 3)) (kk : W p l e R s m args below meth c H locs cells slots Q (F0 m (pc + 3) ls (.ref (h (k + 2)) :: rest))) : W p l e R s m args below meth c H locs cells slots Q (F0 m pc ls (.ref (h k) :: rest)) :=
  x_get (T := TX5) X Z hk.1 ing5 rfl 1 (by decide) fl_RX5_15 rfl rfl hdg kk
theorem fl_RX5_19 : Cond.fieldLink RX5 19 (TX5 2).1 (TX5 2).2.1 (TX5 2).2.2.1 ∈ GT := GT1 68 rfl rfl
theorem gf_RX5_19 {p : Program} {l : Launch} {e : Env} {R : Room} {s : State} {m : MethodId} {args : Array Value} {below : List Frame} {meth : Method} {c : Code} {H : Heap} {locs : List Loc} {cells slots : Nat} {Q : State → Prop} {D : va_G} {h : Nat → Nat} {cy : Nat → ClassId} {σ : St} {cc : ByteArray} {nL pc : Nat} {ls : Array Slot} {rest : List Value} (X : Cx p s m args c D h cy RX5 cc nL) (Z : Zt D h cy s σ H locs) {k b n : Nat} (hk : NamesS k b n) (hdg : decode cc pc = .ok (.getfield 19, 3)) (kk : W p l e R s m args below meth c H locs cells slots Q (F0 m (pc + 3) ls (.int (σ.1 k 2) :: rest))) : W p l e R s m args below meth c H locs cells slots Q (F0 m pc ls (.ref (h k) :: rest)) :=
  x_get (T := TX5) X Z hk.1 ing5 rfl 2 (by decide) fl_RX5_19 rfl rfl hdg kk
theorem pf_RX5_19 {p : Program} {l : Launch} {e : Env} {R : Room} {s : State} {m : MethodId} {args : Array Value} {below : List Frame} {meth : Method} {c : Code} {H : Heap} {locs : List Loc} {cells slots : Nat} {Q : State → Prop} {D : va_G} {h : Nat → Nat} {cy : Nat → ClassId} {σ : St} {cc : ByteArray} {nL pc : Nat} {ls : Array Slot} {rest : List Value} {v : Int32} (X : Cx p s m args c D h cy RX5 cc nL) (Z : Zt D h cy s σ H locs) {k b n : Nat} (hk : NamesS k b n) (hdg : decode cc pc = .ok (.putfield 19, 3)) (kk : ∀ (σ2 : St) (H : Heap) (locs : List Loc), σ2 = sI σ k 2 v → Zt D h cy s σ2 H locs → W p l e R s m args below meth c H locs cells slots Q (F0 m (pc + 3) ls rest)) : W p l e R s m args below meth c H locs cells slots Q (F0 m pc ls (.int v :: .ref (h k) :: rest)) :=
  x_put (T := TX5) X Z hk.1 ing5 tyX5 tyX5_ok nmX5 rfl 2 (by decide) fl_RX5_19 rfl rfl rfl rfl (Nat.le_of_ble_eq_true rfl) _ (wd_sI hk.1 rfl) hdg kk
theorem fl_RX5_33 : Cond.fieldLink RX5 33 (TX6 1).1 (TX6 1).2.1 (TX6 1).2.2.1 ∈ GT := GT1 43 rfl rfl
theorem gf_RX5_33 {p : Program} {l : Launch} {e : Env} {R : Room} {s : State} {m : MethodId} {args : Array Value} {below : List Frame} {meth : Method} {c : Code} {H : Heap} {locs : List Loc} {cells slots : Nat} {Q : State → Prop} {D : va_G} {h : Nat → Nat} {cy : Nat → ClassId} {σ : St} {cc : ByteArray} {nL pc : Nat} {ls : Array Slot} {rest : List Value} (X : Cx p s m args c D h cy RX5 cc nL) (Z : Zt D h cy s σ H locs) {k n : Nat} (hk : RowS k n) (hdg : decode cc pc = .ok (.getfield 33, 3)) (kk : W p l e R s m args below meth c H locs cells slots Q (F0 m (pc + 3) ls (.int (σ.1 k 1) :: rest))) : W p l e R s m args below meth c H locs cells slots Q (F0 m pc ls (.ref (h k) :: rest)) :=
  x_get (T := TX6) X Z hk.1 ing6 rfl 1 (by decide) fl_RX5_33 rfl rfl hdg kk
theorem fl_RX6_9 : Cond.fieldLink RX6 9 (TX6 0).1 (TX6 0).2.1 (TX6 0).2.2.1 ∈ GT := GT1 35 rfl rfl
theorem gf_RX6_9 {p : Program} {l : Launch} {e : Env} {R : Room} {s : State} {m : MethodId} {args : Array Value} {below : List Frame} {meth : Method} {c : Code} {H : Heap} {locs : List Loc} {cells slots : Nat} {Q : State → Prop} {D : va_G} {h : Nat → Nat} {cy : Nat → ClassId} {σ : St} {cc : ByteArray} {nL pc : Nat} {ls : Array Slot} {rest : List Value} (X : Cx p s m args c D h cy RX6 cc nL) (Z : Zt D h cy s σ H locs) {k n : Nat} (hk : RowS k n) (hdg : decode cc pc = .ok (.getfield 9, 3)) (kk : W p l e R s m args below meth c H locs cells slots Q (F0 m (pc + 3) ls (.ref (h (k + 1)) :: rest))) : W p l e R s m args below meth c H locs cells slots Q (F0 m pc ls (.ref (h k) :: rest)) :=
  x_get (T := TX6) X Z hk.1 ing6 rfl 0 (by decide) fl_RX6_9 rfl rfl hdg kk
theorem fl_RX6_15 : Cond.fieldLink RX6 15 (TX6 1).1 (TX6 1).2.1 (TX6 1).2.2.1 ∈ GT := GT1 38 rfl rfl
theorem gf_RX6_15 {p : Program} {l : Launch} {e : Env} {R : Room} {s : State} {m : MethodId} {args : Array Value} {below : List Frame} {meth : Method} {c : Code} {H : Heap} {locs : List Loc} {cells slots : Nat} {Q : State → Prop} {D : va_G} {h : Nat → Nat} {cy : Nat → ClassId} {σ : St} {cc : ByteArray} {nL pc : Nat} {ls : Array Slot} {rest : List Value} (X : Cx p s m args c D h cy RX6 cc nL) (Z : Zt D h cy s σ H locs) {k n : Nat} (hk : RowS k n) (hdg : decode cc pc = .ok (.getfield 15, 3)) (kk : W p l e R s m args below meth c H locs cells slots Q (F0 m (pc + 3) ls (.int (σ.1 k 1) :: rest))) : W p l e R s m args below meth c H locs cells slots Q (F0 m pc ls (.ref (h k) :: rest)) :=
  x_get (T := TX6) X Z hk.1 ing6 rfl 1 (by decide) fl_RX6_15 rfl rfl hdg kk
theorem pf_RX6_15 {p : Program} {l : Launch} {e : Env} {R : Room} {s : State} {m : MethodId} {args : Array Value} {below : List Frame} {meth : Method} {c : Code} {H : Heap} {locs : List Loc} {cells slots : Nat} {Q : State → Prop} {D : va_G} {h : Nat → Nat} {cy : Nat → ClassId} {σ : St} {cc : ByteArray} {nL pc : Nat} {ls : Array Slot} {rest : List Value} {v : Int32} (X : Cx p s m args c D h cy RX6 cc nL) (Z : Zt D h cy s σ H locs) {k n : Nat} (hk : RowS k n) (hdg : decode cc pc = .ok (.putfield 15, 3)) (kk : ∀ (σ2 : St) (H : Heap) (locs : List Loc), σ2 = sI σ k 1 v → Zt D h cy s σ2 H locs → W p l e R s m args below meth c H locs cells slots Q (F0 m (pc + 3) ls rest)) : W p l e R s m args below meth c H locs cells slots Q (F0 m pc ls (.int v :: .ref (h k) :: rest)) :=
  x_put (T := TX6) X Z hk.1 ing6 tyX6 tyX6_ok nmX6 rfl 1 (by decide) fl_RX6_15 rfl rfl rfl rfl (Nat.le_of_ble_eq_true rfl) _ (wd_sI hk.1 rfl) hdg kk
theorem fl_RX7_9 : Cond.fieldLink RX7 9 (TX7 0).1 (TX7 0).2.1 (TX7 0).2.2.1 ∈ GT := GT2 12 rfl rfl
theorem gf_RX7_9 {p : Program} {l : Launch} {e : Env} {R : Room} {s : State} {m : MethodId} {args : Array Value} {below : List Frame} {meth : Method} {c : Code} {H : Heap} {locs : List Loc} {cells slots : Nat} {Q : State → Prop} {D : va_G} {h : Nat → Nat} {cy : Nat → ClassId} {σ : St} {cc : ByteArray} {nL pc : Nat} {ls : Array Slot} {rest : List Value} (X : Cx p s m args c D h cy RX7 cc nL) (Z : Zt D h cy s σ H locs) {k : Nat} (hk : SegsS k) (hdg : decode cc pc = .ok (.getfield 9, 3)) (kk : W p l e R s m args below meth c H locs cells slots Q (F0 m (pc + 3) ls (.ref (h (k + 1)) :: rest))) : W p l e R s m args below meth c H locs cells slots Q (F0 m pc ls (.ref (h k) :: rest)) :=
  x_get (T := TX7) X Z hk.1 ing7 rfl 0 (by decide) fl_RX7_9 rfl rfl hdg kk
theorem fl_RX7_15 : Cond.fieldLink RX7 15 (TX7 1).1 (TX7 1).2.1 (TX7 1).2.2.1 ∈ GT := GT2 15 rfl rfl
theorem gf_RX7_15 {p : Program} {l : Launch} {e : Env} {R : Room} {s : State} {m : MethodId} {args : Array Value} {below : List Frame} {meth : Method} {c : Code} {H : Heap} {locs : List Loc} {cells slots : Nat} {Q : State → Prop} {D : va_G} {h : Nat → Nat} {cy : Nat → ClassId} {σ : St} {cc : ByteArray} {nL pc : Nat} {ls : Array Slot} {rest : List Value} (X : Cx p s m args c D h cy RX7 cc nL) (Z : Zt D h cy s σ H locs) {k : Nat} (hk : SegsS k) (hdg : decode cc pc = .ok (.getfield 15, 3)) (kk : W p l e R s m args below meth c H locs cells slots Q (F0 m (pc + 3) ls (.ref (h (k + 2)) :: rest))) : W p l e R s m args below meth c H locs cells slots Q (F0 m pc ls (.ref (h k) :: rest)) :=
  x_get (T := TX7) X Z hk.1 ing7 rfl 1 (by decide) fl_RX7_15 rfl rfl hdg kk
theorem fl_RX7_18 : Cond.fieldLink RX7 18 (TX7 2).1 (TX7 2).2.1 (TX7 2).2.2.1 ∈ GT := GT2 18 rfl rfl
theorem gf_RX7_18 {p : Program} {l : Launch} {e : Env} {R : Room} {s : State} {m : MethodId} {args : Array Value} {below : List Frame} {meth : Method} {c : Code} {H : Heap} {locs : List Loc} {cells slots : Nat} {Q : State → Prop} {D : va_G} {h : Nat → Nat} {cy : Nat → ClassId} {σ : St} {cc : ByteArray} {nL pc : Nat} {ls : Array Slot} {rest : List Value} (X : Cx p s m args c D h cy RX7 cc nL) (Z : Zt D h cy s σ H locs) {k : Nat} (hk : SegsS k) (hdg : decode cc pc = .ok (.getfield 18, 3)) (kk : W p l e R s m args below meth c H locs cells slots Q (F0 m (pc + 3) ls (.ref (h (k + 3)) :: rest))) : W p l e R s m args below meth c H locs cells slots Q (F0 m pc ls (.ref (h k) :: rest)) :=
  x_get (T := TX7) X Z hk.1 ing7 rfl 2 (by decide) fl_RX7_18 rfl rfl hdg kk
theorem fl_RX7_21 : Cond.fieldLink RX7 21 (TX7 3).1 (TX7 3).2.1 (TX7 3).2.2.1 ∈ GT := GT2 20 rfl rfl
theorem gf_RX7_21 {p : Program} {l : Launch} {e : Env} {R : Room} {s : State} {m : MethodId} {args : Array Value} {below : List Frame} {meth : Method} {c : Code} {H : Heap} {locs : List Loc} {cells slots : Nat} {Q : State → Prop} {D : va_G} {h : Nat → Nat} {cy : Nat → ClassId} {σ : St} {cc : ByteArray} {nL pc : Nat} {ls : Array Slot} {rest : List Value} (X : Cx p s m args c D h cy RX7 cc nL) (Z : Zt D h cy s σ H locs) {k : Nat} (hk : SegsS k) (hdg : decode cc pc = .ok (.getfield 21, 3)) (kk : W p l e R s m args below meth c H locs cells slots Q (F0 m (pc + 3) ls (.ref (h (k + 4)) :: rest))) : W p l e R s m args below meth c H locs cells slots Q (F0 m pc ls (.ref (h k) :: rest)) :=
  x_get (T := TX7) X Z hk.1 ing7 rfl 3 (by decide) fl_RX7_21 rfl rfl hdg kk
theorem fl_RX7_24 : Cond.fieldLink RX7 24 (TX7 4).1 (TX7 4).2.1 (TX7 4).2.2.1 ∈ GT := GT2 22 rfl rfl
theorem gf_RX7_24 {p : Program} {l : Launch} {e : Env} {R : Room} {s : State} {m : MethodId} {args : Array Value} {below : List Frame} {meth : Method} {c : Code} {H : Heap} {locs : List Loc} {cells slots : Nat} {Q : State → Prop} {D : va_G} {h : Nat → Nat} {cy : Nat → ClassId} {σ : St} {cc : ByteArray} {nL pc : Nat} {ls : Array Slot} {rest : List Value} (X : Cx p s m args c D h cy RX7 cc nL) (Z : Zt D h cy s σ H locs) {k : Nat} (hk : SegsS k) (hdg : decode cc pc = .ok (.getfield 24, 3)) (kk : W p l e R s m args below meth c H locs cells slots Q (F0 m (pc + 3) ls (.int (σ.1 k 4) :: rest))) : W p l e R s m args below meth c H locs cells slots Q (F0 m pc ls (.ref (h k) :: rest)) :=
  x_get (T := TX7) X Z hk.1 ing7 rfl 4 (by decide) fl_RX7_24 rfl rfl hdg kk
theorem pf_RX7_24 {p : Program} {l : Launch} {e : Env} {R : Room} {s : State} {m : MethodId} {args : Array Value} {below : List Frame} {meth : Method} {c : Code} {H : Heap} {locs : List Loc} {cells slots : Nat} {Q : State → Prop} {D : va_G} {h : Nat → Nat} {cy : Nat → ClassId} {σ : St} {cc : ByteArray} {nL pc : Nat} {ls : Array Slot} {rest : List Value} {v : Int32} (X : Cx p s m args c D h cy RX7 cc nL) (Z : Zt D h cy s σ H locs) {k : Nat} (hk : SegsS k) (hdg : decode cc pc = .ok (.putfield 24, 3)) (kk : ∀ (σ2 : St) (H : Heap) (locs : List Loc), σ2 = sI σ k 4 v → Zt D h cy s σ2 H locs → W p l e R s m args below meth c H locs cells slots Q (F0 m (pc + 3) ls rest)) : W p l e R s m args below meth c H locs cells slots Q (F0 m pc ls (.int v :: .ref (h k) :: rest)) :=
  x_put (T := TX7) X Z hk.1 ing7 tyX7 tyX7_ok nmX7 rfl 4 (by decide) fl_RX7_24 rfl rfl rfl rfl (Nat.le_of_ble_eq_true rfl) _ (wd_sI hk.1 rfl) hdg kk
theorem fl_RX8_10 : Cond.fieldLink RX8 10 (TX8 0).1 (TX8 0).2.1 (TX8 0).2.2.1 ∈ GT := GT1 81 rfl rfl
theorem gf_RX8_10 {p : Program} {l : Launch} {e : Env} {R : Room} {s : State} {m : MethodId} {args : Array Value} {below : List Frame} {meth : Method} {c : Code} {H : Heap} {locs : List Loc} {cells slots : Nat} {Q : State → Prop} {D : va_G} {h : Nat → Nat} {cy : Nat → ClassId} {σ : St} {cc : ByteArray} {nL pc : Nat} {ls : Array Slot} {rest : List Value} (X : Cx p s m args c D h cy RX8 cc nL) (Z : Zt D h cy s σ H locs) (hdg : decode cc pc = .ok (.getfield 10, 3)) (kk : W p l e R s m args below meth c H locs cells slots Q (F0 m (pc + 3) ls (.int (σ.1 5 0) :: rest))) : W p l e R s m args below meth c H locs cells slots Q (F0 m pc ls (.ref (h 5) :: rest)) :=
  x_get (T := TX8) X Z sh_5 ing8 rfl 0 (by decide) fl_RX8_10 rfl rfl hdg kk
theorem pf_RX8_10 {p : Program} {l : Launch} {e : Env} {R : Room} {s : State} {m : MethodId} {args : Array Value} {below : List Frame} {meth : Method} {c : Code} {H : Heap} {locs : List Loc} {cells slots : Nat} {Q : State → Prop} {D : va_G} {h : Nat → Nat} {cy : Nat → ClassId} {σ : St} {cc : ByteArray} {nL pc : Nat} {ls : Array Slot} {rest : List Value} {v : Int32} (X : Cx p s m args c D h cy RX8 cc nL) (Z : Zt D h cy s σ H locs) (hdg : decode cc pc = .ok (.putfield 10, 3)) (kk : ∀ (σ2 : St) (H : Heap) (locs : List Loc), σ2 = sI σ 5 0 v → Zt D h cy s σ2 H locs → W p l e R s m args below meth c H locs cells slots Q (F0 m (pc + 3) ls rest)) : W p l e R s m args below meth c H locs cells slots Q (F0 m pc ls (.int v :: .ref (h 5) :: rest)) :=
  x_put (T := TX8) X Z sh_5 ing8 tyX8 tyX8_ok nmX8 rfl 0 (by decide) fl_RX8_10 rfl rfl rfl rfl (Nat.le_of_ble_eq_true rfl) _ (wd_sI sh_5 rfl) hdg kk
theorem fl_RX8_16 : Cond.fieldLink RX8 16 (TX8 1).1 (TX8 1).2.1 (TX8 1).2.2.1 ∈ GT := GT1 83 rfl rfl
theorem gf_RX8_16 {p : Program} {l : Launch} {e : Env} {R : Room} {s : State} {m : MethodId} {args : Array Value} {below : List Frame} {meth : Method} {c : Code} {H : Heap} {locs : List Loc} {cells slots : Nat} {Q : State → Prop} {D : va_G} {h : Nat → Nat} {cy : Nat → ClassId} {σ : St} {cc : ByteArray} {nL pc : Nat} {ls : Array Slot} {rest : List Value} (X : Cx p s m args c D h cy RX8 cc nL) (Z : Zt D h cy s σ H locs) (hdg : decode cc pc = .ok (.getfield 16, 3)) (kk : W p l e R s m args below meth c H locs cells slots Q (F0 m (pc + 3) ls (.int (σ.1 5 1) :: rest))) : W p l e R s m args below meth c H locs cells slots Q (F0 m pc ls (.ref (h 5) :: rest)) :=
  x_get (T := TX8) X Z sh_5 ing8 rfl 1 (by decide) fl_RX8_16 rfl rfl hdg kk
theorem pf_RX8_16 {p : Program} {l : Launch} {e : Env} {R : Room} {s : State} {m : MethodId} {args : Array Value} {below : List Frame} {meth : Method} {c : Code} {H : Heap} {locs : List Loc} {cells slots : Nat} {Q : State → Prop} {D : va_G} {h : Nat → Nat} {cy : Nat → ClassId} {σ : St} {cc : ByteArray} {nL pc : Nat} {ls : Array Slot} {rest : List Value} {v : Int32} (X : Cx p s m args c D h cy RX8 cc nL) (Z : Zt D h cy s σ H locs) (hdg : decode cc pc = .ok (.putfield 16, 3)) (kk : ∀ (σ2 : St) (H : Heap) (locs : List Loc), σ2 = sI σ 5 1 v → Zt D h cy s σ2 H locs → W p l e R s m args below meth c H locs cells slots Q (F0 m (pc + 3) ls rest)) : W p l e R s m args below meth c H locs cells slots Q (F0 m pc ls (.int v :: .ref (h 5) :: rest)) :=
  x_put (T := TX8) X Z sh_5 ing8 tyX8 tyX8_ok nmX8 rfl 1 (by decide) fl_RX8_16 rfl rfl rfl rfl (Nat.le_of_ble_eq_true rfl) _ (wd_sI sh_5 rfl) hdg kk
theorem fl_RX8_24 : Cond.fieldLink RX8 24 (TX8 2).1 (TX8 2).2.1 (TX8 2).2.2.1 ∈ GT := GT1 85 rfl rfl
theorem gf_RX8_24 {p : Program} {l : Launch} {e : Env} {R : Room} {s : State} {m : MethodId} {args : Array Value} {below : List Frame} {meth : Method} {c : Code} {H : Heap} {locs : List Loc} {cells slots : Nat} {Q : State → Prop} {D : va_G} {h : Nat → Nat} {cy : Nat → ClassId} {σ : St} {cc : ByteArray} {nL pc : Nat} {ls : Array Slot} {rest : List Value} (X : Cx p s m args c D h cy RX8 cc nL) (Z : Zt D h cy s σ H locs) (hdg : decode cc pc = .ok (.getfield 24, 3)) (kk : W p l e R s m args below meth c H locs cells slots Q (F0 m (pc + 3) ls (.ref (h 6) :: rest))) : W p l e R s m args below meth c H locs cells slots Q (F0 m pc ls (.ref (h 5) :: rest)) :=
  x_get (T := TX8) X Z sh_5 ing8 rfl 2 (by decide) fl_RX8_24 rfl rfl hdg kk
theorem fl_RX8_28 : Cond.fieldLink RX8 28 (TX8 3).1 (TX8 3).2.1 (TX8 3).2.2.1 ∈ GT := GT1 88 rfl rfl
theorem gf_RX8_28 {p : Program} {l : Launch} {e : Env} {R : Room} {s : State} {m : MethodId} {args : Array Value} {below : List Frame} {meth : Method} {c : Code} {H : Heap} {locs : List Loc} {cells slots : Nat} {Q : State → Prop} {D : va_G} {h : Nat → Nat} {cy : Nat → ClassId} {σ : St} {cc : ByteArray} {nL pc : Nat} {ls : Array Slot} {rest : List Value} (X : Cx p s m args c D h cy RX8 cc nL) (Z : Zt D h cy s σ H locs) (hdg : decode cc pc = .ok (.getfield 28, 3)) (kk : W p l e R s m args below meth c H locs cells slots Q (F0 m (pc + 3) ls (.ref (h 9) :: rest))) : W p l e R s m args below meth c H locs cells slots Q (F0 m pc ls (.ref (h 5) :: rest)) :=
  x_get (T := TX8) X Z sh_5 ing8 rfl 3 (by decide) fl_RX8_28 rfl rfl hdg kk
theorem fl_RX8_32 : Cond.fieldLink RX8 32 (TX8 4).1 (TX8 4).2.1 (TX8 4).2.2.1 ∈ GT := GT1 90 rfl rfl
theorem gf_RX8_32 {p : Program} {l : Launch} {e : Env} {R : Room} {s : State} {m : MethodId} {args : Array Value} {below : List Frame} {meth : Method} {c : Code} {H : Heap} {locs : List Loc} {cells slots : Nat} {Q : State → Prop} {D : va_G} {h : Nat → Nat} {cy : Nat → ClassId} {σ : St} {cc : ByteArray} {nL pc : Nat} {ls : Array Slot} {rest : List Value} (X : Cx p s m args c D h cy RX8 cc nL) (Z : Zt D h cy s σ H locs) (hdg : decode cc pc = .ok (.getfield 32, 3)) (kk : W p l e R s m args below meth c H locs cells slots Q (F0 m (pc + 3) ls (.ref (h 10) :: rest))) : W p l e R s m args below meth c H locs cells slots Q (F0 m pc ls (.ref (h 5) :: rest)) :=
  x_get (T := TX8) X Z sh_5 ing8 rfl 4 (by decide) fl_RX8_32 rfl rfl hdg kk
theorem fl_RX8_35 : Cond.fieldLink RX8 35 (TX8 5).1 (TX8 5).2.1 (TX8 5).2.2.1 ∈ GT := GT1 92 rfl rfl
theorem gf_RX8_35 {p : Program} {l : Launch} {e : Env} {R : Room} {s : State} {m : MethodId} {args : Array Value} {below : List Frame} {meth : Method} {c : Code} {H : Heap} {locs : List Loc} {cells slots : Nat} {Q : State → Prop} {D : va_G} {h : Nat → Nat} {cy : Nat → ClassId} {σ : St} {cc : ByteArray} {nL pc : Nat} {ls : Array Slot} {rest : List Value} (X : Cx p s m args c D h cy RX8 cc nL) (Z : Zt D h cy s σ H locs) (hdg : decode cc pc = .ok (.getfield 35, 3)) (kk : W p l e R s m args below meth c H locs cells slots Q (F0 m (pc + 3) ls (.ref (h 11) :: rest))) : W p l e R s m args below meth c H locs cells slots Q (F0 m pc ls (.ref (h 5) :: rest)) :=
  x_get (T := TX8) X Z sh_5 ing8 rfl 5 (by decide) fl_RX8_35 rfl rfl hdg kk
theorem fl_RX8_39 : Cond.fieldLink RX8 39 (TX8 6).1 (TX8 6).2.1 (TX8 6).2.2.1 ∈ GT := GT1 94 rfl rfl
theorem gf_RX8_39 {p : Program} {l : Launch} {e : Env} {R : Room} {s : State} {m : MethodId} {args : Array Value} {below : List Frame} {meth : Method} {c : Code} {H : Heap} {locs : List Loc} {cells slots : Nat} {Q : State → Prop} {D : va_G} {h : Nat → Nat} {cy : Nat → ClassId} {σ : St} {cc : ByteArray} {nL pc : Nat} {ls : Array Slot} {rest : List Value} (X : Cx p s m args c D h cy RX8 cc nL) (Z : Zt D h cy s σ H locs) (hdg : decode cc pc = .ok (.getfield 39, 3)) (kk : W p l e R s m args below meth c H locs cells slots Q (F0 m (pc + 3) ls (.ref (h 12) :: rest))) : W p l e R s m args below meth c H locs cells slots Q (F0 m pc ls (.ref (h 5) :: rest)) :=
  x_get (T := TX8) X Z sh_5 ing8 rfl 6 (by decide) fl_RX8_39 rfl rfl hdg kk
theorem fl_RX8_42 : Cond.fieldLink RX8 42 (TX8 7).1 (TX8 7).2.1 (TX8 7).2.2.1 ∈ GT := GT1 97 rfl rfl
theorem gf_RX8_42 {p : Program} {l : Launch} {e : Env} {R : Room} {s : State} {m : MethodId} {args : Array Value} {below : List Frame} {meth : Method} {c : Code} {H : Heap} {locs : List Loc} {cells slots : Nat} {Q : State → Prop} {D : va_G} {h : Nat → Nat} {cy : Nat → ClassId} {σ : St} {cc : ByteArray} {nL pc : Nat} {ls : Array Slot} {rest : List Value} (X : Cx p s m args c D h cy RX8 cc nL) (Z : Zt D h cy s σ H locs) (hdg : decode cc pc = .ok (.getfield 42, 3)) (kk : W p l e R s m args below meth c H locs cells slots Q (F0 m (pc + 3) ls (.ref (h 15) :: rest))) : W p l e R s m args below meth c H locs cells slots Q (F0 m pc ls (.ref (h 5) :: rest)) :=
  x_get (T := TX8) X Z sh_5 ing8 rfl 7 (by decide) fl_RX8_42 rfl rfl hdg kk
theorem fl_RX8_45 : Cond.fieldLink RX8 45 (TX8 8).1 (TX8 8).2.1 (TX8 8).2.2.1 ∈ GT := GT1 99 rfl rfl
theorem gf_RX8_45 {p : Program} {l : Launch} {e : Env} {R : Room} {s : State} {m : MethodId} {args : Array Value} {below : List Frame} {meth : Method} {c : Code} {H : Heap} {locs : List Loc} {cells slots : Nat} {Q : State → Prop} {D : va_G} {h : Nat → Nat} {cy : Nat → ClassId} {σ : St} {cc : ByteArray} {nL pc : Nat} {ls : Array Slot} {rest : List Value} (X : Cx p s m args c D h cy RX8 cc nL) (Z : Zt D h cy s σ H locs) (hdg : decode cc pc = .ok (.getfield 45, 3)) (kk : W p l e R s m args below meth c H locs cells slots Q (F0 m (pc + 3) ls (.ref (h 16) :: rest))) : W p l e R s m args below meth c H locs cells slots Q (F0 m pc ls (.ref (h 5) :: rest)) :=
  x_get (T := TX8) X Z sh_5 ing8 rfl 8 (by decide) fl_RX8_45 rfl rfl hdg kk
theorem fl_RX8_48 : Cond.fieldLink RX8 48 (TX8 9).1 (TX8 9).2.1 (TX8 9).2.2.1 ∈ GT := GT1 101 rfl rfl
theorem gf_RX8_48 {p : Program} {l : Launch} {e : Env} {R : Room} {s : State} {m : MethodId} {args : Array Value} {below : List Frame} {meth : Method} {c : Code} {H : Heap} {locs : List Loc} {cells slots : Nat} {Q : State → Prop} {D : va_G} {h : Nat → Nat} {cy : Nat → ClassId} {σ : St} {cc : ByteArray} {nL pc : Nat} {ls : Array Slot} {rest : List Value} (X : Cx p s m args c D h cy RX8 cc nL) (Z : Zt D h cy s σ H locs) (hdg : decode cc pc = .ok (.getfield 48, 3)) (kk : W p l e R s m args below meth c H locs cells slots Q (F0 m (pc + 3) ls (.ref (h 17) :: rest))) : W p l e R s m args below meth c H locs cells slots Q (F0 m pc ls (.ref (h 5) :: rest)) :=
  x_get (T := TX8) X Z sh_5 ing8 rfl 9 (by decide) fl_RX8_48 rfl rfl hdg kk
theorem fl_RX8_51 : Cond.fieldLink RX8 51 (TX8 10).1 (TX8 10).2.1 (TX8 10).2.2.1 ∈ GT := GT1 103 rfl rfl
theorem gf_RX8_51 {p : Program} {l : Launch} {e : Env} {R : Room} {s : State} {m : MethodId} {args : Array Value} {below : List Frame} {meth : Method} {c : Code} {H : Heap} {locs : List Loc} {cells slots : Nat} {Q : State → Prop} {D : va_G} {h : Nat → Nat} {cy : Nat → ClassId} {σ : St} {cc : ByteArray} {nL pc : Nat} {ls : Array Slot} {rest : List Value} (X : Cx p s m args c D h cy RX8 cc nL) (Z : Zt D h cy s σ H locs) (hdg : decode cc pc = .ok (.getfield 51, 3)) (kk : W p l e R s m args below meth c H locs cells slots Q (F0 m (pc + 3) ls (.ref (h 18) :: rest))) : W p l e R s m args below meth c H locs cells slots Q (F0 m pc ls (.ref (h 5) :: rest)) :=
  x_get (T := TX8) X Z sh_5 ing8 rfl 10 (by decide) fl_RX8_51 rfl rfl hdg kk
theorem fl_RX8_54 : Cond.fieldLink RX8 54 (TX8 11).1 (TX8 11).2.1 (TX8 11).2.2.1 ∈ GT := GT1 106 rfl rfl
theorem gf_RX8_54 {p : Program} {l : Launch} {e : Env} {R : Room} {s : State} {m : MethodId} {args : Array Value} {below : List Frame} {meth : Method} {c : Code} {H : Heap} {locs : List Loc} {cells slots : Nat} {Q : State → Prop} {D : va_G} {h : Nat → Nat} {cy : Nat → ClassId} {σ : St} {cc : ByteArray} {nL pc : Nat} {ls : Array Slot} {rest : List Value} (X : Cx p s m args c D h cy RX8 cc nL) (Z : Zt D h cy s σ H locs) (hdg : decode cc pc = .ok (.getfield 54, 3)) (kk : W p l e R s m args below meth c H locs cells slots Q (F0 m (pc + 3) ls (.ref (h 21) :: rest))) : W p l e R s m args below meth c H locs cells slots Q (F0 m pc ls (.ref (h 5) :: rest)) :=
  x_get (T := TX8) X Z sh_5 ing8 rfl 11 (by decide) fl_RX8_54 rfl rfl hdg kk
theorem fl_RX8_57 : Cond.fieldLink RX8 57 (TX8 12).1 (TX8 12).2.1 (TX8 12).2.2.1 ∈ GT := GT1 108 rfl rfl
theorem gf_RX8_57 {p : Program} {l : Launch} {e : Env} {R : Room} {s : State} {m : MethodId} {args : Array Value} {below : List Frame} {meth : Method} {c : Code} {H : Heap} {locs : List Loc} {cells slots : Nat} {Q : State → Prop} {D : va_G} {h : Nat → Nat} {cy : Nat → ClassId} {σ : St} {cc : ByteArray} {nL pc : Nat} {ls : Array Slot} {rest : List Value} (X : Cx p s m args c D h cy RX8 cc nL) (Z : Zt D h cy s σ H locs) (hdg : decode cc pc = .ok (.getfield 57, 3)) (kk : W p l e R s m args below meth c H locs cells slots Q (F0 m (pc + 3) ls (.ref (h 22) :: rest))) : W p l e R s m args below meth c H locs cells slots Q (F0 m pc ls (.ref (h 5) :: rest)) :=
  x_get (T := TX8) X Z sh_5 ing8 rfl 12 (by decide) fl_RX8_57 rfl rfl hdg kk
theorem fl_RX8_60 : Cond.fieldLink RX8 60 (TX8 13).1 (TX8 13).2.1 (TX8 13).2.2.1 ∈ GT := GT1 110 rfl rfl
theorem gf_RX8_60 {p : Program} {l : Launch} {e : Env} {R : Room} {s : State} {m : MethodId} {args : Array Value} {below : List Frame} {meth : Method} {c : Code} {H : Heap} {locs : List Loc} {cells slots : Nat} {Q : State → Prop} {D : va_G} {h : Nat → Nat} {cy : Nat → ClassId} {σ : St} {cc : ByteArray} {nL pc : Nat} {ls : Array Slot} {rest : List Value} (X : Cx p s m args c D h cy RX8 cc nL) (Z : Zt D h cy s σ H locs) (hdg : decode cc pc = .ok (.getfield 60, 3)) (kk : W p l e R s m args below meth c H locs cells slots Q (F0 m (pc + 3) ls (.ref (h 23) :: rest))) : W p l e R s m args below meth c H locs cells slots Q (F0 m pc ls (.ref (h 5) :: rest)) :=
  x_get (T := TX8) X Z sh_5 ing8 rfl 13 (by decide) fl_RX8_60 rfl rfl hdg kk
theorem fl_RX8_63 : Cond.fieldLink RX8 63 (TX8 14).1 (TX8 14).2.1 (TX8 14).2.2.1 ∈ GT := GT1 113 rfl rfl
theorem gf_RX8_63 {p : Program} {l : Launch} {e : Env} {R : Room} {s : State} {m : MethodId} {args : Array Value} {below : List Frame} {meth : Method} {c : Code} {H : Heap} {locs : List Loc} {cells slots : Nat} {Q : State → Prop} {D : va_G} {h : Nat → Nat} {cy : Nat → ClassId} {σ : St} {cc : ByteArray} {nL pc : Nat} {ls : Array Slot} {rest : List Value} (X : Cx p s m args c D h cy RX8 cc nL) (Z : Zt D h cy s σ H locs) (hdg : decode cc pc = .ok (.getfield 63, 3)) (kk : W p l e R s m args below meth c H locs cells slots Q (F0 m (pc + 3) ls (.ref (h 26) :: rest))) : W p l e R s m args below meth c H locs cells slots Q (F0 m pc ls (.ref (h 5) :: rest)) :=
  x_get (T := TX8) X Z sh_5 ing8 rfl 14 (by decide) fl_RX8_63 rfl rfl hdg kk
theorem fl_RX8_66 : Cond.fieldLink RX8 66 (TX8 15).1 (TX8 15).2.1 (TX8 15).2.2.1 ∈ GT := GT1 115 rfl rfl
theorem gf_RX8_66 {p : Program} {l : Launch} {e : Env} {R : Room} {s : State} {m : MethodId} {args : Array Value} {below : List Frame} {meth : Method} {c : Code} {H : Heap} {locs : List Loc} {cells slots : Nat} {Q : State → Prop} {D : va_G} {h : Nat → Nat} {cy : Nat → ClassId} {σ : St} {cc : ByteArray} {nL pc : Nat} {ls : Array Slot} {rest : List Value} (X : Cx p s m args c D h cy RX8 cc nL) (Z : Zt D h cy s σ H locs) (hdg : decode cc pc = .ok (.getfield 66, 3)) (kk : W p l e R s m args below meth c H locs cells slots Q (F0 m (pc + 3) ls (.ref (h 27) :: rest))) : W p l e R s m args below meth c H locs cells slots Q (F0 m pc ls (.ref (h 5) :: rest)) :=
  x_get (T := TX8) X Z sh_5 ing8 rfl 15 (by decide) fl_RX8_66 rfl rfl hdg kk
theorem fl_RX8_70 : Cond.fieldLink RX8 70 (TX8 16).1 (TX8 16).2.1 (TX8 16).2.2.1 ∈ GT := GT1 117 rfl rfl
theorem gf_RX8_70 {p : Program} {l : Launch} {e : Env} {R : Room} {s : State} {m : MethodId} {args : Array Value} {below : List Frame} {meth : Method} {c : Code} {H : Heap} {locs : List Loc} {cells slots : Nat} {Q : State → Prop} {D : va_G} {h : Nat → Nat} {cy : Nat → ClassId} {σ : St} {cc : ByteArray} {nL pc : Nat} {ls : Array Slot} {rest : List Value} (X : Cx p s m args c D h cy RX8 cc nL) (Z : Zt D h cy s σ H locs) (hdg : decode cc pc = .ok (.getfield 70, 3)) (kk : W p l e R s m args below meth c H locs cells slots Q (F0 m (pc + 3) ls (.ref (h 28) :: rest))) : W p l e R s m args below meth c H locs cells slots Q (F0 m pc ls (.ref (h 5) :: rest)) :=
  x_get (T := TX8) X Z sh_5 ing8 rfl 16 (by decide) fl_RX8_70 rfl rfl hdg kk
theorem fl_RX8_73 : Cond.fieldLink RX8 73 (TX8 17).1 (TX8 17).2.1 (TX8 17).2.2.1 ∈ GT := GT1 118 rfl rfl
theorem gf_RX8_73 {p : Program} {l : Launch} {e : Env} {R : Room} {s : State} {m : MethodId} {args : Array Value} {below : List Frame} {meth : Method} {c : Code} {H : Heap} {locs : List Loc} {cells slots : Nat} {Q : State → Prop} {D : va_G} {h : Nat → Nat} {cy : Nat → ClassId} {σ : St} {cc : ByteArray} {nL pc : Nat} {ls : Array Slot} {rest : List Value} (X : Cx p s m args c D h cy RX8 cc nL) (Z : Zt D h cy s σ H locs) (hdg : decode cc pc = .ok (.getfield 73, 3)) (kk : W p l e R s m args below meth c H locs cells slots Q (F0 m (pc + 3) ls (.ref (h 29) :: rest))) : W p l e R s m args below meth c H locs cells slots Q (F0 m pc ls (.ref (h 5) :: rest)) :=
  x_get (T := TX8) X Z sh_5 ing8 rfl 17 (by decide) fl_RX8_73 rfl rfl hdg kk
theorem fl_RX8_77 : Cond.fieldLink RX8 77 (TX8 18).1 (TX8 18).2.1 (TX8 18).2.2.1 ∈ GT := GT1 119 rfl rfl
theorem gf_RX8_77 {p : Program} {l : Launch} {e : Env} {R : Room} {s : State} {m : MethodId} {args : Array Value} {below : List Frame} {meth : Method} {c : Code} {H : Heap} {locs : List Loc} {cells slots : Nat} {Q : State → Prop} {D : va_G} {h : Nat → Nat} {cy : Nat → ClassId} {σ : St} {cc : ByteArray} {nL pc : Nat} {ls : Array Slot} {rest : List Value} (X : Cx p s m args c D h cy RX8 cc nL) (Z : Zt D h cy s σ H locs) (hdg : decode cc pc = .ok (.getfield 77, 3)) (kk : W p l e R s m args below meth c H locs cells slots Q (F0 m (pc + 3) ls (.int (σ.1 5 18) :: rest))) : W p l e R s m args below meth c H locs cells slots Q (F0 m pc ls (.ref (h 5) :: rest)) :=
  x_get (T := TX8) X Z sh_5 ing8 rfl 18 (by decide) fl_RX8_77 rfl rfl hdg kk
theorem pf_RX8_77 {p : Program} {l : Launch} {e : Env} {R : Room} {s : State} {m : MethodId} {args : Array Value} {below : List Frame} {meth : Method} {c : Code} {H : Heap} {locs : List Loc} {cells slots : Nat} {Q : State → Prop} {D : va_G} {h : Nat → Nat} {cy : Nat → ClassId} {σ : St} {cc : ByteArray} {nL pc : Nat} {ls : Array Slot} {rest : List Value} {v : Int32} (X : Cx p s m args c D h cy RX8 cc nL) (Z : Zt D h cy s σ H locs) (hdg : decode cc pc = .ok (.putfield 77, 3)) (kk : ∀ (σ2 : St) (H : Heap) (locs : List Loc), σ2 = sI σ 5 18 v → Zt D h cy s σ2 H locs → W p l e R s m args below meth c H locs cells slots Q (F0 m (pc + 3) ls rest)) : W p l e R s m args below meth c H locs cells slots Q (F0 m pc ls (.int v :: .ref (h 5) :: rest)) :=
  x_put (T := TX8) X Z sh_5 ing8 tyX8 tyX8_ok nmX8 rfl 18 (by decide) fl_RX8_77 rfl rfl rfl rfl (Nat.le_of_ble_eq_true rfl) _ (wd_sI sh_5 rfl) hdg kk
theorem fl_RX8_101 : Cond.fieldLink RX8 101 (TX6 1).1 (TX6 1).2.1 (TX6 1).2.2.1 ∈ GT := GT1 42 rfl rfl
theorem gf_RX8_101 {p : Program} {l : Launch} {e : Env} {R : Room} {s : State} {m : MethodId} {args : Array Value} {below : List Frame} {meth : Method} {c : Code} {H : Heap} {locs : List Loc} {cells slots : Nat} {Q : State → Prop} {D : va_G} {h : Nat → Nat} {cy : Nat → ClassId} {σ : St} {cc : ByteArray} {nL pc : Nat} {ls : Array Slot} {rest : List Value} (X : Cx p s m args c D h cy RX8 cc nL) (Z : Zt D h cy s σ H locs) {k n : Nat} (hk : RowS k n) (hdg : decode cc pc = .ok (.getfield 101, 3)) (kk : W p l e R s m args below meth c H locs cells slots Q (F0 m (pc + 3) ls (.int (σ.1 k 1) :: rest))) : W p l e R s m args below meth c H locs cells slots Q (F0 m pc ls (.ref (h k) :: rest)) :=
  x_get (T := TX6) X Z hk.1 ing6 rfl 1 (by decide) fl_RX8_101 rfl rfl hdg kk
theorem fl_RX8_106 : Cond.fieldLink RX8 106 (TX6 0).1 (TX6 0).2.1 (TX6 0).2.2.1 ∈ GT := GT1 37 rfl rfl
theorem gf_RX8_106 {p : Program} {l : Launch} {e : Env} {R : Room} {s : State} {m : MethodId} {args : Array Value} {below : List Frame} {meth : Method} {c : Code} {H : Heap} {locs : List Loc} {cells slots : Nat} {Q : State → Prop} {D : va_G} {h : Nat → Nat} {cy : Nat → ClassId} {σ : St} {cc : ByteArray} {nL pc : Nat} {ls : Array Slot} {rest : List Value} (X : Cx p s m args c D h cy RX8 cc nL) (Z : Zt D h cy s σ H locs) {k n : Nat} (hk : RowS k n) (hdg : decode cc pc = .ok (.getfield 106, 3)) (kk : W p l e R s m args below meth c H locs cells slots Q (F0 m (pc + 3) ls (.ref (h (k + 1)) :: rest))) : W p l e R s m args below meth c H locs cells slots Q (F0 m pc ls (.ref (h k) :: rest)) :=
  x_get (T := TX6) X Z hk.1 ing6 rfl 0 (by decide) fl_RX8_106 rfl rfl hdg kk
theorem fl_RX8_141 : Cond.fieldLink RX8 141 (TX5 2).1 (TX5 2).2.1 (TX5 2).2.2.1 ∈ GT := GT1 71 rfl rfl
theorem gf_RX8_141 {p : Program} {l : Launch} {e : Env} {R : Room} {s : State} {m : MethodId} {args : Array Value} {below : List Frame} {meth : Method} {c : Code} {H : Heap} {locs : List Loc} {cells slots : Nat} {Q : State → Prop} {D : va_G} {h : Nat → Nat} {cy : Nat → ClassId} {σ : St} {cc : ByteArray} {nL pc : Nat} {ls : Array Slot} {rest : List Value} (X : Cx p s m args c D h cy RX8 cc nL) (Z : Zt D h cy s σ H locs) {k b n : Nat} (hk : NamesS k b n) (hdg : decode cc pc = .ok (.getfield 141, 3)) (kk : W p l e R s m args below meth c H locs cells slots Q (F0 m (pc + 3) ls (.int (σ.1 k 2) :: rest))) : W p l e R s m args below meth c H locs cells slots Q (F0 m pc ls (.ref (h k) :: rest)) :=
  x_get (T := TX5) X Z hk.1 ing5 rfl 2 (by decide) fl_RX8_141 rfl rfl hdg kk
theorem fl_RX9_9 : Cond.fieldLink RX9 9 (TX9 0).1 (TX9 0).2.1 (TX9 0).2.2.1 ∈ GT := GT2 97 rfl rfl
theorem gf_RX9_9 {p : Program} {l : Launch} {e : Env} {R : Room} {s : State} {m : MethodId} {args : Array Value} {below : List Frame} {meth : Method} {c : Code} {H : Heap} {locs : List Loc} {cells slots : Nat} {Q : State → Prop} {D : va_G} {h : Nat → Nat} {cy : Nat → ClassId} {σ : St} {cc : ByteArray} {nL pc : Nat} {ls : Array Slot} {rest : List Value} (X : Cx p s m args c D h cy RX9 cc nL) (Z : Zt D h cy s σ H locs) {k : Nat} (hk : VisS k) (hdg : decode cc pc = .ok (.getfield 9, 3)) (kk : W p l e R s m args below meth c H locs cells slots Q (F0 m (pc + 3) ls (.ref (h (k + 1)) :: rest))) : W p l e R s m args below meth c H locs cells slots Q (F0 m pc ls (.ref (h k) :: rest)) :=
  x_get (T := TX9) X Z hk.1 ing9 rfl 0 (by decide) fl_RX9_9 rfl rfl hdg kk
theorem fl_RX9_15 : Cond.fieldLink RX9 15 (TX9 1).1 (TX9 1).2.1 (TX9 1).2.2.1 ∈ GT := GT2 100 rfl rfl
theorem gf_RX9_15 {p : Program} {l : Launch} {e : Env} {R : Room} {s : State} {m : MethodId} {args : Array Value} {below : List Frame} {meth : Method} {c : Code} {H : Heap} {locs : List Loc} {cells slots : Nat} {Q : State → Prop} {D : va_G} {h : Nat → Nat} {cy : Nat → ClassId} {σ : St} {cc : ByteArray} {nL pc : Nat} {ls : Array Slot} {rest : List Value} (X : Cx p s m args c D h cy RX9 cc nL) (Z : Zt D h cy s σ H locs) {k : Nat} (hk : VisS k) (hdg : decode cc pc = .ok (.getfield 15, 3)) (kk : W p l e R s m args below meth c H locs cells slots Q (F0 m (pc + 3) ls (.ref (h (k + 2)) :: rest))) : W p l e R s m args below meth c H locs cells slots Q (F0 m pc ls (.ref (h k) :: rest)) :=
  x_get (T := TX9) X Z hk.1 ing9 rfl 1 (by decide) fl_RX9_15 rfl rfl hdg kk
theorem fl_RX9_19 : Cond.fieldLink RX9 19 (TX9 2).1 (TX9 2).2.1 (TX9 2).2.2.1 ∈ GT := GT2 103 rfl rfl
theorem gf_RX9_19 {p : Program} {l : Launch} {e : Env} {R : Room} {s : State} {m : MethodId} {args : Array Value} {below : List Frame} {meth : Method} {c : Code} {H : Heap} {locs : List Loc} {cells slots : Nat} {Q : State → Prop} {D : va_G} {h : Nat → Nat} {cy : Nat → ClassId} {σ : St} {cc : ByteArray} {nL pc : Nat} {ls : Array Slot} {rest : List Value} (X : Cx p s m args c D h cy RX9 cc nL) (Z : Zt D h cy s σ H locs) {k : Nat} (hk : VisS k) (hdg : decode cc pc = .ok (.getfield 19, 3)) (kk : W p l e R s m args below meth c H locs cells slots Q (F0 m (pc + 3) ls (.int (σ.1 k 2) :: rest))) : W p l e R s m args below meth c H locs cells slots Q (F0 m pc ls (.ref (h k) :: rest)) :=
  x_get (T := TX9) X Z hk.1 ing9 rfl 2 (by decide) fl_RX9_19 rfl rfl hdg kk
theorem pf_RX9_19 {p : Program} {l : Launch} {e : Env} {R : Room} {s : State} {m : MethodId} {args : Array Value} {below : List Frame} {meth : Method} {c : Code} {H : Heap} {locs : List Loc} {cells slots : Nat} {Q : State → Prop} {D : va_G} {h : Nat → Nat} {cy : Nat → ClassId} {σ : St} {cc : ByteArray} {nL pc : Nat} {ls : Array Slot} {rest : List Value} {v : Int32} (X : Cx p s m args c D h cy RX9 cc nL) (Z : Zt D h cy s σ H locs) {k : Nat} (hk : VisS k) (hdg : decode cc pc = .ok (.putfield 19, 3)) (kk : ∀ (σ2 : St) (H : Heap) (locs : List Loc), σ2 = sI σ k 2 v → Zt D h cy s σ2 H locs → W p l e R s m args below meth c H locs cells slots Q (F0 m (pc + 3) ls rest)) : W p l e R s m args below meth c H locs cells slots Q (F0 m pc ls (.int v :: .ref (h k) :: rest)) :=
  x_put (T := TX9) X Z hk.1 ing9 tyX9 tyX9_ok nmX9 rfl 2 (by decide) fl_RX9_19 rfl rfl rfl rfl (Nat.le_of_ble_eq_true rfl) _ (wd_sI hk.1 rfl) hdg kk
theorem fl_RX10_9 : Cond.fieldLink RX10 9 (TX10 0).1 (TX10 0).2.1 (TX10 0).2.2.1 ∈ GT := GT1 168 rfl rfl
theorem gf_RX10_9 {p : Program} {l : Launch} {e : Env} {R : Room} {s : State} {m : MethodId} {args : Array Value} {below : List Frame} {meth : Method} {c : Code} {H : Heap} {locs : List Loc} {cells slots : Nat} {Q : State → Prop} {D : va_G} {h : Nat → Nat} {cy : Nat → ClassId} {σ : St} {cc : ByteArray} {nL pc : Nat} {ls : Array Slot} {rest : List Value} (X : Cx p s m args c D h cy RX10 cc nL) (Z : Zt D h cy s σ H locs) (hdg : decode cc pc = .ok (.getfield 9, 3)) (kk : W p l e R s m args below meth c H locs cells slots Q (F0 m (pc + 3) ls (.ref (h 5) :: rest))) : W p l e R s m args below meth c H locs cells slots Q (F0 m pc ls (.ref (h 30) :: rest)) :=
  x_get (T := TX10) X Z sh_30 ing10 rfl 0 (by decide) fl_RX10_9 rfl rfl hdg kk
theorem fl_RX10_15 : Cond.fieldLink RX10 15 (TX10 1).1 (TX10 1).2.1 (TX10 1).2.2.1 ∈ GT := GT1 169 rfl rfl
theorem gf_RX10_15 {p : Program} {l : Launch} {e : Env} {R : Room} {s : State} {m : MethodId} {args : Array Value} {below : List Frame} {meth : Method} {c : Code} {H : Heap} {locs : List Loc} {cells slots : Nat} {Q : State → Prop} {D : va_G} {h : Nat → Nat} {cy : Nat → ClassId} {σ : St} {cc : ByteArray} {nL pc : Nat} {ls : Array Slot} {rest : List Value} (X : Cx p s m args c D h cy RX10 cc nL) (Z : Zt D h cy s σ H locs) (hdg : decode cc pc = .ok (.getfield 15, 3)) (kk : W p l e R s m args below meth c H locs cells slots Q (F0 m (pc + 3) ls (.ref (h 3) :: rest))) : W p l e R s m args below meth c H locs cells slots Q (F0 m pc ls (.ref (h 30) :: rest)) :=
  x_get (T := TX10) X Z sh_30 ing10 rfl 1 (by decide) fl_RX10_15 rfl rfl hdg kk
theorem fl_RX10_19 : Cond.fieldLink RX10 19 (TX10 2).1 (TX10 2).2.1 (TX10 2).2.2.1 ∈ GT := GT1 170 rfl rfl
theorem gf_RX10_19 {p : Program} {l : Launch} {e : Env} {R : Room} {s : State} {m : MethodId} {args : Array Value} {below : List Frame} {meth : Method} {c : Code} {H : Heap} {locs : List Loc} {cells slots : Nat} {Q : State → Prop} {D : va_G} {h : Nat → Nat} {cy : Nat → ClassId} {σ : St} {cc : ByteArray} {nL pc : Nat} {ls : Array Slot} {rest : List Value} (X : Cx p s m args c D h cy RX10 cc nL) (Z : Zt D h cy s σ H locs) (hdg : decode cc pc = .ok (.getfield 19, 3)) (kk : W p l e R s m args below meth c H locs cells slots Q (F0 m (pc + 3) ls (.ref (h 31) :: rest))) : W p l e R s m args below meth c H locs cells slots Q (F0 m pc ls (.ref (h 30) :: rest)) :=
  x_get (T := TX10) X Z sh_30 ing10 rfl 2 (by decide) fl_RX10_19 rfl rfl hdg kk
theorem fl_RX10_23 : Cond.fieldLink RX10 23 (TX10 3).1 (TX10 3).2.1 (TX10 3).2.2.1 ∈ GT := GT1 171 rfl rfl
theorem gf_RX10_23 {p : Program} {l : Launch} {e : Env} {R : Room} {s : State} {m : MethodId} {args : Array Value} {below : List Frame} {meth : Method} {c : Code} {H : Heap} {locs : List Loc} {cells slots : Nat} {Q : State → Prop} {D : va_G} {h : Nat → Nat} {cy : Nat → ClassId} {σ : St} {cc : ByteArray} {nL pc : Nat} {ls : Array Slot} {rest : List Value} (X : Cx p s m args c D h cy RX10 cc nL) (Z : Zt D h cy s σ H locs) (hdg : decode cc pc = .ok (.getfield 23, 3)) (kk : W p l e R s m args below meth c H locs cells slots Q (F0 m (pc + 3) ls (.ref (h 32) :: rest))) : W p l e R s m args below meth c H locs cells slots Q (F0 m pc ls (.ref (h 30) :: rest)) :=
  x_get (T := TX10) X Z sh_30 ing10 rfl 3 (by decide) fl_RX10_23 rfl rfl hdg kk
theorem fl_RX10_32 : Cond.fieldLink RX10 32 (TX10 5).1 (TX10 5).2.1 (TX10 5).2.2.1 ∈ GT := GT1 173 rfl rfl
theorem gf_RX10_32 {p : Program} {l : Launch} {e : Env} {R : Room} {s : State} {m : MethodId} {args : Array Value} {below : List Frame} {meth : Method} {c : Code} {H : Heap} {locs : List Loc} {cells slots : Nat} {Q : State → Prop} {D : va_G} {h : Nat → Nat} {cy : Nat → ClassId} {σ : St} {cc : ByteArray} {nL pc : Nat} {ls : Array Slot} {rest : List Value} (X : Cx p s m args c D h cy RX10 cc nL) (Z : Zt D h cy s σ H locs) (hdg : decode cc pc = .ok (.getfield 32, 3)) (kk : W p l e R s m args below meth c H locs cells slots Q (F0 m (pc + 3) ls (.int (σ.1 30 5) :: rest))) : W p l e R s m args below meth c H locs cells slots Q (F0 m pc ls (.ref (h 30) :: rest)) :=
  x_get (T := TX10) X Z sh_30 ing10 rfl 5 (by decide) fl_RX10_32 rfl rfl hdg kk
theorem pf_RX10_32 {p : Program} {l : Launch} {e : Env} {R : Room} {s : State} {m : MethodId} {args : Array Value} {below : List Frame} {meth : Method} {c : Code} {H : Heap} {locs : List Loc} {cells slots : Nat} {Q : State → Prop} {D : va_G} {h : Nat → Nat} {cy : Nat → ClassId} {σ : St} {cc : ByteArray} {nL pc : Nat} {ls : Array Slot} {rest : List Value} {v : Int32} (X : Cx p s m args c D h cy RX10 cc nL) (Z : Zt D h cy s σ H locs) (hdg : decode cc pc = .ok (.putfield 32, 3)) (kk : ∀ (σ2 : St) (H : Heap) (locs : List Loc), σ2 = sI σ 30 5 v → Zt D h cy s σ2 H locs → W p l e R s m args below meth c H locs cells slots Q (F0 m (pc + 3) ls rest)) : W p l e R s m args below meth c H locs cells slots Q (F0 m pc ls (.int v :: .ref (h 30) :: rest)) :=
  x_put (T := TX10) X Z sh_30 ing10 tyX10 tyX10_ok nmX10 rfl 5 (by decide) fl_RX10_32 rfl rfl rfl rfl (Nat.le_of_ble_eq_true rfl) _ (wd_sI sh_30 rfl) hdg kk
theorem fl_RX10_36 : Cond.fieldLink RX10 36 (TX10 6).1 (TX10 6).2.1 (TX10 6).2.2.1 ∈ GT := GT1 174 rfl rfl
theorem gf_RX10_36 {p : Program} {l : Launch} {e : Env} {R : Room} {s : State} {m : MethodId} {args : Array Value} {below : List Frame} {meth : Method} {c : Code} {H : Heap} {locs : List Loc} {cells slots : Nat} {Q : State → Prop} {D : va_G} {h : Nat → Nat} {cy : Nat → ClassId} {σ : St} {cc : ByteArray} {nL pc : Nat} {ls : Array Slot} {rest : List Value} (X : Cx p s m args c D h cy RX10 cc nL) (Z : Zt D h cy s σ H locs) (hdg : decode cc pc = .ok (.getfield 36, 3)) (kk : W p l e R s m args below meth c H locs cells slots Q (F0 m (pc + 3) ls (.int (σ.1 30 6) :: rest))) : W p l e R s m args below meth c H locs cells slots Q (F0 m pc ls (.ref (h 30) :: rest)) :=
  x_get (T := TX10) X Z sh_30 ing10 rfl 6 (by decide) fl_RX10_36 rfl rfl hdg kk
theorem pf_RX10_36 {p : Program} {l : Launch} {e : Env} {R : Room} {s : State} {m : MethodId} {args : Array Value} {below : List Frame} {meth : Method} {c : Code} {H : Heap} {locs : List Loc} {cells slots : Nat} {Q : State → Prop} {D : va_G} {h : Nat → Nat} {cy : Nat → ClassId} {σ : St} {cc : ByteArray} {nL pc : Nat} {ls : Array Slot} {rest : List Value} {v : Int32} (X : Cx p s m args c D h cy RX10 cc nL) (Z : Zt D h cy s σ H locs) (hdg : decode cc pc = .ok (.putfield 36, 3)) (kk : ∀ (σ2 : St) (H : Heap) (locs : List Loc), σ2 = sI σ 30 6 v → Zt D h cy s σ2 H locs → W p l e R s m args below meth c H locs cells slots Q (F0 m (pc + 3) ls rest)) : W p l e R s m args below meth c H locs cells slots Q (F0 m pc ls (.int v :: .ref (h 30) :: rest)) :=
  x_put (T := TX10) X Z sh_30 ing10 tyX10 tyX10_ok nmX10 rfl 6 (by decide) fl_RX10_36 rfl rfl rfl rfl (Nat.le_of_ble_eq_true rfl) _ (wd_sI sh_30 rfl) hdg kk
theorem fl_RX10_43 : Cond.fieldLink RX10 43 (TX10 9).1 (TX10 9).2.1 (TX10 9).2.2.1 ∈ GT := GT1 177 rfl rfl
theorem gf_RX10_43 {p : Program} {l : Launch} {e : Env} {R : Room} {s : State} {m : MethodId} {args : Array Value} {below : List Frame} {meth : Method} {c : Code} {H : Heap} {locs : List Loc} {cells slots : Nat} {Q : State → Prop} {D : va_G} {h : Nat → Nat} {cy : Nat → ClassId} {σ : St} {cc : ByteArray} {nL pc : Nat} {ls : Array Slot} {rest : List Value} (X : Cx p s m args c D h cy RX10 cc nL) (Z : Zt D h cy s σ H locs) (hdg : decode cc pc = .ok (.getfield 43, 3)) (kk : W p l e R s m args below meth c H locs cells slots Q (F0 m (pc + 3) ls (.int (σ.1 30 9) :: rest))) : W p l e R s m args below meth c H locs cells slots Q (F0 m pc ls (.ref (h 30) :: rest)) :=
  x_get (T := TX10) X Z sh_30 ing10 rfl 9 (by decide) fl_RX10_43 rfl rfl hdg kk
theorem pf_RX10_43 {p : Program} {l : Launch} {e : Env} {R : Room} {s : State} {m : MethodId} {args : Array Value} {below : List Frame} {meth : Method} {c : Code} {H : Heap} {locs : List Loc} {cells slots : Nat} {Q : State → Prop} {D : va_G} {h : Nat → Nat} {cy : Nat → ClassId} {σ : St} {cc : ByteArray} {nL pc : Nat} {ls : Array Slot} {rest : List Value} {v : Int32} (X : Cx p s m args c D h cy RX10 cc nL) (Z : Zt D h cy s σ H locs) (hdg : decode cc pc = .ok (.putfield 43, 3)) (kk : ∀ (σ2 : St) (H : Heap) (locs : List Loc), σ2 = sI σ 30 9 v → Zt D h cy s σ2 H locs → W p l e R s m args below meth c H locs cells slots Q (F0 m (pc + 3) ls rest)) : W p l e R s m args below meth c H locs cells slots Q (F0 m pc ls (.int v :: .ref (h 30) :: rest)) :=
  x_put (T := TX10) X Z sh_30 ing10 tyX10 tyX10_ok nmX10 rfl 9 (by decide) fl_RX10_43 rfl rfl rfl rfl (Nat.le_of_ble_eq_true rfl) _ (wd_sI sh_30 rfl) hdg kk
theorem fl_RX10_46 : Cond.fieldLink RX10 46 (TX8 10).1 (TX8 10).2.1 (TX8 10).2.2.1 ∈ GT := GT1 104 rfl rfl
theorem gf_RX10_46 {p : Program} {l : Launch} {e : Env} {R : Room} {s : State} {m : MethodId} {args : Array Value} {below : List Frame} {meth : Method} {c : Code} {H : Heap} {locs : List Loc} {cells slots : Nat} {Q : State → Prop} {D : va_G} {h : Nat → Nat} {cy : Nat → ClassId} {σ : St} {cc : ByteArray} {nL pc : Nat} {ls : Array Slot} {rest : List Value} (X : Cx p s m args c D h cy RX10 cc nL) (Z : Zt D h cy s σ H locs) (hdg : decode cc pc = .ok (.getfield 46, 3)) (kk : W p l e R s m args below meth c H locs cells slots Q (F0 m (pc + 3) ls (.ref (h 18) :: rest))) : W p l e R s m args below meth c H locs cells slots Q (F0 m pc ls (.ref (h 5) :: rest)) :=
  x_get (T := TX8) X Z sh_5 ing8 rfl 10 (by decide) fl_RX10_46 rfl rfl hdg kk
theorem fl_RX10_51 : Cond.fieldLink RX10 51 (TX5 2).1 (TX5 2).2.1 (TX5 2).2.2.1 ∈ GT := GT1 69 rfl rfl
theorem gf_RX10_51 {p : Program} {l : Launch} {e : Env} {R : Room} {s : State} {m : MethodId} {args : Array Value} {below : List Frame} {meth : Method} {c : Code} {H : Heap} {locs : List Loc} {cells slots : Nat} {Q : State → Prop} {D : va_G} {h : Nat → Nat} {cy : Nat → ClassId} {σ : St} {cc : ByteArray} {nL pc : Nat} {ls : Array Slot} {rest : List Value} (X : Cx p s m args c D h cy RX10 cc nL) (Z : Zt D h cy s σ H locs) {k b n : Nat} (hk : NamesS k b n) (hdg : decode cc pc = .ok (.getfield 51, 3)) (kk : W p l e R s m args below meth c H locs cells slots Q (F0 m (pc + 3) ls (.int (σ.1 k 2) :: rest))) : W p l e R s m args below meth c H locs cells slots Q (F0 m pc ls (.ref (h k) :: rest)) :=
  x_get (T := TX5) X Z hk.1 ing5 rfl 2 (by decide) fl_RX10_51 rfl rfl hdg kk
theorem fl_RX10_56 : Cond.fieldLink RX10 56 (TX10 10).1 (TX10 10).2.1 (TX10 10).2.2.1 ∈ GT := GT1 178 rfl rfl
theorem gf_RX10_56 {p : Program} {l : Launch} {e : Env} {R : Room} {s : State} {m : MethodId} {args : Array Value} {below : List Frame} {meth : Method} {c : Code} {H : Heap} {locs : List Loc} {cells slots : Nat} {Q : State → Prop} {D : va_G} {h : Nat → Nat} {cy : Nat → ClassId} {σ : St} {cc : ByteArray} {nL pc : Nat} {ls : Array Slot} {rest : List Value} (X : Cx p s m args c D h cy RX10 cc nL) (Z : Zt D h cy s σ H locs) (hdg : decode cc pc = .ok (.getfield 56, 3)) (kk : W p l e R s m args below meth c H locs cells slots Q (F0 m (pc + 3) ls (.int (σ.1 30 10) :: rest))) : W p l e R s m args below meth c H locs cells slots Q (F0 m pc ls (.ref (h 30) :: rest)) :=
  x_get (T := TX10) X Z sh_30 ing10 rfl 10 (by decide) fl_RX10_56 rfl rfl hdg kk
theorem pf_RX10_56 {p : Program} {l : Launch} {e : Env} {R : Room} {s : State} {m : MethodId} {args : Array Value} {below : List Frame} {meth : Method} {c : Code} {H : Heap} {locs : List Loc} {cells slots : Nat} {Q : State → Prop} {D : va_G} {h : Nat → Nat} {cy : Nat → ClassId} {σ : St} {cc : ByteArray} {nL pc : Nat} {ls : Array Slot} {rest : List Value} {v : Int32} (X : Cx p s m args c D h cy RX10 cc nL) (Z : Zt D h cy s σ H locs) (hdg : decode cc pc = .ok (.putfield 56, 3)) (kk : ∀ (σ2 : St) (H : Heap) (locs : List Loc), σ2 = sI σ 30 10 v → Zt D h cy s σ2 H locs → W p l e R s m args below meth c H locs cells slots Q (F0 m (pc + 3) ls rest)) : W p l e R s m args below meth c H locs cells slots Q (F0 m pc ls (.int v :: .ref (h 30) :: rest)) :=
  x_put (T := TX10) X Z sh_30 ing10 tyX10 tyX10_ok nmX10 rfl 10 (by decide) fl_RX10_56 rfl rfl rfl rfl (Nat.le_of_ble_eq_true rfl) _ (wd_sI sh_30 rfl) hdg kk
theorem fl_RX10_67 : Cond.fieldLink RX10 67 (TX8 2).1 (TX8 2).2.1 (TX8 2).2.2.1 ∈ GT := GT1 86 rfl rfl
theorem gf_RX10_67 {p : Program} {l : Launch} {e : Env} {R : Room} {s : State} {m : MethodId} {args : Array Value} {below : List Frame} {meth : Method} {c : Code} {H : Heap} {locs : List Loc} {cells slots : Nat} {Q : State → Prop} {D : va_G} {h : Nat → Nat} {cy : Nat → ClassId} {σ : St} {cc : ByteArray} {nL pc : Nat} {ls : Array Slot} {rest : List Value} (X : Cx p s m args c D h cy RX10 cc nL) (Z : Zt D h cy s σ H locs) (hdg : decode cc pc = .ok (.getfield 67, 3)) (kk : W p l e R s m args below meth c H locs cells slots Q (F0 m (pc + 3) ls (.ref (h 6) :: rest))) : W p l e R s m args below meth c H locs cells slots Q (F0 m pc ls (.ref (h 5) :: rest)) :=
  x_get (T := TX8) X Z sh_5 ing8 rfl 2 (by decide) fl_RX10_67 rfl rfl hdg kk
theorem fl_RX10_92 : Cond.fieldLink RX10 92 (TX8 6).1 (TX8 6).2.1 (TX8 6).2.2.1 ∈ GT := GT1 95 rfl rfl
theorem gf_RX10_92 {p : Program} {l : Launch} {e : Env} {R : Room} {s : State} {m : MethodId} {args : Array Value} {below : List Frame} {meth : Method} {c : Code} {H : Heap} {locs : List Loc} {cells slots : Nat} {Q : State → Prop} {D : va_G} {h : Nat → Nat} {cy : Nat → ClassId} {σ : St} {cc : ByteArray} {nL pc : Nat} {ls : Array Slot} {rest : List Value} (X : Cx p s m args c D h cy RX10 cc nL) (Z : Zt D h cy s σ H locs) (hdg : decode cc pc = .ok (.getfield 92, 3)) (kk : W p l e R s m args below meth c H locs cells slots Q (F0 m (pc + 3) ls (.ref (h 12) :: rest))) : W p l e R s m args below meth c H locs cells slots Q (F0 m pc ls (.ref (h 5) :: rest)) :=
  x_get (T := TX8) X Z sh_5 ing8 rfl 6 (by decide) fl_RX10_92 rfl rfl hdg kk
theorem fl_RX10_95 : Cond.fieldLink RX10 95 (TX10 4).1 (TX10 4).2.1 (TX10 4).2.2.1 ∈ GT := GT1 172 rfl rfl
theorem gf_RX10_95 {p : Program} {l : Launch} {e : Env} {R : Room} {s : State} {m : MethodId} {args : Array Value} {below : List Frame} {meth : Method} {c : Code} {H : Heap} {locs : List Loc} {cells slots : Nat} {Q : State → Prop} {D : va_G} {h : Nat → Nat} {cy : Nat → ClassId} {σ : St} {cc : ByteArray} {nL pc : Nat} {ls : Array Slot} {rest : List Value} (X : Cx p s m args c D h cy RX10 cc nL) (Z : Zt D h cy s σ H locs) (hdg : decode cc pc = .ok (.getfield 95, 3)) (kk : W p l e R s m args below meth c H locs cells slots Q (F0 m (pc + 3) ls (.int (σ.1 30 4) :: rest))) : W p l e R s m args below meth c H locs cells slots Q (F0 m pc ls (.ref (h 30) :: rest)) :=
  x_get (T := TX10) X Z sh_30 ing10 rfl 4 (by decide) fl_RX10_95 rfl rfl hdg kk
theorem pf_RX10_95 {p : Program} {l : Launch} {e : Env} {R : Room} {s : State} {m : MethodId} {args : Array Value} {below : List Frame} {meth : Method} {c : Code} {H : Heap} {locs : List Loc} {cells slots : Nat} {Q : State → Prop} {D : va_G} {h : Nat → Nat} {cy : Nat → ClassId} {σ : St} {cc : ByteArray} {nL pc : Nat} {ls : Array Slot} {rest : List Value} {v : Int32} (X : Cx p s m args c D h cy RX10 cc nL) (Z : Zt D h cy s σ H locs) (hdg : decode cc pc = .ok (.putfield 95, 3)) (kk : ∀ (σ2 : St) (H : Heap) (locs : List Loc), σ2 = sI σ 30 4 v → Zt D h cy s σ2 H locs → W p l e R s m args below meth c H locs cells slots Q (F0 m (pc + 3) ls rest)) : W p l e R s m args below meth c H locs cells slots Q (F0 m pc ls (.int v :: .ref (h 30) :: rest)) :=
  x_put (T := TX10) X Z sh_30 ing10 tyX10 tyX10_ok nmX10 rfl 4 (by decide) fl_RX10_95 rfl rfl rfl rfl (Nat.le_of_ble_eq_true rfl) _ (wd_sI sh_30 rfl) hdg kk
theorem fl_RX10_98 : Cond.fieldLink RX10 98 (TX8 3).1 (TX8 3).2.1 (TX8 3).2.2.1 ∈ GT := GT1 89 rfl rfl
theorem gf_RX10_98 {p : Program} {l : Launch} {e : Env} {R : Room} {s : State} {m : MethodId} {args : Array Value} {below : List Frame} {meth : Method} {c : Code} {H : Heap} {locs : List Loc} {cells slots : Nat} {Q : State → Prop} {D : va_G} {h : Nat → Nat} {cy : Nat → ClassId} {σ : St} {cc : ByteArray} {nL pc : Nat} {ls : Array Slot} {rest : List Value} (X : Cx p s m args c D h cy RX10 cc nL) (Z : Zt D h cy s σ H locs) (hdg : decode cc pc = .ok (.getfield 98, 3)) (kk : W p l e R s m args below meth c H locs cells slots Q (F0 m (pc + 3) ls (.ref (h 9) :: rest))) : W p l e R s m args below meth c H locs cells slots Q (F0 m pc ls (.ref (h 5) :: rest)) :=
  x_get (T := TX8) X Z sh_5 ing8 rfl 3 (by decide) fl_RX10_98 rfl rfl hdg kk
theorem fl_RX10_109 : Cond.fieldLink RX10 109 (TX8 1).1 (TX8 1).2.1 (TX8 1).2.2.1 ∈ GT := GT1 84 rfl rfl
theorem gf_RX10_109 {p : Program} {l : Launch} {e : Env} {R : Room} {s : State} {m : MethodId} {args : Array Value} {below : List Frame} {meth : Method} {c : Code} {H : Heap} {locs : List Loc} {cells slots : Nat} {Q : State → Prop} {D : va_G} {h : Nat → Nat} {cy : Nat → ClassId} {σ : St} {cc : ByteArray} {nL pc : Nat} {ls : Array Slot} {rest : List Value} (X : Cx p s m args c D h cy RX10 cc nL) (Z : Zt D h cy s σ H locs) (hdg : decode cc pc = .ok (.getfield 109, 3)) (kk : W p l e R s m args below meth c H locs cells slots Q (F0 m (pc + 3) ls (.int (σ.1 5 1) :: rest))) : W p l e R s m args below meth c H locs cells slots Q (F0 m pc ls (.ref (h 5) :: rest)) :=
  x_get (T := TX8) X Z sh_5 ing8 rfl 1 (by decide) fl_RX10_109 rfl rfl hdg kk
theorem fl_RX10_115 : Cond.fieldLink RX10 115 (TX10 7).1 (TX10 7).2.1 (TX10 7).2.2.1 ∈ GT := GT1 175 rfl rfl
theorem gf_RX10_115 {p : Program} {l : Launch} {e : Env} {R : Room} {s : State} {m : MethodId} {args : Array Value} {below : List Frame} {meth : Method} {c : Code} {H : Heap} {locs : List Loc} {cells slots : Nat} {Q : State → Prop} {D : va_G} {h : Nat → Nat} {cy : Nat → ClassId} {σ : St} {cc : ByteArray} {nL pc : Nat} {ls : Array Slot} {rest : List Value} (X : Cx p s m args c D h cy RX10 cc nL) (Z : Zt D h cy s σ H locs) (hdg : decode cc pc = .ok (.getfield 115, 3)) (kk : W p l e R s m args below meth c H locs cells slots Q (F0 m (pc + 3) ls (.int (σ.1 30 7) :: rest))) : W p l e R s m args below meth c H locs cells slots Q (F0 m pc ls (.ref (h 30) :: rest)) :=
  x_get (T := TX10) X Z sh_30 ing10 rfl 7 (by decide) fl_RX10_115 rfl rfl hdg kk
theorem pf_RX10_115 {p : Program} {l : Launch} {e : Env} {R : Room} {s : State} {m : MethodId} {args : Array Value} {below : List Frame} {meth : Method} {c : Code} {H : Heap} {locs : List Loc} {cells slots : Nat} {Q : State → Prop} {D : va_G} {h : Nat → Nat} {cy : Nat → ClassId} {σ : St} {cc : ByteArray} {nL pc : Nat} {ls : Array Slot} {rest : List Value} {v : Int32} (X : Cx p s m args c D h cy RX10 cc nL) (Z : Zt D h cy s σ H locs) (hdg : decode cc pc = .ok (.putfield 115, 3)) (kk : ∀ (σ2 : St) (H : Heap) (locs : List Loc), σ2 = sI σ 30 7 v → Zt D h cy s σ2 H locs → W p l e R s m args below meth c H locs cells slots Q (F0 m (pc + 3) ls rest)) : W p l e R s m args below meth c H locs cells slots Q (F0 m pc ls (.int v :: .ref (h 30) :: rest)) :=
  x_put (T := TX10) X Z sh_30 ing10 tyX10 tyX10_ok nmX10 rfl 7 (by decide) fl_RX10_115 rfl rfl rfl rfl (Nat.le_of_ble_eq_true rfl) _ (wd_sI sh_30 rfl) hdg kk
theorem fl_RX10_118 : Cond.fieldLink RX10 118 (TX8 13).1 (TX8 13).2.1 (TX8 13).2.2.1 ∈ GT := GT1 111 rfl rfl
theorem gf_RX10_118 {p : Program} {l : Launch} {e : Env} {R : Room} {s : State} {m : MethodId} {args : Array Value} {below : List Frame} {meth : Method} {c : Code} {H : Heap} {locs : List Loc} {cells slots : Nat} {Q : State → Prop} {D : va_G} {h : Nat → Nat} {cy : Nat → ClassId} {σ : St} {cc : ByteArray} {nL pc : Nat} {ls : Array Slot} {rest : List Value} (X : Cx p s m args c D h cy RX10 cc nL) (Z : Zt D h cy s σ H locs) (hdg : decode cc pc = .ok (.getfield 118, 3)) (kk : W p l e R s m args below meth c H locs cells slots Q (F0 m (pc + 3) ls (.ref (h 23) :: rest))) : W p l e R s m args below meth c H locs cells slots Q (F0 m pc ls (.ref (h 5) :: rest)) :=
  x_get (T := TX8) X Z sh_5 ing8 rfl 13 (by decide) fl_RX10_118 rfl rfl hdg kk
theorem fl_RX10_121 : Cond.fieldLink RX10 121 (TX10 8).1 (TX10 8).2.1 (TX10 8).2.2.1 ∈ GT := GT1 176 rfl rfl
theorem gf_RX10_121 {p : Program} {l : Launch} {e : Env} {R : Room} {s : State} {m : MethodId} {args : Array Value} {below : List Frame} {meth : Method} {c : Code} {H : Heap} {locs : List Loc} {cells slots : Nat} {Q : State → Prop} {D : va_G} {h : Nat → Nat} {cy : Nat → ClassId} {σ : St} {cc : ByteArray} {nL pc : Nat} {ls : Array Slot} {rest : List Value} (X : Cx p s m args c D h cy RX10 cc nL) (Z : Zt D h cy s σ H locs) (hdg : decode cc pc = .ok (.getfield 121, 3)) (kk : W p l e R s m args below meth c H locs cells slots Q (F0 m (pc + 3) ls (.int (σ.1 30 8) :: rest))) : W p l e R s m args below meth c H locs cells slots Q (F0 m pc ls (.ref (h 30) :: rest)) :=
  x_get (T := TX10) X Z sh_30 ing10 rfl 8 (by decide) fl_RX10_121 rfl rfl hdg kk
theorem pf_RX10_121 {p : Program} {l : Launch} {e : Env} {R : Room} {s : State} {m : MethodId} {args : Array Value} {below : List Frame} {meth : Method} {c : Code} {H : Heap} {locs : List Loc} {cells slots : Nat} {Q : State → Prop} {D : va_G} {h : Nat → Nat} {cy : Nat → ClassId} {σ : St} {cc : ByteArray} {nL pc : Nat} {ls : Array Slot} {rest : List Value} {v : Int32} (X : Cx p s m args c D h cy RX10 cc nL) (Z : Zt D h cy s σ H locs) (hdg : decode cc pc = .ok (.putfield 121, 3)) (kk : ∀ (σ2 : St) (H : Heap) (locs : List Loc), σ2 = sI σ 30 8 v → Zt D h cy s σ2 H locs → W p l e R s m args below meth c H locs cells slots Q (F0 m (pc + 3) ls rest)) : W p l e R s m args below meth c H locs cells slots Q (F0 m pc ls (.int v :: .ref (h 30) :: rest)) :=
  x_put (T := TX10) X Z sh_30 ing10 tyX10 tyX10_ok nmX10 rfl 8 (by decide) fl_RX10_121 rfl rfl rfl rfl (Nat.le_of_ble_eq_true rfl) _ (wd_sI sh_30 rfl) hdg kk
theorem fl_RX10_154 : Cond.fieldLink RX10 154 (TX8 4).1 (TX8 4).2.1 (TX8 4).2.2.1 ∈ GT := GT1 91 rfl rfl
theorem gf_RX10_154 {p : Program} {l : Launch} {e : Env} {R : Room} {s : State} {m : MethodId} {args : Array Value} {below : List Frame} {meth : Method} {c : Code} {H : Heap} {locs : List Loc} {cells slots : Nat} {Q : State → Prop} {D : va_G} {h : Nat → Nat} {cy : Nat → ClassId} {σ : St} {cc : ByteArray} {nL pc : Nat} {ls : Array Slot} {rest : List Value} (X : Cx p s m args c D h cy RX10 cc nL) (Z : Zt D h cy s σ H locs) (hdg : decode cc pc = .ok (.getfield 154, 3)) (kk : W p l e R s m args below meth c H locs cells slots Q (F0 m (pc + 3) ls (.ref (h 10) :: rest))) : W p l e R s m args below meth c H locs cells slots Q (F0 m pc ls (.ref (h 5) :: rest)) :=
  x_get (T := TX8) X Z sh_5 ing8 rfl 4 (by decide) fl_RX10_154 rfl rfl hdg kk
theorem fl_RX10_157 : Cond.fieldLink RX10 157 (TX8 7).1 (TX8 7).2.1 (TX8 7).2.2.1 ∈ GT := GT1 98 rfl rfl
theorem gf_RX10_157 {p : Program} {l : Launch} {e : Env} {R : Room} {s : State} {m : MethodId} {args : Array Value} {below : List Frame} {meth : Method} {c : Code} {H : Heap} {locs : List Loc} {cells slots : Nat} {Q : State → Prop} {D : va_G} {h : Nat → Nat} {cy : Nat → ClassId} {σ : St} {cc : ByteArray} {nL pc : Nat} {ls : Array Slot} {rest : List Value} (X : Cx p s m args c D h cy RX10 cc nL) (Z : Zt D h cy s σ H locs) (hdg : decode cc pc = .ok (.getfield 157, 3)) (kk : W p l e R s m args below meth c H locs cells slots Q (F0 m (pc + 3) ls (.ref (h 15) :: rest))) : W p l e R s m args below meth c H locs cells slots Q (F0 m pc ls (.ref (h 5) :: rest)) :=
  x_get (T := TX8) X Z sh_5 ing8 rfl 7 (by decide) fl_RX10_157 rfl rfl hdg kk
theorem fl_RX10_160 : Cond.fieldLink RX10 160 (TX8 8).1 (TX8 8).2.1 (TX8 8).2.2.1 ∈ GT := GT1 100 rfl rfl
theorem gf_RX10_160 {p : Program} {l : Launch} {e : Env} {R : Room} {s : State} {m : MethodId} {args : Array Value} {below : List Frame} {meth : Method} {c : Code} {H : Heap} {locs : List Loc} {cells slots : Nat} {Q : State → Prop} {D : va_G} {h : Nat → Nat} {cy : Nat → ClassId} {σ : St} {cc : ByteArray} {nL pc : Nat} {ls : Array Slot} {rest : List Value} (X : Cx p s m args c D h cy RX10 cc nL) (Z : Zt D h cy s σ H locs) (hdg : decode cc pc = .ok (.getfield 160, 3)) (kk : W p l e R s m args below meth c H locs cells slots Q (F0 m (pc + 3) ls (.ref (h 16) :: rest))) : W p l e R s m args below meth c H locs cells slots Q (F0 m pc ls (.ref (h 5) :: rest)) :=
  x_get (T := TX8) X Z sh_5 ing8 rfl 8 (by decide) fl_RX10_160 rfl rfl hdg kk
theorem fl_RX10_163 : Cond.fieldLink RX10 163 (TX8 9).1 (TX8 9).2.1 (TX8 9).2.2.1 ∈ GT := GT1 102 rfl rfl
theorem gf_RX10_163 {p : Program} {l : Launch} {e : Env} {R : Room} {s : State} {m : MethodId} {args : Array Value} {below : List Frame} {meth : Method} {c : Code} {H : Heap} {locs : List Loc} {cells slots : Nat} {Q : State → Prop} {D : va_G} {h : Nat → Nat} {cy : Nat → ClassId} {σ : St} {cc : ByteArray} {nL pc : Nat} {ls : Array Slot} {rest : List Value} (X : Cx p s m args c D h cy RX10 cc nL) (Z : Zt D h cy s σ H locs) (hdg : decode cc pc = .ok (.getfield 163, 3)) (kk : W p l e R s m args below meth c H locs cells slots Q (F0 m (pc + 3) ls (.ref (h 17) :: rest))) : W p l e R s m args below meth c H locs cells slots Q (F0 m pc ls (.ref (h 5) :: rest)) :=
  x_get (T := TX8) X Z sh_5 ing8 rfl 9 (by decide) fl_RX10_163 rfl rfl hdg kk
theorem fl_RX10_180 : Cond.fieldLink RX10 180 (TX8 5).1 (TX8 5).2.1 (TX8 5).2.2.1 ∈ GT := GT1 93 rfl rfl
theorem gf_RX10_180 {p : Program} {l : Launch} {e : Env} {R : Room} {s : State} {m : MethodId} {args : Array Value} {below : List Frame} {meth : Method} {c : Code} {H : Heap} {locs : List Loc} {cells slots : Nat} {Q : State → Prop} {D : va_G} {h : Nat → Nat} {cy : Nat → ClassId} {σ : St} {cc : ByteArray} {nL pc : Nat} {ls : Array Slot} {rest : List Value} (X : Cx p s m args c D h cy RX10 cc nL) (Z : Zt D h cy s σ H locs) (hdg : decode cc pc = .ok (.getfield 180, 3)) (kk : W p l e R s m args below meth c H locs cells slots Q (F0 m (pc + 3) ls (.ref (h 11) :: rest))) : W p l e R s m args below meth c H locs cells slots Q (F0 m pc ls (.ref (h 5) :: rest)) :=
  x_get (T := TX8) X Z sh_5 ing8 rfl 5 (by decide) fl_RX10_180 rfl rfl hdg kk
theorem fl_RX10_215 : Cond.fieldLink RX10 215 (TX8 0).1 (TX8 0).2.1 (TX8 0).2.2.1 ∈ GT := GT1 82 rfl rfl
theorem gf_RX10_215 {p : Program} {l : Launch} {e : Env} {R : Room} {s : State} {m : MethodId} {args : Array Value} {below : List Frame} {meth : Method} {c : Code} {H : Heap} {locs : List Loc} {cells slots : Nat} {Q : State → Prop} {D : va_G} {h : Nat → Nat} {cy : Nat → ClassId} {σ : St} {cc : ByteArray} {nL pc : Nat} {ls : Array Slot} {rest : List Value} (X : Cx p s m args c D h cy RX10 cc nL) (Z : Zt D h cy s σ H locs) (hdg : decode cc pc = .ok (.getfield 215, 3)) (kk : W p l e R s m args below meth c H locs cells slots Q (F0 m (pc + 3) ls (.int (σ.1 5 0) :: rest))) : W p l e R s m args below meth c H locs cells slots Q (F0 m pc ls (.ref (h 5) :: rest)) :=
  x_get (T := TX8) X Z sh_5 ing8 rfl 0 (by decide) fl_RX10_215 rfl rfl hdg kk
theorem fl_RX10_220 : Cond.fieldLink RX10 220 (TX8 15).1 (TX8 15).2.1 (TX8 15).2.2.1 ∈ GT := GT1 116 rfl rfl
theorem gf_RX10_220 {p : Program} {l : Launch} {e : Env} {R : Room} {s : State} {m : MethodId} {args : Array Value} {below : List Frame} {meth : Method} {c : Code} {H : Heap} {locs : List Loc} {cells slots : Nat} {Q : State → Prop} {D : va_G} {h : Nat → Nat} {cy : Nat → ClassId} {σ : St} {cc : ByteArray} {nL pc : Nat} {ls : Array Slot} {rest : List Value} (X : Cx p s m args c D h cy RX10 cc nL) (Z : Zt D h cy s σ H locs) (hdg : decode cc pc = .ok (.getfield 220, 3)) (kk : W p l e R s m args below meth c H locs cells slots Q (F0 m (pc + 3) ls (.ref (h 27) :: rest))) : W p l e R s m args below meth c H locs cells slots Q (F0 m pc ls (.ref (h 5) :: rest)) :=
  x_get (T := TX8) X Z sh_5 ing8 rfl 15 (by decide) fl_RX10_220 rfl rfl hdg kk
theorem fl_RX10_224 : Cond.fieldLink RX10 224 (TX8 14).1 (TX8 14).2.1 (TX8 14).2.2.1 ∈ GT := GT1 114 rfl rfl
theorem gf_RX10_224 {p : Program} {l : Launch} {e : Env} {R : Room} {s : State} {m : MethodId} {args : Array Value} {below : List Frame} {meth : Method} {c : Code} {H : Heap} {locs : List Loc} {cells slots : Nat} {Q : State → Prop} {D : va_G} {h : Nat → Nat} {cy : Nat → ClassId} {σ : St} {cc : ByteArray} {nL pc : Nat} {ls : Array Slot} {rest : List Value} (X : Cx p s m args c D h cy RX10 cc nL) (Z : Zt D h cy s σ H locs) (hdg : decode cc pc = .ok (.getfield 224, 3)) (kk : W p l e R s m args below meth c H locs cells slots Q (F0 m (pc + 3) ls (.ref (h 26) :: rest))) : W p l e R s m args below meth c H locs cells slots Q (F0 m pc ls (.ref (h 5) :: rest)) :=
  x_get (T := TX8) X Z sh_5 ing8 rfl 14 (by decide) fl_RX10_224 rfl rfl hdg kk
theorem fl_RX10_227 : Cond.fieldLink RX10 227 (TX5 1).1 (TX5 1).2.1 (TX5 1).2.2.1 ∈ GT := GT1 67 rfl rfl
theorem gf_RX10_227 {p : Program} {l : Launch} {e : Env} {R : Room} {s : State} {m : MethodId} {args : Array Value} {below : List Frame} {meth : Method} {c : Code} {H : Heap} {locs : List Loc} {cells slots : Nat} {Q : State → Prop} {D : va_G} {h : Nat → Nat} {cy : Nat → ClassId} {σ : St} {cc : ByteArray} {nL pc : Nat} {ls : Array Slot} {rest : List Value} (X : Cx p s m args c D h cy RX10 cc nL) (Z : Zt D h cy s σ H locs) {k b n : Nat} (hk : NamesS k b n) (hdg : decode cc pc = .ok (.getfield 227, 3)) (kk : W p l e R s m args below meth c H locs cells slots Q (F0 m (pc + 3) ls (.ref (h (k + 2)) :: rest))) : W p l e R s m args below meth c H locs cells slots Q (F0 m pc ls (.ref (h k) :: rest)) :=
  x_get (T := TX5) X Z hk.1 ing5 rfl 1 (by decide) fl_RX10_227 rfl rfl hdg kk
theorem fl_RX10_230 : Cond.fieldLink RX10 230 (TX8 11).1 (TX8 11).2.1 (TX8 11).2.2.1 ∈ GT := GT1 107 rfl rfl
theorem gf_RX10_230 {p : Program} {l : Launch} {e : Env} {R : Room} {s : State} {m : MethodId} {args : Array Value} {below : List Frame} {meth : Method} {c : Code} {H : Heap} {locs : List Loc} {cells slots : Nat} {Q : State → Prop} {D : va_G} {h : Nat → Nat} {cy : Nat → ClassId} {σ : St} {cc : ByteArray} {nL pc : Nat} {ls : Array Slot} {rest : List Value} (X : Cx p s m args c D h cy RX10 cc nL) (Z : Zt D h cy s σ H locs) (hdg : decode cc pc = .ok (.getfield 230, 3)) (kk : W p l e R s m args below meth c H locs cells slots Q (F0 m (pc + 3) ls (.ref (h 21) :: rest))) : W p l e R s m args below meth c H locs cells slots Q (F0 m pc ls (.ref (h 5) :: rest)) :=
  x_get (T := TX8) X Z sh_5 ing8 rfl 11 (by decide) fl_RX10_230 rfl rfl hdg kk
theorem fl_RX10_233 : Cond.fieldLink RX10 233 (TX8 12).1 (TX8 12).2.1 (TX8 12).2.2.1 ∈ GT := GT1 109 rfl rfl
theorem gf_RX10_233 {p : Program} {l : Launch} {e : Env} {R : Room} {s : State} {m : MethodId} {args : Array Value} {below : List Frame} {meth : Method} {c : Code} {H : Heap} {locs : List Loc} {cells slots : Nat} {Q : State → Prop} {D : va_G} {h : Nat → Nat} {cy : Nat → ClassId} {σ : St} {cc : ByteArray} {nL pc : Nat} {ls : Array Slot} {rest : List Value} (X : Cx p s m args c D h cy RX10 cc nL) (Z : Zt D h cy s σ H locs) (hdg : decode cc pc = .ok (.getfield 233, 3)) (kk : W p l e R s m args below meth c H locs cells slots Q (F0 m (pc + 3) ls (.ref (h 22) :: rest))) : W p l e R s m args below meth c H locs cells slots Q (F0 m pc ls (.ref (h 5) :: rest)) :=
  x_get (T := TX8) X Z sh_5 ing8 rfl 12 (by decide) fl_RX10_233 rfl rfl hdg kk
theorem fl_RX12_7 : Cond.fieldLink RX12 7 (TX12 1).1 (TX12 1).2.1 (TX12 1).2.2.1 ∈ GT := GT5 196 rfl rfl
theorem gf_RX12_7 {p : Program} {l : Launch} {e : Env} {R : Room} {s : State} {m : MethodId} {args : Array Value} {below : List Frame} {meth : Method} {c : Code} {H : Heap} {locs : List Loc} {cells slots : Nat} {Q : State → Prop} {D : va_G} {h : Nat → Nat} {cy : Nat → ClassId} {σ : St} {cc : ByteArray} {nL pc : Nat} {ls : Array Slot} {rest : List Value} (X : Cx p s m args c D h cy RX12 cc nL) (Z : Zt D h cy s σ H locs) (hdg : decode cc pc = .ok (.getfield 7, 3)) (kk : W p l e R s m args below meth c H locs cells slots Q (F0 m (pc + 3) ls (.ref (h 69) :: rest))) : W p l e R s m args below meth c H locs cells slots Q (F0 m pc ls (.ref (h 68) :: rest)) :=
  x_get (T := TX12) X Z sh_68 ing12 rfl 1 (by decide) fl_RX12_7 rfl rfl hdg kk
theorem fl_RX12_13 : Cond.fieldLink RX12 13 (TX12 3).1 (TX12 3).2.1 (TX12 3).2.2.1 ∈ GT := GT5 198 rfl rfl
theorem gf_RX12_13 {p : Program} {l : Launch} {e : Env} {R : Room} {s : State} {m : MethodId} {args : Array Value} {below : List Frame} {meth : Method} {c : Code} {H : Heap} {locs : List Loc} {cells slots : Nat} {Q : State → Prop} {D : va_G} {h : Nat → Nat} {cy : Nat → ClassId} {σ : St} {cc : ByteArray} {nL pc : Nat} {ls : Array Slot} {rest : List Value} (X : Cx p s m args c D h cy RX12 cc nL) (Z : Zt D h cy s σ H locs) (hdg : decode cc pc = .ok (.getfield 13, 3)) (kk : W p l e R s m args below meth c H locs cells slots Q (F0 m (pc + 3) ls (.ref (h 70) :: rest))) : W p l e R s m args below meth c H locs cells slots Q (F0 m pc ls (.ref (h 68) :: rest)) :=
  x_get (T := TX12) X Z sh_68 ing12 rfl 3 (by decide) fl_RX12_13 rfl rfl hdg kk
theorem fl_RX12_17 : Cond.fieldLink RX12 17 (TX12 4).1 (TX12 4).2.1 (TX12 4).2.2.1 ∈ GT := GT5 199 rfl rfl
theorem gf_RX12_17 {p : Program} {l : Launch} {e : Env} {R : Room} {s : State} {m : MethodId} {args : Array Value} {below : List Frame} {meth : Method} {c : Code} {H : Heap} {locs : List Loc} {cells slots : Nat} {Q : State → Prop} {D : va_G} {h : Nat → Nat} {cy : Nat → ClassId} {σ : St} {cc : ByteArray} {nL pc : Nat} {ls : Array Slot} {rest : List Value} (X : Cx p s m args c D h cy RX12 cc nL) (Z : Zt D h cy s σ H locs) (hdg : decode cc pc = .ok (.getfield 17, 3)) (kk : W p l e R s m args below meth c H locs cells slots Q (F0 m (pc + 3) ls (.int (σ.1 68 4) :: rest))) : W p l e R s m args below meth c H locs cells slots Q (F0 m pc ls (.ref (h 68) :: rest)) :=
  x_get (T := TX12) X Z sh_68 ing12 rfl 4 (by decide) fl_RX12_17 rfl rfl hdg kk
theorem pf_RX12_17 {p : Program} {l : Launch} {e : Env} {R : Room} {s : State} {m : MethodId} {args : Array Value} {below : List Frame} {meth : Method} {c : Code} {H : Heap} {locs : List Loc} {cells slots : Nat} {Q : State → Prop} {D : va_G} {h : Nat → Nat} {cy : Nat → ClassId} {σ : St} {cc : ByteArray} {nL pc : Nat} {ls : Array Slot} {rest : List Value} {v : Int32} (X : Cx p s m args c D h cy RX12 cc nL) (Z : Zt D h cy s σ H locs) (hdg : decode cc pc = .ok (.putfield 17, 3)) (kk : ∀ (σ2 : St) (H : Heap) (locs : List Loc), σ2 = sI σ 68 4 v → Zt D h cy s σ2 H locs → W p l e R s m args below meth c H locs cells slots Q (F0 m (pc + 3) ls rest)) : W p l e R s m args below meth c H locs cells slots Q (F0 m pc ls (.int v :: .ref (h 68) :: rest)) :=
  x_put (T := TX12) X Z sh_68 ing12 tyX12 tyX12_ok nmX12 rfl 4 (by decide) fl_RX12_17 rfl rfl rfl rfl (Nat.le_of_ble_eq_true rfl) _ (wd_sI sh_68 rfl) hdg kk
theorem fl_RX12_21 : Cond.fieldLink RX12 21 (TX12 5).1 (TX12 5).2.1 (TX12 5).2.2.1 ∈ GT := GT5 200 rfl rfl
theorem gf_RX12_21 {p : Program} {l : Launch} {e : Env} {R : Room} {s : State} {m : MethodId} {args : Array Value} {below : List Frame} {meth : Method} {c : Code} {H : Heap} {locs : List Loc} {cells slots : Nat} {Q : State → Prop} {D : va_G} {h : Nat → Nat} {cy : Nat → ClassId} {σ : St} {cc : ByteArray} {nL pc : Nat} {ls : Array Slot} {rest : List Value} (X : Cx p s m args c D h cy RX12 cc nL) (Z : Zt D h cy s σ H locs) (hdg : decode cc pc = .ok (.getfield 21, 3)) (kk : W p l e R s m args below meth c H locs cells slots Q (F0 m (pc + 3) ls (.int (σ.1 68 5) :: rest))) : W p l e R s m args below meth c H locs cells slots Q (F0 m pc ls (.ref (h 68) :: rest)) :=
  x_get (T := TX12) X Z sh_68 ing12 rfl 5 (by decide) fl_RX12_21 rfl rfl hdg kk
theorem pf_RX12_21 {p : Program} {l : Launch} {e : Env} {R : Room} {s : State} {m : MethodId} {args : Array Value} {below : List Frame} {meth : Method} {c : Code} {H : Heap} {locs : List Loc} {cells slots : Nat} {Q : State → Prop} {D : va_G} {h : Nat → Nat} {cy : Nat → ClassId} {σ : St} {cc : ByteArray} {nL pc : Nat} {ls : Array Slot} {rest : List Value} {v : Int32} (X : Cx p s m args c D h cy RX12 cc nL) (Z : Zt D h cy s σ H locs) (hdg : decode cc pc = .ok (.putfield 21, 3)) (kk : ∀ (σ2 : St) (H : Heap) (locs : List Loc), σ2 = sI σ 68 5 v → Zt D h cy s σ2 H locs → W p l e R s m args below meth c H locs cells slots Q (F0 m (pc + 3) ls rest)) : W p l e R s m args below meth c H locs cells slots Q (F0 m pc ls (.int v :: .ref (h 68) :: rest)) :=
  x_put (T := TX12) X Z sh_68 ing12 tyX12 tyX12_ok nmX12 rfl 5 (by decide) fl_RX12_21 rfl rfl rfl rfl (Nat.le_of_ble_eq_true rfl) _ (wd_sI sh_68 rfl) hdg kk
theorem fl_RX12_24 : Cond.fieldLink RX12 24 (TX12 12).1 (TX12 12).2.1 (TX12 12).2.2.1 ∈ GT := GT5 207 rfl rfl
theorem gf_RX12_24 {p : Program} {l : Launch} {e : Env} {R : Room} {s : State} {m : MethodId} {args : Array Value} {below : List Frame} {meth : Method} {c : Code} {H : Heap} {locs : List Loc} {cells slots : Nat} {Q : State → Prop} {D : va_G} {h : Nat → Nat} {cy : Nat → ClassId} {σ : St} {cc : ByteArray} {nL pc : Nat} {ls : Array Slot} {rest : List Value} (X : Cx p s m args c D h cy RX12 cc nL) (Z : Zt D h cy s σ H locs) (hdg : decode cc pc = .ok (.getfield 24, 3)) (kk : W p l e R s m args below meth c H locs cells slots Q (F0 m (pc + 3) ls (.ref (h 71) :: rest))) : W p l e R s m args below meth c H locs cells slots Q (F0 m pc ls (.ref (h 68) :: rest)) :=
  x_get (T := TX12) X Z sh_68 ing12 rfl 12 (by decide) fl_RX12_24 rfl rfl hdg kk
theorem fl_RX12_27 : Cond.fieldLink RX12 27 (TX12 13).1 (TX12 13).2.1 (TX12 13).2.2.1 ∈ GT := GT5 208 rfl rfl
theorem gf_RX12_27 {p : Program} {l : Launch} {e : Env} {R : Room} {s : State} {m : MethodId} {args : Array Value} {below : List Frame} {meth : Method} {c : Code} {H : Heap} {locs : List Loc} {cells slots : Nat} {Q : State → Prop} {D : va_G} {h : Nat → Nat} {cy : Nat → ClassId} {σ : St} {cc : ByteArray} {nL pc : Nat} {ls : Array Slot} {rest : List Value} (X : Cx p s m args c D h cy RX12 cc nL) (Z : Zt D h cy s σ H locs) (hdg : decode cc pc = .ok (.getfield 27, 3)) (kk : W p l e R s m args below meth c H locs cells slots Q (F0 m (pc + 3) ls (.ref (h 72) :: rest))) : W p l e R s m args below meth c H locs cells slots Q (F0 m pc ls (.ref (h 68) :: rest)) :=
  x_get (T := TX12) X Z sh_68 ing12 rfl 13 (by decide) fl_RX12_27 rfl rfl hdg kk
theorem fl_RX12_30 : Cond.fieldLink RX12 30 (TX12 14).1 (TX12 14).2.1 (TX12 14).2.2.1 ∈ GT := GT5 209 rfl rfl
theorem gf_RX12_30 {p : Program} {l : Launch} {e : Env} {R : Room} {s : State} {m : MethodId} {args : Array Value} {below : List Frame} {meth : Method} {c : Code} {H : Heap} {locs : List Loc} {cells slots : Nat} {Q : State → Prop} {D : va_G} {h : Nat → Nat} {cy : Nat → ClassId} {σ : St} {cc : ByteArray} {nL pc : Nat} {ls : Array Slot} {rest : List Value} (X : Cx p s m args c D h cy RX12 cc nL) (Z : Zt D h cy s σ H locs) (hdg : decode cc pc = .ok (.getfield 30, 3)) (kk : W p l e R s m args below meth c H locs cells slots Q (F0 m (pc + 3) ls (.ref (h 73) :: rest))) : W p l e R s m args below meth c H locs cells slots Q (F0 m pc ls (.ref (h 68) :: rest)) :=
  x_get (T := TX12) X Z sh_68 ing12 rfl 14 (by decide) fl_RX12_30 rfl rfl hdg kk
theorem fl_RX12_33 : Cond.fieldLink RX12 33 (TX12 15).1 (TX12 15).2.1 (TX12 15).2.2.1 ∈ GT := GT5 210 rfl rfl
theorem gf_RX12_33 {p : Program} {l : Launch} {e : Env} {R : Room} {s : State} {m : MethodId} {args : Array Value} {below : List Frame} {meth : Method} {c : Code} {H : Heap} {locs : List Loc} {cells slots : Nat} {Q : State → Prop} {D : va_G} {h : Nat → Nat} {cy : Nat → ClassId} {σ : St} {cc : ByteArray} {nL pc : Nat} {ls : Array Slot} {rest : List Value} (X : Cx p s m args c D h cy RX12 cc nL) (Z : Zt D h cy s σ H locs) (hdg : decode cc pc = .ok (.getfield 33, 3)) (kk : W p l e R s m args below meth c H locs cells slots Q (F0 m (pc + 3) ls (.ref (h 74) :: rest))) : W p l e R s m args below meth c H locs cells slots Q (F0 m pc ls (.ref (h 68) :: rest)) :=
  x_get (T := TX12) X Z sh_68 ing12 rfl 15 (by decide) fl_RX12_33 rfl rfl hdg kk
theorem fl_RX12_36 : Cond.fieldLink RX12 36 (TX12 16).1 (TX12 16).2.1 (TX12 16).2.2.1 ∈ GT := GT5 211 rfl rfl
theorem gf_RX12_36 {p : Program} {l : Launch} {e : Env} {R : Room} {s : State} {m : MethodId} {args : Array Value} {below : List Frame} {meth : Method} {c : Code} {H : Heap} {locs : List Loc} {cells slots : Nat} {Q : State → Prop} {D : va_G} {h : Nat → Nat} {cy : Nat → ClassId} {σ : St} {cc : ByteArray} {nL pc : Nat} {ls : Array Slot} {rest : List Value} (X : Cx p s m args c D h cy RX12 cc nL) (Z : Zt D h cy s σ H locs) (hdg : decode cc pc = .ok (.getfield 36, 3)) (kk : W p l e R s m args below meth c H locs cells slots Q (F0 m (pc + 3) ls (.ref (h 75) :: rest))) : W p l e R s m args below meth c H locs cells slots Q (F0 m pc ls (.ref (h 68) :: rest)) :=
  x_get (T := TX12) X Z sh_68 ing12 rfl 16 (by decide) fl_RX12_36 rfl rfl hdg kk
theorem fl_RX12_39 : Cond.fieldLink RX12 39 (TX12 17).1 (TX12 17).2.1 (TX12 17).2.2.1 ∈ GT := GT5 212 rfl rfl
theorem gf_RX12_39 {p : Program} {l : Launch} {e : Env} {R : Room} {s : State} {m : MethodId} {args : Array Value} {below : List Frame} {meth : Method} {c : Code} {H : Heap} {locs : List Loc} {cells slots : Nat} {Q : State → Prop} {D : va_G} {h : Nat → Nat} {cy : Nat → ClassId} {σ : St} {cc : ByteArray} {nL pc : Nat} {ls : Array Slot} {rest : List Value} (X : Cx p s m args c D h cy RX12 cc nL) (Z : Zt D h cy s σ H locs) (hdg : decode cc pc = .ok (.getfield 39, 3)) (kk : W p l e R s m args below meth c H locs cells slots Q (F0 m (pc + 3) ls (.ref (h 76) :: rest))) : W p l e R s m args below meth c H locs cells slots Q (F0 m pc ls (.ref (h 68) :: rest)) :=
  x_get (T := TX12) X Z sh_68 ing12 rfl 17 (by decide) fl_RX12_39 rfl rfl hdg kk
theorem fl_RX12_42 : Cond.fieldLink RX12 42 (TX12 18).1 (TX12 18).2.1 (TX12 18).2.2.1 ∈ GT := GT5 213 rfl rfl
theorem gf_RX12_42 {p : Program} {l : Launch} {e : Env} {R : Room} {s : State} {m : MethodId} {args : Array Value} {below : List Frame} {meth : Method} {c : Code} {H : Heap} {locs : List Loc} {cells slots : Nat} {Q : State → Prop} {D : va_G} {h : Nat → Nat} {cy : Nat → ClassId} {σ : St} {cc : ByteArray} {nL pc : Nat} {ls : Array Slot} {rest : List Value} (X : Cx p s m args c D h cy RX12 cc nL) (Z : Zt D h cy s σ H locs) (hdg : decode cc pc = .ok (.getfield 42, 3)) (kk : W p l e R s m args below meth c H locs cells slots Q (F0 m (pc + 3) ls (.ref (h 77) :: rest))) : W p l e R s m args below meth c H locs cells slots Q (F0 m pc ls (.ref (h 68) :: rest)) :=
  x_get (T := TX12) X Z sh_68 ing12 rfl 18 (by decide) fl_RX12_42 rfl rfl hdg kk
theorem fl_RX12_45 : Cond.fieldLink RX12 45 (TX12 19).1 (TX12 19).2.1 (TX12 19).2.2.1 ∈ GT := GT5 214 rfl rfl
theorem gf_RX12_45 {p : Program} {l : Launch} {e : Env} {R : Room} {s : State} {m : MethodId} {args : Array Value} {below : List Frame} {meth : Method} {c : Code} {H : Heap} {locs : List Loc} {cells slots : Nat} {Q : State → Prop} {D : va_G} {h : Nat → Nat} {cy : Nat → ClassId} {σ : St} {cc : ByteArray} {nL pc : Nat} {ls : Array Slot} {rest : List Value} (X : Cx p s m args c D h cy RX12 cc nL) (Z : Zt D h cy s σ H locs) (hdg : decode cc pc = .ok (.getfield 45, 3)) (kk : W p l e R s m args below meth c H locs cells slots Q (F0 m (pc + 3) ls (.ref (h 78) :: rest))) : W p l e R s m args below meth c H locs cells slots Q (F0 m pc ls (.ref (h 68) :: rest)) :=
  x_get (T := TX12) X Z sh_68 ing12 rfl 19 (by decide) fl_RX12_45 rfl rfl hdg kk
theorem fl_RX12_48 : Cond.fieldLink RX12 48 (TX12 20).1 (TX12 20).2.1 (TX12 20).2.2.1 ∈ GT := GT5 215 rfl rfl
theorem gf_RX12_48 {p : Program} {l : Launch} {e : Env} {R : Room} {s : State} {m : MethodId} {args : Array Value} {below : List Frame} {meth : Method} {c : Code} {H : Heap} {locs : List Loc} {cells slots : Nat} {Q : State → Prop} {D : va_G} {h : Nat → Nat} {cy : Nat → ClassId} {σ : St} {cc : ByteArray} {nL pc : Nat} {ls : Array Slot} {rest : List Value} (X : Cx p s m args c D h cy RX12 cc nL) (Z : Zt D h cy s σ H locs) (hdg : decode cc pc = .ok (.getfield 48, 3)) (kk : W p l e R s m args below meth c H locs cells slots Q (F0 m (pc + 3) ls (.ref (h 79) :: rest))) : W p l e R s m args below meth c H locs cells slots Q (F0 m pc ls (.ref (h 68) :: rest)) :=
  x_get (T := TX12) X Z sh_68 ing12 rfl 20 (by decide) fl_RX12_48 rfl rfl hdg kk
theorem fl_RX12_51 : Cond.fieldLink RX12 51 (TX12 21).1 (TX12 21).2.1 (TX12 21).2.2.1 ∈ GT := GT5 216 rfl rfl
theorem gf_RX12_51 {p : Program} {l : Launch} {e : Env} {R : Room} {s : State} {m : MethodId} {args : Array Value} {below : List Frame} {meth : Method} {c : Code} {H : Heap} {locs : List Loc} {cells slots : Nat} {Q : State → Prop} {D : va_G} {h : Nat → Nat} {cy : Nat → ClassId} {σ : St} {cc : ByteArray} {nL pc : Nat} {ls : Array Slot} {rest : List Value} (X : Cx p s m args c D h cy RX12 cc nL) (Z : Zt D h cy s σ H locs) (hdg : decode cc pc = .ok (.getfield 51, 3)) (kk : W p l e R s m args below meth c H locs cells slots Q (F0 m (pc + 3) ls (.ref (h 80) :: rest))) : W p l e R s m args below meth c H locs cells slots Q (F0 m pc ls (.ref (h 68) :: rest)) :=
  x_get (T := TX12) X Z sh_68 ing12 rfl 21 (by decide) fl_RX12_51 rfl rfl hdg kk
theorem fl_RX12_55 : Cond.fieldLink RX12 55 (TX12 22).1 (TX12 22).2.1 (TX12 22).2.2.1 ∈ GT := GT5 217 rfl rfl
theorem gf_RX12_55 {p : Program} {l : Launch} {e : Env} {R : Room} {s : State} {m : MethodId} {args : Array Value} {below : List Frame} {meth : Method} {c : Code} {H : Heap} {locs : List Loc} {cells slots : Nat} {Q : State → Prop} {D : va_G} {h : Nat → Nat} {cy : Nat → ClassId} {σ : St} {cc : ByteArray} {nL pc : Nat} {ls : Array Slot} {rest : List Value} (X : Cx p s m args c D h cy RX12 cc nL) (Z : Zt D h cy s σ H locs) (hdg : decode cc pc = .ok (.getfield 55, 3)) (kk : W p l e R s m args below meth c H locs cells slots Q (F0 m (pc + 3) ls (.ref (h 81) :: rest))) : W p l e R s m args below meth c H locs cells slots Q (F0 m pc ls (.ref (h 68) :: rest)) :=
  x_get (T := TX12) X Z sh_68 ing12 rfl 22 (by decide) fl_RX12_55 rfl rfl hdg kk
theorem fl_RX12_58 : Cond.fieldLink RX12 58 (TX12 23).1 (TX12 23).2.1 (TX12 23).2.2.1 ∈ GT := GT5 218 rfl rfl
theorem gf_RX12_58 {p : Program} {l : Launch} {e : Env} {R : Room} {s : State} {m : MethodId} {args : Array Value} {below : List Frame} {meth : Method} {c : Code} {H : Heap} {locs : List Loc} {cells slots : Nat} {Q : State → Prop} {D : va_G} {h : Nat → Nat} {cy : Nat → ClassId} {σ : St} {cc : ByteArray} {nL pc : Nat} {ls : Array Slot} {rest : List Value} (X : Cx p s m args c D h cy RX12 cc nL) (Z : Zt D h cy s σ H locs) (hdg : decode cc pc = .ok (.getfield 58, 3)) (kk : W p l e R s m args below meth c H locs cells slots Q (F0 m (pc + 3) ls (.ref (h 82) :: rest))) : W p l e R s m args below meth c H locs cells slots Q (F0 m pc ls (.ref (h 68) :: rest)) :=
  x_get (T := TX12) X Z sh_68 ing12 rfl 23 (by decide) fl_RX12_58 rfl rfl hdg kk
theorem fl_RX12_61 : Cond.fieldLink RX12 61 (TX12 24).1 (TX12 24).2.1 (TX12 24).2.2.1 ∈ GT := GT5 219 rfl rfl
theorem gf_RX12_61 {p : Program} {l : Launch} {e : Env} {R : Room} {s : State} {m : MethodId} {args : Array Value} {below : List Frame} {meth : Method} {c : Code} {H : Heap} {locs : List Loc} {cells slots : Nat} {Q : State → Prop} {D : va_G} {h : Nat → Nat} {cy : Nat → ClassId} {σ : St} {cc : ByteArray} {nL pc : Nat} {ls : Array Slot} {rest : List Value} (X : Cx p s m args c D h cy RX12 cc nL) (Z : Zt D h cy s σ H locs) (hdg : decode cc pc = .ok (.getfield 61, 3)) (kk : W p l e R s m args below meth c H locs cells slots Q (F0 m (pc + 3) ls (.ref (h 83) :: rest))) : W p l e R s m args below meth c H locs cells slots Q (F0 m pc ls (.ref (h 68) :: rest)) :=
  x_get (T := TX12) X Z sh_68 ing12 rfl 24 (by decide) fl_RX12_61 rfl rfl hdg kk
theorem fl_RX12_64 : Cond.fieldLink RX12 64 (TX12 25).1 (TX12 25).2.1 (TX12 25).2.2.1 ∈ GT := GT5 220 rfl rfl
theorem gf_RX12_64 {p : Program} {l : Launch} {e : Env} {R : Room} {s : State} {m : MethodId} {args : Array Value} {below : List Frame} {meth : Method} {c : Code} {H : Heap} {locs : List Loc} {cells slots : Nat} {Q : State → Prop} {D : va_G} {h : Nat → Nat} {cy : Nat → ClassId} {σ : St} {cc : ByteArray} {nL pc : Nat} {ls : Array Slot} {rest : List Value} (X : Cx p s m args c D h cy RX12 cc nL) (Z : Zt D h cy s σ H locs) (hdg : decode cc pc = .ok (.getfield 64, 3)) (kk : W p l e R s m args below meth c H locs cells slots Q (F0 m (pc + 3) ls (.ref (h 84) :: rest))) : W p l e R s m args below meth c H locs cells slots Q (F0 m pc ls (.ref (h 68) :: rest)) :=
  x_get (T := TX12) X Z sh_68 ing12 rfl 25 (by decide) fl_RX12_64 rfl rfl hdg kk
theorem fl_RX12_68 : Cond.fieldLink RX12 68 (TX12 26).1 (TX12 26).2.1 (TX12 26).2.2.1 ∈ GT := GT5 221 rfl rfl
theorem gf_RX12_68 {p : Program} {l : Launch} {e : Env} {R : Room} {s : State} {m : MethodId} {args : Array Value} {below : List Frame} {meth : Method} {c : Code} {H : Heap} {locs : List Loc} {cells slots : Nat} {Q : State → Prop} {D : va_G} {h : Nat → Nat} {cy : Nat → ClassId} {σ : St} {cc : ByteArray} {nL pc : Nat} {ls : Array Slot} {rest : List Value} (X : Cx p s m args c D h cy RX12 cc nL) (Z : Zt D h cy s σ H locs) (hdg : decode cc pc = .ok (.getfield 68, 3)) (kk : W p l e R s m args below meth c H locs cells slots Q (F0 m (pc + 3) ls (.ref (h 85) :: rest))) : W p l e R s m args below meth c H locs cells slots Q (F0 m pc ls (.ref (h 68) :: rest)) :=
  x_get (T := TX12) X Z sh_68 ing12 rfl 26 (by decide) fl_RX12_68 rfl rfl hdg kk
theorem fl_RX12_71 : Cond.fieldLink RX12 71 (TX12 27).1 (TX12 27).2.1 (TX12 27).2.2.1 ∈ GT := GT5 222 rfl rfl
theorem gf_RX12_71 {p : Program} {l : Launch} {e : Env} {R : Room} {s : State} {m : MethodId} {args : Array Value} {below : List Frame} {meth : Method} {c : Code} {H : Heap} {locs : List Loc} {cells slots : Nat} {Q : State → Prop} {D : va_G} {h : Nat → Nat} {cy : Nat → ClassId} {σ : St} {cc : ByteArray} {nL pc : Nat} {ls : Array Slot} {rest : List Value} (X : Cx p s m args c D h cy RX12 cc nL) (Z : Zt D h cy s σ H locs) (hdg : decode cc pc = .ok (.getfield 71, 3)) (kk : W p l e R s m args below meth c H locs cells slots Q (F0 m (pc + 3) ls (.ref (h 86) :: rest))) : W p l e R s m args below meth c H locs cells slots Q (F0 m pc ls (.ref (h 68) :: rest)) :=
  x_get (T := TX12) X Z sh_68 ing12 rfl 27 (by decide) fl_RX12_71 rfl rfl hdg kk
theorem fl_RX12_74 : Cond.fieldLink RX12 74 (TX12 28).1 (TX12 28).2.1 (TX12 28).2.2.1 ∈ GT := GT5 223 rfl rfl
theorem gf_RX12_74 {p : Program} {l : Launch} {e : Env} {R : Room} {s : State} {m : MethodId} {args : Array Value} {below : List Frame} {meth : Method} {c : Code} {H : Heap} {locs : List Loc} {cells slots : Nat} {Q : State → Prop} {D : va_G} {h : Nat → Nat} {cy : Nat → ClassId} {σ : St} {cc : ByteArray} {nL pc : Nat} {ls : Array Slot} {rest : List Value} (X : Cx p s m args c D h cy RX12 cc nL) (Z : Zt D h cy s σ H locs) (hdg : decode cc pc = .ok (.getfield 74, 3)) (kk : W p l e R s m args below meth c H locs cells slots Q (F0 m (pc + 3) ls (.ref (h 87) :: rest))) : W p l e R s m args below meth c H locs cells slots Q (F0 m pc ls (.ref (h 68) :: rest)) :=
  x_get (T := TX12) X Z sh_68 ing12 rfl 28 (by decide) fl_RX12_74 rfl rfl hdg kk
theorem fl_RX12_77 : Cond.fieldLink RX12 77 (TX12 29).1 (TX12 29).2.1 (TX12 29).2.2.1 ∈ GT := GT5 224 rfl rfl
theorem gf_RX12_77 {p : Program} {l : Launch} {e : Env} {R : Room} {s : State} {m : MethodId} {args : Array Value} {below : List Frame} {meth : Method} {c : Code} {H : Heap} {locs : List Loc} {cells slots : Nat} {Q : State → Prop} {D : va_G} {h : Nat → Nat} {cy : Nat → ClassId} {σ : St} {cc : ByteArray} {nL pc : Nat} {ls : Array Slot} {rest : List Value} (X : Cx p s m args c D h cy RX12 cc nL) (Z : Zt D h cy s σ H locs) (hdg : decode cc pc = .ok (.getfield 77, 3)) (kk : W p l e R s m args below meth c H locs cells slots Q (F0 m (pc + 3) ls (.ref (h 88) :: rest))) : W p l e R s m args below meth c H locs cells slots Q (F0 m pc ls (.ref (h 68) :: rest)) :=
  x_get (T := TX12) X Z sh_68 ing12 rfl 29 (by decide) fl_RX12_77 rfl rfl hdg kk
theorem fl_RX12_80 : Cond.fieldLink RX12 80 (TX12 32).1 (TX12 32).2.1 (TX12 32).2.2.1 ∈ GT := GT5 227 rfl rfl
theorem gf_RX12_80 {p : Program} {l : Launch} {e : Env} {R : Room} {s : State} {m : MethodId} {args : Array Value} {below : List Frame} {meth : Method} {c : Code} {H : Heap} {locs : List Loc} {cells slots : Nat} {Q : State → Prop} {D : va_G} {h : Nat → Nat} {cy : Nat → ClassId} {σ : St} {cc : ByteArray} {nL pc : Nat} {ls : Array Slot} {rest : List Value} (X : Cx p s m args c D h cy RX12 cc nL) (Z : Zt D h cy s σ H locs) (hdg : decode cc pc = .ok (.getfield 80, 3)) (kk : W p l e R s m args below meth c H locs cells slots Q (F0 m (pc + 3) ls (.ref (h 89) :: rest))) : W p l e R s m args below meth c H locs cells slots Q (F0 m pc ls (.ref (h 68) :: rest)) :=
  x_get (T := TX12) X Z sh_68 ing12 rfl 32 (by decide) fl_RX12_80 rfl rfl hdg kk
theorem fl_RX12_83 : Cond.fieldLink RX12 83 (TX12 38).1 (TX12 38).2.1 (TX12 38).2.2.1 ∈ GT := GT5 233 rfl rfl
theorem gf_RX12_83 {p : Program} {l : Launch} {e : Env} {R : Room} {s : State} {m : MethodId} {args : Array Value} {below : List Frame} {meth : Method} {c : Code} {H : Heap} {locs : List Loc} {cells slots : Nat} {Q : State → Prop} {D : va_G} {h : Nat → Nat} {cy : Nat → ClassId} {σ : St} {cc : ByteArray} {nL pc : Nat} {ls : Array Slot} {rest : List Value} (X : Cx p s m args c D h cy RX12 cc nL) (Z : Zt D h cy s σ H locs) (hdg : decode cc pc = .ok (.getfield 83, 3)) (kk : W p l e R s m args below meth c H locs cells slots Q (F0 m (pc + 3) ls (.ref (h 90) :: rest))) : W p l e R s m args below meth c H locs cells slots Q (F0 m pc ls (.ref (h 68) :: rest)) :=
  x_get (T := TX12) X Z sh_68 ing12 rfl 38 (by decide) fl_RX12_83 rfl rfl hdg kk
theorem fl_RX12_88 : Cond.fieldLink RX12 88 (TX12 40).1 (TX12 40).2.1 (TX12 40).2.2.1 ∈ GT := GT5 235 rfl rfl
theorem gf_RX12_88 {p : Program} {l : Launch} {e : Env} {R : Room} {s : State} {m : MethodId} {args : Array Value} {below : List Frame} {meth : Method} {c : Code} {H : Heap} {locs : List Loc} {cells slots : Nat} {Q : State → Prop} {D : va_G} {h : Nat → Nat} {cy : Nat → ClassId} {σ : St} {cc : ByteArray} {nL pc : Nat} {ls : Array Slot} {rest : List Value} (X : Cx p s m args c D h cy RX12 cc nL) (Z : Zt D h cy s σ H locs) (hdg : decode cc pc = .ok (.getfield 88, 3)) (kk : W p l e R s m args below meth c H locs cells slots Q (F0 m (pc + 3) ls (.long (σ.2 68 40) :: rest))) : W p l e R s m args below meth c H locs cells slots Q (F0 m pc ls (.ref (h 68) :: rest)) :=
  x_get (T := TX12) X Z sh_68 ing12 rfl 40 (by decide) fl_RX12_88 rfl rfl hdg kk
theorem pf_RX12_88 {p : Program} {l : Launch} {e : Env} {R : Room} {s : State} {m : MethodId} {args : Array Value} {below : List Frame} {meth : Method} {c : Code} {H : Heap} {locs : List Loc} {cells slots : Nat} {Q : State → Prop} {D : va_G} {h : Nat → Nat} {cy : Nat → ClassId} {σ : St} {cc : ByteArray} {nL pc : Nat} {ls : Array Slot} {rest : List Value} {v : Int64} (X : Cx p s m args c D h cy RX12 cc nL) (Z : Zt D h cy s σ H locs) (hdg : decode cc pc = .ok (.putfield 88, 3)) (kk : ∀ (σ2 : St) (H : Heap) (locs : List Loc), σ2 = sJ σ 68 40 v → Zt D h cy s σ2 H locs → W p l e R s m args below meth c H locs cells slots Q (F0 m (pc + 3) ls rest)) : W p l e R s m args below meth c H locs cells slots Q (F0 m pc ls (.long v :: .ref (h 68) :: rest)) :=
  x_put (T := TX12) X Z sh_68 ing12 tyX12 tyX12_ok nmX12 rfl 40 (by decide) fl_RX12_88 rfl rfl rfl rfl (Nat.le_of_ble_eq_true rfl) _ (wd_sJ sh_68 rfl) hdg kk
theorem fl_RX12_92 : Cond.fieldLink RX12 92 (TX12 44).1 (TX12 44).2.1 (TX12 44).2.2.1 ∈ GT := GT5 239 rfl rfl
theorem gf_RX12_92 {p : Program} {l : Launch} {e : Env} {R : Room} {s : State} {m : MethodId} {args : Array Value} {below : List Frame} {meth : Method} {c : Code} {H : Heap} {locs : List Loc} {cells slots : Nat} {Q : State → Prop} {D : va_G} {h : Nat → Nat} {cy : Nat → ClassId} {σ : St} {cc : ByteArray} {nL pc : Nat} {ls : Array Slot} {rest : List Value} (X : Cx p s m args c D h cy RX12 cc nL) (Z : Zt D h cy s σ H locs) (hdg : decode cc pc = .ok (.getfield 92, 3)) (kk : W p l e R s m args below meth c H locs cells slots Q (F0 m (pc + 3) ls (.ref (h 91) :: rest))) : W p l e R s m args below meth c H locs cells slots Q (F0 m pc ls (.ref (h 68) :: rest)) :=
  x_get (T := TX12) X Z sh_68 ing12 rfl 44 (by decide) fl_RX12_92 rfl rfl hdg kk
theorem fl_RX12_95 : Cond.fieldLink RX12 95 (TX12 45).1 (TX12 45).2.1 (TX12 45).2.2.1 ∈ GT := GT6 0 rfl rfl
theorem gf_RX12_95 {p : Program} {l : Launch} {e : Env} {R : Room} {s : State} {m : MethodId} {args : Array Value} {below : List Frame} {meth : Method} {c : Code} {H : Heap} {locs : List Loc} {cells slots : Nat} {Q : State → Prop} {D : va_G} {h : Nat → Nat} {cy : Nat → ClassId} {σ : St} {cc : ByteArray} {nL pc : Nat} {ls : Array Slot} {rest : List Value} (X : Cx p s m args c D h cy RX12 cc nL) (Z : Zt D h cy s σ H locs) (hdg : decode cc pc = .ok (.getfield 95, 3)) (kk : W p l e R s m args below meth c H locs cells slots Q (F0 m (pc + 3) ls (.ref (h 92) :: rest))) : W p l e R s m args below meth c H locs cells slots Q (F0 m pc ls (.ref (h 68) :: rest)) :=
  x_get (T := TX12) X Z sh_68 ing12 rfl 45 (by decide) fl_RX12_95 rfl rfl hdg kk
theorem fl_RX12_98 : Cond.fieldLink RX12 98 (TX12 46).1 (TX12 46).2.1 (TX12 46).2.2.1 ∈ GT := GT6 1 rfl rfl
theorem gf_RX12_98 {p : Program} {l : Launch} {e : Env} {R : Room} {s : State} {m : MethodId} {args : Array Value} {below : List Frame} {meth : Method} {c : Code} {H : Heap} {locs : List Loc} {cells slots : Nat} {Q : State → Prop} {D : va_G} {h : Nat → Nat} {cy : Nat → ClassId} {σ : St} {cc : ByteArray} {nL pc : Nat} {ls : Array Slot} {rest : List Value} (X : Cx p s m args c D h cy RX12 cc nL) (Z : Zt D h cy s σ H locs) (hdg : decode cc pc = .ok (.getfield 98, 3)) (kk : W p l e R s m args below meth c H locs cells slots Q (F0 m (pc + 3) ls (.ref (h 93) :: rest))) : W p l e R s m args below meth c H locs cells slots Q (F0 m pc ls (.ref (h 68) :: rest)) :=
  x_get (T := TX12) X Z sh_68 ing12 rfl 46 (by decide) fl_RX12_98 rfl rfl hdg kk
theorem fl_RX12_101 : Cond.fieldLink RX12 101 (TX12 47).1 (TX12 47).2.1 (TX12 47).2.2.1 ∈ GT := GT6 2 rfl rfl
theorem gf_RX12_101 {p : Program} {l : Launch} {e : Env} {R : Room} {s : State} {m : MethodId} {args : Array Value} {below : List Frame} {meth : Method} {c : Code} {H : Heap} {locs : List Loc} {cells slots : Nat} {Q : State → Prop} {D : va_G} {h : Nat → Nat} {cy : Nat → ClassId} {σ : St} {cc : ByteArray} {nL pc : Nat} {ls : Array Slot} {rest : List Value} (X : Cx p s m args c D h cy RX12 cc nL) (Z : Zt D h cy s σ H locs) (hdg : decode cc pc = .ok (.getfield 101, 3)) (kk : W p l e R s m args below meth c H locs cells slots Q (F0 m (pc + 3) ls (.ref (h 94) :: rest))) : W p l e R s m args below meth c H locs cells slots Q (F0 m pc ls (.ref (h 68) :: rest)) :=
  x_get (T := TX12) X Z sh_68 ing12 rfl 47 (by decide) fl_RX12_101 rfl rfl hdg kk
theorem fl_RX12_104 : Cond.fieldLink RX12 104 (TX12 60).1 (TX12 60).2.1 (TX12 60).2.2.1 ∈ GT := GT6 15 rfl rfl
theorem gf_RX12_104 {p : Program} {l : Launch} {e : Env} {R : Room} {s : State} {m : MethodId} {args : Array Value} {below : List Frame} {meth : Method} {c : Code} {H : Heap} {locs : List Loc} {cells slots : Nat} {Q : State → Prop} {D : va_G} {h : Nat → Nat} {cy : Nat → ClassId} {σ : St} {cc : ByteArray} {nL pc : Nat} {ls : Array Slot} {rest : List Value} (X : Cx p s m args c D h cy RX12 cc nL) (Z : Zt D h cy s σ H locs) (hdg : decode cc pc = .ok (.getfield 104, 3)) (kk : W p l e R s m args below meth c H locs cells slots Q (F0 m (pc + 3) ls (.ref (h 95) :: rest))) : W p l e R s m args below meth c H locs cells slots Q (F0 m pc ls (.ref (h 68) :: rest)) :=
  x_get (T := TX12) X Z sh_68 ing12 rfl 60 (by decide) fl_RX12_104 rfl rfl hdg kk
theorem fl_RX12_107 : Cond.fieldLink RX12 107 (TX12 61).1 (TX12 61).2.1 (TX12 61).2.2.1 ∈ GT := GT6 16 rfl rfl
theorem gf_RX12_107 {p : Program} {l : Launch} {e : Env} {R : Room} {s : State} {m : MethodId} {args : Array Value} {below : List Frame} {meth : Method} {c : Code} {H : Heap} {locs : List Loc} {cells slots : Nat} {Q : State → Prop} {D : va_G} {h : Nat → Nat} {cy : Nat → ClassId} {σ : St} {cc : ByteArray} {nL pc : Nat} {ls : Array Slot} {rest : List Value} (X : Cx p s m args c D h cy RX12 cc nL) (Z : Zt D h cy s σ H locs) (hdg : decode cc pc = .ok (.getfield 107, 3)) (kk : W p l e R s m args below meth c H locs cells slots Q (F0 m (pc + 3) ls (.ref (h 96) :: rest))) : W p l e R s m args below meth c H locs cells slots Q (F0 m pc ls (.ref (h 68) :: rest)) :=
  x_get (T := TX12) X Z sh_68 ing12 rfl 61 (by decide) fl_RX12_107 rfl rfl hdg kk
theorem fl_RX12_110 : Cond.fieldLink RX12 110 (TX12 62).1 (TX12 62).2.1 (TX12 62).2.2.1 ∈ GT := GT6 17 rfl rfl
theorem gf_RX12_110 {p : Program} {l : Launch} {e : Env} {R : Room} {s : State} {m : MethodId} {args : Array Value} {below : List Frame} {meth : Method} {c : Code} {H : Heap} {locs : List Loc} {cells slots : Nat} {Q : State → Prop} {D : va_G} {h : Nat → Nat} {cy : Nat → ClassId} {σ : St} {cc : ByteArray} {nL pc : Nat} {ls : Array Slot} {rest : List Value} (X : Cx p s m args c D h cy RX12 cc nL) (Z : Zt D h cy s σ H locs) (hdg : decode cc pc = .ok (.getfield 110, 3)) (kk : W p l e R s m args below meth c H locs cells slots Q (F0 m (pc + 3) ls (.ref (h 97) :: rest))) : W p l e R s m args below meth c H locs cells slots Q (F0 m pc ls (.ref (h 68) :: rest)) :=
  x_get (T := TX12) X Z sh_68 ing12 rfl 62 (by decide) fl_RX12_110 rfl rfl hdg kk
theorem fl_RX12_113 : Cond.fieldLink RX12 113 (TX12 66).1 (TX12 66).2.1 (TX12 66).2.2.1 ∈ GT := GT6 21 rfl rfl
theorem gf_RX12_113 {p : Program} {l : Launch} {e : Env} {R : Room} {s : State} {m : MethodId} {args : Array Value} {below : List Frame} {meth : Method} {c : Code} {H : Heap} {locs : List Loc} {cells slots : Nat} {Q : State → Prop} {D : va_G} {h : Nat → Nat} {cy : Nat → ClassId} {σ : St} {cc : ByteArray} {nL pc : Nat} {ls : Array Slot} {rest : List Value} (X : Cx p s m args c D h cy RX12 cc nL) (Z : Zt D h cy s σ H locs) (hdg : decode cc pc = .ok (.getfield 113, 3)) (kk : W p l e R s m args below meth c H locs cells slots Q (F0 m (pc + 3) ls (.ref (h 98) :: rest))) : W p l e R s m args below meth c H locs cells slots Q (F0 m pc ls (.ref (h 68) :: rest)) :=
  x_get (T := TX12) X Z sh_68 ing12 rfl 66 (by decide) fl_RX12_113 rfl rfl hdg kk
theorem fl_RX12_116 : Cond.fieldLink RX12 116 (TX12 67).1 (TX12 67).2.1 (TX12 67).2.2.1 ∈ GT := GT6 22 rfl rfl
theorem gf_RX12_116 {p : Program} {l : Launch} {e : Env} {R : Room} {s : State} {m : MethodId} {args : Array Value} {below : List Frame} {meth : Method} {c : Code} {H : Heap} {locs : List Loc} {cells slots : Nat} {Q : State → Prop} {D : va_G} {h : Nat → Nat} {cy : Nat → ClassId} {σ : St} {cc : ByteArray} {nL pc : Nat} {ls : Array Slot} {rest : List Value} (X : Cx p s m args c D h cy RX12 cc nL) (Z : Zt D h cy s σ H locs) (hdg : decode cc pc = .ok (.getfield 116, 3)) (kk : W p l e R s m args below meth c H locs cells slots Q (F0 m (pc + 3) ls (.ref (h 99) :: rest))) : W p l e R s m args below meth c H locs cells slots Q (F0 m pc ls (.ref (h 68) :: rest)) :=
  x_get (T := TX12) X Z sh_68 ing12 rfl 67 (by decide) fl_RX12_116 rfl rfl hdg kk
theorem fl_RX12_119 : Cond.fieldLink RX12 119 (TX12 68).1 (TX12 68).2.1 (TX12 68).2.2.1 ∈ GT := GT6 23 rfl rfl
theorem gf_RX12_119 {p : Program} {l : Launch} {e : Env} {R : Room} {s : State} {m : MethodId} {args : Array Value} {below : List Frame} {meth : Method} {c : Code} {H : Heap} {locs : List Loc} {cells slots : Nat} {Q : State → Prop} {D : va_G} {h : Nat → Nat} {cy : Nat → ClassId} {σ : St} {cc : ByteArray} {nL pc : Nat} {ls : Array Slot} {rest : List Value} (X : Cx p s m args c D h cy RX12 cc nL) (Z : Zt D h cy s σ H locs) (hdg : decode cc pc = .ok (.getfield 119, 3)) (kk : W p l e R s m args below meth c H locs cells slots Q (F0 m (pc + 3) ls (.ref (h 100) :: rest))) : W p l e R s m args below meth c H locs cells slots Q (F0 m pc ls (.ref (h 68) :: rest)) :=
  x_get (T := TX12) X Z sh_68 ing12 rfl 68 (by decide) fl_RX12_119 rfl rfl hdg kk
theorem fl_RX12_122 : Cond.fieldLink RX12 122 (TX12 69).1 (TX12 69).2.1 (TX12 69).2.2.1 ∈ GT := GT6 24 rfl rfl
theorem gf_RX12_122 {p : Program} {l : Launch} {e : Env} {R : Room} {s : State} {m : MethodId} {args : Array Value} {below : List Frame} {meth : Method} {c : Code} {H : Heap} {locs : List Loc} {cells slots : Nat} {Q : State → Prop} {D : va_G} {h : Nat → Nat} {cy : Nat → ClassId} {σ : St} {cc : ByteArray} {nL pc : Nat} {ls : Array Slot} {rest : List Value} (X : Cx p s m args c D h cy RX12 cc nL) (Z : Zt D h cy s σ H locs) (hdg : decode cc pc = .ok (.getfield 122, 3)) (kk : W p l e R s m args below meth c H locs cells slots Q (F0 m (pc + 3) ls (.ref (h 101) :: rest))) : W p l e R s m args below meth c H locs cells slots Q (F0 m pc ls (.ref (h 68) :: rest)) :=
  x_get (T := TX12) X Z sh_68 ing12 rfl 69 (by decide) fl_RX12_122 rfl rfl hdg kk
theorem fl_RX12_125 : Cond.fieldLink RX12 125 (TX12 70).1 (TX12 70).2.1 (TX12 70).2.2.1 ∈ GT := GT6 25 rfl rfl
theorem gf_RX12_125 {p : Program} {l : Launch} {e : Env} {R : Room} {s : State} {m : MethodId} {args : Array Value} {below : List Frame} {meth : Method} {c : Code} {H : Heap} {locs : List Loc} {cells slots : Nat} {Q : State → Prop} {D : va_G} {h : Nat → Nat} {cy : Nat → ClassId} {σ : St} {cc : ByteArray} {nL pc : Nat} {ls : Array Slot} {rest : List Value} (X : Cx p s m args c D h cy RX12 cc nL) (Z : Zt D h cy s σ H locs) (hdg : decode cc pc = .ok (.getfield 125, 3)) (kk : W p l e R s m args below meth c H locs cells slots Q (F0 m (pc + 3) ls (.ref (h 102) :: rest))) : W p l e R s m args below meth c H locs cells slots Q (F0 m pc ls (.ref (h 68) :: rest)) :=
  x_get (T := TX12) X Z sh_68 ing12 rfl 70 (by decide) fl_RX12_125 rfl rfl hdg kk
theorem fl_RX12_128 : Cond.fieldLink RX12 128 (TX12 71).1 (TX12 71).2.1 (TX12 71).2.2.1 ∈ GT := GT6 26 rfl rfl
theorem gf_RX12_128 {p : Program} {l : Launch} {e : Env} {R : Room} {s : State} {m : MethodId} {args : Array Value} {below : List Frame} {meth : Method} {c : Code} {H : Heap} {locs : List Loc} {cells slots : Nat} {Q : State → Prop} {D : va_G} {h : Nat → Nat} {cy : Nat → ClassId} {σ : St} {cc : ByteArray} {nL pc : Nat} {ls : Array Slot} {rest : List Value} (X : Cx p s m args c D h cy RX12 cc nL) (Z : Zt D h cy s σ H locs) (hdg : decode cc pc = .ok (.getfield 128, 3)) (kk : W p l e R s m args below meth c H locs cells slots Q (F0 m (pc + 3) ls (.ref (h 103) :: rest))) : W p l e R s m args below meth c H locs cells slots Q (F0 m pc ls (.ref (h 68) :: rest)) :=
  x_get (T := TX12) X Z sh_68 ing12 rfl 71 (by decide) fl_RX12_128 rfl rfl hdg kk
theorem fl_RX12_131 : Cond.fieldLink RX12 131 (TX12 72).1 (TX12 72).2.1 (TX12 72).2.2.1 ∈ GT := GT6 27 rfl rfl
theorem gf_RX12_131 {p : Program} {l : Launch} {e : Env} {R : Room} {s : State} {m : MethodId} {args : Array Value} {below : List Frame} {meth : Method} {c : Code} {H : Heap} {locs : List Loc} {cells slots : Nat} {Q : State → Prop} {D : va_G} {h : Nat → Nat} {cy : Nat → ClassId} {σ : St} {cc : ByteArray} {nL pc : Nat} {ls : Array Slot} {rest : List Value} (X : Cx p s m args c D h cy RX12 cc nL) (Z : Zt D h cy s σ H locs) (hdg : decode cc pc = .ok (.getfield 131, 3)) (kk : W p l e R s m args below meth c H locs cells slots Q (F0 m (pc + 3) ls (.ref (h 104) :: rest))) : W p l e R s m args below meth c H locs cells slots Q (F0 m pc ls (.ref (h 68) :: rest)) :=
  x_get (T := TX12) X Z sh_68 ing12 rfl 72 (by decide) fl_RX12_131 rfl rfl hdg kk
theorem fl_RX12_134 : Cond.fieldLink RX12 134 (TX12 73).1 (TX12 73).2.1 (TX12 73).2.2.1 ∈ GT := GT6 28 rfl rfl
theorem gf_RX12_134 {p : Program} {l : Launch} {e : Env} {R : Room} {s : State} {m : MethodId} {args : Array Value} {below : List Frame} {meth : Method} {c : Code} {H : Heap} {locs : List Loc} {cells slots : Nat} {Q : State → Prop} {D : va_G} {h : Nat → Nat} {cy : Nat → ClassId} {σ : St} {cc : ByteArray} {nL pc : Nat} {ls : Array Slot} {rest : List Value} (X : Cx p s m args c D h cy RX12 cc nL) (Z : Zt D h cy s σ H locs) (hdg : decode cc pc = .ok (.getfield 134, 3)) (kk : W p l e R s m args below meth c H locs cells slots Q (F0 m (pc + 3) ls (.ref (h 105) :: rest))) : W p l e R s m args below meth c H locs cells slots Q (F0 m pc ls (.ref (h 68) :: rest)) :=
  x_get (T := TX12) X Z sh_68 ing12 rfl 73 (by decide) fl_RX12_134 rfl rfl hdg kk
theorem fl_RX12_137 : Cond.fieldLink RX12 137 (TX12 74).1 (TX12 74).2.1 (TX12 74).2.2.1 ∈ GT := GT6 29 rfl rfl
theorem gf_RX12_137 {p : Program} {l : Launch} {e : Env} {R : Room} {s : State} {m : MethodId} {args : Array Value} {below : List Frame} {meth : Method} {c : Code} {H : Heap} {locs : List Loc} {cells slots : Nat} {Q : State → Prop} {D : va_G} {h : Nat → Nat} {cy : Nat → ClassId} {σ : St} {cc : ByteArray} {nL pc : Nat} {ls : Array Slot} {rest : List Value} (X : Cx p s m args c D h cy RX12 cc nL) (Z : Zt D h cy s σ H locs) (hdg : decode cc pc = .ok (.getfield 137, 3)) (kk : W p l e R s m args below meth c H locs cells slots Q (F0 m (pc + 3) ls (.ref (h 106) :: rest))) : W p l e R s m args below meth c H locs cells slots Q (F0 m pc ls (.ref (h 68) :: rest)) :=
  x_get (T := TX12) X Z sh_68 ing12 rfl 74 (by decide) fl_RX12_137 rfl rfl hdg kk
theorem fl_RX12_140 : Cond.fieldLink RX12 140 (TX12 75).1 (TX12 75).2.1 (TX12 75).2.2.1 ∈ GT := GT6 30 rfl rfl
theorem gf_RX12_140 {p : Program} {l : Launch} {e : Env} {R : Room} {s : State} {m : MethodId} {args : Array Value} {below : List Frame} {meth : Method} {c : Code} {H : Heap} {locs : List Loc} {cells slots : Nat} {Q : State → Prop} {D : va_G} {h : Nat → Nat} {cy : Nat → ClassId} {σ : St} {cc : ByteArray} {nL pc : Nat} {ls : Array Slot} {rest : List Value} (X : Cx p s m args c D h cy RX12 cc nL) (Z : Zt D h cy s σ H locs) (hdg : decode cc pc = .ok (.getfield 140, 3)) (kk : W p l e R s m args below meth c H locs cells slots Q (F0 m (pc + 3) ls (.ref (h 107) :: rest))) : W p l e R s m args below meth c H locs cells slots Q (F0 m pc ls (.ref (h 68) :: rest)) :=
  x_get (T := TX12) X Z sh_68 ing12 rfl 75 (by decide) fl_RX12_140 rfl rfl hdg kk
theorem fl_RX12_143 : Cond.fieldLink RX12 143 (TX12 76).1 (TX12 76).2.1 (TX12 76).2.2.1 ∈ GT := GT6 31 rfl rfl
theorem gf_RX12_143 {p : Program} {l : Launch} {e : Env} {R : Room} {s : State} {m : MethodId} {args : Array Value} {below : List Frame} {meth : Method} {c : Code} {H : Heap} {locs : List Loc} {cells slots : Nat} {Q : State → Prop} {D : va_G} {h : Nat → Nat} {cy : Nat → ClassId} {σ : St} {cc : ByteArray} {nL pc : Nat} {ls : Array Slot} {rest : List Value} (X : Cx p s m args c D h cy RX12 cc nL) (Z : Zt D h cy s σ H locs) (hdg : decode cc pc = .ok (.getfield 143, 3)) (kk : W p l e R s m args below meth c H locs cells slots Q (F0 m (pc + 3) ls (.ref (h 108) :: rest))) : W p l e R s m args below meth c H locs cells slots Q (F0 m pc ls (.ref (h 68) :: rest)) :=
  x_get (T := TX12) X Z sh_68 ing12 rfl 76 (by decide) fl_RX12_143 rfl rfl hdg kk
theorem fl_RX12_146 : Cond.fieldLink RX12 146 (TX12 77).1 (TX12 77).2.1 (TX12 77).2.2.1 ∈ GT := GT6 32 rfl rfl
theorem gf_RX12_146 {p : Program} {l : Launch} {e : Env} {R : Room} {s : State} {m : MethodId} {args : Array Value} {below : List Frame} {meth : Method} {c : Code} {H : Heap} {locs : List Loc} {cells slots : Nat} {Q : State → Prop} {D : va_G} {h : Nat → Nat} {cy : Nat → ClassId} {σ : St} {cc : ByteArray} {nL pc : Nat} {ls : Array Slot} {rest : List Value} (X : Cx p s m args c D h cy RX12 cc nL) (Z : Zt D h cy s σ H locs) (hdg : decode cc pc = .ok (.getfield 146, 3)) (kk : W p l e R s m args below meth c H locs cells slots Q (F0 m (pc + 3) ls (.ref (h 109) :: rest))) : W p l e R s m args below meth c H locs cells slots Q (F0 m pc ls (.ref (h 68) :: rest)) :=
  x_get (T := TX12) X Z sh_68 ing12 rfl 77 (by decide) fl_RX12_146 rfl rfl hdg kk
theorem fl_RX12_149 : Cond.fieldLink RX12 149 (TX12 0).1 (TX12 0).2.1 (TX12 0).2.2.1 ∈ GT := GT5 195 rfl rfl
theorem gf_RX12_149 {p : Program} {l : Launch} {e : Env} {R : Room} {s : State} {m : MethodId} {args : Array Value} {below : List Frame} {meth : Method} {c : Code} {H : Heap} {locs : List Loc} {cells slots : Nat} {Q : State → Prop} {D : va_G} {h : Nat → Nat} {cy : Nat → ClassId} {σ : St} {cc : ByteArray} {nL pc : Nat} {ls : Array Slot} {rest : List Value} (X : Cx p s m args c D h cy RX12 cc nL) (Z : Zt D h cy s σ H locs) (hdg : decode cc pc = .ok (.getfield 149, 3)) (kk : W p l e R s m args below meth c H locs cells slots Q (F0 m (pc + 3) ls (.int (σ.1 68 0) :: rest))) : W p l e R s m args below meth c H locs cells slots Q (F0 m pc ls (.ref (h 68) :: rest)) :=
  x_get (T := TX12) X Z sh_68 ing12 rfl 0 (by decide) fl_RX12_149 rfl rfl hdg kk
theorem pf_RX12_149 {p : Program} {l : Launch} {e : Env} {R : Room} {s : State} {m : MethodId} {args : Array Value} {below : List Frame} {meth : Method} {c : Code} {H : Heap} {locs : List Loc} {cells slots : Nat} {Q : State → Prop} {D : va_G} {h : Nat → Nat} {cy : Nat → ClassId} {σ : St} {cc : ByteArray} {nL pc : Nat} {ls : Array Slot} {rest : List Value} {v : Int32} (X : Cx p s m args c D h cy RX12 cc nL) (Z : Zt D h cy s σ H locs) (hdg : decode cc pc = .ok (.putfield 149, 3)) (kk : ∀ (σ2 : St) (H : Heap) (locs : List Loc), σ2 = sI σ 68 0 v → Zt D h cy s σ2 H locs → W p l e R s m args below meth c H locs cells slots Q (F0 m (pc + 3) ls rest)) : W p l e R s m args below meth c H locs cells slots Q (F0 m pc ls (.int v :: .ref (h 68) :: rest)) :=
  x_put (T := TX12) X Z sh_68 ing12 tyX12 tyX12_ok nmX12 rfl 0 (by decide) fl_RX12_149 rfl rfl rfl rfl (Nat.le_of_ble_eq_true rfl) _ (wd_sI sh_68 rfl) hdg kk
theorem fl_RX12_152 : Cond.fieldLink RX12 152 (TX12 2).1 (TX12 2).2.1 (TX12 2).2.2.1 ∈ GT := GT5 197 rfl rfl
theorem gf_RX12_152 {p : Program} {l : Launch} {e : Env} {R : Room} {s : State} {m : MethodId} {args : Array Value} {below : List Frame} {meth : Method} {c : Code} {H : Heap} {locs : List Loc} {cells slots : Nat} {Q : State → Prop} {D : va_G} {h : Nat → Nat} {cy : Nat → ClassId} {σ : St} {cc : ByteArray} {nL pc : Nat} {ls : Array Slot} {rest : List Value} (X : Cx p s m args c D h cy RX12 cc nL) (Z : Zt D h cy s σ H locs) (hdg : decode cc pc = .ok (.getfield 152, 3)) (kk : W p l e R s m args below meth c H locs cells slots Q (F0 m (pc + 3) ls (.int (σ.1 68 2) :: rest))) : W p l e R s m args below meth c H locs cells slots Q (F0 m pc ls (.ref (h 68) :: rest)) :=
  x_get (T := TX12) X Z sh_68 ing12 rfl 2 (by decide) fl_RX12_152 rfl rfl hdg kk
theorem pf_RX12_152 {p : Program} {l : Launch} {e : Env} {R : Room} {s : State} {m : MethodId} {args : Array Value} {below : List Frame} {meth : Method} {c : Code} {H : Heap} {locs : List Loc} {cells slots : Nat} {Q : State → Prop} {D : va_G} {h : Nat → Nat} {cy : Nat → ClassId} {σ : St} {cc : ByteArray} {nL pc : Nat} {ls : Array Slot} {rest : List Value} {v : Int32} (X : Cx p s m args c D h cy RX12 cc nL) (Z : Zt D h cy s σ H locs) (hdg : decode cc pc = .ok (.putfield 152, 3)) (kk : ∀ (σ2 : St) (H : Heap) (locs : List Loc), σ2 = sI σ 68 2 v → Zt D h cy s σ2 H locs → W p l e R s m args below meth c H locs cells slots Q (F0 m (pc + 3) ls rest)) : W p l e R s m args below meth c H locs cells slots Q (F0 m pc ls (.int v :: .ref (h 68) :: rest)) :=
  x_put (T := TX12) X Z sh_68 ing12 tyX12 tyX12_ok nmX12 rfl 2 (by decide) fl_RX12_152 rfl rfl rfl rfl (Nat.le_of_ble_eq_true rfl) _ (wd_sI sh_68 rfl) hdg kk
theorem fl_RX12_174 : Cond.fieldLink RX12 174 (TX12 6).1 (TX12 6).2.1 (TX12 6).2.2.1 ∈ GT := GT5 201 rfl rfl
theorem gf_RX12_174 {p : Program} {l : Launch} {e : Env} {R : Room} {s : State} {m : MethodId} {args : Array Value} {below : List Frame} {meth : Method} {c : Code} {H : Heap} {locs : List Loc} {cells slots : Nat} {Q : State → Prop} {D : va_G} {h : Nat → Nat} {cy : Nat → ClassId} {σ : St} {cc : ByteArray} {nL pc : Nat} {ls : Array Slot} {rest : List Value} (X : Cx p s m args c D h cy RX12 cc nL) (Z : Zt D h cy s σ H locs) (hdg : decode cc pc = .ok (.getfield 174, 3)) (kk : W p l e R s m args below meth c H locs cells slots Q (F0 m (pc + 3) ls (.int (σ.1 68 6) :: rest))) : W p l e R s m args below meth c H locs cells slots Q (F0 m pc ls (.ref (h 68) :: rest)) :=
  x_get (T := TX12) X Z sh_68 ing12 rfl 6 (by decide) fl_RX12_174 rfl rfl hdg kk
theorem pf_RX12_174 {p : Program} {l : Launch} {e : Env} {R : Room} {s : State} {m : MethodId} {args : Array Value} {below : List Frame} {meth : Method} {c : Code} {H : Heap} {locs : List Loc} {cells slots : Nat} {Q : State → Prop} {D : va_G} {h : Nat → Nat} {cy : Nat → ClassId} {σ : St} {cc : ByteArray} {nL pc : Nat} {ls : Array Slot} {rest : List Value} {v : Int32} (X : Cx p s m args c D h cy RX12 cc nL) (Z : Zt D h cy s σ H locs) (hdg : decode cc pc = .ok (.putfield 174, 3)) (kk : ∀ (σ2 : St) (H : Heap) (locs : List Loc), σ2 = sI σ 68 6 v → Zt D h cy s σ2 H locs → W p l e R s m args below meth c H locs cells slots Q (F0 m (pc + 3) ls rest)) : W p l e R s m args below meth c H locs cells slots Q (F0 m pc ls (.int v :: .ref (h 68) :: rest)) :=
  x_put (T := TX12) X Z sh_68 ing12 tyX12 tyX12_ok nmX12 rfl 6 (by decide) fl_RX12_174 rfl rfl rfl rfl (Nat.le_of_ble_eq_true rfl) _ (wd_sI sh_68 rfl) hdg kk
theorem fl_RX12_177 : Cond.fieldLink RX12 177 (TX12 7).1 (TX12 7).2.1 (TX12 7).2.2.1 ∈ GT := GT5 202 rfl rfl
theorem gf_RX12_177 {p : Program} {l : Launch} {e : Env} {R : Room} {s : State} {m : MethodId} {args : Array Value} {below : List Frame} {meth : Method} {c : Code} {H : Heap} {locs : List Loc} {cells slots : Nat} {Q : State → Prop} {D : va_G} {h : Nat → Nat} {cy : Nat → ClassId} {σ : St} {cc : ByteArray} {nL pc : Nat} {ls : Array Slot} {rest : List Value} (X : Cx p s m args c D h cy RX12 cc nL) (Z : Zt D h cy s σ H locs) (hdg : decode cc pc = .ok (.getfield 177, 3)) (kk : W p l e R s m args below meth c H locs cells slots Q (F0 m (pc + 3) ls (.int (σ.1 68 7) :: rest))) : W p l e R s m args below meth c H locs cells slots Q (F0 m pc ls (.ref (h 68) :: rest)) :=
  x_get (T := TX12) X Z sh_68 ing12 rfl 7 (by decide) fl_RX12_177 rfl rfl hdg kk
theorem pf_RX12_177 {p : Program} {l : Launch} {e : Env} {R : Room} {s : State} {m : MethodId} {args : Array Value} {below : List Frame} {meth : Method} {c : Code} {H : Heap} {locs : List Loc} {cells slots : Nat} {Q : State → Prop} {D : va_G} {h : Nat → Nat} {cy : Nat → ClassId} {σ : St} {cc : ByteArray} {nL pc : Nat} {ls : Array Slot} {rest : List Value} {v : Int32} (X : Cx p s m args c D h cy RX12 cc nL) (Z : Zt D h cy s σ H locs) (hdg : decode cc pc = .ok (.putfield 177, 3)) (kk : ∀ (σ2 : St) (H : Heap) (locs : List Loc), σ2 = sI σ 68 7 v → Zt D h cy s σ2 H locs → W p l e R s m args below meth c H locs cells slots Q (F0 m (pc + 3) ls rest)) : W p l e R s m args below meth c H locs cells slots Q (F0 m pc ls (.int v :: .ref (h 68) :: rest)) :=
  x_put (T := TX12) X Z sh_68 ing12 tyX12 tyX12_ok nmX12 rfl 7 (by decide) fl_RX12_177 rfl rfl rfl rfl (Nat.le_of_ble_eq_true rfl) _ (wd_sI sh_68 rfl) hdg kk
theorem fl_RX12_180 : Cond.fieldLink RX12 180 (TX12 8).1 (TX12 8).2.1 (TX12 8).2.2.1 ∈ GT := GT5 203 rfl rfl
theorem gf_RX12_180 {p : Program} {l : Launch} {e : Env} {R : Room} {s : State} {m : MethodId} {args : Array Value} {below : List Frame} {meth : Method} {c : Code} {H : Heap} {locs : List Loc} {cells slots : Nat} {Q : State → Prop} {D : va_G} {h : Nat → Nat} {cy : Nat → ClassId} {σ : St} {cc : ByteArray} {nL pc : Nat} {ls : Array Slot} {rest : List Value} (X : Cx p s m args c D h cy RX12 cc nL) (Z : Zt D h cy s σ H locs) (hdg : decode cc pc = .ok (.getfield 180, 3)) (kk : W p l e R s m args below meth c H locs cells slots Q (F0 m (pc + 3) ls (.int (σ.1 68 8) :: rest))) : W p l e R s m args below meth c H locs cells slots Q (F0 m pc ls (.ref (h 68) :: rest)) :=
  x_get (T := TX12) X Z sh_68 ing12 rfl 8 (by decide) fl_RX12_180 rfl rfl hdg kk
theorem pf_RX12_180 {p : Program} {l : Launch} {e : Env} {R : Room} {s : State} {m : MethodId} {args : Array Value} {below : List Frame} {meth : Method} {c : Code} {H : Heap} {locs : List Loc} {cells slots : Nat} {Q : State → Prop} {D : va_G} {h : Nat → Nat} {cy : Nat → ClassId} {σ : St} {cc : ByteArray} {nL pc : Nat} {ls : Array Slot} {rest : List Value} {v : Int32} (X : Cx p s m args c D h cy RX12 cc nL) (Z : Zt D h cy s σ H locs) (hdg : decode cc pc = .ok (.putfield 180, 3)) (kk : ∀ (σ2 : St) (H : Heap) (locs : List Loc), σ2 = sI σ 68 8 v → Zt D h cy s σ2 H locs → W p l e R s m args below meth c H locs cells slots Q (F0 m (pc + 3) ls rest)) : W p l e R s m args below meth c H locs cells slots Q (F0 m pc ls (.int v :: .ref (h 68) :: rest)) :=
  x_put (T := TX12) X Z sh_68 ing12 tyX12 tyX12_ok nmX12 rfl 8 (by decide) fl_RX12_180 rfl rfl rfl rfl (Nat.le_of_ble_eq_true rfl) _ (wd_sI sh_68 rfl) hdg kk
theorem fl_RX12_183 : Cond.fieldLink RX12 183 (TX12 9).1 (TX12 9).2.1 (TX12 9).2.2.1 ∈ GT := GT5 204 rfl rfl
theorem gf_RX12_183 {p : Program} {l : Launch} {e : Env} {R : Room} {s : State} {m : MethodId} {args : Array Value} {below : List Frame} {meth : Method} {c : Code} {H : Heap} {locs : List Loc} {cells slots : Nat} {Q : State → Prop} {D : va_G} {h : Nat → Nat} {cy : Nat → ClassId} {σ : St} {cc : ByteArray} {nL pc : Nat} {ls : Array Slot} {rest : List Value} (X : Cx p s m args c D h cy RX12 cc nL) (Z : Zt D h cy s σ H locs) (hdg : decode cc pc = .ok (.getfield 183, 3)) (kk : W p l e R s m args below meth c H locs cells slots Q (F0 m (pc + 3) ls (.int (σ.1 68 9) :: rest))) : W p l e R s m args below meth c H locs cells slots Q (F0 m pc ls (.ref (h 68) :: rest)) :=
  x_get (T := TX12) X Z sh_68 ing12 rfl 9 (by decide) fl_RX12_183 rfl rfl hdg kk
theorem pf_RX12_183 {p : Program} {l : Launch} {e : Env} {R : Room} {s : State} {m : MethodId} {args : Array Value} {below : List Frame} {meth : Method} {c : Code} {H : Heap} {locs : List Loc} {cells slots : Nat} {Q : State → Prop} {D : va_G} {h : Nat → Nat} {cy : Nat → ClassId} {σ : St} {cc : ByteArray} {nL pc : Nat} {ls : Array Slot} {rest : List Value} {v : Int32} (X : Cx p s m args c D h cy RX12 cc nL) (Z : Zt D h cy s σ H locs) (hdg : decode cc pc = .ok (.putfield 183, 3)) (kk : ∀ (σ2 : St) (H : Heap) (locs : List Loc), σ2 = sI σ 68 9 v → Zt D h cy s σ2 H locs → W p l e R s m args below meth c H locs cells slots Q (F0 m (pc + 3) ls rest)) : W p l e R s m args below meth c H locs cells slots Q (F0 m pc ls (.int v :: .ref (h 68) :: rest)) :=
  x_put (T := TX12) X Z sh_68 ing12 tyX12 tyX12_ok nmX12 rfl 9 (by decide) fl_RX12_183 rfl rfl rfl rfl (Nat.le_of_ble_eq_true rfl) _ (wd_sI sh_68 rfl) hdg kk
theorem fl_RX12_186 : Cond.fieldLink RX12 186 (TX12 10).1 (TX12 10).2.1 (TX12 10).2.2.1 ∈ GT := GT5 205 rfl rfl
theorem gf_RX12_186 {p : Program} {l : Launch} {e : Env} {R : Room} {s : State} {m : MethodId} {args : Array Value} {below : List Frame} {meth : Method} {c : Code} {H : Heap} {locs : List Loc} {cells slots : Nat} {Q : State → Prop} {D : va_G} {h : Nat → Nat} {cy : Nat → ClassId} {σ : St} {cc : ByteArray} {nL pc : Nat} {ls : Array Slot} {rest : List Value} (X : Cx p s m args c D h cy RX12 cc nL) (Z : Zt D h cy s σ H locs) (hdg : decode cc pc = .ok (.getfield 186, 3)) (kk : W p l e R s m args below meth c H locs cells slots Q (F0 m (pc + 3) ls (.int (σ.1 68 10) :: rest))) : W p l e R s m args below meth c H locs cells slots Q (F0 m pc ls (.ref (h 68) :: rest)) :=
  x_get (T := TX12) X Z sh_68 ing12 rfl 10 (by decide) fl_RX12_186 rfl rfl hdg kk
theorem pf_RX12_186 {p : Program} {l : Launch} {e : Env} {R : Room} {s : State} {m : MethodId} {args : Array Value} {below : List Frame} {meth : Method} {c : Code} {H : Heap} {locs : List Loc} {cells slots : Nat} {Q : State → Prop} {D : va_G} {h : Nat → Nat} {cy : Nat → ClassId} {σ : St} {cc : ByteArray} {nL pc : Nat} {ls : Array Slot} {rest : List Value} {v : Int32} (X : Cx p s m args c D h cy RX12 cc nL) (Z : Zt D h cy s σ H locs) (hdg : decode cc pc = .ok (.putfield 186, 3)) (kk : ∀ (σ2 : St) (H : Heap) (locs : List Loc), σ2 = sI σ 68 10 v → Zt D h cy s σ2 H locs → W p l e R s m args below meth c H locs cells slots Q (F0 m (pc + 3) ls rest)) : W p l e R s m args below meth c H locs cells slots Q (F0 m pc ls (.int v :: .ref (h 68) :: rest)) :=
  x_put (T := TX12) X Z sh_68 ing12 tyX12 tyX12_ok nmX12 rfl 10 (by decide) fl_RX12_186 rfl rfl rfl rfl (Nat.le_of_ble_eq_true rfl) _ (wd_sI sh_68 rfl) hdg kk
theorem fl_RX12_213 : Cond.fieldLink RX12 213 (TX12 31).1 (TX12 31).2.1 (TX12 31).2.2.1 ∈ GT := GT5 226 rfl rfl
theorem gf_RX12_213 {p : Program} {l : Launch} {e : Env} {R : Room} {s : State} {m : MethodId} {args : Array Value} {below : List Frame} {meth : Method} {c : Code} {H : Heap} {locs : List Loc} {cells slots : Nat} {Q : State → Prop} {D : va_G} {h : Nat → Nat} {cy : Nat → ClassId} {σ : St} {cc : ByteArray} {nL pc : Nat} {ls : Array Slot} {rest : List Value} (X : Cx p s m args c D h cy RX12 cc nL) (Z : Zt D h cy s σ H locs) (hdg : decode cc pc = .ok (.getfield 213, 3)) (kk : W p l e R s m args below meth c H locs cells slots Q (F0 m (pc + 3) ls (.int (σ.1 68 31) :: rest))) : W p l e R s m args below meth c H locs cells slots Q (F0 m pc ls (.ref (h 68) :: rest)) :=
  x_get (T := TX12) X Z sh_68 ing12 rfl 31 (by decide) fl_RX12_213 rfl rfl hdg kk
theorem pf_RX12_213 {p : Program} {l : Launch} {e : Env} {R : Room} {s : State} {m : MethodId} {args : Array Value} {below : List Frame} {meth : Method} {c : Code} {H : Heap} {locs : List Loc} {cells slots : Nat} {Q : State → Prop} {D : va_G} {h : Nat → Nat} {cy : Nat → ClassId} {σ : St} {cc : ByteArray} {nL pc : Nat} {ls : Array Slot} {rest : List Value} {v : Int32} (X : Cx p s m args c D h cy RX12 cc nL) (Z : Zt D h cy s σ H locs) (hdg : decode cc pc = .ok (.putfield 213, 3)) (kk : ∀ (σ2 : St) (H : Heap) (locs : List Loc), σ2 = sI σ 68 31 v → Zt D h cy s σ2 H locs → W p l e R s m args below meth c H locs cells slots Q (F0 m (pc + 3) ls rest)) : W p l e R s m args below meth c H locs cells slots Q (F0 m pc ls (.int v :: .ref (h 68) :: rest)) :=
  x_put (T := TX12) X Z sh_68 ing12 tyX12 tyX12_ok nmX12 rfl 31 (by decide) fl_RX12_213 rfl rfl rfl rfl (Nat.le_of_ble_eq_true rfl) _ (wd_sI sh_68 rfl) hdg kk
theorem fl_RX12_233 : Cond.fieldLink RX12 233 (TX12 35).1 (TX12 35).2.1 (TX12 35).2.2.1 ∈ GT := GT5 230 rfl rfl
theorem gf_RX12_233 {p : Program} {l : Launch} {e : Env} {R : Room} {s : State} {m : MethodId} {args : Array Value} {below : List Frame} {meth : Method} {c : Code} {H : Heap} {locs : List Loc} {cells slots : Nat} {Q : State → Prop} {D : va_G} {h : Nat → Nat} {cy : Nat → ClassId} {σ : St} {cc : ByteArray} {nL pc : Nat} {ls : Array Slot} {rest : List Value} (X : Cx p s m args c D h cy RX12 cc nL) (Z : Zt D h cy s σ H locs) (hdg : decode cc pc = .ok (.getfield 233, 3)) (kk : W p l e R s m args below meth c H locs cells slots Q (F0 m (pc + 3) ls (.int (σ.1 68 35) :: rest))) : W p l e R s m args below meth c H locs cells slots Q (F0 m pc ls (.ref (h 68) :: rest)) :=
  x_get (T := TX12) X Z sh_68 ing12 rfl 35 (by decide) fl_RX12_233 rfl rfl hdg kk
theorem pf_RX12_233 {p : Program} {l : Launch} {e : Env} {R : Room} {s : State} {m : MethodId} {args : Array Value} {below : List Frame} {meth : Method} {c : Code} {H : Heap} {locs : List Loc} {cells slots : Nat} {Q : State → Prop} {D : va_G} {h : Nat → Nat} {cy : Nat → ClassId} {σ : St} {cc : ByteArray} {nL pc : Nat} {ls : Array Slot} {rest : List Value} {v : Int32} (X : Cx p s m args c D h cy RX12 cc nL) (Z : Zt D h cy s σ H locs) (hdg : decode cc pc = .ok (.putfield 233, 3)) (kk : ∀ (σ2 : St) (H : Heap) (locs : List Loc), σ2 = sI σ 68 35 v → Zt D h cy s σ2 H locs → W p l e R s m args below meth c H locs cells slots Q (F0 m (pc + 3) ls rest)) : W p l e R s m args below meth c H locs cells slots Q (F0 m pc ls (.int v :: .ref (h 68) :: rest)) :=
  x_put (T := TX12) X Z sh_68 ing12 tyX12 tyX12_ok nmX12 rfl 35 (by decide) fl_RX12_233 rfl rfl rfl rfl (Nat.le_of_ble_eq_true rfl) _ (wd_sI sh_68 rfl) hdg kk
theorem fl_RX12_244 : Cond.fieldLink RX12 244 (TX12 36).1 (TX12 36).2.1 (TX12 36).2.2.1 ∈ GT := GT5 231 rfl rfl
theorem gf_RX12_244 {p : Program} {l : Launch} {e : Env} {R : Room} {s : State} {m : MethodId} {args : Array Value} {below : List Frame} {meth : Method} {c : Code} {H : Heap} {locs : List Loc} {cells slots : Nat} {Q : State → Prop} {D : va_G} {h : Nat → Nat} {cy : Nat → ClassId} {σ : St} {cc : ByteArray} {nL pc : Nat} {ls : Array Slot} {rest : List Value} (X : Cx p s m args c D h cy RX12 cc nL) (Z : Zt D h cy s σ H locs) (hdg : decode cc pc = .ok (.getfield 244, 3)) (kk : W p l e R s m args below meth c H locs cells slots Q (F0 m (pc + 3) ls (.int (σ.1 68 36) :: rest))) : W p l e R s m args below meth c H locs cells slots Q (F0 m pc ls (.ref (h 68) :: rest)) :=
  x_get (T := TX12) X Z sh_68 ing12 rfl 36 (by decide) fl_RX12_244 rfl rfl hdg kk
theorem pf_RX12_244 {p : Program} {l : Launch} {e : Env} {R : Room} {s : State} {m : MethodId} {args : Array Value} {below : List Frame} {meth : Method} {c : Code} {H : Heap} {locs : List Loc} {cells slots : Nat} {Q : State → Prop} {D : va_G} {h : Nat → Nat} {cy : Nat → ClassId} {σ : St} {cc : ByteArray} {nL pc : Nat} {ls : Array Slot} {rest : List Value} {v : Int32} (X : Cx p s m args c D h cy RX12 cc nL) (Z : Zt D h cy s σ H locs) (hdg : decode cc pc = .ok (.putfield 244, 3)) (kk : ∀ (σ2 : St) (H : Heap) (locs : List Loc), σ2 = sI σ 68 36 v → Zt D h cy s σ2 H locs → W p l e R s m args below meth c H locs cells slots Q (F0 m (pc + 3) ls rest)) : W p l e R s m args below meth c H locs cells slots Q (F0 m pc ls (.int v :: .ref (h 68) :: rest)) :=
  x_put (T := TX12) X Z sh_68 ing12 tyX12 tyX12_ok nmX12 rfl 36 (by decide) fl_RX12_244 rfl rfl rfl rfl (Nat.le_of_ble_eq_true rfl) _ (wd_sI sh_68 rfl) hdg kk
theorem fl_RX12_250 : Cond.fieldLink RX12 250 (TX12 37).1 (TX12 37).2.1 (TX12 37).2.2.1 ∈ GT := GT5 232 rfl rfl
theorem gf_RX12_250 {p : Program} {l : Launch} {e : Env} {R : Room} {s : State} {m : MethodId} {args : Array Value} {below : List Frame} {meth : Method} {c : Code} {H : Heap} {locs : List Loc} {cells slots : Nat} {Q : State → Prop} {D : va_G} {h : Nat → Nat} {cy : Nat → ClassId} {σ : St} {cc : ByteArray} {nL pc : Nat} {ls : Array Slot} {rest : List Value} (X : Cx p s m args c D h cy RX12 cc nL) (Z : Zt D h cy s σ H locs) (hdg : decode cc pc = .ok (.getfield 250, 3)) (kk : W p l e R s m args below meth c H locs cells slots Q (F0 m (pc + 3) ls (.int (σ.1 68 37) :: rest))) : W p l e R s m args below meth c H locs cells slots Q (F0 m pc ls (.ref (h 68) :: rest)) :=
  x_get (T := TX12) X Z sh_68 ing12 rfl 37 (by decide) fl_RX12_250 rfl rfl hdg kk
theorem pf_RX12_250 {p : Program} {l : Launch} {e : Env} {R : Room} {s : State} {m : MethodId} {args : Array Value} {below : List Frame} {meth : Method} {c : Code} {H : Heap} {locs : List Loc} {cells slots : Nat} {Q : State → Prop} {D : va_G} {h : Nat → Nat} {cy : Nat → ClassId} {σ : St} {cc : ByteArray} {nL pc : Nat} {ls : Array Slot} {rest : List Value} {v : Int32} (X : Cx p s m args c D h cy RX12 cc nL) (Z : Zt D h cy s σ H locs) (hdg : decode cc pc = .ok (.putfield 250, 3)) (kk : ∀ (σ2 : St) (H : Heap) (locs : List Loc), σ2 = sI σ 68 37 v → Zt D h cy s σ2 H locs → W p l e R s m args below meth c H locs cells slots Q (F0 m (pc + 3) ls rest)) : W p l e R s m args below meth c H locs cells slots Q (F0 m pc ls (.int v :: .ref (h 68) :: rest)) :=
  x_put (T := TX12) X Z sh_68 ing12 tyX12 tyX12_ok nmX12 rfl 37 (by decide) fl_RX12_250 rfl rfl rfl rfl (Nat.le_of_ble_eq_true rfl) _ (wd_sI sh_68 rfl) hdg kk
theorem fl_RX12_253 : Cond.fieldLink RX12 253 (TX12 30).1 (TX12 30).2.1 (TX12 30).2.2.1 ∈ GT := GT5 225 rfl rfl
theorem gf_RX12_253 {p : Program} {l : Launch} {e : Env} {R : Room} {s : State} {m : MethodId} {args : Array Value} {below : List Frame} {meth : Method} {c : Code} {H : Heap} {locs : List Loc} {cells slots : Nat} {Q : State → Prop} {D : va_G} {h : Nat → Nat} {cy : Nat → ClassId} {σ : St} {cc : ByteArray} {nL pc : Nat} {ls : Array Slot} {rest : List Value} (X : Cx p s m args c D h cy RX12 cc nL) (Z : Zt D h cy s σ H locs) (hdg : decode cc pc = .ok (.getfield 253, 3)) (kk : W p l e R s m args below meth c H locs cells slots Q (F0 m (pc + 3) ls (.int (σ.1 68 30) :: rest))) : W p l e R s m args below meth c H locs cells slots Q (F0 m pc ls (.ref (h 68) :: rest)) :=
  x_get (T := TX12) X Z sh_68 ing12 rfl 30 (by decide) fl_RX12_253 rfl rfl hdg kk
theorem pf_RX12_253 {p : Program} {l : Launch} {e : Env} {R : Room} {s : State} {m : MethodId} {args : Array Value} {below : List Frame} {meth : Method} {c : Code} {H : Heap} {locs : List Loc} {cells slots : Nat} {Q : State → Prop} {D : va_G} {h : Nat → Nat} {cy : Nat → ClassId} {σ : St} {cc : ByteArray} {nL pc : Nat} {ls : Array Slot} {rest : List Value} {v : Int32} (X : Cx p s m args c D h cy RX12 cc nL) (Z : Zt D h cy s σ H locs) (hdg : decode cc pc = .ok (.putfield 253, 3)) (kk : ∀ (σ2 : St) (H : Heap) (locs : List Loc), σ2 = sI σ 68 30 v → Zt D h cy s σ2 H locs → W p l e R s m args below meth c H locs cells slots Q (F0 m (pc + 3) ls rest)) : W p l e R s m args below meth c H locs cells slots Q (F0 m pc ls (.int v :: .ref (h 68) :: rest)) :=
  x_put (T := TX12) X Z sh_68 ing12 tyX12 tyX12_ok nmX12 rfl 30 (by decide) fl_RX12_253 rfl rfl rfl rfl (Nat.le_of_ble_eq_true rfl) _ (wd_sI sh_68 rfl) hdg kk
theorem fl_RX12_264 : Cond.fieldLink RX12 264 (TX12 33).1 (TX12 33).2.1 (TX12 33).2.2.1 ∈ GT := GT5 228 rfl rfl
theorem gf_RX12_264 {p : Program} {l : Launch} {e : Env} {R : Room} {s : State} {m : MethodId} {args : Array Value} {below : List Frame} {meth : Method} {c : Code} {H : Heap} {locs : List Loc} {cells slots : Nat} {Q : State → Prop} {D : va_G} {h : Nat → Nat} {cy : Nat → ClassId} {σ : St} {cc : ByteArray} {nL pc : Nat} {ls : Array Slot} {rest : List Value} (X : Cx p s m args c D h cy RX12 cc nL) (Z : Zt D h cy s σ H locs) (hdg : decode cc pc = .ok (.getfield 264, 3)) (kk : W p l e R s m args below meth c H locs cells slots Q (F0 m (pc + 3) ls (.int (σ.1 68 33) :: rest))) : W p l e R s m args below meth c H locs cells slots Q (F0 m pc ls (.ref (h 68) :: rest)) :=
  x_get (T := TX12) X Z sh_68 ing12 rfl 33 (by decide) fl_RX12_264 rfl rfl hdg kk
theorem pf_RX12_264 {p : Program} {l : Launch} {e : Env} {R : Room} {s : State} {m : MethodId} {args : Array Value} {below : List Frame} {meth : Method} {c : Code} {H : Heap} {locs : List Loc} {cells slots : Nat} {Q : State → Prop} {D : va_G} {h : Nat → Nat} {cy : Nat → ClassId} {σ : St} {cc : ByteArray} {nL pc : Nat} {ls : Array Slot} {rest : List Value} {v : Int32} (X : Cx p s m args c D h cy RX12 cc nL) (Z : Zt D h cy s σ H locs) (hdg : decode cc pc = .ok (.putfield 264, 3)) (kk : ∀ (σ2 : St) (H : Heap) (locs : List Loc), σ2 = sI σ 68 33 v → Zt D h cy s σ2 H locs → W p l e R s m args below meth c H locs cells slots Q (F0 m (pc + 3) ls rest)) : W p l e R s m args below meth c H locs cells slots Q (F0 m pc ls (.int v :: .ref (h 68) :: rest)) :=
  x_put (T := TX12) X Z sh_68 ing12 tyX12 tyX12_ok nmX12 rfl 33 (by decide) fl_RX12_264 rfl rfl rfl rfl (Nat.le_of_ble_eq_true rfl) _ (wd_sI sh_68 rfl) hdg kk
theorem fl_RX12_273 : Cond.fieldLink RX12 273 (TX12 34).1 (TX12 34).2.1 (TX12 34).2.2.1 ∈ GT := GT5 229 rfl rfl
theorem gf_RX12_273 {p : Program} {l : Launch} {e : Env} {R : Room} {s : State} {m : MethodId} {args : Array Value} {below : List Frame} {meth : Method} {c : Code} {H : Heap} {locs : List Loc} {cells slots : Nat} {Q : State → Prop} {D : va_G} {h : Nat → Nat} {cy : Nat → ClassId} {σ : St} {cc : ByteArray} {nL pc : Nat} {ls : Array Slot} {rest : List Value} (X : Cx p s m args c D h cy RX12 cc nL) (Z : Zt D h cy s σ H locs) (hdg : decode cc pc = .ok (.getfield 273, 3)) (kk : W p l e R s m args below meth c H locs cells slots Q (F0 m (pc + 3) ls (.int (σ.1 68 34) :: rest))) : W p l e R s m args below meth c H locs cells slots Q (F0 m pc ls (.ref (h 68) :: rest)) :=
  x_get (T := TX12) X Z sh_68 ing12 rfl 34 (by decide) fl_RX12_273 rfl rfl hdg kk
theorem pf_RX12_273 {p : Program} {l : Launch} {e : Env} {R : Room} {s : State} {m : MethodId} {args : Array Value} {below : List Frame} {meth : Method} {c : Code} {H : Heap} {locs : List Loc} {cells slots : Nat} {Q : State → Prop} {D : va_G} {h : Nat → Nat} {cy : Nat → ClassId} {σ : St} {cc : ByteArray} {nL pc : Nat} {ls : Array Slot} {rest : List Value} {v : Int32} (X : Cx p s m args c D h cy RX12 cc nL) (Z : Zt D h cy s σ H locs) (hdg : decode cc pc = .ok (.putfield 273, 3)) (kk : ∀ (σ2 : St) (H : Heap) (locs : List Loc), σ2 = sI σ 68 34 v → Zt D h cy s σ2 H locs → W p l e R s m args below meth c H locs cells slots Q (F0 m (pc + 3) ls rest)) : W p l e R s m args below meth c H locs cells slots Q (F0 m pc ls (.int v :: .ref (h 68) :: rest)) :=
  x_put (T := TX12) X Z sh_68 ing12 tyX12 tyX12_ok nmX12 rfl 34 (by decide) fl_RX12_273 rfl rfl rfl rfl (Nat.le_of_ble_eq_true rfl) _ (wd_sI sh_68 rfl) hdg kk
theorem fl_RX12_300 : Cond.fieldLink RX12 300 (TX12 11).1 (TX12 11).2.1 (TX12 11).2.2.1 ∈ GT := GT5 206 rfl rfl
theorem gf_RX12_300 {p : Program} {l : Launch} {e : Env} {R : Room} {s : State} {m : MethodId} {args : Array Value} {below : List Frame} {meth : Method} {c : Code} {H : Heap} {locs : List Loc} {cells slots : Nat} {Q : State → Prop} {D : va_G} {h : Nat → Nat} {cy : Nat → ClassId} {σ : St} {cc : ByteArray} {nL pc : Nat} {ls : Array Slot} {rest : List Value} (X : Cx p s m args c D h cy RX12 cc nL) (Z : Zt D h cy s σ H locs) (hdg : decode cc pc = .ok (.getfield 300, 3)) (kk : W p l e R s m args below meth c H locs cells slots Q (F0 m (pc + 3) ls (.int (σ.1 68 11) :: rest))) : W p l e R s m args below meth c H locs cells slots Q (F0 m pc ls (.ref (h 68) :: rest)) :=
  x_get (T := TX12) X Z sh_68 ing12 rfl 11 (by decide) fl_RX12_300 rfl rfl hdg kk
theorem pf_RX12_300 {p : Program} {l : Launch} {e : Env} {R : Room} {s : State} {m : MethodId} {args : Array Value} {below : List Frame} {meth : Method} {c : Code} {H : Heap} {locs : List Loc} {cells slots : Nat} {Q : State → Prop} {D : va_G} {h : Nat → Nat} {cy : Nat → ClassId} {σ : St} {cc : ByteArray} {nL pc : Nat} {ls : Array Slot} {rest : List Value} {v : Int32} (X : Cx p s m args c D h cy RX12 cc nL) (Z : Zt D h cy s σ H locs) (hdg : decode cc pc = .ok (.putfield 300, 3)) (kk : ∀ (σ2 : St) (H : Heap) (locs : List Loc), σ2 = sI σ 68 11 v → Zt D h cy s σ2 H locs → W p l e R s m args below meth c H locs cells slots Q (F0 m (pc + 3) ls rest)) : W p l e R s m args below meth c H locs cells slots Q (F0 m pc ls (.int v :: .ref (h 68) :: rest)) :=
  x_put (T := TX12) X Z sh_68 ing12 tyX12 tyX12_ok nmX12 rfl 11 (by decide) fl_RX12_300 rfl rfl rfl rfl (Nat.le_of_ble_eq_true rfl) _ (wd_sI sh_68 rfl) hdg kk
theorem fl_RX12_313 : Cond.fieldLink RX12 313 (TX12 39).1 (TX12 39).2.1 (TX12 39).2.2.1 ∈ GT := GT5 234 rfl rfl
theorem gf_RX12_313 {p : Program} {l : Launch} {e : Env} {R : Room} {s : State} {m : MethodId} {args : Array Value} {below : List Frame} {meth : Method} {c : Code} {H : Heap} {locs : List Loc} {cells slots : Nat} {Q : State → Prop} {D : va_G} {h : Nat → Nat} {cy : Nat → ClassId} {σ : St} {cc : ByteArray} {nL pc : Nat} {ls : Array Slot} {rest : List Value} (X : Cx p s m args c D h cy RX12 cc nL) (Z : Zt D h cy s σ H locs) (hdg : decode cc pc = .ok (.getfield 313, 3)) (kk : W p l e R s m args below meth c H locs cells slots Q (F0 m (pc + 3) ls (.int (σ.1 68 39) :: rest))) : W p l e R s m args below meth c H locs cells slots Q (F0 m pc ls (.ref (h 68) :: rest)) :=
  x_get (T := TX12) X Z sh_68 ing12 rfl 39 (by decide) fl_RX12_313 rfl rfl hdg kk
theorem pf_RX12_313 {p : Program} {l : Launch} {e : Env} {R : Room} {s : State} {m : MethodId} {args : Array Value} {below : List Frame} {meth : Method} {c : Code} {H : Heap} {locs : List Loc} {cells slots : Nat} {Q : State → Prop} {D : va_G} {h : Nat → Nat} {cy : Nat → ClassId} {σ : St} {cc : ByteArray} {nL pc : Nat} {ls : Array Slot} {rest : List Value} {v : Int32} (X : Cx p s m args c D h cy RX12 cc nL) (Z : Zt D h cy s σ H locs) (hdg : decode cc pc = .ok (.putfield 313, 3)) (kk : ∀ (σ2 : St) (H : Heap) (locs : List Loc), σ2 = sI σ 68 39 v → Zt D h cy s σ2 H locs → W p l e R s m args below meth c H locs cells slots Q (F0 m (pc + 3) ls rest)) : W p l e R s m args below meth c H locs cells slots Q (F0 m pc ls (.int v :: .ref (h 68) :: rest)) :=
  x_put (T := TX12) X Z sh_68 ing12 tyX12 tyX12_ok nmX12 rfl 39 (by decide) fl_RX12_313 rfl rfl rfl rfl (Nat.le_of_ble_eq_true rfl) _ (wd_sI sh_68 rfl) hdg kk
theorem fl_RX12_341 : Cond.fieldLink RX12 341 (TX12 41).1 (TX12 41).2.1 (TX12 41).2.2.1 ∈ GT := GT5 236 rfl rfl
theorem gf_RX12_341 {p : Program} {l : Launch} {e : Env} {R : Room} {s : State} {m : MethodId} {args : Array Value} {below : List Frame} {meth : Method} {c : Code} {H : Heap} {locs : List Loc} {cells slots : Nat} {Q : State → Prop} {D : va_G} {h : Nat → Nat} {cy : Nat → ClassId} {σ : St} {cc : ByteArray} {nL pc : Nat} {ls : Array Slot} {rest : List Value} (X : Cx p s m args c D h cy RX12 cc nL) (Z : Zt D h cy s σ H locs) (hdg : decode cc pc = .ok (.getfield 341, 3)) (kk : W p l e R s m args below meth c H locs cells slots Q (F0 m (pc + 3) ls (.int (σ.1 68 41) :: rest))) : W p l e R s m args below meth c H locs cells slots Q (F0 m pc ls (.ref (h 68) :: rest)) :=
  x_get (T := TX12) X Z sh_68 ing12 rfl 41 (by decide) fl_RX12_341 rfl rfl hdg kk
theorem pf_RX12_341 {p : Program} {l : Launch} {e : Env} {R : Room} {s : State} {m : MethodId} {args : Array Value} {below : List Frame} {meth : Method} {c : Code} {H : Heap} {locs : List Loc} {cells slots : Nat} {Q : State → Prop} {D : va_G} {h : Nat → Nat} {cy : Nat → ClassId} {σ : St} {cc : ByteArray} {nL pc : Nat} {ls : Array Slot} {rest : List Value} {v : Int32} (X : Cx p s m args c D h cy RX12 cc nL) (Z : Zt D h cy s σ H locs) (hdg : decode cc pc = .ok (.putfield 341, 3)) (kk : ∀ (σ2 : St) (H : Heap) (locs : List Loc), σ2 = sI σ 68 41 v → Zt D h cy s σ2 H locs → W p l e R s m args below meth c H locs cells slots Q (F0 m (pc + 3) ls rest)) : W p l e R s m args below meth c H locs cells slots Q (F0 m pc ls (.int v :: .ref (h 68) :: rest)) :=
  x_put (T := TX12) X Z sh_68 ing12 tyX12 tyX12_ok nmX12 rfl 41 (by decide) fl_RX12_341 rfl rfl rfl rfl (Nat.le_of_ble_eq_true rfl) _ (wd_sI sh_68 rfl) hdg kk
theorem fl_RX12_344 : Cond.fieldLink RX12 344 (TX12 42).1 (TX12 42).2.1 (TX12 42).2.2.1 ∈ GT := GT5 237 rfl rfl
theorem gf_RX12_344 {p : Program} {l : Launch} {e : Env} {R : Room} {s : State} {m : MethodId} {args : Array Value} {below : List Frame} {meth : Method} {c : Code} {H : Heap} {locs : List Loc} {cells slots : Nat} {Q : State → Prop} {D : va_G} {h : Nat → Nat} {cy : Nat → ClassId} {σ : St} {cc : ByteArray} {nL pc : Nat} {ls : Array Slot} {rest : List Value} (X : Cx p s m args c D h cy RX12 cc nL) (Z : Zt D h cy s σ H locs) (hdg : decode cc pc = .ok (.getfield 344, 3)) (kk : W p l e R s m args below meth c H locs cells slots Q (F0 m (pc + 3) ls (.int (σ.1 68 42) :: rest))) : W p l e R s m args below meth c H locs cells slots Q (F0 m pc ls (.ref (h 68) :: rest)) :=
  x_get (T := TX12) X Z sh_68 ing12 rfl 42 (by decide) fl_RX12_344 rfl rfl hdg kk
theorem pf_RX12_344 {p : Program} {l : Launch} {e : Env} {R : Room} {s : State} {m : MethodId} {args : Array Value} {below : List Frame} {meth : Method} {c : Code} {H : Heap} {locs : List Loc} {cells slots : Nat} {Q : State → Prop} {D : va_G} {h : Nat → Nat} {cy : Nat → ClassId} {σ : St} {cc : ByteArray} {nL pc : Nat} {ls : Array Slot} {rest : List Value} {v : Int32} (X : Cx p s m args c D h cy RX12 cc nL) (Z : Zt D h cy s σ H locs) (hdg : decode cc pc = .ok (.putfield 344, 3)) (kk : ∀ (σ2 : St) (H : Heap) (locs : List Loc), σ2 = sI σ 68 42 v → Zt D h cy s σ2 H locs → W p l e R s m args below meth c H locs cells slots Q (F0 m (pc + 3) ls rest)) : W p l e R s m args below meth c H locs cells slots Q (F0 m pc ls (.int v :: .ref (h 68) :: rest)) :=
  x_put (T := TX12) X Z sh_68 ing12 tyX12 tyX12_ok nmX12 rfl 42 (by decide) fl_RX12_344 rfl rfl rfl rfl (Nat.le_of_ble_eq_true rfl) _ (wd_sI sh_68 rfl) hdg kk
theorem fl_RX12_347 : Cond.fieldLink RX12 347 (TX12 43).1 (TX12 43).2.1 (TX12 43).2.2.1 ∈ GT := GT5 238 rfl rfl
theorem gf_RX12_347 {p : Program} {l : Launch} {e : Env} {R : Room} {s : State} {m : MethodId} {args : Array Value} {below : List Frame} {meth : Method} {c : Code} {H : Heap} {locs : List Loc} {cells slots : Nat} {Q : State → Prop} {D : va_G} {h : Nat → Nat} {cy : Nat → ClassId} {σ : St} {cc : ByteArray} {nL pc : Nat} {ls : Array Slot} {rest : List Value} (X : Cx p s m args c D h cy RX12 cc nL) (Z : Zt D h cy s σ H locs) (hdg : decode cc pc = .ok (.getfield 347, 3)) (kk : W p l e R s m args below meth c H locs cells slots Q (F0 m (pc + 3) ls (.int (σ.1 68 43) :: rest))) : W p l e R s m args below meth c H locs cells slots Q (F0 m pc ls (.ref (h 68) :: rest)) :=
  x_get (T := TX12) X Z sh_68 ing12 rfl 43 (by decide) fl_RX12_347 rfl rfl hdg kk
theorem pf_RX12_347 {p : Program} {l : Launch} {e : Env} {R : Room} {s : State} {m : MethodId} {args : Array Value} {below : List Frame} {meth : Method} {c : Code} {H : Heap} {locs : List Loc} {cells slots : Nat} {Q : State → Prop} {D : va_G} {h : Nat → Nat} {cy : Nat → ClassId} {σ : St} {cc : ByteArray} {nL pc : Nat} {ls : Array Slot} {rest : List Value} {v : Int32} (X : Cx p s m args c D h cy RX12 cc nL) (Z : Zt D h cy s σ H locs) (hdg : decode cc pc = .ok (.putfield 347, 3)) (kk : ∀ (σ2 : St) (H : Heap) (locs : List Loc), σ2 = sI σ 68 43 v → Zt D h cy s σ2 H locs → W p l e R s m args below meth c H locs cells slots Q (F0 m (pc + 3) ls rest)) : W p l e R s m args below meth c H locs cells slots Q (F0 m pc ls (.int v :: .ref (h 68) :: rest)) :=
  x_put (T := TX12) X Z sh_68 ing12 tyX12 tyX12_ok nmX12 rfl 43 (by decide) fl_RX12_347 rfl rfl rfl rfl (Nat.le_of_ble_eq_true rfl) _ (wd_sI sh_68 rfl) hdg kk
theorem fl_RX12_350 : Cond.fieldLink RX12 350 (TX12 48).1 (TX12 48).2.1 (TX12 48).2.2.1 ∈ GT := GT6 3 rfl rfl
theorem gf_RX12_350 {p : Program} {l : Launch} {e : Env} {R : Room} {s : State} {m : MethodId} {args : Array Value} {below : List Frame} {meth : Method} {c : Code} {H : Heap} {locs : List Loc} {cells slots : Nat} {Q : State → Prop} {D : va_G} {h : Nat → Nat} {cy : Nat → ClassId} {σ : St} {cc : ByteArray} {nL pc : Nat} {ls : Array Slot} {rest : List Value} (X : Cx p s m args c D h cy RX12 cc nL) (Z : Zt D h cy s σ H locs) (hdg : decode cc pc = .ok (.getfield 350, 3)) (kk : W p l e R s m args below meth c H locs cells slots Q (F0 m (pc + 3) ls (.int (σ.1 68 48) :: rest))) : W p l e R s m args below meth c H locs cells slots Q (F0 m pc ls (.ref (h 68) :: rest)) :=
  x_get (T := TX12) X Z sh_68 ing12 rfl 48 (by decide) fl_RX12_350 rfl rfl hdg kk
theorem pf_RX12_350 {p : Program} {l : Launch} {e : Env} {R : Room} {s : State} {m : MethodId} {args : Array Value} {below : List Frame} {meth : Method} {c : Code} {H : Heap} {locs : List Loc} {cells slots : Nat} {Q : State → Prop} {D : va_G} {h : Nat → Nat} {cy : Nat → ClassId} {σ : St} {cc : ByteArray} {nL pc : Nat} {ls : Array Slot} {rest : List Value} {v : Int32} (X : Cx p s m args c D h cy RX12 cc nL) (Z : Zt D h cy s σ H locs) (hv : v = 0 ∨ v = 1) (hdg : decode cc pc = .ok (.putfield 350, 3)) (kk : ∀ (σ2 : St) (H : Heap) (locs : List Loc), σ2 = sI σ 68 48 v → Zt D h cy s σ2 H locs → W p l e R s m args below meth c H locs cells slots Q (F0 m (pc + 3) ls rest)) : W p l e R s m args below meth c H locs cells slots Q (F0 m pc ls (.int v :: .ref (h 68) :: rest)) :=
  x_put (T := TX12) X Z sh_68 ing12 tyX12 tyX12_ok nmX12 rfl 48 (by decide) fl_RX12_350 rfl rfl (by rcases hv with rfl | rfl <;> rfl) (by rcases hv with rfl | rfl <;> rfl) (Nat.le_of_ble_eq_true rfl) _ (wd_sI sh_68 rfl) hdg kk
theorem fl_RX12_354 : Cond.fieldLink RX12 354 (TX12 49).1 (TX12 49).2.1 (TX12 49).2.2.1 ∈ GT := GT6 4 rfl rfl
theorem gf_RX12_354 {p : Program} {l : Launch} {e : Env} {R : Room} {s : State} {m : MethodId} {args : Array Value} {below : List Frame} {meth : Method} {c : Code} {H : Heap} {locs : List Loc} {cells slots : Nat} {Q : State → Prop} {D : va_G} {h : Nat → Nat} {cy : Nat → ClassId} {σ : St} {cc : ByteArray} {nL pc : Nat} {ls : Array Slot} {rest : List Value} (X : Cx p s m args c D h cy RX12 cc nL) (Z : Zt D h cy s σ H locs) (hdg : decode cc pc = .ok (.getfield 354, 3)) (kk : W p l e R s m args below meth c H locs cells slots Q (F0 m (pc + 3) ls (.int (σ.1 68 49) :: rest))) : W p l e R s m args below meth c H locs cells slots Q (F0 m pc ls (.ref (h 68) :: rest)) :=
  x_get (T := TX12) X Z sh_68 ing12 rfl 49 (by decide) fl_RX12_354 rfl rfl hdg kk
theorem pf_RX12_354 {p : Program} {l : Launch} {e : Env} {R : Room} {s : State} {m : MethodId} {args : Array Value} {below : List Frame} {meth : Method} {c : Code} {H : Heap} {locs : List Loc} {cells slots : Nat} {Q : State → Prop} {D : va_G} {h : Nat → Nat} {cy : Nat → ClassId} {σ : St} {cc : ByteArray} {nL pc : Nat} {ls : Array Slot} {rest : List Value} {v : Int32} (X : Cx p s m args c D h cy RX12 cc nL) (Z : Zt D h cy s σ H locs) (hv : v = 0 ∨ v = 1) (hdg : decode cc pc = .ok (.putfield 354, 3)) (kk : ∀ (σ2 : St) (H : Heap) (locs : List Loc), σ2 = sI σ 68 49 v → Zt D h cy s σ2 H locs → W p l e R s m args below meth c H locs cells slots Q (F0 m (pc + 3) ls rest)) : W p l e R s m args below meth c H locs cells slots Q (F0 m pc ls (.int v :: .ref (h 68) :: rest)) :=
  x_put (T := TX12) X Z sh_68 ing12 tyX12 tyX12_ok nmX12 rfl 49 (by decide) fl_RX12_354 rfl rfl (by rcases hv with rfl | rfl <;> rfl) (by rcases hv with rfl | rfl <;> rfl) (Nat.le_of_ble_eq_true rfl) _ (wd_sI sh_68 rfl) hdg kk
theorem fl_RX12_390 : Cond.fieldLink RX12 390 (TX12 50).1 (TX12 50).2.1 (TX12 50).2.2.1 ∈ GT := GT6 5 rfl rfl
theorem gf_RX12_390 {p : Program} {l : Launch} {e : Env} {R : Room} {s : State} {m : MethodId} {args : Array Value} {below : List Frame} {meth : Method} {c : Code} {H : Heap} {locs : List Loc} {cells slots : Nat} {Q : State → Prop} {D : va_G} {h : Nat → Nat} {cy : Nat → ClassId} {σ : St} {cc : ByteArray} {nL pc : Nat} {ls : Array Slot} {rest : List Value} (X : Cx p s m args c D h cy RX12 cc nL) (Z : Zt D h cy s σ H locs) (hdg : decode cc pc = .ok (.getfield 390, 3)) (kk : W p l e R s m args below meth c H locs cells slots Q (F0 m (pc + 3) ls (.long (σ.2 68 50) :: rest))) : W p l e R s m args below meth c H locs cells slots Q (F0 m pc ls (.ref (h 68) :: rest)) :=
  x_get (T := TX12) X Z sh_68 ing12 rfl 50 (by decide) fl_RX12_390 rfl rfl hdg kk
theorem pf_RX12_390 {p : Program} {l : Launch} {e : Env} {R : Room} {s : State} {m : MethodId} {args : Array Value} {below : List Frame} {meth : Method} {c : Code} {H : Heap} {locs : List Loc} {cells slots : Nat} {Q : State → Prop} {D : va_G} {h : Nat → Nat} {cy : Nat → ClassId} {σ : St} {cc : ByteArray} {nL pc : Nat} {ls : Array Slot} {rest : List Value} {v : Int64} (X : Cx p s m args c D h cy RX12 cc nL) (Z : Zt D h cy s σ H locs) (hdg : decode cc pc = .ok (.putfield 390, 3)) (kk : ∀ (σ2 : St) (H : Heap) (locs : List Loc), σ2 = sJ σ 68 50 v → Zt D h cy s σ2 H locs → W p l e R s m args below meth c H locs cells slots Q (F0 m (pc + 3) ls rest)) : W p l e R s m args below meth c H locs cells slots Q (F0 m pc ls (.long v :: .ref (h 68) :: rest)) :=
  x_put (T := TX12) X Z sh_68 ing12 tyX12 tyX12_ok nmX12 rfl 50 (by decide) fl_RX12_390 rfl rfl rfl rfl (Nat.le_of_ble_eq_true rfl) _ (wd_sJ sh_68 rfl) hdg kk
theorem fl_RX12_395 : Cond.fieldLink RX12 395 (TX12 51).1 (TX12 51).2.1 (TX12 51).2.2.1 ∈ GT := GT6 6 rfl rfl
theorem gf_RX12_395 {p : Program} {l : Launch} {e : Env} {R : Room} {s : State} {m : MethodId} {args : Array Value} {below : List Frame} {meth : Method} {c : Code} {H : Heap} {locs : List Loc} {cells slots : Nat} {Q : State → Prop} {D : va_G} {h : Nat → Nat} {cy : Nat → ClassId} {σ : St} {cc : ByteArray} {nL pc : Nat} {ls : Array Slot} {rest : List Value} (X : Cx p s m args c D h cy RX12 cc nL) (Z : Zt D h cy s σ H locs) (hdg : decode cc pc = .ok (.getfield 395, 3)) (kk : W p l e R s m args below meth c H locs cells slots Q (F0 m (pc + 3) ls (.long (σ.2 68 51) :: rest))) : W p l e R s m args below meth c H locs cells slots Q (F0 m pc ls (.ref (h 68) :: rest)) :=
  x_get (T := TX12) X Z sh_68 ing12 rfl 51 (by decide) fl_RX12_395 rfl rfl hdg kk
theorem pf_RX12_395 {p : Program} {l : Launch} {e : Env} {R : Room} {s : State} {m : MethodId} {args : Array Value} {below : List Frame} {meth : Method} {c : Code} {H : Heap} {locs : List Loc} {cells slots : Nat} {Q : State → Prop} {D : va_G} {h : Nat → Nat} {cy : Nat → ClassId} {σ : St} {cc : ByteArray} {nL pc : Nat} {ls : Array Slot} {rest : List Value} {v : Int64} (X : Cx p s m args c D h cy RX12 cc nL) (Z : Zt D h cy s σ H locs) (hdg : decode cc pc = .ok (.putfield 395, 3)) (kk : ∀ (σ2 : St) (H : Heap) (locs : List Loc), σ2 = sJ σ 68 51 v → Zt D h cy s σ2 H locs → W p l e R s m args below meth c H locs cells slots Q (F0 m (pc + 3) ls rest)) : W p l e R s m args below meth c H locs cells slots Q (F0 m pc ls (.long v :: .ref (h 68) :: rest)) :=
  x_put (T := TX12) X Z sh_68 ing12 tyX12 tyX12_ok nmX12 rfl 51 (by decide) fl_RX12_395 rfl rfl rfl rfl (Nat.le_of_ble_eq_true rfl) _ (wd_sJ sh_68 rfl) hdg kk
theorem fl_RX12_398 : Cond.fieldLink RX12 398 (TX12 52).1 (TX12 52).2.1 (TX12 52).2.2.1 ∈ GT := GT6 7 rfl rfl
theorem gf_RX12_398 {p : Program} {l : Launch} {e : Env} {R : Room} {s : State} {m : MethodId} {args : Array Value} {below : List Frame} {meth : Method} {c : Code} {H : Heap} {locs : List Loc} {cells slots : Nat} {Q : State → Prop} {D : va_G} {h : Nat → Nat} {cy : Nat → ClassId} {σ : St} {cc : ByteArray} {nL pc : Nat} {ls : Array Slot} {rest : List Value} (X : Cx p s m args c D h cy RX12 cc nL) (Z : Zt D h cy s σ H locs) (hdg : decode cc pc = .ok (.getfield 398, 3)) (kk : W p l e R s m args below meth c H locs cells slots Q (F0 m (pc + 3) ls (.long (σ.2 68 52) :: rest))) : W p l e R s m args below meth c H locs cells slots Q (F0 m pc ls (.ref (h 68) :: rest)) :=
  x_get (T := TX12) X Z sh_68 ing12 rfl 52 (by decide) fl_RX12_398 rfl rfl hdg kk
theorem pf_RX12_398 {p : Program} {l : Launch} {e : Env} {R : Room} {s : State} {m : MethodId} {args : Array Value} {below : List Frame} {meth : Method} {c : Code} {H : Heap} {locs : List Loc} {cells slots : Nat} {Q : State → Prop} {D : va_G} {h : Nat → Nat} {cy : Nat → ClassId} {σ : St} {cc : ByteArray} {nL pc : Nat} {ls : Array Slot} {rest : List Value} {v : Int64} (X : Cx p s m args c D h cy RX12 cc nL) (Z : Zt D h cy s σ H locs) (hdg : decode cc pc = .ok (.putfield 398, 3)) (kk : ∀ (σ2 : St) (H : Heap) (locs : List Loc), σ2 = sJ σ 68 52 v → Zt D h cy s σ2 H locs → W p l e R s m args below meth c H locs cells slots Q (F0 m (pc + 3) ls rest)) : W p l e R s m args below meth c H locs cells slots Q (F0 m pc ls (.long v :: .ref (h 68) :: rest)) :=
  x_put (T := TX12) X Z sh_68 ing12 tyX12 tyX12_ok nmX12 rfl 52 (by decide) fl_RX12_398 rfl rfl rfl rfl (Nat.le_of_ble_eq_true rfl) _ (wd_sJ sh_68 rfl) hdg kk
theorem fl_RX12_401 : Cond.fieldLink RX12 401 (TX12 53).1 (TX12 53).2.1 (TX12 53).2.2.1 ∈ GT := GT6 8 rfl rfl
theorem gf_RX12_401 {p : Program} {l : Launch} {e : Env} {R : Room} {s : State} {m : MethodId} {args : Array Value} {below : List Frame} {meth : Method} {c : Code} {H : Heap} {locs : List Loc} {cells slots : Nat} {Q : State → Prop} {D : va_G} {h : Nat → Nat} {cy : Nat → ClassId} {σ : St} {cc : ByteArray} {nL pc : Nat} {ls : Array Slot} {rest : List Value} (X : Cx p s m args c D h cy RX12 cc nL) (Z : Zt D h cy s σ H locs) (hdg : decode cc pc = .ok (.getfield 401, 3)) (kk : W p l e R s m args below meth c H locs cells slots Q (F0 m (pc + 3) ls (.long (σ.2 68 53) :: rest))) : W p l e R s m args below meth c H locs cells slots Q (F0 m pc ls (.ref (h 68) :: rest)) :=
  x_get (T := TX12) X Z sh_68 ing12 rfl 53 (by decide) fl_RX12_401 rfl rfl hdg kk
theorem pf_RX12_401 {p : Program} {l : Launch} {e : Env} {R : Room} {s : State} {m : MethodId} {args : Array Value} {below : List Frame} {meth : Method} {c : Code} {H : Heap} {locs : List Loc} {cells slots : Nat} {Q : State → Prop} {D : va_G} {h : Nat → Nat} {cy : Nat → ClassId} {σ : St} {cc : ByteArray} {nL pc : Nat} {ls : Array Slot} {rest : List Value} {v : Int64} (X : Cx p s m args c D h cy RX12 cc nL) (Z : Zt D h cy s σ H locs) (hdg : decode cc pc = .ok (.putfield 401, 3)) (kk : ∀ (σ2 : St) (H : Heap) (locs : List Loc), σ2 = sJ σ 68 53 v → Zt D h cy s σ2 H locs → W p l e R s m args below meth c H locs cells slots Q (F0 m (pc + 3) ls rest)) : W p l e R s m args below meth c H locs cells slots Q (F0 m pc ls (.long v :: .ref (h 68) :: rest)) :=
  x_put (T := TX12) X Z sh_68 ing12 tyX12 tyX12_ok nmX12 rfl 53 (by decide) fl_RX12_401 rfl rfl rfl rfl (Nat.le_of_ble_eq_true rfl) _ (wd_sJ sh_68 rfl) hdg kk
theorem fl_RX12_404 : Cond.fieldLink RX12 404 (TX12 54).1 (TX12 54).2.1 (TX12 54).2.2.1 ∈ GT := GT6 9 rfl rfl
theorem gf_RX12_404 {p : Program} {l : Launch} {e : Env} {R : Room} {s : State} {m : MethodId} {args : Array Value} {below : List Frame} {meth : Method} {c : Code} {H : Heap} {locs : List Loc} {cells slots : Nat} {Q : State → Prop} {D : va_G} {h : Nat → Nat} {cy : Nat → ClassId} {σ : St} {cc : ByteArray} {nL pc : Nat} {ls : Array Slot} {rest : List Value} (X : Cx p s m args c D h cy RX12 cc nL) (Z : Zt D h cy s σ H locs) (hdg : decode cc pc = .ok (.getfield 404, 3)) (kk : W p l e R s m args below meth c H locs cells slots Q (F0 m (pc + 3) ls (.long (σ.2 68 54) :: rest))) : W p l e R s m args below meth c H locs cells slots Q (F0 m pc ls (.ref (h 68) :: rest)) :=
  x_get (T := TX12) X Z sh_68 ing12 rfl 54 (by decide) fl_RX12_404 rfl rfl hdg kk
theorem pf_RX12_404 {p : Program} {l : Launch} {e : Env} {R : Room} {s : State} {m : MethodId} {args : Array Value} {below : List Frame} {meth : Method} {c : Code} {H : Heap} {locs : List Loc} {cells slots : Nat} {Q : State → Prop} {D : va_G} {h : Nat → Nat} {cy : Nat → ClassId} {σ : St} {cc : ByteArray} {nL pc : Nat} {ls : Array Slot} {rest : List Value} {v : Int64} (X : Cx p s m args c D h cy RX12 cc nL) (Z : Zt D h cy s σ H locs) (hdg : decode cc pc = .ok (.putfield 404, 3)) (kk : ∀ (σ2 : St) (H : Heap) (locs : List Loc), σ2 = sJ σ 68 54 v → Zt D h cy s σ2 H locs → W p l e R s m args below meth c H locs cells slots Q (F0 m (pc + 3) ls rest)) : W p l e R s m args below meth c H locs cells slots Q (F0 m pc ls (.long v :: .ref (h 68) :: rest)) :=
  x_put (T := TX12) X Z sh_68 ing12 tyX12 tyX12_ok nmX12 rfl 54 (by decide) fl_RX12_404 rfl rfl rfl rfl (Nat.le_of_ble_eq_true rfl) _ (wd_sJ sh_68 rfl) hdg kk
theorem fl_RX12_407 : Cond.fieldLink RX12 407 (TX12 55).1 (TX12 55).2.1 (TX12 55).2.2.1 ∈ GT := GT6 10 rfl rfl
theorem gf_RX12_407 {p : Program} {l : Launch} {e : Env} {R : Room} {s : State} {m : MethodId} {args : Array Value} {below : List Frame} {meth : Method} {c : Code} {H : Heap} {locs : List Loc} {cells slots : Nat} {Q : State → Prop} {D : va_G} {h : Nat → Nat} {cy : Nat → ClassId} {σ : St} {cc : ByteArray} {nL pc : Nat} {ls : Array Slot} {rest : List Value} (X : Cx p s m args c D h cy RX12 cc nL) (Z : Zt D h cy s σ H locs) (hdg : decode cc pc = .ok (.getfield 407, 3)) (kk : W p l e R s m args below meth c H locs cells slots Q (F0 m (pc + 3) ls (.long (σ.2 68 55) :: rest))) : W p l e R s m args below meth c H locs cells slots Q (F0 m pc ls (.ref (h 68) :: rest)) :=
  x_get (T := TX12) X Z sh_68 ing12 rfl 55 (by decide) fl_RX12_407 rfl rfl hdg kk
theorem pf_RX12_407 {p : Program} {l : Launch} {e : Env} {R : Room} {s : State} {m : MethodId} {args : Array Value} {below : List Frame} {meth : Method} {c : Code} {H : Heap} {locs : List Loc} {cells slots : Nat} {Q : State → Prop} {D : va_G} {h : Nat → Nat} {cy : Nat → ClassId} {σ : St} {cc : ByteArray} {nL pc : Nat} {ls : Array Slot} {rest : List Value} {v : Int64} (X : Cx p s m args c D h cy RX12 cc nL) (Z : Zt D h cy s σ H locs) (hdg : decode cc pc = .ok (.putfield 407, 3)) (kk : ∀ (σ2 : St) (H : Heap) (locs : List Loc), σ2 = sJ σ 68 55 v → Zt D h cy s σ2 H locs → W p l e R s m args below meth c H locs cells slots Q (F0 m (pc + 3) ls rest)) : W p l e R s m args below meth c H locs cells slots Q (F0 m pc ls (.long v :: .ref (h 68) :: rest)) :=
  x_put (T := TX12) X Z sh_68 ing12 tyX12 tyX12_ok nmX12 rfl 55 (by decide) fl_RX12_407 rfl rfl rfl rfl (Nat.le_of_ble_eq_true rfl) _ (wd_sJ sh_68 rfl) hdg kk
theorem fl_RX12_416 : Cond.fieldLink RX12 416 (TX12 59).1 (TX12 59).2.1 (TX12 59).2.2.1 ∈ GT := GT6 14 rfl rfl
theorem gf_RX12_416 {p : Program} {l : Launch} {e : Env} {R : Room} {s : State} {m : MethodId} {args : Array Value} {below : List Frame} {meth : Method} {c : Code} {H : Heap} {locs : List Loc} {cells slots : Nat} {Q : State → Prop} {D : va_G} {h : Nat → Nat} {cy : Nat → ClassId} {σ : St} {cc : ByteArray} {nL pc : Nat} {ls : Array Slot} {rest : List Value} (X : Cx p s m args c D h cy RX12 cc nL) (Z : Zt D h cy s σ H locs) (hdg : decode cc pc = .ok (.getfield 416, 3)) (kk : W p l e R s m args below meth c H locs cells slots Q (F0 m (pc + 3) ls (.int (σ.1 68 59) :: rest))) : W p l e R s m args below meth c H locs cells slots Q (F0 m pc ls (.ref (h 68) :: rest)) :=
  x_get (T := TX12) X Z sh_68 ing12 rfl 59 (by decide) fl_RX12_416 rfl rfl hdg kk
theorem pf_RX12_416 {p : Program} {l : Launch} {e : Env} {R : Room} {s : State} {m : MethodId} {args : Array Value} {below : List Frame} {meth : Method} {c : Code} {H : Heap} {locs : List Loc} {cells slots : Nat} {Q : State → Prop} {D : va_G} {h : Nat → Nat} {cy : Nat → ClassId} {σ : St} {cc : ByteArray} {nL pc : Nat} {ls : Array Slot} {rest : List Value} {v : Int32} (X : Cx p s m args c D h cy RX12 cc nL) (Z : Zt D h cy s σ H locs) (hdg : decode cc pc = .ok (.putfield 416, 3)) (kk : ∀ (σ2 : St) (H : Heap) (locs : List Loc), σ2 = sI σ 68 59 v → Zt D h cy s σ2 H locs → W p l e R s m args below meth c H locs cells slots Q (F0 m (pc + 3) ls rest)) : W p l e R s m args below meth c H locs cells slots Q (F0 m pc ls (.int v :: .ref (h 68) :: rest)) :=
  x_put (T := TX12) X Z sh_68 ing12 tyX12 tyX12_ok nmX12 rfl 59 (by decide) fl_RX12_416 rfl rfl rfl rfl (Nat.le_of_ble_eq_true rfl) _ (wd_sI sh_68 rfl) hdg kk
theorem fl_RX12_419 : Cond.fieldLink RX12 419 (TX12 57).1 (TX12 57).2.1 (TX12 57).2.2.1 ∈ GT := GT6 12 rfl rfl
theorem gf_RX12_419 {p : Program} {l : Launch} {e : Env} {R : Room} {s : State} {m : MethodId} {args : Array Value} {below : List Frame} {meth : Method} {c : Code} {H : Heap} {locs : List Loc} {cells slots : Nat} {Q : State → Prop} {D : va_G} {h : Nat → Nat} {cy : Nat → ClassId} {σ : St} {cc : ByteArray} {nL pc : Nat} {ls : Array Slot} {rest : List Value} (X : Cx p s m args c D h cy RX12 cc nL) (Z : Zt D h cy s σ H locs) (hdg : decode cc pc = .ok (.getfield 419, 3)) (kk : W p l e R s m args below meth c H locs cells slots Q (F0 m (pc + 3) ls (.long (σ.2 68 57) :: rest))) : W p l e R s m args below meth c H locs cells slots Q (F0 m pc ls (.ref (h 68) :: rest)) :=
  x_get (T := TX12) X Z sh_68 ing12 rfl 57 (by decide) fl_RX12_419 rfl rfl hdg kk
theorem pf_RX12_419 {p : Program} {l : Launch} {e : Env} {R : Room} {s : State} {m : MethodId} {args : Array Value} {below : List Frame} {meth : Method} {c : Code} {H : Heap} {locs : List Loc} {cells slots : Nat} {Q : State → Prop} {D : va_G} {h : Nat → Nat} {cy : Nat → ClassId} {σ : St} {cc : ByteArray} {nL pc : Nat} {ls : Array Slot} {rest : List Value} {v : Int64} (X : Cx p s m args c D h cy RX12 cc nL) (Z : Zt D h cy s σ H locs) (hdg : decode cc pc = .ok (.putfield 419, 3)) (kk : ∀ (σ2 : St) (H : Heap) (locs : List Loc), σ2 = sJ σ 68 57 v → Zt D h cy s σ2 H locs → W p l e R s m args below meth c H locs cells slots Q (F0 m (pc + 3) ls rest)) : W p l e R s m args below meth c H locs cells slots Q (F0 m pc ls (.long v :: .ref (h 68) :: rest)) :=
  x_put (T := TX12) X Z sh_68 ing12 tyX12 tyX12_ok nmX12 rfl 57 (by decide) fl_RX12_419 rfl rfl rfl rfl (Nat.le_of_ble_eq_true rfl) _ (wd_sJ sh_68 rfl) hdg kk
theorem fl_RX12_422 : Cond.fieldLink RX12 422 (TX12 56).1 (TX12 56).2.1 (TX12 56).2.2.1 ∈ GT := GT6 11 rfl rfl
theorem gf_RX12_422 {p : Program} {l : Launch} {e : Env} {R : Room} {s : State} {m : MethodId} {args : Array Value} {below : List Frame} {meth : Method} {c : Code} {H : Heap} {locs : List Loc} {cells slots : Nat} {Q : State → Prop} {D : va_G} {h : Nat → Nat} {cy : Nat → ClassId} {σ : St} {cc : ByteArray} {nL pc : Nat} {ls : Array Slot} {rest : List Value} (X : Cx p s m args c D h cy RX12 cc nL) (Z : Zt D h cy s σ H locs) (hdg : decode cc pc = .ok (.getfield 422, 3)) (kk : W p l e R s m args below meth c H locs cells slots Q (F0 m (pc + 3) ls (.long (σ.2 68 56) :: rest))) : W p l e R s m args below meth c H locs cells slots Q (F0 m pc ls (.ref (h 68) :: rest)) :=
  x_get (T := TX12) X Z sh_68 ing12 rfl 56 (by decide) fl_RX12_422 rfl rfl hdg kk
theorem pf_RX12_422 {p : Program} {l : Launch} {e : Env} {R : Room} {s : State} {m : MethodId} {args : Array Value} {below : List Frame} {meth : Method} {c : Code} {H : Heap} {locs : List Loc} {cells slots : Nat} {Q : State → Prop} {D : va_G} {h : Nat → Nat} {cy : Nat → ClassId} {σ : St} {cc : ByteArray} {nL pc : Nat} {ls : Array Slot} {rest : List Value} {v : Int64} (X : Cx p s m args c D h cy RX12 cc nL) (Z : Zt D h cy s σ H locs) (hdg : decode cc pc = .ok (.putfield 422, 3)) (kk : ∀ (σ2 : St) (H : Heap) (locs : List Loc), σ2 = sJ σ 68 56 v → Zt D h cy s σ2 H locs → W p l e R s m args below meth c H locs cells slots Q (F0 m (pc + 3) ls rest)) : W p l e R s m args below meth c H locs cells slots Q (F0 m pc ls (.long v :: .ref (h 68) :: rest)) :=
  x_put (T := TX12) X Z sh_68 ing12 tyX12 tyX12_ok nmX12 rfl 56 (by decide) fl_RX12_422 rfl rfl rfl rfl (Nat.le_of_ble_eq_true rfl) _ (wd_sJ sh_68 rfl) hdg kk
theorem fl_RX12_425 : Cond.fieldLink RX12 425 (TX12 58).1 (TX12 58).2.1 (TX12 58).2.2.1 ∈ GT := GT6 13 rfl rfl
theorem gf_RX12_425 {p : Program} {l : Launch} {e : Env} {R : Room} {s : State} {m : MethodId} {args : Array Value} {below : List Frame} {meth : Method} {c : Code} {H : Heap} {locs : List Loc} {cells slots : Nat} {Q : State → Prop} {D : va_G} {h : Nat → Nat} {cy : Nat → ClassId} {σ : St} {cc : ByteArray} {nL pc : Nat} {ls : Array Slot} {rest : List Value} (X : Cx p s m args c D h cy RX12 cc nL) (Z : Zt D h cy s σ H locs) (hdg : decode cc pc = .ok (.getfield 425, 3)) (kk : W p l e R s m args below meth c H locs cells slots Q (F0 m (pc + 3) ls (.long (σ.2 68 58) :: rest))) : W p l e R s m args below meth c H locs cells slots Q (F0 m pc ls (.ref (h 68) :: rest)) :=
  x_get (T := TX12) X Z sh_68 ing12 rfl 58 (by decide) fl_RX12_425 rfl rfl hdg kk
theorem pf_RX12_425 {p : Program} {l : Launch} {e : Env} {R : Room} {s : State} {m : MethodId} {args : Array Value} {below : List Frame} {meth : Method} {c : Code} {H : Heap} {locs : List Loc} {cells slots : Nat} {Q : State → Prop} {D : va_G} {h : Nat → Nat} {cy : Nat → ClassId} {σ : St} {cc : ByteArray} {nL pc : Nat} {ls : Array Slot} {rest : List Value} {v : Int64} (X : Cx p s m args c D h cy RX12 cc nL) (Z : Zt D h cy s σ H locs) (hdg : decode cc pc = .ok (.putfield 425, 3)) (kk : ∀ (σ2 : St) (H : Heap) (locs : List Loc), σ2 = sJ σ 68 58 v → Zt D h cy s σ2 H locs → W p l e R s m args below meth c H locs cells slots Q (F0 m (pc + 3) ls rest)) : W p l e R s m args below meth c H locs cells slots Q (F0 m pc ls (.long v :: .ref (h 68) :: rest)) :=
  x_put (T := TX12) X Z sh_68 ing12 tyX12 tyX12_ok nmX12 rfl 58 (by decide) fl_RX12_425 rfl rfl rfl rfl (Nat.le_of_ble_eq_true rfl) _ (wd_sJ sh_68 rfl) hdg kk
theorem fl_RX12_467 : Cond.fieldLink RX12 467 (TX12 63).1 (TX12 63).2.1 (TX12 63).2.2.1 ∈ GT := GT6 18 rfl rfl
theorem gf_RX12_467 {p : Program} {l : Launch} {e : Env} {R : Room} {s : State} {m : MethodId} {args : Array Value} {below : List Frame} {meth : Method} {c : Code} {H : Heap} {locs : List Loc} {cells slots : Nat} {Q : State → Prop} {D : va_G} {h : Nat → Nat} {cy : Nat → ClassId} {σ : St} {cc : ByteArray} {nL pc : Nat} {ls : Array Slot} {rest : List Value} (X : Cx p s m args c D h cy RX12 cc nL) (Z : Zt D h cy s σ H locs) (hdg : decode cc pc = .ok (.getfield 467, 3)) (kk : W p l e R s m args below meth c H locs cells slots Q (F0 m (pc + 3) ls (.int (σ.1 68 63) :: rest))) : W p l e R s m args below meth c H locs cells slots Q (F0 m pc ls (.ref (h 68) :: rest)) :=
  x_get (T := TX12) X Z sh_68 ing12 rfl 63 (by decide) fl_RX12_467 rfl rfl hdg kk
theorem pf_RX12_467 {p : Program} {l : Launch} {e : Env} {R : Room} {s : State} {m : MethodId} {args : Array Value} {below : List Frame} {meth : Method} {c : Code} {H : Heap} {locs : List Loc} {cells slots : Nat} {Q : State → Prop} {D : va_G} {h : Nat → Nat} {cy : Nat → ClassId} {σ : St} {cc : ByteArray} {nL pc : Nat} {ls : Array Slot} {rest : List Value} {v : Int32} (X : Cx p s m args c D h cy RX12 cc nL) (Z : Zt D h cy s σ H locs) (hdg : decode cc pc = .ok (.putfield 467, 3)) (kk : ∀ (σ2 : St) (H : Heap) (locs : List Loc), σ2 = sI σ 68 63 v → Zt D h cy s σ2 H locs → W p l e R s m args below meth c H locs cells slots Q (F0 m (pc + 3) ls rest)) : W p l e R s m args below meth c H locs cells slots Q (F0 m pc ls (.int v :: .ref (h 68) :: rest)) :=
  x_put (T := TX12) X Z sh_68 ing12 tyX12 tyX12_ok nmX12 rfl 63 (by decide) fl_RX12_467 rfl rfl rfl rfl (Nat.le_of_ble_eq_true rfl) _ (wd_sI sh_68 rfl) hdg kk
theorem fl_RX12_470 : Cond.fieldLink RX12 470 (TX12 64).1 (TX12 64).2.1 (TX12 64).2.2.1 ∈ GT := GT6 19 rfl rfl
theorem gf_RX12_470 {p : Program} {l : Launch} {e : Env} {R : Room} {s : State} {m : MethodId} {args : Array Value} {below : List Frame} {meth : Method} {c : Code} {H : Heap} {locs : List Loc} {cells slots : Nat} {Q : State → Prop} {D : va_G} {h : Nat → Nat} {cy : Nat → ClassId} {σ : St} {cc : ByteArray} {nL pc : Nat} {ls : Array Slot} {rest : List Value} (X : Cx p s m args c D h cy RX12 cc nL) (Z : Zt D h cy s σ H locs) (hdg : decode cc pc = .ok (.getfield 470, 3)) (kk : W p l e R s m args below meth c H locs cells slots Q (F0 m (pc + 3) ls (.int (σ.1 68 64) :: rest))) : W p l e R s m args below meth c H locs cells slots Q (F0 m pc ls (.ref (h 68) :: rest)) :=
  x_get (T := TX12) X Z sh_68 ing12 rfl 64 (by decide) fl_RX12_470 rfl rfl hdg kk
theorem pf_RX12_470 {p : Program} {l : Launch} {e : Env} {R : Room} {s : State} {m : MethodId} {args : Array Value} {below : List Frame} {meth : Method} {c : Code} {H : Heap} {locs : List Loc} {cells slots : Nat} {Q : State → Prop} {D : va_G} {h : Nat → Nat} {cy : Nat → ClassId} {σ : St} {cc : ByteArray} {nL pc : Nat} {ls : Array Slot} {rest : List Value} {v : Int32} (X : Cx p s m args c D h cy RX12 cc nL) (Z : Zt D h cy s σ H locs) (hdg : decode cc pc = .ok (.putfield 470, 3)) (kk : ∀ (σ2 : St) (H : Heap) (locs : List Loc), σ2 = sI σ 68 64 v → Zt D h cy s σ2 H locs → W p l e R s m args below meth c H locs cells slots Q (F0 m (pc + 3) ls rest)) : W p l e R s m args below meth c H locs cells slots Q (F0 m pc ls (.int v :: .ref (h 68) :: rest)) :=
  x_put (T := TX12) X Z sh_68 ing12 tyX12 tyX12_ok nmX12 rfl 64 (by decide) fl_RX12_470 rfl rfl rfl rfl (Nat.le_of_ble_eq_true rfl) _ (wd_sI sh_68 rfl) hdg kk
theorem fl_RX12_477 : Cond.fieldLink RX12 477 (TX12 65).1 (TX12 65).2.1 (TX12 65).2.2.1 ∈ GT := GT6 20 rfl rfl
theorem gf_RX12_477 {p : Program} {l : Launch} {e : Env} {R : Room} {s : State} {m : MethodId} {args : Array Value} {below : List Frame} {meth : Method} {c : Code} {H : Heap} {locs : List Loc} {cells slots : Nat} {Q : State → Prop} {D : va_G} {h : Nat → Nat} {cy : Nat → ClassId} {σ : St} {cc : ByteArray} {nL pc : Nat} {ls : Array Slot} {rest : List Value} (X : Cx p s m args c D h cy RX12 cc nL) (Z : Zt D h cy s σ H locs) (hdg : decode cc pc = .ok (.getfield 477, 3)) (kk : W p l e R s m args below meth c H locs cells slots Q (F0 m (pc + 3) ls (.int (σ.1 68 65) :: rest))) : W p l e R s m args below meth c H locs cells slots Q (F0 m pc ls (.ref (h 68) :: rest)) :=
  x_get (T := TX12) X Z sh_68 ing12 rfl 65 (by decide) fl_RX12_477 rfl rfl hdg kk
theorem pf_RX12_477 {p : Program} {l : Launch} {e : Env} {R : Room} {s : State} {m : MethodId} {args : Array Value} {below : List Frame} {meth : Method} {c : Code} {H : Heap} {locs : List Loc} {cells slots : Nat} {Q : State → Prop} {D : va_G} {h : Nat → Nat} {cy : Nat → ClassId} {σ : St} {cc : ByteArray} {nL pc : Nat} {ls : Array Slot} {rest : List Value} {v : Int32} (X : Cx p s m args c D h cy RX12 cc nL) (Z : Zt D h cy s σ H locs) (hdg : decode cc pc = .ok (.putfield 477, 3)) (kk : ∀ (σ2 : St) (H : Heap) (locs : List Loc), σ2 = sI σ 68 65 v → Zt D h cy s σ2 H locs → W p l e R s m args below meth c H locs cells slots Q (F0 m (pc + 3) ls rest)) : W p l e R s m args below meth c H locs cells slots Q (F0 m pc ls (.int v :: .ref (h 68) :: rest)) :=
  x_put (T := TX12) X Z sh_68 ing12 tyX12 tyX12_ok nmX12 rfl 65 (by decide) fl_RX12_477 rfl rfl rfl rfl (Nat.le_of_ble_eq_true rfl) _ (wd_sI sh_68 rfl) hdg kk
theorem ac_RX6_33 : Cond.methodLink RX6 33 arraycopyName ∈ GT := GT3 202 rfl rfl
theorem ac_RX8_109 : Cond.methodLink RX8 109 arraycopyName ∈ GT := GT3 70 rfl rfl
theorem kc_RX3_165 : Cond.constant RX3 165 (65535) ∈ GT := GT5 8 rfl rfl
theorem kc_RX11_91 : Cond.constant RX11 91 (1073741824) ∈ GT := GT3 12 rfl rfl
theorem kc_RX12_169 : Cond.constant RX12 169 (1073741824) ∈ GT := GT6 210 rfl rfl
theorem kc_RX12_272 : Cond.constant RX12 272 (65535) ∈ GT := GT7 69 rfl rfl
theorem kc_RX0_100 : Cond.constantLong RX0 100 (8) ∈ GT := GT4 114 rfl rfl
theorem kc_RX0_102 : Cond.constantLong RX0 102 (25) ∈ GT := GT4 119 rfl rfl
theorem kc_RX0_113 : Cond.constantLong RX0 113 (2) ∈ GT := GT4 162 rfl rfl
theorem kc_RX0_118 : Cond.constantLong RX0 118 (2147483700) ∈ GT := GT4 169 rfl rfl
theorem kc_RX0_123 : Cond.constantLong RX0 123 (2147483648) ∈ GT := GT4 174 rfl rfl
theorem kc_RX0_128 : Cond.constantLong RX0 128 (72) ∈ GT := GT4 124 rfl rfl
theorem kc_RX0_130 : Cond.constantLong RX0 130 (80) ∈ GT := GT4 125 rfl rfl
theorem kc_RX0_142 : Cond.constantLong RX0 142 (16384) ∈ GT := GT4 143 rfl rfl
theorem kc_RX0_144 : Cond.constantLong RX0 144 (2147483647) ∈ GT := GT4 134 rfl rfl
theorem kc_RX0_154 : Cond.constantLong RX0 154 (24) ∈ GT := GT4 167 rfl rfl
theorem kc_RX0_156 : Cond.constantLong RX0 156 (64) ∈ GT := GT4 168 rfl rfl
theorem kc_RX0_86 : Cond.constantLong RX0 86 (4277009103) ∈ GT := GT4 103 rfl rfl
theorem kc_RX0_88 : Cond.constantLong RX0 88 (16) ∈ GT := GT4 104 rfl rfl
theorem kc_RX0_90 : Cond.constantLong RX0 90 (32) ∈ GT := GT4 105 rfl rfl
theorem kc_RX3_109 : Cond.constantLong RX3 109 (64) ∈ GT := GT4 215 rfl rfl
theorem kc_RX3_117 : Cond.constantLong RX3 117 (256) ∈ GT := GT4 217 rfl rfl
theorem kc_RX3_119 : Cond.constantLong RX3 119 (255) ∈ GT := GT4 218 rfl rfl
theorem kc_RX3_127 : Cond.constantLong RX3 127 (22) ∈ GT := GT4 227 rfl rfl
theorem kc_RX3_196 : Cond.constantLong RX3 196 (2234207627640832) ∈ GT := GT5 28 rfl rfl
theorem kc_RX3_198 : Cond.constantLong RX3 198 (16777215) ∈ GT := GT5 29 rfl rfl
theorem kc_RX3_200 : Cond.constantLong RX3 200 (2251795518717952) ∈ GT := GT5 30 rfl rfl
theorem kc_RX3_209 : Cond.constantLong RX3 209 (72057594037927935) ∈ GT := GT5 79 rfl rfl
theorem kc_RX3_99 : Cond.constantLong RX3 99 (4) ∈ GT := GT4 210 rfl rfl
theorem kc_RX7_37 : Cond.constantLong RX7 37 (2147483647) ∈ GT := GT5 39 rfl rfl
theorem kc_RX9_27 : Cond.constantLong RX9 27 (16777215) ∈ GT := GT5 73 rfl rfl
theorem kc_RX9_29 : Cond.constantLong RX9 29 (68719476735) ∈ GT := GT5 74 rfl rfl
theorem kc_RX9_31 : Cond.constantLong RX9 31 (255) ∈ GT := GT5 78 rfl rfl
theorem kc_RX10_128 : Cond.constantLong RX10 128 (4277009103) ∈ GT := GT3 180 rfl rfl
theorem kc_RX10_134 : Cond.constantLong RX10 134 (16777228) ∈ GT := GT3 182 rfl rfl
theorem kc_RX10_136 : Cond.constantLong RX10 136 (6) ∈ GT := GT3 183 rfl rfl
theorem kc_RX10_138 : Cond.constantLong RX10 138 (133) ∈ GT := GT3 184 rfl rfl
theorem kc_RX10_143 : Cond.constantLong RX10 143 (25) ∈ GT := GT3 193 rfl rfl
theorem kc_RX10_152 : Cond.constantLong RX10 152 (7) ∈ GT := GT3 208 rfl rfl
theorem kc_RX10_169 : Cond.constantLong RX10 169 (2) ∈ GT := GT3 222 rfl rfl
theorem kc_RX10_171 : Cond.constantLong RX10 171 (24) ∈ GT := GT3 223 rfl rfl
theorem kc_RX10_173 : Cond.constantLong RX10 173 (2147483700) ∈ GT := GT3 224 rfl rfl
theorem kc_RX10_175 : Cond.constantLong RX10 175 (16) ∈ GT := GT3 225 rfl rfl
theorem kc_RX10_203 : Cond.constantLong RX10 203 (28) ∈ GT := GT4 11 rfl rfl
theorem kc_RX10_218 : Cond.constantLong RX10 218 (65535) ∈ GT := GT4 16 rfl rfl
theorem kc_RX10_236 : Cond.constantLong RX10 236 (15) ∈ GT := GT4 30 rfl rfl
theorem kc_RX11_121 : Cond.constantLong RX11 121 (68719476735) ∈ GT := GT3 104 rfl rfl
theorem kc_RX11_139 : Cond.constantLong RX11 139 (-9223372036854775808) ∈ GT := GT3 128 rfl rfl
theorem kc_RX12_159 : Cond.constantLong RX12 159 (256) ∈ GT := GT6 214 rfl rfl
theorem kc_RX12_161 : Cond.constantLong RX12 161 (512) ∈ GT := GT6 215 rfl rfl
theorem kc_RX12_163 : Cond.constantLong RX12 163 (1024) ∈ GT := GT6 216 rfl rfl
theorem kc_RX12_165 : Cond.constantLong RX12 165 (2048) ∈ GT := GT6 217 rfl rfl
theorem kc_RX12_167 : Cond.constantLong RX12 167 (4096) ∈ GT := GT6 218 rfl rfl
theorem kc_RX12_207 : Cond.constantLong RX12 207 (68719476736) ∈ GT := GT7 11 rfl rfl
theorem kc_RX12_236 : Cond.constantLong RX12 236 (15) ∈ GT := GT7 83 rfl rfl
theorem kc_RX12_262 : Cond.constantLong RX12 262 (-9223372036854775808) ∈ GT := GT7 88 rfl rfl
theorem kc_RX12_270 : Cond.constantLong RX12 270 (2) ∈ GT := GT7 64 rfl rfl
theorem kc_RX12_276 : Cond.constantLong RX12 276 (28) ∈ GT := GT7 78 rfl rfl
theorem kc_RX12_282 : Cond.constantLong RX12 282 (4277009103) ∈ GT := GT7 93 rfl rfl
theorem kc_RX12_284 : Cond.constantLong RX12 284 (16777228) ∈ GT := GT7 94 rfl rfl
theorem kc_RX12_286 : Cond.constantLong RX12 286 (6) ∈ GT := GT7 95 rfl rfl
theorem kc_RX12_288 : Cond.constantLong RX12 288 (133) ∈ GT := GT7 96 rfl rfl
theorem kc_RX12_290 : Cond.constantLong RX12 290 (25) ∈ GT := GT7 97 rfl rfl
theorem kc_RX12_292 : Cond.constantLong RX12 292 (7) ∈ GT := GT7 98 rfl rfl
theorem kc_RX12_294 : Cond.constantLong RX12 294 (24) ∈ GT := GT7 99 rfl rfl
theorem kc_RX12_296 : Cond.constantLong RX12 296 (2147483700) ∈ GT := GT7 100 rfl rfl
theorem kc_RX12_298 : Cond.constantLong RX12 298 (16) ∈ GT := GT7 101 rfl rfl
theorem kc_RX12_311 : Cond.constantLong RX12 311 (4) ∈ GT := GT7 141 rfl rfl
theorem kc_RX12_319 : Cond.constantLong RX12 319 (2147483647) ∈ GT := GT7 157 rfl rfl
theorem kc_RX12_357 : Cond.constantLong RX12 357 (32) ∈ GT := GT7 138 rfl rfl
theorem kc_RX12_359 : Cond.constantLong RX12 359 (20) ∈ GT := GT7 139 rfl rfl
theorem kc_RX12_361 : Cond.constantLong RX12 361 (8) ∈ GT := GT7 140 rfl rfl
theorem kc_RX12_373 : Cond.constantLong RX12 373 (2147483648) ∈ GT := GT7 170 rfl rfl
theorem kc_RX12_375 : Cond.constantLong RX12 375 (72) ∈ GT := GT7 146 rfl rfl
theorem kc_RX12_377 : Cond.constantLong RX12 377 (80) ∈ GT := GT7 147 rfl rfl
theorem kc_RX12_379 : Cond.constantLong RX12 379 (64) ∈ GT := GT7 148 rfl rfl
theorem kc_RX12_384 : Cond.constantLong RX12 384 (40) ∈ GT := GT7 158 rfl rfl
theorem kc_RX12_386 : Cond.constantLong RX12 386 (48) ∈ GT := GT7 159 rfl rfl
theorem kc_RX12_388 : Cond.constantLong RX12 388 (16384) ∈ GT := GT7 160 rfl rfl
theorem kc_RX12_393 : Cond.constantLong RX12 393 (12) ∈ GT := GT7 165 rfl rfl
theorem kc_RX12_414 : Cond.constantLong RX12 414 (5) ∈ GT := GT7 179 rfl rfl
theorem kc_RX12_436 : Cond.constantLong RX12 436 (22) ∈ GT := GT7 188 rfl rfl
theorem kc_RX12_450 : Cond.constantLong RX12 450 (2251795518717952) ∈ GT := GT7 205 rfl rfl
theorem kc_RX12_452 : Cond.constantLong RX12 452 (2234207627640832) ∈ GT := GT7 206 rfl rfl
theorem kc_RX12_454 : Cond.constantLong RX12 454 (16777215) ∈ GT := GT7 207 rfl rfl
theorem kc_RX12_465 : Cond.constantLong RX12 465 (255) ∈ GT := GT7 220 rfl rfl
theorem kc_RX12_473 : Cond.constantLong RX12 473 (68719476735) ∈ GT := GT7 229 rfl rfl
theorem kc_RX12_475 : Cond.constantLong RX12 475 (72057594037927935) ∈ GT := GT7 230 rfl rfl
theorem kc_RX12_86 : Cond.constantLong RX12 86 (-1) ∈ GT := GT5 194 rfl rfl
theorem lk_RX0_104 : LkV RX0 104 yX0_segmentHolds cX0_segmentHolds 4 (some .boolean) 1 := ⟨⟨GT4 120 rfl rfl, cd_X0_segmentHolds, in_RX0, (by decide +kernel)⟩, iv_X0_segmentHolds, sl_X0_segmentHolds⟩
theorem lk_RX0_107 : LkV RX0 107 yX0_spanHolds cX0_spanHolds 10 (some .boolean) 1 := ⟨⟨GT4 135 rfl rfl, cd_X0_spanHolds, in_RX0, (by decide +kernel)⟩, iv_X0_spanHolds, sl_X0_spanHolds⟩
theorem lk_RX0_110 : LkV RX0 110 yX0_sectionsHold cX0_sectionsHold 12 (some .boolean) 1 := ⟨⟨GT4 158 rfl rfl, cd_X0_sectionsHold, in_RX0, (by decide +kernel)⟩, iv_X0_sectionsHold, sl_X0_sectionsHold⟩
theorem lk_RX0_115 : LkV RX0 115 yX0_symtabHolds cX0_symtabHolds 4 (some .boolean) 1 := ⟨⟨GT4 163 rfl rfl, cd_X0_symtabHolds, in_RX0, (by decide +kernel)⟩, iv_X0_symtabHolds, sl_X0_symtabHolds⟩
theorem lk_RX0_120 : LkV RX0 120 yX0_chainsHold cX0_chainsHold 2 (some .boolean) 1 := ⟨⟨GT4 170 rfl rfl, cd_X0_chainsHold, in_RX0, (by decide +kernel)⟩, iv_X0_chainsHold, sl_X0_chainsHold⟩
theorem lk_RX0_132 : LkV RX0 132 yX0_numberHolds cX0_numberHolds 4 (some .boolean) 1 := ⟨⟨GT4 126 rfl rfl, cd_X0_numberHolds, in_RX0, (by decide +kernel)⟩, iv_X0_numberHolds, sl_X0_numberHolds⟩
theorem lk_RX0_135 : LkV RX0 135 yX0_u8 cX0_u8 2 (some .long) 1 := ⟨⟨GT4 130 rfl rfl, cd_X0_u8, in_RX0, (by decide +kernel)⟩, iv_X0_u8, sl_X0_u8⟩
theorem lk_RX0_138 : LkV RX0 138 yX7_spanOfAll cX7_spanOfAll 3 (some .int) 0 := ⟨⟨GT4 139 rfl rfl, cd_X7_spanOfAll, in_RX7, (by decide +kernel)⟩, iv_X7_spanOfAll, sl_X7_spanOfAll⟩
theorem lk_RX0_146 : LkV RX0 146 yX7_shareByte cX7_shareByte 8 (some .boolean) 2 := ⟨⟨GT4 144 rfl rfl, cd_X7_shareByte, in_RX7, (by decide +kernel)⟩, iv_X7_shareByte, sl_X7_shareByte⟩
theorem lk_RX0_150 : LkV RX0 150 yX7_add cX7_add 5 none 4 := ⟨⟨GT4 154 rfl rfl, cd_X7_add, in_RX7, (by decide +kernel)⟩, iv_X7_add, sl_X7_add⟩
theorem lk_RX0_158 : LkV RX0 158 yX6_lastZero cX6_lastZero 4 (some .int) 2 := ⟨⟨GT4 179 rfl rfl, cd_X6_lastZero, in_RX6, (by decide +kernel)⟩, iv_X6_lastZero, sl_X6_lastZero⟩
theorem lk_RX0_162 : LkV RX0 162 yX6_at cX6_at 2 (some .int) 1 := ⟨⟨GT4 183 rfl rfl, cd_X6_at, in_RX6, (by decide +kernel)⟩, iv_X6_at, sl_X6_at⟩
theorem lk_RX0_166 : LkV RX0 166 yX6_number cX6_number 7 (some .long) 2 := ⟨⟨GT4 99 rfl rfl, cd_X6_number, in_RX6, (by decide +kernel)⟩, iv_X6_number, sl_X6_number⟩
theorem lk_RX0_26 : LkV RX0 26 yX0_forget cX0_forget 1 none 0 := ⟨⟨GT4 79 rfl rfl, cd_X0_forget, in_RX0, (by decide +kernel)⟩, iv_X0_forget, sl_X0_forget⟩
theorem lk_RX0_29 : LkV RX0 29 yX0_headHolds cX0_headHolds 1 (some .boolean) 0 := ⟨⟨GT4 87 rfl rfl, cd_X0_headHolds, in_RX0, (by decide +kernel)⟩, iv_X0_headHolds, sl_X0_headHolds⟩
theorem lk_RX0_33 : LkV RX0 33 yX0_commandsHold cX0_commandsHold 5 (some .boolean) 0 := ⟨⟨GT4 106 rfl rfl, cd_X0_commandsHold, in_RX0, (by decide +kernel)⟩, iv_X0_commandsHold, sl_X0_commandsHold⟩
theorem lk_RX0_36 : LkV RX0 36 yX0_symbolsHold cX0_symbolsHold 4 (some .boolean) 0 := ⟨⟨GT4 175 rfl rfl, cd_X0_symbolsHold, in_RX0, (by decide +kernel)⟩, iv_X0_symbolsHold, sl_X0_symbolsHold⟩
theorem lk_RX0_39 : LkV RX0 39 yX7_clear cX7_clear 1 none 0 := ⟨⟨GT4 83 rfl rfl, cd_X7_clear, in_RX7, (by decide +kernel)⟩, iv_X7_clear, sl_X7_clear⟩
theorem lk_RX0_76 : LkV RX0 76 yX2_unless cX2_unless 4 (some .boolean) 3 := ⟨⟨GT4 91 rfl rfl, cd_X2_unless, in_RX2, (by decide +kernel)⟩, iv_X2_unless, sl_X2_unless⟩
theorem lk_RX0_82 : LkV RX0 82 yX0_u4 cX0_u4 2 (some .long) 1 := ⟨⟨GT4 95 rfl rfl, cd_X0_u4, in_RX0, (by decide +kernel)⟩, iv_X0_u4, sl_X0_u4⟩
theorem lk_RX0_92 : LkV RX0 92 yX0_sizeHolds cX0_sizeHolds 5 (some .boolean) 2 := ⟨⟨GT4 110 rfl rfl, cd_X0_sizeHolds, in_RX0, (by decide +kernel)⟩, iv_X0_sizeHolds, sl_X0_sizeHolds⟩
theorem lk_RX0_96 : LkV RX0 96 yX0_commandHolds cX0_commandHolds 4 (some .boolean) 1 := ⟨⟨GT4 115 rfl rfl, cd_X0_commandHolds, in_RX0, (by decide +kernel)⟩, iv_X0_commandHolds, sl_X0_commandHolds⟩
theorem lk_RX1_27 : LkV RX1 27 yX6_isName cX6_isName 2 (some .boolean) 0 := ⟨⟨GT4 58 rfl rfl, cd_X6_isName, in_RX6, (by decide +kernel)⟩, iv_X6_isName, sl_X6_isName⟩
theorem lk_RX1_33 : LkN RX1 33 yX11_isLibrary cX11_isLibrary 1 (some .boolean) 1 RX11 := ⟨List.mem_of_getElem? (i := 5) rfl, cd_X11_isLibrary, in_RX11, (by decide +kernel), GT3 98 rfl rfl⟩
theorem lk_RX1_37 : LkV RX1 37 yX1_indexOf cX1_indexOf 5 (some .int) 3 := ⟨⟨GT4 60 rfl rfl, cd_X1_indexOf, in_RX1, (by decide +kernel)⟩, iv_X1_indexOf, sl_X1_indexOf⟩
theorem lk_RX1_41 : LkV RX1 41 yX5_add cX5_add 4 (some .int) 1 := ⟨⟨GT4 69 rfl rfl, cd_X5_add, in_RX5, (by decide +kernel)⟩, iv_X5_add, sl_X5_add⟩
theorem lk_RX1_56 : LkV RX1 56 yX6_reads cX6_reads 6 (some .boolean) 4 := ⟨⟨GT4 64 rfl rfl, cd_X6_reads, in_RX6, (by decide +kernel)⟩, iv_X6_reads, sl_X6_reads⟩
theorem lk_RX3_111 : LkV RX3 111 yX6_lastZero cX6_lastZero 4 (some .int) 2 := ⟨⟨GT4 216 rfl rfl, cd_X6_lastZero, in_RX6, (by decide +kernel)⟩, iv_X6_lastZero, sl_X6_lastZero⟩
theorem lk_RX3_121 : LkV RX3 121 yX1_addressOf cX1_addressOf 5 (some .int) 3 := ⟨⟨GT4 219 rfl rfl, cd_X1_addressOf, in_RX1, (by decide +kernel)⟩, iv_X1_addressOf, sl_X1_addressOf⟩
theorem lk_RX3_129 : LkV RX3 129 yX3_pagesHold cX3_pagesHold 6 (some .boolean) 2 := ⟨⟨GT4 228 rfl rfl, cd_X3_pagesHold, in_RX3, (by decide +kernel)⟩, iv_X3_pagesHold, sl_X3_pagesHold⟩
theorem lk_RX3_133 : LkV RX3 133 yX3_u2 cX3_u2 2 (some .int) 1 := ⟨⟨GT4 232 rfl rfl, cd_X3_u2, in_RX3, (by decide +kernel)⟩, iv_X3_u2, sl_X3_u2⟩
theorem lk_RX3_140 : LkN RX3 140 yX11_isPage cX11_isPage 1 (some .boolean) 1 RX11 := ⟨List.mem_of_getElem? (i := 6) rfl, cd_X11_isPage, in_RX11, (by decide +kernel), GT3 14 rfl rfl⟩
theorem lk_RX3_144 : LkV RX3 144 yX0_numberHolds cX0_numberHolds 4 (some .boolean) 1 := ⟨⟨GT4 237 rfl rfl, cd_X0_numberHolds, in_RX0, (by decide +kernel)⟩, iv_X0_numberHolds, sl_X0_numberHolds⟩
theorem lk_RX3_147 : LkV RX3 147 yX6_number cX6_number 7 (some .long) 2 := ⟨⟨GT4 200 rfl rfl, cd_X6_number, in_RX6, (by decide +kernel)⟩, iv_X6_number, sl_X6_number⟩
theorem lk_RX3_154 : LkN RX3 154 yX11_pagesIn cX11_pagesIn 2 (some .int) 2 RX11 := ⟨List.mem_of_getElem? (i := 7) rfl, cd_X11_pagesIn, in_RX11, (by decide +kernel), GT3 169 rfl rfl⟩
theorem lk_RX3_157 : LkV RX3 157 yX3_chainsOfHold cX3_chainsOfHold 10 (some .boolean) 2 := ⟨⟨GT5 3 rfl rfl, cd_X3_chainsOfHold, in_RX3, (by decide +kernel)⟩, iv_X3_chainsOfHold, sl_X3_chainsOfHold⟩
theorem lk_RX3_160 : LkS RX3 160 yJ9_min_7cf53 cJ9_min_7cf53 2 (some .int) 2 := ⟨⟨GT5 7 rfl rfl, cd_J9_min_7cf53, in_RJ9, (by decide +kernel)⟩, GT3 161 rfl rfl⟩
theorem lk_RX3_166 : LkV RX3 166 yX2_unless cX2_unless 4 (some .boolean) 3 := ⟨⟨GT4 205 rfl rfl, cd_X2_unless, in_RX2, (by decide +kernel)⟩, iv_X2_unless, sl_X2_unless⟩
theorem lk_RX3_172 : LkV RX3 172 yX3_chainHolds cX3_chainHolds 11 (some .boolean) 3 := ⟨⟨GT5 9 rfl rfl, cd_X3_chainHolds, in_RX3, (by decide +kernel)⟩, iv_X3_chainHolds, sl_X3_chainHolds⟩
theorem lk_RX3_176 : LkV RX3 176 yX7_pointerBits cX7_pointerBits 7 (some .long) 3 := ⟨⟨GT5 13 rfl rfl, cd_X7_pointerBits, in_RX7, (by decide +kernel)⟩, iv_X7_pointerBits, sl_X7_pointerBits⟩
theorem lk_RX3_180 : LkS RX3 180 yX9_nextOf cX9_nextOf 2 (some .int) 1 := ⟨⟨GT5 18 rfl rfl, cd_X9_nextOf, in_RX9, (by decide +kernel)⟩, GT5 19 rfl rfl⟩
theorem lk_RX3_184 : LkV RX3 184 yX3_pointerHolds cX3_pointerHolds 5 (some .boolean) 2 := ⟨⟨GT5 21 rfl rfl, cd_X3_pointerHolds, in_RX3, (by decide +kernel)⟩, iv_X3_pointerHolds, sl_X3_pointerHolds⟩
theorem lk_RX3_188 : LkV RX3 188 yX9_add cX9_add 4 none 2 := ⟨⟨GT5 31 rfl rfl, cd_X9_add, in_RX9, (by decide +kernel)⟩, iv_X9_add, sl_X9_add⟩
theorem lk_RX3_192 : LkS RX3 192 yX9_isBind cX9_isBind 2 (some .boolean) 1 := ⟨⟨GT5 25 rfl rfl, cd_X9_isBind, in_RX9, (by decide +kernel)⟩, GT5 26 rfl rfl⟩
theorem lk_RX3_202 : LkS RX3 202 yX9_subjectOf cX9_subjectOf 2 (some .long) 1 := ⟨⟨GT5 69 rfl rfl, cd_X9_subjectOf, in_RX9, (by decide +kernel)⟩, GT5 70 rfl rfl⟩
theorem lk_RX3_206 : LkS RX3 206 yX9_extraOf cX9_extraOf 2 (some .long) 1 := ⟨⟨GT5 75 rfl rfl, cd_X9_extraOf, in_RX9, (by decide +kernel)⟩, GT5 76 rfl rfl⟩
theorem lk_RX3_52 : LkV RX3 52 yX9_clear cX9_clear 1 none 0 := ⟨⟨GT4 188 rfl rfl, cd_X9_clear, in_RX9, (by decide +kernel)⟩, iv_X9_clear, sl_X9_clear⟩
theorem lk_RX3_75 : LkV RX3 75 yX3_headHolds cX3_headHolds 1 (some .boolean) 0 := ⟨⟨GT4 192 rfl rfl, cd_X3_headHolds, in_RX3, (by decide +kernel)⟩, iv_X3_headHolds, sl_X3_headHolds⟩
theorem lk_RX3_79 : LkV RX3 79 yX3_startsHold cX3_startsHold 3 (some .boolean) 0 := ⟨⟨GT4 206 rfl rfl, cd_X3_startsHold, in_RX3, (by decide +kernel)⟩, iv_X3_startsHold, sl_X3_startsHold⟩
theorem lk_RX3_82 : LkV RX3 82 yX3_importsHold cX3_importsHold 12 (some .boolean) 0 := ⟨⟨GT4 211 rfl rfl, cd_X3_importsHold, in_RX3, (by decide +kernel)⟩, iv_X3_importsHold, sl_X3_importsHold⟩
theorem lk_RX3_85 : LkV RX3 85 yX3_allPagesHold cX3_allPagesHold 5 (some .boolean) 0 := ⟨⟨GT4 223 rfl rfl, cd_X3_allPagesHold, in_RX3, (by decide +kernel)⟩, iv_X3_allPagesHold, sl_X3_allPagesHold⟩
theorem lk_RX3_88 : LkV RX3 88 yX3_allChainsHold cX3_allChainsHold 2 (some .boolean) 0 := ⟨⟨GT4 239 rfl rfl, cd_X3_allChainsHold, in_RX3, (by decide +kernel)⟩, iv_X3_allChainsHold, sl_X3_allChainsHold⟩
theorem lk_RX3_91 : LkV RX3 91 yX3_u4 cX3_u4 2 (some .long) 1 := ⟨⟨GT4 196 rfl rfl, cd_X3_u4, in_RX3, (by decide +kernel)⟩, iv_X3_u4, sl_X3_u4⟩
theorem lk_RX3_95 : LkV RX3 95 yX3_needs cX3_needs 3 (some .boolean) 2 := ⟨⟨GT4 201 rfl rfl, cd_X3_needs, in_RX3, (by decide +kernel)⟩, iv_X3_needs, sl_X3_needs⟩
theorem lk_RX4_101 : LkV RX4 101 yX6_addZeros cX6_addZeros 2 none 1 := ⟨⟨GT5 53 rfl rfl, cd_X6_addZeros, in_RX6, (by decide +kernel)⟩, iv_X6_addZeros, sl_X6_addZeros⟩
theorem lk_RX4_104 : LkV RX4 104 yX9_clear cX9_clear 1 none 0 := ⟨⟨GT5 59 rfl rfl, cd_X9_clear, in_RX9, (by decide +kernel)⟩, iv_X9_clear, sl_X9_clear⟩
theorem lk_RX4_114 : LkV RX4 114 yX9_add cX9_add 4 none 2 := ⟨⟨GT5 60 rfl rfl, cd_X9_add, in_RX9, (by decide +kernel)⟩, iv_X9_add, sl_X9_add⟩
theorem lk_RX4_117 : LkV RX4 117 yX7_placeOf cX7_placeOf 6 (some .int) 2 := ⟨⟨GT5 61 rfl rfl, cd_X7_placeOf, in_RX7, (by decide +kernel)⟩, iv_X7_placeOf, sl_X7_placeOf⟩
theorem lk_RX4_121 : LkV RX4 121 yX3_valueOf cX3_valueOf 10 (some .long) 2 := ⟨⟨GT5 65 rfl rfl, cd_X3_valueOf, in_RX3, (by decide +kernel)⟩, iv_X3_valueOf, sl_X3_valueOf⟩
theorem lk_RX4_125 : LkV RX4 125 yX6_put cX6_put 6 none 3 := ⟨⟨GT5 80 rfl rfl, cd_X6_put, in_RX6, (by decide +kernel)⟩, iv_X6_put, sl_X6_put⟩
theorem lk_RX4_129 : LkV RX4 129 yX6_reads cX6_reads 6 (some .boolean) 4 := ⟨⟨GT5 98 rfl rfl, cd_X6_reads, in_RX6, (by decide +kernel)⟩, iv_X6_reads, sl_X6_reads⟩
theorem lk_RX4_51 : LkV RX4 51 yX4_takeSegments cX4_takeSegments 5 none 3 := ⟨⟨GT5 45 rfl rfl, cd_X4_takeSegments, in_RX4, (by decide +kernel)⟩, iv_X4_takeSegments, sl_X4_takeSegments⟩
theorem lk_RX4_55 : LkV RX4 55 yX6_clear cX6_clear 1 none 0 := ⟨⟨GT5 50 rfl rfl, cd_X6_clear, in_RX6, (by decide +kernel)⟩, iv_X6_clear, sl_X6_clear⟩
theorem lk_RX4_67 : LkV RX4 67 yX6_addFrom cX6_addFrom 4 none 3 := ⟨⟨GT5 52 rfl rfl, cd_X6_addFrom, in_RX6, (by decide +kernel)⟩, iv_X6_addFrom, sl_X6_addFrom⟩
theorem lk_RX4_75 : LkV RX4 75 yX6_number cX6_number 7 (some .long) 2 := ⟨⟨GT5 54 rfl rfl, cd_X6_number, in_RX6, (by decide +kernel)⟩, iv_X6_number, sl_X6_number⟩
theorem lk_RX4_79 : LkV RX4 79 yX7_clear cX7_clear 1 none 0 := ⟨⟨GT5 49 rfl rfl, cd_X7_clear, in_RX7, (by decide +kernel)⟩, iv_X7_clear, sl_X7_clear⟩
theorem lk_RX4_94 : LkV RX4 94 yX7_add cX7_add 5 none 4 := ⟨⟨GT5 51 rfl rfl, cd_X7_add, in_RX7, (by decide +kernel)⟩, iv_X7_add, sl_X7_add⟩
theorem lk_RX5_23 : LkV RX5 23 yX6_isName cX6_isName 2 (some .boolean) 0 := ⟨⟨GT3 36 rfl rfl, cd_X6_isName, in_RX6, (by decide +kernel)⟩, iv_X6_isName, sl_X6_isName⟩
theorem lk_RX5_29 : LkV RX5 29 yX6_at cX6_at 2 (some .int) 1 := ⟨⟨GT3 44 rfl rfl, cd_X6_at, in_RX6, (by decide +kernel)⟩, iv_X6_at, sl_X6_at⟩
theorem lk_RX5_36 : LkV RX5 36 yX6_addFrom cX6_addFrom 4 none 3 := ⟨⟨GT3 198 rfl rfl, cd_X6_addFrom, in_RX6, (by decide +kernel)⟩, iv_X6_addFrom, sl_X6_addFrom⟩
theorem lk_RX5_40 : LkV RX5 40 yX6_addZeros cX6_addZeros 2 none 1 := ⟨⟨GT4 25 rfl rfl, cd_X6_addZeros, in_RX6, (by decide +kernel)⟩, iv_X6_addZeros, sl_X6_addZeros⟩
theorem lk_RX6_19 : LkV RX6 19 yX6_has cX6_has 2 (some .boolean) 1 := ⟨⟨GT2 236 rfl rfl, cd_X6_has, in_RX6, (by decide +kernel)⟩, iv_X6_has, sl_X6_has⟩
theorem lk_RX6_23 : LkV RX6 23 yX6_put cX6_put 6 none 3 := ⟨⟨GT2 232 rfl rfl, cd_X6_put, in_RX6, (by decide +kernel)⟩, iv_X6_put, sl_X6_put⟩
theorem lk_RX6_27 : LkS RX6 27 yJ7_fill_eb02e cJ7_fill_eb02e 5 none 4 := ⟨⟨GT3 217 rfl rfl, cd_J7_fill_eb02e, in_RJ7, (by decide +kernel)⟩, GT3 49 rfl rfl⟩
theorem lk_RX6_39 : LkN RX6 39 yX11_filledUp cX11_filledUp 2 (some .int) 2 RX11 := ⟨List.mem_of_getElem? (i := 4) rfl, cd_X11_filledUp, in_RX11, (by decide +kernel), GT3 150 rfl rfl⟩
theorem lk_RX6_43 : LkV RX6 43 yX6_addZeros cX6_addZeros 2 none 1 := ⟨⟨GT3 235 rfl rfl, cd_X6_addZeros, in_RX6, (by decide +kernel)⟩, iv_X6_addZeros, sl_X6_addZeros⟩
theorem lk_RX6_47 : LkV RX6 47 yX6_at cX6_at 2 (some .int) 1 := ⟨⟨GT4 68 rfl rfl, cd_X6_at, in_RX6, (by decide +kernel)⟩, iv_X6_at, sl_X6_at⟩
theorem lk_RX7_28 : LkS RX7 28 yJ9_min_f86c9 cJ9_min_f86c9 4 (some .long) 2 := ⟨⟨GT4 148 rfl rfl, cd_J9_min_f86c9, in_RJ9, (by decide +kernel)⟩, GT4 149 rfl rfl⟩
theorem lk_RX7_34 : LkS RX7 34 yJ9_max_f86c9 cJ9_max_f86c9 4 (some .long) 2 := ⟨⟨GT4 151 rfl rfl, cd_J9_max_f86c9, in_RJ9, (by decide +kernel)⟩, GT4 152 rfl rfl⟩
theorem lk_RX7_39 : LkV RX7 39 yX6_at cX6_at 2 (some .int) 1 := ⟨⟨GT5 17 rfl rfl, cd_X6_at, in_RX6, (by decide +kernel)⟩, iv_X6_at, sl_X6_at⟩
theorem lk_RX8_115 : LkN RX8 115 yX11_isLibrary cX11_isLibrary 1 (some .boolean) 1 RX11 := ⟨List.mem_of_getElem? (i := 0) rfl, cd_X11_isLibrary, in_RX11, (by decide +kernel), GT3 98 rfl rfl⟩
theorem lk_RX8_118 : LkV RX8 118 yX8_hasRoom cX8_hasRoom 3 (some .boolean) 2 := ⟨⟨GT3 112 rfl rfl, cd_X8_hasRoom, in_RX8, (by decide +kernel)⟩, iv_X8_hasRoom, sl_X8_hasRoom⟩
theorem lk_RX8_122 : LkV RX8 122 yX8_hasPointer cX8_hasPointer 3 (some .boolean) 2 := ⟨⟨GT3 116 rfl rfl, cd_X8_hasPointer, in_RX8, (by decide +kernel)⟩, iv_X8_hasPointer, sl_X8_hasPointer⟩
theorem lk_RX8_125 : LkS RX8 125 yX8_slot cX8_slot 2 (some .int) 2 := ⟨⟨GT3 120 rfl rfl, cd_X8_slot, in_RX8, (by decide +kernel)⟩, GT3 121 rfl rfl⟩
theorem lk_RX8_129 : LkS RX8 129 yJ9_min_7cf53 cJ9_min_7cf53 2 (some .int) 2 := ⟨⟨GT3 160 rfl rfl, cd_J9_min_7cf53, in_RJ9, (by decide +kernel)⟩, GT3 161 rfl rfl⟩
theorem lk_RX8_134 : LkN RX8 134 yX11_filledUp cX11_filledUp 2 (some .int) 2 RX11 := ⟨List.mem_of_getElem? (i := 2) rfl, cd_X11_filledUp, in_RX11, (by decide +kernel), GT3 150 rfl rfl⟩
theorem lk_RX8_137 : LkV RX8 137 yX8_spanOf cX8_spanOf 2 (some .int) 1 := ⟨⟨GT3 207 rfl rfl, cd_X8_spanOf, in_RX8, (by decide +kernel)⟩, iv_X8_spanOf, sl_X8_spanOf⟩
theorem lk_RX8_80 : LkV RX8 80 yX5_clear cX5_clear 1 none 0 := ⟨⟨GT3 20 rfl rfl, cd_X5_clear, in_RX5, (by decide +kernel)⟩, iv_X5_clear, sl_X5_clear⟩
theorem lk_RX8_83 : LkV RX8 83 yX5_takes cX5_takes 2 (some .boolean) 1 := ⟨⟨GT3 32 rfl rfl, cd_X5_takes, in_RX5, (by decide +kernel)⟩, iv_X5_takes, sl_X5_takes⟩
theorem lk_RX8_87 : LkV RX8 87 yX5_add cX5_add 4 (some .int) 1 := ⟨⟨GT3 40 rfl rfl, cd_X5_add, in_RX5, (by decide +kernel)⟩, iv_X5_add, sl_X5_add⟩
theorem lk_RX8_91 : LkS RX8 91 yJ7_fill_eb02e cJ7_fill_eb02e 5 none 4 := ⟨⟨GT3 48 rfl rfl, cd_J7_fill_eb02e, in_RJ7, (by decide +kernel)⟩, GT3 49 rfl rfl⟩
theorem lk_RX8_97 : LkV RX8 97 yX5_has cX5_has 2 (some .boolean) 1 := ⟨⟨GT3 66 rfl rfl, cd_X5_has, in_RX5, (by decide +kernel)⟩, iv_X5_has, sl_X5_has⟩
theorem lk_RX9_23 : LkS RX9 23 yX9_isBind cX9_isBind 2 (some .boolean) 1 := ⟨⟨GT5 72 rfl rfl, cd_X9_isBind, in_RX9, (by decide +kernel)⟩, GT5 26 rfl rfl⟩
theorem lk_RX10_101 : LkV RX10 101 yX8_firstPointer cX8_firstPointer 6 (some .int) 3 := ⟨⟨GT3 156 rfl rfl, cd_X8_firstPointer, in_RX8, (by decide +kernel)⟩, iv_X8_firstPointer, sl_X8_firstPointer⟩
theorem lk_RX10_105 : LkV RX10 105 yX8_spanOf cX8_spanOf 2 (some .int) 1 := ⟨⟨GT3 163 rfl rfl, cd_X8_spanOf, in_RX8, (by decide +kernel)⟩, iv_X8_spanOf, sl_X8_spanOf⟩
theorem lk_RX10_112 : LkN RX10 112 yX11_pagesIn cX11_pagesIn 2 (some .int) 2 RX11 := ⟨List.mem_of_getElem? (i := 3) rfl, cd_X11_pagesIn, in_RX11, (by decide +kernel), GT3 169 rfl rfl⟩
theorem lk_RX10_124 : LkV RX10 124 yX5_bytesWithZeros cX5_bytesWithZeros 3 (some .int) 0 := ⟨⟨GT3 171 rfl rfl, cd_X5_bytesWithZeros, in_RX5, (by decide +kernel)⟩, iv_X5_bytesWithZeros, sl_X5_bytesWithZeros⟩
theorem lk_RX10_130 : LkV RX10 130 yX6_add cX6_add 4 none 2 := ⟨⟨GT3 181 rfl rfl, cd_X6_add, in_RX6, (by decide +kernel)⟩, iv_X6_add, sl_X6_add⟩
theorem lk_RX10_140 : LkV RX10 140 yX8_sectionsOf cX8_sectionsOf 4 (some .int) 1 := ⟨⟨GT3 189 rfl rfl, cd_X8_sectionsOf, in_RX8, (by decide +kernel)⟩, iv_X8_sectionsOf, sl_X8_sectionsOf⟩
theorem lk_RX10_145 : LkV RX10 145 yX5_addFilledTo cX5_addFilledTo 3 none 2 := ⟨⟨GT3 194 rfl rfl, cd_X5_addFilledTo, in_RX5, (by decide +kernel)⟩, iv_X5_addFilledTo, sl_X5_addFilledTo⟩
theorem lk_RX10_149 : LkV RX10 149 yX8_addressOf cX8_addressOf 4 (some .int) 1 := ⟨⟨GT3 203 rfl rfl, cd_X8_addressOf, in_RX8, (by decide +kernel)⟩, iv_X8_addressOf, sl_X8_addressOf⟩
theorem lk_RX10_166 : LkV RX10 166 yX6_addZeros cX6_addZeros 2 none 1 := ⟨⟨GT3 213 rfl rfl, cd_X6_addZeros, in_RX6, (by decide +kernel)⟩, iv_X6_addZeros, sl_X6_addZeros⟩
theorem lk_RX10_177 : LkV RX10 177 yX6_fillUp cX6_fillUp 2 none 1 := ⟨⟨GT3 230 rfl rfl, cd_X6_fillUp, in_RX6, (by decide +kernel)⟩, iv_X6_fillUp, sl_X6_fillUp⟩
theorem lk_RX10_184 : LkV RX10 184 yX6_addFrom cX6_addFrom 4 none 3 := ⟨⟨GT3 236 rfl rfl, cd_X6_addFrom, in_RX6, (by decide +kernel)⟩, iv_X6_addFrom, sl_X6_addFrom⟩
theorem lk_RX10_188 : LkV RX10 188 yX8_hasPointer cX8_hasPointer 3 (some .boolean) 2 := ⟨⟨GT3 237 rfl rfl, cd_X8_hasPointer, in_RX8, (by decide +kernel)⟩, iv_X8_hasPointer, sl_X8_hasPointer⟩
theorem lk_RX10_192 : LkV RX10 192 yX10_threaded cX10_threaded 7 (some .long) 2 := ⟨⟨GT3 238 rfl rfl, cd_X10_threaded, in_RX10, (by decide +kernel)⟩, iv_X10_threaded, sl_X10_threaded⟩
theorem lk_RX10_196 : LkV RX10 196 yX6_put cX6_put 6 none 3 := ⟨⟨GT4 6 rfl rfl, cd_X6_put, in_RX6, (by decide +kernel)⟩, iv_X6_put, sl_X6_put⟩
theorem lk_RX10_200 : LkV RX10 200 yX8_bitsAt cX8_bitsAt 3 (some .long) 2 := ⟨⟨GT4 2 rfl rfl, cd_X8_bitsAt, in_RX8, (by decide +kernel)⟩, iv_X8_bitsAt, sl_X8_bitsAt⟩
theorem lk_RX10_205 : LkV RX10 205 yX10_addPages cX10_addPages 6 none 1 := ⟨⟨GT4 12 rfl rfl, cd_X10_addPages, in_RX10, (by decide +kernel)⟩, iv_X10_addPages, sl_X10_addPages⟩
theorem lk_RX10_208 : LkV RX10 208 yX10_addImports cX10_addImports 4 none 0 := ⟨⟨GT4 17 rfl rfl, cd_X10_addImports, in_RX10, (by decide +kernel)⟩, iv_X10_addImports, sl_X10_addImports⟩
theorem lk_RX10_211 : LkV RX10 211 yX5_addAllTo cX5_addAllTo 3 none 1 := ⟨⟨GT4 21 rfl rfl, cd_X5_addAllTo, in_RX5, (by decide +kernel)⟩, iv_X5_addAllTo, sl_X5_addAllTo⟩
theorem lk_RX10_26 : LkV RX10 26 yX10_layOut cX10_layOut 3 none 0 := ⟨⟨GT3 145 rfl rfl, cd_X10_layOut, in_RX10, (by decide +kernel)⟩, iv_X10_layOut, sl_X10_layOut⟩
theorem lk_RX10_29 : LkV RX10 29 yX10_layOutFixups cX10_layOutFixups 3 none 0 := ⟨⟨GT3 152 rfl rfl, cd_X10_layOutFixups, in_RX10, (by decide +kernel)⟩, iv_X10_layOutFixups, sl_X10_layOutFixups⟩
theorem lk_RX10_39 : LkN RX10 39 yX11_filledUp cX11_filledUp 2 (some .int) 2 RX11 := ⟨List.mem_of_getElem? (i := 1) rfl, cd_X11_filledUp, in_RX11, (by decide +kernel), GT3 150 rfl rfl⟩
theorem lk_RX10_59 : LkV RX10 59 yX6_clear cX6_clear 1 none 0 := ⟨⟨GT3 175 rfl rfl, cd_X6_clear, in_RX6, (by decide +kernel)⟩, iv_X6_clear, sl_X6_clear⟩
theorem lk_RX10_64 : LkV RX10 64 yX10_addHead cX10_addHead 1 none 0 := ⟨⟨GT3 176 rfl rfl, cd_X10_addHead, in_RX10, (by decide +kernel)⟩, iv_X10_addHead, sl_X10_addHead⟩
theorem lk_RX10_70 : LkV RX10 70 yX10_addSegmentCommand cX10_addSegmentCommand 3 none 1 := ⟨⟨GT3 185 rfl rfl, cd_X10_addSegmentCommand, in_RX10, (by decide +kernel)⟩, iv_X10_addSegmentCommand, sl_X10_addSegmentCommand⟩
theorem lk_RX10_74 : LkV RX10 74 yX10_addSectionsOf cX10_addSectionsOf 3 none 1 := ⟨⟨GT3 209 rfl rfl, cd_X10_addSectionsOf, in_RX10, (by decide +kernel)⟩, iv_X10_addSectionsOf, sl_X10_addSectionsOf⟩
theorem lk_RX10_77 : LkV RX10 77 yX10_addTableCommands cX10_addTableCommands 1 none 0 := ⟨⟨GT3 218 rfl rfl, cd_X10_addTableCommands, in_RX10, (by decide +kernel)⟩, iv_X10_addTableCommands, sl_X10_addTableCommands⟩
theorem lk_RX10_80 : LkV RX10 80 yX10_addContents cX10_addContents 3 none 1 := ⟨⟨GT3 226 rfl rfl, cd_X10_addContents, in_RX10, (by decide +kernel)⟩, iv_X10_addContents, sl_X10_addContents⟩
theorem lk_RX10_83 : LkV RX10 83 yX10_addFixups cX10_addFixups 2 none 0 := ⟨⟨GT4 7 rfl rfl, cd_X10_addFixups, in_RX10, (by decide +kernel)⟩, iv_X10_addFixups, sl_X10_addFixups⟩
theorem lk_RX10_86 : LkV RX10 86 yX10_addSymbols cX10_addSymbols 5 none 0 := ⟨⟨GT4 26 rfl rfl, cd_X10_addSymbols, in_RX10, (by decide +kernel)⟩, iv_X10_addSymbols, sl_X10_addSymbols⟩
theorem lk_RX10_89 : LkV RX10 89 yX10_addStrings cX10_addStrings 1 none 0 := ⟨⟨GT4 31 rfl rfl, cd_X10_addStrings, in_RX10, (by decide +kernel)⟩, iv_X10_addStrings, sl_X10_addStrings⟩
theorem lk_RX11_103 : LkV RX11 103 yX6_clear cX6_clear 1 none 0 := ⟨⟨GT3 54 rfl rfl, cd_X6_clear, in_RX6, (by decide +kernel)⟩, iv_X6_clear, sl_X6_clear⟩
theorem lk_RX11_106 : LkV RX11 106 yX8_setContents cX8_setContents 4 (some .boolean) 3 := ⟨⟨GT3 62 rfl rfl, cd_X8_setContents, in_RX8, (by decide +kernel)⟩, iv_X8_setContents, sl_X8_setContents⟩
theorem lk_RX11_110 : LkV RX11 110 yX8_addSection cX8_addSection 6 (some .int) 4 := ⟨⟨GT3 77 rfl rfl, cd_X8_addSection, in_RX8, (by decide +kernel)⟩, iv_X8_addSection, sl_X8_addSection⟩
theorem lk_RX11_114 : LkV RX11 114 yX8_addSymbol cX8_addSymbol 5 (some .int) 3 := ⟨⟨GT3 85 rfl rfl, cd_X8_addSymbol, in_RX8, (by decide +kernel)⟩, iv_X8_addSymbol, sl_X8_addSymbol⟩
theorem lk_RX11_117 : LkV RX11 117 yX8_addImport cX8_addImport 5 (some .int) 3 := ⟨⟨GT3 93 rfl rfl, cd_X8_addImport, in_RX8, (by decide +kernel)⟩, iv_X8_addImport, sl_X8_addImport⟩
theorem lk_RX11_123 : LkS RX11 123 yX11_isByte cX11_isByte 1 (some .boolean) 1 := ⟨⟨GT3 105 rfl rfl, cd_X11_isByte, in_RX11, (by decide +kernel)⟩, GT3 106 rfl rfl⟩
theorem lk_RX11_126 : LkV RX11 126 yX8_setPointer cX8_setPointer 5 (some .boolean) 3 := ⟨⟨GT3 108 rfl rfl, cd_X8_setPointer, in_RX8, (by decide +kernel)⟩, iv_X8_setPointer, sl_X8_setPointer⟩
theorem lk_RX11_134 : LkV RX11 134 yX5_has cX5_has 2 (some .boolean) 1 := ⟨⟨GT3 127 rfl rfl, cd_X5_has, in_RX5, (by decide +kernel)⟩, iv_X5_has, sl_X5_has⟩
theorem lk_RX11_141 : LkV RX11 141 yX8_removePointer cX8_removePointer 3 (some .boolean) 2 := ⟨⟨GT3 133 rfl rfl, cd_X8_removePointer, in_RX8, (by decide +kernel)⟩, iv_X8_removePointer, sl_X8_removePointer⟩
theorem lk_RX11_145 : LkV RX11 145 yX10_writeAll cX10_writeAll 2 none 0 := ⟨⟨GT3 141 rfl rfl, cd_X10_writeAll, in_RX10, (by decide +kernel)⟩, iv_X10_writeAll, sl_X10_writeAll⟩
theorem lk_RX11_148 : LkV RX11 148 yX6_has cX6_has 2 (some .boolean) 1 := ⟨⟨GT4 39 rfl rfl, cd_X6_has, in_RX6, (by decide +kernel)⟩, iv_X6_has, sl_X6_has⟩
theorem lk_RX11_149 : LkV RX11 149 yX6_at cX6_at 2 (some .int) 1 := ⟨⟨GT4 40 rfl rfl, cd_X6_at, in_RX6, (by decide +kernel)⟩, iv_X6_at, sl_X6_at⟩
theorem lk_RX11_153 : LkV RX11 153 yX6_put cX6_put 6 none 3 := ⟨⟨GT4 45 rfl rfl, cd_X6_put, in_RX6, (by decide +kernel)⟩, iv_X6_put, sl_X6_put⟩
theorem lk_RX11_157 : LkV RX11 157 yX1_put cX1_put 5 (some .boolean) 3 := ⟨⟨GT4 54 rfl rfl, cd_X1_put, in_RX1, (by decide +kernel)⟩, iv_X1_put, sl_X1_put⟩
theorem lk_RX11_159 : LkV RX11 159 yX2_clear cX2_clear 1 none 0 := ⟨⟨GT4 74 rfl rfl, cd_X2_clear, in_RX2, (by decide +kernel)⟩, iv_X2_clear, sl_X2_clear⟩
theorem lk_RX11_160 : LkV RX11 160 yX0_hold cX0_hold 1 (some .boolean) 0 := ⟨⟨GT4 75 rfl rfl, cd_X0_hold, in_RX0, (by decide +kernel)⟩, iv_X0_hold, sl_X0_hold⟩
theorem lk_RX11_164 : LkV RX11 164 yX3_hold cX3_hold 1 (some .boolean) 0 := ⟨⟨GT4 184 rfl rfl, cd_X3_hold, in_RX3, (by decide +kernel)⟩, iv_X3_hold, sl_X3_hold⟩
theorem lk_RX11_169 : LkV RX11 169 yX7_fitWith cX7_fitWith 5 (some .boolean) 1 := ⟨⟨GT5 35 rfl rfl, cd_X7_fitWith, in_RX7, (by decide +kernel)⟩, iv_X7_fitWith, sl_X7_fitWith⟩
theorem lk_RX11_174 : LkV RX11 174 yX2_unless cX2_unless 4 (some .boolean) 3 := ⟨⟨GT5 40 rfl rfl, cd_X2_unless, in_RX2, (by decide +kernel)⟩, iv_X2_unless, sl_X2_unless⟩
theorem lk_RX11_178 : LkV RX11 178 yX4_take cX4_take 6 none 3 := ⟨⟨GT5 41 rfl rfl, cd_X4_take, in_RX4, (by decide +kernel)⟩, iv_X4_take, sl_X4_take⟩
theorem lk_RX11_182 : LkV RX11 182 yX4_setPointers cX4_setPointers 8 none 2 := ⟨⟨GT5 55 rfl rfl, cd_X4_setPointers, in_RX4, (by decide +kernel)⟩, iv_X4_setPointers, sl_X4_setPointers⟩
theorem lk_RX11_193 : LkV RX11 193 yX7_placeOf cX7_placeOf 6 (some .int) 2 := ⟨⟨GT5 89 rfl rfl, cd_X7_placeOf, in_RX7, (by decide +kernel)⟩, iv_X7_placeOf, sl_X7_placeOf⟩
theorem lk_RX11_233 : LkV RX11 233 yX4_symbolAddress cX4_symbolAddress 3 (some .int) 1 := ⟨⟨GT5 94 rfl rfl, cd_X4_symbolAddress, in_RX4, (by decide +kernel)⟩, iv_X4_symbolAddress, sl_X4_symbolAddress⟩
theorem lk_RX11_80 : LkV RX11 80 yX11_feedNumber cX11_feedNumber 3 none 1 := ⟨⟨GT2 224 rfl rfl, cd_X11_feedNumber, in_RX11, (by decide +kernel)⟩, iv_X11_feedNumber, sl_X11_feedNumber⟩
theorem lk_RX11_83 : LkV RX11 83 yX6_add cX6_add 4 none 2 := ⟨⟨GT2 228 rfl rfl, cd_X6_add, in_RX6, (by decide +kernel)⟩, iv_X6_add, sl_X6_add⟩
theorem lk_RX11_87 : LkV RX11 87 yX6_shorten cX6_shorten 2 (some .boolean) 1 := ⟨⟨GT3 4 rfl rfl, cd_X6_shorten, in_RX6, (by decide +kernel)⟩, iv_X6_shorten, sl_X6_shorten⟩
theorem lk_RX11_92 : LkS RX11 92 yX11_isPage cX11_isPage 1 (some .boolean) 1 := ⟨⟨GT3 13 rfl rfl, cd_X11_isPage, in_RX11, (by decide +kernel)⟩, GT3 14 rfl rfl⟩
theorem lk_RX11_95 : LkV RX11 95 yX8_forget cX8_forget 4 none 2 := ⟨⟨GT3 16 rfl rfl, cd_X8_forget, in_RX8, (by decide +kernel)⟩, iv_X8_forget, sl_X8_forget⟩
theorem lk_RX11_99 : LkV RX11 99 yX8_addSegment cX8_addSegment 5 (some .int) 3 := ⟨⟨GT3 28 rfl rfl, cd_X8_addSegment, in_RX8, (by decide +kernel)⟩, iv_X8_addSegment, sl_X8_addSegment⟩
theorem lk_RX12_155 : LkV RX12 155 yX12_come cX12_come 3 none 1 := ⟨⟨GT6 198 rfl rfl, cd_X12_come, in_RX12, (by decide +kernel)⟩, iv_X12_come, sl_X12_come⟩
theorem lk_RX12_170 : LkS RX12 170 yX12_isPage cX12_isPage 2 (some .boolean) 1 := ⟨⟨GT6 211 rfl rfl, cd_X12_isPage, in_RX12, (by decide +kernel)⟩, GT6 212 rfl rfl⟩
theorem lk_RX12_189 : LkV RX12 189 yX12_takes cX12_takes 5 (some .boolean) 1 := ⟨⟨GT6 223 rfl rfl, cd_X12_takes, in_RX12, (by decide +kernel)⟩, iv_X12_takes, sl_X12_takes⟩
theorem lk_RX12_193 : LkV RX12 193 yX12_isSegment cX12_isSegment 2 (some .boolean) 1 := ⟨⟨GT6 231 rfl rfl, cd_X12_isSegment, in_RX12, (by decide +kernel)⟩, iv_X12_isSegment, sl_X12_isSegment⟩
theorem lk_RX12_196 : LkV RX12 196 yX12_move cX12_move 3 none 2 := ⟨⟨GT7 24 rfl rfl, cd_X12_move, in_RX12, (by decide +kernel)⟩, iv_X12_move, sl_X12_move⟩
theorem lk_RX12_200 : LkV RX12 200 yX12_pointerAtPlace cX12_pointerAtPlace 4 (some .int) 2 := ⟨⟨GT7 16 rfl rfl, cd_X12_pointerAtPlace, in_RX12, (by decide +kernel)⟩, iv_X12_pointerAtPlace, sl_X12_pointerAtPlace⟩
theorem lk_RX12_204 : LkV RX12 204 yX12_gone cX12_gone 3 none 1 := ⟨⟨GT7 20 rfl rfl, cd_X12_gone, in_RX12, (by decide +kernel)⟩, iv_X12_gone, sl_X12_gone⟩
theorem lk_RX12_209 : LkV RX12 209 yX12_points cX12_points 9 (some .boolean) 5 := ⟨⟨GT7 12 rfl rfl, cd_X12_points, in_RX12, (by decide +kernel)⟩, iv_X12_points, sl_X12_points⟩
theorem lk_RX12_216 : LkV RX12 216 yX12_put cX12_put 5 none 2 := ⟨⟨GT7 48 rfl rfl, cd_X12_put, in_RX12, (by decide +kernel)⟩, iv_X12_put, sl_X12_put⟩
theorem lk_RX12_220 : LkV RX12 220 yX12_spanOf cX12_spanOf 2 (some .int) 1 := ⟨⟨GT7 60 rfl rfl, cd_X12_spanOf, in_RX12, (by decide +kernel)⟩, iv_X12_spanOf, sl_X12_spanOf⟩
theorem lk_RX12_224 : LkV RX12 224 yX12_sectionsOf cX12_sectionsOf 4 (some .int) 1 := ⟨⟨GT7 40 rfl rfl, cd_X12_sectionsOf, in_RX12, (by decide +kernel)⟩, iv_X12_sectionsOf, sl_X12_sectionsOf⟩
theorem lk_RX12_227 : LkV RX12 227 yX12_even cX12_even 2 none 1 := ⟨⟨GT7 44 rfl rfl, cd_X12_even, in_RX12, (by decide +kernel)⟩, iv_X12_even, sl_X12_even⟩
theorem lk_RX12_230 : LkV RX12 230 yX12_writeFixups cX12_writeFixups 7 none 0 := ⟨⟨GT7 52 rfl rfl, cd_X12_writeFixups, in_RX12, (by decide +kernel)⟩, iv_X12_writeFixups, sl_X12_writeFixups⟩
theorem lk_RX12_238 : LkV RX12 238 yX12_addressOf cX12_addressOf 4 (some .int) 1 := ⟨⟨GT7 65 rfl rfl, cd_X12_addressOf, in_RX12, (by decide +kernel)⟩, iv_X12_addressOf, sl_X12_addressOf⟩
theorem lk_RX12_241 : LkV RX12 241 yX12_longOf cX12_longOf 3 (some .int) 1 := ⟨⟨GT7 70 rfl rfl, cd_X12_longOf, in_RX12, (by decide +kernel)⟩, iv_X12_longOf, sl_X12_longOf⟩
theorem lk_RX12_247 : LkV RX12 247 yX12_putName cX12_putName 4 none 2 := ⟨⟨GT7 74 rfl rfl, cd_X12_putName, in_RX12, (by decide +kernel)⟩, iv_X12_putName, sl_X12_putName⟩
theorem lk_RX12_256 : LkV RX12 256 yX12_writePointers cX12_writePointers 5 none 0 := ⟨⟨GT7 84 rfl rfl, cd_X12_writePointers, in_RX12, (by decide +kernel)⟩, iv_X12_writePointers, sl_X12_writePointers⟩
theorem lk_RX12_259 : LkV RX12 259 yX12_writeCommands cX12_writeCommands 6 none 1 := ⟨⟨GT7 89 rfl rfl, cd_X12_writeCommands, in_RX12, (by decide +kernel)⟩, iv_X12_writeCommands, sl_X12_writeCommands⟩
theorem lk_RX12_267 : LkV RX12 267 yX12_hasPointers cX12_hasPointers 3 (some .boolean) 1 := ⟨⟨GT7 56 rfl rfl, cd_X12_hasPointers, in_RX12, (by decide +kernel)⟩, iv_X12_hasPointers, sl_X12_hasPointers⟩
theorem lk_RX12_278 : LkV RX12 278 yX12_putFours cX12_putFours 9 none 4 := ⟨⟨GT7 79 rfl rfl, cd_X12_putFours, in_RX12, (by decide +kernel)⟩, iv_X12_putFours, sl_X12_putFours⟩
theorem lk_RX12_303 : LkV RX12 303 yX12_isTaped cX12_isTaped 4 (some .boolean) 2 := ⟨⟨GT7 118 rfl rfl, cd_X12_isTaped, in_RX12, (by decide +kernel)⟩, iv_X12_isTaped, sl_X12_isTaped⟩
theorem lk_RX12_307 : LkV RX12 307 yX12_four cX12_four 4 (some .long) 1 := ⟨⟨GT7 134 rfl rfl, cd_X12_four, in_RX12, (by decide +kernel)⟩, iv_X12_four, sl_X12_four⟩
theorem lk_RX12_316 : LkV RX12 316 yX12_eight cX12_eight 3 (some .long) 1 := ⟨⟨GT7 153 rfl rfl, cd_X12_eight, in_RX12, (by decide +kernel)⟩, iv_X12_eight, sl_X12_eight⟩
theorem lk_RX12_321 : LkV RX12 321 yX12_bad cX12_bad 4 (some .boolean) 2 := ⟨⟨GT7 130 rfl rfl, cd_X12_bad, in_RX12, (by decide +kernel)⟩, iv_X12_bad, sl_X12_bad⟩
theorem lk_RX12_325 : LkV RX12 325 yX12_reads cX12_reads 13 (some .boolean) 0 := ⟨⟨GT7 126 rfl rfl, cd_X12_reads, in_RX12, (by decide +kernel)⟩, iv_X12_reads, sl_X12_reads⟩
theorem lk_RX12_329 : LkV RX12 329 yX12_readsSymbols cX12_readsSymbols 3 (some .boolean) 0 := ⟨⟨GT7 171 rfl rfl, cd_X12_readsSymbols, in_RX12, (by decide +kernel)⟩, iv_X12_readsSymbols, sl_X12_readsSymbols⟩
theorem lk_RX12_332 : LkV RX12 332 yX12_readsFixups cX12_readsFixups 10 (some .boolean) 1 := ⟨⟨GT7 180 rfl rfl, cd_X12_readsFixups, in_RX12, (by decide +kernel)⟩, iv_X12_readsFixups, sl_X12_readsFixups⟩
theorem lk_RX12_335 : LkV RX12 335 yX12_fits cX12_fits 3 (some .boolean) 1 := ⟨⟨GT7 221 rfl rfl, cd_X12_fits, in_RX12, (by decide +kernel)⟩, iv_X12_fits, sl_X12_fits⟩
theorem lk_RX12_338 : LkV RX12 338 yX12_keeps cX12_keeps 10 none 1 := ⟨⟨GT7 225 rfl rfl, cd_X12_keeps, in_RX12, (by decide +kernel)⟩, iv_X12_keeps, sl_X12_keeps⟩
theorem lk_RX12_363 : LkV RX12 363 yX12_readSegment cX12_readSegment 13 (some .boolean) 2 := ⟨⟨GT7 142 rfl rfl, cd_X12_readSegment, in_RX12, (by decide +kernel)⟩, iv_X12_readSegment, sl_X12_readSegment⟩
theorem lk_RX12_367 : LkV RX12 367 yX12_readTable cX12_readTable 5 (some .boolean) 2 := ⟨⟨GT7 161 rfl rfl, cd_X12_readTable, in_RX12, (by decide +kernel)⟩, iv_X12_readTable, sl_X12_readTable⟩
theorem lk_RX12_370 : LkV RX12 370 yX12_readChains cX12_readChains 5 (some .boolean) 2 := ⟨⟨GT7 166 rfl rfl, cd_X12_readChains, in_RX12, (by decide +kernel)⟩, iv_X12_readChains, sl_X12_readChains⟩
theorem lk_RX12_381 : LkV RX12 381 yX12_isNumber cX12_isNumber 5 (some .boolean) 1 := ⟨⟨GT7 149 rfl rfl, cd_X12_isNumber, in_RX12, (by decide +kernel)⟩, iv_X12_isNumber, sl_X12_isNumber⟩
theorem lk_RX12_410 : LkV RX12 410 yX12_zero cX12_zero 7 (some .long) 2 := ⟨⟨GT7 175 rfl rfl, cd_X12_zero, in_RX12, (by decide +kernel)⟩, iv_X12_zero, sl_X12_zero⟩
theorem lk_RX12_428 : LkV RX12 428 yX12_readsPages cX12_readsPages 9 (some .boolean) 3 := ⟨⟨GT7 184 rfl rfl, cd_X12_readsPages, in_RX12, (by decide +kernel)⟩, iv_X12_readsPages, sl_X12_readsPages⟩
theorem lk_RX12_432 : LkV RX12 432 yX12_two cX12_two 3 (some .int) 1 := ⟨⟨GT7 189 rfl rfl, cd_X12_two, in_RX12, (by decide +kernel)⟩, iv_X12_two, sl_X12_two⟩
theorem lk_RX12_438 : LkV RX12 438 yX12_walks cX12_walks 16 (some .boolean) 4 := ⟨⟨GT7 193 rfl rfl, cd_X12_walks, in_RX12, (by decide +kernel)⟩, iv_X12_walks, sl_X12_walks⟩
theorem lk_RX12_442 : LkV RX12 442 yX12_isWithin cX12_isWithin 5 (some .boolean) 4 := ⟨⟨GT7 197 rfl rfl, cd_X12_isWithin, in_RX12, (by decide +kernel)⟩, iv_X12_isWithin, sl_X12_isWithin⟩
theorem lk_RX12_446 : LkV RX12 446 yX12_wordOf cX12_wordOf 7 (some .long) 2 := ⟨⟨GT7 201 rfl rfl, cd_X12_wordOf, in_RX12, (by decide +kernel)⟩, iv_X12_wordOf, sl_X12_wordOf⟩
theorem lk_RX12_456 : LkV RX12 456 yX12_isWeakImport cX12_isWeakImport 3 (some .boolean) 1 := ⟨⟨GT7 208 rfl rfl, cd_X12_isWeakImport, in_RX12, (by decide +kernel)⟩, iv_X12_isWeakImport, sl_X12_isWeakImport⟩
theorem lk_RX12_459 : LkV RX12 459 yX12_exportFor cX12_exportFor 12 (some .int) 1 := ⟨⟨GT7 216 rfl rfl, cd_X12_exportFor, in_RX12, (by decide +kernel)⟩, iv_X12_exportFor, sl_X12_exportFor⟩
theorem lk_RX12_462 : LkV RX12 462 yX12_importOf cX12_importOf 3 (some .long) 1 := ⟨⟨GT7 212 rfl rfl, cd_X12_importOf, in_RX12, (by decide +kernel)⟩, iv_X12_importOf, sl_X12_importOf⟩
theorem lk_RX12_480 : LkV RX12 480 yX12_holds cX12_holds 5 (some .int) 2 := ⟨⟨GT7 239 rfl rfl, cd_X12_holds, in_RX12, (by decide +kernel)⟩, iv_X12_holds, sl_X12_holds⟩
theorem lk_RX12_484 : LkV RX12 484 yX12_byteAt cX12_byteAt 4 (some .int) 2 := ⟨⟨GT8 3 rfl rfl, cd_X12_byteAt, in_RX12, (by decide +kernel)⟩, iv_X12_byteAt, sl_X12_byteAt⟩
theorem lk_RJ7_13 : LkS RJ7 13 yJ7_rangeCheck_23922 cJ7_rangeCheck_23922 3 none 3 := ⟨⟨GT3 51 rfl rfl, cd_J7_rangeCheck_23922, in_RJ7, (by decide +kernel)⟩, GT3 52 rfl rfl⟩
theorem rv_RowS {k n : Nat} (hk : RowS k n) : Recv RX6 k := ⟨6, TX6, 2, _, rfl, hk.1⟩
theorem rv_NamesS {k b n : Nat} (hk : NamesS k b n) : Recv RX5 k := ⟨5, TX5, 3, _, rfl, hk.1⟩
theorem rv_SegsS {k : Nat} (hk : SegsS k) : Recv RX7 k := ⟨7, TX7, 5, _, rfl, hk.1⟩
theorem rv_VisS {k : Nat} (hk : VisS k) : Recv RX9 k := ⟨9, TX9, 3, _, rfl, hk.1⟩
theorem rv_0 : Recv RX11 0 := ⟨11, TX11, 9, _, rfl, sh_0⟩
theorem rv_5 : Recv RX8 5 := ⟨8, TX8, 19, _, rfl, sh_5⟩
theorem rv_30 : Recv RX10 30 := ⟨10, TX10, 11, _, rfl, sh_30⟩
theorem rv_33 : Recv RX1 33 := ⟨1, TX1, 3, _, rfl, sh_33⟩
theorem rv_39 : Recv RX2 39 := ⟨2, TX2, 2, _, rfl, sh_39⟩
theorem rv_40 : Recv RX0 40 := ⟨0, TX0, 12, _, rfl, sh_40⟩
theorem rv_46 : Recv RX3 46 := ⟨3, TX3, 13, _, rfl, sh_46⟩
theorem rv_53 : Recv RX4 53 := ⟨4, TX4, 7, _, rfl, sh_53⟩
theorem rv_68 : Recv RX12 68 := ⟨12, TX12, 78, _, rfl, sh_68⟩
end
