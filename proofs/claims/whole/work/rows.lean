section
def lw_okq (q : MethodName × Nat) : Prop := (q.1.cls ≠ "java/lang/invoke/MethodHandle" ∧ q.1.cls ≠ "java/lang/invoke/VarHandle") ∧ Cond.instantiable q.1.cls q.2 ∈ tables_1 ∧ Cond.privateMethod q.1 ∈ tables_1 ∧ Cond.instanceMethod q.1 ∈ tables_1
theorem lw_p0 : lw_okq (⟨"java/lang/Throwable", "fillInStackTrace", "(I)Ljava/lang/Throwable;"⟩, 6) := ⟨⟨by decide +kernel, by decide +kernel⟩, List.mem_of_getElem? (i := 184) (by decide +kernel), List.mem_of_getElem? (i := 182) (by decide +kernel), List.mem_of_getElem? (i := 183) (by decide +kernel)⟩
theorem lw_p1 : lw_okq (⟨"FolderRights", "requireGroup", "(I)V"⟩, 3) := ⟨⟨by decide +kernel, by decide +kernel⟩, List.mem_of_getElem? (i := 23) (by decide +kernel), List.mem_of_getElem? (i := 230) (by decide +kernel), List.mem_of_getElem? (i := 231) (by decide +kernel)⟩
theorem lw_p2 : lw_okq (⟨"FolderRights", "requireUserOrGroup", "(IZ)V"⟩, 3) := ⟨⟨by decide +kernel, by decide +kernel⟩, List.mem_of_getElem? (i := 23) (by decide +kernel), List.mem_of_getElem? (i := 250) (by decide +kernel), List.mem_of_getElem? (i := 251) (by decide +kernel)⟩
theorem lw_p3 : lw_okq (⟨"FolderRights", "requireUser", "(I)V"⟩, 3) := ⟨⟨by decide +kernel, by decide +kernel⟩, List.mem_of_getElem? (i := 23) (by decide +kernel), List.mem_of_getElem? (i := 254) (by decide +kernel), List.mem_of_getElem? (i := 255) (by decide +kernel)⟩
theorem lw_p4 : lw_okq (⟨"FolderRights$Groups", "findGroupsIn", "()V"⟩, 5) := ⟨⟨by decide +kernel, by decide +kernel⟩, List.mem_of_getElem? (i := 31) (by decide +kernel), List.mem_of_getElem? (i := 275) (by decide +kernel), List.mem_of_getElem? (i := 276) (by decide +kernel)⟩
theorem lw_p5 : lw_okq (⟨"FolderRights$Groups", "findUsersIn", "()V"⟩, 5) := ⟨⟨by decide +kernel, by decide +kernel⟩, List.mem_of_getElem? (i := 31) (by decide +kernel), List.mem_of_getElem? (i := 279) (by decide +kernel), List.mem_of_getElem? (i := 280) (by decide +kernel)⟩
theorem lw_p6 : lw_okq (⟨"FolderRights", "nodeAt", "(I)LFolderRights$Node;"⟩, 3) := ⟨⟨by decide +kernel, by decide +kernel⟩, List.mem_of_getElem? (i := 23) (by decide +kernel), List.mem_of_getElem? (i := 298) (by decide +kernel), List.mem_of_getElem? (i := 299) (by decide +kernel)⟩
theorem lw_p7 : lw_okq (⟨"FolderRights", "freeNumber", "()I"⟩, 3) := ⟨⟨by decide +kernel, by decide +kernel⟩, List.mem_of_getElem? (i := 23) (by decide +kernel), List.mem_of_getElem? (i := 322) (by decide +kernel), List.mem_of_getElem? (i := 323) (by decide +kernel)⟩
theorem lw_p8 : lw_okq (⟨"FolderRights", "heightOf", "(LFolderRights$Node;)I"⟩, 3) := ⟨⟨by decide +kernel, by decide +kernel⟩, List.mem_of_getElem? (i := 23) (by decide +kernel), List.mem_of_getElem? (i := 348) (by decide +kernel), List.mem_of_getElem? (i := 349) (by decide +kernel)⟩
theorem lw_p9 : lw_okq (⟨"FolderRights", "markStaleBelow", "(LFolderRights$Node;)V"⟩, 3) := ⟨⟨by decide +kernel, by decide +kernel⟩, List.mem_of_getElem? (i := 23) (by decide +kernel), List.mem_of_getElem? (i := 356) (by decide +kernel), List.mem_of_getElem? (i := 357) (by decide +kernel)⟩
theorem lw_p10 : lw_okq (⟨"FolderRights", "childrenOf", "(LFolderRights$Node;)I"⟩, 3) := ⟨⟨by decide +kernel, by decide +kernel⟩, List.mem_of_getElem? (i := 23) (by decide +kernel), List.mem_of_getElem? (i := 367) (by decide +kernel), List.mem_of_getElem? (i := 368) (by decide +kernel)⟩
theorem lw_p11 : lw_okq (⟨"java/util/ArrayList", "rangeCheckForAdd", "(I)V"⟩, 3) := ⟨⟨by decide +kernel, by decide +kernel⟩, List.mem_of_getElem? (i := 63) (by decide +kernel), List.mem_of_getElem? (i := 416) (by decide +kernel), List.mem_of_getElem? (i := 417) (by decide +kernel)⟩
theorem lw_p12 : lw_okq (⟨"java/util/ArrayList", "grow", "()[Ljava/lang/Object;"⟩, 3) := ⟨⟨by decide +kernel, by decide +kernel⟩, List.mem_of_getElem? (i := 63) (by decide +kernel), List.mem_of_getElem? (i := 420) (by decide +kernel), List.mem_of_getElem? (i := 421) (by decide +kernel)⟩
theorem lw_p13 : lw_okq (⟨"java/util/ArrayList", "grow", "(I)[Ljava/lang/Object;"⟩, 3) := ⟨⟨by decide +kernel, by decide +kernel⟩, List.mem_of_getElem? (i := 63) (by decide +kernel), List.mem_of_getElem? (i := 424) (by decide +kernel), List.mem_of_getElem? (i := 425) (by decide +kernel)⟩
theorem lw_p14 : lw_okq (⟨"java/util/ArrayList", "fastRemove", "([Ljava/lang/Object;I)V"⟩, 3) := ⟨⟨by decide +kernel, by decide +kernel⟩, List.mem_of_getElem? (i := 63) (by decide +kernel), List.mem_of_getElem? (i := 485) (by decide +kernel), List.mem_of_getElem? (i := 486) (by decide +kernel)⟩
theorem lw_p15 : lw_okq (⟨"FolderRights", "holders", "(LFolderRights$Node;I)J"⟩, 3) := ⟨⟨by decide +kernel, by decide +kernel⟩, List.mem_of_getElem? (i := 23) (by decide +kernel), List.mem_of_getElem? (i := 510) (by decide +kernel), List.mem_of_getElem? (i := 511) (by decide +kernel)⟩
def lw_privs_1 : List (MethodName × Nat) := [(⟨"java/lang/Throwable", "fillInStackTrace", "(I)Ljava/lang/Throwable;"⟩, 6), (⟨"FolderRights", "requireGroup", "(I)V"⟩, 3), (⟨"FolderRights", "requireUserOrGroup", "(IZ)V"⟩, 3), (⟨"FolderRights", "requireUser", "(I)V"⟩, 3), (⟨"FolderRights$Groups", "findGroupsIn", "()V"⟩, 5), (⟨"FolderRights$Groups", "findUsersIn", "()V"⟩, 5), (⟨"FolderRights", "nodeAt", "(I)LFolderRights$Node;"⟩, 3), (⟨"FolderRights", "freeNumber", "()I"⟩, 3), (⟨"FolderRights", "heightOf", "(LFolderRights$Node;)I"⟩, 3), (⟨"FolderRights", "markStaleBelow", "(LFolderRights$Node;)V"⟩, 3), (⟨"FolderRights", "childrenOf", "(LFolderRights$Node;)I"⟩, 3), (⟨"java/util/ArrayList", "rangeCheckForAdd", "(I)V"⟩, 3), (⟨"java/util/ArrayList", "grow", "()[Ljava/lang/Object;"⟩, 3), (⟨"java/util/ArrayList", "grow", "(I)[Ljava/lang/Object;"⟩, 3), (⟨"java/util/ArrayList", "fastRemove", "([Ljava/lang/Object;I)V"⟩, 3), (⟨"FolderRights", "holders", "(LFolderRights$Node;I)J"⟩, 3)]
theorem lw_r1 : ∀ q ∈ lw_privs_1, lw_okq q := List.forall_mem_cons.mpr ⟨lw_p0, List.forall_mem_cons.mpr ⟨lw_p1, List.forall_mem_cons.mpr ⟨lw_p2, List.forall_mem_cons.mpr ⟨lw_p3, List.forall_mem_cons.mpr ⟨lw_p4, List.forall_mem_cons.mpr ⟨lw_p5, List.forall_mem_cons.mpr ⟨lw_p6, List.forall_mem_cons.mpr ⟨lw_p7, List.forall_mem_cons.mpr ⟨lw_p8, List.forall_mem_cons.mpr ⟨lw_p9, List.forall_mem_cons.mpr ⟨lw_p10, List.forall_mem_cons.mpr ⟨lw_p11, List.forall_mem_cons.mpr ⟨lw_p12, List.forall_mem_cons.mpr ⟨lw_p13, List.forall_mem_cons.mpr ⟨lw_p14, List.forall_mem_cons.mpr ⟨lw_p15, fun _ h => absurd h List.not_mem_nil⟩⟩⟩⟩⟩⟩⟩⟩⟩⟩⟩⟩⟩⟩⟩⟩
theorem lw_p16 : lw_okq (⟨"FolderRights", "hitUsers", "(LFolderRights$Node;LFolderRights$Node;IZ)J"⟩, 3) := ⟨⟨by decide +kernel, by decide +kernel⟩, List.mem_of_getElem? (i := 23) (by decide +kernel), List.mem_of_getElem? (i := 514) (by decide +kernel), List.mem_of_getElem? (i := 515) (by decide +kernel)⟩
theorem lw_p17 : lw_okq (⟨"FolderRights", "namedUsers", "(LFolderRights$Entry;)J"⟩, 3) := ⟨⟨by decide +kernel, by decide +kernel⟩, List.mem_of_getElem? (i := 23) (by decide +kernel), List.mem_of_getElem? (i := 535) (by decide +kernel), List.mem_of_getElem? (i := 536) (by decide +kernel)⟩
theorem lw_p18 : lw_okq (⟨"FolderRights", "decidingPosition", "(LFolderRights$Node;LFolderRights$Node;II)I"⟩, 3) := ⟨⟨by decide +kernel, by decide +kernel⟩, List.mem_of_getElem? (i := 23) (by decide +kernel), List.mem_of_getElem? (i := 560) (by decide +kernel), List.mem_of_getElem? (i := 561) (by decide +kernel)⟩
theorem lw_p19 : lw_okq (⟨"FolderRights", "countNodes", "()I"⟩, 3) := ⟨⟨by decide +kernel, by decide +kernel⟩, List.mem_of_getElem? (i := 23) (by decide +kernel), List.mem_of_getElem? (i := 611) (by decide +kernel), List.mem_of_getElem? (i := 612) (by decide +kernel)⟩
theorem lw_p20 : lw_okq (⟨"FolderRights", "countEntries", "()I"⟩, 3) := ⟨⟨by decide +kernel, by decide +kernel⟩, List.mem_of_getElem? (i := 23) (by decide +kernel), List.mem_of_getElem? (i := 615) (by decide +kernel), List.mem_of_getElem? (i := 616) (by decide +kernel)⟩
theorem lw_p21 : lw_okq (⟨"FolderRightsModel", "goes", "(ZZZ)Z"⟩, 22) := ⟨⟨by decide +kernel, by decide +kernel⟩, List.mem_of_getElem? (i := 630) (by decide +kernel), List.mem_of_getElem? (i := 713) (by decide +kernel), List.mem_of_getElem? (i := 714) (by decide +kernel)⟩
theorem lw_p22 : lw_okq (⟨"FolderRightsModel", "isGroup", "(I)Z"⟩, 22) := ⟨⟨by decide +kernel, by decide +kernel⟩, List.mem_of_getElem? (i := 630) (by decide +kernel), List.mem_of_getElem? (i := 725) (by decide +kernel), List.mem_of_getElem? (i := 726) (by decide +kernel)⟩
theorem lw_p23 : lw_okq (⟨"FolderRightsModel", "isMember", "(IZ)Z"⟩, 22) := ⟨⟨by decide +kernel, by decide +kernel⟩, List.mem_of_getElem? (i := 630) (by decide +kernel), List.mem_of_getElem? (i := 729) (by decide +kernel), List.mem_of_getElem? (i := 730) (by decide +kernel)⟩
theorem lw_p24 : lw_okq (⟨"FolderRightsModel", "isUser", "(I)Z"⟩, 22) := ⟨⟨by decide +kernel, by decide +kernel⟩, List.mem_of_getElem? (i := 630) (by decide +kernel), List.mem_of_getElem? (i := 733) (by decide +kernel), List.mem_of_getElem? (i := 734) (by decide +kernel)⟩
theorem lw_p25 : lw_okq (⟨"FolderRightsModel", "findGroups", "(I)V"⟩, 22) := ⟨⟨by decide +kernel, by decide +kernel⟩, List.mem_of_getElem? (i := 630) (by decide +kernel), List.mem_of_getElem? (i := 737) (by decide +kernel), List.mem_of_getElem? (i := 738) (by decide +kernel)⟩
theorem lw_p26 : lw_okq (⟨"FolderRightsModel", "settle", "()V"⟩, 22) := ⟨⟨by decide +kernel, by decide +kernel⟩, List.mem_of_getElem? (i := 630) (by decide +kernel), List.mem_of_getElem? (i := 741) (by decide +kernel), List.mem_of_getElem? (i := 742) (by decide +kernel)⟩
theorem lw_p27 : lw_okq (⟨"FolderRightsModel", "isNode", "(I)Z"⟩, 22) := ⟨⟨by decide +kernel, by decide +kernel⟩, List.mem_of_getElem? (i := 630) (by decide +kernel), List.mem_of_getElem? (i := 753) (by decide +kernel), List.mem_of_getElem? (i := 754) (by decide +kernel)⟩
theorem lw_p28 : lw_okq (⟨"FolderRightsModel", "depth", "(I)I"⟩, 22) := ⟨⟨by decide +kernel, by decide +kernel⟩, List.mem_of_getElem? (i := 630) (by decide +kernel), List.mem_of_getElem? (i := 757) (by decide +kernel), List.mem_of_getElem? (i := 758) (by decide +kernel)⟩
theorem lw_p29 : lw_okq (⟨"FolderRightsModel", "under", "(II)Z"⟩, 22) := ⟨⟨by decide +kernel, by decide +kernel⟩, List.mem_of_getElem? (i := 630) (by decide +kernel), List.mem_of_getElem? (i := 765) (by decide +kernel), List.mem_of_getElem? (i := 766) (by decide +kernel)⟩
theorem lw_p30 : lw_okq (⟨"FolderRightsModel", "height", "(I)I"⟩, 22) := ⟨⟨by decide +kernel, by decide +kernel⟩, List.mem_of_getElem? (i := 630) (by decide +kernel), List.mem_of_getElem? (i := 769) (by decide +kernel), List.mem_of_getElem? (i := 770) (by decide +kernel)⟩
theorem lw_p31 : lw_okq (⟨"FolderRightsModel", "spread", "(IZ)V"⟩, 22) := ⟨⟨by decide +kernel, by decide +kernel⟩, List.mem_of_getElem? (i := 630) (by decide +kernel), List.mem_of_getElem? (i := 773) (by decide +kernel), List.mem_of_getElem? (i := 774) (by decide +kernel)⟩
def lw_privs_2 : List (MethodName × Nat) := [(⟨"FolderRights", "hitUsers", "(LFolderRights$Node;LFolderRights$Node;IZ)J"⟩, 3), (⟨"FolderRights", "namedUsers", "(LFolderRights$Entry;)J"⟩, 3), (⟨"FolderRights", "decidingPosition", "(LFolderRights$Node;LFolderRights$Node;II)I"⟩, 3), (⟨"FolderRights", "countNodes", "()I"⟩, 3), (⟨"FolderRights", "countEntries", "()I"⟩, 3), (⟨"FolderRightsModel", "goes", "(ZZZ)Z"⟩, 22), (⟨"FolderRightsModel", "isGroup", "(I)Z"⟩, 22), (⟨"FolderRightsModel", "isMember", "(IZ)Z"⟩, 22), (⟨"FolderRightsModel", "isUser", "(I)Z"⟩, 22), (⟨"FolderRightsModel", "findGroups", "(I)V"⟩, 22), (⟨"FolderRightsModel", "settle", "()V"⟩, 22), (⟨"FolderRightsModel", "isNode", "(I)Z"⟩, 22), (⟨"FolderRightsModel", "depth", "(I)I"⟩, 22), (⟨"FolderRightsModel", "under", "(II)Z"⟩, 22), (⟨"FolderRightsModel", "height", "(I)I"⟩, 22), (⟨"FolderRightsModel", "spread", "(IZ)V"⟩, 22)]
theorem lw_r2 : ∀ q ∈ lw_privs_2, lw_okq q := List.forall_mem_cons.mpr ⟨lw_p16, List.forall_mem_cons.mpr ⟨lw_p17, List.forall_mem_cons.mpr ⟨lw_p18, List.forall_mem_cons.mpr ⟨lw_p19, List.forall_mem_cons.mpr ⟨lw_p20, List.forall_mem_cons.mpr ⟨lw_p21, List.forall_mem_cons.mpr ⟨lw_p22, List.forall_mem_cons.mpr ⟨lw_p23, List.forall_mem_cons.mpr ⟨lw_p24, List.forall_mem_cons.mpr ⟨lw_p25, List.forall_mem_cons.mpr ⟨lw_p26, List.forall_mem_cons.mpr ⟨lw_p27, List.forall_mem_cons.mpr ⟨lw_p28, List.forall_mem_cons.mpr ⟨lw_p29, List.forall_mem_cons.mpr ⟨lw_p30, List.forall_mem_cons.mpr ⟨lw_p31, fun _ h => absurd h List.not_mem_nil⟩⟩⟩⟩⟩⟩⟩⟩⟩⟩⟩⟩⟩⟩⟩⟩
theorem lw_p32 : lw_okq (⟨"FolderRightsModel", "children", "(I)I"⟩, 22) := ⟨⟨by decide +kernel, by decide +kernel⟩, List.mem_of_getElem? (i := 630) (by decide +kernel), List.mem_of_getElem? (i := 781) (by decide +kernel), List.mem_of_getElem? (i := 782) (by decide +kernel)⟩
theorem lw_p33 : lw_okq (⟨"FolderRightsModel", "copyEntry", "(II)V"⟩, 22) := ⟨⟨by decide +kernel, by decide +kernel⟩, List.mem_of_getElem? (i := 630) (by decide +kernel), List.mem_of_getElem? (i := 792) (by decide +kernel), List.mem_of_getElem? (i := 793) (by decide +kernel)⟩
theorem lw_p34 : lw_okq (⟨"FolderRightsModel", "rightsOf", "(II)I"⟩, 22) := ⟨⟨by decide +kernel, by decide +kernel⟩, List.mem_of_getElem? (i := 630) (by decide +kernel), List.mem_of_getElem? (i := 812) (by decide +kernel), List.mem_of_getElem? (i := 813) (by decide +kernel)⟩
theorem lw_p35 : lw_okq (⟨"FolderRightsModel", "decide", "(III)Z"⟩, 22) := ⟨⟨by decide +kernel, by decide +kernel⟩, List.mem_of_getElem? (i := 630) (by decide +kernel), List.mem_of_getElem? (i := 816) (by decide +kernel), List.mem_of_getElem? (i := 817) (by decide +kernel)⟩
theorem lw_p36 : lw_okq (⟨"FolderRightsModel", "first", "(IIIIZ)I"⟩, 22) := ⟨⟨by decide +kernel, by decide +kernel⟩, List.mem_of_getElem? (i := 630) (by decide +kernel), List.mem_of_getElem? (i := 820) (by decide +kernel), List.mem_of_getElem? (i := 821) (by decide +kernel)⟩
theorem lw_p37 : lw_okq (⟨"FolderRightsModel", "reaches", "(III)Z"⟩, 22) := ⟨⟨by decide +kernel, by decide +kernel⟩, List.mem_of_getElem? (i := 630) (by decide +kernel), List.mem_of_getElem? (i := 824) (by decide +kernel), List.mem_of_getElem? (i := 825) (by decide +kernel)⟩
theorem lw_p38 : lw_okq (⟨"FolderRightsModel", "matches", "(III)Z"⟩, 22) := ⟨⟨by decide +kernel, by decide +kernel⟩, List.mem_of_getElem? (i := 630) (by decide +kernel), List.mem_of_getElem? (i := 828) (by decide +kernel), List.mem_of_getElem? (i := 829) (by decide +kernel)⟩
theorem lw_p39 : lw_okq (⟨"FolderRightsModel", "isIn", "(II)Z"⟩, 22) := ⟨⟨by decide +kernel, by decide +kernel⟩, List.mem_of_getElem? (i := 630) (by decide +kernel), List.mem_of_getElem? (i := 832) (by decide +kernel), List.mem_of_getElem? (i := 833) (by decide +kernel)⟩
theorem lw_p40 : lw_okq (⟨"FolderRightsModel", "members", "()I"⟩, 22) := ⟨⟨by decide +kernel, by decide +kernel⟩, List.mem_of_getElem? (i := 630) (by decide +kernel), List.mem_of_getElem? (i := 872) (by decide +kernel), List.mem_of_getElem? (i := 873) (by decide +kernel)⟩
def lw_privs_3 : List (MethodName × Nat) := [(⟨"FolderRightsModel", "children", "(I)I"⟩, 22), (⟨"FolderRightsModel", "copyEntry", "(II)V"⟩, 22), (⟨"FolderRightsModel", "rightsOf", "(II)I"⟩, 22), (⟨"FolderRightsModel", "decide", "(III)Z"⟩, 22), (⟨"FolderRightsModel", "first", "(IIIIZ)I"⟩, 22), (⟨"FolderRightsModel", "reaches", "(III)Z"⟩, 22), (⟨"FolderRightsModel", "matches", "(III)Z"⟩, 22), (⟨"FolderRightsModel", "isIn", "(II)Z"⟩, 22), (⟨"FolderRightsModel", "members", "()I"⟩, 22)]
theorem lw_r3 : ∀ q ∈ lw_privs_3, lw_okq q := List.forall_mem_cons.mpr ⟨lw_p32, List.forall_mem_cons.mpr ⟨lw_p33, List.forall_mem_cons.mpr ⟨lw_p34, List.forall_mem_cons.mpr ⟨lw_p35, List.forall_mem_cons.mpr ⟨lw_p36, List.forall_mem_cons.mpr ⟨lw_p37, List.forall_mem_cons.mpr ⟨lw_p38, List.forall_mem_cons.mpr ⟨lw_p39, List.forall_mem_cons.mpr ⟨lw_p40, fun _ h => absurd h List.not_mem_nil⟩⟩⟩⟩⟩⟩⟩⟩⟩
def lw_privs : List (MethodName × Nat) := lw_privs_1 ++ (lw_privs_2 ++ (lw_privs_3))
def lw_tbl : List Cond := k2_sels lw_privs ++ tables_1
theorem lw_privs_ok : ∀ q ∈ lw_privs, lw_okq q := by
  show ∀ q ∈ lw_privs_1 ++ (lw_privs_2 ++ (lw_privs_3)), lw_okq q
  exact List.forall_mem_append.mpr ⟨lw_r1, List.forall_mem_append.mpr ⟨lw_r2, lw_r3⟩⟩
theorem fw_t (i : Nat) {w : Cond} (h : tables_1[i]? = some w) : w ∈ lw_tbl := List.mem_append_right _ (List.mem_of_getElem? h)
theorem fw_p (i : Nat) {w : Cond} (h : (k2_sels lw_privs)[i]? = some w) : w ∈ lw_tbl := List.mem_append_left _ (List.mem_of_getElem? h)
end
section
section VXA
def vx_T (XC : String → State → State → Prop) (st : State) (q : Addr) (t : State) (mc ms : Nat) (free : Addr → Prop) : Prop :=
  ∃ (E : String) (ce : Cell) (L : List Loc), XC E st t ∧ t.heap[q]? = some ce ∧ ce.vm = .none ∧ st.vm.findClass E = some ce.cls ∧ st.WarmedH t.vm ∧ st.sameButNew ({ t with vm := st.vm } : State) L mc ms ∧ ∀ z ∈ L, free z.base
def vx_Q (Qc : Array Value → State → Outcome → State → Prop) (XC : String → State → State → Prop) (mc ms : Nat) (free : Addr → Prop) : Array Value → State → Outcome → State → Prop := fun a st o t =>
  (Qc a st o t ∧ ∃ L, FrameEnd st o t L mc ms ∧ ∀ q ∈ L, free q.base) ∨ ∃ q, o = .threw q ∧ vx_T XC st q t mc ms free
def vx_Met (l : Launch) (y : MethodName) (ws : List Cond) (rm : Room) (Pc : Array Value → State → Prop) (Qc : Array Value → State → Outcome → State → Prop) (XC : String → State → State → Prop) (mc ms : Nat) (free : Addr → Prop) : Prop :=
  MetFree l y (headSpec ws rm) Pc (fun _ _ _ _ _ => True) (vx_Q Qc XC mc ms free)
def vx_Post (XC : String → State → State → Prop) (mc ms : Nat) (free : Addr → Prop) : Pt → Array Value → Addr → Pt → Prop := fun A a q B =>
  ∃ (g : JFrame) (mk : MethodId) (t : State) (L : List Loc) (E : String) (ce : Cell), B.U.heap = t.heap ∧ B.U.vm = t.vm ∧ XC E (A.U.calling g mk a) t ∧ t.heap[q]? = some ce ∧ ce.vm = .none ∧ A.U.vm.findClass E = some ce.cls ∧ B.locs = A.locs ++ L ∧ (∀ z ∈ L, free z.base) ∧ B.cells = A.cells + mc ∧ B.slots = A.slots + ms
def vx_Back (l : Launch) (R : Room) (p : Program) (e : Env) (below : List Frame) (s : State) (sargs : Array Value) (y : MethodName) (len W9 : Nat)
    (Pre : Pt → Array Value → Prop) (Post : Pt → Array Value → Option Value → Pt → Prop) (PostX : Pt → Array Value → Addr → Pt → Prop) : Prop :=
  ∀ (m : MethodId) (meth : Method) (c : Code) (A : Pt) (g : JFrame) (ig : Instr) (mk : MethodId) (a : Array Value),
    Stand p l e R s m sargs below meth c A.U A.locs A.cells A.slots → g.method = m → g.locals.size = c.maxLocals → decode c.code g.pc = .ok (ig, len) →
    2 * g.monitorRoom + (g.stack.map fun v => v.category).sum ≤ W9 → A.U.methodNamed? y = some mk → Pre A a →
    (∃ (v : Option Value) (B : Pt), Stand p l e R s m sargs below meth c B.U B.locs B.cells B.slots ∧ Post A a v B ∧
      Steps p.tables e below (doInvoke e (A.U.setTop g) [] mk a).1 (B.U.setTop { g with pc := g.pc + len, stack := v.toList ++ g.stack })) ∨
    (∃ (q : Addr) (B : Pt), Stand p l e R s m sargs below meth c B.U B.locs B.cells B.slots ∧ PostX A a q B ∧
      Steps p.tables e below (doInvoke e (A.U.setTop g) [] mk a).1 ((B.U.setTop g).pushFrame (.throwing q)))
section Payer
variable {l : Launch} {R : Room} {p : Program} {e : Env} {below : List Frame} {s : State} {sargs : Array Value} {y : MethodName} {len W9 : Nat}
theorem vx_back {ws : List Cond} {rm : Room} {Pc : Array Value → State → Prop} {Qc : Array Value → State → Outcome → State → Prop} {XC : String → State → State → Prop} {mc ms : Nat} {free : Addr → Prop} {bytes : ByteArray} {maxL : Nat} {ret : Option FieldType}
    (hM : vx_Met l y ws rm Pc Qc XC mc ms free) (hblind : FrameBlind Pc) (hrc : rm.cells = mc) (hrs : rm.slots = ms)
    (hframes : rm.frames + 1 ≤ R.frames) (hlocals : W9 + (maxL + 11) + rm.locals ≤ R.locals)
    (hws : ∀ w ∈ ws, ∀ a' U, s.WarmedH U.vm → w.before a' U = true) (hcode : Cond.code y bytes maxL ret ∈ ws) (hinit : ∀ a' U, s.WarmedH U.vm → (Cond.initialized y.cls).before a' U = true) :
    vx_Back l R p e below s sargs y len W9 (PreOf R mc ms Pc) (PostOf Qc mc ms free) (vx_Post XC mc ms free) := by
  intro m meth c A g ig mk a X hg hsize hdg hW hn hp
  have h1 : (headSpec ws rm).pre.before a A.U = true := atoms_intro fun w hw => hws w hw _ _ X.warmed
  have h2 : (Cond.code y bytes maxL ret).before a A.U = true := hws _ hcode _ _ X.warmed
  have h3 : (Cond.initialized y.cls).before a A.U = true := hinit _ _ X.warmed
  have h4 : A.cells + (headSpec ws rm).room.cells ≤ R.cells := by rw [show (headSpec ws rm).room.cells = mc from hrc]; exact hp.1
  have h5 : A.slots + (headSpec ws rm).room.slots ≤ R.slots := by rw [show (headSpec ws rm).room.slots = ms from hrs]; exact hp.2.1
  have hPc : Pc a (A.U.calling g mk a) := hblind _ _ _ _ hp.2.2
  obtain ⟨U, Ls, c0, s0⟩ := A
  dsimp only [Pt.U, Pt.locs, Pt.cells, Pt.slots] at h1 h2 h3 h4 h5 X hn hPc ⊢
  obtain ⟨methY, cY, hmY, hcY, -, hlY, -, -, -, -⟩ := Cond.code_spec hn h2
  obtain ⟨kY, hkY, -⟩ := className_of_methodNamed hn
  have hinitY : kY.init = .initialized := Cond.initialized_spec (findClass_of_methodNamed hn) hkY h3
  have h : At U g.method c below := by rw [hg]; exact X.here
  have hlocals9 : W9 + (maxL + 11) + (headSpec ws rm).room.locals ≤ R.locals := hlocals
  have happ : (headSpec ws rm).appliesLoose y e.platform (U.calling g mk a) = true :=
    Spec.appliesLoose_calling (g := g) h hdg hn hkY hinitY
      (X.room_calling (g := g) (R' := (headSpec ws rm).room) hsize hmY hcY hframes (by rw [hlY]; omega) h4 h5) h1
  obtain ⟨mid, hmid⟩ := h.above
  have hfr : (U.setTop g).frames = (.java g :: mid) ++ below := by rw [State.frames_setTop' g h.top, hmid]; rfl
  obtain ⟨o, s₂, hsteps, -, hend, hq⟩ := Steps.callFree hM p X.admits X.cas X.clock (acts := []) hfr happ hPc trivial
  have hq' : vx_Q Qc XC mc ms free a (U.calling g mk a) o s₂ := hq
  rw [State.frames_setTop' g h.top] at hend
  obtain ⟨g₀, hg0⟩ := Option.isSome_iff_exists.mp h.top
  obtain ⟨r, hr⟩ := State.topJava?_eq_some.mp hg0
  have hr' : (({ U with heap := s₂.heap, slotsUsed := s₂.slotsUsed } : State).setVm s₂.vm).frames = .java g₀ :: r := hr
  rcases hq' with ⟨hqc, L, hfe, hL⟩ | ⟨q, rfl, E, ce, L, hx, hce, hcv, hcl, hW₂, hsm, hL⟩
  · obtain ⟨⟨v, rfl⟩, hW₂, e2, q2, q3, q4, q5, q6⟩ := id hfe
    have e3 : s₂ = ({ (U.calling g mk a).setFrames s₂.frames with heap := s₂.heap, slotsUsed := s₂.slotsUsed } : State).setVm s₂.vm := by
      have : s₂ = ({ s₂ with vm := (U.calling g mk a).vm } : State).setVm s₂.vm := rfl
      rw [e2] at this
      exact this
    obtain ⟨c₂, i₂, len₂, hc₂, hd₂, hf₂⟩ := hend
    have hW' : U.WarmedH s₂.vm := hW₂
    have hcc : c₂ = c := by
      have h1 : s₂.code? g.method = U.code? g.method := by
        rw [State.code?_eq, State.code?_eq, hW'.alike.method?]
      exact Option.some.inj (hc₂.symm.trans (h1.trans h.code))
    subst hcc
    have hlen : len₂ = len := by rw [hdg] at hd₂; cases hd₂; rfl
    subst hlen
    have hs₂ : s₂ = (({ U with heap := s₂.heap, slotsUsed := s₂.slotsUsed } : State).setVm s₂.vm).setTop { g with pc := g.pc + len₂, stack := v.toList ++ g.stack } := by
      refine e3.trans ?_
      rw [hf₂, State.calling_eq h.top, State.setFrames_setFrames, State.setTop_of_frames _ hr', hr]
      rfl
    have hsame : U.sameButNew ({ U with heap := s₂.heap, slotsUsed := s₂.slotsUsed } : State) L mc ms := by
      refine ⟨?_, q2, q3, q4, q5, q6⟩
      obtain ⟨t, ht, -⟩ := State.frames_cons hr
      show ({ U with heap := s₂.heap, slotsUsed := s₂.slotsUsed } : State) = { U.setFrames U.frames with heap := s₂.heap, slotsUsed := s₂.slotsUsed }
      rw [State.setFrames_self ht]
    subst hg
    refine Or.inl ⟨v, ⟨(({ U with heap := s₂.heap, slotsUsed := s₂.slotsUsed } : State).setVm s₂.vm), Ls ++ L, c0 + mc, s0 + ms⟩,
      ⟨X.admits, X.cas, X.clock, X.frames, X.room, X.hears, X.method, X.code, (X.here.setHeapUsed s₂.heap s₂.slotsUsed).setVm hW'.alike, X.tail, State.WarmedH.trans X.warmed hW', X.limits, X.bytes, X.same.trans (hsame.setVm s.vm)⟩,
      ⟨g, mk, s₂, L, rfl, rfl, hqc, rfl, hL, rfl, rfl⟩, ?_⟩
    show Steps p.tables e below _ ((({ U with heap := s₂.heap, slotsUsed := s₂.slotsUsed } : State).setVm s₂.vm).setTop { g with pc := g.pc + len₂, stack := v.toList ++ g.stack })
    rw [← hs₂]
    exact hsteps
  · obtain ⟨e2, q2, q3, q4, q5, q6⟩ := id hsm
    have e3 : s₂ = ({ (U.calling g mk a).setFrames s₂.frames with heap := s₂.heap, slotsUsed := s₂.slotsUsed } : State).setVm s₂.vm := by
      have : s₂ = ({ s₂ with vm := (U.calling g mk a).vm } : State).setVm s₂.vm := rfl
      rw [e2] at this
      exact this
    have hf₂ : s₂.frames = .throwing q :: .java g :: U.frames.tail := hend
    have hW' : U.WarmedH s₂.vm := hW₂
    have hs₂ : s₂ = ((({ U with heap := s₂.heap, slotsUsed := s₂.slotsUsed } : State).setVm s₂.vm).setTop g).pushFrame (.throwing q) := by
      refine e3.trans ?_
      rw [hf₂, State.calling_eq h.top, State.setFrames_setFrames, State.pushFrame, State.frames_setTop _ hr', State.setTop_of_frames _ hr', State.setFrames_setFrames, hr]
      rfl
    have hsame : U.sameButNew ({ U with heap := s₂.heap, slotsUsed := s₂.slotsUsed } : State) L mc ms := by
      refine ⟨?_, q2, q3, q4, q5, q6⟩
      obtain ⟨t, ht, -⟩ := State.frames_cons hr
      show ({ U with heap := s₂.heap, slotsUsed := s₂.slotsUsed } : State) = { U.setFrames U.frames with heap := s₂.heap, slotsUsed := s₂.slotsUsed }
      rw [State.setFrames_self ht]
    subst hg
    refine Or.inr ⟨q, ⟨(({ U with heap := s₂.heap, slotsUsed := s₂.slotsUsed } : State).setVm s₂.vm), Ls ++ L, c0 + mc, s0 + ms⟩,
      ⟨X.admits, X.cas, X.clock, X.frames, X.room, X.hears, X.method, X.code, (X.here.setHeapUsed s₂.heap s₂.slotsUsed).setVm hW'.alike, X.tail, State.WarmedH.trans X.warmed hW', X.limits, X.bytes, X.same.trans (hsame.setVm s.vm)⟩,
      ⟨g, mk, s₂, L, E, ce, rfl, rfl, hx, hce, hcv, hcl, rfl, hL, rfl, rfl⟩, ?_⟩
    show Steps p.tables e below _ (((({ U with heap := s₂.heap, slotsUsed := s₂.slotsUsed } : State).setVm s₂.vm).setTop g).pushFrame (.throwing q))
    rw [← hs₂]
    exact hsteps
end Payer
section Calls
variable {p : Program} {l : Launch} {e : Env} {R : Room} {s : State} {m : MethodId} {args : Array Value} {below : List Frame} {meth : Method} {c : Code} {T : State} {locs : List Loc} {cells slots : Nat}
theorem vx_callV (X : Stand p l e R s m args below meth c T locs cells slots) (hexec : p.tables.exec = Jvm.exec) {own C : String} {index : Nat} {y : MethodName} {bytes : ByteArray} {maxL : Nat} {ret : Option FieldType}
    (hown : s.vm.findClass own = some m.cls) (hlink : (Cond.methodLink own index y).before args s = true) (hinst : (Cond.instanceMethod y).before args s = true) (hsel : (Cond.selects C y y).before args s = true)
    (hcode : (Cond.code y bytes maxL ret).before args s = true) (hy : y.cls ≠ "java/lang/invoke/MethodHandle" ∧ y.cls ≠ "java/lang/invoke/VarHandle")
    {W9 : Nat} {Pre : Pt → Array Value → Prop} {Post : Pt → Array Value → Option Value → Pt → Prop} {PostX : Pt → Array Value → Addr → Pt → Prop} (hK : vx_Back l R p e below s args y 3 W9 Pre Post PostX)
    {b : Addr} {cellB : Cell} (hcell : T.heap[b]? = some cellB) (hobj : cellB.vm.isStatics = false) (hcls : s.vm.findClass C = some cellB.cls)
    {g : JFrame} (hg : g.method = m) (hsize : g.locals.size = c.maxLocals) {argsL rest : List Value} (hlen : ∀ sig, parseMethodDescriptor y.desc = some sig → argsL.length = sig.parameters.length)
    (hstack : g.stack = argsL.reverse ++ .ref b :: rest) (hW : 2 * g.monitorRoom + (rest.map fun v => v.category).sum ≤ W9) (hdg : decode c.code g.pc = .ok (.invokevirtual index, 3))
    (hpre : ∀ vm₁, s.WarmedH vm₁ → Pre ⟨T.setVm vm₁, locs, cells, slots⟩ (Value.ref b :: argsL).toArray) :
    (∃ (v : Option Value) (vm₁ : Vm) (B : Pt), s.WarmedH vm₁ ∧ Stand p l e R s m args below meth c B.U B.locs B.cells B.slots ∧ Post ⟨T.setVm vm₁, locs, cells, slots⟩ (Value.ref b :: argsL).toArray v B ∧
      ∀ target, Steps p.tables e below (B.U.setTop { g with pc := g.pc + 3, stack := v.toList ++ rest }) target → Steps p.tables e below (T.setTop g) target) ∨
    (∃ (q : Addr) (vm₁ : Vm) (B : Pt), s.WarmedH vm₁ ∧ Stand p l e R s m args below meth c B.U B.locs B.cells B.slots ∧ PostX ⟨T.setVm vm₁, locs, cells, slots⟩ (Value.ref b :: argsL).toArray q B ∧
      Steps p.tables e below (T.setTop g) ((B.U.setTop { g with stack := rest }).pushFrame (.throwing q))) := by
  obtain ⟨mk, methM, hnamed, hmethM, hstM, habM⟩ := Cond.instanceMethod_spec hinst
  obtain ⟨methM', cM, hmethM', -, -, -, -, -, -, hsigM⟩ := Cond.code_spec hnamed hcode
  cases hmethM.symm.trans hmethM'
  obtain ⟨c2, r2, m2, q1, q2, q3, q4, kP, hkP, hkPi⟩ := Cond.selects_spec hsel
  cases hcls.symm.trans q1
  cases (State.methodFound?_of_named hnamed hy).symm.trans q2
  cases hnamed.symm.trans q3
  have hselP : selectMethod e.platform s.vm cellB.cls mk = .method mk := by rw [Launch.admits_selectMethod X.admits]; exact q4
  obtain ⟨vm₁, X₁, hstep₁⟩ := X.invokevirtual hexec hown hlink hnamed hmethM hstM hkP hkPi hy (a := b) (cell := cellB) hcell
    (fun z h => by rw [h] at hobj; cases hobj) hselP hmethM habM hkP hkPi (g := g) hg (argsL := argsL) (rest := rest) (hlen _ hsigM) hstack hdg
  rcases hK m meth c ⟨T.setVm vm₁, locs, cells, slots⟩ { g with stack := rest } (.invokevirtual index) mk (Value.ref b :: argsL).toArray X₁ hg hsize hdg hW (X₁.named hnamed) (hpre vm₁ X₁.warmed) with ⟨v, B, X', hpost, hsteps⟩ | ⟨q, B, X', hpost, hsteps⟩
  · exact Or.inl ⟨v, vm₁, B, X₁.warmed, X', hpost, fun target h => hstep₁ _ fun acts => by rw [doInvoke_state]; exact hsteps.trans h⟩
  · exact Or.inr ⟨q, vm₁, B, X₁.warmed, X', hpost, hstep₁ _ fun acts => by rw [doInvoke_state]; exact hsteps⟩
theorem vx_callS (X : Stand p l e R s m args below meth c T locs cells slots) (hexec : p.tables.exec = Jvm.exec) {own : String} {index : Nat} {y : MethodName} {bytes : ByteArray} {maxL : Nat} {ret : Option FieldType}
    (hown : s.vm.findClass own = some m.cls) (hlink : (Cond.methodLink own index y).before args s = true) (hstat : (Cond.static y).before args s = true) (hinit : (Cond.initialized y.cls).before args s = true)
    (hcode : (Cond.code y bytes maxL ret).before args s = true) (hy : y.cls ≠ "java/lang/invoke/MethodHandle" ∧ y.cls ≠ "java/lang/invoke/VarHandle")
    {W9 : Nat} {Pre : Pt → Array Value → Prop} {Post : Pt → Array Value → Option Value → Pt → Prop} {PostX : Pt → Array Value → Addr → Pt → Prop} (hK : vx_Back l R p e below s args y 3 W9 Pre Post PostX)
    {g : JFrame} (hg : g.method = m) (hsize : g.locals.size = c.maxLocals) {argsL rest : List Value} (hlen : ∀ sig, parseMethodDescriptor y.desc = some sig → argsL.length = sig.parameters.length)
    (hstack : g.stack = argsL.reverse ++ rest) (hW : 2 * g.monitorRoom + (rest.map fun v => v.category).sum ≤ W9) (hdg : decode c.code g.pc = .ok (.invokestatic index, 3))
    (hpre : ∀ vm₁, s.WarmedH vm₁ → Pre ⟨T.setVm vm₁, locs, cells, slots⟩ argsL.toArray) :
    (∃ (v : Option Value) (vm₁ : Vm) (B : Pt), s.WarmedH vm₁ ∧ Stand p l e R s m args below meth c B.U B.locs B.cells B.slots ∧ Post ⟨T.setVm vm₁, locs, cells, slots⟩ argsL.toArray v B ∧
      ∀ target, Steps p.tables e below (B.U.setTop { g with pc := g.pc + 3, stack := v.toList ++ rest }) target → Steps p.tables e below (T.setTop g) target) ∨
    (∃ (q : Addr) (vm₁ : Vm) (B : Pt), s.WarmedH vm₁ ∧ Stand p l e R s m args below meth c B.U B.locs B.cells B.slots ∧ PostX ⟨T.setVm vm₁, locs, cells, slots⟩ argsL.toArray q B ∧
      Steps p.tables e below (T.setTop g) ((B.U.setTop { g with stack := rest }).pushFrame (.throwing q))) := by
  obtain ⟨mk, hnamed⟩ := Cond.code_named hcode
  obtain ⟨methM, cM, hmethM, -, -, -, -, -, -, hsigM⟩ := Cond.code_spec hnamed hcode
  have hstatic : methM.isStatic = true := Cond.static_spec hnamed hmethM hstat
  obtain ⟨kP, hkP, -⟩ := className_of_methodNamed hnamed
  have hinitP : kP.init = .initialized := Cond.initialized_spec (findClass_of_methodNamed hnamed) hkP hinit
  obtain ⟨vm₁, X₁, hstep₁⟩ := X.invokestatic hexec hown hlink hnamed hmethM hstatic hkP hinitP hy (g := g) hg (argsL := argsL) (rest := rest) (hlen _ hsigM) hstack hdg
  rcases hK m meth c ⟨T.setVm vm₁, locs, cells, slots⟩ { g with stack := rest } (.invokestatic index) mk argsL.toArray X₁ hg hsize hdg hW (X₁.named hnamed) (hpre vm₁ X₁.warmed) with ⟨v, B, X', hpost, hsteps⟩ | ⟨q, B, X', hpost, hsteps⟩
  · exact Or.inl ⟨v, vm₁, B, X₁.warmed, X', hpost, fun target h => hstep₁ _ fun acts => by rw [doInvoke_state]; exact hsteps.trans h⟩
  · exact Or.inr ⟨q, vm₁, B, X₁.warmed, X', hpost, hstep₁ _ fun acts => by rw [doInvoke_state]; exact hsteps⟩
end Calls
theorem vx_cls {s : State} {T : State} {vm₁ : Vm} {E : String} {k : ClassId} (hW : s.WarmedH vm₁) (h : (T.setVm vm₁).vm.findClass E = some k) : s.vm.findClass E = some k := by
  have h1 : vm₁.findClass E = some k := h
  rw [hW.alike.findClass] at h1
  exact h1
def vx_W (p : Program) (l : Launch) (e : Env) (R : Room) (s : State) (m : MethodId) (args : Array Value) (below : List Frame) (meth : Method) (c : Code) (H : Heap) (locs : List Loc) (cells slots : Nat) (Q : State → Prop) (g : JFrame) (q : Addr) : Prop :=
  ∀ T : State, T.heap = H → Stand p l e R s m args below meth c T locs cells slots → ∃ t, Steps p.tables e below ((T.setTop g).pushFrame (.throwing q)) t ∧ Q t
def vx_Run (p : Program) (l : Launch) (e : Env) (R : Room) (s : State) (m : MethodId) (args : Array Value) (below : List Frame) (meth : Method) (c : Code) (H : Heap) (locs : List Loc) (cells slots mc ms : Nat) (g : JFrame) (rest : List Value) (Qa : State → Outcome → State → Prop) (XC : String → State → State → Prop) (free : Addr → Prop) : Prop :=
  ∀ T : State, T.heap = H → Stand p l e R s m args below meth c T locs cells slots →
    (∃ (v : Option Value) (st₀ t T' : State) (L : List Loc), st₀.heap = H ∧ Stand p l e R s m args below meth c T' (locs ++ L) (cells + mc) (slots + ms) ∧ (∀ q ∈ L, free q.base) ∧ T'.heap = t.heap ∧ T'.vm = t.vm ∧ Qa st₀ (.returned v) t ∧
      Goes p e below T g T' { g with pc := g.pc + 3, stack := v.toList ++ rest }) ∨
    (∃ (q : Addr) (st₀ t T' : State) (L : List Loc) (E : String) (ce : Cell), st₀.heap = H ∧ Stand p l e R s m args below meth c T' (locs ++ L) (cells + mc) (slots + ms) ∧ (∀ z ∈ L, free z.base) ∧ T'.heap = t.heap ∧ T'.vm = t.vm ∧ XC E st₀ t ∧ t.heap[q]? = some ce ∧ ce.vm = .none ∧ s.vm.findClass E = some ce.cls ∧
      Steps p.tables e below (T.setTop g) ((T'.setTop { g with stack := rest }).pushFrame (.throwing q)))
def vx_X {S : Type} (px : S → Prop) (B : String → S → State → Prop) (A : Nat → Prop) : String → State → State → Prop := fun E st t => ∃ u : S, px u ∧ B E u t ∧ va_F A st t
section Runs
variable {p : Program} {l : Launch} {e : Env} {R : Room} {s : State} {m : MethodId} {args : Array Value} {below : List Frame} {meth : Method} {c : Code} {H : Heap} {locs : List Loc} {cells slots : Nat}
variable {y : MethodName} {bytes cc : ByteArray} {maxL nL mc ms n index : Nat} {ret : Option FieldType} {ws : List Cond} {rm : Room} {Pc : Array Value → State → Prop} {Qc : Array Value → State → Outcome → State → Prop} {XC : String → State → State → Prop} {free : Addr → Prop} {Ts : List Cond} {own C : String} {b : Addr} {As rest : List Value} {g : JFrame}
theorem vx_callBack (cb : CallB R s args own index y bytes maxL ret ws rm mc ms n) (hM : vx_Met l y ws rm Pc Qc XC mc ms free) (hbl : FrameBlind Pc) : vx_Back l R p e below s args y 3 8 (PreOf R mc ms Pc) (PostOf Qc mc ms free) (vx_Post XC mc ms free) := by
  obtain ⟨hrc, hrs, hfr, hlo, hws, hcw, -, hini, -⟩ := cb
  exact vx_back (bytes := bytes) (maxL := maxL) (ret := ret) hM hbl hrc hrs hfr hlo hws hcw (fun a' U hW => word_at hW (Or.inl (by first | rfl | simp [Cond.onTables, Cond.keeps, Cond.steady])) hini)
theorem vx_runV (S : CallFix p m c cc nL s args Ts own) (hM : vx_Met l y ws rm Pc Qc XC mc ms free) (cw : CallW R s args own C index y bytes maxL ret ws rm mc ms n) (hp : PreV s H C b Pc As)
    (hg : g.method = m) (hn : As.length = n) (hsize : g.locals.size = nL) (hstack : g.stack = As.reverse ++ .ref b :: rest) (hW : 2 * g.monitorRoom + (rest.map fun v => v.category).sum ≤ 8) (hdg : decode cc g.pc = .ok (.invokevirtual index, 3)) (hf : cells + mc ≤ R.cells ∧ slots + ms ≤ R.slots) :
    vx_Run p l e R s m args below meth c H locs cells slots mc ms g rest (Qc (Value.ref b :: As).toArray) XC free := by
  have hK : vx_Back l R p e below s args y 3 8 (PreOf R mc ms Pc) (PostOf Qc mc ms free) (vx_Post XC mc ms free) := vx_callBack cw.1 hM hp.1
  obtain ⟨⟨-, -, -, -, -, -, hcode, -, hy, hlen, hl⟩, hin, hse⟩ := cw
  obtain ⟨hx, hb, hml, ho, -⟩ := S
  obtain ⟨-, ⟨cellB, hcB, hoB, hclB⟩, hPc⟩ := hp
  intro T hT X
  rcases vx_callV X hx (C := C) (bytes := bytes) (maxL := maxL) (ret := ret) ho hl hin hse hcode hy hK (by rw [hT]; exact hcB) hoB hclB hg (hsize.trans hml.symm) (argsL := As) (rest := rest) (fun sig h => hn.trans (hlen sig h)) hstack hW (by rw [hb]; exact hdg)
    (fun vm₁ hW₁ => ⟨hf.1, hf.2, hPc (T.setVm vm₁) hT hW₁⟩) with ⟨v, vm₁, ⟨U', l2, c2, s2⟩, hW₁, X', ⟨g', mk, t, L, e1, e2, hq, h1, hL, h2, h3⟩, st⟩ | ⟨q, vm₁, ⟨U', l2, c2, s2⟩, hW₁, X', ⟨g', mk, t, L, E, ce, e1, e2, hq, hce, hcv, hcl, h1, hL, h2, h3⟩, st⟩
  · dsimp only [Pt.U, Pt.locs, Pt.cells, Pt.slots] at X' e1 e2 h1 h2 h3 st
    subst h1; subst h2; subst h3
    exact Or.inl ⟨v, (T.setVm vm₁).calling g' mk (Value.ref b :: As).toArray, t, U', L, hT, X', hL, e1, e2, hq, st⟩
  · dsimp only [Pt.U, Pt.locs, Pt.cells, Pt.slots] at X' e1 e2 h1 h2 h3 st hcl
    subst h1; subst h2; subst h3
    exact Or.inr ⟨q, (T.setVm vm₁).calling g' mk (Value.ref b :: As).toArray, t, U', L, E, ce, hT, X', hL, e1, e2, hq, hce, hcv, vx_cls hW₁ hcl, st⟩
theorem vx_runS (S : CallFix p m c cc nL s args Ts own) (hM : vx_Met l y ws rm Pc Qc XC mc ms free) (cw : CallB R s args own index y bytes maxL ret ws rm mc ms n ∧ (Cond.static y).before args s = true) (hp : PreS s H Pc As)
    (hg : g.method = m) (hn : As.length = n) (hsize : g.locals.size = nL) (hstack : g.stack = As.reverse ++ rest) (hW : 2 * g.monitorRoom + (rest.map fun v => v.category).sum ≤ 8) (hdg : decode cc g.pc = .ok (.invokestatic index, 3)) (hf : cells + mc ≤ R.cells ∧ slots + ms ≤ R.slots) :
    vx_Run p l e R s m args below meth c H locs cells slots mc ms g rest (Qc As.toArray) XC free := by
  have hK : vx_Back l R p e below s args y 3 8 (PreOf R mc ms Pc) (PostOf Qc mc ms free) (vx_Post XC mc ms free) := vx_callBack cw.1 hM hp.1
  obtain ⟨⟨-, -, -, -, -, -, hcode, hini, hy, hlen, hl⟩, hstt⟩ := cw
  obtain ⟨hx, hb, hml, ho, -⟩ := S
  intro T hT X
  rcases vx_callS X hx (bytes := bytes) (maxL := maxL) (ret := ret) ho hl hstt hini hcode hy hK hg (hsize.trans hml.symm) (argsL := As) (rest := rest) (fun sig h => hn.trans (hlen sig h)) hstack hW (by rw [hb]; exact hdg)
    (fun vm₁ hW₁ => ⟨hf.1, hf.2, hp.2 (T.setVm vm₁) hT hW₁⟩) with ⟨v, vm₁, ⟨U', l2, c2, s2⟩, hW₁, X', ⟨g', mk, t, L, e1, e2, hq, h1, hL, h2, h3⟩, st⟩ | ⟨q, vm₁, ⟨U', l2, c2, s2⟩, hW₁, X', ⟨g', mk, t, L, E, ce, e1, e2, hq, hce, hcv, hcl, h1, hL, h2, h3⟩, st⟩
  · dsimp only [Pt.U, Pt.locs, Pt.cells, Pt.slots] at X' e1 e2 h1 h2 h3 st
    subst h1; subst h2; subst h3
    exact Or.inl ⟨v, (T.setVm vm₁).calling g' mk As.toArray, t, U', L, hT, X', hL, e1, e2, hq, st⟩
  · dsimp only [Pt.U, Pt.locs, Pt.cells, Pt.slots] at X' e1 e2 h1 h2 h3 st hcl
    subst h1; subst h2; subst h3
    exact Or.inr ⟨q, (T.setVm vm₁).calling g' mk As.toArray, t, U', L, E, ce, hT, X', hL, e1, e2, hq, hce, hcv, vx_cls hW₁ hcl, st⟩
end Runs
section Rows
variable {p : Program} {l : Launch} {e : Env} {R : Room} {s : State} {m : MethodId} {args : Array Value} {below : List Frame} {meth : Method} {c : Code} {H : Heap} {locs : List Loc} {cells slots : Nat} {Q : State → Prop}
variable {mc ms : Nat} {free : Addr → Prop} {A0 A1 : Nat → Prop} {H0 : Heap} {a : Array Value} {pc : Nat} {ls : Array Slot} {st0 rest : List Value}
theorem vx_keep {st₀ t T' : State} {L : List Loc} (h0 : st₀.heap = H) (e1 : T'.heap = t.heap) (hS : va_S A0 H0 H locs) (hA : ∀ q, q < H.size → A1 q → A0 q) (hf : ∀ q, free q → A0 q) (hL : ∀ q ∈ L, free q.base) (hF : va_F A1 st₀ t) :
    H.size ≤ T'.heap.size ∧ (∀ q : Nat, q < H.size → ¬ A1 q → T'.heap[q]? = H[q]?) ∧ va_S A0 H0 T'.heap (locs ++ L) := by
  obtain ⟨hz, hk⟩ := hF
  rw [h0] at hz hk
  exact ⟨by rw [e1]; exact hz, fun q h1 h2 => by rw [e1]; exact hk q h1 h2,
    ⟨Nat.le_trans hS.1 (by rw [e1]; exact hz), fun q h1 h2 => by rw [e1, hk q (Nat.lt_of_lt_of_le h1 hS.1) (fun z => h2 (hA q (Nat.lt_of_lt_of_le h1 hS.1) z))]; exact hS.2.1 q h1 h2, fun q hq => by
      rcases List.mem_append.mp hq with h | h
      · exact hS.2.2 q h
      · exact hf _ (hL q h)⟩⟩
theorem vx_calli {S SX : Type} {post : Int32 → S → Prop} {px : SX → Prop} {B : S → State → Prop} {BX : String → SX → State → Prop} {AX : Nat → Prop} (hr : vx_Run p l e R s m args below meth c H locs cells slots mc ms (F0 m pc ls st0) rest (va_Qi post B A1 a) (vx_X px BX AX) free) (hS : va_S A0 H0 H locs) (hA : ∀ q, q < H.size → A1 q → A0 q) (hf : ∀ q, free q → A0 q) (hAX : ∀ q, q < H.size → AX q → A0 q)
    (kx : ∀ (E : String) (ce : Cell) (q9 : Addr) (u : SX) (t : State) (H1 : Heap) (locs1 : List Loc), t.heap = H1 → s.vm.Alike t.vm → px u → BX E u t → H.size ≤ H1.size → (∀ q : Nat, q < H.size → ¬ AX q → H1[q]? = H[q]?) → va_S A0 H0 H1 locs1 → H1[q9]? = some ce → ce.vm = .none → s.vm.findClass E = some ce.cls → vx_W p l e R s m args below meth c H1 locs1 (cells + mc) (slots + ms) Q (F0 m pc ls rest) q9)
    (kk : ∀ (r : Int32) (u : S) (t : State) (H1 : Heap) (locs1 : List Loc), t.heap = H1 → s.vm.Alike t.vm → post r u → B u t → H.size ≤ H1.size → (∀ q : Nat, q < H.size → ¬ A1 q → H1[q]? = H[q]?) → va_S A0 H0 H1 locs1 → W p l e R s m args below meth c H1 locs1 (cells + mc) (slots + ms) Q (F0 m (pc + 3) ls (.int r :: rest))) : W p l e R s m args below meth c H locs cells slots Q (F0 m pc ls st0) := by
  intro T hT X
  rcases hr T hT X with ⟨v, st₀, t, T', L, h0, X', hL, e1, e2, ⟨⟨r, u, hv, hp, hb⟩, hF⟩, st⟩ | ⟨q, st₀, t, T', L, E, ce, h0, X', hL, e1, e2, ⟨u, hp, hb, hF⟩, hce, hcv, hcl, st⟩
  · cases hv
    obtain ⟨k1, k2, k3⟩ := vx_keep h0 e1 hS hA hf hL hF
    obtain ⟨t2, a1, b1⟩ := kk r u t T'.heap (locs ++ L) e1.symm (by rw [← e2]; exact X'.warmed.alike) hp hb k1 k2 k3 T' rfl X'
    exact ⟨t2, st t2 a1, b1⟩
  · obtain ⟨k1, k2, k3⟩ := vx_keep h0 e1 hS hAX hf hL hF
    obtain ⟨t2, a1, b1⟩ := kx E ce q u t T'.heap (locs ++ L) e1.symm (by rw [← e2]; exact X'.warmed.alike) hp hb k1 k2 k3 (by rw [e1]; exact hce) hcv hcl T' rfl X'
    exact ⟨t2, st.trans a1, b1⟩
theorem vx_calll {S SX : Type} {post : Int64 → S → Prop} {px : SX → Prop} {B : S → State → Prop} {BX : String → SX → State → Prop} {AX : Nat → Prop} (hr : vx_Run p l e R s m args below meth c H locs cells slots mc ms (F0 m pc ls st0) rest (va_Ql post B A1 a) (vx_X px BX AX) free) (hS : va_S A0 H0 H locs) (hA : ∀ q, q < H.size → A1 q → A0 q) (hf : ∀ q, free q → A0 q) (hAX : ∀ q, q < H.size → AX q → A0 q)
    (kx : ∀ (E : String) (ce : Cell) (q9 : Addr) (u : SX) (t : State) (H1 : Heap) (locs1 : List Loc), t.heap = H1 → s.vm.Alike t.vm → px u → BX E u t → H.size ≤ H1.size → (∀ q : Nat, q < H.size → ¬ AX q → H1[q]? = H[q]?) → va_S A0 H0 H1 locs1 → H1[q9]? = some ce → ce.vm = .none → s.vm.findClass E = some ce.cls → vx_W p l e R s m args below meth c H1 locs1 (cells + mc) (slots + ms) Q (F0 m pc ls rest) q9)
    (kk : ∀ (r : Int64) (u : S) (t : State) (H1 : Heap) (locs1 : List Loc), t.heap = H1 → s.vm.Alike t.vm → post r u → B u t → H.size ≤ H1.size → (∀ q : Nat, q < H.size → ¬ A1 q → H1[q]? = H[q]?) → va_S A0 H0 H1 locs1 → W p l e R s m args below meth c H1 locs1 (cells + mc) (slots + ms) Q (F0 m (pc + 3) ls (.long r :: rest))) : W p l e R s m args below meth c H locs cells slots Q (F0 m pc ls st0) := by
  intro T hT X
  rcases hr T hT X with ⟨v, st₀, t, T', L, h0, X', hL, e1, e2, ⟨⟨r, u, hv, hp, hb⟩, hF⟩, st⟩ | ⟨q, st₀, t, T', L, E, ce, h0, X', hL, e1, e2, ⟨u, hp, hb, hF⟩, hce, hcv, hcl, st⟩
  · cases hv
    obtain ⟨k1, k2, k3⟩ := vx_keep h0 e1 hS hA hf hL hF
    obtain ⟨t2, a1, b1⟩ := kk r u t T'.heap (locs ++ L) e1.symm (by rw [← e2]; exact X'.warmed.alike) hp hb k1 k2 k3 T' rfl X'
    exact ⟨t2, st t2 a1, b1⟩
  · obtain ⟨k1, k2, k3⟩ := vx_keep h0 e1 hS hAX hf hL hF
    obtain ⟨t2, a1, b1⟩ := kx E ce q u t T'.heap (locs ++ L) e1.symm (by rw [← e2]; exact X'.warmed.alike) hp hb k1 k2 k3 (by rw [e1]; exact hce) hcv hcl T' rfl X'
    exact ⟨t2, st.trans a1, b1⟩
theorem vx_callf {S SX : Type} {post : UInt32 → S → Prop} {px : SX → Prop} {B : S → State → Prop} {BX : String → SX → State → Prop} {AX : Nat → Prop} (hr : vx_Run p l e R s m args below meth c H locs cells slots mc ms (F0 m pc ls st0) rest (va_Qf post B A1 a) (vx_X px BX AX) free) (hS : va_S A0 H0 H locs) (hA : ∀ q, q < H.size → A1 q → A0 q) (hf : ∀ q, free q → A0 q) (hAX : ∀ q, q < H.size → AX q → A0 q)
    (kx : ∀ (E : String) (ce : Cell) (q9 : Addr) (u : SX) (t : State) (H1 : Heap) (locs1 : List Loc), t.heap = H1 → s.vm.Alike t.vm → px u → BX E u t → H.size ≤ H1.size → (∀ q : Nat, q < H.size → ¬ AX q → H1[q]? = H[q]?) → va_S A0 H0 H1 locs1 → H1[q9]? = some ce → ce.vm = .none → s.vm.findClass E = some ce.cls → vx_W p l e R s m args below meth c H1 locs1 (cells + mc) (slots + ms) Q (F0 m pc ls rest) q9)
    (kk : ∀ (r : UInt32) (u : S) (t : State) (H1 : Heap) (locs1 : List Loc), t.heap = H1 → s.vm.Alike t.vm → post r u → B u t → H.size ≤ H1.size → (∀ q : Nat, q < H.size → ¬ A1 q → H1[q]? = H[q]?) → va_S A0 H0 H1 locs1 → W p l e R s m args below meth c H1 locs1 (cells + mc) (slots + ms) Q (F0 m (pc + 3) ls (.float r :: rest))) : W p l e R s m args below meth c H locs cells slots Q (F0 m pc ls st0) := by
  intro T hT X
  rcases hr T hT X with ⟨v, st₀, t, T', L, h0, X', hL, e1, e2, ⟨⟨r, u, hv, hp, hb⟩, hF⟩, st⟩ | ⟨q, st₀, t, T', L, E, ce, h0, X', hL, e1, e2, ⟨u, hp, hb, hF⟩, hce, hcv, hcl, st⟩
  · cases hv
    obtain ⟨k1, k2, k3⟩ := vx_keep h0 e1 hS hA hf hL hF
    obtain ⟨t2, a1, b1⟩ := kk r u t T'.heap (locs ++ L) e1.symm (by rw [← e2]; exact X'.warmed.alike) hp hb k1 k2 k3 T' rfl X'
    exact ⟨t2, st t2 a1, b1⟩
  · obtain ⟨k1, k2, k3⟩ := vx_keep h0 e1 hS hAX hf hL hF
    obtain ⟨t2, a1, b1⟩ := kx E ce q u t T'.heap (locs ++ L) e1.symm (by rw [← e2]; exact X'.warmed.alike) hp hb k1 k2 k3 (by rw [e1]; exact hce) hcv hcl T' rfl X'
    exact ⟨t2, st.trans a1, b1⟩
theorem vx_calld {S SX : Type} {post : UInt64 → S → Prop} {px : SX → Prop} {B : S → State → Prop} {BX : String → SX → State → Prop} {AX : Nat → Prop} (hr : vx_Run p l e R s m args below meth c H locs cells slots mc ms (F0 m pc ls st0) rest (va_Qd post B A1 a) (vx_X px BX AX) free) (hS : va_S A0 H0 H locs) (hA : ∀ q, q < H.size → A1 q → A0 q) (hf : ∀ q, free q → A0 q) (hAX : ∀ q, q < H.size → AX q → A0 q)
    (kx : ∀ (E : String) (ce : Cell) (q9 : Addr) (u : SX) (t : State) (H1 : Heap) (locs1 : List Loc), t.heap = H1 → s.vm.Alike t.vm → px u → BX E u t → H.size ≤ H1.size → (∀ q : Nat, q < H.size → ¬ AX q → H1[q]? = H[q]?) → va_S A0 H0 H1 locs1 → H1[q9]? = some ce → ce.vm = .none → s.vm.findClass E = some ce.cls → vx_W p l e R s m args below meth c H1 locs1 (cells + mc) (slots + ms) Q (F0 m pc ls rest) q9)
    (kk : ∀ (r : UInt64) (u : S) (t : State) (H1 : Heap) (locs1 : List Loc), t.heap = H1 → s.vm.Alike t.vm → post r u → B u t → H.size ≤ H1.size → (∀ q : Nat, q < H.size → ¬ A1 q → H1[q]? = H[q]?) → va_S A0 H0 H1 locs1 → W p l e R s m args below meth c H1 locs1 (cells + mc) (slots + ms) Q (F0 m (pc + 3) ls (.double r :: rest))) : W p l e R s m args below meth c H locs cells slots Q (F0 m pc ls st0) := by
  intro T hT X
  rcases hr T hT X with ⟨v, st₀, t, T', L, h0, X', hL, e1, e2, ⟨⟨r, u, hv, hp, hb⟩, hF⟩, st⟩ | ⟨q, st₀, t, T', L, E, ce, h0, X', hL, e1, e2, ⟨u, hp, hb, hF⟩, hce, hcv, hcl, st⟩
  · cases hv
    obtain ⟨k1, k2, k3⟩ := vx_keep h0 e1 hS hA hf hL hF
    obtain ⟨t2, a1, b1⟩ := kk r u t T'.heap (locs ++ L) e1.symm (by rw [← e2]; exact X'.warmed.alike) hp hb k1 k2 k3 T' rfl X'
    exact ⟨t2, st t2 a1, b1⟩
  · obtain ⟨k1, k2, k3⟩ := vx_keep h0 e1 hS hAX hf hL hF
    obtain ⟨t2, a1, b1⟩ := kx E ce q u t T'.heap (locs ++ L) e1.symm (by rw [← e2]; exact X'.warmed.alike) hp hb k1 k2 k3 (by rw [e1]; exact hce) hcv hcl T' rfl X'
    exact ⟨t2, st.trans a1, b1⟩
theorem vx_callv {S SX : Type} {post : S → Prop} {px : SX → Prop} {B : S → State → Prop} {BX : String → SX → State → Prop} {AX : Nat → Prop} (hr : vx_Run p l e R s m args below meth c H locs cells slots mc ms (F0 m pc ls st0) rest (va_Qv post B A1 a) (vx_X px BX AX) free) (hS : va_S A0 H0 H locs) (hA : ∀ q, q < H.size → A1 q → A0 q) (hf : ∀ q, free q → A0 q) (hAX : ∀ q, q < H.size → AX q → A0 q)
    (kx : ∀ (E : String) (ce : Cell) (q9 : Addr) (u : SX) (t : State) (H1 : Heap) (locs1 : List Loc), t.heap = H1 → s.vm.Alike t.vm → px u → BX E u t → H.size ≤ H1.size → (∀ q : Nat, q < H.size → ¬ AX q → H1[q]? = H[q]?) → va_S A0 H0 H1 locs1 → H1[q9]? = some ce → ce.vm = .none → s.vm.findClass E = some ce.cls → vx_W p l e R s m args below meth c H1 locs1 (cells + mc) (slots + ms) Q (F0 m pc ls rest) q9)
    (kk : ∀ (u : S) (t : State) (H1 : Heap) (locs1 : List Loc), t.heap = H1 → s.vm.Alike t.vm → post u → B u t → H.size ≤ H1.size → (∀ q : Nat, q < H.size → ¬ A1 q → H1[q]? = H[q]?) → va_S A0 H0 H1 locs1 → W p l e R s m args below meth c H1 locs1 (cells + mc) (slots + ms) Q (F0 m (pc + 3) ls (rest))) : W p l e R s m args below meth c H locs cells slots Q (F0 m pc ls st0) := by
  intro T hT X
  rcases hr T hT X with ⟨v, st₀, t, T', L, h0, X', hL, e1, e2, ⟨⟨u, hv, hp, hb⟩, hF⟩, st⟩ | ⟨q, st₀, t, T', L, E, ce, h0, X', hL, e1, e2, ⟨u, hp, hb, hF⟩, hce, hcv, hcl, st⟩
  · cases hv
    obtain ⟨k1, k2, k3⟩ := vx_keep h0 e1 hS hA hf hL hF
    obtain ⟨t2, a1, b1⟩ := kk u t T'.heap (locs ++ L) e1.symm (by rw [← e2]; exact X'.warmed.alike) hp hb k1 k2 k3 T' rfl X'
    exact ⟨t2, st t2 a1, b1⟩
  · obtain ⟨k1, k2, k3⟩ := vx_keep h0 e1 hS hAX hf hL hF
    obtain ⟨t2, a1, b1⟩ := kx E ce q u t T'.heap (locs ++ L) e1.symm (by rw [← e2]; exact X'.warmed.alike) hp hb k1 k2 k3 (by rw [e1]; exact hce) hcv hcl T' rfl X'
    exact ⟨t2, st.trans a1, b1⟩
theorem vx_catch {own name : String} {E : String} {ce : Cell} {q : Addr} (hown : s.vm.findClass own = some m.cls) (pre : List ExceptionTableEntry) (x : ExceptionTableEntry) (suf : List ExceptionTableEntry) (hsplit : c.exceptionTable.toList = pre ++ x :: suf)
    (hpass : ∀ z ∈ pre, covers z pc = false ∨ (z.catchType ≠ 0 ∧ ∃ nm : String, (Cond.classLink own z.catchType nm).before args s = true ∧ va_Nc E nm s)) (hx : covers x pc = true) (h0 : x.catchType ≠ 0)
    (hlink : (Cond.classLink own x.catchType name).before args s = true) (hcast : (Cond.castable E name).before args s = true) (hcell : H[q]? = some ce) (hv : ce.vm = .none) (hcl : s.vm.findClass E = some ce.cls)
    (kk : W p l e R s m args below meth c H locs cells slots Q (F0 m x.handlerPc ls [.ref q])) : vx_W p l e R s m args below meth c H locs cells slots Q (F0 m pc ls rest) q := by
  intro T hT X
  have hpl : e.platform.magicAccessors = ({} : Platform).magicAccessors := by rw [X.admits.platform]
  obtain ⟨c3, c4, hc3, hc4, hasg⟩ := Cond.castable_spec hcast
  cases Option.some.inj (hc3.symm.trans hcl)
  obtain ⟨c5, hc5, hcl5⟩ := Cond.classLink_spec hown hlink e.platform hpl
  cases Option.some.inj (hc4.symm.trans hc5)
  obtain ⟨vm', X', st⟩ := X.thenCaughtThrough q (g := F0 m pc ls rest) rfl (Steps.refl _) (by rw [hT]; exact hcell) (by rw [hv]; rfl) (by obtain ⟨k9, h9, -⟩ := Vm.findClass_spec hcl; exact ⟨k9, h9⟩) pre x suf hsplit
    (fun z hz => by
      rcases hpass z hz with h | ⟨hz0, nm, hl1, hn1⟩
      · exact Or.inl h
      · obtain ⟨c6, hc6, hcl6⟩ := Cond.classLink_spec hown hl1 e.platform hpl
        obtain ⟨a8, b8, h1, h2, h3⟩ := hn1
        cases Option.some.inj (h1.symm.trans hcl)
        cases Option.some.inj (h2.symm.trans hc6)
        exact Or.inr ⟨hz0, _, hcl6, h3⟩) hx (Or.inr ⟨h0, c4, hcl5, hasg⟩)
  obtain ⟨t, a1, b1⟩ := kk (T.setVm vm') hT X'
  exact ⟨t, st.trans a1, b1⟩
end Rows
section Ends
variable {p : Program} {l : Launch} {e : Env} {R : Room} {s : State} {m : MethodId} {args : Array Value} {below : List Frame} {meth : Method} {c : Code} {H : Heap} {locs : List Loc} {cells slots : Nat} {Q : State → Prop}
variable {mc ms : Nat} {free : Addr → Prop} {A0 A1 : Nat → Prop} {H0 : Heap} {a : Array Value} {ls : Array Slot} {st0 rest : List Value}
variable {Qc : Array Value → State → Outcome → State → Prop} {XC : String → State → State → Prop}
def vx_MQ (below : List Frame) (Qc : Array Value → State → Outcome → State → Prop) (XC : String → State → State → Prop) (a : Array Value) (s : State) (mc ms : Nat) (free : Addr → Prop) : State → Prop := fun t =>
  ∃ o, t.status = .running ∧ Ended t below o ∧ vx_Q Qc XC mc ms free a s o t
theorem vx_ret {g : JFrame} {mc ms : Nat} (k : W p l e R s m args below meth c H locs cells slots (MQ below Qc args s mc ms free) g) : W p l e R s m args below meth c H locs cells slots (vx_MQ below Qc XC args s mc ms free) g := by
  intro T hT X
  obtain ⟨t, a1, o, b1, b2, b3, b4⟩ := k T hT X
  exact ⟨t, a1, o, b1, b2, Or.inl ⟨b3, b4⟩⟩
theorem vx_widen {g : JFrame} {q : Addr} {k n : Nat} (h1 : cells ≤ k) (h2 : slots ≤ n) (kk : vx_W p l e R s m args below meth c H locs k n Q g q) : vx_W p l e R s m args below meth c H locs cells slots Q g q := fun T hT X => kk T hT (stand_widen X h1 h2)
theorem vx_out {pc : Nat} {E : String} {ce : Cell} {q : Addr} {mc ms : Nat} (hout : ∀ x ∈ c.exceptionTable.toList, covers x pc = false) (hlocks : meth.locks = false) (hcell : H[q]? = some ce) (hv : ce.vm = .none) (hcl : s.vm.findClass E = some ce.cls)
    (hx : ∀ t : State, t.heap = H → s.vm.Alike t.vm → XC E s t) (hf : ∀ z ∈ locs, free z.base) (hc : cells ≤ mc) (hs : slots ≤ ms) :
    vx_W p l e R s m args below meth c H locs cells slots (vx_MQ below Qc XC args s mc ms free) (F0 m pc ls rest) q := by
  intro T hT X
  obtain ⟨st1, hrun, hend, hW, hsm⟩ := X.leaveThrown q (g := F0 m pc ls rest) rfl rfl rfl hout hlocks
  have hcell9 : (T.setFrames (.throwing q :: below)).heap[q]? = some ce := by
    show T.heap[q]? = some ce
    rw [hT]; exact hcell
  exact ⟨_, st1, .threw q, hrun, hend, Or.inr ⟨q, rfl, E, ce, locs, hx _ hT hW.alike, hcell9, hv, hcl, hW, hsm.mono hc hs, hf⟩⟩
theorem vx_frame {U : State} {k n : Nat} (h : s.sameButNew ({ U with vm := s.vm } : State) locs k n) : s.heap.size ≤ U.heap.size ∧ ∀ q : Nat, q < s.heap.size → (∀ z ∈ locs, z.base ≠ q) → U.heap[q]? = s.heap[q]? := by
  obtain ⟨-, h2, -, -, -, h6⟩ := h
  refine ⟨h2, fun q hq hz => ?_⟩
  obtain ⟨c9, e1, e2, e3, e4⟩ := h6 q _ (Array.getElem?_eq_getElem hq)
  have hs : c9.slots = (s.heap[q]).slots := Array.ext_getElem? fun i => e4 i fun hm => hz _ hm rfl
  have h9 : c9 = s.heap[q] := by
    rw [hs] at e2
    exact e2
  have e5 : U.heap[q]? = some c9 := e1
  rw [e5, h9, Array.getElem?_eq_getElem hq]
def vx_no (w : Cond) : Bool := decide (w ≠ .isRef (.static Bundle.tN "UNASSIGNED_STACK" Bundle.steD)) && decide (w ≠ .isRef (.static Bundle.tN "SUPPRESSED_SENTINEL" Bundle.listD)) && decide (w ≠ .laysStatic Bundle.tN "UNASSIGNED_STACK" Bundle.steD) && decide (w ≠ .laysStatic Bundle.tN "SUPPRESSED_SENTINEL" Bundle.listD)
def vx_at0 (own : String) (ic : Nat) (X : String) (names : List String) : List Cond := (Bundle.ownAtoms0 own ic X names).filter vx_no
def vx_atS (own : String) (ic : Nat) (X : String) (names : List String) : List Cond := (Bundle.ownAtoms own ic X names).filter vx_no
def vx_ot (w : Cond) : Bool := w.onTables || goodWord w
theorem vx_ot_at {args a' : Array Value} {s U : State} {w : Cond} (hW : s.WarmedH U.vm) (hvm : s.vm = U.vm) (hg : vx_ot w = true) (h : w.before args s = true) : w.before a' U = true := by
  simp only [vx_ot, Bool.or_eq_true] at hg
  rcases hg with hg | hg
  · exact va_tabs hg hvm h
  · exact word_at hW (good_of_word hg) h
theorem vx_hat {args : Array Value} {s : State} {L B : List Cond} (h1 : ∀ w ∈ L.filter goodWord, w.before args s = true) (h2 : ∀ w ∈ L.filter (fun w => !goodWord w), w ∈ B) (h3 : ∀ w ∈ B, w.before args s = true) : ∀ w ∈ L, w.before args s = true := by
  intro w hw
  by_cases g : goodWord w = true
  · exact h1 w (List.mem_filter.mpr ⟨hw, g⟩)
  · refine h3 w (h2 w (List.mem_filter.mpr ⟨hw, ?_⟩))
    show (!goodWord w) = true
    cases hgw : goodWord w
    · rfl
    · exact absurd hgw g
theorem vx_c {args : Array Value} {s : State} {w : Cond} {B : List Cond} (h : w.before args s = true) (t : ∀ w ∈ B, w.before args s = true) : ∀ w' ∈ w :: B, w'.before args s = true := fun w' h' => (List.mem_cons.mp h').elim (fun e => by rw [e]; exact h) (t w')
theorem vx_n {args : Array Value} {s : State} : ∀ w ∈ ([] : List Cond), w.before args s = true := fun _ h => nomatch h
theorem vx_own {args : Array Value} {s : State} {L : List Cond} (h1 : ∀ w ∈ L.filter vx_no, w.before args s = true)
    (hU : (Cond.isRef (.static Bundle.tN "UNASSIGNED_STACK" Bundle.steD)).before args s = true) (hN : (Cond.isRef (.static Bundle.tN "SUPPRESSED_SENTINEL" Bundle.listD)).before args s = true)
    (lU : (Cond.laysStatic Bundle.tN "UNASSIGNED_STACK" Bundle.steD).before args s = true) (lN : (Cond.laysStatic Bundle.tN "SUPPRESSED_SENTINEL" Bundle.listD).before args s = true) : ∀ w ∈ L, w.before args s = true := by
  intro w hw
  by_cases e1 : w = .isRef (.static Bundle.tN "UNASSIGNED_STACK" Bundle.steD)
  · rw [e1]; exact hU
  · by_cases e2 : w = .isRef (.static Bundle.tN "SUPPRESSED_SENTINEL" Bundle.listD)
    · rw [e2]; exact hN
    · by_cases e3 : w = .laysStatic Bundle.tN "UNASSIGNED_STACK" Bundle.steD
      · rw [e3]; exact lU
      · by_cases e4 : w = .laysStatic Bundle.tN "SUPPRESSED_SENTINEL" Bundle.listD
        · rw [e4]; exact lN
        · exact h1 w (List.mem_filter.mpr ⟨hw, by unfold vx_no; rw [decide_eq_true e1, decide_eq_true e2, decide_eq_true e3, decide_eq_true e4]; rfl⟩)
def vx_L (C n d : String) (A : Nat → Prop) (U : State) (H : Heap) : Prop := ∃ (c : ClassId) (k : Class) (i : Nat) (f : Field) (a : Nat) (cell : Cell), U.vm.findClass C = some c ∧ U.fieldFound? C n d = some (c, k, i, f) ∧ f.isStatic = true ∧ k.statics = some a ∧ H[a]? = some cell ∧ cell.vm.isStatics = true ∧ cell.cls = c ∧ f.slot < cell.slots.size ∧ k.staticTypes[f.slot]? = some f.type ∧ ¬ A a
theorem vx_L.moved {C n d : String} {A : Nat → Prop} {u U : State} {H : Heap} (hvm : u.vm.Alike U.vm) (h : vx_L C n d A u H) : vx_L C n d A U H := by
  obtain ⟨c, k, i, f, a, cell, h1, h2, h3, h4, h5, h6, h7, h8, h9, h10⟩ := h
  obtain ⟨k', hi', he⟩ := State.fieldFound?_setVm hvm h2
  exact ⟨c, k', i, f, a, cell, by rw [hvm.findClass]; exact h1, hi', h3, by rw [he]; exact h4, h5, h6, h7, h8, by rw [he]; exact h9, h10⟩
theorem vx_L.kept {C n d : String} {A : Nat → Prop} {U : State} {H H1 : Heap} (h : vx_L C n d A U H) (hq : ∀ a : Nat, a < H.size → ¬ A a → H1[a]? = H[a]?) : vx_L C n d A U H1 := by
  obtain ⟨c, k, i, f, a, cell, h1, h2, h3, h4, h5, h6, h7, h8, h9, h10⟩ := h
  exact ⟨c, k, i, f, a, cell, h1, h2, h3, h4, by rw [hq a (Array.getElem?_eq_some_iff.mp h5).1 h10]; exact h5, h6, h7, h8, h9, h10⟩
theorem vx_L.narrow {C n d : String} {A B : Nat → Prop} {U : State} {H : Heap} (h : vx_L C n d A U H) (hAB : ∀ q, B q → A q) : vx_L C n d B U H := by
  obtain ⟨c, k, i, f, a, cell, h1, h2, h3, h4, h5, h6, h7, h8, h9, h10⟩ := h
  exact ⟨c, k, i, f, a, cell, h1, h2, h3, h4, h5, h6, h7, h8, h9, fun z => h10 (hAB _ z)⟩
theorem vx_L.word {C n d : String} {A : Nat → Prop} {s : State} {args : Array Value} (h : vx_L C n d A s s.heap) : (Cond.laysStatic C n d).before args s = true := by
  obtain ⟨c, k, i, f, a, cell, h1, h2, h3, h4, h5, h6, h7, h8, h9, -⟩ := h
  show (Cond.laysStatic C n d).holds args s none s [] = true
  exact Cond.laysStatic_of h1 h2 h3 h4 h5 h6 h7 h8 h9
def vx_Zq (C n d : String) (A : Nat → Prop) (U : State) (H : Heap) : Prop := va_Zq C n d A U H ∧ vx_L C n d A U H
theorem vx_Zq.moved {C n d : String} {A : Nat → Prop} {u U : State} {H : Heap} (hvm : u.vm.Alike U.vm) (h : vx_Zq C n d A u H) : vx_Zq C n d A U H := ⟨va_Zq.moved hvm h.1, vx_L.moved hvm h.2⟩
theorem vx_Zq.kept {C n d : String} {A : Nat → Prop} {U : State} {H H1 : Heap} (h : vx_Zq C n d A U H) (hq : ∀ a : Nat, a < H.size → ¬ A a → H1[a]? = H[a]?) : vx_Zq C n d A U H1 := ⟨va_Zq.kept h.1 hq, vx_L.kept h.2 hq⟩
theorem vx_Zq.narrow {C n d : String} {A B : Nat → Prop} {U : State} {H : Heap} (h : vx_Zq C n d A U H) (hAB : ∀ q, B q → A q) : vx_Zq C n d B U H := ⟨va_Zq.narrow h.1 hAB, vx_L.narrow h.2 hAB⟩
theorem vx_Zqof {args : Array Value} {s : State} {C n d : String} {A : Nat → Prop} (hl : (Cond.laysStatic C n d).before args s = true) (hini : (Cond.initialized C).before args s = true) (h : (Cond.isRef (.static C n d)).before args s = true) (hA : ∀ a : Nat, a < s.heap.size → ¬ A a) : vx_Zq C n d A s s.heap := by
  refine ⟨va_Zqof hl hini h hA, ?_⟩
  obtain ⟨c, k, i, f, a, cell, h1, h2, h3, h4, h5, h6, h7, h8, h9⟩ := Cond.laysStatic_spec hl
  exact ⟨c, k, i, f, a, cell, h1, h2, h3, h4, h5, h6, h7, h8, h9, hA a (Array.getElem?_eq_some_iff.mp h5).1⟩
theorem vx_isRef {C n d : String} {v : Value} {A : Nat → Prop} {s : State} {args : Array Value} (h : va_Z C n d v A s s.heap) (hv : v.isRef = true) : (Cond.isRef (.static C n d)).before args s = true := by
  obtain ⟨cf, kf, fi, f, a, cell, h1, h2, h3, h4, h5, h6, h7, -⟩ := h
  have he : (Term.static C n d).eval args s none [] s = some v := by
    simp [Term.eval, State.fieldNamed?, h1, h2, h4, h5, h6, h7]
  simp only [Cond.before, Cond.holds, Cond.value, he]
  cases v <;> simp_all [Value.isRef]
theorem vx_isRefq {C n d : String} {A : Nat → Prop} {s : State} {args : Array Value} (h : va_Zq C n d A s s.heap) : (Cond.isRef (.static C n d)).before args s = true := by
  rcases h with h | ⟨t, h⟩
  · exact vx_isRef h rfl
  · exact vx_isRef h rfl
theorem vx_rebase {T : State} (X : Stand p l e R s m args below meth c T locs cells slots) {R' : Room} (hf : R'.frames ≤ R.frames) (hl : R'.locals ≤ R.locals) (hc : cells + R'.cells ≤ R.cells) (hs : slots + R'.slots ≤ R.slots) :
    Stand p l e R' ((T.setVm s.vm).setFrames (.invoking m args :: below)) m args below meth c T [] 0 0 := by
  have htop : (T.setVm s.vm).topJava?.isSome := X.here.top
  have hF : ((T.setVm s.vm).setFrames (.invoking m args :: below)).frames = .invoking m args :: below := State.frames_setFrames _ (State.cur_lt_of_top htop)
  obtain ⟨g₀, hg0⟩ := Option.isSome_iff_exists.mp htop
  obtain ⟨r, hr⟩ := State.topJava?_eq_some.mp hg0
  have hl9 : e.platform.stackLimits (T.setVm s.vm).me = e.platform.stackLimits s.me := X.limits
  have hb9 : (T.setVm s.vm).me.stackBytes = s.me.stackBytes := X.bytes
  refine ⟨X.admits, X.cas, X.clock, hF, ?_, X.hears, X.method, X.code, X.here, X.tail, X.warmed, ?_, ?_, ?_⟩
  · have h := X.room
    have hU : ((T.setVm s.vm).setFrames (.invoking m args :: below)).localsInUse = s.localsInUse := by
      rw [State.localsInUse_invoking hF (meth := meth) (c := c) X.method X.code, State.localsInUse_invoking X.frames X.method X.code]
    simp only [State.hasRoom, Bool.and_eq_true, decide_eq_true_eq] at h ⊢
    obtain ⟨⟨⟨⟨h1, h2, h3, h4, h5, h6⟩, h7⟩, h8⟩, h9⟩ := h
    rw [X.frames, List.length_cons] at h2 h3
    have q1 := X.heapSize
    have q2 := X.used
    simp only [hF, hU, List.length_cons, State.stackLimits_setFrames, State.stackBytes_setFrames, hl9, hb9]
    refine ⟨⟨⟨⟨by omega, by omega, by omega, by omega, by omega, h6⟩, ?_⟩, ?_⟩, X.book⟩
    · show T.heap.size + R'.cells ≤ e.platform.maxCells
      omega
    · show T.slotsUsed + R'.slots ≤ e.platform.maxSlots
      omega
  · rw [State.stackLimits_setFrames]; rfl
  · rw [State.stackBytes_setFrames]; rfl
  · refine ⟨?_, Nat.le_refl _, Nat.le_refl _, ?_, ?_, fun a c9 h9 => ⟨c9, h9, rfl, rfl, fun _ _ => rfl⟩⟩
    · obtain ⟨t, ht, -⟩ := State.frames_cons hr
      show T.setVm s.vm = { ((T.setVm s.vm).setFrames (.invoking m args :: below)).setFrames (T.setVm s.vm).frames with heap := T.heap, slotsUsed := T.slotsUsed }
      rw [State.setFrames_setFrames, State.setFrames_self ht]
      rfl
    · show T.slotsUsed = T.slotsUsed + ((T.heap.toList.drop T.heap.size).map (·.slots.size)).sum
      rw [List.drop_eq_nil_of_le (Nat.le_of_eq Array.length_toList)]
      rfl
    · show ((T.heap.toList.drop T.heap.size).map (·.slots.size)).sum ≤ 0
      rw [List.drop_eq_nil_of_le (Nat.le_of_eq Array.length_toList)]
      exact Nat.le_refl _
theorem vx_throw0 {cc : ByteArray} {pc : Nat} (hexec : p.tables.exec = Jvm.exec) (hb : c.code = cc) (hl : l.stackTraces = false) {own cls : String} {names : List String} {ik ic mc ms : Nat} {A : Nat → Prop}
    (hown : s.vm.findClass own = some m.cls) (hcls : Bundle.fit cls = true) (hnames : ∀ n ∈ names, Bundle.fit n = true)
    (hk : (Cond.classLink own ik cls).before args s = true) (hini : (Cond.initialized cls).before args s = true) (hat : ∀ w ∈ vx_at0 own ic cls names, w.before args s = true)
    (hgood : ∀ w ∈ Cond.classLink own ik cls :: Cond.initialized cls :: vx_at0 own ic cls names, vx_ot w = true)
    (hU : vx_Zq Bundle.tN "UNASSIGNED_STACK" Bundle.steD A s s.heap) (hN : vx_Zq Bundle.tN "SUPPRESSED_SENTINEL" Bundle.listD A s s.heap) (hS : va_S A s.heap H locs) (hsize : ls.size = c.maxLocals)
    (d0 : decode cc pc = .ok (.new ik, 3)) (d3 : decode cc (pc + 3) = .ok (.dup, 1)) (d4 : decode cc (pc + 4) = .ok (.invokespecial ic, 3)) (d7 : decode cc (pc + 7) = .ok (.athrow, 1))
    (hout : ∀ x ∈ c.exceptionTable.toList, covers x (pc + 7) = false)
    (hRframes : names.length + 3 < R.frames) (hRlocals : (rest.map fun v => v.category).sum + (13 * (names.length + 1) + 42) ≤ R.locals) (hRcells : cells + 1 ≤ R.cells) (hRslots : slots + 6 ≤ R.slots) (hlocks : meth.locks = false)
    (hx : ∀ t : State, s.vm.Alike t.vm → H.size ≤ t.heap.size → (∀ q : Nat, q < H.size → t.heap[q]? = H[q]?) → XC cls s t)
    (hf : ∀ z ∈ locs, free z.base) (hc : cells + 1 ≤ mc) (hs : slots + 6 ≤ ms) :
    W p l e R s m args below meth c H locs cells slots (vx_MQ below Qc XC args s mc ms free) (F0 m pc ls rest) := by
  intro T hT X
  have htr : e.platform.stackTraces = false := (show e.platform.stackTraces = l.stackTraces by rw [X.admits.platform]).trans hl
  have Y := vx_rebase X (R' := { frames := R.frames, locals := R.locals, cells := 1, slots := 6 }) (Nat.le_refl _) (Nat.le_refl _) hRcells hRslots
  obtain ⟨s', hA⟩ : ∃ z, z = (T.setVm s.vm).setFrames (.invoking m args :: below) := ⟨_, rfl⟩
  rw [← hA] at Y
  have hvm : s'.vm = s.vm := by rw [hA]; rfl
  have hhp : s'.heap = H := by rw [hA]; exact hT
  have hW0 : s.WarmedH s'.vm := by rw [hvm]; exact State.WarmedH.refl s
  have hat' : ∀ w ∈ vx_at0 own ic cls names, w.before args s' = true := fun w hw => vx_ot_at hW0 hvm.symm (hgood w (List.mem_cons_of_mem _ (List.mem_cons_of_mem _ hw))) (hat w hw)
  have hk' : (Cond.classLink own ik cls).before args s' = true := vx_ot_at hW0 hvm.symm (hgood _ List.mem_cons_self) hk
  have hini' : (Cond.initialized cls).before args s' = true := vx_ot_at hW0 hvm.symm (hgood _ (List.mem_cons_of_mem _ List.mem_cons_self)) hini
  have hU' : vx_Zq Bundle.tN "UNASSIGNED_STACK" Bundle.steD A s' s'.heap := by rw [hhp]; exact vx_Zq.moved hW0.alike (hU.kept hS.2.1)
  have hN' : vx_Zq Bundle.tN "SUPPRESSED_SENTINEL" Bundle.listD A s' s'.heap := by rw [hhp]; exact vx_Zq.moved hW0.alike (hN.kept hS.2.1)
  have h : ∀ w ∈ Bundle.ownAtoms0 own ic cls names, w.before args s' = true := vx_own hat' (vx_isRefq hU'.1) (vx_isRefq hN'.1) hU'.2.word hN'.2.word
  have hown' : s'.vm.findClass own = some m.cls := by rw [hvm]; exact hown
  have hins : (Cond.instantiable cls 6).before args s' = true := h _ (by simp [Bundle.ownAtoms0])
  obtain ⟨vm₁, cX, kX, hfX, hkX, -, -, X₁, st1⟩ := Y.newCold hexec (own := own) (C := cls) (index := ik) (n := 6) hown' hk' hins hini'
    (g := F0 m pc ls rest) rfl (by rw [hb]; exact d0) (Nat.le_refl _) (Nat.le_refl _)
  generalize hT1 : (T.setVm vm₁).pushCell { cls := cX, slots := kX.instanceTypes.map defaultValue, vm := .none } = T1 at X₁ st1
  have hcat : (Value.ref T.heap.size).category = 1 := rfl
  have hcellA : T1.heap[T.heap.size]? = some (freshCell cX kX) := by rw [← hT1]; exact State.heap_pushCell_size _ _
  have d3' : decode c.code (pc + 3) = .ok (.dup, 1) := by rw [hb]; exact d3
  obtain ⟨U, hsteps, hrun, hend, hW, hsame, ce, hce, hO⟩ := X₁.ctorThrow0 hexec htr (own := own) (cls := cls) (names := names) (ic := ic) hown' hcls hnames h (fun x hx => nomatch hx) hfX hkX hcellA (by rw [hhp, hT]; exact Nat.le_refl _)
    (g := { method := m, pc := pc + 4, locals := ls, stack := .ref T.heap.size :: .ref T.heap.size :: rest, locked := none }) rfl hsize rfl rfl (rest := rest) rfl
    (by rw [hb]; exact d4) (by rw [hb]; exact d7) hout hRframes (by simp only [List.map_cons, List.sum_cons, hcat]; omega) hlocks
  obtain ⟨f1, f2⟩ := vx_frame hsame
  rw [hhp] at f1 f2
  have hWs : s.WarmedH U.vm := State.WarmedH.trans hW0 hW
  have hcl : s.vm.findClass cls = some ce.cls := by
    have h9 := hO.cls
    rw [hvm] at h9
    exact h9
  have hall : s.sameButNew ({ U with vm := s.vm } : State) locs mc ms := by
    subst hA
    obtain ⟨e1, e2⟩ := hsame
    rw [State.setFrames_setFrames] at e1
    have h2 : (T.setVm s.vm).sameButNew ({ U with vm := s.vm } : State) [] (0 + 1) (0 + 6) := ⟨e1, e2⟩
    have h3 := X.same.trans h2
    rw [List.append_nil] at h3
    exact h3.mono hc hs
  refine ⟨U, ?_, .threw T.heap.size, hrun, hend, Or.inr ⟨T.heap.size, rfl, cls, ce, locs, hx U hWs.alike f1 (fun q hq => f2 q hq (fun z hz => nomatch hz)), hce, hO.vm, hcl, hWs, hall, hf⟩⟩
  refine st1 _ ?_
  show Steps p.tables e below (T1.setTop { method := m, pc := pc + 3, locals := ls, stack := .ref T.heap.size :: rest, locked := none }) _
  jvm_step X₁.here [X₁.here.top, hexec, d3', Value.category]
  exact hsteps
theorem vx_throwS {cc : ByteArray} {pc : Nat} (hexec : p.tables.exec = Jvm.exec) (hb : c.code = cc) (hl : l.stackTraces = false) {own cls text : String} {names : List String} {ik is ic mc ms sa : Nat} {A : Nat → Prop}
    (hown : s.vm.findClass own = some m.cls) (hcls : Bundle.fit cls = true) (hnames : ∀ n ∈ names, Bundle.fit n = true)
    (hk : (Cond.classLink own ik cls).before args s = true) (hini : (Cond.initialized cls).before args s = true) (hstr : vk_R own is text sa s) (hat : ∀ w ∈ vx_atS own ic cls names, w.before args s = true)
    (hgood : ∀ w ∈ Cond.classLink own ik cls :: Cond.initialized cls :: vx_atS own ic cls names, vx_ot w = true)
    (hU : vx_Zq Bundle.tN "UNASSIGNED_STACK" Bundle.steD A s s.heap) (hN : vx_Zq Bundle.tN "SUPPRESSED_SENTINEL" Bundle.listD A s s.heap) (hS : va_S A s.heap H locs) (hsize : ls.size = c.maxLocals)
    (d0 : decode cc pc = .ok (.new ik, 3)) (d3 : decode cc (pc + 3) = .ok (.dup, 1)) (d4 : decode cc (pc + 4) = .ok (.ldc is, 2)) (d6 : decode cc (pc + 6) = .ok (.invokespecial ic, 3)) (d9 : decode cc (pc + 9) = .ok (.athrow, 1))
    (hout : ∀ x ∈ c.exceptionTable.toList, covers x (pc + 9) = false)
    (hRframes : names.length + 3 < R.frames) (hRlocals : (rest.map fun v => v.category).sum + (13 * (names.length + 1) + 43) ≤ R.locals) (hRcells : cells + 1 ≤ R.cells) (hRslots : slots + 6 ≤ R.slots) (hlocks : meth.locks = false)
    (hx : ∀ t : State, s.vm.Alike t.vm → H.size ≤ t.heap.size → (∀ q : Nat, q < H.size → t.heap[q]? = H[q]?) → XC cls s t)
    (hf : ∀ z ∈ locs, free z.base) (hc : cells + 1 ≤ mc) (hs : slots + 6 ≤ ms) :
    W p l e R s m args below meth c H locs cells slots (vx_MQ below Qc XC args s mc ms free) (F0 m pc ls rest) := by
  intro T hT X
  have htr : e.platform.stackTraces = false := (show e.platform.stackTraces = l.stackTraces by rw [X.admits.platform]).trans hl
  have Y := vx_rebase X (R' := { frames := R.frames, locals := R.locals, cells := 1, slots := 6 }) (Nat.le_refl _) (Nat.le_refl _) hRcells hRslots
  obtain ⟨s', hA⟩ : ∃ z, z = (T.setVm s.vm).setFrames (.invoking m args :: below) := ⟨_, rfl⟩
  rw [← hA] at Y
  have hvm : s'.vm = s.vm := by rw [hA]; rfl
  have hhp : s'.heap = H := by rw [hA]; exact hT
  have hW0 : s.WarmedH s'.vm := by rw [hvm]; exact State.WarmedH.refl s
  have hat' : ∀ w ∈ vx_atS own ic cls names, w.before args s' = true := fun w hw => vx_ot_at hW0 hvm.symm (hgood w (List.mem_cons_of_mem _ (List.mem_cons_of_mem _ hw))) (hat w hw)
  have hk' : (Cond.classLink own ik cls).before args s' = true := vx_ot_at hW0 hvm.symm (hgood _ List.mem_cons_self) hk
  have hini' : (Cond.initialized cls).before args s' = true := vx_ot_at hW0 hvm.symm (hgood _ (List.mem_cons_of_mem _ List.mem_cons_self)) hini
  have hU' : vx_Zq Bundle.tN "UNASSIGNED_STACK" Bundle.steD A s' s'.heap := by rw [hhp]; exact vx_Zq.moved hW0.alike (hU.kept hS.2.1)
  have hN' : vx_Zq Bundle.tN "SUPPRESSED_SENTINEL" Bundle.listD A s' s'.heap := by rw [hhp]; exact vx_Zq.moved hW0.alike (hN.kept hS.2.1)
  have h : ∀ w ∈ Bundle.ownAtoms own ic cls names, w.before args s' = true := vx_own hat' (vx_isRefq hU'.1) (vx_isRefq hN'.1) hU'.2.word hN'.2.word
  have hown' : s'.vm.findClass own = some m.cls := by rw [hvm]; exact hown
  have hins : (Cond.instantiable cls 6).before args s' = true := h _ (by simp [Bundle.ownAtoms])
  obtain ⟨vm₁, cX, kX, hfX, hkX, -, -, X₁, st1⟩ := Y.newCold hexec (own := own) (C := cls) (index := ik) (n := 6) hown' hk' hins hini'
    (g := F0 m pc ls rest) rfl (by rw [hb]; exact d0) (Nat.le_refl _) (Nat.le_refl _)
  generalize hT1 : (T.setVm vm₁).pushCell { cls := cX, slots := kX.instanceTypes.map defaultValue, vm := .none } = T1 at X₁ st1
  have hcat : (Value.ref T.heap.size).category = 1 := rfl
  have hcellA : T1.heap[T.heap.size]? = some (freshCell cX kX) := by rw [← hT1]; exact State.heap_pushCell_size _ _
  have d3' : decode c.code (pc + 3) = .ok (.dup, 1) := by rw [hb]; exact d3
  have d4' : decode c.code (pc + 4) = .ok (.ldc is, 2) := by rw [hb]; exact d4
  have hstr' : vk_R own is text sa s' := vk_R.warm hW0 hstr
  obtain ⟨U, hsteps, hrun, hend, hW, hsame, ce, hce, hO⟩ := X₁.ctorThrowS hexec htr (own := own) (cls := cls) (names := names) (ic := ic) hown' hcls hnames h (fun x hx => nomatch hx) hfX hkX hcellA (by rw [hhp, hT]; exact Nat.le_refl _) (msg := .ref sa) rfl
    (g := { method := m, pc := pc + 6, locals := ls, stack := .ref sa :: .ref T.heap.size :: .ref T.heap.size :: rest, locked := none }) rfl hsize rfl rfl (rest := rest) rfl
    (by rw [hb]; exact d6) (by rw [hb]; exact d9) hout hRframes (by simp only [List.map_cons, List.sum_cons, hcat]; omega) hlocks
  obtain ⟨f1, f2⟩ := vx_frame hsame
  rw [hhp] at f1 f2
  have hWs : s.WarmedH U.vm := State.WarmedH.trans hW0 hW
  have hcl : s.vm.findClass cls = some ce.cls := by
    have h9 := hO.cls
    rw [hvm] at h9
    exact h9
  have hall : s.sameButNew ({ U with vm := s.vm } : State) locs mc ms := by
    subst hA
    obtain ⟨e1, e2⟩ := hsame
    rw [State.setFrames_setFrames] at e1
    have h2 : (T.setVm s.vm).sameButNew ({ U with vm := s.vm } : State) [] (0 + 1) (0 + 6) := ⟨e1, e2⟩
    have h3 := X.same.trans h2
    rw [List.append_nil] at h3
    exact h3.mono hc hs
  refine ⟨U, ?_, .threw T.heap.size, hrun, hend, Or.inr ⟨T.heap.size, rfl, cls, ce, locs, hx U hWs.alike f1 (fun q hq => f2 q hq (fun z hz => nomatch hz)), hce, hO.vm, hcl, hWs, hall, hf⟩⟩
  refine st1 _ ?_
  show Steps p.tables e below (T1.setTop { method := m, pc := pc + 3, locals := ls, stack := .ref T.heap.size :: rest, locked := none }) _
  jvm_step X₁.here [X₁.here.top, hexec, d3', Value.category]
  exact X₁.ldcString hexec (own := own) (text := text) (index := is) (a := sa) hown' hstr'.1 hstr'.2
    (g := { method := m, pc := pc + 4, locals := ls, stack := .ref T.heap.size :: .ref T.heap.size :: rest, locked := none }) rfl d4' _ hsteps
theorem vx_throwSW {cc : ByteArray} {pc : Nat} (hexec : p.tables.exec = Jvm.exec) (hb : c.code = cc) (hl : l.stackTraces = false) {own cls text : String} {names : List String} {ik is ic mc ms sa : Nat} {A : Nat → Prop}
    (hown : s.vm.findClass own = some m.cls) (hcls : Bundle.fit cls = true) (hnames : ∀ n ∈ names, Bundle.fit n = true)
    (hk : (Cond.classLink own ik cls).before args s = true) (hini : (Cond.initialized cls).before args s = true) (hstr : vk_R own is text sa s) (hat : ∀ w ∈ vx_atS own ic cls names, w.before args s = true)
    (hgood : ∀ w ∈ Cond.classLink own ik cls :: Cond.initialized cls :: vx_atS own ic cls names, vx_ot w = true)
    (hU : vx_Zq Bundle.tN "UNASSIGNED_STACK" Bundle.steD A s s.heap) (hN : vx_Zq Bundle.tN "SUPPRESSED_SENTINEL" Bundle.listD A s s.heap) (hS : va_S A s.heap H locs) (hsize : ls.size = c.maxLocals)
    (d0 : decode cc pc = .ok (.new ik, 3)) (d3 : decode cc (pc + 3) = .ok (.dup, 1)) (d4 : decode cc (pc + 4) = .ok (.ldc_w is, 3)) (d7 : decode cc (pc + 7) = .ok (.invokespecial ic, 3)) (d10 : decode cc (pc + 10) = .ok (.athrow, 1))
    (hout : ∀ x ∈ c.exceptionTable.toList, covers x (pc + 10) = false)
    (hRframes : names.length + 3 < R.frames) (hRlocals : (rest.map fun v => v.category).sum + (13 * (names.length + 1) + 43) ≤ R.locals) (hRcells : cells + 1 ≤ R.cells) (hRslots : slots + 6 ≤ R.slots) (hlocks : meth.locks = false)
    (hx : ∀ t : State, s.vm.Alike t.vm → H.size ≤ t.heap.size → (∀ q : Nat, q < H.size → t.heap[q]? = H[q]?) → XC cls s t)
    (hf : ∀ z ∈ locs, free z.base) (hc : cells + 1 ≤ mc) (hs : slots + 6 ≤ ms) :
    W p l e R s m args below meth c H locs cells slots (vx_MQ below Qc XC args s mc ms free) (F0 m pc ls rest) := by
  intro T hT X
  have htr : e.platform.stackTraces = false := (show e.platform.stackTraces = l.stackTraces by rw [X.admits.platform]).trans hl
  have Y := vx_rebase X (R' := { frames := R.frames, locals := R.locals, cells := 1, slots := 6 }) (Nat.le_refl _) (Nat.le_refl _) hRcells hRslots
  obtain ⟨s', hA⟩ : ∃ z, z = (T.setVm s.vm).setFrames (.invoking m args :: below) := ⟨_, rfl⟩
  rw [← hA] at Y
  have hvm : s'.vm = s.vm := by rw [hA]; rfl
  have hhp : s'.heap = H := by rw [hA]; exact hT
  have hW0 : s.WarmedH s'.vm := by rw [hvm]; exact State.WarmedH.refl s
  have hat' : ∀ w ∈ vx_atS own ic cls names, w.before args s' = true := fun w hw => vx_ot_at hW0 hvm.symm (hgood w (List.mem_cons_of_mem _ (List.mem_cons_of_mem _ hw))) (hat w hw)
  have hk' : (Cond.classLink own ik cls).before args s' = true := vx_ot_at hW0 hvm.symm (hgood _ List.mem_cons_self) hk
  have hini' : (Cond.initialized cls).before args s' = true := vx_ot_at hW0 hvm.symm (hgood _ (List.mem_cons_of_mem _ List.mem_cons_self)) hini
  have hU' : vx_Zq Bundle.tN "UNASSIGNED_STACK" Bundle.steD A s' s'.heap := by rw [hhp]; exact vx_Zq.moved hW0.alike (hU.kept hS.2.1)
  have hN' : vx_Zq Bundle.tN "SUPPRESSED_SENTINEL" Bundle.listD A s' s'.heap := by rw [hhp]; exact vx_Zq.moved hW0.alike (hN.kept hS.2.1)
  have h : ∀ w ∈ Bundle.ownAtoms own ic cls names, w.before args s' = true := vx_own hat' (vx_isRefq hU'.1) (vx_isRefq hN'.1) hU'.2.word hN'.2.word
  have hown' : s'.vm.findClass own = some m.cls := by rw [hvm]; exact hown
  have hins : (Cond.instantiable cls 6).before args s' = true := h _ (by simp [Bundle.ownAtoms])
  obtain ⟨vm₁, cX, kX, hfX, hkX, -, -, X₁, st1⟩ := Y.newCold hexec (own := own) (C := cls) (index := ik) (n := 6) hown' hk' hins hini'
    (g := F0 m pc ls rest) rfl (by rw [hb]; exact d0) (Nat.le_refl _) (Nat.le_refl _)
  generalize hT1 : (T.setVm vm₁).pushCell { cls := cX, slots := kX.instanceTypes.map defaultValue, vm := .none } = T1 at X₁ st1
  have hcat : (Value.ref T.heap.size).category = 1 := rfl
  have hcellA : T1.heap[T.heap.size]? = some (freshCell cX kX) := by rw [← hT1]; exact State.heap_pushCell_size _ _
  have d3' : decode c.code (pc + 3) = .ok (.dup, 1) := by rw [hb]; exact d3
  have d4' : decode c.code (pc + 4) = .ok (.ldc_w is, 3) := by rw [hb]; exact d4
  have hstr' : vk_R own is text sa s' := vk_R.warm hW0 hstr
  obtain ⟨U, hsteps, hrun, hend, hW, hsame, ce, hce, hO⟩ := X₁.ctorThrowS hexec htr (own := own) (cls := cls) (names := names) (ic := ic) hown' hcls hnames h (fun x hx => nomatch hx) hfX hkX hcellA (by rw [hhp, hT]; exact Nat.le_refl _) (msg := .ref sa) rfl
    (g := { method := m, pc := pc + 7, locals := ls, stack := .ref sa :: .ref T.heap.size :: .ref T.heap.size :: rest, locked := none }) rfl hsize rfl rfl (rest := rest) rfl
    (by rw [hb]; exact d7) (by rw [hb]; exact d10) hout hRframes (by simp only [List.map_cons, List.sum_cons, hcat]; omega) hlocks
  obtain ⟨f1, f2⟩ := vx_frame hsame
  rw [hhp] at f1 f2
  have hWs : s.WarmedH U.vm := State.WarmedH.trans hW0 hW
  have hcl : s.vm.findClass cls = some ce.cls := by
    have h9 := hO.cls
    rw [hvm] at h9
    exact h9
  have hall : s.sameButNew ({ U with vm := s.vm } : State) locs mc ms := by
    subst hA
    obtain ⟨e1, e2⟩ := hsame
    rw [State.setFrames_setFrames] at e1
    have h2 : (T.setVm s.vm).sameButNew ({ U with vm := s.vm } : State) [] (0 + 1) (0 + 6) := ⟨e1, e2⟩
    have h3 := X.same.trans h2
    rw [List.append_nil] at h3
    exact h3.mono hc hs
  refine ⟨U, ?_, .threw T.heap.size, hrun, hend, Or.inr ⟨T.heap.size, rfl, cls, ce, locs, hx U hWs.alike f1 (fun q hq => f2 q hq (fun z hz => nomatch hz)), hce, hO.vm, hcl, hWs, hall, hf⟩⟩
  refine st1 _ ?_
  show Steps p.tables e below (T1.setTop { method := m, pc := pc + 3, locals := ls, stack := .ref T.heap.size :: rest, locked := none }) _
  jvm_step X₁.here [X₁.here.top, hexec, d3', Value.category]
  exact X₁.ldcStringW hexec (own := own) (text := text) (index := is) (a := sa) hown' hstr'.1 hstr'.2
    (g := { method := m, pc := pc + 4, locals := ls, stack := .ref T.heap.size :: .ref T.heap.size :: rest, locked := none }) rfl d4' _ hsteps
end Ends
section Bodies
variable {l : Launch}
theorem vx_ofW {y : MethodName} {ws ws' : List Cond} {rm : Room} {Pc : Array Value → State → Prop} {Qc : Array Value → State → Outcome → State → Prop} {XC : String → State → State → Prop} {mc ms : Nat} {free : Addr → Prop} {cc : ByteArray} {maxL : Nat} {ret : Option FieldType}
    (hy : plainName y.cls = true) (hw : ws = Cond.code y cc maxL ret :: ws')
    (body : ∀ p e s m args below meth c s₁, BodyLoose p l y (headSpec ws rm) cc maxL ret e s m args below meth c s₁ → c.maxLocals = maxL → (∀ x ∈ c.exceptionTable.toList, False) → Pc args s →
      W p l e (headSpec ws rm).room s m args below meth c s.heap [] 0 0 (vx_MQ below Qc XC args s mc ms free) (entryFrame m args maxL)) : vx_Met l y ws rm Pc Qc XC mc ms free := by
  refine MetFree.of_bodyS (code := cc) (maxLocals := maxL) (ret := ret) hy ?_ ?_
  · intro args s m h hn
    obtain ⟨meth, c, h1, h2, h3, h4, h5, h6, -, -⟩ := Cond.code_spec hn (atoms_spec (ws := ws) h _ (by rw [hw]; exact List.mem_cons_self))
    exact ⟨meth, c, h1, h2, h3, h4, h5, h6⟩
  · intro p e s m args below meth c s₁ B hml hP _
    have hh0 : s₁.heap = s.heap := by rw [B.state]; rfl
    have ht : ∀ x ∈ c.exceptionTable.toList, False := by
      obtain ⟨meth9, c9, h1, h2, -, -, -, -, h7, -⟩ := Cond.code_spec B.named (atoms_spec (ws := ws) B.pre _ (by rw [hw]; exact List.mem_cons_self))
      cases Option.some.inj (h1.symm.trans B.method)
      cases Option.some.inj (h2.symm.trans (Stand.of_body B).code)
      intro x hx
      rw [Array.isEmpty_iff.mp h7] at hx
      cases hx
    obtain ⟨t, a1, o, b1, b2, b3⟩ := body p e s m args below meth c s₁ B hml ht hP s₁ hh0 (Stand.of_body B)
    exact ⟨t, o, a1, b1, b2, b3⟩
theorem vx_table {p : Program} {x y : MethodName} {S : Spec} {cc bytes : ByteArray} {maxL maxL' : Nat} {ret ret' : Option FieldType} {e : Env} {s s₁ : State} {m : MethodId} {args : Array Value} {below : List Frame} {meth : Method} {c : Code} {hh : List (Nat × Nat × Nat × Nat)}
    (B : BodyLoose p l y S cc maxL ret e s m args below meth c s₁) (h : (Cond.codeWith y bytes maxL' ret' hh).before args s = true) : c.exceptionTable.toList = tableOf hh := by
  obtain ⟨m9, meth9, c9, hn9, h1, h2, -, -, h6, -⟩ := Cond.codeWith_spec h
  cases Option.some.inj (hn9.symm.trans B.named)
  cases Option.some.inj (h1.symm.trans B.method)
  cases Option.some.inj (h2.symm.trans (Stand.of_body B).code)
  rw [← h6, table_eq]
end Bodies
end VXA
section VXS
variable {p : Program} {l : Launch} {e : Env} {R : Room} {s : State} {m : MethodId} {args : Array Value} {below : List Frame} {meth : Method} {c : Code} {T : State} {H : Heap} {locs : List Loc} {cells slots : Nat}
abbrev vx_CSW (R : Room) (s : State) (args : Array Value) (own : String) (index : Nat) (y : MethodName) (bytes : ByteArray) (maxL : Nat) (ret : Option FieldType) (hh : List (Nat × Nat × Nat × Nat)) (ws : List Cond) (rm : Room) (mc ms n : Nat) : Prop :=
  (rm.cells = mc ∧ rm.slots = ms ∧ rm.frames + 1 ≤ R.frames ∧ 8 + (maxL + 11) + rm.locals ≤ R.locals ∧ (∀ w ∈ ws, ∀ (a' : Array Value) (U : State), s.WarmedH U.vm → w.before a' U = true) ∧ Cond.codeWith y bytes maxL ret hh ∈ ws) ∧
  (Cond.codeWith y bytes maxL ret hh).before args s = true ∧ (Cond.initialized y.cls).before args s = true ∧ (y.cls ≠ "java/lang/invoke/MethodHandle" ∧ y.cls ≠ "java/lang/invoke/VarHandle") ∧
  (∀ sig, parseMethodDescriptor y.desc = some sig → n = sig.parameters.length) ∧ (Cond.methodLink own index y).before args s = true ∧ (Cond.static y).before args s = true
theorem vx_cwSW {own : String} {index maxL mc ms : Nat} {y : MethodName} {bytes : ByteArray} {ret : Option FieldType} {hh : List (Nat × Nat × Nat × Nat)} {Ts ws ws' : List Cond} {rm : Room} (n : Nat) (ht : ∀ w ∈ Ts, w.before args s = true) (hT : GoodIn Ts (va_wsS own index y ws)) (hw : ws = Cond.codeWith y bytes maxL ret hh :: ws') (hrc : rm.cells = mc) (hrs : rm.slots = ms)
    (hd : y.cls ≠ "java/lang/invoke/MethodHandle" ∧ y.cls ≠ "java/lang/invoke/VarHandle" ∧ (parseMethodDescriptor y.desc).map (fun d => d.parameters.length) = some n) (hR : rm.frames + 1 ≤ R.frames ∧ 8 + (maxL + 11) + rm.locals ≤ R.locals) :
    vx_CSW R s args own index y bytes maxL ret hh ws rm mc ms n := by
  have ok : ∀ w ∈ va_wsS own index y ws, w.before args s = true := fun w h => ht w (hT w h).1
  have hG : GoodIn Ts ws := fun w h => hT w (by unfold va_wsS; exact List.mem_append_right _ h)
  have hc : Cond.codeWith y bytes maxL ret hh ∈ ws := by rw [hw]; exact List.mem_cons_self
  refine ⟨⟨hrc, hrs, hR.1, hR.2, pay_in ht hG, hc⟩, ht _ (hG _ hc).1, ok _ (by simp [va_wsS]), ⟨hd.1, hd.2.1⟩, fun sig h => ?_, ok _ (by simp [va_wsS]), ok _ (by simp [va_wsS])⟩
  have h2 := hd.2.2
  rw [h] at h2
  exact (Option.some.inj h2).symm
theorem vx_callSW (X : Stand p l e R s m args below meth c T locs cells slots) (hexec : p.tables.exec = Jvm.exec) {own : String} {index : Nat} {y : MethodName} {bytes : ByteArray} {maxL : Nat} {ret : Option FieldType} {hh : List (Nat × Nat × Nat × Nat)}
    (hown : s.vm.findClass own = some m.cls) (hlink : (Cond.methodLink own index y).before args s = true) (hstat : (Cond.static y).before args s = true) (hinit : (Cond.initialized y.cls).before args s = true)
    (hcode : (Cond.codeWith y bytes maxL ret hh).before args s = true) (hy : y.cls ≠ "java/lang/invoke/MethodHandle" ∧ y.cls ≠ "java/lang/invoke/VarHandle")
    {W9 : Nat} {Pre : Pt → Array Value → Prop} {Post : Pt → Array Value → Option Value → Pt → Prop} (hK : Back l R p e below s args y 3 W9 Pre Post)
    {g : JFrame} (hg : g.method = m) (hsize : g.locals.size = c.maxLocals) {argsL rest : List Value} (hlen : ∀ sig, parseMethodDescriptor y.desc = some sig → argsL.length = sig.parameters.length)
    (hstack : g.stack = argsL.reverse ++ rest) (hW : 2 * g.monitorRoom + (rest.map fun v => v.category).sum ≤ W9) (hdg : decode c.code g.pc = .ok (.invokestatic index, 3))
    (hpre : ∀ vm₁, s.WarmedH vm₁ → Pre ⟨T.setVm vm₁, locs, cells, slots⟩ argsL.toArray) :
    ∃ (v : Option Value) (vm₁ : Vm) (B : Pt), s.WarmedH vm₁ ∧ Stand p l e R s m args below meth c B.U B.locs B.cells B.slots ∧ Post ⟨T.setVm vm₁, locs, cells, slots⟩ argsL.toArray v B ∧
      ∀ target, Steps p.tables e below (B.U.setTop { g with pc := g.pc + 3, stack := v.toList ++ rest }) target → Steps p.tables e below (T.setTop g) target := by
  obtain ⟨mk, methM, cM, hnamed, hmethM, -, -, -, -, -, -, hsigM⟩ := Cond.codeWith_spec hcode
  have hstatic : methM.isStatic = true := Cond.static_spec hnamed hmethM hstat
  obtain ⟨kP, hkP, -⟩ := className_of_methodNamed hnamed
  have hinitP : kP.init = .initialized := Cond.initialized_spec (findClass_of_methodNamed hnamed) hkP hinit
  obtain ⟨vm₁, X₁, hstep₁⟩ := X.invokestatic hexec hown hlink hnamed hmethM hstatic hkP hinitP hy (g := g) hg (argsL := argsL) (rest := rest) (hlen _ hsigM) hstack hdg
  obtain ⟨v, B, X', hpost, hsteps⟩ := hK m meth c ⟨T.setVm vm₁, locs, cells, slots⟩ { g with stack := rest } (.invokestatic index) mk argsL.toArray X₁ hg hsize hdg hW (X₁.named hnamed) (hpre vm₁ X₁.warmed)
  exact ⟨v, vm₁, B, X₁.warmed, X', hpost, fun target h => hstep₁ _ fun acts => by rw [doInvoke_state]; exact hsteps.trans h⟩
theorem vx_runSW {y : MethodName} {bytes cc : ByteArray} {maxL nL mc ms n index : Nat} {ret : Option FieldType} {hh : List (Nat × Nat × Nat × Nat)} {ws : List Cond} {rm : Room} {Pc : Array Value → State → Prop} {Qc : Array Value → State → Outcome → State → Prop} {free : Addr → Prop} {Ts : List Cond} {own : String} {As rest : List Value} {g : JFrame}
    (S : CallFix p m c cc nL s args Ts own) (hM : Met l y ws rm Pc Qc mc ms free) (cw : vx_CSW R s args own index y bytes maxL ret hh ws rm mc ms n) (hp : PreS s H Pc As)
    (hg : g.method = m) (hn : As.length = n) (hsize : g.locals.size = nL) (hstack : g.stack = As.reverse ++ rest) (hW : 2 * g.monitorRoom + (rest.map fun v => v.category).sum ≤ 8) (hdg : decode cc g.pc = .ok (.invokestatic index, 3)) (hf : cells + mc ≤ R.cells ∧ slots + ms ≤ R.slots) :
    va_Run p l e R s m args below meth c H locs cells slots mc ms g rest (Qc As.toArray) (free) := by
  obtain ⟨⟨hrc, hrs, hfr, hlo, hws, hcw⟩, hcode, hini, hy, hlen, hl, hstt⟩ := cw
  have hK : Back l R p e below s args y 3 8 (PreOf R mc ms Pc) (PostOf Qc mc ms free) := va_backW (hh := hh) (bytes := bytes) (maxL := maxL) (ret := ret) hM hp.1 hrc hrs hfr hlo hws hcw (fun a' U hW => word_at hW (Or.inl (by first | rfl | simp [Cond.onTables, Cond.keeps, Cond.steady])) hini)
  obtain ⟨hx, hb, hml, ho, -⟩ := S
  intro T hT X
  obtain ⟨v, vm₁, ⟨U', l2, c2, s2⟩, hW₁, X', ⟨g', mk, t, L, e1, e2, hq, h1, hL, h2, h3⟩, st⟩ := vx_callSW X hx (hh := hh) (bytes := bytes) (maxL := maxL) (ret := ret) ho hl hstt hini hcode hy hK hg (hsize.trans hml.symm) (argsL := As) (rest := rest) (fun sig h => hn.trans (hlen sig h)) hstack hW (by rw [hb]; exact hdg)
    (fun vm₁ hW₁ => ⟨hf.1, hf.2, hp.2 (T.setVm vm₁) hT hW₁⟩)
  dsimp only [Pt.U, Pt.locs, Pt.cells, Pt.slots] at X' e1 e2 h1 h2 h3 st
  subst h1; subst h2; subst h3
  exact ⟨v, (T.setVm vm₁).calling g' mk As.toArray, t, U', L, hT, X', hL, e1, e2, hq, st⟩
theorem vx_outP {p : Program} {l : Launch} {e : Env} {R : Room} {s : State} {m : MethodId} {args : Array Value} {below : List Frame} {meth : Method} {c : Code} {H : Heap} {locs : List Loc} {cells slots : Nat} {free : Addr → Prop} {ls : Array Slot} {rest : List Value} {Qc : Array Value → State → Outcome → State → Prop} {XC : String → State → State → Prop}
    {pc : Nat} {own E : String} {ce : Cell} {q : Addr} {mc ms : Nat} (hown : s.vm.findClass own = some m.cls) (hlocks : meth.locks = false)
    (hpass : ∀ z ∈ c.exceptionTable.toList, covers z pc = false ∨ (z.catchType ≠ 0 ∧ ∃ nm : String, (Cond.classLink own z.catchType nm).before args s = true ∧ va_Nc E nm s)) (hcell : H[q]? = some ce) (hv : ce.vm = .none) (hcl : s.vm.findClass E = some ce.cls)
    (hx : ∀ t : State, t.heap = H → s.vm.Alike t.vm → XC E s t) (hf : ∀ z ∈ locs, free z.base) (hc : cells ≤ mc) (hs : slots ≤ ms) :
    vx_W p l e R s m args below meth c H locs cells slots (vx_MQ below Qc XC args s mc ms free) (F0 m pc ls rest) q := by
  intro T hT X
  have hpl : e.platform.magicAccessors = ({} : Platform).magicAccessors := by rw [X.admits.platform]
  obtain ⟨vm', hW', X', st⟩ := X.outThrough hlocks q (g := F0 m pc ls rest) rfl rfl rfl (cell := ce) (by rw [hT]; exact hcell) (by rw [hv]; rfl)
    (by obtain ⟨k9, h9, -⟩ := Vm.findClass_spec hcl; exact ⟨k9, h9⟩) (fun z hz => by
      rcases hpass z hz with h | ⟨hz0, nm, hl1, hn1⟩
      · exact Or.inl h
      · obtain ⟨c6, hc6, hcl6⟩ := Cond.classLink_spec hown hl1 e.platform hpl
        obtain ⟨a8, b8, h1, h2, h3⟩ := hn1
        cases Option.some.inj (h1.symm.trans hcl)
        cases Option.some.inj (h2.symm.trans hc6)
        exact Or.inr ⟨hz0, _, hcl6, h3⟩)
  obtain ⟨g₀, hfr⟩ := X'.frames_eq
  have hcell9 : ((T.setVm vm').setFrames (.throwing q :: below)).heap[q]? = some ce := by
    show T.heap[q]? = some ce
    rw [hT]; exact hcell
  have hend : Ended ((T.setVm vm').setFrames (.throwing q :: below)) below (.threw q) := State.frames_setFrames _ (State.cur_lt_of_frames hfr)
  refine ⟨(T.setVm vm').setFrames (.throwing q :: below), ?_, .threw q, X'.here.running, hend, Or.inr ⟨q, rfl, E, ce, locs, hx _ hT (X'.ends _).1.alike, hcell9, hv, hcl, (X'.ends _).1, (X'.ends _).2.mono hc hs, hf⟩⟩
  rw [X.pushThrowing_eq]
  exact st
theorem vx_lt {D : va_G} {cl : List vw_C} {ws : va_W} {H1 : Heap} (h : va_P D cl ws H1) {k : Nat} {q : Nat × va_E} (hk : ws[k]? = some q) : q.1 < H1.size := (h k q hk).lt
end VXS
section VXH
section
variable {l : Launch} {R : Room} {p : Program} {e : Env} {below : List Frame} {s : State} {sargs : Array Value} {y : MethodName} {len W9 : Nat}
theorem vx_backW {ws : List Cond} {rm : Room} {Pc : Array Value → State → Prop} {Qc : Array Value → State → Outcome → State → Prop} {XC : String → State → State → Prop} {mc ms : Nat} {free : Addr → Prop} {bytes : ByteArray} {maxL : Nat} {ret : Option FieldType} {hh : List (Nat × Nat × Nat × Nat)}
    (hM : vx_Met l y ws rm Pc Qc XC mc ms free) (hblind : FrameBlind Pc) (hrc : rm.cells = mc) (hrs : rm.slots = ms)
    (hframes : rm.frames + 1 ≤ R.frames) (hlocals : W9 + (maxL + 11) + rm.locals ≤ R.locals)
    (hws : ∀ w ∈ ws, ∀ a' U, s.WarmedH U.vm → w.before a' U = true) (hcode : Cond.codeWith y bytes maxL ret hh ∈ ws) (hinit : ∀ a' U, s.WarmedH U.vm → (Cond.initialized y.cls).before a' U = true) :
    vx_Back l R p e below s sargs y len W9 (PreOf R mc ms Pc) (PostOf Qc mc ms free) (vx_Post XC mc ms free) := by
  intro m meth c A g ig mk a X hg hsize hdg hW hn hp
  have h1 : (headSpec ws rm).pre.before a A.U = true := atoms_intro fun w hw => hws w hw _ _ X.warmed
  have h2 : (Cond.codeWith y bytes maxL ret hh).before a A.U = true := hws _ hcode _ _ X.warmed
  have h3 : (Cond.initialized y.cls).before a A.U = true := hinit _ _ X.warmed
  have h4 : A.cells + (headSpec ws rm).room.cells ≤ R.cells := by rw [show (headSpec ws rm).room.cells = mc from hrc]; exact hp.1
  have h5 : A.slots + (headSpec ws rm).room.slots ≤ R.slots := by rw [show (headSpec ws rm).room.slots = ms from hrs]; exact hp.2.1
  have hPc : Pc a (A.U.calling g mk a) := hblind _ _ _ _ hp.2.2
  obtain ⟨U, Ls, c0, s0⟩ := A
  dsimp only [Pt.U, Pt.locs, Pt.cells, Pt.slots] at h1 h2 h3 h4 h5 X hn hPc ⊢
  obtain ⟨m9, methY, cY, hn9, hmY, hcY, -, hlY, -⟩ := Cond.codeWith_spec h2
  cases Option.some.inj (hn9.symm.trans hn)
  obtain ⟨kY, hkY, -⟩ := className_of_methodNamed hn
  have hinitY : kY.init = .initialized := Cond.initialized_spec (findClass_of_methodNamed hn) hkY h3
  have h : At U g.method c below := by rw [hg]; exact X.here
  have hlocals9 : W9 + (maxL + 11) + (headSpec ws rm).room.locals ≤ R.locals := hlocals
  have happ : (headSpec ws rm).appliesLoose y e.platform (U.calling g mk a) = true :=
    Spec.appliesLoose_calling (g := g) h hdg hn hkY hinitY
      (X.room_calling (g := g) (R' := (headSpec ws rm).room) hsize hmY hcY hframes (by rw [hlY]; omega) h4 h5) h1
  obtain ⟨mid, hmid⟩ := h.above
  have hfr : (U.setTop g).frames = (.java g :: mid) ++ below := by rw [State.frames_setTop' g h.top, hmid]; rfl
  obtain ⟨o, s₂, hsteps, -, hend, hq⟩ := Steps.callFree hM p X.admits X.cas X.clock (acts := []) hfr happ hPc trivial
  have hq' : vx_Q Qc XC mc ms free a (U.calling g mk a) o s₂ := hq
  rw [State.frames_setTop' g h.top] at hend
  obtain ⟨g₀, hg0⟩ := Option.isSome_iff_exists.mp h.top
  obtain ⟨r, hr⟩ := State.topJava?_eq_some.mp hg0
  have hr' : (({ U with heap := s₂.heap, slotsUsed := s₂.slotsUsed } : State).setVm s₂.vm).frames = .java g₀ :: r := hr
  rcases hq' with ⟨hqc, L, hfe, hL⟩ | ⟨q, rfl, E, ce, L, hx, hce, hcv, hcl, hW₂, hsm, hL⟩
  · obtain ⟨⟨v, rfl⟩, hW₂, e2, q2, q3, q4, q5, q6⟩ := id hfe
    have e3 : s₂ = ({ (U.calling g mk a).setFrames s₂.frames with heap := s₂.heap, slotsUsed := s₂.slotsUsed } : State).setVm s₂.vm := by
      have : s₂ = ({ s₂ with vm := (U.calling g mk a).vm } : State).setVm s₂.vm := rfl
      rw [e2] at this
      exact this
    obtain ⟨c₂, i₂, len₂, hc₂, hd₂, hf₂⟩ := hend
    have hW' : U.WarmedH s₂.vm := hW₂
    have hcc : c₂ = c := by
      have h1 : s₂.code? g.method = U.code? g.method := by
        rw [State.code?_eq, State.code?_eq, hW'.alike.method?]
      exact Option.some.inj (hc₂.symm.trans (h1.trans h.code))
    subst hcc
    have hlen : len₂ = len := by rw [hdg] at hd₂; cases hd₂; rfl
    subst hlen
    have hs₂ : s₂ = (({ U with heap := s₂.heap, slotsUsed := s₂.slotsUsed } : State).setVm s₂.vm).setTop { g with pc := g.pc + len₂, stack := v.toList ++ g.stack } := by
      refine e3.trans ?_
      rw [hf₂, State.calling_eq h.top, State.setFrames_setFrames, State.setTop_of_frames _ hr', hr]
      rfl
    have hsame : U.sameButNew ({ U with heap := s₂.heap, slotsUsed := s₂.slotsUsed } : State) L mc ms := by
      refine ⟨?_, q2, q3, q4, q5, q6⟩
      obtain ⟨t, ht, -⟩ := State.frames_cons hr
      show ({ U with heap := s₂.heap, slotsUsed := s₂.slotsUsed } : State) = { U.setFrames U.frames with heap := s₂.heap, slotsUsed := s₂.slotsUsed }
      rw [State.setFrames_self ht]
    subst hg
    refine Or.inl ⟨v, ⟨(({ U with heap := s₂.heap, slotsUsed := s₂.slotsUsed } : State).setVm s₂.vm), Ls ++ L, c0 + mc, s0 + ms⟩,
      ⟨X.admits, X.cas, X.clock, X.frames, X.room, X.hears, X.method, X.code, (X.here.setHeapUsed s₂.heap s₂.slotsUsed).setVm hW'.alike, X.tail, State.WarmedH.trans X.warmed hW', X.limits, X.bytes, X.same.trans (hsame.setVm s.vm)⟩,
      ⟨g, mk, s₂, L, rfl, rfl, hqc, rfl, hL, rfl, rfl⟩, ?_⟩
    show Steps p.tables e below _ ((({ U with heap := s₂.heap, slotsUsed := s₂.slotsUsed } : State).setVm s₂.vm).setTop { g with pc := g.pc + len₂, stack := v.toList ++ g.stack })
    rw [← hs₂]
    exact hsteps
  · obtain ⟨e2, q2, q3, q4, q5, q6⟩ := id hsm
    have e3 : s₂ = ({ (U.calling g mk a).setFrames s₂.frames with heap := s₂.heap, slotsUsed := s₂.slotsUsed } : State).setVm s₂.vm := by
      have : s₂ = ({ s₂ with vm := (U.calling g mk a).vm } : State).setVm s₂.vm := rfl
      rw [e2] at this
      exact this
    have hf₂ : s₂.frames = .throwing q :: .java g :: U.frames.tail := hend
    have hW' : U.WarmedH s₂.vm := hW₂
    have hs₂ : s₂ = ((({ U with heap := s₂.heap, slotsUsed := s₂.slotsUsed } : State).setVm s₂.vm).setTop g).pushFrame (.throwing q) := by
      refine e3.trans ?_
      rw [hf₂, State.calling_eq h.top, State.setFrames_setFrames, State.pushFrame, State.frames_setTop _ hr', State.setTop_of_frames _ hr', State.setFrames_setFrames, hr]
      rfl
    have hsame : U.sameButNew ({ U with heap := s₂.heap, slotsUsed := s₂.slotsUsed } : State) L mc ms := by
      refine ⟨?_, q2, q3, q4, q5, q6⟩
      obtain ⟨t, ht, -⟩ := State.frames_cons hr
      show ({ U with heap := s₂.heap, slotsUsed := s₂.slotsUsed } : State) = { U.setFrames U.frames with heap := s₂.heap, slotsUsed := s₂.slotsUsed }
      rw [State.setFrames_self ht]
    subst hg
    refine Or.inr ⟨q, ⟨(({ U with heap := s₂.heap, slotsUsed := s₂.slotsUsed } : State).setVm s₂.vm), Ls ++ L, c0 + mc, s0 + ms⟩,
      ⟨X.admits, X.cas, X.clock, X.frames, X.room, X.hears, X.method, X.code, (X.here.setHeapUsed s₂.heap s₂.slotsUsed).setVm hW'.alike, X.tail, State.WarmedH.trans X.warmed hW', X.limits, X.bytes, X.same.trans (hsame.setVm s.vm)⟩,
      ⟨g, mk, s₂, L, E, ce, rfl, rfl, hx, hce, hcv, hcl, rfl, hL, rfl, rfl⟩, ?_⟩
    show Steps p.tables e below _ (((({ U with heap := s₂.heap, slotsUsed := s₂.slotsUsed } : State).setVm s₂.vm).setTop g).pushFrame (.throwing q))
    rw [← hs₂]
    exact hsteps
end
variable {p : Program} {l : Launch} {e : Env} {R : Room} {s : State} {m : MethodId} {args : Array Value} {below : List Frame} {meth : Method} {c : Code} {T : State} {H : Heap} {locs : List Loc} {cells slots : Nat}
theorem vx_callVX (X : Stand p l e R s m args below meth c T locs cells slots) (hexec : p.tables.exec = Jvm.exec) {own C : String} {index : Nat} {y : MethodName} {bytes : ByteArray} {maxL : Nat} {ret : Option FieldType} {hh : List (Nat × Nat × Nat × Nat)}
    (hown : s.vm.findClass own = some m.cls) (hlink : (Cond.methodLink own index y).before args s = true) (hinst : (Cond.instanceMethod y).before args s = true) (hsel : (Cond.selects C y y).before args s = true)
    (hcode : (Cond.codeWith y bytes maxL ret hh).before args s = true) (hy : y.cls ≠ "java/lang/invoke/MethodHandle" ∧ y.cls ≠ "java/lang/invoke/VarHandle")
    {W9 : Nat} {Pre : Pt → Array Value → Prop} {Post : Pt → Array Value → Option Value → Pt → Prop} {PostX : Pt → Array Value → Addr → Pt → Prop} (hK : vx_Back l R p e below s args y 3 W9 Pre Post PostX)
    {b : Addr} {cellB : Cell} (hcell : T.heap[b]? = some cellB) (hobj : cellB.vm.isStatics = false) (hcls : s.vm.findClass C = some cellB.cls)
    {g : JFrame} (hg : g.method = m) (hsize : g.locals.size = c.maxLocals) {argsL rest : List Value} (hlen : ∀ sig, parseMethodDescriptor y.desc = some sig → argsL.length = sig.parameters.length)
    (hstack : g.stack = argsL.reverse ++ .ref b :: rest) (hW : 2 * g.monitorRoom + (rest.map fun v => v.category).sum ≤ W9) (hdg : decode c.code g.pc = .ok (.invokevirtual index, 3))
    (hpre : ∀ vm₁, s.WarmedH vm₁ → Pre ⟨T.setVm vm₁, locs, cells, slots⟩ (Value.ref b :: argsL).toArray) :
    (∃ (v : Option Value) (vm₁ : Vm) (B : Pt), s.WarmedH vm₁ ∧ Stand p l e R s m args below meth c B.U B.locs B.cells B.slots ∧ Post ⟨T.setVm vm₁, locs, cells, slots⟩ (Value.ref b :: argsL).toArray v B ∧
      ∀ target, Steps p.tables e below (B.U.setTop { g with pc := g.pc + 3, stack := v.toList ++ rest }) target → Steps p.tables e below (T.setTop g) target) ∨
    (∃ (q : Addr) (vm₁ : Vm) (B : Pt), s.WarmedH vm₁ ∧ Stand p l e R s m args below meth c B.U B.locs B.cells B.slots ∧ PostX ⟨T.setVm vm₁, locs, cells, slots⟩ (Value.ref b :: argsL).toArray q B ∧
      Steps p.tables e below (T.setTop g) ((B.U.setTop { g with stack := rest }).pushFrame (.throwing q))) := by
  obtain ⟨mk, methM, hnamed, hmethM, hstM, habM⟩ := Cond.instanceMethod_spec hinst
  obtain ⟨m8, methM', cM, hn8, hmethM', -, -, -, -, -, -, hsigM⟩ := Cond.codeWith_spec hcode
  cases Option.some.inj (hn8.symm.trans hnamed)
  cases hmethM.symm.trans hmethM'
  obtain ⟨c2, r2, m2, q1, q2, q3, q4, kP, hkP, hkPi⟩ := Cond.selects_spec hsel
  cases hcls.symm.trans q1
  cases (State.methodFound?_of_named hnamed hy).symm.trans q2
  cases hnamed.symm.trans q3
  have hselP : selectMethod e.platform s.vm cellB.cls mk = .method mk := by rw [Launch.admits_selectMethod X.admits]; exact q4
  obtain ⟨vm₁, X₁, hstep₁⟩ := X.invokevirtual hexec hown hlink hnamed hmethM hstM hkP hkPi hy (a := b) (cell := cellB) hcell
    (fun z h => by rw [h] at hobj; cases hobj) hselP hmethM habM hkP hkPi (g := g) hg (argsL := argsL) (rest := rest) (hlen _ hsigM) hstack hdg
  rcases hK m meth c ⟨T.setVm vm₁, locs, cells, slots⟩ { g with stack := rest } (.invokevirtual index) mk (Value.ref b :: argsL).toArray X₁ hg hsize hdg hW (X₁.named hnamed) (hpre vm₁ X₁.warmed) with ⟨v, B, X', hpost, hsteps⟩ | ⟨q, B, X', hpost, hsteps⟩
  · exact Or.inl ⟨v, vm₁, B, X₁.warmed, X', hpost, fun target h => hstep₁ _ fun acts => by rw [doInvoke_state]; exact hsteps.trans h⟩
  · exact Or.inr ⟨q, vm₁, B, X₁.warmed, X', hpost, hstep₁ _ fun acts => by rw [doInvoke_state]; exact hsteps⟩
theorem vx_callSX (X : Stand p l e R s m args below meth c T locs cells slots) (hexec : p.tables.exec = Jvm.exec) {own : String} {index : Nat} {y : MethodName} {bytes : ByteArray} {maxL : Nat} {ret : Option FieldType} {hh : List (Nat × Nat × Nat × Nat)}
    (hown : s.vm.findClass own = some m.cls) (hlink : (Cond.methodLink own index y).before args s = true) (hstat : (Cond.static y).before args s = true) (hinit : (Cond.initialized y.cls).before args s = true)
    (hcode : (Cond.codeWith y bytes maxL ret hh).before args s = true) (hy : y.cls ≠ "java/lang/invoke/MethodHandle" ∧ y.cls ≠ "java/lang/invoke/VarHandle")
    {W9 : Nat} {Pre : Pt → Array Value → Prop} {Post : Pt → Array Value → Option Value → Pt → Prop} {PostX : Pt → Array Value → Addr → Pt → Prop} (hK : vx_Back l R p e below s args y 3 W9 Pre Post PostX)
    {g : JFrame} (hg : g.method = m) (hsize : g.locals.size = c.maxLocals) {argsL rest : List Value} (hlen : ∀ sig, parseMethodDescriptor y.desc = some sig → argsL.length = sig.parameters.length)
    (hstack : g.stack = argsL.reverse ++ rest) (hW : 2 * g.monitorRoom + (rest.map fun v => v.category).sum ≤ W9) (hdg : decode c.code g.pc = .ok (.invokestatic index, 3))
    (hpre : ∀ vm₁, s.WarmedH vm₁ → Pre ⟨T.setVm vm₁, locs, cells, slots⟩ argsL.toArray) :
    (∃ (v : Option Value) (vm₁ : Vm) (B : Pt), s.WarmedH vm₁ ∧ Stand p l e R s m args below meth c B.U B.locs B.cells B.slots ∧ Post ⟨T.setVm vm₁, locs, cells, slots⟩ argsL.toArray v B ∧
      ∀ target, Steps p.tables e below (B.U.setTop { g with pc := g.pc + 3, stack := v.toList ++ rest }) target → Steps p.tables e below (T.setTop g) target) ∨
    (∃ (q : Addr) (vm₁ : Vm) (B : Pt), s.WarmedH vm₁ ∧ Stand p l e R s m args below meth c B.U B.locs B.cells B.slots ∧ PostX ⟨T.setVm vm₁, locs, cells, slots⟩ argsL.toArray q B ∧
      Steps p.tables e below (T.setTop g) ((B.U.setTop { g with stack := rest }).pushFrame (.throwing q))) := by
  obtain ⟨mk, methM, cM, hnamed, hmethM, -, -, -, -, -, -, hsigM⟩ := Cond.codeWith_spec hcode
  have hstatic : methM.isStatic = true := Cond.static_spec hnamed hmethM hstat
  obtain ⟨kP, hkP, -⟩ := className_of_methodNamed hnamed
  have hinitP : kP.init = .initialized := Cond.initialized_spec (findClass_of_methodNamed hnamed) hkP hinit
  obtain ⟨vm₁, X₁, hstep₁⟩ := X.invokestatic hexec hown hlink hnamed hmethM hstatic hkP hinitP hy (g := g) hg (argsL := argsL) (rest := rest) (hlen _ hsigM) hstack hdg
  rcases hK m meth c ⟨T.setVm vm₁, locs, cells, slots⟩ { g with stack := rest } (.invokestatic index) mk argsL.toArray X₁ hg hsize hdg hW (X₁.named hnamed) (hpre vm₁ X₁.warmed) with ⟨v, B, X', hpost, hsteps⟩ | ⟨q, B, X', hpost, hsteps⟩
  · exact Or.inl ⟨v, vm₁, B, X₁.warmed, X', hpost, fun target h => hstep₁ _ fun acts => by rw [doInvoke_state]; exact hsteps.trans h⟩
  · exact Or.inr ⟨q, vm₁, B, X₁.warmed, X', hpost, hstep₁ _ fun acts => by rw [doInvoke_state]; exact hsteps⟩
theorem vx_callVW (X : Stand p l e R s m args below meth c T locs cells slots) (hexec : p.tables.exec = Jvm.exec) {own C : String} {index : Nat} {y : MethodName} {bytes : ByteArray} {maxL : Nat} {ret : Option FieldType} {hh : List (Nat × Nat × Nat × Nat)}
    (hown : s.vm.findClass own = some m.cls) (hlink : (Cond.methodLink own index y).before args s = true) (hinst : (Cond.instanceMethod y).before args s = true) (hsel : (Cond.selects C y y).before args s = true)
    (hcode : (Cond.codeWith y bytes maxL ret hh).before args s = true) (hy : y.cls ≠ "java/lang/invoke/MethodHandle" ∧ y.cls ≠ "java/lang/invoke/VarHandle")
    {W9 : Nat} {Pre : Pt → Array Value → Prop} {Post : Pt → Array Value → Option Value → Pt → Prop} (hK : Back l R p e below s args y 3 W9 Pre Post)
    {b : Addr} {cellB : Cell} (hcell : T.heap[b]? = some cellB) (hobj : cellB.vm.isStatics = false) (hcls : s.vm.findClass C = some cellB.cls)
    {g : JFrame} (hg : g.method = m) (hsize : g.locals.size = c.maxLocals) {argsL rest : List Value} (hlen : ∀ sig, parseMethodDescriptor y.desc = some sig → argsL.length = sig.parameters.length)
    (hstack : g.stack = argsL.reverse ++ .ref b :: rest) (hW : 2 * g.monitorRoom + (rest.map fun v => v.category).sum ≤ W9) (hdg : decode c.code g.pc = .ok (.invokevirtual index, 3))
    (hpre : ∀ vm₁, s.WarmedH vm₁ → Pre ⟨T.setVm vm₁, locs, cells, slots⟩ (Value.ref b :: argsL).toArray) :
    ∃ (v : Option Value) (vm₁ : Vm) (B : Pt), s.WarmedH vm₁ ∧ Stand p l e R s m args below meth c B.U B.locs B.cells B.slots ∧ Post ⟨T.setVm vm₁, locs, cells, slots⟩ (Value.ref b :: argsL).toArray v B ∧
      ∀ target, Steps p.tables e below (B.U.setTop { g with pc := g.pc + 3, stack := v.toList ++ rest }) target → Steps p.tables e below (T.setTop g) target := by
  obtain ⟨mk, methM, hnamed, hmethM, hstM, habM⟩ := Cond.instanceMethod_spec hinst
  obtain ⟨m8, methM', cM, hn8, hmethM', -, -, -, -, -, -, hsigM⟩ := Cond.codeWith_spec hcode
  cases Option.some.inj (hn8.symm.trans hnamed)
  cases hmethM.symm.trans hmethM'
  obtain ⟨c2, r2, m2, q1, q2, q3, q4, kP, hkP, hkPi⟩ := Cond.selects_spec hsel
  cases hcls.symm.trans q1
  cases (State.methodFound?_of_named hnamed hy).symm.trans q2
  cases hnamed.symm.trans q3
  have hselP : selectMethod e.platform s.vm cellB.cls mk = .method mk := by rw [Launch.admits_selectMethod X.admits]; exact q4
  obtain ⟨vm₁, X₁, hstep₁⟩ := X.invokevirtual hexec hown hlink hnamed hmethM hstM hkP hkPi hy (a := b) (cell := cellB) hcell
    (fun z h => by rw [h] at hobj; cases hobj) hselP hmethM habM hkP hkPi (g := g) hg (argsL := argsL) (rest := rest) (hlen _ hsigM) hstack hdg
  obtain ⟨v, B, X', hpost, hsteps⟩ := hK m meth c ⟨T.setVm vm₁, locs, cells, slots⟩ { g with stack := rest } (.invokevirtual index) mk (Value.ref b :: argsL).toArray X₁ hg hsize hdg hW (X₁.named hnamed) (hpre vm₁ X₁.warmed)
  exact ⟨v, vm₁, B, X₁.warmed, X', hpost, fun target h => hstep₁ _ fun acts => by rw [doInvoke_state]; exact hsteps.trans h⟩
abbrev vx_CVW (R : Room) (s : State) (args : Array Value) (own C : String) (index : Nat) (y : MethodName) (bytes : ByteArray) (maxL : Nat) (ret : Option FieldType) (hh : List (Nat × Nat × Nat × Nat)) (ws : List Cond) (rm : Room) (mc ms n : Nat) : Prop :=
  (rm.cells = mc ∧ rm.slots = ms ∧ rm.frames + 1 ≤ R.frames ∧ 8 + (maxL + 11) + rm.locals ≤ R.locals ∧ (∀ w ∈ ws, ∀ (a' : Array Value) (U : State), s.WarmedH U.vm → w.before a' U = true) ∧ Cond.codeWith y bytes maxL ret hh ∈ ws) ∧
  (Cond.codeWith y bytes maxL ret hh).before args s = true ∧ (Cond.initialized y.cls).before args s = true ∧ (y.cls ≠ "java/lang/invoke/MethodHandle" ∧ y.cls ≠ "java/lang/invoke/VarHandle") ∧
  (∀ sig, parseMethodDescriptor y.desc = some sig → n = sig.parameters.length) ∧ (Cond.methodLink own index y).before args s = true ∧ (Cond.instanceMethod y).before args s = true ∧ (Cond.selects C y y).before args s = true
theorem vx_cwVW {own C : String} {index maxL mc ms : Nat} {y : MethodName} {bytes : ByteArray} {ret : Option FieldType} {hh : List (Nat × Nat × Nat × Nat)} {Ts ws ws' : List Cond} {rm : Room} (n : Nat) (ht : ∀ w ∈ Ts, w.before args s = true) (hT : GoodIn Ts (wsV own index C y ws)) (hw : ws = Cond.codeWith y bytes maxL ret hh :: ws') (hrc : rm.cells = mc) (hrs : rm.slots = ms)
    (hd : y.cls = C ∧ y.cls ≠ "java/lang/invoke/MethodHandle" ∧ y.cls ≠ "java/lang/invoke/VarHandle" ∧ (parseMethodDescriptor y.desc).map (fun d => d.parameters.length) = some n) (hR : rm.frames + 1 ≤ R.frames ∧ 8 + (maxL + 11) + rm.locals ≤ R.locals) :
    vx_CVW R s args own C index y bytes maxL ret hh ws rm mc ms n := by
  obtain ⟨hC, hd⟩ := hd
  subst hC
  have ok : ∀ w ∈ wsV own index y.cls y ws, w.before args s = true := fun w h => ht w (hT w h).1
  have hG : GoodIn Ts ws := fun w h => hT w (by unfold wsV; exact List.mem_append_right _ h)
  have hc : Cond.codeWith y bytes maxL ret hh ∈ ws := by rw [hw]; exact List.mem_cons_self
  refine ⟨⟨hrc, hrs, hR.1, hR.2, pay_in ht hG, hc⟩, ht _ (hG _ hc).1, ok _ (by simp [wsV]), ⟨hd.1, hd.2.1⟩, fun sig h => ?_, ok _ (by simp [wsV]), ok _ (by simp [wsV]), ok _ (by simp [wsV])⟩
  have h2 := hd.2.2
  rw [h] at h2
  exact (Option.some.inj h2).symm
theorem vx_runVW {y : MethodName} {bytes cc : ByteArray} {maxL nL mc ms n index : Nat} {ret : Option FieldType} {hh : List (Nat × Nat × Nat × Nat)} {ws : List Cond} {rm : Room} {Pc : Array Value → State → Prop} {Qc : Array Value → State → Outcome → State → Prop} {free : Addr → Prop} {Ts : List Cond} {own C : String} {b : Addr} {As rest : List Value} {g : JFrame}
    (S : CallFix p m c cc nL s args Ts own) (hM : Met l y ws rm Pc Qc mc ms free) (cw : vx_CVW R s args own C index y bytes maxL ret hh ws rm mc ms n) (hp : PreV s H C b Pc As)
    (hg : g.method = m) (hn : As.length = n) (hsize : g.locals.size = nL) (hstack : g.stack = As.reverse ++ .ref b :: rest) (hW : 2 * g.monitorRoom + (rest.map fun v => v.category).sum ≤ 8) (hdg : decode cc g.pc = .ok (.invokevirtual index, 3)) (hf : cells + mc ≤ R.cells ∧ slots + ms ≤ R.slots) :
    va_Run p l e R s m args below meth c H locs cells slots mc ms g rest (Qc (Value.ref b :: As).toArray) free := by
  obtain ⟨⟨hrc, hrs, hfr, hlo, hws, hcw⟩, hcode, hini, hy, hlen, hl, hin, hse⟩ := cw
  have hK : Back l R p e below s args y 3 8 (PreOf R mc ms Pc) (PostOf Qc mc ms free) := va_backW (hh := hh) (bytes := bytes) (maxL := maxL) (ret := ret) hM hp.1 hrc hrs hfr hlo hws hcw (fun a' U hW => word_at hW (Or.inl (by first | rfl | simp [Cond.onTables, Cond.keeps, Cond.steady])) hini)
  obtain ⟨hx, hb, hml, ho, -⟩ := S
  obtain ⟨-, ⟨cellB, hcB, hoB, hclB⟩, hPc⟩ := hp
  intro T hT X
  obtain ⟨v, vm₁, ⟨U', l2, c2, s2⟩, hW₁, X', ⟨g', mk, t, L, e1, e2, hq, h1, hL, h2, h3⟩, st⟩ := vx_callVW X hx (C := C) (hh := hh) (bytes := bytes) (maxL := maxL) (ret := ret) ho hl hin hse hcode hy hK (by rw [hT]; exact hcB) hoB hclB hg (hsize.trans hml.symm) (argsL := As) (rest := rest) (fun sig h => hn.trans (hlen sig h)) hstack hW (by rw [hb]; exact hdg)
    (fun vm₁ hW₁ => ⟨hf.1, hf.2, hPc (T.setVm vm₁) hT hW₁⟩)
  dsimp only [Pt.U, Pt.locs, Pt.cells, Pt.slots] at X' e1 e2 h1 h2 h3 st
  subst h1; subst h2; subst h3
  exact ⟨v, (T.setVm vm₁).calling g' mk (Value.ref b :: As).toArray, t, U', L, hT, X', hL, e1, e2, hq, st⟩
section
variable {y : MethodName} {bytes cc : ByteArray} {maxL nL mc ms n index : Nat} {ret : Option FieldType} {ws : List Cond} {rm : Room} {Pc : Array Value → State → Prop} {Qc : Array Value → State → Outcome → State → Prop} {XC : String → State → State → Prop} {free : Addr → Prop} {Ts : List Cond} {own C : String} {b : Addr} {As rest : List Value} {g : JFrame}
theorem vx_runVX {hh : List (Nat × Nat × Nat × Nat)} (S : CallFix p m c cc nL s args Ts own) (hM : vx_Met l y ws rm Pc Qc XC mc ms free) (cw : vx_CVW R s args own C index y bytes maxL ret hh ws rm mc ms n) (hp : PreV s H C b Pc As)
    (hg : g.method = m) (hn : As.length = n) (hsize : g.locals.size = nL) (hstack : g.stack = As.reverse ++ .ref b :: rest) (hW : 2 * g.monitorRoom + (rest.map fun v => v.category).sum ≤ 8) (hdg : decode cc g.pc = .ok (.invokevirtual index, 3)) (hf : cells + mc ≤ R.cells ∧ slots + ms ≤ R.slots) :
    vx_Run p l e R s m args below meth c H locs cells slots mc ms g rest (Qc (Value.ref b :: As).toArray) XC free := by
  obtain ⟨⟨hrc, hrs, hfr, hlo, hws, hcw⟩, hcode, hini, hy, hlen, hl, hin, hse⟩ := cw
  have hK : vx_Back l R p e below s args y 3 8 (PreOf R mc ms Pc) (PostOf Qc mc ms free) (vx_Post XC mc ms free) := vx_backW (hh := hh) (bytes := bytes) (maxL := maxL) (ret := ret) hM hp.1 hrc hrs hfr hlo hws hcw (fun a' U hW => word_at hW (Or.inl (by first | rfl | simp [Cond.onTables, Cond.keeps, Cond.steady])) hini)
  obtain ⟨hx, hb, hml, ho, -⟩ := S
  obtain ⟨-, ⟨cellB, hcB, hoB, hclB⟩, hPc⟩ := hp
  intro T hT X
  rcases vx_callVX X hx (C := C) (hh := hh) (bytes := bytes) (maxL := maxL) (ret := ret) ho hl hin hse hcode hy hK (by rw [hT]; exact hcB) hoB hclB hg (hsize.trans hml.symm) (argsL := As) (rest := rest) (fun sig h => hn.trans (hlen sig h)) hstack hW (by rw [hb]; exact hdg)
    (fun vm₁ hW₁ => ⟨hf.1, hf.2, hPc (T.setVm vm₁) hT hW₁⟩) with ⟨v, vm₁, ⟨U', l2, c2, s2⟩, hW₁, X', ⟨g', mk, t, L, e1, e2, hq, h1, hL, h2, h3⟩, st⟩ | ⟨q, vm₁, ⟨U', l2, c2, s2⟩, hW₁, X', ⟨g', mk, t, L, E, ce, e1, e2, hq, hce, hcv, hcl, h1, hL, h2, h3⟩, st⟩
  · dsimp only [Pt.U, Pt.locs, Pt.cells, Pt.slots] at X' e1 e2 h1 h2 h3 st
    subst h1; subst h2; subst h3
    exact Or.inl ⟨v, (T.setVm vm₁).calling g' mk (Value.ref b :: As).toArray, t, U', L, hT, X', hL, e1, e2, hq, st⟩
  · dsimp only [Pt.U, Pt.locs, Pt.cells, Pt.slots] at X' e1 e2 h1 h2 h3 st hcl
    subst h1; subst h2; subst h3
    exact Or.inr ⟨q, (T.setVm vm₁).calling g' mk (Value.ref b :: As).toArray, t, U', L, E, ce, hT, X', hL, e1, e2, hq, hce, hcv, vx_cls hW₁ hcl, st⟩
theorem vx_runSX {hh : List (Nat × Nat × Nat × Nat)} (S : CallFix p m c cc nL s args Ts own) (hM : vx_Met l y ws rm Pc Qc XC mc ms free) (cw : vx_CSW R s args own index y bytes maxL ret hh ws rm mc ms n) (hp : PreS s H Pc As)
    (hg : g.method = m) (hn : As.length = n) (hsize : g.locals.size = nL) (hstack : g.stack = As.reverse ++ rest) (hW : 2 * g.monitorRoom + (rest.map fun v => v.category).sum ≤ 8) (hdg : decode cc g.pc = .ok (.invokestatic index, 3)) (hf : cells + mc ≤ R.cells ∧ slots + ms ≤ R.slots) :
    vx_Run p l e R s m args below meth c H locs cells slots mc ms g rest (Qc As.toArray) XC free := by
  obtain ⟨⟨hrc, hrs, hfr, hlo, hws, hcw⟩, hcode, hini, hy, hlen, hl, hstt⟩ := cw
  have hK : vx_Back l R p e below s args y 3 8 (PreOf R mc ms Pc) (PostOf Qc mc ms free) (vx_Post XC mc ms free) := vx_backW (hh := hh) (bytes := bytes) (maxL := maxL) (ret := ret) hM hp.1 hrc hrs hfr hlo hws hcw (fun a' U hW => word_at hW (Or.inl (by first | rfl | simp [Cond.onTables, Cond.keeps, Cond.steady])) hini)
  obtain ⟨hx, hb, hml, ho, -⟩ := S
  intro T hT X
  rcases vx_callSX X hx (hh := hh) (bytes := bytes) (maxL := maxL) (ret := ret) ho hl hstt hini hcode hy hK hg (hsize.trans hml.symm) (argsL := As) (rest := rest) (fun sig h => hn.trans (hlen sig h)) hstack hW (by rw [hb]; exact hdg)
    (fun vm₁ hW₁ => ⟨hf.1, hf.2, hp.2 (T.setVm vm₁) hT hW₁⟩) with ⟨v, vm₁, ⟨U', l2, c2, s2⟩, hW₁, X', ⟨g', mk, t, L, e1, e2, hq, h1, hL, h2, h3⟩, st⟩ | ⟨q, vm₁, ⟨U', l2, c2, s2⟩, hW₁, X', ⟨g', mk, t, L, E, ce, e1, e2, hq, hce, hcv, hcl, h1, hL, h2, h3⟩, st⟩
  · dsimp only [Pt.U, Pt.locs, Pt.cells, Pt.slots] at X' e1 e2 h1 h2 h3 st
    subst h1; subst h2; subst h3
    exact Or.inl ⟨v, (T.setVm vm₁).calling g' mk As.toArray, t, U', L, hT, X', hL, e1, e2, hq, st⟩
  · dsimp only [Pt.U, Pt.locs, Pt.cells, Pt.slots] at X' e1 e2 h1 h2 h3 st hcl
    subst h1; subst h2; subst h3
    exact Or.inr ⟨q, (T.setVm vm₁).calling g' mk As.toArray, t, U', L, E, ce, hT, X', hL, e1, e2, hq, hce, hcv, vx_cls hW₁ hcl, st⟩
end
end VXH
theorem vx_ofWH {l : Launch} {y : MethodName} {ws ws' : List Cond} {rm : Room} {Pc : Array Value → State → Prop} {Qc : Array Value → State → Outcome → State → Prop} {XC : String → State → State → Prop} {mc ms : Nat} {free : Addr → Prop} {cc : ByteArray} {maxL : Nat} {ret : Option FieldType} {hh : List (Nat × Nat × Nat × Nat)}
    (hy : plainName y.cls = true) (hw : ws = Cond.codeWith y cc maxL ret hh :: ws')
    (body : ∀ p e s m args below meth c s₁, BodyLoose p l y (headSpec ws rm) cc maxL ret e s m args below meth c s₁ → c.maxLocals = maxL → Pc args s →
      W p l e (headSpec ws rm).room s m args below meth c s.heap [] 0 0 (vx_MQ below Qc XC args s mc ms free) (entryFrame m args maxL)) : vx_Met l y ws rm Pc Qc XC mc ms free := by
  refine MetFree.of_bodyS (code := cc) (maxLocals := maxL) (ret := ret) hy ?_ ?_
  · intro args s m h hn
    obtain ⟨m9, meth, c, hn9, h1, h2, h3, h4, -, h5, h6, -⟩ := Cond.codeWith_spec (atoms_spec (ws := ws) h _ (by rw [hw]; exact List.mem_cons_self))
    cases hn.symm.trans hn9
    exact ⟨meth, c, h1, h2, h3, h4, h5, h6⟩
  · intro p e s m args below meth c s₁ B hml hP _
    have hh0 : s₁.heap = s.heap := by rw [B.state]; rfl
    obtain ⟨t, a1, o, b1, b2, b3⟩ := body p e s m args below meth c s₁ B hml hP s₁ hh0 (Stand.of_body B)
    exact ⟨t, o, a1, b1, b2, b3⟩
end
section
def fw_T0 : u_T := fun k => match k with
  | 0 => ("FolderRights", "groups", "LFolderRights$Groups;", true)
  | 1 => ("FolderRights", "nodes", "[LFolderRights$Node;", true)
  | _ => ("FolderRights", "users", "I", false)
def fw_y0 : Nat → FieldType := fun k => match k with
  | 0 => .object "FolderRights$Groups"
  | 1 => .array (.object "FolderRights$Node")
  | _ => .int
theorem fw_n0 : ∀ a, a < 3 → ∀ b, b < 3 → a ≠ b → (fw_T0 a).2.1 ≠ (fw_T0 b).2.1 := by decide +kernel
theorem fw_k0 : ∀ k, k < 3 → parseFieldDescriptor (fw_T0 k).2.2.1 = some (fw_y0 k) := by decide +kernel
theorem fw_i0 : ∀ x ∈ u_ws "FolderRights" fw_T0 3, x ∈ lw_tbl := by
  intro x hx
  obtain ⟨k, hk, rfl⟩ := List.mem_map.mp hx
  have hk := List.mem_range.mp hk
  match k, hk with
  | 0, _ => exact fw_t 122 (by decide +kernel)
  | 1, _ => exact fw_t 124 (by decide +kernel)
  | 2, _ => exact fw_t 126 (by decide +kernel)
  | n + 3, h => exact absurd h (by omega)
def fw_T1 : u_T := fun k => match k with
  | 0 => ("FolderRights$Groups", "size", "I", false)
  | 1 => ("FolderRights$Groups", "userMembers", "[J", true)
  | 2 => ("FolderRights$Groups", "groupMembers", "[J", true)
  | 3 => ("FolderRights$Groups", "groupsIn", "[J", true)
  | _ => ("FolderRights$Groups", "usersIn", "[J", true)
def fw_y1 : Nat → FieldType := fun k => match k with
  | 0 => .int
  | 1 => .array .long
  | 2 => .array .long
  | 3 => .array .long
  | _ => .array .long
theorem fw_n1 : ∀ a, a < 5 → ∀ b, b < 5 → a ≠ b → (fw_T1 a).2.1 ≠ (fw_T1 b).2.1 := by decide +kernel
theorem fw_k1 : ∀ k, k < 5 → parseFieldDescriptor (fw_T1 k).2.2.1 = some (fw_y1 k) := by decide +kernel
theorem fw_i1 : ∀ x ∈ u_ws "FolderRights$Groups" fw_T1 5, x ∈ lw_tbl := by
  intro x hx
  obtain ⟨k, hk, rfl⟩ := List.mem_map.mp hx
  have hk := List.mem_range.mp hk
  match k, hk with
  | 0, _ => exact fw_t 43 (by decide +kernel)
  | 1, _ => exact fw_t 45 (by decide +kernel)
  | 2, _ => exact fw_t 47 (by decide +kernel)
  | 3, _ => exact fw_t 49 (by decide +kernel)
  | 4, _ => exact fw_t 51 (by decide +kernel)
  | n + 5, h => exact absurd h (by omega)
def fw_T2 : u_T := fun k => match k with
  | 0 => ("FolderRights$Node", "number", "I", true)
  | 1 => ("FolderRights$Node", "folder", "Z", true)
  | 2 => ("FolderRights$Node", "entries", "Ljava/util/ArrayList;", true)
  | 3 => ("FolderRights$Node", "parent", "LFolderRights$Node;", false)
  | 4 => ("FolderRights$Node", "owner", "I", false)
  | 5 => ("FolderRights$Node", "blocks", "Z", false)
  | _ => ("FolderRights$Node", "stale", "Z", false)
def fw_y2 : Nat → FieldType := fun k => match k with
  | 0 => .int
  | 1 => .boolean
  | 2 => .object "java/util/ArrayList"
  | 3 => .object "FolderRights$Node"
  | 4 => .int
  | 5 => .boolean
  | _ => .boolean
theorem fw_n2 : ∀ a, a < 7 → ∀ b, b < 7 → a ≠ b → (fw_T2 a).2.1 ≠ (fw_T2 b).2.1 := by decide +kernel
theorem fw_k2 : ∀ k, k < 7 → parseFieldDescriptor (fw_T2 k).2.2.1 = some (fw_y2 k) := by decide +kernel
theorem fw_i2 : ∀ x ∈ u_ws "FolderRights$Node" fw_T2 7, x ∈ lw_tbl := by
  intro x hx
  obtain ⟨k, hk, rfl⟩ := List.mem_map.mp hx
  have hk := List.mem_range.mp hk
  match k, hk with
  | 0, _ => exact fw_t 104 (by decide +kernel)
  | 1, _ => exact fw_t 106 (by decide +kernel)
  | 2, _ => exact fw_t 108 (by decide +kernel)
  | 3, _ => exact fw_t 110 (by decide +kernel)
  | 4, _ => exact fw_t 112 (by decide +kernel)
  | 5, _ => exact fw_t 114 (by decide +kernel)
  | 6, _ => exact fw_t 116 (by decide +kernel)
  | n + 7, h => exact absurd h (by omega)
def fw_T3 : u_T := fun k => match k with
  | 0 => ("FolderRights$Entry", "allows", "Z", true)
  | 1 => ("FolderRights$Entry", "whom", "I", true)
  | 2 => ("FolderRights$Entry", "isGroup", "Z", true)
  | 3 => ("FolderRights$Entry", "rightBits", "I", true)
  | _ => ("FolderRights$Entry", "flags", "I", true)
def fw_y3 : Nat → FieldType := fun k => match k with
  | 0 => .boolean
  | 1 => .int
  | 2 => .boolean
  | 3 => .int
  | _ => .int
theorem fw_n3 : ∀ a, a < 5 → ∀ b, b < 5 → a ≠ b → (fw_T3 a).2.1 ≠ (fw_T3 b).2.1 := by decide +kernel
theorem fw_k3 : ∀ k, k < 5 → parseFieldDescriptor (fw_T3 k).2.2.1 = some (fw_y3 k) := by decide +kernel
theorem fw_i3 : ∀ x ∈ u_ws "FolderRights$Entry" fw_T3 5, x ∈ lw_tbl := by
  intro x hx
  obtain ⟨k, hk, rfl⟩ := List.mem_map.mp hx
  have hk := List.mem_range.mp hk
  match k, hk with
  | 0, _ => exact fw_t 400 (by decide +kernel)
  | 1, _ => exact fw_t 402 (by decide +kernel)
  | 2, _ => exact fw_t 404 (by decide +kernel)
  | 3, _ => exact fw_t 406 (by decide +kernel)
  | 4, _ => exact fw_t 408 (by decide +kernel)
  | n + 5, h => exact absurd h (by omega)
def fw_T4 : u_T := fun k => match k with
  | 0 => ("java/util/AbstractList", "modCount", "I", false)
  | 1 => ("java/util/ArrayList", "elementData", "[Ljava/lang/Object;", false)
  | _ => ("java/util/ArrayList", "size", "I", false)
def fw_y4 : Nat → FieldType := fun k => match k with
  | 0 => .int
  | 1 => .array (.object "java/lang/Object")
  | _ => .int
theorem fw_n4 : ∀ a, a < 3 → ∀ b, b < 3 → a ≠ b → (fw_T4 a).2.1 ≠ (fw_T4 b).2.1 := by decide +kernel
theorem fw_k4 : ∀ k, k < 3 → parseFieldDescriptor (fw_T4 k).2.2.1 = some (fw_y4 k) := by decide +kernel
theorem fw_i4 : ∀ x ∈ u_ws "java/util/ArrayList" fw_T4 3, x ∈ lw_tbl := by
  intro x hx
  obtain ⟨k, hk, rfl⟩ := List.mem_map.mp hx
  have hk := List.mem_range.mp hk
  match k, hk with
  | 0, _ => exact fw_t 85 (by decide +kernel)
  | 1, _ => exact fw_t 81 (by decide +kernel)
  | 2, _ => exact fw_t 83 (by decide +kernel)
  | n + 3, h => exact absurd h (by omega)
def fw_T5 : u_T := fun k => match k with
  | 0 => ("FolderRightsModel", "thrown", "I", false)
  | 1 => ("FolderRightsModel", "users", "I", false)
  | 2 => ("FolderRightsModel", "groups", "I", false)
  | 3 => ("FolderRightsModel", "hasUser", "[Z", true)
  | 4 => ("FolderRightsModel", "hasGroup", "[Z", true)
  | 5 => ("FolderRightsModel", "found", "[Z", true)
  | 6 => ("FolderRightsModel", "inside", "[Z", true)
  | 7 => ("FolderRightsModel", "there", "[Z", true)
  | 8 => ("FolderRightsModel", "folders", "[Z", true)
  | 9 => ("FolderRightsModel", "blocks", "[Z", true)
  | 10 => ("FolderRightsModel", "stales", "[Z", true)
  | 11 => ("FolderRightsModel", "parents", "[I", true)
  | 12 => ("FolderRightsModel", "owners", "[I", true)
  | 13 => ("FolderRightsModel", "many", "[I", true)
  | 14 => ("FolderRightsModel", "allows", "[Z", true)
  | 15 => ("FolderRightsModel", "ofGroup", "[Z", true)
  | 16 => ("FolderRightsModel", "whoms", "[I", true)
  | 17 => ("FolderRightsModel", "bits", "[I", true)
  | 18 => ("FolderRightsModel", "flags", "[I", true)
  | 19 => ("FolderRightsModel", "sort", "I", false)
  | 20 => ("FolderRightsModel", "place", "I", false)
  | _ => ("FolderRightsModel", "position", "I", false)
def fw_y5 : Nat → FieldType := fun k => match k with
  | 0 => .int
  | 1 => .int
  | 2 => .int
  | 3 => .array .boolean
  | 4 => .array .boolean
  | 5 => .array .boolean
  | 6 => .array .boolean
  | 7 => .array .boolean
  | 8 => .array .boolean
  | 9 => .array .boolean
  | 10 => .array .boolean
  | 11 => .array .int
  | 12 => .array .int
  | 13 => .array .int
  | 14 => .array .boolean
  | 15 => .array .boolean
  | 16 => .array .int
  | 17 => .array .int
  | 18 => .array .int
  | 19 => .int
  | 20 => .int
  | _ => .int
theorem fw_n5 : ∀ a, a < 22 → ∀ b, b < 22 → a ≠ b → (fw_T5 a).2.1 ≠ (fw_T5 b).2.1 := by decide +kernel
theorem fw_k5 : ∀ k, k < 22 → parseFieldDescriptor (fw_T5 k).2.2.1 = some (fw_y5 k) := by decide +kernel
theorem fw_i5 : ∀ x ∈ u_ws "FolderRightsModel" fw_T5 22, x ∈ lw_tbl := by
  intro x hx
  obtain ⟨k, hk, rfl⟩ := List.mem_map.mp hx
  have hk := List.mem_range.mp hk
  match k, hk with
  | 0, _ => exact fw_t 657 (by decide +kernel)
  | 1, _ => exact fw_t 659 (by decide +kernel)
  | 2, _ => exact fw_t 661 (by decide +kernel)
  | 3, _ => exact fw_t 663 (by decide +kernel)
  | 4, _ => exact fw_t 665 (by decide +kernel)
  | 5, _ => exact fw_t 667 (by decide +kernel)
  | 6, _ => exact fw_t 669 (by decide +kernel)
  | 7, _ => exact fw_t 671 (by decide +kernel)
  | 8, _ => exact fw_t 673 (by decide +kernel)
  | 9, _ => exact fw_t 675 (by decide +kernel)
  | 10, _ => exact fw_t 677 (by decide +kernel)
  | 11, _ => exact fw_t 679 (by decide +kernel)
  | 12, _ => exact fw_t 681 (by decide +kernel)
  | 13, _ => exact fw_t 683 (by decide +kernel)
  | 14, _ => exact fw_t 685 (by decide +kernel)
  | 15, _ => exact fw_t 687 (by decide +kernel)
  | 16, _ => exact fw_t 689 (by decide +kernel)
  | 17, _ => exact fw_t 691 (by decide +kernel)
  | 18, _ => exact fw_t 693 (by decide +kernel)
  | 19, _ => exact fw_t 695 (by decide +kernel)
  | 20, _ => exact fw_t 697 (by decide +kernel)
  | 21, _ => exact fw_t 699 (by decide +kernel)
  | n + 22, h => exact absurd h (by omega)
abbrev fw_cl : List vw_C := [("FolderRights", fw_T0, 3), ("FolderRights$Groups", fw_T1, 5), ("FolderRights$Node", fw_T2, 7), ("FolderRights$Entry", fw_T3, 5), ("java/util/ArrayList", fw_T4, 3), ("FolderRightsModel", fw_T5, 22)]
end
section
abbrev fw_W : Type := Nat → Option va_E
abbrev fw_O : Type := Option Value ⊕ String
abbrev fw_G : Type := Program × Launch × Env × State × va_G × List (ClassId × FieldType) × Nat × Nat
abbrev fw_M : Type := MethodName × ByteArray × Nat × Option FieldType × Room × List (Nat × Nat × Nat × Nat)
def fw_is (ws : va_W) (w : fw_W) : Prop := ∀ (a : Nat) (x : va_E), (a, x) ∈ ws ↔ w a = some x
def fw_up (w : fw_W) (a : Nat) (x : va_E) : fw_W := fun b => if b = a then some x else w b
theorem fw_up_self {w : fw_W} {a : Nat} {x : va_E} : fw_up w a x a = some x := by simp [fw_up]
theorem fw_up_ne {w : fw_W} {a b : Nat} {x : va_E} (h : b ≠ a) : fw_up w a x b = w b := by simp [fw_up, h]
theorem fw_is.at {ws : va_W} {w : fw_W} {a : Nat} {x : va_E} (h : fw_is ws w) (hw : w a = some x) : ∃ k : Nat, ws[k]? = some (a, x) := List.getElem?_of_mem ((h a x).mpr hw)
theorem fw_is.set {A : Nat → Prop} {ws : va_W} {w : fw_W} {k a : Nat} {x0 x : va_E} (h : fw_is ws w) (hD : va_D A ws) (hk : ws[k]? = some (a, x0)) : fw_is (ws.set k (a, x)) (fw_up w a x) := by
  have hlt : k < ws.length := (List.getElem?_eq_some_iff.mp hk).1
  intro b y
  constructor
  · intro hm
    obtain ⟨i, hi⟩ := List.getElem?_of_mem hm
    rw [List.getElem?_set] at hi
    by_cases hki : k = i
    · subst hki
      rw [if_pos rfl, if_pos hlt] at hi
      cases hi
      exact fw_up_self
    · rw [if_neg hki] at hi
      have hb : b ≠ a := fun e => by
        subst e
        exact hki (hD.1 k i _ _ hk hi rfl)
      rw [fw_up_ne hb]
      exact (h b y).mp (List.mem_of_getElem? hi)
  · intro hw
    by_cases hb : b = a
    · subst hb
      rw [fw_up_self] at hw
      cases hw
      exact List.mem_of_getElem? (i := k) (by rw [List.getElem?_set, if_pos rfl, if_pos hlt])
    · rw [fw_up_ne hb] at hw
      obtain ⟨i, hi⟩ := h.at hw
      refine List.mem_of_getElem? (i := i) ?_
      rw [List.getElem?_set, if_neg]
      · exact hi
      · intro e
        subst e
        rw [hk] at hi
        cases hi
        exact hb rfl
theorem fw_is.push {A : Nat → Prop} {ws : va_W} {w : fw_W} {q : Nat} {x : va_E} (h : fw_is ws w) (hD : va_D A (ws ++ [(q, x)])) : w q = none ∧ fw_is (ws ++ [(q, x)]) (fw_up w q x) := by
  have hq : w q = none := by
    cases hw : w q with
    | none => rfl
    | some y =>
      obtain ⟨i, hi⟩ := h.at hw
      have hl : i < ws.length := (List.getElem?_eq_some_iff.mp hi).1
      have h1 : (ws ++ [(q, x)])[i]? = some (q, y) := by rw [List.getElem?_append_left hl]; exact hi
      have h2 : (ws ++ [(q, x)])[ws.length]? = some (q, x) := by simp
      have h3 := hD.1 i ws.length _ _ h1 h2 rfl
      omega
  refine ⟨hq, fun b y => ?_⟩
  rw [List.mem_append, List.mem_singleton, h b y]
  by_cases hb : b = q
  · subst hb
    rw [fw_up_self, hq]
    constructor
    · rintro (h1 | h1)
      · cases h1
      · cases h1; rfl
    · intro h1
      cases h1
      exact Or.inr rfl
  · rw [fw_up_ne hb]
    constructor
    · rintro (h1 | h1)
      · exact h1
      · cases h1; exact absurd rfl hb
    · exact Or.inl
def fw_A (g : fw_G) : Nat → Prop := fun q => g.2.2.2.1.heap.size ≤ q
def fw_H (g : fw_G) (w : fw_W) (H : Heap) : Prop := ∃ ws : va_W, va_P g.2.2.2.2.1 fw_cl ws H ∧ va_D (fw_A g) ws ∧ fw_is ws w
def fw_ts : List FieldType := [.boolean, .int, .long, .object "FolderRights$Node", .object "java/lang/Object"]
def fw_xp : List (String × String) := [("java/util/NoSuchElementException", "java/lang/IllegalStateException"), ("java/lang/IllegalArgumentException", "java/lang/IllegalStateException"), ("java/lang/IllegalStateException", "java/util/NoSuchElementException"), ("java/lang/IllegalArgumentException", "java/util/NoSuchElementException"), ("java/lang/IllegalStateException", "java/lang/IllegalArgumentException"), ("java/util/NoSuchElementException", "java/lang/IllegalArgumentException")]
def fw_df (g : fw_G) : Nat := g.2.2.2.2.2.2.1
def fw_mi (g : fw_G) : Nat := g.2.2.2.2.2.2.2
def fw_g (g : fw_G) : Prop := g.1.tables.exec = Jvm.exec ∧ (∃ a0 : Array Value, ∀ x ∈ lw_tbl, x.before a0 g.2.2.2.1 = true) ∧ va_K g.2.2.2.2.1 fw_cl g.2.2.2.2.2.1 g.2.2.2.1 ∧ g.2.1.stackTraces = false ∧ g.2.2.2.2.2.1.map (fun q => q.2) = fw_ts ∧
  vx_Zq Bundle.tN "UNASSIGNED_STACK" Bundle.steD (fw_A g) g.2.2.2.1 g.2.2.2.1.heap ∧ vx_Zq Bundle.tN "SUPPRESSED_SENTINEL" Bundle.listD (fw_A g) g.2.2.2.1 g.2.2.2.1.heap ∧ (∀ q ∈ fw_xp, va_Nc q.1 q.2 g.2.2.2.1) ∧
  va_Z "java/util/ArrayList" "DEFAULTCAPACITY_EMPTY_ELEMENTDATA" "[Ljava/lang/Object;" (.ref (fw_df g)) (fw_A g) g.2.2.2.1 g.2.2.2.1.heap ∧ va_T (.object "java/lang/Object") (fw_df g) 0 (fun _ => .null) (fw_A g) g.2.2.2.1 g.2.2.2.1.heap ∧ va_Mi "[Ljava/lang/Object;" (fw_mi g) g.2.2.2.1
def fw_cx (g : fw_G) (M : fw_M) (s : State) (m : MethodId) (meth : Method) (c : Code) : Prop :=
  g.2.2.2.1.WarmedH s.vm ∧ s.methodNamed? M.1 = some m ∧ s.vm.method? m = some meth ∧ meth.code = some c ∧ c.code = M.2.1 ∧ c.maxLocals = M.2.2.1 ∧ meth.sig.returnType = M.2.2.2.1 ∧ meth.locks = false ∧
  c.exceptionTable.toList.map (fun h => (h.startPc, h.endPc, h.handlerPc, h.catchType)) = M.2.2.2.2.2
def fw_oc (g : fw_G) (t : State) (o : Outcome) (r : fw_O) : Prop :=
  (∃ v, o = .returned v ∧ r = .inl v) ∨ ∃ (a : Addr) (C : String) (cell : Cell), o = .threw a ∧ r = .inr C ∧ t.heap[a]? = some cell ∧ cell.vm.isStatics = false ∧ g.2.2.2.1.vm.findClass C = some cell.cls
def fw_E (g : fw_G) (M : fw_M) (s : State) (below : List Frame) (Post : fw_O → fw_W → Prop) : State → Prop := fun t =>
  ∃ (o : Outcome) (r : fw_O) (w : fw_W) (L : List Loc), t.status = .running ∧ Ended t below o ∧ s.WarmedH t.vm ∧ s.sameButNew ({ t with vm := s.vm } : State) L M.2.2.2.2.1.cells M.2.2.2.2.1.slots ∧
    (∀ q ∈ L, fw_A g q.base) ∧ fw_H g w t.heap ∧ va_S (fw_A g) g.2.2.2.1.heap t.heap [] ∧ fw_oc g t o r ∧ Post r w
def fw_R (g : fw_G) (M : fw_M) (Post : fw_O → fw_W → Prop) (nc ns : Nat) (w : fw_W) (pc : Nat) (L : List (Nat × Value)) (st : List Value) : Prop :=
  fw_g g → ∀ (s : State) (m : MethodId) (args : Array Value) (below : List Frame) (meth : Method) (c : Code) (H : Heap) (locs : List Loc) (cells slots : Nat) (ls : Array Slot),
    fw_cx g M s m meth c → va_S (fw_A g) g.2.2.2.1.heap s.heap [] → fw_H g w H → va_S (fw_A g) g.2.2.2.1.heap H locs → cells + nc ≤ M.2.2.2.2.1.cells → slots + ns ≤ M.2.2.2.2.1.slots → lv_has ls M.2.2.1 L →
    W g.1 g.2.1 g.2.2.1 M.2.2.2.2.1 s m args below meth c H locs cells slots (fw_E g M s below Post) (F0 m pc ls st)
theorem fw_mono {p : Program} {l : Launch} {e : Env} {R : Room} {s : State} {m : MethodId} {args : Array Value} {below : List Frame} {meth : Method} {c : Code} {H : Heap} {locs : List Loc} {cells slots : Nat} {Q Q' : State → Prop} {f : JFrame}
    (h : ∀ t, Q t → Q' t) (k : W p l e R s m args below meth c H locs cells slots Q f) : W p l e R s m args below meth c H locs cells slots Q' f := by
  intro T hT X
  obtain ⟨t, a, b⟩ := k T hT X
  exact ⟨t, a, h t b⟩
theorem fw_word {g : fw_G} (hg : fw_g g) {s : State} (hW : g.2.2.2.1.WarmedH s.vm) {args : Array Value} {x : Cond} (hx : x ∈ lw_tbl) (hc : (x.onTables && x.keeps) = true) : x.before args s = true := by
  obtain ⟨a0, h⟩ := hg.2.1
  exact word_at hW (Or.inl hc) (h x hx)
theorem fw_wordA {g : fw_G} (hg : fw_g g) {s : State} (hW : g.2.2.2.1.WarmedH s.vm) {args : Array Value} {ty : FieldType} (hx : Cond.arrayClass ty ∈ lw_tbl) : (Cond.arrayClass ty).before args s = true := by
  obtain ⟨a0, h⟩ := hg.2.1
  exact word_at hW (Or.inr ⟨ty, rfl⟩) (h _ hx)
theorem fw_wordF {g : fw_G} (hg : fw_g g) {s : State} (hW : g.2.2.2.1.WarmedH s.vm) {args : Array Value} {a : String} {i : Nat} {b n d h : String} (hx : Cond.fieldLinkNest a i b n d h ∈ lw_tbl) : (Cond.fieldLinkNest a i b n d h).before args s = true := by
  obtain ⟨a0, h⟩ := hg.2.1
  exact va_Nw.use rfl (va_Nw.warmF hW (va_Nw.of rfl (h _ hx)))
theorem fw_wordM {g : fw_G} (hg : fw_g g) {s : State} (hW : g.2.2.2.1.WarmedH s.vm) {args : Array Value} {a : String} {i : Nat} {x : MethodName} {h : String} (hx : Cond.methodLinkNest a i x h ∈ lw_tbl) : (Cond.methodLinkNest a i x h).before args s = true := by
  obtain ⟨a0, h⟩ := hg.2.1
  exact va_Nw.use rfl (va_Nw.warmM hW (va_Nw.of rfl (h _ hx)))
theorem fw_wordC {g : fw_G} (hg : fw_g g) {s : State} (hW : g.2.2.2.1.WarmedH s.vm) {C T : String} (hx : Cond.castable C T ∈ lw_tbl) : va_Nw (.castable C T) s := by
  obtain ⟨a0, h⟩ := hg.2.1
  exact va_Nw.warmC hW (va_Nw.of rfl (h _ hx))
theorem fw_cx.own {g : fw_G} {M : fw_M} {s : State} {m : MethodId} {meth : Method} {c : Code} (h : fw_cx g M s m meth c) : s.vm.findClass M.1.cls = some m.cls := findClass_of_methodNamed h.2.1
theorem fw_cx.K {g : fw_G} (hg : fw_g g) {M : fw_M} {s : State} {m : MethodId} {meth : Method} {c : Code} (h : fw_cx g M s m meth c) : va_K g.2.2.2.2.1 fw_cl g.2.2.2.2.2.1 s := va_K.moved h.1.alike hg.2.2.1
end
section
section FR
variable {g : fw_G} {M : fw_M} {Post : fw_O → fw_W → Prop} {nc ns : Nat} {w : fw_W} {pc : Nat} {L : List (Nat × Value)} {rest : List Value}
theorem fr_iconst {n : Int} {v : Int32} (hdg : decode M.2.1 pc = .ok (.iconst n, 1)) (hv : Int32.ofInt n = v) (k : fw_R g M Post nc ns w (pc + 1) L (.int v :: rest)) : fw_R g M Post nc ns w pc L (rest) := by
  intro hg s m args below meth c H locs cells slots ls cx hB hH hS e1 e2 hl
  exact lv_iconst hg.1 cx.2.2.2.2.1 hdg hv (k hg s m args below meth c H locs cells slots ls cx hB hH hS e1 e2 hl)
theorem fr_bipush {n : Int} {v : Int32} (hdg : decode M.2.1 pc = .ok (.bipush n, 2)) (hv : (Int8.ofInt n).toInt32 = v) (k : fw_R g M Post nc ns w (pc + 2) L (.int v :: rest)) : fw_R g M Post nc ns w pc L (rest) := by
  intro hg s m args below meth c H locs cells slots ls cx hB hH hS e1 e2 hl
  exact lv_bipush hg.1 cx.2.2.2.2.1 hdg hv (k hg s m args below meth c H locs cells slots ls cx hB hH hS e1 e2 hl)
theorem fr_sipush {n : Int} {v : Int32} (hdg : decode M.2.1 pc = .ok (.sipush n, 3)) (hv : (Int16.ofInt n).toInt32 = v) (k : fw_R g M Post nc ns w (pc + 3) L (.int v :: rest)) : fw_R g M Post nc ns w pc L (rest) := by
  intro hg s m args below meth c H locs cells slots ls cx hB hH hS e1 e2 hl
  exact lv_sipush hg.1 cx.2.2.2.2.1 hdg hv (k hg s m args below meth c H locs cells slots ls cx hB hH hS e1 e2 hl)
theorem fr_lconst {n : Fin 2} {v : Int64} (hdg : decode M.2.1 pc = .ok (.lconst n, 1)) (hv : Int64.ofNat (n : Nat) = v) (k : fw_R g M Post nc ns w (pc + 1) L (.long v :: rest)) : fw_R g M Post nc ns w pc L (rest) := by
  intro hg s m args below meth c H locs cells slots ls cx hB hH hS e1 e2 hl
  exact lv_lconst hg.1 cx.2.2.2.2.1 hdg hv (k hg s m args below meth c H locs cells slots ls cx hB hH hS e1 e2 hl)
theorem fr_iadd {x y : Int32} (hdg : decode M.2.1 pc = .ok (.iadd, 1)) (k : fw_R g M Post nc ns w (pc + 1) L (.int (x + y) :: rest)) : fw_R g M Post nc ns w pc L (.int y :: .int x :: rest) := by
  intro hg s m args below meth c H locs cells slots ls cx hB hH hS e1 e2 hl
  exact lv_iadd hg.1 cx.2.2.2.2.1 hdg (k hg s m args below meth c H locs cells slots ls cx hB hH hS e1 e2 hl)
theorem fr_isub {x y : Int32} (hdg : decode M.2.1 pc = .ok (.isub, 1)) (k : fw_R g M Post nc ns w (pc + 1) L (.int (x - y) :: rest)) : fw_R g M Post nc ns w pc L (.int y :: .int x :: rest) := by
  intro hg s m args below meth c H locs cells slots ls cx hB hH hS e1 e2 hl
  exact lv_isub hg.1 cx.2.2.2.2.1 hdg (k hg s m args below meth c H locs cells slots ls cx hB hH hS e1 e2 hl)
theorem fr_imul {x y : Int32} (hdg : decode M.2.1 pc = .ok (.imul, 1)) (k : fw_R g M Post nc ns w (pc + 1) L (.int (x * y) :: rest)) : fw_R g M Post nc ns w pc L (.int y :: .int x :: rest) := by
  intro hg s m args below meth c H locs cells slots ls cx hB hH hS e1 e2 hl
  exact lv_imul hg.1 cx.2.2.2.2.1 hdg (k hg s m args below meth c H locs cells slots ls cx hB hH hS e1 e2 hl)
theorem fr_iand {x y : Int32} (hdg : decode M.2.1 pc = .ok (.iand, 1)) (k : fw_R g M Post nc ns w (pc + 1) L (.int (x &&& y) :: rest)) : fw_R g M Post nc ns w pc L (.int y :: .int x :: rest) := by
  intro hg s m args below meth c H locs cells slots ls cx hB hH hS e1 e2 hl
  exact lv_iand hg.1 cx.2.2.2.2.1 hdg (k hg s m args below meth c H locs cells slots ls cx hB hH hS e1 e2 hl)
theorem fr_ior {x y : Int32} (hdg : decode M.2.1 pc = .ok (.ior, 1)) (k : fw_R g M Post nc ns w (pc + 1) L (.int (x ||| y) :: rest)) : fw_R g M Post nc ns w pc L (.int y :: .int x :: rest) := by
  intro hg s m args below meth c H locs cells slots ls cx hB hH hS e1 e2 hl
  exact lv_ior hg.1 cx.2.2.2.2.1 hdg (k hg s m args below meth c H locs cells slots ls cx hB hH hS e1 e2 hl)
theorem fr_ixor {x y : Int32} (hdg : decode M.2.1 pc = .ok (.ixor, 1)) (k : fw_R g M Post nc ns w (pc + 1) L (.int (x ^^^ y) :: rest)) : fw_R g M Post nc ns w pc L (.int y :: .int x :: rest) := by
  intro hg s m args below meth c H locs cells slots ls cx hB hH hS e1 e2 hl
  exact lv_ixor hg.1 cx.2.2.2.2.1 hdg (k hg s m args below meth c H locs cells slots ls cx hB hH hS e1 e2 hl)
theorem fr_ineg {x : Int32} (hdg : decode M.2.1 pc = .ok (.ineg, 1)) (k : fw_R g M Post nc ns w (pc + 1) L (.int (-x) :: rest)) : fw_R g M Post nc ns w pc L (.int x :: rest) := by
  intro hg s m args below meth c H locs cells slots ls cx hB hH hS e1 e2 hl
  exact lv_ineg hg.1 cx.2.2.2.2.1 hdg (k hg s m args below meth c H locs cells slots ls cx hB hH hS e1 e2 hl)
theorem fr_ladd {x y : Int64} (hdg : decode M.2.1 pc = .ok (.ladd, 1)) (k : fw_R g M Post nc ns w (pc + 1) L (.long (x + y) :: rest)) : fw_R g M Post nc ns w pc L (.long y :: .long x :: rest) := by
  intro hg s m args below meth c H locs cells slots ls cx hB hH hS e1 e2 hl
  exact lv_ladd hg.1 cx.2.2.2.2.1 hdg (k hg s m args below meth c H locs cells slots ls cx hB hH hS e1 e2 hl)
theorem fr_lsub {x y : Int64} (hdg : decode M.2.1 pc = .ok (.lsub, 1)) (k : fw_R g M Post nc ns w (pc + 1) L (.long (x - y) :: rest)) : fw_R g M Post nc ns w pc L (.long y :: .long x :: rest) := by
  intro hg s m args below meth c H locs cells slots ls cx hB hH hS e1 e2 hl
  exact lv_lsub hg.1 cx.2.2.2.2.1 hdg (k hg s m args below meth c H locs cells slots ls cx hB hH hS e1 e2 hl)
theorem fr_land {x y : Int64} (hdg : decode M.2.1 pc = .ok (.land, 1)) (k : fw_R g M Post nc ns w (pc + 1) L (.long (x &&& y) :: rest)) : fw_R g M Post nc ns w pc L (.long y :: .long x :: rest) := by
  intro hg s m args below meth c H locs cells slots ls cx hB hH hS e1 e2 hl
  exact lv_land hg.1 cx.2.2.2.2.1 hdg (k hg s m args below meth c H locs cells slots ls cx hB hH hS e1 e2 hl)
theorem fr_lor {x y : Int64} (hdg : decode M.2.1 pc = .ok (.lor, 1)) (k : fw_R g M Post nc ns w (pc + 1) L (.long (x ||| y) :: rest)) : fw_R g M Post nc ns w pc L (.long y :: .long x :: rest) := by
  intro hg s m args below meth c H locs cells slots ls cx hB hH hS e1 e2 hl
  exact lv_lor hg.1 cx.2.2.2.2.1 hdg (k hg s m args below meth c H locs cells slots ls cx hB hH hS e1 e2 hl)
theorem fr_lxor {x y : Int64} (hdg : decode M.2.1 pc = .ok (.lxor, 1)) (k : fw_R g M Post nc ns w (pc + 1) L (.long (x ^^^ y) :: rest)) : fw_R g M Post nc ns w pc L (.long y :: .long x :: rest) := by
  intro hg s m args below meth c H locs cells slots ls cx hB hH hS e1 e2 hl
  exact lv_lxor hg.1 cx.2.2.2.2.1 hdg (k hg s m args below meth c H locs cells slots ls cx hB hH hS e1 e2 hl)
theorem fr_ishl {x y : Int32} (hdg : decode M.2.1 pc = .ok (.ishl, 1)) (k : fw_R g M Post nc ns w (pc + 1) L (.int (x <<< (y &&& 31)) :: rest)) : fw_R g M Post nc ns w pc L (.int y :: .int x :: rest) := by
  intro hg s m args below meth c H locs cells slots ls cx hB hH hS e1 e2 hl
  exact lv_ishl hg.1 cx.2.2.2.2.1 hdg (k hg s m args below meth c H locs cells slots ls cx hB hH hS e1 e2 hl)
theorem fr_ishr {x y : Int32} (hdg : decode M.2.1 pc = .ok (.ishr, 1)) (k : fw_R g M Post nc ns w (pc + 1) L (.int (x >>> (y &&& 31)) :: rest)) : fw_R g M Post nc ns w pc L (.int y :: .int x :: rest) := by
  intro hg s m args below meth c H locs cells slots ls cx hB hH hS e1 e2 hl
  exact lv_ishr hg.1 cx.2.2.2.2.1 hdg (k hg s m args below meth c H locs cells slots ls cx hB hH hS e1 e2 hl)
theorem fr_i2l {x : Int32} {v : Int64} (hdg : decode M.2.1 pc = .ok (.i2l, 1)) (hv : x.toInt64 = v) (k : fw_R g M Post nc ns w (pc + 1) L (.long v :: rest)) : fw_R g M Post nc ns w pc L (.int x :: rest) := by
  intro hg s m args below meth c H locs cells slots ls cx hB hH hS e1 e2 hl
  exact lv_i2l hg.1 cx.2.2.2.2.1 hdg hv (k hg s m args below meth c H locs cells slots ls cx hB hH hS e1 e2 hl)
theorem fr_l2i {x : Int64} {v : Int32} (hdg : decode M.2.1 pc = .ok (.l2i, 1)) (hv : x.toInt32 = v) (k : fw_R g M Post nc ns w (pc + 1) L (.int v :: rest)) : fw_R g M Post nc ns w pc L (.long x :: rest) := by
  intro hg s m args below meth c H locs cells slots ls cx hB hH hS e1 e2 hl
  exact lv_l2i hg.1 cx.2.2.2.2.1 hdg hv (k hg s m args below meth c H locs cells slots ls cx hB hH hS e1 e2 hl)
theorem fr_iushr {x y v : Int32} (hdg : decode M.2.1 pc = .ok (.iushr, 1)) (hv : (x.toUInt32 >>> (y.toUInt32 &&& Int32.toUInt32 31)).toInt32 = v) (k : fw_R g M Post nc ns w (pc + 1) L (.int v :: rest)) : fw_R g M Post nc ns w pc L (.int y :: .int x :: rest) := by
  intro hg s m args below meth c H locs cells slots ls cx hB hH hS e1 e2 hl
  exact lv_iushr hg.1 cx.2.2.2.2.1 hdg hv (k hg s m args below meth c H locs cells slots ls cx hB hH hS e1 e2 hl)
theorem fr_lushr {x v : Int64} {y : Int32} (hdg : decode M.2.1 pc = .ok (.lushr, 1)) (hv : (x.toUInt64 >>> (y.toInt64.toUInt64 &&& Int64.toUInt64 63)).toInt64 = v) (k : fw_R g M Post nc ns w (pc + 1) L (.long v :: rest)) : fw_R g M Post nc ns w pc L (.int y :: .long x :: rest) := by
  intro hg s m args below meth c H locs cells slots ls cx hB hH hS e1 e2 hl
  exact lv_lushr hg.1 cx.2.2.2.2.1 hdg hv (k hg s m args below meth c H locs cells slots ls cx hB hH hS e1 e2 hl)
theorem fr_lshl {x v : Int64} {y : Int32} (hdg : decode M.2.1 pc = .ok (.lshl, 1)) (hv : x <<< (y.toInt64 &&& 63) = v) (k : fw_R g M Post nc ns w (pc + 1) L (.long v :: rest)) : fw_R g M Post nc ns w pc L (.int y :: .long x :: rest) := by
  intro hg s m args below meth c H locs cells slots ls cx hB hH hS e1 e2 hl
  exact lv_lshl hg.1 cx.2.2.2.2.1 hdg hv (k hg s m args below meth c H locs cells slots ls cx hB hH hS e1 e2 hl)
theorem fr_dup {va : Value} (hdg : decode M.2.1 pc = .ok (.dup, 1)) (hva : va.category = 1) (k : fw_R g M Post nc ns w (pc + 1) L (va :: va :: rest)) : fw_R g M Post nc ns w pc L (va :: rest) := by
  intro hg s m args below meth c H locs cells slots ls cx hB hH hS e1 e2 hl
  exact lv_dup hg.1 cx.2.2.2.2.1 hdg hva (k hg s m args below meth c H locs cells slots ls cx hB hH hS e1 e2 hl)
theorem fr_pop {va : Value} (hdg : decode M.2.1 pc = .ok (.pop, 1)) (hva : va.category = 1) (k : fw_R g M Post nc ns w (pc + 1) L (rest)) : fw_R g M Post nc ns w pc L (va :: rest) := by
  intro hg s m args below meth c H locs cells slots ls cx hB hH hS e1 e2 hl
  exact lv_pop hg.1 cx.2.2.2.2.1 hdg hva (k hg s m args below meth c H locs cells slots ls cx hB hH hS e1 e2 hl)
theorem fr_dup_x1 {va vb : Value} (hdg : decode M.2.1 pc = .ok (.dup_x1, 1)) (hva : va.category = 1) (hvb : vb.category = 1) (k : fw_R g M Post nc ns w (pc + 1) L (va :: vb :: va :: rest)) : fw_R g M Post nc ns w pc L (va :: vb :: rest) := by
  intro hg s m args below meth c H locs cells slots ls cx hB hH hS e1 e2 hl
  exact lv_dup_x1 hg.1 cx.2.2.2.2.1 hdg hva hvb (k hg s m args below meth c H locs cells slots ls cx hB hH hS e1 e2 hl)
theorem fr_dup_x2 {va vb vd : Value} (hdg : decode M.2.1 pc = .ok (.dup_x2, 1)) (hva : va.category = 1) (hvb : vb.category = 1) (hvd : vd.category = 1) (k : fw_R g M Post nc ns w (pc + 1) L (va :: vb :: vd :: va :: rest)) : fw_R g M Post nc ns w pc L (va :: vb :: vd :: rest) := by
  intro hg s m args below meth c H locs cells slots ls cx hB hH hS e1 e2 hl
  exact lv_dup_x2 hg.1 cx.2.2.2.2.1 hdg hva hvb hvd (k hg s m args below meth c H locs cells slots ls cx hB hH hS e1 e2 hl)
theorem fr_dup2_11 {va vb : Value} (hdg : decode M.2.1 pc = .ok (.dup2, 1)) (hva : va.category = 1) (hvb : vb.category = 1) (k : fw_R g M Post nc ns w (pc + 1) L (va :: vb :: va :: vb :: rest)) : fw_R g M Post nc ns w pc L (va :: vb :: rest) := by
  intro hg s m args below meth c H locs cells slots ls cx hB hH hS e1 e2 hl
  exact lv_dup2_11 hg.1 cx.2.2.2.2.1 hdg hva hvb (k hg s m args below meth c H locs cells slots ls cx hB hH hS e1 e2 hl)
theorem fr_dup2_2 {va : Value} (hdg : decode M.2.1 pc = .ok (.dup2, 1)) (hva : va.category = 2) (k : fw_R g M Post nc ns w (pc + 1) L (va :: va :: rest)) : fw_R g M Post nc ns w pc L (va :: rest) := by
  intro hg s m args below meth c H locs cells slots ls cx hB hH hS e1 e2 hl
  exact lv_dup2_2 hg.1 cx.2.2.2.2.1 hdg hva (k hg s m args below meth c H locs cells slots ls cx hB hH hS e1 e2 hl)
theorem fr_if_eq {x : Int32} {off : Int} {tgt : Nat} (hdg : decode M.2.1 pc = .ok (.ifCond .eq off, 3)) (ht : (pc : Int) + off = (tgt : Int)) (kt : x = 0 → fw_R g M Post nc ns w tgt L rest) (kf : ¬ x = 0 → fw_R g M Post nc ns w (pc + 3) L rest) : fw_R g M Post nc ns w pc L (.int x :: rest) := by
  intro hg s m args below meth c H locs cells slots ls cx hB hH hS e1 e2 hl
  exact lv_if_eq hg.1 cx.2.2.2.2.1 hdg ht (fun hq => kt hq hg s m args below meth c H locs cells slots ls cx hB hH hS e1 e2 hl) (fun hq => kf hq hg s m args below meth c H locs cells slots ls cx hB hH hS e1 e2 hl)
theorem fr_icmp_eq {x y : Int32} {off : Int} {tgt : Nat} (hdg : decode M.2.1 pc = .ok (.if_icmp .eq off, 3)) (ht : (pc : Int) + off = (tgt : Int)) (kt : x = y → fw_R g M Post nc ns w tgt L rest) (kf : ¬ x = y → fw_R g M Post nc ns w (pc + 3) L rest) : fw_R g M Post nc ns w pc L (.int y :: .int x :: rest) := by
  intro hg s m args below meth c H locs cells slots ls cx hB hH hS e1 e2 hl
  exact lv_icmp_eq hg.1 cx.2.2.2.2.1 hdg ht (fun hq => kt hq hg s m args below meth c H locs cells slots ls cx hB hH hS e1 e2 hl) (fun hq => kf hq hg s m args below meth c H locs cells slots ls cx hB hH hS e1 e2 hl)
theorem fr_if_ne {x : Int32} {off : Int} {tgt : Nat} (hdg : decode M.2.1 pc = .ok (.ifCond .ne off, 3)) (ht : (pc : Int) + off = (tgt : Int)) (kt : ¬ x = 0 → fw_R g M Post nc ns w tgt L rest) (kf : x = 0 → fw_R g M Post nc ns w (pc + 3) L rest) : fw_R g M Post nc ns w pc L (.int x :: rest) := by
  intro hg s m args below meth c H locs cells slots ls cx hB hH hS e1 e2 hl
  exact lv_if_ne hg.1 cx.2.2.2.2.1 hdg ht (fun hq => kt hq hg s m args below meth c H locs cells slots ls cx hB hH hS e1 e2 hl) (fun hq => kf hq hg s m args below meth c H locs cells slots ls cx hB hH hS e1 e2 hl)
theorem fr_icmp_ne {x y : Int32} {off : Int} {tgt : Nat} (hdg : decode M.2.1 pc = .ok (.if_icmp .ne off, 3)) (ht : (pc : Int) + off = (tgt : Int)) (kt : ¬ x = y → fw_R g M Post nc ns w tgt L rest) (kf : x = y → fw_R g M Post nc ns w (pc + 3) L rest) : fw_R g M Post nc ns w pc L (.int y :: .int x :: rest) := by
  intro hg s m args below meth c H locs cells slots ls cx hB hH hS e1 e2 hl
  exact lv_icmp_ne hg.1 cx.2.2.2.2.1 hdg ht (fun hq => kt hq hg s m args below meth c H locs cells slots ls cx hB hH hS e1 e2 hl) (fun hq => kf hq hg s m args below meth c H locs cells slots ls cx hB hH hS e1 e2 hl)
theorem fr_if_lt {x : Int32} {off : Int} {tgt : Nat} (hdg : decode M.2.1 pc = .ok (.ifCond .lt off, 3)) (ht : (pc : Int) + off = (tgt : Int)) (kt : x < 0 → fw_R g M Post nc ns w tgt L rest) (kf : ¬ x < 0 → fw_R g M Post nc ns w (pc + 3) L rest) : fw_R g M Post nc ns w pc L (.int x :: rest) := by
  intro hg s m args below meth c H locs cells slots ls cx hB hH hS e1 e2 hl
  exact lv_if_lt hg.1 cx.2.2.2.2.1 hdg ht (fun hq => kt hq hg s m args below meth c H locs cells slots ls cx hB hH hS e1 e2 hl) (fun hq => kf hq hg s m args below meth c H locs cells slots ls cx hB hH hS e1 e2 hl)
theorem fr_icmp_lt {x y : Int32} {off : Int} {tgt : Nat} (hdg : decode M.2.1 pc = .ok (.if_icmp .lt off, 3)) (ht : (pc : Int) + off = (tgt : Int)) (kt : x < y → fw_R g M Post nc ns w tgt L rest) (kf : ¬ x < y → fw_R g M Post nc ns w (pc + 3) L rest) : fw_R g M Post nc ns w pc L (.int y :: .int x :: rest) := by
  intro hg s m args below meth c H locs cells slots ls cx hB hH hS e1 e2 hl
  exact lv_icmp_lt hg.1 cx.2.2.2.2.1 hdg ht (fun hq => kt hq hg s m args below meth c H locs cells slots ls cx hB hH hS e1 e2 hl) (fun hq => kf hq hg s m args below meth c H locs cells slots ls cx hB hH hS e1 e2 hl)
theorem fr_if_ge {x : Int32} {off : Int} {tgt : Nat} (hdg : decode M.2.1 pc = .ok (.ifCond .ge off, 3)) (ht : (pc : Int) + off = (tgt : Int)) (kt : 0 ≤ x → fw_R g M Post nc ns w tgt L rest) (kf : ¬ 0 ≤ x → fw_R g M Post nc ns w (pc + 3) L rest) : fw_R g M Post nc ns w pc L (.int x :: rest) := by
  intro hg s m args below meth c H locs cells slots ls cx hB hH hS e1 e2 hl
  exact lv_if_ge hg.1 cx.2.2.2.2.1 hdg ht (fun hq => kt hq hg s m args below meth c H locs cells slots ls cx hB hH hS e1 e2 hl) (fun hq => kf hq hg s m args below meth c H locs cells slots ls cx hB hH hS e1 e2 hl)
theorem fr_icmp_ge {x y : Int32} {off : Int} {tgt : Nat} (hdg : decode M.2.1 pc = .ok (.if_icmp .ge off, 3)) (ht : (pc : Int) + off = (tgt : Int)) (kt : y ≤ x → fw_R g M Post nc ns w tgt L rest) (kf : ¬ y ≤ x → fw_R g M Post nc ns w (pc + 3) L rest) : fw_R g M Post nc ns w pc L (.int y :: .int x :: rest) := by
  intro hg s m args below meth c H locs cells slots ls cx hB hH hS e1 e2 hl
  exact lv_icmp_ge hg.1 cx.2.2.2.2.1 hdg ht (fun hq => kt hq hg s m args below meth c H locs cells slots ls cx hB hH hS e1 e2 hl) (fun hq => kf hq hg s m args below meth c H locs cells slots ls cx hB hH hS e1 e2 hl)
theorem fr_if_gt {x : Int32} {off : Int} {tgt : Nat} (hdg : decode M.2.1 pc = .ok (.ifCond .gt off, 3)) (ht : (pc : Int) + off = (tgt : Int)) (kt : 0 < x → fw_R g M Post nc ns w tgt L rest) (kf : ¬ 0 < x → fw_R g M Post nc ns w (pc + 3) L rest) : fw_R g M Post nc ns w pc L (.int x :: rest) := by
  intro hg s m args below meth c H locs cells slots ls cx hB hH hS e1 e2 hl
  exact lv_if_gt hg.1 cx.2.2.2.2.1 hdg ht (fun hq => kt hq hg s m args below meth c H locs cells slots ls cx hB hH hS e1 e2 hl) (fun hq => kf hq hg s m args below meth c H locs cells slots ls cx hB hH hS e1 e2 hl)
theorem fr_icmp_gt {x y : Int32} {off : Int} {tgt : Nat} (hdg : decode M.2.1 pc = .ok (.if_icmp .gt off, 3)) (ht : (pc : Int) + off = (tgt : Int)) (kt : y < x → fw_R g M Post nc ns w tgt L rest) (kf : ¬ y < x → fw_R g M Post nc ns w (pc + 3) L rest) : fw_R g M Post nc ns w pc L (.int y :: .int x :: rest) := by
  intro hg s m args below meth c H locs cells slots ls cx hB hH hS e1 e2 hl
  exact lv_icmp_gt hg.1 cx.2.2.2.2.1 hdg ht (fun hq => kt hq hg s m args below meth c H locs cells slots ls cx hB hH hS e1 e2 hl) (fun hq => kf hq hg s m args below meth c H locs cells slots ls cx hB hH hS e1 e2 hl)
theorem fr_if_le {x : Int32} {off : Int} {tgt : Nat} (hdg : decode M.2.1 pc = .ok (.ifCond .le off, 3)) (ht : (pc : Int) + off = (tgt : Int)) (kt : x ≤ 0 → fw_R g M Post nc ns w tgt L rest) (kf : ¬ x ≤ 0 → fw_R g M Post nc ns w (pc + 3) L rest) : fw_R g M Post nc ns w pc L (.int x :: rest) := by
  intro hg s m args below meth c H locs cells slots ls cx hB hH hS e1 e2 hl
  exact lv_if_le hg.1 cx.2.2.2.2.1 hdg ht (fun hq => kt hq hg s m args below meth c H locs cells slots ls cx hB hH hS e1 e2 hl) (fun hq => kf hq hg s m args below meth c H locs cells slots ls cx hB hH hS e1 e2 hl)
theorem fr_icmp_le {x y : Int32} {off : Int} {tgt : Nat} (hdg : decode M.2.1 pc = .ok (.if_icmp .le off, 3)) (ht : (pc : Int) + off = (tgt : Int)) (kt : x ≤ y → fw_R g M Post nc ns w tgt L rest) (kf : ¬ x ≤ y → fw_R g M Post nc ns w (pc + 3) L rest) : fw_R g M Post nc ns w pc L (.int y :: .int x :: rest) := by
  intro hg s m args below meth c H locs cells slots ls cx hB hH hS e1 e2 hl
  exact lv_icmp_le hg.1 cx.2.2.2.2.1 hdg ht (fun hq => kt hq hg s m args below meth c H locs cells slots ls cx hB hH hS e1 e2 hl) (fun hq => kf hq hg s m args below meth c H locs cells slots ls cx hB hH hS e1 e2 hl)
theorem fr_goto {off : Int} {tgt : Nat} (hdg : decode M.2.1 pc = .ok (.goto off, 3)) (ht : (pc : Int) + off = (tgt : Int)) (k : fw_R g M Post nc ns w tgt L rest) : fw_R g M Post nc ns w pc L rest := by
  intro hg s m args below meth c H locs cells slots ls cx hB hH hS e1 e2 hl
  exact lv_goto hg.1 cx.2.2.2.2.1 hdg ht (k hg s m args below meth c H locs cells slots ls cx hB hH hS e1 e2 hl)
theorem fr_topi {x : Int32} (k : ∀ y : Int32, y = x → fw_R g M Post nc ns w pc L (.int y :: rest)) : fw_R g M Post nc ns w pc L (.int x :: rest) := by
  intro hg s m args below meth c H locs cells slots ls cx hB hH hS e1 e2 hl
  exact lv_topi (fun z hz => k z hz hg s m args below meth c H locs cells slots ls cx hB hH hS e1 e2 hl)
theorem fr_topl {x : Int64} (k : ∀ y : Int64, y = x → fw_R g M Post nc ns w pc L (.long y :: rest)) : fw_R g M Post nc ns w pc L (.long x :: rest) := by
  intro hg s m args below meth c H locs cells slots ls cx hB hH hS e1 e2 hl
  exact lv_topl (fun z hz => k z hz hg s m args below meth c H locs cells slots ls cx hB hH hS e1 e2 hl)
theorem fr_lookup {dflt : Int} {ps : Array (Int × Int)} {len : Nat} {x : Int32} {off : Int} {tgt : Nat} (hdg : decode M.2.1 pc = .ok (.lookupswitch dflt ps, len)) (hp : (ps.toList.zip (ps.toList.drop 1)).all (fun (a, next) => a.1 < next.1) = true) (ho : Op.lookupswitch.offset ps.toList dflt x.toInt = off) (ht : (pc : Int) + off = (tgt : Int)) (k : fw_R g M Post nc ns w tgt L rest) : fw_R g M Post nc ns w pc L (.int x :: rest) := by
  intro hg s m args below meth c H locs cells slots ls cx hB hH hS e1 e2 hl
  exact lv_lookup hg.1 cx.2.2.2.2.1 hdg hp ho ht (k hg s m args below meth c H locs cells slots ls cx hB hH hS e1 e2 hl)
theorem fr_tableOut {dflt lo hi : Int} {offs : Array Int} {len : Nat} {x : Int32} {tgt : Nat} (hdg : decode M.2.1 pc = .ok (.tableswitch dflt lo hi offs, len)) (h : x.toInt < lo ∨ hi < x.toInt) (ht : (pc : Int) + dflt = (tgt : Int)) (k : fw_R g M Post nc ns w tgt L rest) : fw_R g M Post nc ns w pc L (.int x :: rest) := by
  intro hg s m args below meth c H locs cells slots ls cx hB hH hS e1 e2 hl
  exact lv_tableOut hg.1 cx.2.2.2.2.1 hdg h ht (k hg s m args below meth c H locs cells slots ls cx hB hH hS e1 e2 hl)
theorem fr_tableIn {dflt lo hi : Int} {offs : Array Int} {len : Nat} {x : Int32} {off : Int} {tgt : Nat} (hdg : decode M.2.1 pc = .ok (.tableswitch dflt lo hi offs, len)) (h1 : ¬ x.toInt < lo) (h2 : ¬ hi < x.toInt) (ho : offs[(x.toInt - lo).toNat]? = some off) (ht : (pc : Int) + off = (tgt : Int)) (k : fw_R g M Post nc ns w tgt L rest) : fw_R g M Post nc ns w pc L (.int x :: rest) := by
  intro hg s m args below meth c H locs cells slots ls cx hB hH hS e1 e2 hl
  exact lv_tableIn hg.1 cx.2.2.2.2.1 hdg h1 h2 ho ht (k hg s m args below meth c H locs cells slots ls cx hB hH hS e1 e2 hl)
theorem fr_ifnonnull {x : Nat} {off : Int} {tgt : Nat} (hdg : decode M.2.1 pc = .ok (.ifnonnull off, 3)) (ht : (pc : Int) + off = (tgt : Int)) (k : fw_R g M Post nc ns w tgt L rest) : fw_R g M Post nc ns w pc L (.ref x :: rest) := by
  intro hg s m args below meth c H locs cells slots ls cx hB hH hS e1 e2 hl
  exact lv_ifnonnull hg.1 cx.2.2.2.2.1 hdg ht (k hg s m args below meth c H locs cells slots ls cx hB hH hS e1 e2 hl)
theorem fr_ifnull {x : Nat} {off : Int} (hdg : decode M.2.1 pc = .ok (.ifnull off, 3)) (k : fw_R g M Post nc ns w (pc + 3) L rest) : fw_R g M Post nc ns w pc L (.ref x :: rest) := by
  intro hg s m args below meth c H locs cells slots ls cx hB hH hS e1 e2 hl
  exact lv_ifnull hg.1 cx.2.2.2.2.1 hdg (k hg s m args below meth c H locs cells slots ls cx hB hH hS e1 e2 hl)
theorem fr_null (hdg : decode M.2.1 pc = .ok (.aconst_null, 1)) (k : fw_R g M Post nc ns w (pc + 1) L (.null :: rest)) : fw_R g M Post nc ns w pc L rest := by
  intro hg s m args below meth c H locs cells slots ls cx hB hH hS e1 e2 hl
  exact lv_null hg.1 cx.2.2.2.2.1 hdg (k hg s m args below meth c H locs cells slots ls cx hB hH hS e1 e2 hl)
theorem fr_ifnullN {off : Int} {tgt : Nat} (hdg : decode M.2.1 pc = .ok (.ifnull off, 3)) (ht : (pc : Int) + off = (tgt : Int)) (k : fw_R g M Post nc ns w tgt L rest) : fw_R g M Post nc ns w pc L (.null :: rest) := by
  intro hg s m args below meth c H locs cells slots ls cx hB hH hS e1 e2 hl
  exact lv_ifnullN hg.1 cx.2.2.2.2.1 hdg ht (k hg s m args below meth c H locs cells slots ls cx hB hH hS e1 e2 hl)
theorem fr_ifnonnullN {off : Int} (hdg : decode M.2.1 pc = .ok (.ifnonnull off, 3)) (k : fw_R g M Post nc ns w (pc + 3) L rest) : fw_R g M Post nc ns w pc L (.null :: rest) := by
  intro hg s m args below meth c H locs cells slots ls cx hB hH hS e1 e2 hl
  exact lv_ifnonnullN hg.1 cx.2.2.2.2.1 hdg (k hg s m args below meth c H locs cells slots ls cx hB hH hS e1 e2 hl)
theorem fr_acmp_eq {rx ry : Option Nat} {off : Int} {tgt : Nat} (hdg : decode M.2.1 pc = .ok (.if_acmp .eq off, 3)) (ht : (pc : Int) + off = (tgt : Int)) (kt : rx = ry → fw_R g M Post nc ns w tgt L rest) (kf : ¬ rx = ry → fw_R g M Post nc ns w (pc + 3) L rest) : fw_R g M Post nc ns w pc L (va_rf ry :: va_rf rx :: rest) := by
  intro hg s m args below meth c H locs cells slots ls cx hB hH hS e1 e2 hl
  exact lv_acmp_eq hg.1 cx.2.2.2.2.1 hdg ht (fun hq => kt hq hg s m args below meth c H locs cells slots ls cx hB hH hS e1 e2 hl) (fun hq => kf hq hg s m args below meth c H locs cells slots ls cx hB hH hS e1 e2 hl)
theorem fr_acmp_ne {rx ry : Option Nat} {off : Int} {tgt : Nat} (hdg : decode M.2.1 pc = .ok (.if_acmp .ne off, 3)) (ht : (pc : Int) + off = (tgt : Int)) (kt : ¬ rx = ry → fw_R g M Post nc ns w tgt L rest) (kf : rx = ry → fw_R g M Post nc ns w (pc + 3) L rest) : fw_R g M Post nc ns w pc L (va_rf ry :: va_rf rx :: rest) := by
  intro hg s m args below meth c H locs cells slots ls cx hB hH hS e1 e2 hl
  exact lv_acmp_ne hg.1 cx.2.2.2.2.1 hdg ht (fun hq => kt hq hg s m args below meth c H locs cells slots ls cx hB hH hS e1 e2 hl) (fun hq => kf hq hg s m args below meth c H locs cells slots ls cx hB hH hS e1 e2 hl)
theorem fr_castN {index : Nat} (hdg : decode M.2.1 pc = .ok (.checkcast index, 3)) (k : fw_R g M Post nc ns w (pc + 3) L (.null :: rest)) : fw_R g M Post nc ns w pc L (.null :: rest) := by
  intro hg s m args below meth c H locs cells slots ls cx hB hH hS e1 e2 hl
  exact lv_castN hg.1 cx.2.2.2.2.1 hdg (k hg s m args below meth c H locs cells slots ls cx hB hH hS e1 e2 hl)
theorem fr_lcmp {x y : Int64} (hdg : decode M.2.1 pc = .ok (.lcmp, 1)) (k : fw_R g M Post nc ns w (pc + 1) L (.int (lg_cmp x y) :: rest)) : fw_R g M Post nc ns w pc L (.long y :: .long x :: rest) := by
  intro hg s m args below meth c H locs cells slots ls cx hB hH hS e1 e2 hl
  exact W.lcmp hg.1 cx.2.2.2.2.1 hdg (k hg s m args below meth c H locs cells slots ls cx hB hH hS e1 e2 hl)
theorem fw_loc {ls : Array Slot} {nL i : Nat} {v : Value} (h : lv_has ls nL L) (hl : L.find? (fun q => q.1 == i) = some (i, v)) : ls[i]? = some (.val v) := h.2.2 (i, v) (List.mem_of_find?_eq_some hl)
theorem fr_iload_n {k : Fin 4} {i : Nat} {x : Int32} (hdg : decode M.2.1 pc = .ok (.iload_n k, 1)) (hi : (k : Nat) = i) (hv : L.find? (fun q => q.1 == i) = some (i, .int x)) (kk : fw_R g M Post nc ns w (pc + 1) L (.int x :: rest)) : fw_R g M Post nc ns w pc L rest := by
  intro hg s m args below meth c H locs cells slots ls cx hB hH hS e1 e2 hl
  exact lv_iload_n hg.1 cx.2.2.2.2.1 hdg hi (fw_loc hl hv) (kk hg s m args below meth c H locs cells slots ls cx hB hH hS e1 e2 hl)
theorem fr_iload {i : Nat} {x : Int32} (hdg : decode M.2.1 pc = .ok (.iload i, 2)) (hv : L.find? (fun q => q.1 == i) = some (i, .int x)) (kk : fw_R g M Post nc ns w (pc + 2) L (.int x :: rest)) : fw_R g M Post nc ns w pc L rest := by
  intro hg s m args below meth c H locs cells slots ls cx hB hH hS e1 e2 hl
  exact lv_iload hg.1 cx.2.2.2.2.1 hdg (fw_loc hl hv) (kk hg s m args below meth c H locs cells slots ls cx hB hH hS e1 e2 hl)
theorem fr_lload_n {k : Fin 4} {i : Nat} {x : Int64} (hdg : decode M.2.1 pc = .ok (.lload_n k, 1)) (hi : (k : Nat) = i) (hv : L.find? (fun q => q.1 == i) = some (i, .long x)) (kk : fw_R g M Post nc ns w (pc + 1) L (.long x :: rest)) : fw_R g M Post nc ns w pc L rest := by
  intro hg s m args below meth c H locs cells slots ls cx hB hH hS e1 e2 hl
  exact lv_lload_n hg.1 cx.2.2.2.2.1 hdg hi (fw_loc hl hv) (kk hg s m args below meth c H locs cells slots ls cx hB hH hS e1 e2 hl)
theorem fr_lload {i : Nat} {x : Int64} (hdg : decode M.2.1 pc = .ok (.lload i, 2)) (hv : L.find? (fun q => q.1 == i) = some (i, .long x)) (kk : fw_R g M Post nc ns w (pc + 2) L (.long x :: rest)) : fw_R g M Post nc ns w pc L rest := by
  intro hg s m args below meth c H locs cells slots ls cx hB hH hS e1 e2 hl
  exact lv_lload hg.1 cx.2.2.2.2.1 hdg (fw_loc hl hv) (kk hg s m args below meth c H locs cells slots ls cx hB hH hS e1 e2 hl)
theorem fr_aload_n {k : Fin 4} {i : Nat} {x : Nat} (hdg : decode M.2.1 pc = .ok (.aload_n k, 1)) (hi : (k : Nat) = i) (hv : L.find? (fun q => q.1 == i) = some (i, .ref x)) (kk : fw_R g M Post nc ns w (pc + 1) L (.ref x :: rest)) : fw_R g M Post nc ns w pc L rest := by
  intro hg s m args below meth c H locs cells slots ls cx hB hH hS e1 e2 hl
  exact lv_aload_n hg.1 cx.2.2.2.2.1 hdg hi (fw_loc hl hv) (kk hg s m args below meth c H locs cells slots ls cx hB hH hS e1 e2 hl)
theorem fr_aload {i : Nat} {x : Nat} (hdg : decode M.2.1 pc = .ok (.aload i, 2)) (hv : L.find? (fun q => q.1 == i) = some (i, .ref x)) (kk : fw_R g M Post nc ns w (pc + 2) L (.ref x :: rest)) : fw_R g M Post nc ns w pc L rest := by
  intro hg s m args below meth c H locs cells slots ls cx hB hH hS e1 e2 hl
  exact lv_aload hg.1 cx.2.2.2.2.1 hdg (fw_loc hl hv) (kk hg s m args below meth c H locs cells slots ls cx hB hH hS e1 e2 hl)
theorem fr_aload_nN {k : Fin 4} {i : Nat} (hdg : decode M.2.1 pc = .ok (.aload_n k, 1)) (hi : (k : Nat) = i) (hv : L.find? (fun q => q.1 == i) = some (i, .null)) (kk : fw_R g M Post nc ns w (pc + 1) L (.null :: rest)) : fw_R g M Post nc ns w pc L rest := by
  intro hg s m args below meth c H locs cells slots ls cx hB hH hS e1 e2 hl
  exact lv_aload_nN hg.1 cx.2.2.2.2.1 hdg hi (fw_loc hl hv) (kk hg s m args below meth c H locs cells slots ls cx hB hH hS e1 e2 hl)
theorem fr_aloadN {i : Nat} (hdg : decode M.2.1 pc = .ok (.aload i, 2)) (hv : L.find? (fun q => q.1 == i) = some (i, .null)) (kk : fw_R g M Post nc ns w (pc + 2) L (.null :: rest)) : fw_R g M Post nc ns w pc L rest := by
  intro hg s m args below meth c H locs cells slots ls cx hB hH hS e1 e2 hl
  exact lv_aloadN hg.1 cx.2.2.2.2.1 hdg (fw_loc hl hv) (kk hg s m args below meth c H locs cells slots ls cx hB hH hS e1 e2 hl)
def fw_ins (i : Nat) (v : Value) : List (Nat × Value) → List (Nat × Value)
  | [] => [(i, v)]
  | q :: t => if q.1 < i then q :: fw_ins i v t else (i, v) :: q :: t
theorem fw_ins_mem {i : Nat} {v : Value} {q : Nat × Value} : ∀ {l : List (Nat × Value)}, q ∈ fw_ins i v l → q ∈ (i, v) :: l
  | [], h => h
  | r :: t, h => by
    unfold fw_ins at h
    by_cases hr : r.1 < i
    · rw [if_pos hr] at h
      rcases List.mem_cons.mp h with h1 | h1
      · exact List.mem_cons_of_mem _ (h1 ▸ List.mem_cons_self)
      · rcases List.mem_cons.mp (fw_ins_mem h1) with h2 | h2
        · exact h2 ▸ List.mem_cons_self
        · exact List.mem_cons_of_mem _ (List.mem_cons_of_mem _ h2)
    · rw [if_neg hr] at h
      exact h
theorem fw_hins {ls : Array Slot} {n i : Nat} {v : Value} {l : List (Nat × Value)} (h : lv_has ls n ((i, v) :: l)) : lv_has ls n (fw_ins i v l) := ⟨h.1, h.2.1, fun q hq => h.2.2 q (fw_ins_mem hq)⟩
abbrev fw_f1 (i : Nat) (l : List (Nat × Value)) : List (Nat × Value) := l.filter (fun q => !(q.1 == i) && !(q.1 + 1 == i && q.2.category == 2))
abbrev fw_f2 (i : Nat) (l : List (Nat × Value)) : List (Nat × Value) := l.filter (fun q => !(q.1 == i) && (!(q.1 == i + 1) && !(q.1 + 1 == i && q.2.category == 2)))
theorem fr_istore_n {k : Fin 4} {i : Nat} {x : Int32} {L2 : List (Nat × Value)} (hdg : decode M.2.1 pc = .ok (.istore_n k, 1)) (hi : (k : Nat) = i) (hn : i < M.2.2.1) (hL : fw_ins i (.int x) (fw_f1 i L) = L2) (kk : fw_R g M Post nc ns w (pc + 1) L2 rest) : fw_R g M Post nc ns w pc L (.int x :: rest) := by
  intro hg s m args below meth c H locs cells slots ls cx hB hH hS e1 e2 hl
  exact lv_istore_n hg.1 cx.2.2.2.2.1 hdg hi hl hn rfl (fun ls2 h => kk hg s m args below meth c H locs cells slots ls2 cx hB hH hS e1 e2 (by rw [← hL]; exact fw_hins h))
theorem fr_istore {i : Nat} {x : Int32} {L2 : List (Nat × Value)} (hdg : decode M.2.1 pc = .ok (.istore i, 2)) (hn : i < M.2.2.1) (hL : fw_ins i (.int x) (fw_f1 i L) = L2) (kk : fw_R g M Post nc ns w (pc + 2) L2 rest) : fw_R g M Post nc ns w pc L (.int x :: rest) := by
  intro hg s m args below meth c H locs cells slots ls cx hB hH hS e1 e2 hl
  exact lv_istore hg.1 cx.2.2.2.2.1 hdg hl hn rfl (fun ls2 h => kk hg s m args below meth c H locs cells slots ls2 cx hB hH hS e1 e2 (by rw [← hL]; exact fw_hins h))
theorem fr_lstore_n {k : Fin 4} {i : Nat} {x : Int64} {L2 : List (Nat × Value)} (hdg : decode M.2.1 pc = .ok (.lstore_n k, 1)) (hi : (k : Nat) = i) (hn : i + 1 < M.2.2.1) (hL : fw_ins i (.long x) (fw_f2 i L) = L2) (kk : fw_R g M Post nc ns w (pc + 1) L2 rest) : fw_R g M Post nc ns w pc L (.long x :: rest) := by
  intro hg s m args below meth c H locs cells slots ls cx hB hH hS e1 e2 hl
  exact lv_lstore_n hg.1 cx.2.2.2.2.1 hdg hi hl hn rfl (fun ls2 h => kk hg s m args below meth c H locs cells slots ls2 cx hB hH hS e1 e2 (by rw [← hL]; exact fw_hins h))
theorem fr_lstore {i : Nat} {x : Int64} {L2 : List (Nat × Value)} (hdg : decode M.2.1 pc = .ok (.lstore i, 2)) (hn : i + 1 < M.2.2.1) (hL : fw_ins i (.long x) (fw_f2 i L) = L2) (kk : fw_R g M Post nc ns w (pc + 2) L2 rest) : fw_R g M Post nc ns w pc L (.long x :: rest) := by
  intro hg s m args below meth c H locs cells slots ls cx hB hH hS e1 e2 hl
  exact lv_lstore hg.1 cx.2.2.2.2.1 hdg hl hn rfl (fun ls2 h => kk hg s m args below meth c H locs cells slots ls2 cx hB hH hS e1 e2 (by rw [← hL]; exact fw_hins h))
theorem fr_astore_n {k : Fin 4} {i : Nat} {x : Nat} {L2 : List (Nat × Value)} (hdg : decode M.2.1 pc = .ok (.astore_n k, 1)) (hi : (k : Nat) = i) (hn : i < M.2.2.1) (hL : fw_ins i (.ref x) (fw_f1 i L) = L2) (kk : fw_R g M Post nc ns w (pc + 1) L2 rest) : fw_R g M Post nc ns w pc L (.ref x :: rest) := by
  intro hg s m args below meth c H locs cells slots ls cx hB hH hS e1 e2 hl
  exact lv_astore_n hg.1 cx.2.2.2.2.1 hdg hi hl hn rfl (fun ls2 h => kk hg s m args below meth c H locs cells slots ls2 cx hB hH hS e1 e2 (by rw [← hL]; exact fw_hins h))
theorem fr_astore {i : Nat} {x : Nat} {L2 : List (Nat × Value)} (hdg : decode M.2.1 pc = .ok (.astore i, 2)) (hn : i < M.2.2.1) (hL : fw_ins i (.ref x) (fw_f1 i L) = L2) (kk : fw_R g M Post nc ns w (pc + 2) L2 rest) : fw_R g M Post nc ns w pc L (.ref x :: rest) := by
  intro hg s m args below meth c H locs cells slots ls cx hB hH hS e1 e2 hl
  exact lv_astore hg.1 cx.2.2.2.2.1 hdg hl hn rfl (fun ls2 h => kk hg s m args below meth c H locs cells slots ls2 cx hB hH hS e1 e2 (by rw [← hL]; exact fw_hins h))
theorem fr_astore_nN {k : Fin 4} {i : Nat} {L2 : List (Nat × Value)} (hdg : decode M.2.1 pc = .ok (.astore_n k, 1)) (hi : (k : Nat) = i) (hn : i < M.2.2.1) (hL : fw_ins i .null (fw_f1 i L) = L2) (kk : fw_R g M Post nc ns w (pc + 1) L2 rest) : fw_R g M Post nc ns w pc L (.null :: rest) := by
  intro hg s m args below meth c H locs cells slots ls cx hB hH hS e1 e2 hl
  exact lv_astore_nN hg.1 cx.2.2.2.2.1 hdg hi hl hn rfl (fun ls2 h => kk hg s m args below meth c H locs cells slots ls2 cx hB hH hS e1 e2 (by rw [← hL]; exact fw_hins h))
theorem fr_astoreN {i : Nat} {L2 : List (Nat × Value)} (hdg : decode M.2.1 pc = .ok (.astore i, 2)) (hn : i < M.2.2.1) (hL : fw_ins i .null (fw_f1 i L) = L2) (kk : fw_R g M Post nc ns w (pc + 2) L2 rest) : fw_R g M Post nc ns w pc L (.null :: rest) := by
  intro hg s m args below meth c H locs cells slots ls cx hB hH hS e1 e2 hl
  exact lv_astoreN hg.1 cx.2.2.2.2.1 hdg hl hn rfl (fun ls2 h => kk hg s m args below meth c H locs cells slots ls2 cx hB hH hS e1 e2 (by rw [← hL]; exact fw_hins h))
theorem fw_idx {i : Nat} {v : Value} : ∀ {l : List (Nat × Value)}, l.find? (fun q => q.1 == i) = some (i, v) → ∃ k : Nat, l[k]? = some (i, v) := fun h => List.getElem?_of_mem (List.mem_of_find?_eq_some h)
theorem fr_iinc {i : Nat} {n : Int} {x v : Int32} {L2 : List (Nat × Value)} (hdg : decode M.2.1 pc = .ok (.iinc i n, 3)) (hx : L.find? (fun q => q.1 == i) = some (i, .int x)) (hv : x + Int32.ofInt n = v) (hn : i < M.2.2.1) (hL : fw_ins i (.int v) (fw_f1 i L) = L2) (kk : fw_R g M Post nc ns w (pc + 3) L2 rest) : fw_R g M Post nc ns w pc L rest := by
  intro hg s m args below meth c H locs cells slots ls cx hB hH hS e1 e2 hl
  obtain ⟨k0, hk0⟩ := fw_idx hx
  exact lv_iinc hg.1 cx.2.2.2.2.1 hdg hl hk0 hv hn rfl (fun ls2 h => kk hg s m args below meth c H locs cells slots ls2 cx hB hH hS e1 e2 (by rw [← hL]; exact fw_hins h))
theorem fr_L {L2 : List (Nat × Value)} (h : ∀ q ∈ L2, q ∈ L) (kk : fw_R g M Post nc ns w pc L2 rest) : fw_R g M Post nc ns w pc L rest := by
  intro hg s m args below meth c H locs cells slots ls cx hB hH hS e1 e2 hl
  exact kk hg s m args below meth c H locs cells slots ls cx hB hH hS e1 e2 ⟨hl.1, hl.2.1, fun q hq => hl.2.2 q (h q hq)⟩
theorem fr_nc {nc2 ns2 : Nat} (h1 : nc2 ≤ nc) (h2 : ns2 ≤ ns) (kk : fw_R g M Post nc2 ns2 w pc L rest) : fw_R g M Post nc ns w pc L rest := by
  intro hg s m args below meth c H locs cells slots ls cx hB hH hS e1 e2 hl
  exact kk hg s m args below meth c H locs cells slots ls cx hB hH hS (by omega) (by omega) hl
theorem fr_post {P2 : fw_O → fw_W → Prop} (h : ∀ r u, P2 r u → Post r u) (kk : fw_R g M P2 nc ns w pc L rest) : fw_R g M Post nc ns w pc L rest := by
  intro hg s m args below meth c H locs cells slots ls cx hB hH hS e1 e2 hl
  refine fw_mono (fun t ht => ?_) (kk hg s m args below meth c H locs cells slots ls cx hB hH hS e1 e2 hl)
  obtain ⟨o, r, u, Ls, a1, a2, a3, a4, a5, a6, a7, a8, a9⟩ := ht
  exact ⟨o, r, u, Ls, a1, a2, a3, a4, a5, a6, a7, a8, h r u a9⟩
end FR
end
section
theorem fw_lay_ok {C : String} {T : u_T} {N : Nat} {x : Cond} (hx : x ∈ u_ws C T N) : (x.onTables && x.keeps) = true := by
  obtain ⟨k, -, rfl⟩ := List.mem_map.mp hx
  unfold u_lay
  split <;> rfl
def fw_fld (own : String) (idx ci k : Nat) : Prop := ∃ (C : String) (T : u_T) (N : Nat) (ref : String), fw_cl[ci]? = some (C, T, N) ∧ k < N ∧ (∀ x ∈ u_ws C T N, x ∈ lw_tbl) ∧
  ((T k).1 = ref ∨ Cond.sameField ref (T k).1 (T k).2.1 (T k).2.2.1 ∈ lw_tbl) ∧ (Cond.fieldLink own idx ref (T k).2.1 (T k).2.2.1 ∈ lw_tbl ∨ ∃ host, Cond.fieldLinkNest own idx ref (T k).2.1 (T k).2.2.1 host ∈ lw_tbl)
def fw_fpt (M : fw_M) (idx ci k : Nat) (ty : FieldType) : Prop := ∃ (C : String) (T : u_T) (N : Nat) (ref : String), fw_cl[ci]? = some (C, T, N) ∧ k < N ∧ (∀ x ∈ u_ws C T N, x ∈ lw_tbl) ∧
  ((T k).1 = ref ∨ Cond.sameField ref (T k).1 (T k).2.1 (T k).2.2.1 ∈ lw_tbl) ∧
  (∃ ty0 : Nat → FieldType, ∀ j, j < N → parseFieldDescriptor (T j).2.2.1 = some (ty0 j)) ∧ (∀ a, a < N → ∀ b, b < N → a ≠ b → (T a).2.1 ≠ (T b).2.1) ∧ parseFieldDescriptor (T k).2.2.1 = some ty ∧
  (((T k).2.2.2 = false ∧ (Cond.fieldLink M.1.cls idx ref (T k).2.1 (T k).2.2.1 ∈ lw_tbl ∨ ∃ host, Cond.fieldLinkNest M.1.cls idx ref (T k).2.1 (T k).2.2.1 host ∈ lw_tbl)) ∨
    ((T k).2.2.2 = true ∧ M.1.name = "<init>" ∧ (T k).1 = M.1.cls ∧ Cond.fieldLink M.1.cls idx ref (T k).2.1 (T k).2.2.1 ∈ lw_tbl))
def fw_c (g : fw_G) (t : Nat) : ClassId := (g.2.2.2.2.2.1.getD t (0, .int)).1
def fw_kd (t : Nat) (ty : FieldType) : Prop := fw_ts[t]? = some ty
theorem fw_tys {g : fw_G} (hg : fw_g g) {t : Nat} {ty : FieldType} (h : fw_kd t ty) : g.2.2.2.2.2.1[t]? = some (fw_c g t, ty) := by
  unfold fw_kd at h
  rw [← hg.2.2.2.2.1, List.getElem?_map] at h
  unfold fw_c
  cases hq : g.2.2.2.2.2.1[t]? with
  | none => rw [hq] at h; cases h
  | some q =>
    rw [hq] at h
    rw [List.getD_eq_getElem?_getD, hq]
    cases h
    rfl
theorem fw_fin {g : fw_G} {M : fw_M} {Post : fw_O → fw_W → Prop} {nc ns : Nat} {w : fw_W} {s : State} {args : Array Value} {below : List Frame} {H : Heap} {locs : List Loc} {cells slots : Nat} {o0 : Option Value} (hH : fw_H g w H) (hS : va_S (fw_A g) g.2.2.2.1.heap H locs) (h1 : cells + nc ≤ M.2.2.2.2.1.cells) (h2 : slots + ns ≤ M.2.2.2.2.1.slots) (hp : Post (.inl o0) w) :
    ∀ t, MQ below (fun _ _ o t => o = .returned o0 ∧ t.heap = H) args s cells slots (fw_A g) t → fw_E g M s below Post t := by
  rintro t ⟨o, hrun, hend, ⟨ho, hh⟩, L, ⟨hret, hW, hsame⟩, hL⟩
  subst ho
  exact ⟨_, .inl o0, w, L, hrun, hend, hW, State.sameButNew.mono hsame (by omega) (by omega), hL, by rw [hh]; exact hH, by rw [hh]; exact ⟨hS.1, hS.2.1, fun _ h => by cases h⟩, Or.inl ⟨_, rfl, rfl⟩, hp⟩
section FH
variable {g : fw_G} {M : fw_M} {Post : fw_O → fw_W → Prop} {nc ns : Nat} {w : fw_W} {pc : Nat} {L : List (Nat × Value)} {rest : List Value}
theorem fr_iret {v : Int32} (hr : M.2.2.2.1 = some .int) (hd : decode M.2.1 pc = .ok (.ireturn, 1)) (hp : Post (.inl (some (.int v))) w) : fw_R g M Post nc ns w pc L [.int v] := by
  intro hg s m args below meth c H locs cells slots ls cx hB hH hS h1 h2 hl
  exact fw_mono (fw_fin hH hS h1 h2 hp) (W.iret (v := v) hg.1 cx.2.2.2.2.1 (cx.2.2.2.2.2.2.1.trans hr) (fun t ht _ => ⟨rfl, ht⟩) hS.2.2 hd cx.2.2.2.2.2.2.2.1)
theorem fr_zret {v : Int32} (hr : M.2.2.2.1 = some .boolean) (hv : v = 0 ∨ v = 1) (hd : decode M.2.1 pc = .ok (.ireturn, 1)) (hp : Post (.inl (some (.int v))) w) : fw_R g M Post nc ns w pc L [.int v] := by
  intro hg s m args below meth c H locs cells slots ls cx hB hH hS h1 h2 hl
  exact fw_mono (fw_fin hH hS h1 h2 hp) (W.zret (v := v) hg.1 cx.2.2.2.2.1 (cx.2.2.2.2.2.2.1.trans hr) (by rcases hv with rfl | rfl <;> rfl) (fun t ht _ => ⟨rfl, ht⟩) hS.2.2 hd cx.2.2.2.2.2.2.2.1)
theorem fr_lret {v : Int64} (hr : M.2.2.2.1 = some .long) (hd : decode M.2.1 pc = .ok (.lreturn, 1)) (hp : Post (.inl (some (.long v))) w) : fw_R g M Post nc ns w pc L [.long v] := by
  intro hg s m args below meth c H locs cells slots ls cx hB hH hS h1 h2 hl
  exact fw_mono (fw_fin hH hS h1 h2 hp) (W.lret (v := v) hg.1 cx.2.2.2.2.1 (cx.2.2.2.2.2.2.1.trans hr) (fun t ht _ => ⟨rfl, ht⟩) hS.2.2 hd cx.2.2.2.2.2.2.2.1)
theorem fr_aret {v : Value} {rt : FieldType} (hr : M.2.2.2.1 = some rt) (hrt : (∃ n, rt = .object n) ∨ ∃ t, rt = .array t) (hv : v = .null ∨ ∃ a, v = .ref a) (hd : decode M.2.1 pc = .ok (.areturn, 1)) (hp : Post (.inl (some v)) w) : fw_R g M Post nc ns w pc L [v] := by
  intro hg s m args below meth c H locs cells slots ls cx hB hH hS h1 h2 hl
  exact fw_mono (fw_fin hH hS h1 h2 hp) (W.aret (v := v) hg.1 cx.2.2.2.2.1 (cx.2.2.2.2.2.2.1.trans hr) hrt hv (fun t ht _ => ⟨rfl, ht⟩) hS.2.2 hd cx.2.2.2.2.2.2.2.1)
theorem fr_vret (hr : M.2.2.2.1 = none) (hd : decode M.2.1 pc = .ok (.return_, 1)) (hp : Post (.inl none) w) : fw_R g M Post nc ns w pc L [] := by
  intro hg s m args below meth c H locs cells slots ls cx hB hH hS h1 h2 hl
  exact fw_mono (fw_fin hH hS h1 h2 hp) (W.vret hg.1 cx.2.2.2.2.1 (cx.2.2.2.2.2.2.1.trans hr) (fun t ht _ => ⟨rfl, ht⟩) hS.2.2 hd cx.2.2.2.2.2.2.2.1)
theorem fr_get {a idx ci k : Nat} {fs : List Value} {v : Value} (hd : decode M.2.1 pc = .ok (.getfield idx, 3)) (hf : fw_fld M.1.cls idx ci k) (ha : w a = some (.inr (ci, fs))) (hv : fs[k]? = some v) (kk : fw_R g M Post nc ns w (pc + 3) L (v :: rest)) : fw_R g M Post nc ns w pc L (.ref a :: rest) := by
  intro hg s m args below meth c H locs cells slots ls cx hB hH hS h1 h2 hl
  have kk := kk hg s m args below meth c H locs cells slots ls cx hB hH hS h1 h2 hl
  obtain ⟨ws, hP, hD, hw⟩ := hH
  obtain ⟨q0, he⟩ := hw.at ha
  obtain ⟨C, T, N, ref, hc, hk, hin, hsame, hlink⟩ := hf
  have hts : ∀ x ∈ u_ws C T N, x.before args s = true := fun x hx => fw_word hg cx.1 (hin x hx) (fw_lay_ok hx)
  have hs : ∀ x, s.fieldFound? (T k).1 (T k).2.1 (T k).2.2.1 = some x → s.fieldFound? ref (T k).2.1 (T k).2.2.1 = some x := by
    rcases hsame with h | h
    · subst h; exact fun x h => h
    · exact fun x h9 => u_same (fw_word hg cx.1 (args := args) h rfl) x h9
  rcases hlink with h | ⟨host, h⟩
  · exact va_get hg.1 cx.2.2.2.2.1 hts (fun x h => h) cx.own (cx.K hg) hP q0 he hc k hk (fw_word hg cx.1 h rfl) hs hv hd kk
  · exact va_getN hg.1 cx.2.2.2.2.1 hts (fun x h => h) cx.own (cx.K hg) hP q0 he hc k hk (fw_wordF hg cx.1 h) hs hv hd kk
theorem fr_put {a idx ci k : Nat} {ty : FieldType} {fs fs2 : List Value} {v : Value} (hd : decode M.2.1 pc = .ok (.putfield idx, 3)) (hf : fw_fpt M idx ci k ty) (ha : w a = some (.inr (ci, fs))) (hl0 : k < fs.length) (hn : narrow ty v = v) (hfit : fits ty v = true) (h2s : fs.set k v = fs2) (kk : fw_R g M Post nc ns (fw_up w a (.inr (ci, fs2))) (pc + 3) L rest) : fw_R g M Post nc ns w pc L (v :: .ref a :: rest) := by
  intro hg s m args below meth c H locs cells slots ls cx hB hH hS h1 h2 hl
  subst h2s
  obtain ⟨ws, hP, hD, hw⟩ := hH
  obtain ⟨q0, he⟩ := hw.at ha
  obtain ⟨C, T, N, ref, hc, hk, hin, hsame, ⟨ty0, hty⟩, hnm, hdt, hlink⟩ := hf
  have hts : ∀ x ∈ u_ws C T N, x.before args s = true := fun x hx => fw_word hg cx.1 (hin x hx) (fw_lay_ok hx)
  have hs : ∀ x, s.fieldFound? (T k).1 (T k).2.1 (T k).2.2.1 = some x → s.fieldFound? ref (T k).2.1 (T k).2.2.1 = some x := by
    rcases hsame with h | h
    · subst h; exact fun x h => h
    · exact fun x h9 => u_same (fw_word hg cx.1 (args := args) h rfl) x h9
  rcases hlink with ⟨hfin, h | ⟨host, h⟩⟩ | ⟨hfin, hnm2, hdecl, h⟩
  · exact va_put hg.1 cx.2.2.2.2.1 hts (fun x h => h) ty0 hty hnm cx.own (cx.K hg) hP hD hS q0 he hc k hk (fw_word hg cx.1 h rfl) hs hfin hdt hn hfit hl0 hd (fun H1 locs1 hP1 hD1 hS1 => kk hg s m args below meth c H1 locs1 cells slots ls cx hB ⟨_, hP1, hD1, hw.set hD he⟩ hS1 h1 h2 hl)
  · exact va_putN hg.1 cx.2.2.2.2.1 hts (fun x h => h) ty0 hty hnm cx.own (cx.K hg) hP hD hS q0 he hc k hk (fw_wordF hg cx.1 h) hs hfin hdt hn hfit hl0 hd (fun H1 locs1 hP1 hD1 hS1 => kk hg s m args below meth c H1 locs1 cells slots ls cx hB ⟨_, hP1, hD1, hw.set hD he⟩ hS1 h1 h2 hl)
  · exact va_putF hg.1 cx.2.2.2.2.1 hts (fun x h => h) ty0 hty hnm cx.own (cx.K hg) hP hD hS q0 he hc k hk (fw_word hg cx.1 h rfl) hs hfin ((name_of_methodNamed cx.2.1 cx.2.2.1).1.trans hnm2) hdecl hdt hn hfit hl0 hd (fun H1 locs1 hP1 hD1 hS1 => kk hg s m args below meth c H1 locs1 cells slots ls cx hB ⟨_, hP1, hD1, hw.set hD he⟩ hS1 h1 h2 hl)
theorem fr_iald {a n t : Nat} {f : Nat → Int32} {i : Int32} (hd : decode M.2.1 pc = .ok (.iaload, 1)) (hk : fw_kd t .int) (ha : w a = some (.inl (fw_c g t, n, .inl f))) (hi : vp_in i n) (kk : fw_R g M Post nc ns w (pc + 1) L (.int (f i.toNatClampNeg) :: rest)) : fw_R g M Post nc ns w pc L (.int i :: .ref a :: rest) := by
  intro hg s m args below meth c H locs cells slots ls cx hB hH hS h1 h2 hl
  have kk := kk hg s m args below meth c H locs cells slots ls cx hB hH hS h1 h2 hl
  obtain ⟨ws, hP, hD, hw⟩ := hH
  obtain ⟨q0, he⟩ := hw.at ha
  exact va_iald hg.1 cx.2.2.2.2.1 (cx.K hg) hP q0 t he (fw_tys hg hk) hi hd kk
theorem fr_zald {a n t : Nat} {f : Nat → Int32} {i : Int32} (hd : decode M.2.1 pc = .ok (.baload, 1)) (hk : fw_kd t .boolean) (ha : w a = some (.inl (fw_c g t, n, .inl f))) (hi : vp_in i n) (kk : fw_R g M Post nc ns w (pc + 1) L (.int (f i.toNatClampNeg) :: rest)) : fw_R g M Post nc ns w pc L (.int i :: .ref a :: rest) := by
  intro hg s m args below meth c H locs cells slots ls cx hB hH hS h1 h2 hl
  have kk := kk hg s m args below meth c H locs cells slots ls cx hB hH hS h1 h2 hl
  obtain ⟨ws, hP, hD, hw⟩ := hH
  obtain ⟨q0, he⟩ := hw.at ha
  exact va_zald hg.1 cx.2.2.2.2.1 (cx.K hg) hP q0 t he (fw_tys hg hk) hi hd kk
theorem fr_lald {a n t : Nat} {f : Nat → Int64} {i : Int32} (hd : decode M.2.1 pc = .ok (.laload, 1)) (hk : fw_kd t .long) (ha : w a = some (.inl (fw_c g t, n, .inr (.inl f)))) (hi : vp_in i n) (kk : fw_R g M Post nc ns w (pc + 1) L (.long (f i.toNatClampNeg) :: rest)) : fw_R g M Post nc ns w pc L (.int i :: .ref a :: rest) := by
  intro hg s m args below meth c H locs cells slots ls cx hB hH hS h1 h2 hl
  have kk := kk hg s m args below meth c H locs cells slots ls cx hB hH hS h1 h2 hl
  obtain ⟨ws, hP, hD, hw⟩ := hH
  obtain ⟨q0, he⟩ := hw.at ha
  exact va_lald hg.1 cx.2.2.2.2.1 (cx.K hg) hP q0 t he (fw_tys hg hk) hi hd kk
theorem fr_aald {a n t : Nat} {C : String} {f : Nat → Option Nat} {i : Int32} (hd : decode M.2.1 pc = .ok (.aaload, 1)) (hk : fw_kd t (.object C)) (ha : w a = some (.inl (fw_c g t, n, .inr (.inr (.inr (.inr f)))))) (hi : vp_in i n) (kk : fw_R g M Post nc ns w (pc + 1) L (va_rf (f i.toNatClampNeg) :: rest)) : fw_R g M Post nc ns w pc L (.int i :: .ref a :: rest) := by
  intro hg s m args below meth c H locs cells slots ls cx hB hH hS h1 h2 hl
  have kk := kk hg s m args below meth c H locs cells slots ls cx hB hH hS h1 h2 hl
  obtain ⟨ws, hP, hD, hw⟩ := hH
  obtain ⟨q0, he⟩ := hw.at ha
  exact va_aldq hg.1 cx.2.2.2.2.1 (cx.K hg) hP q0 t he (fw_tys hg hk) hi hd kk
theorem fr_iast {a n t : Nat} {f : Nat → Int32} {i x : Int32} (hd : decode M.2.1 pc = .ok (.iastore, 1)) (hk : fw_kd t .int) (ha : w a = some (.inl (fw_c g t, n, .inl f))) (hi : vp_in i n) (kk : fw_R g M Post nc ns (fw_up w a (.inl (fw_c g t, n, .inl (upd f i.toNatClampNeg x)))) (pc + 1) L rest) : fw_R g M Post nc ns w pc L (.int x :: .int i :: .ref a :: rest) := by
  intro hg s m args below meth c H locs cells slots ls cx hB hH hS h1 h2 hl
  obtain ⟨ws, hP, hD, hw⟩ := hH
  obtain ⟨q0, he⟩ := hw.at ha
  exact va_iast hg.1 cx.2.2.2.2.1 (cx.K hg) hP hD hS q0 t he (fw_tys hg hk) hi hd (fun H1 locs1 hP1 hD1 hS1 => kk hg s m args below meth c H1 locs1 cells slots ls cx hB ⟨_, hP1, hD1, hw.set hD he⟩ hS1 h1 h2 hl)
theorem fr_zast {a n t : Nat} {f : Nat → Int32} {i x : Int32} (hd : decode M.2.1 pc = .ok (.bastore, 1)) (hk : fw_kd t .boolean) (ha : w a = some (.inl (fw_c g t, n, .inl f))) (hi : vp_in i n) (hx : x = 0 ∨ x = 1) (kk : fw_R g M Post nc ns (fw_up w a (.inl (fw_c g t, n, .inl (upd f i.toNatClampNeg x)))) (pc + 1) L rest) : fw_R g M Post nc ns w pc L (.int x :: .int i :: .ref a :: rest) := by
  intro hg s m args below meth c H locs cells slots ls cx hB hH hS h1 h2 hl
  obtain ⟨ws, hP, hD, hw⟩ := hH
  obtain ⟨q0, he⟩ := hw.at ha
  have hx2 : vp_nar .boolean x = x := by rcases hx with rfl | rfl <;> rfl
  exact va_zast hg.1 cx.2.2.2.2.1 (cx.K hg) hP hD hS q0 t he (fw_tys hg hk) hi hd (fun H1 locs1 hP1 hD1 hS1 => kk hg s m args below meth c H1 locs1 cells slots ls cx hB (by rw [hx2] at hP1 hD1; exact ⟨_, hP1, hD1, hw.set hD he⟩) hS1 h1 h2 hl)
theorem fr_last {a n t : Nat} {f : Nat → Int64} {i : Int32} {x : Int64} (hd : decode M.2.1 pc = .ok (.lastore, 1)) (hk : fw_kd t .long) (ha : w a = some (.inl (fw_c g t, n, .inr (.inl f)))) (hi : vp_in i n) (kk : fw_R g M Post nc ns (fw_up w a (.inl (fw_c g t, n, .inr (.inl (vp_updL f i.toNatClampNeg x))))) (pc + 1) L rest) : fw_R g M Post nc ns w pc L (.long x :: .int i :: .ref a :: rest) := by
  intro hg s m args below meth c H locs cells slots ls cx hB hH hS h1 h2 hl
  obtain ⟨ws, hP, hD, hw⟩ := hH
  obtain ⟨q0, he⟩ := hw.at ha
  exact va_last hg.1 cx.2.2.2.2.1 (cx.K hg) hP hD hS q0 t he (fw_tys hg hk) hi hd (fun H1 locs1 hP1 hD1 hS1 => kk hg s m args below meth c H1 locs1 cells slots ls cx hB ⟨_, hP1, hD1, hw.set hD he⟩ hS1 h1 h2 hl)
theorem fr_aast {a n t v ci : Nat} {r : vw_C} {f : Nat → Option Nat} {vs : List Value} {i : Int32} (hd : decode M.2.1 pc = .ok (.aastore, 1)) (hr : fw_cl[ci]? = some r) (hk : fw_kd t (.object r.1)) (ha : w a = some (.inl (fw_c g t, n, .inr (.inr (.inr (.inr f)))))) (hv : w v = some (.inr (ci, vs))) (hi : vp_in i n) (kk : fw_R g M Post nc ns (fw_up w a (.inl (fw_c g t, n, .inr (.inr (.inr (.inr (va_up f i.toNatClampNeg (some v)))))))) (pc + 1) L rest) : fw_R g M Post nc ns w pc L (.ref v :: .int i :: .ref a :: rest) := by
  intro hg s m args below meth c H locs cells slots ls cx hB hH hS h1 h2 hl
  obtain ⟨ws, hP, hD, hw⟩ := hH
  obtain ⟨q0, he⟩ := hw.at ha
  obtain ⟨qk, hev⟩ := hw.at hv
  exact va_astq hg.1 cx.2.2.2.2.1 (cx.K hg) hP hD hS q0 t qk ci he (fw_tys hg hk) hev hr hi hd (fun H1 locs1 hP1 hD1 hS1 => kk hg s m args below meth c H1 locs1 cells slots ls cx hB ⟨_, hP1, hD1, hw.set hD he⟩ hS1 h1 h2 hl)
theorem fr_aastO {a n t v ci : Nat} {E : String} {r : vw_C} {f : Nat → Option Nat} {vs : List Value} {i : Int32} (hd : decode M.2.1 pc = .ok (.aastore, 1)) (hr : fw_cl[ci]? = some r) (hca : Cond.castable r.1 E ∈ lw_tbl) (hk : fw_kd t (.object E)) (ha : w a = some (.inl (fw_c g t, n, .inr (.inr (.inr (.inr f)))))) (hv : w v = some (.inr (ci, vs))) (hi : vp_in i n) (kk : fw_R g M Post nc ns (fw_up w a (.inl (fw_c g t, n, .inr (.inr (.inr (.inr (va_up f i.toNatClampNeg (some v)))))))) (pc + 1) L rest) : fw_R g M Post nc ns w pc L (.ref v :: .int i :: .ref a :: rest) := by
  intro hg s m args below meth c H locs cells slots ls cx hB hH hS h1 h2 hl
  obtain ⟨ws, hP, hD, hw⟩ := hH
  obtain ⟨q0, he⟩ := hw.at ha
  obtain ⟨qk, hev⟩ := hw.at hv
  exact va_astqO hg.1 cx.2.2.2.2.1 (cx.K hg) hP hD hS q0 t qk ci he (fw_tys hg hk) (fw_wordC hg cx.1 hca) hev hr hi hd (fun H1 locs1 hP1 hD1 hS1 => kk hg s m args below meth c H1 locs1 cells slots ls cx hB ⟨_, hP1, hD1, hw.set hD he⟩ hS1 h1 h2 hl)
theorem fr_aastN {a n t : Nat} {C : String} {f : Nat → Option Nat} {i : Int32} (hd : decode M.2.1 pc = .ok (.aastore, 1)) (hk : fw_kd t (.object C)) (ha : w a = some (.inl (fw_c g t, n, .inr (.inr (.inr (.inr f)))))) (hi : vp_in i n) (kk : fw_R g M Post nc ns (fw_up w a (.inl (fw_c g t, n, .inr (.inr (.inr (.inr (va_up f i.toNatClampNeg none))))))) (pc + 1) L rest) : fw_R g M Post nc ns w pc L (.null :: .int i :: .ref a :: rest) := by
  intro hg s m args below meth c H locs cells slots ls cx hB hH hS h1 h2 hl
  obtain ⟨ws, hP, hD, hw⟩ := hH
  obtain ⟨q0, he⟩ := hw.at ha
  exact va_astqN hg.1 cx.2.2.2.2.1 (cx.K hg) hP hD hS q0 t he (fw_tys hg hk) hi hd (fun H1 locs1 hP1 hD1 hS1 => kk hg s m args below meth c H1 locs1 cells slots ls cx hB ⟨_, hP1, hD1, hw.set hD he⟩ hS1 h1 h2 hl)
theorem fr_alen {a t : Nat} {ty : FieldType} {x : vp_A} {v : Int32} (hd : decode M.2.1 pc = .ok (.arraylength, 1)) (hk : fw_kd t ty) (ha : w a = some (.inl (fw_c g t, x))) (hv : Int32.ofNat x.1 = v) (kk : fw_R g M Post nc ns w (pc + 1) L (.int v :: rest)) : fw_R g M Post nc ns w pc L (.ref a :: rest) := by
  intro hg s m args below meth c H locs cells slots ls cx hB hH hS h1 h2 hl
  have kk := kk hg s m args below meth c H locs cells slots ls cx hB hH hS h1 h2 hl
  obtain ⟨ws, hP, hD, hw⟩ := hH
  obtain ⟨q0, he⟩ := hw.at ha
  exact va_alen hg.1 cx.2.2.2.2.1 (cx.K hg) hP q0 t he (fw_tys hg hk) hv hd kk
theorem fw_sameRA {U : State} {c1 c2 : ClassId} {ty : FieldType} (h1 : va_RA U c1 ty) (h2 : va_RA U c2 ty) : c1 = c2 := by
  cases ty with
  | object C =>
    obtain ⟨_, _, -, -, -, a⟩ := h1
    obtain ⟨_, _, -, -, -, b⟩ := h2
    exact Option.some.inj (a.symm.trans b)
  | _ => exact Option.some.inj (Eq.trans (Eq.symm h1) h2)
theorem fr_newa {atype : ArrayType} {ty : FieldType} {n : Int32} {N t : Nat} {a0 : vp_A} (hd : decode M.2.1 pc = .ok (.newarray atype, 2)) (hty : newarray.typeOf atype = ty) (harr : Cond.arrayClass ty ∈ lw_tbl) (hk : fw_kd t ty) (ha : ∀ cA : ClassId, vp_cell cA a0 = arrV cA N (fun _ => defaultValue ty)) (hn : ¬ n < 0) (hN : n.toNatClampNeg = N) (hb : N * componentBytes ty ≤ 536870912)
    (kk : ∀ q : Nat, w q = none → fw_R g M Post nc ns (fw_up w q (.inl (fw_c g t, a0))) (pc + 2) L (.ref q :: rest)) : fw_R g M Post (nc + 1) (ns + N) w pc L (.int n :: rest) := by
  intro hg s m args below meth c H locs cells slots ls cx hB hH hS h1 h2 hl
  obtain ⟨ws, hP, hD, hw⟩ := hH
  subst hty
  refine va_newa hg.1 cx.2.2.2.2.1 (fw_wordA hg cx.1 harr) rfl (cx.K hg) hP hD hS (fun q h => h) ha hn hN hb (by omega) (by omega) hd (fun q cA H1 hK1 hP1 hD1 hS1 => ?_)
  have hc : cA = fw_c g t := by
    have e1 := (hK1.2 g.2.2.2.2.2.1.length (cA, newarray.typeOf atype) (by simp)).2
    have e2 := ((cx.K hg).2 t _ (fw_tys hg hk)).2
    exact fw_sameRA e1 e2
  subst hc
  obtain ⟨hq, hw1⟩ := hw.push hD1
  exact kk q hq hg s m args below meth c H1 locs (cells + 1) (slots + N) ls cx hB ⟨_, hP1, hD1, hw1⟩ hS1 (by omega) (by omega) hl
theorem fr_newq {C : String} {idx : Nat} {n : Int32} {N t : Nat} (hd : decode M.2.1 pc = .ok (.anewarray idx, 3)) (hcl : Cond.classLink M.1.cls idx C ∈ lw_tbl) (hov : Cond.arrayOver (.object C) ∈ lw_tbl) (hk : fw_kd t (.object C)) (hn : ¬ n < 0) (hN : n.toNatClampNeg = N) (hb : N * 4 ≤ 536870912)
    (kk : ∀ q : Nat, w q = none → fw_R g M Post nc ns (fw_up w q (.inl (fw_c g t, N, .inr (.inr (.inr (.inr (fun _ => none))))))) (pc + 3) L (.ref q :: rest)) : fw_R g M Post (nc + 1) (ns + N) w pc L (.int n :: rest) := by
  intro hg s m args below meth c H locs cells slots ls cx hB hH hS h1 h2 hl
  obtain ⟨ws, hP, hD, hw⟩ := hH
  have hover : va_AO C s := by
    obtain ⟨a0, h⟩ := hg.2.1
    exact va_AO.moved cx.1.alike (va_AO.of (h _ hov))
  refine va_newq hg.1 cx.2.2.2.2.1 cx.own (fw_word hg cx.1 hcl rfl) hover (cx.K hg) hP hD hS (fun q h => h) hn hN hb (by omega) (by omega) hd (fun q cA H1 hK1 hP1 hD1 hS1 => ?_)
  have hc : cA = fw_c g t := by
    have e1 := (hK1.2 g.2.2.2.2.2.1.length (cA, .object C) (by simp)).2
    have e2 := ((cx.K hg).2 t _ (fw_tys hg hk)).2
    exact fw_sameRA e1 e2
  subst hc
  obtain ⟨hq, hw1⟩ := hw.push hD1
  exact kk q hq hg s m args below meth c H1 locs (cells + 1) (slots + N) ls cx hB ⟨_, hP1, hD1, hw1⟩ hS1 (by omega) (by omega) hl
def fw_nw (own : String) (idx ci N : Nat) (fs : List Value) : Prop := ∃ (C : String) (T : u_T), fw_cl[ci]? = some (C, T, N) ∧ (∀ x ∈ u_ws C T N, x ∈ lw_tbl) ∧ Cond.classLink own idx C ∈ lw_tbl ∧ Cond.instantiable C N ∈ lw_tbl ∧ Cond.initialized C ∈ lw_tbl ∧ ∃ ty : Nat → FieldType, (∀ k, k < N → parseFieldDescriptor (T k).2.2.1 = some (ty k)) ∧ ∀ j, j < N → defaultValue (ty j) = vp_V fs j
theorem fr_new {idx ci N : Nat} {fs : List Value} (hd : decode M.2.1 pc = .ok (.new idx, 3)) (hf : fw_nw M.1.cls idx ci N fs) (kk : ∀ q : Nat, w q = none → fw_R g M Post nc ns (fw_up w q (.inr (ci, fs))) (pc + 3) L (.ref q :: rest)) : fw_R g M Post (nc + 1) (ns + N) w pc L rest := by
  intro hg s m args below meth c H locs cells slots ls cx hB hH hS h1 h2 hl
  obtain ⟨ws, hP, hD, hw⟩ := hH
  obtain ⟨C, T, hc, hin, hcl, hinst, hini, ty, hty, hfs⟩ := hf
  have hts : ∀ x ∈ u_ws C T N, x.before args s = true := fun x hx => fw_word hg cx.1 (hin x hx) (fw_lay_ok hx)
  refine va_new hg.1 cx.2.2.2.2.1 hts (fun x h => h) ty hty cx.own (fw_word hg cx.1 hcl rfl) (fw_word hg cx.1 hinst rfl) (fw_word hg cx.1 hini rfl) (cx.K hg) hP hD hS (fun q h => h) hc hfs (by omega) (by omega) hd (fun q H1 hP1 hD1 hS1 => ?_)
  obtain ⟨hq, hw1⟩ := hw.push hD1
  exact kk q hq hg s m args below meth c H1 locs (cells + 1) (slots + N) ls cx hB ⟨_, hP1, hD1, hw1⟩ hS1 (by omega) (by omega) hl
end FH
end
section
theorem fw_within {s : State} {mid below : List Frame} (h : Within s (mid ++ below)) (hm : mid ≠ []) : Within s below := by
  obtain ⟨above, e, h1, h2⟩ := h
  refine ⟨above ++ mid, by rw [e, List.append_assoc], fun h => hm (List.append_eq_nil_iff.mp h).2, fun a h => ?_⟩
  cases above with
  | nil => exact h1 rfl
  | cons x t =>
    rw [List.cons_append, List.cons.injEq] at h
    exact hm (List.append_eq_nil_iff.mp h.2).2
theorem fw_weaken {tb : Tables} {e : Env} {f : Frame} {below : List Frame} {a b : State} (h : Steps tb e (f :: below) a b) : Steps tb e below a b := by
  obtain ⟨n, hn, w⟩ := h
  exact ⟨n, hn, fun k hk => fw_within (mid := [f]) (w k hk) (by simp)⟩
def fw_cal (N : fw_M) : Prop := plainFor N.1 = true ∧ (N.1.cls ≠ "java/lang/invoke/MethodHandle" ∧ N.1.cls ≠ "java/lang/invoke/VarHandle") ∧ Cond.initialized N.1.cls ∈ lw_tbl ∧
  ((N.2.2.2.2.2 = [] ∧ Cond.code N.1 N.2.1 N.2.2.1 N.2.2.2.1 ∈ lw_tbl) ∨ Cond.codeWith N.1 N.2.1 N.2.2.1 N.2.2.2.1 N.2.2.2.2.2 ∈ lw_tbl)
theorem fw_cal.spec {g : fw_G} (hg : fw_g g) {N : fw_M} (h : fw_cal N) {s : State} (hW : g.2.2.2.1.WarmedH s.vm) :
    ∃ (m : MethodId) (meth : Method) (c : Code), fw_cx g N s m meth c ∧ parseMethodDescriptor N.1.desc = some meth.sig := by
  rcases h.2.2.2 with ⟨he, h⟩ | h
  · have hb := fw_word hg hW (args := #[]) h rfl
    obtain ⟨m, hn⟩ := Cond.code_named hb
    obtain ⟨meth, c, q1, q2, q3, q4, q5, q6, q7, q8⟩ := Cond.code_spec hn hb
    refine ⟨m, meth, c, ⟨hW, hn, q1, q2, q3, q4, q5, q6, ?_⟩, q8⟩
    rw [he, Array.isEmpty_iff.mp q7]
    rfl
  · have hb := fw_word hg hW (args := #[]) h rfl
    obtain ⟨m, meth, c, hn, q1, q2, q3, q4, q5, q6, q7, q8⟩ := Cond.codeWith_spec hb
    exact ⟨m, meth, c, ⟨hW, hn, q1, q2, q3, q4, q6, q7, q5⟩, q8⟩
def fw_rm (M N : fw_M) (av : List Value) : Prop := N.2.2.2.2.1.frames + 1 ≤ M.2.2.2.2.1.frames ∧ 8 + (N.2.2.1 + 11) + N.2.2.2.2.1.locals ≤ M.2.2.2.2.1.locals ∧ (lg_sl av).length ≤ N.2.2.1
section FC
variable {g : fw_G} {M N : fw_M} {Post PN : fw_O → fw_W → Prop} {nc ns : Nat} {w : fw_W} {pc : Nat} {L : List (Nat × Value)} {rest : List Value}
set_option maxHeartbeats 1000000 in
theorem fw_call (hg : fw_g g) {av : List Value} (hcal : fw_cal N) (hrm : fw_rm M N av) (hN : fw_R g N PN N.2.2.2.2.1.cells N.2.2.2.2.1.slots w 0 (lv_args 0 av) [])
    {s : State} {m : MethodId} {args : Array Value} {below : List Frame} {meth : Method} {c : Code} {T : State} {locs : List Loc} {cells slots : Nat}
    (X : Stand g.1 g.2.1 g.2.2.1 M.2.2.2.2.1 s m args below meth c T locs cells slots) (cx : fw_cx g M s m meth c) (hB : va_S (fw_A g) g.2.2.2.1.heap s.heap []) (hH : fw_H g w T.heap) (hS : va_S (fw_A g) g.2.2.2.1.heap T.heap locs)
    {f : JFrame} (hf : f.method = m) (hsize : f.locals.size = c.maxLocals) {ig : Instr} (hdg : decode c.code f.pc = .ok (ig, 3)) {mk : MethodId} (hn : s.methodNamed? N.1 = some mk)
    (hst : 2 * f.monitorRoom + (f.stack.map fun v => v.category).sum ≤ 8) (hc : cells + N.2.2.2.2.1.cells ≤ M.2.2.2.2.1.cells) (hs : slots + N.2.2.2.2.1.slots ≤ M.2.2.2.2.1.slots) :
    ∃ (r : fw_O) (w1 : fw_W) (T1 : State) (L1 : List Loc), Stand g.1 g.2.1 g.2.2.1 M.2.2.2.2.1 s m args below meth c T1 (locs ++ L1) (cells + N.2.2.2.2.1.cells) (slots + N.2.2.2.2.1.slots) ∧ fw_H g w1 T1.heap ∧ va_S (fw_A g) g.2.2.2.1.heap T1.heap (locs ++ L1) ∧ PN r w1 ∧
      ((∃ v, r = .inl v ∧ ∀ acts, Steps g.1.tables g.2.2.1 below (doInvoke g.2.2.1 (T.setTop f) acts mk av.toArray).1 (T1.setTop { f with pc := f.pc + 3, stack := v.toList ++ f.stack })) ∨
       (∃ (a : Addr) (C : String) (cell : Cell), r = .inr C ∧ T1.heap[a]? = some cell ∧ cell.vm.isStatics = false ∧ g.2.2.2.1.vm.findClass C = some cell.cls ∧
          ∀ acts, Steps g.1.tables g.2.2.1 below (doInvoke g.2.2.1 (T.setTop f) acts mk av.toArray).1 ((T1.setTop f).pushFrame (.throwing a)))) := by
  have hWT : g.2.2.2.1.WarmedH T.vm := State.WarmedH.trans cx.1 X.warmed
  obtain ⟨mk2, methN, cN, cxN, hsig⟩ := hcal.spec hg hWT
  have hnT : T.methodNamed? N.1 = some mk := X.named hn
  have hmm : mk2 = mk := Option.some.inj (cxN.2.1.symm.trans hnT)
  subst hmm
  have hpk : T.plainMethod mk2 := State.plainMethod.of_named hcal.1 hnT cxN.2.2.1
  obtain ⟨Y, hin⟩ := X.into hf hsize hdg av.toArray (R' := N.2.2.2.2.1) cxN.2.2.1 cxN.2.2.2.1 cxN.2.2.2.2.2.2.2.1 hpk hrm.1 (by rw [cxN.2.2.2.2.2.1]; have := hrm.2.1; omega) hc hs
  have hcx2 : fw_cx g N (T.calling f mk2 av.toArray) mk2 methN cN := cxN
  have hl := lv_entry av (n := N.2.2.1) hrm.2.2
  have hW := hN hg (T.calling f mk2 av.toArray) mk2 av.toArray (.java f :: below) methN cN T.heap [] 0 0 _ hcx2 ⟨hS.1, hS.2.1, fun _ h => by cases h⟩ hH ⟨hS.1, hS.2.1, fun _ h => by cases h⟩ (by omega) (by omega) hl
  obtain ⟨t, hst2, o, r, w1, L1, hrun, hend, hWt, hsame, hL, hH2, hS2, hoc, hpost⟩ := hW ((T.setTop f).pushFrame (.java (entryFrame mk2 av.toArray cN.maxLocals))) rfl Y
  rw [← lg_entry_eq, ← cxN.2.2.2.2.2.1] at hst2
  have hst3 := fw_weaken hst2
  rcases hoc with ⟨v, rfl, rfl⟩ | ⟨a, C, cell, rfl, rfl, hca, hcb, hcc⟩
  · obtain ⟨T1, X1, hW1, hB, ht⟩ := X.outOf hf hdg hend hWt hsame
    have hh : t.heap = T1.heap := by rw [ht]; rfl
    rw [hh] at hH2 hS2
    refine ⟨.inl v, w1, T1, L1, X1, hH2, ⟨hS2.1, hS2.2.1, fun q hq => ?_⟩, hpost, Or.inl ⟨v, rfl, fun acts => ?_⟩⟩
    · rcases List.mem_append.mp hq with h | h
      · exact hS.2.2 q h
      · exact hL q h
    · rw [hin acts, ← ht]; exact hst3
  · obtain ⟨T1, X1, hW1, hB, ht⟩ := X.outOfThrown hf hend hWt hsame
    have hh : t.heap = T1.heap := by rw [ht]; rfl
    rw [hh] at hH2 hS2 hca
    refine ⟨.inr C, w1, T1, L1, X1, hH2, ⟨hS2.1, hS2.2.1, fun q hq => ?_⟩, hpost, Or.inr ⟨a, C, cell, rfl, hca, hcb, hcc, fun acts => ?_⟩⟩
    · rcases List.mem_append.mp hq with h | h
      · exact hS.2.2 q h
      · exact hL q h
    · rw [hin acts, ← ht]; exact hst3
def fw_X (g : fw_G) (M : fw_M) (Post : fw_O → fw_W → Prop) (nc ns : Nat) (w : fw_W) (pc : Nat) (L : List (Nat × Value)) (C : String) : Prop :=
  fw_g g → ∀ (s : State) (m : MethodId) (args : Array Value) (below : List Frame) (meth : Method) (c : Code) (T : State) (locs : List Loc) (cells slots : Nat) (ls : Array Slot) (st : List Value) (a : Addr) (cell : Cell),
    fw_cx g M s m meth c → va_S (fw_A g) g.2.2.2.1.heap s.heap [] → fw_H g w T.heap → va_S (fw_A g) g.2.2.2.1.heap T.heap locs → cells + nc ≤ M.2.2.2.2.1.cells → slots + ns ≤ M.2.2.2.2.1.slots → lv_has ls M.2.2.1 L →
    T.heap[a]? = some cell → cell.vm.isStatics = false → g.2.2.2.1.vm.findClass C = some cell.cls → Stand g.1 g.2.1 g.2.2.1 M.2.2.2.2.1 s m args below meth c T locs cells slots →
    ∃ t, Steps g.1.tables g.2.2.1 below ((T.setTop (F0 m pc ls st)).pushFrame (.throwing a)) t ∧ fw_E g M s below Post t
theorem fx_out (hh : ∀ q ∈ M.2.2.2.2.2, ¬ (q.1 ≤ pc ∧ pc < q.2.1)) {C : String} (hp : Post (.inr C) w) : fw_X g M Post nc ns w pc L C := by
  intro hg s m args below meth c T locs cells slots ls st a cell cx hB hH hS h1 h2 hl ha hb hc X
  have hout : ∀ x ∈ c.exceptionTable.toList, covers x pc = false := by
    intro x hx
    have hq : (x.startPc, x.endPc, x.handlerPc, x.catchType) ∈ M.2.2.2.2.2 := by
      rw [← cx.2.2.2.2.2.2.2.2]
      exact List.mem_map.mpr ⟨x, hx, rfl⟩
    have := hh _ hq
    simp only [covers, Bool.and_eq_false_iff, decide_eq_false_iff_not]
    by_cases hle : x.startPc ≤ pc
    · right; exact fun h => this ⟨hle, h⟩
    · left; exact hle
  obtain ⟨hwalk, hrun, hended, hWU, hsame⟩ := X.leaveThrown a (g := F0 m pc ls st) rfl rfl rfl hout cx.2.2.2.2.2.2.2.1
  exact ⟨_, hwalk, .threw a, .inr C, w, locs, hrun, hended, hWU, State.sameButNew.mono hsame (by omega) (by omega), hS.2.2, hH, ⟨hS.1, hS.2.1, fun _ h => by cases h⟩, Or.inr ⟨a, C, cell, rfl, rfl, ha, hb, hc⟩, hp⟩
theorem fw_goon (hg : fw_g g) {av : List Value} (hcal : fw_cal N) (hrm : fw_rm M N av) (hN : fw_R g N PN N.2.2.2.2.1.cells N.2.2.2.2.1.slots w 0 (lv_args 0 av) [])
    (kk : ∀ v w1, PN (.inl v) w1 → fw_R g M Post nc ns w1 (pc + 3) L (v.toList ++ rest)) (kx : ∀ C w1, PN (.inr C) w1 → fw_X g M Post nc ns w1 pc L C)
    {s : State} {m : MethodId} {args : Array Value} {below : List Frame} {meth : Method} {c : Code} {T : State} {vm : Vm} {locs : List Loc} {cells slots : Nat} {ls : Array Slot} {st : List Value}
    (X : Stand g.1 g.2.1 g.2.2.1 M.2.2.2.2.1 s m args below meth c (T.setVm vm) locs cells slots) (cx : fw_cx g M s m meth c) (hB : va_S (fw_A g) g.2.2.2.1.heap s.heap []) (hH : fw_H g w T.heap) (hS : va_S (fw_A g) g.2.2.2.1.heap T.heap locs) (hl : lv_has ls M.2.2.1 L)
    {ig : Instr} (hdg : decode M.2.1 pc = .ok (ig, 3)) {mk : MethodId} (hn : s.methodNamed? N.1 = some mk) (hst : (rest.map fun v => v.category).sum ≤ 8)
    (h1 : cells + (nc + N.2.2.2.2.1.cells) ≤ M.2.2.2.2.1.cells) (h2 : slots + (ns + N.2.2.2.2.1.slots) ≤ M.2.2.2.2.1.slots)
    (hstep : ∀ target, (∀ acts, Steps g.1.tables g.2.2.1 below (doInvoke g.2.2.1 ((T.setVm vm).setTop { F0 m pc ls st with stack := rest }) acts mk av.toArray).1 target) → Steps g.1.tables g.2.2.1 below (T.setTop (F0 m pc ls st)) target) :
    ∃ t, Steps g.1.tables g.2.2.1 below (T.setTop (F0 m pc ls st)) t ∧ fw_E g M s below Post t := by
  obtain ⟨r, w1, T1, L1, X1, hH1, hS1, hp, h⟩ := fw_call hg hcal hrm hN X cx hB hH hS (f := { F0 m pc ls st with stack := rest }) rfl (hl.1.trans cx.2.2.2.2.2.1.symm) (ig := ig) (by rw [cx.2.2.2.2.1]; exact hdg) hn (lv_room hst) (by omega) (by omega)
  rcases h with ⟨v, rfl, hsv⟩ | ⟨a, C, cell, rfl, ha, hb, hc, hsa⟩
  · obtain ⟨t, a1, b1⟩ := kk v w1 hp hg s m args below meth c T1.heap (locs ++ L1) (cells + N.2.2.2.2.1.cells) (slots + N.2.2.2.2.1.slots) ls cx hB hH1 hS1 (by omega) (by omega) hl T1 rfl X1
    exact ⟨t, hstep t (fun acts => (hsv acts).trans a1), b1⟩
  · obtain ⟨t, a1, b1⟩ := kx C w1 hp hg s m args below meth c T1 (locs ++ L1) (cells + N.2.2.2.2.1.cells) (slots + N.2.2.2.2.1.slots) ls rest a cell cx hB hH1 hS1 (by omega) (by omega) hl ha hb hc X1
    exact ⟨t, hstep t (fun acts => (hsa acts).trans a1), b1⟩
def fw_lk (own : String) (idx : Nat) (y : MethodName) : Prop := Cond.methodLink own idx y ∈ lw_tbl ∨ ∃ host, Cond.methodLinkNest own idx y host ∈ lw_tbl
def fw_np (y : MethodName) (n : Nat) : Prop := (parseMethodDescriptor y.desc).map (fun d => d.parameters.length) = some n
theorem fr_calls {idx : Nat} {as : List Value} (hd : decode M.2.1 pc = .ok (.invokestatic idx, 3)) (hcal : fw_cal N) (hlk : fw_lk M.1.cls idx N.1) (hst : Cond.static N.1 ∈ lw_tbl) (hnp : fw_np N.1 as.length) (hrm : fw_rm M N as) (hrest : (rest.map fun v => v.category).sum ≤ 8)
    (hN : fw_R g N PN N.2.2.2.2.1.cells N.2.2.2.2.1.slots w 0 (lv_args 0 as) []) (kk : ∀ v w1, PN (.inl v) w1 → fw_R g M Post nc ns w1 (pc + 3) L (v.toList ++ rest)) (kx : ∀ C w1, PN (.inr C) w1 → fw_X g M Post nc ns w1 pc L C) {st : List Value} (he : st = as.reverse ++ rest) :
    fw_R g M Post (nc + N.2.2.2.2.1.cells) (ns + N.2.2.2.2.1.slots) w pc L st := by
  intro hg s m args below meth c H locs cells slots ls cx hB hH hS h1 h2 hl T hT X
  subst hT
  obtain ⟨mk, methN, cN, cxN, hsig⟩ := hcal.spec hg cx.1
  have hstat : methN.isStatic = true := Cond.static_spec cxN.2.1 cxN.2.2.1 (fw_word hg cx.1 (args := args) hst rfl)
  obtain ⟨kP, hkP, -⟩ := className_of_methodNamed cxN.2.1
  have hinitP : kP.init = .initialized := Cond.initialized_spec (findClass_of_methodNamed cxN.2.1) hkP (fw_word hg cx.1 (args := args) hcal.2.2.1 rfl)
  have hlen : as.length = methN.sig.parameters.length := by
    unfold fw_np at hnp
    rw [hsig] at hnp
    exact (Option.some.inj hnp).symm
  have hdg : decode c.code (F0 m pc ls st).pc = .ok (.invokestatic idx, 3) := by rw [cx.2.2.2.2.1]; exact hd
  rcases hlk with h | ⟨host, h⟩
  · obtain ⟨vm, X1, hstep⟩ := X.invokestatic hg.1 cx.own (fw_word hg cx.1 h rfl) cxN.2.1 cxN.2.2.1 hstat hkP hinitP hcal.2.1 (g := F0 m pc ls st) rfl (argsL := as) (rest := rest) hlen he hdg
    exact fw_goon hg hcal hrm hN kk kx X1 cx hB hH hS hl hd cxN.2.1 hrest h1 h2 hstep
  · obtain ⟨vm, X1, hstep⟩ := X.invokestaticNest hg.1 cx.own (fw_wordM hg cx.1 h) cxN.2.1 cxN.2.2.1 hstat hkP hinitP hcal.2.1 (g := F0 m pc ls st) rfl (argsL := as) (rest := rest) hlen he hdg
    exact fw_goon hg hcal hrm hN kk kx X1 cx hB hH hS hl hd cxN.2.1 hrest h1 h2 hstep
theorem fr_callv {idx ci a : Nat} {C : String} {T0 : u_T} {N0 : Nat} {fs : List Value} {as : List Value} (hd : decode M.2.1 pc = .ok (.invokevirtual idx, 3)) (hcal : fw_cal N) (hlk : fw_lk M.1.cls idx N.1) (hin : Cond.instanceMethod N.1 ∈ lw_tbl) (hcl : fw_cl[ci]? = some (C, T0, N0)) (hsel : Cond.selects C N.1 N.1 ∈ lw_tbl) (hnp : fw_np N.1 as.length) (hrm : fw_rm M N (.ref a :: as)) (hrest : (rest.map fun v => v.category).sum ≤ 8)
    (ha : w a = some (.inr (ci, fs))) (hN : fw_R g N PN N.2.2.2.2.1.cells N.2.2.2.2.1.slots w 0 (lv_args 0 (.ref a :: as)) []) (kk : ∀ v w1, PN (.inl v) w1 → fw_R g M Post nc ns w1 (pc + 3) L (v.toList ++ rest)) (kx : ∀ C w1, PN (.inr C) w1 → fw_X g M Post nc ns w1 pc L C) {st : List Value} (he : st = as.reverse ++ .ref a :: rest) :
    fw_R g M Post (nc + N.2.2.2.2.1.cells) (ns + N.2.2.2.2.1.slots) w pc L st := by
  intro hg s m args below meth c H locs cells slots ls cx hB hH hS h1 h2 hl T hT X
  subst hT
  obtain ⟨mk, methN, cN, cxN, hsig⟩ := hcal.spec hg cx.1
  obtain ⟨mk2, methN2, hn2, hm2, hst2, hab2⟩ := Cond.instanceMethod_spec (fw_word hg cx.1 (args := args) hin rfl)
  cases Option.some.inj (cxN.2.1.symm.trans hn2)
  cases Option.some.inj (cxN.2.2.1.symm.trans hm2)
  obtain ⟨c2, r2, m2, q1, q2, q3, q4, kP, hkP, hkPi⟩ := Cond.selects_spec (fw_word hg cx.1 (args := args) hsel rfl)
  obtain ⟨ws, hP, hD, hw⟩ := id hH
  obtain ⟨q0, hq0⟩ := hw.at ha
  obtain ⟨cellB, hcB, hoB, hclB⟩ := va_recv (cx.K hg) hP hcl hq0
  cases Option.some.inj (hclB.symm.trans q1)
  cases Option.some.inj ((State.methodFound?_of_named cxN.2.1 hcal.2.1).symm.trans q2)
  cases Option.some.inj (cxN.2.1.symm.trans q3)
  have hselP : selectMethod g.2.2.1.platform s.vm cellB.cls mk = .method mk := by rw [Launch.admits_selectMethod X.admits]; exact q4
  have hlen : as.length = methN.sig.parameters.length := by
    unfold fw_np at hnp
    rw [hsig] at hnp
    exact (Option.some.inj hnp).symm
  have hdg : decode c.code (F0 m pc ls st).pc = .ok (.invokevirtual idx, 3) := by rw [cx.2.2.2.2.1]; exact hd
  rcases hlk with h | ⟨host, h⟩
  · obtain ⟨vm, X1, hstep⟩ := X.invokevirtual hg.1 cx.own (fw_word hg cx.1 h rfl) cxN.2.1 cxN.2.2.1 hst2 hkP hkPi hcal.2.1 (a := a) (cell := cellB) hcB (fun z h => by rw [h] at hoB; cases hoB) hselP cxN.2.2.1 hab2 hkP hkPi (g := F0 m pc ls st) rfl (argsL := as) (rest := rest) hlen he hdg
    exact fw_goon hg hcal hrm hN kk kx X1 cx hB hH hS hl hd cxN.2.1 hrest h1 h2 hstep
  · obtain ⟨vm, X1, hstep⟩ := X.invokevirtualNest hg.1 cx.own (fw_wordM hg cx.1 h) cxN.2.1 cxN.2.2.1 hst2 hkP hkPi hcal.2.1 (a := a) (cell := cellB) hcB (fun z h => by rw [h] at hoB; cases hoB) hselP cxN.2.2.1 hab2 hkP hkPi (g := F0 m pc ls st) rfl (argsL := as) (rest := rest) hlen he hdg
    exact fw_goon hg hcal hrm hN kk kx X1 cx hB hH hS hl hd cxN.2.1 hrest h1 h2 hstep
theorem fr_calli {idx a : Nat} {as : List Value} (hd : decode M.2.1 pc = .ok (.invokespecial idx, 3)) (hcal : fw_cal N) (hini : N.1.name = "<init>") (hh : N.2.2.2.2.2 = []) (hret : N.2.2.2.1 = none) (hcode : Cond.code N.1 N.2.1 N.2.2.1 N.2.2.2.1 ∈ lw_tbl) (hlk : fw_lk M.1.cls idx N.1) (hin : Cond.instanceMethod N.1 ∈ lw_tbl) (hnp : fw_np N.1 as.length) (hrm : fw_rm M N (.ref a :: as)) (hrest : (rest.map fun v => v.category).sum ≤ 8)
    (hN : fw_R g N PN N.2.2.2.2.1.cells N.2.2.2.2.1.slots w 0 (lv_args 0 (.ref a :: as)) []) (kk : ∀ v w1, PN (.inl v) w1 → fw_R g M Post nc ns w1 (pc + 3) L (v.toList ++ rest)) (kx : ∀ C w1, PN (.inr C) w1 → fw_X g M Post nc ns w1 pc L C) {st : List Value} (he : st = as.reverse ++ .ref a :: rest) :
    fw_R g M Post (nc + N.2.2.2.2.1.cells) (ns + N.2.2.2.2.1.slots) w pc L st := by
  intro hg s m args below meth c H locs cells slots ls cx hB hH hS h1 h2 hl T hT X
  subst hT
  have hpl : g.2.2.1.platform.magicAccessors = ({} : Platform).magicAccessors := by rw [X.admits.platform]
  have hlen : ∀ sig, parseMethodDescriptor N.1.desc = some sig → as.length = sig.parameters.length := by
    intro sig h
    unfold fw_np at hnp
    rw [h] at hnp
    exact (Option.some.inj hnp).symm
  have hdg : decode c.code (F0 m pc ls st).pc = .ok (.invokespecial idx, 3) := by rw [cx.2.2.2.2.1]; exact hd
  rw [hret] at hcode
  rcases hlk with h | ⟨host, h⟩
  · obtain ⟨mk, methM, cM, kP, vm, hnamed, hmethM, hcodeM, -, hlocalsM, -, hkP, -, hW1, hstep⟩ := Steps.initColdArgs (e := g.2.2.1) X.here hg.1 X.warmed hpl cx.own hini hcal.2.1 (fw_word hg cx.1 h rfl) (fw_word hg cx.1 hin rfl) (fw_word hg cx.1 (args := args) hcode rfl) (f := F0 m pc ls st) rfl hlen he hdg
    exact fw_goon hg hcal hrm hN kk kx (X.noted hW1) cx hB hH hS hl hd hnamed hrest h1 h2 hstep
  · obtain ⟨mk, methM, cM, kP, vm, hnamed, hmethM, hcodeM, -, hlocalsM, -, hkP, -, hW1, hstep⟩ := Steps.initColdArgsNest (e := g.2.2.1) X.here hg.1 X.warmed hpl cx.own hini hcal.2.1 (fw_wordM hg cx.1 h) (fw_word hg cx.1 hin rfl) (fw_word hg cx.1 (args := args) hcode rfl) (f := F0 m pc ls st) rfl hlen he hdg
    exact fw_goon hg hcal hrm hN kk kx (X.noted hW1) cx hB hH hS hl hd hnamed hrest h1 h2 hstep
end FC
end
section
def fw_wk (w : Cond) : Bool := (w.onTables && w.keeps) || (match w with
  | .castable _ _ => true
  | .declares _ => true
  | _ => false)
theorem fw_wordK {g : fw_G} (hg : fw_g g) {s : State} (hW : g.2.2.2.1.WarmedH s.vm) {args : Array Value} {x : Cond} (hx : x ∈ lw_tbl) (hk : fw_wk x = true) : x.before args s = true := by
  unfold fw_wk at hk
  rw [Bool.or_eq_true] at hk
  rcases hk with hk | hk
  · exact fw_word hg hW hx hk
  · obtain ⟨a0, h⟩ := hg.2.1
    cases x with
    | castable C T => exact va_Nw.use rfl (va_Nw.warmC hW (va_Nw.of rfl (h _ hx)))
    | declares y => exact va_Nw.use rfl (va_Nw.warmD hW (va_Nw.of rfl (h _ hx)))
    | _ => cases hk
theorem fw_str {g : fw_G} (hg : fw_g g) {s : State} (hW : g.2.2.2.1.WarmedH s.vm) {own text : String} {k : Nat} {c : ClassId} (hown : s.vm.findClass own = some c) (hx : Cond.stringRef own k text ∈ lw_tbl) : ∃ a, vk_R own k text a s := by
  obtain ⟨a0, h⟩ := hg.2.1
  have h1 := h _ hx
  have hown0 : g.2.2.2.1.vm.findClass own = some c := by rw [← hW.alike.findClass]; exact hown
  obtain ⟨-, -, -, sa, -, -, -, -, -, hev⟩ := Cond.stringRef_spec hown0 h1
  exact ⟨sa, vk_R.warm hW (vk_R.of h1 hev)⟩
def fw_thr (own : String) (ik is ic : Nat) (cls text : String) (names : List String) : Prop := Bundle.fit cls = true ∧ (∀ n ∈ names, Bundle.fit n = true) ∧ Cond.classLink own ik cls ∈ lw_tbl ∧ Cond.initialized cls ∈ lw_tbl ∧ Cond.stringRef own is text ∈ lw_tbl ∧
  (∀ w ∈ vx_atS own ic cls names, w ∈ lw_tbl ∧ fw_wk w = true) ∧ ∀ w ∈ Cond.classLink own ik cls :: Cond.initialized cls :: vx_atS own ic cls names, vx_ot w = true
section FT
variable {g : fw_G} {M : fw_M} {Post : fw_O → fw_W → Prop} {nc ns : Nat} {w : fw_W} {pc : Nat} {L : List (Nat × Value)} {rest : List Value}
theorem fw_cov {meth : Method} {c : Code} {s : State} {m : MethodId} (cx : fw_cx g M s m meth c) (hh : ∀ q ∈ M.2.2.2.2.2, ¬ (q.1 ≤ pc ∧ pc < q.2.1)) : ∀ x ∈ c.exceptionTable.toList, covers x pc = false := by
  intro x hx
  have hq : (x.startPc, x.endPc, x.handlerPc, x.catchType) ∈ M.2.2.2.2.2 := by
    rw [← cx.2.2.2.2.2.2.2.2]
    exact List.mem_map.mpr ⟨x, hx, rfl⟩
  have := hh _ hq
  simp only [covers, Bool.and_eq_false_iff, decide_eq_false_iff_not]
  by_cases hle : x.startPc ≤ pc
  · right; exact fun h => this ⟨hle, h⟩
  · left; exact hle
theorem fw_Sb {s : State} {H : Heap} {locs : List Loc} (hB : va_S (fw_A g) g.2.2.2.1.heap s.heap []) (hS : va_S (fw_A g) g.2.2.2.1.heap H locs) (hz : s.heap.size ≤ H.size) : va_S (fw_A g) s.heap H locs := by
  refine ⟨hz, fun q _ hq => ?_, hS.2.2⟩
  have hlt : q < g.2.2.2.1.heap.size := Nat.not_le.mp hq
  rw [hS.2.1 q hlt hq, hB.2.1 q hlt hq]
theorem fw_thrown {P2 : Unit → Prop} {s : State} {H : Heap} {locs : List Loc} {below : List Frame} {args : Array Value} {cls : String} (hH : fw_H g w H) (hS : va_S (fw_A g) g.2.2.2.1.heap H locs) (hW : g.2.2.2.1.WarmedH s.vm) (hp : Post (.inr cls) w) :
    ∀ t, vx_MQ below (fun _ _ _ _ => False) (fun E _ t => E = cls ∧ H.size ≤ t.heap.size ∧ ∀ q : Nat, q < H.size → t.heap[q]? = H[q]?) args s M.2.2.2.2.1.cells M.2.2.2.2.1.slots (fw_A g) t → fw_E g M s below Post t := by
  rintro t ⟨o, hrun, hend, ⟨hf, -⟩ | ⟨q, rfl, E, ce, Lc, ⟨rfl, hz, hk⟩, hce, hv, hcl, hWt, hsame, hL⟩⟩
  · exact absurd hf id
  · obtain ⟨ws, hP, hD, hw⟩ := hH
    refine ⟨_, .inr E, w, Lc, hrun, hend, hWt, hsame, hL, ⟨ws, hP.kept (fun k x hx => hk _ (hP k x hx).lt), hD, hw⟩, ⟨Nat.le_trans hS.1 hz, fun z h1 h2 => (hk z (Nat.lt_of_lt_of_le h1 hS.1)).trans (hS.2.1 z h1 h2), fun _ h => by cases h⟩, Or.inr ⟨q, E, ce, rfl, rfl, hce, by rw [hv]; rfl, ?_⟩, hp⟩
    rw [← hW.alike.findClass]; exact hcl
theorem fr_throw {ik is ic : Nat} {cls text : String} {names : List String} (hth : fw_thr M.1.cls ik is ic cls text names) (d0 : decode M.2.1 pc = .ok (.new ik, 3)) (d3 : decode M.2.1 (pc + 3) = .ok (.dup, 1)) (d4 : decode M.2.1 (pc + 4) = .ok (.ldc is, 2)) (d6 : decode M.2.1 (pc + 6) = .ok (.invokespecial ic, 3)) (d9 : decode M.2.1 (pc + 9) = .ok (.athrow, 1))
    (hout : ∀ q ∈ M.2.2.2.2.2, ¬ (q.1 ≤ pc + 9 ∧ pc + 9 < q.2.1)) (hfr : names.length + 3 < M.2.2.2.2.1.frames) (hlo : (rest.map fun v => v.category).sum + (13 * (names.length + 1) + 43) ≤ M.2.2.2.2.1.locals) (hp : Post (.inr cls) w) : fw_R g M Post (nc + 1) (ns + 6) w pc L rest := by
  intro hg s m args below meth c H locs cells slots ls cx hB hH hS h1 h2 hl T hT X
  obtain ⟨hfit, hnames, hk, hini, hstr, hat, hgood⟩ := hth
  obtain ⟨sa, hsa⟩ := fw_str hg cx.1 cx.own hstr
  have hz : s.heap.size ≤ H.size := by rw [← hT]; exact X.same.2.1
  exact fw_mono (fw_thrown (P2 := fun _ => True) hH hS cx.1 hp) (vx_throwS (Qc := fun _ _ _ _ => False) (XC := fun E _ t => E = cls ∧ H.size ≤ t.heap.size ∧ ∀ q : Nat, q < H.size → t.heap[q]? = H[q]?) (free := fw_A g) (A := fw_A g) hg.1 cx.2.2.2.2.1 hg.2.2.2.1 cx.own hfit hnames (fw_word hg cx.1 hk rfl) (fw_word hg cx.1 hini rfl) hsa (fun x hx => fw_wordK hg cx.1 (hat x hx).1 (hat x hx).2) hgood
    ((vx_Zq.moved cx.1.alike hg.2.2.2.2.2.1).kept (fun a h1 h2 => hB.2.1 a h1 h2)) ((vx_Zq.moved cx.1.alike hg.2.2.2.2.2.2.1).kept (fun a h1 h2 => hB.2.1 a h1 h2)) (fw_Sb hB hS hz) (hl.1.trans cx.2.2.2.2.2.1.symm) d0 d3 d4 d6 d9 (fw_cov cx hout) hfr hlo (by omega) (by omega) cx.2.2.2.2.2.2.2.1 (fun t _ a b => ⟨rfl, a, b⟩) hS.2.2 (by omega) (by omega)) T hT X
theorem fr_throwW {ik is ic : Nat} {cls text : String} {names : List String} (hth : fw_thr M.1.cls ik is ic cls text names) (d0 : decode M.2.1 pc = .ok (.new ik, 3)) (d3 : decode M.2.1 (pc + 3) = .ok (.dup, 1)) (d4 : decode M.2.1 (pc + 4) = .ok (.ldc_w is, 3)) (d7 : decode M.2.1 (pc + 7) = .ok (.invokespecial ic, 3)) (d10 : decode M.2.1 (pc + 10) = .ok (.athrow, 1))
    (hout : ∀ q ∈ M.2.2.2.2.2, ¬ (q.1 ≤ pc + 10 ∧ pc + 10 < q.2.1)) (hfr : names.length + 3 < M.2.2.2.2.1.frames) (hlo : (rest.map fun v => v.category).sum + (13 * (names.length + 1) + 43) ≤ M.2.2.2.2.1.locals) (hp : Post (.inr cls) w) : fw_R g M Post (nc + 1) (ns + 6) w pc L rest := by
  intro hg s m args below meth c H locs cells slots ls cx hB hH hS h1 h2 hl T hT X
  obtain ⟨hfit, hnames, hk, hini, hstr, hat, hgood⟩ := hth
  obtain ⟨sa, hsa⟩ := fw_str hg cx.1 cx.own hstr
  have hz : s.heap.size ≤ H.size := by rw [← hT]; exact X.same.2.1
  exact fw_mono (fw_thrown (P2 := fun _ => True) hH hS cx.1 hp) (vx_throwSW (Qc := fun _ _ _ _ => False) (XC := fun E _ t => E = cls ∧ H.size ≤ t.heap.size ∧ ∀ q : Nat, q < H.size → t.heap[q]? = H[q]?) (free := fw_A g) (A := fw_A g) hg.1 cx.2.2.2.2.1 hg.2.2.2.1 cx.own hfit hnames (fw_word hg cx.1 hk rfl) (fw_word hg cx.1 hini rfl) hsa (fun x hx => fw_wordK hg cx.1 (hat x hx).1 (hat x hx).2) hgood
    ((vx_Zq.moved cx.1.alike hg.2.2.2.2.2.1).kept (fun a h1 h2 => hB.2.1 a h1 h2)) ((vx_Zq.moved cx.1.alike hg.2.2.2.2.2.2.1).kept (fun a h1 h2 => hB.2.1 a h1 h2)) (fw_Sb hB hS hz) (hl.1.trans cx.2.2.2.2.2.1.symm) d0 d3 d4 d7 d10 (fw_cov cx hout) hfr hlo (by omega) (by omega) cx.2.2.2.2.2.2.2.1 (fun t _ a b => ⟨rfl, a, b⟩) hS.2.2 (by omega) (by omega)) T hT X
def fw_hd (M : fw_M) (pc : Nat) (E : String) (hpc : Nat) : Prop := ∃ (pre suf : List (Nat × Nat × Nat × Nat)) (x : Nat × Nat × Nat × Nat), M.2.2.2.2.2 = pre ++ x :: suf ∧
  (∀ z ∈ pre, z.2.2.2 ≠ 0 ∧ ∃ nm : String, Cond.classLink M.1.cls z.2.2.2 nm ∈ lw_tbl ∧ (E, nm) ∈ fw_xp) ∧ x.1 ≤ pc ∧ pc < x.2.1 ∧ x.2.2.1 = hpc ∧ x.2.2.2 ≠ 0 ∧ Cond.classLink M.1.cls x.2.2.2 E ∈ lw_tbl ∧ Cond.castable E E ∈ lw_tbl
theorem fw_split {α β : Type} (f : α → β) : ∀ (l : List α) (pre suf : List β) (x : β), l.map f = pre ++ x :: suf → ∃ (p2 s2 : List α) (y : α), l = p2 ++ y :: s2 ∧ p2.map f = pre ∧ f y = x ∧ s2.map f = suf := by
  intro l pre
  induction pre generalizing l with
  | nil =>
    intro suf x h
    cases l with
    | nil => cases h
    | cons a t =>
      rw [List.map_cons, List.nil_append, List.cons.injEq] at h
      exact ⟨[], t, a, rfl, rfl, h.1, h.2⟩
  | cons b pre ih =>
    intro suf x h
    cases l with
    | nil => cases h
    | cons a t =>
      rw [List.map_cons, List.cons_append, List.cons.injEq] at h
      obtain ⟨p2, s2, y, h1, h2, h3, h4⟩ := ih t suf x h.2
      exact ⟨a :: p2, s2, y, by rw [h1]; rfl, by rw [List.map_cons, h.1, h2], h3, h4⟩
theorem fx_catch {E : String} {hpc : Nat} (hh : fw_hd M pc E hpc) (kk : ∀ a : Nat, fw_R g M Post nc ns w hpc L [.ref a]) : fw_X g M Post nc ns w pc L E := by
  intro hg s m args below meth c T locs cells slots ls st a cell cx hB hH hS h1 h2 hl ha hb hc X
  obtain ⟨pre, suf, x, hsp, hpass, hx1, hx2, hx3, hx4, hlk, hcs⟩ := hh
  obtain ⟨p2, s2, y, e1, e2, e3, e4⟩ := fw_split _ _ _ _ _ (cx.2.2.2.2.2.2.2.2.trans hsp)
  subst e3
  have hcell : s.vm.findClass E = some cell.cls := by rw [cx.1.alike.findClass]; exact hc
  obtain ⟨c3, c4, hc3, hc4, hasg⟩ := Cond.castable_spec (fw_wordK hg cx.1 (args := args) hcs rfl)
  cases Option.some.inj (hc3.symm.trans hcell)
  cases Option.some.inj (hc4.symm.trans hcell)
  have hpl : g.2.2.1.platform.magicAccessors = ({} : Platform).magicAccessors := by rw [X.admits.platform]
  obtain ⟨c5, hc5, hcl5⟩ := Cond.classLink_spec cx.own (fw_word hg cx.1 (args := args) hlk rfl) g.2.2.1.platform hpl
  cases Option.some.inj (hcell.symm.trans hc5)
  obtain ⟨vm1, X1, st1⟩ := X.thenCaughtThrough a (g := F0 m pc ls st) rfl (Steps.refl _) ha hb (by obtain ⟨k9, h9, -⟩ := Vm.findClass_spec hcell; exact ⟨k9, h9⟩) p2 y s2 e1
    (fun z hz => by
      have hz2 : (z.startPc, z.endPc, z.handlerPc, z.catchType) ∈ pre := by rw [← e2]; exact List.mem_map.mpr ⟨z, hz, rfl⟩
      obtain ⟨hz0, nm, hl1, hn1⟩ := hpass _ hz2
      by_cases hcv : covers z pc = false
      · exact Or.inl hcv
      · obtain ⟨c6, hc6, hcl6⟩ := Cond.classLink_spec cx.own (fw_word hg cx.1 (args := args) hl1 rfl) g.2.2.1.platform hpl
        obtain ⟨a8, b8, q1, q2, q3⟩ := va_Nc.moved cx.1.alike (hg.2.2.2.2.2.2.2.1 _ hn1)
        cases Option.some.inj (q1.symm.trans hcell)
        cases Option.some.inj (q2.symm.trans hc6)
        exact Or.inr ⟨hz0, _, hcl6, q3⟩)
    (by simp only [covers, Bool.and_eq_true, decide_eq_true_eq]; exact ⟨hx1, hx2⟩) (Or.inr ⟨hx4, _, hcl5, hasg⟩)
  obtain ⟨t, a1, b1⟩ := kk a hg s m args below meth c T.heap locs cells slots ls cx hB hH hS h1 h2 hl (T.setVm vm1) rfl X1
  refine ⟨t, st1.trans ?_, b1⟩
  subst hx3
  exact a1
end FT
end
section
def fw_pv (v : Value) (w : fw_W) : fw_O → fw_W → Prop := fun r u => r = .inl (some v) ∧ u = w
def fw_pn (w : fw_W) : fw_O → fw_W → Prop := fun r u => r = .inl none ∧ u = w
def fw_px (C : String) (w : fw_W) : fw_O → fw_W → Prop := fun r u => r = .inr C ∧ u = w
section FP
variable {g : fw_G} {M N : fw_M} {Post : fw_O → fw_W → Prop} {nc ns : Nat} {w : fw_W} {pc : Nat} {L : List (Nat × Value)} {rest : List Value}
theorem fr_st {st st2 : List Value} (h : st = st2) (kk : fw_R g M Post nc ns w pc L st2) : fw_R g M Post nc ns w pc L st := h ▸ kk
theorem fr_w {w2 : fw_W} (h : w = w2) (kk : fw_R g M Post nc ns w2 pc L rest) : fw_R g M Post nc ns w pc L rest := h ▸ kk
theorem fr_ldc2 {idx : Nat} {v : Int64} (hd : decode M.2.1 pc = .ok (.ldc2_w idx, 3)) (hx : Cond.constantLong M.1.cls idx v ∈ lw_tbl) (kk : fw_R g M Post nc ns w (pc + 3) L (.long v :: rest)) : fw_R g M Post nc ns w pc L rest := by
  intro hg s m args below meth c H locs cells slots ls cx hB hH hS e1 e2 hl
  exact lv_ldc2 hg.1 cx.2.2.2.2.1 cx.own (fw_word hg cx.1 hx rfl) hd (kk hg s m args below meth c H locs cells slots ls cx hB hH hS e1 e2 hl)
theorem fr_ldc {idx : Nat} {v : Int32} (hd : decode M.2.1 pc = .ok (.ldc idx, 2)) (hx : Cond.constant M.1.cls idx v ∈ lw_tbl) (kk : fw_R g M Post nc ns w (pc + 2) L (.int v :: rest)) : fw_R g M Post nc ns w pc L rest := by
  intro hg s m args below meth c H locs cells slots ls cx hB hH hS e1 e2 hl
  exact lv_ldc hg.1 cx.2.2.2.2.1 cx.own (fw_word hg cx.1 hx rfl) hd (kk hg s m args below meth c H locs cells slots ls cx hB hH hS e1 e2 hl)
theorem fr_objInit {idx a : Nat} (hd : decode M.2.1 pc = .ok (.invokespecial idx, 3)) (hx : Cond.methodLink M.1.cls idx objectInit ∈ lw_tbl) (hi : Cond.instanceMethod objectInit ∈ lw_tbl) (hc : Cond.code objectInit ⟨#[0xb1]⟩ 1 none ∈ lw_tbl) (hfr : 1 ≤ M.2.2.2.2.1.frames) (hlo : (rest.map fun v => v.category).sum + 12 ≤ M.2.2.2.2.1.locals)
    (kk : fw_R g M Post nc ns w (pc + 3) L rest) : fw_R g M Post nc ns w pc L (.ref a :: rest) := by
  intro hg s m args below meth c H locs cells slots ls cx hB hH hS e1 e2 hl
  exact W.objInit hg.1 cx.2.2.2.2.1 cx.own (fw_word hg cx.1 hx rfl) (fw_word hg cx.1 hi rfl) (fw_word hg cx.1 hc rfl) rfl (by rw [cx.2.2.2.2.2.1]; exact hl.1) rfl hd hfr (by show 2 * 0 + _ + 12 ≤ _; omega) (kk hg s m args below meth c H locs cells slots ls cx hB hH hS e1 e2 hl)
theorem fr_calls_p {w2 : fw_W} {idx : Nat} {as : List Value} {v : Value} (hd : decode M.2.1 pc = .ok (.invokestatic idx, 3)) (hcal : fw_cal N) (hlk : fw_lk M.1.cls idx N.1) (hst : Cond.static N.1 ∈ lw_tbl) (hnp : fw_np N.1 as.length) (hrm : fw_rm M N as) (hrest : (rest.map fun v => v.category).sum ≤ 8)
    (hN : fw_R g N (fw_pv v w2) N.2.2.2.2.1.cells N.2.2.2.2.1.slots w 0 (lv_args 0 as) []) {st : List Value} (he : st = as.reverse ++ rest) (kk : fw_R g M Post nc ns w2 (pc + 3) L (v :: rest)) : fw_R g M Post (nc + N.2.2.2.2.1.cells) (ns + N.2.2.2.2.1.slots) w pc L st :=
  fr_calls hd hcal hlk hst hnp hrm hrest hN (fun v1 w1 h => by obtain ⟨h1, h2⟩ := h; cases h1; subst h2; exact kk) (fun C w1 h => by obtain ⟨h1, -⟩ := h; cases h1) he
theorem fr_calls_n {w2 : fw_W} {idx : Nat} {as : List Value} (hd : decode M.2.1 pc = .ok (.invokestatic idx, 3)) (hcal : fw_cal N) (hlk : fw_lk M.1.cls idx N.1) (hst : Cond.static N.1 ∈ lw_tbl) (hnp : fw_np N.1 as.length) (hrm : fw_rm M N as) (hrest : (rest.map fun v => v.category).sum ≤ 8)
    (hN : fw_R g N (fw_pn w2) N.2.2.2.2.1.cells N.2.2.2.2.1.slots w 0 (lv_args 0 as) []) {st : List Value} (he : st = as.reverse ++ rest) (kk : fw_R g M Post nc ns w2 (pc + 3) L rest) : fw_R g M Post (nc + N.2.2.2.2.1.cells) (ns + N.2.2.2.2.1.slots) w pc L st :=
  fr_calls hd hcal hlk hst hnp hrm hrest hN (fun v1 w1 h => by obtain ⟨h1, h2⟩ := h; cases h1; subst h2; exact kk) (fun C w1 h => by obtain ⟨h1, -⟩ := h; cases h1) he
theorem fr_calls_x {idx : Nat} {as : List Value} {C : String} (hd : decode M.2.1 pc = .ok (.invokestatic idx, 3)) (hcal : fw_cal N) (hlk : fw_lk M.1.cls idx N.1) (hst : Cond.static N.1 ∈ lw_tbl) (hnp : fw_np N.1 as.length) (hrm : fw_rm M N as) (hrest : (rest.map fun v => v.category).sum ≤ 8)
    (hN : fw_R g N (fw_px C w) N.2.2.2.2.1.cells N.2.2.2.2.1.slots w 0 (lv_args 0 as) []) {st : List Value} (he : st = as.reverse ++ rest) (kx : fw_X g M Post nc ns w pc L C) : fw_R g M Post (nc + N.2.2.2.2.1.cells) (ns + N.2.2.2.2.1.slots) w pc L st :=
  fr_calls hd hcal hlk hst hnp hrm hrest hN (fun v1 w1 h => by obtain ⟨h1, -⟩ := h; cases h1) (fun C w1 h => by obtain ⟨h1, h2⟩ := h; cases h1; subst h2; exact kx) he
def fw_vc (own : String) (idx ci : Nat) (N : fw_M) (n : Nat) : Prop := fw_cal N ∧ fw_lk own idx N.1 ∧ Cond.instanceMethod N.1 ∈ lw_tbl ∧ (∃ (C : String) (T0 : u_T) (N0 : Nat), fw_cl[ci]? = some (C, T0, N0) ∧ Cond.selects C N.1 N.1 ∈ lw_tbl) ∧ fw_np N.1 n
theorem fr_callV {Post2 : fw_O → fw_W → Prop} {idx ci a : Nat} {fs : List Value} {as : List Value} (hd : decode M.2.1 pc = .ok (.invokevirtual idx, 3)) (hv : fw_vc M.1.cls idx ci N as.length) (hrm : fw_rm M N (.ref a :: as)) (hrest : (rest.map fun v => v.category).sum ≤ 8)
    (ha : w a = some (.inr (ci, fs))) (hN : fw_R g N Post2 N.2.2.2.2.1.cells N.2.2.2.2.1.slots w 0 (lv_args 0 (.ref a :: as)) []) {st : List Value} (he : st = as.reverse ++ .ref a :: rest) (kk : ∀ v w1, Post2 (.inl v) w1 → fw_R g M Post nc ns w1 (pc + 3) L (v.toList ++ rest)) (kx : ∀ C w1, Post2 (.inr C) w1 → fw_X g M Post nc ns w1 pc L C) :
    fw_R g M Post (nc + N.2.2.2.2.1.cells) (ns + N.2.2.2.2.1.slots) w pc L st := by
  obtain ⟨h1, h2, h3, ⟨C, T0, N0, h4, h5⟩, h6⟩ := hv
  exact fr_callv hd h1 h2 h3 h4 h5 h6 hrm hrest ha hN kk kx he
theorem fr_callv_p {w2 : fw_W} {idx ci a : Nat} {fs : List Value} {as : List Value} {v : Value} (hd : decode M.2.1 pc = .ok (.invokevirtual idx, 3)) (hv : fw_vc M.1.cls idx ci N as.length) (hrm : fw_rm M N (.ref a :: as)) (hrest : (rest.map fun v => v.category).sum ≤ 8)
    (ha : w a = some (.inr (ci, fs))) (hN : fw_R g N (fw_pv v w2) N.2.2.2.2.1.cells N.2.2.2.2.1.slots w 0 (lv_args 0 (.ref a :: as)) []) {st : List Value} (he : st = as.reverse ++ .ref a :: rest) (kk : fw_R g M Post nc ns w2 (pc + 3) L (v :: rest)) : fw_R g M Post (nc + N.2.2.2.2.1.cells) (ns + N.2.2.2.2.1.slots) w pc L st :=
  fr_callV hd hv hrm hrest ha hN he (fun v1 w1 h => by obtain ⟨h1, h2⟩ := h; cases h1; subst h2; exact kk) (fun C w1 h => by obtain ⟨h1, -⟩ := h; cases h1)
theorem fr_callv_n {w2 : fw_W} {idx ci a : Nat} {fs : List Value} {as : List Value} (hd : decode M.2.1 pc = .ok (.invokevirtual idx, 3)) (hv : fw_vc M.1.cls idx ci N as.length) (hrm : fw_rm M N (.ref a :: as)) (hrest : (rest.map fun v => v.category).sum ≤ 8)
    (ha : w a = some (.inr (ci, fs))) (hN : fw_R g N (fw_pn w2) N.2.2.2.2.1.cells N.2.2.2.2.1.slots w 0 (lv_args 0 (.ref a :: as)) []) {st : List Value} (he : st = as.reverse ++ .ref a :: rest) (kk : fw_R g M Post nc ns w2 (pc + 3) L rest) : fw_R g M Post (nc + N.2.2.2.2.1.cells) (ns + N.2.2.2.2.1.slots) w pc L st :=
  fr_callV hd hv hrm hrest ha hN he (fun v1 w1 h => by obtain ⟨h1, h2⟩ := h; cases h1; subst h2; exact kk) (fun C w1 h => by obtain ⟨h1, -⟩ := h; cases h1)
theorem fr_callv_x {idx ci a : Nat} {fs : List Value} {as : List Value} {C : String} (hd : decode M.2.1 pc = .ok (.invokevirtual idx, 3)) (hv : fw_vc M.1.cls idx ci N as.length) (hrm : fw_rm M N (.ref a :: as)) (hrest : (rest.map fun v => v.category).sum ≤ 8)
    (ha : w a = some (.inr (ci, fs))) (hN : fw_R g N (fw_px C w) N.2.2.2.2.1.cells N.2.2.2.2.1.slots w 0 (lv_args 0 (.ref a :: as)) []) {st : List Value} (he : st = as.reverse ++ .ref a :: rest) (kx : fw_X g M Post nc ns w pc L C) : fw_R g M Post (nc + N.2.2.2.2.1.cells) (ns + N.2.2.2.2.1.slots) w pc L st :=
  fr_callV hd hv hrm hrest ha hN he (fun v1 w1 h => by obtain ⟨h1, -⟩ := h; cases h1) (fun C w1 h => by obtain ⟨h1, h2⟩ := h; cases h1; subst h2; exact kx)
end FP
theorem fi_1 (k : Nat) : nI k + Int32.ofInt 1 = nI (k + 1) := by rw [nI_succ]; rfl
def bI (b : Bool) : Int32 := if b then 1 else 0
theorem bI_t : bI true = 1 := rfl
theorem bI_f : bI false = 0 := rfl
theorem bI_01 (b : Bool) : bI b = 0 ∨ bI b = 1 := by cases b <;> simp [bI]
theorem bI_0 {b : Bool} : bI b = 0 ↔ b = false := by cases b <;> simp [bI]
theorem bI_nar (b : Bool) : narrow .boolean (.int (bI b)) = .int (bI b) := by cases b <;> rfl
theorem bI_fit (b : Bool) : fits .boolean (.int (bI b)) = true := by cases b <;> rfl
theorem rf_cat (r : Option Nat) : (va_rf r).category = 1 := by cases r <;> rfl
theorem fw_up_id {w : fw_W} {a : Nat} {x : va_E} (h : w a = some x) : fw_up w a x = w := by
  funext b
  by_cases e : b = a
  · subst e; rw [fw_up_self, h]
  · rw [fw_up_ne e]
theorem fw_uu {w : fw_W} {a : Nat} {x y : va_E} : fw_up (fw_up w a x) a y = fw_up w a y := by
  funext b
  by_cases h : b = a <;> simp [fw_up, h]
end
section
section FA
variable {g : fw_G} {M : fw_M} {Post : fw_O → fw_W → Prop} {nc ns : Nat} {w : fw_W} {pc : Nat} {L : List (Nat × Value)} {rest : List Value}
theorem fr_laldN {a n k : Nat} {f : Nat → Int64} (hd : decode M.2.1 pc = .ok (.laload, 1)) (ha : w a = some (.inl (fw_c g 2, n, .inr (.inl f)))) (hk : k < n) (hn : n < 2 ^ 31) (kk : fw_R g M Post nc ns w (pc + 1) L (.long (f k) :: rest)) : fw_R g M Post nc ns w pc L (.int (nI k) :: .ref a :: rest) :=
  fr_lald (t := 2) hd rfl ha (vp_in_nI hk hn) (by rw [nI_clamp (by omega)]; exact kk)
theorem fr_lastN {a n k : Nat} {f : Nat → Int64} {x : Int64} (hd : decode M.2.1 pc = .ok (.lastore, 1)) (ha : w a = some (.inl (fw_c g 2, n, .inr (.inl f)))) (hk : k < n) (hn : n < 2 ^ 31) (kk : fw_R g M Post nc ns (fw_up w a (.inl (fw_c g 2, n, .inr (.inl (vp_updL f k x))))) (pc + 1) L rest) : fw_R g M Post nc ns w pc L (.long x :: .int (nI k) :: .ref a :: rest) :=
  fr_last (t := 2) hd rfl ha (vp_in_nI hk hn) (by rw [nI_clamp (by omega)]; exact kk)
theorem fr_ialdN {a n k : Nat} {f : Nat → Int32} (hd : decode M.2.1 pc = .ok (.iaload, 1)) (ha : w a = some (.inl (fw_c g 1, n, .inl f))) (hk : k < n) (hn : n < 2 ^ 31) (kk : fw_R g M Post nc ns w (pc + 1) L (.int (f k) :: rest)) : fw_R g M Post nc ns w pc L (.int (nI k) :: .ref a :: rest) :=
  fr_iald (t := 1) hd rfl ha (vp_in_nI hk hn) (by rw [nI_clamp (by omega)]; exact kk)
theorem fr_iastN {a n k : Nat} {f : Nat → Int32} {x : Int32} (hd : decode M.2.1 pc = .ok (.iastore, 1)) (ha : w a = some (.inl (fw_c g 1, n, .inl f))) (hk : k < n) (hn : n < 2 ^ 31) (kk : fw_R g M Post nc ns (fw_up w a (.inl (fw_c g 1, n, .inl (upd f k x)))) (pc + 1) L rest) : fw_R g M Post nc ns w pc L (.int x :: .int (nI k) :: .ref a :: rest) :=
  fr_iast (t := 1) hd rfl ha (vp_in_nI hk hn) (by rw [nI_clamp (by omega)]; exact kk)
theorem fr_zaldN {a n k : Nat} {f : Nat → Int32} (hd : decode M.2.1 pc = .ok (.baload, 1)) (ha : w a = some (.inl (fw_c g 0, n, .inl f))) (hk : k < n) (hn : n < 2 ^ 31) (kk : fw_R g M Post nc ns w (pc + 1) L (.int (f k) :: rest)) : fw_R g M Post nc ns w pc L (.int (nI k) :: .ref a :: rest) :=
  fr_zald (t := 0) hd rfl ha (vp_in_nI hk hn) (by rw [nI_clamp (by omega)]; exact kk)
theorem fr_zastN {a n k : Nat} {f : Nat → Int32} {x : Int32} (hd : decode M.2.1 pc = .ok (.bastore, 1)) (ha : w a = some (.inl (fw_c g 0, n, .inl f))) (hk : k < n) (hn : n < 2 ^ 31) (hx : x = 0 ∨ x = 1) (kk : fw_R g M Post nc ns (fw_up w a (.inl (fw_c g 0, n, .inl (upd f k x)))) (pc + 1) L rest) : fw_R g M Post nc ns w pc L (.int x :: .int (nI k) :: .ref a :: rest) :=
  fr_zast (t := 0) hd rfl ha (vp_in_nI hk hn) hx (by rw [nI_clamp (by omega)]; exact kk)
theorem fr_aaldN {a n k t : Nat} {C : String} {f : Nat → Option Nat} (hd : decode M.2.1 pc = .ok (.aaload, 1)) (ht : fw_kd t (.object C)) (ha : w a = some (.inl (fw_c g t, n, .inr (.inr (.inr (.inr f)))))) (hk : k < n) (hn : n < 2 ^ 31) (kk : fw_R g M Post nc ns w (pc + 1) L (va_rf (f k) :: rest)) : fw_R g M Post nc ns w pc L (.int (nI k) :: .ref a :: rest) :=
  fr_aald (t := t) hd ht ha (vp_in_nI hk hn) (by rw [nI_clamp (by omega)]; exact kk)
end FA
theorem ni_le {a b : Nat} (ha : a < 2 ^ 31) (hb : b < 2 ^ 31) : nI a ≤ nI b ↔ a ≤ b := nI_leI ha hb
theorem ni_lt {a b : Nat} (ha : a < 2 ^ 31) (hb : b < 2 ^ 31) : nI a < nI b ↔ a < b := nI_ltI ha hb
theorem ni_eq {a b : Nat} (ha : a < 2 ^ 31) (hb : b < 2 ^ 31) : nI a = nI b ↔ a = b := nI_eq ha hb
theorem fw_up_at {w : fw_W} {a b : Nat} {x y : va_E} (h : w b = some y) (hne : b ≠ a) : fw_up w a x b = some y := by rw [fw_up_ne hne]; exact h
theorem fw_uc {w : fw_W} {a b : Nat} {x y z : va_E} (h : a ≠ b) : fw_up (fw_up (fw_up (fw_up w a x) b y) a z) b y = fw_up (fw_up (fw_up (fw_up w a x) a z) b y) b y := by
  funext c
  by_cases h1 : c = a
  · subst h1; rw [fw_up_ne h, fw_up_self, fw_up_ne h, fw_up_ne h, fw_up_self]
  · by_cases h2 : c = b
    · subst h2; rw [fw_up_self, fw_up_self]
    · rw [fw_up_ne h2, fw_up_ne h1, fw_up_ne h2, fw_up_ne h1, fw_up_ne h2, fw_up_ne h2, fw_up_ne h1, fw_up_ne h1]
end
section
section FJ
variable {g : fw_G} {M : fw_M} {Post : fw_O → fw_W → Prop} {nc ns : Nat} {w : fw_W} {pc : Nat} {L : List (Nat × Value)} {rest : List Value}
theorem fr_dflt {idx : Nat} (hd : decode M.2.1 pc = .ok (.getstatic idx, 3)) (hx : Cond.fieldLink M.1.cls idx "java/util/ArrayList" "DEFAULTCAPACITY_EMPTY_ELEMENTDATA" "[Ljava/lang/Object;" ∈ lw_tbl) (kk : fw_R g M Post nc ns w (pc + 3) L (.ref (fw_df g) :: rest)) : fw_R g M Post nc ns w pc L rest := by
  intro hg s m args below meth c H locs cells slots ls cx hB hH hS e1 e2 hl T hT X
  have hz : s.heap.size ≤ H.size := by rw [← hT]; exact X.same.2.1
  exact va_gets (A := fw_A g) hg.1 cx.2.2.2.2.1 ((va_Z.moved cx.1.alike hg.2.2.2.2.2.2.2.2.1).kept (fun a h1 h2 => hB.2.1 a h1 h2)) (fw_Sb hB hS hz) cx.own (fw_word hg cx.1 hx rfl) (fun x h => h) hd (kk hg s m args below meth c H locs cells slots ls cx hB hH hS e1 e2 hl) T hT X
theorem fr_alenD (hd : decode M.2.1 pc = .ok (.arraylength, 1)) (kk : fw_R g M Post nc ns w (pc + 1) L (.int 0 :: rest)) : fw_R g M Post nc ns w pc L (.ref (fw_df g) :: rest) := by
  intro hg s m args below meth c H locs cells slots ls cx hB hH hS e1 e2 hl T hT X
  have hz : s.heap.size ≤ H.size := by rw [← hT]; exact X.same.2.1
  exact va_tlen (A := fw_A g) hg.1 cx.2.2.2.2.1 ((va_T.moved cx.1.alike hg.2.2.2.2.2.2.2.2.2.1).kept (fun a h1 h2 => hB.2.1 a h1 h2)) (fw_Sb hB hS hz) rfl hd (kk hg s m args below meth c H locs cells slots ls cx hB hH hS e1 e2 hl) T hT X
theorem fr_ldcM {idx : Nat} (hd : decode M.2.1 pc = .ok (.ldc idx, 2)) (hx : Cond.classLink M.1.cls idx "[Ljava/lang/Object;" ∈ lw_tbl) (kk : fw_R g M Post nc ns w (pc + 2) L (.ref (fw_mi g) :: rest)) : fw_R g M Post nc ns w pc L rest := by
  intro hg s m args below meth c H locs cells slots ls cx hB hH hS e1 e2 hl
  exact va_ldcM hg.1 cx.2.2.2.2.1 cx.own (fw_word hg cx.1 hx rfl) (va_Mi.moved cx.1.alike hg.2.2.2.2.2.2.2.2.2.2) hd (kk hg s m args below meth c H locs cells slots ls cx hB hH hS e1 e2 hl)
theorem fr_getC {idx a n : Nat} {f : Nat → Option Nat} (hd : decode M.2.1 pc = .ok (.invokevirtual idx, 3)) (hx : Cond.methodLink M.1.cls idx ⟨"java/lang/Object", "getClass", "()Ljava/lang/Class;"⟩ ∈ lw_tbl) (h1 : Cond.declares ⟨"java/lang/Object", "getClass", "()Ljava/lang/Class;"⟩ ∈ lw_tbl) (h2 : Cond.selects "[Ljava/lang/Object;" ⟨"java/lang/Object", "getClass", "()Ljava/lang/Class;"⟩ ⟨"java/lang/Object", "getClass", "()Ljava/lang/Class;"⟩ ∈ lw_tbl) (h3 : Cond.instanceMethod ⟨"java/lang/Object", "getClass", "()Ljava/lang/Class;"⟩ ∈ lw_tbl) (h4 : Cond.native ⟨"java/lang/Object", "getClass", "()Ljava/lang/Class;"⟩ ∈ lw_tbl)
    (ha : w a = some (.inl (fw_c g 4, n, .inr (.inr (.inr (.inr f)))))) (hfr : 1 ≤ M.2.2.2.2.1.frames) (hlo : (rest.map fun v => v.category).sum + 14 ≤ M.2.2.2.2.1.locals) (kk : fw_R g M Post nc ns w (pc + 3) L (.ref (fw_mi g) :: rest)) : fw_R g M Post nc ns w pc L (.ref a :: rest) := by
  intro hg s m args below meth c H locs cells slots ls cx hB hH hS e1 e2 hl
  have kk := kk hg s m args below meth c H locs cells slots ls cx hB hH hS e1 e2 hl
  obtain ⟨ws, hP, hD, hw⟩ := hH
  obtain ⟨q0, he⟩ := hw.at ha
  have hRA := ((cx.K hg).2 4 _ (fw_tys hg (t := 4) rfl)).2
  obtain ⟨kA, comp, -, -, -, hfc⟩ := hRA
  have hcell : H[a]? = some (vp_cell (fw_c g 4) (n, .inr (.inr (.inr (.inr f))))) := hP q0 _ he
  exact va_getC hg.1 cx.2.2.2.2.1 (cx.2.2.2.2.2.1.trans hl.1.symm) cx.own (fw_word hg cx.1 hx rfl) (fw_wordK hg cx.1 h1 rfl) (fw_word hg cx.1 h2 rfl) (fw_word hg cx.1 h3 rfl) (fw_word hg cx.1 h4 rfl) (va_Mi.moved cx.1.alike hg.2.2.2.2.2.2.2.2.2.2) ⟨_, hcell, rfl, hfc⟩ hfr hlo hd kk
theorem fr_copy {idx a a0 n0 n1 sp dp k : Nat} {f f1 f2 : Nat → Option Nat} (hd : decode M.2.1 pc = .ok (.invokestatic idx, 3)) (hx : Cond.methodLink M.1.cls idx arraycopyName ∈ lw_tbl) (h1 : Cond.native arraycopyName ∈ lw_tbl) (h2 : Cond.static arraycopyName ∈ lw_tbl) (h3 : Cond.initialized "java/lang/System" ∈ lw_tbl) (h4 : Cond.castable "FolderRights$Entry" "java/lang/Object" ∈ lw_tbl)
    (ha0 : w a0 = some (.inl (fw_c g 4, n0, .inr (.inr (.inr (.inr f)))))) (ha1 : w a = some (.inl (fw_c g 4, n1, .inr (.inr (.inr (.inr f1)))))) (hb0 : n0 < 2 ^ 31) (hb1 : n1 < 2 ^ 31) (hs : sp + k ≤ n0) (hdp : dp + k ≤ n1) (hel : ∀ i, i < k → ∀ y, f (sp + i) = some y → ∃ fs, w y = some (.inr (3, fs))) (hf2 : va_cpy f f1 sp dp k = f2)
    (hfr : 1 ≤ M.2.2.2.2.1.frames) (hlo : (rest.map fun v => v.category).sum + (nativeFrameWords "java/lang/System" "arraycopy" 5 + 11) ≤ M.2.2.2.2.1.locals) (kk : fw_R g M Post nc ns (fw_up w a (.inl (fw_c g 4, n1, .inr (.inr (.inr (.inr f2)))))) (pc + 3) L rest) :
    fw_R g M Post nc ns w pc L (.int (nI k) :: .int (nI dp) :: .ref a :: .int (nI sp) :: .ref a0 :: rest) := by
  intro hg s m args below meth c H locs cells slots ls cx hB hH hS e1 e2 hl
  obtain ⟨ws, hP, hD, hw⟩ := hH
  obtain ⟨q0, he0⟩ := hw.at ha0
  obtain ⟨q1, he1⟩ := hw.at ha1
  have c1 : (nI sp).toNatClampNeg = sp := nI_clamp (by omega)
  have c2 : (nI dp).toNatClampNeg = dp := nI_clamp (by omega)
  have c3 : (nI k).toNatClampNeg = k := nI_clamp (by omega)
  refine va_copyq (C := "FolderRights$Entry") hg.1 cx.2.2.2.2.1 (cx.2.2.2.2.2.1.trans hl.1.symm) cx.own (fw_word hg cx.1 hx rfl) (fw_word hg cx.1 h1 rfl) (fw_word hg cx.1 h2 rfl) (fw_word hg cx.1 h3 rfl) (cx.K hg) hP hD hS q0 q1 4 4 he0 he1 (fw_tys hg (t := 4) rfl) (fw_tys hg (t := 4) rfl) (nI_pos (by omega)) (nI_pos (by omega)) (nI_pos (by omega)) (by rw [c1, c3]; exact hs) (by rw [c2, c3]; exact hdp) ?_ (vb_asgC (fw_wordC hg cx.1 h4)) hfr hlo hd (fun H1 locs1 hP1 hD1 hS1 => ?_)
  · intro i hi y hy
    rw [c3] at hi
    rw [c1] at hy
    obtain ⟨fs, hfs⟩ := hel i hi y hy
    obtain ⟨qy, hqy⟩ := hw.at hfs
    exact va_recv (cx.K hg) hP (ci := 3) rfl hqy
  · rw [c1, c2, c3, hf2] at hP1 hD1
    exact kk hg s m args below meth c H1 locs1 cells slots ls cx hB ⟨_, hP1, hD1, hw.set hD he1⟩ hS1 e1 e2 hl
end FJ
end
section
def cl_rt (h : Nat → Nat → Bool) (a b : Nat) : Prop := ∀ P : Nat → Prop, P a → (∀ x y, P x → h x y = true → P y) → P b
def cl_tc (h : Nat → Nat → Bool) (a b : Nat) : Prop := ∃ c, h a c = true ∧ cl_rt h c b
section CL
variable {h : Nat → Nat → Bool} {a b c : Nat}
theorem cl_rt_refl : cl_rt h a a := fun _ h0 _ => h0
theorem cl_rt_step (h1 : cl_rt h a b) (h2 : h b c = true) : cl_rt h a c := fun P h0 hs => hs b c (h1 P h0 hs) h2
theorem cl_rt_trans (h1 : cl_rt h a b) (h2 : cl_rt h b c) : cl_rt h a c := h2 (fun x => cl_rt h a x) h1 (fun _ _ hx hxy => cl_rt_step hx hxy)
theorem cl_tc_one (e : h a b = true) : cl_tc h a b := ⟨b, e, cl_rt_refl⟩
theorem cl_tc_trans (h1 : cl_tc h a b) (h2 : cl_tc h b c) : cl_tc h a c := by
  obtain ⟨x, hx, r1⟩ := h1
  obtain ⟨y, hy, r2⟩ := h2
  exact ⟨x, hx, cl_rt_trans (cl_rt_step r1 hy) r2⟩
theorem cl_rt_iff : cl_rt h a b ↔ a = b ∨ cl_tc h a b := by
  constructor
  · intro r
    refine r (fun x => a = x ∨ cl_tc h a x) (Or.inl rfl) ?_
    rintro x y (rfl | hx) hxy
    · exact Or.inr (cl_tc_one hxy)
    · exact Or.inr (cl_tc_trans hx (cl_tc_one hxy))
  · rintro (rfl | ⟨c, hc, r⟩)
    · exact cl_rt_refl
    · exact cl_rt_trans (cl_rt_step cl_rt_refl hc) r
theorem cl_war {W W2 : Nat → Nat → Bool} {t : Nat} (hI : ∀ i, i < t → ∀ a b, W a i = true → W i b = true → W a b = true) (h2 : ∀ a b, W2 a b = (W a b || (W a t && W t b))) :
    ∀ i, i < t + 1 → ∀ a b, W2 a i = true → W2 i b = true → W2 a b = true := by
  intro i hi a b h1 h3
  rw [h2, Bool.or_eq_true, Bool.and_eq_true] at h1 h3 ⊢
  by_cases e : i = t
  · subst e
    have u1 : W a i = true := by rcases h1 with u | ⟨u, -⟩ <;> exact u
    have u2 : W i b = true := by rcases h3 with u | ⟨-, u⟩ <;> exact u
    exact Or.inr ⟨u1, u2⟩
  · have hlt : i < t := by omega
    rcases h1 with u | ⟨u, v⟩
    · rcases h3 with x | ⟨x, y⟩
      · exact Or.inl (hI i hlt a b u x)
      · exact Or.inr ⟨hI i hlt a t u x, y⟩
    · rcases h3 with x | ⟨x, y⟩
      · exact Or.inr ⟨u, hI i hlt t b v x⟩
      · exact Or.inr ⟨u, y⟩
theorem cl_end {W : Nat → Nat → Bool} {n : Nat} (hin : ∀ a b, h a b = true → W a b = true) (hso : ∀ a b, W a b = true → cl_tc h a b) (htr : ∀ i, i < n → ∀ a b, W a i = true → W i b = true → W a b = true) (hb : ∀ a b, h a b = true → a < n ∧ b < n) :
    W a b = true ↔ cl_tc h a b := by
  constructor
  · exact hso a b
  · rintro ⟨c, hc, r⟩
    exact r (fun x => W a x = true) (hin a c hc) (fun x y hx hxy => htr x (hb x y hxy).1 a y hx (hin x y hxy))
theorem cl_fix {F : Nat → Bool} (h0 : F a = true) (hc : ∀ x y, F x = true → h x y = true → F y = true) (hs : ∀ x, F x = true → cl_rt h a x) : F b = true ↔ cl_rt h a b :=
  ⟨hs b, fun r => r (fun x => F x = true) h0 hc⟩
end CL
end
section
theorem ts_nf {x : Bool} (h : ¬ x = false) : x = true := by cases x <;> first | rfl | exact absurd rfl h
theorem ts_bit {w : Int64} {s : UInt64} {j : Nat} (hj : j < 64) (hs : s.toNat = j) : ((w.toUInt64 >>> s).toInt64 &&& 1) = 0 ↔ w.toBitVec.getLsbD j = false := by
  have e : (w.toUInt64 >>> s).toInt64.toBitVec = w.toBitVec >>> j := by
    apply BitVec.eq_of_toNat_eq
    show (w.toUInt64 >>> s).toNat = _
    rw [UInt64.toNat_shiftRight, hs, Nat.mod_eq_of_lt hj, BitVec.toNat_ushiftRight]
    rfl
  rw [← Int64.toBitVec_inj, Int64.toBitVec_and, e]
  show w.toBitVec >>> j &&& 1#64 = 0#64 ↔ _
  constructor
  · intro h
    have t := congrArg (fun x => x.getLsbD 0) h
    simpa using t
  · intro h
    apply BitVec.eq_of_getLsbD_eq
    intro i hi
    cases i with
    | zero => simp [h]
    | succ i => simp
theorem wb_tb (n : Nat) : (lN n).toBitVec = BitVec.ofNat 64 n := rfl
theorem wb_inj {a b : Int64} (h : a.toBitVec = b.toBitVec) : a = b := Int64.toBitVec_inj.mp h
theorem wb_tn {n : Nat} (h : n < 2 ^ 64) : (lN n).toBitVec.toNat = n := by rw [wb_tb, BitVec.toNat_ofNat, Nat.mod_eq_of_lt h]
theorem wb_of (x : Int64) : ∃ n, n < 2 ^ 64 ∧ x = lN n := ⟨x.toBitVec.toNat, x.toBitVec.isLt, wb_inj (by rw [wb_tb]; simp)⟩
theorem wb_c : ∀ k, k < 64 → ((nI k).toInt64 &&& 63) = lN k := by decide +kernel
theorem wb_cu : ∀ k, k < 64 → ((nI k).toInt64.toUInt64 &&& Int64.toUInt64 63) = UInt64.ofNat k := by decide +kernel
theorem wb_sm : ∀ k, k < 64 → (BitVec.ofNat 64 k).smod 64 = BitVec.ofNat 64 k := by decide +kernel
theorem wb_shl (n : Nat) {k : Nat} (hk : k < 64) : lN n <<< ((nI k).toInt64 &&& 63) = lN (n * 2 ^ k) := by
  rw [wb_c k hk]
  apply wb_inj
  rw [Int64.toBitVec_shiftLeft, wb_tb, wb_tb, wb_tb, wb_sm k hk]
  apply BitVec.eq_of_toNat_eq
  rw [BitVec.shiftLeft_eq', BitVec.toNat_shiftLeft, BitVec.toNat_ofNat, BitVec.toNat_ofNat, BitVec.toNat_ofNat, Nat.mod_eq_of_lt (show k < 2 ^ 64 by omega), Nat.shiftLeft_eq, Nat.mul_mod, Nat.mod_mod, ← Nat.mul_mod]
def bb (x : Int64) (i : Nat) : Bool := x.toBitVec.getLsbD i
theorem bb_or (x y : Int64) (i : Nat) : bb (x ||| y) i = (bb x i || bb y i) := by unfold bb; rw [Int64.toBitVec_or, BitVec.getLsbD_or]
theorem bb_and (x y : Int64) (i : Nat) : bb (x &&& y) i = (bb x i && bb y i) := by unfold bb; rw [Int64.toBitVec_and, BitVec.getLsbD_and]
theorem bb_xor (x y : Int64) (i : Nat) : bb (x ^^^ y) i = (bb x i ^^ bb y i) := by unfold bb; rw [Int64.toBitVec_xor, BitVec.getLsbD_xor]
theorem bb_0 (i : Nat) : bb 0 i = false := by unfold bb; show (0#64).getLsbD i = false; simp
theorem bb_big {x : Int64} {i : Nat} (h : 64 ≤ i) : bb x i = false := by unfold bb; exact BitVec.getLsbD_of_ge _ _ h
theorem bb_m1 {i : Nat} (h : i < 64) : bb (-1) i = true := by
  unfold bb
  rw [show (-1 : Int64).toBitVec = BitVec.allOnes 64 from by decide, BitVec.getLsbD_allOnes]
  exact decide_eq_true h
theorem bb_not {x : Int64} {i : Nat} (h : i < 64) : bb (x ^^^ (-1)) i = !bb x i := by rw [bb_xor, bb_m1 h]; cases bb x i <;> rfl
theorem bb_ext {x y : Int64} (h : ∀ i, i < 64 → bb x i = bb y i) : x = y := by
  apply wb_inj
  apply BitVec.eq_of_getLsbD_eq
  intro i hi
  exact h i hi
theorem bb_N (n i : Nat) (hi : i < 64) : bb (lN n) i = n.testBit i := by
  unfold bb
  rw [wb_tb, BitVec.getLsbD_ofNat]
  simp [hi]
theorem bb_shl {k i : Nat} (hk : k < 64) (hi : i < 64) : bb ((1 : Int64) <<< ((nI k).toInt64 &&& 63)) i = decide (i = k) := by
  have h := wb_shl 1 hk
  rw [show lN 1 = (1 : Int64) from rfl, Nat.one_mul] at h
  rw [h, bb_N _ _ hi, Nat.testBit_two_pow]
  by_cases e : k = i
  · subst e; simp
  · have e2 : ¬ i = k := fun q => e q.symm
    simp [e, e2]
theorem bb_cmp (z : Int64) : lg_cmp z 0 = 0 ↔ z = 0 := by
  unfold lg_cmp
  by_cases h1 : z > 0
  · rw [if_pos h1]
    constructor
    · intro h; cases h
    · intro h; subst h; exact absurd h1 (by decide)
  · rw [if_neg h1]
    by_cases h2 : z = 0
    · rw [if_pos h2]; simp [h2]
    · rw [if_neg h2]
      constructor
      · intro h; cases h
      · intro h; exact absurd h h2
theorem bb_set (x : Int64) {k : Nat} (hk : k < 64) : lg_cmp ((x.toUInt64 >>> ((nI k).toInt64.toUInt64 &&& Int64.toUInt64 63)).toInt64 &&& 1) 0 = 0 ↔ bb x k = false := by
  rw [bb_cmp, wb_cu k hk]
  exact ts_bit hk (by show (BitVec.ofNat 64 k).toNat = k; rw [BitVec.toNat_ofNat, Nat.mod_eq_of_lt (by omega)])
theorem bb_i2l {b r : Nat} (hb : b < 2 ^ 31) (hr : r < 64) : bb ((nI b).toInt64) r = b.testBit r := by rw [nI_l hb, bb_N _ _ hr]
end
section
abbrev m_FR_isSet : fw_M := (⟨"FolderRights", "isSet", "(JI)Z"⟩, prog_1_method_42_code, 3, (some .boolean), { frames := 0, cells := 0, slots := 0, locals := 0 }, [])
theorem d_FR_isSet_0 : decode m_FR_isSet.2.1 0 = .ok (.lload_n 0, 1) := by decide +kernel
theorem d_FR_isSet_1 : decode m_FR_isSet.2.1 1 = .ok (.iload_n 2, 1) := by decide +kernel
theorem d_FR_isSet_2 : decode m_FR_isSet.2.1 2 = .ok (.lushr, 1) := by decide +kernel
theorem d_FR_isSet_3 : decode m_FR_isSet.2.1 3 = .ok (.lconst 1, 1) := by decide +kernel
theorem d_FR_isSet_4 : decode m_FR_isSet.2.1 4 = .ok (.land, 1) := by decide +kernel
theorem d_FR_isSet_5 : decode m_FR_isSet.2.1 5 = .ok (.lconst 0, 1) := by decide +kernel
theorem d_FR_isSet_6 : decode m_FR_isSet.2.1 6 = .ok (.lcmp, 1) := by decide +kernel
theorem d_FR_isSet_7 : decode m_FR_isSet.2.1 7 = .ok (.ifCond .eq 7, 3) := by decide +kernel
theorem d_FR_isSet_10 : decode m_FR_isSet.2.1 10 = .ok (.iconst 1, 1) := by decide +kernel
theorem d_FR_isSet_11 : decode m_FR_isSet.2.1 11 = .ok (.goto 4, 3) := by decide +kernel
theorem d_FR_isSet_14 : decode m_FR_isSet.2.1 14 = .ok (.iconst 0, 1) := by decide +kernel
theorem d_FR_isSet_15 : decode m_FR_isSet.2.1 15 = .ok (.ireturn, 1) := by decide +kernel
theorem k_FR_isSet : fw_cal m_FR_isSet := ⟨by decide +kernel, by decide +kernel, (fw_t 1 (by decide +kernel)), Or.inl ⟨rfl, fw_t 264 (by decide +kernel)⟩⟩
abbrev m_ND_depth : fw_M := (⟨"FolderRights$Node", "depth", "()I"⟩, prog_4_method_3_code, 3, (some .int), { frames := 0, cells := 0, slots := 0, locals := 0 }, [])
theorem d_ND_depth_0 : decode m_ND_depth.2.1 0 = .ok (.iconst 0, 1) := by decide +kernel
theorem d_ND_depth_1 : decode m_ND_depth.2.1 1 = .ok (.istore_n 1, 1) := by decide +kernel
theorem d_ND_depth_2 : decode m_ND_depth.2.1 2 = .ok (.aload_n 0, 1) := by decide +kernel
theorem d_ND_depth_3 : decode m_ND_depth.2.1 3 = .ok (.getfield 13, 3) := by decide +kernel
theorem d_ND_depth_6 : decode m_ND_depth.2.1 6 = .ok (.astore_n 2, 1) := by decide +kernel
theorem d_ND_depth_7 : decode m_ND_depth.2.1 7 = .ok (.aload_n 2, 1) := by decide +kernel
theorem d_ND_depth_8 : decode m_ND_depth.2.1 8 = .ok (.ifnull 14, 3) := by decide +kernel
theorem d_ND_depth_11 : decode m_ND_depth.2.1 11 = .ok (.iinc 1 1, 3) := by decide +kernel
theorem d_ND_depth_14 : decode m_ND_depth.2.1 14 = .ok (.aload_n 2, 1) := by decide +kernel
theorem d_ND_depth_15 : decode m_ND_depth.2.1 15 = .ok (.getfield 13, 3) := by decide +kernel
theorem d_ND_depth_18 : decode m_ND_depth.2.1 18 = .ok (.astore_n 2, 1) := by decide +kernel
theorem d_ND_depth_19 : decode m_ND_depth.2.1 19 = .ok (.goto (-12), 3) := by decide +kernel
theorem d_ND_depth_22 : decode m_ND_depth.2.1 22 = .ok (.iload_n 1, 1) := by decide +kernel
theorem d_ND_depth_23 : decode m_ND_depth.2.1 23 = .ok (.ireturn, 1) := by decide +kernel
theorem k_ND_depth : fw_cal m_ND_depth := ⟨by decide +kernel, by decide +kernel, (fw_t 3 (by decide +kernel)), Or.inl ⟨rfl, fw_t 329 (by decide +kernel)⟩⟩
abbrev m_ND_nextLevel : fw_M := (⟨"FolderRights$Node", "nextLevel", "()LFolderRights$Node;"⟩, prog_4_method_2_code, 1, (some (.object "FolderRights$Node")), { frames := 0, cells := 0, slots := 0, locals := 0 }, [])
theorem d_ND_nextLevel_0 : decode m_ND_nextLevel.2.1 0 = .ok (.aload_n 0, 1) := by decide +kernel
theorem d_ND_nextLevel_1 : decode m_ND_nextLevel.2.1 1 = .ok (.getfield 34, 3) := by decide +kernel
theorem d_ND_nextLevel_4 : decode m_ND_nextLevel.2.1 4 = .ok (.ifCond .eq 7, 3) := by decide +kernel
theorem d_ND_nextLevel_7 : decode m_ND_nextLevel.2.1 7 = .ok (.aconst_null, 1) := by decide +kernel
theorem d_ND_nextLevel_8 : decode m_ND_nextLevel.2.1 8 = .ok (.goto 7, 3) := by decide +kernel
theorem d_ND_nextLevel_11 : decode m_ND_nextLevel.2.1 11 = .ok (.aload_n 0, 1) := by decide +kernel
theorem d_ND_nextLevel_12 : decode m_ND_nextLevel.2.1 12 = .ok (.getfield 13, 3) := by decide +kernel
theorem d_ND_nextLevel_15 : decode m_ND_nextLevel.2.1 15 = .ok (.areturn, 1) := by decide +kernel
theorem k_ND_nextLevel : fw_cal m_ND_nextLevel := ⟨by decide +kernel, by decide +kernel, (fw_t 3 (by decide +kernel)), Or.inl ⟨rfl, fw_t 542 (by decide +kernel)⟩⟩
abbrev m_ND_liesWithin : fw_M := (⟨"FolderRights$Node", "liesWithin", "(LFolderRights$Node;)Z"⟩, prog_4_method_4_code, 3, (some .boolean), { frames := 0, cells := 0, slots := 0, locals := 0 }, [])
theorem d_ND_liesWithin_0 : decode m_ND_liesWithin.2.1 0 = .ok (.aload_n 0, 1) := by decide +kernel
theorem d_ND_liesWithin_1 : decode m_ND_liesWithin.2.1 1 = .ok (.astore_n 2, 1) := by decide +kernel
theorem d_ND_liesWithin_2 : decode m_ND_liesWithin.2.1 2 = .ok (.aload_n 2, 1) := by decide +kernel
theorem d_ND_liesWithin_3 : decode m_ND_liesWithin.2.1 3 = .ok (.ifnull 18, 3) := by decide +kernel
theorem d_ND_liesWithin_6 : decode m_ND_liesWithin.2.1 6 = .ok (.aload_n 2, 1) := by decide +kernel
theorem d_ND_liesWithin_7 : decode m_ND_liesWithin.2.1 7 = .ok (.aload_n 1, 1) := by decide +kernel
theorem d_ND_liesWithin_8 : decode m_ND_liesWithin.2.1 8 = .ok (.if_acmp .ne 5, 3) := by decide +kernel
theorem d_ND_liesWithin_11 : decode m_ND_liesWithin.2.1 11 = .ok (.iconst 1, 1) := by decide +kernel
theorem d_ND_liesWithin_12 : decode m_ND_liesWithin.2.1 12 = .ok (.ireturn, 1) := by decide +kernel
theorem d_ND_liesWithin_13 : decode m_ND_liesWithin.2.1 13 = .ok (.aload_n 2, 1) := by decide +kernel
theorem d_ND_liesWithin_14 : decode m_ND_liesWithin.2.1 14 = .ok (.getfield 13, 3) := by decide +kernel
theorem d_ND_liesWithin_17 : decode m_ND_liesWithin.2.1 17 = .ok (.astore_n 2, 1) := by decide +kernel
theorem d_ND_liesWithin_18 : decode m_ND_liesWithin.2.1 18 = .ok (.goto (-16), 3) := by decide +kernel
theorem d_ND_liesWithin_21 : decode m_ND_liesWithin.2.1 21 = .ok (.iconst 0, 1) := by decide +kernel
theorem d_ND_liesWithin_22 : decode m_ND_liesWithin.2.1 22 = .ok (.ireturn, 1) := by decide +kernel
theorem k_ND_liesWithin : fw_cal m_ND_liesWithin := ⟨by decide +kernel, by decide +kernel, (fw_t 3 (by decide +kernel)), Or.inl ⟨rfl, fw_t 345 (by decide +kernel)⟩⟩
abbrev m_EN_gives : fw_M := (⟨"FolderRights$Entry", "gives", "(I)Z"⟩, prog_2_method_2_code, 2, (some .boolean), { frames := 1, cells := 0, slots := 0, locals := 22 }, [])
theorem d_EN_gives_0 : decode m_EN_gives.2.1 0 = .ok (.aload_n 0, 1) := by decide +kernel
theorem d_EN_gives_1 : decode m_EN_gives.2.1 1 = .ok (.getfield 22, 3) := by decide +kernel
theorem d_EN_gives_4 : decode m_EN_gives.2.1 4 = .ok (.i2l, 1) := by decide +kernel
theorem d_EN_gives_5 : decode m_EN_gives.2.1 5 = .ok (.iload_n 1, 1) := by decide +kernel
theorem d_EN_gives_6 : decode m_EN_gives.2.1 6 = .ok (.invokestatic 28, 3) := by decide +kernel
theorem d_EN_gives_9 : decode m_EN_gives.2.1 9 = .ok (.ireturn, 1) := by decide +kernel
theorem k_EN_gives : fw_cal m_EN_gives := ⟨by decide +kernel, by decide +kernel, (fw_t 15 (by decide +kernel)), Or.inl ⟨rfl, fw_t 528 (by decide +kernel)⟩⟩
abbrev m_EN_reaches : fw_M := (⟨"FolderRights$Entry", "reaches", "(LFolderRights$Node;LFolderRights$Node;)Z"⟩, prog_2_method_3_code, 4, (some .boolean), { frames := 0, cells := 0, slots := 0, locals := 0 }, [])
theorem d_EN_reaches_0 : decode m_EN_reaches.2.1 0 = .ok (.aload_n 2, 1) := by decide +kernel
theorem d_EN_reaches_1 : decode m_EN_reaches.2.1 1 = .ok (.aload_n 1, 1) := by decide +kernel
theorem d_EN_reaches_2 : decode m_EN_reaches.2.1 2 = .ok (.if_acmp .ne 18, 3) := by decide +kernel
theorem d_EN_reaches_5 : decode m_EN_reaches.2.1 5 = .ok (.aload_n 0, 1) := by decide +kernel
theorem d_EN_reaches_6 : decode m_EN_reaches.2.1 6 = .ok (.getfield 25, 3) := by decide +kernel
theorem d_EN_reaches_9 : decode m_EN_reaches.2.1 9 = .ok (.iconst 1, 1) := by decide +kernel
theorem d_EN_reaches_10 : decode m_EN_reaches.2.1 10 = .ok (.iand, 1) := by decide +kernel
theorem d_EN_reaches_11 : decode m_EN_reaches.2.1 11 = .ok (.ifCond .eq 7, 3) := by decide +kernel
theorem d_EN_reaches_14 : decode m_EN_reaches.2.1 14 = .ok (.iconst 1, 1) := by decide +kernel
theorem d_EN_reaches_15 : decode m_EN_reaches.2.1 15 = .ok (.goto 4, 3) := by decide +kernel
theorem d_EN_reaches_18 : decode m_EN_reaches.2.1 18 = .ok (.iconst 0, 1) := by decide +kernel
theorem d_EN_reaches_19 : decode m_EN_reaches.2.1 19 = .ok (.ireturn, 1) := by decide +kernel
theorem d_EN_reaches_20 : decode m_EN_reaches.2.1 20 = .ok (.aload_n 2, 1) := by decide +kernel
theorem d_EN_reaches_21 : decode m_EN_reaches.2.1 21 = .ok (.getfield 32, 3) := by decide +kernel
theorem d_EN_reaches_24 : decode m_EN_reaches.2.1 24 = .ok (.ifCond .eq 7, 3) := by decide +kernel
theorem d_EN_reaches_27 : decode m_EN_reaches.2.1 27 = .ok (.iconst 2, 1) := by decide +kernel
theorem d_EN_reaches_28 : decode m_EN_reaches.2.1 28 = .ok (.goto 4, 3) := by decide +kernel
theorem d_EN_reaches_31 : decode m_EN_reaches.2.1 31 = .ok (.iconst 4, 1) := by decide +kernel
theorem d_EN_reaches_32 : decode m_EN_reaches.2.1 32 = .ok (.istore_n 3, 1) := by decide +kernel
theorem d_EN_reaches_33 : decode m_EN_reaches.2.1 33 = .ok (.aload_n 0, 1) := by decide +kernel
theorem d_EN_reaches_34 : decode m_EN_reaches.2.1 34 = .ok (.getfield 25, 3) := by decide +kernel
theorem d_EN_reaches_37 : decode m_EN_reaches.2.1 37 = .ok (.iload_n 3, 1) := by decide +kernel
theorem d_EN_reaches_38 : decode m_EN_reaches.2.1 38 = .ok (.iand, 1) := by decide +kernel
theorem d_EN_reaches_39 : decode m_EN_reaches.2.1 39 = .ok (.ifCond .eq 25, 3) := by decide +kernel
theorem d_EN_reaches_42 : decode m_EN_reaches.2.1 42 = .ok (.aload_n 0, 1) := by decide +kernel
theorem d_EN_reaches_43 : decode m_EN_reaches.2.1 43 = .ok (.getfield 25, 3) := by decide +kernel
theorem d_EN_reaches_46 : decode m_EN_reaches.2.1 46 = .ok (.bipush 8, 2) := by decide +kernel
theorem d_EN_reaches_48 : decode m_EN_reaches.2.1 48 = .ok (.iand, 1) := by decide +kernel
theorem d_EN_reaches_49 : decode m_EN_reaches.2.1 49 = .ok (.ifCond .eq 11, 3) := by decide +kernel
theorem d_EN_reaches_52 : decode m_EN_reaches.2.1 52 = .ok (.aload_n 2, 1) := by decide +kernel
theorem d_EN_reaches_53 : decode m_EN_reaches.2.1 53 = .ok (.getfield 37, 3) := by decide +kernel
theorem d_EN_reaches_56 : decode m_EN_reaches.2.1 56 = .ok (.aload_n 1, 1) := by decide +kernel
theorem d_EN_reaches_57 : decode m_EN_reaches.2.1 57 = .ok (.if_acmp .ne 7, 3) := by decide +kernel
theorem d_EN_reaches_60 : decode m_EN_reaches.2.1 60 = .ok (.iconst 1, 1) := by decide +kernel
theorem d_EN_reaches_61 : decode m_EN_reaches.2.1 61 = .ok (.goto 4, 3) := by decide +kernel
theorem d_EN_reaches_64 : decode m_EN_reaches.2.1 64 = .ok (.iconst 0, 1) := by decide +kernel
theorem d_EN_reaches_65 : decode m_EN_reaches.2.1 65 = .ok (.ireturn, 1) := by decide +kernel
theorem k_EN_reaches : fw_cal m_EN_reaches := ⟨by decide +kernel, by decide +kernel, (fw_t 15 (by decide +kernel)), Or.inl ⟨rfl, fw_t 533 (by decide +kernel)⟩⟩
abbrev m_EN_init : fw_M := (⟨"FolderRights$Entry", "<init>", "(ZIZII)V"⟩, prog_2_method_1_code, 6, none, { frames := 1, cells := 0, slots := 0, locals := 20 }, [])
theorem d_EN_init_0 : decode m_EN_init.2.1 0 = .ok (.aload_n 0, 1) := by decide +kernel
theorem d_EN_init_1 : decode m_EN_init.2.1 1 = .ok (.invokespecial 3, 3) := by decide +kernel
theorem d_EN_init_4 : decode m_EN_init.2.1 4 = .ok (.aload_n 0, 1) := by decide +kernel
theorem d_EN_init_5 : decode m_EN_init.2.1 5 = .ok (.iload_n 1, 1) := by decide +kernel
theorem d_EN_init_6 : decode m_EN_init.2.1 6 = .ok (.putfield 9, 3) := by decide +kernel
theorem d_EN_init_9 : decode m_EN_init.2.1 9 = .ok (.aload_n 0, 1) := by decide +kernel
theorem d_EN_init_10 : decode m_EN_init.2.1 10 = .ok (.iload_n 2, 1) := by decide +kernel
theorem d_EN_init_11 : decode m_EN_init.2.1 11 = .ok (.putfield 15, 3) := by decide +kernel
theorem d_EN_init_14 : decode m_EN_init.2.1 14 = .ok (.aload_n 0, 1) := by decide +kernel
theorem d_EN_init_15 : decode m_EN_init.2.1 15 = .ok (.iload_n 3, 1) := by decide +kernel
theorem d_EN_init_16 : decode m_EN_init.2.1 16 = .ok (.putfield 19, 3) := by decide +kernel
theorem d_EN_init_19 : decode m_EN_init.2.1 19 = .ok (.aload_n 0, 1) := by decide +kernel
theorem d_EN_init_20 : decode m_EN_init.2.1 20 = .ok (.iload 4, 2) := by decide +kernel
theorem d_EN_init_22 : decode m_EN_init.2.1 22 = .ok (.putfield 22, 3) := by decide +kernel
theorem d_EN_init_25 : decode m_EN_init.2.1 25 = .ok (.aload_n 0, 1) := by decide +kernel
theorem d_EN_init_26 : decode m_EN_init.2.1 26 = .ok (.iload 5, 2) := by decide +kernel
theorem d_EN_init_28 : decode m_EN_init.2.1 28 = .ok (.putfield 25, 3) := by decide +kernel
theorem d_EN_init_31 : decode m_EN_init.2.1 31 = .ok (.return_, 1) := by decide +kernel
theorem k_EN_init : fw_cal m_EN_init := ⟨by decide +kernel, by decide +kernel, (fw_t 15 (by decide +kernel)), Or.inl ⟨rfl, fw_t 390 (by decide +kernel)⟩⟩
theorem fg_ND_13 : fw_fld "FolderRights$Node" 13 2 3 := ⟨_, _, _, "FolderRights$Node", rfl, by decide, fw_i2, Or.inl rfl, Or.inl (fw_t 95 (by decide +kernel))⟩
theorem fg_ND_34 : fw_fld "FolderRights$Node" 34 2 5 := ⟨_, _, _, "FolderRights$Node", rfl, by decide, fw_i2, Or.inl rfl, Or.inl (fw_t 100 (by decide +kernel))⟩
theorem fg_EN_22 : fw_fld "FolderRights$Entry" 22 3 3 := ⟨_, _, _, "FolderRights$Entry", rfl, by decide, fw_i3, Or.inl rfl, Or.inl (fw_t 398 (by decide +kernel))⟩
theorem lk_EN_28 : fw_lk "FolderRights$Entry" 28 ⟨"FolderRights", "isSet", "(JI)Z"⟩ := Or.inr ⟨"FolderRights", (fw_t 529 (by decide +kernel))⟩
theorem np_FR_isSet : fw_np ⟨"FolderRights", "isSet", "(JI)Z"⟩ 2 := by unfold fw_np; decide +kernel
theorem sc_FR_isSet : Cond.static ⟨"FolderRights", "isSet", "(JI)Z"⟩ ∈ lw_tbl := (fw_t 263 (by decide +kernel))
theorem fg_EN_25 : fw_fld "FolderRights$Entry" 25 3 4 := ⟨_, _, _, "FolderRights$Entry", rfl, by decide, fw_i3, Or.inl rfl, Or.inl (fw_t 399 (by decide +kernel))⟩
theorem fg_EN_32 : fw_fld "FolderRights$Entry" 32 2 1 := ⟨_, _, _, "FolderRights$Node", rfl, by decide, fw_i2, Or.inl rfl, Or.inl (fw_t 91 (by decide +kernel))⟩
theorem fg_EN_37 : fw_fld "FolderRights$Entry" 37 2 3 := ⟨_, _, _, "FolderRights$Node", rfl, by decide, fw_i2, Or.inl rfl, Or.inl (fw_t 96 (by decide +kernel))⟩
theorem fp_EN_init_9 : fw_fpt m_EN_init 9 3 0 .boolean := ⟨_, _, _, "FolderRights$Entry", rfl, by decide, fw_i3, Or.inl rfl, ⟨fw_y3, fw_k3⟩, fw_n3, by decide +kernel, Or.inr ⟨rfl, rfl, rfl, (fw_t 392 (by decide +kernel))⟩⟩
theorem fp_EN_init_15 : fw_fpt m_EN_init 15 3 1 .int := ⟨_, _, _, "FolderRights$Entry", rfl, by decide, fw_i3, Or.inl rfl, ⟨fw_y3, fw_k3⟩, fw_n3, by decide +kernel, Or.inr ⟨rfl, rfl, rfl, (fw_t 394 (by decide +kernel))⟩⟩
theorem fp_EN_init_19 : fw_fpt m_EN_init 19 3 2 .boolean := ⟨_, _, _, "FolderRights$Entry", rfl, by decide, fw_i3, Or.inl rfl, ⟨fw_y3, fw_k3⟩, fw_n3, by decide +kernel, Or.inr ⟨rfl, rfl, rfl, (fw_t 396 (by decide +kernel))⟩⟩
theorem fp_EN_init_22 : fw_fpt m_EN_init 22 3 3 .int := ⟨_, _, _, "FolderRights$Entry", rfl, by decide, fw_i3, Or.inl rfl, ⟨fw_y3, fw_k3⟩, fw_n3, by decide +kernel, Or.inr ⟨rfl, rfl, rfl, (fw_t 398 (by decide +kernel))⟩⟩
theorem fp_EN_init_25 : fw_fpt m_EN_init 25 3 4 .int := ⟨_, _, _, "FolderRights$Entry", rfl, by decide, fw_i3, Or.inl rfl, ⟨fw_y3, fw_k3⟩, fw_n3, by decide +kernel, Or.inr ⟨rfl, rfl, rfl, (fw_t 399 (by decide +kernel))⟩⟩
theorem c_FR_isSet {g : fw_G} {nc ns : Nat} {w : fw_W} {x : Int64} {k : Nat} (hk : k < 64) : fw_R g m_FR_isSet (fw_pv (.int (bI (bb x k))) w) nc ns w 0 [(0, .long x), (2, .int (nI k))] [] := by
  refine fr_lload_n (pc := 0) d_FR_isSet_0 rfl rfl ?_
  refine fr_iload_n (pc := 1) d_FR_isSet_1 rfl rfl ?_
  refine fr_lushr (pc := 2) d_FR_isSet_2 rfl ?_
  refine fr_lconst (pc := 3) (v := 1) d_FR_isSet_3 (by decide) ?_
  refine fr_land (pc := 4) d_FR_isSet_4 ?_
  refine fr_lconst (pc := 5) (v := 0) d_FR_isSet_5 (by decide) ?_
  refine fr_lcmp (pc := 6) d_FR_isSet_6 ?_
  refine fr_if_eq (pc := 7) (tgt := 14) d_FR_isSet_7 (by decide) (fun h => ?_) (fun h => ?_)
  · have hb := (bb_set x hk).mp h
    refine fr_iconst (pc := 14) (v := 0) d_FR_isSet_14 (by decide) ?_
    refine fr_st (st2 := [.int (bI (bb x k))]) (by rw [hb]; rfl) ?_
    exact fr_zret rfl (by first | exact bI_01 _ | exact Or.inl rfl | exact Or.inr rfl) d_FR_isSet_15 ⟨rfl, rfl⟩
  · have hb := ts_nf (fun q => h ((bb_set x hk).mpr q))
    refine fr_iconst (pc := 10) (v := 1) d_FR_isSet_10 (by decide) ?_
    refine fr_goto (pc := 11) (tgt := 15) d_FR_isSet_11 (by decide) ?_
    refine fr_st (st2 := [.int (bI (bb x k))]) (by rw [hb]; rfl) ?_
    exact fr_zret rfl (by first | exact bI_01 _ | exact Or.inl rfl | exact Or.inr rfl) d_FR_isSet_15 ⟨rfl, rfl⟩
def nd_cl (w : fw_W) : Nat → List Nat → Prop
  | a, [] => ∃ fs, w a = some (.inr (2, fs)) ∧ fs[3]? = some .null
  | a, p :: t => (∃ fs, w a = some (.inr (2, fs)) ∧ fs[3]? = some (.ref p)) ∧ nd_cl w p t
theorem c_ND_depth_l {g : fw_G} {nc ns : Nat} {w : fw_W} {a : Nat} : ∀ (l : List Nat) (x k : Nat), nd_cl w x l → fw_R g m_ND_depth (fw_pv (.int (nI (k + 1 + l.length))) w) nc ns w 7 [(0, .ref a), (1, .int (nI k)), (2, .ref x)] [] := by
  intro l
  induction l with
  | nil =>
    intro x k h
    obtain ⟨fs, h1, h2⟩ := h
    refine fr_aload_n (pc := 7) d_ND_depth_7 rfl rfl ?_
    refine fr_ifnull (pc := 8) d_ND_depth_8 ?_
    refine fr_iinc (pc := 11) (v := (nI (k + 1))) (L2 := [(0, .ref a), (1, .int (nI (k + 1))), (2, .ref x)]) d_ND_depth_11 rfl (fi_1 _) (by decide) rfl ?_
    refine fr_aload_n (pc := 14) d_ND_depth_14 rfl rfl ?_
    refine fr_get (pc := 15) d_ND_depth_15 fg_ND_13 h1 h2 ?_
    refine fr_astore_nN (pc := 18) (L2 := [(0, .ref a), (1, .int (nI (k + 1))), (2, .null)]) d_ND_depth_18 rfl (by decide) rfl ?_
    refine fr_goto (pc := 19) (tgt := 7) d_ND_depth_19 (by decide) ?_
    refine fr_aload_nN (pc := 7) d_ND_depth_7 rfl rfl ?_
    refine fr_ifnullN (pc := 8) (tgt := 22) d_ND_depth_8 (by decide) ?_
    refine fr_iload_n (pc := 22) d_ND_depth_22 rfl rfl ?_
    exact fr_iret rfl d_ND_depth_23 ⟨rfl, rfl⟩
  | cons p t ih =>
    intro x k h
    obtain ⟨⟨fs, h1, h2⟩, h3⟩ := h
    refine fr_aload_n (pc := 7) d_ND_depth_7 rfl rfl ?_
    refine fr_ifnull (pc := 8) d_ND_depth_8 ?_
    refine fr_iinc (pc := 11) (v := (nI (k + 1))) (L2 := [(0, .ref a), (1, .int (nI (k + 1))), (2, .ref x)]) d_ND_depth_11 rfl (fi_1 _) (by decide) rfl ?_
    refine fr_aload_n (pc := 14) d_ND_depth_14 rfl rfl ?_
    refine fr_get (pc := 15) d_ND_depth_15 fg_ND_13 h1 h2 ?_
    refine fr_astore_n (pc := 18) (L2 := [(0, .ref a), (1, .int (nI (k + 1))), (2, .ref p)]) d_ND_depth_18 rfl (by decide) rfl ?_
    refine fr_goto (pc := 19) (tgt := 7) d_ND_depth_19 (by decide) ?_
    rw [show k + 1 + (p :: t).length = (k + 1) + 1 + t.length by rw [List.length_cons]; omega]
    exact ih p (k + 1) h3
theorem c_ND_depth {g : fw_G} {nc ns : Nat} {w : fw_W} {a : Nat} {l : List Nat} (h : nd_cl w a l) : fw_R g m_ND_depth (fw_pv (.int (nI l.length)) w) nc ns w 0 [(0, .ref a)] [] := by
  cases l with
  | nil =>
    obtain ⟨fs, h1, h2⟩ := h
    refine fr_iconst (pc := 0) (v := 0) d_ND_depth_0 (by decide) ?_
    refine fr_istore_n (pc := 1) (L2 := [(0, .ref a), (1, .int 0)]) d_ND_depth_1 rfl (by decide) rfl ?_
    refine fr_aload_n (pc := 2) d_ND_depth_2 rfl rfl ?_
    refine fr_get (pc := 3) d_ND_depth_3 fg_ND_13 h1 h2 ?_
    refine fr_astore_nN (pc := 6) (L2 := [(0, .ref a), (1, .int 0), (2, .null)]) d_ND_depth_6 rfl (by decide) rfl ?_
    refine fr_aload_nN (pc := 7) d_ND_depth_7 rfl rfl ?_
    refine fr_ifnullN (pc := 8) (tgt := 22) d_ND_depth_8 (by decide) ?_
    refine fr_iload_n (pc := 22) d_ND_depth_22 rfl rfl ?_
    exact fr_iret rfl d_ND_depth_23 ⟨rfl, rfl⟩
  | cons p t =>
    obtain ⟨⟨fs, h1, h2⟩, h3⟩ := h
    refine fr_iconst (pc := 0) (v := 0) d_ND_depth_0 (by decide) ?_
    refine fr_istore_n (pc := 1) (L2 := [(0, .ref a), (1, .int 0)]) d_ND_depth_1 rfl (by decide) rfl ?_
    refine fr_aload_n (pc := 2) d_ND_depth_2 rfl rfl ?_
    refine fr_get (pc := 3) d_ND_depth_3 fg_ND_13 h1 h2 ?_
    refine fr_astore_n (pc := 6) (L2 := [(0, .ref a), (1, .int 0), (2, .ref p)]) d_ND_depth_6 rfl (by decide) rfl ?_
    rw [show (p :: t).length = 0 + 1 + t.length by rw [List.length_cons]; omega]
    exact c_ND_depth_l t p 0 h3
theorem c_ND_lies_l {g : fw_G} {nc ns : Nat} {w : fw_W} {a b : Nat} : ∀ (l : List Nat) (x : Nat), nd_cl w x l → fw_R g m_ND_liesWithin (fw_pv (.int (bI (decide (b = x ∨ b ∈ l)))) w) nc ns w 2 [(0, .ref a), (1, .ref b), (2, .ref x)] [] := by
  intro l
  induction l with
  | nil =>
    intro x h
    obtain ⟨fs, h1, h2⟩ := h
    refine fr_aload_n (pc := 2) d_ND_liesWithin_2 rfl rfl ?_
    refine fr_ifnull (pc := 3) d_ND_liesWithin_3 ?_
    refine fr_aload_n (pc := 6) d_ND_liesWithin_6 rfl rfl ?_
    refine fr_aload_n (pc := 7) d_ND_liesWithin_7 rfl rfl ?_
    refine fr_acmp_ne (pc := 8) (tgt := 13) (rx := some x) (ry := some b) d_ND_liesWithin_8 (by decide) (fun h9 => ?_) (fun h9 => ?_)
    · have hne : ¬ b = x := fun q => h9 (by rw [q])
      refine fr_aload_n (pc := 13) d_ND_liesWithin_13 rfl rfl ?_
      refine fr_get (pc := 14) d_ND_liesWithin_14 fg_ND_13 h1 h2 ?_
      refine fr_astore_nN (pc := 17) (L2 := [(0, .ref a), (1, .ref b), (2, .null)]) d_ND_liesWithin_17 rfl (by decide) rfl ?_
      refine fr_goto (pc := 18) (tgt := 2) d_ND_liesWithin_18 (by decide) ?_
      refine fr_aload_nN (pc := 2) d_ND_liesWithin_2 rfl rfl ?_
      refine fr_ifnullN (pc := 3) (tgt := 21) d_ND_liesWithin_3 (by decide) ?_
      refine fr_iconst (pc := 21) (v := 0) d_ND_liesWithin_21 (by decide) ?_
      refine fr_st (st2 := [.int (bI (decide (b = x ∨ b ∈ ([] : List Nat))))]) (by rw [decide_eq_false (by rintro (q | q); exact hne q; cases q)]; rfl) ?_
      exact fr_zret rfl (by first | exact bI_01 _ | exact Or.inl rfl | exact Or.inr rfl) d_ND_liesWithin_22 ⟨rfl, rfl⟩
    · have heq : b = x := (Option.some.inj h9).symm
      refine fr_iconst (pc := 11) (v := 1) d_ND_liesWithin_11 (by decide) ?_
      refine fr_st (st2 := [.int (bI (decide (b = x ∨ b ∈ ([] : List Nat))))]) (by rw [decide_eq_true (Or.inl heq)]; rfl) ?_
      exact fr_zret rfl (by first | exact bI_01 _ | exact Or.inl rfl | exact Or.inr rfl) d_ND_liesWithin_12 ⟨rfl, rfl⟩
  | cons p t ih =>
    intro x h
    obtain ⟨⟨fs, h1, h2⟩, h3⟩ := h
    refine fr_aload_n (pc := 2) d_ND_liesWithin_2 rfl rfl ?_
    refine fr_ifnull (pc := 3) d_ND_liesWithin_3 ?_
    refine fr_aload_n (pc := 6) d_ND_liesWithin_6 rfl rfl ?_
    refine fr_aload_n (pc := 7) d_ND_liesWithin_7 rfl rfl ?_
    refine fr_acmp_ne (pc := 8) (tgt := 13) (rx := some x) (ry := some b) d_ND_liesWithin_8 (by decide) (fun h9 => ?_) (fun h9 => ?_)
    · have hne : ¬ b = x := fun q => h9 (by rw [q])
      refine fr_aload_n (pc := 13) d_ND_liesWithin_13 rfl rfl ?_
      refine fr_get (pc := 14) d_ND_liesWithin_14 fg_ND_13 h1 h2 ?_
      refine fr_astore_n (pc := 17) (L2 := [(0, .ref a), (1, .ref b), (2, .ref p)]) d_ND_liesWithin_17 rfl (by decide) rfl ?_
      refine fr_goto (pc := 18) (tgt := 2) d_ND_liesWithin_18 (by decide) ?_
      rw [show decide (b = x ∨ b ∈ p :: t) = decide (b = p ∨ b ∈ t) by rw [decide_eq_decide, List.mem_cons]; simp [hne]]
      exact ih p h3
    · have heq : b = x := (Option.some.inj h9).symm
      refine fr_iconst (pc := 11) (v := 1) d_ND_liesWithin_11 (by decide) ?_
      refine fr_st (st2 := [.int (bI (decide (b = x ∨ b ∈ (p :: t))))]) (by rw [decide_eq_true (Or.inl heq)]; rfl) ?_
      exact fr_zret rfl (by first | exact bI_01 _ | exact Or.inl rfl | exact Or.inr rfl) d_ND_liesWithin_12 ⟨rfl, rfl⟩
theorem c_ND_lies {g : fw_G} {nc ns : Nat} {w : fw_W} {a b : Nat} {l : List Nat} (h : nd_cl w a l) : fw_R g m_ND_liesWithin (fw_pv (.int (bI (decide (b = a ∨ b ∈ l)))) w) nc ns w 0 [(0, .ref a), (1, .ref b)] [] := by
  refine fr_aload_n (pc := 0) d_ND_liesWithin_0 rfl rfl ?_
  refine fr_astore_n (pc := 1) (L2 := [(0, .ref a), (1, .ref b), (2, .ref a)]) d_ND_liesWithin_1 rfl (by decide) rfl ?_
  exact c_ND_lies_l l a h
theorem c_ND_next {g : fw_G} {nc ns : Nat} {w : fw_W} {a : Nat} {fs : List Value} {bl : Bool} {pr : Option Nat} (h1 : w a = some (.inr (2, fs))) (h2 : fs[5]? = some (.int (bI bl))) (h3 : fs[3]? = some (va_rf pr)) : fw_R g m_ND_nextLevel (fw_pv (va_rf (if bl then none else pr)) w) nc ns w 0 [(0, .ref a)] [] := by
  refine fr_aload_n (pc := 0) d_ND_nextLevel_0 rfl rfl ?_
  refine fr_get (pc := 1) d_ND_nextLevel_1 fg_ND_34 h1 h2 ?_
  refine fr_if_eq (pc := 4) (tgt := 11) d_ND_nextLevel_4 (by decide) (fun h => ?_) (fun h => ?_)
  · have hb := bI_0.mp h
    subst hb
    refine fr_aload_n (pc := 11) d_ND_nextLevel_11 rfl rfl ?_
    refine fr_get (pc := 12) d_ND_nextLevel_12 fg_ND_13 h1 h3 ?_
    exact fr_aret rfl (Or.inl ⟨_, rfl⟩) (by cases pr <;> first | exact Or.inl rfl | exact Or.inr ⟨_, rfl⟩) d_ND_nextLevel_15 ⟨rfl, rfl⟩
  · have hb : bl = true := ts_nf (fun q => h (bI_0.mpr q))
    subst hb
    refine fr_null (pc := 7) d_ND_nextLevel_7 ?_
    refine fr_goto (pc := 8) (tgt := 15) d_ND_nextLevel_8 (by decide) ?_
    exact fr_aret rfl (Or.inl ⟨_, rfl⟩) (by first | exact Or.inl rfl | exact Or.inr ⟨_, rfl⟩) d_ND_nextLevel_15 ⟨rfl, rfl⟩
theorem c_EN_gives {g : fw_G} {nc ns : Nat} {w : fw_W} {a b r : Nat} {fs : List Value} (h1 : w a = some (.inr (3, fs))) (h2 : fs[3]? = some (.int (nI b))) (hb : b < 2 ^ 31) (hr : r < 64) : fw_R g m_EN_gives (fw_pv (.int (bI (b.testBit r))) w) nc ns w 0 [(0, .ref a), (1, .int (nI r))] [] := by
  refine fr_aload_n (pc := 0) d_EN_gives_0 rfl rfl ?_
  refine fr_get (pc := 1) d_EN_gives_1 fg_EN_22 h1 h2 ?_
  refine fr_i2l (pc := 4) d_EN_gives_4 rfl ?_
  refine fr_iload_n (pc := 5) d_EN_gives_5 rfl rfl ?_
  rw [← bb_i2l hb hr]
  refine fr_calls_p (pc := 6) (nc := nc) (ns := ns) (N := m_FR_isSet) (rest := []) (as := [.long (nI b).toInt64, .int (nI r)]) d_EN_gives_6 k_FR_isSet lk_EN_28 sc_FR_isSet np_FR_isSet ⟨by decide, by decide, Nat.le_of_ble_eq_true rfl⟩ (Nat.le_of_ble_eq_true rfl) (c_FR_isSet hr) rfl ?_
  exact fr_zret rfl (by first | exact bI_01 _ | exact Or.inl rfl | exact Or.inr rfl) d_EN_gives_9 ⟨rfl, rfl⟩
def er (fl : Nat) (same fo par : Bool) : Bool := if same then fl.testBit 0 else (if fo then fl.testBit 1 else fl.testBit 2) && (!fl.testBit 3 || par)
theorem fl_and : ∀ fl, fl < 16 → ((nI fl &&& 1 = 0 ↔ fl.testBit 0 = false) ∧ (nI fl &&& 2 = 0 ↔ fl.testBit 1 = false) ∧ (nI fl &&& 4 = 0 ↔ fl.testBit 2 = false) ∧ (nI fl &&& 8 = 0 ↔ fl.testBit 3 = false)) := by decide +kernel
theorem c_EN_reaches {g : fw_G} {nc ns : Nat} {w : fw_W} {e h n fl : Nat} {fs ps : List Value} {fo : Bool} {pr : Option Nat} (h1 : w e = some (.inr (3, fs))) (h2 : fs[4]? = some (.int (nI fl))) (hfl : fl < 16) (h3 : w n = some (.inr (2, ps))) (h4 : ps[1]? = some (.int (bI fo))) (h5 : ps[3]? = some (va_rf pr)) :
    fw_R g m_EN_reaches (fw_pv (.int (bI (er fl (decide (n = h)) fo (decide (pr = some h))))) w) nc ns w 0 [(0, .ref e), (1, .ref h), (2, .ref n)] [] := by
  obtain ⟨q0, q1, q2, q3⟩ := fl_and fl hfl
  refine fr_aload_n (pc := 0) d_EN_reaches_0 rfl rfl ?_
  refine fr_aload_n (pc := 1) d_EN_reaches_1 rfl rfl ?_
  refine fr_acmp_ne (pc := 2) (tgt := 20) (ry := (some h)) (rx := (some n)) d_EN_reaches_2 (by decide) (fun b2 => ?_) (fun b2 => ?_)
  · refine fr_aload_n (pc := 20) d_EN_reaches_20 rfl rfl ?_
    refine fr_get (pc := 21) (v := .int (bI fo)) d_EN_reaches_21 fg_EN_32 h3 h4 ?_
    refine fr_if_eq (pc := 24) (tgt := 31) d_EN_reaches_24 (by decide) (fun b24 => ?_) (fun b24 => ?_)
    · refine fr_iconst (pc := 31) (v := 4) d_EN_reaches_31 (by decide) ?_
      refine fr_istore_n (pc := 32) (L2 := [(0, .ref e), (1, .ref h), (2, .ref n), (3, .int 4)]) d_EN_reaches_32 rfl (by decide) rfl ?_
      refine fr_aload_n (pc := 33) d_EN_reaches_33 rfl rfl ?_
      refine fr_get (pc := 34) (v := .int (nI fl)) d_EN_reaches_34 fg_EN_25 h1 h2 ?_
      refine fr_iload_n (pc := 37) d_EN_reaches_37 rfl rfl ?_
      refine fr_iand (pc := 38) d_EN_reaches_38 ?_
      refine fr_if_eq (pc := 39) (tgt := 64) d_EN_reaches_39 (by decide) (fun b39 => ?_) (fun b39 => ?_)
      · refine fr_iconst (pc := 64) (v := 0) d_EN_reaches_64 (by decide) ?_
        refine fr_st (st2 := [.int (bI (er fl (decide (n = h)) fo (decide (pr = some h))))]) (by rw [show er fl (decide (n = h)) fo (decide (pr = some h)) = false from by simp_all [er, bI_0]]; rfl) ?_
        exact fr_zret rfl (by first | exact bI_01 _ | exact Or.inl rfl | exact Or.inr rfl) d_EN_reaches_65 ⟨rfl, rfl⟩
      · refine fr_aload_n (pc := 42) d_EN_reaches_42 rfl rfl ?_
        refine fr_get (pc := 43) (v := .int (nI fl)) d_EN_reaches_43 fg_EN_25 h1 h2 ?_
        refine fr_bipush (pc := 46) (v := 8) d_EN_reaches_46 (by decide) ?_
        refine fr_iand (pc := 48) d_EN_reaches_48 ?_
        refine fr_if_eq (pc := 49) (tgt := 60) d_EN_reaches_49 (by decide) (fun b49 => ?_) (fun b49 => ?_)
        · refine fr_iconst (pc := 60) (v := 1) d_EN_reaches_60 (by decide) ?_
          refine fr_goto (pc := 61) (tgt := 65) d_EN_reaches_61 (by decide) ?_
          refine fr_st (st2 := [.int (bI (er fl (decide (n = h)) fo (decide (pr = some h))))]) (by rw [show er fl (decide (n = h)) fo (decide (pr = some h)) = true from by simp_all [er, bI_0]]; rfl) ?_
          exact fr_zret rfl (by first | exact bI_01 _ | exact Or.inl rfl | exact Or.inr rfl) d_EN_reaches_65 ⟨rfl, rfl⟩
        · refine fr_aload_n (pc := 52) d_EN_reaches_52 rfl rfl ?_
          refine fr_get (pc := 53) (v := va_rf pr) d_EN_reaches_53 fg_EN_37 h3 h5 ?_
          refine fr_aload_n (pc := 56) d_EN_reaches_56 rfl rfl ?_
          refine fr_acmp_ne (pc := 57) (tgt := 64) (ry := (some h)) (rx := pr) d_EN_reaches_57 (by decide) (fun b57 => ?_) (fun b57 => ?_)
          · refine fr_iconst (pc := 64) (v := 0) d_EN_reaches_64 (by decide) ?_
            refine fr_st (st2 := [.int (bI (er fl (decide (n = h)) fo (decide (pr = some h))))]) (by rw [show er fl (decide (n = h)) fo (decide (pr = some h)) = false from by simp_all [er, bI_0]]; rfl) ?_
            exact fr_zret rfl (by first | exact bI_01 _ | exact Or.inl rfl | exact Or.inr rfl) d_EN_reaches_65 ⟨rfl, rfl⟩
          · refine fr_iconst (pc := 60) (v := 1) d_EN_reaches_60 (by decide) ?_
            refine fr_goto (pc := 61) (tgt := 65) d_EN_reaches_61 (by decide) ?_
            refine fr_st (st2 := [.int (bI (er fl (decide (n = h)) fo (decide (pr = some h))))]) (by rw [show er fl (decide (n = h)) fo (decide (pr = some h)) = true from by simp_all [er, bI_0]]; rfl) ?_
            exact fr_zret rfl (by first | exact bI_01 _ | exact Or.inl rfl | exact Or.inr rfl) d_EN_reaches_65 ⟨rfl, rfl⟩
    · refine fr_iconst (pc := 27) (v := 2) d_EN_reaches_27 (by decide) ?_
      refine fr_goto (pc := 28) (tgt := 32) d_EN_reaches_28 (by decide) ?_
      refine fr_istore_n (pc := 32) (L2 := [(0, .ref e), (1, .ref h), (2, .ref n), (3, .int 2)]) d_EN_reaches_32 rfl (by decide) rfl ?_
      refine fr_aload_n (pc := 33) d_EN_reaches_33 rfl rfl ?_
      refine fr_get (pc := 34) (v := .int (nI fl)) d_EN_reaches_34 fg_EN_25 h1 h2 ?_
      refine fr_iload_n (pc := 37) d_EN_reaches_37 rfl rfl ?_
      refine fr_iand (pc := 38) d_EN_reaches_38 ?_
      refine fr_if_eq (pc := 39) (tgt := 64) d_EN_reaches_39 (by decide) (fun b39 => ?_) (fun b39 => ?_)
      · refine fr_iconst (pc := 64) (v := 0) d_EN_reaches_64 (by decide) ?_
        refine fr_st (st2 := [.int (bI (er fl (decide (n = h)) fo (decide (pr = some h))))]) (by rw [show er fl (decide (n = h)) fo (decide (pr = some h)) = false from by simp_all [er, bI_0]]; rfl) ?_
        exact fr_zret rfl (by first | exact bI_01 _ | exact Or.inl rfl | exact Or.inr rfl) d_EN_reaches_65 ⟨rfl, rfl⟩
      · refine fr_aload_n (pc := 42) d_EN_reaches_42 rfl rfl ?_
        refine fr_get (pc := 43) (v := .int (nI fl)) d_EN_reaches_43 fg_EN_25 h1 h2 ?_
        refine fr_bipush (pc := 46) (v := 8) d_EN_reaches_46 (by decide) ?_
        refine fr_iand (pc := 48) d_EN_reaches_48 ?_
        refine fr_if_eq (pc := 49) (tgt := 60) d_EN_reaches_49 (by decide) (fun b49 => ?_) (fun b49 => ?_)
        · refine fr_iconst (pc := 60) (v := 1) d_EN_reaches_60 (by decide) ?_
          refine fr_goto (pc := 61) (tgt := 65) d_EN_reaches_61 (by decide) ?_
          refine fr_st (st2 := [.int (bI (er fl (decide (n = h)) fo (decide (pr = some h))))]) (by rw [show er fl (decide (n = h)) fo (decide (pr = some h)) = true from by simp_all [er, bI_0]]; rfl) ?_
          exact fr_zret rfl (by first | exact bI_01 _ | exact Or.inl rfl | exact Or.inr rfl) d_EN_reaches_65 ⟨rfl, rfl⟩
        · refine fr_aload_n (pc := 52) d_EN_reaches_52 rfl rfl ?_
          refine fr_get (pc := 53) (v := va_rf pr) d_EN_reaches_53 fg_EN_37 h3 h5 ?_
          refine fr_aload_n (pc := 56) d_EN_reaches_56 rfl rfl ?_
          refine fr_acmp_ne (pc := 57) (tgt := 64) (ry := (some h)) (rx := pr) d_EN_reaches_57 (by decide) (fun b57 => ?_) (fun b57 => ?_)
          · refine fr_iconst (pc := 64) (v := 0) d_EN_reaches_64 (by decide) ?_
            refine fr_st (st2 := [.int (bI (er fl (decide (n = h)) fo (decide (pr = some h))))]) (by rw [show er fl (decide (n = h)) fo (decide (pr = some h)) = false from by simp_all [er, bI_0]]; rfl) ?_
            exact fr_zret rfl (by first | exact bI_01 _ | exact Or.inl rfl | exact Or.inr rfl) d_EN_reaches_65 ⟨rfl, rfl⟩
          · refine fr_iconst (pc := 60) (v := 1) d_EN_reaches_60 (by decide) ?_
            refine fr_goto (pc := 61) (tgt := 65) d_EN_reaches_61 (by decide) ?_
            refine fr_st (st2 := [.int (bI (er fl (decide (n = h)) fo (decide (pr = some h))))]) (by rw [show er fl (decide (n = h)) fo (decide (pr = some h)) = true from by simp_all [er, bI_0]]; rfl) ?_
            exact fr_zret rfl (by first | exact bI_01 _ | exact Or.inl rfl | exact Or.inr rfl) d_EN_reaches_65 ⟨rfl, rfl⟩
  · refine fr_aload_n (pc := 5) d_EN_reaches_5 rfl rfl ?_
    refine fr_get (pc := 6) (v := .int (nI fl)) d_EN_reaches_6 fg_EN_25 h1 h2 ?_
    refine fr_iconst (pc := 9) (v := 1) d_EN_reaches_9 (by decide) ?_
    refine fr_iand (pc := 10) d_EN_reaches_10 ?_
    refine fr_if_eq (pc := 11) (tgt := 18) d_EN_reaches_11 (by decide) (fun b11 => ?_) (fun b11 => ?_)
    · refine fr_iconst (pc := 18) (v := 0) d_EN_reaches_18 (by decide) ?_
      refine fr_st (st2 := [.int (bI (er fl (decide (n = h)) fo (decide (pr = some h))))]) (by rw [show er fl (decide (n = h)) fo (decide (pr = some h)) = false from by simp_all [er, bI_0]]; rfl) ?_
      exact fr_zret rfl (by first | exact bI_01 _ | exact Or.inl rfl | exact Or.inr rfl) d_EN_reaches_19 ⟨rfl, rfl⟩
    · refine fr_iconst (pc := 14) (v := 1) d_EN_reaches_14 (by decide) ?_
      refine fr_goto (pc := 15) (tgt := 19) d_EN_reaches_15 (by decide) ?_
      refine fr_st (st2 := [.int (bI (er fl (decide (n = h)) fo (decide (pr = some h))))]) (by rw [show er fl (decide (n = h)) fo (decide (pr = some h)) = true from by simp_all [er, bI_0]]; rfl) ?_
      exact fr_zret rfl (by first | exact bI_01 _ | exact Or.inl rfl | exact Or.inr rfl) d_EN_reaches_19 ⟨rfl, rfl⟩
theorem c_EN_init {g : fw_G} {nc ns : Nat} {w : fw_W} {e wh rb fl : Nat} {al ig : Bool} (h1 : w e = some (.inr (3, [.int 0, .int 0, .int 0, .int 0, .int 0]))) : fw_R g m_EN_init (fun r u => r = .inl none ∧ u = fw_up w e (.inr (3, [.int (bI al), .int (nI wh), .int (bI ig), .int (nI rb), .int (nI fl)]))) nc ns w 0 [(0, .ref e), (1, .int (bI al)), (2, .int (nI wh)), (3, .int (bI ig)), (4, .int (nI rb)), (5, .int (nI fl))] [] := by
  refine fr_aload_n (pc := 0) d_EN_init_0 rfl rfl ?_
  refine fr_objInit (pc := 1) d_EN_init_1 (fw_t 391 (by decide +kernel)) (fw_t 28 (by decide +kernel)) (fw_t 29 (by decide +kernel)) (by decide) (Nat.le_of_ble_eq_true rfl) ?_
  refine fr_aload_n (pc := 4) d_EN_init_4 rfl rfl ?_
  refine fr_iload_n (pc := 5) d_EN_init_5 rfl rfl ?_
  refine fr_put (pc := 6) (fs2 := [.int (bI al), .int 0, .int 0, .int 0, .int 0]) d_EN_init_6 fp_EN_init_9 h1 (Nat.le_of_ble_eq_true rfl) (bI_nar _) (bI_fit _) rfl ?_
  refine fr_aload_n (pc := 9) d_EN_init_9 rfl rfl ?_
  refine fr_iload_n (pc := 10) d_EN_init_10 rfl rfl ?_
  refine fr_put (pc := 11) (fs2 := [.int (bI al), .int (nI wh), .int 0, .int 0, .int 0]) d_EN_init_11 fp_EN_init_15 fw_up_self (Nat.le_of_ble_eq_true rfl) rfl rfl rfl ?_
  refine fr_aload_n (pc := 14) d_EN_init_14 rfl rfl ?_
  refine fr_iload_n (pc := 15) d_EN_init_15 rfl rfl ?_
  refine fr_put (pc := 16) (fs2 := [.int (bI al), .int (nI wh), .int (bI ig), .int 0, .int 0]) d_EN_init_16 fp_EN_init_19 fw_up_self (Nat.le_of_ble_eq_true rfl) (bI_nar _) (bI_fit _) rfl ?_
  refine fr_aload_n (pc := 19) d_EN_init_19 rfl rfl ?_
  refine fr_iload (pc := 20) d_EN_init_20 rfl ?_
  refine fr_put (pc := 22) (fs2 := [.int (bI al), .int (nI wh), .int (bI ig), .int (nI rb), .int 0]) d_EN_init_22 fp_EN_init_22 fw_up_self (Nat.le_of_ble_eq_true rfl) rfl rfl rfl ?_
  refine fr_aload_n (pc := 25) d_EN_init_25 rfl rfl ?_
  refine fr_iload (pc := 26) d_EN_init_26 rfl ?_
  refine fr_put (pc := 28) (fs2 := [.int (bI al), .int (nI wh), .int (bI ig), .int (nI rb), .int (nI fl)]) d_EN_init_28 fp_EN_init_25 fw_up_self (Nat.le_of_ble_eq_true rfl) rfl rfl rfl ?_
  rw [fw_uu, fw_uu, fw_uu, fw_uu]
  exact fr_vret rfl d_EN_init_31 ⟨rfl, rfl⟩
end
section
abbrev m_GR_hasMember : fw_M := (⟨"FolderRights$Groups", "hasMember", "(IIZ)Z"⟩, prog_3_method_2_code, 4, (some .boolean), { frames := 1, cells := 0, slots := 0, locals := 22 }, [])
theorem d_GR_hasMember_0 : decode m_GR_hasMember.2.1 0 = .ok (.iload_n 3, 1) := by decide +kernel
theorem d_GR_hasMember_1 : decode m_GR_hasMember.2.1 1 = .ok (.ifCond .eq 12, 3) := by decide +kernel
theorem d_GR_hasMember_4 : decode m_GR_hasMember.2.1 4 = .ok (.aload_n 0, 1) := by decide +kernel
theorem d_GR_hasMember_5 : decode m_GR_hasMember.2.1 5 = .ok (.getfield 15, 3) := by decide +kernel
theorem d_GR_hasMember_8 : decode m_GR_hasMember.2.1 8 = .ok (.iload_n 1, 1) := by decide +kernel
theorem d_GR_hasMember_9 : decode m_GR_hasMember.2.1 9 = .ok (.laload, 1) := by decide +kernel
theorem d_GR_hasMember_10 : decode m_GR_hasMember.2.1 10 = .ok (.goto 9, 3) := by decide +kernel
theorem d_GR_hasMember_13 : decode m_GR_hasMember.2.1 13 = .ok (.aload_n 0, 1) := by decide +kernel
theorem d_GR_hasMember_14 : decode m_GR_hasMember.2.1 14 = .ok (.getfield 9, 3) := by decide +kernel
theorem d_GR_hasMember_17 : decode m_GR_hasMember.2.1 17 = .ok (.iload_n 1, 1) := by decide +kernel
theorem d_GR_hasMember_18 : decode m_GR_hasMember.2.1 18 = .ok (.laload, 1) := by decide +kernel
theorem d_GR_hasMember_19 : decode m_GR_hasMember.2.1 19 = .ok (.iload_n 2, 1) := by decide +kernel
theorem d_GR_hasMember_20 : decode m_GR_hasMember.2.1 20 = .ok (.invokestatic 24, 3) := by decide +kernel
theorem d_GR_hasMember_23 : decode m_GR_hasMember.2.1 23 = .ok (.ireturn, 1) := by decide +kernel
theorem k_GR_hasMember : fw_cal m_GR_hasMember := ⟨by decide +kernel, by decide +kernel, (fw_t 2 (by decide +kernel)), Or.inl ⟨rfl, fw_t 269 (by decide +kernel)⟩⟩
abbrev m_GR_wouldHoldItself : fw_M := (⟨"FolderRights$Groups", "wouldHoldItself", "(II)Z"⟩, prog_3_method_3_code, 3, (some .boolean), { frames := 1, cells := 0, slots := 0, locals := 22 }, [])
theorem d_GR_wouldHoldItself_0 : decode m_GR_wouldHoldItself.2.1 0 = .ok (.iload_n 1, 1) := by decide +kernel
theorem d_GR_wouldHoldItself_1 : decode m_GR_wouldHoldItself.2.1 1 = .ok (.iload_n 2, 1) := by decide +kernel
theorem d_GR_wouldHoldItself_2 : decode m_GR_wouldHoldItself.2.1 2 = .ok (.if_icmp .eq 16, 3) := by decide +kernel
theorem d_GR_wouldHoldItself_5 : decode m_GR_wouldHoldItself.2.1 5 = .ok (.aload_n 0, 1) := by decide +kernel
theorem d_GR_wouldHoldItself_6 : decode m_GR_wouldHoldItself.2.1 6 = .ok (.getfield 18, 3) := by decide +kernel
theorem d_GR_wouldHoldItself_9 : decode m_GR_wouldHoldItself.2.1 9 = .ok (.iload_n 2, 1) := by decide +kernel
theorem d_GR_wouldHoldItself_10 : decode m_GR_wouldHoldItself.2.1 10 = .ok (.laload, 1) := by decide +kernel
theorem d_GR_wouldHoldItself_11 : decode m_GR_wouldHoldItself.2.1 11 = .ok (.iload_n 1, 1) := by decide +kernel
theorem d_GR_wouldHoldItself_12 : decode m_GR_wouldHoldItself.2.1 12 = .ok (.invokestatic 24, 3) := by decide +kernel
theorem d_GR_wouldHoldItself_15 : decode m_GR_wouldHoldItself.2.1 15 = .ok (.ifCond .eq 7, 3) := by decide +kernel
theorem d_GR_wouldHoldItself_18 : decode m_GR_wouldHoldItself.2.1 18 = .ok (.iconst 1, 1) := by decide +kernel
theorem d_GR_wouldHoldItself_19 : decode m_GR_wouldHoldItself.2.1 19 = .ok (.goto 4, 3) := by decide +kernel
theorem d_GR_wouldHoldItself_22 : decode m_GR_wouldHoldItself.2.1 22 = .ok (.iconst 0, 1) := by decide +kernel
theorem d_GR_wouldHoldItself_23 : decode m_GR_wouldHoldItself.2.1 23 = .ok (.ireturn, 1) := by decide +kernel
theorem k_GR_wouldHoldItself : fw_cal m_GR_wouldHoldItself := ⟨by decide +kernel, by decide +kernel, (fw_t 2 (by decide +kernel)), Or.inl ⟨rfl, fw_t 261 (by decide +kernel)⟩⟩
abbrev m_GR_findGroupsIn : fw_M := (⟨"FolderRights$Groups", "findGroupsIn", "()V"⟩, prog_3_method_6_code, 3, none, { frames := 1, cells := 0, slots := 0, locals := 22 }, [])
theorem d_GR_findGroupsIn_0 : decode m_GR_findGroupsIn.2.1 0 = .ok (.iconst 0, 1) := by decide +kernel
theorem d_GR_findGroupsIn_1 : decode m_GR_findGroupsIn.2.1 1 = .ok (.istore_n 1, 1) := by decide +kernel
theorem d_GR_findGroupsIn_2 : decode m_GR_findGroupsIn.2.1 2 = .ok (.iload_n 1, 1) := by decide +kernel
theorem d_GR_findGroupsIn_3 : decode m_GR_findGroupsIn.2.1 3 = .ok (.aload_n 0, 1) := by decide +kernel
theorem d_GR_findGroupsIn_4 : decode m_GR_findGroupsIn.2.1 4 = .ok (.getfield 34, 3) := by decide +kernel
theorem d_GR_findGroupsIn_7 : decode m_GR_findGroupsIn.2.1 7 = .ok (.if_icmp .ge 21, 3) := by decide +kernel
theorem d_GR_findGroupsIn_10 : decode m_GR_findGroupsIn.2.1 10 = .ok (.aload_n 0, 1) := by decide +kernel
theorem d_GR_findGroupsIn_11 : decode m_GR_findGroupsIn.2.1 11 = .ok (.getfield 18, 3) := by decide +kernel
theorem d_GR_findGroupsIn_14 : decode m_GR_findGroupsIn.2.1 14 = .ok (.iload_n 1, 1) := by decide +kernel
theorem d_GR_findGroupsIn_15 : decode m_GR_findGroupsIn.2.1 15 = .ok (.aload_n 0, 1) := by decide +kernel
theorem d_GR_findGroupsIn_16 : decode m_GR_findGroupsIn.2.1 16 = .ok (.getfield 15, 3) := by decide +kernel
theorem d_GR_findGroupsIn_19 : decode m_GR_findGroupsIn.2.1 19 = .ok (.iload_n 1, 1) := by decide +kernel
theorem d_GR_findGroupsIn_20 : decode m_GR_findGroupsIn.2.1 20 = .ok (.laload, 1) := by decide +kernel
theorem d_GR_findGroupsIn_21 : decode m_GR_findGroupsIn.2.1 21 = .ok (.lastore, 1) := by decide +kernel
theorem d_GR_findGroupsIn_22 : decode m_GR_findGroupsIn.2.1 22 = .ok (.iinc 1 1, 3) := by decide +kernel
theorem d_GR_findGroupsIn_25 : decode m_GR_findGroupsIn.2.1 25 = .ok (.goto (-23), 3) := by decide +kernel
theorem d_GR_findGroupsIn_28 : decode m_GR_findGroupsIn.2.1 28 = .ok (.iconst 0, 1) := by decide +kernel
theorem d_GR_findGroupsIn_29 : decode m_GR_findGroupsIn.2.1 29 = .ok (.istore_n 1, 1) := by decide +kernel
theorem d_GR_findGroupsIn_30 : decode m_GR_findGroupsIn.2.1 30 = .ok (.iload_n 1, 1) := by decide +kernel
theorem d_GR_findGroupsIn_31 : decode m_GR_findGroupsIn.2.1 31 = .ok (.aload_n 0, 1) := by decide +kernel
theorem d_GR_findGroupsIn_32 : decode m_GR_findGroupsIn.2.1 32 = .ok (.getfield 34, 3) := by decide +kernel
theorem d_GR_findGroupsIn_35 : decode m_GR_findGroupsIn.2.1 35 = .ok (.if_icmp .ge 53, 3) := by decide +kernel
theorem d_GR_findGroupsIn_38 : decode m_GR_findGroupsIn.2.1 38 = .ok (.iconst 0, 1) := by decide +kernel
theorem d_GR_findGroupsIn_39 : decode m_GR_findGroupsIn.2.1 39 = .ok (.istore_n 2, 1) := by decide +kernel
theorem d_GR_findGroupsIn_40 : decode m_GR_findGroupsIn.2.1 40 = .ok (.iload_n 2, 1) := by decide +kernel
theorem d_GR_findGroupsIn_41 : decode m_GR_findGroupsIn.2.1 41 = .ok (.aload_n 0, 1) := by decide +kernel
theorem d_GR_findGroupsIn_42 : decode m_GR_findGroupsIn.2.1 42 = .ok (.getfield 34, 3) := by decide +kernel
theorem d_GR_findGroupsIn_45 : decode m_GR_findGroupsIn.2.1 45 = .ok (.if_icmp .ge 37, 3) := by decide +kernel
theorem d_GR_findGroupsIn_48 : decode m_GR_findGroupsIn.2.1 48 = .ok (.aload_n 0, 1) := by decide +kernel
theorem d_GR_findGroupsIn_49 : decode m_GR_findGroupsIn.2.1 49 = .ok (.getfield 18, 3) := by decide +kernel
theorem d_GR_findGroupsIn_52 : decode m_GR_findGroupsIn.2.1 52 = .ok (.iload_n 2, 1) := by decide +kernel
theorem d_GR_findGroupsIn_53 : decode m_GR_findGroupsIn.2.1 53 = .ok (.laload, 1) := by decide +kernel
theorem d_GR_findGroupsIn_54 : decode m_GR_findGroupsIn.2.1 54 = .ok (.iload_n 1, 1) := by decide +kernel
theorem d_GR_findGroupsIn_55 : decode m_GR_findGroupsIn.2.1 55 = .ok (.invokestatic 24, 3) := by decide +kernel
theorem d_GR_findGroupsIn_58 : decode m_GR_findGroupsIn.2.1 58 = .ok (.ifCond .eq 18, 3) := by decide +kernel
theorem d_GR_findGroupsIn_61 : decode m_GR_findGroupsIn.2.1 61 = .ok (.aload_n 0, 1) := by decide +kernel
theorem d_GR_findGroupsIn_62 : decode m_GR_findGroupsIn.2.1 62 = .ok (.getfield 18, 3) := by decide +kernel
theorem d_GR_findGroupsIn_65 : decode m_GR_findGroupsIn.2.1 65 = .ok (.iload_n 2, 1) := by decide +kernel
theorem d_GR_findGroupsIn_66 : decode m_GR_findGroupsIn.2.1 66 = .ok (.dup2, 1) := by decide +kernel
theorem d_GR_findGroupsIn_67 : decode m_GR_findGroupsIn.2.1 67 = .ok (.laload, 1) := by decide +kernel
theorem d_GR_findGroupsIn_68 : decode m_GR_findGroupsIn.2.1 68 = .ok (.aload_n 0, 1) := by decide +kernel
theorem d_GR_findGroupsIn_69 : decode m_GR_findGroupsIn.2.1 69 = .ok (.getfield 18, 3) := by decide +kernel
theorem d_GR_findGroupsIn_72 : decode m_GR_findGroupsIn.2.1 72 = .ok (.iload_n 1, 1) := by decide +kernel
theorem d_GR_findGroupsIn_73 : decode m_GR_findGroupsIn.2.1 73 = .ok (.laload, 1) := by decide +kernel
theorem d_GR_findGroupsIn_74 : decode m_GR_findGroupsIn.2.1 74 = .ok (.lor, 1) := by decide +kernel
theorem d_GR_findGroupsIn_75 : decode m_GR_findGroupsIn.2.1 75 = .ok (.lastore, 1) := by decide +kernel
theorem d_GR_findGroupsIn_76 : decode m_GR_findGroupsIn.2.1 76 = .ok (.iinc 2 1, 3) := by decide +kernel
theorem d_GR_findGroupsIn_79 : decode m_GR_findGroupsIn.2.1 79 = .ok (.goto (-39), 3) := by decide +kernel
theorem d_GR_findGroupsIn_82 : decode m_GR_findGroupsIn.2.1 82 = .ok (.iinc 1 1, 3) := by decide +kernel
theorem d_GR_findGroupsIn_85 : decode m_GR_findGroupsIn.2.1 85 = .ok (.goto (-55), 3) := by decide +kernel
theorem d_GR_findGroupsIn_88 : decode m_GR_findGroupsIn.2.1 88 = .ok (.return_, 1) := by decide +kernel
theorem k_GR_findGroupsIn : fw_cal m_GR_findGroupsIn := ⟨by decide +kernel, by decide +kernel, (fw_t 2 (by decide +kernel)), Or.inl ⟨rfl, fw_t 277 (by decide +kernel)⟩⟩
abbrev m_GR_findUsersIn : fw_M := (⟨"FolderRights$Groups", "findUsersIn", "()V"⟩, prog_3_method_7_code, 3, none, { frames := 1, cells := 0, slots := 0, locals := 22 }, [])
theorem d_GR_findUsersIn_0 : decode m_GR_findUsersIn.2.1 0 = .ok (.iconst 0, 1) := by decide +kernel
theorem d_GR_findUsersIn_1 : decode m_GR_findUsersIn.2.1 1 = .ok (.istore_n 1, 1) := by decide +kernel
theorem d_GR_findUsersIn_2 : decode m_GR_findUsersIn.2.1 2 = .ok (.iload_n 1, 1) := by decide +kernel
theorem d_GR_findUsersIn_3 : decode m_GR_findUsersIn.2.1 3 = .ok (.aload_n 0, 1) := by decide +kernel
theorem d_GR_findUsersIn_4 : decode m_GR_findUsersIn.2.1 4 = .ok (.getfield 34, 3) := by decide +kernel
theorem d_GR_findUsersIn_7 : decode m_GR_findUsersIn.2.1 7 = .ok (.if_icmp .ge 65, 3) := by decide +kernel
theorem d_GR_findUsersIn_10 : decode m_GR_findUsersIn.2.1 10 = .ok (.aload_n 0, 1) := by decide +kernel
theorem d_GR_findUsersIn_11 : decode m_GR_findUsersIn.2.1 11 = .ok (.getfield 21, 3) := by decide +kernel
theorem d_GR_findUsersIn_14 : decode m_GR_findUsersIn.2.1 14 = .ok (.iload_n 1, 1) := by decide +kernel
theorem d_GR_findUsersIn_15 : decode m_GR_findUsersIn.2.1 15 = .ok (.aload_n 0, 1) := by decide +kernel
theorem d_GR_findUsersIn_16 : decode m_GR_findUsersIn.2.1 16 = .ok (.getfield 9, 3) := by decide +kernel
theorem d_GR_findUsersIn_19 : decode m_GR_findUsersIn.2.1 19 = .ok (.iload_n 1, 1) := by decide +kernel
theorem d_GR_findUsersIn_20 : decode m_GR_findUsersIn.2.1 20 = .ok (.laload, 1) := by decide +kernel
theorem d_GR_findUsersIn_21 : decode m_GR_findUsersIn.2.1 21 = .ok (.lastore, 1) := by decide +kernel
theorem d_GR_findUsersIn_22 : decode m_GR_findUsersIn.2.1 22 = .ok (.iconst 0, 1) := by decide +kernel
theorem d_GR_findUsersIn_23 : decode m_GR_findUsersIn.2.1 23 = .ok (.istore_n 2, 1) := by decide +kernel
theorem d_GR_findUsersIn_24 : decode m_GR_findUsersIn.2.1 24 = .ok (.iload_n 2, 1) := by decide +kernel
theorem d_GR_findUsersIn_25 : decode m_GR_findUsersIn.2.1 25 = .ok (.aload_n 0, 1) := by decide +kernel
theorem d_GR_findUsersIn_26 : decode m_GR_findUsersIn.2.1 26 = .ok (.getfield 34, 3) := by decide +kernel
theorem d_GR_findUsersIn_29 : decode m_GR_findUsersIn.2.1 29 = .ok (.if_icmp .ge 37, 3) := by decide +kernel
theorem d_GR_findUsersIn_32 : decode m_GR_findUsersIn.2.1 32 = .ok (.aload_n 0, 1) := by decide +kernel
theorem d_GR_findUsersIn_33 : decode m_GR_findUsersIn.2.1 33 = .ok (.getfield 18, 3) := by decide +kernel
theorem d_GR_findUsersIn_36 : decode m_GR_findUsersIn.2.1 36 = .ok (.iload_n 1, 1) := by decide +kernel
theorem d_GR_findUsersIn_37 : decode m_GR_findUsersIn.2.1 37 = .ok (.laload, 1) := by decide +kernel
theorem d_GR_findUsersIn_38 : decode m_GR_findUsersIn.2.1 38 = .ok (.iload_n 2, 1) := by decide +kernel
theorem d_GR_findUsersIn_39 : decode m_GR_findUsersIn.2.1 39 = .ok (.invokestatic 24, 3) := by decide +kernel
theorem d_GR_findUsersIn_42 : decode m_GR_findUsersIn.2.1 42 = .ok (.ifCond .eq 18, 3) := by decide +kernel
theorem d_GR_findUsersIn_45 : decode m_GR_findUsersIn.2.1 45 = .ok (.aload_n 0, 1) := by decide +kernel
theorem d_GR_findUsersIn_46 : decode m_GR_findUsersIn.2.1 46 = .ok (.getfield 21, 3) := by decide +kernel
theorem d_GR_findUsersIn_49 : decode m_GR_findUsersIn.2.1 49 = .ok (.iload_n 1, 1) := by decide +kernel
theorem d_GR_findUsersIn_50 : decode m_GR_findUsersIn.2.1 50 = .ok (.dup2, 1) := by decide +kernel
theorem d_GR_findUsersIn_51 : decode m_GR_findUsersIn.2.1 51 = .ok (.laload, 1) := by decide +kernel
theorem d_GR_findUsersIn_52 : decode m_GR_findUsersIn.2.1 52 = .ok (.aload_n 0, 1) := by decide +kernel
theorem d_GR_findUsersIn_53 : decode m_GR_findUsersIn.2.1 53 = .ok (.getfield 9, 3) := by decide +kernel
theorem d_GR_findUsersIn_56 : decode m_GR_findUsersIn.2.1 56 = .ok (.iload_n 2, 1) := by decide +kernel
theorem d_GR_findUsersIn_57 : decode m_GR_findUsersIn.2.1 57 = .ok (.laload, 1) := by decide +kernel
theorem d_GR_findUsersIn_58 : decode m_GR_findUsersIn.2.1 58 = .ok (.lor, 1) := by decide +kernel
theorem d_GR_findUsersIn_59 : decode m_GR_findUsersIn.2.1 59 = .ok (.lastore, 1) := by decide +kernel
theorem d_GR_findUsersIn_60 : decode m_GR_findUsersIn.2.1 60 = .ok (.iinc 2 1, 3) := by decide +kernel
theorem d_GR_findUsersIn_63 : decode m_GR_findUsersIn.2.1 63 = .ok (.goto (-39), 3) := by decide +kernel
theorem d_GR_findUsersIn_66 : decode m_GR_findUsersIn.2.1 66 = .ok (.iinc 1 1, 3) := by decide +kernel
theorem d_GR_findUsersIn_69 : decode m_GR_findUsersIn.2.1 69 = .ok (.goto (-67), 3) := by decide +kernel
theorem d_GR_findUsersIn_72 : decode m_GR_findUsersIn.2.1 72 = .ok (.return_, 1) := by decide +kernel
theorem k_GR_findUsersIn : fw_cal m_GR_findUsersIn := ⟨by decide +kernel, by decide +kernel, (fw_t 2 (by decide +kernel)), Or.inl ⟨rfl, fw_t 281 (by decide +kernel)⟩⟩
abbrev m_GR_turnMember : fw_M := (⟨"FolderRights$Groups", "turnMember", "(IIZ)V"⟩, prog_3_method_4_code, 5, none, { frames := 2, cells := 0, slots := 0, locals := 44 }, [])
theorem d_GR_turnMember_0 : decode m_GR_turnMember.2.1 0 = .ok (.iload_n 3, 1) := by decide +kernel
theorem d_GR_turnMember_1 : decode m_GR_turnMember.2.1 1 = .ok (.ifCond .eq 10, 3) := by decide +kernel
theorem d_GR_turnMember_4 : decode m_GR_turnMember.2.1 4 = .ok (.aload_n 0, 1) := by decide +kernel
theorem d_GR_turnMember_5 : decode m_GR_turnMember.2.1 5 = .ok (.getfield 15, 3) := by decide +kernel
theorem d_GR_turnMember_8 : decode m_GR_turnMember.2.1 8 = .ok (.goto 7, 3) := by decide +kernel
theorem d_GR_turnMember_11 : decode m_GR_turnMember.2.1 11 = .ok (.aload_n 0, 1) := by decide +kernel
theorem d_GR_turnMember_12 : decode m_GR_turnMember.2.1 12 = .ok (.getfield 9, 3) := by decide +kernel
theorem d_GR_turnMember_15 : decode m_GR_turnMember.2.1 15 = .ok (.astore 4, 2) := by decide +kernel
theorem d_GR_turnMember_17 : decode m_GR_turnMember.2.1 17 = .ok (.aload 4, 2) := by decide +kernel
theorem d_GR_turnMember_19 : decode m_GR_turnMember.2.1 19 = .ok (.iload_n 1, 1) := by decide +kernel
theorem d_GR_turnMember_20 : decode m_GR_turnMember.2.1 20 = .ok (.dup2, 1) := by decide +kernel
theorem d_GR_turnMember_21 : decode m_GR_turnMember.2.1 21 = .ok (.laload, 1) := by decide +kernel
theorem d_GR_turnMember_22 : decode m_GR_turnMember.2.1 22 = .ok (.lconst 1, 1) := by decide +kernel
theorem d_GR_turnMember_23 : decode m_GR_turnMember.2.1 23 = .ok (.iload_n 2, 1) := by decide +kernel
theorem d_GR_turnMember_24 : decode m_GR_turnMember.2.1 24 = .ok (.lshl, 1) := by decide +kernel
theorem d_GR_turnMember_25 : decode m_GR_turnMember.2.1 25 = .ok (.lxor, 1) := by decide +kernel
theorem d_GR_turnMember_26 : decode m_GR_turnMember.2.1 26 = .ok (.lastore, 1) := by decide +kernel
theorem d_GR_turnMember_27 : decode m_GR_turnMember.2.1 27 = .ok (.aload_n 0, 1) := by decide +kernel
theorem d_GR_turnMember_28 : decode m_GR_turnMember.2.1 28 = .ok (.invokevirtual 28, 3) := by decide +kernel
theorem d_GR_turnMember_31 : decode m_GR_turnMember.2.1 31 = .ok (.aload_n 0, 1) := by decide +kernel
theorem d_GR_turnMember_32 : decode m_GR_turnMember.2.1 32 = .ok (.invokevirtual 31, 3) := by decide +kernel
theorem d_GR_turnMember_35 : decode m_GR_turnMember.2.1 35 = .ok (.return_, 1) := by decide +kernel
theorem k_GR_turnMember : fw_cal m_GR_turnMember := ⟨by decide +kernel, by decide +kernel, (fw_t 2 (by decide +kernel)), Or.inl ⟨rfl, fw_t 273 (by decide +kernel)⟩⟩
abbrev m_GR_init : fw_M := (⟨"FolderRights$Groups", "<init>", "()V"⟩, prog_3_method_1_code, 1, none, { frames := 1, cells := 4, slots := 96, locals := 20 }, [])
theorem d_GR_init_0 : decode m_GR_init.2.1 0 = .ok (.aload_n 0, 1) := by decide +kernel
theorem d_GR_init_1 : decode m_GR_init.2.1 1 = .ok (.invokespecial 3, 3) := by decide +kernel
theorem d_GR_init_4 : decode m_GR_init.2.1 4 = .ok (.aload_n 0, 1) := by decide +kernel
theorem d_GR_init_5 : decode m_GR_init.2.1 5 = .ok (.bipush 24, 2) := by decide +kernel
theorem d_GR_init_7 : decode m_GR_init.2.1 7 = .ok (.newarray .long, 2) := by decide +kernel
theorem d_GR_init_9 : decode m_GR_init.2.1 9 = .ok (.putfield 9, 3) := by decide +kernel
theorem d_GR_init_12 : decode m_GR_init.2.1 12 = .ok (.aload_n 0, 1) := by decide +kernel
theorem d_GR_init_13 : decode m_GR_init.2.1 13 = .ok (.bipush 24, 2) := by decide +kernel
theorem d_GR_init_15 : decode m_GR_init.2.1 15 = .ok (.newarray .long, 2) := by decide +kernel
theorem d_GR_init_17 : decode m_GR_init.2.1 17 = .ok (.putfield 15, 3) := by decide +kernel
theorem d_GR_init_20 : decode m_GR_init.2.1 20 = .ok (.aload_n 0, 1) := by decide +kernel
theorem d_GR_init_21 : decode m_GR_init.2.1 21 = .ok (.bipush 24, 2) := by decide +kernel
theorem d_GR_init_23 : decode m_GR_init.2.1 23 = .ok (.newarray .long, 2) := by decide +kernel
theorem d_GR_init_25 : decode m_GR_init.2.1 25 = .ok (.putfield 18, 3) := by decide +kernel
theorem d_GR_init_28 : decode m_GR_init.2.1 28 = .ok (.aload_n 0, 1) := by decide +kernel
theorem d_GR_init_29 : decode m_GR_init.2.1 29 = .ok (.bipush 24, 2) := by decide +kernel
theorem d_GR_init_31 : decode m_GR_init.2.1 31 = .ok (.newarray .long, 2) := by decide +kernel
theorem d_GR_init_33 : decode m_GR_init.2.1 33 = .ok (.putfield 21, 3) := by decide +kernel
theorem d_GR_init_36 : decode m_GR_init.2.1 36 = .ok (.return_, 1) := by decide +kernel
theorem k_GR_init : fw_cal m_GR_init := ⟨by decide +kernel, by decide +kernel, (fw_t 2 (by decide +kernel)), Or.inl ⟨rfl, fw_t 34 (by decide +kernel)⟩⟩
theorem fg_GR_15 : fw_fld "FolderRights$Groups" 15 1 2 := ⟨_, _, _, "FolderRights$Groups", rfl, by decide, fw_i1, Or.inl rfl, Or.inl (fw_t 39 (by decide +kernel))⟩
theorem fg_GR_9 : fw_fld "FolderRights$Groups" 9 1 1 := ⟨_, _, _, "FolderRights$Groups", rfl, by decide, fw_i1, Or.inl rfl, Or.inl (fw_t 38 (by decide +kernel))⟩
theorem lk_GR_24 : fw_lk "FolderRights$Groups" 24 ⟨"FolderRights", "isSet", "(JI)Z"⟩ := Or.inr ⟨"FolderRights", (fw_t 262 (by decide +kernel))⟩
theorem fg_GR_18 : fw_fld "FolderRights$Groups" 18 1 3 := ⟨_, _, _, "FolderRights$Groups", rfl, by decide, fw_i1, Or.inl rfl, Or.inl (fw_t 40 (by decide +kernel))⟩
theorem fg_GR_34 : fw_fld "FolderRights$Groups" 34 1 0 := ⟨_, _, _, "FolderRights$Groups", rfl, by decide, fw_i1, Or.inl rfl, Or.inl (fw_t 37 (by decide +kernel))⟩
theorem fg_GR_21 : fw_fld "FolderRights$Groups" 21 1 4 := ⟨_, _, _, "FolderRights$Groups", rfl, by decide, fw_i1, Or.inl rfl, Or.inl (fw_t 41 (by decide +kernel))⟩
theorem vc_GR_28 : fw_vc "FolderRights$Groups" 28 1 m_GR_findGroupsIn 0 := ⟨k_GR_findGroupsIn, Or.inl (fw_t 274 (by decide +kernel)), (fw_t 276 (by decide +kernel)), ⟨_, _, _, rfl, (fw_p 4 (by decide +kernel))⟩, by unfold fw_np; decide +kernel⟩
theorem vc_GR_31 : fw_vc "FolderRights$Groups" 31 1 m_GR_findUsersIn 0 := ⟨k_GR_findUsersIn, Or.inl (fw_t 278 (by decide +kernel)), (fw_t 280 (by decide +kernel)), ⟨_, _, _, rfl, (fw_p 5 (by decide +kernel))⟩, by unfold fw_np; decide +kernel⟩
theorem fp_GR_init_9 : fw_fpt m_GR_init 9 1 1 (.array .long) := ⟨_, _, _, "FolderRights$Groups", rfl, by decide, fw_i1, Or.inl rfl, ⟨fw_y1, fw_k1⟩, fw_n1, by decide +kernel, Or.inr ⟨rfl, rfl, rfl, (fw_t 38 (by decide +kernel))⟩⟩
theorem fp_GR_init_15 : fw_fpt m_GR_init 15 1 2 (.array .long) := ⟨_, _, _, "FolderRights$Groups", rfl, by decide, fw_i1, Or.inl rfl, ⟨fw_y1, fw_k1⟩, fw_n1, by decide +kernel, Or.inr ⟨rfl, rfl, rfl, (fw_t 39 (by decide +kernel))⟩⟩
theorem fp_GR_init_18 : fw_fpt m_GR_init 18 1 3 (.array .long) := ⟨_, _, _, "FolderRights$Groups", rfl, by decide, fw_i1, Or.inl rfl, ⟨fw_y1, fw_k1⟩, fw_n1, by decide +kernel, Or.inr ⟨rfl, rfl, rfl, (fw_t 40 (by decide +kernel))⟩⟩
theorem fp_GR_init_21 : fw_fpt m_GR_init 21 1 4 (.array .long) := ⟨_, _, _, "FolderRights$Groups", rfl, by decide, fw_i1, Or.inl rfl, ⟨fw_y1, fw_k1⟩, fw_n1, by decide +kernel, Or.inr ⟨rfl, rfl, rfl, (fw_t 41 (by decide +kernel))⟩⟩
abbrev gr_ar (g : fw_G) (f : Nat → Int64) : va_E := .inl (fw_c g 2, 24, .inr (.inl f))
def gr_at (g : fw_G) (w : fw_W) (a a1 a2 a3 a4 n : Nat) (f1 f2 f3 f4 : Nat → Int64) : Prop :=
  w a = some (.inr (1, [.int (nI n), .ref a1, .ref a2, .ref a3, .ref a4])) ∧ w a1 = some (gr_ar g f1) ∧ w a2 = some (gr_ar g f2) ∧ w a3 = some (gr_ar g f3) ∧ w a4 = some (gr_ar g f4) ∧ n ≤ 24 ∧
  a1 ≠ a2 ∧ a1 ≠ a3 ∧ a1 ≠ a4 ∧ a2 ≠ a3 ∧ a2 ≠ a4 ∧ a3 ≠ a4 ∧ a ≠ a1 ∧ a ≠ a2 ∧ a ≠ a3 ∧ a ≠ a4
theorem c_GR_has {g : fw_G} {nc ns : Nat} {w : fw_W} {a a1 a2 a3 a4 n : Nat} {f1 f2 f3 f4 : Nat → Int64} (h : gr_at g w a a1 a2 a3 a4 n f1 f2 f3 f4) {i j : Nat} {b : Bool} (hi : i < n) (hj : j < 64) : fw_R g m_GR_hasMember (fw_pv (.int (bI (bb ((if b then f2 else f1) i) j))) w) nc ns w 0 [(0, .ref a), (1, .int (nI i)), (2, .int (nI j)), (3, .int (bI b))] [] := by
  obtain ⟨h0, q1, q2, q3, q4, hn, n12, n13, n14, n23, n24, n34, m1, m2, m3, m4⟩ := h
  refine fr_iload_n (pc := 0) d_GR_hasMember_0 rfl rfl ?_
  refine fr_if_eq (pc := 1) (tgt := 13) d_GR_hasMember_1 (by decide) (fun b1 => ?_) (fun b1 => ?_)
  · have hb := bI_0.mp b1
    subst hb
    refine fr_aload_n (pc := 13) d_GR_hasMember_13 rfl rfl ?_
    refine fr_get (pc := 14) (v := .ref a1) d_GR_hasMember_14 fg_GR_9 h0 rfl ?_
    refine fr_iload_n (pc := 17) d_GR_hasMember_17 rfl rfl ?_
    refine fr_laldN (pc := 18) (k := i) (n := 24) (f := f1) d_GR_hasMember_18 q1 (by omega) (by decide) ?_
    refine fr_iload_n (pc := 19) d_GR_hasMember_19 rfl rfl ?_
    refine fr_calls_p (pc := 20) (nc := nc) (ns := ns) (N := m_FR_isSet) (rest := []) (as := [.long (f1 i), .int (nI j)]) (v := .int (bI (bb (f1 i) j))) d_GR_hasMember_20 k_FR_isSet lk_GR_24 sc_FR_isSet np_FR_isSet ⟨by decide, by decide, Nat.le_of_ble_eq_true rfl⟩ (Nat.le_of_ble_eq_true rfl) (c_FR_isSet hj) rfl ?_
    exact fr_zret rfl (by first | exact bI_01 _ | exact Or.inl rfl | exact Or.inr rfl) d_GR_hasMember_23 ⟨rfl, rfl⟩
  · have hb : b = true := ts_nf (fun q => b1 (bI_0.mpr q))
    subst hb
    refine fr_aload_n (pc := 4) d_GR_hasMember_4 rfl rfl ?_
    refine fr_get (pc := 5) (v := .ref a2) d_GR_hasMember_5 fg_GR_15 h0 rfl ?_
    refine fr_iload_n (pc := 8) d_GR_hasMember_8 rfl rfl ?_
    refine fr_laldN (pc := 9) (k := i) (n := 24) (f := f2) d_GR_hasMember_9 q2 (by omega) (by decide) ?_
    refine fr_goto (pc := 10) (tgt := 19) d_GR_hasMember_10 (by decide) ?_
    refine fr_iload_n (pc := 19) d_GR_hasMember_19 rfl rfl ?_
    refine fr_calls_p (pc := 20) (nc := nc) (ns := ns) (N := m_FR_isSet) (rest := []) (as := [.long (f2 i), .int (nI j)]) (v := .int (bI (bb (f2 i) j))) d_GR_hasMember_20 k_FR_isSet lk_GR_24 sc_FR_isSet np_FR_isSet ⟨by decide, by decide, Nat.le_of_ble_eq_true rfl⟩ (Nat.le_of_ble_eq_true rfl) (c_FR_isSet hj) rfl ?_
    exact fr_zret rfl (by first | exact bI_01 _ | exact Or.inl rfl | exact Or.inr rfl) d_GR_hasMember_23 ⟨rfl, rfl⟩
theorem c_GR_would {g : fw_G} {nc ns : Nat} {w : fw_W} {a a1 a2 a3 a4 n : Nat} {f1 f2 f3 f4 : Nat → Int64} (h : gr_at g w a a1 a2 a3 a4 n f1 f2 f3 f4) {i j : Nat} (hi : i < n) (hj : j < n) : fw_R g m_GR_wouldHoldItself (fw_pv (.int (bI (decide (i = j) || bb (f3 j) i))) w) nc ns w 0 [(0, .ref a), (1, .int (nI i)), (2, .int (nI j))] [] := by
  obtain ⟨h0, q1, q2, q3, q4, hn, n12, n13, n14, n23, n24, n34, m1, m2, m3, m4⟩ := h
  refine fr_iload_n (pc := 0) d_GR_wouldHoldItself_0 rfl rfl ?_
  refine fr_iload_n (pc := 1) d_GR_wouldHoldItself_1 rfl rfl ?_
  refine fr_icmp_eq (pc := 2) (tgt := 18) d_GR_wouldHoldItself_2 (by decide) (fun b2 => ?_) (fun b2 => ?_)
  · refine fr_iconst (pc := 18) (v := 1) d_GR_wouldHoldItself_18 (by decide) ?_
    refine fr_goto (pc := 19) (tgt := 23) d_GR_wouldHoldItself_19 (by decide) ?_
    have e9 : nI i = nI j ↔ i = j := ni_eq (by omega) (by omega)
    refine fr_st (st2 := [.int (bI (decide (i = j) || bb (f3 j) i))]) (by rw [show (decide (i = j) || bb (f3 j) i) = true from by simp_all [bI_0]]; rfl) ?_
    exact fr_zret rfl (by first | exact bI_01 _ | exact Or.inl rfl | exact Or.inr rfl) d_GR_wouldHoldItself_23 ⟨rfl, rfl⟩
  · refine fr_aload_n (pc := 5) d_GR_wouldHoldItself_5 rfl rfl ?_
    refine fr_get (pc := 6) (v := .ref a3) d_GR_wouldHoldItself_6 fg_GR_18 h0 rfl ?_
    refine fr_iload_n (pc := 9) d_GR_wouldHoldItself_9 rfl rfl ?_
    refine fr_laldN (pc := 10) (k := j) (n := 24) (f := f3) d_GR_wouldHoldItself_10 q3 (by omega) (by decide) ?_
    refine fr_iload_n (pc := 11) d_GR_wouldHoldItself_11 rfl rfl ?_
    refine fr_calls_p (pc := 12) (nc := nc) (ns := ns) (N := m_FR_isSet) (rest := []) (as := [.long (f3 j), .int (nI i)]) (v := .int (bI (bb (f3 j) i))) d_GR_wouldHoldItself_12 k_FR_isSet lk_GR_24 sc_FR_isSet np_FR_isSet ⟨by decide, by decide, Nat.le_of_ble_eq_true rfl⟩ (Nat.le_of_ble_eq_true rfl) (c_FR_isSet (by omega)) rfl ?_
    refine fr_if_eq (pc := 15) (tgt := 22) d_GR_wouldHoldItself_15 (by decide) (fun b15 => ?_) (fun b15 => ?_)
    · refine fr_iconst (pc := 22) (v := 0) d_GR_wouldHoldItself_22 (by decide) ?_
      have e9 : nI i = nI j ↔ i = j := ni_eq (by omega) (by omega)
      refine fr_st (st2 := [.int (bI (decide (i = j) || bb (f3 j) i))]) (by rw [show (decide (i = j) || bb (f3 j) i) = false from by simp_all [bI_0]]; rfl) ?_
      exact fr_zret rfl (by first | exact bI_01 _ | exact Or.inl rfl | exact Or.inr rfl) d_GR_wouldHoldItself_23 ⟨rfl, rfl⟩
    · refine fr_iconst (pc := 18) (v := 1) d_GR_wouldHoldItself_18 (by decide) ?_
      refine fr_goto (pc := 19) (tgt := 23) d_GR_wouldHoldItself_19 (by decide) ?_
      have e9 : nI i = nI j ↔ i = j := ni_eq (by omega) (by omega)
      refine fr_st (st2 := [.int (bI (decide (i = j) || bb (f3 j) i))]) (by rw [show (decide (i = j) || bb (f3 j) i) = true from by simp_all [bI_0]]; rfl) ?_
      exact fr_zret rfl (by first | exact bI_01 _ | exact Or.inl rfl | exact Or.inr rfl) d_GR_wouldHoldItself_23 ⟨rfl, rfl⟩
def gr_cp (f2 f3 : Nat → Int64) (k : Nat) : Nat → Int64 := fun j => if j < k then f2 j else f3 j
def gr_wr (f : Nat → Int64) (t k : Nat) : Nat → Int64 := fun j => if j < k ∧ bb (f j) t = true then f j ||| f t else f j
theorem gr_cp_s (f2 f3 : Nat → Int64) (k : Nat) : vp_updL (gr_cp f2 f3 k) k (f2 k) = gr_cp f2 f3 (k + 1) := by
  funext j
  unfold vp_updL gr_cp
  by_cases h : j = k
  · subst h; simp
  · by_cases h2 : j < k
    · simp [h, h2, Nat.lt_succ_of_lt h2]
    · simp [h, h2, show ¬ j < k + 1 by omega]
theorem gr_or (x : Int64) : x ||| x = x := bb_ext (fun i _ => by rw [bb_or]; cases bb x i <;> rfl)
theorem gr_wr_t (f : Nat → Int64) (t k : Nat) : gr_wr f t k t = f t := by
  unfold gr_wr
  split
  · exact gr_or _
  · rfl
theorem gr_wr_k (f : Nat → Int64) (t k : Nat) : gr_wr f t k k = f k := by unfold gr_wr; rw [if_neg (fun h => Nat.lt_irrefl _ h.1)]
theorem gr_wr_s {f : Nat → Int64} {t k : Nat} (h : bb (f k) t = true) : vp_updL (gr_wr f t k) k (f k ||| f t) = gr_wr f t (k + 1) := by
  funext j
  unfold vp_updL gr_wr
  by_cases e : j = k
  · subst e; simp [h]
  · by_cases h2 : j < k
    · simp [e, h2, Nat.lt_succ_of_lt h2]
    · simp [e, h2, show ¬ j < k + 1 by omega]
theorem gr_wr_n {f : Nat → Int64} {t k : Nat} (h : bb (f k) t = false) : gr_wr f t k = gr_wr f t (k + 1) := by
  funext j
  unfold gr_wr
  by_cases e : j = k
  · subst e; simp [h]
  · by_cases h2 : j < k
    · simp [h2, Nat.lt_succ_of_lt h2]
    · simp [h2, show ¬ j < k + 1 by omega]
theorem gr_wr_0 (f : Nat → Int64) (t : Nat) : gr_wr f t 0 = f := by funext j; simp [gr_wr]
theorem gr_cp_0 (f2 f3 : Nat → Int64) : gr_cp f2 f3 0 = f3 := by funext j; simp [gr_cp]
def gr_it (f : Nat → Int64) (n : Nat) : Nat → Nat → Int64
  | 0 => f
  | t + 1 => gr_wr (gr_it f n t) t n
theorem c_GR_fgi_i {g : fw_G} {nc ns : Nat} {w : fw_W} {a a1 a2 a3 a4 n : Nat} {f1 f2 f3 f4 : Nat → Int64} (h : gr_at g w a a1 a2 a3 a4 n f1 f2 f3 f4) {t : Nat} (ht : t < n) (hx : fw_R g m_GR_findGroupsIn (fw_pn (fw_up w a3 (gr_ar g (gr_it (gr_cp f2 f3 n) n n)))) nc ns (fw_up w a3 (gr_ar g (gr_it (gr_cp f2 f3 n) n (t + 1)))) 82 [(0, .ref a), (1, .int (nI t)), (2, .int (nI n))] []) : ∀ m k, k + m = n → fw_R g m_GR_findGroupsIn (fw_pn (fw_up w a3 (gr_ar g (gr_it (gr_cp f2 f3 n) n n)))) nc ns (fw_up w a3 (gr_ar g (gr_wr (gr_it (gr_cp f2 f3 n) n t) t k))) 40 [(0, .ref a), (1, .int (nI t)), (2, .int (nI k))] [] := by
  obtain ⟨h0, q1, q2, q3, q4, hn, n12, n13, n14, n23, n24, n34, m1, m2, m3, m4⟩ := id h
  intro m
  induction m with
  | zero =>
    intro k hk
    obtain rfl : n = k := by omega
    refine fr_iload_n (pc := 40) d_GR_findGroupsIn_40 rfl rfl ?_
    refine fr_aload_n (pc := 41) d_GR_findGroupsIn_41 rfl rfl ?_
    refine fr_get (pc := 42) (v := .int (nI n)) d_GR_findGroupsIn_42 fg_GR_34 (fw_up_at h0 m3) rfl ?_
    exact fr_icmp_ge (pc := 45) (tgt := 82) d_GR_findGroupsIn_45 (by decide) (fun _ => hx) (fun b45 => absurd ((ni_le (by omega) (by omega)).mpr (Nat.le_refl _)) b45)
  | succ m ih =>
    intro k hk
    refine fr_iload_n (pc := 40) d_GR_findGroupsIn_40 rfl rfl ?_
    refine fr_aload_n (pc := 41) d_GR_findGroupsIn_41 rfl rfl ?_
    refine fr_get (pc := 42) (v := .int (nI n)) d_GR_findGroupsIn_42 fg_GR_34 (fw_up_at h0 m3) rfl ?_
    refine fr_icmp_ge (pc := 45) (tgt := 82) d_GR_findGroupsIn_45 (by decide) (fun b45 => absurd ((ni_le (by omega) (by omega)).mp b45) (by omega)) (fun _ => ?_)
    refine fr_aload_n (pc := 48) d_GR_findGroupsIn_48 rfl rfl ?_
    refine fr_get (pc := 49) (v := .ref a3) d_GR_findGroupsIn_49 fg_GR_18 (fw_up_at h0 m3) rfl ?_
    refine fr_iload_n (pc := 52) d_GR_findGroupsIn_52 rfl rfl ?_
    refine fr_laldN (pc := 53) (k := k) (n := 24) (f := (gr_wr (gr_it (gr_cp f2 f3 n) n t) t k)) d_GR_findGroupsIn_53 fw_up_self (by omega) (by decide) ?_
    refine fr_st (st2 := [.long (gr_it (gr_cp f2 f3 n) n t k)]) (by rw [gr_wr_k]) ?_
    refine fr_iload_n (pc := 54) d_GR_findGroupsIn_54 rfl rfl ?_
    refine fr_calls_p (pc := 55) (nc := nc) (ns := ns) (N := m_FR_isSet) (rest := []) (as := [.long (gr_it (gr_cp f2 f3 n) n t k), .int (nI t)]) (v := .int (bI (bb (gr_it (gr_cp f2 f3 n) n t k) t))) d_GR_findGroupsIn_55 k_FR_isSet lk_GR_24 sc_FR_isSet np_FR_isSet ⟨by decide, by decide, Nat.le_of_ble_eq_true rfl⟩ (Nat.le_of_ble_eq_true rfl) (c_FR_isSet (by omega)) rfl ?_
    refine fr_if_eq (pc := 58) (tgt := 76) d_GR_findGroupsIn_58 (by decide) (fun b58 => ?_) (fun b58 => ?_)
    · have hb := bI_0.mp b58
      rw [gr_wr_n hb]
      refine fr_iinc (pc := 76) (v := (nI (k + 1))) (L2 := [(0, .ref a), (1, .int (nI t)), (2, .int (nI (k + 1)))]) d_GR_findGroupsIn_76 rfl (fi_1 _) (by decide) rfl ?_
      refine fr_goto (pc := 79) (tgt := 40) d_GR_findGroupsIn_79 (by decide) ?_
      exact ih (k + 1) (by omega)
    · have hb := ts_nf (fun q => b58 (bI_0.mpr q))
      refine fr_aload_n (pc := 61) d_GR_findGroupsIn_61 rfl rfl ?_
      refine fr_get (pc := 62) (v := .ref a3) d_GR_findGroupsIn_62 fg_GR_18 (fw_up_at h0 m3) rfl ?_
      refine fr_iload_n (pc := 65) d_GR_findGroupsIn_65 rfl rfl ?_
      refine fr_dup2_11 (pc := 66) d_GR_findGroupsIn_66 rfl rfl ?_
      refine fr_laldN (pc := 67) (k := k) (n := 24) (f := (gr_wr (gr_it (gr_cp f2 f3 n) n t) t k)) d_GR_findGroupsIn_67 fw_up_self (by omega) (by decide) ?_
      refine fr_aload_n (pc := 68) d_GR_findGroupsIn_68 rfl rfl ?_
      refine fr_get (pc := 69) (v := .ref a3) d_GR_findGroupsIn_69 fg_GR_18 (fw_up_at h0 m3) rfl ?_
      refine fr_iload_n (pc := 72) d_GR_findGroupsIn_72 rfl rfl ?_
      refine fr_laldN (pc := 73) (k := t) (n := 24) (f := (gr_wr (gr_it (gr_cp f2 f3 n) n t) t k)) d_GR_findGroupsIn_73 fw_up_self (by omega) (by decide) ?_
      refine fr_st (st2 := [.long (gr_it (gr_cp f2 f3 n) n t t), .long (gr_it (gr_cp f2 f3 n) n t k), .int (nI k), .ref a3]) (by rw [gr_wr_k, gr_wr_t]) ?_
      refine fr_lor (pc := 74) d_GR_findGroupsIn_74 ?_
      refine fr_lastN (pc := 75) (k := k) (n := 24) (f := (gr_wr (gr_it (gr_cp f2 f3 n) n t) t k)) d_GR_findGroupsIn_75 fw_up_self (by omega) (by decide) ?_
      rw [fw_uu, gr_wr_s hb]
      refine fr_iinc (pc := 76) (v := (nI (k + 1))) (L2 := [(0, .ref a), (1, .int (nI t)), (2, .int (nI (k + 1)))]) d_GR_findGroupsIn_76 rfl (fi_1 _) (by decide) rfl ?_
      refine fr_goto (pc := 79) (tgt := 40) d_GR_findGroupsIn_79 (by decide) ?_
      exact ih (k + 1) (by omega)
theorem c_GR_fgi_o {g : fw_G} {nc ns : Nat} {w : fw_W} {a a1 a2 a3 a4 n : Nat} {f1 f2 f3 f4 : Nat → Int64} (h : gr_at g w a a1 a2 a3 a4 n f1 f2 f3 f4) : ∀ m t, t + m = n → ∀ L2 : List (Nat × Value), fw_R g m_GR_findGroupsIn (fw_pn (fw_up w a3 (gr_ar g (gr_it (gr_cp f2 f3 n) n n)))) nc ns (fw_up w a3 (gr_ar g (gr_it (gr_cp f2 f3 n) n t))) 30 [(0, .ref a), (1, .int (nI t))] [] := by
  obtain ⟨h0, q1, q2, q3, q4, hn, n12, n13, n14, n23, n24, n34, m1, m2, m3, m4⟩ := id h
  intro m
  induction m with
  | zero =>
    intro t ht _
    obtain rfl : n = t := by omega
    refine fr_iload_n (pc := 30) d_GR_findGroupsIn_30 rfl rfl ?_
    refine fr_aload_n (pc := 31) d_GR_findGroupsIn_31 rfl rfl ?_
    refine fr_get (pc := 32) (v := .int (nI n)) d_GR_findGroupsIn_32 fg_GR_34 (fw_up_at h0 m3) rfl ?_
    refine fr_icmp_ge (pc := 35) (tgt := 88) d_GR_findGroupsIn_35 (by decide) (fun _ => ?_) (fun b35 => absurd ((ni_le (by omega) (by omega)).mpr (Nat.le_refl _)) b35)
    exact fr_vret rfl d_GR_findGroupsIn_88 ⟨rfl, rfl⟩
  | succ m ih =>
    intro t ht _
    refine fr_iload_n (pc := 30) d_GR_findGroupsIn_30 rfl rfl ?_
    refine fr_aload_n (pc := 31) d_GR_findGroupsIn_31 rfl rfl ?_
    refine fr_get (pc := 32) (v := .int (nI n)) d_GR_findGroupsIn_32 fg_GR_34 (fw_up_at h0 m3) rfl ?_
    refine fr_icmp_ge (pc := 35) (tgt := 88) d_GR_findGroupsIn_35 (by decide) (fun b35 => absurd ((ni_le (by omega) (by omega)).mp b35) (by omega)) (fun _ => ?_)
    refine fr_iconst (pc := 38) (v := 0) d_GR_findGroupsIn_38 (by decide) ?_
    refine fr_istore_n (pc := 39) (L2 := [(0, .ref a), (1, .int (nI t)), (2, .int 0)]) d_GR_findGroupsIn_39 rfl (by decide) rfl ?_
    have hi := c_GR_fgi_i (nc := nc) (ns := ns) h (t := t) (by omega) ?_ n 0 (Nat.zero_add _)
    · rw [gr_wr_0] at hi; exact hi
    · refine fr_iinc (pc := 82) (v := (nI (t + 1))) (L2 := [(0, .ref a), (1, .int (nI (t + 1))), (2, .int (nI n))]) d_GR_findGroupsIn_82 rfl (fi_1 _) (by decide) rfl ?_
      refine fr_goto (pc := 85) (tgt := 30) d_GR_findGroupsIn_85 (by decide) ?_
      exact fr_L (L2 := [(0, .ref a), (1, .int (nI (t + 1)))]) (fun q hq => by simp only [List.mem_cons, List.not_mem_nil, or_false] at hq ⊢; rcases hq with rfl | rfl <;> simp) (ih (t + 1) (by omega) [])
theorem c_GR_fgi_1 {g : fw_G} {nc ns : Nat} {w : fw_W} {a a1 a2 a3 a4 n : Nat} {f1 f2 f3 f4 : Nat → Int64} (h : gr_at g w a a1 a2 a3 a4 n f1 f2 f3 f4) : ∀ m k, k + m = n → fw_R g m_GR_findGroupsIn (fw_pn (fw_up w a3 (gr_ar g (gr_it (gr_cp f2 f3 n) n n)))) nc ns (fw_up w a3 (gr_ar g (gr_cp f2 f3 k))) 2 [(0, .ref a), (1, .int (nI k))] [] := by
  obtain ⟨h0, q1, q2, q3, q4, hn, n12, n13, n14, n23, n24, n34, m1, m2, m3, m4⟩ := id h
  intro m
  induction m with
  | zero =>
    intro k hk
    obtain rfl : n = k := by omega
    refine fr_iload_n (pc := 2) d_GR_findGroupsIn_2 rfl rfl ?_
    refine fr_aload_n (pc := 3) d_GR_findGroupsIn_3 rfl rfl ?_
    refine fr_get (pc := 4) (v := .int (nI n)) d_GR_findGroupsIn_4 fg_GR_34 (fw_up_at h0 m3) rfl ?_
    refine fr_icmp_ge (pc := 7) (tgt := 28) d_GR_findGroupsIn_7 (by decide) (fun _ => ?_) (fun b7 => absurd ((ni_le (by omega) (by omega)).mpr (Nat.le_refl _)) b7)
    refine fr_iconst (pc := 28) (v := 0) d_GR_findGroupsIn_28 (by decide) ?_
    refine fr_istore_n (pc := 29) (L2 := [(0, .ref a), (1, .int 0)]) d_GR_findGroupsIn_29 rfl (by decide) rfl ?_
    exact c_GR_fgi_o h n 0 (Nat.zero_add _) []
  | succ m ih =>
    intro k hk
    refine fr_iload_n (pc := 2) d_GR_findGroupsIn_2 rfl rfl ?_
    refine fr_aload_n (pc := 3) d_GR_findGroupsIn_3 rfl rfl ?_
    refine fr_get (pc := 4) (v := .int (nI n)) d_GR_findGroupsIn_4 fg_GR_34 (fw_up_at h0 m3) rfl ?_
    refine fr_icmp_ge (pc := 7) (tgt := 28) d_GR_findGroupsIn_7 (by decide) (fun b7 => absurd ((ni_le (by omega) (by omega)).mp b7) (by omega)) (fun _ => ?_)
    refine fr_aload_n (pc := 10) d_GR_findGroupsIn_10 rfl rfl ?_
    refine fr_get (pc := 11) (v := .ref a3) d_GR_findGroupsIn_11 fg_GR_18 (fw_up_at h0 m3) rfl ?_
    refine fr_iload_n (pc := 14) d_GR_findGroupsIn_14 rfl rfl ?_
    refine fr_aload_n (pc := 15) d_GR_findGroupsIn_15 rfl rfl ?_
    refine fr_get (pc := 16) (v := .ref a2) d_GR_findGroupsIn_16 fg_GR_15 (fw_up_at h0 m3) rfl ?_
    refine fr_iload_n (pc := 19) d_GR_findGroupsIn_19 rfl rfl ?_
    refine fr_laldN (pc := 20) (k := k) (n := 24) (f := f2) d_GR_findGroupsIn_20 (fw_up_at q2 n23) (by omega) (by decide) ?_
    refine fr_lastN (pc := 21) (k := k) (n := 24) (f := (gr_cp f2 f3 k)) d_GR_findGroupsIn_21 fw_up_self (by omega) (by decide) ?_
    rw [fw_uu, gr_cp_s]
    refine fr_iinc (pc := 22) (v := (nI (k + 1))) (L2 := [(0, .ref a), (1, .int (nI (k + 1)))]) d_GR_findGroupsIn_22 rfl (fi_1 _) (by decide) rfl ?_
    refine fr_goto (pc := 25) (tgt := 2) d_GR_findGroupsIn_25 (by decide) ?_
    exact ih (k + 1) (by omega)
theorem c_GR_fgi {g : fw_G} {nc ns : Nat} {w : fw_W} {a a1 a2 a3 a4 n : Nat} {f1 f2 f3 f4 : Nat → Int64} (h : gr_at g w a a1 a2 a3 a4 n f1 f2 f3 f4) : fw_R g m_GR_findGroupsIn (fw_pn (fw_up w a3 (gr_ar g (gr_it (gr_cp f2 f3 n) n n)))) nc ns w 0 [(0, .ref a)] [] := by
  refine fr_iconst (pc := 0) (v := 0) d_GR_findGroupsIn_0 (by decide) ?_
  refine fr_istore_n (pc := 1) (L2 := [(0, .ref a), (1, .int 0)]) d_GR_findGroupsIn_1 rfl (by decide) rfl ?_
  have e := c_GR_fgi_1 (nc := nc) (ns := ns) h n 0 (Nat.zero_add _)
  rw [gr_cp_0, fw_up_id h.2.2.2.1] at e
  exact e
def gr_gu (x y : Int64) (f1 : Nat → Int64) : Nat → Int64
  | 0 => x
  | j + 1 => if bb y j = true then gr_gu x y f1 j ||| f1 j else gr_gu x y f1 j
def gr_us (f1 f3 f4 : Nat → Int64) (n k : Nat) : Nat → Int64 := fun i => if i < k then gr_gu (f1 i) (f3 i) f1 n else f4 i
theorem gr_us_s (f1 f3 f4 : Nat → Int64) (n k : Nat) : vp_updL (gr_us f1 f3 f4 n k) k (gr_gu (f1 k) (f3 k) f1 n) = gr_us f1 f3 f4 n (k + 1) := by
  funext j
  unfold vp_updL gr_us
  by_cases h : j = k
  · subst h; simp
  · by_cases h2 : j < k
    · simp [h, h2, Nat.lt_succ_of_lt h2]
    · simp [h, h2, show ¬ j < k + 1 by omega]
theorem gr_us_0 (f1 f3 f4 : Nat → Int64) (n : Nat) : gr_us f1 f3 f4 n 0 = f4 := by funext j; simp [gr_us]
theorem gr_LL (f : Nat → Int64) (k : Nat) (x y : Int64) : vp_updL (vp_updL f k x) k y = vp_updL f k y := by
  funext j
  by_cases h : j = k <;> simp [vp_updL, h]
theorem gr_Lk (f : Nat → Int64) (k : Nat) (x : Int64) : vp_updL f k x k = x := by simp [vp_updL]
theorem c_GR_fui_i {g : fw_G} {nc ns : Nat} {w : fw_W} {a a1 a2 a3 a4 n : Nat} {f1 f2 f3 f4 : Nat → Int64} (h : gr_at g w a a1 a2 a3 a4 n f1 f2 f3 f4) {k : Nat} (hk : k < n) (hx : fw_R g m_GR_findUsersIn (fw_pn (fw_up w a4 (gr_ar g (gr_us f1 f3 f4 n n)))) nc ns (fw_up w a4 (gr_ar g (gr_us f1 f3 f4 n (k + 1)))) 66 [(0, .ref a), (1, .int (nI k)), (2, .int (nI n))] []) : ∀ m j, j + m = n → fw_R g m_GR_findUsersIn (fw_pn (fw_up w a4 (gr_ar g (gr_us f1 f3 f4 n n)))) nc ns (fw_up w a4 (gr_ar g (vp_updL (gr_us f1 f3 f4 n k) k (gr_gu (f1 k) (f3 k) f1 j)))) 24 [(0, .ref a), (1, .int (nI k)), (2, .int (nI j))] [] := by
  obtain ⟨h0, q1, q2, q3, q4, hn, n12, n13, n14, n23, n24, n34, m1, m2, m3, m4⟩ := id h
  intro m
  induction m with
  | zero =>
    intro j hj
    obtain rfl : n = j := by omega
    refine fr_iload_n (pc := 24) d_GR_findUsersIn_24 rfl rfl ?_
    refine fr_aload_n (pc := 25) d_GR_findUsersIn_25 rfl rfl ?_
    refine fr_get (pc := 26) (v := .int (nI n)) d_GR_findUsersIn_26 fg_GR_34 (fw_up_at h0 m4) rfl ?_
    exact fr_icmp_ge (pc := 29) (tgt := 66) d_GR_findUsersIn_29 (by decide) (fun _ => by rw [gr_us_s]; exact hx) (fun b29 => absurd ((ni_le (by omega) (by omega)).mpr (Nat.le_refl _)) b29)
  | succ m ih =>
    intro j hj
    refine fr_iload_n (pc := 24) d_GR_findUsersIn_24 rfl rfl ?_
    refine fr_aload_n (pc := 25) d_GR_findUsersIn_25 rfl rfl ?_
    refine fr_get (pc := 26) (v := .int (nI n)) d_GR_findUsersIn_26 fg_GR_34 (fw_up_at h0 m4) rfl ?_
    refine fr_icmp_ge (pc := 29) (tgt := 66) d_GR_findUsersIn_29 (by decide) (fun b29 => absurd ((ni_le (by omega) (by omega)).mp b29) (by omega)) (fun _ => ?_)
    refine fr_aload_n (pc := 32) d_GR_findUsersIn_32 rfl rfl ?_
    refine fr_get (pc := 33) (v := .ref a3) d_GR_findUsersIn_33 fg_GR_18 (fw_up_at h0 m4) rfl ?_
    refine fr_iload_n (pc := 36) d_GR_findUsersIn_36 rfl rfl ?_
    refine fr_laldN (pc := 37) (k := k) (n := 24) (f := f3) d_GR_findUsersIn_37 (fw_up_at q3 n34) (by omega) (by decide) ?_
    refine fr_iload_n (pc := 38) d_GR_findUsersIn_38 rfl rfl ?_
    refine fr_calls_p (pc := 39) (nc := nc) (ns := ns) (N := m_FR_isSet) (rest := []) (as := [.long (f3 k), .int (nI j)]) (v := .int (bI (bb (f3 k) j))) d_GR_findUsersIn_39 k_FR_isSet lk_GR_24 sc_FR_isSet np_FR_isSet ⟨by decide, by decide, Nat.le_of_ble_eq_true rfl⟩ (Nat.le_of_ble_eq_true rfl) (c_FR_isSet (by omega)) rfl ?_
    refine fr_if_eq (pc := 42) (tgt := 60) d_GR_findUsersIn_42 (by decide) (fun b42 => ?_) (fun b42 => ?_)
    · have hb := bI_0.mp b42
      have e : gr_gu (f1 k) (f3 k) f1 j = gr_gu (f1 k) (f3 k) f1 (j + 1) := by rw [gr_gu, if_neg (by rw [hb]; decide)]
      rw [e]
      refine fr_iinc (pc := 60) (v := (nI (j + 1))) (L2 := [(0, .ref a), (1, .int (nI k)), (2, .int (nI (j + 1)))]) d_GR_findUsersIn_60 rfl (fi_1 _) (by decide) rfl ?_
      refine fr_goto (pc := 63) (tgt := 24) d_GR_findUsersIn_63 (by decide) ?_
      exact ih (j + 1) (by omega)
    · have hb := ts_nf (fun q => b42 (bI_0.mpr q))
      refine fr_aload_n (pc := 45) d_GR_findUsersIn_45 rfl rfl ?_
      refine fr_get (pc := 46) (v := .ref a4) d_GR_findUsersIn_46 fg_GR_21 (fw_up_at h0 m4) rfl ?_
      refine fr_iload_n (pc := 49) d_GR_findUsersIn_49 rfl rfl ?_
      refine fr_dup2_11 (pc := 50) d_GR_findUsersIn_50 rfl rfl ?_
      refine fr_laldN (pc := 51) (k := k) (n := 24) (f := (vp_updL (gr_us f1 f3 f4 n k) k (gr_gu (f1 k) (f3 k) f1 j))) d_GR_findUsersIn_51 fw_up_self (by omega) (by decide) ?_
      refine fr_aload_n (pc := 52) d_GR_findUsersIn_52 rfl rfl ?_
      refine fr_get (pc := 53) (v := .ref a1) d_GR_findUsersIn_53 fg_GR_9 (fw_up_at h0 m4) rfl ?_
      refine fr_iload_n (pc := 56) d_GR_findUsersIn_56 rfl rfl ?_
      refine fr_laldN (pc := 57) (k := j) (n := 24) (f := f1) d_GR_findUsersIn_57 (fw_up_at q1 n14) (by omega) (by decide) ?_
      refine fr_st (st2 := [.long (f1 j), .long (gr_gu (f1 k) (f3 k) f1 j), .int (nI k), .ref a4]) (by rw [gr_Lk]) ?_
      refine fr_lor (pc := 58) d_GR_findUsersIn_58 ?_
      refine fr_lastN (pc := 59) (k := k) (n := 24) (f := (vp_updL (gr_us f1 f3 f4 n k) k (gr_gu (f1 k) (f3 k) f1 j))) d_GR_findUsersIn_59 fw_up_self (by omega) (by decide) ?_
      have e : gr_gu (f1 k) (f3 k) f1 j ||| f1 j = gr_gu (f1 k) (f3 k) f1 (j + 1) := by rw [gr_gu, if_pos hb]
      rw [fw_uu, gr_LL, e]
      refine fr_iinc (pc := 60) (v := (nI (j + 1))) (L2 := [(0, .ref a), (1, .int (nI k)), (2, .int (nI (j + 1)))]) d_GR_findUsersIn_60 rfl (fi_1 _) (by decide) rfl ?_
      refine fr_goto (pc := 63) (tgt := 24) d_GR_findUsersIn_63 (by decide) ?_
      exact ih (j + 1) (by omega)
theorem c_GR_fui_o {g : fw_G} {nc ns : Nat} {w : fw_W} {a a1 a2 a3 a4 n : Nat} {f1 f2 f3 f4 : Nat → Int64} (h : gr_at g w a a1 a2 a3 a4 n f1 f2 f3 f4) : ∀ m k, k + m = n → fw_R g m_GR_findUsersIn (fw_pn (fw_up w a4 (gr_ar g (gr_us f1 f3 f4 n n)))) nc ns (fw_up w a4 (gr_ar g (gr_us f1 f3 f4 n k))) 2 [(0, .ref a), (1, .int (nI k))] [] := by
  obtain ⟨h0, q1, q2, q3, q4, hn, n12, n13, n14, n23, n24, n34, m1, m2, m3, m4⟩ := id h
  intro m
  induction m with
  | zero =>
    intro k hk
    obtain rfl : n = k := by omega
    refine fr_iload_n (pc := 2) d_GR_findUsersIn_2 rfl rfl ?_
    refine fr_aload_n (pc := 3) d_GR_findUsersIn_3 rfl rfl ?_
    refine fr_get (pc := 4) (v := .int (nI n)) d_GR_findUsersIn_4 fg_GR_34 (fw_up_at h0 m4) rfl ?_
    refine fr_icmp_ge (pc := 7) (tgt := 72) d_GR_findUsersIn_7 (by decide) (fun _ => ?_) (fun b7 => absurd ((ni_le (by omega) (by omega)).mpr (Nat.le_refl _)) b7)
    exact fr_vret rfl d_GR_findUsersIn_72 ⟨rfl, rfl⟩
  | succ m ih =>
    intro k hk
    refine fr_iload_n (pc := 2) d_GR_findUsersIn_2 rfl rfl ?_
    refine fr_aload_n (pc := 3) d_GR_findUsersIn_3 rfl rfl ?_
    refine fr_get (pc := 4) (v := .int (nI n)) d_GR_findUsersIn_4 fg_GR_34 (fw_up_at h0 m4) rfl ?_
    refine fr_icmp_ge (pc := 7) (tgt := 72) d_GR_findUsersIn_7 (by decide) (fun b7 => absurd ((ni_le (by omega) (by omega)).mp b7) (by omega)) (fun _ => ?_)
    refine fr_aload_n (pc := 10) d_GR_findUsersIn_10 rfl rfl ?_
    refine fr_get (pc := 11) (v := .ref a4) d_GR_findUsersIn_11 fg_GR_21 (fw_up_at h0 m4) rfl ?_
    refine fr_iload_n (pc := 14) d_GR_findUsersIn_14 rfl rfl ?_
    refine fr_aload_n (pc := 15) d_GR_findUsersIn_15 rfl rfl ?_
    refine fr_get (pc := 16) (v := .ref a1) d_GR_findUsersIn_16 fg_GR_9 (fw_up_at h0 m4) rfl ?_
    refine fr_iload_n (pc := 19) d_GR_findUsersIn_19 rfl rfl ?_
    refine fr_laldN (pc := 20) (k := k) (n := 24) (f := f1) d_GR_findUsersIn_20 (fw_up_at q1 n14) (by omega) (by decide) ?_
    refine fr_lastN (pc := 21) (k := k) (n := 24) (f := (gr_us f1 f3 f4 n k)) d_GR_findUsersIn_21 fw_up_self (by omega) (by decide) ?_
    rw [fw_uu]
    refine fr_iconst (pc := 22) (v := 0) d_GR_findUsersIn_22 (by decide) ?_
    refine fr_istore_n (pc := 23) (L2 := [(0, .ref a), (1, .int (nI k)), (2, .int 0)]) d_GR_findUsersIn_23 rfl (by decide) rfl ?_
    refine c_GR_fui_i (nc := nc) (ns := ns) h (k := k) (by omega) ?_ n 0 (Nat.zero_add _)
    refine fr_iinc (pc := 66) (v := (nI (k + 1))) (L2 := [(0, .ref a), (1, .int (nI (k + 1))), (2, .int (nI n))]) d_GR_findUsersIn_66 rfl (fi_1 _) (by decide) rfl ?_
    refine fr_goto (pc := 69) (tgt := 2) d_GR_findUsersIn_69 (by decide) ?_
    exact fr_L (L2 := [(0, .ref a), (1, .int (nI (k + 1)))]) (fun q hq => by simp only [List.mem_cons, List.not_mem_nil, or_false] at hq ⊢; rcases hq with rfl | rfl <;> simp) (ih (k + 1) (by omega))
theorem c_GR_fui {g : fw_G} {nc ns : Nat} {w : fw_W} {a a1 a2 a3 a4 n : Nat} {f1 f2 f3 f4 : Nat → Int64} (h : gr_at g w a a1 a2 a3 a4 n f1 f2 f3 f4) : fw_R g m_GR_findUsersIn (fw_pn (fw_up w a4 (gr_ar g (gr_us f1 f3 f4 n n)))) nc ns w 0 [(0, .ref a)] [] := by
  refine fr_iconst (pc := 0) (v := 0) d_GR_findUsersIn_0 (by decide) ?_
  refine fr_istore_n (pc := 1) (L2 := [(0, .ref a), (1, .int 0)]) d_GR_findUsersIn_1 rfl (by decide) rfl ?_
  have e := c_GR_fui_o (nc := nc) (ns := ns) h n 0 (Nat.zero_add _)
  rw [gr_us_0, fw_up_id h.2.2.2.2.1] at e
  exact e
theorem gr_at3 {g : fw_G} {w : fw_W} {a a1 a2 a3 a4 n : Nat} {f1 f2 f3 f4 f : Nat → Int64} (h : gr_at g w a a1 a2 a3 a4 n f1 f2 f3 f4) : gr_at g (fw_up w a3 (gr_ar g f)) a a1 a2 a3 a4 n f1 f2 f f4 := by
  obtain ⟨h0, q1, q2, q3, q4, hn, n12, n13, n14, n23, n24, n34, m1, m2, m3, m4⟩ := h
  exact ⟨fw_up_at h0 m3, fw_up_at q1 n13, fw_up_at q2 n23, fw_up_self, fw_up_at q4 (Ne.symm n34), hn, n12, n13, n14, n23, n24, n34, m1, m2, m3, m4⟩
theorem gr_at4 {g : fw_G} {w : fw_W} {a a1 a2 a3 a4 n : Nat} {f1 f2 f3 f4 f : Nat → Int64} (h : gr_at g w a a1 a2 a3 a4 n f1 f2 f3 f4) : gr_at g (fw_up w a4 (gr_ar g f)) a a1 a2 a3 a4 n f1 f2 f3 f := by
  obtain ⟨h0, q1, q2, q3, q4, hn, n12, n13, n14, n23, n24, n34, m1, m2, m3, m4⟩ := h
  exact ⟨fw_up_at h0 m4, fw_up_at q1 n14, fw_up_at q2 n24, fw_up_at q3 n34, fw_up_self, hn, n12, n13, n14, n23, n24, n34, m1, m2, m3, m4⟩
theorem gr_at1 {g : fw_G} {w : fw_W} {a a1 a2 a3 a4 n : Nat} {f1 f2 f3 f4 f : Nat → Int64} (h : gr_at g w a a1 a2 a3 a4 n f1 f2 f3 f4) : gr_at g (fw_up w a1 (gr_ar g f)) a a1 a2 a3 a4 n f f2 f3 f4 := by
  obtain ⟨h0, q1, q2, q3, q4, hn, n12, n13, n14, n23, n24, n34, m1, m2, m3, m4⟩ := h
  exact ⟨fw_up_at h0 m1, fw_up_self, fw_up_at q2 (Ne.symm n12), fw_up_at q3 (Ne.symm n13), fw_up_at q4 (Ne.symm n14), hn, n12, n13, n14, n23, n24, n34, m1, m2, m3, m4⟩
theorem gr_at2 {g : fw_G} {w : fw_W} {a a1 a2 a3 a4 n : Nat} {f1 f2 f3 f4 f : Nat → Int64} (h : gr_at g w a a1 a2 a3 a4 n f1 f2 f3 f4) : gr_at g (fw_up w a2 (gr_ar g f)) a a1 a2 a3 a4 n f1 f f3 f4 := by
  obtain ⟨h0, q1, q2, q3, q4, hn, n12, n13, n14, n23, n24, n34, m1, m2, m3, m4⟩ := h
  exact ⟨fw_up_at h0 m2, fw_up_at q1 n12, fw_up_self, fw_up_at q3 (Ne.symm n23), fw_up_at q4 (Ne.symm n24), hn, n12, n13, n14, n23, n24, n34, m1, m2, m3, m4⟩
def gr_tw (f : Nat → Int64) (i j : Nat) : Nat → Int64 := vp_updL f i (f i ^^^ ((1 : Int64) <<< ((nI j).toInt64 &&& 63)))
def gr_f3 (f2 f3 : Nat → Int64) (n : Nat) : Nat → Int64 := gr_it (gr_cp f2 f3 n) n n
def gr_f4 (f1 f2 f3 f4 : Nat → Int64) (n : Nat) : Nat → Int64 := gr_us f1 (gr_f3 f2 f3 n) f4 n n
def gr_tu (g : fw_G) (w : fw_W) (a1 a2 a3 a4 n : Nat) (f1 f2 f3 f4 : Nat → Int64) (i j : Nat) (b : Bool) : fw_W :=
  if b then fw_up (fw_up (fw_up w a2 (gr_ar g (gr_tw f2 i j))) a3 (gr_ar g (gr_f3 (gr_tw f2 i j) f3 n))) a4 (gr_ar g (gr_f4 f1 (gr_tw f2 i j) f3 f4 n))
  else fw_up (fw_up (fw_up w a1 (gr_ar g (gr_tw f1 i j))) a3 (gr_ar g (gr_f3 f2 f3 n))) a4 (gr_ar g (gr_f4 (gr_tw f1 i j) f2 f3 f4 n))
theorem c_GR_turn {g : fw_G} {nc ns : Nat} {w : fw_W} {a a1 a2 a3 a4 n : Nat} {f1 f2 f3 f4 : Nat → Int64} (h : gr_at g w a a1 a2 a3 a4 n f1 f2 f3 f4) {i j : Nat} {b : Bool} (hi : i < n) : fw_R g m_GR_turnMember (fw_pn (gr_tu g w a1 a2 a3 a4 n f1 f2 f3 f4 i j b)) nc ns w 0 [(0, .ref a), (1, .int (nI i)), (2, .int (nI j)), (3, .int (bI b))] [] := by
  obtain ⟨h0, q1, q2, q3, q4, hn, n12, n13, n14, n23, n24, n34, m1, m2, m3, m4⟩ := id h
  refine fr_iload_n (pc := 0) d_GR_turnMember_0 rfl rfl ?_
  refine fr_if_eq (pc := 1) (tgt := 11) d_GR_turnMember_1 (by decide) (fun b1 => ?_) (fun b1 => ?_)
  · have hb := bI_0.mp b1
    subst hb
    refine fr_aload_n (pc := 11) d_GR_turnMember_11 rfl rfl ?_
    refine fr_get (pc := 12) (v := .ref a1) d_GR_turnMember_12 fg_GR_9 h0 rfl ?_
    refine fr_astore (pc := 15) (L2 := [(0, .ref a), (1, .int (nI i)), (2, .int (nI j)), (3, .int (bI false)), (4, .ref a1)]) d_GR_turnMember_15 (by decide) rfl ?_
    refine fr_aload (pc := 17) d_GR_turnMember_17 rfl ?_
    refine fr_iload_n (pc := 19) d_GR_turnMember_19 rfl rfl ?_
    refine fr_dup2_11 (pc := 20) d_GR_turnMember_20 rfl rfl ?_
    refine fr_laldN (pc := 21) (k := i) (n := 24) (f := f1) d_GR_turnMember_21 q1 (by omega) (by decide) ?_
    refine fr_lconst (pc := 22) (v := 1) d_GR_turnMember_22 (by decide) ?_
    refine fr_iload_n (pc := 23) d_GR_turnMember_23 rfl rfl ?_
    refine fr_lshl (pc := 24) d_GR_turnMember_24 rfl ?_
    refine fr_lxor (pc := 25) d_GR_turnMember_25 ?_
    refine fr_lastN (pc := 26) (k := i) (n := 24) (f := f1) d_GR_turnMember_26 q1 (by omega) (by decide) ?_
    have k1 : gr_at g (fw_up w a1 (gr_ar g (gr_tw f1 i j))) a a1 a2 a3 a4 n (gr_tw f1 i j) f2 f3 f4 := gr_at1 h
    refine fr_aload_n (pc := 27) d_GR_turnMember_27 rfl rfl ?_
    refine fr_callv_n (pc := 28) (nc := nc) (ns := ns) (N := m_GR_findGroupsIn) (rest := []) (as := []) d_GR_turnMember_28 vc_GR_28 ⟨by decide, by decide, Nat.le_of_ble_eq_true rfl⟩ (Nat.le_of_ble_eq_true rfl) k1.1 (c_GR_fgi k1) rfl ?_
    have k2 := gr_at3 (f := gr_it (gr_cp f2 f3 n) n n) k1
    refine fr_aload_n (pc := 31) d_GR_turnMember_31 rfl rfl ?_
    refine fr_callv_n (pc := 32) (nc := nc) (ns := ns) (N := m_GR_findUsersIn) (rest := []) (as := []) d_GR_turnMember_32 vc_GR_31 ⟨by decide, by decide, Nat.le_of_ble_eq_true rfl⟩ (Nat.le_of_ble_eq_true rfl) k2.1 (c_GR_fui k2) rfl ?_
    exact fr_vret rfl d_GR_turnMember_35 ⟨rfl, rfl⟩
  · have hb : b = true := ts_nf (fun q => b1 (bI_0.mpr q))
    subst hb
    refine fr_aload_n (pc := 4) d_GR_turnMember_4 rfl rfl ?_
    refine fr_get (pc := 5) (v := .ref a2) d_GR_turnMember_5 fg_GR_15 h0 rfl ?_
    refine fr_goto (pc := 8) (tgt := 15) d_GR_turnMember_8 (by decide) ?_
    refine fr_astore (pc := 15) (L2 := [(0, .ref a), (1, .int (nI i)), (2, .int (nI j)), (3, .int (bI true)), (4, .ref a2)]) d_GR_turnMember_15 (by decide) rfl ?_
    refine fr_aload (pc := 17) d_GR_turnMember_17 rfl ?_
    refine fr_iload_n (pc := 19) d_GR_turnMember_19 rfl rfl ?_
    refine fr_dup2_11 (pc := 20) d_GR_turnMember_20 rfl rfl ?_
    refine fr_laldN (pc := 21) (k := i) (n := 24) (f := f2) d_GR_turnMember_21 q2 (by omega) (by decide) ?_
    refine fr_lconst (pc := 22) (v := 1) d_GR_turnMember_22 (by decide) ?_
    refine fr_iload_n (pc := 23) d_GR_turnMember_23 rfl rfl ?_
    refine fr_lshl (pc := 24) d_GR_turnMember_24 rfl ?_
    refine fr_lxor (pc := 25) d_GR_turnMember_25 ?_
    refine fr_lastN (pc := 26) (k := i) (n := 24) (f := f2) d_GR_turnMember_26 q2 (by omega) (by decide) ?_
    have k1 : gr_at g (fw_up w a2 (gr_ar g (gr_tw f2 i j))) a a1 a2 a3 a4 n f1 (gr_tw f2 i j) f3 f4 := gr_at2 h
    refine fr_aload_n (pc := 27) d_GR_turnMember_27 rfl rfl ?_
    refine fr_callv_n (pc := 28) (nc := nc) (ns := ns) (N := m_GR_findGroupsIn) (rest := []) (as := []) d_GR_turnMember_28 vc_GR_28 ⟨by decide, by decide, Nat.le_of_ble_eq_true rfl⟩ (Nat.le_of_ble_eq_true rfl) k1.1 (c_GR_fgi k1) rfl ?_
    have k2 := gr_at3 (f := gr_it (gr_cp (gr_tw f2 i j) f3 n) n n) k1
    refine fr_aload_n (pc := 31) d_GR_turnMember_31 rfl rfl ?_
    refine fr_callv_n (pc := 32) (nc := nc) (ns := ns) (N := m_GR_findUsersIn) (rest := []) (as := []) d_GR_turnMember_32 vc_GR_31 ⟨by decide, by decide, Nat.le_of_ble_eq_true rfl⟩ (Nat.le_of_ble_eq_true rfl) k2.1 (c_GR_fui k2) rfl ?_
    exact fr_vret rfl d_GR_turnMember_35 ⟨rfl, rfl⟩
end
section
def gr_rep (hu hg : Nat → Nat → Bool) (n us : Nat) (f1 f2 f3 f4 : Nat → Int64) : Prop :=
  (∀ i u, bb (f1 i) u = hu i u) ∧ (∀ i k, bb (f2 i) k = hg i k) ∧ (∀ i k, bb (f3 i) k = true ↔ cl_tc hg i k) ∧ (∀ i u, bb (f4 i) u = true ↔ ∃ k, cl_rt hg i k ∧ hu k u = true) ∧
  (∀ i u, hu i u = true → i < n ∧ u < us) ∧ (∀ i k, hg i k = true → i < n ∧ k < n) ∧ n ≤ 24 ∧ us ≤ 60
theorem gr_wr_b {F : Nat → Int64} {n t : Nat} (h0 : ∀ i k, n ≤ i → bb (F i) k = false) (a b : Nat) : bb (gr_wr F t n a) b = (bb (F a) b || (bb (F a) t && bb (F t) b)) := by
  unfold gr_wr
  by_cases ha : a < n
  · by_cases hb : bb (F a) t = true
    · rw [if_pos ⟨ha, hb⟩, bb_or, hb, Bool.true_and]
    · rw [if_neg (fun h => hb h.2)]
      have : bb (F a) t = false := by cases h : bb (F a) t; rfl; exact absurd h hb
      rw [this, Bool.false_and, Bool.or_false]
  · rw [if_neg (fun h => ha h.1), h0 a t (by omega), Bool.false_and, Bool.or_false]
theorem gr_tc_n {hg : Nat → Nat → Bool} {n : Nat} (hbd : ∀ i k, hg i k = true → i < n ∧ k < n) {i k : Nat} (h : cl_tc hg i k) : i < n ∧ k < n := by
  obtain ⟨c, hc, r⟩ := h
  refine ⟨(hbd _ _ hc).1, ?_⟩
  exact r (fun x => x < n) (hbd _ _ hc).2 (fun x y _ hxy => (hbd _ _ hxy).2)
theorem gr_it_spec {f2 f3 : Nat → Int64} {n : Nat} {hg : Nat → Nat → Bool} (hb : ∀ i k, bb (f2 i) k = hg i k) (hbd : ∀ i k, hg i k = true → i < n ∧ k < n) (h3 : ∀ i k, n ≤ i → bb (f3 i) k = false) :
    ∀ t, (∀ i k, n ≤ i → bb (gr_it (gr_cp f2 f3 n) n t i) k = false) ∧ (∀ a b, hg a b = true → bb (gr_it (gr_cp f2 f3 n) n t a) b = true) ∧ (∀ a b, bb (gr_it (gr_cp f2 f3 n) n t a) b = true → cl_tc hg a b) ∧
      (∀ i, i < t → ∀ a b, bb (gr_it (gr_cp f2 f3 n) n t a) i = true → bb (gr_it (gr_cp f2 f3 n) n t i) b = true → bb (gr_it (gr_cp f2 f3 n) n t a) b = true) := by
  intro t
  induction t with
  | zero =>
    refine ⟨fun i k hi => ?_, fun a b h => ?_, fun a b h => ?_, fun i hi => absurd hi (Nat.not_lt_zero _)⟩
    · show bb (gr_cp f2 f3 n i) k = false
      unfold gr_cp
      rw [if_neg (by omega)]
      exact h3 i k hi
    · show bb (gr_cp f2 f3 n a) b = true
      unfold gr_cp
      rw [if_pos (hbd a b h).1, hb, h]
    · have h' : bb (gr_cp f2 f3 n a) b = true := h
      unfold gr_cp at h'
      by_cases ha : a < n
      · rw [if_pos ha, hb] at h'
        exact cl_tc_one h'
      · rw [if_neg ha, h3 a b (by omega)] at h'
        cases h'
  | succ t ih =>
    obtain ⟨i0, i1, i2, i3⟩ := ih
    have e : ∀ a b, bb (gr_it (gr_cp f2 f3 n) n (t + 1) a) b = (bb (gr_it (gr_cp f2 f3 n) n t a) b || (bb (gr_it (gr_cp f2 f3 n) n t a) t && bb (gr_it (gr_cp f2 f3 n) n t t) b)) := fun a b => gr_wr_b i0 a b
    refine ⟨fun i k hi => ?_, fun a b h => ?_, fun a b h => ?_, ?_⟩
    · rw [e, i0 i k hi, i0 i t hi]; rfl
    · rw [e, i1 a b h]; rfl
    · rw [e, Bool.or_eq_true, Bool.and_eq_true] at h
      rcases h with h | ⟨u, v⟩
      · exact i2 a b h
      · exact cl_tc_trans (i2 _ _ u) (i2 _ _ v)
    · exact cl_war (W := fun a b => bb (gr_it (gr_cp f2 f3 n) n t a) b) (W2 := fun a b => bb (gr_it (gr_cp f2 f3 n) n (t + 1) a) b) i3 e
theorem gr_f3_spec {f2 f3 : Nat → Int64} {n : Nat} {hg : Nat → Nat → Bool} (hb : ∀ i k, bb (f2 i) k = hg i k) (hbd : ∀ i k, hg i k = true → i < n ∧ k < n) (h3 : ∀ i k, n ≤ i → bb (f3 i) k = false) (i k : Nat) : bb (gr_f3 f2 f3 n i) k = true ↔ cl_tc hg i k := by
  obtain ⟨-, i1, i2, i3⟩ := gr_it_spec hb hbd h3 n
  exact cl_end (W := fun a b => bb (gr_it (gr_cp f2 f3 n) n n a) b) i1 i2 i3 hbd
theorem gr_gu_spec (x y : Int64) (f1 : Nat → Int64) (u : Nat) : ∀ j, bb (gr_gu x y f1 j) u = true ↔ (bb x u = true ∨ ∃ k, k < j ∧ bb y k = true ∧ bb (f1 k) u = true) := by
  intro j
  induction j with
  | zero =>
    constructor
    · exact Or.inl
    · rintro (h | ⟨k, hk, -⟩)
      · exact h
      · exact absurd hk (Nat.not_lt_zero _)
  | succ j ih =>
    rw [gr_gu]
    by_cases hj : bb y j = true
    · rw [if_pos hj, bb_or, Bool.or_eq_true, ih]
      constructor
      · rintro ((h | ⟨k, hk, h1, h2⟩) | h)
        · exact Or.inl h
        · exact Or.inr ⟨k, by omega, h1, h2⟩
        · exact Or.inr ⟨j, by omega, hj, h⟩
      · rintro (h | ⟨k, hk, h1, h2⟩)
        · exact Or.inl (Or.inl h)
        · by_cases e : k = j
          · subst e; exact Or.inr h2
          · exact Or.inl (Or.inr ⟨k, by omega, h1, h2⟩)
    · rw [if_neg hj, ih]
      constructor
      · rintro (h | ⟨k, hk, h1, h2⟩)
        · exact Or.inl h
        · exact Or.inr ⟨k, by omega, h1, h2⟩
      · rintro (h | ⟨k, hk, h1, h2⟩)
        · exact Or.inl h
        · by_cases e : k = j
          · subst e; exact absurd h1 hj
          · exact Or.inr ⟨k, by omega, h1, h2⟩
theorem gr_f4_spec {f1 f2 f3 f4 : Nat → Int64} {n us : Nat} {hu hg : Nat → Nat → Bool} (h1 : ∀ i u, bb (f1 i) u = hu i u) (hb : ∀ i k, bb (f2 i) k = hg i k) (hbu : ∀ i u, hu i u = true → i < n ∧ u < us) (hbd : ∀ i k, hg i k = true → i < n ∧ k < n) (h3 : ∀ i k, n ≤ i → bb (f3 i) k = false) (h4 : ∀ i k, n ≤ i → bb (f4 i) k = false) (i u : Nat) :
    bb (gr_f4 f1 f2 f3 f4 n i) u = true ↔ ∃ k, cl_rt hg i k ∧ hu k u = true := by
  unfold gr_f4 gr_us
  by_cases hi : i < n
  · rw [if_pos hi, gr_gu_spec]
    constructor
    · rintro (h | ⟨k, hk, h5, h6⟩)
      · exact ⟨i, cl_rt_refl, by rw [← h1]; exact h⟩
      · exact ⟨k, cl_rt_iff.mpr (Or.inr ((gr_f3_spec hb hbd h3 i k).mp h5)), by rw [← h1]; exact h6⟩
    · rintro ⟨k, hr, hk⟩
      rcases cl_rt_iff.mp hr with rfl | hr
      · exact Or.inl (by rw [h1]; exact hk)
      · exact Or.inr ⟨k, (hbu _ _ hk).1, (gr_f3_spec hb hbd h3 i k).mpr hr, by rw [h1]; exact hk⟩
  · rw [if_neg hi, h4 i u (by omega)]
    constructor
    · intro h; cases h
    · rintro ⟨k, hr, hk⟩
      rcases cl_rt_iff.mp hr with rfl | hr
      · exact absurd (hbu _ _ hk).1 hi
      · exact absurd (gr_tc_n hbd hr).1 hi
theorem gr_rep3 {hu hg : Nat → Nat → Bool} {n us : Nat} {f1 f2 f3 f4 : Nat → Int64} (h : gr_rep hu hg n us f1 f2 f3 f4) (i k : Nat) (hi : n ≤ i) : bb (f3 i) k = false := by
  cases e : bb (f3 i) k with
  | false => rfl
  | true => exact absurd (gr_tc_n h.2.2.2.2.2.1 ((h.2.2.1 i k).mp e)).1 (by omega)
theorem gr_rep4 {hu hg : Nat → Nat → Bool} {n us : Nat} {f1 f2 f3 f4 : Nat → Int64} (h : gr_rep hu hg n us f1 f2 f3 f4) (i u : Nat) (hi : n ≤ i) : bb (f4 i) u = false := by
  cases e : bb (f4 i) u with
  | false => rfl
  | true =>
    obtain ⟨k, hr, hk⟩ := (h.2.2.2.1 i u).mp e
    rcases cl_rt_iff.mp hr with rfl | hr
    · exact absurd (h.2.2.2.2.1 _ _ hk).1 (by omega)
    · exact absurd (gr_tc_n h.2.2.2.2.2.1 hr).1 (by omega)
def gr_tg (h : Nat → Nat → Bool) (i j : Nat) : Nat → Nat → Bool := fun x y => if x = i ∧ y = j then !h x y else h x y
theorem gr_tw_b {f : Nat → Int64} {h : Nat → Nat → Bool} (hb : ∀ i k, bb (f i) k = h i k) {i j : Nat} (hj : j < 64) (x y : Nat) : bb (gr_tw f i j x) y = gr_tg h i j x y := by
  unfold gr_tw gr_tg vp_updL
  by_cases hy : y < 64
  · by_cases hx : x = i
    · subst hx
      rw [if_pos rfl, bb_xor, bb_shl hj hy, hb]
      by_cases e : y = j
      · subst e; simp
      · simp [e]
    · rw [if_neg hx, if_neg (fun q => hx q.1), hb]
  · have e1 : ∀ z : Int64, bb z y = false := fun z => bb_big (by omega)
    rw [e1, if_neg (fun q => hy (by omega)), ← hb, e1]
theorem gr_rep_u {hu hg : Nat → Nat → Bool} {n us : Nat} {f1 f2 f3 f4 : Nat → Int64} (h : gr_rep hu hg n us f1 f2 f3 f4) {i j : Nat} (hi : i < n) (hj : j < us) : gr_rep (gr_tg hu i j) hg n us (gr_tw f1 i j) f2 (gr_f3 f2 f3 n) (gr_f4 (gr_tw f1 i j) f2 f3 f4 n) := by
  have h3 := gr_rep3 h
  have h4 := gr_rep4 h
  obtain ⟨e1, e2, -, -, e5, e6, e7, e8⟩ := h
  have hb := gr_tw_b e1 (i := i) (j := j) (by omega)
  have hbu : ∀ x u, gr_tg hu i j x u = true → x < n ∧ u < us := by
    intro x u hx
    unfold gr_tg at hx
    split at hx
    · rename_i q; obtain ⟨rfl, rfl⟩ := q; exact ⟨hi, hj⟩
    · exact e5 x u hx
  exact ⟨hb, e2, gr_f3_spec e2 e6 h3, gr_f4_spec hb e2 hbu e6 h3 h4, hbu, e6, e7, e8⟩
theorem gr_rep_g {hu hg : Nat → Nat → Bool} {n us : Nat} {f1 f2 f3 f4 : Nat → Int64} (h : gr_rep hu hg n us f1 f2 f3 f4) {i j : Nat} (hi : i < n) (hj : j < n) : gr_rep hu (gr_tg hg i j) n us f1 (gr_tw f2 i j) (gr_f3 (gr_tw f2 i j) f3 n) (gr_f4 f1 (gr_tw f2 i j) f3 f4 n) := by
  have h3 := gr_rep3 h
  have h4 := gr_rep4 h
  obtain ⟨e1, e2, -, -, e5, e6, e7, e8⟩ := h
  have hb := gr_tw_b e2 (i := i) (j := j) (by omega)
  have hbd : ∀ x u, gr_tg hg i j x u = true → x < n ∧ u < n := by
    intro x u hx
    unfold gr_tg at hx
    split at hx
    · rename_i q; obtain ⟨rfl, rfl⟩ := q; exact ⟨hi, hj⟩
    · exact e6 x u hx
  exact ⟨e1, hb, gr_f3_spec hb hbd h3, gr_f4_spec e1 hb e5 hbd h3 h4, e5, hbd, e7, e8⟩
theorem gr_rep_0 : gr_rep (fun _ _ => false) (fun _ _ => false) 0 1 (fun _ => 0) (fun _ => 0) (fun _ => 0) (fun _ => 0) := by
  refine ⟨fun _ _ => bb_0 _, fun _ _ => bb_0 _, fun i k => ?_, fun i u => ?_, fun _ _ h => (by cases h), fun _ _ h => (by cases h), by omega, by omega⟩
  · rw [bb_0]
    constructor
    · intro h; cases h
    · rintro ⟨c, hc, -⟩; cases hc
  · rw [bb_0]
    constructor
    · intro h; cases h
    · rintro ⟨k, -, hk⟩; cases hk
theorem gr_rep_n {hu hg : Nat → Nat → Bool} {n us n2 us2 : Nat} {f1 f2 f3 f4 : Nat → Int64} (h : gr_rep hu hg n us f1 f2 f3 f4) (h1 : n ≤ n2) (h2 : n2 ≤ 24) (h3 : us ≤ us2) (h4 : us2 ≤ 60) : gr_rep hu hg n2 us2 f1 f2 f3 f4 := by
  obtain ⟨e1, e2, e3, e4, e5, e6, e7, e8⟩ := h
  exact ⟨e1, e2, e3, e4, fun i u q => ⟨by have := (e5 i u q).1; omega, by have := (e5 i u q).2; omega⟩, fun i k q => ⟨by have := (e6 i k q).1; omega, by have := (e6 i k q).2; omega⟩, h2, h4⟩
end
section
abbrev m_AL_size : fw_M := (⟨"java/util/ArrayList", "size", "()I"⟩, prog_21_method_8_code, 1, (some .int), { frames := 0, cells := 0, slots := 0, locals := 0 }, [])
theorem d_AL_size_0 : decode m_AL_size.2.1 0 = .ok (.aload_n 0, 1) := by decide +kernel
theorem d_AL_size_1 : decode m_AL_size.2.1 1 = .ok (.getfield 48, 3) := by decide +kernel
theorem d_AL_size_4 : decode m_AL_size.2.1 4 = .ok (.ireturn, 1) := by decide +kernel
theorem k_AL_size : fw_cal m_AL_size := ⟨by decide +kernel, by decide +kernel, (fw_t 6 (by decide +kernel)), Or.inl ⟨rfl, fw_t 374 (by decide +kernel)⟩⟩
abbrev m_AL_elementData : fw_M := (⟨"java/util/ArrayList", "elementData", "(I)Ljava/lang/Object;"⟩, prog_21_method_18_code, 2, (some (.object "java/lang/Object")), { frames := 0, cells := 0, slots := 0, locals := 0 }, [])
theorem d_AL_elementData_0 : decode m_AL_elementData.2.1 0 = .ok (.aload_n 0, 1) := by decide +kernel
theorem d_AL_elementData_1 : decode m_AL_elementData.2.1 1 = .ok (.getfield 9, 3) := by decide +kernel
theorem d_AL_elementData_4 : decode m_AL_elementData.2.1 4 = .ok (.iload_n 1, 1) := by decide +kernel
theorem d_AL_elementData_5 : decode m_AL_elementData.2.1 5 = .ok (.aaload, 1) := by decide +kernel
theorem d_AL_elementData_6 : decode m_AL_elementData.2.1 6 = .ok (.areturn, 1) := by decide +kernel
theorem k_AL_elementData : fw_cal m_AL_elementData := ⟨by decide +kernel, by decide +kernel, (fw_t 6 (by decide +kernel)), Or.inl ⟨rfl, fw_t 524 (by decide +kernel)⟩⟩
abbrev m_PC_checkIndex : fw_M := (⟨"jdk/internal/util/Preconditions", "checkIndex", "(IILjava/util/function/BiFunction;)I"⟩, prog_30_method_11_code, 3, (some .int), { frames := 0, cells := 0, slots := 0, locals := 0 }, [])
theorem d_PC_checkIndex_0 : decode m_PC_checkIndex.2.1 0 = .ok (.iload_n 0, 1) := by decide +kernel
theorem d_PC_checkIndex_1 : decode m_PC_checkIndex.2.1 1 = .ok (.ifCond .lt 8, 3) := by decide +kernel
theorem d_PC_checkIndex_4 : decode m_PC_checkIndex.2.1 4 = .ok (.iload_n 0, 1) := by decide +kernel
theorem d_PC_checkIndex_5 : decode m_PC_checkIndex.2.1 5 = .ok (.iload_n 1, 1) := by decide +kernel
theorem d_PC_checkIndex_6 : decode m_PC_checkIndex.2.1 6 = .ok (.if_icmp .lt 10, 3) := by decide +kernel
theorem d_PC_checkIndex_9 : decode m_PC_checkIndex.2.1 9 = .ok (.aload_n 2, 1) := by decide +kernel
theorem d_PC_checkIndex_10 : decode m_PC_checkIndex.2.1 10 = .ok (.iload_n 0, 1) := by decide +kernel
theorem d_PC_checkIndex_11 : decode m_PC_checkIndex.2.1 11 = .ok (.iload_n 1, 1) := by decide +kernel
theorem d_PC_checkIndex_12 : decode m_PC_checkIndex.2.1 12 = .ok (.invokestatic 95, 3) := by decide +kernel
theorem d_PC_checkIndex_15 : decode m_PC_checkIndex.2.1 15 = .ok (.athrow, 1) := by decide +kernel
theorem d_PC_checkIndex_16 : decode m_PC_checkIndex.2.1 16 = .ok (.iload_n 0, 1) := by decide +kernel
theorem d_PC_checkIndex_17 : decode m_PC_checkIndex.2.1 17 = .ok (.ireturn, 1) := by decide +kernel
theorem k_PC_checkIndex : fw_cal m_PC_checkIndex := ⟨by decide +kernel, by decide +kernel, (fw_t 20 (by decide +kernel)), Or.inl ⟨rfl, fw_t 483 (by decide +kernel)⟩⟩
abbrev m_OB_checkIndex : fw_M := (⟨"java/util/Objects", "checkIndex", "(II)I"⟩, prog_26_method_17_code, 2, (some .int), { frames := 1, cells := 0, slots := 0, locals := 22 }, [])
theorem d_OB_checkIndex_0 : decode m_OB_checkIndex.2.1 0 = .ok (.iload_n 0, 1) := by decide +kernel
theorem d_OB_checkIndex_1 : decode m_OB_checkIndex.2.1 1 = .ok (.iload_n 1, 1) := by decide +kernel
theorem d_OB_checkIndex_2 : decode m_OB_checkIndex.2.1 2 = .ok (.aconst_null, 1) := by decide +kernel
theorem d_OB_checkIndex_3 : decode m_OB_checkIndex.2.1 3 = .ok (.invokestatic 105, 3) := by decide +kernel
theorem d_OB_checkIndex_6 : decode m_OB_checkIndex.2.1 6 = .ok (.ireturn, 1) := by decide +kernel
theorem k_OB_checkIndex : fw_cal m_OB_checkIndex := ⟨by decide +kernel, by decide +kernel, (fw_t 19 (by decide +kernel)), Or.inl ⟨rfl, fw_t 480 (by decide +kernel)⟩⟩
abbrev m_AL_get : fw_M := (⟨"java/util/ArrayList", "get", "(I)Ljava/lang/Object;"⟩, prog_21_method_20_code, 2, (some (.object "java/lang/Object")), { frames := 2, cells := 0, slots := 0, locals := 43 }, [])
theorem d_AL_get_0 : decode m_AL_get.2.1 0 = .ok (.iload_n 1, 1) := by decide +kernel
theorem d_AL_get_1 : decode m_AL_get.2.1 1 = .ok (.aload_n 0, 1) := by decide +kernel
theorem d_AL_get_2 : decode m_AL_get.2.1 2 = .ok (.getfield 48, 3) := by decide +kernel
theorem d_AL_get_5 : decode m_AL_get.2.1 5 = .ok (.invokestatic 118, 3) := by decide +kernel
theorem d_AL_get_8 : decode m_AL_get.2.1 8 = .ok (.pop, 1) := by decide +kernel
theorem d_AL_get_9 : decode m_AL_get.2.1 9 = .ok (.aload_n 0, 1) := by decide +kernel
theorem d_AL_get_10 : decode m_AL_get.2.1 10 = .ok (.iload_n 1, 1) := by decide +kernel
theorem d_AL_get_11 : decode m_AL_get.2.1 11 = .ok (.invokevirtual 123, 3) := by decide +kernel
theorem d_AL_get_14 : decode m_AL_get.2.1 14 = .ok (.areturn, 1) := by decide +kernel
theorem k_AL_get : fw_cal m_AL_get := ⟨by decide +kernel, by decide +kernel, (fw_t 6 (by decide +kernel)), Or.inl ⟨rfl, fw_t 520 (by decide +kernel)⟩⟩
abbrev m_AL_rangeCheckForAdd : fw_M := (⟨"java/util/ArrayList", "rangeCheckForAdd", "(I)V"⟩, prog_21_method_45_code, 2, none, { frames := 0, cells := 0, slots := 0, locals := 0 }, [])
theorem d_AL_rangeCheckForAdd_0 : decode m_AL_rangeCheckForAdd.2.1 0 = .ok (.iload_n 1, 1) := by decide +kernel
theorem d_AL_rangeCheckForAdd_1 : decode m_AL_rangeCheckForAdd.2.1 1 = .ok (.aload_n 0, 1) := by decide +kernel
theorem d_AL_rangeCheckForAdd_2 : decode m_AL_rangeCheckForAdd.2.1 2 = .ok (.getfield 48, 3) := by decide +kernel
theorem d_AL_rangeCheckForAdd_5 : decode m_AL_rangeCheckForAdd.2.1 5 = .ok (.if_icmp .gt 7, 3) := by decide +kernel
theorem d_AL_rangeCheckForAdd_8 : decode m_AL_rangeCheckForAdd.2.1 8 = .ok (.iload_n 1, 1) := by decide +kernel
theorem d_AL_rangeCheckForAdd_9 : decode m_AL_rangeCheckForAdd.2.1 9 = .ok (.ifCond .ge 16, 3) := by decide +kernel
theorem d_AL_rangeCheckForAdd_12 : decode m_AL_rangeCheckForAdd.2.1 12 = .ok (.new 187, 3) := by decide +kernel
theorem d_AL_rangeCheckForAdd_15 : decode m_AL_rangeCheckForAdd.2.1 15 = .ok (.dup, 1) := by decide +kernel
theorem d_AL_rangeCheckForAdd_16 : decode m_AL_rangeCheckForAdd.2.1 16 = .ok (.aload_n 0, 1) := by decide +kernel
theorem d_AL_rangeCheckForAdd_17 : decode m_AL_rangeCheckForAdd.2.1 17 = .ok (.iload_n 1, 1) := by decide +kernel
theorem d_AL_rangeCheckForAdd_18 : decode m_AL_rangeCheckForAdd.2.1 18 = .ok (.invokevirtual 198, 3) := by decide +kernel
theorem d_AL_rangeCheckForAdd_21 : decode m_AL_rangeCheckForAdd.2.1 21 = .ok (.invokespecial 193, 3) := by decide +kernel
theorem d_AL_rangeCheckForAdd_24 : decode m_AL_rangeCheckForAdd.2.1 24 = .ok (.athrow, 1) := by decide +kernel
theorem d_AL_rangeCheckForAdd_25 : decode m_AL_rangeCheckForAdd.2.1 25 = .ok (.return_, 1) := by decide +kernel
theorem k_AL_rangeCheckForAdd : fw_cal m_AL_rangeCheckForAdd := ⟨by decide +kernel, by decide +kernel, (fw_t 6 (by decide +kernel)), Or.inl ⟨rfl, fw_t 418 (by decide +kernel)⟩⟩
abbrev m_MA_max : fw_M := (⟨"java/lang/Math", "max", "(II)I"⟩, prog_14_method_65_code, 2, (some .int), { frames := 0, cells := 0, slots := 0, locals := 0 }, [])
theorem d_MA_max_0 : decode m_MA_max.2.1 0 = .ok (.iload_n 0, 1) := by decide +kernel
theorem d_MA_max_1 : decode m_MA_max.2.1 1 = .ok (.iload_n 1, 1) := by decide +kernel
theorem d_MA_max_2 : decode m_MA_max.2.1 2 = .ok (.if_icmp .lt 7, 3) := by decide +kernel
theorem d_MA_max_5 : decode m_MA_max.2.1 5 = .ok (.iload_n 0, 1) := by decide +kernel
theorem d_MA_max_6 : decode m_MA_max.2.1 6 = .ok (.goto 4, 3) := by decide +kernel
theorem d_MA_max_9 : decode m_MA_max.2.1 9 = .ok (.iload_n 1, 1) := by decide +kernel
theorem d_MA_max_10 : decode m_MA_max.2.1 10 = .ok (.ireturn, 1) := by decide +kernel
theorem k_MA_max : fw_cal m_MA_max := ⟨by decide +kernel, by decide +kernel, (fw_t 14 (by decide +kernel)), Or.inl ⟨rfl, fw_t 353 (by decide +kernel)⟩⟩
abbrev m_MA_min : fw_M := (⟨"java/lang/Math", "min", "(II)I"⟩, prog_14_method_69_code, 2, (some .int), { frames := 0, cells := 0, slots := 0, locals := 0 }, [])
theorem d_MA_min_0 : decode m_MA_min.2.1 0 = .ok (.iload_n 0, 1) := by decide +kernel
theorem d_MA_min_1 : decode m_MA_min.2.1 1 = .ok (.iload_n 1, 1) := by decide +kernel
theorem d_MA_min_2 : decode m_MA_min.2.1 2 = .ok (.if_icmp .gt 7, 3) := by decide +kernel
theorem d_MA_min_5 : decode m_MA_min.2.1 5 = .ok (.iload_n 0, 1) := by decide +kernel
theorem d_MA_min_6 : decode m_MA_min.2.1 6 = .ok (.goto 4, 3) := by decide +kernel
theorem d_MA_min_9 : decode m_MA_min.2.1 9 = .ok (.iload_n 1, 1) := by decide +kernel
theorem d_MA_min_10 : decode m_MA_min.2.1 10 = .ok (.ireturn, 1) := by decide +kernel
theorem k_MA_min : fw_cal m_MA_min := ⟨by decide +kernel, by decide +kernel, (fw_t 14 (by decide +kernel)), Or.inl ⟨rfl, fw_t 459 (by decide +kernel)⟩⟩
abbrev m_AP_newLength : fw_M := (⟨"jdk/internal/util/ArraysSupport", "newLength", "(III)I"⟩, prog_29_method_27_code, 4, (some .int), { frames := 1, cells := 0, slots := 0, locals := 22 }, [])
theorem d_AP_newLength_0 : decode m_AP_newLength.2.1 0 = .ok (.iload_n 0, 1) := by decide +kernel
theorem d_AP_newLength_1 : decode m_AP_newLength.2.1 1 = .ok (.iload_n 1, 1) := by decide +kernel
theorem d_AP_newLength_2 : decode m_AP_newLength.2.1 2 = .ok (.iload_n 2, 1) := by decide +kernel
theorem d_AP_newLength_3 : decode m_AP_newLength.2.1 3 = .ok (.invokestatic 194, 3) := by decide +kernel
theorem d_AP_newLength_6 : decode m_AP_newLength.2.1 6 = .ok (.iadd, 1) := by decide +kernel
theorem d_AP_newLength_7 : decode m_AP_newLength.2.1 7 = .ok (.istore_n 3, 1) := by decide +kernel
theorem d_AP_newLength_8 : decode m_AP_newLength.2.1 8 = .ok (.iconst 0, 1) := by decide +kernel
theorem d_AP_newLength_9 : decode m_AP_newLength.2.1 9 = .ok (.iload_n 3, 1) := by decide +kernel
theorem d_AP_newLength_10 : decode m_AP_newLength.2.1 10 = .ok (.if_icmp .ge 11, 3) := by decide +kernel
theorem d_AP_newLength_13 : decode m_AP_newLength.2.1 13 = .ok (.iload_n 3, 1) := by decide +kernel
theorem d_AP_newLength_14 : decode m_AP_newLength.2.1 14 = .ok (.ldc 200, 2) := by decide +kernel
theorem d_AP_newLength_16 : decode m_AP_newLength.2.1 16 = .ok (.if_icmp .gt 5, 3) := by decide +kernel
theorem d_AP_newLength_19 : decode m_AP_newLength.2.1 19 = .ok (.iload_n 3, 1) := by decide +kernel
theorem d_AP_newLength_20 : decode m_AP_newLength.2.1 20 = .ok (.ireturn, 1) := by decide +kernel
theorem d_AP_newLength_21 : decode m_AP_newLength.2.1 21 = .ok (.iload_n 0, 1) := by decide +kernel
theorem d_AP_newLength_22 : decode m_AP_newLength.2.1 22 = .ok (.iload_n 1, 1) := by decide +kernel
theorem d_AP_newLength_23 : decode m_AP_newLength.2.1 23 = .ok (.invokestatic 201, 3) := by decide +kernel
theorem d_AP_newLength_26 : decode m_AP_newLength.2.1 26 = .ok (.ireturn, 1) := by decide +kernel
theorem k_AP_newLength : fw_cal m_AP_newLength := ⟨by decide +kernel, by decide +kernel, (fw_t 16 (by decide +kernel)), Or.inl ⟨rfl, fw_t 429 (by decide +kernel)⟩⟩
abbrev m_AS_copyOf2 : fw_M := (⟨"java/util/Arrays", "copyOf", "([Ljava/lang/Object;ILjava/lang/Class;)[Ljava/lang/Object;"⟩, prog_22_method_120_code, 4, (some (.array (.object "java/lang/Object"))), { frames := 1, cells := 1, slots := 15, locals := 70 }, [])
theorem d_AS_copyOf2_0 : decode m_AS_copyOf2.2.1 0 = .ok (.aload_n 2, 1) := by decide +kernel
theorem d_AS_copyOf2_1 : decode m_AS_copyOf2.2.1 1 = .ok (.ldc 110, 2) := by decide +kernel
theorem d_AS_copyOf2_3 : decode m_AS_copyOf2.2.1 3 = .ok (.if_acmp .ne 10, 3) := by decide +kernel
theorem d_AS_copyOf2_6 : decode m_AS_copyOf2.2.1 6 = .ok (.iload_n 1, 1) := by decide +kernel
theorem d_AS_copyOf2_7 : decode m_AS_copyOf2.2.1 7 = .ok (.anewarray 2, 3) := by decide +kernel
theorem d_AS_copyOf2_10 : decode m_AS_copyOf2.2.1 10 = .ok (.goto 14, 3) := by decide +kernel
theorem d_AS_copyOf2_13 : decode m_AS_copyOf2.2.1 13 = .ok (.aload_n 2, 1) := by decide +kernel
theorem d_AS_copyOf2_14 : decode m_AS_copyOf2.2.1 14 = .ok (.invokevirtual 90, 3) := by decide +kernel
theorem d_AS_copyOf2_17 : decode m_AS_copyOf2.2.1 17 = .ok (.iload_n 1, 1) := by decide +kernel
theorem d_AS_copyOf2_18 : decode m_AS_copyOf2.2.1 18 = .ok (.invokestatic 95, 3) := by decide +kernel
theorem d_AS_copyOf2_21 : decode m_AS_copyOf2.2.1 21 = .ok (.checkcast 110, 3) := by decide +kernel
theorem d_AS_copyOf2_24 : decode m_AS_copyOf2.2.1 24 = .ok (.astore_n 3, 1) := by decide +kernel
theorem d_AS_copyOf2_25 : decode m_AS_copyOf2.2.1 25 = .ok (.aload_n 0, 1) := by decide +kernel
theorem d_AS_copyOf2_26 : decode m_AS_copyOf2.2.1 26 = .ok (.iconst 0, 1) := by decide +kernel
theorem d_AS_copyOf2_27 : decode m_AS_copyOf2.2.1 27 = .ok (.aload_n 3, 1) := by decide +kernel
theorem d_AS_copyOf2_28 : decode m_AS_copyOf2.2.1 28 = .ok (.iconst 0, 1) := by decide +kernel
theorem d_AS_copyOf2_29 : decode m_AS_copyOf2.2.1 29 = .ok (.aload_n 0, 1) := by decide +kernel
theorem d_AS_copyOf2_30 : decode m_AS_copyOf2.2.1 30 = .ok (.arraylength, 1) := by decide +kernel
theorem d_AS_copyOf2_31 : decode m_AS_copyOf2.2.1 31 = .ok (.iload_n 1, 1) := by decide +kernel
theorem d_AS_copyOf2_32 : decode m_AS_copyOf2.2.1 32 = .ok (.invokestatic 304, 3) := by decide +kernel
theorem d_AS_copyOf2_35 : decode m_AS_copyOf2.2.1 35 = .ok (.invokestatic 150, 3) := by decide +kernel
theorem d_AS_copyOf2_38 : decode m_AS_copyOf2.2.1 38 = .ok (.aload_n 3, 1) := by decide +kernel
theorem d_AS_copyOf2_39 : decode m_AS_copyOf2.2.1 39 = .ok (.areturn, 1) := by decide +kernel
theorem k_AS_copyOf2 : fw_cal m_AS_copyOf2 := ⟨by decide +kernel, by decide +kernel, (fw_t 17 (by decide +kernel)), Or.inl ⟨rfl, fw_t 453 (by decide +kernel)⟩⟩
abbrev m_AS_copyOf1 : fw_M := (⟨"java/util/Arrays", "copyOf", "([Ljava/lang/Object;I)[Ljava/lang/Object;"⟩, prog_22_method_119_code, 2, (some (.array (.object "java/lang/Object"))), { frames := 2, cells := 1, slots := 15, locals := 93 }, [])
theorem d_AS_copyOf1_0 : decode m_AS_copyOf1.2.1 0 = .ok (.aload_n 0, 1) := by decide +kernel
theorem d_AS_copyOf1_1 : decode m_AS_copyOf1.2.1 1 = .ok (.iload_n 1, 1) := by decide +kernel
theorem d_AS_copyOf1_2 : decode m_AS_copyOf1.2.1 2 = .ok (.aload_n 0, 1) := by decide +kernel
theorem d_AS_copyOf1_3 : decode m_AS_copyOf1.2.1 3 = .ok (.invokevirtual 86, 3) := by decide +kernel
theorem d_AS_copyOf1_6 : decode m_AS_copyOf1.2.1 6 = .ok (.invokestatic 300, 3) := by decide +kernel
theorem d_AS_copyOf1_9 : decode m_AS_copyOf1.2.1 9 = .ok (.areturn, 1) := by decide +kernel
theorem k_AS_copyOf1 : fw_cal m_AS_copyOf1 := ⟨by decide +kernel, by decide +kernel, (fw_t 17 (by decide +kernel)), Or.inl ⟨rfl, fw_t 437 (by decide +kernel)⟩⟩
abbrev m_AL_grow2 : fw_M := (⟨"java/util/ArrayList", "grow", "(I)[Ljava/lang/Object;"⟩, prog_21_method_6_code, 4, (some (.array (.object "java/lang/Object"))), { frames := 3, cells := 2, slots := 25, locals := 114 }, [])
theorem d_AL_grow2_0 : decode m_AL_grow2.2.1 0 = .ok (.aload_n 0, 1) := by decide +kernel
theorem d_AL_grow2_1 : decode m_AL_grow2.2.1 1 = .ok (.getfield 9, 3) := by decide +kernel
theorem d_AL_grow2_4 : decode m_AL_grow2.2.1 4 = .ok (.arraylength, 1) := by decide +kernel
theorem d_AL_grow2_5 : decode m_AL_grow2.2.1 5 = .ok (.istore_n 2, 1) := by decide +kernel
theorem d_AL_grow2_6 : decode m_AL_grow2.2.1 6 = .ok (.iload_n 2, 1) := by decide +kernel
theorem d_AL_grow2_7 : decode m_AL_grow2.2.1 7 = .ok (.ifCond .gt 13, 3) := by decide +kernel
theorem d_AL_grow2_10 : decode m_AL_grow2.2.1 10 = .ok (.aload_n 0, 1) := by decide +kernel
theorem d_AL_grow2_11 : decode m_AL_grow2.2.1 11 = .ok (.getfield 9, 3) := by decide +kernel
theorem d_AL_grow2_14 : decode m_AL_grow2.2.1 14 = .ok (.getstatic 39, 3) := by decide +kernel
theorem d_AL_grow2_17 : decode m_AL_grow2.2.1 17 = .ok (.if_acmp .eq 28, 3) := by decide +kernel
theorem d_AL_grow2_20 : decode m_AL_grow2.2.1 20 = .ok (.iload_n 2, 1) := by decide +kernel
theorem d_AL_grow2_21 : decode m_AL_grow2.2.1 21 = .ok (.iload_n 1, 1) := by decide +kernel
theorem d_AL_grow2_22 : decode m_AL_grow2.2.1 22 = .ok (.iload_n 2, 1) := by decide +kernel
theorem d_AL_grow2_23 : decode m_AL_grow2.2.1 23 = .ok (.isub, 1) := by decide +kernel
theorem d_AL_grow2_24 : decode m_AL_grow2.2.1 24 = .ok (.iload_n 2, 1) := by decide +kernel
theorem d_AL_grow2_25 : decode m_AL_grow2.2.1 25 = .ok (.iconst 1, 1) := by decide +kernel
theorem d_AL_grow2_26 : decode m_AL_grow2.2.1 26 = .ok (.ishr, 1) := by decide +kernel
theorem d_AL_grow2_27 : decode m_AL_grow2.2.1 27 = .ok (.invokestatic 73, 3) := by decide +kernel
theorem d_AL_grow2_30 : decode m_AL_grow2.2.1 30 = .ok (.istore_n 3, 1) := by decide +kernel
theorem d_AL_grow2_31 : decode m_AL_grow2.2.1 31 = .ok (.aload_n 0, 1) := by decide +kernel
theorem d_AL_grow2_32 : decode m_AL_grow2.2.1 32 = .ok (.aload_n 0, 1) := by decide +kernel
theorem d_AL_grow2_33 : decode m_AL_grow2.2.1 33 = .ok (.getfield 9, 3) := by decide +kernel
theorem d_AL_grow2_36 : decode m_AL_grow2.2.1 36 = .ok (.iload_n 3, 1) := by decide +kernel
theorem d_AL_grow2_37 : decode m_AL_grow2.2.1 37 = .ok (.invokestatic 66, 3) := by decide +kernel
theorem d_AL_grow2_40 : decode m_AL_grow2.2.1 40 = .ok (.dup_x1, 1) := by decide +kernel
theorem d_AL_grow2_41 : decode m_AL_grow2.2.1 41 = .ok (.putfield 9, 3) := by decide +kernel
theorem d_AL_grow2_44 : decode m_AL_grow2.2.1 44 = .ok (.areturn, 1) := by decide +kernel
theorem d_AL_grow2_45 : decode m_AL_grow2.2.1 45 = .ok (.aload_n 0, 1) := by decide +kernel
theorem d_AL_grow2_46 : decode m_AL_grow2.2.1 46 = .ok (.bipush 10, 2) := by decide +kernel
theorem d_AL_grow2_48 : decode m_AL_grow2.2.1 48 = .ok (.iload_n 1, 1) := by decide +kernel
theorem d_AL_grow2_49 : decode m_AL_grow2.2.1 49 = .ok (.invokestatic 79, 3) := by decide +kernel
theorem d_AL_grow2_52 : decode m_AL_grow2.2.1 52 = .ok (.anewarray 7, 3) := by decide +kernel
theorem d_AL_grow2_55 : decode m_AL_grow2.2.1 55 = .ok (.dup_x1, 1) := by decide +kernel
theorem d_AL_grow2_56 : decode m_AL_grow2.2.1 56 = .ok (.putfield 9, 3) := by decide +kernel
theorem d_AL_grow2_59 : decode m_AL_grow2.2.1 59 = .ok (.areturn, 1) := by decide +kernel
theorem k_AL_grow2 : fw_cal m_AL_grow2 := ⟨by decide +kernel, by decide +kernel, (fw_t 6 (by decide +kernel)), Or.inl ⟨rfl, fw_t 426 (by decide +kernel)⟩⟩
abbrev m_AL_grow1 : fw_M := (⟨"java/util/ArrayList", "grow", "()[Ljava/lang/Object;"⟩, prog_21_method_7_code, 1, (some (.array (.object "java/lang/Object"))), { frames := 4, cells := 2, slots := 25, locals := 137 }, [])
theorem d_AL_grow1_0 : decode m_AL_grow1.2.1 0 = .ok (.aload_n 0, 1) := by decide +kernel
theorem d_AL_grow1_1 : decode m_AL_grow1.2.1 1 = .ok (.aload_n 0, 1) := by decide +kernel
theorem d_AL_grow1_2 : decode m_AL_grow1.2.1 2 = .ok (.getfield 48, 3) := by decide +kernel
theorem d_AL_grow1_5 : decode m_AL_grow1.2.1 5 = .ok (.iconst 1, 1) := by decide +kernel
theorem d_AL_grow1_6 : decode m_AL_grow1.2.1 6 = .ok (.iadd, 1) := by decide +kernel
theorem d_AL_grow1_7 : decode m_AL_grow1.2.1 7 = .ok (.invokevirtual 69, 3) := by decide +kernel
theorem d_AL_grow1_10 : decode m_AL_grow1.2.1 10 = .ok (.areturn, 1) := by decide +kernel
theorem k_AL_grow1 : fw_cal m_AL_grow1 := ⟨by decide +kernel, by decide +kernel, (fw_t 6 (by decide +kernel)), Or.inl ⟨rfl, fw_t 422 (by decide +kernel)⟩⟩
abbrev m_AL_add : fw_M := (⟨"java/util/ArrayList", "add", "(ILjava/lang/Object;)V"⟩, prog_21_method_26_code, 5, none, { frames := 5, cells := 2, slots := 25, locals := 157 }, [])
theorem d_AL_add_0 : decode m_AL_add.2.1 0 = .ok (.aload_n 0, 1) := by decide +kernel
theorem d_AL_add_1 : decode m_AL_add.2.1 1 = .ok (.iload_n 1, 1) := by decide +kernel
theorem d_AL_add_2 : decode m_AL_add.2.1 2 = .ok (.invokevirtual 135, 3) := by decide +kernel
theorem d_AL_add_5 : decode m_AL_add.2.1 5 = .ok (.aload_n 0, 1) := by decide +kernel
theorem d_AL_add_6 : decode m_AL_add.2.1 6 = .ok (.dup, 1) := by decide +kernel
theorem d_AL_add_7 : decode m_AL_add.2.1 7 = .ok (.getfield 63, 3) := by decide +kernel
theorem d_AL_add_10 : decode m_AL_add.2.1 10 = .ok (.iconst 1, 1) := by decide +kernel
theorem d_AL_add_11 : decode m_AL_add.2.1 11 = .ok (.iadd, 1) := by decide +kernel
theorem d_AL_add_12 : decode m_AL_add.2.1 12 = .ok (.putfield 63, 3) := by decide +kernel
theorem d_AL_add_15 : decode m_AL_add.2.1 15 = .ok (.aload_n 0, 1) := by decide +kernel
theorem d_AL_add_16 : decode m_AL_add.2.1 16 = .ok (.getfield 48, 3) := by decide +kernel
theorem d_AL_add_19 : decode m_AL_add.2.1 19 = .ok (.dup, 1) := by decide +kernel
theorem d_AL_add_20 : decode m_AL_add.2.1 20 = .ok (.istore_n 3, 1) := by decide +kernel
theorem d_AL_add_21 : decode m_AL_add.2.1 21 = .ok (.aload_n 0, 1) := by decide +kernel
theorem d_AL_add_22 : decode m_AL_add.2.1 22 = .ok (.getfield 9, 3) := by decide +kernel
theorem d_AL_add_25 : decode m_AL_add.2.1 25 = .ok (.dup, 1) := by decide +kernel
theorem d_AL_add_26 : decode m_AL_add.2.1 26 = .ok (.astore 4, 2) := by decide +kernel
theorem d_AL_add_28 : decode m_AL_add.2.1 28 = .ok (.arraylength, 1) := by decide +kernel
theorem d_AL_add_29 : decode m_AL_add.2.1 29 = .ok (.if_icmp .ne 9, 3) := by decide +kernel
theorem d_AL_add_32 : decode m_AL_add.2.1 32 = .ok (.aload_n 0, 1) := by decide +kernel
theorem d_AL_add_33 : decode m_AL_add.2.1 33 = .ok (.invokevirtual 129, 3) := by decide +kernel
theorem d_AL_add_36 : decode m_AL_add.2.1 36 = .ok (.astore 4, 2) := by decide +kernel
theorem d_AL_add_38 : decode m_AL_add.2.1 38 = .ok (.aload 4, 2) := by decide +kernel
theorem d_AL_add_40 : decode m_AL_add.2.1 40 = .ok (.iload_n 1, 1) := by decide +kernel
theorem d_AL_add_41 : decode m_AL_add.2.1 41 = .ok (.aload 4, 2) := by decide +kernel
theorem d_AL_add_43 : decode m_AL_add.2.1 43 = .ok (.iload_n 1, 1) := by decide +kernel
theorem d_AL_add_44 : decode m_AL_add.2.1 44 = .ok (.iconst 1, 1) := by decide +kernel
theorem d_AL_add_45 : decode m_AL_add.2.1 45 = .ok (.iadd, 1) := by decide +kernel
theorem d_AL_add_46 : decode m_AL_add.2.1 46 = .ok (.iload_n 3, 1) := by decide +kernel
theorem d_AL_add_47 : decode m_AL_add.2.1 47 = .ok (.iload_n 1, 1) := by decide +kernel
theorem d_AL_add_48 : decode m_AL_add.2.1 48 = .ok (.isub, 1) := by decide +kernel
theorem d_AL_add_49 : decode m_AL_add.2.1 49 = .ok (.invokestatic 112, 3) := by decide +kernel
theorem d_AL_add_52 : decode m_AL_add.2.1 52 = .ok (.aload 4, 2) := by decide +kernel
theorem d_AL_add_54 : decode m_AL_add.2.1 54 = .ok (.iload_n 1, 1) := by decide +kernel
theorem d_AL_add_55 : decode m_AL_add.2.1 55 = .ok (.aload_n 2, 1) := by decide +kernel
theorem d_AL_add_56 : decode m_AL_add.2.1 56 = .ok (.aastore, 1) := by decide +kernel
theorem d_AL_add_57 : decode m_AL_add.2.1 57 = .ok (.aload_n 0, 1) := by decide +kernel
theorem d_AL_add_58 : decode m_AL_add.2.1 58 = .ok (.iload_n 3, 1) := by decide +kernel
theorem d_AL_add_59 : decode m_AL_add.2.1 59 = .ok (.iconst 1, 1) := by decide +kernel
theorem d_AL_add_60 : decode m_AL_add.2.1 60 = .ok (.iadd, 1) := by decide +kernel
theorem d_AL_add_61 : decode m_AL_add.2.1 61 = .ok (.putfield 48, 3) := by decide +kernel
theorem d_AL_add_64 : decode m_AL_add.2.1 64 = .ok (.return_, 1) := by decide +kernel
theorem k_AL_add : fw_cal m_AL_add := ⟨by decide +kernel, by decide +kernel, (fw_t 6 (by decide +kernel)), Or.inl ⟨rfl, fw_t 414 (by decide +kernel)⟩⟩
abbrev m_AL_fastRemove : fw_M := (⟨"java/util/ArrayList", "fastRemove", "([Ljava/lang/Object;I)V"⟩, prog_21_method_39_code, 4, none, { frames := 1, cells := 0, slots := 0, locals := 70 }, [])
theorem d_AL_fastRemove_0 : decode m_AL_fastRemove.2.1 0 = .ok (.aload_n 0, 1) := by decide +kernel
theorem d_AL_fastRemove_1 : decode m_AL_fastRemove.2.1 1 = .ok (.dup, 1) := by decide +kernel
theorem d_AL_fastRemove_2 : decode m_AL_fastRemove.2.1 2 = .ok (.getfield 63, 3) := by decide +kernel
theorem d_AL_fastRemove_5 : decode m_AL_fastRemove.2.1 5 = .ok (.iconst 1, 1) := by decide +kernel
theorem d_AL_fastRemove_6 : decode m_AL_fastRemove.2.1 6 = .ok (.iadd, 1) := by decide +kernel
theorem d_AL_fastRemove_7 : decode m_AL_fastRemove.2.1 7 = .ok (.putfield 63, 3) := by decide +kernel
theorem d_AL_fastRemove_10 : decode m_AL_fastRemove.2.1 10 = .ok (.aload_n 0, 1) := by decide +kernel
theorem d_AL_fastRemove_11 : decode m_AL_fastRemove.2.1 11 = .ok (.getfield 48, 3) := by decide +kernel
theorem d_AL_fastRemove_14 : decode m_AL_fastRemove.2.1 14 = .ok (.iconst 1, 1) := by decide +kernel
theorem d_AL_fastRemove_15 : decode m_AL_fastRemove.2.1 15 = .ok (.isub, 1) := by decide +kernel
theorem d_AL_fastRemove_16 : decode m_AL_fastRemove.2.1 16 = .ok (.dup, 1) := by decide +kernel
theorem d_AL_fastRemove_17 : decode m_AL_fastRemove.2.1 17 = .ok (.istore_n 3, 1) := by decide +kernel
theorem d_AL_fastRemove_18 : decode m_AL_fastRemove.2.1 18 = .ok (.iload_n 2, 1) := by decide +kernel
theorem d_AL_fastRemove_19 : decode m_AL_fastRemove.2.1 19 = .ok (.if_icmp .le 15, 3) := by decide +kernel
theorem d_AL_fastRemove_22 : decode m_AL_fastRemove.2.1 22 = .ok (.aload_n 1, 1) := by decide +kernel
theorem d_AL_fastRemove_23 : decode m_AL_fastRemove.2.1 23 = .ok (.iload_n 2, 1) := by decide +kernel
theorem d_AL_fastRemove_24 : decode m_AL_fastRemove.2.1 24 = .ok (.iconst 1, 1) := by decide +kernel
theorem d_AL_fastRemove_25 : decode m_AL_fastRemove.2.1 25 = .ok (.iadd, 1) := by decide +kernel
theorem d_AL_fastRemove_26 : decode m_AL_fastRemove.2.1 26 = .ok (.aload_n 1, 1) := by decide +kernel
theorem d_AL_fastRemove_27 : decode m_AL_fastRemove.2.1 27 = .ok (.iload_n 2, 1) := by decide +kernel
theorem d_AL_fastRemove_28 : decode m_AL_fastRemove.2.1 28 = .ok (.iload_n 3, 1) := by decide +kernel
theorem d_AL_fastRemove_29 : decode m_AL_fastRemove.2.1 29 = .ok (.iload_n 2, 1) := by decide +kernel
theorem d_AL_fastRemove_30 : decode m_AL_fastRemove.2.1 30 = .ok (.isub, 1) := by decide +kernel
theorem d_AL_fastRemove_31 : decode m_AL_fastRemove.2.1 31 = .ok (.invokestatic 112, 3) := by decide +kernel
theorem d_AL_fastRemove_34 : decode m_AL_fastRemove.2.1 34 = .ok (.aload_n 1, 1) := by decide +kernel
theorem d_AL_fastRemove_35 : decode m_AL_fastRemove.2.1 35 = .ok (.aload_n 0, 1) := by decide +kernel
theorem d_AL_fastRemove_36 : decode m_AL_fastRemove.2.1 36 = .ok (.iload_n 3, 1) := by decide +kernel
theorem d_AL_fastRemove_37 : decode m_AL_fastRemove.2.1 37 = .ok (.dup_x1, 1) := by decide +kernel
theorem d_AL_fastRemove_38 : decode m_AL_fastRemove.2.1 38 = .ok (.putfield 48, 3) := by decide +kernel
theorem d_AL_fastRemove_41 : decode m_AL_fastRemove.2.1 41 = .ok (.aconst_null, 1) := by decide +kernel
theorem d_AL_fastRemove_42 : decode m_AL_fastRemove.2.1 42 = .ok (.aastore, 1) := by decide +kernel
theorem d_AL_fastRemove_43 : decode m_AL_fastRemove.2.1 43 = .ok (.return_, 1) := by decide +kernel
theorem k_AL_fastRemove : fw_cal m_AL_fastRemove := ⟨by decide +kernel, by decide +kernel, (fw_t 6 (by decide +kernel)), Or.inl ⟨rfl, fw_t 487 (by decide +kernel)⟩⟩
abbrev m_AL_remove : fw_M := (⟨"java/util/ArrayList", "remove", "(I)Ljava/lang/Object;"⟩, prog_21_method_29_code, 4, (some (.object "java/lang/Object")), { frames := 2, cells := 0, slots := 0, locals := 93 }, [])
theorem d_AL_remove_0 : decode m_AL_remove.2.1 0 = .ok (.iload_n 1, 1) := by decide +kernel
theorem d_AL_remove_1 : decode m_AL_remove.2.1 1 = .ok (.aload_n 0, 1) := by decide +kernel
theorem d_AL_remove_2 : decode m_AL_remove.2.1 2 = .ok (.getfield 48, 3) := by decide +kernel
theorem d_AL_remove_5 : decode m_AL_remove.2.1 5 = .ok (.invokestatic 118, 3) := by decide +kernel
theorem d_AL_remove_8 : decode m_AL_remove.2.1 8 = .ok (.pop, 1) := by decide +kernel
theorem d_AL_remove_9 : decode m_AL_remove.2.1 9 = .ok (.aload_n 0, 1) := by decide +kernel
theorem d_AL_remove_10 : decode m_AL_remove.2.1 10 = .ok (.getfield 9, 3) := by decide +kernel
theorem d_AL_remove_13 : decode m_AL_remove.2.1 13 = .ok (.astore_n 2, 1) := by decide +kernel
theorem d_AL_remove_14 : decode m_AL_remove.2.1 14 = .ok (.aload_n 2, 1) := by decide +kernel
theorem d_AL_remove_15 : decode m_AL_remove.2.1 15 = .ok (.iload_n 1, 1) := by decide +kernel
theorem d_AL_remove_16 : decode m_AL_remove.2.1 16 = .ok (.aaload, 1) := by decide +kernel
theorem d_AL_remove_17 : decode m_AL_remove.2.1 17 = .ok (.astore_n 3, 1) := by decide +kernel
theorem d_AL_remove_18 : decode m_AL_remove.2.1 18 = .ok (.aload_n 0, 1) := by decide +kernel
theorem d_AL_remove_19 : decode m_AL_remove.2.1 19 = .ok (.aload_n 2, 1) := by decide +kernel
theorem d_AL_remove_20 : decode m_AL_remove.2.1 20 = .ok (.iload_n 1, 1) := by decide +kernel
theorem d_AL_remove_21 : decode m_AL_remove.2.1 21 = .ok (.invokevirtual 144, 3) := by decide +kernel
theorem d_AL_remove_24 : decode m_AL_remove.2.1 24 = .ok (.aload_n 3, 1) := by decide +kernel
theorem d_AL_remove_25 : decode m_AL_remove.2.1 25 = .ok (.areturn, 1) := by decide +kernel
theorem k_AL_remove : fw_cal m_AL_remove := ⟨by decide +kernel, by decide +kernel, (fw_t 6 (by decide +kernel)), Or.inl ⟨rfl, fw_t 477 (by decide +kernel)⟩⟩
abbrev m_BC_init : fw_M := (⟨"java/util/AbstractCollection", "<init>", "()V"⟩, prog_19_method_1_code, 1, none, { frames := 1, cells := 0, slots := 0, locals := 20 }, [])
theorem d_BC_init_0 : decode m_BC_init.2.1 0 = .ok (.aload_n 0, 1) := by decide +kernel
theorem d_BC_init_1 : decode m_BC_init.2.1 1 = .ok (.invokespecial 1, 3) := by decide +kernel
theorem d_BC_init_4 : decode m_BC_init.2.1 4 = .ok (.return_, 1) := by decide +kernel
theorem k_BC_init : fw_cal m_BC_init := ⟨by decide +kernel, by decide +kernel, (fw_t 4 (by decide +kernel)), Or.inl ⟨rfl, fw_t 72 (by decide +kernel)⟩⟩
abbrev m_BL_init : fw_M := (⟨"java/util/AbstractList", "<init>", "()V"⟩, prog_20_method_1_code, 1, none, { frames := 2, cells := 0, slots := 0, locals := 40 }, [])
theorem d_BL_init_0 : decode m_BL_init.2.1 0 = .ok (.aload_n 0, 1) := by decide +kernel
theorem d_BL_init_1 : decode m_BL_init.2.1 1 = .ok (.invokespecial 1, 3) := by decide +kernel
theorem d_BL_init_4 : decode m_BL_init.2.1 4 = .ok (.aload_n 0, 1) := by decide +kernel
theorem d_BL_init_5 : decode m_BL_init.2.1 5 = .ok (.iconst 0, 1) := by decide +kernel
theorem d_BL_init_6 : decode m_BL_init.2.1 6 = .ok (.putfield 7, 3) := by decide +kernel
theorem d_BL_init_9 : decode m_BL_init.2.1 9 = .ok (.return_, 1) := by decide +kernel
theorem k_BL_init : fw_cal m_BL_init := ⟨by decide +kernel, by decide +kernel, (fw_t 5 (by decide +kernel)), Or.inl ⟨rfl, fw_t 69 (by decide +kernel)⟩⟩
abbrev m_AL_init : fw_M := (⟨"java/util/ArrayList", "<init>", "()V"⟩, prog_21_method_2_code, 1, none, { frames := 3, cells := 0, slots := 0, locals := 60 }, [])
theorem d_AL_init_0 : decode m_AL_init.2.1 0 = .ok (.aload_n 0, 1) := by decide +kernel
theorem d_AL_init_1 : decode m_AL_init.2.1 1 = .ok (.invokespecial 1, 3) := by decide +kernel
theorem d_AL_init_4 : decode m_AL_init.2.1 4 = .ok (.aload_n 0, 1) := by decide +kernel
theorem d_AL_init_5 : decode m_AL_init.2.1 5 = .ok (.getstatic 39, 3) := by decide +kernel
theorem d_AL_init_8 : decode m_AL_init.2.1 8 = .ok (.putfield 9, 3) := by decide +kernel
theorem d_AL_init_11 : decode m_AL_init.2.1 11 = .ok (.return_, 1) := by decide +kernel
theorem k_AL_init : fw_cal m_AL_init := ⟨by decide +kernel, by decide +kernel, (fw_t 6 (by decide +kernel)), Or.inl ⟨rfl, fw_t 66 (by decide +kernel)⟩⟩
theorem fg_AL_48 : fw_fld "java/util/ArrayList" 48 4 2 := ⟨_, _, _, "java/util/ArrayList", rfl, by decide, fw_i4, Or.inl rfl, Or.inl (fw_t 77 (by decide +kernel))⟩
theorem fg_AL_9 : fw_fld "java/util/ArrayList" 9 4 1 := ⟨_, _, _, "java/util/ArrayList", rfl, by decide, fw_i4, Or.inl rfl, Or.inl (fw_t 76 (by decide +kernel))⟩
theorem lk_OB_105 : fw_lk "java/util/Objects" 105 ⟨"jdk/internal/util/Preconditions", "checkIndex", "(IILjava/util/function/BiFunction;)I"⟩ := Or.inl (fw_t 481 (by decide +kernel))
theorem np_PC_checkIndex : fw_np ⟨"jdk/internal/util/Preconditions", "checkIndex", "(IILjava/util/function/BiFunction;)I"⟩ 3 := by unfold fw_np; decide +kernel
theorem sc_PC_checkIndex : Cond.static ⟨"jdk/internal/util/Preconditions", "checkIndex", "(IILjava/util/function/BiFunction;)I"⟩ ∈ lw_tbl := (fw_t 482 (by decide +kernel))
theorem lk_AL_118 : fw_lk "java/util/ArrayList" 118 ⟨"java/util/Objects", "checkIndex", "(II)I"⟩ := Or.inl (fw_t 478 (by decide +kernel))
theorem np_OB_checkIndex : fw_np ⟨"java/util/Objects", "checkIndex", "(II)I"⟩ 2 := by unfold fw_np; decide +kernel
theorem sc_OB_checkIndex : Cond.static ⟨"java/util/Objects", "checkIndex", "(II)I"⟩ ∈ lw_tbl := (fw_t 479 (by decide +kernel))
theorem vc_AL_123 : fw_vc "java/util/ArrayList" 123 4 m_AL_elementData 1 := ⟨k_AL_elementData, Or.inl (fw_t 521 (by decide +kernel)), (fw_t 522 (by decide +kernel)), ⟨_, _, _, rfl, (fw_t 523 (by decide +kernel))⟩, by unfold fw_np; decide +kernel⟩
theorem lk_AP_194 : fw_lk "jdk/internal/util/ArraysSupport" 194 ⟨"java/lang/Math", "max", "(II)I"⟩ := Or.inl (fw_t 430 (by decide +kernel))
theorem np_MA_max : fw_np ⟨"java/lang/Math", "max", "(II)I"⟩ 2 := by unfold fw_np; decide +kernel
theorem sc_MA_max : Cond.static ⟨"java/lang/Math", "max", "(II)I"⟩ ∈ lw_tbl := (fw_t 352 (by decide +kernel))
theorem lk_AP_201 : fw_lk "jdk/internal/util/ArraysSupport" 201 ⟨"jdk/internal/util/ArraysSupport", "hugeLength", "(II)I"⟩ := Or.inl (fw_t 432 (by decide +kernel))
theorem np_AP_hugeLength : fw_np ⟨"jdk/internal/util/ArraysSupport", "hugeLength", "(II)I"⟩ 2 := by unfold fw_np; decide +kernel
theorem sc_AP_hugeLength : Cond.static ⟨"jdk/internal/util/ArraysSupport", "hugeLength", "(II)I"⟩ ∈ lw_tbl := (fw_t 433 (by decide +kernel))
theorem lk_AS_304 : fw_lk "java/util/Arrays" 304 ⟨"java/lang/Math", "min", "(II)I"⟩ := Or.inl (fw_t 457 (by decide +kernel))
theorem np_MA_min : fw_np ⟨"java/lang/Math", "min", "(II)I"⟩ 2 := by unfold fw_np; decide +kernel
theorem sc_MA_min : Cond.static ⟨"java/lang/Math", "min", "(II)I"⟩ ∈ lw_tbl := (fw_t 458 (by decide +kernel))
theorem lk_AS_300 : fw_lk "java/util/Arrays" 300 ⟨"java/util/Arrays", "copyOf", "([Ljava/lang/Object;ILjava/lang/Class;)[Ljava/lang/Object;"⟩ := Or.inl (fw_t 451 (by decide +kernel))
theorem np_AS_copyOf2 : fw_np ⟨"java/util/Arrays", "copyOf", "([Ljava/lang/Object;ILjava/lang/Class;)[Ljava/lang/Object;"⟩ 3 := by unfold fw_np; decide +kernel
theorem sc_AS_copyOf2 : Cond.static ⟨"java/util/Arrays", "copyOf", "([Ljava/lang/Object;ILjava/lang/Class;)[Ljava/lang/Object;"⟩ ∈ lw_tbl := (fw_t 452 (by decide +kernel))
theorem lk_AL_73 : fw_lk "java/util/ArrayList" 73 ⟨"jdk/internal/util/ArraysSupport", "newLength", "(III)I"⟩ := Or.inl (fw_t 427 (by decide +kernel))
theorem np_AP_newLength : fw_np ⟨"jdk/internal/util/ArraysSupport", "newLength", "(III)I"⟩ 3 := by unfold fw_np; decide +kernel
theorem sc_AP_newLength : Cond.static ⟨"jdk/internal/util/ArraysSupport", "newLength", "(III)I"⟩ ∈ lw_tbl := (fw_t 428 (by decide +kernel))
theorem lk_AL_66 : fw_lk "java/util/ArrayList" 66 ⟨"java/util/Arrays", "copyOf", "([Ljava/lang/Object;I)[Ljava/lang/Object;"⟩ := Or.inl (fw_t 435 (by decide +kernel))
theorem np_AS_copyOf1 : fw_np ⟨"java/util/Arrays", "copyOf", "([Ljava/lang/Object;I)[Ljava/lang/Object;"⟩ 2 := by unfold fw_np; decide +kernel
theorem sc_AS_copyOf1 : Cond.static ⟨"java/util/Arrays", "copyOf", "([Ljava/lang/Object;I)[Ljava/lang/Object;"⟩ ∈ lw_tbl := (fw_t 436 (by decide +kernel))
theorem fp_AL_grow2_9 : fw_fpt m_AL_grow2 9 4 1 (.array (.object "java/lang/Object")) := ⟨_, _, _, "java/util/ArrayList", rfl, by decide, fw_i4, Or.inl rfl, ⟨fw_y4, fw_k4⟩, fw_n4, by decide +kernel, Or.inl ⟨rfl, Or.inl (fw_t 76 (by decide +kernel))⟩⟩
theorem lk_AL_79 : fw_lk "java/util/ArrayList" 79 ⟨"java/lang/Math", "max", "(II)I"⟩ := Or.inl (fw_t 463 (by decide +kernel))
theorem vc_AL_69 : fw_vc "java/util/ArrayList" 69 4 m_AL_grow2 1 := ⟨k_AL_grow2, Or.inl (fw_t 423 (by decide +kernel)), (fw_t 425 (by decide +kernel)), ⟨_, _, _, rfl, (fw_p 13 (by decide +kernel))⟩, by unfold fw_np; decide +kernel⟩
theorem vc_AL_135 : fw_vc "java/util/ArrayList" 135 4 m_AL_rangeCheckForAdd 1 := ⟨k_AL_rangeCheckForAdd, Or.inl (fw_t 415 (by decide +kernel)), (fw_t 417 (by decide +kernel)), ⟨_, _, _, rfl, (fw_p 11 (by decide +kernel))⟩, by unfold fw_np; decide +kernel⟩
theorem fg_AL_63 : fw_fld "java/util/ArrayList" 63 4 0 := ⟨_, _, _, "java/util/ArrayList", rfl, by decide, fw_i4, Or.inr (fw_t 80 (by decide +kernel)), Or.inl (fw_t 79 (by decide +kernel))⟩
theorem fp_AL_add_63 : fw_fpt m_AL_add 63 4 0 .int := ⟨_, _, _, "java/util/ArrayList", rfl, by decide, fw_i4, Or.inr (fw_t 80 (by decide +kernel)), ⟨fw_y4, fw_k4⟩, fw_n4, by decide +kernel, Or.inl ⟨rfl, Or.inl (fw_t 79 (by decide +kernel))⟩⟩
theorem vc_AL_129 : fw_vc "java/util/ArrayList" 129 4 m_AL_grow1 0 := ⟨k_AL_grow1, Or.inl (fw_t 419 (by decide +kernel)), (fw_t 421 (by decide +kernel)), ⟨_, _, _, rfl, (fw_p 12 (by decide +kernel))⟩, by unfold fw_np; decide +kernel⟩
theorem fp_AL_add_48 : fw_fpt m_AL_add 48 4 2 .int := ⟨_, _, _, "java/util/ArrayList", rfl, by decide, fw_i4, Or.inl rfl, ⟨fw_y4, fw_k4⟩, fw_n4, by decide +kernel, Or.inl ⟨rfl, Or.inl (fw_t 77 (by decide +kernel))⟩⟩
theorem fp_AL_fastRemove_63 : fw_fpt m_AL_fastRemove 63 4 0 .int := ⟨_, _, _, "java/util/ArrayList", rfl, by decide, fw_i4, Or.inr (fw_t 80 (by decide +kernel)), ⟨fw_y4, fw_k4⟩, fw_n4, by decide +kernel, Or.inl ⟨rfl, Or.inl (fw_t 79 (by decide +kernel))⟩⟩
theorem fp_AL_fastRemove_48 : fw_fpt m_AL_fastRemove 48 4 2 .int := ⟨_, _, _, "java/util/ArrayList", rfl, by decide, fw_i4, Or.inl rfl, ⟨fw_y4, fw_k4⟩, fw_n4, by decide +kernel, Or.inl ⟨rfl, Or.inl (fw_t 77 (by decide +kernel))⟩⟩
theorem vc_AL_144 : fw_vc "java/util/ArrayList" 144 4 m_AL_fastRemove 2 := ⟨k_AL_fastRemove, Or.inl (fw_t 484 (by decide +kernel)), (fw_t 486 (by decide +kernel)), ⟨_, _, _, rfl, (fw_p 14 (by decide +kernel))⟩, by unfold fw_np; decide +kernel⟩
theorem lk_BL_1 : fw_lk "java/util/AbstractList" 1 ⟨"java/util/AbstractCollection", "<init>", "()V"⟩ := Or.inl (fw_t 70 (by decide +kernel))
theorem np_BC_init : fw_np ⟨"java/util/AbstractCollection", "<init>", "()V"⟩ 0 := by unfold fw_np; decide +kernel
theorem im_BC_init : Cond.instanceMethod ⟨"java/util/AbstractCollection", "<init>", "()V"⟩ ∈ lw_tbl := (fw_t 71 (by decide +kernel))
theorem lk_AL_1 : fw_lk "java/util/ArrayList" 1 ⟨"java/util/AbstractList", "<init>", "()V"⟩ := Or.inl (fw_t 67 (by decide +kernel))
theorem np_BL_init : fw_np ⟨"java/util/AbstractList", "<init>", "()V"⟩ 0 := by unfold fw_np; decide +kernel
theorem im_BL_init : Cond.instanceMethod ⟨"java/util/AbstractList", "<init>", "()V"⟩ ∈ lw_tbl := (fw_t 68 (by decide +kernel))
theorem fp_AL_init_9 : fw_fpt m_AL_init 9 4 1 (.array (.object "java/lang/Object")) := ⟨_, _, _, "java/util/ArrayList", rfl, by decide, fw_i4, Or.inl rfl, ⟨fw_y4, fw_k4⟩, fw_n4, by decide +kernel, Or.inl ⟨rfl, Or.inl (fw_t 76 (by decide +kernel))⟩⟩
end
section
abbrev li_o (g : fw_G) (n : Nat) (f : Nat → Option Nat) : va_E := .inl (fw_c g 4, n, .inr (.inr (.inr (.inr f))))
def li_f (ts : List Nat) : Nat → Option Nat := fun i => ts[i]?
def li_at (g : fw_G) (w : fw_W) (a d cap : Nat) (ts : List Nat) : Prop := ∃ mc : Int32, w a = some (.inr (4, [.int mc, .ref d, .int (nI ts.length)])) ∧ ts.length ≤ 12 ∧ (∀ y ∈ ts, ∃ fs, w y = some (.inr (3, fs))) ∧
  ((d = fw_df g ∧ ts = []) ∨ (w d = some (li_o g cap (li_f ts)) ∧ ts.length ≤ cap ∧ (cap = 10 ∨ cap = 15)))
theorem c_AL_size {g : fw_G} {nc ns : Nat} {w : fw_W} {a d cap : Nat} {ts : List Nat} (h : li_at g w a d cap ts) : fw_R g m_AL_size (fw_pv (.int (nI ts.length)) w) nc ns w 0 [(0, .ref a)] [] := by
  obtain ⟨mc, h1, -⟩ := h
  refine fr_aload_n (pc := 0) d_AL_size_0 rfl rfl ?_
  refine fr_get (pc := 1) (v := .int (nI ts.length)) d_AL_size_1 fg_AL_48 h1 rfl ?_
  exact fr_iret rfl d_AL_size_4 ⟨rfl, rfl⟩
theorem c_PC_chk {g : fw_G} {nc ns : Nat} {w : fw_W} {i n : Nat} (h : i < n) (hn : n < 2 ^ 31) : fw_R g m_PC_checkIndex (fw_pv (.int (nI i)) w) nc ns w 0 [(0, .int (nI i)), (1, .int (nI n)), (2, .null)] [] := by
  refine fr_iload_n (pc := 0) d_PC_checkIndex_0 rfl rfl ?_
  refine fr_if_lt (pc := 1) (tgt := 9) d_PC_checkIndex_1 (by decide) (fun b => absurd b (nI_pos (by omega))) (fun _ => ?_)
  refine fr_iload_n (pc := 4) d_PC_checkIndex_4 rfl rfl ?_
  refine fr_iload_n (pc := 5) d_PC_checkIndex_5 rfl rfl ?_
  refine fr_icmp_lt (pc := 6) (tgt := 16) d_PC_checkIndex_6 (by decide) (fun _ => ?_) (fun b => absurd ((ni_lt (by omega) (by omega)).mpr h) b)
  refine fr_iload_n (pc := 16) d_PC_checkIndex_16 rfl rfl ?_
  exact fr_iret rfl d_PC_checkIndex_17 ⟨rfl, rfl⟩
theorem c_OB_chk {g : fw_G} {nc ns : Nat} {w : fw_W} {i n : Nat} (h : i < n) (hn : n < 2 ^ 31) : fw_R g m_OB_checkIndex (fw_pv (.int (nI i)) w) nc ns w 0 [(0, .int (nI i)), (1, .int (nI n))] [] := by
  refine fr_iload_n (pc := 0) d_OB_checkIndex_0 rfl rfl ?_
  refine fr_iload_n (pc := 1) d_OB_checkIndex_1 rfl rfl ?_
  refine fr_null (pc := 2) d_OB_checkIndex_2 ?_
  refine fr_calls_p (pc := 3) (nc := nc) (ns := ns) (N := m_PC_checkIndex) (rest := []) (as := [.int (nI i), .int (nI n), .null]) (v := .int (nI i)) d_OB_checkIndex_3 k_PC_checkIndex lk_OB_105 sc_PC_checkIndex np_PC_checkIndex ⟨by decide, by decide, Nat.le_of_ble_eq_true rfl⟩ (Nat.le_of_ble_eq_true rfl) (c_PC_chk h hn) rfl ?_
  exact fr_iret rfl d_OB_checkIndex_6 ⟨rfl, rfl⟩
theorem c_AL_eld {g : fw_G} {nc ns : Nat} {w : fw_W} {a d cap i y : Nat} {ts : List Nat} (h : li_at g w a d cap ts) (hy : ts[i]? = some y) : fw_R g m_AL_elementData (fw_pv (.ref y) w) nc ns w 0 [(0, .ref a), (1, .int (nI i))] [] := by
  have hi : i < ts.length := (List.getElem?_eq_some_iff.mp hy).1
  obtain ⟨mc, h1, h12, -, ⟨-, h0⟩ | ⟨h2, h3, h4⟩⟩ := h
  · subst h0; exact absurd hi (Nat.not_lt_zero _)
  · refine fr_aload_n (pc := 0) d_AL_elementData_0 rfl rfl ?_
    refine fr_get (pc := 1) (v := .ref d) d_AL_elementData_1 fg_AL_9 h1 rfl ?_
    refine fr_iload_n (pc := 4) d_AL_elementData_4 rfl rfl ?_
    refine fr_aaldN (pc := 5) (t := 4) (k := i) (n := cap) d_AL_elementData_5 rfl h2 (by omega) (by omega) ?_
    rw [show li_f ts i = some y from hy]
    exact fr_aret rfl (by first | exact Or.inl ⟨_, rfl⟩ | exact Or.inr ⟨_, rfl⟩) (by first | exact Or.inl rfl | exact Or.inr ⟨_, rfl⟩) d_AL_elementData_6 ⟨rfl, rfl⟩
theorem c_AL_get {g : fw_G} {nc ns : Nat} {w : fw_W} {a d cap i y : Nat} {ts : List Nat} (h : li_at g w a d cap ts) (hy : ts[i]? = some y) : fw_R g m_AL_get (fw_pv (.ref y) w) nc ns w 0 [(0, .ref a), (1, .int (nI i))] [] := by
  have hi : i < ts.length := (List.getElem?_eq_some_iff.mp hy).1
  obtain ⟨mc, h1, h12, -⟩ := id h
  refine fr_iload_n (pc := 0) d_AL_get_0 rfl rfl ?_
  refine fr_aload_n (pc := 1) d_AL_get_1 rfl rfl ?_
  refine fr_get (pc := 2) (v := .int (nI ts.length)) d_AL_get_2 fg_AL_48 h1 rfl ?_
  refine fr_calls_p (pc := 5) (nc := nc) (ns := ns) (N := m_OB_checkIndex) (rest := []) (as := [.int (nI i), .int (nI ts.length)]) (v := .int (nI i)) d_AL_get_5 k_OB_checkIndex lk_AL_118 sc_OB_checkIndex np_OB_checkIndex ⟨by decide, by decide, Nat.le_of_ble_eq_true rfl⟩ (Nat.le_of_ble_eq_true rfl) (c_OB_chk hi (by omega)) rfl ?_
  refine fr_pop (pc := 8) d_AL_get_8 rfl ?_
  refine fr_aload_n (pc := 9) d_AL_get_9 rfl rfl ?_
  refine fr_iload_n (pc := 10) d_AL_get_10 rfl rfl ?_
  refine fr_callv_p (pc := 11) (nc := nc) (ns := ns) (N := m_AL_elementData) (rest := []) (as := [.int (nI i)]) (v := .ref y) d_AL_get_11 vc_AL_123 ⟨by decide, by decide, Nat.le_of_ble_eq_true rfl⟩ (Nat.le_of_ble_eq_true rfl) h1 (c_AL_eld h hy) rfl ?_
  exact fr_aret rfl (by first | exact Or.inl ⟨_, rfl⟩ | exact Or.inr ⟨_, rfl⟩) (by first | exact Or.inl rfl | exact Or.inr ⟨_, rfl⟩) d_AL_get_14 ⟨rfl, rfl⟩
theorem c_AL_rng {g : fw_G} {nc ns : Nat} {w : fw_W} {a i : Nat} {n : Nat} {fs : List Value} (h1 : w a = some (.inr (4, fs))) (h2 : fs[2]? = some (.int (nI n))) (hi : i ≤ n) (hn : n < 2 ^ 31) : fw_R g m_AL_rangeCheckForAdd (fw_pn w) nc ns w 0 [(0, .ref a), (1, .int (nI i))] [] := by
  refine fr_iload_n (pc := 0) d_AL_rangeCheckForAdd_0 rfl rfl ?_
  refine fr_aload_n (pc := 1) d_AL_rangeCheckForAdd_1 rfl rfl ?_
  refine fr_get (pc := 2) (v := .int (nI n)) d_AL_rangeCheckForAdd_2 fg_AL_48 h1 h2 ?_
  refine fr_icmp_gt (pc := 5) (tgt := 12) d_AL_rangeCheckForAdd_5 (by decide) (fun b => absurd ((ni_lt (by omega) (by omega)).mp b) (by omega)) (fun _ => ?_)
  refine fr_iload_n (pc := 8) d_AL_rangeCheckForAdd_8 rfl rfl ?_
  refine fr_if_ge (pc := 9) (tgt := 25) d_AL_rangeCheckForAdd_9 (by decide) (fun _ => ?_) (fun b => absurd (nI_pos' (by omega)) b)
  exact fr_vret rfl d_AL_rangeCheckForAdd_25 ⟨rfl, rfl⟩
theorem c_MA_max {g : fw_G} {nc ns : Nat} {w : fw_W} {i j : Nat} (hi : i < 2 ^ 31) (hj : j < 2 ^ 31) : fw_R g m_MA_max (fw_pv (.int (nI (max i j))) w) nc ns w 0 [(0, .int (nI i)), (1, .int (nI j))] [] := by
  refine fr_iload_n (pc := 0) d_MA_max_0 rfl rfl ?_
  refine fr_iload_n (pc := 1) d_MA_max_1 rfl rfl ?_
  refine fr_icmp_lt (pc := 2) (tgt := 9) d_MA_max_2 (by decide) (fun b => ?_) (fun b => ?_)
  · have b1 := (ni_lt hi hj).mp b
    refine fr_iload_n (pc := 9) d_MA_max_9 rfl rfl ?_
    refine fr_st (st2 := [.int (nI (max i j))]) (by rw [show max i j = j by omega]) ?_
    exact fr_iret rfl d_MA_max_10 ⟨rfl, rfl⟩
  · have b1 := (show ¬ i < j from fun q => b ((ni_lt hi hj).mpr q))
    refine fr_iload_n (pc := 5) d_MA_max_5 rfl rfl ?_
    refine fr_goto (pc := 6) (tgt := 10) d_MA_max_6 (by decide) ?_
    refine fr_st (st2 := [.int (nI (max i j))]) (by rw [show max i j = i by omega]) ?_
    exact fr_iret rfl d_MA_max_10 ⟨rfl, rfl⟩
theorem c_MA_min {g : fw_G} {nc ns : Nat} {w : fw_W} {i j : Nat} (hi : i < 2 ^ 31) (hj : j < 2 ^ 31) : fw_R g m_MA_min (fw_pv (.int (nI (min i j))) w) nc ns w 0 [(0, .int (nI i)), (1, .int (nI j))] [] := by
  refine fr_iload_n (pc := 0) d_MA_min_0 rfl rfl ?_
  refine fr_iload_n (pc := 1) d_MA_min_1 rfl rfl ?_
  refine fr_icmp_gt (pc := 2) (tgt := 9) d_MA_min_2 (by decide) (fun b => ?_) (fun b => ?_)
  · have b1 := (ni_lt hj hi).mp b
    refine fr_iload_n (pc := 9) d_MA_min_9 rfl rfl ?_
    refine fr_st (st2 := [.int (nI (min i j))]) (by rw [show min i j = j by omega]) ?_
    exact fr_iret rfl d_MA_min_10 ⟨rfl, rfl⟩
  · have b1 := (show ¬ j < i from fun q => b ((ni_lt hj hi).mpr q))
    refine fr_iload_n (pc := 5) d_MA_min_5 rfl rfl ?_
    refine fr_goto (pc := 6) (tgt := 10) d_MA_min_6 (by decide) ?_
    refine fr_st (st2 := [.int (nI (min i j))]) (by rw [show min i j = i by omega]) ?_
    exact fr_iret rfl d_MA_min_10 ⟨rfl, rfl⟩
theorem c_AP_newLen {g : fw_G} {nc ns : Nat} {w : fw_W} : fw_R g m_AP_newLength (fw_pv (.int (nI 15)) w) nc ns w 0 [(0, .int (nI 10)), (1, .int (nI 1)), (2, .int (nI 5))] [] := by
  refine fr_iload_n (pc := 0) d_AP_newLength_0 rfl rfl ?_
  refine fr_iload_n (pc := 1) d_AP_newLength_1 rfl rfl ?_
  refine fr_iload_n (pc := 2) d_AP_newLength_2 rfl rfl ?_
  refine fr_calls_p (pc := 3) (nc := nc) (ns := ns) (N := m_MA_max) (rest := [.int (nI 10)]) (as := [.int (nI 1), .int (nI 5)]) (v := .int (nI 5)) d_AP_newLength_3 k_MA_max lk_AP_194 sc_MA_max np_MA_max ⟨by decide, by decide, Nat.le_of_ble_eq_true rfl⟩ (Nat.le_of_ble_eq_true rfl) (c_MA_max (i := 1) (j := 5) (by decide) (by decide)) rfl ?_
  refine fr_iadd (pc := 6) d_AP_newLength_6 ?_
  refine fr_st (st2 := [.int (nI 15)]) (by rw [nI_add]) ?_
  refine fr_istore_n (pc := 7) (L2 := [(0, .int (nI 10)), (1, .int (nI 1)), (2, .int (nI 5)), (3, .int (nI 15))]) d_AP_newLength_7 rfl (by decide) rfl ?_
  refine fr_iconst (pc := 8) (v := 0) d_AP_newLength_8 (by decide) ?_
  refine fr_iload_n (pc := 9) d_AP_newLength_9 rfl rfl ?_
  refine fr_icmp_ge (pc := 10) (tgt := 21) d_AP_newLength_10 (by decide) (fun b => absurd b (by decide)) (fun _ => ?_)
  refine fr_iload_n (pc := 13) d_AP_newLength_13 rfl rfl ?_
  refine fr_ldc (pc := 14) (v := 2147483639) d_AP_newLength_14 (fw_t 431 (by decide +kernel)) ?_
  refine fr_icmp_gt (pc := 16) (tgt := 21) d_AP_newLength_16 (by decide) (fun b => absurd b (by decide)) (fun _ => ?_)
  refine fr_iload_n (pc := 19) d_AP_newLength_19 rfl rfl ?_
  exact fr_iret rfl d_AP_newLength_20 ⟨rfl, rfl⟩
theorem li_cp {ts : List Nat} {n : Nat} (h : ts.length ≤ n) : va_cpy (li_f ts) (fun _ => none) 0 0 n = li_f ts := by
  funext j
  unfold va_cpy li_f
  by_cases hj : j < n
  · rw [if_pos ⟨Nat.zero_le _, by omega⟩]; simp
  · rw [if_neg (fun q => hj (by omega))]
    rw [List.getElem?_eq_none (by omega)]
theorem c_AS_cp2 {g : fw_G} {w : fw_W} {d : Nat} {ts : List Nat} (h1 : w d = some (li_o g 10 (li_f ts))) (h2 : ts.length = 10) (h3 : ∀ y ∈ ts, ∃ fs, w y = some (.inr (3, fs))) : fw_R g m_AS_copyOf2 (fun r u => ∃ q, w q = none ∧ r = .inl (some (.ref q)) ∧ u = fw_up w q (li_o g 15 (li_f ts))) 1 15 w 0 [(0, .ref d), (1, .int (nI 15)), (2, .ref (fw_mi g))] [] := by
  refine fr_aload_n (pc := 0) d_AS_copyOf2_0 rfl rfl ?_
  refine fr_ldcM (pc := 1) d_AS_copyOf2_1 (fw_t 454 (by decide +kernel)) ?_
  refine fr_acmp_ne (pc := 3) (tgt := 13) (ry := some (fw_mi g)) (rx := some (fw_mi g)) d_AS_copyOf2_3 (by decide) (fun b => absurd rfl b) (fun _ => ?_)
  refine fr_iload_n (pc := 6) d_AS_copyOf2_6 rfl rfl ?_
  refine fr_newq (pc := 7) (nc := 0) (ns := 0) (N := 15) (t := 4) (C := "java/lang/Object") d_AS_copyOf2_7 (fw_t 456 (by decide +kernel)) (fw_t 455 (by decide +kernel)) rfl (by decide) (by decide) (by decide) (fun q hq => ?_)
  have hdq : d ≠ q := fun e => by rw [e, hq] at h1; cases h1
  refine fr_goto (pc := 10) (tgt := 24) d_AS_copyOf2_10 (by decide) ?_
  refine fr_astore_n (pc := 24) (L2 := [(0, .ref d), (1, .int (nI 15)), (2, .ref (fw_mi g)), (3, .ref q)]) d_AS_copyOf2_24 rfl (by decide) rfl ?_
  refine fr_aload_n (pc := 25) d_AS_copyOf2_25 rfl rfl ?_
  refine fr_iconst (pc := 26) (v := 0) d_AS_copyOf2_26 (by decide) ?_
  refine fr_aload_n (pc := 27) d_AS_copyOf2_27 rfl rfl ?_
  refine fr_iconst (pc := 28) (v := 0) d_AS_copyOf2_28 (by decide) ?_
  refine fr_aload_n (pc := 29) d_AS_copyOf2_29 rfl rfl ?_
  refine fr_alen (pc := 30) (t := 4) (ty := .object "java/lang/Object") (v := nI 10) d_AS_copyOf2_30 rfl (fw_up_at h1 hdq) rfl ?_
  refine fr_iload_n (pc := 31) d_AS_copyOf2_31 rfl rfl ?_
  refine fr_calls_p (pc := 32) (nc := 0) (ns := 0) (N := m_MA_min) (rest := [.int 0, .ref q, .int 0, .ref d]) (as := [.int (nI 10), .int (nI 15)]) (v := .int (nI 10)) d_AS_copyOf2_32 k_MA_min lk_AS_304 sc_MA_min np_MA_min ⟨by decide, by decide, Nat.le_of_ble_eq_true rfl⟩ (Nat.le_of_ble_eq_true rfl) (c_MA_min (i := 10) (j := 15) (by decide) (by decide)) rfl ?_
  refine fr_st (st2 := [.int (nI 10), .int (nI 0), .ref q, .int (nI 0), .ref d]) rfl ?_
  refine fr_copy (pc := 35) (n0 := 10) (n1 := 15) (sp := 0) (dp := 0) (k := 10) (f := (li_f ts)) (f1 := (fun _ => none)) (f2 := (li_f ts)) d_AS_copyOf2_35 (fw_t 460 (by decide +kernel)) (fw_t 462 (by decide +kernel)) (fw_t 461 (by decide +kernel)) (fw_t 18 (by decide +kernel)) (fw_t 884 (by decide +kernel)) (fw_up_at h1 hdq) fw_up_self (by omega) (by omega) (by omega) (by omega) (fun i hi y hy => by rw [Nat.zero_add] at hy; obtain ⟨fs, e⟩ := h3 y (List.mem_of_getElem? hy); exact ⟨fs, fw_up_at e (fun z => by rw [z, hq] at e; cases e)⟩) (li_cp (by omega)) (by decide) (by decide +kernel) ?_
  rw [fw_uu]
  refine fr_aload_n (pc := 38) d_AS_copyOf2_38 rfl rfl ?_
  exact fr_aret rfl (by first | exact Or.inl ⟨_, rfl⟩ | exact Or.inr ⟨_, rfl⟩) (by first | exact Or.inl rfl | exact Or.inr ⟨_, rfl⟩) d_AS_copyOf2_39 ⟨q, hq, rfl, rfl⟩
theorem c_AS_cp1 {g : fw_G} {w : fw_W} {d : Nat} {ts : List Nat} (h1 : w d = some (li_o g 10 (li_f ts))) (h2 : ts.length = 10) (h3 : ∀ y ∈ ts, ∃ fs, w y = some (.inr (3, fs))) : fw_R g m_AS_copyOf1 (fun r u => ∃ q, w q = none ∧ r = .inl (some (.ref q)) ∧ u = fw_up w q (li_o g 15 (li_f ts))) 1 15 w 0 [(0, .ref d), (1, .int (nI 15))] [] := by
  refine fr_aload_n (pc := 0) d_AS_copyOf1_0 rfl rfl ?_
  refine fr_iload_n (pc := 1) d_AS_copyOf1_1 rfl rfl ?_
  refine fr_aload_n (pc := 2) d_AS_copyOf1_2 rfl rfl ?_
  refine fr_getC (pc := 3) (n := 10) d_AS_copyOf1_3 (fw_t 438 (by decide +kernel)) (fw_t 879 (by decide +kernel)) (fw_t 878 (by decide +kernel)) (fw_t 439 (by decide +kernel)) (fw_t 450 (by decide +kernel)) h1 (by decide) (Nat.le_of_ble_eq_true rfl) ?_
  refine fr_calls (pc := 6) (nc := 0) (ns := 0) (N := m_AS_copyOf2) (rest := []) (as := [.ref d, .int (nI 15), .ref (fw_mi g)]) d_AS_copyOf1_6 k_AS_copyOf2 lk_AS_300 sc_AS_copyOf2 np_AS_copyOf2 ⟨by decide, by decide, Nat.le_of_ble_eq_true rfl⟩ (Nat.le_of_ble_eq_true rfl) (c_AS_cp2 h1 h2 h3) (fun v w1 hp => ?_) (fun C w1 hp => ?_) rfl
  · obtain ⟨q, hq, e1, e2⟩ := hp
    cases e1
    subst e2
    exact fr_aret rfl (by first | exact Or.inl ⟨_, rfl⟩ | exact Or.inr ⟨_, rfl⟩) (by first | exact Or.inl rfl | exact Or.inr ⟨_, rfl⟩) d_AS_copyOf1_9 ⟨q, hq, rfl, rfl⟩
  · obtain ⟨q, hq, e1, e2⟩ := hp
    cases e1
theorem c_AL_grow2_A {g : fw_G} {w : fw_W} {a : Nat} {mc : Int32} {ts : List Nat} (h1 : w a = some (.inr (4, [.int mc, .ref (fw_df g), .int (nI ts.length)]))) (h2 : ts = []) : fw_R g m_AL_grow2 (fun r u => ∃ q cp, w q = none ∧ r = .inl (some (.ref q)) ∧ u = fw_up (fw_up w q (li_o g cp (li_f ts))) a (.inr (4, [.int mc, .ref q, .int (nI ts.length)])) ∧ ts.length < cp ∧ (cp = 10 ∨ cp = 15)) 2 25 w 0 [(0, .ref a), (1, .int (nI (ts.length + 1)))] [] := by
  subst h2
  refine fr_aload_n (pc := 0) d_AL_grow2_0 rfl rfl ?_
  refine fr_get (pc := 1) (v := .ref (fw_df g)) d_AL_grow2_1 fg_AL_9 h1 rfl ?_
  refine fr_alenD (pc := 4) d_AL_grow2_4 ?_
  refine fr_istore_n (pc := 5) (L2 := [(0, .ref a), (1, .int (nI (([] : List Nat).length + 1))), (2, .int 0)]) d_AL_grow2_5 rfl (by decide) rfl ?_
  refine fr_iload_n (pc := 6) d_AL_grow2_6 rfl rfl ?_
  refine fr_if_gt (pc := 7) (tgt := 20) d_AL_grow2_7 (by decide) (fun b => absurd b (by decide)) (fun _ => ?_)
  refine fr_aload_n (pc := 10) d_AL_grow2_10 rfl rfl ?_
  refine fr_get (pc := 11) (v := .ref (fw_df g)) d_AL_grow2_11 fg_AL_9 h1 rfl ?_
  refine fr_dflt (pc := 14) d_AL_grow2_14 (fw_t 74 (by decide +kernel)) ?_
  refine fr_acmp_eq (pc := 17) (tgt := 45) (ry := some (fw_df g)) (rx := some (fw_df g)) d_AL_grow2_17 (by decide) (fun _ => ?_) (fun b => absurd rfl b)
  refine fr_aload_n (pc := 45) d_AL_grow2_45 rfl rfl ?_
  refine fr_bipush (pc := 46) (v := 10) d_AL_grow2_46 (by decide) ?_
  refine fr_iload_n (pc := 48) d_AL_grow2_48 rfl rfl ?_
  refine fr_st (st2 := [.int (nI 1), .int (nI 10), .ref a]) rfl ?_
  refine fr_calls_p (pc := 49) (nc := 2) (ns := 25) (N := m_MA_max) (rest := [.ref a]) (as := [.int (nI 10), .int (nI 1)]) (v := .int (nI 10)) d_AL_grow2_49 k_MA_max lk_AL_79 sc_MA_max np_MA_max ⟨by decide, by decide, Nat.le_of_ble_eq_true rfl⟩ (Nat.le_of_ble_eq_true rfl) (c_MA_max (i := 10) (j := 1) (by decide) (by decide)) rfl ?_
  refine fr_nc (nc2 := 0 + 1) (ns2 := 0 + 10) (by decide) (by decide) ?_
  refine fr_newq (pc := 52) (nc := 0) (ns := 0) (N := 10) (t := 4) (C := "java/lang/Object") d_AL_grow2_52 (fw_t 464 (by decide +kernel)) (fw_t 455 (by decide +kernel)) rfl (by decide) (by decide) (by decide) (fun q hq => ?_)
  have haq : a ≠ q := fun e => by rw [e, hq] at h1; cases h1
  refine fr_dup_x1 (pc := 55) d_AL_grow2_55 rfl rfl ?_
  refine fr_put (pc := 56) (fs2 := [.int mc, .ref q, .int (nI ([] : List Nat).length)]) d_AL_grow2_56 fp_AL_grow2_9 (fw_up_at h1 haq) (Nat.le_of_ble_eq_true rfl) rfl rfl rfl ?_
  exact fr_aret rfl (by first | exact Or.inl ⟨_, rfl⟩ | exact Or.inr ⟨_, rfl⟩) (by first | exact Or.inl rfl | exact Or.inr ⟨_, rfl⟩) d_AL_grow2_59 ⟨q, 10, hq, rfl, rfl, by decide, Or.inl rfl⟩
theorem c_AL_grow2_B {g : fw_G} {w : fw_W} {a d : Nat} {mc : Int32} {ts : List Nat} (h1 : w a = some (.inr (4, [.int mc, .ref d, .int (nI ts.length)]))) (h2 : w d = some (li_o g 10 (li_f ts))) (h3 : ts.length = 10) (h4 : ∀ y ∈ ts, ∃ fs, w y = some (.inr (3, fs))) : fw_R g m_AL_grow2 (fun r u => ∃ q cp, w q = none ∧ r = .inl (some (.ref q)) ∧ u = fw_up (fw_up w q (li_o g cp (li_f ts))) a (.inr (4, [.int mc, .ref q, .int (nI ts.length)])) ∧ ts.length < cp ∧ (cp = 10 ∨ cp = 15)) 2 25 w 0 [(0, .ref a), (1, .int (nI (ts.length + 1)))] [] := by
  refine fr_aload_n (pc := 0) d_AL_grow2_0 rfl rfl ?_
  refine fr_get (pc := 1) (v := .ref d) d_AL_grow2_1 fg_AL_9 h1 rfl ?_
  refine fr_alen (pc := 4) (t := 4) (ty := .object "java/lang/Object") (v := nI 10) d_AL_grow2_4 rfl h2 rfl ?_
  refine fr_istore_n (pc := 5) (L2 := [(0, .ref a), (1, .int (nI (ts.length + 1))), (2, .int (nI 10))]) d_AL_grow2_5 rfl (by decide) rfl ?_
  refine fr_iload_n (pc := 6) d_AL_grow2_6 rfl rfl ?_
  refine fr_if_gt (pc := 7) (tgt := 20) d_AL_grow2_7 (by decide) (fun _ => ?_) (fun b => absurd (by decide) b)
  refine fr_iload_n (pc := 20) d_AL_grow2_20 rfl rfl ?_
  refine fr_iload_n (pc := 21) d_AL_grow2_21 rfl rfl ?_
  refine fr_iload_n (pc := 22) d_AL_grow2_22 rfl rfl ?_
  refine fr_isub (pc := 23) d_AL_grow2_23 ?_
  refine fr_iload_n (pc := 24) d_AL_grow2_24 rfl rfl ?_
  refine fr_iconst (pc := 25) (v := 1) d_AL_grow2_25 (by decide) ?_
  refine fr_ishr (pc := 26) d_AL_grow2_26 ?_
  refine fr_st (st2 := [.int (nI 5), .int (nI 1), .int (nI 10)]) (by rw [h3]; rfl) ?_
  refine fr_calls_p (pc := 27) (nc := 2) (ns := 25) (N := m_AP_newLength) (rest := []) (as := [.int (nI 10), .int (nI 1), .int (nI 5)]) (v := .int (nI 15)) d_AL_grow2_27 k_AP_newLength lk_AL_73 sc_AP_newLength np_AP_newLength ⟨by decide, by decide, Nat.le_of_ble_eq_true rfl⟩ (Nat.le_of_ble_eq_true rfl) c_AP_newLen rfl ?_
  refine fr_istore_n (pc := 30) (L2 := [(0, .ref a), (1, .int (nI (ts.length + 1))), (2, .int (nI 10)), (3, .int (nI 15))]) d_AL_grow2_30 rfl (by decide) rfl ?_
  refine fr_aload_n (pc := 31) d_AL_grow2_31 rfl rfl ?_
  refine fr_aload_n (pc := 32) d_AL_grow2_32 rfl rfl ?_
  refine fr_get (pc := 33) (v := .ref d) d_AL_grow2_33 fg_AL_9 h1 rfl ?_
  refine fr_iload_n (pc := 36) d_AL_grow2_36 rfl rfl ?_
  refine fr_nc (nc2 := 0 + 1) (ns2 := 0 + 15) (by decide) (by decide) ?_
  refine fr_calls (pc := 37) (nc := 0) (ns := 0) (N := m_AS_copyOf1) (rest := [.ref a]) (as := [.ref d, .int (nI 15)]) d_AL_grow2_37 k_AS_copyOf1 lk_AL_66 sc_AS_copyOf1 np_AS_copyOf1 ⟨by decide, by decide, Nat.le_of_ble_eq_true rfl⟩ (Nat.le_of_ble_eq_true rfl) (c_AS_cp1 h2 h3 h4) (fun v w1 hp => ?_) (fun C w1 hp => ?_) rfl
  · obtain ⟨q, hq, e1, e2⟩ := hp
    cases e1
    subst e2
    refine fr_st (st2 := [.ref q, .ref a]) rfl ?_
    have haq : a ≠ q := fun e => by rw [e, hq] at h1; cases h1
    refine fr_dup_x1 (pc := 40) d_AL_grow2_40 rfl rfl ?_
    refine fr_put (pc := 41) (fs2 := [.int mc, .ref q, .int (nI ts.length)]) d_AL_grow2_41 fp_AL_grow2_9 (fw_up_at h1 haq) (Nat.le_of_ble_eq_true rfl) rfl rfl rfl ?_
    exact fr_aret rfl (by first | exact Or.inl ⟨_, rfl⟩ | exact Or.inr ⟨_, rfl⟩) (by first | exact Or.inl rfl | exact Or.inr ⟨_, rfl⟩) d_AL_grow2_44 ⟨q, 15, hq, rfl, rfl, by omega, Or.inr rfl⟩
  · obtain ⟨q, hq, e1, e2⟩ := hp
    cases e1
theorem c_AL_grow1 {g : fw_G} {w : fw_W} {a : Nat} {mc : Int32} {d : Nat} {ts : List Nat} (h1 : w a = some (.inr (4, [.int mc, .ref d, .int (nI ts.length)]))) (h2 : (d = fw_df g ∧ ts = []) ∨ (w d = some (li_o g 10 (li_f ts)) ∧ ts.length = 10)) (h4 : ∀ y ∈ ts, ∃ fs, w y = some (.inr (3, fs))) : fw_R g m_AL_grow1 (fun r u => ∃ q cp, w q = none ∧ r = .inl (some (.ref q)) ∧ u = fw_up (fw_up w q (li_o g cp (li_f ts))) a (.inr (4, [.int mc, .ref q, .int (nI ts.length)])) ∧ ts.length < cp ∧ (cp = 10 ∨ cp = 15)) 2 25 w 0 [(0, .ref a)] [] := by
  have hN : fw_R g m_AL_grow2 (fun r u => ∃ q cp, w q = none ∧ r = .inl (some (.ref q)) ∧ u = fw_up (fw_up w q (li_o g cp (li_f ts))) a (.inr (4, [.int mc, .ref q, .int (nI ts.length)])) ∧ ts.length < cp ∧ (cp = 10 ∨ cp = 15)) 2 25 w 0 [(0, .ref a), (1, .int (nI (ts.length + 1)))] [] := by
    rcases h2 with ⟨e1, e2⟩ | ⟨e1, e2⟩
    · subst e1; exact c_AL_grow2_A h1 e2
    · exact c_AL_grow2_B h1 e1 e2 h4
  refine fr_aload_n (pc := 0) d_AL_grow1_0 rfl rfl ?_
  refine fr_aload_n (pc := 1) d_AL_grow1_1 rfl rfl ?_
  refine fr_get (pc := 2) (v := .int (nI ts.length)) d_AL_grow1_2 fg_AL_48 h1 rfl ?_
  refine fr_iconst (pc := 5) (v := 1) d_AL_grow1_5 (by decide) ?_
  refine fr_iadd (pc := 6) d_AL_grow1_6 ?_
  refine fr_st (st2 := [.int (nI (ts.length + 1)), .ref a]) (by rw [nI_succ]) ?_
  refine fr_callV (pc := 7) (nc := 0) (ns := 0) (N := m_AL_grow2) (rest := []) (as := [.int (nI (ts.length + 1))]) d_AL_grow1_7 vc_AL_69 ⟨by decide, by decide, Nat.le_of_ble_eq_true rfl⟩ (Nat.le_of_ble_eq_true rfl) h1 hN rfl (fun v w1 hp => ?_) (fun C w1 hp => ?_)
  · obtain ⟨q, cp, hq, e1, e2, e3⟩ := hp
    cases e1
    subst e2
    exact fr_aret rfl (by first | exact Or.inl ⟨_, rfl⟩ | exact Or.inr ⟨_, rfl⟩) (by first | exact Or.inl rfl | exact Or.inr ⟨_, rfl⟩) d_AL_grow1_10 ⟨q, cp, hq, rfl, rfl, e3⟩
  · obtain ⟨q, cp, hq, e1, e2, e3⟩ := hp
    cases e1
end
section
theorem fw_ud {w : fw_W} {a b : Nat} {x y z y2 : va_E} (h : a ≠ b) : fw_up (fw_up (fw_up (fw_up w a x) b y) a z) b y2 = fw_up (fw_up w a z) b y2 := by
  funext c
  by_cases h2 : c = b
  · subst h2; rw [fw_up_self, fw_up_self]
  · by_cases h1 : c = a
    · subst h1; rw [fw_up_ne h2, fw_up_self, fw_up_ne h2, fw_up_self]
    · rw [fw_up_ne h2, fw_up_ne h1, fw_up_ne h2, fw_up_ne h1, fw_up_ne h2, fw_up_ne h1]
def li_ins (ts : List Nat) (i e : Nat) : List Nat := ts.take i ++ e :: ts.drop i
def li_del (ts : List Nat) (i : Nat) : List Nat := ts.take i ++ ts.drop (i + 1)
theorem li_ins_len {ts : List Nat} {i e : Nat} (h : i ≤ ts.length) : (li_ins ts i e).length = ts.length + 1 := by
  unfold li_ins
  rw [List.length_append, List.length_cons, List.length_take, List.length_drop]
  omega
theorem li_del_len {ts : List Nat} {i : Nat} (h : i < ts.length) : (li_del ts i).length = ts.length - 1 := by
  unfold li_del
  rw [List.length_append, List.length_take, List.length_drop]
  omega
theorem li_ins_at {ts : List Nat} {i e : Nat} (h : i ≤ ts.length) (j : Nat) : (li_ins ts i e)[j]? = if j < i then ts[j]? else if j = i then some e else ts[j - 1]? := by
  unfold li_ins
  have hl : (ts.take i).length = i := by rw [List.length_take]; omega
  by_cases h1 : j < i
  · rw [if_pos h1, List.getElem?_append_left (by omega), List.getElem?_take_of_lt h1]
  · rw [if_neg h1, List.getElem?_append_right (by omega), hl]
    by_cases h2 : j = i
    · rw [if_pos h2, h2, Nat.sub_self]; rfl
    · rw [if_neg h2, show j - i = (j - i - 1) + 1 by omega, List.getElem?_cons_succ, List.getElem?_drop, show i + (j - i - 1) = j - 1 by omega]
theorem li_del_at {ts : List Nat} {i : Nat} (h : i < ts.length) (j : Nat) : (li_del ts i)[j]? = if j < i then ts[j]? else ts[j + 1]? := by
  unfold li_del
  have hl : (ts.take i).length = i := by rw [List.length_take]; omega
  by_cases h1 : j < i
  · rw [if_pos h1, List.getElem?_append_left (by omega), List.getElem?_take_of_lt h1]
  · rw [if_neg h1, List.getElem?_append_right (by omega), hl, List.getElem?_drop, show i + 1 + (j - i) = j + 1 by omega]
theorem li_ins_mem {ts : List Nat} {i e y : Nat} (h : y ∈ li_ins ts i e) : y = e ∨ y ∈ ts := by
  unfold li_ins at h
  rcases List.mem_append.mp h with h | h
  · exact Or.inr (List.mem_of_mem_take h)
  · rcases List.mem_cons.mp h with h | h
    · exact Or.inl h
    · exact Or.inr (List.mem_of_mem_drop h)
theorem li_del_mem {ts : List Nat} {i y : Nat} (h : y ∈ li_del ts i) : y ∈ ts := by
  unfold li_del at h
  rcases List.mem_append.mp h with h | h
  · exact List.mem_of_mem_take h
  · exact List.mem_of_mem_drop h
theorem li_add {ts : List Nat} {i e : Nat} (h : i ≤ ts.length) : va_up (va_cpy (li_f ts) (li_f ts) i (i + 1) (ts.length - i)) i (some e) = li_f (li_ins ts i e) := by
  funext j
  show _ = (li_ins ts i e)[j]?
  rw [li_ins_at h]
  unfold va_up va_cpy li_f
  by_cases h2 : j = i
  · rw [if_pos h2, if_neg (by omega), if_pos h2]
  · rw [if_neg h2]
    by_cases h1 : j < i
    · rw [if_neg (by omega), if_pos h1]
    · rw [if_neg h1, if_neg h2]
      by_cases h3 : j ≤ ts.length
      · rw [if_pos (by omega), show i + (j - (i + 1)) = j - 1 by omega]
      · rw [if_neg (by omega), List.getElem?_eq_none (by omega), List.getElem?_eq_none (by omega)]
theorem li_rem {ts : List Nat} {i : Nat} (h : i < ts.length) : va_up (va_cpy (li_f ts) (li_f ts) (i + 1) i (ts.length - 1 - i)) (ts.length - 1) none = li_f (li_del ts i) := by
  funext j
  show _ = (li_del ts i)[j]?
  rw [li_del_at h]
  unfold va_up va_cpy li_f
  by_cases h2 : j = ts.length - 1
  · rw [if_pos h2, if_neg (by omega), List.getElem?_eq_none (by omega)]
  · rw [if_neg h2]
    by_cases h1 : j < i
    · rw [if_neg (by omega), if_pos h1]
    · rw [if_neg h1]
      by_cases h3 : j < ts.length - 1
      · rw [if_pos (by omega), show i + 1 + (j - i) = j + 1 by omega]
      · rw [if_neg (by omega), List.getElem?_eq_none (by omega), List.getElem?_eq_none (by omega)]
theorem li_cpy0 (f : Nat → Option Nat) (i j : Nat) : va_cpy f f i j 0 = f := by
  funext k
  unfold va_cpy
  rw [if_neg (by omega)]
theorem c_AL_add_t {g : fw_G} {P : fw_O → fw_W → Prop} {nc ns : Nat} {w : fw_W} {a x i e cp : Nat} {mc : Int32} {ts : List Nat} {fe : List Value} (h1 : w a = some (.inr (4, [.int mc, .ref x, .int (nI ts.length)]))) (h2 : w x = some (li_o g cp (li_f ts))) (h3 : ts.length < cp) (h4 : cp ≤ 15) (h5 : ∀ y ∈ ts, ∃ fs, w y = some (.inr (3, fs))) (h6 : w e = some (.inr (3, fe))) (hi : i ≤ ts.length)
    (hP : P (.inl none) (fw_up (fw_up w x (li_o g cp (li_f (li_ins ts i e)))) a (.inr (4, [.int mc, .ref x, .int (nI (ts.length + 1))])))) : fw_R g m_AL_add P nc ns w 38 [(0, .ref a), (1, .int (nI i)), (2, .ref e), (3, .int (nI ts.length)), (4, .ref x)] [] := by
  have hax : a ≠ x := fun q => by rw [q, h2] at h1; cases h1
  have hex : e ≠ x := fun q => by rw [q, h2] at h6; cases h6
  refine fr_aload (pc := 38) d_AL_add_38 rfl ?_
  refine fr_iload_n (pc := 40) d_AL_add_40 rfl rfl ?_
  refine fr_aload (pc := 41) d_AL_add_41 rfl ?_
  refine fr_iload_n (pc := 43) d_AL_add_43 rfl rfl ?_
  refine fr_iconst (pc := 44) (v := 1) d_AL_add_44 (by decide) ?_
  refine fr_iadd (pc := 45) d_AL_add_45 ?_
  refine fr_iload_n (pc := 46) d_AL_add_46 rfl rfl ?_
  refine fr_iload_n (pc := 47) d_AL_add_47 rfl rfl ?_
  refine fr_isub (pc := 48) d_AL_add_48 ?_
  refine fr_st (st2 := [.int (nI (ts.length - i)), .int (nI (i + 1)), .ref x, .int (nI i), .ref x]) (by rw [nI_succ, pk_sub hi]) ?_
  refine fr_copy (pc := 49) (n0 := cp) (n1 := cp) (sp := i) (dp := (i + 1)) (k := (ts.length - i)) (f := (li_f ts)) (f1 := (li_f ts)) (f2 := (va_cpy (li_f ts) (li_f ts) i (i + 1) (ts.length - i))) d_AL_add_49 (fw_t 465 (by decide +kernel)) (fw_t 462 (by decide +kernel)) (fw_t 461 (by decide +kernel)) (fw_t 18 (by decide +kernel)) (fw_t 884 (by decide +kernel)) h2 h2 (by omega) (by omega) (by omega) (by omega) (fun k hk y hy => h5 y (List.mem_of_getElem? hy)) rfl (by decide) (by decide +kernel) ?_
  refine fr_aload (pc := 52) d_AL_add_52 rfl ?_
  refine fr_iload_n (pc := 54) d_AL_add_54 rfl rfl ?_
  refine fr_aload_n (pc := 55) d_AL_add_55 rfl rfl ?_
  refine fr_aastO (pc := 56) (t := 4) (E := "java/lang/Object") (ci := 3) d_AL_add_56 rfl (fw_t 884 (by decide +kernel)) rfl fw_up_self (fw_up_at h6 hex) (vp_in_nI (n := i) (N := cp) (by omega) (by omega)) ?_
  rw [fw_uu, nI_clamp (by omega : i < 2 ^ 31), li_add hi]
  refine fr_aload_n (pc := 57) d_AL_add_57 rfl rfl ?_
  refine fr_iload_n (pc := 58) d_AL_add_58 rfl rfl ?_
  refine fr_iconst (pc := 59) (v := 1) d_AL_add_59 (by decide) ?_
  refine fr_iadd (pc := 60) d_AL_add_60 ?_
  refine fr_st (st2 := [.int (nI (ts.length + 1)), .ref a]) (by rw [nI_succ]) ?_
  refine fr_put (pc := 61) (fs2 := [.int mc, .ref x, .int (nI (ts.length + 1))]) d_AL_add_61 fp_AL_add_48 (fw_up_at h1 hax) (Nat.le_of_ble_eq_true rfl) rfl rfl rfl ?_
  exact fr_vret rfl d_AL_add_64 hP
theorem c_AL_add {g : fw_G} {w : fw_W} {a d cap i e : Nat} {ts : List Nat} {fe : List Value} (h : li_at g w a d cap ts) (hl : ts.length ≤ 11) (hi : i ≤ ts.length) (he : w e = some (.inr (3, fe))) (hde : w (fw_df g) = none) : fw_R g m_AL_add (fun r u => r = .inl none ∧ ∃ d2 cap2, li_at g u a d2 cap2 (li_ins ts i e) ∧ (∀ b, b ≠ a → b ≠ d2 → u b = w b) ∧ ((d2 = d ∧ w d ≠ none) ∨ w d2 = none)) 2 25 w 0 [(0, .ref a), (1, .int (nI i)), (2, .ref e)] [] := by
  obtain ⟨mc, h1, h12, h5, hc⟩ := id h
  have hae : e ≠ a := fun q => by rw [q, h1] at he; cases he
  refine fr_aload_n (pc := 0) d_AL_add_0 rfl rfl ?_
  refine fr_iload_n (pc := 1) d_AL_add_1 rfl rfl ?_
  refine fr_callv_n (pc := 2) (nc := 2) (ns := 25) (N := m_AL_rangeCheckForAdd) (rest := []) (as := [.int (nI i)]) d_AL_add_2 vc_AL_135 ⟨by decide, by decide, Nat.le_of_ble_eq_true rfl⟩ (Nat.le_of_ble_eq_true rfl) h1 (c_AL_rng h1 rfl hi (by omega)) rfl ?_
  refine fr_aload_n (pc := 5) d_AL_add_5 rfl rfl ?_
  refine fr_dup (pc := 6) d_AL_add_6 rfl ?_
  refine fr_get (pc := 7) (v := .int mc) d_AL_add_7 fg_AL_63 h1 rfl ?_
  refine fr_iconst (pc := 10) (v := 1) d_AL_add_10 (by decide) ?_
  refine fr_iadd (pc := 11) d_AL_add_11 ?_
  refine fr_put (pc := 12) (fs2 := [.int (mc + 1), .ref d, .int (nI ts.length)]) d_AL_add_12 fp_AL_add_63 h1 (Nat.le_of_ble_eq_true rfl) rfl rfl rfl ?_
  refine fr_aload_n (pc := 15) d_AL_add_15 rfl rfl ?_
  refine fr_get (pc := 16) (v := .int (nI ts.length)) d_AL_add_16 fg_AL_48 fw_up_self rfl ?_
  refine fr_dup (pc := 19) d_AL_add_19 rfl ?_
  refine fr_istore_n (pc := 20) (L2 := [(0, .ref a), (1, .int (nI i)), (2, .ref e), (3, .int (nI ts.length))]) d_AL_add_20 rfl (by decide) rfl ?_
  refine fr_aload_n (pc := 21) d_AL_add_21 rfl rfl ?_
  refine fr_get (pc := 22) (v := .ref d) d_AL_add_22 fg_AL_9 fw_up_self rfl ?_
  refine fr_dup (pc := 25) d_AL_add_25 rfl ?_
  refine fr_astore (pc := 26) (L2 := [(0, .ref a), (1, .int (nI i)), (2, .ref e), (3, .int (nI ts.length)), (4, .ref d)]) d_AL_add_26 (by decide) rfl ?_
  have h5w : ∀ y ∈ ts, ∃ fs, (fw_up w a (.inr (4, [.int (mc + 1), .ref d, .int (nI ts.length)]))) y = some (.inr (3, fs)) := fun y hy => by obtain ⟨fs, q⟩ := h5 y hy; exact ⟨fs, fw_up_at q (fun z => by rw [z, h1] at q; cases q)⟩
  rcases hc with ⟨hd0, ht0⟩ | ⟨hd1, hd2, hd3⟩
  · subst hd0
    subst ht0
    refine fr_alenD (pc := 28) d_AL_add_28 ?_
    refine fr_icmp_ne (pc := 29) (tgt := 38) d_AL_add_29 (by decide) (fun b => absurd rfl b) (fun _ => ?_)
    refine fr_aload_n (pc := 32) d_AL_add_32 rfl rfl ?_
    refine fr_callV (pc := 33) (nc := 0) (ns := 0) (N := m_AL_grow1) (rest := []) (as := []) d_AL_add_33 vc_AL_129 ⟨by decide, by decide, Nat.le_of_ble_eq_true rfl⟩ (Nat.le_of_ble_eq_true rfl) fw_up_self (c_AL_grow1 (ts := []) fw_up_self (Or.inl ⟨rfl, rfl⟩) h5w) rfl (fun v w1 hp => ?_) (fun C w1 hp => ?_)
    · obtain ⟨q, cp, hq, e1, e2, hlt, hcp⟩ := hp
      cases e1
      subst e2
      refine fr_st (st2 := [.ref q]) rfl ?_
      refine fr_astore (pc := 36) (L2 := [(0, .ref a), (1, .int (nI i)), (2, .ref e), (3, .int (nI ([] : List Nat).length)), (4, .ref q)]) d_AL_add_36 (by decide) rfl ?_
      have haq : q ≠ a := fun z => by rw [z, fw_up_self] at hq; cases hq
      have hq0 : w q = none := (fw_up_ne haq).symm.trans hq
      have heq : e ≠ q := fun z => by rw [z, hq0] at he; cases he
      refine c_AL_add_t (cp := cp) fw_up_self (fw_up_at fw_up_self haq) hlt (by omega) (fun y hy => ?_) (fw_up_at (fw_up_at (fw_up_at he hae) heq) hae) hi ?_
      · obtain ⟨fs, z⟩ := h5w y hy
        have z1 : y ≠ q := fun z2 => by rw [z2, hq] at z; cases z
        have z3 : y ≠ a := fun z2 => by rw [z2, fw_up_self] at z; cases z
        exact ⟨fs, fw_up_at (fw_up_at z z1) z3⟩
      · refine ⟨rfl, q, cp, ⟨mc + 1, by rw [fw_up_self, li_ins_len hi], by rw [li_ins_len hi]; omega, fun y hy => ?_, Or.inr ⟨by rw [fw_up_ne haq, fw_up_self], by rw [li_ins_len hi]; omega, hcp⟩⟩, fun b hb hb2 => by rw [fw_up_ne hb, fw_up_ne hb2, fw_up_ne hb, fw_up_ne hb2, fw_up_ne hb], Or.inr hq0⟩
        rcases li_ins_mem hy with rfl | hy
        · exact ⟨fe, by rw [fw_up_ne hae, fw_up_ne heq, fw_up_ne hae, fw_up_ne heq, fw_up_ne hae]; exact he⟩
        · obtain ⟨fs, z⟩ := h5 y hy
          have z1 : y ≠ q := fun z2 => by rw [z2, hq0] at z; cases z
          have z3 : y ≠ a := fun z2 => by rw [z2, h1] at z; cases z
          exact ⟨fs, by rw [fw_up_ne z3, fw_up_ne z1, fw_up_ne z3, fw_up_ne z1, fw_up_ne z3]; exact z⟩
    · obtain ⟨q, cp, hq, e1, e2, hlt, hcp⟩ := hp
      cases e1
  · have had : d ≠ a := fun q => by rw [q, h1] at hd1; cases hd1
    refine fr_alen (pc := 28) (t := 4) (ty := .object "java/lang/Object") (v := nI cap) d_AL_add_28 rfl (fw_up_at hd1 had) rfl ?_
    refine fr_icmp_ne (pc := 29) (tgt := 38) d_AL_add_29 (by decide) (fun b29 => ?_) (fun b29 => ?_)
    · have hne : ¬ ts.length = cap := fun q => b29 ((ni_eq (by omega) (by omega)).mpr q)
      have hlt : ts.length < cap := by omega
      have hed : e ≠ d := fun z => by rw [z, hd1] at he; cases he
      refine fr_nc (nc2 := 0) (ns2 := 0) (by decide) (by decide) ?_
      refine c_AL_add_t (cp := cap) fw_up_self (fw_up_at hd1 had) hlt (by omega) h5w (fw_up_at he hae) hi ?_
      refine ⟨rfl, d, cap, ⟨mc + 1, by rw [fw_up_self, li_ins_len hi], by rw [li_ins_len hi]; omega, fun y hy => ?_, Or.inr ⟨by rw [fw_up_ne had, fw_up_self], by rw [li_ins_len hi]; omega, hd3⟩⟩, fun b hb hb2 => by rw [fw_up_ne hb, fw_up_ne hb2, fw_up_ne hb], Or.inl ⟨rfl, by rw [hd1]; exact fun z => by cases z⟩⟩
      rcases li_ins_mem hy with rfl | hy
      · exact ⟨fe, by rw [fw_up_ne hae, fw_up_ne hed, fw_up_ne hae]; exact he⟩
      · obtain ⟨fs, z⟩ := h5 y hy
        have z1 : y ≠ d := fun z2 => by rw [z2, hd1] at z; cases z
        have z3 : y ≠ a := fun z2 => by rw [z2, h1] at z; cases z
        exact ⟨fs, by rw [fw_up_ne z3, fw_up_ne z1, fw_up_ne z3]; exact z⟩
    · have hcl : ts.length = cap := (ni_eq (by omega) (by omega)).mp b29
      have hc10 : cap = 10 := by omega
      subst hc10
      refine fr_aload_n (pc := 32) d_AL_add_32 rfl rfl ?_
      refine fr_callV (pc := 33) (nc := 0) (ns := 0) (N := m_AL_grow1) (rest := []) (as := []) d_AL_add_33 vc_AL_129 ⟨by decide, by decide, Nat.le_of_ble_eq_true rfl⟩ (Nat.le_of_ble_eq_true rfl) fw_up_self (c_AL_grow1 (ts := ts) fw_up_self (Or.inr ⟨fw_up_at hd1 had, hcl⟩) h5w) rfl (fun v w1 hp => ?_) (fun C w1 hp => ?_)
      · obtain ⟨q, cp, hq, e1, e2, hlt, hcp⟩ := hp
        cases e1
        subst e2
        refine fr_st (st2 := [.ref q]) rfl ?_
        refine fr_astore (pc := 36) (L2 := [(0, .ref a), (1, .int (nI i)), (2, .ref e), (3, .int (nI ts.length)), (4, .ref q)]) d_AL_add_36 (by decide) rfl ?_
        have haq : q ≠ a := fun z => by rw [z, fw_up_self] at hq; cases hq
        have hq0 : w q = none := (fw_up_ne haq).symm.trans hq
        have heq : e ≠ q := fun z => by rw [z, hq0] at he; cases he
        refine c_AL_add_t (cp := cp) fw_up_self (fw_up_at fw_up_self haq) hlt (by omega) (fun y hy => ?_) (fw_up_at (fw_up_at (fw_up_at he hae) heq) hae) hi ?_
        · obtain ⟨fs, z⟩ := h5w y hy
          have z1 : y ≠ q := fun z2 => by rw [z2, hq] at z; cases z
          have z3 : y ≠ a := fun z2 => by rw [z2, fw_up_self] at z; cases z
          exact ⟨fs, fw_up_at (fw_up_at z z1) z3⟩
        · refine ⟨rfl, q, cp, ⟨mc + 1, by rw [fw_up_self, li_ins_len hi], by rw [li_ins_len hi]; omega, fun y hy => ?_, Or.inr ⟨by rw [fw_up_ne haq, fw_up_self], by rw [li_ins_len hi]; omega, hcp⟩⟩, fun b hb hb2 => by rw [fw_up_ne hb, fw_up_ne hb2, fw_up_ne hb, fw_up_ne hb2, fw_up_ne hb], Or.inr hq0⟩
          rcases li_ins_mem hy with rfl | hy
          · exact ⟨fe, by rw [fw_up_ne hae, fw_up_ne heq, fw_up_ne hae, fw_up_ne heq, fw_up_ne hae]; exact he⟩
          · obtain ⟨fs, z⟩ := h5 y hy
            have z1 : y ≠ q := fun z2 => by rw [z2, hq0] at z; cases z
            have z3 : y ≠ a := fun z2 => by rw [z2, h1] at z; cases z
            exact ⟨fs, by rw [fw_up_ne z3, fw_up_ne z1, fw_up_ne z3, fw_up_ne z1, fw_up_ne z3]; exact z⟩
      · obtain ⟨q, cp, hq, e1, e2, hlt, hcp⟩ := hp
        cases e1
theorem c_AL_fast {g : fw_G} {nc ns : Nat} {w : fw_W} {a d cap i : Nat} {mc : Int32} {ts : List Nat} (h1 : w a = some (.inr (4, [.int mc, .ref d, .int (nI ts.length)]))) (h2 : w d = some (li_o g cap (li_f ts))) (h3 : ts.length ≤ cap) (h4 : cap ≤ 15) (h5 : ∀ y ∈ ts, ∃ fs, w y = some (.inr (3, fs))) (hi : i < ts.length) : fw_R g m_AL_fastRemove (fun r u => r = .inl none ∧ u = fw_up (fw_up w a (.inr (4, [.int (mc + 1), .ref d, .int (nI (ts.length - 1))]))) d (li_o g cap (li_f (li_del ts i)))) nc ns w 0 [(0, .ref a), (1, .ref d), (2, .int (nI i))] [] := by
  have had : d ≠ a := fun q => by rw [q, h1] at h2; cases h2
  have hsub : nI ts.length - 1 = nI (ts.length - 1) := pk_sub (a := ts.length) (b := 1) (by omega)
  have h5w : ∀ y ∈ ts, ∃ fs, (fw_up w a (.inr (4, [.int (mc + 1), .ref d, .int (nI ts.length)]))) y = some (.inr (3, fs)) := fun y hy => by obtain ⟨fs, q⟩ := h5 y hy; exact ⟨fs, fw_up_at q (fun z => by rw [z, h1] at q; cases q)⟩
  refine fr_aload_n (pc := 0) d_AL_fastRemove_0 rfl rfl ?_
  refine fr_dup (pc := 1) d_AL_fastRemove_1 rfl ?_
  refine fr_get (pc := 2) (v := .int mc) d_AL_fastRemove_2 fg_AL_63 h1 rfl ?_
  refine fr_iconst (pc := 5) (v := 1) d_AL_fastRemove_5 (by decide) ?_
  refine fr_iadd (pc := 6) d_AL_fastRemove_6 ?_
  refine fr_put (pc := 7) (fs2 := [.int (mc + 1), .ref d, .int (nI ts.length)]) d_AL_fastRemove_7 fp_AL_fastRemove_63 h1 (Nat.le_of_ble_eq_true rfl) rfl rfl rfl ?_
  refine fr_aload_n (pc := 10) d_AL_fastRemove_10 rfl rfl ?_
  refine fr_get (pc := 11) (v := .int (nI ts.length)) d_AL_fastRemove_11 fg_AL_48 fw_up_self rfl ?_
  refine fr_iconst (pc := 14) (v := 1) d_AL_fastRemove_14 (by decide) ?_
  refine fr_isub (pc := 15) d_AL_fastRemove_15 ?_
  refine fr_st (st2 := [.int (nI (ts.length - 1))]) (by rw [hsub]) ?_
  refine fr_dup (pc := 16) d_AL_fastRemove_16 rfl ?_
  refine fr_istore_n (pc := 17) (L2 := [(0, .ref a), (1, .ref d), (2, .int (nI i)), (3, .int (nI (ts.length - 1)))]) d_AL_fastRemove_17 rfl (by decide) rfl ?_
  refine fr_iload_n (pc := 18) d_AL_fastRemove_18 rfl rfl ?_
  refine fr_icmp_le (pc := 19) (tgt := 34) d_AL_fastRemove_19 (by decide) (fun b19 => ?_) (fun b19 => ?_)
  · have hil : i = ts.length - 1 := by have := (ni_le (by omega) (by omega)).mp b19; omega
    refine fr_aload_n (pc := 34) d_AL_fastRemove_34 rfl rfl ?_
    refine fr_aload_n (pc := 35) d_AL_fastRemove_35 rfl rfl ?_
    refine fr_iload_n (pc := 36) d_AL_fastRemove_36 rfl rfl ?_
    refine fr_dup_x1 (pc := 37) d_AL_fastRemove_37 rfl rfl ?_
    refine fr_put (pc := 38) (fs2 := [.int (mc + 1), .ref d, .int (nI (ts.length - 1))]) d_AL_fastRemove_38 fp_AL_fastRemove_48 fw_up_self (Nat.le_of_ble_eq_true rfl) rfl rfl rfl ?_
    refine fr_null (pc := 41) d_AL_fastRemove_41 ?_
    refine fr_aastN (pc := 42) (t := 4) (C := "java/lang/Object") (n := cap) d_AL_fastRemove_42 rfl (fw_up_at (fw_up_at h2 had) had) (vp_in_nI (n := ts.length - 1) (N := cap) (by omega) (by omega)) ?_
    have e9 : va_up (li_f ts) (ts.length - 1) none = li_f (li_del ts i) := by rw [← li_rem hi, show ts.length - 1 - i = 0 by omega, li_cpy0]
    rw [fw_uu, nI_clamp (by omega : ts.length - 1 < 2 ^ 31), e9]
    exact fr_vret rfl d_AL_fastRemove_43 ⟨rfl, rfl⟩
  · refine fr_aload_n (pc := 22) d_AL_fastRemove_22 rfl rfl ?_
    refine fr_iload_n (pc := 23) d_AL_fastRemove_23 rfl rfl ?_
    refine fr_iconst (pc := 24) (v := 1) d_AL_fastRemove_24 (by decide) ?_
    refine fr_iadd (pc := 25) d_AL_fastRemove_25 ?_
    refine fr_aload_n (pc := 26) d_AL_fastRemove_26 rfl rfl ?_
    refine fr_iload_n (pc := 27) d_AL_fastRemove_27 rfl rfl ?_
    refine fr_iload_n (pc := 28) d_AL_fastRemove_28 rfl rfl ?_
    refine fr_iload_n (pc := 29) d_AL_fastRemove_29 rfl rfl ?_
    refine fr_isub (pc := 30) d_AL_fastRemove_30 ?_
    refine fr_st (st2 := [.int (nI (ts.length - 1 - i)), .int (nI i), .ref d, .int (nI (i + 1)), .ref d]) (by rw [nI_succ, pk_sub (by omega)]) ?_
    refine fr_copy (pc := 31) (n0 := cap) (n1 := cap) (sp := (i + 1)) (dp := i) (k := (ts.length - 1 - i)) (f := (li_f ts)) (f1 := (li_f ts)) (f2 := (va_cpy (li_f ts) (li_f ts) (i + 1) i (ts.length - 1 - i))) d_AL_fastRemove_31 (fw_t 465 (by decide +kernel)) (fw_t 462 (by decide +kernel)) (fw_t 461 (by decide +kernel)) (fw_t 18 (by decide +kernel)) (fw_t 884 (by decide +kernel)) (fw_up_at h2 had) (fw_up_at h2 had) (by omega) (by omega) (by omega) (by omega) (fun k hk z hz => h5w z (List.mem_of_getElem? hz)) rfl (by decide) (by decide +kernel) ?_
    refine fr_aload_n (pc := 34) d_AL_fastRemove_34 rfl rfl ?_
    refine fr_aload_n (pc := 35) d_AL_fastRemove_35 rfl rfl ?_
    refine fr_iload_n (pc := 36) d_AL_fastRemove_36 rfl rfl ?_
    refine fr_dup_x1 (pc := 37) d_AL_fastRemove_37 rfl rfl ?_
    refine fr_put (pc := 38) (fs2 := [.int (mc + 1), .ref d, .int (nI (ts.length - 1))]) d_AL_fastRemove_38 fp_AL_fastRemove_48 (fw_up_at fw_up_self (Ne.symm had)) (Nat.le_of_ble_eq_true rfl) rfl rfl rfl ?_
    refine fr_null (pc := 41) d_AL_fastRemove_41 ?_
    refine fr_aastN (pc := 42) (t := 4) (C := "java/lang/Object") (n := cap) d_AL_fastRemove_42 rfl (fw_up_at fw_up_self had) (vp_in_nI (n := ts.length - 1) (N := cap) (by omega) (by omega)) ?_
    rw [nI_clamp (by omega : ts.length - 1 < 2 ^ 31), li_rem hi]
    exact fr_vret rfl d_AL_fastRemove_43 ⟨rfl, fw_ud (Ne.symm had)⟩
theorem c_AL_rem {g : fw_G} {nc ns : Nat} {w : fw_W} {a d cap i y : Nat} {ts : List Nat} (h : li_at g w a d cap ts) (hy : ts[i]? = some y) : fw_R g m_AL_remove (fun r u => r = .inl (some (.ref y)) ∧ li_at g u a d cap (li_del ts i) ∧ ∀ b, b ≠ a → b ≠ d → u b = w b) nc ns w 0 [(0, .ref a), (1, .int (nI i))] [] := by
  have hi : i < ts.length := (List.getElem?_eq_some_iff.mp hy).1
  obtain ⟨mc, h1, h12, h5, ⟨-, h0⟩ | ⟨h2, h3, h4⟩⟩ := id h
  · subst h0; exact absurd hi (Nat.not_lt_zero _)
  have had : d ≠ a := fun q => by rw [q, h1] at h2; cases h2
  refine fr_iload_n (pc := 0) d_AL_remove_0 rfl rfl ?_
  refine fr_aload_n (pc := 1) d_AL_remove_1 rfl rfl ?_
  refine fr_get (pc := 2) (v := .int (nI ts.length)) d_AL_remove_2 fg_AL_48 h1 rfl ?_
  refine fr_calls_p (pc := 5) (nc := nc) (ns := ns) (N := m_OB_checkIndex) (rest := []) (as := [.int (nI i), .int (nI ts.length)]) (v := .int (nI i)) d_AL_remove_5 k_OB_checkIndex lk_AL_118 sc_OB_checkIndex np_OB_checkIndex ⟨by decide, by decide, Nat.le_of_ble_eq_true rfl⟩ (Nat.le_of_ble_eq_true rfl) (c_OB_chk hi (by omega)) rfl ?_
  refine fr_pop (pc := 8) d_AL_remove_8 rfl ?_
  refine fr_aload_n (pc := 9) d_AL_remove_9 rfl rfl ?_
  refine fr_get (pc := 10) (v := .ref d) d_AL_remove_10 fg_AL_9 h1 rfl ?_
  refine fr_astore_n (pc := 13) (L2 := [(0, .ref a), (1, .int (nI i)), (2, .ref d)]) d_AL_remove_13 rfl (by decide) rfl ?_
  refine fr_aload_n (pc := 14) d_AL_remove_14 rfl rfl ?_
  refine fr_iload_n (pc := 15) d_AL_remove_15 rfl rfl ?_
  refine fr_aaldN (pc := 16) (t := 4) (k := i) (n := cap) d_AL_remove_16 rfl h2 (by omega) (by omega) ?_
  rw [show li_f ts i = some y from hy]
  refine fr_st (st2 := [.ref y]) rfl ?_
  refine fr_astore_n (pc := 17) (L2 := [(0, .ref a), (1, .int (nI i)), (2, .ref d), (3, .ref y)]) d_AL_remove_17 rfl (by decide) rfl ?_
  refine fr_aload_n (pc := 18) d_AL_remove_18 rfl rfl ?_
  refine fr_aload_n (pc := 19) d_AL_remove_19 rfl rfl ?_
  refine fr_iload_n (pc := 20) d_AL_remove_20 rfl rfl ?_
  refine fr_callV (pc := 21) (nc := nc) (ns := ns) (N := m_AL_fastRemove) (rest := []) (as := [.ref d, .int (nI i)]) d_AL_remove_21 vc_AL_144 ⟨by decide, by decide, Nat.le_of_ble_eq_true rfl⟩ (Nat.le_of_ble_eq_true rfl) h1 (c_AL_fast h1 h2 h3 (by omega) h5 hi) rfl (fun v w1 hp => ?_) (fun C w1 hp => ?_)
  · obtain ⟨e1, e2⟩ := hp
    cases e1
    subst e2
    refine fr_st (st2 := []) rfl ?_
    refine fr_aload_n (pc := 24) d_AL_remove_24 rfl rfl ?_
    refine fr_aret rfl (Or.inl ⟨_, rfl⟩) (Or.inr ⟨_, rfl⟩) d_AL_remove_25 ⟨rfl, ⟨mc + 1, by rw [fw_up_ne (Ne.symm had), fw_up_self, li_del_len hi], by rw [li_del_len hi]; omega, fun z hz => ?_, Or.inr ⟨fw_up_self, by rw [li_del_len hi]; omega, h4⟩⟩, fun b hb hb2 => by rw [fw_up_ne hb2, fw_up_ne hb]⟩
    obtain ⟨fs, q⟩ := h5 z (li_del_mem hz)
    exact ⟨fs, fw_up_at (fw_up_at q (fun z2 => by rw [z2, h1] at q; cases q)) (fun z2 => by rw [z2, h2] at q; cases q)⟩
  · obtain ⟨e1, e2⟩ := hp
    cases e1
end
section
abbrev m_ND_init : fw_M := (⟨"FolderRights$Node", "<init>", "(ILFolderRights$Node;ZI)V"⟩, prog_4_method_1_code, 5, none, { frames := 4, cells := 1, slots := 3, locals := 80 }, [])
theorem d_ND_init_0 : decode m_ND_init.2.1 0 = .ok (.aload_n 0, 1) := by decide +kernel
theorem d_ND_init_1 : decode m_ND_init.2.1 1 = .ok (.invokespecial 1, 3) := by decide +kernel
theorem d_ND_init_4 : decode m_ND_init.2.1 4 = .ok (.aload_n 0, 1) := by decide +kernel
theorem d_ND_init_5 : decode m_ND_init.2.1 5 = .ok (.iload_n 1, 1) := by decide +kernel
theorem d_ND_init_6 : decode m_ND_init.2.1 6 = .ok (.putfield 7, 3) := by decide +kernel
theorem d_ND_init_9 : decode m_ND_init.2.1 9 = .ok (.aload_n 0, 1) := by decide +kernel
theorem d_ND_init_10 : decode m_ND_init.2.1 10 = .ok (.aload_n 2, 1) := by decide +kernel
theorem d_ND_init_11 : decode m_ND_init.2.1 11 = .ok (.putfield 13, 3) := by decide +kernel
theorem d_ND_init_14 : decode m_ND_init.2.1 14 = .ok (.aload_n 0, 1) := by decide +kernel
theorem d_ND_init_15 : decode m_ND_init.2.1 15 = .ok (.iload_n 3, 1) := by decide +kernel
theorem d_ND_init_16 : decode m_ND_init.2.1 16 = .ok (.putfield 17, 3) := by decide +kernel
theorem d_ND_init_19 : decode m_ND_init.2.1 19 = .ok (.aload_n 0, 1) := by decide +kernel
theorem d_ND_init_20 : decode m_ND_init.2.1 20 = .ok (.iload 4, 2) := by decide +kernel
theorem d_ND_init_22 : decode m_ND_init.2.1 22 = .ok (.putfield 21, 3) := by decide +kernel
theorem d_ND_init_25 : decode m_ND_init.2.1 25 = .ok (.aload_n 0, 1) := by decide +kernel
theorem d_ND_init_26 : decode m_ND_init.2.1 26 = .ok (.new 24, 3) := by decide +kernel
theorem d_ND_init_29 : decode m_ND_init.2.1 29 = .ok (.dup, 1) := by decide +kernel
theorem d_ND_init_30 : decode m_ND_init.2.1 30 = .ok (.invokespecial 26, 3) := by decide +kernel
theorem d_ND_init_33 : decode m_ND_init.2.1 33 = .ok (.putfield 27, 3) := by decide +kernel
theorem d_ND_init_36 : decode m_ND_init.2.1 36 = .ok (.aload_n 0, 1) := by decide +kernel
theorem d_ND_init_37 : decode m_ND_init.2.1 37 = .ok (.iconst 1, 1) := by decide +kernel
theorem d_ND_init_38 : decode m_ND_init.2.1 38 = .ok (.putfield 31, 3) := by decide +kernel
theorem d_ND_init_41 : decode m_ND_init.2.1 41 = .ok (.return_, 1) := by decide +kernel
theorem k_ND_init : fw_cal m_ND_init := ⟨by decide +kernel, by decide +kernel, (fw_t 3 (by decide +kernel)), Or.inl ⟨rfl, fw_t 60 (by decide +kernel)⟩⟩
abbrev m_FR_init : fw_M := (⟨"FolderRights", "<init>", "()V"⟩, prog_1_method_1_code, 1, none, { frames := 5, cells := 8, slots := 261, locals := 104 }, [])
theorem d_FR_init_0 : decode m_FR_init.2.1 0 = .ok (.aload_n 0, 1) := by decide +kernel
theorem d_FR_init_1 : decode m_FR_init.2.1 1 = .ok (.invokespecial 1, 3) := by decide +kernel
theorem d_FR_init_4 : decode m_FR_init.2.1 4 = .ok (.aload_n 0, 1) := by decide +kernel
theorem d_FR_init_5 : decode m_FR_init.2.1 5 = .ok (.new 7, 3) := by decide +kernel
theorem d_FR_init_8 : decode m_FR_init.2.1 8 = .ok (.dup, 1) := by decide +kernel
theorem d_FR_init_9 : decode m_FR_init.2.1 9 = .ok (.invokespecial 9, 3) := by decide +kernel
theorem d_FR_init_12 : decode m_FR_init.2.1 12 = .ok (.putfield 10, 3) := by decide +kernel
theorem d_FR_init_15 : decode m_FR_init.2.1 15 = .ok (.aload_n 0, 1) := by decide +kernel
theorem d_FR_init_16 : decode m_FR_init.2.1 16 = .ok (.sipush 150, 3) := by decide +kernel
theorem d_FR_init_19 : decode m_FR_init.2.1 19 = .ok (.anewarray 16, 3) := by decide +kernel
theorem d_FR_init_22 : decode m_FR_init.2.1 22 = .ok (.putfield 18, 3) := by decide +kernel
theorem d_FR_init_25 : decode m_FR_init.2.1 25 = .ok (.aload_n 0, 1) := by decide +kernel
theorem d_FR_init_26 : decode m_FR_init.2.1 26 = .ok (.getfield 18, 3) := by decide +kernel
theorem d_FR_init_29 : decode m_FR_init.2.1 29 = .ok (.iconst 0, 1) := by decide +kernel
theorem d_FR_init_30 : decode m_FR_init.2.1 30 = .ok (.new 16, 3) := by decide +kernel
theorem d_FR_init_33 : decode m_FR_init.2.1 33 = .ok (.dup, 1) := by decide +kernel
theorem d_FR_init_34 : decode m_FR_init.2.1 34 = .ok (.iconst 0, 1) := by decide +kernel
theorem d_FR_init_35 : decode m_FR_init.2.1 35 = .ok (.aconst_null, 1) := by decide +kernel
theorem d_FR_init_36 : decode m_FR_init.2.1 36 = .ok (.iconst 1, 1) := by decide +kernel
theorem d_FR_init_37 : decode m_FR_init.2.1 37 = .ok (.iconst 0, 1) := by decide +kernel
theorem d_FR_init_38 : decode m_FR_init.2.1 38 = .ok (.invokespecial 22, 3) := by decide +kernel
theorem d_FR_init_41 : decode m_FR_init.2.1 41 = .ok (.aastore, 1) := by decide +kernel
theorem d_FR_init_42 : decode m_FR_init.2.1 42 = .ok (.aload_n 0, 1) := by decide +kernel
theorem d_FR_init_43 : decode m_FR_init.2.1 43 = .ok (.iconst 1, 1) := by decide +kernel
theorem d_FR_init_44 : decode m_FR_init.2.1 44 = .ok (.putfield 25, 3) := by decide +kernel
theorem d_FR_init_47 : decode m_FR_init.2.1 47 = .ok (.return_, 1) := by decide +kernel
theorem k_FR_init : fw_cal m_FR_init := ⟨by decide +kernel, by decide +kernel, (fw_t 1 (by decide +kernel)), Or.inl ⟨rfl, fw_t 26 (by decide +kernel)⟩⟩
theorem fp_BL_init_7 : fw_fpt m_BL_init 7 4 0 .int := ⟨_, _, _, "java/util/AbstractList", rfl, by decide, fw_i4, Or.inl rfl, ⟨fw_y4, fw_k4⟩, fw_n4, by decide +kernel, Or.inl ⟨rfl, Or.inl (fw_t 78 (by decide +kernel))⟩⟩
theorem fp_ND_init_7 : fw_fpt m_ND_init 7 2 0 .int := ⟨_, _, _, "FolderRights$Node", rfl, by decide, fw_i2, Or.inl rfl, ⟨fw_y2, fw_k2⟩, fw_n2, by decide +kernel, Or.inr ⟨rfl, rfl, rfl, (fw_t 88 (by decide +kernel))⟩⟩
theorem fp_ND_init_13 : fw_fpt m_ND_init 13 2 3 (.object "FolderRights$Node") := ⟨_, _, _, "FolderRights$Node", rfl, by decide, fw_i2, Or.inl rfl, ⟨fw_y2, fw_k2⟩, fw_n2, by decide +kernel, Or.inl ⟨rfl, Or.inl (fw_t 95 (by decide +kernel))⟩⟩
theorem fp_ND_init_17 : fw_fpt m_ND_init 17 2 1 .boolean := ⟨_, _, _, "FolderRights$Node", rfl, by decide, fw_i2, Or.inl rfl, ⟨fw_y2, fw_k2⟩, fw_n2, by decide +kernel, Or.inr ⟨rfl, rfl, rfl, (fw_t 90 (by decide +kernel))⟩⟩
theorem fp_ND_init_21 : fw_fpt m_ND_init 21 2 4 .int := ⟨_, _, _, "FolderRights$Node", rfl, by decide, fw_i2, Or.inl rfl, ⟨fw_y2, fw_k2⟩, fw_n2, by decide +kernel, Or.inl ⟨rfl, Or.inl (fw_t 98 (by decide +kernel))⟩⟩
theorem lk_ND_26 : fw_lk "FolderRights$Node" 26 ⟨"java/util/ArrayList", "<init>", "()V"⟩ := Or.inl (fw_t 64 (by decide +kernel))
theorem np_AL_init : fw_np ⟨"java/util/ArrayList", "<init>", "()V"⟩ 0 := by unfold fw_np; decide +kernel
theorem im_AL_init : Cond.instanceMethod ⟨"java/util/ArrayList", "<init>", "()V"⟩ ∈ lw_tbl := (fw_t 65 (by decide +kernel))
theorem fp_ND_init_27 : fw_fpt m_ND_init 27 2 2 (.object "java/util/ArrayList") := ⟨_, _, _, "FolderRights$Node", rfl, by decide, fw_i2, Or.inl rfl, ⟨fw_y2, fw_k2⟩, fw_n2, by decide +kernel, Or.inr ⟨rfl, rfl, rfl, (fw_t 93 (by decide +kernel))⟩⟩
theorem fp_ND_init_31 : fw_fpt m_ND_init 31 2 6 .boolean := ⟨_, _, _, "FolderRights$Node", rfl, by decide, fw_i2, Or.inl rfl, ⟨fw_y2, fw_k2⟩, fw_n2, by decide +kernel, Or.inl ⟨rfl, Or.inl (fw_t 102 (by decide +kernel))⟩⟩
theorem lk_FR_9 : fw_lk "FolderRights" 9 ⟨"FolderRights$Groups", "<init>", "()V"⟩ := Or.inl (fw_t 32 (by decide +kernel))
theorem np_GR_init : fw_np ⟨"FolderRights$Groups", "<init>", "()V"⟩ 0 := by unfold fw_np; decide +kernel
theorem im_GR_init : Cond.instanceMethod ⟨"FolderRights$Groups", "<init>", "()V"⟩ ∈ lw_tbl := (fw_t 33 (by decide +kernel))
theorem fp_FR_init_10 : fw_fpt m_FR_init 10 0 0 (.object "FolderRights$Groups") := ⟨_, _, _, "FolderRights", rfl, by decide, fw_i0, Or.inl rfl, ⟨fw_y0, fw_k0⟩, fw_n0, by decide +kernel, Or.inr ⟨rfl, rfl, rfl, (fw_t 119 (by decide +kernel))⟩⟩
theorem fp_FR_init_18 : fw_fpt m_FR_init 18 0 1 (.array (.object "FolderRights$Node")) := ⟨_, _, _, "FolderRights", rfl, by decide, fw_i0, Or.inl rfl, ⟨fw_y0, fw_k0⟩, fw_n0, by decide +kernel, Or.inr ⟨rfl, rfl, rfl, (fw_t 120 (by decide +kernel))⟩⟩
theorem fg_FR_18 : fw_fld "FolderRights" 18 0 1 := ⟨_, _, _, "FolderRights", rfl, by decide, fw_i0, Or.inl rfl, Or.inl (fw_t 120 (by decide +kernel))⟩
theorem lk_FR_22 : fw_lk "FolderRights" 22 ⟨"FolderRights$Node", "<init>", "(ILFolderRights$Node;ZI)V"⟩ := Or.inl (fw_t 58 (by decide +kernel))
theorem np_ND_init : fw_np ⟨"FolderRights$Node", "<init>", "(ILFolderRights$Node;ZI)V"⟩ 4 := by unfold fw_np; decide +kernel
theorem im_ND_init : Cond.instanceMethod ⟨"FolderRights$Node", "<init>", "(ILFolderRights$Node;ZI)V"⟩ ∈ lw_tbl := (fw_t 59 (by decide +kernel))
theorem fp_FR_init_25 : fw_fpt m_FR_init 25 0 2 .int := ⟨_, _, _, "FolderRights", rfl, by decide, fw_i0, Or.inl rfl, ⟨fw_y0, fw_k0⟩, fw_n0, by decide +kernel, Or.inl ⟨rfl, Or.inl (fw_t 121 (by decide +kernel))⟩⟩
theorem fr_calli_n {g : fw_G} {M N : fw_M} {Post : fw_O → fw_W → Prop} {nc ns : Nat} {w w2 : fw_W} {pc : Nat} {L : List (Nat × Value)} {rest : List Value} {idx a : Nat} {as : List Value} (hd : decode M.2.1 pc = .ok (.invokespecial idx, 3)) (hcal : fw_cal N) (hini : N.1.name = "<init>") (hh : N.2.2.2.2.2 = []) (hret : N.2.2.2.1 = none) (hcode : Cond.code N.1 N.2.1 N.2.2.1 N.2.2.2.1 ∈ lw_tbl) (hlk : fw_lk M.1.cls idx N.1) (hin : Cond.instanceMethod N.1 ∈ lw_tbl) (hnp : fw_np N.1 as.length) (hrm : fw_rm M N (.ref a :: as)) (hrest : (rest.map fun v => v.category).sum ≤ 8)
    (hN : fw_R g N (fw_pn w2) N.2.2.2.2.1.cells N.2.2.2.2.1.slots w 0 (lv_args 0 (.ref a :: as)) []) {st : List Value} (he : st = as.reverse ++ .ref a :: rest) (kk : fw_R g M Post nc ns w2 (pc + 3) L rest) : fw_R g M Post (nc + N.2.2.2.2.1.cells) (ns + N.2.2.2.2.1.slots) w pc L st :=
  fr_calli hd hcal hini hh hret hcode hlk hin hnp hrm hrest hN (fun v1 w1 h => by obtain ⟨h1, h2⟩ := h; cases h1; subst h2; exact kk) (fun C w1 h => by obtain ⟨h1, -⟩ := h; cases h1) he
theorem c_BC_init {g : fw_G} {nc ns : Nat} {w : fw_W} {a : Nat} : fw_R g m_BC_init (fw_pn w) nc ns w 0 [(0, .ref a)] [] := by
  refine fr_aload_n (pc := 0) d_BC_init_0 rfl rfl ?_
  refine fr_objInit (pc := 1) d_BC_init_1 (fw_t 73 (by decide +kernel)) (fw_t 28 (by decide +kernel)) (fw_t 29 (by decide +kernel)) (by decide) (Nat.le_of_ble_eq_true rfl) ?_
  exact fr_vret rfl d_BC_init_4 ⟨rfl, rfl⟩
theorem c_BL_init {g : fw_G} {nc ns : Nat} {w : fw_W} {a : Nat} (h : w a = some (.inr (4, [.int 0, .null, .int 0]))) : fw_R g m_BL_init (fw_pn w) nc ns w 0 [(0, .ref a)] [] := by
  refine fr_aload_n (pc := 0) d_BL_init_0 rfl rfl ?_
  refine fr_calli_n (pc := 1) (nc := nc) (ns := ns) (N := m_BC_init) (rest := []) (as := []) d_BL_init_1 k_BC_init rfl rfl rfl (fw_t 72 (by decide +kernel)) lk_BL_1 im_BC_init np_BC_init ⟨by decide, by decide, Nat.le_of_ble_eq_true rfl⟩ (Nat.le_of_ble_eq_true rfl) c_BC_init rfl ?_
  refine fr_aload_n (pc := 4) d_BL_init_4 rfl rfl ?_
  refine fr_iconst (pc := 5) (v := 0) d_BL_init_5 (by decide) ?_
  refine fr_put (pc := 6) (fs2 := [.int 0, .null, .int 0]) d_BL_init_6 fp_BL_init_7 h (Nat.le_of_ble_eq_true rfl) rfl rfl rfl ?_
  rw [fw_up_id h]
  exact fr_vret rfl d_BL_init_9 ⟨rfl, rfl⟩
theorem c_AL_init {g : fw_G} {nc ns : Nat} {w : fw_W} {a : Nat} (h : w a = some (.inr (4, [.int 0, .null, .int 0]))) : fw_R g m_AL_init (fw_pn (fw_up w a (.inr (4, [.int 0, .ref (fw_df g), .int 0])))) nc ns w 0 [(0, .ref a)] [] := by
  refine fr_aload_n (pc := 0) d_AL_init_0 rfl rfl ?_
  refine fr_calli_n (pc := 1) (nc := nc) (ns := ns) (N := m_BL_init) (rest := []) (as := []) d_AL_init_1 k_BL_init rfl rfl rfl (fw_t 69 (by decide +kernel)) lk_AL_1 im_BL_init np_BL_init ⟨by decide, by decide, Nat.le_of_ble_eq_true rfl⟩ (Nat.le_of_ble_eq_true rfl) (c_BL_init h) rfl ?_
  refine fr_aload_n (pc := 4) d_AL_init_4 rfl rfl ?_
  refine fr_dflt (pc := 5) d_AL_init_5 (fw_t 74 (by decide +kernel)) ?_
  refine fr_put (pc := 8) (fs2 := [.int 0, .ref (fw_df g), .int 0]) d_AL_init_8 fp_AL_init_9 h (Nat.le_of_ble_eq_true rfl) rfl rfl rfl ?_
  exact fr_vret rfl d_AL_init_11 ⟨rfl, rfl⟩
theorem nw_AL_ND : fw_nw "FolderRights$Node" 24 4 3 [.int 0, .null, .int 0] := ⟨"java/util/ArrayList", fw_T4, rfl, fw_i4, (fw_t 62 (by decide +kernel)), (fw_t 63 (by decide +kernel)), (fw_t 6 (by decide +kernel)), fw_y4, fw_k4, by decide⟩
theorem nw_GR_FR : fw_nw "FolderRights" 7 1 5 [.int 0, .null, .null, .null, .null] := ⟨"FolderRights$Groups", fw_T1, rfl, fw_i1, (fw_t 30 (by decide +kernel)), (fw_t 31 (by decide +kernel)), (fw_t 2 (by decide +kernel)), fw_y1, fw_k1, by decide⟩
theorem nw_ND_FR : fw_nw "FolderRights" 16 2 7 [.int 0, .int 0, .null, .null, .int 0, .int 0, .int 0] := ⟨"FolderRights$Node", fw_T2, rfl, fw_i2, (fw_t 55 (by decide +kernel)), (fw_t 57 (by decide +kernel)), (fw_t 3 (by decide +kernel)), fw_y2, fw_k2, by decide⟩
theorem fw_ue {w : fw_W} {a b : Nat} {x y z : va_E} (h : a ≠ b) : fw_up (fw_up (fw_up w a x) b y) a z = fw_up (fw_up w a z) b y := by
  funext c
  by_cases h2 : c = b
  · subst h2; rw [fw_up_ne (Ne.symm h), fw_up_self, fw_up_self]
  · by_cases h1 : c = a
    · subst h1; rw [fw_up_self, fw_up_ne h2, fw_up_self]
    · rw [fw_up_ne h1, fw_up_ne h2, fw_up_ne h1, fw_up_ne h2, fw_up_ne h1]
theorem c_ND_init {g : fw_G} {w : fw_W} {a n ow : Nat} {pr : Option Nat} {fo : Bool} (h : w a = some (.inr (2, [.int 0, .int 0, .null, .null, .int 0, .int 0, .int 0]))) : fw_R g m_ND_init (fun r u => r = .inl none ∧ ∃ q, w q = none ∧ q ≠ a ∧ u = fw_up (fw_up w a (.inr (2, [.int (nI n), .int (bI fo), .ref q, va_rf pr, .int (nI ow), .int (bI false), .int (bI true)]))) q (.inr (4, [.int 0, .ref (fw_df g), .int 0]))) 1 3 w 0 [(0, .ref a), (1, .int (nI n)), (2, va_rf pr), (3, .int (bI fo)), (4, .int (nI ow))] [] := by
  have key : ∀ v : Value, v = .null ∨ (∃ x, v = .ref x) → fw_R g m_ND_init (fun r u => r = .inl none ∧ ∃ q, w q = none ∧ q ≠ a ∧ u = fw_up (fw_up w a (.inr (2, [.int (nI n), .int (bI fo), .ref q, v, .int (nI ow), .int (bI false), .int (bI true)]))) q (.inr (4, [.int 0, .ref (fw_df g), .int 0]))) 1 3 w 0 [(0, .ref a), (1, .int (nI n)), (2, v), (3, .int (bI fo)), (4, .int (nI ow))] [] := by
    intro v hv
    rcases hv with rfl | ⟨x, rfl⟩
    · refine fr_aload_n (pc := 0) d_ND_init_0 rfl rfl ?_
      refine fr_objInit (pc := 1) d_ND_init_1 (fw_t 61 (by decide +kernel)) (fw_t 28 (by decide +kernel)) (fw_t 29 (by decide +kernel)) (by decide) (Nat.le_of_ble_eq_true rfl) ?_
      refine fr_aload_n (pc := 4) d_ND_init_4 rfl rfl ?_
      refine fr_iload_n (pc := 5) d_ND_init_5 rfl rfl ?_
      refine fr_put (pc := 6) (fs2 := [.int (nI n), .int 0, .null, .null, .int 0, .int 0, .int 0]) d_ND_init_6 fp_ND_init_7 h (Nat.le_of_ble_eq_true rfl) rfl rfl rfl ?_
      refine fr_aload_n (pc := 9) d_ND_init_9 rfl rfl ?_
      refine fr_aload_nN (pc := 10) d_ND_init_10 rfl rfl ?_
      refine fr_put (pc := 11) (fs2 := [.int (nI n), .int 0, .null, .null, .int 0, .int 0, .int 0]) d_ND_init_11 fp_ND_init_13 fw_up_self (Nat.le_of_ble_eq_true rfl) rfl rfl rfl ?_
      refine fr_aload_n (pc := 14) d_ND_init_14 rfl rfl ?_
      refine fr_iload_n (pc := 15) d_ND_init_15 rfl rfl ?_
      refine fr_put (pc := 16) (fs2 := [.int (nI n), .int (bI fo), .null, .null, .int 0, .int 0, .int 0]) d_ND_init_16 fp_ND_init_17 fw_up_self (Nat.le_of_ble_eq_true rfl) (bI_nar _) (bI_fit _) rfl ?_
      refine fr_aload_n (pc := 19) d_ND_init_19 rfl rfl ?_
      refine fr_iload (pc := 20) d_ND_init_20 rfl ?_
      refine fr_put (pc := 22) (fs2 := [.int (nI n), .int (bI fo), .null, .null, .int (nI ow), .int 0, .int 0]) d_ND_init_22 fp_ND_init_21 fw_up_self (Nat.le_of_ble_eq_true rfl) rfl rfl rfl ?_
      rw [fw_uu, fw_uu, fw_uu]
      refine fr_aload_n (pc := 25) d_ND_init_25 rfl rfl ?_
      refine fr_new (pc := 26) (nc := 0) (ns := 0) (ci := 4) (N := 3) (fs := [.int 0, .null, .int 0]) d_ND_init_26 nw_AL_ND (fun q hq => ?_)
      have hqa : q ≠ a := fun z => by rw [z, fw_up_self] at hq; cases hq
      have hq0 : w q = none := (fw_up_ne hqa).symm.trans hq
      refine fr_dup (pc := 29) d_ND_init_29 rfl ?_
      refine fr_calli_n (pc := 30) (nc := 0) (ns := 0) (N := m_AL_init) (rest := [.ref q, .ref a]) (as := []) d_ND_init_30 k_AL_init rfl rfl rfl (fw_t 66 (by decide +kernel)) lk_ND_26 im_AL_init np_AL_init ⟨by decide, by decide, Nat.le_of_ble_eq_true rfl⟩ (Nat.le_of_ble_eq_true rfl) (c_AL_init fw_up_self) rfl ?_
      rw [fw_uu]
      refine fr_st (st2 := [.ref q, .ref a]) rfl ?_
      refine fr_put (pc := 33) (fs2 := [.int (nI n), .int (bI fo), .ref q, .null, .int (nI ow), .int 0, .int 0]) d_ND_init_33 fp_ND_init_27 (fw_up_at fw_up_self (Ne.symm hqa)) (Nat.le_of_ble_eq_true rfl) rfl rfl rfl ?_
      refine fr_aload_n (pc := 36) d_ND_init_36 rfl rfl ?_
      refine fr_iconst (pc := 37) (v := 1) d_ND_init_37 (by decide) ?_
      refine fr_put (pc := 38) (fs2 := [.int (nI n), .int (bI fo), .ref q, .null, .int (nI ow), .int 0, .int 1]) d_ND_init_38 fp_ND_init_31 fw_up_self (Nat.le_of_ble_eq_true rfl) rfl rfl rfl ?_
      exact fr_vret rfl d_ND_init_41 ⟨rfl, q, hq0, hqa, by rw [fw_uu]; exact fw_ue (Ne.symm hqa)⟩
    · refine fr_aload_n (pc := 0) d_ND_init_0 rfl rfl ?_
      refine fr_objInit (pc := 1) d_ND_init_1 (fw_t 61 (by decide +kernel)) (fw_t 28 (by decide +kernel)) (fw_t 29 (by decide +kernel)) (by decide) (Nat.le_of_ble_eq_true rfl) ?_
      refine fr_aload_n (pc := 4) d_ND_init_4 rfl rfl ?_
      refine fr_iload_n (pc := 5) d_ND_init_5 rfl rfl ?_
      refine fr_put (pc := 6) (fs2 := [.int (nI n), .int 0, .null, .null, .int 0, .int 0, .int 0]) d_ND_init_6 fp_ND_init_7 h (Nat.le_of_ble_eq_true rfl) rfl rfl rfl ?_
      refine fr_aload_n (pc := 9) d_ND_init_9 rfl rfl ?_
      refine fr_aload_n (pc := 10) d_ND_init_10 rfl rfl ?_
      refine fr_put (pc := 11) (fs2 := [.int (nI n), .int 0, .null, .ref x, .int 0, .int 0, .int 0]) d_ND_init_11 fp_ND_init_13 fw_up_self (Nat.le_of_ble_eq_true rfl) rfl rfl rfl ?_
      refine fr_aload_n (pc := 14) d_ND_init_14 rfl rfl ?_
      refine fr_iload_n (pc := 15) d_ND_init_15 rfl rfl ?_
      refine fr_put (pc := 16) (fs2 := [.int (nI n), .int (bI fo), .null, .ref x, .int 0, .int 0, .int 0]) d_ND_init_16 fp_ND_init_17 fw_up_self (Nat.le_of_ble_eq_true rfl) (bI_nar _) (bI_fit _) rfl ?_
      refine fr_aload_n (pc := 19) d_ND_init_19 rfl rfl ?_
      refine fr_iload (pc := 20) d_ND_init_20 rfl ?_
      refine fr_put (pc := 22) (fs2 := [.int (nI n), .int (bI fo), .null, .ref x, .int (nI ow), .int 0, .int 0]) d_ND_init_22 fp_ND_init_21 fw_up_self (Nat.le_of_ble_eq_true rfl) rfl rfl rfl ?_
      rw [fw_uu, fw_uu, fw_uu]
      refine fr_aload_n (pc := 25) d_ND_init_25 rfl rfl ?_
      refine fr_new (pc := 26) (nc := 0) (ns := 0) (ci := 4) (N := 3) (fs := [.int 0, .null, .int 0]) d_ND_init_26 nw_AL_ND (fun q hq => ?_)
      have hqa : q ≠ a := fun z => by rw [z, fw_up_self] at hq; cases hq
      have hq0 : w q = none := (fw_up_ne hqa).symm.trans hq
      refine fr_dup (pc := 29) d_ND_init_29 rfl ?_
      refine fr_calli_n (pc := 30) (nc := 0) (ns := 0) (N := m_AL_init) (rest := [.ref q, .ref a]) (as := []) d_ND_init_30 k_AL_init rfl rfl rfl (fw_t 66 (by decide +kernel)) lk_ND_26 im_AL_init np_AL_init ⟨by decide, by decide, Nat.le_of_ble_eq_true rfl⟩ (Nat.le_of_ble_eq_true rfl) (c_AL_init fw_up_self) rfl ?_
      rw [fw_uu]
      refine fr_st (st2 := [.ref q, .ref a]) rfl ?_
      refine fr_put (pc := 33) (fs2 := [.int (nI n), .int (bI fo), .ref q, .ref x, .int (nI ow), .int 0, .int 0]) d_ND_init_33 fp_ND_init_27 (fw_up_at fw_up_self (Ne.symm hqa)) (Nat.le_of_ble_eq_true rfl) rfl rfl rfl ?_
      refine fr_aload_n (pc := 36) d_ND_init_36 rfl rfl ?_
      refine fr_iconst (pc := 37) (v := 1) d_ND_init_37 (by decide) ?_
      refine fr_put (pc := 38) (fs2 := [.int (nI n), .int (bI fo), .ref q, .ref x, .int (nI ow), .int 0, .int 1]) d_ND_init_38 fp_ND_init_31 fw_up_self (Nat.le_of_ble_eq_true rfl) rfl rfl rfl ?_
      exact fr_vret rfl d_ND_init_41 ⟨rfl, q, hq0, hqa, by rw [fw_uu]; exact fw_ue (Ne.symm hqa)⟩
  exact key (va_rf pr) (by cases pr; exact Or.inl rfl; exact Or.inr ⟨_, rfl⟩)
theorem c_GR_init {g : fw_G} {w : fw_W} {a : Nat} (h : w a = some (.inr (1, [.int 0, .null, .null, .null, .null]))) : fw_R g m_GR_init (fun r u => r = .inl none ∧ ∃ a1 a2 a3 a4, gr_at g u a a1 a2 a3 a4 0 (fun _ => 0) (fun _ => 0) (fun _ => 0) (fun _ => 0) ∧ w a1 = none ∧ w a2 = none ∧ w a3 = none ∧ w a4 = none ∧ ∀ b, w b ≠ none → b ≠ a → u b = w b) 4 96 w 0 [(0, .ref a)] [] := by
  refine fr_aload_n (pc := 0) d_GR_init_0 rfl rfl ?_
  refine fr_objInit (pc := 1) d_GR_init_1 (fw_t 35 (by decide +kernel)) (fw_t 28 (by decide +kernel)) (fw_t 29 (by decide +kernel)) (by decide) (Nat.le_of_ble_eq_true rfl) ?_
  refine fr_aload_n (pc := 4) d_GR_init_4 rfl rfl ?_
  refine fr_bipush (pc := 5) (v := 24) d_GR_init_5 (by decide) ?_
  refine fr_newa (pc := 7) (nc := 3) (ns := 72) (N := 24) (t := 2) (a0 := (24, .inr (.inl (fun _ => 0)))) d_GR_init_7 rfl (fw_t 54 (by decide +kernel)) rfl (fun cA => rfl) (by decide) (by decide) (by decide) (fun a1 q1 => ?_)
  have n1 : a ≠ a1 := fun e => by rw [← e] at q1; first | (rw [h] at q1; cases q1) | (rw [fw_up_self] at q1; cases q1)
  refine fr_put (pc := 9) (fs2 := [.int 0, .ref a1, .null, .null, .null]) d_GR_init_9 fp_GR_init_9 (fw_up_at h n1) (Nat.le_of_ble_eq_true rfl) rfl rfl rfl ?_
  refine fr_aload_n (pc := 12) d_GR_init_12 rfl rfl ?_
  refine fr_bipush (pc := 13) (v := 24) d_GR_init_13 (by decide) ?_
  refine fr_newa (pc := 15) (nc := 2) (ns := 48) (N := 24) (t := 2) (a0 := (24, .inr (.inl (fun _ => 0)))) d_GR_init_15 rfl (fw_t 54 (by decide +kernel)) rfl (fun cA => rfl) (by decide) (by decide) (by decide) (fun a2 q2 => ?_)
  have n2 : a ≠ a2 := fun e => by rw [← e] at q2; first | (rw [h] at q2; cases q2) | (rw [fw_up_self] at q2; cases q2)
  refine fr_put (pc := 17) (fs2 := [.int 0, .ref a1, .ref a2, .null, .null]) d_GR_init_17 fp_GR_init_15 (fw_up_at fw_up_self n2) (Nat.le_of_ble_eq_true rfl) rfl rfl rfl ?_
  refine fr_aload_n (pc := 20) d_GR_init_20 rfl rfl ?_
  refine fr_bipush (pc := 21) (v := 24) d_GR_init_21 (by decide) ?_
  refine fr_newa (pc := 23) (nc := 1) (ns := 24) (N := 24) (t := 2) (a0 := (24, .inr (.inl (fun _ => 0)))) d_GR_init_23 rfl (fw_t 54 (by decide +kernel)) rfl (fun cA => rfl) (by decide) (by decide) (by decide) (fun a3 q3 => ?_)
  have n3 : a ≠ a3 := fun e => by rw [← e] at q3; first | (rw [h] at q3; cases q3) | (rw [fw_up_self] at q3; cases q3)
  refine fr_put (pc := 25) (fs2 := [.int 0, .ref a1, .ref a2, .ref a3, .null]) d_GR_init_25 fp_GR_init_18 (fw_up_at fw_up_self n3) (Nat.le_of_ble_eq_true rfl) rfl rfl rfl ?_
  refine fr_aload_n (pc := 28) d_GR_init_28 rfl rfl ?_
  refine fr_bipush (pc := 29) (v := 24) d_GR_init_29 (by decide) ?_
  refine fr_newa (pc := 31) (nc := 0) (ns := 0) (N := 24) (t := 2) (a0 := (24, .inr (.inl (fun _ => 0)))) d_GR_init_31 rfl (fw_t 54 (by decide +kernel)) rfl (fun cA => rfl) (by decide) (by decide) (by decide) (fun a4 q4 => ?_)
  have n4 : a ≠ a4 := fun e => by rw [← e] at q4; first | (rw [h] at q4; cases q4) | (rw [fw_up_self] at q4; cases q4)
  refine fr_put (pc := 33) (fs2 := [.int 0, .ref a1, .ref a2, .ref a3, .ref a4]) d_GR_init_33 fp_GR_init_21 (fw_up_at fw_up_self n4) (Nat.le_of_ble_eq_true rfl) rfl rfl rfl ?_
  have k12 : a2 ≠ a1 := fun e => by rw [e, fw_up_ne (Ne.symm n1), fw_up_self] at q2; cases q2
  have k13 : a3 ≠ a1 := fun e => by rw [e, fw_up_ne (Ne.symm n1), fw_up_ne (Ne.symm k12), fw_up_ne (Ne.symm n1), fw_up_self] at q3; cases q3
  have k23 : a3 ≠ a2 := fun e => by rw [e, fw_up_ne (Ne.symm n2), fw_up_self] at q3; cases q3
  have k14 : a4 ≠ a1 := fun e => by rw [e, fw_up_ne (Ne.symm n1), fw_up_ne (Ne.symm k13), fw_up_ne (Ne.symm n1), fw_up_ne (Ne.symm k12), fw_up_ne (Ne.symm n1), fw_up_self] at q4; cases q4
  have k24 : a4 ≠ a2 := fun e => by rw [e, fw_up_ne (Ne.symm n2), fw_up_ne (Ne.symm k23), fw_up_ne (Ne.symm n2), fw_up_self] at q4; cases q4
  have k34 : a4 ≠ a3 := fun e => by rw [e, fw_up_ne (Ne.symm n3), fw_up_self] at q4; cases q4
  refine fr_vret rfl d_GR_init_36 ⟨rfl, a1, a2, a3, a4, ⟨fw_up_self, ?_, ?_, ?_, ?_, by decide, Ne.symm k12, Ne.symm k13, Ne.symm k14, Ne.symm k23, Ne.symm k24, Ne.symm k34, n1, n2, n3, n4⟩, q1, ?_, ?_, ?_, fun b hb hba => ?_⟩
  · rw [fw_up_ne (Ne.symm n1), fw_up_ne (Ne.symm k14), fw_up_ne (Ne.symm n1), fw_up_ne (Ne.symm k13), fw_up_ne (Ne.symm n1), fw_up_ne (Ne.symm k12), fw_up_ne (Ne.symm n1), fw_up_self]
  · rw [fw_up_ne (Ne.symm n2), fw_up_ne (Ne.symm k24), fw_up_ne (Ne.symm n2), fw_up_ne (Ne.symm k23), fw_up_ne (Ne.symm n2), fw_up_self]
  · rw [fw_up_ne (Ne.symm n3), fw_up_ne (Ne.symm k34), fw_up_ne (Ne.symm n3), fw_up_self]
  · rw [fw_up_ne (Ne.symm n4), fw_up_self]
  · rwa [fw_up_ne (Ne.symm n2), fw_up_ne k12] at q2
  · rwa [fw_up_ne (Ne.symm n3), fw_up_ne k23, fw_up_ne (Ne.symm n3), fw_up_ne k13] at q3
  · rwa [fw_up_ne (Ne.symm n4), fw_up_ne k34, fw_up_ne (Ne.symm n4), fw_up_ne k24, fw_up_ne (Ne.symm n4), fw_up_ne k14] at q4
  · have e2 : w a2 = none := by rwa [fw_up_ne (Ne.symm n2), fw_up_ne k12] at q2
    have e3 : w a3 = none := by rwa [fw_up_ne (Ne.symm n3), fw_up_ne k23, fw_up_ne (Ne.symm n3), fw_up_ne k13] at q3
    have e4 : w a4 = none := by rwa [fw_up_ne (Ne.symm n4), fw_up_ne k34, fw_up_ne (Ne.symm n4), fw_up_ne k24, fw_up_ne (Ne.symm n4), fw_up_ne k14] at q4
    have b1 : b ≠ a1 := fun e => hb (by rw [e]; exact q1)
    have b2 : b ≠ a2 := fun e => hb (by rw [e]; exact e2)
    have b3 : b ≠ a3 := fun e => hb (by rw [e]; exact e3)
    have b4 : b ≠ a4 := fun e => hb (by rw [e]; exact e4)
    rw [fw_up_ne hba, fw_up_ne b4, fw_up_ne hba, fw_up_ne b3, fw_up_ne hba, fw_up_ne b2, fw_up_ne hba, fw_up_ne b1]
end
section
abbrev fs_E : Type := Bool × Nat × Bool × Nat × Nat
abbrev fs_N : Type := Bool × Option Nat × Nat × Bool × Bool × List fs_E
abbrev fs_D : Type := Nat → Option fs_N
theorem vu_self {α : Type} {f : Nat → α} {k : Nat} {v : α} : va_up f k v k = v := by simp [va_up]
theorem vu_ne {α : Type} {f : Nat → α} {k j : Nat} {v : α} (h : j ≠ k) : va_up f k v j = f j := by simp [va_up, h]
theorem vu_id {α : Type} {f : Nat → α} {k : Nat} : va_up f k (f k) = f := by
  funext j
  by_cases h : j = k
  · subst h; exact vu_self
  · exact vu_ne h
theorem vu_uu {α : Type} {f : Nat → α} {k : Nat} {u v : α} : va_up (va_up f k u) k v = va_up f k v := by
  funext j
  by_cases h : j = k
  · subst h; rw [vu_self, vu_self]
  · rw [vu_ne h, vu_ne h, vu_ne h]
def fs_ch (nd : fs_D) : Nat → List Nat → Prop
  | k, [] => ∃ N, nd k = some N ∧ N.2.1 = none
  | k, p :: t => (∃ N, nd k = some N ∧ N.2.1 = some p) ∧ fs_ch nd p t
def fs_an (nd : fs_D) : Nat → Nat → List Nat
  | 0, _ => []
  | f + 1, k => match nd k with
    | some N => (match N.2.1 with
      | some p => p :: fs_an nd f p
      | none => [])
    | none => []
theorem fs_an_ch {nd : fs_D} : ∀ (l : List Nat) (k f : Nat), fs_ch nd k l → l.length < f → fs_an nd f k = l := by
  intro l
  induction l with
  | nil =>
    intro k f h hf
    obtain ⟨N, h1, h2⟩ := h
    cases f with
    | zero => omega
    | succ f => simp [fs_an, h1, h2]
  | cons p t ih =>
    intro k f h hf
    obtain ⟨⟨N, h1, h2⟩, h3⟩ := h
    cases f with
    | zero => omega
    | succ f =>
      simp only [fs_an, h1, h2]
      rw [ih p f h3 (by simp only [List.length_cons] at hf; omega)]
def fs_ab (nd : fs_D) (k : Nat) : List Nat := fs_an nd 21 k
def fs_un (nd : fs_D) (k top : Nat) : Bool := decide (top = k ∨ top ∈ fs_ab nd k)
def fs_eo (us n : Nat) (E : fs_E) : Prop := E.2.1 < (if E.2.2.1 then n else us) ∧ E.2.2.2.1 < 256 ∧ E.2.2.2.2 < 16
def fs_ok (us n : Nat) (nd : fs_D) : Prop :=
  1 ≤ us ∧ us ≤ 60 ∧ n ≤ 24 ∧ (∃ N, nd 0 = some N ∧ N.2.1 = none) ∧
  (∀ k N, nd k = some N → k < 150 ∧ (N.2.1 = none → k = 0) ∧ N.2.2.1 < us ∧ N.2.2.2.2.2.length ≤ 12 ∧ (∀ E ∈ N.2.2.2.2.2, fs_eo us n E) ∧ fs_ch nd k (fs_ab nd k) ∧ (fs_ab nd k).length ≤ 20)
abbrev fs_ec (E : fs_E) : List Value := [.int (bI E.1), .int (nI E.2.1), .int (bI E.2.2.1), .int (nI E.2.2.2.1), .int (nI E.2.2.2.2)]
abbrev fs_nc (k : Nat) (N : fs_N) (q : Nat) (pr : Option Nat) : List Value := [.int (nI k), .int (bI N.1), .ref q, va_rf pr, .int (nI N.2.2.1), .int (bI N.2.2.2.1), .int (bI N.2.2.2.2.1)]
def fs_en (w : fw_W) (ts : List Nat) (es : List fs_E) : Prop := ts.length = es.length ∧ ∀ (i y : Nat) (E : fs_E), ts[i]? = some y → es[i]? = some E → w y = some (.inr (3, fs_ec E))
def fs_rN (g : fw_G) (w : fw_W) (nd : fs_D) (ad : Nat → Option Nat) (lq ld lc : Nat → Nat) (lt : Nat → List Nat) : Prop :=
  (∀ k, nd k = none → ad k = none) ∧
  (∀ k N, nd k = some N → k < 150 ∧ ∃ a, ad k = some a ∧ w a = some (.inr (2, fs_nc k N (lq k) (N.2.1.bind ad))) ∧ li_at g w (lq k) (ld k) (lc k) (lt k) ∧ fs_en w (lt k) N.2.2.2.2.2) ∧
  (∀ i j, nd i ≠ none → nd j ≠ none → lq i = lq j → i = j) ∧
  (∀ i j, nd i ≠ none → nd j ≠ none → ld i = ld j → ld i ≠ fw_df g → i = j)
abbrev fs_A : Type := Nat × Nat × Nat × Nat × Nat × Nat × Nat
abbrev fs_no (g : fw_G) (ad : Nat → Option Nat) : va_E := .inl (fw_c g 3, 150, .inr (.inr (.inr (.inr ad))))
abbrev fs_S : Type := Nat × Nat × (Nat → Nat → Bool) × (Nat → Nat → Bool) × fs_D
def fs_Y (g : fw_G) (A : fs_A) (us n : Nat) (hu hg : Nat → Nat → Bool) (nd : fs_D) (f1 f2 f3 f4 : Nat → Int64) (ad : Nat → Option Nat) (lq ld lc : Nat → Nat) (lt : Nat → List Nat) (w : fw_W) : Prop :=
  fs_ok us n nd ∧ w A.1 = some (.inr (0, [.ref A.2.1, .ref A.2.2.2.2.2.2, .int (nI us)])) ∧ gr_at g w A.2.1 A.2.2.1 A.2.2.2.1 A.2.2.2.2.1 A.2.2.2.2.2.1 n f1 f2 f3 f4 ∧ gr_rep hu hg n us f1 f2 f3 f4 ∧
  w A.2.2.2.2.2.2 = some (fs_no g ad) ∧ fs_rN g w nd ad lq ld lc lt
def fs_X (g : fw_G) (A : fs_A) (S : fs_S) (w : fw_W) : Prop := ∃ f1 f2 f3 f4 ad lq ld lc lt, fs_Y g A S.1 S.2.1 S.2.2.1 S.2.2.2.1 S.2.2.2.2 f1 f2 f3 f4 ad lq ld lc lt w
def fs_k (g : fw_G) (A : fs_A) (b : Nat) (e : va_E) : Prop := (∃ ci fs, e = .inr (ci, fs) ∧ ci ≤ 4) ∨ (∃ n f, e = .inl (fw_c g 3, n, f)) ∨ (∃ n f, e = .inl (fw_c g 4, n, f)) ∨ b = A.2.2.1 ∨ b = A.2.2.2.1 ∨ b = A.2.2.2.2.1 ∨ b = A.2.2.2.2.2.1
def fs_F (g : fw_G) (A : fs_A) (w u : fw_W) : Prop := ∀ b e, w b = some e → fs_k g A b e ∨ u b = some e
theorem fs_F_id {g : fw_G} {A : fs_A} {w : fw_W} : fs_F g A w w := fun _ _ h => Or.inr h
theorem fs_F_up {g : fw_G} {A : fs_A} {w : fw_W} {a : Nat} {x : va_E} (h : ∀ e, w a = some e → fs_k g A a e) : fs_F g A w (fw_up w a x) := by
  intro b e hb
  by_cases hba : b = a
  · subst hba; exact Or.inl (h e hb)
  · rw [fw_up_ne hba]; exact Or.inr hb
def fs_F2 (w u : fw_W) : Prop := ∀ b, (∀ fs, w b ≠ some (.inr (2, fs))) → u b = w b
theorem fs_F2_id {w : fw_W} : fs_F2 w w := fun _ _ => rfl
theorem fs_F2_up {w u : fw_W} {a : Nat} {fs : List Value} {x : va_E} (h : fs_F2 w u) (ha : w a = some (.inr (2, fs))) : fs_F2 w (fw_up u a x) := by
  intro b hb
  have hba : b ≠ a := fun e => by subst e; exact hb fs ha
  rw [fw_up_ne hba]; exact h b hb
theorem fs_F2_up2 {w u : fw_W} {a : Nat} {fs : List Value} {x : va_E} (h : fs_F2 w u) (ha : u a = some (.inr (2, fs))) : fs_F2 w (fw_up u a x) := by
  intro b hb
  have hba : b ≠ a := fun e => by
    subst e
    rw [h b hb] at ha
    exact hb fs ha
  rw [fw_up_ne hba]; exact h b hb
theorem fs_F2_F {g : fw_G} {A : fs_A} {w u : fw_W} (h : fs_F2 w u) : fs_F g A w u := by
  intro b e hb
  by_cases hc : ∃ fs, e = .inr (2, fs)
  · obtain ⟨fs, rfl⟩ := hc
    exact Or.inl (Or.inl ⟨2, fs, rfl, by omega⟩)
  · refine Or.inr ?_
    rw [h b (fun fs hfs => hc ⟨fs, by rw [hb] at hfs; exact Option.some.inj hfs⟩)]
    exact hb
theorem fs_F2_trans {w u v : fw_W} (h1 : fs_F2 w u) (h2 : fs_F2 u v) : fs_F2 w v := fun b hb => by
  have e := h1 b hb
  rw [h2 b (fun fs hfs => hb fs (by rw [← e]; exact hfs)), e]
theorem fs_ne {w : fw_W} {a b : Nat} {x y : va_E} (ha : w a = some x) (hb : w b = some y) (h : x ≠ y) : a ≠ b := fun e => by
  subst e
  rw [ha] at hb
  exact h (Option.some.inj hb)
theorem fs_li {g : fw_G} {w u : fw_W} {q d cap : Nat} {ts : List Nat} (h : li_at g w q d cap ts) (hF : ∀ b e, w b = some e → (b = q ∨ b = d ∨ b ∈ ts) → u b = some e) : li_at g u q d cap ts := by
  obtain ⟨mc, h1, h2, h3, h4⟩ := h
  refine ⟨mc, hF _ _ h1 (Or.inl rfl), h2, fun y hy => ?_, ?_⟩
  · obtain ⟨fs, hfs⟩ := h3 y hy
    exact ⟨fs, hF _ _ hfs (Or.inr (Or.inr hy))⟩
  · rcases h4 with h4 | ⟨h4, h5, h6⟩
    · exact Or.inl h4
    · exact Or.inr ⟨hF _ _ h4 (Or.inr (Or.inl rfl)), h5, h6⟩
theorem fs_li2 {g : fw_G} {w u : fw_W} {q d cap : Nat} {ts : List Nat} (h : li_at g w q d cap ts) (hF : fs_F2 w u) : li_at g u q d cap ts := by
  obtain ⟨mc, h1, h2, h3, h4⟩ := h
  refine ⟨mc, ?_, h2, fun y hy => ?_, ?_⟩
  · rw [hF q (fun fs hfs => by rw [h1] at hfs; cases hfs)]; exact h1
  · obtain ⟨fs, hfs⟩ := h3 y hy
    refine ⟨fs, ?_⟩
    rw [hF y (fun fs2 hfs2 => by rw [hfs] at hfs2; cases hfs2)]; exact hfs
  · rcases h4 with h4 | ⟨h4, h5, h6⟩
    · exact Or.inl h4
    · refine Or.inr ⟨?_, h5, h6⟩
      rw [hF d (fun fs hfs => by rw [h4] at hfs; cases hfs)]; exact h4
theorem fs_en_of {w u : fw_W} {ts : List Nat} {es : List fs_E} (h : fs_en w ts es) (hF : ∀ b fs, w b = some (.inr (3, fs)) → u b = some (.inr (3, fs))) : fs_en u ts es :=
  ⟨h.1, fun i y E h1 h2 => hF _ _ (h.2 i y E h1 h2)⟩
theorem fs_F2_3 {w u : fw_W} (h : fs_F2 w u) (b : Nat) {e : va_E} (hb : w b = some e) (hne : ∀ fs, e ≠ .inr (2, fs)) : u b = some e := by
  rw [h b (fun fs hfs => by rw [hb] at hfs; exact hne fs (Option.some.inj hfs))]; exact hb
theorem fs_inj {g : fw_G} {w : fw_W} {nd : fs_D} {ad : Nat → Option Nat} {lq ld lc : Nat → Nat} {lt : Nat → List Nat} (h : fs_rN g w nd ad lq ld lc lt) {i j a : Nat} {N1 N2 : fs_N} (h1 : nd i = some N1) (h2 : nd j = some N2) (e1 : ad i = some a) (e2 : ad j = some a) : i = j := by
  obtain ⟨b1, a1, p1, p2, -⟩ := h.2.1 i N1 h1
  obtain ⟨b2, a2, q1, q2, -⟩ := h.2.1 j N2 h2
  rw [e1] at p1; cases p1
  rw [e2] at q1; cases q1
  rw [p2] at q2
  have hh := (List.cons.inj (Prod.mk.inj (Sum.inr.inj (Option.some.inj q2))).2).1
  have h3 := Value.int.inj hh
  exact (ni_eq (by omega) (by omega)).mp h3
theorem fs_rN_put {g : fw_G} {w : fw_W} {nd : fs_D} {ad : Nat → Option Nat} {lq ld lc : Nat → Nat} {lt : Nat → List Nat} (h : fs_rN g w nd ad lq ld lc lt) {k a : Nat} {N N2 : fs_N} (hk : nd k = some N) (ha : ad k = some a) (he : N2.2.2.2.2.2 = N.2.2.2.2.2) :
    fs_rN g (fw_up w a (.inr (2, fs_nc k N2 (lq k) (N2.2.1.bind ad)))) (va_up nd k (some N2)) ad lq ld lc lt := by
  obtain ⟨h0, h1, h2, h3⟩ := id h
  obtain ⟨hk1, a0, ha0, hc, hl, hE⟩ := h1 k N hk
  rw [ha] at ha0; cases ha0
  have hF : fs_F2 w (fw_up w a (.inr (2, fs_nc k N2 (lq k) (N2.2.1.bind ad)))) := fs_F2_up fs_F2_id hc
  have hnn : ∀ j, va_up nd k (some N2) j ≠ none → nd j ≠ none := fun j hj => by
    by_cases e : j = k
    · subst e; rw [hk]; intro q; cases q
    · rwa [vu_ne e] at hj
  refine ⟨fun j hj => ?_, fun j M hj => ?_, fun i j e1 e2 => h2 i j (hnn i e1) (hnn j e2), fun i j e1 e2 => h3 i j (hnn i e1) (hnn j e2)⟩
  · by_cases e : j = k
    · subst e; rw [vu_self] at hj; cases hj
    · rw [vu_ne e] at hj; exact h0 j hj
  · by_cases e : j = k
    · subst e
      rw [vu_self] at hj; cases hj
      exact ⟨hk1, a, ha, fw_up_self, fs_li2 hl hF, he ▸ fs_en_of hE (fun b fs hb => fs_F2_3 hF b hb (fun fs h => by cases h))⟩
    · rw [vu_ne e] at hj
      obtain ⟨hj1, b, hb, hcb, hlb, hEb⟩ := h1 j M hj
      refine ⟨hj1, b, hb, ?_, fs_li2 hlb hF, fs_en_of hEb (fun b fs hb => fs_F2_3 hF b hb (fun fs h => by cases h))⟩
      have hba : b ≠ a := fun q => e (fs_inj h hj hk hb (by rw [q]; exact ha))
      rw [fw_up_ne hba]
      exact hcb
theorem fs_cl {g : fw_G} {w : fw_W} {nd : fs_D} {ad : Nat → Option Nat} {lq ld lc : Nat → Nat} {lt : Nat → List Nat} (h : fs_rN g w nd ad lq ld lc lt) : ∀ (l : List Nat) (k a : Nat), fs_ch nd k l → ad k = some a → ∃ l2, nd_cl w a l2 ∧ l2.map some = l.map ad := by
  intro l
  induction l with
  | nil =>
    intro k a hc ha
    obtain ⟨N, h1, h2⟩ := hc
    obtain ⟨-, a0, ha0, hc, -⟩ := h.2.1 k N h1
    rw [ha] at ha0; cases ha0
    refine ⟨[], ⟨_, hc, ?_⟩, rfl⟩
    show some (va_rf (N.2.1.bind ad)) = _
    rw [h2]; rfl
  | cons p t ih =>
    intro k a hc ha
    obtain ⟨⟨N, h1, h2⟩, h3⟩ := hc
    obtain ⟨-, a0, ha0, hc, -⟩ := h.2.1 k N h1
    rw [ha] at ha0; cases ha0
    have hp : ∃ b, ad p = some b := by
      cases t with
      | nil => obtain ⟨M, e1, -⟩ := h3; obtain ⟨-, b, hb, -⟩ := h.2.1 p M e1; exact ⟨b, hb⟩
      | cons p2 t2 => obtain ⟨⟨M, e1, -⟩, -⟩ := h3; obtain ⟨-, b, hb, -⟩ := h.2.1 p M e1; exact ⟨b, hb⟩
    obtain ⟨b, hb⟩ := hp
    obtain ⟨l2, e1, e2⟩ := ih p b h3 hb
    refine ⟨b :: l2, ⟨⟨_, hc, ?_⟩, e1⟩, ?_⟩
    · show some (va_rf (N.2.1.bind ad)) = _
      rw [h2]; show some (va_rf (ad p)) = _
      rw [hb]; rfl
    · rw [List.map_cons, List.map_cons, e2, hb]
theorem fs_ch_some {nd : fs_D} : ∀ (l : List Nat) (k : Nat), fs_ch nd k l → ∀ j, j = k ∨ j ∈ l → ∃ N, nd j = some N := by
  intro l
  induction l with
  | nil =>
    intro k h j hj
    obtain ⟨N, h1, -⟩ := h
    rcases hj with rfl | hj
    · exact ⟨N, h1⟩
    · cases hj
  | cons p t ih =>
    intro k h j hj
    obtain ⟨⟨N, h1, -⟩, h3⟩ := h
    rcases hj with rfl | hj
    · exact ⟨N, h1⟩
    · exact ih p h3 j (List.mem_cons.mp hj)
theorem fs_un_at {g : fw_G} {w : fw_W} {nd : fs_D} {ad : Nat → Option Nat} {lq ld lc : Nat → Nat} {lt : Nat → List Nat} (h : fs_rN g w nd ad lq ld lc lt) {k t a b : Nat} {T : fs_N} (hc : fs_ch nd k (fs_ab nd k)) (ha : ad k = some a) (ht : nd t = some T) (hb : ad t = some b) {l2 : List Nat} (h2 : l2.map some = (fs_ab nd k).map ad) : decide (b = a ∨ b ∈ l2) = fs_un nd k t := by
  have key : (b = a ∨ b ∈ l2) ↔ (t = k ∨ t ∈ fs_ab nd k) := by
    constructor
    · rintro (rfl | hm)
      · obtain ⟨K, hK⟩ := fs_ch_some _ _ hc k (Or.inl rfl)
        exact Or.inl (fs_inj h ht hK hb ha)
      · have hm2 : some b ∈ (fs_ab nd k).map ad := by rw [← h2]; exact List.mem_map.mpr ⟨b, hm, rfl⟩
        obtain ⟨j, hj, hj2⟩ := List.mem_map.mp hm2
        obtain ⟨J, hJ⟩ := fs_ch_some _ _ hc j (Or.inr hj)
        rw [fs_inj h ht hJ hb hj2]
        exact Or.inr hj
    · rintro (rfl | hm)
      · rw [ha] at hb; cases hb; exact Or.inl rfl
      · have hm2 : some b ∈ l2.map some := by rw [h2]; exact List.mem_map.mpr ⟨t, hm, hb⟩
        obtain ⟨c, hc1, hc2⟩ := List.mem_map.mp hm2
        cases hc2
        exact Or.inr hc1
  unfold fs_un
  simp only [key]
theorem ix_of {x : Int32} (h : ¬ x < 0) : x.toNatClampNeg < 2 ^ 31 ∧ x = nI x.toNatClampNeg := by
  have h1 : (0 : Int) ≤ x.toInt := by
    have := mt Int32.lt_iff_toInt_lt.mpr h
    have e : (0 : Int32).toInt = 0 := rfl
    omega
  have h2 := Int32.toInt_lt x
  have h3 : x.toNatClampNeg = x.toInt.toNat := rfl
  refine ⟨by omega, ?_⟩
  apply Int32.toInt.inj
  show x.toInt = (Int32.ofNat x.toNatClampNeg).toInt
  rw [Int32.toInt_ofNat_of_lt (by omega)]
  omega
theorem ix_lt {x : Int32} {n : Nat} (hn : n < 2 ^ 31) (h : ¬ x < 0) (h2 : x < nI n) : ∃ k, k < n ∧ x = nI k := by
  obtain ⟨h3, h4⟩ := ix_of h
  rw [h4] at h2
  exact ⟨_, (ni_lt h3 hn).mp h2, h4⟩
theorem ix_nn {k : Nat} (hk : k < 2 ^ 31) : ¬ nI k < 0 := fun h => by
  have := (ni_lt hk (by omega : (0 : Nat) < 2 ^ 31)).mp h
  omega
theorem fr_dn {g : fw_G} {M : fw_M} {Post : fw_O → fw_W → Prop} {nc ns : Nat} {w : fw_W} {pc : Nat} {L : List (Nat × Value)} {st : List Value} (kk : w (fw_df g) = none → fw_R g M Post nc ns w pc L st) : fw_R g M Post nc ns w pc L st := by
  intro hg s m args below meth c H locs cells slots ls cx hB hH
  refine kk ?_ hg s m args below meth c H locs cells slots ls cx hB hH
  obtain ⟨ws, -, hD, hi⟩ := hH
  obtain ⟨-, -, -, -, -, -, -, -, -, ⟨cell, -, -, -, -, -, -, hA⟩, -⟩ := hg
  cases hw : w (fw_df g) with
  | none => rfl
  | some x =>
    obtain ⟨i, hi2⟩ := hi.at hw
    exact absurd (hD.2 i _ hi2) hA
end
section
section NS
variable {p : Program} {l : Launch} {e : Env} {R : Room} {s : State} {m₀ : MethodId} {args : Array Value} {below : List Frame} {meth : Method} {c : Code} {W0 : State} {locs : List Loc} {cells slots : Nat}
def fw_rx (rx : ByteArray) (ix : Nat) : Prop := decode rx 0 = .ok (.aload_n 0, 1) ∧ decode rx 1 = .ok (.aload_n 1, 1) ∧ decode rx 2 = .ok (.invokespecial ix, 3) ∧ decode rx 5 = .ok (.return_, 1)
set_option maxHeartbeats 1000000 in
theorem fw_ctorX (X : Stand p l e R s m₀ args below meth c W0 locs cells slots) (hexec : p.tables.exec = Jvm.exec) (htr : e.platform.stackTraces = false) {own cls : String} {names : List String} {ic ix : Nat} {rx : ByteArray} (hrx : fw_rx rx ix)
    (hown : s.vm.findClass own = some m₀.cls) (hcls : Bundle.fit cls = true) (hnames : ∀ n ∈ names, Bundle.fit n = true)
    (h : ∀ a ∈ Bundle.ownAtomsX own ic cls ix rx names, a.before args s = true)
    (hlocs : ∀ x ∈ locs, ∀ cell, s.heap[x.base]? = some cell → cell.vm.isStatics = false)
    {a : Addr} {cX : ClassId} {kX : Class} (hfoundX : s.vm.findClass cls = some cX) (hkX : s.vm.classes[cX]? = some kX) (hcell : W0.heap[a]? = some (freshCell cX kX)) (hnew : s.heap.size ≤ a)
    {msg : Value} (hmsg : msg.isRef = true)
    {g : JFrame} (hg : g.method = m₀) (hsize : g.locals.size = c.maxLocals) (hlocked : g.locked = none) (hentered : g.entered = []) {rest : List Value} (hstack : g.stack = msg :: .ref a :: .ref a :: rest)
    (hd6 : decode c.code g.pc = .ok (.invokespecial ic, 3)) (hd9 : decode c.code (g.pc + 3) = .ok (.athrow, 1)) (hout : ∀ x ∈ c.exceptionTable.toList, covers x (g.pc + 3) = false)
    (hRframes : names.length + 3 < R.frames) (hRlocals : 2 * g.monitorRoom + ((Value.ref a :: rest).map fun v => v.category).sum + (13 * (names.length + 1) + 42) ≤ R.locals) (hlocks : meth.locks = false) :
    ∃ U : State, Steps p.tables e below (W0.setTop g) U ∧ U.status = .running ∧ Ended U below (.threw a) ∧ s.WarmedH U.vm ∧ s.sameButNew ({ U with vm := s.vm } : State) locs cells slots ∧
      ∃ ce : Cell, U.heap[a]? = some ce ∧ s.vm.findClass cls = some ce.cls ∧ ce.vm = .none := by
  have howns : e.platform.frameOwnsMonitors = true := by rw [X.admits.platform]
  have hfin : e.platform.finalization = false := by rw [X.admits.platform]
  have hpl : e.platform.magicAccessors = ({} : Platform).magicAccessors := by rw [X.admits.platform]
  have a' : ∀ x, x ∈ Bundle.ownAtomsX own ic cls ix rx names → x.holds args s none s [] = true := fun x hx => h x hx
  obtain ⟨T, Z0, L, -, Y⟩ := ThrowableC.of_atoms (args := args) howns hfin hpl (fun x hx => h x (by simp [Bundle.ownAtomsX, hx]))
  obtain ⟨Z, M, LZ, LM, hnZ⟩ := Init0T.ofS_atoms (args := args) hpl L Y (fun x hx => h x (by simp [Bundle.ownAtomsX, hx]))
  obtain ⟨P1, Ps, hlen, L1, hL, hP1m, hlink1, hlink⟩ := Bundle.chainSX (args := args) hpl hnZ hrx.1 hrx.2.1 hrx.2.2.1 hrx.2.2.2 names cls hcls hnames (fun x hx => h x (by simp [Bundle.ownAtomsX, hx]))
  have hfound : s.vm.findClass cls = some P1.m.cls := findClass_of_methodNamed hP1m
  cases Option.some.inj (hfoundX.symm.trans hfound)
  obtain ⟨c1, kX', hc1, hk, hord, -, -, hn6⟩ := Cond.instantiable_spec (a' (.instantiable cls 6) (by simp [Bundle.ownAtomsX]))
  cases Option.some.inj (hc1.symm.trans hfound)
  cases Option.some.inj (hkX.symm.trans hk)
  have hsel0 : selectMethod e.platform s.vm P1.m.cls T.fill0 = .method T.fill0 := by
    obtain ⟨c2, r2, m2, q1, q2, q3, q4, -⟩ := Cond.selects_spec (a' (.selects cls Bundle.tFill0 Bundle.tFill0) (by simp [Bundle.ownAtomsX]))
    cases Option.some.inj (q1.symm.trans hfound)
    cases Option.some.inj (q2.symm.trans (State.methodFound?_of_named Y.fill0 (by decide)))
    cases Option.some.inj (q3.symm.trans Y.fill0)
    rw [Launch.admits_selectMethod X.admits]; exact q4
  have hselF : selectMethod e.platform s.vm P1.m.cls T.fill = .method T.fill := by
    obtain ⟨c2, r2, m2, q1, q2, q3, q4, -⟩ := Cond.selects_spec (a' (.selects cls Bundle.tFill Bundle.tFill) (by simp [Bundle.ownAtomsX]))
    cases Option.some.inj (q1.symm.trans hfound)
    cases Option.some.inj (q2.symm.trans (State.methodFound?_of_named Y.fill (by decide)))
    cases Option.some.inj (q3.symm.trans Y.fill)
    rw [Launch.admits_selectMethod X.admits]; exact q4
  obtain ⟨cellS0, hcS0, hiss⟩ := Y.statics
  obtain ⟨u0, hu0⟩ := Cond.staticRefV Y.unassigned L.unassignedStatic L.statics hcS0 hiss (a' (.isRef (.static Bundle.tN "UNASSIGNED_STACK" Bundle.steD)) (by simp [Bundle.ownAtomsX]))
  obtain ⟨sen, hsen⟩ := Cond.staticRefV Y.sentinel L.sentinelStatic L.statics hcS0 hiss (a' (.isRef (.static Bundle.tN "SUPPRESSED_SENTINEL" Bundle.listD)) (by simp [Bundle.ownAtomsX]))
  obtain ⟨ci198, i198, fB, hk198, hg198, ha198, hsB, -, hnB, htB, hffB⟩ := Cond.ownField (t := .object "java/lang/Object") Y.found L.cls (by decide +kernel) (a' (.fieldLink Bundle.tN 198 Bundle.tN "backtrace" "Ljava/lang/Object;") (by simp [Bundle.ownAtomsX])) (a' (.lays Bundle.tN Bundle.tN "backtrace" "Ljava/lang/Object;") (by simp [Bundle.ownAtomsX])) e.platform hpl
  obtain ⟨cellS, hcS', heS, -, hkeep⟩ := X.same.2.2.2.2.2 T.aS cellS0 hcS0
  have hcellS : W0.heap[T.aS]? = some cellS := hcS'
  have hout' : ∀ i, (⟨T.aS, i⟩ : Loc) ∉ locs := fun i hmem => by
    have := hlocs _ hmem cellS0 hcS0
    rw [hiss] at this; cases this
  have hknownS : cellS.vm ≠ .unknown := by
    rw [heS]; intro hu
    rw [show cellS0.vm = .unknown from hu] at hiss
    cases hiss
  have hneS : T.aS ≠ a := Nat.ne_of_lt (Nat.lt_of_lt_of_le (Array.getElem?_eq_some_iff.mp hcS0).1 hnew)
  obtain ⟨iM, hffM⟩ := Y.msg
  obtain ⟨tyC, dC, hdC, hdnC⟩ := Cond.laysAt hfound hk Y.cause (a' (.lays cls Bundle.tN "cause" "Ljava/lang/Throwable;") (by simp [Bundle.ownAtomsX]))
  obtain ⟨tyS, dS, hdS, hdnS⟩ := Cond.laysAt hfound hk Y.stack (a' (.lays cls Bundle.tN "stackTrace" Bundle.steD) (by simp [Bundle.ownAtomsX]))
  obtain ⟨tyP, dP, hdP, hdnP⟩ := Cond.laysAt hfound hk Y.supp (a' (.lays cls Bundle.tN "suppressedExceptions" Bundle.listD) (by simp [Bundle.ownAtomsX]))
  obtain ⟨tyM, dM, hdM, hdnM⟩ := Cond.laysAt hfound hk hffM (a' (.lays cls Bundle.tN "detailMessage" "Ljava/lang/String;") (by simp [Bundle.ownAtomsX]))
  obtain ⟨tyB, dB, hdB, hdnB⟩ := Cond.laysAt hfound hk hffB (a' (.lays cls Bundle.tN "backtrace" "Ljava/lang/Object;") (by simp [Bundle.ownAtomsX]))
  have bC := Cond.laysApart hdB hdC hdnB hdnC (by rw [hnB, Y.causeName]; decide)
  have bS := Cond.laysApart hdB hdS hdnB hdnS (by rw [hnB, Y.stackName]; decide)
  have bP := Cond.laysApart hdB hdP hdnB hdnP (by rw [hnB, Y.suppName]; decide)
  have hskip : SkipFacts T e.platform s (fun u => u) u0 ((preparedCellV T.toThrowableT (freshCell P1.m.cls kX) a u0 sen).withEntry W0.cur) :=
    ⟨{ ci198 := ci198, i198 := i198, fBack := fB }, ⟨hk198, hg198, ha198, hsB⟩, by
      have := fresh_default (c := P1.m.cls) tyB
      rw [htB] at this
      simpa [preparedCellV, Cell.setSlot, Cell.withEntry, Array.getElem?_setIfInBounds, bC, bS, bP, bC.symm, bS.symm, bP.symm, defaultValue] using this, fun _ _ => rfl⟩
  obtain ⟨tm, methC, cdC, kC, vm₁, hnC, -, -, -, -, -, -, -, hW₁, st1⟩ := Steps.initColdS (tb := p.tables) (e := e) (below := below) (s := s) (U := W0) X.here hexec X.warmed hpl hown (t := Bundle.initS cls) rfl rfl (Bundle.fit_spec hcls).2
    (a' (.methodLink own ic (Bundle.initS cls)) (by simp [Bundle.ownAtomsX])) (h (.instanceMethod (Bundle.initS cls)) (by cases names <;> simp [Bundle.ownAtomsX, Bundle.chainSAtomsX, Bundle.passSAtoms])) (bytes := rx) (maxL := 2) (h (.code (Bundle.initS cls) rx 2 none) (by cases names <;> simp [Bundle.ownAtomsX, Bundle.chainSAtomsX, Bundle.passSAtoms]))
    (f := g) hg (a := a) (msg := msg) (rest := .ref a :: rest) hstack hd6
  cases Option.some.inj (hnC.symm.trans hP1m)
  have X₁ := X.noted hW₁
  obtain ⟨vm₂, X₂, st2⟩ := X₁.ctorMessageOffV hexec (g := { g with stack := .ref a :: rest }) hg hsize T L Z LZ M LM (P1 :: Ps)
    (fun P hP => by rcases List.mem_cons.mp hP with rfl | hP; exact L1; exact hL P hP) ⟨hlink1, hlink⟩ (u0 := u0) (sen := sen) (self := a) hmsg (cell := freshCell P1.m.cls kX) (cellS := cellS)
    hcell (fun _ => by simp) (by simp) rfl rfl hsel0 hselF hcellS hneS hknownS (by rw [hkeep _ (hout' _)]; exact hu0) (by rw [hkeep _ (hout' _)]; exact hsen)
    (Takes.of_laid hk hord tyC (by rw [Y.causeType]; rfl)) (Takes.of_laid hk hord tyS (by rw [Y.stackType]; exact fits_refV_array _ u0)) (Takes.of_laid hk hord tyP (by rw [Y.suppType]; exact fits_refV_object _ sen))
    (Takes.of_laid hk hord tyM (by rw [Y.msgType]; exact fits_refV_object _ ⟨msg, hmsg⟩)) Y.objLocals hskip htr [] hd6
    (by simp only [List.length_cons, hlen]; omega) (by simp only [List.length_cons, hlen]; exact hRlocals)
  obtain ⟨hwalk, hrun, hended, hWU, hsame⟩ := X₂.athrowLeaves hexec (g := { g with stack := .ref a :: rest, pc := g.pc + 3 }) hg hlocked hentered hout (a := a) (rest := rest) rfl hd9
  have hlt : a < ((W0.setVm vm₁).setVm vm₂).heap.size := (Array.getElem?_eq_some_iff.mp hcell).1
  have hU := heapAt_setCell_self (s := (W0.setVm vm₁).setVm vm₂) (plainBareV T.toThrowableT (freshCell P1.m.cls kX) a u0 sen msg) hlt
  refine ⟨_, st1 _ (fun acts => ?_), hrun, hended, hWU, hsame.weaken (fun y hy hlt' => ?_) (Nat.le_refl _) (Nat.le_refl _), _, hU, hfound, rfl⟩
  · rw [doInvoke_state]
    exact st2 _ hwalk
  · rcases List.mem_append.mp hy with h1 | h1
    · exact h1
    · exfalso
      have hb : y.base = a := by
        simp only [List.mem_cons, List.not_mem_nil, or_false] at h1
        rcases h1 with rfl | rfl | rfl | rfl | rfl <;> rfl
      rw [hb] at hlt'
      exact Nat.not_lt.mpr hnew hlt'
end NS
section NT
variable {p : Program} {l : Launch} {e : Env} {R : Room} {s : State} {m : MethodId} {args : Array Value} {below : List Frame} {meth : Method} {c : Code} {H : Heap} {locs : List Loc} {cells slots : Nat} {Qc : Array Value → State → Outcome → State → Prop} {XC : String → State → State → Prop} {free : Addr → Prop} {ls : Array Slot} {rest : List Value}
theorem fw_throwX {cc : ByteArray} {pc : Nat} (hexec : p.tables.exec = Jvm.exec) (hb : c.code = cc) (hl : l.stackTraces = false) {own cls text : String} {names : List String} {ik is ic ix mc ms sa : Nat} {rx : ByteArray} (hrx : fw_rx rx ix) {A : Nat → Prop}
    (hown : s.vm.findClass own = some m.cls) (hcls : Bundle.fit cls = true) (hnames : ∀ n ∈ names, Bundle.fit n = true)
    (hk : (Cond.classLink own ik cls).before args s = true) (hini : (Cond.initialized cls).before args s = true) (hstr : vk_R own is text sa s) (hat : ∀ w ∈ (Bundle.ownAtomsX own ic cls ix rx names).filter vx_no, w.before args s = true)
    (hgood : ∀ w ∈ Cond.classLink own ik cls :: Cond.initialized cls :: (Bundle.ownAtomsX own ic cls ix rx names).filter vx_no, vx_ot w = true)
    (hU : vx_Zq Bundle.tN "UNASSIGNED_STACK" Bundle.steD A s s.heap) (hN : vx_Zq Bundle.tN "SUPPRESSED_SENTINEL" Bundle.listD A s s.heap) (hS : va_S A s.heap H locs) (hsize : ls.size = c.maxLocals)
    (d0 : decode cc pc = .ok (.new ik, 3)) (d3 : decode cc (pc + 3) = .ok (.dup, 1)) (d4 : decode cc (pc + 4) = .ok (.ldc is, 2)) (d6 : decode cc (pc + 6) = .ok (.invokespecial ic, 3)) (d9 : decode cc (pc + 9) = .ok (.athrow, 1))
    (hout : ∀ x ∈ c.exceptionTable.toList, covers x (pc + 9) = false)
    (hRframes : names.length + 3 < R.frames) (hRlocals : (rest.map fun v => v.category).sum + (13 * (names.length + 1) + 43) ≤ R.locals) (hRcells : cells + 1 ≤ R.cells) (hRslots : slots + 6 ≤ R.slots) (hlocks : meth.locks = false)
    (hx : ∀ t : State, s.vm.Alike t.vm → H.size ≤ t.heap.size → (∀ q : Nat, q < H.size → t.heap[q]? = H[q]?) → XC cls s t)
    (hf : ∀ z ∈ locs, free z.base) (hc : cells + 1 ≤ mc) (hs : slots + 6 ≤ ms) :
    W p l e R s m args below meth c H locs cells slots (vx_MQ below Qc XC args s mc ms free) (F0 m pc ls rest) := by
  intro T hT X
  have htr : e.platform.stackTraces = false := (show e.platform.stackTraces = l.stackTraces by rw [X.admits.platform]).trans hl
  have Y := vx_rebase X (R' := { frames := R.frames, locals := R.locals, cells := 1, slots := 6 }) (Nat.le_refl _) (Nat.le_refl _) hRcells hRslots
  obtain ⟨s', hA⟩ : ∃ z, z = (T.setVm s.vm).setFrames (.invoking m args :: below) := ⟨_, rfl⟩
  rw [← hA] at Y
  have hvm : s'.vm = s.vm := by rw [hA]; rfl
  have hhp : s'.heap = H := by rw [hA]; exact hT
  have hW0 : s.WarmedH s'.vm := by rw [hvm]; exact State.WarmedH.refl s
  have hat' : ∀ w ∈ (Bundle.ownAtomsX own ic cls ix rx names).filter vx_no, w.before args s' = true := fun w hw => vx_ot_at hW0 hvm.symm (hgood w (List.mem_cons_of_mem _ (List.mem_cons_of_mem _ hw))) (hat w hw)
  have hk' : (Cond.classLink own ik cls).before args s' = true := vx_ot_at hW0 hvm.symm (hgood _ List.mem_cons_self) hk
  have hini' : (Cond.initialized cls).before args s' = true := vx_ot_at hW0 hvm.symm (hgood _ (List.mem_cons_of_mem _ List.mem_cons_self)) hini
  have hU' : vx_Zq Bundle.tN "UNASSIGNED_STACK" Bundle.steD A s' s'.heap := by rw [hhp]; exact vx_Zq.moved hW0.alike (hU.kept hS.2.1)
  have hN' : vx_Zq Bundle.tN "SUPPRESSED_SENTINEL" Bundle.listD A s' s'.heap := by rw [hhp]; exact vx_Zq.moved hW0.alike (hN.kept hS.2.1)
  have h : ∀ w ∈ Bundle.ownAtomsX own ic cls ix rx names, w.before args s' = true := vx_own hat' (vx_isRefq hU'.1) (vx_isRefq hN'.1) hU'.2.word hN'.2.word
  have hown' : s'.vm.findClass own = some m.cls := by rw [hvm]; exact hown
  have hins : (Cond.instantiable cls 6).before args s' = true := h _ (by simp [Bundle.ownAtomsX])
  obtain ⟨vm₁, cX, kX, hfX, hkX, -, -, X₁, st1⟩ := Y.newCold hexec (own := own) (C := cls) (index := ik) (n := 6) hown' hk' hins hini'
    (g := F0 m pc ls rest) rfl (by rw [hb]; exact d0) (Nat.le_refl _) (Nat.le_refl _)
  generalize hT1 : (T.setVm vm₁).pushCell { cls := cX, slots := kX.instanceTypes.map defaultValue, vm := .none } = T1 at X₁ st1
  have hcat : (Value.ref T.heap.size).category = 1 := rfl
  have hcellA : T1.heap[T.heap.size]? = some (freshCell cX kX) := by rw [← hT1]; exact State.heap_pushCell_size _ _
  have d3' : decode c.code (pc + 3) = .ok (.dup, 1) := by rw [hb]; exact d3
  have d4' : decode c.code (pc + 4) = .ok (.ldc is, 2) := by rw [hb]; exact d4
  have hstr' : vk_R own is text sa s' := vk_R.warm hW0 hstr
  obtain ⟨U, hsteps, hrun, hend, hW, hsame, ce, hce, hcl9, hvm9⟩ := fw_ctorX X₁ hexec htr (own := own) (cls := cls) (names := names) (ic := ic) hrx hown' hcls hnames h (fun x hx => nomatch hx) hfX hkX hcellA (by rw [hhp, hT]; exact Nat.le_refl _) (msg := .ref sa) rfl
    (g := { method := m, pc := pc + 6, locals := ls, stack := .ref sa :: .ref T.heap.size :: .ref T.heap.size :: rest, locked := none }) rfl hsize rfl rfl (rest := rest) rfl
    (by rw [hb]; exact d6) (by rw [hb]; exact d9) hout hRframes (by simp only [List.map_cons, List.sum_cons, hcat]; omega) hlocks
  obtain ⟨f1, f2⟩ := vx_frame hsame
  rw [hhp] at f1 f2
  have hWs : s.WarmedH U.vm := State.WarmedH.trans hW0 hW
  have hcl : s.vm.findClass cls = some ce.cls := by
    rw [hvm] at hcl9
    exact hcl9
  have hall : s.sameButNew ({ U with vm := s.vm } : State) locs mc ms := by
    subst hA
    obtain ⟨e1, e2⟩ := hsame
    rw [State.setFrames_setFrames] at e1
    have h2 : (T.setVm s.vm).sameButNew ({ U with vm := s.vm } : State) [] (0 + 1) (0 + 6) := ⟨e1, e2⟩
    have h3 := X.same.trans h2
    rw [List.append_nil] at h3
    exact h3.mono hc hs
  refine ⟨U, ?_, .threw T.heap.size, hrun, hend, Or.inr ⟨T.heap.size, rfl, cls, ce, locs, hx U hWs.alike f1 (fun q hq => f2 q hq (fun z hz => nomatch hz)), hce, hvm9, hcl, hWs, hall, hf⟩⟩
  refine st1 _ ?_
  show Steps p.tables e below (T1.setTop { method := m, pc := pc + 3, locals := ls, stack := .ref T.heap.size :: rest, locked := none }) _
  jvm_step X₁.here [X₁.here.top, hexec, d3', Value.category]
  exact X₁.ldcString hexec (own := own) (text := text) (index := is) (a := sa) hown' hstr'.1 hstr'.2
    (g := { method := m, pc := pc + 4, locals := ls, stack := .ref T.heap.size :: .ref T.heap.size :: rest, locked := none }) rfl d4' _ hsteps
end NT
def fw_thx (own : String) (ik is ic ix : Nat) (rx : ByteArray) (cls text : String) (names : List String) : Prop := fw_rx rx ix ∧ Bundle.fit cls = true ∧ (∀ n ∈ names, Bundle.fit n = true) ∧ Cond.classLink own ik cls ∈ lw_tbl ∧ Cond.initialized cls ∈ lw_tbl ∧ Cond.stringRef own is text ∈ lw_tbl ∧
  (∀ w ∈ (Bundle.ownAtomsX own ic cls ix rx names).filter vx_no, w ∈ lw_tbl ∧ fw_wk w = true) ∧ ∀ w ∈ Cond.classLink own ik cls :: Cond.initialized cls :: (Bundle.ownAtomsX own ic cls ix rx names).filter vx_no, vx_ot w = true
theorem fr_throwX {g : fw_G} {M : fw_M} {Post : fw_O → fw_W → Prop} {nc ns : Nat} {w : fw_W} {pc : Nat} {L : List (Nat × Value)} {rest : List Value} {ik is ic ix : Nat} {rx : ByteArray} {cls text : String} {names : List String} (hth : fw_thx M.1.cls ik is ic ix rx cls text names) (d0 : decode M.2.1 pc = .ok (.new ik, 3)) (d3 : decode M.2.1 (pc + 3) = .ok (.dup, 1)) (d4 : decode M.2.1 (pc + 4) = .ok (.ldc is, 2)) (d6 : decode M.2.1 (pc + 6) = .ok (.invokespecial ic, 3)) (d9 : decode M.2.1 (pc + 9) = .ok (.athrow, 1))
    (hout : ∀ q ∈ M.2.2.2.2.2, ¬ (q.1 ≤ pc + 9 ∧ pc + 9 < q.2.1)) (hfr : names.length + 3 < M.2.2.2.2.1.frames) (hlo : (rest.map fun v => v.category).sum + (13 * (names.length + 1) + 43) ≤ M.2.2.2.2.1.locals) (hp : Post (.inr cls) w) : fw_R g M Post (nc + 1) (ns + 6) w pc L rest := by
  intro hg s m args below meth c H locs cells slots ls cx hB hH hS h1 h2 hl T hT X
  obtain ⟨hrx, hfit, hnames, hk, hini, hstr, hat, hgood⟩ := hth
  obtain ⟨sa, hsa⟩ := fw_str hg cx.1 cx.own hstr
  have hz : s.heap.size ≤ H.size := by rw [← hT]; exact X.same.2.1
  exact fw_mono (fw_thrown (P2 := fun _ => True) hH hS cx.1 hp) (fw_throwX (Qc := fun _ _ _ _ => False) (XC := fun E _ t => E = cls ∧ H.size ≤ t.heap.size ∧ ∀ q : Nat, q < H.size → t.heap[q]? = H[q]?) (free := fw_A g) (A := fw_A g) hg.1 cx.2.2.2.2.1 hg.2.2.2.1 hrx cx.own hfit hnames (fw_word hg cx.1 hk rfl) (fw_word hg cx.1 hini rfl) hsa (fun x hx => fw_wordK hg cx.1 (hat x hx).1 (hat x hx).2) hgood
    ((vx_Zq.moved cx.1.alike hg.2.2.2.2.2.1).kept (fun a h1 h2 => hB.2.1 a h1 h2)) ((vx_Zq.moved cx.1.alike hg.2.2.2.2.2.2.1).kept (fun a h1 h2 => hB.2.1 a h1 h2)) (fw_Sb hB hS hz) (hl.1.trans cx.2.2.2.2.2.1.symm) d0 d3 d4 d6 d9 (fw_cov cx hout) hfr hlo (by omega) (by omega) cx.2.2.2.2.2.2.2.1 (fun t _ a b => ⟨rfl, a, b⟩) hS.2.2 (by omega) (by omega)) T hT X
end
section
abbrev m_FR_step : fw_M := (⟨"FolderRights", "step", "()I"⟩, prog_1_method_18_code, 5, (some .int), { frames := 0, cells := 0, slots := 0, locals := 0 }, [])
theorem d_FR_step_0 : decode m_FR_step.2.1 0 = .ok (.aload_n 0, 1) := by decide +kernel
theorem d_FR_step_1 : decode m_FR_step.2.1 1 = .ok (.getfield 18, 3) := by decide +kernel
theorem d_FR_step_4 : decode m_FR_step.2.1 4 = .ok (.astore_n 1, 1) := by decide +kernel
theorem d_FR_step_5 : decode m_FR_step.2.1 5 = .ok (.aload_n 1, 1) := by decide +kernel
theorem d_FR_step_6 : decode m_FR_step.2.1 6 = .ok (.arraylength, 1) := by decide +kernel
theorem d_FR_step_7 : decode m_FR_step.2.1 7 = .ok (.istore_n 2, 1) := by decide +kernel
theorem d_FR_step_8 : decode m_FR_step.2.1 8 = .ok (.iconst 0, 1) := by decide +kernel
theorem d_FR_step_9 : decode m_FR_step.2.1 9 = .ok (.istore_n 3, 1) := by decide +kernel
theorem d_FR_step_10 : decode m_FR_step.2.1 10 = .ok (.iload_n 3, 1) := by decide +kernel
theorem d_FR_step_11 : decode m_FR_step.2.1 11 = .ok (.iload_n 2, 1) := by decide +kernel
theorem d_FR_step_12 : decode m_FR_step.2.1 12 = .ok (.if_icmp .ge 39, 3) := by decide +kernel
theorem d_FR_step_15 : decode m_FR_step.2.1 15 = .ok (.aload_n 1, 1) := by decide +kernel
theorem d_FR_step_16 : decode m_FR_step.2.1 16 = .ok (.iload_n 3, 1) := by decide +kernel
theorem d_FR_step_17 : decode m_FR_step.2.1 17 = .ok (.aaload, 1) := by decide +kernel
theorem d_FR_step_18 : decode m_FR_step.2.1 18 = .ok (.astore 4, 2) := by decide +kernel
theorem d_FR_step_20 : decode m_FR_step.2.1 20 = .ok (.aload 4, 2) := by decide +kernel
theorem d_FR_step_22 : decode m_FR_step.2.1 22 = .ok (.ifnull 23, 3) := by decide +kernel
theorem d_FR_step_25 : decode m_FR_step.2.1 25 = .ok (.aload 4, 2) := by decide +kernel
theorem d_FR_step_27 : decode m_FR_step.2.1 27 = .ok (.getfield 110, 3) := by decide +kernel
theorem d_FR_step_30 : decode m_FR_step.2.1 30 = .ok (.ifCond .eq 15, 3) := by decide +kernel
theorem d_FR_step_33 : decode m_FR_step.2.1 33 = .ok (.aload 4, 2) := by decide +kernel
theorem d_FR_step_35 : decode m_FR_step.2.1 35 = .ok (.iconst 0, 1) := by decide +kernel
theorem d_FR_step_36 : decode m_FR_step.2.1 36 = .ok (.putfield 110, 3) := by decide +kernel
theorem d_FR_step_39 : decode m_FR_step.2.1 39 = .ok (.aload 4, 2) := by decide +kernel
theorem d_FR_step_41 : decode m_FR_step.2.1 41 = .ok (.getfield 186, 3) := by decide +kernel
theorem d_FR_step_44 : decode m_FR_step.2.1 44 = .ok (.ireturn, 1) := by decide +kernel
theorem d_FR_step_45 : decode m_FR_step.2.1 45 = .ok (.iinc 3 1, 3) := by decide +kernel
theorem d_FR_step_48 : decode m_FR_step.2.1 48 = .ok (.goto (-38), 3) := by decide +kernel
theorem d_FR_step_51 : decode m_FR_step.2.1 51 = .ok (.iconst (-1), 1) := by decide +kernel
theorem d_FR_step_52 : decode m_FR_step.2.1 52 = .ok (.ireturn, 1) := by decide +kernel
theorem k_FR_step : fw_cal m_FR_step := ⟨by decide +kernel, by decide +kernel, (fw_t 1 (by decide +kernel)), Or.inl ⟨rfl, fw_t 132 (by decide +kernel)⟩⟩
abbrev m_FR_stale : fw_M := (⟨"FolderRights", "stale", "()I"⟩, prog_1_method_19_code, 6, (some .int), { frames := 0, cells := 0, slots := 0, locals := 0 }, [])
theorem d_FR_stale_0 : decode m_FR_stale.2.1 0 = .ok (.iconst 0, 1) := by decide +kernel
theorem d_FR_stale_1 : decode m_FR_stale.2.1 1 = .ok (.istore_n 1, 1) := by decide +kernel
theorem d_FR_stale_2 : decode m_FR_stale.2.1 2 = .ok (.aload_n 0, 1) := by decide +kernel
theorem d_FR_stale_3 : decode m_FR_stale.2.1 3 = .ok (.getfield 18, 3) := by decide +kernel
theorem d_FR_stale_6 : decode m_FR_stale.2.1 6 = .ok (.astore_n 2, 1) := by decide +kernel
theorem d_FR_stale_7 : decode m_FR_stale.2.1 7 = .ok (.aload_n 2, 1) := by decide +kernel
theorem d_FR_stale_8 : decode m_FR_stale.2.1 8 = .ok (.arraylength, 1) := by decide +kernel
theorem d_FR_stale_9 : decode m_FR_stale.2.1 9 = .ok (.istore_n 3, 1) := by decide +kernel
theorem d_FR_stale_10 : decode m_FR_stale.2.1 10 = .ok (.iconst 0, 1) := by decide +kernel
theorem d_FR_stale_11 : decode m_FR_stale.2.1 11 = .ok (.istore 4, 2) := by decide +kernel
theorem d_FR_stale_13 : decode m_FR_stale.2.1 13 = .ok (.iload 4, 2) := by decide +kernel
theorem d_FR_stale_15 : decode m_FR_stale.2.1 15 = .ok (.iload_n 3, 1) := by decide +kernel
theorem d_FR_stale_16 : decode m_FR_stale.2.1 16 = .ok (.if_icmp .ge 31, 3) := by decide +kernel
theorem d_FR_stale_19 : decode m_FR_stale.2.1 19 = .ok (.aload_n 2, 1) := by decide +kernel
theorem d_FR_stale_20 : decode m_FR_stale.2.1 20 = .ok (.iload 4, 2) := by decide +kernel
theorem d_FR_stale_22 : decode m_FR_stale.2.1 22 = .ok (.aaload, 1) := by decide +kernel
theorem d_FR_stale_23 : decode m_FR_stale.2.1 23 = .ok (.astore 5, 2) := by decide +kernel
theorem d_FR_stale_25 : decode m_FR_stale.2.1 25 = .ok (.aload 5, 2) := by decide +kernel
theorem d_FR_stale_27 : decode m_FR_stale.2.1 27 = .ok (.ifnull 14, 3) := by decide +kernel
theorem d_FR_stale_30 : decode m_FR_stale.2.1 30 = .ok (.aload 5, 2) := by decide +kernel
theorem d_FR_stale_32 : decode m_FR_stale.2.1 32 = .ok (.getfield 110, 3) := by decide +kernel
theorem d_FR_stale_35 : decode m_FR_stale.2.1 35 = .ok (.ifCond .eq 6, 3) := by decide +kernel
theorem d_FR_stale_38 : decode m_FR_stale.2.1 38 = .ok (.iinc 1 1, 3) := by decide +kernel
theorem d_FR_stale_41 : decode m_FR_stale.2.1 41 = .ok (.iinc 4 1, 3) := by decide +kernel
theorem d_FR_stale_44 : decode m_FR_stale.2.1 44 = .ok (.goto (-31), 3) := by decide +kernel
theorem d_FR_stale_47 : decode m_FR_stale.2.1 47 = .ok (.iload_n 1, 1) := by decide +kernel
theorem d_FR_stale_48 : decode m_FR_stale.2.1 48 = .ok (.ireturn, 1) := by decide +kernel
theorem k_FR_stale : fw_cal m_FR_stale := ⟨by decide +kernel, by decide +kernel, (fw_t 1 (by decide +kernel)), Or.inl ⟨rfl, fw_t 136 (by decide +kernel)⟩⟩
abbrev m_FR_user : fw_M := (⟨"FolderRights", "user", "()I"⟩, prog_1_method_2_code, 1, (some .int), { frames := 6, cells := 1, slots := 6, locals := 90 }, [])
theorem d_FR_user_0 : decode m_FR_user.2.1 0 = .ok (.aload_n 0, 1) := by decide +kernel
theorem d_FR_user_1 : decode m_FR_user.2.1 1 = .ok (.getfield 25, 3) := by decide +kernel
theorem d_FR_user_4 : decode m_FR_user.2.1 4 = .ok (.bipush 60, 2) := by decide +kernel
theorem d_FR_user_6 : decode m_FR_user.2.1 6 = .ok (.if_icmp .lt 13, 3) := by decide +kernel
theorem d_FR_user_9 : decode m_FR_user.2.1 9 = .ok (.new 29, 3) := by decide +kernel
theorem d_FR_user_12 : decode m_FR_user.2.1 12 = .ok (.dup, 1) := by decide +kernel
theorem d_FR_user_13 : decode m_FR_user.2.1 13 = .ok (.ldc 31, 2) := by decide +kernel
theorem d_FR_user_15 : decode m_FR_user.2.1 15 = .ok (.invokespecial 33, 3) := by decide +kernel
theorem d_FR_user_18 : decode m_FR_user.2.1 18 = .ok (.athrow, 1) := by decide +kernel
theorem d_FR_user_19 : decode m_FR_user.2.1 19 = .ok (.aload_n 0, 1) := by decide +kernel
theorem d_FR_user_20 : decode m_FR_user.2.1 20 = .ok (.dup, 1) := by decide +kernel
theorem d_FR_user_21 : decode m_FR_user.2.1 21 = .ok (.getfield 25, 3) := by decide +kernel
theorem d_FR_user_24 : decode m_FR_user.2.1 24 = .ok (.dup_x1, 1) := by decide +kernel
theorem d_FR_user_25 : decode m_FR_user.2.1 25 = .ok (.iconst 1, 1) := by decide +kernel
theorem d_FR_user_26 : decode m_FR_user.2.1 26 = .ok (.iadd, 1) := by decide +kernel
theorem d_FR_user_27 : decode m_FR_user.2.1 27 = .ok (.putfield 25, 3) := by decide +kernel
theorem d_FR_user_30 : decode m_FR_user.2.1 30 = .ok (.ireturn, 1) := by decide +kernel
theorem k_FR_user : fw_cal m_FR_user := ⟨by decide +kernel, by decide +kernel, (fw_t 1 (by decide +kernel)), Or.inl ⟨rfl, fw_t 144 (by decide +kernel)⟩⟩
abbrev m_FR_group : fw_M := (⟨"FolderRights", "group", "()I"⟩, prog_1_method_3_code, 1, (some .int), { frames := 6, cells := 1, slots := 6, locals := 90 }, [])
theorem d_FR_group_0 : decode m_FR_group.2.1 0 = .ok (.aload_n 0, 1) := by decide +kernel
theorem d_FR_group_1 : decode m_FR_group.2.1 1 = .ok (.getfield 10, 3) := by decide +kernel
theorem d_FR_group_4 : decode m_FR_group.2.1 4 = .ok (.getfield 36, 3) := by decide +kernel
theorem d_FR_group_7 : decode m_FR_group.2.1 7 = .ok (.bipush 24, 2) := by decide +kernel
theorem d_FR_group_9 : decode m_FR_group.2.1 9 = .ok (.if_icmp .lt 13, 3) := by decide +kernel
theorem d_FR_group_12 : decode m_FR_group.2.1 12 = .ok (.new 29, 3) := by decide +kernel
theorem d_FR_group_15 : decode m_FR_group.2.1 15 = .ok (.dup, 1) := by decide +kernel
theorem d_FR_group_16 : decode m_FR_group.2.1 16 = .ok (.ldc 39, 2) := by decide +kernel
theorem d_FR_group_18 : decode m_FR_group.2.1 18 = .ok (.invokespecial 33, 3) := by decide +kernel
theorem d_FR_group_21 : decode m_FR_group.2.1 21 = .ok (.athrow, 1) := by decide +kernel
theorem d_FR_group_22 : decode m_FR_group.2.1 22 = .ok (.aload_n 0, 1) := by decide +kernel
theorem d_FR_group_23 : decode m_FR_group.2.1 23 = .ok (.getfield 10, 3) := by decide +kernel
theorem d_FR_group_26 : decode m_FR_group.2.1 26 = .ok (.dup, 1) := by decide +kernel
theorem d_FR_group_27 : decode m_FR_group.2.1 27 = .ok (.getfield 36, 3) := by decide +kernel
theorem d_FR_group_30 : decode m_FR_group.2.1 30 = .ok (.dup_x1, 1) := by decide +kernel
theorem d_FR_group_31 : decode m_FR_group.2.1 31 = .ok (.iconst 1, 1) := by decide +kernel
theorem d_FR_group_32 : decode m_FR_group.2.1 32 = .ok (.iadd, 1) := by decide +kernel
theorem d_FR_group_33 : decode m_FR_group.2.1 33 = .ok (.putfield 36, 3) := by decide +kernel
theorem d_FR_group_36 : decode m_FR_group.2.1 36 = .ok (.ireturn, 1) := by decide +kernel
theorem k_FR_group : fw_cal m_FR_group := ⟨by decide +kernel, by decide +kernel, (fw_t 1 (by decide +kernel)), Or.inl ⟨rfl, fw_t 219 (by decide +kernel)⟩⟩
abbrev m_FR_join : fw_M := (⟨"FolderRights", "join", "(IIZ)Z"⟩, prog_1_method_4_code, 4, (some .boolean), { frames := 8, cells := 4, slots := 24, locals := 133 }, [])
theorem d_FR_join_0 : decode m_FR_join.2.1 0 = .ok (.aload_n 0, 1) := by decide +kernel
theorem d_FR_join_1 : decode m_FR_join.2.1 1 = .ok (.iload_n 1, 1) := by decide +kernel
theorem d_FR_join_2 : decode m_FR_join.2.1 2 = .ok (.invokevirtual 41, 3) := by decide +kernel
theorem d_FR_join_5 : decode m_FR_join.2.1 5 = .ok (.aload_n 0, 1) := by decide +kernel
theorem d_FR_join_6 : decode m_FR_join.2.1 6 = .ok (.iload_n 2, 1) := by decide +kernel
theorem d_FR_join_7 : decode m_FR_join.2.1 7 = .ok (.iload_n 3, 1) := by decide +kernel
theorem d_FR_join_8 : decode m_FR_join.2.1 8 = .ok (.invokevirtual 45, 3) := by decide +kernel
theorem d_FR_join_11 : decode m_FR_join.2.1 11 = .ok (.iload_n 3, 1) := by decide +kernel
theorem d_FR_join_12 : decode m_FR_join.2.1 12 = .ok (.ifCond .eq 25, 3) := by decide +kernel
theorem d_FR_join_15 : decode m_FR_join.2.1 15 = .ok (.aload_n 0, 1) := by decide +kernel
theorem d_FR_join_16 : decode m_FR_join.2.1 16 = .ok (.getfield 10, 3) := by decide +kernel
theorem d_FR_join_19 : decode m_FR_join.2.1 19 = .ok (.iload_n 1, 1) := by decide +kernel
theorem d_FR_join_20 : decode m_FR_join.2.1 20 = .ok (.iload_n 2, 1) := by decide +kernel
theorem d_FR_join_21 : decode m_FR_join.2.1 21 = .ok (.invokevirtual 49, 3) := by decide +kernel
theorem d_FR_join_24 : decode m_FR_join.2.1 24 = .ok (.ifCond .eq 13, 3) := by decide +kernel
theorem d_FR_join_27 : decode m_FR_join.2.1 27 = .ok (.new 29, 3) := by decide +kernel
theorem d_FR_join_30 : decode m_FR_join.2.1 30 = .ok (.dup, 1) := by decide +kernel
theorem d_FR_join_31 : decode m_FR_join.2.1 31 = .ok (.ldc 53, 2) := by decide +kernel
theorem d_FR_join_33 : decode m_FR_join.2.1 33 = .ok (.invokespecial 33, 3) := by decide +kernel
theorem d_FR_join_36 : decode m_FR_join.2.1 36 = .ok (.athrow, 1) := by decide +kernel
theorem d_FR_join_37 : decode m_FR_join.2.1 37 = .ok (.aload_n 0, 1) := by decide +kernel
theorem d_FR_join_38 : decode m_FR_join.2.1 38 = .ok (.getfield 10, 3) := by decide +kernel
theorem d_FR_join_41 : decode m_FR_join.2.1 41 = .ok (.iload_n 1, 1) := by decide +kernel
theorem d_FR_join_42 : decode m_FR_join.2.1 42 = .ok (.iload_n 2, 1) := by decide +kernel
theorem d_FR_join_43 : decode m_FR_join.2.1 43 = .ok (.iload_n 3, 1) := by decide +kernel
theorem d_FR_join_44 : decode m_FR_join.2.1 44 = .ok (.invokevirtual 55, 3) := by decide +kernel
theorem d_FR_join_47 : decode m_FR_join.2.1 47 = .ok (.ifCond .eq 5, 3) := by decide +kernel
theorem d_FR_join_50 : decode m_FR_join.2.1 50 = .ok (.iconst 0, 1) := by decide +kernel
theorem d_FR_join_51 : decode m_FR_join.2.1 51 = .ok (.ireturn, 1) := by decide +kernel
theorem d_FR_join_52 : decode m_FR_join.2.1 52 = .ok (.aload_n 0, 1) := by decide +kernel
theorem d_FR_join_53 : decode m_FR_join.2.1 53 = .ok (.getfield 10, 3) := by decide +kernel
theorem d_FR_join_56 : decode m_FR_join.2.1 56 = .ok (.iload_n 1, 1) := by decide +kernel
theorem d_FR_join_57 : decode m_FR_join.2.1 57 = .ok (.iload_n 2, 1) := by decide +kernel
theorem d_FR_join_58 : decode m_FR_join.2.1 58 = .ok (.iload_n 3, 1) := by decide +kernel
theorem d_FR_join_59 : decode m_FR_join.2.1 59 = .ok (.invokevirtual 59, 3) := by decide +kernel
theorem d_FR_join_62 : decode m_FR_join.2.1 62 = .ok (.iconst 1, 1) := by decide +kernel
theorem d_FR_join_63 : decode m_FR_join.2.1 63 = .ok (.ireturn, 1) := by decide +kernel
theorem k_FR_join : fw_cal m_FR_join := ⟨by decide +kernel, by decide +kernel, (fw_t 1 (by decide +kernel)), Or.inl ⟨rfl, fw_t 228 (by decide +kernel)⟩⟩
abbrev m_FR_requireGroup : fw_M := (⟨"FolderRights", "requireGroup", "(I)V"⟩, prog_1_method_36_code, 2, none, { frames := 6, cells := 1, slots := 6, locals := 90 }, [])
theorem d_FR_requireGroup_0 : decode m_FR_requireGroup.2.1 0 = .ok (.iload_n 1, 1) := by decide +kernel
theorem d_FR_requireGroup_1 : decode m_FR_requireGroup.2.1 1 = .ok (.ifCond .lt 14, 3) := by decide +kernel
theorem d_FR_requireGroup_4 : decode m_FR_requireGroup.2.1 4 = .ok (.iload_n 1, 1) := by decide +kernel
theorem d_FR_requireGroup_5 : decode m_FR_requireGroup.2.1 5 = .ok (.aload_n 0, 1) := by decide +kernel
theorem d_FR_requireGroup_6 : decode m_FR_requireGroup.2.1 6 = .ok (.getfield 10, 3) := by decide +kernel
theorem d_FR_requireGroup_9 : decode m_FR_requireGroup.2.1 9 = .ok (.getfield 36, 3) := by decide +kernel
theorem d_FR_requireGroup_12 : decode m_FR_requireGroup.2.1 12 = .ok (.if_icmp .lt 13, 3) := by decide +kernel
theorem d_FR_requireGroup_15 : decode m_FR_requireGroup.2.1 15 = .ok (.new 144, 3) := by decide +kernel
theorem d_FR_requireGroup_18 : decode m_FR_requireGroup.2.1 18 = .ok (.dup, 1) := by decide +kernel
theorem d_FR_requireGroup_19 : decode m_FR_requireGroup.2.1 19 = .ok (.ldc 250, 2) := by decide +kernel
theorem d_FR_requireGroup_21 : decode m_FR_requireGroup.2.1 21 = .ok (.invokespecial 148, 3) := by decide +kernel
theorem d_FR_requireGroup_24 : decode m_FR_requireGroup.2.1 24 = .ok (.athrow, 1) := by decide +kernel
theorem d_FR_requireGroup_25 : decode m_FR_requireGroup.2.1 25 = .ok (.return_, 1) := by decide +kernel
theorem k_FR_requireGroup : fw_cal m_FR_requireGroup := ⟨by decide +kernel, by decide +kernel, (fw_t 1 (by decide +kernel)), Or.inl ⟨rfl, fw_t 232 (by decide +kernel)⟩⟩
abbrev m_FR_requireUserOrGroup : fw_M := (⟨"FolderRights", "requireUserOrGroup", "(IZ)V"⟩, prog_1_method_37_code, 3, none, { frames := 7, cells := 2, slots := 12, locals := 111 }, [])
theorem d_FR_requireUserOrGroup_0 : decode m_FR_requireUserOrGroup.2.1 0 = .ok (.iload_n 2, 1) := by decide +kernel
theorem d_FR_requireUserOrGroup_1 : decode m_FR_requireUserOrGroup.2.1 1 = .ok (.ifCond .eq 11, 3) := by decide +kernel
theorem d_FR_requireUserOrGroup_4 : decode m_FR_requireUserOrGroup.2.1 4 = .ok (.aload_n 0, 1) := by decide +kernel
theorem d_FR_requireUserOrGroup_5 : decode m_FR_requireUserOrGroup.2.1 5 = .ok (.iload_n 1, 1) := by decide +kernel
theorem d_FR_requireUserOrGroup_6 : decode m_FR_requireUserOrGroup.2.1 6 = .ok (.invokevirtual 41, 3) := by decide +kernel
theorem d_FR_requireUserOrGroup_9 : decode m_FR_requireUserOrGroup.2.1 9 = .ok (.goto 8, 3) := by decide +kernel
theorem d_FR_requireUserOrGroup_12 : decode m_FR_requireUserOrGroup.2.1 12 = .ok (.aload_n 0, 1) := by decide +kernel
theorem d_FR_requireUserOrGroup_13 : decode m_FR_requireUserOrGroup.2.1 13 = .ok (.iload_n 1, 1) := by decide +kernel
theorem d_FR_requireUserOrGroup_14 : decode m_FR_requireUserOrGroup.2.1 14 = .ok (.invokevirtual 67, 3) := by decide +kernel
theorem d_FR_requireUserOrGroup_17 : decode m_FR_requireUserOrGroup.2.1 17 = .ok (.return_, 1) := by decide +kernel
theorem k_FR_requireUserOrGroup : fw_cal m_FR_requireUserOrGroup := ⟨by decide +kernel, by decide +kernel, (fw_t 1 (by decide +kernel)), Or.inl ⟨rfl, fw_t 252 (by decide +kernel)⟩⟩
abbrev m_FR_requireUser : fw_M := (⟨"FolderRights", "requireUser", "(I)V"⟩, prog_1_method_35_code, 2, none, { frames := 6, cells := 1, slots := 6, locals := 90 }, [])
theorem d_FR_requireUser_0 : decode m_FR_requireUser.2.1 0 = .ok (.iload_n 1, 1) := by decide +kernel
theorem d_FR_requireUser_1 : decode m_FR_requireUser.2.1 1 = .ok (.ifCond .lt 11, 3) := by decide +kernel
theorem d_FR_requireUser_4 : decode m_FR_requireUser.2.1 4 = .ok (.iload_n 1, 1) := by decide +kernel
theorem d_FR_requireUser_5 : decode m_FR_requireUser.2.1 5 = .ok (.aload_n 0, 1) := by decide +kernel
theorem d_FR_requireUser_6 : decode m_FR_requireUser.2.1 6 = .ok (.getfield 25, 3) := by decide +kernel
theorem d_FR_requireUser_9 : decode m_FR_requireUser.2.1 9 = .ok (.if_icmp .lt 13, 3) := by decide +kernel
theorem d_FR_requireUser_12 : decode m_FR_requireUser.2.1 12 = .ok (.new 144, 3) := by decide +kernel
theorem d_FR_requireUser_15 : decode m_FR_requireUser.2.1 15 = .ok (.dup, 1) := by decide +kernel
theorem d_FR_requireUser_16 : decode m_FR_requireUser.2.1 16 = .ok (.ldc 248, 2) := by decide +kernel
theorem d_FR_requireUser_18 : decode m_FR_requireUser.2.1 18 = .ok (.invokespecial 148, 3) := by decide +kernel
theorem d_FR_requireUser_21 : decode m_FR_requireUser.2.1 21 = .ok (.athrow, 1) := by decide +kernel
theorem d_FR_requireUser_22 : decode m_FR_requireUser.2.1 22 = .ok (.return_, 1) := by decide +kernel
theorem k_FR_requireUser : fw_cal m_FR_requireUser := ⟨by decide +kernel, by decide +kernel, (fw_t 1 (by decide +kernel)), Or.inl ⟨rfl, fw_t 256 (by decide +kernel)⟩⟩
abbrev m_FR_leave : fw_M := (⟨"FolderRights", "leave", "(IIZ)Z"⟩, prog_1_method_5_code, 4, (some .boolean), { frames := 8, cells := 3, slots := 18, locals := 133 }, [])
theorem d_FR_leave_0 : decode m_FR_leave.2.1 0 = .ok (.aload_n 0, 1) := by decide +kernel
theorem d_FR_leave_1 : decode m_FR_leave.2.1 1 = .ok (.iload_n 1, 1) := by decide +kernel
theorem d_FR_leave_2 : decode m_FR_leave.2.1 2 = .ok (.invokevirtual 41, 3) := by decide +kernel
theorem d_FR_leave_5 : decode m_FR_leave.2.1 5 = .ok (.aload_n 0, 1) := by decide +kernel
theorem d_FR_leave_6 : decode m_FR_leave.2.1 6 = .ok (.iload_n 2, 1) := by decide +kernel
theorem d_FR_leave_7 : decode m_FR_leave.2.1 7 = .ok (.iload_n 3, 1) := by decide +kernel
theorem d_FR_leave_8 : decode m_FR_leave.2.1 8 = .ok (.invokevirtual 45, 3) := by decide +kernel
theorem d_FR_leave_11 : decode m_FR_leave.2.1 11 = .ok (.aload_n 0, 1) := by decide +kernel
theorem d_FR_leave_12 : decode m_FR_leave.2.1 12 = .ok (.getfield 10, 3) := by decide +kernel
theorem d_FR_leave_15 : decode m_FR_leave.2.1 15 = .ok (.iload_n 1, 1) := by decide +kernel
theorem d_FR_leave_16 : decode m_FR_leave.2.1 16 = .ok (.iload_n 2, 1) := by decide +kernel
theorem d_FR_leave_17 : decode m_FR_leave.2.1 17 = .ok (.iload_n 3, 1) := by decide +kernel
theorem d_FR_leave_18 : decode m_FR_leave.2.1 18 = .ok (.invokevirtual 55, 3) := by decide +kernel
theorem d_FR_leave_21 : decode m_FR_leave.2.1 21 = .ok (.ifCond .ne 5, 3) := by decide +kernel
theorem d_FR_leave_24 : decode m_FR_leave.2.1 24 = .ok (.iconst 0, 1) := by decide +kernel
theorem d_FR_leave_25 : decode m_FR_leave.2.1 25 = .ok (.ireturn, 1) := by decide +kernel
theorem d_FR_leave_26 : decode m_FR_leave.2.1 26 = .ok (.aload_n 0, 1) := by decide +kernel
theorem d_FR_leave_27 : decode m_FR_leave.2.1 27 = .ok (.getfield 10, 3) := by decide +kernel
theorem d_FR_leave_30 : decode m_FR_leave.2.1 30 = .ok (.iload_n 1, 1) := by decide +kernel
theorem d_FR_leave_31 : decode m_FR_leave.2.1 31 = .ok (.iload_n 2, 1) := by decide +kernel
theorem d_FR_leave_32 : decode m_FR_leave.2.1 32 = .ok (.iload_n 3, 1) := by decide +kernel
theorem d_FR_leave_33 : decode m_FR_leave.2.1 33 = .ok (.invokevirtual 59, 3) := by decide +kernel
theorem d_FR_leave_36 : decode m_FR_leave.2.1 36 = .ok (.iconst 1, 1) := by decide +kernel
theorem d_FR_leave_37 : decode m_FR_leave.2.1 37 = .ok (.ireturn, 1) := by decide +kernel
theorem k_FR_leave : fw_cal m_FR_leave := ⟨by decide +kernel, by decide +kernel, (fw_t 1 (by decide +kernel)), Or.inl ⟨rfl, fw_t 288 (by decide +kernel)⟩⟩
abbrev m_FR_node : fw_M := (⟨"FolderRights", "node", "(IZI)I"⟩, prog_1_method_6_code, 6, (some .int), { frames := 7, cells := 7, slots := 40, locals := 111 }, [])
theorem d_FR_node_0 : decode m_FR_node.2.1 0 = .ok (.aload_n 0, 1) := by decide +kernel
theorem d_FR_node_1 : decode m_FR_node.2.1 1 = .ok (.iload_n 1, 1) := by decide +kernel
theorem d_FR_node_2 : decode m_FR_node.2.1 2 = .ok (.invokevirtual 63, 3) := by decide +kernel
theorem d_FR_node_5 : decode m_FR_node.2.1 5 = .ok (.astore 4, 2) := by decide +kernel
theorem d_FR_node_7 : decode m_FR_node.2.1 7 = .ok (.aload_n 0, 1) := by decide +kernel
theorem d_FR_node_8 : decode m_FR_node.2.1 8 = .ok (.iload_n 3, 1) := by decide +kernel
theorem d_FR_node_9 : decode m_FR_node.2.1 9 = .ok (.invokevirtual 67, 3) := by decide +kernel
theorem d_FR_node_12 : decode m_FR_node.2.1 12 = .ok (.aload 4, 2) := by decide +kernel
theorem d_FR_node_14 : decode m_FR_node.2.1 14 = .ok (.invokestatic 70, 3) := by decide +kernel
theorem d_FR_node_17 : decode m_FR_node.2.1 17 = .ok (.aload_n 0, 1) := by decide +kernel
theorem d_FR_node_18 : decode m_FR_node.2.1 18 = .ok (.invokevirtual 74, 3) := by decide +kernel
theorem d_FR_node_21 : decode m_FR_node.2.1 21 = .ok (.istore 5, 2) := by decide +kernel
theorem d_FR_node_23 : decode m_FR_node.2.1 23 = .ok (.iload 5, 2) := by decide +kernel
theorem d_FR_node_25 : decode m_FR_node.2.1 25 = .ok (.iconst (-1), 1) := by decide +kernel
theorem d_FR_node_26 : decode m_FR_node.2.1 26 = .ok (.if_icmp .ne 13, 3) := by decide +kernel
theorem d_FR_node_29 : decode m_FR_node.2.1 29 = .ok (.new 29, 3) := by decide +kernel
theorem d_FR_node_32 : decode m_FR_node.2.1 32 = .ok (.dup, 1) := by decide +kernel
theorem d_FR_node_33 : decode m_FR_node.2.1 33 = .ok (.ldc 78, 2) := by decide +kernel
theorem d_FR_node_35 : decode m_FR_node.2.1 35 = .ok (.invokespecial 33, 3) := by decide +kernel
theorem d_FR_node_38 : decode m_FR_node.2.1 38 = .ok (.athrow, 1) := by decide +kernel
theorem d_FR_node_39 : decode m_FR_node.2.1 39 = .ok (.aload 4, 2) := by decide +kernel
theorem d_FR_node_41 : decode m_FR_node.2.1 41 = .ok (.invokevirtual 80, 3) := by decide +kernel
theorem d_FR_node_44 : decode m_FR_node.2.1 44 = .ok (.bipush 20, 2) := by decide +kernel
theorem d_FR_node_46 : decode m_FR_node.2.1 46 = .ok (.if_icmp .lt 13, 3) := by decide +kernel
theorem d_FR_node_49 : decode m_FR_node.2.1 49 = .ok (.new 29, 3) := by decide +kernel
theorem d_FR_node_52 : decode m_FR_node.2.1 52 = .ok (.dup, 1) := by decide +kernel
theorem d_FR_node_53 : decode m_FR_node.2.1 53 = .ok (.ldc 83, 2) := by decide +kernel
theorem d_FR_node_55 : decode m_FR_node.2.1 55 = .ok (.invokespecial 33, 3) := by decide +kernel
theorem d_FR_node_58 : decode m_FR_node.2.1 58 = .ok (.athrow, 1) := by decide +kernel
theorem d_FR_node_59 : decode m_FR_node.2.1 59 = .ok (.aload_n 0, 1) := by decide +kernel
theorem d_FR_node_60 : decode m_FR_node.2.1 60 = .ok (.getfield 18, 3) := by decide +kernel
theorem d_FR_node_63 : decode m_FR_node.2.1 63 = .ok (.iload 5, 2) := by decide +kernel
theorem d_FR_node_65 : decode m_FR_node.2.1 65 = .ok (.new 16, 3) := by decide +kernel
theorem d_FR_node_68 : decode m_FR_node.2.1 68 = .ok (.dup, 1) := by decide +kernel
theorem d_FR_node_69 : decode m_FR_node.2.1 69 = .ok (.iload 5, 2) := by decide +kernel
theorem d_FR_node_71 : decode m_FR_node.2.1 71 = .ok (.aload 4, 2) := by decide +kernel
theorem d_FR_node_73 : decode m_FR_node.2.1 73 = .ok (.iload_n 2, 1) := by decide +kernel
theorem d_FR_node_74 : decode m_FR_node.2.1 74 = .ok (.iload_n 3, 1) := by decide +kernel
theorem d_FR_node_75 : decode m_FR_node.2.1 75 = .ok (.invokespecial 22, 3) := by decide +kernel
theorem d_FR_node_78 : decode m_FR_node.2.1 78 = .ok (.aastore, 1) := by decide +kernel
theorem d_FR_node_79 : decode m_FR_node.2.1 79 = .ok (.iload 5, 2) := by decide +kernel
theorem d_FR_node_81 : decode m_FR_node.2.1 81 = .ok (.ireturn, 1) := by decide +kernel
theorem k_FR_node : fw_cal m_FR_node := ⟨by decide +kernel, by decide +kernel, (fw_t 1 (by decide +kernel)), Or.inl ⟨rfl, fw_t 296 (by decide +kernel)⟩⟩
abbrev m_FR_nodeAt : fw_M := (⟨"FolderRights", "nodeAt", "(I)LFolderRights$Node;"⟩, prog_1_method_34_code, 2, (some (.object "FolderRights$Node")), { frames := 6, cells := 1, slots := 6, locals := 90 }, [])
theorem d_FR_nodeAt_0 : decode m_FR_nodeAt.2.1 0 = .ok (.iload_n 1, 1) := by decide +kernel
theorem d_FR_nodeAt_1 : decode m_FR_nodeAt.2.1 1 = .ok (.ifCond .lt 19, 3) := by decide +kernel
theorem d_FR_nodeAt_4 : decode m_FR_nodeAt.2.1 4 = .ok (.iload_n 1, 1) := by decide +kernel
theorem d_FR_nodeAt_5 : decode m_FR_nodeAt.2.1 5 = .ok (.sipush 150, 3) := by decide +kernel
theorem d_FR_nodeAt_8 : decode m_FR_nodeAt.2.1 8 = .ok (.if_icmp .ge 12, 3) := by decide +kernel
theorem d_FR_nodeAt_11 : decode m_FR_nodeAt.2.1 11 = .ok (.aload_n 0, 1) := by decide +kernel
theorem d_FR_nodeAt_12 : decode m_FR_nodeAt.2.1 12 = .ok (.getfield 18, 3) := by decide +kernel
theorem d_FR_nodeAt_15 : decode m_FR_nodeAt.2.1 15 = .ok (.iload_n 1, 1) := by decide +kernel
theorem d_FR_nodeAt_16 : decode m_FR_nodeAt.2.1 16 = .ok (.aaload, 1) := by decide +kernel
theorem d_FR_nodeAt_17 : decode m_FR_nodeAt.2.1 17 = .ok (.ifnonnull 13, 3) := by decide +kernel
theorem d_FR_nodeAt_20 : decode m_FR_nodeAt.2.1 20 = .ok (.new 144, 3) := by decide +kernel
theorem d_FR_nodeAt_23 : decode m_FR_nodeAt.2.1 23 = .ok (.dup, 1) := by decide +kernel
theorem d_FR_nodeAt_24 : decode m_FR_nodeAt.2.1 24 = .ok (.ldc 246, 2) := by decide +kernel
theorem d_FR_nodeAt_26 : decode m_FR_nodeAt.2.1 26 = .ok (.invokespecial 148, 3) := by decide +kernel
theorem d_FR_nodeAt_29 : decode m_FR_nodeAt.2.1 29 = .ok (.athrow, 1) := by decide +kernel
theorem d_FR_nodeAt_30 : decode m_FR_nodeAt.2.1 30 = .ok (.aload_n 0, 1) := by decide +kernel
theorem d_FR_nodeAt_31 : decode m_FR_nodeAt.2.1 31 = .ok (.getfield 18, 3) := by decide +kernel
theorem d_FR_nodeAt_34 : decode m_FR_nodeAt.2.1 34 = .ok (.iload_n 1, 1) := by decide +kernel
theorem d_FR_nodeAt_35 : decode m_FR_nodeAt.2.1 35 = .ok (.aaload, 1) := by decide +kernel
theorem d_FR_nodeAt_36 : decode m_FR_nodeAt.2.1 36 = .ok (.areturn, 1) := by decide +kernel
theorem k_FR_nodeAt : fw_cal m_FR_nodeAt := ⟨by decide +kernel, by decide +kernel, (fw_t 1 (by decide +kernel)), Or.inl ⟨rfl, fw_t 300 (by decide +kernel)⟩⟩
abbrev m_FR_requireFolder : fw_M := (⟨"FolderRights", "requireFolder", "(LFolderRights$Node;)V"⟩, prog_1_method_38_code, 1, none, { frames := 6, cells := 1, slots := 6, locals := 90 }, [])
theorem d_FR_requireFolder_0 : decode m_FR_requireFolder.2.1 0 = .ok (.aload_n 0, 1) := by decide +kernel
theorem d_FR_requireFolder_1 : decode m_FR_requireFolder.2.1 1 = .ok (.getfield 200, 3) := by decide +kernel
theorem d_FR_requireFolder_4 : decode m_FR_requireFolder.2.1 4 = .ok (.ifCond .ne 13, 3) := by decide +kernel
theorem d_FR_requireFolder_7 : decode m_FR_requireFolder.2.1 7 = .ok (.new 92, 3) := by decide +kernel
theorem d_FR_requireFolder_10 : decode m_FR_requireFolder.2.1 10 = .ok (.dup, 1) := by decide +kernel
theorem d_FR_requireFolder_11 : decode m_FR_requireFolder.2.1 11 = .ok (.ldc 252, 2) := by decide +kernel
theorem d_FR_requireFolder_13 : decode m_FR_requireFolder.2.1 13 = .ok (.invokespecial 96, 3) := by decide +kernel
theorem d_FR_requireFolder_16 : decode m_FR_requireFolder.2.1 16 = .ok (.athrow, 1) := by decide +kernel
theorem d_FR_requireFolder_17 : decode m_FR_requireFolder.2.1 17 = .ok (.return_, 1) := by decide +kernel
theorem k_FR_requireFolder : fw_cal m_FR_requireFolder := ⟨by decide +kernel, by decide +kernel, (fw_t 1 (by decide +kernel)), Or.inl ⟨rfl, fw_t 304 (by decide +kernel)⟩⟩
abbrev m_FR_freeNumber : fw_M := (⟨"FolderRights", "freeNumber", "()I"⟩, prog_1_method_31_code, 2, (some .int), { frames := 0, cells := 0, slots := 0, locals := 0 }, [])
theorem d_FR_freeNumber_0 : decode m_FR_freeNumber.2.1 0 = .ok (.iconst 0, 1) := by decide +kernel
theorem d_FR_freeNumber_1 : decode m_FR_freeNumber.2.1 1 = .ok (.istore_n 1, 1) := by decide +kernel
theorem d_FR_freeNumber_2 : decode m_FR_freeNumber.2.1 2 = .ok (.iload_n 1, 1) := by decide +kernel
theorem d_FR_freeNumber_3 : decode m_FR_freeNumber.2.1 3 = .ok (.sipush 150, 3) := by decide +kernel
theorem d_FR_freeNumber_6 : decode m_FR_freeNumber.2.1 6 = .ok (.if_icmp .ge 20, 3) := by decide +kernel
theorem d_FR_freeNumber_9 : decode m_FR_freeNumber.2.1 9 = .ok (.aload_n 0, 1) := by decide +kernel
theorem d_FR_freeNumber_10 : decode m_FR_freeNumber.2.1 10 = .ok (.getfield 18, 3) := by decide +kernel
theorem d_FR_freeNumber_13 : decode m_FR_freeNumber.2.1 13 = .ok (.iload_n 1, 1) := by decide +kernel
theorem d_FR_freeNumber_14 : decode m_FR_freeNumber.2.1 14 = .ok (.aaload, 1) := by decide +kernel
theorem d_FR_freeNumber_15 : decode m_FR_freeNumber.2.1 15 = .ok (.ifnonnull 5, 3) := by decide +kernel
theorem d_FR_freeNumber_18 : decode m_FR_freeNumber.2.1 18 = .ok (.iload_n 1, 1) := by decide +kernel
theorem d_FR_freeNumber_19 : decode m_FR_freeNumber.2.1 19 = .ok (.ireturn, 1) := by decide +kernel
theorem d_FR_freeNumber_20 : decode m_FR_freeNumber.2.1 20 = .ok (.iinc 1 1, 3) := by decide +kernel
theorem d_FR_freeNumber_23 : decode m_FR_freeNumber.2.1 23 = .ok (.goto (-21), 3) := by decide +kernel
theorem d_FR_freeNumber_26 : decode m_FR_freeNumber.2.1 26 = .ok (.iconst (-1), 1) := by decide +kernel
theorem d_FR_freeNumber_27 : decode m_FR_freeNumber.2.1 27 = .ok (.ireturn, 1) := by decide +kernel
theorem k_FR_freeNumber : fw_cal m_FR_freeNumber := ⟨by decide +kernel, by decide +kernel, (fw_t 1 (by decide +kernel)), Or.inl ⟨rfl, fw_t 324 (by decide +kernel)⟩⟩
abbrev m_FR_move : fw_M := (⟨"FolderRights", "move", "(II)I"⟩, prog_1_method_7_code, 6, (some .int), { frames := 7, cells := 6, slots := 36, locals := 111 }, [])
theorem d_FR_move_0 : decode m_FR_move.2.1 0 = .ok (.aload_n 0, 1) := by decide +kernel
theorem d_FR_move_1 : decode m_FR_move.2.1 1 = .ok (.iload_n 1, 1) := by decide +kernel
theorem d_FR_move_2 : decode m_FR_move.2.1 2 = .ok (.invokevirtual 63, 3) := by decide +kernel
theorem d_FR_move_5 : decode m_FR_move.2.1 5 = .ok (.astore_n 3, 1) := by decide +kernel
theorem d_FR_move_6 : decode m_FR_move.2.1 6 = .ok (.aload_n 0, 1) := by decide +kernel
theorem d_FR_move_7 : decode m_FR_move.2.1 7 = .ok (.iload_n 2, 1) := by decide +kernel
theorem d_FR_move_8 : decode m_FR_move.2.1 8 = .ok (.invokevirtual 63, 3) := by decide +kernel
theorem d_FR_move_11 : decode m_FR_move.2.1 11 = .ok (.astore 4, 2) := by decide +kernel
theorem d_FR_move_13 : decode m_FR_move.2.1 13 = .ok (.aload_n 3, 1) := by decide +kernel
theorem d_FR_move_14 : decode m_FR_move.2.1 14 = .ok (.invokestatic 85, 3) := by decide +kernel
theorem d_FR_move_17 : decode m_FR_move.2.1 17 = .ok (.aload 4, 2) := by decide +kernel
theorem d_FR_move_19 : decode m_FR_move.2.1 19 = .ok (.invokestatic 70, 3) := by decide +kernel
theorem d_FR_move_22 : decode m_FR_move.2.1 22 = .ok (.aload 4, 2) := by decide +kernel
theorem d_FR_move_24 : decode m_FR_move.2.1 24 = .ok (.aload_n 3, 1) := by decide +kernel
theorem d_FR_move_25 : decode m_FR_move.2.1 25 = .ok (.invokevirtual 88, 3) := by decide +kernel
theorem d_FR_move_28 : decode m_FR_move.2.1 28 = .ok (.ifCond .eq 13, 3) := by decide +kernel
theorem d_FR_move_31 : decode m_FR_move.2.1 31 = .ok (.new 92, 3) := by decide +kernel
theorem d_FR_move_34 : decode m_FR_move.2.1 34 = .ok (.dup, 1) := by decide +kernel
theorem d_FR_move_35 : decode m_FR_move.2.1 35 = .ok (.ldc 94, 2) := by decide +kernel
theorem d_FR_move_37 : decode m_FR_move.2.1 37 = .ok (.invokespecial 96, 3) := by decide +kernel
theorem d_FR_move_40 : decode m_FR_move.2.1 40 = .ok (.athrow, 1) := by decide +kernel
theorem d_FR_move_41 : decode m_FR_move.2.1 41 = .ok (.aload 4, 2) := by decide +kernel
theorem d_FR_move_43 : decode m_FR_move.2.1 43 = .ok (.invokevirtual 80, 3) := by decide +kernel
theorem d_FR_move_46 : decode m_FR_move.2.1 46 = .ok (.iconst 1, 1) := by decide +kernel
theorem d_FR_move_47 : decode m_FR_move.2.1 47 = .ok (.iadd, 1) := by decide +kernel
theorem d_FR_move_48 : decode m_FR_move.2.1 48 = .ok (.istore 5, 2) := by decide +kernel
theorem d_FR_move_50 : decode m_FR_move.2.1 50 = .ok (.iload 5, 2) := by decide +kernel
theorem d_FR_move_52 : decode m_FR_move.2.1 52 = .ok (.aload_n 0, 1) := by decide +kernel
theorem d_FR_move_53 : decode m_FR_move.2.1 53 = .ok (.aload_n 3, 1) := by decide +kernel
theorem d_FR_move_54 : decode m_FR_move.2.1 54 = .ok (.invokevirtual 97, 3) := by decide +kernel
theorem d_FR_move_57 : decode m_FR_move.2.1 57 = .ok (.iadd, 1) := by decide +kernel
theorem d_FR_move_58 : decode m_FR_move.2.1 58 = .ok (.bipush 20, 2) := by decide +kernel
theorem d_FR_move_60 : decode m_FR_move.2.1 60 = .ok (.if_icmp .le 13, 3) := by decide +kernel
theorem d_FR_move_63 : decode m_FR_move.2.1 63 = .ok (.new 29, 3) := by decide +kernel
theorem d_FR_move_66 : decode m_FR_move.2.1 66 = .ok (.dup, 1) := by decide +kernel
theorem d_FR_move_67 : decode m_FR_move.2.1 67 = .ok (.ldc 101, 2) := by decide +kernel
theorem d_FR_move_69 : decode m_FR_move.2.1 69 = .ok (.invokespecial 33, 3) := by decide +kernel
theorem d_FR_move_72 : decode m_FR_move.2.1 72 = .ok (.athrow, 1) := by decide +kernel
theorem d_FR_move_73 : decode m_FR_move.2.1 73 = .ok (.aload_n 3, 1) := by decide +kernel
theorem d_FR_move_74 : decode m_FR_move.2.1 74 = .ok (.aload 4, 2) := by decide +kernel
theorem d_FR_move_76 : decode m_FR_move.2.1 76 = .ok (.putfield 103, 3) := by decide +kernel
theorem d_FR_move_79 : decode m_FR_move.2.1 79 = .ok (.aload_n 0, 1) := by decide +kernel
theorem d_FR_move_80 : decode m_FR_move.2.1 80 = .ok (.aload_n 3, 1) := by decide +kernel
theorem d_FR_move_81 : decode m_FR_move.2.1 81 = .ok (.invokevirtual 107, 3) := by decide +kernel
theorem d_FR_move_84 : decode m_FR_move.2.1 84 = .ok (.aload_n 3, 1) := by decide +kernel
theorem d_FR_move_85 : decode m_FR_move.2.1 85 = .ok (.iconst 1, 1) := by decide +kernel
theorem d_FR_move_86 : decode m_FR_move.2.1 86 = .ok (.putfield 110, 3) := by decide +kernel
theorem d_FR_move_89 : decode m_FR_move.2.1 89 = .ok (.iload 5, 2) := by decide +kernel
theorem d_FR_move_91 : decode m_FR_move.2.1 91 = .ok (.ireturn, 1) := by decide +kernel
theorem k_FR_move : fw_cal m_FR_move := ⟨by decide +kernel, by decide +kernel, (fw_t 1 (by decide +kernel)), Or.inl ⟨rfl, fw_t 337 (by decide +kernel)⟩⟩
abbrev m_FR_requireNotRoot : fw_M := (⟨"FolderRights", "requireNotRoot", "(LFolderRights$Node;)V"⟩, prog_1_method_39_code, 1, none, { frames := 6, cells := 1, slots := 6, locals := 90 }, [])
theorem d_FR_requireNotRoot_0 : decode m_FR_requireNotRoot.2.1 0 = .ok (.aload_n 0, 1) := by decide +kernel
theorem d_FR_requireNotRoot_1 : decode m_FR_requireNotRoot.2.1 1 = .ok (.getfield 103, 3) := by decide +kernel
theorem d_FR_requireNotRoot_4 : decode m_FR_requireNotRoot.2.1 4 = .ok (.ifnonnull 13, 3) := by decide +kernel
theorem d_FR_requireNotRoot_7 : decode m_FR_requireNotRoot.2.1 7 = .ok (.new 92, 3) := by decide +kernel
theorem d_FR_requireNotRoot_10 : decode m_FR_requireNotRoot.2.1 10 = .ok (.dup, 1) := by decide +kernel
theorem d_FR_requireNotRoot_11 : decode m_FR_requireNotRoot.2.1 11 = .ok (.ldc 254, 2) := by decide +kernel
theorem d_FR_requireNotRoot_13 : decode m_FR_requireNotRoot.2.1 13 = .ok (.invokespecial 96, 3) := by decide +kernel
theorem d_FR_requireNotRoot_16 : decode m_FR_requireNotRoot.2.1 16 = .ok (.athrow, 1) := by decide +kernel
theorem d_FR_requireNotRoot_17 : decode m_FR_requireNotRoot.2.1 17 = .ok (.return_, 1) := by decide +kernel
theorem k_FR_requireNotRoot : fw_cal m_FR_requireNotRoot := ⟨by decide +kernel, by decide +kernel, (fw_t 1 (by decide +kernel)), Or.inl ⟨rfl, fw_t 340 (by decide +kernel)⟩⟩
abbrev m_FR_heightOf : fw_M := (⟨"FolderRights", "heightOf", "(LFolderRights$Node;)I"⟩, prog_1_method_29_code, 8, (some .int), { frames := 1, cells := 0, slots := 0, locals := 22 }, [])
theorem d_FR_heightOf_0 : decode m_FR_heightOf.2.1 0 = .ok (.aload_n 1, 1) := by decide +kernel
theorem d_FR_heightOf_1 : decode m_FR_heightOf.2.1 1 = .ok (.invokevirtual 80, 3) := by decide +kernel
theorem d_FR_heightOf_4 : decode m_FR_heightOf.2.1 4 = .ok (.istore_n 2, 1) := by decide +kernel
theorem d_FR_heightOf_5 : decode m_FR_heightOf.2.1 5 = .ok (.iconst 0, 1) := by decide +kernel
theorem d_FR_heightOf_6 : decode m_FR_heightOf.2.1 6 = .ok (.istore_n 3, 1) := by decide +kernel
theorem d_FR_heightOf_7 : decode m_FR_heightOf.2.1 7 = .ok (.aload_n 0, 1) := by decide +kernel
theorem d_FR_heightOf_8 : decode m_FR_heightOf.2.1 8 = .ok (.getfield 18, 3) := by decide +kernel
theorem d_FR_heightOf_11 : decode m_FR_heightOf.2.1 11 = .ok (.astore 4, 2) := by decide +kernel
theorem d_FR_heightOf_13 : decode m_FR_heightOf.2.1 13 = .ok (.aload 4, 2) := by decide +kernel
theorem d_FR_heightOf_15 : decode m_FR_heightOf.2.1 15 = .ok (.arraylength, 1) := by decide +kernel
theorem d_FR_heightOf_16 : decode m_FR_heightOf.2.1 16 = .ok (.istore 5, 2) := by decide +kernel
theorem d_FR_heightOf_18 : decode m_FR_heightOf.2.1 18 = .ok (.iconst 0, 1) := by decide +kernel
theorem d_FR_heightOf_19 : decode m_FR_heightOf.2.1 19 = .ok (.istore 6, 2) := by decide +kernel
theorem d_FR_heightOf_21 : decode m_FR_heightOf.2.1 21 = .ok (.iload 6, 2) := by decide +kernel
theorem d_FR_heightOf_23 : decode m_FR_heightOf.2.1 23 = .ok (.iload 5, 2) := by decide +kernel
theorem d_FR_heightOf_25 : decode m_FR_heightOf.2.1 25 = .ok (.if_icmp .ge 42, 3) := by decide +kernel
theorem d_FR_heightOf_28 : decode m_FR_heightOf.2.1 28 = .ok (.aload 4, 2) := by decide +kernel
theorem d_FR_heightOf_30 : decode m_FR_heightOf.2.1 30 = .ok (.iload 6, 2) := by decide +kernel
theorem d_FR_heightOf_32 : decode m_FR_heightOf.2.1 32 = .ok (.aaload, 1) := by decide +kernel
theorem d_FR_heightOf_33 : decode m_FR_heightOf.2.1 33 = .ok (.astore 7, 2) := by decide +kernel
theorem d_FR_heightOf_35 : decode m_FR_heightOf.2.1 35 = .ok (.aload 7, 2) := by decide +kernel
theorem d_FR_heightOf_37 : decode m_FR_heightOf.2.1 37 = .ok (.ifnull 24, 3) := by decide +kernel
theorem d_FR_heightOf_40 : decode m_FR_heightOf.2.1 40 = .ok (.aload 7, 2) := by decide +kernel
theorem d_FR_heightOf_42 : decode m_FR_heightOf.2.1 42 = .ok (.aload_n 1, 1) := by decide +kernel
theorem d_FR_heightOf_43 : decode m_FR_heightOf.2.1 43 = .ok (.invokevirtual 88, 3) := by decide +kernel
theorem d_FR_heightOf_46 : decode m_FR_heightOf.2.1 46 = .ok (.ifCond .eq 15, 3) := by decide +kernel
theorem d_FR_heightOf_49 : decode m_FR_heightOf.2.1 49 = .ok (.iload_n 3, 1) := by decide +kernel
theorem d_FR_heightOf_50 : decode m_FR_heightOf.2.1 50 = .ok (.aload 7, 2) := by decide +kernel
theorem d_FR_heightOf_52 : decode m_FR_heightOf.2.1 52 = .ok (.invokevirtual 80, 3) := by decide +kernel
theorem d_FR_heightOf_55 : decode m_FR_heightOf.2.1 55 = .ok (.iload_n 2, 1) := by decide +kernel
theorem d_FR_heightOf_56 : decode m_FR_heightOf.2.1 56 = .ok (.isub, 1) := by decide +kernel
theorem d_FR_heightOf_57 : decode m_FR_heightOf.2.1 57 = .ok (.invokestatic 240, 3) := by decide +kernel
theorem d_FR_heightOf_60 : decode m_FR_heightOf.2.1 60 = .ok (.istore_n 3, 1) := by decide +kernel
theorem d_FR_heightOf_61 : decode m_FR_heightOf.2.1 61 = .ok (.iinc 6 1, 3) := by decide +kernel
theorem d_FR_heightOf_64 : decode m_FR_heightOf.2.1 64 = .ok (.goto (-43), 3) := by decide +kernel
theorem d_FR_heightOf_67 : decode m_FR_heightOf.2.1 67 = .ok (.iload_n 3, 1) := by decide +kernel
theorem d_FR_heightOf_68 : decode m_FR_heightOf.2.1 68 = .ok (.ireturn, 1) := by decide +kernel
theorem k_FR_heightOf : fw_cal m_FR_heightOf := ⟨by decide +kernel, by decide +kernel, (fw_t 1 (by decide +kernel)), Or.inl ⟨rfl, fw_t 350 (by decide +kernel)⟩⟩
abbrev m_FR_markStaleBelow : fw_M := (⟨"FolderRights", "markStaleBelow", "(LFolderRights$Node;)V"⟩, prog_1_method_28_code, 6, none, { frames := 1, cells := 0, slots := 0, locals := 22 }, [])
theorem d_FR_markStaleBelow_0 : decode m_FR_markStaleBelow.2.1 0 = .ok (.aload_n 0, 1) := by decide +kernel
theorem d_FR_markStaleBelow_1 : decode m_FR_markStaleBelow.2.1 1 = .ok (.getfield 18, 3) := by decide +kernel
theorem d_FR_markStaleBelow_4 : decode m_FR_markStaleBelow.2.1 4 = .ok (.astore_n 2, 1) := by decide +kernel
theorem d_FR_markStaleBelow_5 : decode m_FR_markStaleBelow.2.1 5 = .ok (.aload_n 2, 1) := by decide +kernel
theorem d_FR_markStaleBelow_6 : decode m_FR_markStaleBelow.2.1 6 = .ok (.arraylength, 1) := by decide +kernel
theorem d_FR_markStaleBelow_7 : decode m_FR_markStaleBelow.2.1 7 = .ok (.istore_n 3, 1) := by decide +kernel
theorem d_FR_markStaleBelow_8 : decode m_FR_markStaleBelow.2.1 8 = .ok (.iconst 0, 1) := by decide +kernel
theorem d_FR_markStaleBelow_9 : decode m_FR_markStaleBelow.2.1 9 = .ok (.istore 4, 2) := by decide +kernel
theorem d_FR_markStaleBelow_11 : decode m_FR_markStaleBelow.2.1 11 = .ok (.iload 4, 2) := by decide +kernel
theorem d_FR_markStaleBelow_13 : decode m_FR_markStaleBelow.2.1 13 = .ok (.iload_n 3, 1) := by decide +kernel
theorem d_FR_markStaleBelow_14 : decode m_FR_markStaleBelow.2.1 14 = .ok (.if_icmp .ge 41, 3) := by decide +kernel
theorem d_FR_markStaleBelow_17 : decode m_FR_markStaleBelow.2.1 17 = .ok (.aload_n 2, 1) := by decide +kernel
theorem d_FR_markStaleBelow_18 : decode m_FR_markStaleBelow.2.1 18 = .ok (.iload 4, 2) := by decide +kernel
theorem d_FR_markStaleBelow_20 : decode m_FR_markStaleBelow.2.1 20 = .ok (.aaload, 1) := by decide +kernel
theorem d_FR_markStaleBelow_21 : decode m_FR_markStaleBelow.2.1 21 = .ok (.astore 5, 2) := by decide +kernel
theorem d_FR_markStaleBelow_23 : decode m_FR_markStaleBelow.2.1 23 = .ok (.aload 5, 2) := by decide +kernel
theorem d_FR_markStaleBelow_25 : decode m_FR_markStaleBelow.2.1 25 = .ok (.ifnull 24, 3) := by decide +kernel
theorem d_FR_markStaleBelow_28 : decode m_FR_markStaleBelow.2.1 28 = .ok (.aload 5, 2) := by decide +kernel
theorem d_FR_markStaleBelow_30 : decode m_FR_markStaleBelow.2.1 30 = .ok (.aload_n 1, 1) := by decide +kernel
theorem d_FR_markStaleBelow_31 : decode m_FR_markStaleBelow.2.1 31 = .ok (.if_acmp .eq 18, 3) := by decide +kernel
theorem d_FR_markStaleBelow_34 : decode m_FR_markStaleBelow.2.1 34 = .ok (.aload 5, 2) := by decide +kernel
theorem d_FR_markStaleBelow_36 : decode m_FR_markStaleBelow.2.1 36 = .ok (.aload_n 1, 1) := by decide +kernel
theorem d_FR_markStaleBelow_37 : decode m_FR_markStaleBelow.2.1 37 = .ok (.invokevirtual 88, 3) := by decide +kernel
theorem d_FR_markStaleBelow_40 : decode m_FR_markStaleBelow.2.1 40 = .ok (.ifCond .eq 9, 3) := by decide +kernel
theorem d_FR_markStaleBelow_43 : decode m_FR_markStaleBelow.2.1 43 = .ok (.aload 5, 2) := by decide +kernel
theorem d_FR_markStaleBelow_45 : decode m_FR_markStaleBelow.2.1 45 = .ok (.iconst 1, 1) := by decide +kernel
theorem d_FR_markStaleBelow_46 : decode m_FR_markStaleBelow.2.1 46 = .ok (.putfield 110, 3) := by decide +kernel
theorem d_FR_markStaleBelow_49 : decode m_FR_markStaleBelow.2.1 49 = .ok (.iinc 4 1, 3) := by decide +kernel
theorem d_FR_markStaleBelow_52 : decode m_FR_markStaleBelow.2.1 52 = .ok (.goto (-41), 3) := by decide +kernel
theorem d_FR_markStaleBelow_55 : decode m_FR_markStaleBelow.2.1 55 = .ok (.return_, 1) := by decide +kernel
theorem k_FR_markStaleBelow : fw_cal m_FR_markStaleBelow := ⟨by decide +kernel, by decide +kernel, (fw_t 1 (by decide +kernel)), Or.inl ⟨rfl, fw_t 358 (by decide +kernel)⟩⟩
abbrev m_FR_remove : fw_M := (⟨"FolderRights", "remove", "(I)I"⟩, prog_1_method_8_code, 3, (some .int), { frames := 7, cells := 3, slots := 18, locals := 111 }, [])
theorem d_FR_remove_0 : decode m_FR_remove.2.1 0 = .ok (.aload_n 0, 1) := by decide +kernel
theorem d_FR_remove_1 : decode m_FR_remove.2.1 1 = .ok (.iload_n 1, 1) := by decide +kernel
theorem d_FR_remove_2 : decode m_FR_remove.2.1 2 = .ok (.invokevirtual 63, 3) := by decide +kernel
theorem d_FR_remove_5 : decode m_FR_remove.2.1 5 = .ok (.astore_n 2, 1) := by decide +kernel
theorem d_FR_remove_6 : decode m_FR_remove.2.1 6 = .ok (.aload_n 2, 1) := by decide +kernel
theorem d_FR_remove_7 : decode m_FR_remove.2.1 7 = .ok (.invokestatic 85, 3) := by decide +kernel
theorem d_FR_remove_10 : decode m_FR_remove.2.1 10 = .ok (.aload_n 0, 1) := by decide +kernel
theorem d_FR_remove_11 : decode m_FR_remove.2.1 11 = .ok (.aload_n 2, 1) := by decide +kernel
theorem d_FR_remove_12 : decode m_FR_remove.2.1 12 = .ok (.invokevirtual 114, 3) := by decide +kernel
theorem d_FR_remove_15 : decode m_FR_remove.2.1 15 = .ok (.ifCond .le 13, 3) := by decide +kernel
theorem d_FR_remove_18 : decode m_FR_remove.2.1 18 = .ok (.new 29, 3) := by decide +kernel
theorem d_FR_remove_21 : decode m_FR_remove.2.1 21 = .ok (.dup, 1) := by decide +kernel
theorem d_FR_remove_22 : decode m_FR_remove.2.1 22 = .ok (.ldc 117, 2) := by decide +kernel
theorem d_FR_remove_24 : decode m_FR_remove.2.1 24 = .ok (.invokespecial 33, 3) := by decide +kernel
theorem d_FR_remove_27 : decode m_FR_remove.2.1 27 = .ok (.athrow, 1) := by decide +kernel
theorem d_FR_remove_28 : decode m_FR_remove.2.1 28 = .ok (.aload_n 0, 1) := by decide +kernel
theorem d_FR_remove_29 : decode m_FR_remove.2.1 29 = .ok (.getfield 18, 3) := by decide +kernel
theorem d_FR_remove_32 : decode m_FR_remove.2.1 32 = .ok (.iload_n 1, 1) := by decide +kernel
theorem d_FR_remove_33 : decode m_FR_remove.2.1 33 = .ok (.aconst_null, 1) := by decide +kernel
theorem d_FR_remove_34 : decode m_FR_remove.2.1 34 = .ok (.aastore, 1) := by decide +kernel
theorem d_FR_remove_35 : decode m_FR_remove.2.1 35 = .ok (.aload_n 2, 1) := by decide +kernel
theorem d_FR_remove_36 : decode m_FR_remove.2.1 36 = .ok (.getfield 119, 3) := by decide +kernel
theorem d_FR_remove_39 : decode m_FR_remove.2.1 39 = .ok (.invokevirtual 123, 3) := by decide +kernel
theorem d_FR_remove_42 : decode m_FR_remove.2.1 42 = .ok (.ireturn, 1) := by decide +kernel
theorem k_FR_remove : fw_cal m_FR_remove := ⟨by decide +kernel, by decide +kernel, (fw_t 1 (by decide +kernel)), Or.inl ⟨rfl, fw_t 365 (by decide +kernel)⟩⟩
abbrev m_FR_childrenOf : fw_M := (⟨"FolderRights", "childrenOf", "(LFolderRights$Node;)I"⟩, prog_1_method_30_code, 7, (some .int), { frames := 0, cells := 0, slots := 0, locals := 0 }, [])
theorem d_FR_childrenOf_0 : decode m_FR_childrenOf.2.1 0 = .ok (.iconst 0, 1) := by decide +kernel
theorem d_FR_childrenOf_1 : decode m_FR_childrenOf.2.1 1 = .ok (.istore_n 2, 1) := by decide +kernel
theorem d_FR_childrenOf_2 : decode m_FR_childrenOf.2.1 2 = .ok (.aload_n 0, 1) := by decide +kernel
theorem d_FR_childrenOf_3 : decode m_FR_childrenOf.2.1 3 = .ok (.getfield 18, 3) := by decide +kernel
theorem d_FR_childrenOf_6 : decode m_FR_childrenOf.2.1 6 = .ok (.astore_n 3, 1) := by decide +kernel
theorem d_FR_childrenOf_7 : decode m_FR_childrenOf.2.1 7 = .ok (.aload_n 3, 1) := by decide +kernel
theorem d_FR_childrenOf_8 : decode m_FR_childrenOf.2.1 8 = .ok (.arraylength, 1) := by decide +kernel
theorem d_FR_childrenOf_9 : decode m_FR_childrenOf.2.1 9 = .ok (.istore 4, 2) := by decide +kernel
theorem d_FR_childrenOf_11 : decode m_FR_childrenOf.2.1 11 = .ok (.iconst 0, 1) := by decide +kernel
theorem d_FR_childrenOf_12 : decode m_FR_childrenOf.2.1 12 = .ok (.istore 5, 2) := by decide +kernel
theorem d_FR_childrenOf_14 : decode m_FR_childrenOf.2.1 14 = .ok (.iload 5, 2) := by decide +kernel
theorem d_FR_childrenOf_16 : decode m_FR_childrenOf.2.1 16 = .ok (.iload 4, 2) := by decide +kernel
theorem d_FR_childrenOf_18 : decode m_FR_childrenOf.2.1 18 = .ok (.if_icmp .ge 32, 3) := by decide +kernel
theorem d_FR_childrenOf_21 : decode m_FR_childrenOf.2.1 21 = .ok (.aload_n 3, 1) := by decide +kernel
theorem d_FR_childrenOf_22 : decode m_FR_childrenOf.2.1 22 = .ok (.iload 5, 2) := by decide +kernel
theorem d_FR_childrenOf_24 : decode m_FR_childrenOf.2.1 24 = .ok (.aaload, 1) := by decide +kernel
theorem d_FR_childrenOf_25 : decode m_FR_childrenOf.2.1 25 = .ok (.astore 6, 2) := by decide +kernel
theorem d_FR_childrenOf_27 : decode m_FR_childrenOf.2.1 27 = .ok (.aload 6, 2) := by decide +kernel
theorem d_FR_childrenOf_29 : decode m_FR_childrenOf.2.1 29 = .ok (.ifnull 15, 3) := by decide +kernel
theorem d_FR_childrenOf_32 : decode m_FR_childrenOf.2.1 32 = .ok (.aload 6, 2) := by decide +kernel
theorem d_FR_childrenOf_34 : decode m_FR_childrenOf.2.1 34 = .ok (.getfield 103, 3) := by decide +kernel
theorem d_FR_childrenOf_37 : decode m_FR_childrenOf.2.1 37 = .ok (.aload_n 1, 1) := by decide +kernel
theorem d_FR_childrenOf_38 : decode m_FR_childrenOf.2.1 38 = .ok (.if_acmp .ne 6, 3) := by decide +kernel
theorem d_FR_childrenOf_41 : decode m_FR_childrenOf.2.1 41 = .ok (.iinc 2 1, 3) := by decide +kernel
theorem d_FR_childrenOf_44 : decode m_FR_childrenOf.2.1 44 = .ok (.iinc 5 1, 3) := by decide +kernel
theorem d_FR_childrenOf_47 : decode m_FR_childrenOf.2.1 47 = .ok (.goto (-33), 3) := by decide +kernel
theorem d_FR_childrenOf_50 : decode m_FR_childrenOf.2.1 50 = .ok (.iload_n 2, 1) := by decide +kernel
theorem d_FR_childrenOf_51 : decode m_FR_childrenOf.2.1 51 = .ok (.ireturn, 1) := by decide +kernel
theorem k_FR_childrenOf : fw_cal m_FR_childrenOf := ⟨by decide +kernel, by decide +kernel, (fw_t 1 (by decide +kernel)), Or.inl ⟨rfl, fw_t 369 (by decide +kernel)⟩⟩
abbrev m_FR_entry : fw_M := (⟨"FolderRights", "entry", "(IIZIZII)I"⟩, prog_1_method_9_code, 9, (some .int), { frames := 8, cells := 10, slots := 72, locals := 181 }, [])
theorem d_FR_entry_0 : decode m_FR_entry.2.1 0 = .ok (.aload_n 0, 1) := by decide +kernel
theorem d_FR_entry_1 : decode m_FR_entry.2.1 1 = .ok (.iload_n 1, 1) := by decide +kernel
theorem d_FR_entry_2 : decode m_FR_entry.2.1 2 = .ok (.invokevirtual 63, 3) := by decide +kernel
theorem d_FR_entry_5 : decode m_FR_entry.2.1 5 = .ok (.astore 8, 2) := by decide +kernel
theorem d_FR_entry_7 : decode m_FR_entry.2.1 7 = .ok (.aload_n 0, 1) := by decide +kernel
theorem d_FR_entry_8 : decode m_FR_entry.2.1 8 = .ok (.iload 4, 2) := by decide +kernel
theorem d_FR_entry_10 : decode m_FR_entry.2.1 10 = .ok (.iload 5, 2) := by decide +kernel
theorem d_FR_entry_12 : decode m_FR_entry.2.1 12 = .ok (.invokevirtual 45, 3) := by decide +kernel
theorem d_FR_entry_15 : decode m_FR_entry.2.1 15 = .ok (.iload_n 2, 1) := by decide +kernel
theorem d_FR_entry_16 : decode m_FR_entry.2.1 16 = .ok (.ifCond .lt 15, 3) := by decide +kernel
theorem d_FR_entry_19 : decode m_FR_entry.2.1 19 = .ok (.iload_n 2, 1) := by decide +kernel
theorem d_FR_entry_20 : decode m_FR_entry.2.1 20 = .ok (.aload 8, 2) := by decide +kernel
theorem d_FR_entry_22 : decode m_FR_entry.2.1 22 = .ok (.getfield 119, 3) := by decide +kernel
theorem d_FR_entry_25 : decode m_FR_entry.2.1 25 = .ok (.invokevirtual 123, 3) := by decide +kernel
theorem d_FR_entry_28 : decode m_FR_entry.2.1 28 = .ok (.if_icmp .le 13, 3) := by decide +kernel
theorem d_FR_entry_31 : decode m_FR_entry.2.1 31 = .ok (.new 92, 3) := by decide +kernel
theorem d_FR_entry_34 : decode m_FR_entry.2.1 34 = .ok (.dup, 1) := by decide +kernel
theorem d_FR_entry_35 : decode m_FR_entry.2.1 35 = .ok (.ldc 127, 2) := by decide +kernel
theorem d_FR_entry_37 : decode m_FR_entry.2.1 37 = .ok (.invokespecial 96, 3) := by decide +kernel
theorem d_FR_entry_40 : decode m_FR_entry.2.1 40 = .ok (.athrow, 1) := by decide +kernel
theorem d_FR_entry_41 : decode m_FR_entry.2.1 41 = .ok (.iload 6, 2) := by decide +kernel
theorem d_FR_entry_43 : decode m_FR_entry.2.1 43 = .ok (.iconst 1, 1) := by decide +kernel
theorem d_FR_entry_44 : decode m_FR_entry.2.1 44 = .ok (.if_icmp .lt 11, 3) := by decide +kernel
theorem d_FR_entry_47 : decode m_FR_entry.2.1 47 = .ok (.iload 6, 2) := by decide +kernel
theorem d_FR_entry_49 : decode m_FR_entry.2.1 49 = .ok (.sipush 255, 3) := by decide +kernel
theorem d_FR_entry_52 : decode m_FR_entry.2.1 52 = .ok (.if_icmp .le 13, 3) := by decide +kernel
theorem d_FR_entry_55 : decode m_FR_entry.2.1 55 = .ok (.new 92, 3) := by decide +kernel
theorem d_FR_entry_58 : decode m_FR_entry.2.1 58 = .ok (.dup, 1) := by decide +kernel
theorem d_FR_entry_59 : decode m_FR_entry.2.1 59 = .ok (.ldc 129, 2) := by decide +kernel
theorem d_FR_entry_61 : decode m_FR_entry.2.1 61 = .ok (.invokespecial 96, 3) := by decide +kernel
theorem d_FR_entry_64 : decode m_FR_entry.2.1 64 = .ok (.athrow, 1) := by decide +kernel
theorem d_FR_entry_65 : decode m_FR_entry.2.1 65 = .ok (.iload 7, 2) := by decide +kernel
theorem d_FR_entry_67 : decode m_FR_entry.2.1 67 = .ok (.iconst 1, 1) := by decide +kernel
theorem d_FR_entry_68 : decode m_FR_entry.2.1 68 = .ok (.if_icmp .lt 17, 3) := by decide +kernel
theorem d_FR_entry_71 : decode m_FR_entry.2.1 71 = .ok (.iload 7, 2) := by decide +kernel
theorem d_FR_entry_73 : decode m_FR_entry.2.1 73 = .ok (.bipush 15, 2) := by decide +kernel
theorem d_FR_entry_75 : decode m_FR_entry.2.1 75 = .ok (.if_icmp .gt 10, 3) := by decide +kernel
theorem d_FR_entry_78 : decode m_FR_entry.2.1 78 = .ok (.iload 7, 2) := by decide +kernel
theorem d_FR_entry_80 : decode m_FR_entry.2.1 80 = .ok (.bipush 8, 2) := by decide +kernel
theorem d_FR_entry_82 : decode m_FR_entry.2.1 82 = .ok (.if_icmp .ne 13, 3) := by decide +kernel
theorem d_FR_entry_85 : decode m_FR_entry.2.1 85 = .ok (.new 92, 3) := by decide +kernel
theorem d_FR_entry_88 : decode m_FR_entry.2.1 88 = .ok (.dup, 1) := by decide +kernel
theorem d_FR_entry_89 : decode m_FR_entry.2.1 89 = .ok (.ldc 131, 2) := by decide +kernel
theorem d_FR_entry_91 : decode m_FR_entry.2.1 91 = .ok (.invokespecial 96, 3) := by decide +kernel
theorem d_FR_entry_94 : decode m_FR_entry.2.1 94 = .ok (.athrow, 1) := by decide +kernel
theorem d_FR_entry_95 : decode m_FR_entry.2.1 95 = .ok (.aload 8, 2) := by decide +kernel
theorem d_FR_entry_97 : decode m_FR_entry.2.1 97 = .ok (.getfield 119, 3) := by decide +kernel
theorem d_FR_entry_100 : decode m_FR_entry.2.1 100 = .ok (.invokevirtual 123, 3) := by decide +kernel
theorem d_FR_entry_103 : decode m_FR_entry.2.1 103 = .ok (.bipush 12, 2) := by decide +kernel
theorem d_FR_entry_105 : decode m_FR_entry.2.1 105 = .ok (.if_icmp .lt 13, 3) := by decide +kernel
theorem d_FR_entry_108 : decode m_FR_entry.2.1 108 = .ok (.new 29, 3) := by decide +kernel
theorem d_FR_entry_111 : decode m_FR_entry.2.1 111 = .ok (.dup, 1) := by decide +kernel
theorem d_FR_entry_112 : decode m_FR_entry.2.1 112 = .ok (.ldc 133, 2) := by decide +kernel
theorem d_FR_entry_114 : decode m_FR_entry.2.1 114 = .ok (.invokespecial 33, 3) := by decide +kernel
theorem d_FR_entry_117 : decode m_FR_entry.2.1 117 = .ok (.athrow, 1) := by decide +kernel
theorem d_FR_entry_118 : decode m_FR_entry.2.1 118 = .ok (.aload 8, 2) := by decide +kernel
theorem d_FR_entry_120 : decode m_FR_entry.2.1 120 = .ok (.getfield 119, 3) := by decide +kernel
theorem d_FR_entry_123 : decode m_FR_entry.2.1 123 = .ok (.iload_n 2, 1) := by decide +kernel
theorem d_FR_entry_124 : decode m_FR_entry.2.1 124 = .ok (.new 135, 3) := by decide +kernel
theorem d_FR_entry_127 : decode m_FR_entry.2.1 127 = .ok (.dup, 1) := by decide +kernel
theorem d_FR_entry_128 : decode m_FR_entry.2.1 128 = .ok (.iload_n 3, 1) := by decide +kernel
theorem d_FR_entry_129 : decode m_FR_entry.2.1 129 = .ok (.iload 4, 2) := by decide +kernel
theorem d_FR_entry_131 : decode m_FR_entry.2.1 131 = .ok (.iload 5, 2) := by decide +kernel
theorem d_FR_entry_133 : decode m_FR_entry.2.1 133 = .ok (.iload 6, 2) := by decide +kernel
theorem d_FR_entry_135 : decode m_FR_entry.2.1 135 = .ok (.iload 7, 2) := by decide +kernel
theorem d_FR_entry_137 : decode m_FR_entry.2.1 137 = .ok (.invokespecial 137, 3) := by decide +kernel
theorem d_FR_entry_140 : decode m_FR_entry.2.1 140 = .ok (.invokevirtual 140, 3) := by decide +kernel
theorem d_FR_entry_143 : decode m_FR_entry.2.1 143 = .ok (.aload_n 0, 1) := by decide +kernel
theorem d_FR_entry_144 : decode m_FR_entry.2.1 144 = .ok (.aload 8, 2) := by decide +kernel
theorem d_FR_entry_146 : decode m_FR_entry.2.1 146 = .ok (.invokevirtual 107, 3) := by decide +kernel
theorem d_FR_entry_149 : decode m_FR_entry.2.1 149 = .ok (.aload 8, 2) := by decide +kernel
theorem d_FR_entry_151 : decode m_FR_entry.2.1 151 = .ok (.getfield 119, 3) := by decide +kernel
theorem d_FR_entry_154 : decode m_FR_entry.2.1 154 = .ok (.invokevirtual 123, 3) := by decide +kernel
theorem d_FR_entry_157 : decode m_FR_entry.2.1 157 = .ok (.ireturn, 1) := by decide +kernel
theorem k_FR_entry : fw_cal m_FR_entry := ⟨by decide +kernel, by decide +kernel, (fw_t 1 (by decide +kernel)), Or.inl ⟨rfl, fw_t 381 (by decide +kernel)⟩⟩
abbrev m_FR_dropEntry : fw_M := (⟨"FolderRights", "dropEntry", "(II)I"⟩, prog_1_method_10_code, 4, (some .int), { frames := 7, cells := 2, slots := 12, locals := 116 }, [])
theorem d_FR_dropEntry_0 : decode m_FR_dropEntry.2.1 0 = .ok (.aload_n 0, 1) := by decide +kernel
theorem d_FR_dropEntry_1 : decode m_FR_dropEntry.2.1 1 = .ok (.iload_n 1, 1) := by decide +kernel
theorem d_FR_dropEntry_2 : decode m_FR_dropEntry.2.1 2 = .ok (.invokevirtual 63, 3) := by decide +kernel
theorem d_FR_dropEntry_5 : decode m_FR_dropEntry.2.1 5 = .ok (.astore_n 3, 1) := by decide +kernel
theorem d_FR_dropEntry_6 : decode m_FR_dropEntry.2.1 6 = .ok (.iload_n 2, 1) := by decide +kernel
theorem d_FR_dropEntry_7 : decode m_FR_dropEntry.2.1 7 = .ok (.ifCond .lt 14, 3) := by decide +kernel
theorem d_FR_dropEntry_10 : decode m_FR_dropEntry.2.1 10 = .ok (.iload_n 2, 1) := by decide +kernel
theorem d_FR_dropEntry_11 : decode m_FR_dropEntry.2.1 11 = .ok (.aload_n 3, 1) := by decide +kernel
theorem d_FR_dropEntry_12 : decode m_FR_dropEntry.2.1 12 = .ok (.getfield 119, 3) := by decide +kernel
theorem d_FR_dropEntry_15 : decode m_FR_dropEntry.2.1 15 = .ok (.invokevirtual 123, 3) := by decide +kernel
theorem d_FR_dropEntry_18 : decode m_FR_dropEntry.2.1 18 = .ok (.if_icmp .lt 13, 3) := by decide +kernel
theorem d_FR_dropEntry_21 : decode m_FR_dropEntry.2.1 21 = .ok (.new 144, 3) := by decide +kernel
theorem d_FR_dropEntry_24 : decode m_FR_dropEntry.2.1 24 = .ok (.dup, 1) := by decide +kernel
theorem d_FR_dropEntry_25 : decode m_FR_dropEntry.2.1 25 = .ok (.ldc 146, 2) := by decide +kernel
theorem d_FR_dropEntry_27 : decode m_FR_dropEntry.2.1 27 = .ok (.invokespecial 148, 3) := by decide +kernel
theorem d_FR_dropEntry_30 : decode m_FR_dropEntry.2.1 30 = .ok (.athrow, 1) := by decide +kernel
theorem d_FR_dropEntry_31 : decode m_FR_dropEntry.2.1 31 = .ok (.aload_n 3, 1) := by decide +kernel
theorem d_FR_dropEntry_32 : decode m_FR_dropEntry.2.1 32 = .ok (.getfield 119, 3) := by decide +kernel
theorem d_FR_dropEntry_35 : decode m_FR_dropEntry.2.1 35 = .ok (.iload_n 2, 1) := by decide +kernel
theorem d_FR_dropEntry_36 : decode m_FR_dropEntry.2.1 36 = .ok (.invokevirtual 149, 3) := by decide +kernel
theorem d_FR_dropEntry_39 : decode m_FR_dropEntry.2.1 39 = .ok (.pop, 1) := by decide +kernel
theorem d_FR_dropEntry_40 : decode m_FR_dropEntry.2.1 40 = .ok (.aload_n 0, 1) := by decide +kernel
theorem d_FR_dropEntry_41 : decode m_FR_dropEntry.2.1 41 = .ok (.aload_n 3, 1) := by decide +kernel
theorem d_FR_dropEntry_42 : decode m_FR_dropEntry.2.1 42 = .ok (.invokevirtual 107, 3) := by decide +kernel
theorem d_FR_dropEntry_45 : decode m_FR_dropEntry.2.1 45 = .ok (.aload_n 3, 1) := by decide +kernel
theorem d_FR_dropEntry_46 : decode m_FR_dropEntry.2.1 46 = .ok (.getfield 119, 3) := by decide +kernel
theorem d_FR_dropEntry_49 : decode m_FR_dropEntry.2.1 49 = .ok (.invokevirtual 123, 3) := by decide +kernel
theorem d_FR_dropEntry_52 : decode m_FR_dropEntry.2.1 52 = .ok (.ireturn, 1) := by decide +kernel
theorem k_FR_dropEntry : fw_cal m_FR_dropEntry := ⟨by decide +kernel, by decide +kernel, (fw_t 1 (by decide +kernel)), Or.inl ⟨rfl, fw_t 472 (by decide +kernel)⟩⟩
abbrev m_FR_block : fw_M := (⟨"FolderRights", "block", "(IZ)Z"⟩, prog_1_method_11_code, 5, (some .boolean), { frames := 7, cells := 1, slots := 6, locals := 111 }, [])
theorem d_FR_block_0 : decode m_FR_block.2.1 0 = .ok (.aload_n 0, 1) := by decide +kernel
theorem d_FR_block_1 : decode m_FR_block.2.1 1 = .ok (.iload_n 1, 1) := by decide +kernel
theorem d_FR_block_2 : decode m_FR_block.2.1 2 = .ok (.invokevirtual 63, 3) := by decide +kernel
theorem d_FR_block_5 : decode m_FR_block.2.1 5 = .ok (.astore_n 3, 1) := by decide +kernel
theorem d_FR_block_6 : decode m_FR_block.2.1 6 = .ok (.aload_n 3, 1) := by decide +kernel
theorem d_FR_block_7 : decode m_FR_block.2.1 7 = .ok (.getfield 153, 3) := by decide +kernel
theorem d_FR_block_10 : decode m_FR_block.2.1 10 = .ok (.istore 4, 2) := by decide +kernel
theorem d_FR_block_12 : decode m_FR_block.2.1 12 = .ok (.iload 4, 2) := by decide +kernel
theorem d_FR_block_14 : decode m_FR_block.2.1 14 = .ok (.iload_n 2, 1) := by decide +kernel
theorem d_FR_block_15 : decode m_FR_block.2.1 15 = .ok (.if_icmp .eq 18, 3) := by decide +kernel
theorem d_FR_block_18 : decode m_FR_block.2.1 18 = .ok (.aload_n 3, 1) := by decide +kernel
theorem d_FR_block_19 : decode m_FR_block.2.1 19 = .ok (.iload_n 2, 1) := by decide +kernel
theorem d_FR_block_20 : decode m_FR_block.2.1 20 = .ok (.putfield 153, 3) := by decide +kernel
theorem d_FR_block_23 : decode m_FR_block.2.1 23 = .ok (.aload_n 0, 1) := by decide +kernel
theorem d_FR_block_24 : decode m_FR_block.2.1 24 = .ok (.aload_n 3, 1) := by decide +kernel
theorem d_FR_block_25 : decode m_FR_block.2.1 25 = .ok (.invokevirtual 107, 3) := by decide +kernel
theorem d_FR_block_28 : decode m_FR_block.2.1 28 = .ok (.aload_n 3, 1) := by decide +kernel
theorem d_FR_block_29 : decode m_FR_block.2.1 29 = .ok (.iconst 1, 1) := by decide +kernel
theorem d_FR_block_30 : decode m_FR_block.2.1 30 = .ok (.putfield 110, 3) := by decide +kernel
theorem d_FR_block_33 : decode m_FR_block.2.1 33 = .ok (.iload 4, 2) := by decide +kernel
theorem d_FR_block_35 : decode m_FR_block.2.1 35 = .ok (.ireturn, 1) := by decide +kernel
theorem k_FR_block : fw_cal m_FR_block := ⟨by decide +kernel, by decide +kernel, (fw_t 1 (by decide +kernel)), Or.inl ⟨rfl, fw_t 494 (by decide +kernel)⟩⟩
abbrev m_FR_owner : fw_M := (⟨"FolderRights", "owner", "(II)I"⟩, prog_1_method_12_code, 5, (some .int), { frames := 7, cells := 2, slots := 12, locals := 111 }, [])
theorem d_FR_owner_0 : decode m_FR_owner.2.1 0 = .ok (.aload_n 0, 1) := by decide +kernel
theorem d_FR_owner_1 : decode m_FR_owner.2.1 1 = .ok (.iload_n 1, 1) := by decide +kernel
theorem d_FR_owner_2 : decode m_FR_owner.2.1 2 = .ok (.invokevirtual 63, 3) := by decide +kernel
theorem d_FR_owner_5 : decode m_FR_owner.2.1 5 = .ok (.astore_n 3, 1) := by decide +kernel
theorem d_FR_owner_6 : decode m_FR_owner.2.1 6 = .ok (.aload_n 0, 1) := by decide +kernel
theorem d_FR_owner_7 : decode m_FR_owner.2.1 7 = .ok (.iload_n 2, 1) := by decide +kernel
theorem d_FR_owner_8 : decode m_FR_owner.2.1 8 = .ok (.invokevirtual 67, 3) := by decide +kernel
theorem d_FR_owner_11 : decode m_FR_owner.2.1 11 = .ok (.aload_n 3, 1) := by decide +kernel
theorem d_FR_owner_12 : decode m_FR_owner.2.1 12 = .ok (.getfield 156, 3) := by decide +kernel
theorem d_FR_owner_15 : decode m_FR_owner.2.1 15 = .ok (.istore 4, 2) := by decide +kernel
theorem d_FR_owner_17 : decode m_FR_owner.2.1 17 = .ok (.aload_n 3, 1) := by decide +kernel
theorem d_FR_owner_18 : decode m_FR_owner.2.1 18 = .ok (.iload_n 2, 1) := by decide +kernel
theorem d_FR_owner_19 : decode m_FR_owner.2.1 19 = .ok (.putfield 156, 3) := by decide +kernel
theorem d_FR_owner_22 : decode m_FR_owner.2.1 22 = .ok (.iload 4, 2) := by decide +kernel
theorem d_FR_owner_24 : decode m_FR_owner.2.1 24 = .ok (.ireturn, 1) := by decide +kernel
theorem k_FR_owner : fw_cal m_FR_owner := ⟨by decide +kernel, by decide +kernel, (fw_t 1 (by decide +kernel)), Or.inl ⟨rfl, fw_t 501 (by decide +kernel)⟩⟩
abbrev m_FR_rights : fw_M := (⟨"FolderRights", "rights", "(II)I"⟩, prog_1_method_13_code, 6, (some .int), { frames := 7, cells := 2, slots := 12, locals := 123 }, [])
theorem d_FR_rights_0 : decode m_FR_rights.2.1 0 = .ok (.aload_n 0, 1) := by decide +kernel
theorem d_FR_rights_1 : decode m_FR_rights.2.1 1 = .ok (.iload_n 1, 1) := by decide +kernel
theorem d_FR_rights_2 : decode m_FR_rights.2.1 2 = .ok (.invokevirtual 67, 3) := by decide +kernel
theorem d_FR_rights_5 : decode m_FR_rights.2.1 5 = .ok (.aload_n 0, 1) := by decide +kernel
theorem d_FR_rights_6 : decode m_FR_rights.2.1 6 = .ok (.iload_n 2, 1) := by decide +kernel
theorem d_FR_rights_7 : decode m_FR_rights.2.1 7 = .ok (.invokevirtual 63, 3) := by decide +kernel
theorem d_FR_rights_10 : decode m_FR_rights.2.1 10 = .ok (.astore_n 3, 1) := by decide +kernel
theorem d_FR_rights_11 : decode m_FR_rights.2.1 11 = .ok (.aload_n 3, 1) := by decide +kernel
theorem d_FR_rights_12 : decode m_FR_rights.2.1 12 = .ok (.iconst 0, 1) := by decide +kernel
theorem d_FR_rights_13 : decode m_FR_rights.2.1 13 = .ok (.putfield 110, 3) := by decide +kernel
theorem d_FR_rights_16 : decode m_FR_rights.2.1 16 = .ok (.iconst 0, 1) := by decide +kernel
theorem d_FR_rights_17 : decode m_FR_rights.2.1 17 = .ok (.istore 4, 2) := by decide +kernel
theorem d_FR_rights_19 : decode m_FR_rights.2.1 19 = .ok (.iconst 0, 1) := by decide +kernel
theorem d_FR_rights_20 : decode m_FR_rights.2.1 20 = .ok (.istore 5, 2) := by decide +kernel
theorem d_FR_rights_22 : decode m_FR_rights.2.1 22 = .ok (.iload 5, 2) := by decide +kernel
theorem d_FR_rights_24 : decode m_FR_rights.2.1 24 = .ok (.bipush 8, 2) := by decide +kernel
theorem d_FR_rights_26 : decode m_FR_rights.2.1 26 = .ok (.if_icmp .ge 32, 3) := by decide +kernel
theorem d_FR_rights_29 : decode m_FR_rights.2.1 29 = .ok (.aload_n 0, 1) := by decide +kernel
theorem d_FR_rights_30 : decode m_FR_rights.2.1 30 = .ok (.aload_n 3, 1) := by decide +kernel
theorem d_FR_rights_31 : decode m_FR_rights.2.1 31 = .ok (.iload 5, 2) := by decide +kernel
theorem d_FR_rights_33 : decode m_FR_rights.2.1 33 = .ok (.invokevirtual 159, 3) := by decide +kernel
theorem d_FR_rights_36 : decode m_FR_rights.2.1 36 = .ok (.iload_n 1, 1) := by decide +kernel
theorem d_FR_rights_37 : decode m_FR_rights.2.1 37 = .ok (.invokestatic 163, 3) := by decide +kernel
theorem d_FR_rights_40 : decode m_FR_rights.2.1 40 = .ok (.ifCond .eq 12, 3) := by decide +kernel
theorem d_FR_rights_43 : decode m_FR_rights.2.1 43 = .ok (.iload 4, 2) := by decide +kernel
theorem d_FR_rights_45 : decode m_FR_rights.2.1 45 = .ok (.iconst 1, 1) := by decide +kernel
theorem d_FR_rights_46 : decode m_FR_rights.2.1 46 = .ok (.iload 5, 2) := by decide +kernel
theorem d_FR_rights_48 : decode m_FR_rights.2.1 48 = .ok (.ishl, 1) := by decide +kernel
theorem d_FR_rights_49 : decode m_FR_rights.2.1 49 = .ok (.ior, 1) := by decide +kernel
theorem d_FR_rights_50 : decode m_FR_rights.2.1 50 = .ok (.istore 4, 2) := by decide +kernel
theorem d_FR_rights_52 : decode m_FR_rights.2.1 52 = .ok (.iinc 5 1, 3) := by decide +kernel
theorem d_FR_rights_55 : decode m_FR_rights.2.1 55 = .ok (.goto (-33), 3) := by decide +kernel
theorem d_FR_rights_58 : decode m_FR_rights.2.1 58 = .ok (.iload 4, 2) := by decide +kernel
theorem d_FR_rights_60 : decode m_FR_rights.2.1 60 = .ok (.ireturn, 1) := by decide +kernel
theorem k_FR_rights : fw_cal m_FR_rights := ⟨by decide +kernel, by decide +kernel, (fw_t 1 (by decide +kernel)), Or.inl ⟨rfl, fw_t 508 (by decide +kernel)⟩⟩
abbrev m_FR_holders : fw_M := (⟨"FolderRights", "holders", "(LFolderRights$Node;I)J"⟩, prog_1_method_23_code, 12, (some .long), { frames := 4, cells := 0, slots := 0, locals := 92 }, [])
theorem d_FR_holders_0 : decode m_FR_holders.2.1 0 = .ok (.iload_n 2, 1) := by decide +kernel
theorem d_FR_holders_1 : decode m_FR_holders.2.1 1 = .ok (.bipush 7, 2) := by decide +kernel
theorem d_FR_holders_3 : decode m_FR_holders.2.1 3 = .ok (.if_icmp .ne 12, 3) := by decide +kernel
theorem d_FR_holders_6 : decode m_FR_holders.2.1 6 = .ok (.lconst 1, 1) := by decide +kernel
theorem d_FR_holders_7 : decode m_FR_holders.2.1 7 = .ok (.aload_n 1, 1) := by decide +kernel
theorem d_FR_holders_8 : decode m_FR_holders.2.1 8 = .ok (.getfield 156, 3) := by decide +kernel
theorem d_FR_holders_11 : decode m_FR_holders.2.1 11 = .ok (.lshl, 1) := by decide +kernel
theorem d_FR_holders_12 : decode m_FR_holders.2.1 12 = .ok (.goto 4, 3) := by decide +kernel
theorem d_FR_holders_15 : decode m_FR_holders.2.1 15 = .ok (.lconst 0, 1) := by decide +kernel
theorem d_FR_holders_16 : decode m_FR_holders.2.1 16 = .ok (.lstore_n 3, 1) := by decide +kernel
theorem d_FR_holders_17 : decode m_FR_holders.2.1 17 = .ok (.lload_n 3, 1) := by decide +kernel
theorem d_FR_holders_18 : decode m_FR_holders.2.1 18 = .ok (.lstore 5, 2) := by decide +kernel
theorem d_FR_holders_20 : decode m_FR_holders.2.1 20 = .ok (.aload_n 1, 1) := by decide +kernel
theorem d_FR_holders_21 : decode m_FR_holders.2.1 21 = .ok (.astore 7, 2) := by decide +kernel
theorem d_FR_holders_23 : decode m_FR_holders.2.1 23 = .ok (.aload 7, 2) := by decide +kernel
theorem d_FR_holders_25 : decode m_FR_holders.2.1 25 = .ok (.ifnull 64, 3) := by decide +kernel
theorem d_FR_holders_28 : decode m_FR_holders.2.1 28 = .ok (.aload_n 0, 1) := by decide +kernel
theorem d_FR_holders_29 : decode m_FR_holders.2.1 29 = .ok (.aload 7, 2) := by decide +kernel
theorem d_FR_holders_31 : decode m_FR_holders.2.1 31 = .ok (.aload_n 1, 1) := by decide +kernel
theorem d_FR_holders_32 : decode m_FR_holders.2.1 32 = .ok (.iload_n 2, 1) := by decide +kernel
theorem d_FR_holders_33 : decode m_FR_holders.2.1 33 = .ok (.iconst 0, 1) := by decide +kernel
theorem d_FR_holders_34 : decode m_FR_holders.2.1 34 = .ok (.invokevirtual 216, 3) := by decide +kernel
theorem d_FR_holders_37 : decode m_FR_holders.2.1 37 = .ok (.lstore 8, 2) := by decide +kernel
theorem d_FR_holders_39 : decode m_FR_holders.2.1 39 = .ok (.aload_n 0, 1) := by decide +kernel
theorem d_FR_holders_40 : decode m_FR_holders.2.1 40 = .ok (.aload 7, 2) := by decide +kernel
theorem d_FR_holders_42 : decode m_FR_holders.2.1 42 = .ok (.aload_n 1, 1) := by decide +kernel
theorem d_FR_holders_43 : decode m_FR_holders.2.1 43 = .ok (.iload_n 2, 1) := by decide +kernel
theorem d_FR_holders_44 : decode m_FR_holders.2.1 44 = .ok (.iconst 1, 1) := by decide +kernel
theorem d_FR_holders_45 : decode m_FR_holders.2.1 45 = .ok (.invokevirtual 216, 3) := by decide +kernel
theorem d_FR_holders_48 : decode m_FR_holders.2.1 48 = .ok (.lstore 10, 2) := by decide +kernel
theorem d_FR_holders_50 : decode m_FR_holders.2.1 50 = .ok (.lload_n 3, 1) := by decide +kernel
theorem d_FR_holders_51 : decode m_FR_holders.2.1 51 = .ok (.lload 10, 2) := by decide +kernel
theorem d_FR_holders_53 : decode m_FR_holders.2.1 53 = .ok (.lload 8, 2) := by decide +kernel
theorem d_FR_holders_55 : decode m_FR_holders.2.1 55 = .ok (.ldc2_w 220, 3) := by decide +kernel
theorem d_FR_holders_58 : decode m_FR_holders.2.1 58 = .ok (.lxor, 1) := by decide +kernel
theorem d_FR_holders_59 : decode m_FR_holders.2.1 59 = .ok (.land, 1) := by decide +kernel
theorem d_FR_holders_60 : decode m_FR_holders.2.1 60 = .ok (.lload 5, 2) := by decide +kernel
theorem d_FR_holders_62 : decode m_FR_holders.2.1 62 = .ok (.ldc2_w 220, 3) := by decide +kernel
theorem d_FR_holders_65 : decode m_FR_holders.2.1 65 = .ok (.lxor, 1) := by decide +kernel
theorem d_FR_holders_66 : decode m_FR_holders.2.1 66 = .ok (.land, 1) := by decide +kernel
theorem d_FR_holders_67 : decode m_FR_holders.2.1 67 = .ok (.lor, 1) := by decide +kernel
theorem d_FR_holders_68 : decode m_FR_holders.2.1 68 = .ok (.lstore_n 3, 1) := by decide +kernel
theorem d_FR_holders_69 : decode m_FR_holders.2.1 69 = .ok (.lload 5, 2) := by decide +kernel
theorem d_FR_holders_71 : decode m_FR_holders.2.1 71 = .ok (.lload 8, 2) := by decide +kernel
theorem d_FR_holders_73 : decode m_FR_holders.2.1 73 = .ok (.lload 10, 2) := by decide +kernel
theorem d_FR_holders_75 : decode m_FR_holders.2.1 75 = .ok (.lor, 1) := by decide +kernel
theorem d_FR_holders_76 : decode m_FR_holders.2.1 76 = .ok (.lor, 1) := by decide +kernel
theorem d_FR_holders_77 : decode m_FR_holders.2.1 77 = .ok (.lstore 5, 2) := by decide +kernel
theorem d_FR_holders_79 : decode m_FR_holders.2.1 79 = .ok (.aload 7, 2) := by decide +kernel
theorem d_FR_holders_81 : decode m_FR_holders.2.1 81 = .ok (.invokevirtual 189, 3) := by decide +kernel
theorem d_FR_holders_84 : decode m_FR_holders.2.1 84 = .ok (.astore 7, 2) := by decide +kernel
theorem d_FR_holders_86 : decode m_FR_holders.2.1 86 = .ok (.goto (-63), 3) := by decide +kernel
theorem d_FR_holders_89 : decode m_FR_holders.2.1 89 = .ok (.lload_n 3, 1) := by decide +kernel
theorem d_FR_holders_90 : decode m_FR_holders.2.1 90 = .ok (.lreturn, 1) := by decide +kernel
theorem k_FR_holders : fw_cal m_FR_holders := ⟨by decide +kernel, by decide +kernel, (fw_t 1 (by decide +kernel)), Or.inl ⟨rfl, fw_t 512 (by decide +kernel)⟩⟩
abbrev m_FR_hitUsers : fw_M := (⟨"FolderRights", "hitUsers", "(LFolderRights$Node;LFolderRights$Node;IZ)J"⟩, prog_1_method_24_code, 9, (some .long), { frames := 3, cells := 0, slots := 0, locals := 64 }, [])
theorem d_FR_hitUsers_0 : decode m_FR_hitUsers.2.1 0 = .ok (.lconst 0, 1) := by decide +kernel
theorem d_FR_hitUsers_1 : decode m_FR_hitUsers.2.1 1 = .ok (.lstore 5, 2) := by decide +kernel
theorem d_FR_hitUsers_3 : decode m_FR_hitUsers.2.1 3 = .ok (.iconst 0, 1) := by decide +kernel
theorem d_FR_hitUsers_4 : decode m_FR_hitUsers.2.1 4 = .ok (.istore 7, 2) := by decide +kernel
theorem d_FR_hitUsers_6 : decode m_FR_hitUsers.2.1 6 = .ok (.iload 7, 2) := by decide +kernel
theorem d_FR_hitUsers_8 : decode m_FR_hitUsers.2.1 8 = .ok (.aload_n 1, 1) := by decide +kernel
theorem d_FR_hitUsers_9 : decode m_FR_hitUsers.2.1 9 = .ok (.getfield 119, 3) := by decide +kernel
theorem d_FR_hitUsers_12 : decode m_FR_hitUsers.2.1 12 = .ok (.invokevirtual 123, 3) := by decide +kernel
theorem d_FR_hitUsers_15 : decode m_FR_hitUsers.2.1 15 = .ok (.if_icmp .ge 63, 3) := by decide +kernel
theorem d_FR_hitUsers_18 : decode m_FR_hitUsers.2.1 18 = .ok (.aload_n 1, 1) := by decide +kernel
theorem d_FR_hitUsers_19 : decode m_FR_hitUsers.2.1 19 = .ok (.getfield 119, 3) := by decide +kernel
theorem d_FR_hitUsers_22 : decode m_FR_hitUsers.2.1 22 = .ok (.iload 7, 2) := by decide +kernel
theorem d_FR_hitUsers_24 : decode m_FR_hitUsers.2.1 24 = .ok (.invokevirtual 180, 3) := by decide +kernel
theorem d_FR_hitUsers_27 : decode m_FR_hitUsers.2.1 27 = .ok (.checkcast 135, 3) := by decide +kernel
theorem d_FR_hitUsers_30 : decode m_FR_hitUsers.2.1 30 = .ok (.astore 8, 2) := by decide +kernel
theorem d_FR_hitUsers_32 : decode m_FR_hitUsers.2.1 32 = .ok (.aload 8, 2) := by decide +kernel
theorem d_FR_hitUsers_34 : decode m_FR_hitUsers.2.1 34 = .ok (.getfield 183, 3) := by decide +kernel
theorem d_FR_hitUsers_37 : decode m_FR_hitUsers.2.1 37 = .ok (.iload 4, 2) := by decide +kernel
theorem d_FR_hitUsers_39 : decode m_FR_hitUsers.2.1 39 = .ok (.if_icmp .ne 33, 3) := by decide +kernel
theorem d_FR_hitUsers_42 : decode m_FR_hitUsers.2.1 42 = .ok (.aload 8, 2) := by decide +kernel
theorem d_FR_hitUsers_44 : decode m_FR_hitUsers.2.1 44 = .ok (.iload_n 3, 1) := by decide +kernel
theorem d_FR_hitUsers_45 : decode m_FR_hitUsers.2.1 45 = .ok (.invokevirtual 222, 3) := by decide +kernel
theorem d_FR_hitUsers_48 : decode m_FR_hitUsers.2.1 48 = .ok (.ifCond .eq 24, 3) := by decide +kernel
theorem d_FR_hitUsers_51 : decode m_FR_hitUsers.2.1 51 = .ok (.aload 8, 2) := by decide +kernel
theorem d_FR_hitUsers_53 : decode m_FR_hitUsers.2.1 53 = .ok (.aload_n 1, 1) := by decide +kernel
theorem d_FR_hitUsers_54 : decode m_FR_hitUsers.2.1 54 = .ok (.aload_n 2, 1) := by decide +kernel
theorem d_FR_hitUsers_55 : decode m_FR_hitUsers.2.1 55 = .ok (.invokevirtual 226, 3) := by decide +kernel
theorem d_FR_hitUsers_58 : decode m_FR_hitUsers.2.1 58 = .ok (.ifCond .eq 14, 3) := by decide +kernel
theorem d_FR_hitUsers_61 : decode m_FR_hitUsers.2.1 61 = .ok (.lload 5, 2) := by decide +kernel
theorem d_FR_hitUsers_63 : decode m_FR_hitUsers.2.1 63 = .ok (.aload_n 0, 1) := by decide +kernel
theorem d_FR_hitUsers_64 : decode m_FR_hitUsers.2.1 64 = .ok (.aload 8, 2) := by decide +kernel
theorem d_FR_hitUsers_66 : decode m_FR_hitUsers.2.1 66 = .ok (.invokevirtual 230, 3) := by decide +kernel
theorem d_FR_hitUsers_69 : decode m_FR_hitUsers.2.1 69 = .ok (.lor, 1) := by decide +kernel
theorem d_FR_hitUsers_70 : decode m_FR_hitUsers.2.1 70 = .ok (.lstore 5, 2) := by decide +kernel
theorem d_FR_hitUsers_72 : decode m_FR_hitUsers.2.1 72 = .ok (.iinc 7 1, 3) := by decide +kernel
theorem d_FR_hitUsers_75 : decode m_FR_hitUsers.2.1 75 = .ok (.goto (-69), 3) := by decide +kernel
theorem d_FR_hitUsers_78 : decode m_FR_hitUsers.2.1 78 = .ok (.lload 5, 2) := by decide +kernel
theorem d_FR_hitUsers_80 : decode m_FR_hitUsers.2.1 80 = .ok (.lreturn, 1) := by decide +kernel
theorem k_FR_hitUsers : fw_cal m_FR_hitUsers := ⟨by decide +kernel, by decide +kernel, (fw_t 1 (by decide +kernel)), Or.inl ⟨rfl, fw_t 516 (by decide +kernel)⟩⟩
abbrev m_FR_namedUsers : fw_M := (⟨"FolderRights", "namedUsers", "(LFolderRights$Entry;)J"⟩, prog_1_method_26_code, 2, (some .long), { frames := 0, cells := 0, slots := 0, locals := 0 }, [])
theorem d_FR_namedUsers_0 : decode m_FR_namedUsers.2.1 0 = .ok (.aload_n 1, 1) := by decide +kernel
theorem d_FR_namedUsers_1 : decode m_FR_namedUsers.2.1 1 = .ok (.getfield 234, 3) := by decide +kernel
theorem d_FR_namedUsers_4 : decode m_FR_namedUsers.2.1 4 = .ok (.ifCond .eq 18, 3) := by decide +kernel
theorem d_FR_namedUsers_7 : decode m_FR_namedUsers.2.1 7 = .ok (.aload_n 0, 1) := by decide +kernel
theorem d_FR_namedUsers_8 : decode m_FR_namedUsers.2.1 8 = .ok (.getfield 10, 3) := by decide +kernel
theorem d_FR_namedUsers_11 : decode m_FR_namedUsers.2.1 11 = .ok (.getfield 196, 3) := by decide +kernel
theorem d_FR_namedUsers_14 : decode m_FR_namedUsers.2.1 14 = .ok (.aload_n 1, 1) := by decide +kernel
theorem d_FR_namedUsers_15 : decode m_FR_namedUsers.2.1 15 = .ok (.getfield 237, 3) := by decide +kernel
theorem d_FR_namedUsers_18 : decode m_FR_namedUsers.2.1 18 = .ok (.laload, 1) := by decide +kernel
theorem d_FR_namedUsers_19 : decode m_FR_namedUsers.2.1 19 = .ok (.goto 9, 3) := by decide +kernel
theorem d_FR_namedUsers_22 : decode m_FR_namedUsers.2.1 22 = .ok (.lconst 1, 1) := by decide +kernel
theorem d_FR_namedUsers_23 : decode m_FR_namedUsers.2.1 23 = .ok (.aload_n 1, 1) := by decide +kernel
theorem d_FR_namedUsers_24 : decode m_FR_namedUsers.2.1 24 = .ok (.getfield 237, 3) := by decide +kernel
theorem d_FR_namedUsers_27 : decode m_FR_namedUsers.2.1 27 = .ok (.lshl, 1) := by decide +kernel
theorem d_FR_namedUsers_28 : decode m_FR_namedUsers.2.1 28 = .ok (.lreturn, 1) := by decide +kernel
theorem k_FR_namedUsers : fw_cal m_FR_namedUsers := ⟨by decide +kernel, by decide +kernel, (fw_t 1 (by decide +kernel)), Or.inl ⟨rfl, fw_t 537 (by decide +kernel)⟩⟩
abbrev m_FR_explain : fw_M := (⟨"FolderRights", "explain", "(IIII)I"⟩, prog_1_method_14_code, 9, (some .int), { frames := 7, cells := 4, slots := 24, locals := 111 }, [])
theorem d_FR_explain_0 : decode m_FR_explain.2.1 0 = .ok (.aload_n 0, 1) := by decide +kernel
theorem d_FR_explain_1 : decode m_FR_explain.2.1 1 = .ok (.iload_n 1, 1) := by decide +kernel
theorem d_FR_explain_2 : decode m_FR_explain.2.1 2 = .ok (.invokevirtual 67, 3) := by decide +kernel
theorem d_FR_explain_5 : decode m_FR_explain.2.1 5 = .ok (.aload_n 0, 1) := by decide +kernel
theorem d_FR_explain_6 : decode m_FR_explain.2.1 6 = .ok (.iload_n 2, 1) := by decide +kernel
theorem d_FR_explain_7 : decode m_FR_explain.2.1 7 = .ok (.invokevirtual 63, 3) := by decide +kernel
theorem d_FR_explain_10 : decode m_FR_explain.2.1 10 = .ok (.astore 5, 2) := by decide +kernel
theorem d_FR_explain_12 : decode m_FR_explain.2.1 12 = .ok (.iload_n 3, 1) := by decide +kernel
theorem d_FR_explain_13 : decode m_FR_explain.2.1 13 = .ok (.invokestatic 167, 3) := by decide +kernel
theorem d_FR_explain_16 : decode m_FR_explain.2.1 16 = .ok (.iload 4, 2) := by decide +kernel
theorem d_FR_explain_18 : decode m_FR_explain.2.1 18 = .ok (.ifCond .lt 9, 3) := by decide +kernel
theorem d_FR_explain_21 : decode m_FR_explain.2.1 21 = .ok (.iload 4, 2) := by decide +kernel
theorem d_FR_explain_23 : decode m_FR_explain.2.1 23 = .ok (.iconst 2, 1) := by decide +kernel
theorem d_FR_explain_24 : decode m_FR_explain.2.1 24 = .ok (.if_icmp .le 13, 3) := by decide +kernel
theorem d_FR_explain_27 : decode m_FR_explain.2.1 27 = .ok (.new 92, 3) := by decide +kernel
theorem d_FR_explain_30 : decode m_FR_explain.2.1 30 = .ok (.dup, 1) := by decide +kernel
theorem d_FR_explain_31 : decode m_FR_explain.2.1 31 = .ok (.ldc 170, 2) := by decide +kernel
theorem d_FR_explain_33 : decode m_FR_explain.2.1 33 = .ok (.invokespecial 96, 3) := by decide +kernel
theorem d_FR_explain_36 : decode m_FR_explain.2.1 36 = .ok (.athrow, 1) := by decide +kernel
theorem d_FR_explain_37 : decode m_FR_explain.2.1 37 = .ok (.aload 5, 2) := by decide +kernel
theorem d_FR_explain_39 : decode m_FR_explain.2.1 39 = .ok (.iconst 0, 1) := by decide +kernel
theorem d_FR_explain_40 : decode m_FR_explain.2.1 40 = .ok (.putfield 110, 3) := by decide +kernel
theorem d_FR_explain_43 : decode m_FR_explain.2.1 43 = .ok (.iload_n 3, 1) := by decide +kernel
theorem d_FR_explain_44 : decode m_FR_explain.2.1 44 = .ok (.bipush 7, 2) := by decide +kernel
theorem d_FR_explain_46 : decode m_FR_explain.2.1 46 = .ok (.if_icmp .ne 21, 3) := by decide +kernel
theorem d_FR_explain_49 : decode m_FR_explain.2.1 49 = .ok (.aload 5, 2) := by decide +kernel
theorem d_FR_explain_51 : decode m_FR_explain.2.1 51 = .ok (.getfield 156, 3) := by decide +kernel
theorem d_FR_explain_54 : decode m_FR_explain.2.1 54 = .ok (.iload_n 1, 1) := by decide +kernel
theorem d_FR_explain_55 : decode m_FR_explain.2.1 55 = .ok (.if_icmp .ne 12, 3) := by decide +kernel
theorem d_FR_explain_58 : decode m_FR_explain.2.1 58 = .ok (.iload 4, 2) := by decide +kernel
theorem d_FR_explain_60 : decode m_FR_explain.2.1 60 = .ok (.iconst 0, 1) := by decide +kernel
theorem d_FR_explain_61 : decode m_FR_explain.2.1 61 = .ok (.iload_n 2, 1) := by decide +kernel
theorem d_FR_explain_62 : decode m_FR_explain.2.1 62 = .ok (.iconst (-1), 1) := by decide +kernel
theorem d_FR_explain_63 : decode m_FR_explain.2.1 63 = .ok (.invokestatic 172, 3) := by decide +kernel
theorem d_FR_explain_66 : decode m_FR_explain.2.1 66 = .ok (.ireturn, 1) := by decide +kernel
theorem d_FR_explain_67 : decode m_FR_explain.2.1 67 = .ok (.aload 5, 2) := by decide +kernel
theorem d_FR_explain_69 : decode m_FR_explain.2.1 69 = .ok (.astore 6, 2) := by decide +kernel
theorem d_FR_explain_71 : decode m_FR_explain.2.1 71 = .ok (.aload 6, 2) := by decide +kernel
theorem d_FR_explain_73 : decode m_FR_explain.2.1 73 = .ok (.ifnull 72, 3) := by decide +kernel
theorem d_FR_explain_76 : decode m_FR_explain.2.1 76 = .ok (.aload_n 0, 1) := by decide +kernel
theorem d_FR_explain_77 : decode m_FR_explain.2.1 77 = .ok (.aload 6, 2) := by decide +kernel
theorem d_FR_explain_79 : decode m_FR_explain.2.1 79 = .ok (.aload 5, 2) := by decide +kernel
theorem d_FR_explain_81 : decode m_FR_explain.2.1 81 = .ok (.iload_n 1, 1) := by decide +kernel
theorem d_FR_explain_82 : decode m_FR_explain.2.1 82 = .ok (.iload_n 3, 1) := by decide +kernel
theorem d_FR_explain_83 : decode m_FR_explain.2.1 83 = .ok (.invokevirtual 176, 3) := by decide +kernel
theorem d_FR_explain_86 : decode m_FR_explain.2.1 86 = .ok (.istore 7, 2) := by decide +kernel
theorem d_FR_explain_88 : decode m_FR_explain.2.1 88 = .ok (.iload 7, 2) := by decide +kernel
theorem d_FR_explain_90 : decode m_FR_explain.2.1 90 = .ok (.iconst (-1), 1) := by decide +kernel
theorem d_FR_explain_91 : decode m_FR_explain.2.1 91 = .ok (.if_icmp .eq 44, 3) := by decide +kernel
theorem d_FR_explain_94 : decode m_FR_explain.2.1 94 = .ok (.aload 6, 2) := by decide +kernel
theorem d_FR_explain_96 : decode m_FR_explain.2.1 96 = .ok (.getfield 119, 3) := by decide +kernel
theorem d_FR_explain_99 : decode m_FR_explain.2.1 99 = .ok (.iload 7, 2) := by decide +kernel
theorem d_FR_explain_101 : decode m_FR_explain.2.1 101 = .ok (.invokevirtual 180, 3) := by decide +kernel
theorem d_FR_explain_104 : decode m_FR_explain.2.1 104 = .ok (.checkcast 135, 3) := by decide +kernel
theorem d_FR_explain_107 : decode m_FR_explain.2.1 107 = .ok (.getfield 183, 3) := by decide +kernel
theorem d_FR_explain_110 : decode m_FR_explain.2.1 110 = .ok (.ifCond .eq 7, 3) := by decide +kernel
theorem d_FR_explain_113 : decode m_FR_explain.2.1 113 = .ok (.iconst 1, 1) := by decide +kernel
theorem d_FR_explain_114 : decode m_FR_explain.2.1 114 = .ok (.goto 4, 3) := by decide +kernel
theorem d_FR_explain_117 : decode m_FR_explain.2.1 117 = .ok (.iconst 2, 1) := by decide +kernel
theorem d_FR_explain_118 : decode m_FR_explain.2.1 118 = .ok (.istore 8, 2) := by decide +kernel
theorem d_FR_explain_120 : decode m_FR_explain.2.1 120 = .ok (.iload 4, 2) := by decide +kernel
theorem d_FR_explain_122 : decode m_FR_explain.2.1 122 = .ok (.iload 8, 2) := by decide +kernel
theorem d_FR_explain_124 : decode m_FR_explain.2.1 124 = .ok (.aload 6, 2) := by decide +kernel
theorem d_FR_explain_126 : decode m_FR_explain.2.1 126 = .ok (.getfield 186, 3) := by decide +kernel
theorem d_FR_explain_129 : decode m_FR_explain.2.1 129 = .ok (.iload 7, 2) := by decide +kernel
theorem d_FR_explain_131 : decode m_FR_explain.2.1 131 = .ok (.invokestatic 172, 3) := by decide +kernel
theorem d_FR_explain_134 : decode m_FR_explain.2.1 134 = .ok (.ireturn, 1) := by decide +kernel
theorem d_FR_explain_135 : decode m_FR_explain.2.1 135 = .ok (.aload 6, 2) := by decide +kernel
theorem d_FR_explain_137 : decode m_FR_explain.2.1 137 = .ok (.invokevirtual 189, 3) := by decide +kernel
theorem d_FR_explain_140 : decode m_FR_explain.2.1 140 = .ok (.astore 6, 2) := by decide +kernel
theorem d_FR_explain_142 : decode m_FR_explain.2.1 142 = .ok (.goto (-71), 3) := by decide +kernel
theorem d_FR_explain_145 : decode m_FR_explain.2.1 145 = .ok (.iload 4, 2) := by decide +kernel
theorem d_FR_explain_147 : decode m_FR_explain.2.1 147 = .ok (.iconst 3, 1) := by decide +kernel
theorem d_FR_explain_148 : decode m_FR_explain.2.1 148 = .ok (.iconst (-1), 1) := by decide +kernel
theorem d_FR_explain_149 : decode m_FR_explain.2.1 149 = .ok (.iconst (-1), 1) := by decide +kernel
theorem d_FR_explain_150 : decode m_FR_explain.2.1 150 = .ok (.invokestatic 172, 3) := by decide +kernel
theorem d_FR_explain_153 : decode m_FR_explain.2.1 153 = .ok (.ireturn, 1) := by decide +kernel
theorem k_FR_explain : fw_cal m_FR_explain := ⟨by decide +kernel, by decide +kernel, (fw_t 1 (by decide +kernel)), Or.inl ⟨rfl, fw_t 550 (by decide +kernel)⟩⟩
abbrev m_FR_requireRight : fw_M := (⟨"FolderRights", "requireRight", "(I)V"⟩, prog_1_method_40_code, 1, none, { frames := 6, cells := 1, slots := 6, locals := 90 }, [])
theorem d_FR_requireRight_0 : decode m_FR_requireRight.2.1 0 = .ok (.iload_n 0, 1) := by decide +kernel
theorem d_FR_requireRight_1 : decode m_FR_requireRight.2.1 1 = .ok (.ifCond .lt 9, 3) := by decide +kernel
theorem d_FR_requireRight_4 : decode m_FR_requireRight.2.1 4 = .ok (.iload_n 0, 1) := by decide +kernel
theorem d_FR_requireRight_5 : decode m_FR_requireRight.2.1 5 = .ok (.bipush 8, 2) := by decide +kernel
theorem d_FR_requireRight_7 : decode m_FR_requireRight.2.1 7 = .ok (.if_icmp .lt 14, 3) := by decide +kernel
theorem d_FR_requireRight_10 : decode m_FR_requireRight.2.1 10 = .ok (.new 92, 3) := by decide +kernel
theorem d_FR_requireRight_13 : decode m_FR_requireRight.2.1 13 = .ok (.dup, 1) := by decide +kernel
theorem d_FR_requireRight_14 : decode m_FR_requireRight.2.1 14 = .ok (.ldc_w 256, 3) := by decide +kernel
theorem d_FR_requireRight_17 : decode m_FR_requireRight.2.1 17 = .ok (.invokespecial 96, 3) := by decide +kernel
theorem d_FR_requireRight_20 : decode m_FR_requireRight.2.1 20 = .ok (.athrow, 1) := by decide +kernel
theorem d_FR_requireRight_21 : decode m_FR_requireRight.2.1 21 = .ok (.return_, 1) := by decide +kernel
theorem k_FR_requireRight : fw_cal m_FR_requireRight := ⟨by decide +kernel, by decide +kernel, (fw_t 1 (by decide +kernel)), Or.inl ⟨rfl, fw_t 553 (by decide +kernel)⟩⟩
abbrev m_FR_fieldOf : fw_M := (⟨"FolderRights", "fieldOf", "(IIII)I"⟩, prog_1_method_27_code, 4, (some .int), { frames := 0, cells := 0, slots := 0, locals := 0 }, [])
theorem d_FR_fieldOf_0 : decode m_FR_fieldOf.2.1 0 = .ok (.iload_n 0, 1) := by decide +kernel
theorem d_FR_fieldOf_1 : decode m_FR_fieldOf.2.1 1 = .ok (.ifCond .ne 5, 3) := by decide +kernel
theorem d_FR_fieldOf_4 : decode m_FR_fieldOf.2.1 4 = .ok (.iload_n 1, 1) := by decide +kernel
theorem d_FR_fieldOf_5 : decode m_FR_fieldOf.2.1 5 = .ok (.ireturn, 1) := by decide +kernel
theorem d_FR_fieldOf_6 : decode m_FR_fieldOf.2.1 6 = .ok (.iload_n 0, 1) := by decide +kernel
theorem d_FR_fieldOf_7 : decode m_FR_fieldOf.2.1 7 = .ok (.iconst 1, 1) := by decide +kernel
theorem d_FR_fieldOf_8 : decode m_FR_fieldOf.2.1 8 = .ok (.if_icmp .ne 7, 3) := by decide +kernel
theorem d_FR_fieldOf_11 : decode m_FR_fieldOf.2.1 11 = .ok (.iload_n 2, 1) := by decide +kernel
theorem d_FR_fieldOf_12 : decode m_FR_fieldOf.2.1 12 = .ok (.goto 4, 3) := by decide +kernel
theorem d_FR_fieldOf_15 : decode m_FR_fieldOf.2.1 15 = .ok (.iload_n 3, 1) := by decide +kernel
theorem d_FR_fieldOf_16 : decode m_FR_fieldOf.2.1 16 = .ok (.ireturn, 1) := by decide +kernel
theorem k_FR_fieldOf : fw_cal m_FR_fieldOf := ⟨by decide +kernel, by decide +kernel, (fw_t 1 (by decide +kernel)), Or.inl ⟨rfl, fw_t 558 (by decide +kernel)⟩⟩
abbrev m_FR_decidingPosition : fw_M := (⟨"FolderRights", "decidingPosition", "(LFolderRights$Node;LFolderRights$Node;II)I"⟩, prog_1_method_25_code, 8, (some .int), { frames := 3, cells := 0, slots := 0, locals := 64 }, [])
theorem d_FR_decidingPosition_0 : decode m_FR_decidingPosition.2.1 0 = .ok (.iconst (-1), 1) := by decide +kernel
theorem d_FR_decidingPosition_1 : decode m_FR_decidingPosition.2.1 1 = .ok (.istore 5, 2) := by decide +kernel
theorem d_FR_decidingPosition_3 : decode m_FR_decidingPosition.2.1 3 = .ok (.iconst 0, 1) := by decide +kernel
theorem d_FR_decidingPosition_4 : decode m_FR_decidingPosition.2.1 4 = .ok (.istore 6, 2) := by decide +kernel
theorem d_FR_decidingPosition_6 : decode m_FR_decidingPosition.2.1 6 = .ok (.iload 6, 2) := by decide +kernel
theorem d_FR_decidingPosition_8 : decode m_FR_decidingPosition.2.1 8 = .ok (.aload_n 1, 1) := by decide +kernel
theorem d_FR_decidingPosition_9 : decode m_FR_decidingPosition.2.1 9 = .ok (.getfield 119, 3) := by decide +kernel
theorem d_FR_decidingPosition_12 : decode m_FR_decidingPosition.2.1 12 = .ok (.invokevirtual 123, 3) := by decide +kernel
theorem d_FR_decidingPosition_15 : decode m_FR_decidingPosition.2.1 15 = .ok (.if_icmp .ge 77, 3) := by decide +kernel
theorem d_FR_decidingPosition_18 : decode m_FR_decidingPosition.2.1 18 = .ok (.aload_n 1, 1) := by decide +kernel
theorem d_FR_decidingPosition_19 : decode m_FR_decidingPosition.2.1 19 = .ok (.getfield 119, 3) := by decide +kernel
theorem d_FR_decidingPosition_22 : decode m_FR_decidingPosition.2.1 22 = .ok (.iload 6, 2) := by decide +kernel
theorem d_FR_decidingPosition_24 : decode m_FR_decidingPosition.2.1 24 = .ok (.invokevirtual 180, 3) := by decide +kernel
theorem d_FR_decidingPosition_27 : decode m_FR_decidingPosition.2.1 27 = .ok (.checkcast 135, 3) := by decide +kernel
theorem d_FR_decidingPosition_30 : decode m_FR_decidingPosition.2.1 30 = .ok (.astore 7, 2) := by decide +kernel
theorem d_FR_decidingPosition_32 : decode m_FR_decidingPosition.2.1 32 = .ok (.aload 7, 2) := by decide +kernel
theorem d_FR_decidingPosition_34 : decode m_FR_decidingPosition.2.1 34 = .ok (.iload 4, 2) := by decide +kernel
theorem d_FR_decidingPosition_36 : decode m_FR_decidingPosition.2.1 36 = .ok (.invokevirtual 222, 3) := by decide +kernel
theorem d_FR_decidingPosition_39 : decode m_FR_decidingPosition.2.1 39 = .ok (.ifCond .eq 47, 3) := by decide +kernel
theorem d_FR_decidingPosition_42 : decode m_FR_decidingPosition.2.1 42 = .ok (.aload 7, 2) := by decide +kernel
theorem d_FR_decidingPosition_44 : decode m_FR_decidingPosition.2.1 44 = .ok (.aload_n 1, 1) := by decide +kernel
theorem d_FR_decidingPosition_45 : decode m_FR_decidingPosition.2.1 45 = .ok (.aload_n 2, 1) := by decide +kernel
theorem d_FR_decidingPosition_46 : decode m_FR_decidingPosition.2.1 46 = .ok (.invokevirtual 226, 3) := by decide +kernel
theorem d_FR_decidingPosition_49 : decode m_FR_decidingPosition.2.1 49 = .ok (.ifCond .eq 37, 3) := by decide +kernel
theorem d_FR_decidingPosition_52 : decode m_FR_decidingPosition.2.1 52 = .ok (.aload_n 0, 1) := by decide +kernel
theorem d_FR_decidingPosition_53 : decode m_FR_decidingPosition.2.1 53 = .ok (.aload 7, 2) := by decide +kernel
theorem d_FR_decidingPosition_55 : decode m_FR_decidingPosition.2.1 55 = .ok (.invokevirtual 230, 3) := by decide +kernel
theorem d_FR_decidingPosition_58 : decode m_FR_decidingPosition.2.1 58 = .ok (.iload_n 3, 1) := by decide +kernel
theorem d_FR_decidingPosition_59 : decode m_FR_decidingPosition.2.1 59 = .ok (.invokestatic 163, 3) := by decide +kernel
theorem d_FR_decidingPosition_62 : decode m_FR_decidingPosition.2.1 62 = .ok (.ifCond .eq 24, 3) := by decide +kernel
theorem d_FR_decidingPosition_65 : decode m_FR_decidingPosition.2.1 65 = .ok (.aload 7, 2) := by decide +kernel
theorem d_FR_decidingPosition_67 : decode m_FR_decidingPosition.2.1 67 = .ok (.getfield 183, 3) := by decide +kernel
theorem d_FR_decidingPosition_70 : decode m_FR_decidingPosition.2.1 70 = .ok (.ifCond .ne 6, 3) := by decide +kernel
theorem d_FR_decidingPosition_73 : decode m_FR_decidingPosition.2.1 73 = .ok (.iload 6, 2) := by decide +kernel
theorem d_FR_decidingPosition_75 : decode m_FR_decidingPosition.2.1 75 = .ok (.ireturn, 1) := by decide +kernel
theorem d_FR_decidingPosition_76 : decode m_FR_decidingPosition.2.1 76 = .ok (.iload 5, 2) := by decide +kernel
theorem d_FR_decidingPosition_78 : decode m_FR_decidingPosition.2.1 78 = .ok (.iconst (-1), 1) := by decide +kernel
theorem d_FR_decidingPosition_79 : decode m_FR_decidingPosition.2.1 79 = .ok (.if_icmp .ne 7, 3) := by decide +kernel
theorem d_FR_decidingPosition_82 : decode m_FR_decidingPosition.2.1 82 = .ok (.iload 6, 2) := by decide +kernel
theorem d_FR_decidingPosition_84 : decode m_FR_decidingPosition.2.1 84 = .ok (.istore 5, 2) := by decide +kernel
theorem d_FR_decidingPosition_86 : decode m_FR_decidingPosition.2.1 86 = .ok (.iinc 6 1, 3) := by decide +kernel
theorem d_FR_decidingPosition_89 : decode m_FR_decidingPosition.2.1 89 = .ok (.goto (-83), 3) := by decide +kernel
theorem d_FR_decidingPosition_92 : decode m_FR_decidingPosition.2.1 92 = .ok (.iload 5, 2) := by decide +kernel
theorem d_FR_decidingPosition_94 : decode m_FR_decidingPosition.2.1 94 = .ok (.ireturn, 1) := by decide +kernel
theorem k_FR_decidingPosition : fw_cal m_FR_decidingPosition := ⟨by decide +kernel, by decide +kernel, (fw_t 1 (by decide +kernel)), Or.inl ⟨rfl, fw_t 562 (by decide +kernel)⟩⟩
abbrev m_FR_who : fw_M := (⟨"FolderRights", "who", "(III)I"⟩, prog_1_method_15_code, 9, (some .int), { frames := 7, cells := 3, slots := 18, locals := 123 }, [])
theorem d_FR_who_0 : decode m_FR_who.2.1 0 = .ok (.aload_n 0, 1) := by decide +kernel
theorem d_FR_who_1 : decode m_FR_who.2.1 1 = .ok (.iload_n 1, 1) := by decide +kernel
theorem d_FR_who_2 : decode m_FR_who.2.1 2 = .ok (.invokevirtual 63, 3) := by decide +kernel
theorem d_FR_who_5 : decode m_FR_who.2.1 5 = .ok (.astore 4, 2) := by decide +kernel
theorem d_FR_who_7 : decode m_FR_who.2.1 7 = .ok (.iload_n 2, 1) := by decide +kernel
theorem d_FR_who_8 : decode m_FR_who.2.1 8 = .ok (.invokestatic 167, 3) := by decide +kernel
theorem d_FR_who_11 : decode m_FR_who.2.1 11 = .ok (.iload_n 3, 1) := by decide +kernel
theorem d_FR_who_12 : decode m_FR_who.2.1 12 = .ok (.invokestatic 193, 3) := by decide +kernel
theorem d_FR_who_15 : decode m_FR_who.2.1 15 = .ok (.aload 4, 2) := by decide +kernel
theorem d_FR_who_17 : decode m_FR_who.2.1 17 = .ok (.iconst 0, 1) := by decide +kernel
theorem d_FR_who_18 : decode m_FR_who.2.1 18 = .ok (.putfield 110, 3) := by decide +kernel
theorem d_FR_who_21 : decode m_FR_who.2.1 21 = .ok (.aload_n 0, 1) := by decide +kernel
theorem d_FR_who_22 : decode m_FR_who.2.1 22 = .ok (.aload 4, 2) := by decide +kernel
theorem d_FR_who_24 : decode m_FR_who.2.1 24 = .ok (.iload_n 2, 1) := by decide +kernel
theorem d_FR_who_25 : decode m_FR_who.2.1 25 = .ok (.invokevirtual 159, 3) := by decide +kernel
theorem d_FR_who_28 : decode m_FR_who.2.1 28 = .ok (.lstore 5, 2) := by decide +kernel
theorem d_FR_who_30 : decode m_FR_who.2.1 30 = .ok (.iconst 0, 1) := by decide +kernel
theorem d_FR_who_31 : decode m_FR_who.2.1 31 = .ok (.istore 7, 2) := by decide +kernel
theorem d_FR_who_33 : decode m_FR_who.2.1 33 = .ok (.iconst 0, 1) := by decide +kernel
theorem d_FR_who_34 : decode m_FR_who.2.1 34 = .ok (.istore 8, 2) := by decide +kernel
theorem d_FR_who_36 : decode m_FR_who.2.1 36 = .ok (.iload 8, 2) := by decide +kernel
theorem d_FR_who_38 : decode m_FR_who.2.1 38 = .ok (.aload_n 0, 1) := by decide +kernel
theorem d_FR_who_39 : decode m_FR_who.2.1 39 = .ok (.getfield 25, 3) := by decide +kernel
theorem d_FR_who_42 : decode m_FR_who.2.1 42 = .ok (.if_icmp .ge 31, 3) := by decide +kernel
theorem d_FR_who_45 : decode m_FR_who.2.1 45 = .ok (.lload 5, 2) := by decide +kernel
theorem d_FR_who_47 : decode m_FR_who.2.1 47 = .ok (.iload 8, 2) := by decide +kernel
theorem d_FR_who_49 : decode m_FR_who.2.1 49 = .ok (.invokestatic 163, 3) := by decide +kernel
theorem d_FR_who_52 : decode m_FR_who.2.1 52 = .ok (.ifCond .eq 15, 3) := by decide +kernel
theorem d_FR_who_55 : decode m_FR_who.2.1 55 = .ok (.iload 7, 2) := by decide +kernel
theorem d_FR_who_57 : decode m_FR_who.2.1 57 = .ok (.iload_n 3, 1) := by decide +kernel
theorem d_FR_who_58 : decode m_FR_who.2.1 58 = .ok (.if_icmp .ne 6, 3) := by decide +kernel
theorem d_FR_who_61 : decode m_FR_who.2.1 61 = .ok (.iload 8, 2) := by decide +kernel
theorem d_FR_who_63 : decode m_FR_who.2.1 63 = .ok (.ireturn, 1) := by decide +kernel
theorem d_FR_who_64 : decode m_FR_who.2.1 64 = .ok (.iinc 7 1, 3) := by decide +kernel
theorem d_FR_who_67 : decode m_FR_who.2.1 67 = .ok (.iinc 8 1, 3) := by decide +kernel
theorem d_FR_who_70 : decode m_FR_who.2.1 70 = .ok (.goto (-34), 3) := by decide +kernel
theorem d_FR_who_73 : decode m_FR_who.2.1 73 = .ok (.iconst (-1), 1) := by decide +kernel
theorem d_FR_who_74 : decode m_FR_who.2.1 74 = .ok (.ireturn, 1) := by decide +kernel
theorem k_FR_who : fw_cal m_FR_who := ⟨by decide +kernel, by decide +kernel, (fw_t 1 (by decide +kernel)), Or.inl ⟨rfl, fw_t 569 (by decide +kernel)⟩⟩
abbrev m_FR_requirePlace : fw_M := (⟨"FolderRights", "requirePlace", "(I)V"⟩, prog_1_method_41_code, 1, none, { frames := 6, cells := 1, slots := 6, locals := 90 }, [])
theorem d_FR_requirePlace_0 : decode m_FR_requirePlace.2.1 0 = .ok (.iload_n 0, 1) := by decide +kernel
theorem d_FR_requirePlace_1 : decode m_FR_requirePlace.2.1 1 = .ok (.ifCond .ge 14, 3) := by decide +kernel
theorem d_FR_requirePlace_4 : decode m_FR_requirePlace.2.1 4 = .ok (.new 92, 3) := by decide +kernel
theorem d_FR_requirePlace_7 : decode m_FR_requirePlace.2.1 7 = .ok (.dup, 1) := by decide +kernel
theorem d_FR_requirePlace_8 : decode m_FR_requirePlace.2.1 8 = .ok (.ldc_w 258, 3) := by decide +kernel
theorem d_FR_requirePlace_11 : decode m_FR_requirePlace.2.1 11 = .ok (.invokespecial 96, 3) := by decide +kernel
theorem d_FR_requirePlace_14 : decode m_FR_requirePlace.2.1 14 = .ok (.athrow, 1) := by decide +kernel
theorem d_FR_requirePlace_15 : decode m_FR_requirePlace.2.1 15 = .ok (.return_, 1) := by decide +kernel
theorem k_FR_requirePlace : fw_cal m_FR_requirePlace := ⟨by decide +kernel, by decide +kernel, (fw_t 1 (by decide +kernel)), Or.inl ⟨rfl, fw_t 572 (by decide +kernel)⟩⟩
abbrev m_FR_where : fw_M := (⟨"FolderRights", "where", "(III)I"⟩, prog_1_method_16_code, 9, (some .int), { frames := 7, cells := 3, slots := 18, locals := 123 }, [])
theorem d_FR_where_0 : decode m_FR_where.2.1 0 = .ok (.aload_n 0, 1) := by decide +kernel
theorem d_FR_where_1 : decode m_FR_where.2.1 1 = .ok (.iload_n 1, 1) := by decide +kernel
theorem d_FR_where_2 : decode m_FR_where.2.1 2 = .ok (.invokevirtual 67, 3) := by decide +kernel
theorem d_FR_where_5 : decode m_FR_where.2.1 5 = .ok (.iload_n 2, 1) := by decide +kernel
theorem d_FR_where_6 : decode m_FR_where.2.1 6 = .ok (.invokestatic 167, 3) := by decide +kernel
theorem d_FR_where_9 : decode m_FR_where.2.1 9 = .ok (.iload_n 3, 1) := by decide +kernel
theorem d_FR_where_10 : decode m_FR_where.2.1 10 = .ok (.invokestatic 193, 3) := by decide +kernel
theorem d_FR_where_13 : decode m_FR_where.2.1 13 = .ok (.iconst 0, 1) := by decide +kernel
theorem d_FR_where_14 : decode m_FR_where.2.1 14 = .ok (.istore 4, 2) := by decide +kernel
theorem d_FR_where_16 : decode m_FR_where.2.1 16 = .ok (.aload_n 0, 1) := by decide +kernel
theorem d_FR_where_17 : decode m_FR_where.2.1 17 = .ok (.getfield 18, 3) := by decide +kernel
theorem d_FR_where_20 : decode m_FR_where.2.1 20 = .ok (.astore 5, 2) := by decide +kernel
theorem d_FR_where_22 : decode m_FR_where.2.1 22 = .ok (.aload 5, 2) := by decide +kernel
theorem d_FR_where_24 : decode m_FR_where.2.1 24 = .ok (.arraylength, 1) := by decide +kernel
theorem d_FR_where_25 : decode m_FR_where.2.1 25 = .ok (.istore 6, 2) := by decide +kernel
theorem d_FR_where_27 : decode m_FR_where.2.1 27 = .ok (.iconst 0, 1) := by decide +kernel
theorem d_FR_where_28 : decode m_FR_where.2.1 28 = .ok (.istore 7, 2) := by decide +kernel
theorem d_FR_where_30 : decode m_FR_where.2.1 30 = .ok (.iload 7, 2) := by decide +kernel
theorem d_FR_where_32 : decode m_FR_where.2.1 32 = .ok (.iload 6, 2) := by decide +kernel
theorem d_FR_where_34 : decode m_FR_where.2.1 34 = .ok (.if_icmp .ge 56, 3) := by decide +kernel
theorem d_FR_where_37 : decode m_FR_where.2.1 37 = .ok (.aload 5, 2) := by decide +kernel
theorem d_FR_where_39 : decode m_FR_where.2.1 39 = .ok (.iload 7, 2) := by decide +kernel
theorem d_FR_where_41 : decode m_FR_where.2.1 41 = .ok (.aaload, 1) := by decide +kernel
theorem d_FR_where_42 : decode m_FR_where.2.1 42 = .ok (.astore 8, 2) := by decide +kernel
theorem d_FR_where_44 : decode m_FR_where.2.1 44 = .ok (.aload 8, 2) := by decide +kernel
theorem d_FR_where_46 : decode m_FR_where.2.1 46 = .ok (.ifnull 38, 3) := by decide +kernel
theorem d_FR_where_49 : decode m_FR_where.2.1 49 = .ok (.aload 8, 2) := by decide +kernel
theorem d_FR_where_51 : decode m_FR_where.2.1 51 = .ok (.iconst 0, 1) := by decide +kernel
theorem d_FR_where_52 : decode m_FR_where.2.1 52 = .ok (.putfield 110, 3) := by decide +kernel
theorem d_FR_where_55 : decode m_FR_where.2.1 55 = .ok (.aload_n 0, 1) := by decide +kernel
theorem d_FR_where_56 : decode m_FR_where.2.1 56 = .ok (.aload 8, 2) := by decide +kernel
theorem d_FR_where_58 : decode m_FR_where.2.1 58 = .ok (.iload_n 2, 1) := by decide +kernel
theorem d_FR_where_59 : decode m_FR_where.2.1 59 = .ok (.invokevirtual 159, 3) := by decide +kernel
theorem d_FR_where_62 : decode m_FR_where.2.1 62 = .ok (.iload_n 1, 1) := by decide +kernel
theorem d_FR_where_63 : decode m_FR_where.2.1 63 = .ok (.invokestatic 163, 3) := by decide +kernel
theorem d_FR_where_66 : decode m_FR_where.2.1 66 = .ok (.ifCond .eq 18, 3) := by decide +kernel
theorem d_FR_where_69 : decode m_FR_where.2.1 69 = .ok (.iload 4, 2) := by decide +kernel
theorem d_FR_where_71 : decode m_FR_where.2.1 71 = .ok (.iload_n 3, 1) := by decide +kernel
theorem d_FR_where_72 : decode m_FR_where.2.1 72 = .ok (.if_icmp .ne 9, 3) := by decide +kernel
theorem d_FR_where_75 : decode m_FR_where.2.1 75 = .ok (.aload 8, 2) := by decide +kernel
theorem d_FR_where_77 : decode m_FR_where.2.1 77 = .ok (.getfield 186, 3) := by decide +kernel
theorem d_FR_where_80 : decode m_FR_where.2.1 80 = .ok (.ireturn, 1) := by decide +kernel
theorem d_FR_where_81 : decode m_FR_where.2.1 81 = .ok (.iinc 4 1, 3) := by decide +kernel
theorem d_FR_where_84 : decode m_FR_where.2.1 84 = .ok (.iinc 7 1, 3) := by decide +kernel
theorem d_FR_where_87 : decode m_FR_where.2.1 87 = .ok (.goto (-57), 3) := by decide +kernel
theorem d_FR_where_90 : decode m_FR_where.2.1 90 = .ok (.iconst (-1), 1) := by decide +kernel
theorem d_FR_where_91 : decode m_FR_where.2.1 91 = .ok (.ireturn, 1) := by decide +kernel
theorem k_FR_where : fw_cal m_FR_where := ⟨by decide +kernel, by decide +kernel, (fw_t 1 (by decide +kernel)), Or.inl ⟨rfl, fw_t 580 (by decide +kernel)⟩⟩
abbrev m_FR_same : fw_M := (⟨"FolderRights", "same", "(II)Z"⟩, prog_1_method_17_code, 6, (some .boolean), { frames := 7, cells := 2, slots := 12, locals := 123 }, [])
theorem d_FR_same_0 : decode m_FR_same.2.1 0 = .ok (.aload_n 0, 1) := by decide +kernel
theorem d_FR_same_1 : decode m_FR_same.2.1 1 = .ok (.iload_n 1, 1) := by decide +kernel
theorem d_FR_same_2 : decode m_FR_same.2.1 2 = .ok (.invokevirtual 63, 3) := by decide +kernel
theorem d_FR_same_5 : decode m_FR_same.2.1 5 = .ok (.astore_n 3, 1) := by decide +kernel
theorem d_FR_same_6 : decode m_FR_same.2.1 6 = .ok (.aload_n 0, 1) := by decide +kernel
theorem d_FR_same_7 : decode m_FR_same.2.1 7 = .ok (.iload_n 2, 1) := by decide +kernel
theorem d_FR_same_8 : decode m_FR_same.2.1 8 = .ok (.invokevirtual 63, 3) := by decide +kernel
theorem d_FR_same_11 : decode m_FR_same.2.1 11 = .ok (.astore 4, 2) := by decide +kernel
theorem d_FR_same_13 : decode m_FR_same.2.1 13 = .ok (.aload_n 3, 1) := by decide +kernel
theorem d_FR_same_14 : decode m_FR_same.2.1 14 = .ok (.iconst 0, 1) := by decide +kernel
theorem d_FR_same_15 : decode m_FR_same.2.1 15 = .ok (.putfield 110, 3) := by decide +kernel
theorem d_FR_same_18 : decode m_FR_same.2.1 18 = .ok (.aload 4, 2) := by decide +kernel
theorem d_FR_same_20 : decode m_FR_same.2.1 20 = .ok (.iconst 0, 1) := by decide +kernel
theorem d_FR_same_21 : decode m_FR_same.2.1 21 = .ok (.putfield 110, 3) := by decide +kernel
theorem d_FR_same_24 : decode m_FR_same.2.1 24 = .ok (.iconst 0, 1) := by decide +kernel
theorem d_FR_same_25 : decode m_FR_same.2.1 25 = .ok (.istore 5, 2) := by decide +kernel
theorem d_FR_same_27 : decode m_FR_same.2.1 27 = .ok (.iload 5, 2) := by decide +kernel
theorem d_FR_same_29 : decode m_FR_same.2.1 29 = .ok (.bipush 8, 2) := by decide +kernel
theorem d_FR_same_31 : decode m_FR_same.2.1 31 = .ok (.if_icmp .ge 30, 3) := by decide +kernel
theorem d_FR_same_34 : decode m_FR_same.2.1 34 = .ok (.aload_n 0, 1) := by decide +kernel
theorem d_FR_same_35 : decode m_FR_same.2.1 35 = .ok (.aload_n 3, 1) := by decide +kernel
theorem d_FR_same_36 : decode m_FR_same.2.1 36 = .ok (.iload 5, 2) := by decide +kernel
theorem d_FR_same_38 : decode m_FR_same.2.1 38 = .ok (.invokevirtual 159, 3) := by decide +kernel
theorem d_FR_same_41 : decode m_FR_same.2.1 41 = .ok (.aload_n 0, 1) := by decide +kernel
theorem d_FR_same_42 : decode m_FR_same.2.1 42 = .ok (.aload 4, 2) := by decide +kernel
theorem d_FR_same_44 : decode m_FR_same.2.1 44 = .ok (.iload 5, 2) := by decide +kernel
theorem d_FR_same_46 : decode m_FR_same.2.1 46 = .ok (.invokevirtual 159, 3) := by decide +kernel
theorem d_FR_same_49 : decode m_FR_same.2.1 49 = .ok (.lcmp, 1) := by decide +kernel
theorem d_FR_same_50 : decode m_FR_same.2.1 50 = .ok (.ifCond .eq 5, 3) := by decide +kernel
theorem d_FR_same_53 : decode m_FR_same.2.1 53 = .ok (.iconst 0, 1) := by decide +kernel
theorem d_FR_same_54 : decode m_FR_same.2.1 54 = .ok (.ireturn, 1) := by decide +kernel
theorem d_FR_same_55 : decode m_FR_same.2.1 55 = .ok (.iinc 5 1, 3) := by decide +kernel
theorem d_FR_same_58 : decode m_FR_same.2.1 58 = .ok (.goto (-31), 3) := by decide +kernel
theorem d_FR_same_61 : decode m_FR_same.2.1 61 = .ok (.iconst 1, 1) := by decide +kernel
theorem d_FR_same_62 : decode m_FR_same.2.1 62 = .ok (.ireturn, 1) := by decide +kernel
theorem k_FR_same : fw_cal m_FR_same := ⟨by decide +kernel, by decide +kernel, (fw_t 1 (by decide +kernel)), Or.inl ⟨rfl, fw_t 587 (by decide +kernel)⟩⟩
abbrev m_FR_in : fw_M := (⟨"FolderRights", "in", "(II)Z"⟩, prog_1_method_20_code, 3, (some .boolean), { frames := 7, cells := 2, slots := 12, locals := 111 }, [])
theorem d_FR_in_0 : decode m_FR_in.2.1 0 = .ok (.aload_n 0, 1) := by decide +kernel
theorem d_FR_in_1 : decode m_FR_in.2.1 1 = .ok (.iload_n 1, 1) := by decide +kernel
theorem d_FR_in_2 : decode m_FR_in.2.1 2 = .ok (.invokevirtual 41, 3) := by decide +kernel
theorem d_FR_in_5 : decode m_FR_in.2.1 5 = .ok (.aload_n 0, 1) := by decide +kernel
theorem d_FR_in_6 : decode m_FR_in.2.1 6 = .ok (.iload_n 2, 1) := by decide +kernel
theorem d_FR_in_7 : decode m_FR_in.2.1 7 = .ok (.invokevirtual 67, 3) := by decide +kernel
theorem d_FR_in_10 : decode m_FR_in.2.1 10 = .ok (.aload_n 0, 1) := by decide +kernel
theorem d_FR_in_11 : decode m_FR_in.2.1 11 = .ok (.getfield 10, 3) := by decide +kernel
theorem d_FR_in_14 : decode m_FR_in.2.1 14 = .ok (.getfield 196, 3) := by decide +kernel
theorem d_FR_in_17 : decode m_FR_in.2.1 17 = .ok (.iload_n 1, 1) := by decide +kernel
theorem d_FR_in_18 : decode m_FR_in.2.1 18 = .ok (.laload, 1) := by decide +kernel
theorem d_FR_in_19 : decode m_FR_in.2.1 19 = .ok (.iload_n 2, 1) := by decide +kernel
theorem d_FR_in_20 : decode m_FR_in.2.1 20 = .ok (.invokestatic 163, 3) := by decide +kernel
theorem d_FR_in_23 : decode m_FR_in.2.1 23 = .ok (.ireturn, 1) := by decide +kernel
theorem k_FR_in : fw_cal m_FR_in := ⟨by decide +kernel, by decide +kernel, (fw_t 1 (by decide +kernel)), Or.inl ⟨rfl, fw_t 594 (by decide +kernel)⟩⟩
abbrev m_FR_about : fw_M := (⟨"FolderRights", "about", "(II)I"⟩, prog_1_method_21_code, 4, (some .int), { frames := 7, cells := 2, slots := 12, locals := 111 }, [])
theorem d_FR_about_0 : decode m_FR_about.2.1 0 = .ok (.aload_n 0, 1) := by decide +kernel
theorem d_FR_about_1 : decode m_FR_about.2.1 1 = .ok (.iload_n 1, 1) := by decide +kernel
theorem d_FR_about_2 : decode m_FR_about.2.1 2 = .ok (.invokevirtual 63, 3) := by decide +kernel
theorem d_FR_about_5 : decode m_FR_about.2.1 5 = .ok (.astore_n 3, 1) := by decide +kernel
theorem d_FR_about_6 : decode m_FR_about.2.1 6 = .ok (.iload_n 2, 1) := by decide +kernel
theorem d_FR_about_7 : decode m_FR_about.2.1 7 = .ok (.tableswitch 127 0 7 #[45, 64, 77, 82, 95, 100, 108, 114], 45) := by decide +kernel
theorem d_FR_about_52 : decode m_FR_about.2.1 52 = .ok (.aload_n 3, 1) := by decide +kernel
theorem d_FR_about_53 : decode m_FR_about.2.1 53 = .ok (.getfield 103, 3) := by decide +kernel
theorem d_FR_about_56 : decode m_FR_about.2.1 56 = .ok (.ifnonnull 7, 3) := by decide +kernel
theorem d_FR_about_59 : decode m_FR_about.2.1 59 = .ok (.iconst (-1), 1) := by decide +kernel
theorem d_FR_about_60 : decode m_FR_about.2.1 60 = .ok (.goto 10, 3) := by decide +kernel
theorem d_FR_about_63 : decode m_FR_about.2.1 63 = .ok (.aload_n 3, 1) := by decide +kernel
theorem d_FR_about_64 : decode m_FR_about.2.1 64 = .ok (.getfield 103, 3) := by decide +kernel
theorem d_FR_about_67 : decode m_FR_about.2.1 67 = .ok (.getfield 186, 3) := by decide +kernel
theorem d_FR_about_70 : decode m_FR_about.2.1 70 = .ok (.ireturn, 1) := by decide +kernel
theorem d_FR_about_71 : decode m_FR_about.2.1 71 = .ok (.aload_n 3, 1) := by decide +kernel
theorem d_FR_about_72 : decode m_FR_about.2.1 72 = .ok (.getfield 200, 3) := by decide +kernel
theorem d_FR_about_75 : decode m_FR_about.2.1 75 = .ok (.ifCond .eq 7, 3) := by decide +kernel
theorem d_FR_about_78 : decode m_FR_about.2.1 78 = .ok (.iconst 1, 1) := by decide +kernel
theorem d_FR_about_79 : decode m_FR_about.2.1 79 = .ok (.goto 4, 3) := by decide +kernel
theorem d_FR_about_82 : decode m_FR_about.2.1 82 = .ok (.iconst 0, 1) := by decide +kernel
theorem d_FR_about_83 : decode m_FR_about.2.1 83 = .ok (.ireturn, 1) := by decide +kernel
theorem d_FR_about_84 : decode m_FR_about.2.1 84 = .ok (.aload_n 3, 1) := by decide +kernel
theorem d_FR_about_85 : decode m_FR_about.2.1 85 = .ok (.getfield 156, 3) := by decide +kernel
theorem d_FR_about_88 : decode m_FR_about.2.1 88 = .ok (.ireturn, 1) := by decide +kernel
theorem d_FR_about_89 : decode m_FR_about.2.1 89 = .ok (.aload_n 3, 1) := by decide +kernel
theorem d_FR_about_90 : decode m_FR_about.2.1 90 = .ok (.getfield 153, 3) := by decide +kernel
theorem d_FR_about_93 : decode m_FR_about.2.1 93 = .ok (.ifCond .eq 7, 3) := by decide +kernel
theorem d_FR_about_96 : decode m_FR_about.2.1 96 = .ok (.iconst 1, 1) := by decide +kernel
theorem d_FR_about_97 : decode m_FR_about.2.1 97 = .ok (.goto 4, 3) := by decide +kernel
theorem d_FR_about_100 : decode m_FR_about.2.1 100 = .ok (.iconst 0, 1) := by decide +kernel
theorem d_FR_about_101 : decode m_FR_about.2.1 101 = .ok (.ireturn, 1) := by decide +kernel
theorem d_FR_about_102 : decode m_FR_about.2.1 102 = .ok (.aload_n 3, 1) := by decide +kernel
theorem d_FR_about_103 : decode m_FR_about.2.1 103 = .ok (.invokevirtual 80, 3) := by decide +kernel
theorem d_FR_about_106 : decode m_FR_about.2.1 106 = .ok (.ireturn, 1) := by decide +kernel
theorem d_FR_about_107 : decode m_FR_about.2.1 107 = .ok (.aload_n 3, 1) := by decide +kernel
theorem d_FR_about_108 : decode m_FR_about.2.1 108 = .ok (.getfield 119, 3) := by decide +kernel
theorem d_FR_about_111 : decode m_FR_about.2.1 111 = .ok (.invokevirtual 123, 3) := by decide +kernel
theorem d_FR_about_114 : decode m_FR_about.2.1 114 = .ok (.ireturn, 1) := by decide +kernel
theorem d_FR_about_115 : decode m_FR_about.2.1 115 = .ok (.aload_n 0, 1) := by decide +kernel
theorem d_FR_about_116 : decode m_FR_about.2.1 116 = .ok (.aload_n 3, 1) := by decide +kernel
theorem d_FR_about_117 : decode m_FR_about.2.1 117 = .ok (.invokevirtual 114, 3) := by decide +kernel
theorem d_FR_about_120 : decode m_FR_about.2.1 120 = .ok (.ireturn, 1) := by decide +kernel
theorem d_FR_about_121 : decode m_FR_about.2.1 121 = .ok (.aload_n 3, 1) := by decide +kernel
theorem d_FR_about_122 : decode m_FR_about.2.1 122 = .ok (.getfield 110, 3) := by decide +kernel
theorem d_FR_about_125 : decode m_FR_about.2.1 125 = .ok (.ifCond .eq 7, 3) := by decide +kernel
theorem d_FR_about_128 : decode m_FR_about.2.1 128 = .ok (.iconst 1, 1) := by decide +kernel
theorem d_FR_about_129 : decode m_FR_about.2.1 129 = .ok (.goto 4, 3) := by decide +kernel
theorem d_FR_about_132 : decode m_FR_about.2.1 132 = .ok (.iconst 0, 1) := by decide +kernel
theorem d_FR_about_133 : decode m_FR_about.2.1 133 = .ok (.ireturn, 1) := by decide +kernel
theorem d_FR_about_134 : decode m_FR_about.2.1 134 = .ok (.new 92, 3) := by decide +kernel
theorem d_FR_about_137 : decode m_FR_about.2.1 137 = .ok (.dup, 1) := by decide +kernel
theorem d_FR_about_138 : decode m_FR_about.2.1 138 = .ok (.ldc 203, 2) := by decide +kernel
theorem d_FR_about_140 : decode m_FR_about.2.1 140 = .ok (.invokespecial 96, 3) := by decide +kernel
theorem d_FR_about_143 : decode m_FR_about.2.1 143 = .ok (.athrow, 1) := by decide +kernel
theorem k_FR_about : fw_cal m_FR_about := ⟨by decide +kernel, by decide +kernel, (fw_t 1 (by decide +kernel)), Or.inl ⟨rfl, fw_t 601 (by decide +kernel)⟩⟩
abbrev m_FR_count : fw_M := (⟨"FolderRights", "count", "(I)I"⟩, prog_1_method_22_code, 2, (some .int), { frames := 6, cells := 1, slots := 6, locals := 90 }, [])
theorem d_FR_count_0 : decode m_FR_count.2.1 0 = .ok (.iload_n 1, 1) := by decide +kernel
theorem d_FR_count_1 : decode m_FR_count.2.1 1 = .ok (.tableswitch 66 0 4 #[35, 40, 48, 53, 58], 35) := by decide +kernel
theorem d_FR_count_36 : decode m_FR_count.2.1 36 = .ok (.aload_n 0, 1) := by decide +kernel
theorem d_FR_count_37 : decode m_FR_count.2.1 37 = .ok (.getfield 25, 3) := by decide +kernel
theorem d_FR_count_40 : decode m_FR_count.2.1 40 = .ok (.ireturn, 1) := by decide +kernel
theorem d_FR_count_41 : decode m_FR_count.2.1 41 = .ok (.aload_n 0, 1) := by decide +kernel
theorem d_FR_count_42 : decode m_FR_count.2.1 42 = .ok (.getfield 10, 3) := by decide +kernel
theorem d_FR_count_45 : decode m_FR_count.2.1 45 = .ok (.getfield 36, 3) := by decide +kernel
theorem d_FR_count_48 : decode m_FR_count.2.1 48 = .ok (.ireturn, 1) := by decide +kernel
theorem d_FR_count_49 : decode m_FR_count.2.1 49 = .ok (.aload_n 0, 1) := by decide +kernel
theorem d_FR_count_50 : decode m_FR_count.2.1 50 = .ok (.invokevirtual 205, 3) := by decide +kernel
theorem d_FR_count_53 : decode m_FR_count.2.1 53 = .ok (.ireturn, 1) := by decide +kernel
theorem d_FR_count_54 : decode m_FR_count.2.1 54 = .ok (.aload_n 0, 1) := by decide +kernel
theorem d_FR_count_55 : decode m_FR_count.2.1 55 = .ok (.invokevirtual 208, 3) := by decide +kernel
theorem d_FR_count_58 : decode m_FR_count.2.1 58 = .ok (.ireturn, 1) := by decide +kernel
theorem d_FR_count_59 : decode m_FR_count.2.1 59 = .ok (.aload_n 0, 1) := by decide +kernel
theorem d_FR_count_60 : decode m_FR_count.2.1 60 = .ok (.getfield 10, 3) := by decide +kernel
theorem d_FR_count_63 : decode m_FR_count.2.1 63 = .ok (.invokevirtual 211, 3) := by decide +kernel
theorem d_FR_count_66 : decode m_FR_count.2.1 66 = .ok (.ireturn, 1) := by decide +kernel
theorem d_FR_count_67 : decode m_FR_count.2.1 67 = .ok (.new 92, 3) := by decide +kernel
theorem d_FR_count_70 : decode m_FR_count.2.1 70 = .ok (.dup, 1) := by decide +kernel
theorem d_FR_count_71 : decode m_FR_count.2.1 71 = .ok (.ldc 214, 2) := by decide +kernel
theorem d_FR_count_73 : decode m_FR_count.2.1 73 = .ok (.invokespecial 96, 3) := by decide +kernel
theorem d_FR_count_76 : decode m_FR_count.2.1 76 = .ok (.athrow, 1) := by decide +kernel
theorem k_FR_count : fw_cal m_FR_count := ⟨by decide +kernel, by decide +kernel, (fw_t 1 (by decide +kernel)), Or.inl ⟨rfl, fw_t 609 (by decide +kernel)⟩⟩
abbrev m_FR_countNodes : fw_M := (⟨"FolderRights", "countNodes", "()I"⟩, prog_1_method_32_code, 6, (some .int), { frames := 0, cells := 0, slots := 0, locals := 0 }, [])
theorem d_FR_countNodes_0 : decode m_FR_countNodes.2.1 0 = .ok (.iconst 0, 1) := by decide +kernel
theorem d_FR_countNodes_1 : decode m_FR_countNodes.2.1 1 = .ok (.istore_n 1, 1) := by decide +kernel
theorem d_FR_countNodes_2 : decode m_FR_countNodes.2.1 2 = .ok (.aload_n 0, 1) := by decide +kernel
theorem d_FR_countNodes_3 : decode m_FR_countNodes.2.1 3 = .ok (.getfield 18, 3) := by decide +kernel
theorem d_FR_countNodes_6 : decode m_FR_countNodes.2.1 6 = .ok (.astore_n 2, 1) := by decide +kernel
theorem d_FR_countNodes_7 : decode m_FR_countNodes.2.1 7 = .ok (.aload_n 2, 1) := by decide +kernel
theorem d_FR_countNodes_8 : decode m_FR_countNodes.2.1 8 = .ok (.arraylength, 1) := by decide +kernel
theorem d_FR_countNodes_9 : decode m_FR_countNodes.2.1 9 = .ok (.istore_n 3, 1) := by decide +kernel
theorem d_FR_countNodes_10 : decode m_FR_countNodes.2.1 10 = .ok (.iconst 0, 1) := by decide +kernel
theorem d_FR_countNodes_11 : decode m_FR_countNodes.2.1 11 = .ok (.istore 4, 2) := by decide +kernel
theorem d_FR_countNodes_13 : decode m_FR_countNodes.2.1 13 = .ok (.iload 4, 2) := by decide +kernel
theorem d_FR_countNodes_15 : decode m_FR_countNodes.2.1 15 = .ok (.iload_n 3, 1) := by decide +kernel
theorem d_FR_countNodes_16 : decode m_FR_countNodes.2.1 16 = .ok (.if_icmp .ge 23, 3) := by decide +kernel
theorem d_FR_countNodes_19 : decode m_FR_countNodes.2.1 19 = .ok (.aload_n 2, 1) := by decide +kernel
theorem d_FR_countNodes_20 : decode m_FR_countNodes.2.1 20 = .ok (.iload 4, 2) := by decide +kernel
theorem d_FR_countNodes_22 : decode m_FR_countNodes.2.1 22 = .ok (.aaload, 1) := by decide +kernel
theorem d_FR_countNodes_23 : decode m_FR_countNodes.2.1 23 = .ok (.astore 5, 2) := by decide +kernel
theorem d_FR_countNodes_25 : decode m_FR_countNodes.2.1 25 = .ok (.aload 5, 2) := by decide +kernel
theorem d_FR_countNodes_27 : decode m_FR_countNodes.2.1 27 = .ok (.ifnull 6, 3) := by decide +kernel
theorem d_FR_countNodes_30 : decode m_FR_countNodes.2.1 30 = .ok (.iinc 1 1, 3) := by decide +kernel
theorem d_FR_countNodes_33 : decode m_FR_countNodes.2.1 33 = .ok (.iinc 4 1, 3) := by decide +kernel
theorem d_FR_countNodes_36 : decode m_FR_countNodes.2.1 36 = .ok (.goto (-23), 3) := by decide +kernel
theorem d_FR_countNodes_39 : decode m_FR_countNodes.2.1 39 = .ok (.iload_n 1, 1) := by decide +kernel
theorem d_FR_countNodes_40 : decode m_FR_countNodes.2.1 40 = .ok (.ireturn, 1) := by decide +kernel
theorem k_FR_countNodes : fw_cal m_FR_countNodes := ⟨by decide +kernel, by decide +kernel, (fw_t 1 (by decide +kernel)), Or.inl ⟨rfl, fw_t 613 (by decide +kernel)⟩⟩
abbrev m_FR_countEntries : fw_M := (⟨"FolderRights", "countEntries", "()I"⟩, prog_1_method_33_code, 6, (some .int), { frames := 1, cells := 0, slots := 0, locals := 20 }, [])
theorem d_FR_countEntries_0 : decode m_FR_countEntries.2.1 0 = .ok (.iconst 0, 1) := by decide +kernel
theorem d_FR_countEntries_1 : decode m_FR_countEntries.2.1 1 = .ok (.istore_n 1, 1) := by decide +kernel
theorem d_FR_countEntries_2 : decode m_FR_countEntries.2.1 2 = .ok (.aload_n 0, 1) := by decide +kernel
theorem d_FR_countEntries_3 : decode m_FR_countEntries.2.1 3 = .ok (.getfield 18, 3) := by decide +kernel
theorem d_FR_countEntries_6 : decode m_FR_countEntries.2.1 6 = .ok (.astore_n 2, 1) := by decide +kernel
theorem d_FR_countEntries_7 : decode m_FR_countEntries.2.1 7 = .ok (.aload_n 2, 1) := by decide +kernel
theorem d_FR_countEntries_8 : decode m_FR_countEntries.2.1 8 = .ok (.arraylength, 1) := by decide +kernel
theorem d_FR_countEntries_9 : decode m_FR_countEntries.2.1 9 = .ok (.istore_n 3, 1) := by decide +kernel
theorem d_FR_countEntries_10 : decode m_FR_countEntries.2.1 10 = .ok (.iconst 0, 1) := by decide +kernel
theorem d_FR_countEntries_11 : decode m_FR_countEntries.2.1 11 = .ok (.istore 4, 2) := by decide +kernel
theorem d_FR_countEntries_13 : decode m_FR_countEntries.2.1 13 = .ok (.iload 4, 2) := by decide +kernel
theorem d_FR_countEntries_15 : decode m_FR_countEntries.2.1 15 = .ok (.iload_n 3, 1) := by decide +kernel
theorem d_FR_countEntries_16 : decode m_FR_countEntries.2.1 16 = .ok (.if_icmp .ge 31, 3) := by decide +kernel
theorem d_FR_countEntries_19 : decode m_FR_countEntries.2.1 19 = .ok (.aload_n 2, 1) := by decide +kernel
theorem d_FR_countEntries_20 : decode m_FR_countEntries.2.1 20 = .ok (.iload 4, 2) := by decide +kernel
theorem d_FR_countEntries_22 : decode m_FR_countEntries.2.1 22 = .ok (.aaload, 1) := by decide +kernel
theorem d_FR_countEntries_23 : decode m_FR_countEntries.2.1 23 = .ok (.astore 5, 2) := by decide +kernel
theorem d_FR_countEntries_25 : decode m_FR_countEntries.2.1 25 = .ok (.aload 5, 2) := by decide +kernel
theorem d_FR_countEntries_27 : decode m_FR_countEntries.2.1 27 = .ok (.ifnull 14, 3) := by decide +kernel
theorem d_FR_countEntries_30 : decode m_FR_countEntries.2.1 30 = .ok (.iload_n 1, 1) := by decide +kernel
theorem d_FR_countEntries_31 : decode m_FR_countEntries.2.1 31 = .ok (.aload 5, 2) := by decide +kernel
theorem d_FR_countEntries_33 : decode m_FR_countEntries.2.1 33 = .ok (.getfield 119, 3) := by decide +kernel
theorem d_FR_countEntries_36 : decode m_FR_countEntries.2.1 36 = .ok (.invokevirtual 123, 3) := by decide +kernel
theorem d_FR_countEntries_39 : decode m_FR_countEntries.2.1 39 = .ok (.iadd, 1) := by decide +kernel
theorem d_FR_countEntries_40 : decode m_FR_countEntries.2.1 40 = .ok (.istore_n 1, 1) := by decide +kernel
theorem d_FR_countEntries_41 : decode m_FR_countEntries.2.1 41 = .ok (.iinc 4 1, 3) := by decide +kernel
theorem d_FR_countEntries_44 : decode m_FR_countEntries.2.1 44 = .ok (.goto (-31), 3) := by decide +kernel
theorem d_FR_countEntries_47 : decode m_FR_countEntries.2.1 47 = .ok (.iload_n 1, 1) := by decide +kernel
theorem d_FR_countEntries_48 : decode m_FR_countEntries.2.1 48 = .ok (.ireturn, 1) := by decide +kernel
theorem k_FR_countEntries : fw_cal m_FR_countEntries := ⟨by decide +kernel, by decide +kernel, (fw_t 1 (by decide +kernel)), Or.inl ⟨rfl, fw_t 617 (by decide +kernel)⟩⟩
abbrev m_GR_countMembers : fw_M := (⟨"FolderRights$Groups", "countMembers", "()I"⟩, prog_3_method_5_code, 3, (some .int), { frames := 1, cells := 0, slots := 0, locals := 21 }, [])
theorem d_GR_countMembers_0 : decode m_GR_countMembers.2.1 0 = .ok (.iconst 0, 1) := by decide +kernel
theorem d_GR_countMembers_1 : decode m_GR_countMembers.2.1 1 = .ok (.istore_n 1, 1) := by decide +kernel
theorem d_GR_countMembers_2 : decode m_GR_countMembers.2.1 2 = .ok (.iconst 0, 1) := by decide +kernel
theorem d_GR_countMembers_3 : decode m_GR_countMembers.2.1 3 = .ok (.istore_n 2, 1) := by decide +kernel
theorem d_GR_countMembers_4 : decode m_GR_countMembers.2.1 4 = .ok (.iload_n 2, 1) := by decide +kernel
theorem d_GR_countMembers_5 : decode m_GR_countMembers.2.1 5 = .ok (.aload_n 0, 1) := by decide +kernel
theorem d_GR_countMembers_6 : decode m_GR_countMembers.2.1 6 = .ok (.getfield 34, 3) := by decide +kernel
theorem d_GR_countMembers_9 : decode m_GR_countMembers.2.1 9 = .ok (.if_icmp .ge 31, 3) := by decide +kernel
theorem d_GR_countMembers_12 : decode m_GR_countMembers.2.1 12 = .ok (.iload_n 1, 1) := by decide +kernel
theorem d_GR_countMembers_13 : decode m_GR_countMembers.2.1 13 = .ok (.aload_n 0, 1) := by decide +kernel
theorem d_GR_countMembers_14 : decode m_GR_countMembers.2.1 14 = .ok (.getfield 9, 3) := by decide +kernel
theorem d_GR_countMembers_17 : decode m_GR_countMembers.2.1 17 = .ok (.iload_n 2, 1) := by decide +kernel
theorem d_GR_countMembers_18 : decode m_GR_countMembers.2.1 18 = .ok (.laload, 1) := by decide +kernel
theorem d_GR_countMembers_19 : decode m_GR_countMembers.2.1 19 = .ok (.invokestatic 38, 3) := by decide +kernel
theorem d_GR_countMembers_22 : decode m_GR_countMembers.2.1 22 = .ok (.aload_n 0, 1) := by decide +kernel
theorem d_GR_countMembers_23 : decode m_GR_countMembers.2.1 23 = .ok (.getfield 15, 3) := by decide +kernel
theorem d_GR_countMembers_26 : decode m_GR_countMembers.2.1 26 = .ok (.iload_n 2, 1) := by decide +kernel
theorem d_GR_countMembers_27 : decode m_GR_countMembers.2.1 27 = .ok (.laload, 1) := by decide +kernel
theorem d_GR_countMembers_28 : decode m_GR_countMembers.2.1 28 = .ok (.invokestatic 38, 3) := by decide +kernel
theorem d_GR_countMembers_31 : decode m_GR_countMembers.2.1 31 = .ok (.iadd, 1) := by decide +kernel
theorem d_GR_countMembers_32 : decode m_GR_countMembers.2.1 32 = .ok (.iadd, 1) := by decide +kernel
theorem d_GR_countMembers_33 : decode m_GR_countMembers.2.1 33 = .ok (.istore_n 1, 1) := by decide +kernel
theorem d_GR_countMembers_34 : decode m_GR_countMembers.2.1 34 = .ok (.iinc 2 1, 3) := by decide +kernel
theorem d_GR_countMembers_37 : decode m_GR_countMembers.2.1 37 = .ok (.goto (-33), 3) := by decide +kernel
theorem d_GR_countMembers_40 : decode m_GR_countMembers.2.1 40 = .ok (.iload_n 1, 1) := by decide +kernel
theorem d_GR_countMembers_41 : decode m_GR_countMembers.2.1 41 = .ok (.ireturn, 1) := by decide +kernel
theorem k_GR_countMembers : fw_cal m_GR_countMembers := ⟨by decide +kernel, by decide +kernel, (fw_t 2 (by decide +kernel)), Or.inl ⟨rfl, fw_t 621 (by decide +kernel)⟩⟩
abbrev m_LO_bitCount : fw_M := (⟨"java/lang/Long", "bitCount", "(J)I"⟩, prog_13_method_50_code, 2, (some .int), { frames := 0, cells := 0, slots := 0, locals := 0 }, [])
theorem d_LO_bitCount_0 : decode m_LO_bitCount.2.1 0 = .ok (.lload_n 0, 1) := by decide +kernel
theorem d_LO_bitCount_1 : decode m_LO_bitCount.2.1 1 = .ok (.lload_n 0, 1) := by decide +kernel
theorem d_LO_bitCount_2 : decode m_LO_bitCount.2.1 2 = .ok (.iconst 1, 1) := by decide +kernel
theorem d_LO_bitCount_3 : decode m_LO_bitCount.2.1 3 = .ok (.lushr, 1) := by decide +kernel
theorem d_LO_bitCount_4 : decode m_LO_bitCount.2.1 4 = .ok (.ldc2_w 314, 3) := by decide +kernel
theorem d_LO_bitCount_7 : decode m_LO_bitCount.2.1 7 = .ok (.land, 1) := by decide +kernel
theorem d_LO_bitCount_8 : decode m_LO_bitCount.2.1 8 = .ok (.lsub, 1) := by decide +kernel
theorem d_LO_bitCount_9 : decode m_LO_bitCount.2.1 9 = .ok (.lstore_n 0, 1) := by decide +kernel
theorem d_LO_bitCount_10 : decode m_LO_bitCount.2.1 10 = .ok (.lload_n 0, 1) := by decide +kernel
theorem d_LO_bitCount_11 : decode m_LO_bitCount.2.1 11 = .ok (.ldc2_w 316, 3) := by decide +kernel
theorem d_LO_bitCount_14 : decode m_LO_bitCount.2.1 14 = .ok (.land, 1) := by decide +kernel
theorem d_LO_bitCount_15 : decode m_LO_bitCount.2.1 15 = .ok (.lload_n 0, 1) := by decide +kernel
theorem d_LO_bitCount_16 : decode m_LO_bitCount.2.1 16 = .ok (.iconst 2, 1) := by decide +kernel
theorem d_LO_bitCount_17 : decode m_LO_bitCount.2.1 17 = .ok (.lushr, 1) := by decide +kernel
theorem d_LO_bitCount_18 : decode m_LO_bitCount.2.1 18 = .ok (.ldc2_w 316, 3) := by decide +kernel
theorem d_LO_bitCount_21 : decode m_LO_bitCount.2.1 21 = .ok (.land, 1) := by decide +kernel
theorem d_LO_bitCount_22 : decode m_LO_bitCount.2.1 22 = .ok (.ladd, 1) := by decide +kernel
theorem d_LO_bitCount_23 : decode m_LO_bitCount.2.1 23 = .ok (.lstore_n 0, 1) := by decide +kernel
theorem d_LO_bitCount_24 : decode m_LO_bitCount.2.1 24 = .ok (.lload_n 0, 1) := by decide +kernel
theorem d_LO_bitCount_25 : decode m_LO_bitCount.2.1 25 = .ok (.lload_n 0, 1) := by decide +kernel
theorem d_LO_bitCount_26 : decode m_LO_bitCount.2.1 26 = .ok (.iconst 4, 1) := by decide +kernel
theorem d_LO_bitCount_27 : decode m_LO_bitCount.2.1 27 = .ok (.lushr, 1) := by decide +kernel
theorem d_LO_bitCount_28 : decode m_LO_bitCount.2.1 28 = .ok (.ladd, 1) := by decide +kernel
theorem d_LO_bitCount_29 : decode m_LO_bitCount.2.1 29 = .ok (.ldc2_w 318, 3) := by decide +kernel
theorem d_LO_bitCount_32 : decode m_LO_bitCount.2.1 32 = .ok (.land, 1) := by decide +kernel
theorem d_LO_bitCount_33 : decode m_LO_bitCount.2.1 33 = .ok (.lstore_n 0, 1) := by decide +kernel
theorem d_LO_bitCount_34 : decode m_LO_bitCount.2.1 34 = .ok (.lload_n 0, 1) := by decide +kernel
theorem d_LO_bitCount_35 : decode m_LO_bitCount.2.1 35 = .ok (.lload_n 0, 1) := by decide +kernel
theorem d_LO_bitCount_36 : decode m_LO_bitCount.2.1 36 = .ok (.bipush 8, 2) := by decide +kernel
theorem d_LO_bitCount_38 : decode m_LO_bitCount.2.1 38 = .ok (.lushr, 1) := by decide +kernel
theorem d_LO_bitCount_39 : decode m_LO_bitCount.2.1 39 = .ok (.ladd, 1) := by decide +kernel
theorem d_LO_bitCount_40 : decode m_LO_bitCount.2.1 40 = .ok (.lstore_n 0, 1) := by decide +kernel
theorem d_LO_bitCount_41 : decode m_LO_bitCount.2.1 41 = .ok (.lload_n 0, 1) := by decide +kernel
theorem d_LO_bitCount_42 : decode m_LO_bitCount.2.1 42 = .ok (.lload_n 0, 1) := by decide +kernel
theorem d_LO_bitCount_43 : decode m_LO_bitCount.2.1 43 = .ok (.bipush 16, 2) := by decide +kernel
theorem d_LO_bitCount_45 : decode m_LO_bitCount.2.1 45 = .ok (.lushr, 1) := by decide +kernel
theorem d_LO_bitCount_46 : decode m_LO_bitCount.2.1 46 = .ok (.ladd, 1) := by decide +kernel
theorem d_LO_bitCount_47 : decode m_LO_bitCount.2.1 47 = .ok (.lstore_n 0, 1) := by decide +kernel
theorem d_LO_bitCount_48 : decode m_LO_bitCount.2.1 48 = .ok (.lload_n 0, 1) := by decide +kernel
theorem d_LO_bitCount_49 : decode m_LO_bitCount.2.1 49 = .ok (.lload_n 0, 1) := by decide +kernel
theorem d_LO_bitCount_50 : decode m_LO_bitCount.2.1 50 = .ok (.bipush 32, 2) := by decide +kernel
theorem d_LO_bitCount_52 : decode m_LO_bitCount.2.1 52 = .ok (.lushr, 1) := by decide +kernel
theorem d_LO_bitCount_53 : decode m_LO_bitCount.2.1 53 = .ok (.ladd, 1) := by decide +kernel
theorem d_LO_bitCount_54 : decode m_LO_bitCount.2.1 54 = .ok (.lstore_n 0, 1) := by decide +kernel
theorem d_LO_bitCount_55 : decode m_LO_bitCount.2.1 55 = .ok (.lload_n 0, 1) := by decide +kernel
theorem d_LO_bitCount_56 : decode m_LO_bitCount.2.1 56 = .ok (.l2i, 1) := by decide +kernel
theorem d_LO_bitCount_57 : decode m_LO_bitCount.2.1 57 = .ok (.bipush 127, 2) := by decide +kernel
theorem d_LO_bitCount_59 : decode m_LO_bitCount.2.1 59 = .ok (.iand, 1) := by decide +kernel
theorem d_LO_bitCount_60 : decode m_LO_bitCount.2.1 60 = .ok (.ireturn, 1) := by decide +kernel
theorem k_LO_bitCount : fw_cal m_LO_bitCount := ⟨by decide +kernel, by decide +kernel, (fw_t 21 (by decide +kernel)), Or.inl ⟨rfl, fw_t 624 (by decide +kernel)⟩⟩
theorem fg_FR_110 : fw_fld "FolderRights" 110 2 6 := ⟨_, _, _, "FolderRights$Node", rfl, by decide, fw_i2, Or.inl rfl, Or.inl (fw_t 103 (by decide +kernel))⟩
theorem fp_FR_step_110 : fw_fpt m_FR_step 110 2 6 .boolean := ⟨_, _, _, "FolderRights$Node", rfl, by decide, fw_i2, Or.inl rfl, ⟨fw_y2, fw_k2⟩, fw_n2, by decide +kernel, Or.inl ⟨rfl, Or.inl (fw_t 103 (by decide +kernel))⟩⟩
theorem fg_FR_186 : fw_fld "FolderRights" 186 2 0 := ⟨_, _, _, "FolderRights$Node", rfl, by decide, fw_i2, Or.inl rfl, Or.inl (fw_t 89 (by decide +kernel))⟩
theorem fg_FR_25 : fw_fld "FolderRights" 25 0 2 := ⟨_, _, _, "FolderRights", rfl, by decide, fw_i0, Or.inl rfl, Or.inl (fw_t 121 (by decide +kernel))⟩
theorem fp_FR_user_25 : fw_fpt m_FR_user 25 0 2 .int := ⟨_, _, _, "FolderRights", rfl, by decide, fw_i0, Or.inl rfl, ⟨fw_y0, fw_k0⟩, fw_n0, by decide +kernel, Or.inl ⟨rfl, Or.inl (fw_t 121 (by decide +kernel))⟩⟩
theorem fg_FR_10 : fw_fld "FolderRights" 10 0 0 := ⟨_, _, _, "FolderRights", rfl, by decide, fw_i0, Or.inl rfl, Or.inl (fw_t 119 (by decide +kernel))⟩
theorem fg_FR_36 : fw_fld "FolderRights" 36 1 0 := ⟨_, _, _, "FolderRights$Groups", rfl, by decide, fw_i1, Or.inl rfl, Or.inl (fw_t 36 (by decide +kernel))⟩
theorem fp_FR_group_36 : fw_fpt m_FR_group 36 1 0 .int := ⟨_, _, _, "FolderRights$Groups", rfl, by decide, fw_i1, Or.inl rfl, ⟨fw_y1, fw_k1⟩, fw_n1, by decide +kernel, Or.inl ⟨rfl, Or.inl (fw_t 36 (by decide +kernel))⟩⟩
theorem vc_FR_41 : fw_vc "FolderRights" 41 0 m_FR_requireGroup 1 := ⟨k_FR_requireGroup, Or.inl (fw_t 229 (by decide +kernel)), (fw_t 231 (by decide +kernel)), ⟨_, _, _, rfl, (fw_p 1 (by decide +kernel))⟩, by unfold fw_np; decide +kernel⟩
theorem vc_FR_45 : fw_vc "FolderRights" 45 0 m_FR_requireUserOrGroup 2 := ⟨k_FR_requireUserOrGroup, Or.inl (fw_t 249 (by decide +kernel)), (fw_t 251 (by decide +kernel)), ⟨_, _, _, rfl, (fw_p 2 (by decide +kernel))⟩, by unfold fw_np; decide +kernel⟩
theorem vc_FR_49 : fw_vc "FolderRights" 49 1 m_GR_wouldHoldItself 2 := ⟨k_GR_wouldHoldItself, Or.inl (fw_t 258 (by decide +kernel)), (fw_t 259 (by decide +kernel)), ⟨_, _, _, rfl, (fw_t 260 (by decide +kernel))⟩, by unfold fw_np; decide +kernel⟩
theorem vc_FR_55 : fw_vc "FolderRights" 55 1 m_GR_hasMember 3 := ⟨k_GR_hasMember, Or.inl (fw_t 266 (by decide +kernel)), (fw_t 267 (by decide +kernel)), ⟨_, _, _, rfl, (fw_t 268 (by decide +kernel))⟩, by unfold fw_np; decide +kernel⟩
theorem vc_FR_59 : fw_vc "FolderRights" 59 1 m_GR_turnMember 3 := ⟨k_GR_turnMember, Or.inl (fw_t 270 (by decide +kernel)), (fw_t 271 (by decide +kernel)), ⟨_, _, _, rfl, (fw_t 272 (by decide +kernel))⟩, by unfold fw_np; decide +kernel⟩
theorem vc_FR_67 : fw_vc "FolderRights" 67 0 m_FR_requireUser 1 := ⟨k_FR_requireUser, Or.inl (fw_t 253 (by decide +kernel)), (fw_t 255 (by decide +kernel)), ⟨_, _, _, rfl, (fw_p 3 (by decide +kernel))⟩, by unfold fw_np; decide +kernel⟩
theorem vc_FR_63 : fw_vc "FolderRights" 63 0 m_FR_nodeAt 1 := ⟨k_FR_nodeAt, Or.inl (fw_t 297 (by decide +kernel)), (fw_t 299 (by decide +kernel)), ⟨_, _, _, rfl, (fw_p 6 (by decide +kernel))⟩, by unfold fw_np; decide +kernel⟩
theorem lk_FR_70 : fw_lk "FolderRights" 70 ⟨"FolderRights", "requireFolder", "(LFolderRights$Node;)V"⟩ := Or.inl (fw_t 302 (by decide +kernel))
theorem np_FR_requireFolder : fw_np ⟨"FolderRights", "requireFolder", "(LFolderRights$Node;)V"⟩ 1 := by unfold fw_np; decide +kernel
theorem sc_FR_requireFolder : Cond.static ⟨"FolderRights", "requireFolder", "(LFolderRights$Node;)V"⟩ ∈ lw_tbl := (fw_t 303 (by decide +kernel))
theorem vc_FR_74 : fw_vc "FolderRights" 74 0 m_FR_freeNumber 0 := ⟨k_FR_freeNumber, Or.inl (fw_t 321 (by decide +kernel)), (fw_t 323 (by decide +kernel)), ⟨_, _, _, rfl, (fw_p 7 (by decide +kernel))⟩, by unfold fw_np; decide +kernel⟩
theorem vc_FR_80 : fw_vc "FolderRights" 80 2 m_ND_depth 0 := ⟨k_ND_depth, Or.inl (fw_t 326 (by decide +kernel)), (fw_t 327 (by decide +kernel)), ⟨_, _, _, rfl, (fw_t 328 (by decide +kernel))⟩, by unfold fw_np; decide +kernel⟩
theorem fg_FR_200 : fw_fld "FolderRights" 200 2 1 := ⟨_, _, _, "FolderRights$Node", rfl, by decide, fw_i2, Or.inl rfl, Or.inl (fw_t 92 (by decide +kernel))⟩
theorem lk_FR_85 : fw_lk "FolderRights" 85 ⟨"FolderRights", "requireNotRoot", "(LFolderRights$Node;)V"⟩ := Or.inl (fw_t 338 (by decide +kernel))
theorem np_FR_requireNotRoot : fw_np ⟨"FolderRights", "requireNotRoot", "(LFolderRights$Node;)V"⟩ 1 := by unfold fw_np; decide +kernel
theorem sc_FR_requireNotRoot : Cond.static ⟨"FolderRights", "requireNotRoot", "(LFolderRights$Node;)V"⟩ ∈ lw_tbl := (fw_t 339 (by decide +kernel))
theorem vc_FR_88 : fw_vc "FolderRights" 88 2 m_ND_liesWithin 1 := ⟨k_ND_liesWithin, Or.inl (fw_t 342 (by decide +kernel)), (fw_t 343 (by decide +kernel)), ⟨_, _, _, rfl, (fw_t 344 (by decide +kernel))⟩, by unfold fw_np; decide +kernel⟩
theorem vc_FR_97 : fw_vc "FolderRights" 97 0 m_FR_heightOf 1 := ⟨k_FR_heightOf, Or.inl (fw_t 347 (by decide +kernel)), (fw_t 349 (by decide +kernel)), ⟨_, _, _, rfl, (fw_p 8 (by decide +kernel))⟩, by unfold fw_np; decide +kernel⟩
theorem fp_FR_move_103 : fw_fpt m_FR_move 103 2 3 (.object "FolderRights$Node") := ⟨_, _, _, "FolderRights$Node", rfl, by decide, fw_i2, Or.inl rfl, ⟨fw_y2, fw_k2⟩, fw_n2, by decide +kernel, Or.inl ⟨rfl, Or.inl (fw_t 97 (by decide +kernel))⟩⟩
theorem vc_FR_107 : fw_vc "FolderRights" 107 0 m_FR_markStaleBelow 1 := ⟨k_FR_markStaleBelow, Or.inl (fw_t 355 (by decide +kernel)), (fw_t 357 (by decide +kernel)), ⟨_, _, _, rfl, (fw_p 9 (by decide +kernel))⟩, by unfold fw_np; decide +kernel⟩
theorem fp_FR_move_110 : fw_fpt m_FR_move 110 2 6 .boolean := ⟨_, _, _, "FolderRights$Node", rfl, by decide, fw_i2, Or.inl rfl, ⟨fw_y2, fw_k2⟩, fw_n2, by decide +kernel, Or.inl ⟨rfl, Or.inl (fw_t 103 (by decide +kernel))⟩⟩
theorem fg_FR_103 : fw_fld "FolderRights" 103 2 3 := ⟨_, _, _, "FolderRights$Node", rfl, by decide, fw_i2, Or.inl rfl, Or.inl (fw_t 97 (by decide +kernel))⟩
theorem lk_FR_240 : fw_lk "FolderRights" 240 ⟨"java/lang/Math", "max", "(II)I"⟩ := Or.inl (fw_t 351 (by decide +kernel))
theorem fp_FR_markStaleBelow_110 : fw_fpt m_FR_markStaleBelow 110 2 6 .boolean := ⟨_, _, _, "FolderRights$Node", rfl, by decide, fw_i2, Or.inl rfl, ⟨fw_y2, fw_k2⟩, fw_n2, by decide +kernel, Or.inl ⟨rfl, Or.inl (fw_t 103 (by decide +kernel))⟩⟩
theorem vc_FR_114 : fw_vc "FolderRights" 114 0 m_FR_childrenOf 1 := ⟨k_FR_childrenOf, Or.inl (fw_t 366 (by decide +kernel)), (fw_t 368 (by decide +kernel)), ⟨_, _, _, rfl, (fw_p 10 (by decide +kernel))⟩, by unfold fw_np; decide +kernel⟩
theorem fg_FR_119 : fw_fld "FolderRights" 119 2 2 := ⟨_, _, _, "FolderRights$Node", rfl, by decide, fw_i2, Or.inl rfl, Or.inl (fw_t 94 (by decide +kernel))⟩
theorem vc_FR_123 : fw_vc "FolderRights" 123 4 m_AL_size 0 := ⟨k_AL_size, Or.inl (fw_t 371 (by decide +kernel)), (fw_t 372 (by decide +kernel)), ⟨_, _, _, rfl, (fw_t 373 (by decide +kernel))⟩, by unfold fw_np; decide +kernel⟩
theorem lk_FR_137 : fw_lk "FolderRights" 137 ⟨"FolderRights$Entry", "<init>", "(ZIZII)V"⟩ := Or.inl (fw_t 388 (by decide +kernel))
theorem np_EN_init : fw_np ⟨"FolderRights$Entry", "<init>", "(ZIZII)V"⟩ 5 := by unfold fw_np; decide +kernel
theorem im_EN_init : Cond.instanceMethod ⟨"FolderRights$Entry", "<init>", "(ZIZII)V"⟩ ∈ lw_tbl := (fw_t 389 (by decide +kernel))
theorem vc_FR_140 : fw_vc "FolderRights" 140 4 m_AL_add 2 := ⟨k_AL_add, Or.inl (fw_t 411 (by decide +kernel)), (fw_t 412 (by decide +kernel)), ⟨_, _, _, rfl, (fw_t 413 (by decide +kernel))⟩, by unfold fw_np; decide +kernel⟩
theorem vc_FR_149 : fw_vc "FolderRights" 149 4 m_AL_remove 1 := ⟨k_AL_remove, Or.inl (fw_t 474 (by decide +kernel)), (fw_t 475 (by decide +kernel)), ⟨_, _, _, rfl, (fw_t 476 (by decide +kernel))⟩, by unfold fw_np; decide +kernel⟩
theorem fg_FR_153 : fw_fld "FolderRights" 153 2 5 := ⟨_, _, _, "FolderRights$Node", rfl, by decide, fw_i2, Or.inl rfl, Or.inl (fw_t 101 (by decide +kernel))⟩
theorem fp_FR_block_153 : fw_fpt m_FR_block 153 2 5 .boolean := ⟨_, _, _, "FolderRights$Node", rfl, by decide, fw_i2, Or.inl rfl, ⟨fw_y2, fw_k2⟩, fw_n2, by decide +kernel, Or.inl ⟨rfl, Or.inl (fw_t 101 (by decide +kernel))⟩⟩
theorem fp_FR_block_110 : fw_fpt m_FR_block 110 2 6 .boolean := ⟨_, _, _, "FolderRights$Node", rfl, by decide, fw_i2, Or.inl rfl, ⟨fw_y2, fw_k2⟩, fw_n2, by decide +kernel, Or.inl ⟨rfl, Or.inl (fw_t 103 (by decide +kernel))⟩⟩
theorem fg_FR_156 : fw_fld "FolderRights" 156 2 4 := ⟨_, _, _, "FolderRights$Node", rfl, by decide, fw_i2, Or.inl rfl, Or.inl (fw_t 99 (by decide +kernel))⟩
theorem fp_FR_owner_156 : fw_fpt m_FR_owner 156 2 4 .int := ⟨_, _, _, "FolderRights$Node", rfl, by decide, fw_i2, Or.inl rfl, ⟨fw_y2, fw_k2⟩, fw_n2, by decide +kernel, Or.inl ⟨rfl, Or.inl (fw_t 99 (by decide +kernel))⟩⟩
theorem fp_FR_rights_110 : fw_fpt m_FR_rights 110 2 6 .boolean := ⟨_, _, _, "FolderRights$Node", rfl, by decide, fw_i2, Or.inl rfl, ⟨fw_y2, fw_k2⟩, fw_n2, by decide +kernel, Or.inl ⟨rfl, Or.inl (fw_t 103 (by decide +kernel))⟩⟩
theorem vc_FR_159 : fw_vc "FolderRights" 159 0 m_FR_holders 2 := ⟨k_FR_holders, Or.inl (fw_t 509 (by decide +kernel)), (fw_t 511 (by decide +kernel)), ⟨_, _, _, rfl, (fw_p 15 (by decide +kernel))⟩, by unfold fw_np; decide +kernel⟩
theorem lk_FR_163 : fw_lk "FolderRights" 163 ⟨"FolderRights", "isSet", "(JI)Z"⟩ := Or.inl (fw_t 543 (by decide +kernel))
theorem vc_FR_216 : fw_vc "FolderRights" 216 0 m_FR_hitUsers 4 := ⟨k_FR_hitUsers, Or.inl (fw_t 513 (by decide +kernel)), (fw_t 515 (by decide +kernel)), ⟨_, _, _, rfl, (fw_p 16 (by decide +kernel))⟩, by unfold fw_np; decide +kernel⟩
theorem vc_FR_189 : fw_vc "FolderRights" 189 2 m_ND_nextLevel 0 := ⟨k_ND_nextLevel, Or.inl (fw_t 539 (by decide +kernel)), (fw_t 540 (by decide +kernel)), ⟨_, _, _, rfl, (fw_t 541 (by decide +kernel))⟩, by unfold fw_np; decide +kernel⟩
theorem vc_FR_180 : fw_vc "FolderRights" 180 4 m_AL_get 1 := ⟨k_AL_get, Or.inl (fw_t 517 (by decide +kernel)), (fw_t 518 (by decide +kernel)), ⟨_, _, _, rfl, (fw_t 519 (by decide +kernel))⟩, by unfold fw_np; decide +kernel⟩
theorem fg_FR_183 : fw_fld "FolderRights" 183 3 0 := ⟨_, _, _, "FolderRights$Entry", rfl, by decide, fw_i3, Or.inl rfl, Or.inl (fw_t 393 (by decide +kernel))⟩
theorem vc_FR_222 : fw_vc "FolderRights" 222 3 m_EN_gives 1 := ⟨k_EN_gives, Or.inl (fw_t 525 (by decide +kernel)), (fw_t 526 (by decide +kernel)), ⟨_, _, _, rfl, (fw_t 527 (by decide +kernel))⟩, by unfold fw_np; decide +kernel⟩
theorem vc_FR_226 : fw_vc "FolderRights" 226 3 m_EN_reaches 2 := ⟨k_EN_reaches, Or.inl (fw_t 530 (by decide +kernel)), (fw_t 531 (by decide +kernel)), ⟨_, _, _, rfl, (fw_t 532 (by decide +kernel))⟩, by unfold fw_np; decide +kernel⟩
theorem vc_FR_230 : fw_vc "FolderRights" 230 0 m_FR_namedUsers 1 := ⟨k_FR_namedUsers, Or.inl (fw_t 534 (by decide +kernel)), (fw_t 536 (by decide +kernel)), ⟨_, _, _, rfl, (fw_p 17 (by decide +kernel))⟩, by unfold fw_np; decide +kernel⟩
theorem fg_FR_234 : fw_fld "FolderRights" 234 3 2 := ⟨_, _, _, "FolderRights$Entry", rfl, by decide, fw_i3, Or.inl rfl, Or.inl (fw_t 397 (by decide +kernel))⟩
theorem fg_FR_196 : fw_fld "FolderRights" 196 1 4 := ⟨_, _, _, "FolderRights$Groups", rfl, by decide, fw_i1, Or.inl rfl, Or.inl (fw_t 42 (by decide +kernel))⟩
theorem fg_FR_237 : fw_fld "FolderRights" 237 3 1 := ⟨_, _, _, "FolderRights$Entry", rfl, by decide, fw_i3, Or.inl rfl, Or.inl (fw_t 395 (by decide +kernel))⟩
theorem lk_FR_167 : fw_lk "FolderRights" 167 ⟨"FolderRights", "requireRight", "(I)V"⟩ := Or.inl (fw_t 551 (by decide +kernel))
theorem np_FR_requireRight : fw_np ⟨"FolderRights", "requireRight", "(I)V"⟩ 1 := by unfold fw_np; decide +kernel
theorem sc_FR_requireRight : Cond.static ⟨"FolderRights", "requireRight", "(I)V"⟩ ∈ lw_tbl := (fw_t 552 (by decide +kernel))
theorem fp_FR_explain_110 : fw_fpt m_FR_explain 110 2 6 .boolean := ⟨_, _, _, "FolderRights$Node", rfl, by decide, fw_i2, Or.inl rfl, ⟨fw_y2, fw_k2⟩, fw_n2, by decide +kernel, Or.inl ⟨rfl, Or.inl (fw_t 103 (by decide +kernel))⟩⟩
theorem lk_FR_172 : fw_lk "FolderRights" 172 ⟨"FolderRights", "fieldOf", "(IIII)I"⟩ := Or.inl (fw_t 556 (by decide +kernel))
theorem np_FR_fieldOf : fw_np ⟨"FolderRights", "fieldOf", "(IIII)I"⟩ 4 := by unfold fw_np; decide +kernel
theorem sc_FR_fieldOf : Cond.static ⟨"FolderRights", "fieldOf", "(IIII)I"⟩ ∈ lw_tbl := (fw_t 557 (by decide +kernel))
theorem vc_FR_176 : fw_vc "FolderRights" 176 0 m_FR_decidingPosition 4 := ⟨k_FR_decidingPosition, Or.inl (fw_t 559 (by decide +kernel)), (fw_t 561 (by decide +kernel)), ⟨_, _, _, rfl, (fw_p 18 (by decide +kernel))⟩, by unfold fw_np; decide +kernel⟩
theorem lk_FR_193 : fw_lk "FolderRights" 193 ⟨"FolderRights", "requirePlace", "(I)V"⟩ := Or.inl (fw_t 570 (by decide +kernel))
theorem np_FR_requirePlace : fw_np ⟨"FolderRights", "requirePlace", "(I)V"⟩ 1 := by unfold fw_np; decide +kernel
theorem sc_FR_requirePlace : Cond.static ⟨"FolderRights", "requirePlace", "(I)V"⟩ ∈ lw_tbl := (fw_t 571 (by decide +kernel))
theorem fp_FR_who_110 : fw_fpt m_FR_who 110 2 6 .boolean := ⟨_, _, _, "FolderRights$Node", rfl, by decide, fw_i2, Or.inl rfl, ⟨fw_y2, fw_k2⟩, fw_n2, by decide +kernel, Or.inl ⟨rfl, Or.inl (fw_t 103 (by decide +kernel))⟩⟩
theorem fp_FR_where_110 : fw_fpt m_FR_where 110 2 6 .boolean := ⟨_, _, _, "FolderRights$Node", rfl, by decide, fw_i2, Or.inl rfl, ⟨fw_y2, fw_k2⟩, fw_n2, by decide +kernel, Or.inl ⟨rfl, Or.inl (fw_t 103 (by decide +kernel))⟩⟩
theorem fp_FR_same_110 : fw_fpt m_FR_same 110 2 6 .boolean := ⟨_, _, _, "FolderRights$Node", rfl, by decide, fw_i2, Or.inl rfl, ⟨fw_y2, fw_k2⟩, fw_n2, by decide +kernel, Or.inl ⟨rfl, Or.inl (fw_t 103 (by decide +kernel))⟩⟩
theorem vc_FR_205 : fw_vc "FolderRights" 205 0 m_FR_countNodes 0 := ⟨k_FR_countNodes, Or.inl (fw_t 610 (by decide +kernel)), (fw_t 612 (by decide +kernel)), ⟨_, _, _, rfl, (fw_p 19 (by decide +kernel))⟩, by unfold fw_np; decide +kernel⟩
theorem vc_FR_208 : fw_vc "FolderRights" 208 0 m_FR_countEntries 0 := ⟨k_FR_countEntries, Or.inl (fw_t 614 (by decide +kernel)), (fw_t 616 (by decide +kernel)), ⟨_, _, _, rfl, (fw_p 20 (by decide +kernel))⟩, by unfold fw_np; decide +kernel⟩
theorem vc_FR_211 : fw_vc "FolderRights" 211 1 m_GR_countMembers 0 := ⟨k_GR_countMembers, Or.inl (fw_t 618 (by decide +kernel)), (fw_t 619 (by decide +kernel)), ⟨_, _, _, rfl, (fw_t 620 (by decide +kernel))⟩, by unfold fw_np; decide +kernel⟩
theorem lk_GR_38 : fw_lk "FolderRights$Groups" 38 ⟨"java/lang/Long", "bitCount", "(J)I"⟩ := Or.inl (fw_t 622 (by decide +kernel))
theorem np_LO_bitCount : fw_np ⟨"java/lang/Long", "bitCount", "(J)I"⟩ 1 := by unfold fw_np; decide +kernel
theorem sc_LO_bitCount : Cond.static ⟨"java/lang/Long", "bitCount", "(J)I"⟩ ∈ lw_tbl := (fw_t 623 (by decide +kernel))
theorem fw_rx13 : fw_rx prog_25_method_4_code 13 := ⟨by decide +kernel, by decide +kernel, by decide +kernel, by decide +kernel⟩
theorem tw_33 : ∀ w ∈ vx_atS "FolderRights" 33 "java/lang/IllegalStateException" ["java/lang/RuntimeException", "java/lang/Exception"], w ∈ lw_tbl ∧ fw_wk w = true := by decide +kernel
theorem tg_33_29 : ∀ w ∈ Cond.classLink "FolderRights" 29 "java/lang/IllegalStateException" :: Cond.initialized "java/lang/IllegalStateException" :: vx_atS "FolderRights" 33 "java/lang/IllegalStateException" ["java/lang/RuntimeException", "java/lang/Exception"], vx_ot w = true := by decide +kernel
theorem th_FR_31 : fw_thr "FolderRights" 29 31 33 "java/lang/IllegalStateException" "there are 60 users" ["java/lang/RuntimeException", "java/lang/Exception"] := ⟨by decide +kernel, by decide +kernel, (fw_t 145 (by decide +kernel)), (fw_t 11 (by decide +kernel)), (fw_t 186 (by decide +kernel)), tw_33, tg_33_29⟩
theorem th_FR_39 : fw_thr "FolderRights" 29 39 33 "java/lang/IllegalStateException" "there are 24 groups" ["java/lang/RuntimeException", "java/lang/Exception"] := ⟨by decide +kernel, by decide +kernel, (fw_t 145 (by decide +kernel)), (fw_t 11 (by decide +kernel)), (fw_t 220 (by decide +kernel)), tw_33, tg_33_29⟩
theorem th_FR_53 : fw_thr "FolderRights" 29 53 33 "java/lang/IllegalStateException" "a group would hold itself" ["java/lang/RuntimeException", "java/lang/Exception"] := ⟨by decide +kernel, by decide +kernel, (fw_t 145 (by decide +kernel)), (fw_t 11 (by decide +kernel)), (fw_t 265 (by decide +kernel)), tw_33, tg_33_29⟩
theorem tw_148 : ∀ w ∈ (Bundle.ownAtomsX "FolderRights" 148 "java/util/NoSuchElementException" 13 prog_25_method_4_code ["java/lang/RuntimeException", "java/lang/Exception"]).filter vx_no, w ∈ lw_tbl ∧ fw_wk w = true := by decide +kernel
theorem tg_148_144 : ∀ w ∈ Cond.classLink "FolderRights" 144 "java/util/NoSuchElementException" :: Cond.initialized "java/util/NoSuchElementException" :: (Bundle.ownAtomsX "FolderRights" 148 "java/util/NoSuchElementException" 13 prog_25_method_4_code ["java/lang/RuntimeException", "java/lang/Exception"]).filter vx_no, vx_ot w = true := by decide +kernel
theorem th_FR_250 : fw_thx "FolderRights" 144 250 148 13 prog_25_method_4_code "java/util/NoSuchElementException" "no such group" ["java/lang/RuntimeException", "java/lang/Exception"] := ⟨fw_rx13, by decide +kernel, by decide +kernel, (fw_t 233 (by decide +kernel)), (fw_t 12 (by decide +kernel)), (fw_t 242 (by decide +kernel)), tw_148, tg_148_144⟩
theorem th_FR_248 : fw_thx "FolderRights" 144 248 148 13 prog_25_method_4_code "java/util/NoSuchElementException" "no such user" ["java/lang/RuntimeException", "java/lang/Exception"] := ⟨fw_rx13, by decide +kernel, by decide +kernel, (fw_t 233 (by decide +kernel)), (fw_t 12 (by decide +kernel)), (fw_t 257 (by decide +kernel)), tw_148, tg_148_144⟩
theorem th_FR_78 : fw_thr "FolderRights" 29 78 33 "java/lang/IllegalStateException" "there are 150 nodes" ["java/lang/RuntimeException", "java/lang/Exception"] := ⟨by decide +kernel, by decide +kernel, (fw_t 145 (by decide +kernel)), (fw_t 11 (by decide +kernel)), (fw_t 325 (by decide +kernel)), tw_33, tg_33_29⟩
theorem th_FR_83 : fw_thr "FolderRights" 29 83 33 "java/lang/IllegalStateException" "it would be deeper than 20" ["java/lang/RuntimeException", "java/lang/Exception"] := ⟨by decide +kernel, by decide +kernel, (fw_t 145 (by decide +kernel)), (fw_t 11 (by decide +kernel)), (fw_t 330 (by decide +kernel)), tw_33, tg_33_29⟩
theorem th_FR_246 : fw_thx "FolderRights" 144 246 148 13 prog_25_method_4_code "java/util/NoSuchElementException" "no such node" ["java/lang/RuntimeException", "java/lang/Exception"] := ⟨fw_rx13, by decide +kernel, by decide +kernel, (fw_t 233 (by decide +kernel)), (fw_t 12 (by decide +kernel)), (fw_t 301 (by decide +kernel)), tw_148, tg_148_144⟩
theorem tw_96 : ∀ w ∈ vx_atS "FolderRights" 96 "java/lang/IllegalArgumentException" ["java/lang/RuntimeException", "java/lang/Exception"], w ∈ lw_tbl ∧ fw_wk w = true := by decide +kernel
theorem tg_96_92 : ∀ w ∈ Cond.classLink "FolderRights" 92 "java/lang/IllegalArgumentException" :: Cond.initialized "java/lang/IllegalArgumentException" :: vx_atS "FolderRights" 96 "java/lang/IllegalArgumentException" ["java/lang/RuntimeException", "java/lang/Exception"], vx_ot w = true := by decide +kernel
theorem th_FR_252 : fw_thr "FolderRights" 92 252 96 "java/lang/IllegalArgumentException" "the parent is a document" ["java/lang/RuntimeException", "java/lang/Exception"] := ⟨by decide +kernel, by decide +kernel, (fw_t 305 (by decide +kernel)), (fw_t 13 (by decide +kernel)), (fw_t 314 (by decide +kernel)), tw_96, tg_96_92⟩
theorem th_FR_94 : fw_thr "FolderRights" 92 94 96 "java/lang/IllegalArgumentException" "the parent is the node or lies below it" ["java/lang/RuntimeException", "java/lang/Exception"] := ⟨by decide +kernel, by decide +kernel, (fw_t 305 (by decide +kernel)), (fw_t 13 (by decide +kernel)), (fw_t 346 (by decide +kernel)), tw_96, tg_96_92⟩
theorem th_FR_101 : fw_thr "FolderRights" 29 101 33 "java/lang/IllegalStateException" "some node would be deeper than 20" ["java/lang/RuntimeException", "java/lang/Exception"] := ⟨by decide +kernel, by decide +kernel, (fw_t 145 (by decide +kernel)), (fw_t 11 (by decide +kernel)), (fw_t 354 (by decide +kernel)), tw_33, tg_33_29⟩
theorem th_FR_254 : fw_thr "FolderRights" 92 254 96 "java/lang/IllegalArgumentException" "it is the root" ["java/lang/RuntimeException", "java/lang/Exception"] := ⟨by decide +kernel, by decide +kernel, (fw_t 305 (by decide +kernel)), (fw_t 13 (by decide +kernel)), (fw_t 341 (by decide +kernel)), tw_96, tg_96_92⟩
theorem th_FR_117 : fw_thr "FolderRights" 29 117 33 "java/lang/IllegalStateException" "some node is below it" ["java/lang/RuntimeException", "java/lang/Exception"] := ⟨by decide +kernel, by decide +kernel, (fw_t 145 (by decide +kernel)), (fw_t 11 (by decide +kernel)), (fw_t 370 (by decide +kernel)), tw_33, tg_33_29⟩
theorem th_FR_127 : fw_thr "FolderRights" 92 127 96 "java/lang/IllegalArgumentException" "position is not 0 .. the number of entries" ["java/lang/RuntimeException", "java/lang/Exception"] := ⟨by decide +kernel, by decide +kernel, (fw_t 305 (by decide +kernel)), (fw_t 13 (by decide +kernel)), (fw_t 382 (by decide +kernel)), tw_96, tg_96_92⟩
theorem th_FR_129 : fw_thr "FolderRights" 92 129 96 "java/lang/IllegalArgumentException" "rights are not 1 .. 255" ["java/lang/RuntimeException", "java/lang/Exception"] := ⟨by decide +kernel, by decide +kernel, (fw_t 305 (by decide +kernel)), (fw_t 13 (by decide +kernel)), (fw_t 383 (by decide +kernel)), tw_96, tg_96_92⟩
theorem th_FR_131 : fw_thr "FolderRights" 92 131 96 "java/lang/IllegalArgumentException" "flags are not 1 .. 15, or 8 alone" ["java/lang/RuntimeException", "java/lang/Exception"] := ⟨by decide +kernel, by decide +kernel, (fw_t 305 (by decide +kernel)), (fw_t 13 (by decide +kernel)), (fw_t 384 (by decide +kernel)), tw_96, tg_96_92⟩
theorem th_FR_133 : fw_thr "FolderRights" 29 133 33 "java/lang/IllegalStateException" "there are twelve entries" ["java/lang/RuntimeException", "java/lang/Exception"] := ⟨by decide +kernel, by decide +kernel, (fw_t 145 (by decide +kernel)), (fw_t 11 (by decide +kernel)), (fw_t 385 (by decide +kernel)), tw_33, tg_33_29⟩
theorem th_FR_146 : fw_thx "FolderRights" 144 146 148 13 prog_25_method_4_code "java/util/NoSuchElementException" "no such entry" ["java/lang/RuntimeException", "java/lang/Exception"] := ⟨fw_rx13, by decide +kernel, by decide +kernel, (fw_t 233 (by decide +kernel)), (fw_t 12 (by decide +kernel)), (fw_t 473 (by decide +kernel)), tw_148, tg_148_144⟩
theorem th_FR_170 : fw_thr "FolderRights" 92 170 96 "java/lang/IllegalArgumentException" "no such field" ["java/lang/RuntimeException", "java/lang/Exception"] := ⟨by decide +kernel, by decide +kernel, (fw_t 305 (by decide +kernel)), (fw_t 13 (by decide +kernel)), (fw_t 555 (by decide +kernel)), tw_96, tg_96_92⟩
theorem th_FR_256 : fw_thr "FolderRights" 92 256 96 "java/lang/IllegalArgumentException" "right is not 0 .. 7" ["java/lang/RuntimeException", "java/lang/Exception"] := ⟨by decide +kernel, by decide +kernel, (fw_t 305 (by decide +kernel)), (fw_t 13 (by decide +kernel)), (fw_t 554 (by decide +kernel)), tw_96, tg_96_92⟩
theorem th_FR_258 : fw_thr "FolderRights" 92 258 96 "java/lang/IllegalArgumentException" "k is below 0" ["java/lang/RuntimeException", "java/lang/Exception"] := ⟨by decide +kernel, by decide +kernel, (fw_t 305 (by decide +kernel)), (fw_t 13 (by decide +kernel)), (fw_t 573 (by decide +kernel)), tw_96, tg_96_92⟩
theorem th_FR_203 : fw_thr "FolderRights" 92 203 96 "java/lang/IllegalArgumentException" "nothing to tell of a node" ["java/lang/RuntimeException", "java/lang/Exception"] := ⟨by decide +kernel, by decide +kernel, (fw_t 305 (by decide +kernel)), (fw_t 13 (by decide +kernel)), (fw_t 602 (by decide +kernel)), tw_96, tg_96_92⟩
theorem th_FR_214 : fw_thr "FolderRights" 92 214 96 "java/lang/IllegalArgumentException" "nothing to count" ["java/lang/RuntimeException", "java/lang/Exception"] := ⟨by decide +kernel, by decide +kernel, (fw_t 305 (by decide +kernel)), (fw_t 13 (by decide +kernel)), (fw_t 628 (by decide +kernel)), tw_96, tg_96_92⟩
end
section
theorem ix_le {x : Int32} {n : Nat} (hn : n < 2 ^ 31) (h : ¬ x < 0) (h2 : ¬ nI n ≤ x) : ∃ k, k < n ∧ x = nI k := by
  obtain ⟨h3, h4⟩ := ix_of h
  rw [h4] at h2
  exact ⟨_, by have := mt (ni_le hn h3).mpr h2; omega, h4⟩
theorem rf_some {r : Option Nat} {a : Nat} (h : r = some a) : va_rf r = .ref a := by rw [h]; rfl
theorem rf_none {r : Option Nat} (h : r = none) : va_rf r = .null := by rw [h]; rfl
def fs_no2 (x : Int32) (n : Nat) : Prop := ∀ k, k < n → x ≠ nI k
theorem c_FR_requireUser {g : fw_G} {w : fw_W} {o gr na us : Nat} (h0 : w o = some (.inr (0, [.ref gr, .ref na, .int (nI us)]))) {u : Nat} (hu : u < us) (hb : us < 2 ^ 31) : fw_R g m_FR_requireUser (fw_pn w) 1 6 w 0 [(0, .ref o), (1, .int (nI u))] [] := by
  refine fr_iload_n (pc := 0) d_FR_requireUser_0 rfl rfl ?_
  refine fr_if_lt (pc := 1) (tgt := 12) d_FR_requireUser_1 (by decide) (fun b1 => ?_) (fun b1 => ?_)
  · first | exact absurd b1 (ix_nn (by omega)) | exact absurd ((ni_lt (by omega) (by omega)).mpr hu) b9
  · refine fr_iload_n (pc := 4) d_FR_requireUser_4 rfl rfl ?_
    refine fr_aload_n (pc := 5) d_FR_requireUser_5 rfl rfl ?_
    refine fr_get (pc := 6) (v := .int (nI us)) d_FR_requireUser_6 fg_FR_25 h0 rfl ?_
    refine fr_icmp_lt (pc := 9) (tgt := 22) d_FR_requireUser_9 (by decide) (fun b9 => ?_) (fun b9 => ?_)
    · exact fr_vret rfl d_FR_requireUser_22 ⟨rfl, rfl⟩
    · first | exact absurd b1 (ix_nn (by omega)) | exact absurd ((ni_lt (by omega) (by omega)).mpr hu) b9
theorem x_FR_requireUser {g : fw_G} {w : fw_W} {o gr na us : Nat} (h0 : w o = some (.inr (0, [.ref gr, .ref na, .int (nI us)]))) {x : Int32} (hx : fs_no2 x us) (hb : us < 2 ^ 31) : fw_R g m_FR_requireUser (fw_px "java/util/NoSuchElementException" w) 1 6 w 0 [(0, .ref o), (1, .int x)] [] := by
  refine fr_iload_n (pc := 0) d_FR_requireUser_0 rfl rfl ?_
  refine fr_if_lt (pc := 1) (tgt := 12) d_FR_requireUser_1 (by decide) (fun b1 => ?_) (fun b1 => ?_)
  · exact fr_throwX (pc := 12) (nc := 0) (ns := 0) th_FR_248 d_FR_requireUser_12 d_FR_requireUser_15 d_FR_requireUser_16 d_FR_requireUser_18 d_FR_requireUser_21 (by decide) (by decide) (by decide) ⟨rfl, rfl⟩
  · refine fr_iload_n (pc := 4) d_FR_requireUser_4 rfl rfl ?_
    refine fr_aload_n (pc := 5) d_FR_requireUser_5 rfl rfl ?_
    refine fr_get (pc := 6) (v := .int (nI us)) d_FR_requireUser_6 fg_FR_25 h0 rfl ?_
    refine fr_icmp_lt (pc := 9) (tgt := 22) d_FR_requireUser_9 (by decide) (fun b9 => ?_) (fun b9 => ?_)
    · obtain ⟨k, hk, e⟩ := ix_lt hb b1 b9
      exact absurd e (hx k hk)
    · exact fr_throwX (pc := 12) (nc := 0) (ns := 0) th_FR_248 d_FR_requireUser_12 d_FR_requireUser_15 d_FR_requireUser_16 d_FR_requireUser_18 d_FR_requireUser_21 (by decide) (by decide) (by decide) ⟨rfl, rfl⟩
theorem c_FR_requireGroup {g : fw_G} {w : fw_W} {o gr na us : Nat} (h0 : w o = some (.inr (0, [.ref gr, .ref na, .int (nI us)]))) {n a1 a2 a3 a4 : Nat} (hG : w gr = some (.inr (1, [.int (nI n), .ref a1, .ref a2, .ref a3, .ref a4]))) {u : Nat} (hu : u < n) (hb : n < 2 ^ 31) : fw_R g m_FR_requireGroup (fw_pn w) 1 6 w 0 [(0, .ref o), (1, .int (nI u))] [] := by
  refine fr_iload_n (pc := 0) d_FR_requireGroup_0 rfl rfl ?_
  refine fr_if_lt (pc := 1) (tgt := 15) d_FR_requireGroup_1 (by decide) (fun b1 => ?_) (fun b1 => ?_)
  · first | exact absurd b1 (ix_nn (by omega)) | exact absurd ((ni_lt (by omega) (by omega)).mpr hu) b12
  · refine fr_iload_n (pc := 4) d_FR_requireGroup_4 rfl rfl ?_
    refine fr_aload_n (pc := 5) d_FR_requireGroup_5 rfl rfl ?_
    refine fr_get (pc := 6) (v := .ref gr) d_FR_requireGroup_6 fg_FR_10 h0 rfl ?_
    refine fr_get (pc := 9) (v := .int (nI n)) d_FR_requireGroup_9 fg_FR_36 hG rfl ?_
    refine fr_icmp_lt (pc := 12) (tgt := 25) d_FR_requireGroup_12 (by decide) (fun b12 => ?_) (fun b12 => ?_)
    · exact fr_vret rfl d_FR_requireGroup_25 ⟨rfl, rfl⟩
    · first | exact absurd b1 (ix_nn (by omega)) | exact absurd ((ni_lt (by omega) (by omega)).mpr hu) b12
theorem x_FR_requireGroup {g : fw_G} {w : fw_W} {o gr na us : Nat} (h0 : w o = some (.inr (0, [.ref gr, .ref na, .int (nI us)]))) {n a1 a2 a3 a4 : Nat} (hG : w gr = some (.inr (1, [.int (nI n), .ref a1, .ref a2, .ref a3, .ref a4]))) {x : Int32} (hx : fs_no2 x n) (hb : n < 2 ^ 31) : fw_R g m_FR_requireGroup (fw_px "java/util/NoSuchElementException" w) 1 6 w 0 [(0, .ref o), (1, .int x)] [] := by
  refine fr_iload_n (pc := 0) d_FR_requireGroup_0 rfl rfl ?_
  refine fr_if_lt (pc := 1) (tgt := 15) d_FR_requireGroup_1 (by decide) (fun b1 => ?_) (fun b1 => ?_)
  · exact fr_throwX (pc := 15) (nc := 0) (ns := 0) th_FR_250 d_FR_requireGroup_15 d_FR_requireGroup_18 d_FR_requireGroup_19 d_FR_requireGroup_21 d_FR_requireGroup_24 (by decide) (by decide) (by decide) ⟨rfl, rfl⟩
  · refine fr_iload_n (pc := 4) d_FR_requireGroup_4 rfl rfl ?_
    refine fr_aload_n (pc := 5) d_FR_requireGroup_5 rfl rfl ?_
    refine fr_get (pc := 6) (v := .ref gr) d_FR_requireGroup_6 fg_FR_10 h0 rfl ?_
    refine fr_get (pc := 9) (v := .int (nI n)) d_FR_requireGroup_9 fg_FR_36 hG rfl ?_
    refine fr_icmp_lt (pc := 12) (tgt := 25) d_FR_requireGroup_12 (by decide) (fun b12 => ?_) (fun b12 => ?_)
    · obtain ⟨k, hk, e⟩ := ix_lt hb b1 b12
      exact absurd e (hx k hk)
    · exact fr_throwX (pc := 15) (nc := 0) (ns := 0) th_FR_250 d_FR_requireGroup_15 d_FR_requireGroup_18 d_FR_requireGroup_19 d_FR_requireGroup_21 d_FR_requireGroup_24 (by decide) (by decide) (by decide) ⟨rfl, rfl⟩
theorem c_FR_requireUserOrGroup {g : fw_G} {w : fw_W} {o gr na us : Nat} (h0 : w o = some (.inr (0, [.ref gr, .ref na, .int (nI us)]))) {n a1 a2 a3 a4 : Nat} (hG : w gr = some (.inr (1, [.int (nI n), .ref a1, .ref a2, .ref a3, .ref a4]))) {b : Bool} {u : Nat} (hu : u < (if b then n else us)) (hb : n < 2 ^ 31) (hb2 : us < 2 ^ 31) : fw_R g m_FR_requireUserOrGroup (fw_pn w) 2 12 w 0 [(0, .ref o), (1, .int (nI u)), (2, .int (bI b))] [] := by
  cases b
  · refine fr_iload_n (pc := 0) d_FR_requireUserOrGroup_0 rfl rfl ?_
    refine fr_if_eq (pc := 1) (tgt := 12) d_FR_requireUserOrGroup_1 (by decide) (fun q => ?_) (fun q => ?_)
    · refine fr_aload_n (pc := 12) d_FR_requireUserOrGroup_12 rfl rfl ?_
      refine fr_iload_n (pc := 13) d_FR_requireUserOrGroup_13 rfl rfl ?_
      refine fr_callv_n (pc := 14) (nc := 1) (ns := 6) (N := m_FR_requireUser) (rest := []) (as := [.int (nI u)]) d_FR_requireUserOrGroup_14 vc_FR_67 ⟨by decide, by decide, Nat.le_of_ble_eq_true rfl⟩ (Nat.le_of_ble_eq_true rfl) h0 (c_FR_requireUser h0 hu hb2) rfl ?_
      exact fr_vret rfl d_FR_requireUserOrGroup_17 ⟨rfl, rfl⟩
    · exact absurd rfl q
  · refine fr_iload_n (pc := 0) d_FR_requireUserOrGroup_0 rfl rfl ?_
    refine fr_if_eq (pc := 1) (tgt := 12) d_FR_requireUserOrGroup_1 (by decide) (fun q => ?_) (fun q => ?_)
    · exact absurd q (by decide)
    · refine fr_aload_n (pc := 4) d_FR_requireUserOrGroup_4 rfl rfl ?_
      refine fr_iload_n (pc := 5) d_FR_requireUserOrGroup_5 rfl rfl ?_
      refine fr_callv_n (pc := 6) (nc := 1) (ns := 6) (N := m_FR_requireGroup) (rest := []) (as := [.int (nI u)]) d_FR_requireUserOrGroup_6 vc_FR_41 ⟨by decide, by decide, Nat.le_of_ble_eq_true rfl⟩ (Nat.le_of_ble_eq_true rfl) h0 (c_FR_requireGroup h0 hG hu hb) rfl ?_
      refine fr_goto (pc := 9) (tgt := 17) d_FR_requireUserOrGroup_9 (by decide) ?_
      exact fr_vret rfl d_FR_requireUserOrGroup_17 ⟨rfl, rfl⟩
theorem x_FR_requireUserOrGroup {g : fw_G} {w : fw_W} {o gr na us : Nat} (h0 : w o = some (.inr (0, [.ref gr, .ref na, .int (nI us)]))) {n a1 a2 a3 a4 : Nat} (hG : w gr = some (.inr (1, [.int (nI n), .ref a1, .ref a2, .ref a3, .ref a4]))) {b : Bool} {x : Int32} (hu : fs_no2 x (if b then n else us)) (hb : n < 2 ^ 31) (hb2 : us < 2 ^ 31) : fw_R g m_FR_requireUserOrGroup (fw_px "java/util/NoSuchElementException" w) 2 12 w 0 [(0, .ref o), (1, .int x), (2, .int (bI b))] [] := by
  cases b
  · refine fr_iload_n (pc := 0) d_FR_requireUserOrGroup_0 rfl rfl ?_
    refine fr_if_eq (pc := 1) (tgt := 12) d_FR_requireUserOrGroup_1 (by decide) (fun q => ?_) (fun q => ?_)
    · refine fr_aload_n (pc := 12) d_FR_requireUserOrGroup_12 rfl rfl ?_
      refine fr_iload_n (pc := 13) d_FR_requireUserOrGroup_13 rfl rfl ?_
      refine fr_callv_x (pc := 14) (nc := 1) (ns := 6) (N := m_FR_requireUser) (rest := []) (as := [.int x]) d_FR_requireUserOrGroup_14 vc_FR_67 ⟨by decide, by decide, Nat.le_of_ble_eq_true rfl⟩ (Nat.le_of_ble_eq_true rfl) h0 (x_FR_requireUser h0 hu hb2) rfl ?_
      exact fx_out (by decide) ⟨rfl, rfl⟩
    · exact absurd rfl q
  · refine fr_iload_n (pc := 0) d_FR_requireUserOrGroup_0 rfl rfl ?_
    refine fr_if_eq (pc := 1) (tgt := 12) d_FR_requireUserOrGroup_1 (by decide) (fun q => ?_) (fun q => ?_)
    · exact absurd q (by decide)
    · refine fr_aload_n (pc := 4) d_FR_requireUserOrGroup_4 rfl rfl ?_
      refine fr_iload_n (pc := 5) d_FR_requireUserOrGroup_5 rfl rfl ?_
      refine fr_callv_x (pc := 6) (nc := 1) (ns := 6) (N := m_FR_requireGroup) (rest := []) (as := [.int x]) d_FR_requireUserOrGroup_6 vc_FR_41 ⟨by decide, by decide, Nat.le_of_ble_eq_true rfl⟩ (Nat.le_of_ble_eq_true rfl) h0 (x_FR_requireGroup h0 hG hu hb) rfl ?_
      exact fx_out (by decide) ⟨rfl, rfl⟩
theorem c_FR_nodeAt {g : fw_G} {w : fw_W} {o gr na us : Nat} (h0 : w o = some (.inr (0, [.ref gr, .ref na, .int (nI us)]))) {ad : Nat → Option Nat} (hN : w na = some (fs_no g ad)) {k a : Nat} (hk : k < 150) (ha : ad k = some a) : fw_R g m_FR_nodeAt (fw_pv (.ref a) w) 1 6 w 0 [(0, .ref o), (1, .int (nI k))] [] := by
  refine fr_iload_n (pc := 0) d_FR_nodeAt_0 rfl rfl ?_
  refine fr_if_lt (pc := 1) (tgt := 20) d_FR_nodeAt_1 (by decide) (fun b1 => ?_) (fun b1 => ?_)
  · first | exact absurd b1 (ix_nn (by omega)) | exact absurd ((ni_le (by omega) (by omega)).mp (show nI 150 ≤ nI k from b8)) (by omega)
  · refine fr_iload_n (pc := 4) d_FR_nodeAt_4 rfl rfl ?_
    refine fr_sipush (pc := 5) (v := 150) d_FR_nodeAt_5 (by decide) ?_
    refine fr_icmp_ge (pc := 8) (tgt := 20) d_FR_nodeAt_8 (by decide) (fun b8 => ?_) (fun b8 => ?_)
    · first | exact absurd b1 (ix_nn (by omega)) | exact absurd ((ni_le (by omega) (by omega)).mp (show nI 150 ≤ nI k from b8)) (by omega)
    · refine fr_aload_n (pc := 11) d_FR_nodeAt_11 rfl rfl ?_
      refine fr_get (pc := 12) (v := .ref na) d_FR_nodeAt_12 fg_FR_18 h0 rfl ?_
      refine fr_iload_n (pc := 15) d_FR_nodeAt_15 rfl rfl ?_
      refine fr_aaldN (pc := 16) (t := 3) (n := 150) (k := k) (C := "FolderRights$Node") (f := ad) d_FR_nodeAt_16 rfl hN hk (by omega) ?_
      refine fr_st (st2 := [.ref a]) (by rw [rf_some ha]) ?_
      refine fr_ifnonnull (pc := 17) (tgt := 30) d_FR_nodeAt_17 (by decide) ?_
      refine fr_aload_n (pc := 30) d_FR_nodeAt_30 rfl rfl ?_
      refine fr_get (pc := 31) (v := .ref na) d_FR_nodeAt_31 fg_FR_18 h0 rfl ?_
      refine fr_iload_n (pc := 34) d_FR_nodeAt_34 rfl rfl ?_
      refine fr_aaldN (pc := 35) (t := 3) (n := 150) (k := k) (C := "FolderRights$Node") (f := ad) d_FR_nodeAt_35 rfl hN hk (by omega) ?_
      refine fr_st (st2 := [.ref a]) (by rw [rf_some ha]) ?_
      exact fr_aret rfl (by first | exact Or.inl ⟨_, rfl⟩ | exact Or.inr ⟨_, rfl⟩) (by first | exact Or.inl rfl | exact Or.inr ⟨_, rfl⟩) d_FR_nodeAt_36 ⟨rfl, rfl⟩
theorem x_FR_nodeAt {g : fw_G} {w : fw_W} {o gr na us : Nat} (h0 : w o = some (.inr (0, [.ref gr, .ref na, .int (nI us)]))) {ad : Nat → Option Nat} (hN : w na = some (fs_no g ad)) {x : Int32} (hx : ∀ k, k < 150 → x = nI k → ad k = none) : fw_R g m_FR_nodeAt (fw_px "java/util/NoSuchElementException" w) 1 6 w 0 [(0, .ref o), (1, .int x)] [] := by
  refine fr_iload_n (pc := 0) d_FR_nodeAt_0 rfl rfl ?_
  refine fr_if_lt (pc := 1) (tgt := 20) d_FR_nodeAt_1 (by decide) (fun b1 => ?_) (fun b1 => ?_)
  · exact fr_throwX (pc := 20) (nc := 0) (ns := 0) th_FR_246 d_FR_nodeAt_20 d_FR_nodeAt_23 d_FR_nodeAt_24 d_FR_nodeAt_26 d_FR_nodeAt_29 (by decide) (by decide) (by decide) ⟨rfl, rfl⟩
  · refine fr_iload_n (pc := 4) d_FR_nodeAt_4 rfl rfl ?_
    refine fr_sipush (pc := 5) (v := 150) d_FR_nodeAt_5 (by decide) ?_
    refine fr_icmp_ge (pc := 8) (tgt := 20) d_FR_nodeAt_8 (by decide) (fun b8 => ?_) (fun b8 => ?_)
    · exact fr_throwX (pc := 20) (nc := 0) (ns := 0) th_FR_246 d_FR_nodeAt_20 d_FR_nodeAt_23 d_FR_nodeAt_24 d_FR_nodeAt_26 d_FR_nodeAt_29 (by decide) (by decide) (by decide) ⟨rfl, rfl⟩
    · refine fr_aload_n (pc := 11) d_FR_nodeAt_11 rfl rfl ?_
      refine fr_get (pc := 12) (v := .ref na) d_FR_nodeAt_12 fg_FR_18 h0 rfl ?_
      refine fr_iload_n (pc := 15) d_FR_nodeAt_15 rfl rfl ?_
      obtain ⟨k, hk, rfl⟩ := ix_le (n := 150) (by omega) b1 b8
      refine fr_aaldN (pc := 16) (t := 3) (n := 150) (k := k) (C := "FolderRights$Node") (f := ad) d_FR_nodeAt_16 rfl hN hk (by omega) ?_
      refine fr_st (st2 := [.null]) (by rw [rf_none (hx k hk rfl)]) ?_
      refine fr_ifnonnullN (pc := 17) d_FR_nodeAt_17 ?_
      exact fr_throwX (pc := 20) (nc := 0) (ns := 0) th_FR_246 d_FR_nodeAt_20 d_FR_nodeAt_23 d_FR_nodeAt_24 d_FR_nodeAt_26 d_FR_nodeAt_29 (by decide) (by decide) (by decide) ⟨rfl, rfl⟩
theorem c_FR_requireFolder {g : fw_G} {w : fw_W} {a : Nat} {fs : List Value} (h : w a = some (.inr (2, fs))) (h1 : fs[1]? = some (.int (bI true))) : fw_R g m_FR_requireFolder (fw_pn w) 1 6 w 0 [(0, .ref a)] [] := by
  refine fr_aload_n (pc := 0) d_FR_requireFolder_0 rfl rfl ?_
  refine fr_get (pc := 1) (v := .int (bI true)) d_FR_requireFolder_1 fg_FR_200 h h1 ?_
  refine fr_if_ne (pc := 4) (tgt := 17) d_FR_requireFolder_4 (by decide) (fun b4 => ?_) (fun b4 => ?_)
  · exact fr_vret rfl d_FR_requireFolder_17 ⟨rfl, rfl⟩
  · exact absurd b4 (by decide)
theorem x_FR_requireFolder {g : fw_G} {w : fw_W} {a : Nat} {fs : List Value} (h : w a = some (.inr (2, fs))) (h1 : fs[1]? = some (.int (bI false))) : fw_R g m_FR_requireFolder (fw_px "java/lang/IllegalArgumentException" w) 1 6 w 0 [(0, .ref a)] [] := by
  refine fr_aload_n (pc := 0) d_FR_requireFolder_0 rfl rfl ?_
  refine fr_get (pc := 1) (v := .int (bI false)) d_FR_requireFolder_1 fg_FR_200 h h1 ?_
  refine fr_if_ne (pc := 4) (tgt := 17) d_FR_requireFolder_4 (by decide) (fun b4 => ?_) (fun b4 => ?_)
  · exact absurd rfl b4
  · exact fr_throw (pc := 7) (nc := 0) (ns := 0) th_FR_252 d_FR_requireFolder_7 d_FR_requireFolder_10 d_FR_requireFolder_11 d_FR_requireFolder_13 d_FR_requireFolder_16 (by decide) (by decide) (by decide) ⟨rfl, rfl⟩
theorem c_FR_requireNotRoot {g : fw_G} {w : fw_W} {a p : Nat} {fs : List Value} (h : w a = some (.inr (2, fs))) (h1 : fs[3]? = some (.ref p)) : fw_R g m_FR_requireNotRoot (fw_pn w) 1 6 w 0 [(0, .ref a)] [] := by
  refine fr_aload_n (pc := 0) d_FR_requireNotRoot_0 rfl rfl ?_
  refine fr_get (pc := 1) (v := .ref p) d_FR_requireNotRoot_1 fg_FR_103 h h1 ?_
  refine fr_ifnonnull (pc := 4) (tgt := 17) d_FR_requireNotRoot_4 (by decide) ?_
  exact fr_vret rfl d_FR_requireNotRoot_17 ⟨rfl, rfl⟩
theorem x_FR_requireNotRoot {g : fw_G} {w : fw_W} {a p : Nat} {fs : List Value} (h : w a = some (.inr (2, fs))) (h1 : fs[3]? = some (.null)) : fw_R g m_FR_requireNotRoot (fw_px "java/lang/IllegalArgumentException" w) 1 6 w 0 [(0, .ref a)] [] := by
  refine fr_aload_n (pc := 0) d_FR_requireNotRoot_0 rfl rfl ?_
  refine fr_get (pc := 1) (v := .null) d_FR_requireNotRoot_1 fg_FR_103 h h1 ?_
  refine fr_ifnonnullN (pc := 4) d_FR_requireNotRoot_4 ?_
  exact fr_throw (pc := 7) (nc := 0) (ns := 0) th_FR_254 d_FR_requireNotRoot_7 d_FR_requireNotRoot_10 d_FR_requireNotRoot_11 d_FR_requireNotRoot_13 d_FR_requireNotRoot_16 (by decide) (by decide) (by decide) ⟨rfl, rfl⟩
theorem c_FR_requireRight {g : fw_G} {w : fw_W} {r : Nat} (hr : r < 8) : fw_R g m_FR_requireRight (fw_pn w) 1 6 w 0 [(0, .int (nI r))] [] := by
  refine fr_iload_n (pc := 0) d_FR_requireRight_0 rfl rfl ?_
  refine fr_if_lt (pc := 1) (tgt := 10) d_FR_requireRight_1 (by decide) (fun b1 => ?_) (fun b1 => ?_)
  · first | exact absurd b1 (ix_nn (by omega)) | exact absurd ((ni_lt (by omega) (by omega)).mpr hr) b7
  · refine fr_iload_n (pc := 4) d_FR_requireRight_4 rfl rfl ?_
    refine fr_bipush (pc := 5) (v := 8) d_FR_requireRight_5 (by decide) ?_
    refine fr_icmp_lt (pc := 7) (tgt := 21) d_FR_requireRight_7 (by decide) (fun b7 => ?_) (fun b7 => ?_)
    · exact fr_vret rfl d_FR_requireRight_21 ⟨rfl, rfl⟩
    · first | exact absurd b1 (ix_nn (by omega)) | exact absurd ((ni_lt (by omega) (by omega)).mpr hr) b7
theorem x_FR_requireRight {g : fw_G} {w : fw_W} {x : Int32} (hx : fs_no2 x 8) : fw_R g m_FR_requireRight (fw_px "java/lang/IllegalArgumentException" w) 1 6 w 0 [(0, .int x)] [] := by
  refine fr_iload_n (pc := 0) d_FR_requireRight_0 rfl rfl ?_
  refine fr_if_lt (pc := 1) (tgt := 10) d_FR_requireRight_1 (by decide) (fun b1 => ?_) (fun b1 => ?_)
  · exact fr_throwW (pc := 10) (nc := 0) (ns := 0) th_FR_256 d_FR_requireRight_10 d_FR_requireRight_13 d_FR_requireRight_14 d_FR_requireRight_17 d_FR_requireRight_20 (by decide) (by decide) (by decide) ⟨rfl, rfl⟩
  · refine fr_iload_n (pc := 4) d_FR_requireRight_4 rfl rfl ?_
    refine fr_bipush (pc := 5) (v := 8) d_FR_requireRight_5 (by decide) ?_
    refine fr_icmp_lt (pc := 7) (tgt := 21) d_FR_requireRight_7 (by decide) (fun b7 => ?_) (fun b7 => ?_)
    · obtain ⟨k, hk, e⟩ := ix_lt (n := 8) (by omega) b1 b7
      exact absurd e (hx k hk)
    · exact fr_throwW (pc := 10) (nc := 0) (ns := 0) th_FR_256 d_FR_requireRight_10 d_FR_requireRight_13 d_FR_requireRight_14 d_FR_requireRight_17 d_FR_requireRight_20 (by decide) (by decide) (by decide) ⟨rfl, rfl⟩
theorem c_FR_requirePlace {g : fw_G} {w : fw_W} {x : Int32} (hx : ¬ x < 0) : fw_R g m_FR_requirePlace (fw_pn w) 1 6 w 0 [(0, .int x)] [] := by
  refine fr_iload_n (pc := 0) d_FR_requirePlace_0 rfl rfl ?_
  refine fr_if_ge (pc := 1) (tgt := 15) d_FR_requirePlace_1 (by decide) (fun b1 => ?_) (fun b1 => ?_)
  · exact fr_vret rfl d_FR_requirePlace_15 ⟨rfl, rfl⟩
  · exact absurd (Int32.not_lt.mp hx) b1
theorem x_FR_requirePlace {g : fw_G} {w : fw_W} {x : Int32} (hx : x < 0) : fw_R g m_FR_requirePlace (fw_px "java/lang/IllegalArgumentException" w) 1 6 w 0 [(0, .int x)] [] := by
  refine fr_iload_n (pc := 0) d_FR_requirePlace_0 rfl rfl ?_
  refine fr_if_ge (pc := 1) (tgt := 15) d_FR_requirePlace_1 (by decide) (fun b1 => ?_) (fun b1 => ?_)
  · exact absurd hx (Int32.not_lt.mpr b1)
  · exact fr_throwW (pc := 4) (nc := 0) (ns := 0) th_FR_258 d_FR_requirePlace_4 d_FR_requirePlace_7 d_FR_requirePlace_8 d_FR_requirePlace_11 d_FR_requirePlace_14 (by decide) (by decide) (by decide) ⟨rfl, rfl⟩
def fs_fr (ad : Nat → Option Nat) : Nat → Nat → Option Nat
  | 0, _ => none
  | m + 1, k => if ad k = none then some k else fs_fr ad m (k + 1)
def fs_ov (r : Option Nat) : Int32 := match r with
  | some k => nI k
  | none => -1
theorem c_FR_free_l {g : fw_G} {nc ns : Nat} {w : fw_W} {o gr na us : Nat} (h0 : w o = some (.inr (0, [.ref gr, .ref na, .int (nI us)]))) {ad : Nat → Option Nat} (hN : w na = some (fs_no g ad)) : ∀ m k, k + m = 150 → fw_R g m_FR_freeNumber (fw_pv (.int (fs_ov (fs_fr ad m k))) w) nc ns w 2 [(0, .ref o), (1, .int (nI k))] [] := by
  intro m
  induction m with
  | zero =>
    intro k hk
    have hk2 : k = 150 := by omega
    subst hk2
    refine fr_iload_n (pc := 2) d_FR_freeNumber_2 rfl rfl ?_
    refine fr_sipush (pc := 3) (v := 150) d_FR_freeNumber_3 (by decide) ?_
    refine fr_icmp_ge (pc := 6) (tgt := 26) d_FR_freeNumber_6 (by decide) (fun q => ?_) (fun q => ?_)
    · refine fr_iconst (pc := 26) (v := -1) d_FR_freeNumber_26 (by decide) ?_
      exact fr_iret rfl d_FR_freeNumber_27 ⟨rfl, rfl⟩
    · exact absurd ((ni_le (a := 150) (b := 150) (by omega) (by omega)).mpr (by omega)) q
  | succ m ih =>
    intro k hk
    refine fr_iload_n (pc := 2) d_FR_freeNumber_2 rfl rfl ?_
    refine fr_sipush (pc := 3) (v := 150) d_FR_freeNumber_3 (by decide) ?_
    refine fr_icmp_ge (pc := 6) (tgt := 26) d_FR_freeNumber_6 (by decide) (fun q => ?_) (fun q => ?_)
    · exact absurd ((ni_le (a := 150) (by omega) (by omega)).mp q) (by omega)
    · refine fr_aload_n (pc := 9) d_FR_freeNumber_9 rfl rfl ?_
      refine fr_get (pc := 10) (v := .ref na) d_FR_freeNumber_10 fg_FR_18 h0 rfl ?_
      refine fr_iload_n (pc := 13) d_FR_freeNumber_13 rfl rfl ?_
      refine fr_aaldN (pc := 14) (t := 3) (n := 150) (k := k) (C := "FolderRights$Node") (f := ad) d_FR_freeNumber_14 rfl hN (by omega) (by omega) ?_
      by_cases hA : ad k = none
      · refine fr_st (st2 := [.null]) (by rw [rf_none hA]) ?_
        refine fr_ifnonnullN (pc := 15) d_FR_freeNumber_15 ?_
        refine fr_iload_n (pc := 18) d_FR_freeNumber_18 rfl rfl ?_
        refine fr_st (st2 := [.int (fs_ov (fs_fr ad (m + 1) k))]) (by simp [fs_fr, hA, fs_ov]) ?_
        exact fr_iret rfl d_FR_freeNumber_19 ⟨rfl, rfl⟩
      · obtain ⟨a, ha⟩ := Option.ne_none_iff_exists'.mp hA
        refine fr_st (st2 := [.ref a]) (by rw [rf_some ha]) ?_
        refine fr_ifnonnull (pc := 15) (tgt := 20) d_FR_freeNumber_15 (by decide) ?_
        refine fr_iinc (pc := 20) (v := (nI (k + 1))) (L2 := [(0, .ref o), (1, .int (nI (k + 1)))]) d_FR_freeNumber_20 rfl (fi_1 _) (by decide) rfl ?_
        refine fr_goto (pc := 23) (tgt := 2) d_FR_freeNumber_23 (by decide) ?_
        have e : fs_fr ad (m + 1) k = fs_fr ad m (k + 1) := by simp [fs_fr, hA]
        rw [e]
        exact ih (k + 1) (by omega)
theorem c_FR_free {g : fw_G} {nc ns : Nat} {w : fw_W} {o gr na us : Nat} (h0 : w o = some (.inr (0, [.ref gr, .ref na, .int (nI us)]))) {ad : Nat → Option Nat} (hN : w na = some (fs_no g ad)) : fw_R g m_FR_freeNumber (fw_pv (.int (fs_ov (fs_fr ad 150 0))) w) nc ns w 0 [(0, .ref o)] [] := by
  refine fr_iconst (pc := 0) (v := 0) d_FR_freeNumber_0 (by decide) ?_
  refine fr_istore_n (pc := 1) (L2 := [(0, .ref o), (1, .int 0)]) d_FR_freeNumber_1 rfl (by decide) rfl ?_
  exact c_FR_free_l h0 hN 150 0 rfl
end
section
theorem fr_Ld {g : fw_G} {M : fw_M} {Post : fw_O → fw_W → Prop} {nc ns : Nat} {w : fw_W} {pc : Nat} {L : List (Nat × Value)} {rest : List Value} (kk : fw_R g M Post nc ns w pc L.dropLast rest) : fw_R g M Post nc ns w pc L rest := fr_L (fun _ hq => List.dropLast_subset _ hq) kk
theorem ni_add (a b : Nat) : nI a + nI b = nI (a + b) := (Int32.ofNat_add a b).symm
theorem ni_sub {a b : Nat} (h : b ≤ a) : nI a - nI b = nI (a - b) := by
  have e : nI a = nI (a - b) + nI b := by rw [ni_add]; congr 1; omega
  rw [e]; exact Int32.add_sub_cancel _ _
def fs_sum (f : Nat → Nat) : Nat → Nat → Nat
  | 0, _ => 0
  | m + 1, k => f k + fs_sum f m (k + 1)
def fs_hi (f : Nat → Nat) : Nat → Nat → Nat → Nat
  | 0, _, c => c
  | m + 1, k, c => fs_hi f m (k + 1) (max c (f k))
theorem fs_an_eq {nd nd2 : fs_D} (h : ∀ k, (nd2 k).map (fun N => N.2.1) = (nd k).map (fun N => N.2.1)) : ∀ f k, fs_an nd2 f k = fs_an nd f k := by
  intro f
  induction f with
  | zero => intro k; rfl
  | succ f ih =>
    intro k
    have hk := h k
    cases h1 : nd k with
    | none =>
      rw [h1] at hk
      cases h2 : nd2 k with
      | none => simp [fs_an, h1, h2]
      | some N2 => rw [h2] at hk; cases hk
    | some N =>
      rw [h1] at hk
      cases h2 : nd2 k with
      | none => rw [h2] at hk; cases hk
      | some N2 =>
        rw [h2] at hk
        have hk3 : N2.2.1 = N.2.1 := Option.some.inj hk
        cases h3 : N.2.1 with
        | none => simp [fs_an, h1, h2, hk3, h3]
        | some p => simp [fs_an, h1, h2, hk3, h3, ih p]
theorem fs_ch_eq {nd nd2 : fs_D} (h : ∀ k, (nd2 k).map (fun N => N.2.1) = (nd k).map (fun N => N.2.1)) : ∀ l k, fs_ch nd k l → fs_ch nd2 k l := by
  have key : ∀ k N, nd k = some N → ∃ N2, nd2 k = some N2 ∧ N2.2.1 = N.2.1 := by
    intro k N hN
    have hk := h k
    rw [hN] at hk
    cases h2 : nd2 k with
    | none => rw [h2] at hk; cases hk
    | some N2 => rw [h2] at hk; exact ⟨N2, rfl, Option.some.inj hk⟩
  intro l
  induction l with
  | nil =>
    rintro k ⟨N, h1, h2⟩
    obtain ⟨N2, e1, e2⟩ := key k N h1
    exact ⟨N2, e1, e2.trans h2⟩
  | cons p t ih =>
    rintro k ⟨⟨N, h1, h2⟩, h3⟩
    obtain ⟨N2, e1, e2⟩ := key k N h1
    exact ⟨⟨N2, e1, e2.trans h2⟩, ih p h3⟩
theorem fs_ch_tail {nd : fs_D} : ∀ (l : List Nat) (k t : Nat), fs_ch nd k l → t ∈ l → ∃ l2, fs_ch nd t l2 ∧ l2.length < l.length := by
  intro l
  induction l with
  | nil => intro k t _ h; cases h
  | cons p r ih =>
    intro k t h hm
    rcases List.mem_cons.mp hm with rfl | hm
    · exact ⟨r, h.2, by simp⟩
    · obtain ⟨l2, e1, e2⟩ := ih p t h.2 hm
      exact ⟨l2, e1, by simp only [List.length_cons]; omega⟩
theorem fs_ch_uq {nd : fs_D} : ∀ (l l2 : List Nat) (k : Nat), fs_ch nd k l → fs_ch nd k l2 → l = l2 := by
  intro l
  induction l with
  | nil =>
    intro l2 k h1 h2
    obtain ⟨N, e1, e2⟩ := h1
    cases l2 with
    | nil => rfl
    | cons p t => obtain ⟨⟨M, f1, f2⟩, -⟩ := h2; rw [e1] at f1; cases f1; rw [e2] at f2; cases f2
  | cons p r ih =>
    intro l2 k h1 h2
    obtain ⟨⟨N, e1, e2⟩, e3⟩ := h1
    cases l2 with
    | nil => obtain ⟨M, f1, f2⟩ := h2; rw [e1] at f1; cases f1; rw [e2] at f2; cases f2
    | cons p2 t => obtain ⟨⟨M, f1, f2⟩, f3⟩ := h2; rw [e1] at f1; cases f1; rw [e2] at f2; cases f2; rw [ih t p e3 f3]
theorem fs_dep_le {nd : fs_D} {k t : Nat} (hk : fs_ch nd k (fs_ab nd k)) (ht : fs_ch nd t (fs_ab nd t)) (h : fs_un nd k t = true) : (fs_ab nd t).length ≤ (fs_ab nd k).length := by
  rcases of_decide_eq_true h with rfl | hm
  · exact Nat.le_refl _
  · obtain ⟨l2, e1, e2⟩ := fs_ch_tail _ _ _ hk hm
    rw [fs_ch_uq _ _ _ ht e1]; omega
theorem fs_par {g : fw_G} {w : fw_W} {nd : fs_D} {ad : Nat → Option Nat} {lq ld lc : Nat → Nat} {lt : Nat → List Nat} (h : fs_rN g w nd ad lq ld lc lt) {k t b : Nat} {N T : fs_N} (hN : nd k = some N) (hc : fs_ch nd k (fs_ab nd k)) (ht : nd t = some T) (hb : ad t = some b) : N.2.1.bind ad = some b ↔ N.2.1 = some t := by
  constructor
  · intro hh
    cases hp : N.2.1 with
    | none => rw [hp] at hh; cases hh
    | some p =>
      rw [hp] at hh
      have hh2 : ad p = some b := hh
      cases hA : nd p with
      | none => rw [h.1 p hA] at hh2; cases hh2
      | some P => rw [fs_inj h hA ht hh2 hb]
  · intro hh
    rw [hh]; exact hb
theorem c_dep {g : fw_G} {nc ns : Nat} {w : fw_W} {nd : fs_D} {ad : Nat → Option Nat} {lq ld lc : Nat → Nat} {lt : Nat → List Nat} (hr : fs_rN g w nd ad lq ld lc lt) {k a : Nat} (hc : fs_ch nd k (fs_ab nd k)) (ha : ad k = some a) : fw_R g m_ND_depth (fw_pv (.int (nI (fs_ab nd k).length)) w) nc ns w 0 [(0, .ref a)] [] := by
  obtain ⟨l2, e1, e2⟩ := fs_cl hr _ _ _ hc ha
  have e3 : l2.length = (fs_ab nd k).length := by have := congrArg List.length e2; simpa using this
  rw [← e3]
  exact c_ND_depth e1
theorem c_lies {g : fw_G} {nc ns : Nat} {w : fw_W} {nd : fs_D} {ad : Nat → Option Nat} {lq ld lc : Nat → Nat} {lt : Nat → List Nat} (hr : fs_rN g w nd ad lq ld lc lt) {k a t b : Nat} {T : fs_N} (hc : fs_ch nd k (fs_ab nd k)) (ha : ad k = some a) (ht : nd t = some T) (hb : ad t = some b) : fw_R g m_ND_liesWithin (fw_pv (.int (bI (fs_un nd k t))) w) nc ns w 0 [(0, .ref a), (1, .ref b)] [] := by
  obtain ⟨l2, e1, e2⟩ := fs_cl hr _ _ _ hc ha
  rw [← fs_un_at hr hc ha ht hb e2]
  exact c_ND_lies e1
def fs_f1 (nd : fs_D) (k : Nat) : Nat := match nd k with
  | some _ => 1
  | none => 0
def fs_f2 (nd : fs_D) (k : Nat) : Nat := match nd k with
  | some N => N.2.2.2.2.2.length
  | none => 0
def fs_f3 (nd : fs_D) (k : Nat) : Nat := match nd k with
  | some N => if N.2.2.2.2.1 = true then 1 else 0
  | none => 0
def fs_f4 (nd : fs_D) (t k : Nat) : Nat := match nd k with
  | some N => if N.2.1 = some t then 1 else 0
  | none => 0
theorem c_FR_countNodes_l {g : fw_G} {nc ns : Nat} {w : fw_W} {o gr na us : Nat} (h0 : w o = some (.inr (0, [.ref gr, .ref na, .int (nI us)]))) {nd : fs_D} {ad : Nat → Option Nat} {lq ld lc : Nat → Nat} {lt : Nat → List Nat} (hN : w na = some (fs_no g ad)) (hr : fs_rN g w nd ad lq ld lc lt) : ∀ m k c, k + m = 150 → ∀ L : List (Nat × Value), L = [(0, .ref o), (1, .int (nI c)), (2, .ref na), (3, .int (nI 150)), (4, .int (nI k))] → fw_R g m_FR_countNodes (fw_pv (.int (nI (c + fs_sum (fs_f1 nd) m k))) w) nc ns w 13 L [] := by
  intro m
  induction m with
  | zero =>
    intro k c hk L hL
    have hk2 : k = 150 := by omega
    subst hk2 hL
    refine fr_iload (pc := 13) d_FR_countNodes_13 rfl ?_
    refine fr_iload_n (pc := 15) d_FR_countNodes_15 rfl rfl ?_
    refine fr_icmp_ge (pc := 16) (tgt := 39) d_FR_countNodes_16 (by decide) (fun q => ?_) (fun q => ?_)
    · refine fr_iload_n (pc := 39) d_FR_countNodes_39 rfl rfl ?_
      exact fr_iret rfl d_FR_countNodes_40 ⟨rfl, rfl⟩
    · exact absurd ((ni_le (a := 150) (b := 150) (by omega) (by omega)).mpr (by omega)) q
  | succ m ih =>
    intro k c hk L hL
    subst hL
    refine fr_iload (pc := 13) d_FR_countNodes_13 rfl ?_
    refine fr_iload_n (pc := 15) d_FR_countNodes_15 rfl rfl ?_
    refine fr_icmp_ge (pc := 16) (tgt := 39) d_FR_countNodes_16 (by decide) (fun q => ?_) (fun q => ?_)
    · exact absurd ((ni_le (a := 150) (by omega) (by omega)).mp q) (by omega)
    · refine fr_aload_n (pc := 19) d_FR_countNodes_19 rfl rfl ?_
      refine fr_iload (pc := 20) d_FR_countNodes_20 rfl ?_
      refine fr_aaldN (pc := 22) (t := 3) (n := 150) (k := k) (C := "FolderRights$Node") (f := ad) d_FR_countNodes_22 rfl hN (by omega) (by omega) ?_
      cases hA : nd k with
      | none =>
        refine fr_st (st2 := [.null]) (by rw [rf_none (hr.1 k hA)]) ?_
        refine fr_astoreN (pc := 23) (L2 := [(0, .ref o), (1, .int (nI c)), (2, .ref na), (3, .int (nI 150)), (4, .int (nI k)), (5, .null)]) d_FR_countNodes_23 (by decide) rfl ?_
        refine fr_aloadN (pc := 25) d_FR_countNodes_25 rfl ?_
        refine fr_ifnullN (pc := 27) (tgt := 33) d_FR_countNodes_27 (by decide) ?_
        refine fr_iinc (pc := 33) (v := (nI (k + 1))) (L2 := [(0, .ref o), (1, .int (nI c)), (2, .ref na), (3, .int (nI 150)), (4, .int (nI (k + 1))), (5, .null)]) d_FR_countNodes_33 rfl (fi_1 _) (by decide) rfl ?_
        refine fr_goto (pc := 36) (tgt := 13) d_FR_countNodes_36 (by decide) ?_
        have e : c + fs_sum (fs_f1 nd) (m + 1) k = (c) + fs_sum (fs_f1 nd) m (k + 1) := by simp [fs_sum, hA, fs_f1, fs_f2, fs_f3, fs_f4, *] <;> omega
        rw [e]
        exact fr_Ld (ih (k + 1) (c) (by omega) _ rfl)
      | some N =>
        obtain ⟨-, a, ha, hc, hl, hE⟩ := hr.2.1 k N hA
        refine fr_st (st2 := [.ref a]) (by rw [rf_some ha]) ?_
        refine fr_astore (pc := 23) (L2 := [(0, .ref o), (1, .int (nI c)), (2, .ref na), (3, .int (nI 150)), (4, .int (nI k)), (5, .ref a)]) d_FR_countNodes_23 (by decide) rfl ?_
        refine fr_aload (pc := 25) d_FR_countNodes_25 rfl ?_
        refine fr_ifnull (pc := 27) d_FR_countNodes_27 ?_
        refine fr_iinc (pc := 30) (v := (nI (c + 1))) (L2 := [(0, .ref o), (1, .int (nI (c + 1))), (2, .ref na), (3, .int (nI 150)), (4, .int (nI k)), (5, .ref a)]) d_FR_countNodes_30 rfl (fi_1 _) (by decide) rfl ?_
        refine fr_iinc (pc := 33) (v := (nI (k + 1))) (L2 := [(0, .ref o), (1, .int (nI (c + 1))), (2, .ref na), (3, .int (nI 150)), (4, .int (nI (k + 1))), (5, .ref a)]) d_FR_countNodes_33 rfl (fi_1 _) (by decide) rfl ?_
        refine fr_goto (pc := 36) (tgt := 13) d_FR_countNodes_36 (by decide) ?_
        have e : c + fs_sum (fs_f1 nd) (m + 1) k = (c + 1) + fs_sum (fs_f1 nd) m (k + 1) := by simp [fs_sum, hA, fs_f1, fs_f2, fs_f3, fs_f4, *] <;> omega
        rw [e]
        exact fr_Ld (ih (k + 1) (c + 1) (by omega) _ rfl)
theorem c_FR_countNodes {g : fw_G} {nc ns : Nat} {w : fw_W} {o gr na us : Nat} (h0 : w o = some (.inr (0, [.ref gr, .ref na, .int (nI us)]))) {nd : fs_D} {ad : Nat → Option Nat} {lq ld lc : Nat → Nat} {lt : Nat → List Nat} (hN : w na = some (fs_no g ad)) (hr : fs_rN g w nd ad lq ld lc lt) : fw_R g m_FR_countNodes (fw_pv (.int (nI (0 + fs_sum (fs_f1 nd) 150 0))) w) nc ns w 0 [(0, .ref o)] [] := by
  refine fr_iconst (pc := 0) (v := 0) d_FR_countNodes_0 (by decide) ?_
  refine fr_istore_n (pc := 1) (L2 := [(0, .ref o), (1, .int 0)]) d_FR_countNodes_1 rfl (by decide) rfl ?_
  refine fr_aload_n (pc := 2) d_FR_countNodes_2 rfl rfl ?_
  refine fr_get (pc := 3) (v := .ref na) d_FR_countNodes_3 fg_FR_18 h0 rfl ?_
  refine fr_astore_n (pc := 6) (L2 := [(0, .ref o), (1, .int 0), (2, .ref na)]) d_FR_countNodes_6 rfl (by decide) rfl ?_
  refine fr_aload_n (pc := 7) d_FR_countNodes_7 rfl rfl ?_
  refine fr_alen (pc := 8) (t := 3) (v := (nI 150)) d_FR_countNodes_8 rfl hN rfl ?_
  refine fr_istore_n (pc := 9) (L2 := [(0, .ref o), (1, .int 0), (2, .ref na), (3, .int (nI 150))]) d_FR_countNodes_9 rfl (by decide) rfl ?_
  refine fr_iconst (pc := 10) (v := 0) d_FR_countNodes_10 (by decide) ?_
  refine fr_istore (pc := 11) (L2 := [(0, .ref o), (1, .int 0), (2, .ref na), (3, .int (nI 150)), (4, .int 0)]) d_FR_countNodes_11 (by decide) rfl ?_
  exact c_FR_countNodes_l h0 hN hr 150 0 0 rfl _ rfl
theorem c_FR_countEntries_l {g : fw_G} {nc ns : Nat} {w : fw_W} {o gr na us : Nat} (h0 : w o = some (.inr (0, [.ref gr, .ref na, .int (nI us)]))) {nd : fs_D} {ad : Nat → Option Nat} {lq ld lc : Nat → Nat} {lt : Nat → List Nat} (hN : w na = some (fs_no g ad)) (hr : fs_rN g w nd ad lq ld lc lt) : ∀ m k c, k + m = 150 → ∀ L : List (Nat × Value), L = [(0, .ref o), (1, .int (nI c)), (2, .ref na), (3, .int (nI 150)), (4, .int (nI k))] → fw_R g m_FR_countEntries (fw_pv (.int (nI (c + fs_sum (fs_f2 nd) m k))) w) nc ns w 13 L [] := by
  intro m
  induction m with
  | zero =>
    intro k c hk L hL
    have hk2 : k = 150 := by omega
    subst hk2 hL
    refine fr_iload (pc := 13) d_FR_countEntries_13 rfl ?_
    refine fr_iload_n (pc := 15) d_FR_countEntries_15 rfl rfl ?_
    refine fr_icmp_ge (pc := 16) (tgt := 47) d_FR_countEntries_16 (by decide) (fun q => ?_) (fun q => ?_)
    · refine fr_iload_n (pc := 47) d_FR_countEntries_47 rfl rfl ?_
      exact fr_iret rfl d_FR_countEntries_48 ⟨rfl, rfl⟩
    · exact absurd ((ni_le (a := 150) (b := 150) (by omega) (by omega)).mpr (by omega)) q
  | succ m ih =>
    intro k c hk L hL
    subst hL
    refine fr_iload (pc := 13) d_FR_countEntries_13 rfl ?_
    refine fr_iload_n (pc := 15) d_FR_countEntries_15 rfl rfl ?_
    refine fr_icmp_ge (pc := 16) (tgt := 47) d_FR_countEntries_16 (by decide) (fun q => ?_) (fun q => ?_)
    · exact absurd ((ni_le (a := 150) (by omega) (by omega)).mp q) (by omega)
    · refine fr_aload_n (pc := 19) d_FR_countEntries_19 rfl rfl ?_
      refine fr_iload (pc := 20) d_FR_countEntries_20 rfl ?_
      refine fr_aaldN (pc := 22) (t := 3) (n := 150) (k := k) (C := "FolderRights$Node") (f := ad) d_FR_countEntries_22 rfl hN (by omega) (by omega) ?_
      cases hA : nd k with
      | none =>
        refine fr_st (st2 := [.null]) (by rw [rf_none (hr.1 k hA)]) ?_
        refine fr_astoreN (pc := 23) (L2 := [(0, .ref o), (1, .int (nI c)), (2, .ref na), (3, .int (nI 150)), (4, .int (nI k)), (5, .null)]) d_FR_countEntries_23 (by decide) rfl ?_
        refine fr_aloadN (pc := 25) d_FR_countEntries_25 rfl ?_
        refine fr_ifnullN (pc := 27) (tgt := 41) d_FR_countEntries_27 (by decide) ?_
        refine fr_iinc (pc := 41) (v := (nI (k + 1))) (L2 := [(0, .ref o), (1, .int (nI c)), (2, .ref na), (3, .int (nI 150)), (4, .int (nI (k + 1))), (5, .null)]) d_FR_countEntries_41 rfl (fi_1 _) (by decide) rfl ?_
        refine fr_goto (pc := 44) (tgt := 13) d_FR_countEntries_44 (by decide) ?_
        have e : c + fs_sum (fs_f2 nd) (m + 1) k = (c) + fs_sum (fs_f2 nd) m (k + 1) := by simp [fs_sum, hA, fs_f1, fs_f2, fs_f3, fs_f4, *] <;> omega
        rw [e]
        exact fr_Ld (ih (k + 1) (c) (by omega) _ rfl)
      | some N =>
        obtain ⟨-, a, ha, hc, hl, hE⟩ := hr.2.1 k N hA
        refine fr_st (st2 := [.ref a]) (by rw [rf_some ha]) ?_
        refine fr_astore (pc := 23) (L2 := [(0, .ref o), (1, .int (nI c)), (2, .ref na), (3, .int (nI 150)), (4, .int (nI k)), (5, .ref a)]) d_FR_countEntries_23 (by decide) rfl ?_
        refine fr_aload (pc := 25) d_FR_countEntries_25 rfl ?_
        refine fr_ifnull (pc := 27) d_FR_countEntries_27 ?_
        refine fr_iload_n (pc := 30) d_FR_countEntries_30 rfl rfl ?_
        refine fr_aload (pc := 31) d_FR_countEntries_31 rfl ?_
        refine fr_get (pc := 33) (v := .ref (lq k)) d_FR_countEntries_33 fg_FR_119 hc rfl ?_
        have hq := hl
        obtain ⟨mc, hq1, -⟩ := hq
        refine fr_callv_p (pc := 36) (nc := nc) (ns := ns) (N := m_AL_size) (rest := [.int (nI c)]) (as := []) d_FR_countEntries_36 vc_FR_123 ⟨by decide, by decide, Nat.le_of_ble_eq_true rfl⟩ (Nat.le_of_ble_eq_true rfl) hq1 (c_AL_size hl) rfl ?_
        refine fr_iadd (pc := 39) d_FR_countEntries_39 ?_
        refine fr_st (st2 := [.int (nI (c + (lt k).length))]) (by rw [ni_add]) ?_
        refine fr_istore_n (pc := 40) (L2 := [(0, .ref o), (1, .int (nI (c + (lt k).length))), (2, .ref na), (3, .int (nI 150)), (4, .int (nI k)), (5, .ref a)]) d_FR_countEntries_40 rfl (by decide) rfl ?_
        refine fr_iinc (pc := 41) (v := (nI (k + 1))) (L2 := [(0, .ref o), (1, .int (nI (c + (lt k).length))), (2, .ref na), (3, .int (nI 150)), (4, .int (nI (k + 1))), (5, .ref a)]) d_FR_countEntries_41 rfl (fi_1 _) (by decide) rfl ?_
        refine fr_goto (pc := 44) (tgt := 13) d_FR_countEntries_44 (by decide) ?_
        have eL := hE.1
        have e : c + fs_sum (fs_f2 nd) (m + 1) k = (c + (lt k).length) + fs_sum (fs_f2 nd) m (k + 1) := by simp [fs_sum, hA, fs_f1, fs_f2, fs_f3, fs_f4, *] <;> omega
        rw [e]
        exact fr_Ld (ih (k + 1) (c + (lt k).length) (by omega) _ rfl)
theorem c_FR_countEntries {g : fw_G} {nc ns : Nat} {w : fw_W} {o gr na us : Nat} (h0 : w o = some (.inr (0, [.ref gr, .ref na, .int (nI us)]))) {nd : fs_D} {ad : Nat → Option Nat} {lq ld lc : Nat → Nat} {lt : Nat → List Nat} (hN : w na = some (fs_no g ad)) (hr : fs_rN g w nd ad lq ld lc lt) : fw_R g m_FR_countEntries (fw_pv (.int (nI (0 + fs_sum (fs_f2 nd) 150 0))) w) nc ns w 0 [(0, .ref o)] [] := by
  refine fr_iconst (pc := 0) (v := 0) d_FR_countEntries_0 (by decide) ?_
  refine fr_istore_n (pc := 1) (L2 := [(0, .ref o), (1, .int 0)]) d_FR_countEntries_1 rfl (by decide) rfl ?_
  refine fr_aload_n (pc := 2) d_FR_countEntries_2 rfl rfl ?_
  refine fr_get (pc := 3) (v := .ref na) d_FR_countEntries_3 fg_FR_18 h0 rfl ?_
  refine fr_astore_n (pc := 6) (L2 := [(0, .ref o), (1, .int 0), (2, .ref na)]) d_FR_countEntries_6 rfl (by decide) rfl ?_
  refine fr_aload_n (pc := 7) d_FR_countEntries_7 rfl rfl ?_
  refine fr_alen (pc := 8) (t := 3) (v := (nI 150)) d_FR_countEntries_8 rfl hN rfl ?_
  refine fr_istore_n (pc := 9) (L2 := [(0, .ref o), (1, .int 0), (2, .ref na), (3, .int (nI 150))]) d_FR_countEntries_9 rfl (by decide) rfl ?_
  refine fr_iconst (pc := 10) (v := 0) d_FR_countEntries_10 (by decide) ?_
  refine fr_istore (pc := 11) (L2 := [(0, .ref o), (1, .int 0), (2, .ref na), (3, .int (nI 150)), (4, .int 0)]) d_FR_countEntries_11 (by decide) rfl ?_
  exact c_FR_countEntries_l h0 hN hr 150 0 0 rfl _ rfl
theorem c_FR_stale_p_l {g : fw_G} {nc ns : Nat} {w : fw_W} {o gr na us : Nat} (h0 : w o = some (.inr (0, [.ref gr, .ref na, .int (nI us)]))) {nd : fs_D} {ad : Nat → Option Nat} {lq ld lc : Nat → Nat} {lt : Nat → List Nat} (hN : w na = some (fs_no g ad)) (hr : fs_rN g w nd ad lq ld lc lt) : ∀ m k c, k + m = 150 → ∀ L : List (Nat × Value), L = [(0, .ref o), (1, .int (nI c)), (2, .ref na), (3, .int (nI 150)), (4, .int (nI k))] → fw_R g m_FR_stale (fw_pv (.int (nI (c + fs_sum (fs_f3 nd) m k))) w) nc ns w 13 L [] := by
  intro m
  induction m with
  | zero =>
    intro k c hk L hL
    have hk2 : k = 150 := by omega
    subst hk2 hL
    refine fr_iload (pc := 13) d_FR_stale_13 rfl ?_
    refine fr_iload_n (pc := 15) d_FR_stale_15 rfl rfl ?_
    refine fr_icmp_ge (pc := 16) (tgt := 47) d_FR_stale_16 (by decide) (fun q => ?_) (fun q => ?_)
    · refine fr_iload_n (pc := 47) d_FR_stale_47 rfl rfl ?_
      exact fr_iret rfl d_FR_stale_48 ⟨rfl, rfl⟩
    · exact absurd ((ni_le (a := 150) (b := 150) (by omega) (by omega)).mpr (by omega)) q
  | succ m ih =>
    intro k c hk L hL
    subst hL
    refine fr_iload (pc := 13) d_FR_stale_13 rfl ?_
    refine fr_iload_n (pc := 15) d_FR_stale_15 rfl rfl ?_
    refine fr_icmp_ge (pc := 16) (tgt := 47) d_FR_stale_16 (by decide) (fun q => ?_) (fun q => ?_)
    · exact absurd ((ni_le (a := 150) (by omega) (by omega)).mp q) (by omega)
    · refine fr_aload_n (pc := 19) d_FR_stale_19 rfl rfl ?_
      refine fr_iload (pc := 20) d_FR_stale_20 rfl ?_
      refine fr_aaldN (pc := 22) (t := 3) (n := 150) (k := k) (C := "FolderRights$Node") (f := ad) d_FR_stale_22 rfl hN (by omega) (by omega) ?_
      cases hA : nd k with
      | none =>
        refine fr_st (st2 := [.null]) (by rw [rf_none (hr.1 k hA)]) ?_
        refine fr_astoreN (pc := 23) (L2 := [(0, .ref o), (1, .int (nI c)), (2, .ref na), (3, .int (nI 150)), (4, .int (nI k)), (5, .null)]) d_FR_stale_23 (by decide) rfl ?_
        refine fr_aloadN (pc := 25) d_FR_stale_25 rfl ?_
        refine fr_ifnullN (pc := 27) (tgt := 41) d_FR_stale_27 (by decide) ?_
        refine fr_iinc (pc := 41) (v := (nI (k + 1))) (L2 := [(0, .ref o), (1, .int (nI c)), (2, .ref na), (3, .int (nI 150)), (4, .int (nI (k + 1))), (5, .null)]) d_FR_stale_41 rfl (fi_1 _) (by decide) rfl ?_
        refine fr_goto (pc := 44) (tgt := 13) d_FR_stale_44 (by decide) ?_
        have e : c + fs_sum (fs_f3 nd) (m + 1) k = (c) + fs_sum (fs_f3 nd) m (k + 1) := by simp [fs_sum, hA, fs_f1, fs_f2, fs_f3, fs_f4, *] <;> omega
        rw [e]
        exact fr_Ld (ih (k + 1) (c) (by omega) _ rfl)
      | some N =>
        obtain ⟨-, a, ha, hc, hl, hE⟩ := hr.2.1 k N hA
        refine fr_st (st2 := [.ref a]) (by rw [rf_some ha]) ?_
        refine fr_astore (pc := 23) (L2 := [(0, .ref o), (1, .int (nI c)), (2, .ref na), (3, .int (nI 150)), (4, .int (nI k)), (5, .ref a)]) d_FR_stale_23 (by decide) rfl ?_
        refine fr_aload (pc := 25) d_FR_stale_25 rfl ?_
        refine fr_ifnull (pc := 27) d_FR_stale_27 ?_
        refine fr_aload (pc := 30) d_FR_stale_30 rfl ?_
        refine fr_get (pc := 32) (v := .int (bI N.2.2.2.2.1)) d_FR_stale_32 fg_FR_110 hc rfl ?_
        refine fr_if_eq (pc := 35) (tgt := 41) d_FR_stale_35 (by decide) (fun q => ?_) (fun q => ?_)
        · refine fr_iinc (pc := 41) (v := (nI (k + 1))) (L2 := [(0, .ref o), (1, .int (nI c)), (2, .ref na), (3, .int (nI 150)), (4, .int (nI (k + 1))), (5, .ref a)]) d_FR_stale_41 rfl (fi_1 _) (by decide) rfl ?_
          refine fr_goto (pc := 44) (tgt := 13) d_FR_stale_44 (by decide) ?_
          have hs := bI_0.mp q
          have e : c + fs_sum (fs_f3 nd) (m + 1) k = (c) + fs_sum (fs_f3 nd) m (k + 1) := by simp [fs_sum, hA, fs_f1, fs_f2, fs_f3, fs_f4, *] <;> omega
          rw [e]
          exact fr_Ld (ih (k + 1) (c) (by omega) _ rfl)
        · refine fr_iinc (pc := 38) (v := (nI (c + 1))) (L2 := [(0, .ref o), (1, .int (nI (c + 1))), (2, .ref na), (3, .int (nI 150)), (4, .int (nI k)), (5, .ref a)]) d_FR_stale_38 rfl (fi_1 _) (by decide) rfl ?_
          refine fr_iinc (pc := 41) (v := (nI (k + 1))) (L2 := [(0, .ref o), (1, .int (nI (c + 1))), (2, .ref na), (3, .int (nI 150)), (4, .int (nI (k + 1))), (5, .ref a)]) d_FR_stale_41 rfl (fi_1 _) (by decide) rfl ?_
          refine fr_goto (pc := 44) (tgt := 13) d_FR_stale_44 (by decide) ?_
          have hs := ts_nf (fun z => q (bI_0.mpr z))
          have e : c + fs_sum (fs_f3 nd) (m + 1) k = (c + 1) + fs_sum (fs_f3 nd) m (k + 1) := by simp [fs_sum, hA, fs_f1, fs_f2, fs_f3, fs_f4, *] <;> omega
          rw [e]
          exact fr_Ld (ih (k + 1) (c + 1) (by omega) _ rfl)
theorem c_FR_stale_p {g : fw_G} {nc ns : Nat} {w : fw_W} {o gr na us : Nat} (h0 : w o = some (.inr (0, [.ref gr, .ref na, .int (nI us)]))) {nd : fs_D} {ad : Nat → Option Nat} {lq ld lc : Nat → Nat} {lt : Nat → List Nat} (hN : w na = some (fs_no g ad)) (hr : fs_rN g w nd ad lq ld lc lt) : fw_R g m_FR_stale (fw_pv (.int (nI (0 + fs_sum (fs_f3 nd) 150 0))) w) nc ns w 0 [(0, .ref o)] [] := by
  refine fr_iconst (pc := 0) (v := 0) d_FR_stale_0 (by decide) ?_
  refine fr_istore_n (pc := 1) (L2 := [(0, .ref o), (1, .int 0)]) d_FR_stale_1 rfl (by decide) rfl ?_
  refine fr_aload_n (pc := 2) d_FR_stale_2 rfl rfl ?_
  refine fr_get (pc := 3) (v := .ref na) d_FR_stale_3 fg_FR_18 h0 rfl ?_
  refine fr_astore_n (pc := 6) (L2 := [(0, .ref o), (1, .int 0), (2, .ref na)]) d_FR_stale_6 rfl (by decide) rfl ?_
  refine fr_aload_n (pc := 7) d_FR_stale_7 rfl rfl ?_
  refine fr_alen (pc := 8) (t := 3) (v := (nI 150)) d_FR_stale_8 rfl hN rfl ?_
  refine fr_istore_n (pc := 9) (L2 := [(0, .ref o), (1, .int 0), (2, .ref na), (3, .int (nI 150))]) d_FR_stale_9 rfl (by decide) rfl ?_
  refine fr_iconst (pc := 10) (v := 0) d_FR_stale_10 (by decide) ?_
  refine fr_istore (pc := 11) (L2 := [(0, .ref o), (1, .int 0), (2, .ref na), (3, .int (nI 150)), (4, .int 0)]) d_FR_stale_11 (by decide) rfl ?_
  exact c_FR_stale_p_l h0 hN hr 150 0 0 rfl _ rfl
theorem c_FR_childrenOf_l {g : fw_G} {nc ns : Nat} {w : fw_W} {o gr na us : Nat} (h0 : w o = some (.inr (0, [.ref gr, .ref na, .int (nI us)]))) {nd : fs_D} {ad : Nat → Option Nat} {lq ld lc : Nat → Nat} {lt : Nat → List Nat} (hN : w na = some (fs_no g ad)) (hr : fs_rN g w nd ad lq ld lc lt) (hch : ∀ k N, nd k = some N → fs_ch nd k (fs_ab nd k)) {t b : Nat} {T : fs_N} (ht : nd t = some T) (hb : ad t = some b) : ∀ m k c, k + m = 150 → ∀ L : List (Nat × Value), L = [(0, .ref o), (1, .ref b), (2, .int (nI c)), (3, .ref na), (4, .int (nI 150)), (5, .int (nI k))] → fw_R g m_FR_childrenOf (fw_pv (.int (nI (c + fs_sum (fs_f4 nd t) m k))) w) nc ns w 14 L [] := by
  intro m
  induction m with
  | zero =>
    intro k c hk L hL
    have hk2 : k = 150 := by omega
    subst hk2 hL
    refine fr_iload (pc := 14) d_FR_childrenOf_14 rfl ?_
    refine fr_iload (pc := 16) d_FR_childrenOf_16 rfl ?_
    refine fr_icmp_ge (pc := 18) (tgt := 50) d_FR_childrenOf_18 (by decide) (fun q => ?_) (fun q => ?_)
    · refine fr_iload_n (pc := 50) d_FR_childrenOf_50 rfl rfl ?_
      exact fr_iret rfl d_FR_childrenOf_51 ⟨rfl, rfl⟩
    · exact absurd ((ni_le (a := 150) (b := 150) (by omega) (by omega)).mpr (by omega)) q
  | succ m ih =>
    intro k c hk L hL
    subst hL
    refine fr_iload (pc := 14) d_FR_childrenOf_14 rfl ?_
    refine fr_iload (pc := 16) d_FR_childrenOf_16 rfl ?_
    refine fr_icmp_ge (pc := 18) (tgt := 50) d_FR_childrenOf_18 (by decide) (fun q => ?_) (fun q => ?_)
    · exact absurd ((ni_le (a := 150) (by omega) (by omega)).mp q) (by omega)
    · refine fr_aload_n (pc := 21) d_FR_childrenOf_21 rfl rfl ?_
      refine fr_iload (pc := 22) d_FR_childrenOf_22 rfl ?_
      refine fr_aaldN (pc := 24) (t := 3) (n := 150) (k := k) (C := "FolderRights$Node") (f := ad) d_FR_childrenOf_24 rfl hN (by omega) (by omega) ?_
      cases hA : nd k with
      | none =>
        refine fr_st (st2 := [.null]) (by rw [rf_none (hr.1 k hA)]) ?_
        refine fr_astoreN (pc := 25) (L2 := [(0, .ref o), (1, .ref b), (2, .int (nI c)), (3, .ref na), (4, .int (nI 150)), (5, .int (nI k)), (6, .null)]) d_FR_childrenOf_25 (by decide) rfl ?_
        refine fr_aloadN (pc := 27) d_FR_childrenOf_27 rfl ?_
        refine fr_ifnullN (pc := 29) (tgt := 44) d_FR_childrenOf_29 (by decide) ?_
        refine fr_iinc (pc := 44) (v := (nI (k + 1))) (L2 := [(0, .ref o), (1, .ref b), (2, .int (nI c)), (3, .ref na), (4, .int (nI 150)), (5, .int (nI (k + 1))), (6, .null)]) d_FR_childrenOf_44 rfl (fi_1 _) (by decide) rfl ?_
        refine fr_goto (pc := 47) (tgt := 14) d_FR_childrenOf_47 (by decide) ?_
        have e : c + fs_sum (fs_f4 nd t) (m + 1) k = (c) + fs_sum (fs_f4 nd t) m (k + 1) := by simp [fs_sum, hA, fs_f1, fs_f2, fs_f3, fs_f4, *] <;> omega
        rw [e]
        exact fr_Ld (ih (k + 1) (c) (by omega) _ rfl)
      | some N =>
        obtain ⟨-, a, ha, hc, hl, hE⟩ := hr.2.1 k N hA
        refine fr_st (st2 := [.ref a]) (by rw [rf_some ha]) ?_
        refine fr_astore (pc := 25) (L2 := [(0, .ref o), (1, .ref b), (2, .int (nI c)), (3, .ref na), (4, .int (nI 150)), (5, .int (nI k)), (6, .ref a)]) d_FR_childrenOf_25 (by decide) rfl ?_
        refine fr_aload (pc := 27) d_FR_childrenOf_27 rfl ?_
        refine fr_ifnull (pc := 29) d_FR_childrenOf_29 ?_
        refine fr_aload (pc := 32) d_FR_childrenOf_32 rfl ?_
        refine fr_get (pc := 34) (v := va_rf (N.2.1.bind ad)) d_FR_childrenOf_34 fg_FR_103 hc rfl ?_
        refine fr_aload_n (pc := 37) d_FR_childrenOf_37 rfl rfl ?_
        have hp := fs_par hr hA (hch k N hA) ht hb
        refine fr_acmp_ne (pc := 38) (tgt := 44) (ry := (some b)) (rx := (N.2.1.bind ad)) d_FR_childrenOf_38 (by decide) (fun q => ?_) (fun q => ?_)
        · refine fr_iinc (pc := 44) (v := (nI (k + 1))) (L2 := [(0, .ref o), (1, .ref b), (2, .int (nI c)), (3, .ref na), (4, .int (nI 150)), (5, .int (nI (k + 1))), (6, .ref a)]) d_FR_childrenOf_44 rfl (fi_1 _) (by decide) rfl ?_
          refine fr_goto (pc := 47) (tgt := 14) d_FR_childrenOf_47 (by decide) ?_
          have hs : ¬ N.2.1 = some t := fun z => q (hp.mpr z)
          have e : c + fs_sum (fs_f4 nd t) (m + 1) k = (c) + fs_sum (fs_f4 nd t) m (k + 1) := by simp [fs_sum, hA, fs_f1, fs_f2, fs_f3, fs_f4, *] <;> omega
          rw [e]
          exact fr_Ld (ih (k + 1) (c) (by omega) _ rfl)
        · refine fr_iinc (pc := 41) (v := (nI (c + 1))) (L2 := [(0, .ref o), (1, .ref b), (2, .int (nI (c + 1))), (3, .ref na), (4, .int (nI 150)), (5, .int (nI k)), (6, .ref a)]) d_FR_childrenOf_41 rfl (fi_1 _) (by decide) rfl ?_
          refine fr_iinc (pc := 44) (v := (nI (k + 1))) (L2 := [(0, .ref o), (1, .ref b), (2, .int (nI (c + 1))), (3, .ref na), (4, .int (nI 150)), (5, .int (nI (k + 1))), (6, .ref a)]) d_FR_childrenOf_44 rfl (fi_1 _) (by decide) rfl ?_
          refine fr_goto (pc := 47) (tgt := 14) d_FR_childrenOf_47 (by decide) ?_
          have hs := hp.mp q
          have e : c + fs_sum (fs_f4 nd t) (m + 1) k = (c + 1) + fs_sum (fs_f4 nd t) m (k + 1) := by simp [fs_sum, hA, fs_f1, fs_f2, fs_f3, fs_f4, *] <;> omega
          rw [e]
          exact fr_Ld (ih (k + 1) (c + 1) (by omega) _ rfl)
theorem c_FR_childrenOf {g : fw_G} {nc ns : Nat} {w : fw_W} {o gr na us : Nat} (h0 : w o = some (.inr (0, [.ref gr, .ref na, .int (nI us)]))) {nd : fs_D} {ad : Nat → Option Nat} {lq ld lc : Nat → Nat} {lt : Nat → List Nat} (hN : w na = some (fs_no g ad)) (hr : fs_rN g w nd ad lq ld lc lt) (hch : ∀ k N, nd k = some N → fs_ch nd k (fs_ab nd k)) {t b : Nat} {T : fs_N} (ht : nd t = some T) (hb : ad t = some b) : fw_R g m_FR_childrenOf (fw_pv (.int (nI (0 + fs_sum (fs_f4 nd t) 150 0))) w) nc ns w 0 [(0, .ref o), (1, .ref b)] [] := by
  refine fr_iconst (pc := 0) (v := 0) d_FR_childrenOf_0 (by decide) ?_
  refine fr_istore_n (pc := 1) (L2 := [(0, .ref o), (1, .ref b), (2, .int 0)]) d_FR_childrenOf_1 rfl (by decide) rfl ?_
  refine fr_aload_n (pc := 2) d_FR_childrenOf_2 rfl rfl ?_
  refine fr_get (pc := 3) (v := .ref na) d_FR_childrenOf_3 fg_FR_18 h0 rfl ?_
  refine fr_astore_n (pc := 6) (L2 := [(0, .ref o), (1, .ref b), (2, .int 0), (3, .ref na)]) d_FR_childrenOf_6 rfl (by decide) rfl ?_
  refine fr_aload_n (pc := 7) d_FR_childrenOf_7 rfl rfl ?_
  refine fr_alen (pc := 8) (t := 3) (v := (nI 150)) d_FR_childrenOf_8 rfl hN rfl ?_
  refine fr_istore (pc := 9) (L2 := [(0, .ref o), (1, .ref b), (2, .int 0), (3, .ref na), (4, .int (nI 150))]) d_FR_childrenOf_9 (by decide) rfl ?_
  refine fr_iconst (pc := 11) (v := 0) d_FR_childrenOf_11 (by decide) ?_
  refine fr_istore (pc := 12) (L2 := [(0, .ref o), (1, .ref b), (2, .int 0), (3, .ref na), (4, .int (nI 150)), (5, .int 0)]) d_FR_childrenOf_12 (by decide) rfl ?_
  exact c_FR_childrenOf_l h0 hN hr hch ht hb 150 0 0 rfl _ rfl
end
section
def fs_f5 (nd : fs_D) (t k : Nat) : Nat := match nd k with
  | some _ => if fs_un nd k t = true then (fs_ab nd k).length - (fs_ab nd t).length else 0
  | none => 0
theorem c_FR_heightOf_l {g : fw_G} {nc ns : Nat} {w : fw_W} {o gr na us : Nat} (h0 : w o = some (.inr (0, [.ref gr, .ref na, .int (nI us)]))) {nd : fs_D} {ad : Nat → Option Nat} {lq ld lc : Nat → Nat} {lt : Nat → List Nat} (hN : w na = some (fs_no g ad)) (hr : fs_rN g w nd ad lq ld lc lt) (hch : ∀ k N, nd k = some N → fs_ch nd k (fs_ab nd k)) (hd : ∀ k N, nd k = some N → (fs_ab nd k).length ≤ 20) {t b : Nat} {T : fs_N} (ht : nd t = some T) (hb : ad t = some b) : ∀ m k c, k + m = 150 → c ≤ 20 → ∀ L : List (Nat × Value), L = [(0, .ref o), (1, .ref b), (2, .int (nI (fs_ab nd t).length)), (3, .int (nI c)), (4, .ref na), (5, .int (nI 150)), (6, .int (nI k))] → fw_R g m_FR_heightOf (fw_pv (.int (nI (fs_hi (fs_f5 nd t) m k c))) w) nc ns w 21 L [] := by
  intro m
  induction m with
  | zero =>
    intro k c hk hc20 L hL
    have hk2 : k = 150 := by omega
    subst hk2 hL
    refine fr_iload (pc := 21) d_FR_heightOf_21 rfl ?_
    refine fr_iload (pc := 23) d_FR_heightOf_23 rfl ?_
    refine fr_icmp_ge (pc := 25) (tgt := 67) d_FR_heightOf_25 (by decide) (fun q => ?_) (fun q => ?_)
    · refine fr_iload_n (pc := 67) d_FR_heightOf_67 rfl rfl ?_
      exact fr_iret rfl d_FR_heightOf_68 ⟨rfl, rfl⟩
    · exact absurd ((ni_le (a := 150) (b := 150) (by omega) (by omega)).mpr (by omega)) q
  | succ m ih =>
    intro k c hk hc20 L hL
    subst hL
    refine fr_iload (pc := 21) d_FR_heightOf_21 rfl ?_
    refine fr_iload (pc := 23) d_FR_heightOf_23 rfl ?_
    refine fr_icmp_ge (pc := 25) (tgt := 67) d_FR_heightOf_25 (by decide) (fun q => ?_) (fun q => ?_)
    · exact absurd ((ni_le (a := 150) (by omega) (by omega)).mp q) (by omega)
    · refine fr_aload (pc := 28) d_FR_heightOf_28 rfl ?_
      refine fr_iload (pc := 30) d_FR_heightOf_30 rfl ?_
      refine fr_aaldN (pc := 32) (t := 3) (n := 150) (k := k) (C := "FolderRights$Node") (f := ad) d_FR_heightOf_32 rfl hN (by omega) (by omega) ?_
      cases hA : nd k with
      | none =>
        refine fr_st (st2 := [.null]) (by rw [rf_none (hr.1 k hA)]) ?_
        refine fr_astoreN (pc := 33) (L2 := [(0, .ref o), (1, .ref b), (2, .int (nI (fs_ab nd t).length)), (3, .int (nI c)), (4, .ref na), (5, .int (nI 150)), (6, .int (nI k)), (7, .null)]) d_FR_heightOf_33 (by decide) rfl ?_
        refine fr_aloadN (pc := 35) d_FR_heightOf_35 rfl ?_
        refine fr_ifnullN (pc := 37) (tgt := 61) d_FR_heightOf_37 (by decide) ?_
        refine fr_iinc (pc := 61) (v := (nI (k + 1))) (L2 := [(0, .ref o), (1, .ref b), (2, .int (nI (fs_ab nd t).length)), (3, .int (nI c)), (4, .ref na), (5, .int (nI 150)), (6, .int (nI (k + 1))), (7, .null)]) d_FR_heightOf_61 rfl (fi_1 _) (by decide) rfl ?_
        refine fr_goto (pc := 64) (tgt := 21) d_FR_heightOf_64 (by decide) ?_
        have e : fs_hi (fs_f5 nd t) (m + 1) k c = fs_hi (fs_f5 nd t) m (k + 1) c := by simp [fs_hi, fs_f5, hA]
        rw [e]
        exact fr_Ld (ih (k + 1) c (by omega) hc20 _ rfl)
      | some N =>
        obtain ⟨-, a, ha, hc, hl, hE⟩ := hr.2.1 k N hA
        refine fr_st (st2 := [.ref a]) (by rw [rf_some ha]) ?_
        refine fr_astore (pc := 33) (L2 := [(0, .ref o), (1, .ref b), (2, .int (nI (fs_ab nd t).length)), (3, .int (nI c)), (4, .ref na), (5, .int (nI 150)), (6, .int (nI k)), (7, .ref a)]) d_FR_heightOf_33 (by decide) rfl ?_
        refine fr_aload (pc := 35) d_FR_heightOf_35 rfl ?_
        refine fr_ifnull (pc := 37) d_FR_heightOf_37 ?_
        refine fr_aload (pc := 40) d_FR_heightOf_40 rfl ?_
        refine fr_aload_n (pc := 42) d_FR_heightOf_42 rfl rfl ?_
        refine fr_callv_p (pc := 43) (nc := nc) (ns := ns) (N := m_ND_liesWithin) (rest := []) (as := [.ref b]) d_FR_heightOf_43 vc_FR_88 ⟨by decide, by decide, Nat.le_of_ble_eq_true rfl⟩ (Nat.le_of_ble_eq_true rfl) hc (c_lies hr (hch k N hA) ha ht hb) rfl ?_
        refine fr_if_eq (pc := 46) (tgt := 61) d_FR_heightOf_46 (by decide) (fun z => ?_) (fun z => ?_)
        · refine fr_iinc (pc := 61) (v := (nI (k + 1))) (L2 := [(0, .ref o), (1, .ref b), (2, .int (nI (fs_ab nd t).length)), (3, .int (nI c)), (4, .ref na), (5, .int (nI 150)), (6, .int (nI (k + 1))), (7, .ref a)]) d_FR_heightOf_61 rfl (fi_1 _) (by decide) rfl ?_
          refine fr_goto (pc := 64) (tgt := 21) d_FR_heightOf_64 (by decide) ?_
          have hs := bI_0.mp z
          have e : fs_hi (fs_f5 nd t) (m + 1) k c = fs_hi (fs_f5 nd t) m (k + 1) c := by simp [fs_hi, fs_f5, hA, hs]
          rw [e]
          exact fr_Ld (ih (k + 1) c (by omega) hc20 _ rfl)
        · have hs := ts_nf (fun x => z (bI_0.mpr x))
          have hle := fs_dep_le (hch k N hA) (hch t T ht) hs
          have h20 := hd k N hA
          refine fr_iload_n (pc := 49) d_FR_heightOf_49 rfl rfl ?_
          refine fr_aload (pc := 50) d_FR_heightOf_50 rfl ?_
          refine fr_callv_p (pc := 52) (nc := nc) (ns := ns) (N := m_ND_depth) (rest := [.int (nI c)]) (as := []) d_FR_heightOf_52 vc_FR_80 ⟨by decide, by decide, Nat.le_of_ble_eq_true rfl⟩ (Nat.le_of_ble_eq_true rfl) hc (c_dep hr (hch k N hA) ha) rfl ?_
          refine fr_iload_n (pc := 55) d_FR_heightOf_55 rfl rfl ?_
          refine fr_isub (pc := 56) d_FR_heightOf_56 ?_
          refine fr_st (st2 := [.int (nI ((fs_ab nd k).length - (fs_ab nd t).length)), .int (nI c)]) (by rw [ni_sub hle]) ?_
          refine fr_calls_p (pc := 57) (nc := nc) (ns := ns) (N := m_MA_max) (rest := []) (as := [.int (nI c), .int (nI ((fs_ab nd k).length - (fs_ab nd t).length))]) d_FR_heightOf_57 k_MA_max lk_FR_240 sc_MA_max np_MA_max ⟨by decide, by decide, Nat.le_of_ble_eq_true rfl⟩ (Nat.le_of_ble_eq_true rfl) (c_MA_max (by omega) (by omega)) rfl ?_
          refine fr_istore_n (pc := 60) (L2 := [(0, .ref o), (1, .ref b), (2, .int (nI (fs_ab nd t).length)), (3, .int (nI (max c ((fs_ab nd k).length - (fs_ab nd t).length)))), (4, .ref na), (5, .int (nI 150)), (6, .int (nI k)), (7, .ref a)]) d_FR_heightOf_60 rfl (by decide) rfl ?_
          refine fr_iinc (pc := 61) (v := (nI (k + 1))) (L2 := [(0, .ref o), (1, .ref b), (2, .int (nI (fs_ab nd t).length)), (3, .int (nI (max c ((fs_ab nd k).length - (fs_ab nd t).length)))), (4, .ref na), (5, .int (nI 150)), (6, .int (nI (k + 1))), (7, .ref a)]) d_FR_heightOf_61 rfl (fi_1 _) (by decide) rfl ?_
          refine fr_goto (pc := 64) (tgt := 21) d_FR_heightOf_64 (by decide) ?_
          have e : fs_hi (fs_f5 nd t) (m + 1) k c = fs_hi (fs_f5 nd t) m (k + 1) (max c ((fs_ab nd k).length - (fs_ab nd t).length)) := by simp [fs_hi, fs_f5, hA, hs]
          rw [e]
          exact fr_Ld (ih (k + 1) _ (by omega) (by omega) _ rfl)
theorem c_FR_heightOf {g : fw_G} {nc ns : Nat} {w : fw_W} {o gr na us : Nat} (h0 : w o = some (.inr (0, [.ref gr, .ref na, .int (nI us)]))) {nd : fs_D} {ad : Nat → Option Nat} {lq ld lc : Nat → Nat} {lt : Nat → List Nat} (hN : w na = some (fs_no g ad)) (hr : fs_rN g w nd ad lq ld lc lt) (hch : ∀ k N, nd k = some N → fs_ch nd k (fs_ab nd k)) (hd : ∀ k N, nd k = some N → (fs_ab nd k).length ≤ 20) {t b : Nat} {T : fs_N} (ht : nd t = some T) (hb : ad t = some b) : fw_R g m_FR_heightOf (fw_pv (.int (nI (fs_hi (fs_f5 nd t) 150 0 0))) w) nc ns w 0 [(0, .ref o), (1, .ref b)] [] := by
  obtain ⟨-, b0, hb0, hcb, -, -⟩ := hr.2.1 t T ht
  rw [hb] at hb0; cases hb0
  refine fr_aload_n (pc := 0) d_FR_heightOf_0 rfl rfl ?_
  refine fr_callv_p (pc := 1) (nc := nc) (ns := ns) (N := m_ND_depth) (rest := []) (as := []) d_FR_heightOf_1 vc_FR_80 ⟨by decide, by decide, Nat.le_of_ble_eq_true rfl⟩ (Nat.le_of_ble_eq_true rfl) hcb (c_dep hr (hch t T ht) hb) rfl ?_
  refine fr_istore_n (pc := 4) (L2 := [(0, .ref o), (1, .ref b), (2, .int (nI (fs_ab nd t).length))]) d_FR_heightOf_4 rfl (by decide) rfl ?_
  refine fr_iconst (pc := 5) (v := 0) d_FR_heightOf_5 (by decide) ?_
  refine fr_istore_n (pc := 6) (L2 := [(0, .ref o), (1, .ref b), (2, .int (nI (fs_ab nd t).length)), (3, .int 0)]) d_FR_heightOf_6 rfl (by decide) rfl ?_
  refine fr_aload_n (pc := 7) d_FR_heightOf_7 rfl rfl ?_
  refine fr_get (pc := 8) (v := .ref na) d_FR_heightOf_8 fg_FR_18 h0 rfl ?_
  refine fr_astore (pc := 11) (L2 := [(0, .ref o), (1, .ref b), (2, .int (nI (fs_ab nd t).length)), (3, .int 0), (4, .ref na)]) d_FR_heightOf_11 (by decide) rfl ?_
  refine fr_aload (pc := 13) d_FR_heightOf_13 rfl ?_
  refine fr_alen (pc := 15) (t := 3) (v := (nI 150)) d_FR_heightOf_15 rfl hN rfl ?_
  refine fr_istore (pc := 16) (L2 := [(0, .ref o), (1, .ref b), (2, .int (nI (fs_ab nd t).length)), (3, .int 0), (4, .ref na), (5, .int (nI 150))]) d_FR_heightOf_16 (by decide) rfl ?_
  refine fr_iconst (pc := 18) (v := 0) d_FR_heightOf_18 (by decide) ?_
  refine fr_istore (pc := 19) (L2 := [(0, .ref o), (1, .ref b), (2, .int (nI (fs_ab nd t).length)), (3, .int 0), (4, .ref na), (5, .int (nI 150)), (6, .int 0)]) d_FR_heightOf_19 (by decide) rfl ?_
  exact c_FR_heightOf_l h0 hN hr hch hd ht hb 150 0 0 rfl (by omega) _ rfl
def fs_st (N : fs_N) (b : Bool) : fs_N := (N.1, N.2.1, N.2.2.1, N.2.2.2.1, b, N.2.2.2.2.2)
def fs_mk (nd : fs_D) (t i : Nat) : fs_D := fun k => match nd k with
  | some N => some (if k < i ∧ k ≠ t ∧ fs_un nd k t = true then fs_st N true else N)
  | none => none
theorem fs_mk_0 {nd : fs_D} {t : Nat} : fs_mk nd t 0 = nd := by
  funext k
  cases h : nd k with
  | none => simp [fs_mk, h]
  | some N => simp [fs_mk, h]
theorem fs_mk_at {nd : fs_D} {t k : Nat} : fs_mk nd t k k = nd k := by
  cases h : nd k with
  | none => simp [fs_mk, h]
  | some N => simp [fs_mk, h]
theorem fs_mk_no {nd : fs_D} {t k : Nat} (h : ∀ N, nd k = some N → ¬ (k ≠ t ∧ fs_un nd k t = true)) : fs_mk nd t (k + 1) = fs_mk nd t k := by
  funext j
  cases hj : nd j with
  | none => simp [fs_mk, hj]
  | some N =>
    by_cases e : j = k
    · subst e
      have := h N hj
      simp only [fs_mk, hj]
      rw [if_neg (fun z => this z.2), if_neg (fun z => this z.2)]
    · have e2 : j < k + 1 ↔ j < k := by omega
      simp only [fs_mk, hj, e2]
theorem fs_mk_yes {nd : fs_D} {t k : Nat} {N : fs_N} (hk : nd k = some N) (h1 : k ≠ t) (h2 : fs_un nd k t = true) : fs_mk nd t (k + 1) = va_up (fs_mk nd t k) k (some (fs_st N true)) := by
  funext j
  by_cases e : j = k
  · subst e
    rw [vu_self]
    simp only [fs_mk, hk]
    rw [if_pos ⟨by omega, h1, h2⟩]
  · rw [vu_ne e]
    cases hj : nd j with
    | none => simp [fs_mk, hj]
    | some M =>
      have e2 : j < k + 1 ↔ j < k := by omega
      simp only [fs_mk, hj, e2]
theorem fs_mk_pa {nd : fs_D} {t i : Nat} (k : Nat) : (fs_mk nd t i k).map (fun N => N.2.1) = (nd k).map (fun N => N.2.1) := by
  cases h : nd k with
  | none => simp [fs_mk, h]
  | some N =>
    simp only [fs_mk, h, Option.map_some]
    split <;> rfl
theorem fs_ab_eq {nd nd2 : fs_D} (h : ∀ k, (nd2 k).map (fun N => N.2.1) = (nd k).map (fun N => N.2.1)) (k : Nat) : fs_ab nd2 k = fs_ab nd k := fs_an_eq h 21 k
theorem fs_un_eq {nd nd2 : fs_D} (h : ∀ k, (nd2 k).map (fun N => N.2.1) = (nd k).map (fun N => N.2.1)) (k t : Nat) : fs_un nd2 k t = fs_un nd k t := by unfold fs_un; rw [fs_ab_eq h]
theorem c_FR_mark_l {g : fw_G} {nc ns : Nat} {w : fw_W} {o gr na us : Nat} (h0 : w o = some (.inr (0, [.ref gr, .ref na, .int (nI us)]))) {nd : fs_D} {ad : Nat → Option Nat} {lq ld lc : Nat → Nat} {lt : Nat → List Nat} (hN : w na = some (fs_no g ad)) (hch : ∀ k N, nd k = some N → fs_ch nd k (fs_ab nd k)) {t b : Nat} {T : fs_N} (ht : nd t = some T) (hb : ad t = some b) : ∀ m k, k + m = 150 → ∀ w2, fs_rN g w2 (fs_mk nd t k) ad lq ld lc lt → fs_F2 w w2 → ∀ L : List (Nat × Value), L = [(0, .ref o), (1, .ref b), (2, .ref na), (3, .int (nI 150)), (4, .int (nI k))] → fw_R g m_FR_markStaleBelow (fun r u => r = .inl none ∧ fs_rN g u (fs_mk nd t 150) ad lq ld lc lt ∧ fs_F2 w u) nc ns w2 11 L [] := by
  intro m
  induction m with
  | zero =>
    intro k hk w2 hr hF L hL
    have hk2 : k = 150 := by omega
    subst hk2 hL
    refine fr_iload (pc := 11) d_FR_markStaleBelow_11 rfl ?_
    refine fr_iload_n (pc := 13) d_FR_markStaleBelow_13 rfl rfl ?_
    refine fr_icmp_ge (pc := 14) (tgt := 55) d_FR_markStaleBelow_14 (by decide) (fun q => ?_) (fun q => ?_)
    · exact fr_vret rfl d_FR_markStaleBelow_55 ⟨rfl, hr, hF⟩
    · exact absurd ((ni_le (a := 150) (b := 150) (by omega) (by omega)).mpr (by omega)) q
  | succ m ih =>
    intro k hk w2 hr hF L hL
    subst hL
    have hN2 : w2 na = some (fs_no g ad) := fs_F2_3 hF na hN (fun fs z => by cases z)
    refine fr_iload (pc := 11) d_FR_markStaleBelow_11 rfl ?_
    refine fr_iload_n (pc := 13) d_FR_markStaleBelow_13 rfl rfl ?_
    refine fr_icmp_ge (pc := 14) (tgt := 55) d_FR_markStaleBelow_14 (by decide) (fun q => ?_) (fun q => ?_)
    · exact absurd ((ni_le (a := 150) (by omega) (by omega)).mp q) (by omega)
    · refine fr_aload_n (pc := 17) d_FR_markStaleBelow_17 rfl rfl ?_
      refine fr_iload (pc := 18) d_FR_markStaleBelow_18 rfl ?_
      refine fr_aaldN (pc := 20) (t := 3) (n := 150) (k := k) (C := "FolderRights$Node") (f := ad) d_FR_markStaleBelow_20 rfl hN2 (by omega) (by omega) ?_
      cases hA : nd k with
      | none =>
        have hB : fs_mk nd t k k = none := fs_mk_at.trans hA
        refine fr_st (st2 := [.null]) (by rw [rf_none (hr.1 k hB)]) ?_
        refine fr_astoreN (pc := 21) (L2 := [(0, .ref o), (1, .ref b), (2, .ref na), (3, .int (nI 150)), (4, .int (nI k)), (5, .null)]) d_FR_markStaleBelow_21 (by decide) rfl ?_
        refine fr_aloadN (pc := 23) d_FR_markStaleBelow_23 rfl ?_
        refine fr_ifnullN (pc := 25) (tgt := 49) d_FR_markStaleBelow_25 (by decide) ?_
        refine fr_iinc (pc := 49) (v := (nI (k + 1))) (L2 := [(0, .ref o), (1, .ref b), (2, .ref na), (3, .int (nI 150)), (4, .int (nI (k + 1))), (5, .null)]) d_FR_markStaleBelow_49 rfl (fi_1 _) (by decide) rfl ?_
        refine fr_goto (pc := 52) (tgt := 11) d_FR_markStaleBelow_52 (by decide) ?_
        have e : fs_mk nd t (k + 1) = fs_mk nd t k := fs_mk_no (fun M hM z => by rw [hA] at hM; cases hM)
        rw [← e] at hr
        exact fr_Ld (ih (k + 1) (by omega) _ hr hF _ rfl)
      | some N =>
        have hB : fs_mk nd t k k = some N := fs_mk_at.trans hA
        obtain ⟨-, a, ha, hc, hl, hE⟩ := hr.2.1 k N hB
        refine fr_st (st2 := [.ref a]) (by rw [rf_some ha]) ?_
        refine fr_astore (pc := 21) (L2 := [(0, .ref o), (1, .ref b), (2, .ref na), (3, .int (nI 150)), (4, .int (nI k)), (5, .ref a)]) d_FR_markStaleBelow_21 (by decide) rfl ?_
        refine fr_aload (pc := 23) d_FR_markStaleBelow_23 rfl ?_
        refine fr_ifnull (pc := 25) d_FR_markStaleBelow_25 ?_
        refine fr_aload (pc := 28) d_FR_markStaleBelow_28 rfl ?_
        refine fr_aload_n (pc := 30) d_FR_markStaleBelow_30 rfl rfl ?_
        refine fr_acmp_eq (pc := 31) (tgt := 49) (ry := (some b)) (rx := (some a)) d_FR_markStaleBelow_31 (by decide) (fun z => ?_) (fun z => ?_)
        · refine fr_iinc (pc := 49) (v := (nI (k + 1))) (L2 := [(0, .ref o), (1, .ref b), (2, .ref na), (3, .int (nI 150)), (4, .int (nI (k + 1))), (5, .ref a)]) d_FR_markStaleBelow_49 rfl (fi_1 _) (by decide) rfl ?_
          refine fr_goto (pc := 52) (tgt := 11) d_FR_markStaleBelow_52 (by decide) ?_
          have hkt : k = t := by
            obtain ⟨T2, hT2⟩ : ∃ T2, fs_mk nd t k t = some T2 := by
              simp only [fs_mk, ht]; exact ⟨_, rfl⟩
            exact fs_inj hr hB hT2 ha (hb.trans z.symm)
          have e : fs_mk nd t (k + 1) = fs_mk nd t k := fs_mk_no (fun M hM z => by exact z.1 hkt)
          rw [← e] at hr
          exact fr_Ld (ih (k + 1) (by omega) _ hr hF _ rfl)
        · have hkt : k ≠ t := fun e => z (by rw [← ha, ← hb, e])
          refine fr_aload (pc := 34) d_FR_markStaleBelow_34 rfl ?_
          refine fr_aload_n (pc := 36) d_FR_markStaleBelow_36 rfl rfl ?_
          obtain ⟨T2, hT2⟩ : ∃ T2, fs_mk nd t k t = some T2 := by
            simp only [fs_mk, ht]; exact ⟨_, rfl⟩
          have hc2 : fs_ch (fs_mk nd t k) k (fs_ab (fs_mk nd t k) k) := by
            rw [fs_ab_eq fs_mk_pa]; exact fs_ch_eq fs_mk_pa _ _ (hch k N hA)
          have hun := fs_un_eq (nd := nd) (nd2 := fs_mk nd t k) fs_mk_pa k t
          refine fr_callv_p (pc := 37) (nc := nc) (ns := ns) (N := m_ND_liesWithin) (rest := []) (as := [.ref b]) d_FR_markStaleBelow_37 vc_FR_88 ⟨by decide, by decide, Nat.le_of_ble_eq_true rfl⟩ (Nat.le_of_ble_eq_true rfl) hc (c_lies hr hc2 ha hT2 hb) rfl ?_
          refine fr_if_eq (pc := 40) (tgt := 49) d_FR_markStaleBelow_40 (by decide) (fun y => ?_) (fun y => ?_)
          · refine fr_iinc (pc := 49) (v := (nI (k + 1))) (L2 := [(0, .ref o), (1, .ref b), (2, .ref na), (3, .int (nI 150)), (4, .int (nI (k + 1))), (5, .ref a)]) d_FR_markStaleBelow_49 rfl (fi_1 _) (by decide) rfl ?_
            refine fr_goto (pc := 52) (tgt := 11) d_FR_markStaleBelow_52 (by decide) ?_
            have hs := bI_0.mp y
            have e : fs_mk nd t (k + 1) = fs_mk nd t k := fs_mk_no (fun M hM z => by rw [hun] at hs; rw [hs] at z; exact absurd z.2 (by decide))
            rw [← e] at hr
            exact fr_Ld (ih (k + 1) (by omega) _ hr hF _ rfl)
          · have hs := ts_nf (fun x => y (bI_0.mpr x))
            rw [hun] at hs
            refine fr_aload (pc := 43) d_FR_markStaleBelow_43 rfl ?_
            refine fr_iconst (pc := 45) (v := 1) d_FR_markStaleBelow_45 (by decide) ?_
            refine fr_put (pc := 46) (fs2 := fs_nc k (fs_st N true) (lq k) (N.2.1.bind ad)) d_FR_markStaleBelow_46 fp_FR_markStaleBelow_110 hc (Nat.le_of_ble_eq_true rfl) rfl rfl rfl ?_
            have hr2 := fs_rN_put hr (N2 := fs_st N true) hB ha rfl
            rw [← fs_mk_yes hA hkt hs] at hr2
            refine fr_iinc (pc := 49) (v := (nI (k + 1))) (L2 := [(0, .ref o), (1, .ref b), (2, .ref na), (3, .int (nI 150)), (4, .int (nI (k + 1))), (5, .ref a)]) d_FR_markStaleBelow_49 rfl (fi_1 _) (by decide) rfl ?_
            refine fr_goto (pc := 52) (tgt := 11) d_FR_markStaleBelow_52 (by decide) ?_
            exact fr_Ld (ih (k + 1) (by omega) _ hr2 (fs_F2_up2 hF hc) _ rfl)
theorem c_FR_mark {g : fw_G} {nc ns : Nat} {w : fw_W} {o gr na us : Nat} (h0 : w o = some (.inr (0, [.ref gr, .ref na, .int (nI us)]))) {nd : fs_D} {ad : Nat → Option Nat} {lq ld lc : Nat → Nat} {lt : Nat → List Nat} (hN : w na = some (fs_no g ad)) (hch : ∀ k N, nd k = some N → fs_ch nd k (fs_ab nd k)) {t b : Nat} {T : fs_N} (ht : nd t = some T) (hb : ad t = some b) (hr : fs_rN g w nd ad lq ld lc lt) : fw_R g m_FR_markStaleBelow (fun r u => r = .inl none ∧ fs_rN g u (fs_mk nd t 150) ad lq ld lc lt ∧ fs_F2 w u) nc ns w 0 [(0, .ref o), (1, .ref b)] [] := by
  refine fr_aload_n (pc := 0) d_FR_markStaleBelow_0 rfl rfl ?_
  refine fr_get (pc := 1) (v := .ref na) d_FR_markStaleBelow_1 fg_FR_18 h0 rfl ?_
  refine fr_astore_n (pc := 4) (L2 := [(0, .ref o), (1, .ref b), (2, .ref na)]) d_FR_markStaleBelow_4 rfl (by decide) rfl ?_
  refine fr_aload_n (pc := 5) d_FR_markStaleBelow_5 rfl rfl ?_
  refine fr_alen (pc := 6) (t := 3) (v := (nI 150)) d_FR_markStaleBelow_6 rfl hN rfl ?_
  refine fr_istore_n (pc := 7) (L2 := [(0, .ref o), (1, .ref b), (2, .ref na), (3, .int (nI 150))]) d_FR_markStaleBelow_7 rfl (by decide) rfl ?_
  refine fr_iconst (pc := 8) (v := 0) d_FR_markStaleBelow_8 (by decide) ?_
  refine fr_istore (pc := 9) (L2 := [(0, .ref o), (1, .ref b), (2, .ref na), (3, .int (nI 150)), (4, .int 0)]) d_FR_markStaleBelow_9 (by decide) rfl ?_
  exact c_FR_mark_l h0 hN hch ht hb 150 0 rfl w (by rw [fs_mk_0]; exact hr) fs_F2_id _ rfl
end
section
theorem fr_cast {g : fw_G} {M : fw_M} {Post : fw_O → fw_W → Prop} {nc ns : Nat} {w : fw_W} {pc : Nat} {L : List (Nat × Value)} {rest : List Value} {idx ci a : Nat} {C : String} {T0 : u_T} {N0 : Nat} {fs : List Value} (hd : decode M.2.1 pc = .ok (.checkcast idx, 3)) (hx : Cond.classLink M.1.cls idx C ∈ lw_tbl) (hcl : fw_cl[ci]? = some (C, T0, N0)) (ha : w a = some (.inr (ci, fs))) (kk : fw_R g M Post nc ns w (pc + 3) L (.ref a :: rest)) : fw_R g M Post nc ns w pc L (.ref a :: rest) := by
  intro hg s m args below meth c H locs cells slots ls cx hB hH hS e1 e2 hl
  obtain ⟨ws, hP, hD, hw⟩ := id hH
  obtain ⟨q0, hq0⟩ := hw.at ha
  obtain ⟨cellB, hcB, hoB, hclB⟩ := va_recv (cx.K hg) hP hcl hq0
  exact va_castE hg.1 cx.2.2.2.2.1 cx.own (fw_word hg cx.1 hx rfl) ⟨cellB, hcB, hoB, hclB⟩ hd (kk hg s m args below meth c H locs cells slots ls cx hB hH hS e1 e2 hl)
noncomputable def fs_in (hu hg : Nat → Nat → Bool) (i u : Nat) : Bool := @decide (∃ k, cl_rt hg i k ∧ hu k u = true) (Classical.propDecidable _)
theorem fs_in_f4 {hu hg : Nat → Nat → Bool} {n us : Nat} {f1 f2 f3 f4 : Nat → Int64} (h : gr_rep hu hg n us f1 f2 f3 f4) (i u : Nat) : bb (f4 i) u = fs_in hu hg i u := by
  have e := h.2.2.2.1 i u
  unfold fs_in
  by_cases hc : ∃ k, cl_rt hg i k ∧ hu k u = true
  · rw [e.mpr hc]; simp [hc]
  · have : bb (f4 i) u = false := by
      cases hb : bb (f4 i) u with
      | false => rfl
      | true => exact absurd (e.mp hb) hc
    rw [this]; simp [hc]
def fs_nu (f4 : Nat → Int64) (E : fs_E) : Int64 := if E.2.2.1 then f4 E.2.1 else (1 : Int64) <<< ((nI E.2.1).toInt64 &&& 63)
def fs_mt (inn : Nat → Nat → Bool) (E : fs_E) (u : Nat) : Bool := if E.2.2.1 then inn E.2.1 u else decide (E.2.1 = u)
def fs_gr (N : fs_N) (n lev r : Nat) (E : fs_E) : Bool := E.2.2.2.1.testBit r && er E.2.2.2.2 (decide (n = lev)) N.1 (decide (N.2.1 = some lev))
theorem fs_nu_b {f4 : Nat → Int64} {E : fs_E} {u : Nat} (hu : u < 64) (hE : E.2.2.1 = false → E.2.1 < 64) : bb (fs_nu f4 E) u = fs_mt (fun i u => bb (f4 i) u) E u := by
  unfold fs_nu fs_mt
  cases h : E.2.2.1 with
  | true => simp
  | false =>
    simp only [Bool.false_eq_true, if_false]
    rw [bb_shl (hE h) hu]
    congr 1
    exact propext ⟨fun e => e.symm, fun e => e.symm⟩
def fs_hb (f4 : Nat → Int64) (N : fs_N) (n lev r : Nat) (al : Bool) : Int64 → List fs_E → Int64
  | acc, [] => acc
  | acc, E :: t => fs_hb f4 N n lev r al (if E.1 = al ∧ fs_gr N n lev r E = true then acc ||| fs_nu f4 E else acc) t
def fs_hit (inn : Nat → Nat → Bool) (N : fs_N) (n lev r u : Nat) (E : fs_E) : Bool := fs_gr N n lev r E && fs_mt inn E u
theorem fs_hb_b {f4 : Nat → Int64} {N : fs_N} {n lev r : Nat} {al : Bool} {u : Nat} (hu : u < 64) : ∀ (es : List fs_E) (acc : Int64), (∀ E ∈ es, E.2.2.1 = false → E.2.1 < 64) → bb (fs_hb f4 N n lev r al acc es) u = (bb acc u || es.any (fun E => (E.1 == al) && fs_hit (fun i u => bb (f4 i) u) N n lev r u E)) := by
  intro es
  induction es with
  | nil => intro acc _; simp [fs_hb]
  | cons E t ih =>
    intro acc hE
    have hE1 := hE E List.mem_cons_self
    rw [fs_hb, ih _ (fun E' h => hE E' (List.mem_cons_of_mem _ h)), List.any_cons]
    by_cases hc : E.1 = al ∧ fs_gr N n lev r E = true
    · rw [if_pos hc, bb_or, fs_nu_b hu hE1]
      simp only [fs_hit, hc.1, hc.2, beq_self_eq_true, Bool.true_and, Bool.or_assoc]
    · rw [if_neg hc]
      have : ((E.1 == al) && fs_hit (fun i u => bb (f4 i) u) N n lev r u E) = false := by
        cases h1 : (E.1 == al) with
        | false => rfl
        | true =>
          cases h2 : fs_gr N n lev r E with
          | false => simp [fs_hit, h2]
          | true => exact absurd ⟨beq_iff_eq.mp h1, h2⟩ hc
      rw [this, Bool.false_or]
def fs_fd (P : fs_E → Bool) : List fs_E → Nat → Option Nat
  | [], _ => none
  | E :: t, i => if P E = true then some i else fs_fd P t (i + 1)
theorem fs_fd_any {P : fs_E → Bool} : ∀ (es : List fs_E) (i : Nat), (fs_fd P es i).isSome = es.any P := by
  intro es
  induction es with
  | nil => intro i; rfl
  | cons E t ih =>
    intro i
    rw [fs_fd, List.any_cons]
    cases h : P E with
    | true => simp
    | false => simp [ih]
theorem fs_fd_at {P : fs_E → Bool} : ∀ (es : List fs_E) (i p : Nat), fs_fd P es i = some p → i ≤ p ∧ ∃ E, es[p - i]? = some E ∧ P E = true := by
  intro es
  induction es with
  | nil => intro i p h; cases h
  | cons E t ih =>
    intro i p h
    rw [fs_fd] at h
    by_cases hP : P E = true
    · rw [if_pos hP] at h; cases h
      exact ⟨Nat.le_refl _, E, by simp, hP⟩
    · rw [if_neg hP] at h
      obtain ⟨h1, E2, h2, h3⟩ := ih (i + 1) p h
      refine ⟨by omega, E2, ?_, h3⟩
      have e : p - i = (p - (i + 1)) + 1 := by omega
      rw [e, List.getElem?_cons_succ]; exact h2
def fs_dp (H : fs_E → Bool) : Option Nat → List fs_E → Nat → Option Nat
  | acc, [], _ => acc
  | acc, E :: t, i => if H E = true then (if E.1 = true then fs_dp H (if acc = none then some i else acc) t (i + 1) else some i) else fs_dp H acc t (i + 1)
def fs_lv1 (H : fs_E → Bool) (es : List fs_E) : Option (Nat × Bool) := match fs_fd (fun E => (E.1 == false) && H E) es 0 with
  | some p => some (p, false)
  | none => (fs_fd (fun E => (E.1 == true) && H E) es 0).map (fun p => (p, true))
theorem fs_dp_eq {H : fs_E → Bool} : ∀ (es : List fs_E) (acc : Option Nat) (i : Nat), fs_dp H acc es i = (match fs_fd (fun E => (E.1 == false) && H E) es i with
  | some p => some p
  | none => (match acc with
    | some a => some a
    | none => fs_fd (fun E => (E.1 == true) && H E) es i)) := by
  intro es
  induction es with
  | nil => intro acc i; cases acc <;> rfl
  | cons E t ih =>
    intro acc i
    simp only [fs_dp, fs_fd]
    by_cases hH : H E = true
    · by_cases hE : E.1 = true
      · have q1 : ((E.1 == false) && H E) = false := by rw [hE]; rfl
        have q2 : ((E.1 == true) && H E) = true := by rw [hE, hH]; rfl
        rw [if_pos hH, if_pos hE, ih]
        simp only [q1, q2, Bool.false_eq_true, if_false, if_true]
        cases acc with
        | none => simp
        | some a => simp
      · have hE2 : E.1 = false := by simpa using hE
        have q1 : ((E.1 == false) && H E) = true := by rw [hE2, hH]; rfl
        rw [if_pos hH, if_neg hE]
        simp only [q1, if_true]
    · have hH2 : H E = false := by simpa using hH
      have q1 : ((E.1 == false) && H E) = false := by rw [hH2, Bool.and_false]
      have q2 : ((E.1 == true) && H E) = false := by rw [hH2, Bool.and_false]
      rw [if_neg hH, ih]
      simp only [q1, q2, Bool.false_eq_true, if_false]
theorem fs_dp_lv1 {H : fs_E → Bool} {es : List fs_E} : fs_dp H none es 0 = (fs_lv1 H es).map (fun q => q.1) := by
  rw [fs_dp_eq]
  unfold fs_lv1
  cases fs_fd (fun E => (E.1 == false) && H E) es 0 with
  | some p => rfl
  | none => cases fs_fd (fun E => (E.1 == true) && H E) es 0 <;> rfl
theorem fs_lv1_at {H : fs_E → Bool} {es : List fs_E} {p : Nat} {b : Bool} (h : fs_lv1 H es = some (p, b)) : ∃ E, es[p]? = some E ∧ E.1 = b := by
  unfold fs_lv1 at h
  cases h1 : fs_fd (fun E => (E.1 == false) && H E) es 0 with
  | some q =>
    rw [h1] at h; cases h
    obtain ⟨-, E, e1, e2⟩ := fs_fd_at _ _ _ h1
    rw [Nat.sub_zero] at e1
    exact ⟨E, e1, by simp only [Bool.and_eq_true, beq_iff_eq] at e2; exact e2.1⟩
  | none =>
    rw [h1] at h
    cases h2 : fs_fd (fun E => (E.1 == true) && H E) es 0 with
    | none => rw [h2] at h; cases h
    | some q =>
      rw [h2] at h; cases h
      obtain ⟨-, E, e1, e2⟩ := fs_fd_at _ _ _ h2
      rw [Nat.sub_zero] at e1
      exact ⟨E, e1, by simp only [Bool.and_eq_true, beq_iff_eq] at e2; exact e2.1⟩
def fs_es (nd : fs_D) (v : Nat) : List fs_E := match nd v with
  | some V => V.2.2.2.2.2
  | none => []
def fs_bl (nd : fs_D) (v : Nat) : Bool := match nd v with
  | some V => V.2.2.2.1
  | none => true
def fs_lv (nd : fs_D) : List Nat → List Nat
  | [] => []
  | v :: t => v :: (if fs_bl nd v = true then [] else fs_lv nd t)
def fs_ls (nd : fs_D) (n : Nat) : List Nat := fs_lv nd (n :: fs_ab nd n)
def fs_dc (nd : fs_D) (inn : Nat → Nat → Bool) (N : fs_N) (n r u : Nat) : List Nat → Option (Nat × Nat × Bool)
  | [] => none
  | v :: t => match fs_lv1 (fs_hit inn N n v r u) (fs_es nd v) with
    | some q => some (v, q)
    | none => fs_dc nd inn N n r u t
def fs_yes (q : Option (Nat × Nat × Bool)) : Bool := match q with
  | some x => x.2.2
  | none => false
def fs_hs (nd : fs_D) (f4 : Nat → Int64) (N : fs_N) (n r : Nat) : Int64 → Int64 → List Nat → Int64
  | h, _, [] => h
  | h, d, v :: t => fs_hs nd f4 N n r (h ||| ((fs_hb f4 N n v r true 0 (fs_es nd v) &&& (fs_hb f4 N n v r false 0 (fs_es nd v) ^^^ (-1))) &&& (d ^^^ (-1)))) (d ||| (fs_hb f4 N n v r false 0 (fs_es nd v) ||| fs_hb f4 N n v r true 0 (fs_es nd v))) t
theorem fs_lv1_b {H : fs_E → Bool} {es : List fs_E} : (fs_lv1 H es).isSome = (es.any (fun E => (E.1 == false) && H E) || es.any (fun E => (E.1 == true) && H E)) ∧ ((match fs_lv1 H es with | some q => q.2 | none => false) = (es.any (fun E => (E.1 == true) && H E) && !es.any (fun E => (E.1 == false) && H E))) := by
  rw [← fs_fd_any es 0, ← fs_fd_any es 0]
  unfold fs_lv1
  cases fs_fd (fun E => (E.1 == false) && H E) es 0 with
  | some p => simp
  | none => cases fs_fd (fun E => (E.1 == true) && H E) es 0 <;> simp
theorem fs_hs_b {nd : fs_D} {f4 : Nat → Int64} {N : fs_N} {n r u : Nat} (hu : u < 64) : ∀ (l : List Nat) (h d : Int64), (∀ v ∈ l, ∀ E ∈ fs_es nd v, E.2.2.1 = false → E.2.1 < 64) → bb (fs_hs nd f4 N n r h d l) u = (bb h u || (!bb d u && fs_yes (fs_dc nd (fun i u => bb (f4 i) u) N n r u l))) := by
  intro l
  induction l with
  | nil => intro h d _; simp [fs_hs, fs_dc, fs_yes]
  | cons v t ih =>
    intro h d hE
    have h1 := fs_hb_b (f4 := f4) (N := N) (n := n) (lev := v) (r := r) (al := true) hu (fs_es nd v) 0 (hE v List.mem_cons_self)
    have h2 := fs_hb_b (f4 := f4) (N := N) (n := n) (lev := v) (r := r) (al := false) hu (fs_es nd v) 0 (hE v List.mem_cons_self)
    rw [bb_0, Bool.false_or] at h1 h2
    obtain ⟨k1, k2⟩ := fs_lv1_b (H := fs_hit (fun i u => bb (f4 i) u) N n v r u) (es := fs_es nd v)
    rw [fs_hs, ih _ _ (fun v' hv => hE v' (List.mem_cons_of_mem _ hv)), bb_or, bb_and, bb_and, bb_not hu, bb_not hu, bb_or, bb_or, h1, h2]
    rw [fs_dc]
    cases hl : fs_lv1 (fs_hit (fun i u => bb (f4 i) u) N n v r u) (fs_es nd v) with
    | some q =>
      rw [hl] at k1 k2
      have k3 : q.2 = _ := k2
      show _ = (bb h u || (!bb d u && q.2))
      rw [k3]
      clear k2 k3 h1 h2 ih hl
      revert k1
      generalize fs_yes (fs_dc nd (fun i u => bb (f4 i) u) N n r u t) = Z
      generalize (fs_es nd v).any (fun E => (E.1 == true) && fs_hit (fun i u => bb (f4 i) u) N n v r u E) = A
      generalize (fs_es nd v).any (fun E => (E.1 == false) && fs_hit (fun i u => bb (f4 i) u) N n v r u E) = D
      generalize bb h u = x
      generalize bb d u = y
      intro k1
      have k4 : true = (D || A) := k1
      cases x <;> cases y <;> cases A <;> cases D <;> cases Z <;> first | rfl | cases k4
    | none =>
      rw [hl] at k1
      clear k2 h1 h2 ih hl
      revert k1
      generalize fs_yes (fs_dc nd (fun i u => bb (f4 i) u) N n r u t) = Z
      generalize (fs_es nd v).any (fun E => (E.1 == true) && fs_hit (fun i u => bb (f4 i) u) N n v r u E) = A
      generalize (fs_es nd v).any (fun E => (E.1 == false) && fs_hit (fun i u => bb (f4 i) u) N n v r u E) = D
      generalize bb h u = x
      generalize bb d u = y
      intro k1
      have k4 : false = (D || A) := k1
      cases x <;> cases y <;> cases A <;> cases D <;> cases Z <;> first | rfl | cases k4
end
section
theorem c_FR_named {g : fw_G} {nc ns : Nat} {w : fw_W} {o gr na us : Nat} (h0 : w o = some (.inr (0, [.ref gr, .ref na, .int (nI us)]))) {ng a1 a2 a3 a4 : Nat} {f1 f2 f3 f4 : Nat → Int64} (hG : gr_at g w gr a1 a2 a3 a4 ng f1 f2 f3 f4) {y : Nat} {E : fs_E} (hy : w y = some (.inr (3, fs_ec E))) (hE : E.2.2.1 = true → E.2.1 < ng) : fw_R g m_FR_namedUsers (fw_pv (.long (fs_nu f4 E)) w) nc ns w 0 [(0, .ref o), (1, .ref y)] [] := by
  obtain ⟨-, q1, q2, q3, q4, hn, -⟩ := id hG
  obtain ⟨al, wh, ig, bi, fl⟩ := E
  refine fr_aload_n (pc := 0) d_FR_namedUsers_0 rfl rfl ?_
  refine fr_get (pc := 1) (v := .int (bI ig)) d_FR_namedUsers_1 fg_FR_234 hy rfl ?_
  refine fr_if_eq (pc := 4) (tgt := 22) d_FR_namedUsers_4 (by decide) (fun b4 => ?_) (fun b4 => ?_)
  · refine fr_lconst (pc := 22) (v := 1) d_FR_namedUsers_22 (by decide) ?_
    refine fr_aload_n (pc := 23) d_FR_namedUsers_23 rfl rfl ?_
    refine fr_get (pc := 24) (v := .int (nI wh)) d_FR_namedUsers_24 fg_FR_237 hy rfl ?_
    refine fr_lshl (pc := 27) d_FR_namedUsers_27 rfl ?_
    have hig : ig = false := bI_0.mp b4
    refine fr_st (st2 := [.long (fs_nu f4 (al, wh, ig, bi, fl))]) (by simp [fs_nu, hig]) ?_
    exact fr_lret rfl d_FR_namedUsers_28 ⟨rfl, rfl⟩
  · refine fr_aload_n (pc := 7) d_FR_namedUsers_7 rfl rfl ?_
    refine fr_get (pc := 8) (v := .ref gr) d_FR_namedUsers_8 fg_FR_10 h0 rfl ?_
    refine fr_get (pc := 11) (v := .ref a4) d_FR_namedUsers_11 fg_FR_196 hG.1 rfl ?_
    refine fr_aload_n (pc := 14) d_FR_namedUsers_14 rfl rfl ?_
    refine fr_get (pc := 15) (v := .int (nI wh)) d_FR_namedUsers_15 fg_FR_237 hy rfl ?_
    have hig : ig = true := ts_nf (fun z => b4 (bI_0.mpr z))
    have hw : wh < ng := hE hig
    refine fr_laldN (pc := 18) d_FR_namedUsers_18 q4 (k := wh) (by omega) (by omega) ?_
    refine fr_goto (pc := 19) (tgt := 28) d_FR_namedUsers_19 (by decide) ?_
    refine fr_st (st2 := [.long (fs_nu f4 (al, wh, ig, bi, fl))]) (by simp [fs_nu, hig]) ?_
    exact fr_lret rfl d_FR_namedUsers_28 ⟨rfl, rfl⟩
theorem fs_drop {α : Type} {l : List α} {i : Nat} {x : α} (h : l[i]? = some x) : l.drop i = x :: l.drop (i + 1) := by
  obtain ⟨hi, e⟩ := List.getElem?_eq_some_iff.mp h
  rw [List.drop_eq_getElem_cons hi, e]
theorem bI_inj {a b : Bool} : bI a = bI b ↔ a = b := by cases a <;> cases b <;> simp [bI]
theorem fs_ov_ne {j : Nat} (h : j < 2 ^ 31) : ¬ nI j = -1 := fun e => by
  have h1 : ¬ nI j < 0 := ix_nn h
  rw [e] at h1
  exact h1 (by decide)
theorem fs_num {g : fw_G} {w : fw_W} {nd : fs_D} {ad : Nat → Option Nat} {lq ld lc : Nat → Nat} {lt : Nat → List Nat} (hr : fs_rN g w nd ad lq ld lc lt) {n v a p : Nat} {N V : fs_N} (hN : nd n = some N) (hV : nd v = some V) (ha : ad n = some a) (hp : ad v = some p) : decide (a = p) = decide (n = v) := by
  congr 1
  refine propext ⟨fun e => ?_, fun e => ?_⟩
  · subst e; exact fs_inj hr hN hV ha hp
  · subst e; rw [ha] at hp; exact Option.some.inj hp
theorem c_FR_hit_l {g : fw_G} {nc ns : Nat} {w : fw_W} {o gr na us : Nat} (h0 : w o = some (.inr (0, [.ref gr, .ref na, .int (nI us)]))) {ng a1 a2 a3 a4 : Nat} {f1 f2 f3 f4 : Nat → Int64} (hG : gr_at g w gr a1 a2 a3 a4 ng f1 f2 f3 f4) {nd : fs_D} {ad : Nat → Option Nat} {lq ld lc : Nat → Nat} {lt : Nat → List Nat} (hr : fs_rN g w nd ad lq ld lc lt) (hok : fs_ok us ng nd) {n v a p r : Nat} {N V : fs_N} (hA : nd n = some N) (hV : nd v = some V) (ha : ad n = some a) (hp : ad v = some p) (hr8 : r < 8) {al : Bool} : ∀ m i acc, i + m = V.2.2.2.2.2.length → ∀ L : List (Nat × Value), L = [(0, .ref o), (1, .ref p), (2, .ref a), (3, .int (nI r)), (4, .int (bI al)), (5, .long acc), (7, .int (nI i))] → fw_R g m_FR_hitUsers (fw_pv (.long (fs_hb f4 N n v r al acc (V.2.2.2.2.2.drop i))) w) nc ns w 6 L [] := by
  obtain ⟨-, a0, ha0, hca, hla, hEa⟩ := hr.2.1 n N hA
  rw [ha] at ha0; cases ha0
  obtain ⟨-, p0, hp0, hcp, hlp, hEp⟩ := hr.2.1 v V hV
  rw [hp] at hp0; cases hp0
  obtain ⟨mc, hl1, -⟩ := id hlp
  obtain ⟨-, -, hng, -, hk5⟩ := id hok
  obtain ⟨-, -, -, hlen12, hes, -⟩ := hk5 v V hV
  obtain ⟨-, -, -, -, -, hchn, -⟩ := hk5 n N hA
  have eL := hEp.1
  intro m
  induction m with
  | zero =>
    intro i acc hi L hL
    subst hL
    refine fr_iload (pc := 6) d_FR_hitUsers_6 rfl ?_
    refine fr_aload_n (pc := 8) d_FR_hitUsers_8 rfl rfl ?_
    refine fr_get (pc := 9) (v := .ref (lq v)) d_FR_hitUsers_9 fg_FR_119 hcp rfl ?_
    refine fr_callv_p (pc := 12) (nc := nc) (ns := ns) (N := m_AL_size) (rest := [.int (nI i)]) (as := []) d_FR_hitUsers_12 vc_FR_123 ⟨by decide, by decide, Nat.le_of_ble_eq_true rfl⟩ (Nat.le_of_ble_eq_true rfl) hl1 (c_AL_size hlp) rfl ?_
    refine fr_icmp_ge (pc := 15) (tgt := 78) d_FR_hitUsers_15 (by decide) (fun q => ?_) (fun q => ?_)
    · refine fr_lload (pc := 78) d_FR_hitUsers_78 rfl ?_
      refine fr_st (st2 := [.long (fs_hb f4 N n v r al acc (V.2.2.2.2.2.drop i))]) (by rw [List.drop_eq_nil_of_le (by omega)]; rfl) ?_
      exact fr_lret rfl d_FR_hitUsers_80 ⟨rfl, rfl⟩
    · exact absurd ((ni_le (by omega) (by omega)).mpr (by omega)) q
  | succ m ih =>
    intro i acc hi L hL
    subst hL
    obtain ⟨E, hE⟩ : ∃ E, V.2.2.2.2.2[i]? = some E := ⟨_, List.getElem?_eq_getElem (by omega)⟩
    obtain ⟨y, hy⟩ : ∃ y, (lt v)[i]? = some y := ⟨_, List.getElem?_eq_getElem (by omega)⟩
    have hcy := hEp.2 i y E hy hE
    obtain ⟨hw, hbi, hfl⟩ := hes E (List.mem_of_getElem? hE)
    have hdr := fs_drop hE
    obtain ⟨al2, wh, ig, bi, fl⟩ := E
    refine fr_iload (pc := 6) d_FR_hitUsers_6 rfl ?_
    refine fr_aload_n (pc := 8) d_FR_hitUsers_8 rfl rfl ?_
    refine fr_get (pc := 9) (v := .ref (lq v)) d_FR_hitUsers_9 fg_FR_119 hcp rfl ?_
    refine fr_callv_p (pc := 12) (nc := nc) (ns := ns) (N := m_AL_size) (rest := [.int (nI i)]) (as := []) d_FR_hitUsers_12 vc_FR_123 ⟨by decide, by decide, Nat.le_of_ble_eq_true rfl⟩ (Nat.le_of_ble_eq_true rfl) hl1 (c_AL_size hlp) rfl ?_
    refine fr_icmp_ge (pc := 15) (tgt := 78) d_FR_hitUsers_15 (by decide) (fun q => ?_) (fun q => ?_)
    · exact absurd ((ni_le (by omega) (by omega)).mp q) (by omega)
    · refine fr_aload_n (pc := 18) d_FR_hitUsers_18 rfl rfl ?_
      refine fr_get (pc := 19) (v := .ref (lq v)) d_FR_hitUsers_19 fg_FR_119 hcp rfl ?_
      refine fr_iload (pc := 22) d_FR_hitUsers_22 rfl ?_
      refine fr_callv_p (pc := 24) (nc := nc) (ns := ns) (N := m_AL_get) (rest := []) (as := [.int (nI i)]) d_FR_hitUsers_24 vc_FR_180 ⟨by decide, by decide, Nat.le_of_ble_eq_true rfl⟩ (Nat.le_of_ble_eq_true rfl) hl1 (c_AL_get hlp hy) rfl ?_
      refine fr_cast (pc := 27) (ci := 3) d_FR_hitUsers_27 (fw_t 386 (by decide +kernel)) rfl hcy ?_
      refine fr_astore (pc := 30) (L2 := [(0, .ref o), (1, .ref p), (2, .ref a), (3, .int (nI r)), (4, .int (bI al)), (5, .long acc), (7, .int (nI i)), (8, .ref y)]) d_FR_hitUsers_30 (by decide) rfl ?_
      refine fr_aload (pc := 32) d_FR_hitUsers_32 rfl ?_
      refine fr_get (pc := 34) (v := .int (bI al2)) d_FR_hitUsers_34 fg_FR_183 hcy rfl ?_
      refine fr_iload (pc := 37) d_FR_hitUsers_37 rfl ?_
      refine fr_icmp_ne (pc := 39) (tgt := 72) d_FR_hitUsers_39 (by decide) (fun z1 => ?_) (fun z1 => ?_)
      · refine fr_iinc (pc := 72) (v := (nI (i + 1))) (L2 := [(0, .ref o), (1, .ref p), (2, .ref a), (3, .int (nI r)), (4, .int (bI al)), (5, .long acc), (7, .int (nI (i + 1))), (8, .ref y)]) d_FR_hitUsers_72 rfl (fi_1 _) (by decide) rfl ?_
        refine fr_goto (pc := 75) (tgt := 6) d_FR_hitUsers_75 (by decide) ?_
        have e : fs_hb f4 N n v r al acc (V.2.2.2.2.2.drop i) = fs_hb f4 N n v r al acc (V.2.2.2.2.2.drop (i + 1)) := by
          rw [hdr, fs_hb, if_neg]
          exact fun z => z1 (by rw [show al2 = al from z.1])
        rw [e]
        exact fr_Ld (ih (i + 1) acc (by omega) _ rfl)
      · refine fr_aload (pc := 42) d_FR_hitUsers_42 rfl ?_
        refine fr_iload_n (pc := 44) d_FR_hitUsers_44 rfl rfl ?_
        refine fr_callv_p (pc := 45) (nc := nc) (ns := ns) (N := m_EN_gives) (rest := []) (as := [.int (nI r)]) d_FR_hitUsers_45 vc_FR_222 ⟨by decide, by decide, Nat.le_of_ble_eq_true rfl⟩ (Nat.le_of_ble_eq_true rfl) hcy (c_EN_gives hcy rfl (by omega) (by omega)) rfl ?_
        refine fr_if_eq (pc := 48) (tgt := 72) d_FR_hitUsers_48 (by decide) (fun z2 => ?_) (fun z2 => ?_)
        · refine fr_iinc (pc := 72) (v := (nI (i + 1))) (L2 := [(0, .ref o), (1, .ref p), (2, .ref a), (3, .int (nI r)), (4, .int (bI al)), (5, .long acc), (7, .int (nI (i + 1))), (8, .ref y)]) d_FR_hitUsers_72 rfl (fi_1 _) (by decide) rfl ?_
          refine fr_goto (pc := 75) (tgt := 6) d_FR_hitUsers_75 (by decide) ?_
          have e : fs_hb f4 N n v r al acc (V.2.2.2.2.2.drop i) = fs_hb f4 N n v r al acc (V.2.2.2.2.2.drop (i + 1)) := by
            rw [hdr, fs_hb, if_neg]
            intro z; have := z.2; simp [fs_gr, bI_0.mp z2] at this
          rw [e]
          exact fr_Ld (ih (i + 1) acc (by omega) _ rfl)
        · refine fr_aload (pc := 51) d_FR_hitUsers_51 rfl ?_
          refine fr_aload_n (pc := 53) d_FR_hitUsers_53 rfl rfl ?_
          refine fr_aload_n (pc := 54) d_FR_hitUsers_54 rfl rfl ?_
          refine fr_callv_p (pc := 55) (nc := nc) (ns := ns) (N := m_EN_reaches) (rest := []) (as := [.ref p, .ref a]) d_FR_hitUsers_55 vc_FR_226 ⟨by decide, by decide, Nat.le_of_ble_eq_true rfl⟩ (Nat.le_of_ble_eq_true rfl) hcy (c_EN_reaches hcy rfl hfl hca rfl rfl) rfl ?_
          refine fr_st (st2 := [.int (bI (er fl (decide (n = v)) N.1 (decide (N.2.1 = some v))))]) (by rw [fs_num hr hA hV ha hp, show decide (N.2.1.bind ad = some p) = decide (N.2.1 = some v) from by congr 1; exact propext (fs_par hr hA hchn hV hp)]) ?_
          refine fr_if_eq (pc := 58) (tgt := 72) d_FR_hitUsers_58 (by decide) (fun z3 => ?_) (fun z3 => ?_)
          · refine fr_iinc (pc := 72) (v := (nI (i + 1))) (L2 := [(0, .ref o), (1, .ref p), (2, .ref a), (3, .int (nI r)), (4, .int (bI al)), (5, .long acc), (7, .int (nI (i + 1))), (8, .ref y)]) d_FR_hitUsers_72 rfl (fi_1 _) (by decide) rfl ?_
            refine fr_goto (pc := 75) (tgt := 6) d_FR_hitUsers_75 (by decide) ?_
            have e : fs_hb f4 N n v r al acc (V.2.2.2.2.2.drop i) = fs_hb f4 N n v r al acc (V.2.2.2.2.2.drop (i + 1)) := by
              rw [hdr, fs_hb, if_neg]
              intro z; have := z.2; simp [fs_gr, bI_0.mp z3] at this
            rw [e]
            exact fr_Ld (ih (i + 1) acc (by omega) _ rfl)
          · refine fr_lload (pc := 61) d_FR_hitUsers_61 rfl ?_
            refine fr_aload_n (pc := 63) d_FR_hitUsers_63 rfl rfl ?_
            refine fr_aload (pc := 64) d_FR_hitUsers_64 rfl ?_
            refine fr_callv_p (pc := 66) (nc := nc) (ns := ns) (N := m_FR_namedUsers) (rest := [.long acc]) (as := [.ref y]) d_FR_hitUsers_66 vc_FR_230 ⟨by decide, by decide, Nat.le_of_ble_eq_true rfl⟩ (Nat.le_of_ble_eq_true rfl) h0 (c_FR_named h0 hG hcy (fun z => by simp only at z; rw [z] at hw; simpa using hw)) rfl ?_
            refine fr_lor (pc := 69) d_FR_hitUsers_69 ?_
            refine fr_lstore (pc := 70) (L2 := [(0, .ref o), (1, .ref p), (2, .ref a), (3, .int (nI r)), (4, .int (bI al)), (5, .long (acc ||| (fs_nu f4 (al2, wh, ig, bi, fl)))), (7, .int (nI i)), (8, .ref y)]) d_FR_hitUsers_70 (by decide) rfl ?_
            refine fr_iinc (pc := 72) (v := (nI (i + 1))) (L2 := [(0, .ref o), (1, .ref p), (2, .ref a), (3, .int (nI r)), (4, .int (bI al)), (5, .long (acc ||| (fs_nu f4 (al2, wh, ig, bi, fl)))), (7, .int (nI (i + 1))), (8, .ref y)]) d_FR_hitUsers_72 rfl (fi_1 _) (by decide) rfl ?_
            refine fr_goto (pc := 75) (tgt := 6) d_FR_hitUsers_75 (by decide) ?_
            have e : fs_hb f4 N n v r al acc (V.2.2.2.2.2.drop i) = fs_hb f4 N n v r al (acc ||| fs_nu f4 (al2, wh, ig, bi, fl)) (V.2.2.2.2.2.drop (i + 1)) := by
              rw [hdr, fs_hb, if_pos]
              refine ⟨bI_inj.mp z1, ?_⟩
              simp only [fs_gr, ts_nf (fun z => z2 (bI_0.mpr z)), ts_nf (fun z => z3 (bI_0.mpr z)), Bool.and_self]
            rw [e]
            exact fr_Ld (ih (i + 1) _ (by omega) _ rfl)
theorem c_FR_hit {g : fw_G} {nc ns : Nat} {w : fw_W} {o gr na us : Nat} (h0 : w o = some (.inr (0, [.ref gr, .ref na, .int (nI us)]))) {ng a1 a2 a3 a4 : Nat} {f1 f2 f3 f4 : Nat → Int64} (hG : gr_at g w gr a1 a2 a3 a4 ng f1 f2 f3 f4) {nd : fs_D} {ad : Nat → Option Nat} {lq ld lc : Nat → Nat} {lt : Nat → List Nat} (hr : fs_rN g w nd ad lq ld lc lt) (hok : fs_ok us ng nd) {n v a p r : Nat} {N V : fs_N} (hA : nd n = some N) (hV : nd v = some V) (ha : ad n = some a) (hp : ad v = some p) (hr8 : r < 8) {al : Bool} : fw_R g m_FR_hitUsers (fw_pv (.long (fs_hb f4 N n v r al 0 (fs_es nd v))) w) nc ns w 0 [(0, .ref o), (1, .ref p), (2, .ref a), (3, .int (nI r)), (4, .int (bI al))] [] := by
  refine fr_lconst (pc := 0) (v := 0) d_FR_hitUsers_0 (by decide) ?_
  refine fr_lstore (pc := 1) (L2 := [(0, .ref o), (1, .ref p), (2, .ref a), (3, .int (nI r)), (4, .int (bI al)), (5, .long 0)]) d_FR_hitUsers_1 (by decide) rfl ?_
  refine fr_iconst (pc := 3) (v := 0) d_FR_hitUsers_3 (by decide) ?_
  refine fr_istore (pc := 4) (L2 := [(0, .ref o), (1, .ref p), (2, .ref a), (3, .int (nI r)), (4, .int (bI al)), (5, .long 0), (7, .int 0)]) d_FR_hitUsers_4 (by decide) rfl ?_
  have e : fs_es nd v = V.2.2.2.2.2.drop 0 := by simp [fs_es, hV]
  rw [e]
  exact c_FR_hit_l h0 hG hr hok hA hV ha hp hr8 V.2.2.2.2.2.length 0 0 (Nat.zero_add _) _ rfl
theorem c_FR_dp_l {g : fw_G} {nc ns : Nat} {w : fw_W} {o gr na us : Nat} (h0 : w o = some (.inr (0, [.ref gr, .ref na, .int (nI us)]))) {ng a1 a2 a3 a4 : Nat} {f1 f2 f3 f4 : Nat → Int64} (hG : gr_at g w gr a1 a2 a3 a4 ng f1 f2 f3 f4) {nd : fs_D} {ad : Nat → Option Nat} {lq ld lc : Nat → Nat} {lt : Nat → List Nat} (hr : fs_rN g w nd ad lq ld lc lt) (hok : fs_ok us ng nd) {n v a p r : Nat} {N V : fs_N} (hA : nd n = some N) (hV : nd v = some V) (ha : ad n = some a) (hp : ad v = some p) (hr8 : r < 8) {u : Nat} (hu : u < 64) : ∀ m i acc, i + m = V.2.2.2.2.2.length → (∀ j, acc = some j → j < 2 ^ 31) → ∀ L : List (Nat × Value), L = [(0, .ref o), (1, .ref p), (2, .ref a), (3, .int (nI u)), (4, .int (nI r)), (5, .int (fs_ov acc)), (6, .int (nI i))] → fw_R g m_FR_decidingPosition (fw_pv (.int (fs_ov (fs_dp (fs_hit (fun i u => bb (f4 i) u) N n v r u) acc (V.2.2.2.2.2.drop i) i))) w) nc ns w 6 L [] := by
  obtain ⟨-, a0, ha0, hca, hla, hEa⟩ := hr.2.1 n N hA
  rw [ha] at ha0; cases ha0
  obtain ⟨-, p0, hp0, hcp, hlp, hEp⟩ := hr.2.1 v V hV
  rw [hp] at hp0; cases hp0
  obtain ⟨mc, hl1, -⟩ := id hlp
  obtain ⟨-, -, hng, -, hk5⟩ := id hok
  obtain ⟨-, -, -, hlen12, hes, -⟩ := hk5 v V hV
  obtain ⟨-, -, -, -, -, hchn, -⟩ := hk5 n N hA
  have eL := hEp.1
  obtain ⟨-, hus60, -⟩ := id hok
  intro m
  induction m with
  | zero =>
    intro i acc hi hacc L hL
    subst hL
    refine fr_iload (pc := 6) d_FR_decidingPosition_6 rfl ?_
    refine fr_aload_n (pc := 8) d_FR_decidingPosition_8 rfl rfl ?_
    refine fr_get (pc := 9) (v := .ref (lq v)) d_FR_decidingPosition_9 fg_FR_119 hcp rfl ?_
    refine fr_callv_p (pc := 12) (nc := nc) (ns := ns) (N := m_AL_size) (rest := [.int (nI i)]) (as := []) d_FR_decidingPosition_12 vc_FR_123 ⟨by decide, by decide, Nat.le_of_ble_eq_true rfl⟩ (Nat.le_of_ble_eq_true rfl) hl1 (c_AL_size hlp) rfl ?_
    refine fr_icmp_ge (pc := 15) (tgt := 92) d_FR_decidingPosition_15 (by decide) (fun q => ?_) (fun q => ?_)
    · refine fr_iload (pc := 92) d_FR_decidingPosition_92 rfl ?_
      refine fr_st (st2 := [.int (fs_ov (fs_dp (fs_hit (fun i u => bb (f4 i) u) N n v r u) acc (V.2.2.2.2.2.drop i) i))]) (by rw [List.drop_eq_nil_of_le (by omega)]; rfl) ?_
      exact fr_iret rfl d_FR_decidingPosition_94 ⟨rfl, rfl⟩
    · exact absurd ((ni_le (by omega) (by omega)).mpr (by omega)) q
  | succ m ih =>
    intro i acc hi hacc L hL
    subst hL
    obtain ⟨E, hE⟩ : ∃ E, V.2.2.2.2.2[i]? = some E := ⟨_, List.getElem?_eq_getElem (by omega)⟩
    obtain ⟨y, hy⟩ : ∃ y, (lt v)[i]? = some y := ⟨_, List.getElem?_eq_getElem (by omega)⟩
    have hcy := hEp.2 i y E hy hE
    obtain ⟨hw, hbi, hfl⟩ := hes E (List.mem_of_getElem? hE)
    have hdr := fs_drop hE
    obtain ⟨al2, wh, ig, bi, fl⟩ := E
    have hnb : bb (fs_nu f4 (al2, wh, ig, bi, fl)) u = fs_mt (fun i u => bb (f4 i) u) (al2, wh, ig, bi, fl) u := fs_nu_b hu (fun z => by simp only at z; rw [z] at hw; have h9 : wh < us := (by simpa using hw); exact Nat.lt_of_lt_of_le h9 (by omega))
    refine fr_iload (pc := 6) d_FR_decidingPosition_6 rfl ?_
    refine fr_aload_n (pc := 8) d_FR_decidingPosition_8 rfl rfl ?_
    refine fr_get (pc := 9) (v := .ref (lq v)) d_FR_decidingPosition_9 fg_FR_119 hcp rfl ?_
    refine fr_callv_p (pc := 12) (nc := nc) (ns := ns) (N := m_AL_size) (rest := [.int (nI i)]) (as := []) d_FR_decidingPosition_12 vc_FR_123 ⟨by decide, by decide, Nat.le_of_ble_eq_true rfl⟩ (Nat.le_of_ble_eq_true rfl) hl1 (c_AL_size hlp) rfl ?_
    refine fr_icmp_ge (pc := 15) (tgt := 92) d_FR_decidingPosition_15 (by decide) (fun q => ?_) (fun q => ?_)
    · exact absurd ((ni_le (by omega) (by omega)).mp q) (by omega)
    · refine fr_aload_n (pc := 18) d_FR_decidingPosition_18 rfl rfl ?_
      refine fr_get (pc := 19) (v := .ref (lq v)) d_FR_decidingPosition_19 fg_FR_119 hcp rfl ?_
      refine fr_iload (pc := 22) d_FR_decidingPosition_22 rfl ?_
      refine fr_callv_p (pc := 24) (nc := nc) (ns := ns) (N := m_AL_get) (rest := []) (as := [.int (nI i)]) d_FR_decidingPosition_24 vc_FR_180 ⟨by decide, by decide, Nat.le_of_ble_eq_true rfl⟩ (Nat.le_of_ble_eq_true rfl) hl1 (c_AL_get hlp hy) rfl ?_
      refine fr_cast (pc := 27) (ci := 3) d_FR_decidingPosition_27 (fw_t 386 (by decide +kernel)) rfl hcy ?_
      refine fr_astore (pc := 30) (L2 := [(0, .ref o), (1, .ref p), (2, .ref a), (3, .int (nI u)), (4, .int (nI r)), (5, .int (fs_ov acc)), (6, .int (nI i)), (7, .ref y)]) d_FR_decidingPosition_30 (by decide) rfl ?_
      refine fr_aload (pc := 32) d_FR_decidingPosition_32 rfl ?_
      refine fr_iload (pc := 34) d_FR_decidingPosition_34 rfl ?_
      refine fr_callv_p (pc := 36) (nc := nc) (ns := ns) (N := m_EN_gives) (rest := []) (as := [.int (nI r)]) d_FR_decidingPosition_36 vc_FR_222 ⟨by decide, by decide, Nat.le_of_ble_eq_true rfl⟩ (Nat.le_of_ble_eq_true rfl) hcy (c_EN_gives hcy rfl (by omega) (by omega)) rfl ?_
      refine fr_if_eq (pc := 39) (tgt := 86) d_FR_decidingPosition_39 (by decide) (fun z1 => ?_) (fun z1 => ?_)
      · refine fr_iinc (pc := 86) (v := (nI (i + 1))) (L2 := [(0, .ref o), (1, .ref p), (2, .ref a), (3, .int (nI u)), (4, .int (nI r)), (5, .int (fs_ov acc)), (6, .int (nI (i + 1))), (7, .ref y)]) d_FR_decidingPosition_86 rfl (fi_1 _) (by decide) rfl ?_
        refine fr_goto (pc := 89) (tgt := 6) d_FR_decidingPosition_89 (by decide) ?_
        have e : fs_dp (fs_hit (fun i u => bb (f4 i) u) N n v r u) acc (V.2.2.2.2.2.drop i) i = fs_dp (fs_hit (fun i u => bb (f4 i) u) N n v r u) acc (V.2.2.2.2.2.drop (i + 1)) (i + 1) := by
          rw [hdr, fs_dp, if_neg]
          simp [fs_hit, fs_gr, bI_0.mp z1]
        rw [e]
        exact fr_Ld (ih (i + 1) acc (by omega) hacc _ rfl)
      · refine fr_aload (pc := 42) d_FR_decidingPosition_42 rfl ?_
        refine fr_aload_n (pc := 44) d_FR_decidingPosition_44 rfl rfl ?_
        refine fr_aload_n (pc := 45) d_FR_decidingPosition_45 rfl rfl ?_
        refine fr_callv_p (pc := 46) (nc := nc) (ns := ns) (N := m_EN_reaches) (rest := []) (as := [.ref p, .ref a]) d_FR_decidingPosition_46 vc_FR_226 ⟨by decide, by decide, Nat.le_of_ble_eq_true rfl⟩ (Nat.le_of_ble_eq_true rfl) hcy (c_EN_reaches hcy rfl hfl hca rfl rfl) rfl ?_
        refine fr_st (st2 := [.int (bI (er fl (decide (n = v)) N.1 (decide (N.2.1 = some v))))]) (by rw [fs_num hr hA hV ha hp, show decide (N.2.1.bind ad = some p) = decide (N.2.1 = some v) from by congr 1; exact propext (fs_par hr hA hchn hV hp)]) ?_
        refine fr_if_eq (pc := 49) (tgt := 86) d_FR_decidingPosition_49 (by decide) (fun z2 => ?_) (fun z2 => ?_)
        · refine fr_iinc (pc := 86) (v := (nI (i + 1))) (L2 := [(0, .ref o), (1, .ref p), (2, .ref a), (3, .int (nI u)), (4, .int (nI r)), (5, .int (fs_ov acc)), (6, .int (nI (i + 1))), (7, .ref y)]) d_FR_decidingPosition_86 rfl (fi_1 _) (by decide) rfl ?_
          refine fr_goto (pc := 89) (tgt := 6) d_FR_decidingPosition_89 (by decide) ?_
          have e : fs_dp (fs_hit (fun i u => bb (f4 i) u) N n v r u) acc (V.2.2.2.2.2.drop i) i = fs_dp (fs_hit (fun i u => bb (f4 i) u) N n v r u) acc (V.2.2.2.2.2.drop (i + 1)) (i + 1) := by
            rw [hdr, fs_dp, if_neg]
            simp [fs_hit, fs_gr, bI_0.mp z2]
          rw [e]
          exact fr_Ld (ih (i + 1) acc (by omega) hacc _ rfl)
        · refine fr_aload_n (pc := 52) d_FR_decidingPosition_52 rfl rfl ?_
          refine fr_aload (pc := 53) d_FR_decidingPosition_53 rfl ?_
          refine fr_callv_p (pc := 55) (nc := nc) (ns := ns) (N := m_FR_namedUsers) (rest := []) (as := [.ref y]) d_FR_decidingPosition_55 vc_FR_230 ⟨by decide, by decide, Nat.le_of_ble_eq_true rfl⟩ (Nat.le_of_ble_eq_true rfl) h0 (c_FR_named h0 hG hcy (fun z => by simp only at z; rw [z] at hw; simpa using hw)) rfl ?_
          refine fr_iload_n (pc := 58) d_FR_decidingPosition_58 rfl rfl ?_
          refine fr_calls_p (pc := 59) (nc := nc) (ns := ns) (N := m_FR_isSet) (rest := []) (as := [.long (fs_nu f4 (al2, wh, ig, bi, fl)), .int (nI u)]) d_FR_decidingPosition_59 k_FR_isSet lk_FR_163 sc_FR_isSet np_FR_isSet ⟨by decide, by decide, Nat.le_of_ble_eq_true rfl⟩ (Nat.le_of_ble_eq_true rfl) (c_FR_isSet hu) rfl ?_
          rw [hnb]
          refine fr_if_eq (pc := 62) (tgt := 86) d_FR_decidingPosition_62 (by decide) (fun z3 => ?_) (fun z3 => ?_)
          · refine fr_iinc (pc := 86) (v := (nI (i + 1))) (L2 := [(0, .ref o), (1, .ref p), (2, .ref a), (3, .int (nI u)), (4, .int (nI r)), (5, .int (fs_ov acc)), (6, .int (nI (i + 1))), (7, .ref y)]) d_FR_decidingPosition_86 rfl (fi_1 _) (by decide) rfl ?_
            refine fr_goto (pc := 89) (tgt := 6) d_FR_decidingPosition_89 (by decide) ?_
            have e : fs_dp (fs_hit (fun i u => bb (f4 i) u) N n v r u) acc (V.2.2.2.2.2.drop i) i = fs_dp (fs_hit (fun i u => bb (f4 i) u) N n v r u) acc (V.2.2.2.2.2.drop (i + 1)) (i + 1) := by
              rw [hdr, fs_dp, if_neg]
              simp [fs_hit, fs_gr, bI_0.mp z3]
            rw [e]
            exact fr_Ld (ih (i + 1) acc (by omega) hacc _ rfl)
          · have hH : (fs_hit (fun i u => bb (f4 i) u) N n v r u) (al2, wh, ig, bi, fl) = true := by
              simp only [fs_hit, fs_gr, ts_nf (fun z => z1 (bI_0.mpr z)), ts_nf (fun z => z2 (bI_0.mpr z)), ts_nf (fun z => z3 (bI_0.mpr z)), Bool.and_self]
            refine fr_aload (pc := 65) d_FR_decidingPosition_65 rfl ?_
            refine fr_get (pc := 67) (v := .int (bI al2)) d_FR_decidingPosition_67 fg_FR_183 hcy rfl ?_
            refine fr_if_ne (pc := 70) (tgt := 76) d_FR_decidingPosition_70 (by decide) (fun z4 => ?_) (fun z4 => ?_)
            · have hal : al2 = true := ts_nf (fun z => z4 (bI_0.mpr z))
              cases acc with
              | none =>
                refine fr_iload (pc := 76) d_FR_decidingPosition_76 rfl ?_
                refine fr_iconst (pc := 78) (v := -1) d_FR_decidingPosition_78 (by decide) ?_
                refine fr_icmp_ne (pc := 79) (tgt := 86) d_FR_decidingPosition_79 (by decide) (fun z5 => ?_) (fun z5 => ?_)
                · exact absurd rfl z5
                · refine fr_iload (pc := 82) d_FR_decidingPosition_82 rfl ?_
                  refine fr_istore (pc := 84) (L2 := [(0, .ref o), (1, .ref p), (2, .ref a), (3, .int (nI u)), (4, .int (nI r)), (5, .int (nI i)), (6, .int (nI i)), (7, .ref y)]) d_FR_decidingPosition_84 (by decide) rfl ?_
                  refine fr_iinc (pc := 86) (v := (nI (i + 1))) (L2 := [(0, .ref o), (1, .ref p), (2, .ref a), (3, .int (nI u)), (4, .int (nI r)), (5, .int (nI i)), (6, .int (nI (i + 1))), (7, .ref y)]) d_FR_decidingPosition_86 rfl (fi_1 _) (by decide) rfl ?_
                  refine fr_goto (pc := 89) (tgt := 6) d_FR_decidingPosition_89 (by decide) ?_
                  have e : fs_dp (fs_hit (fun i u => bb (f4 i) u) N n v r u) none (V.2.2.2.2.2.drop i) i = fs_dp (fs_hit (fun i u => bb (f4 i) u) N n v r u) (some i) (V.2.2.2.2.2.drop (i + 1)) (i + 1) := by
                    rw [hdr, fs_dp, if_pos hH, if_pos hal, if_pos rfl]
                  rw [e]
                  exact fr_Ld (ih (i + 1) (some i) (by omega) (fun j hj => by cases hj; omega) _ rfl)
              | some j =>
                refine fr_iload (pc := 76) d_FR_decidingPosition_76 rfl ?_
                refine fr_iconst (pc := 78) (v := -1) d_FR_decidingPosition_78 (by decide) ?_
                refine fr_icmp_ne (pc := 79) (tgt := 86) d_FR_decidingPosition_79 (by decide) (fun z5 => ?_) (fun z5 => ?_)
                · refine fr_iinc (pc := 86) (v := (nI (i + 1))) (L2 := [(0, .ref o), (1, .ref p), (2, .ref a), (3, .int (nI u)), (4, .int (nI r)), (5, .int (fs_ov (some j))), (6, .int (nI (i + 1))), (7, .ref y)]) d_FR_decidingPosition_86 rfl (fi_1 _) (by decide) rfl ?_
                  refine fr_goto (pc := 89) (tgt := 6) d_FR_decidingPosition_89 (by decide) ?_
                  have e : fs_dp (fs_hit (fun i u => bb (f4 i) u) N n v r u) (some j) (V.2.2.2.2.2.drop i) i = fs_dp (fs_hit (fun i u => bb (f4 i) u) N n v r u) (some j) (V.2.2.2.2.2.drop (i + 1)) (i + 1) := by
                    rw [hdr, fs_dp, if_pos hH, if_pos hal, if_neg (by intro z; cases z)]
                  rw [e]
                  exact fr_Ld (ih (i + 1) (some j) (by omega) hacc _ rfl)
                · exact absurd z5 (fs_ov_ne (hacc j rfl))
            · refine fr_iload (pc := 73) d_FR_decidingPosition_73 rfl ?_
              refine fr_st (st2 := [.int (fs_ov (fs_dp (fs_hit (fun i u => bb (f4 i) u) N n v r u) acc (V.2.2.2.2.2.drop i) i))]) (by rw [hdr, fs_dp, if_pos hH, if_neg (by rw [bI_0.mp z4]; simp)]; rfl) ?_
              exact fr_iret rfl d_FR_decidingPosition_75 ⟨rfl, rfl⟩
theorem c_FR_dp {g : fw_G} {nc ns : Nat} {w : fw_W} {o gr na us : Nat} (h0 : w o = some (.inr (0, [.ref gr, .ref na, .int (nI us)]))) {ng a1 a2 a3 a4 : Nat} {f1 f2 f3 f4 : Nat → Int64} (hG : gr_at g w gr a1 a2 a3 a4 ng f1 f2 f3 f4) {nd : fs_D} {ad : Nat → Option Nat} {lq ld lc : Nat → Nat} {lt : Nat → List Nat} (hr : fs_rN g w nd ad lq ld lc lt) (hok : fs_ok us ng nd) {n v a p r : Nat} {N V : fs_N} (hA : nd n = some N) (hV : nd v = some V) (ha : ad n = some a) (hp : ad v = some p) (hr8 : r < 8) {u : Nat} (hu : u < 64) : fw_R g m_FR_decidingPosition (fw_pv (.int (fs_ov ((fs_lv1 (fs_hit (fun i u => bb (f4 i) u) N n v r u) (fs_es nd v)).map (fun q => q.1)))) w) nc ns w 0 [(0, .ref o), (1, .ref p), (2, .ref a), (3, .int (nI u)), (4, .int (nI r))] [] := by
  refine fr_iconst (pc := 0) (v := -1) d_FR_decidingPosition_0 (by decide) ?_
  refine fr_istore (pc := 1) (L2 := [(0, .ref o), (1, .ref p), (2, .ref a), (3, .int (nI u)), (4, .int (nI r)), (5, .int (-1))]) d_FR_decidingPosition_1 (by decide) rfl ?_
  refine fr_iconst (pc := 3) (v := 0) d_FR_decidingPosition_3 (by decide) ?_
  refine fr_istore (pc := 4) (L2 := [(0, .ref o), (1, .ref p), (2, .ref a), (3, .int (nI u)), (4, .int (nI r)), (5, .int (-1)), (6, .int 0)]) d_FR_decidingPosition_4 (by decide) rfl ?_
  have e : (fs_lv1 (fs_hit (fun i u => bb (f4 i) u) N n v r u) (fs_es nd v)).map (fun q => q.1) = fs_dp (fs_hit (fun i u => bb (f4 i) u) N n v r u) none (V.2.2.2.2.2.drop 0) 0 := by rw [← fs_dp_lv1]; simp [fs_es, hV]
  rw [e]
  exact c_FR_dp_l h0 hG hr hok hA hV ha hp hr8 hu V.2.2.2.2.2.length 0 none (Nat.zero_add _) (fun j hj => by cases hj) _ rfl
theorem c_FR_hold_l {g : fw_G} {nc ns : Nat} {w : fw_W} {o gr na us : Nat} (h0 : w o = some (.inr (0, [.ref gr, .ref na, .int (nI us)]))) {ng a1 a2 a3 a4 : Nat} {f1 f2 f3 f4 : Nat → Int64} (hG : gr_at g w gr a1 a2 a3 a4 ng f1 f2 f3 f4) {nd : fs_D} {ad : Nat → Option Nat} {lq ld lc : Nat → Nat} {lt : Nat → List Nat} (hr : fs_rN g w nd ad lq ld lc lt) (hok : fs_ok us ng nd) {n a r : Nat} {N : fs_N} (hA : nd n = some N) (ha : ad n = some a) (hr8 : r < 8) : ∀ (l : List Nat) (v p : Nat) (h d : Int64), fs_ch nd v l → ad v = some p → ∀ L : List (Nat × Value), L = [(0, .ref o), (1, .ref a), (2, .int (nI r)), (3, .long h), (5, .long d), (7, .ref p)] → fw_R g m_FR_holders (fw_pv (.long (fs_hs nd f4 N n r h d (fs_lv nd (v :: l)))) w) nc ns w 23 L [] := by
  intro l
  induction l with
  | nil =>
    intro v p h d hc hp L hL
    subst hL
    obtain ⟨V, hV⟩ : ∃ V, nd v = some V := fs_ch_some _ _ hc v (Or.inl rfl)
    obtain ⟨-, p0, hp0, hcp, -, -⟩ := hr.2.1 v V hV
    rw [hp] at hp0; cases hp0
    obtain ⟨V2, hV2, hpr⟩ := hc
    rw [hV] at hV2; cases hV2
    refine fr_aload (pc := 23) d_FR_holders_23 rfl ?_
    refine fr_ifnull (pc := 25) d_FR_holders_25 ?_
    refine fr_aload_n (pc := 28) d_FR_holders_28 rfl rfl ?_
    refine fr_aload (pc := 29) d_FR_holders_29 rfl ?_
    refine fr_aload_n (pc := 31) d_FR_holders_31 rfl rfl ?_
    refine fr_iload_n (pc := 32) d_FR_holders_32 rfl rfl ?_
    refine fr_iconst (pc := 33) (v := 0) d_FR_holders_33 (by decide) ?_
    refine fr_st (st2 := [.int (bI false), .int (nI r), .ref a, .ref p, .ref o]) rfl ?_
    refine fr_callv_p (pc := 34) (nc := nc) (ns := ns) (N := m_FR_hitUsers) (rest := []) (as := [.ref p, .ref a, .int (nI r), .int (bI false)]) d_FR_holders_34 vc_FR_216 ⟨by decide, by decide, Nat.le_of_ble_eq_true rfl⟩ (Nat.le_of_ble_eq_true rfl) h0 (c_FR_hit h0 hG hr hok hA hV ha hp hr8) rfl ?_
    refine fr_lstore (pc := 37) (L2 := [(0, .ref o), (1, .ref a), (2, .int (nI r)), (3, .long h), (5, .long d), (7, .ref p), (8, .long (fs_hb f4 N n v r false 0 (fs_es nd v)))]) d_FR_holders_37 (by decide) rfl ?_
    refine fr_aload_n (pc := 39) d_FR_holders_39 rfl rfl ?_
    refine fr_aload (pc := 40) d_FR_holders_40 rfl ?_
    refine fr_aload_n (pc := 42) d_FR_holders_42 rfl rfl ?_
    refine fr_iload_n (pc := 43) d_FR_holders_43 rfl rfl ?_
    refine fr_iconst (pc := 44) (v := 1) d_FR_holders_44 (by decide) ?_
    refine fr_st (st2 := [.int (bI true), .int (nI r), .ref a, .ref p, .ref o]) rfl ?_
    refine fr_callv_p (pc := 45) (nc := nc) (ns := ns) (N := m_FR_hitUsers) (rest := []) (as := [.ref p, .ref a, .int (nI r), .int (bI true)]) d_FR_holders_45 vc_FR_216 ⟨by decide, by decide, Nat.le_of_ble_eq_true rfl⟩ (Nat.le_of_ble_eq_true rfl) h0 (c_FR_hit h0 hG hr hok hA hV ha hp hr8) rfl ?_
    refine fr_lstore (pc := 48) (L2 := [(0, .ref o), (1, .ref a), (2, .int (nI r)), (3, .long h), (5, .long d), (7, .ref p), (8, .long (fs_hb f4 N n v r false 0 (fs_es nd v))), (10, .long (fs_hb f4 N n v r true 0 (fs_es nd v)))]) d_FR_holders_48 (by decide) rfl ?_
    refine fr_lload_n (pc := 50) d_FR_holders_50 rfl rfl ?_
    refine fr_lload (pc := 51) d_FR_holders_51 rfl ?_
    refine fr_lload (pc := 53) d_FR_holders_53 rfl ?_
    refine fr_ldc2 (pc := 55) (v := -1) d_FR_holders_55 (fw_t 538 (by decide +kernel)) ?_
    refine fr_lxor (pc := 58) d_FR_holders_58 ?_
    refine fr_land (pc := 59) d_FR_holders_59 ?_
    refine fr_lload (pc := 60) d_FR_holders_60 rfl ?_
    refine fr_ldc2 (pc := 62) (v := -1) d_FR_holders_62 (fw_t 538 (by decide +kernel)) ?_
    refine fr_lxor (pc := 65) d_FR_holders_65 ?_
    refine fr_land (pc := 66) d_FR_holders_66 ?_
    refine fr_lor (pc := 67) d_FR_holders_67 ?_
    refine fr_lstore_n (pc := 68) (L2 := [(0, .ref o), (1, .ref a), (2, .int (nI r)), (3, .long (h ||| (((fs_hb f4 N n v r true 0 (fs_es nd v)) &&& ((fs_hb f4 N n v r false 0 (fs_es nd v)) ^^^ (-1))) &&& (d ^^^ (-1))))), (5, .long d), (7, .ref p), (8, .long (fs_hb f4 N n v r false 0 (fs_es nd v))), (10, .long (fs_hb f4 N n v r true 0 (fs_es nd v)))]) d_FR_holders_68 rfl (by decide) rfl ?_
    refine fr_lload (pc := 69) d_FR_holders_69 rfl ?_
    refine fr_lload (pc := 71) d_FR_holders_71 rfl ?_
    refine fr_lload (pc := 73) d_FR_holders_73 rfl ?_
    refine fr_lor (pc := 75) d_FR_holders_75 ?_
    refine fr_lor (pc := 76) d_FR_holders_76 ?_
    refine fr_lstore (pc := 77) (L2 := [(0, .ref o), (1, .ref a), (2, .int (nI r)), (3, .long (h ||| (((fs_hb f4 N n v r true 0 (fs_es nd v)) &&& ((fs_hb f4 N n v r false 0 (fs_es nd v)) ^^^ (-1))) &&& (d ^^^ (-1))))), (5, .long (d ||| ((fs_hb f4 N n v r false 0 (fs_es nd v)) ||| (fs_hb f4 N n v r true 0 (fs_es nd v))))), (7, .ref p), (8, .long (fs_hb f4 N n v r false 0 (fs_es nd v))), (10, .long (fs_hb f4 N n v r true 0 (fs_es nd v)))]) d_FR_holders_77 (by decide) rfl ?_
    refine fr_aload (pc := 79) d_FR_holders_79 rfl ?_
    refine fr_callv_p (pc := 81) (nc := nc) (ns := ns) (N := m_ND_nextLevel) (rest := []) (as := []) d_FR_holders_81 vc_FR_189 ⟨by decide, by decide, Nat.le_of_ble_eq_true rfl⟩ (Nat.le_of_ble_eq_true rfl) hcp (c_ND_next hcp rfl rfl) rfl ?_
    refine fr_st (st2 := [.null]) (by rw [hpr]; cases V.2.2.2.1 <;> rfl) ?_
    refine fr_astoreN (pc := 84) (L2 := [(0, .ref o), (1, .ref a), (2, .int (nI r)), (3, .long (h ||| (((fs_hb f4 N n v r true 0 (fs_es nd v)) &&& ((fs_hb f4 N n v r false 0 (fs_es nd v)) ^^^ (-1))) &&& (d ^^^ (-1))))), (5, .long (d ||| ((fs_hb f4 N n v r false 0 (fs_es nd v)) ||| (fs_hb f4 N n v r true 0 (fs_es nd v))))), (7, .null), (8, .long (fs_hb f4 N n v r false 0 (fs_es nd v))), (10, .long (fs_hb f4 N n v r true 0 (fs_es nd v)))]) d_FR_holders_84 (by decide) rfl ?_
    refine fr_goto (pc := 86) (tgt := 23) d_FR_holders_86 (by decide) ?_
    refine fr_aloadN (pc := 23) d_FR_holders_23 rfl ?_
    refine fr_ifnullN (pc := 25) (tgt := 89) d_FR_holders_25 (by decide) ?_
    refine fr_lload_n (pc := 89) d_FR_holders_89 rfl rfl ?_
    have e : fs_hs nd f4 N n r h d (fs_lv nd [v]) = (h ||| (((fs_hb f4 N n v r true 0 (fs_es nd v)) &&& ((fs_hb f4 N n v r false 0 (fs_es nd v)) ^^^ (-1))) &&& (d ^^^ (-1)))) := by
      have e2 : fs_lv nd [v] = [v] := by simp [fs_lv]
      rw [e2]; rfl
    rw [e]
    exact fr_lret rfl d_FR_holders_90 ⟨rfl, rfl⟩
  | cons pa t ih =>
    intro v p h d hc hp L hL
    subst hL
    obtain ⟨V, hV⟩ : ∃ V, nd v = some V := fs_ch_some _ _ hc v (Or.inl rfl)
    obtain ⟨-, p0, hp0, hcp, -, -⟩ := hr.2.1 v V hV
    rw [hp] at hp0; cases hp0
    obtain ⟨⟨V2, hV2, hpr⟩, hc2⟩ := hc
    rw [hV] at hV2; cases hV2
    obtain ⟨PA, hPA⟩ := fs_ch_some _ _ hc2 pa (Or.inl rfl)
    obtain ⟨-, p2, hp2, -, -, -⟩ := hr.2.1 pa PA hPA
    refine fr_aload (pc := 23) d_FR_holders_23 rfl ?_
    refine fr_ifnull (pc := 25) d_FR_holders_25 ?_
    refine fr_aload_n (pc := 28) d_FR_holders_28 rfl rfl ?_
    refine fr_aload (pc := 29) d_FR_holders_29 rfl ?_
    refine fr_aload_n (pc := 31) d_FR_holders_31 rfl rfl ?_
    refine fr_iload_n (pc := 32) d_FR_holders_32 rfl rfl ?_
    refine fr_iconst (pc := 33) (v := 0) d_FR_holders_33 (by decide) ?_
    refine fr_st (st2 := [.int (bI false), .int (nI r), .ref a, .ref p, .ref o]) rfl ?_
    refine fr_callv_p (pc := 34) (nc := nc) (ns := ns) (N := m_FR_hitUsers) (rest := []) (as := [.ref p, .ref a, .int (nI r), .int (bI false)]) d_FR_holders_34 vc_FR_216 ⟨by decide, by decide, Nat.le_of_ble_eq_true rfl⟩ (Nat.le_of_ble_eq_true rfl) h0 (c_FR_hit h0 hG hr hok hA hV ha hp hr8) rfl ?_
    refine fr_lstore (pc := 37) (L2 := [(0, .ref o), (1, .ref a), (2, .int (nI r)), (3, .long h), (5, .long d), (7, .ref p), (8, .long (fs_hb f4 N n v r false 0 (fs_es nd v)))]) d_FR_holders_37 (by decide) rfl ?_
    refine fr_aload_n (pc := 39) d_FR_holders_39 rfl rfl ?_
    refine fr_aload (pc := 40) d_FR_holders_40 rfl ?_
    refine fr_aload_n (pc := 42) d_FR_holders_42 rfl rfl ?_
    refine fr_iload_n (pc := 43) d_FR_holders_43 rfl rfl ?_
    refine fr_iconst (pc := 44) (v := 1) d_FR_holders_44 (by decide) ?_
    refine fr_st (st2 := [.int (bI true), .int (nI r), .ref a, .ref p, .ref o]) rfl ?_
    refine fr_callv_p (pc := 45) (nc := nc) (ns := ns) (N := m_FR_hitUsers) (rest := []) (as := [.ref p, .ref a, .int (nI r), .int (bI true)]) d_FR_holders_45 vc_FR_216 ⟨by decide, by decide, Nat.le_of_ble_eq_true rfl⟩ (Nat.le_of_ble_eq_true rfl) h0 (c_FR_hit h0 hG hr hok hA hV ha hp hr8) rfl ?_
    refine fr_lstore (pc := 48) (L2 := [(0, .ref o), (1, .ref a), (2, .int (nI r)), (3, .long h), (5, .long d), (7, .ref p), (8, .long (fs_hb f4 N n v r false 0 (fs_es nd v))), (10, .long (fs_hb f4 N n v r true 0 (fs_es nd v)))]) d_FR_holders_48 (by decide) rfl ?_
    refine fr_lload_n (pc := 50) d_FR_holders_50 rfl rfl ?_
    refine fr_lload (pc := 51) d_FR_holders_51 rfl ?_
    refine fr_lload (pc := 53) d_FR_holders_53 rfl ?_
    refine fr_ldc2 (pc := 55) (v := -1) d_FR_holders_55 (fw_t 538 (by decide +kernel)) ?_
    refine fr_lxor (pc := 58) d_FR_holders_58 ?_
    refine fr_land (pc := 59) d_FR_holders_59 ?_
    refine fr_lload (pc := 60) d_FR_holders_60 rfl ?_
    refine fr_ldc2 (pc := 62) (v := -1) d_FR_holders_62 (fw_t 538 (by decide +kernel)) ?_
    refine fr_lxor (pc := 65) d_FR_holders_65 ?_
    refine fr_land (pc := 66) d_FR_holders_66 ?_
    refine fr_lor (pc := 67) d_FR_holders_67 ?_
    refine fr_lstore_n (pc := 68) (L2 := [(0, .ref o), (1, .ref a), (2, .int (nI r)), (3, .long (h ||| (((fs_hb f4 N n v r true 0 (fs_es nd v)) &&& ((fs_hb f4 N n v r false 0 (fs_es nd v)) ^^^ (-1))) &&& (d ^^^ (-1))))), (5, .long d), (7, .ref p), (8, .long (fs_hb f4 N n v r false 0 (fs_es nd v))), (10, .long (fs_hb f4 N n v r true 0 (fs_es nd v)))]) d_FR_holders_68 rfl (by decide) rfl ?_
    refine fr_lload (pc := 69) d_FR_holders_69 rfl ?_
    refine fr_lload (pc := 71) d_FR_holders_71 rfl ?_
    refine fr_lload (pc := 73) d_FR_holders_73 rfl ?_
    refine fr_lor (pc := 75) d_FR_holders_75 ?_
    refine fr_lor (pc := 76) d_FR_holders_76 ?_
    refine fr_lstore (pc := 77) (L2 := [(0, .ref o), (1, .ref a), (2, .int (nI r)), (3, .long (h ||| (((fs_hb f4 N n v r true 0 (fs_es nd v)) &&& ((fs_hb f4 N n v r false 0 (fs_es nd v)) ^^^ (-1))) &&& (d ^^^ (-1))))), (5, .long (d ||| ((fs_hb f4 N n v r false 0 (fs_es nd v)) ||| (fs_hb f4 N n v r true 0 (fs_es nd v))))), (7, .ref p), (8, .long (fs_hb f4 N n v r false 0 (fs_es nd v))), (10, .long (fs_hb f4 N n v r true 0 (fs_es nd v)))]) d_FR_holders_77 (by decide) rfl ?_
    refine fr_aload (pc := 79) d_FR_holders_79 rfl ?_
    refine fr_callv_p (pc := 81) (nc := nc) (ns := ns) (N := m_ND_nextLevel) (rest := []) (as := []) d_FR_holders_81 vc_FR_189 ⟨by decide, by decide, Nat.le_of_ble_eq_true rfl⟩ (Nat.le_of_ble_eq_true rfl) hcp (c_ND_next hcp rfl rfl) rfl ?_
    cases hbl : V.2.2.2.1 with
    | true =>
      refine fr_st (st2 := [.null]) rfl ?_
      refine fr_astoreN (pc := 84) (L2 := [(0, .ref o), (1, .ref a), (2, .int (nI r)), (3, .long (h ||| (((fs_hb f4 N n v r true 0 (fs_es nd v)) &&& ((fs_hb f4 N n v r false 0 (fs_es nd v)) ^^^ (-1))) &&& (d ^^^ (-1))))), (5, .long (d ||| ((fs_hb f4 N n v r false 0 (fs_es nd v)) ||| (fs_hb f4 N n v r true 0 (fs_es nd v))))), (7, .null), (8, .long (fs_hb f4 N n v r false 0 (fs_es nd v))), (10, .long (fs_hb f4 N n v r true 0 (fs_es nd v)))]) d_FR_holders_84 (by decide) rfl ?_
      refine fr_goto (pc := 86) (tgt := 23) d_FR_holders_86 (by decide) ?_
      refine fr_aloadN (pc := 23) d_FR_holders_23 rfl ?_
      refine fr_ifnullN (pc := 25) (tgt := 89) d_FR_holders_25 (by decide) ?_
      refine fr_lload_n (pc := 89) d_FR_holders_89 rfl rfl ?_
      have e : fs_hs nd f4 N n r h d (fs_lv nd (v :: pa :: t)) = (h ||| (((fs_hb f4 N n v r true 0 (fs_es nd v)) &&& ((fs_hb f4 N n v r false 0 (fs_es nd v)) ^^^ (-1))) &&& (d ^^^ (-1)))) := by
        have e2 : fs_lv nd (v :: pa :: t) = [v] := by simp [fs_lv, fs_bl, hV, hbl]
        rw [e2]; rfl
      rw [e]
      exact fr_lret rfl d_FR_holders_90 ⟨rfl, rfl⟩
    | false =>
      refine fr_st (st2 := [.ref p2]) (by rw [hpr]; show [va_rf (ad pa)] = _; rw [rf_some hp2]) ?_
      refine fr_astore (pc := 84) (L2 := [(0, .ref o), (1, .ref a), (2, .int (nI r)), (3, .long (h ||| (((fs_hb f4 N n v r true 0 (fs_es nd v)) &&& ((fs_hb f4 N n v r false 0 (fs_es nd v)) ^^^ (-1))) &&& (d ^^^ (-1))))), (5, .long (d ||| ((fs_hb f4 N n v r false 0 (fs_es nd v)) ||| (fs_hb f4 N n v r true 0 (fs_es nd v))))), (7, .ref p2), (8, .long (fs_hb f4 N n v r false 0 (fs_es nd v))), (10, .long (fs_hb f4 N n v r true 0 (fs_es nd v)))]) d_FR_holders_84 (by decide) rfl ?_
      refine fr_goto (pc := 86) (tgt := 23) d_FR_holders_86 (by decide) ?_
      have e : fs_hs nd f4 N n r h d (fs_lv nd (v :: pa :: t)) = fs_hs nd f4 N n r (h ||| (((fs_hb f4 N n v r true 0 (fs_es nd v)) &&& ((fs_hb f4 N n v r false 0 (fs_es nd v)) ^^^ (-1))) &&& (d ^^^ (-1)))) (d ||| ((fs_hb f4 N n v r false 0 (fs_es nd v)) ||| (fs_hb f4 N n v r true 0 (fs_es nd v)))) (fs_lv nd (pa :: t)) := by
        have e2 : fs_lv nd (v :: pa :: t) = v :: fs_lv nd (pa :: t) := by
          rw [fs_lv]; simp [fs_bl, hV, hbl]
        rw [e2]; rfl
      rw [e]
      exact fr_Ld (fr_Ld (ih pa p2 _ _ hc2 hp2 _ rfl))
theorem c_FR_hold {g : fw_G} {nc ns : Nat} {w : fw_W} {o gr na us : Nat} (h0 : w o = some (.inr (0, [.ref gr, .ref na, .int (nI us)]))) {ng a1 a2 a3 a4 : Nat} {f1 f2 f3 f4 : Nat → Int64} (hG : gr_at g w gr a1 a2 a3 a4 ng f1 f2 f3 f4) {nd : fs_D} {ad : Nat → Option Nat} {lq ld lc : Nat → Nat} {lt : Nat → List Nat} (hr : fs_rN g w nd ad lq ld lc lt) (hok : fs_ok us ng nd) {n a r : Nat} {N : fs_N} (hA : nd n = some N) (ha : ad n = some a) (hr8 : r < 8) : fw_R g m_FR_holders (fw_pv (.long (fs_hs nd f4 N n r (if r = 7 then (1 : Int64) <<< ((nI N.2.2.1).toInt64 &&& 63) else 0) (if r = 7 then (1 : Int64) <<< ((nI N.2.2.1).toInt64 &&& 63) else 0) (fs_ls nd n))) w) nc ns w 0 [(0, .ref o), (1, .ref a), (2, .int (nI r))] [] := by
  obtain ⟨-, a0, ha0, hca, -, -⟩ := hr.2.1 n N hA
  rw [ha] at ha0; cases ha0
  obtain ⟨-, -, -, -, hk5⟩ := id hok
  obtain ⟨-, -, -, -, -, hchn, -⟩ := hk5 n N hA
  refine fr_iload_n (pc := 0) d_FR_holders_0 rfl rfl ?_
  refine fr_bipush (pc := 1) (v := 7) d_FR_holders_1 (by decide) ?_
  refine fr_icmp_ne (pc := 3) (tgt := 15) d_FR_holders_3 (by decide) (fun q => ?_) (fun q => ?_)
  · have h7 : ¬ r = 7 := fun z => q (by rw [z]; rfl)
    rw [if_neg h7]
    refine fr_lconst (pc := 15) (v := 0) d_FR_holders_15 (by decide) ?_
    refine fr_lstore_n (pc := 16) (L2 := [(0, .ref o), (1, .ref a), (2, .int (nI r)), (3, .long 0)]) d_FR_holders_16 rfl (by decide) rfl ?_
    refine fr_lload_n (pc := 17) d_FR_holders_17 rfl rfl ?_
    refine fr_lstore (pc := 18) (L2 := [(0, .ref o), (1, .ref a), (2, .int (nI r)), (3, .long 0), (5, .long 0)]) d_FR_holders_18 (by decide) rfl ?_
    refine fr_aload_n (pc := 20) d_FR_holders_20 rfl rfl ?_
    refine fr_astore (pc := 21) (L2 := [(0, .ref o), (1, .ref a), (2, .int (nI r)), (3, .long 0), (5, .long 0), (7, .ref a)]) d_FR_holders_21 (by decide) rfl ?_
    exact c_FR_hold_l h0 hG hr hok hA ha hr8 _ n a _ _ hchn ha _ rfl
  · have h7 : r = 7 := (ni_eq (b := 7) (by omega) (by omega)).mp q
    rw [if_pos h7]
    refine fr_lconst (pc := 6) (v := 1) d_FR_holders_6 (by decide) ?_
    refine fr_aload_n (pc := 7) d_FR_holders_7 rfl rfl ?_
    refine fr_get (pc := 8) (v := .int (nI N.2.2.1)) d_FR_holders_8 fg_FR_156 hca rfl ?_
    refine fr_lshl (pc := 11) d_FR_holders_11 rfl ?_
    refine fr_goto (pc := 12) (tgt := 16) d_FR_holders_12 (by decide) ?_
    refine fr_lstore_n (pc := 16) (L2 := [(0, .ref o), (1, .ref a), (2, .int (nI r)), (3, .long (1 <<< (((nI N.2.2.1)).toInt64 &&& 63)))]) d_FR_holders_16 rfl (by decide) rfl ?_
    refine fr_lload_n (pc := 17) d_FR_holders_17 rfl rfl ?_
    refine fr_lstore (pc := 18) (L2 := [(0, .ref o), (1, .ref a), (2, .int (nI r)), (3, .long (1 <<< (((nI N.2.2.1)).toInt64 &&& 63))), (5, .long (1 <<< (((nI N.2.2.1)).toInt64 &&& 63)))]) d_FR_holders_18 (by decide) rfl ?_
    refine fr_aload_n (pc := 20) d_FR_holders_20 rfl rfl ?_
    refine fr_astore (pc := 21) (L2 := [(0, .ref o), (1, .ref a), (2, .int (nI r)), (3, .long (1 <<< (((nI N.2.2.1)).toInt64 &&& 63))), (5, .long (1 <<< (((nI N.2.2.1)).toInt64 &&& 63))), (7, .ref a)]) d_FR_holders_21 (by decide) rfl ?_
    exact c_FR_hold_l h0 hG hr hok hA ha hr8 _ n a _ _ hchn ha _ rfl
theorem c_FR_fieldOf {g : fw_G} {nc ns : Nat} {w : fw_W} {f : Nat} {x y z : Int32} (hf : f < 3) : fw_R g m_FR_fieldOf (fw_pv (.int (if f = 0 then x else if f = 1 then y else z)) w) nc ns w 0 [(0, .int (nI f)), (1, .int x), (2, .int y), (3, .int z)] [] := by
  refine fr_iload_n (pc := 0) d_FR_fieldOf_0 rfl rfl ?_
  refine fr_if_ne (pc := 1) (tgt := 6) d_FR_fieldOf_1 (by decide) (fun q => ?_) (fun q => ?_)
  · have h0 : ¬ f = 0 := fun e => q (by rw [e]; rfl)
    rw [if_neg h0]
    refine fr_iload_n (pc := 6) d_FR_fieldOf_6 rfl rfl ?_
    refine fr_iconst (pc := 7) (v := 1) d_FR_fieldOf_7 (by decide) ?_
    refine fr_icmp_ne (pc := 8) (tgt := 15) d_FR_fieldOf_8 (by decide) (fun q2 => ?_) (fun q2 => ?_)
    · have h1 : ¬ f = 1 := fun e => q2 (by rw [e]; rfl)
      rw [if_neg h1]
      refine fr_iload_n (pc := 15) d_FR_fieldOf_15 rfl rfl ?_
      exact fr_iret rfl d_FR_fieldOf_16 ⟨rfl, rfl⟩
    · have h1 : f = 1 := (ni_eq (b := 1) (by omega) (by omega)).mp q2
      rw [if_pos h1]
      refine fr_iload_n (pc := 11) d_FR_fieldOf_11 rfl rfl ?_
      refine fr_goto (pc := 12) (tgt := 16) d_FR_fieldOf_12 (by decide) ?_
      exact fr_iret rfl d_FR_fieldOf_16 ⟨rfl, rfl⟩
  · have h0 : f = 0 := (ni_eq (b := 0) (by omega) (by omega)).mp q
    rw [if_pos h0]
    refine fr_iload_n (pc := 4) d_FR_fieldOf_4 rfl rfl ?_
    exact fr_iret rfl d_FR_fieldOf_5 ⟨rfl, rfl⟩
end
section
def fs_Kc (A : fs_A) (b : Nat) (e : va_E) : Prop := (∃ ci fs, e = .inr (ci, fs) ∧ ci ≤ 4) ∨ (∃ c n f, e = .inl (c, n, .inr (.inr (.inr (.inr f))))) ∨ b = A.2.2.1 ∨ b = A.2.2.2.1 ∨ b = A.2.2.2.2.1 ∨ b = A.2.2.2.2.2.1
def fs_Fr (A : fs_A) (w u : fw_W) : Prop := ∀ b e, w b = some e → fs_Kc A b e ∨ u b = some e
theorem fs_Fr_id {A : fs_A} {w : fw_W} : fs_Fr A w w := fun _ _ h => Or.inr h
theorem fs_Fr_up {A : fs_A} {w u : fw_W} {a : Nat} {x : va_E} (hF : fs_Fr A w u) (h : ∀ e, w a = some e → fs_Kc A a e) : fs_Fr A w (fw_up u a x) := by
  intro b e hb
  by_cases hba : b = a
  · subst hba; exact Or.inl (h e hb)
  · rw [fw_up_ne hba]; exact hF b e hb
theorem fs_F2_Fr {A : fs_A} {w u : fw_W} (h : fs_F2 w u) : fs_Fr A w u := by
  intro b e hb
  by_cases hc : ∃ fs, e = .inr (2, fs)
  · obtain ⟨fs, rfl⟩ := hc
    exact Or.inl (Or.inl ⟨2, fs, rfl, by omega⟩)
  · refine Or.inr ?_
    rw [h b (fun fs hfs => hc ⟨fs, by rw [hb] at hfs; exact Option.some.inj hfs⟩)]
    exact hb
def fs_P (g : fw_G) (A : fs_A) (w : fw_W) (r0 : fw_O) (S : fs_S) : fw_O → fw_W → Prop := fun r u => r = r0 ∧ fs_X g A S u ∧ fs_Fr A w u
theorem fs_X_el {g : fw_G} {o gr a1 a2 a3 a4 na us n : Nat} {hu hg : Nat → Nat → Bool} {nd : fs_D} {w : fw_W} (h : fs_X g (o, gr, a1, a2, a3, a4, na) (us, n, hu, hg, nd) w) : ∃ f1 f2 f3 f4 ad lq ld lc lt,
    fs_ok us n nd ∧ w o = some (.inr (0, [.ref gr, .ref na, .int (nI us)])) ∧ gr_at g w gr a1 a2 a3 a4 n f1 f2 f3 f4 ∧ gr_rep hu hg n us f1 f2 f3 f4 ∧ w na = some (fs_no g ad) ∧ fs_rN g w nd ad lq ld lc lt := h
theorem fs_X_in {g : fw_G} {o gr a1 a2 a3 a4 na us n : Nat} {hu hg : Nat → Nat → Bool} {nd : fs_D} {w : fw_W} {f1 f2 f3 f4 : Nat → Int64} {ad : Nat → Option Nat} {lq ld lc : Nat → Nat} {lt : Nat → List Nat} (hok : fs_ok us n nd) (h0 : w o = some (.inr (0, [.ref gr, .ref na, .int (nI us)]))) (hG : gr_at g w gr a1 a2 a3 a4 n f1 f2 f3 f4) (hR : gr_rep hu hg n us f1 f2 f3 f4) (hN : w na = some (fs_no g ad)) (hr : fs_rN g w nd ad lq ld lc lt) : fs_X g (o, gr, a1, a2, a3, a4, na) (us, n, hu, hg, nd) w := ⟨f1, f2, f3, f4, ad, lq, ld, lc, lt, hok, h0, hG, hR, hN, hr⟩
def fs_kk (e : va_E) : Prop := (∃ ci fs, e = .inr (ci, fs) ∧ 2 ≤ ci ∧ ci ≤ 4) ∨ ∃ c n f, e = .inl (c, n, .inr (.inr (.inr (.inr f)))) ∧ n ≠ 150
theorem fs_rN_fr {g : fw_G} {w u : fw_W} {nd : fs_D} {ad : Nat → Option Nat} {lq ld lc : Nat → Nat} {lt : Nat → List Nat} (h : fs_rN g w nd ad lq ld lc lt) (hF : ∀ b e, w b = some e → fs_kk e → u b = some e) : fs_rN g u nd ad lq ld lc lt := by
  obtain ⟨h0, h1, h2, h3⟩ := h
  refine ⟨h0, fun k N hk => ?_, h2, h3⟩
  obtain ⟨q1, a, ha, hc, hl, hE⟩ := h1 k N hk
  refine ⟨q1, a, ha, hF _ _ hc (Or.inl ⟨2, _, rfl, by omega, by omega⟩), ?_, fs_en_of hE (fun b fs hb => hF _ _ hb (Or.inl ⟨3, _, rfl, by omega, by omega⟩))⟩
  obtain ⟨mc, e1, e2, e3, e4⟩ := hl
  refine ⟨mc, hF _ _ e1 (Or.inl ⟨4, _, rfl, by omega, by omega⟩), e2, fun y hy => ?_, ?_⟩
  · obtain ⟨fs, hfs⟩ := e3 y hy
    exact ⟨fs, hF _ _ hfs (Or.inl ⟨3, _, rfl, by omega, by omega⟩)⟩
  · rcases e4 with e4 | ⟨e4, e5, e6⟩
    · exact Or.inl e4
    · exact Or.inr ⟨hF _ _ e4 (Or.inr ⟨_, _, _, rfl, by omega⟩), e5, e6⟩
theorem fs_up_kk {w : fw_W} {a : Nat} {x y : va_E} (ha : w a = some x) (hx : ¬ fs_kk x) (b : Nat) (e : va_E) (hb : w b = some e) (he : fs_kk e) : fw_up w a y b = some e := by
  refine fw_up_at hb (fun z => ?_)
  subst z
  rw [ha] at hb; cases hb
  exact hx he
theorem fs_kk_01 {ci : Nat} {fs : List Value} (h : ci < 2) : ¬ fs_kk (.inr (ci, fs)) := by
  rintro (⟨c2, f2, e, h1, h2⟩ | ⟨c, n, f, e, -⟩)
  · cases e; omega
  · cases e
theorem fs_kk_l {c : ClassId} {n : Nat} {f : Nat → Int64} : ¬ fs_kk (.inl (c, n, .inr (.inl f))) := by
  rintro (⟨c2, f2, e, h1, h2⟩ | ⟨c, n, f, e, -⟩) <;> cases e
theorem fs_gr_fr {g : fw_G} {w u : fw_W} {gr a1 a2 a3 a4 n : Nat} {f1 f2 f3 f4 : Nat → Int64} (h : gr_at g w gr a1 a2 a3 a4 n f1 f2 f3 f4) (hF : ∀ b e, w b = some e → (∀ ci fs, e = .inr (ci, fs) → ci = 1) → (∀ c n f, e ≠ .inl (c, n, .inr (.inr (.inr (.inr f))))) → u b = some e) : gr_at g u gr a1 a2 a3 a4 n f1 f2 f3 f4 := by
  obtain ⟨e0, e1, e2, e3, e4, e5⟩ := h
  refine ⟨hF _ _ e0 (fun ci fs z => by cases z; rfl) (fun c n f z => by cases z), hF _ _ e1 (fun ci fs z => by cases z) (fun c n f z => by cases z), hF _ _ e2 (fun ci fs z => by cases z) (fun c n f z => by cases z), hF _ _ e3 (fun ci fs z => by cases z) (fun c n f z => by cases z), hF _ _ e4 (fun ci fs z => by cases z) (fun c n f z => by cases z), e5⟩
theorem fs_X_F2 {g : fw_G} {o gr a1 a2 a3 a4 na us n : Nat} {hu hg : Nat → Nat → Bool} {nd2 : fs_D} {w u : fw_W} {f1 f2 f3 f4 : Nat → Int64} {ad : Nat → Option Nat} {lq ld lc : Nat → Nat} {lt : Nat → List Nat} (hok : fs_ok us n nd2) (h0 : w o = some (.inr (0, [.ref gr, .ref na, .int (nI us)]))) (hG : gr_at g w gr a1 a2 a3 a4 n f1 f2 f3 f4) (hR : gr_rep hu hg n us f1 f2 f3 f4) (hN : w na = some (fs_no g ad)) (hF : fs_F2 w u) (hr : fs_rN g u nd2 ad lq ld lc lt) : fs_X g (o, gr, a1, a2, a3, a4, na) (us, n, hu, hg, nd2) u :=
  ⟨f1, f2, f3, f4, ad, lq, ld, lc, lt, hok, fs_F2_3 hF _ h0 (fun fs z => by cases z), fs_gr_fr hG (fun b e hb h1 _ => fs_F2_3 hF b hb (fun fs z => by have := h1 2 fs z; omega)), hR, fs_F2_3 hF _ hN (fun fs z => by cases z), hr⟩
theorem fs_ok_n {us n us2 n2 : Nat} {nd : fs_D} (h : fs_ok us n nd) (h1 : us ≤ us2) (h2 : us2 ≤ 60) (h3 : n ≤ n2) (h4 : n2 ≤ 24) : fs_ok us2 n2 nd := by
  obtain ⟨q1, q2, q3, q4, q5⟩ := h
  refine ⟨by omega, h2, h4, q4, fun k N hk => ?_⟩
  obtain ⟨e1, e2, e3, e4, e5, e6⟩ := q5 k N hk
  refine ⟨e1, e2, by omega, e4, fun E hE => ?_, e6⟩
  obtain ⟨p1, p2⟩ := e5 E hE
  refine ⟨?_, p2⟩
  split at p1 <;> rename_i hh
  · rw [if_pos hh]; omega
  · rw [if_neg hh]; omega
theorem fs_ok_t {us n : Nat} {nd nd2 : fs_D} (h : fs_ok us n nd) (hp : ∀ k, (nd2 k).map (fun N => N.2.1) = (nd k).map (fun N => N.2.1)) (hk : ∀ k N, nd2 k = some N → N.2.2.1 < us ∧ N.2.2.2.2.2.length ≤ 12 ∧ ∀ E ∈ N.2.2.2.2.2, fs_eo us n E) : fs_ok us n nd2 := by
  obtain ⟨q1, q2, q3, ⟨N0, q4, q6⟩, q5⟩ := h
  have key : ∀ k N2, nd2 k = some N2 → ∃ N, nd k = some N ∧ N2.2.1 = N.2.1 := by
    intro k N2 h2
    have := hp k
    rw [h2] at this
    cases h1 : nd k with
    | none => rw [h1] at this; cases this
    | some N => rw [h1] at this; exact ⟨N, rfl, Option.some.inj this⟩
  refine ⟨q1, q2, q3, ?_, fun k N2 h2 => ?_⟩
  · have := hp 0
    rw [q4] at this
    cases h2 : nd2 0 with
    | none => rw [h2] at this; cases this
    | some M => rw [h2] at this; exact ⟨M, rfl, (Option.some.inj this).trans q6⟩
  · obtain ⟨N, h1, e⟩ := key k N2 h2
    obtain ⟨e1, e2, e3, e4, e5, e6, e7⟩ := q5 k N h1
    obtain ⟨p1, p2, p3⟩ := hk k N2 h2
    refine ⟨e1, fun z => e2 (e ▸ z), p1, p2, p3, ?_, ?_⟩
    · rw [fs_ab_eq hp]; exact fs_ch_eq hp _ _ e6
    · rw [fs_ab_eq hp]; exact e7
theorem fs_pa_up {nd : fs_D} {k : Nat} {N N2 : fs_N} (hk : nd k = some N) (h : N2.2.1 = N.2.1) (j : Nat) : (va_up nd k (some N2) j).map (fun N => N.2.1) = (nd j).map (fun N => N.2.1) := by
  by_cases e : j = k
  · subst e; rw [vu_self, hk]; show some N2.2.1 = some N.2.1; rw [h]
  · rw [vu_ne e]
theorem fs_ok_up {us n : Nat} {nd : fs_D} (h : fs_ok us n nd) {k : Nat} {N N2 : fs_N} (hk : nd k = some N) (h1 : N2.2.1 = N.2.1) (h2 : N2.2.2.1 < us) (h3 : N2.2.2.2.2.2.length ≤ 12) (h4 : ∀ E ∈ N2.2.2.2.2.2, fs_eo us n E) : fs_ok us n (va_up nd k (some N2)) := by
  refine fs_ok_t h (fs_pa_up hk h1) (fun j M hj => ?_)
  by_cases e : j = k
  · subst e; rw [vu_self] at hj; cases hj; exact ⟨h2, h3, h4⟩
  · rw [vu_ne e] at hj
    obtain ⟨-, -, e3, e4, e5, -⟩ := h.2.2.2.2 j M hj
    exact ⟨e3, e4, e5⟩
theorem fs_mk_some {nd : fs_D} {t i k : Nat} {M : fs_N} (h : fs_mk nd t i k = some M) : ∃ N, nd k = some N ∧ M.1 = N.1 ∧ M.2.1 = N.2.1 ∧ M.2.2.1 = N.2.2.1 ∧ M.2.2.2.1 = N.2.2.2.1 ∧ M.2.2.2.2.2 = N.2.2.2.2.2 := by
  cases hk : nd k with
  | none => simp [fs_mk, hk] at h
  | some N =>
    simp only [fs_mk, hk] at h
    refine ⟨N, rfl, ?_⟩
    split at h <;> (cases h; exact ⟨rfl, rfl, rfl, rfl, rfl⟩)
theorem fs_ok_mk {us n : Nat} {nd : fs_D} (h : fs_ok us n nd) {t i : Nat} : fs_ok us n (fs_mk nd t i) := by
  refine fs_ok_t h fs_mk_pa (fun j M hj => ?_)
  obtain ⟨N, h1, -, -, q3, -, q5⟩ := fs_mk_some hj
  obtain ⟨-, -, e3, e4, e5, -⟩ := h.2.2.2.2 j N h1
  rw [q3, q5]; exact ⟨e3, e4, e5⟩
theorem fs_ok_ch {us n : Nat} {nd : fs_D} (h : fs_ok us n nd) : ∀ k N, nd k = some N → fs_ch nd k (fs_ab nd k) := fun k N hk => (h.2.2.2.2 k N hk).2.2.2.2.2.1
theorem p_FR_user_ok {g : fw_G} {w : fw_W} {o gr a1 a2 a3 a4 na us n : Nat} {hu hg : Nat → Nat → Bool} {nd : fs_D} (hX : fs_X g (o, gr, a1, a2, a3, a4, na) (us, n, hu, hg, nd) w) (h60 : us < 60) : fw_R g m_FR_user (fs_P g (o, gr, a1, a2, a3, a4, na) w (.inl (some (.int (nI us)))) (us + 1, n, hu, hg, nd)) 1 6 w 0 [(0, .ref o)] [] := by
  obtain ⟨f1, f2, f3, f4, ad, lq, ld, lc, lt, hok, h0, hG, hR, hN, hr⟩ := fs_X_el hX
  refine fr_aload_n (pc := 0) d_FR_user_0 rfl rfl ?_
  refine fr_get (pc := 1) (v := .int (nI us)) d_FR_user_1 fg_FR_25 h0 rfl ?_
  refine fr_bipush (pc := 4) (v := 60) d_FR_user_4 (by decide) ?_
  refine fr_icmp_lt (pc := 6) (tgt := 19) d_FR_user_6 (by decide) (fun q => ?_) (fun q => ?_)
  · refine fr_aload_n (pc := 19) d_FR_user_19 rfl rfl ?_
    refine fr_dup (pc := 20) d_FR_user_20 rfl ?_
    refine fr_get (pc := 21) (v := .int (nI us)) d_FR_user_21 fg_FR_25 h0 rfl ?_
    refine fr_dup_x1 (pc := 24) d_FR_user_24 rfl rfl ?_
    refine fr_iconst (pc := 25) (v := 1) d_FR_user_25 (by decide) ?_
    refine fr_iadd (pc := 26) d_FR_user_26 ?_
    refine fr_st (st2 := [.int (nI (us + 1)), .ref o, .int (nI us)]) (by rw [← fi_1]; rfl) ?_
    refine fr_put (pc := 27) (fs2 := [.ref gr, .ref na, .int (nI (us + 1))]) d_FR_user_27 fp_FR_user_25 h0 (Nat.le_of_ble_eq_true rfl) rfl rfl rfl ?_
    exact fr_iret rfl d_FR_user_30 ⟨rfl, fs_X_in (fs_ok_n hok (by omega) (by omega) (Nat.le_refl _) hG.2.2.2.2.2.1) fw_up_self (fs_gr_fr hG (fun b e hb h1 _ => fw_up_at hb (fs_ne hb h0 (fun z => by have := h1 0 _ z; omega)))) (gr_rep_n hR (Nat.le_refl _) hG.2.2.2.2.2.1 (by omega) (by omega)) (fw_up_at hN (fs_ne hN h0 (fun z => by cases z))) (fs_rN_fr hr (fs_up_kk h0 (fs_kk_01 (by omega)))), fs_Fr_up fs_Fr_id (fun e he => by rw [h0] at he; cases he; exact Or.inl ⟨0, _, rfl, by omega⟩)⟩
  · exact absurd ((ni_lt (b := 60) (by omega) (by omega)).mpr h60) q
theorem p_FR_user_no {g : fw_G} {w : fw_W} {o gr a1 a2 a3 a4 na us n : Nat} {hu hg : Nat → Nat → Bool} {nd : fs_D} (hX : fs_X g (o, gr, a1, a2, a3, a4, na) (us, n, hu, hg, nd) w) (h60 : ¬ us < 60) : fw_R g m_FR_user (fs_P g (o, gr, a1, a2, a3, a4, na) w (.inr "java/lang/IllegalStateException") (us, n, hu, hg, nd)) 1 6 w 0 [(0, .ref o)] [] := by
  obtain ⟨f1, f2, f3, f4, ad, lq, ld, lc, lt, hok, h0, hG, hR, hN, hr⟩ := fs_X_el hX
  have h61 : us = 60 := by have := hok.2.1; omega
  refine fr_aload_n (pc := 0) d_FR_user_0 rfl rfl ?_
  refine fr_get (pc := 1) (v := .int (nI us)) d_FR_user_1 fg_FR_25 h0 rfl ?_
  refine fr_bipush (pc := 4) (v := 60) d_FR_user_4 (by decide) ?_
  refine fr_icmp_lt (pc := 6) (tgt := 19) d_FR_user_6 (by decide) (fun q => ?_) (fun q => ?_)
  · exact absurd ((ni_lt (b := 60) (by omega) (by omega)).mp q) h60
  · exact fr_throw (pc := 9) (nc := 0) (ns := 0) th_FR_31 d_FR_user_9 d_FR_user_12 d_FR_user_13 d_FR_user_15 d_FR_user_18 (by decide) (by decide) (by decide) ⟨rfl, hX, fs_Fr_id⟩
theorem p_FR_group_ok {g : fw_G} {w : fw_W} {o gr a1 a2 a3 a4 na us n : Nat} {hu hg : Nat → Nat → Bool} {nd : fs_D} (hX : fs_X g (o, gr, a1, a2, a3, a4, na) (us, n, hu, hg, nd) w) (h24 : n < 24) : fw_R g m_FR_group (fs_P g (o, gr, a1, a2, a3, a4, na) w (.inl (some (.int (nI n)))) (us, n + 1, hu, hg, nd)) 1 6 w 0 [(0, .ref o)] [] := by
  obtain ⟨f1, f2, f3, f4, ad, lq, ld, lc, lt, hok, h0, hG, hR, hN, hr⟩ := fs_X_el hX
  refine fr_aload_n (pc := 0) d_FR_group_0 rfl rfl ?_
  refine fr_get (pc := 1) (v := .ref gr) d_FR_group_1 fg_FR_10 h0 rfl ?_
  refine fr_get (pc := 4) (v := .int (nI n)) d_FR_group_4 fg_FR_36 hG.1 rfl ?_
  refine fr_bipush (pc := 7) (v := 24) d_FR_group_7 (by decide) ?_
  refine fr_icmp_lt (pc := 9) (tgt := 22) d_FR_group_9 (by decide) (fun q => ?_) (fun q => ?_)
  · refine fr_aload_n (pc := 22) d_FR_group_22 rfl rfl ?_
    refine fr_get (pc := 23) (v := .ref gr) d_FR_group_23 fg_FR_10 h0 rfl ?_
    refine fr_dup (pc := 26) d_FR_group_26 rfl ?_
    refine fr_get (pc := 27) (v := .int (nI n)) d_FR_group_27 fg_FR_36 hG.1 rfl ?_
    refine fr_dup_x1 (pc := 30) d_FR_group_30 rfl rfl ?_
    refine fr_iconst (pc := 31) (v := 1) d_FR_group_31 (by decide) ?_
    refine fr_iadd (pc := 32) d_FR_group_32 ?_
    refine fr_st (st2 := [.int (nI (n + 1)), .ref gr, .int (nI n)]) (by rw [← fi_1]; rfl) ?_
    refine fr_put (pc := 33) (fs2 := [.int (nI (n + 1)), .ref a1, .ref a2, .ref a3, .ref a4]) d_FR_group_33 fp_FR_group_36 hG.1 (Nat.le_of_ble_eq_true rfl) rfl rfl rfl ?_
    obtain ⟨g0, g1, g2, g3, g4, g5, g6⟩ := id hG
    obtain ⟨m1, m2, m3, m4⟩ : gr ≠ a1 ∧ gr ≠ a2 ∧ gr ≠ a3 ∧ gr ≠ a4 := g6.2.2.2.2.2.2
    exact fr_iret rfl d_FR_group_36 ⟨rfl, fs_X_in (fs_ok_n hok (Nat.le_refl _) hok.2.1 (by omega) (by omega)) (fw_up_at h0 (fs_ne h0 g0 (fun z => by cases z))) ⟨fw_up_self, fw_up_at g1 (Ne.symm m1), fw_up_at g2 (Ne.symm m2), fw_up_at g3 (Ne.symm m3), fw_up_at g4 (Ne.symm m4), by omega, g6⟩ (gr_rep_n hR (by omega) (by omega) (Nat.le_refl _) hok.2.1) (fw_up_at hN (fs_ne hN g0 (fun z => by cases z))) (fs_rN_fr hr (fs_up_kk g0 (fs_kk_01 (by omega)))), fs_Fr_up fs_Fr_id (fun e he => by rw [g0] at he; cases he; exact Or.inl ⟨1, _, rfl, by omega⟩)⟩
  · exact absurd ((ni_lt (b := 24) (by omega) (by omega)).mpr h24) q
theorem p_FR_group_no {g : fw_G} {w : fw_W} {o gr a1 a2 a3 a4 na us n : Nat} {hu hg : Nat → Nat → Bool} {nd : fs_D} (hX : fs_X g (o, gr, a1, a2, a3, a4, na) (us, n, hu, hg, nd) w) (h24 : ¬ n < 24) : fw_R g m_FR_group (fs_P g (o, gr, a1, a2, a3, a4, na) w (.inr "java/lang/IllegalStateException") (us, n, hu, hg, nd)) 1 6 w 0 [(0, .ref o)] [] := by
  obtain ⟨f1, f2, f3, f4, ad, lq, ld, lc, lt, hok, h0, hG, hR, hN, hr⟩ := fs_X_el hX
  have h25 : n = 24 := by have := hok.2.2.1; omega
  refine fr_aload_n (pc := 0) d_FR_group_0 rfl rfl ?_
  refine fr_get (pc := 1) (v := .ref gr) d_FR_group_1 fg_FR_10 h0 rfl ?_
  refine fr_get (pc := 4) (v := .int (nI n)) d_FR_group_4 fg_FR_36 hG.1 rfl ?_
  refine fr_bipush (pc := 7) (v := 24) d_FR_group_7 (by decide) ?_
  refine fr_icmp_lt (pc := 9) (tgt := 22) d_FR_group_9 (by decide) (fun q => ?_) (fun q => ?_)
  · exact absurd ((ni_lt (b := 24) (by omega) (by omega)).mp q) h24
  · exact fr_throw (pc := 12) (nc := 0) (ns := 0) th_FR_39 d_FR_group_12 d_FR_group_15 d_FR_group_16 d_FR_group_18 d_FR_group_21 (by decide) (by decide) (by decide) ⟨rfl, hX, fs_Fr_id⟩
theorem p_FR_in_ok {g : fw_G} {w : fw_W} {o gr a1 a2 a3 a4 na us n : Nat} {hu hg : Nat → Nat → Bool} {nd : fs_D} (hX : fs_X g (o, gr, a1, a2, a3, a4, na) (us, n, hu, hg, nd) w) {i u : Nat} (hi : i < n) (hu2 : u < us) : fw_R g m_FR_in (fs_P g (o, gr, a1, a2, a3, a4, na) w (.inl (some (.int (bI (fs_in hu hg i u))))) (us, n, hu, hg, nd)) 2 12 w 0 [(0, .ref o), (1, .int (nI i)), (2, .int (nI u))] [] := by
  obtain ⟨f1, f2, f3, f4, ad, lq, ld, lc, lt, hok, h0, hG, hR, hN, hr⟩ := fs_X_el hX
  have hb : n < 2 ^ 31 := by have := hok.2.2.1; omega
  have hb2 : us < 2 ^ 31 := by have := hok.2.1; omega
  refine fr_aload_n (pc := 0) d_FR_in_0 rfl rfl ?_
  refine fr_iload_n (pc := 1) d_FR_in_1 rfl rfl ?_
  refine fr_callv_n (pc := 2) (nc := 1) (ns := 6) (N := m_FR_requireGroup) (rest := []) (as := [.int (nI i)]) d_FR_in_2 vc_FR_41 ⟨by decide, by decide, Nat.le_of_ble_eq_true rfl⟩ (Nat.le_of_ble_eq_true rfl) h0 (c_FR_requireGroup h0 hG.1 hi hb) rfl ?_
  refine fr_aload_n (pc := 5) d_FR_in_5 rfl rfl ?_
  refine fr_iload_n (pc := 6) d_FR_in_6 rfl rfl ?_
  refine fr_callv_n (pc := 7) (nc := 0) (ns := 0) (N := m_FR_requireUser) (rest := []) (as := [.int (nI u)]) d_FR_in_7 vc_FR_67 ⟨by decide, by decide, Nat.le_of_ble_eq_true rfl⟩ (Nat.le_of_ble_eq_true rfl) h0 (c_FR_requireUser h0 hu2 hb2) rfl ?_
  refine fr_aload_n (pc := 10) d_FR_in_10 rfl rfl ?_
  refine fr_get (pc := 11) (v := .ref gr) d_FR_in_11 fg_FR_10 h0 rfl ?_
  refine fr_get (pc := 14) (v := .ref a4) d_FR_in_14 fg_FR_196 hG.1 rfl ?_
  refine fr_iload_n (pc := 17) d_FR_in_17 rfl rfl ?_
  obtain ⟨-, -, -, -, q4, hn24, -⟩ := id hG
  refine fr_laldN (pc := 18) d_FR_in_18 q4 (k := i) (by omega) (by omega) ?_
  refine fr_iload_n (pc := 19) d_FR_in_19 rfl rfl ?_
  refine fr_calls_p (pc := 20) (nc := 0) (ns := 0) (N := m_FR_isSet) (rest := []) (as := [.long (f4 i), .int (nI u)]) d_FR_in_20 k_FR_isSet lk_FR_163 sc_FR_isSet np_FR_isSet ⟨by decide, by decide, Nat.le_of_ble_eq_true rfl⟩ (Nat.le_of_ble_eq_true rfl) (c_FR_isSet (by have := hok.2.1; omega)) rfl ?_
  refine fr_st (st2 := [.int (bI (fs_in hu hg i u))]) (by rw [fs_in_f4 hR]) ?_
  exact fr_zret rfl (by first | exact bI_01 _ | exact Or.inl rfl | exact Or.inr rfl) d_FR_in_23 ⟨rfl, hX, fs_Fr_id⟩
theorem p_FR_in_n1 {g : fw_G} {w : fw_W} {o gr a1 a2 a3 a4 na us n : Nat} {hu hg : Nat → Nat → Bool} {nd : fs_D} (hX : fs_X g (o, gr, a1, a2, a3, a4, na) (us, n, hu, hg, nd) w) {x y : Int32} (hx : fs_no2 x n) : fw_R g m_FR_in (fs_P g (o, gr, a1, a2, a3, a4, na) w (.inr "java/util/NoSuchElementException") (us, n, hu, hg, nd)) 2 12 w 0 [(0, .ref o), (1, .int x), (2, .int y)] [] := by
  obtain ⟨f1, f2, f3, f4, ad, lq, ld, lc, lt, hok, h0, hG, hR, hN, hr⟩ := fs_X_el hX
  have hb : n < 2 ^ 31 := by have := hok.2.2.1; omega
  have hb2 : us < 2 ^ 31 := by have := hok.2.1; omega
  refine fr_aload_n (pc := 0) d_FR_in_0 rfl rfl ?_
  refine fr_iload_n (pc := 1) d_FR_in_1 rfl rfl ?_
  refine fr_callv_x (pc := 2) (nc := 1) (ns := 6) (N := m_FR_requireGroup) (rest := []) (as := [.int x]) d_FR_in_2 vc_FR_41 ⟨by decide, by decide, Nat.le_of_ble_eq_true rfl⟩ (Nat.le_of_ble_eq_true rfl) h0 (x_FR_requireGroup h0 hG.1 hx hb) rfl ?_
  exact fx_out (by decide) ⟨rfl, hX, fs_Fr_id⟩
theorem p_FR_in_n2 {g : fw_G} {w : fw_W} {o gr a1 a2 a3 a4 na us n : Nat} {hu hg : Nat → Nat → Bool} {nd : fs_D} (hX : fs_X g (o, gr, a1, a2, a3, a4, na) (us, n, hu, hg, nd) w) {i : Nat} {y : Int32} (hi : i < n) (hy : fs_no2 y us) : fw_R g m_FR_in (fs_P g (o, gr, a1, a2, a3, a4, na) w (.inr "java/util/NoSuchElementException") (us, n, hu, hg, nd)) 2 12 w 0 [(0, .ref o), (1, .int (nI i)), (2, .int y)] [] := by
  obtain ⟨f1, f2, f3, f4, ad, lq, ld, lc, lt, hok, h0, hG, hR, hN, hr⟩ := fs_X_el hX
  have hb : n < 2 ^ 31 := by have := hok.2.2.1; omega
  have hb2 : us < 2 ^ 31 := by have := hok.2.1; omega
  refine fr_aload_n (pc := 0) d_FR_in_0 rfl rfl ?_
  refine fr_iload_n (pc := 1) d_FR_in_1 rfl rfl ?_
  refine fr_callv_n (pc := 2) (nc := 1) (ns := 6) (N := m_FR_requireGroup) (rest := []) (as := [.int (nI i)]) d_FR_in_2 vc_FR_41 ⟨by decide, by decide, Nat.le_of_ble_eq_true rfl⟩ (Nat.le_of_ble_eq_true rfl) h0 (c_FR_requireGroup h0 hG.1 hi hb) rfl ?_
  refine fr_aload_n (pc := 5) d_FR_in_5 rfl rfl ?_
  refine fr_iload_n (pc := 6) d_FR_in_6 rfl rfl ?_
  refine fr_callv_x (pc := 7) (nc := 0) (ns := 0) (N := m_FR_requireUser) (rest := []) (as := [.int y]) d_FR_in_7 vc_FR_67 ⟨by decide, by decide, Nat.le_of_ble_eq_true rfl⟩ (Nat.le_of_ble_eq_true rfl) h0 (x_FR_requireUser h0 hy hb2) rfl ?_
  exact fx_out (by decide) ⟨rfl, hX, fs_Fr_id⟩
theorem fr_po {g : fw_G} {M : fw_M} {Post Post2 : fw_O → fw_W → Prop} {nc ns : Nat} {w : fw_W} {pc : Nat} {L : List (Nat × Value)} {st : List Value} (h : ∀ r u, Post r u → Post2 r u) (k : fw_R g M Post nc ns w pc L st) : fw_R g M Post2 nc ns w pc L st := by
  intro hg s m args below meth c H locs cells slots ls cx hB hH hS e1 e2 hl
  refine fw_mono (fun t ht => ?_) (k hg s m args below meth c H locs cells slots ls cx hB hH hS e1 e2 hl)
  obtain ⟨o, r, w1, L1, q1, q2, q3, q4, q5, q6, q7, q8, q9⟩ := ht
  exact ⟨o, r, w1, L1, q1, q2, q3, q4, q5, q6, q7, q8, h r w1 q9⟩
theorem p_FR_stale_ok {g : fw_G} {w : fw_W} {o gr a1 a2 a3 a4 na us n : Nat} {hu hg : Nat → Nat → Bool} {nd : fs_D} (hX : fs_X g (o, gr, a1, a2, a3, a4, na) (us, n, hu, hg, nd) w)  : fw_R g m_FR_stale (fs_P g (o, gr, a1, a2, a3, a4, na) w (.inl (some (.int (nI (fs_sum (fs_f3 nd) 150 0))))) (us, n, hu, hg, nd)) 0 0 w 0 [(0, .ref o)] [] := by
  obtain ⟨f1, f2, f3, f4, ad, lq, ld, lc, lt, hok, h0, hG, hR, hN, hr⟩ := fs_X_el hX
  have hh := c_FR_stale_p (nc := 0) (ns := 0) h0 hN hr
  rw [Nat.zero_add] at hh
  exact fr_po (fun r u h => by obtain ⟨e1, e2⟩ := h; subst e2; exact ⟨e1, hX, fs_Fr_id⟩) hh
theorem p_FR_owner_ok {g : fw_G} {w : fw_W} {o gr a1 a2 a3 a4 na us n : Nat} {hu hg : Nat → Nat → Bool} {nd : fs_D} (hX : fs_X g (o, gr, a1, a2, a3, a4, na) (us, n, hu, hg, nd) w) {k : Nat} {N : fs_N} (hk : nd k = some N) {u : Nat} (hu2 : u < us) : fw_R g m_FR_owner (fs_P g (o, gr, a1, a2, a3, a4, na) w (.inl (some (.int (nI N.2.2.1)))) (us, n, hu, hg, va_up nd k (some (N.1, N.2.1, u, N.2.2.2.1, N.2.2.2.2.1, N.2.2.2.2.2)))) 2 12 w 0 [(0, .ref o), (1, .int (nI k)), (2, .int (nI u))] [] := by
  obtain ⟨f1, f2, f3, f4, ad, lq, ld, lc, lt, hok, h0, hG, hR, hN, hr⟩ := fs_X_el hX
  have hb : n < 2 ^ 31 := by have := hok.2.2.1; omega
  have hb2 : us < 2 ^ 31 := by have := hok.2.1; omega
  obtain ⟨hk150, a, ha, hc, hl, hE⟩ := hr.2.1 k N hk
  obtain ⟨-, hk0, how, hlen, hes, hch, hdep⟩ := hok.2.2.2.2 k N hk
  refine fr_aload_n (pc := 0) d_FR_owner_0 rfl rfl ?_
  refine fr_iload_n (pc := 1) d_FR_owner_1 rfl rfl ?_
  refine fr_callv_p (pc := 2) (nc := 1) (ns := 6) (N := m_FR_nodeAt) (rest := []) (as := [.int (nI k)]) d_FR_owner_2 vc_FR_63 ⟨by decide, by decide, Nat.le_of_ble_eq_true rfl⟩ (Nat.le_of_ble_eq_true rfl) h0 (c_FR_nodeAt h0 hN hk150 ha) rfl ?_
  refine fr_astore_n (pc := 5) (L2 := [(0, .ref o), (1, .int (nI k)), (2, .int (nI u)), (3, .ref a)]) d_FR_owner_5 rfl (by decide) rfl ?_
  refine fr_aload_n (pc := 6) d_FR_owner_6 rfl rfl ?_
  refine fr_iload_n (pc := 7) d_FR_owner_7 rfl rfl ?_
  refine fr_callv_n (pc := 8) (nc := 0) (ns := 0) (N := m_FR_requireUser) (rest := []) (as := [.int (nI u)]) d_FR_owner_8 vc_FR_67 ⟨by decide, by decide, Nat.le_of_ble_eq_true rfl⟩ (Nat.le_of_ble_eq_true rfl) h0 (c_FR_requireUser h0 hu2 hb2) rfl ?_
  refine fr_aload_n (pc := 11) d_FR_owner_11 rfl rfl ?_
  refine fr_get (pc := 12) (v := .int (nI N.2.2.1)) d_FR_owner_12 fg_FR_156 hc rfl ?_
  refine fr_istore (pc := 15) (L2 := [(0, .ref o), (1, .int (nI k)), (2, .int (nI u)), (3, .ref a), (4, .int (nI N.2.2.1))]) d_FR_owner_15 (by decide) rfl ?_
  refine fr_aload_n (pc := 17) d_FR_owner_17 rfl rfl ?_
  refine fr_iload_n (pc := 18) d_FR_owner_18 rfl rfl ?_
  refine fr_put (pc := 19) (fs2 := fs_nc k (N.1, N.2.1, u, N.2.2.2.1, N.2.2.2.2.1, N.2.2.2.2.2) (lq k) (N.2.1.bind ad)) d_FR_owner_19 fp_FR_owner_156 hc (Nat.le_of_ble_eq_true rfl) rfl rfl rfl ?_
  refine fr_iload (pc := 22) d_FR_owner_22 rfl ?_
  exact fr_iret rfl d_FR_owner_24 ⟨rfl, fs_X_F2 (fs_ok_up hok (N2 := (N.1, N.2.1, u, N.2.2.2.1, N.2.2.2.2.1, N.2.2.2.2.2)) hk rfl hu2 hlen hes) h0 hG hR hN (fs_F2_up fs_F2_id hc) (fs_rN_put hr (N2 := (N.1, N.2.1, u, N.2.2.2.1, N.2.2.2.2.1, N.2.2.2.2.2)) hk ha rfl), fs_F2_Fr (fs_F2_up fs_F2_id hc)⟩
theorem p_FR_owner_n1 {g : fw_G} {w : fw_W} {o gr a1 a2 a3 a4 na us n : Nat} {hu hg : Nat → Nat → Bool} {nd : fs_D} (hX : fs_X g (o, gr, a1, a2, a3, a4, na) (us, n, hu, hg, nd) w) {x y : Int32} (hx : ∀ k, x = nI k → nd k = none) : fw_R g m_FR_owner (fs_P g (o, gr, a1, a2, a3, a4, na) w (.inr "java/util/NoSuchElementException") (us, n, hu, hg, nd)) 2 12 w 0 [(0, .ref o), (1, .int x), (2, .int y)] [] := by
  obtain ⟨f1, f2, f3, f4, ad, lq, ld, lc, lt, hok, h0, hG, hR, hN, hr⟩ := fs_X_el hX
  have hb : n < 2 ^ 31 := by have := hok.2.2.1; omega
  have hb2 : us < 2 ^ 31 := by have := hok.2.1; omega
  refine fr_aload_n (pc := 0) d_FR_owner_0 rfl rfl ?_
  refine fr_iload_n (pc := 1) d_FR_owner_1 rfl rfl ?_
  refine fr_callv_x (pc := 2) (nc := 1) (ns := 6) (N := m_FR_nodeAt) (rest := []) (as := [.int x]) d_FR_owner_2 vc_FR_63 ⟨by decide, by decide, Nat.le_of_ble_eq_true rfl⟩ (Nat.le_of_ble_eq_true rfl) h0 (x_FR_nodeAt h0 hN (fun k _ e => hr.1 k (hx k e))) rfl ?_
  exact fx_out (by decide) ⟨rfl, hX, fs_Fr_id⟩
theorem p_FR_owner_n2 {g : fw_G} {w : fw_W} {o gr a1 a2 a3 a4 na us n : Nat} {hu hg : Nat → Nat → Bool} {nd : fs_D} (hX : fs_X g (o, gr, a1, a2, a3, a4, na) (us, n, hu, hg, nd) w) {k : Nat} {N : fs_N} (hk : nd k = some N) {y : Int32} (hy : fs_no2 y us) : fw_R g m_FR_owner (fs_P g (o, gr, a1, a2, a3, a4, na) w (.inr "java/util/NoSuchElementException") (us, n, hu, hg, nd)) 2 12 w 0 [(0, .ref o), (1, .int (nI k)), (2, .int y)] [] := by
  obtain ⟨f1, f2, f3, f4, ad, lq, ld, lc, lt, hok, h0, hG, hR, hN, hr⟩ := fs_X_el hX
  have hb : n < 2 ^ 31 := by have := hok.2.2.1; omega
  have hb2 : us < 2 ^ 31 := by have := hok.2.1; omega
  obtain ⟨hk150, a, ha, hc, hl, hE⟩ := hr.2.1 k N hk
  obtain ⟨-, hk0, how, hlen, hes, hch, hdep⟩ := hok.2.2.2.2 k N hk
  refine fr_aload_n (pc := 0) d_FR_owner_0 rfl rfl ?_
  refine fr_iload_n (pc := 1) d_FR_owner_1 rfl rfl ?_
  refine fr_callv_p (pc := 2) (nc := 1) (ns := 6) (N := m_FR_nodeAt) (rest := []) (as := [.int (nI k)]) d_FR_owner_2 vc_FR_63 ⟨by decide, by decide, Nat.le_of_ble_eq_true rfl⟩ (Nat.le_of_ble_eq_true rfl) h0 (c_FR_nodeAt h0 hN hk150 ha) rfl ?_
  refine fr_astore_n (pc := 5) (L2 := [(0, .ref o), (1, .int (nI k)), (2, .int y), (3, .ref a)]) d_FR_owner_5 rfl (by decide) rfl ?_
  refine fr_aload_n (pc := 6) d_FR_owner_6 rfl rfl ?_
  refine fr_iload_n (pc := 7) d_FR_owner_7 rfl rfl ?_
  refine fr_callv_x (pc := 8) (nc := 0) (ns := 0) (N := m_FR_requireUser) (rest := []) (as := [.int y]) d_FR_owner_8 vc_FR_67 ⟨by decide, by decide, Nat.le_of_ble_eq_true rfl⟩ (Nat.le_of_ble_eq_true rfl) h0 (x_FR_requireUser h0 hy hb2) rfl ?_
  exact fx_out (by decide) ⟨rfl, hX, fs_Fr_id⟩
theorem p_FR_block_n1 {g : fw_G} {w : fw_W} {o gr a1 a2 a3 a4 na us n : Nat} {hu hg : Nat → Nat → Bool} {nd : fs_D} (hX : fs_X g (o, gr, a1, a2, a3, a4, na) (us, n, hu, hg, nd) w) {x : Int32} {b : Bool} (hx : ∀ k, x = nI k → nd k = none) : fw_R g m_FR_block (fs_P g (o, gr, a1, a2, a3, a4, na) w (.inr "java/util/NoSuchElementException") (us, n, hu, hg, nd)) 1 6 w 0 [(0, .ref o), (1, .int x), (2, .int (bI b))] [] := by
  obtain ⟨f1, f2, f3, f4, ad, lq, ld, lc, lt, hok, h0, hG, hR, hN, hr⟩ := fs_X_el hX
  have hb : n < 2 ^ 31 := by have := hok.2.2.1; omega
  have hb2 : us < 2 ^ 31 := by have := hok.2.1; omega
  refine fr_aload_n (pc := 0) d_FR_block_0 rfl rfl ?_
  refine fr_iload_n (pc := 1) d_FR_block_1 rfl rfl ?_
  refine fr_callv_x (pc := 2) (nc := 0) (ns := 0) (N := m_FR_nodeAt) (rest := []) (as := [.int x]) d_FR_block_2 vc_FR_63 ⟨by decide, by decide, Nat.le_of_ble_eq_true rfl⟩ (Nat.le_of_ble_eq_true rfl) h0 (x_FR_nodeAt h0 hN (fun k _ e => hr.1 k (hx k e))) rfl ?_
  exact fx_out (by decide) ⟨rfl, hX, fs_Fr_id⟩
theorem p_FR_block_eq {g : fw_G} {w : fw_W} {o gr a1 a2 a3 a4 na us n : Nat} {hu hg : Nat → Nat → Bool} {nd : fs_D} (hX : fs_X g (o, gr, a1, a2, a3, a4, na) (us, n, hu, hg, nd) w) {k : Nat} {N : fs_N} (hk : nd k = some N) {b : Bool} (hb3 : N.2.2.2.1 = b) : fw_R g m_FR_block (fs_P g (o, gr, a1, a2, a3, a4, na) w (.inl (some (.int (bI N.2.2.2.1)))) (us, n, hu, hg, nd)) 1 6 w 0 [(0, .ref o), (1, .int (nI k)), (2, .int (bI b))] [] := by
  obtain ⟨f1, f2, f3, f4, ad, lq, ld, lc, lt, hok, h0, hG, hR, hN, hr⟩ := fs_X_el hX
  have hb : n < 2 ^ 31 := by have := hok.2.2.1; omega
  have hb2 : us < 2 ^ 31 := by have := hok.2.1; omega
  obtain ⟨hk150, a, ha, hc, hl, hE⟩ := hr.2.1 k N hk
  obtain ⟨-, hk0, how, hlen, hes, hch, hdep⟩ := hok.2.2.2.2 k N hk
  refine fr_aload_n (pc := 0) d_FR_block_0 rfl rfl ?_
  refine fr_iload_n (pc := 1) d_FR_block_1 rfl rfl ?_
  refine fr_callv_p (pc := 2) (nc := 0) (ns := 0) (N := m_FR_nodeAt) (rest := []) (as := [.int (nI k)]) d_FR_block_2 vc_FR_63 ⟨by decide, by decide, Nat.le_of_ble_eq_true rfl⟩ (Nat.le_of_ble_eq_true rfl) h0 (c_FR_nodeAt h0 hN hk150 ha) rfl ?_
  refine fr_astore_n (pc := 5) (L2 := [(0, .ref o), (1, .int (nI k)), (2, .int (bI b)), (3, .ref a)]) d_FR_block_5 rfl (by decide) rfl ?_
  refine fr_aload_n (pc := 6) d_FR_block_6 rfl rfl ?_
  refine fr_get (pc := 7) (v := .int (bI N.2.2.2.1)) d_FR_block_7 fg_FR_153 hc rfl ?_
  refine fr_istore (pc := 10) (L2 := [(0, .ref o), (1, .int (nI k)), (2, .int (bI b)), (3, .ref a), (4, .int (bI N.2.2.2.1))]) d_FR_block_10 (by decide) rfl ?_
  refine fr_iload (pc := 12) d_FR_block_12 rfl ?_
  refine fr_iload_n (pc := 14) d_FR_block_14 rfl rfl ?_
  refine fr_icmp_eq (pc := 15) (tgt := 33) d_FR_block_15 (by decide) (fun q => ?_) (fun q => ?_)
  · refine fr_iload (pc := 33) d_FR_block_33 rfl ?_
    exact fr_zret rfl (by first | exact bI_01 _ | exact Or.inl rfl | exact Or.inr rfl) d_FR_block_35 ⟨rfl, hX, fs_Fr_id⟩
  · exact absurd (by rw [hb3]) q
theorem p_FR_block_ne {g : fw_G} {w : fw_W} {o gr a1 a2 a3 a4 na us n : Nat} {hu hg : Nat → Nat → Bool} {nd : fs_D} (hX : fs_X g (o, gr, a1, a2, a3, a4, na) (us, n, hu, hg, nd) w) {k : Nat} {N : fs_N} (hk : nd k = some N) {b : Bool} (hb3 : ¬ N.2.2.2.1 = b) : fw_R g m_FR_block (fs_P g (o, gr, a1, a2, a3, a4, na) w (.inl (some (.int (bI N.2.2.2.1)))) (us, n, hu, hg, (va_up (fs_mk (va_up nd k (some (N.1, N.2.1, N.2.2.1, b, N.2.2.2.2.1, N.2.2.2.2.2))) k 150) k (some (N.1, N.2.1, N.2.2.1, b, true, N.2.2.2.2.2))))) 1 6 w 0 [(0, .ref o), (1, .int (nI k)), (2, .int (bI b))] [] := by
  obtain ⟨f1, f2, f3, f4, ad, lq, ld, lc, lt, hok, h0, hG, hR, hN, hr⟩ := fs_X_el hX
  have hb : n < 2 ^ 31 := by have := hok.2.2.1; omega
  have hb2 : us < 2 ^ 31 := by have := hok.2.1; omega
  obtain ⟨hk150, a, ha, hc, hl, hE⟩ := hr.2.1 k N hk
  obtain ⟨-, hk0, how, hlen, hes, hch, hdep⟩ := hok.2.2.2.2 k N hk
  refine fr_aload_n (pc := 0) d_FR_block_0 rfl rfl ?_
  refine fr_iload_n (pc := 1) d_FR_block_1 rfl rfl ?_
  refine fr_callv_p (pc := 2) (nc := 0) (ns := 0) (N := m_FR_nodeAt) (rest := []) (as := [.int (nI k)]) d_FR_block_2 vc_FR_63 ⟨by decide, by decide, Nat.le_of_ble_eq_true rfl⟩ (Nat.le_of_ble_eq_true rfl) h0 (c_FR_nodeAt h0 hN hk150 ha) rfl ?_
  refine fr_astore_n (pc := 5) (L2 := [(0, .ref o), (1, .int (nI k)), (2, .int (bI b)), (3, .ref a)]) d_FR_block_5 rfl (by decide) rfl ?_
  refine fr_aload_n (pc := 6) d_FR_block_6 rfl rfl ?_
  refine fr_get (pc := 7) (v := .int (bI N.2.2.2.1)) d_FR_block_7 fg_FR_153 hc rfl ?_
  refine fr_istore (pc := 10) (L2 := [(0, .ref o), (1, .int (nI k)), (2, .int (bI b)), (3, .ref a), (4, .int (bI N.2.2.2.1))]) d_FR_block_10 (by decide) rfl ?_
  refine fr_iload (pc := 12) d_FR_block_12 rfl ?_
  refine fr_iload_n (pc := 14) d_FR_block_14 rfl rfl ?_
  refine fr_icmp_eq (pc := 15) (tgt := 33) d_FR_block_15 (by decide) (fun q => ?_) (fun q => ?_)
  · exact absurd (bI_inj.mp q) hb3
  · refine fr_aload_n (pc := 18) d_FR_block_18 rfl rfl ?_
    refine fr_iload_n (pc := 19) d_FR_block_19 rfl rfl ?_
    refine fr_put (pc := 20) (fs2 := fs_nc k (N.1, N.2.1, N.2.2.1, b, N.2.2.2.2.1, N.2.2.2.2.2) (lq k) (N.2.1.bind ad)) d_FR_block_20 fp_FR_block_153 hc (Nat.le_of_ble_eq_true rfl) (bI_nar _) (bI_fit _) rfl ?_
    have hF1 := fs_F2_up (x := .inr (2, fs_nc k (N.1, N.2.1, N.2.2.1, b, N.2.2.2.2.1, N.2.2.2.2.2) (lq k) (N.2.1.bind ad))) fs_F2_id hc
    have hr1 := fs_rN_put hr (N2 := (N.1, N.2.1, N.2.2.1, b, N.2.2.2.2.1, N.2.2.2.2.2)) hk ha rfl
    have hok1 := fs_ok_up hok (N2 := (N.1, N.2.1, N.2.2.1, b, N.2.2.2.2.1, N.2.2.2.2.2)) hk rfl how hlen hes
    refine fr_aload_n (pc := 23) d_FR_block_23 rfl rfl ?_
    refine fr_aload_n (pc := 24) d_FR_block_24 rfl rfl ?_
    refine fr_callV (pc := 25) (nc := 0) (ns := 0) (N := m_FR_markStaleBelow) (rest := []) (as := [.ref a]) d_FR_block_25 vc_FR_107 ⟨by decide, by decide, Nat.le_of_ble_eq_true rfl⟩ (Nat.le_of_ble_eq_true rfl) (fs_F2_3 hF1 _ h0 (fun fs z => by cases z)) (c_FR_mark (fs_F2_3 hF1 _ h0 (fun fs z => by cases z)) (fs_F2_3 hF1 _ hN (fun fs z => by cases z)) (fs_ok_ch hok1) vu_self ha hr1) rfl (fun v1 u h => ?_) (fun C u h => by obtain ⟨h1, -⟩ := h; cases h1)
    obtain ⟨h1, hr2, hF2⟩ := h
    cases h1
    have hm : fs_mk (va_up nd k (some (N.1, N.2.1, N.2.2.1, b, N.2.2.2.2.1, N.2.2.2.2.2))) k 150 k = some (N.1, N.2.1, N.2.2.1, b, N.2.2.2.2.1, N.2.2.2.2.2) := by simp [fs_mk, vu_self]
    obtain ⟨-, a9, ha9, hc9, -⟩ := hr2.2.1 k _ hm
    rw [ha] at ha9; cases ha9
    refine fr_aload_n (pc := 28) d_FR_block_28 rfl rfl ?_
    refine fr_iconst (pc := 29) (v := 1) d_FR_block_29 (by decide) ?_
    refine fr_put (pc := 30) (fs2 := fs_nc k (N.1, N.2.1, N.2.2.1, b, true, N.2.2.2.2.2) (lq k) (N.2.1.bind ad)) d_FR_block_30 fp_FR_block_110 hc9 (Nat.le_of_ble_eq_true rfl) rfl rfl rfl ?_
    refine fr_iload (pc := 33) d_FR_block_33 rfl ?_
    have hF3 := fs_F2_up2 (x := .inr (2, fs_nc k (N.1, N.2.1, N.2.2.1, b, true, N.2.2.2.2.2) (lq k) (N.2.1.bind ad))) (fs_F2_trans hF1 hF2) hc9
    exact fr_zret rfl (by first | exact bI_01 _ | exact Or.inl rfl | exact Or.inr rfl) d_FR_block_35 ⟨rfl, fs_X_F2 (fs_ok_up (fs_ok_mk hok1) (N2 := (N.1, N.2.1, N.2.2.1, b, true, N.2.2.2.2.2)) hm rfl how hlen hes) h0 hG hR hN hF3 (fs_rN_put hr2 (N2 := (N.1, N.2.1, N.2.2.1, b, true, N.2.2.2.2.2)) hm ha rfl), fs_F2_Fr hF3⟩
end
section
theorem fs_X_tu {g : fw_G} {w : fw_W} {o gr a1 a2 a3 a4 na us n : Nat} {hu hg : Nat → Nat → Bool} {nd : fs_D} {f1 f2 f3 f4 : Nat → Int64} {ad : Nat → Option Nat} {lq ld lc : Nat → Nat} {lt : Nat → List Nat} (hok : fs_ok us n nd) (h0 : w o = some (.inr (0, [.ref gr, .ref na, .int (nI us)]))) (hG : gr_at g w gr a1 a2 a3 a4 n f1 f2 f3 f4) (hR : gr_rep hu hg n us f1 f2 f3 f4) (hN : w na = some (fs_no g ad)) (hr : fs_rN g w nd ad lq ld lc lt) {i j : Nat} {b : Bool} (hi : i < n) (hj : j < (if b then n else us)) :
    fs_X g (o, gr, a1, a2, a3, a4, na) (us, n, (if b then hu else gr_tg hu i j), (if b then gr_tg hg i j else hg), nd) (gr_tu g w a1 a2 a3 a4 n f1 f2 f3 f4 i j b) ∧ fs_Fr (o, gr, a1, a2, a3, a4, na) w (gr_tu g w a1 a2 a3 a4 n f1 f2 f3 f4 i j b) := by
  obtain ⟨g0, g1, g2, g3, g4, g5, n12, n13, n14, n23, n24, n34, m1, m2, m3, m4⟩ := id hG
  have key : ∀ (x : Nat) (fx : Nat → Int64) (y1 y2 y3 : va_E), w x = some (gr_ar g fx) → ∀ b e, w b = some e → (∀ c n f, e ≠ .inl (c, n, .inr (.inl f))) → fw_up (fw_up (fw_up w x y1) a3 y2) a4 y3 b = some e := by
    intro x fx y1 y2 y3 hx b e hb he
    exact fw_up_at (fw_up_at (fw_up_at hb (fs_ne hb hx (fun z => he _ _ _ z))) (fs_ne hb g3 (fun z => he _ _ _ z))) (fs_ne hb g4 (fun z => he _ _ _ z))
  have hkk : ∀ e, fs_kk e → ∀ c n f, e ≠ .inl (c, n, .inr (.inl f)) := fun e he c n f z => by subst z; exact fs_kk_l he
  cases b with
  | true =>
    rw [if_pos rfl] at hj
    refine ⟨fs_X_in hok ?_ ⟨?_, ?_, ?_, ?_, ?_, g5, n12, n13, n14, n23, n24, n34, m1, m2, m3, m4⟩ (gr_rep_g hR hi hj) ?_ (fs_rN_fr hr (fun b e hb he => key a2 f2 _ _ _ g2 b e hb (hkk e he))), ?_⟩
    · exact key a2 f2 _ _ _ g2 _ _ h0 (fun c n f z => by cases z)
    · exact key a2 f2 _ _ _ g2 _ _ g0 (fun c n f z => by cases z)
    · exact fw_up_at (fw_up_at (fw_up_at g1 n12) n13) n14
    · exact fw_up_at (fw_up_at fw_up_self n23) n24
    · exact fw_up_at fw_up_self n34
    · exact fw_up_self
    · exact key a2 f2 _ _ _ g2 _ _ hN (fun c n f z => by cases z)
    · exact fs_Fr_up (fs_Fr_up (fs_Fr_up fs_Fr_id (fun e _ => Or.inr (Or.inr (Or.inr (Or.inl rfl))))) (fun e _ => Or.inr (Or.inr (Or.inr (Or.inr (Or.inl rfl)))))) (fun e _ => Or.inr (Or.inr (Or.inr (Or.inr (Or.inr rfl)))))
  | false =>
    rw [if_neg (by decide)] at hj
    refine ⟨fs_X_in hok ?_ ⟨?_, ?_, ?_, ?_, ?_, g5, n12, n13, n14, n23, n24, n34, m1, m2, m3, m4⟩ (gr_rep_u hR hi hj) ?_ (fs_rN_fr hr (fun b e hb he => key a1 f1 _ _ _ g1 b e hb (hkk e he))), ?_⟩
    · exact key a1 f1 _ _ _ g1 _ _ h0 (fun c n f z => by cases z)
    · exact key a1 f1 _ _ _ g1 _ _ g0 (fun c n f z => by cases z)
    · exact fw_up_at (fw_up_at fw_up_self n13) n14
    · exact fw_up_at (fw_up_at (fw_up_at g2 (Ne.symm n12)) n23) n24
    · exact fw_up_at fw_up_self n34
    · exact fw_up_self
    · exact key a1 f1 _ _ _ g1 _ _ hN (fun c n f z => by cases z)
    · exact fs_Fr_up (fs_Fr_up (fs_Fr_up fs_Fr_id (fun e _ => Or.inr (Or.inr (Or.inl rfl)))) (fun e _ => Or.inr (Or.inr (Or.inr (Or.inr (Or.inl rfl)))))) (fun e _ => Or.inr (Or.inr (Or.inr (Or.inr (Or.inr rfl)))))
def fs_hh (hu hg : Nat → Nat → Bool) (b : Bool) (i j : Nat) : Bool := if b then hg i j else hu i j
theorem fs_hh_f {hu hg : Nat → Nat → Bool} {n us : Nat} {f1 f2 f3 f4 : Nat → Int64} (h : gr_rep hu hg n us f1 f2 f3 f4) (b : Bool) (i j : Nat) : bb ((if b then f2 else f1) i) j = fs_hh hu hg b i j := by
  cases b with
  | true => exact h.2.1 i j
  | false => exact h.1 i j
theorem fs_cir {hu hg : Nat → Nat → Bool} {n us : Nat} {f1 f2 f3 f4 : Nat → Int64} (h : gr_rep hu hg n us f1 f2 f3 f4) (i j : Nat) : (decide (i = j) || bb (f3 j) i) = true ↔ cl_rt hg j i := by
  rw [cl_rt_iff, Bool.or_eq_true, decide_eq_true_iff, h.2.2.1 j i]
  constructor
  · rintro (e | e)
    · exact Or.inl e.symm
    · exact Or.inr e
  · rintro (e | e)
    · exact Or.inl e.symm
    · exact Or.inr e
theorem p_FR_join_n1 {g : fw_G} {w : fw_W} {o gr a1 a2 a3 a4 na us n : Nat} {hu hg : Nat → Nat → Bool} {nd : fs_D} (hX : fs_X g (o, gr, a1, a2, a3, a4, na) (us, n, hu, hg, nd) w) {x y : Int32} {b : Bool} (hx : fs_no2 x n) : fw_R g m_FR_join (fs_P g (o, gr, a1, a2, a3, a4, na) w (.inr "java/util/NoSuchElementException") (us, n, hu, hg, nd)) 4 24 w 0 [(0, .ref o), (1, .int x), (2, .int y), (3, .int (bI b))] [] := by
  obtain ⟨f1, f2, f3, f4, ad, lq, ld, lc, lt, hok, h0, hG, hR, hN, hr⟩ := fs_X_el hX
  have hb : n < 2 ^ 31 := by have := hok.2.2.1; omega
  have hb2 : us < 2 ^ 31 := by have := hok.2.1; omega
  refine fr_aload_n (pc := 0) d_FR_join_0 rfl rfl ?_
  refine fr_iload_n (pc := 1) d_FR_join_1 rfl rfl ?_
  refine fr_callv_x (pc := 2) (nc := 3) (ns := 18) (N := m_FR_requireGroup) (rest := []) (as := [.int x]) d_FR_join_2 vc_FR_41 ⟨by decide, by decide, Nat.le_of_ble_eq_true rfl⟩ (Nat.le_of_ble_eq_true rfl) h0 (x_FR_requireGroup h0 hG.1 hx hb) rfl ?_
  exact fx_out (by decide) ⟨rfl, hX, fs_Fr_id⟩
theorem p_FR_join_n2 {g : fw_G} {w : fw_W} {o gr a1 a2 a3 a4 na us n : Nat} {hu hg : Nat → Nat → Bool} {nd : fs_D} (hX : fs_X g (o, gr, a1, a2, a3, a4, na) (us, n, hu, hg, nd) w) {i : Nat} {y : Int32} {b : Bool} (hi : i < n) (hy : fs_no2 y (if b then n else us)) : fw_R g m_FR_join (fs_P g (o, gr, a1, a2, a3, a4, na) w (.inr "java/util/NoSuchElementException") (us, n, hu, hg, nd)) 4 24 w 0 [(0, .ref o), (1, .int (nI i)), (2, .int y), (3, .int (bI b))] [] := by
  obtain ⟨f1, f2, f3, f4, ad, lq, ld, lc, lt, hok, h0, hG, hR, hN, hr⟩ := fs_X_el hX
  have hb : n < 2 ^ 31 := by have := hok.2.2.1; omega
  have hb2 : us < 2 ^ 31 := by have := hok.2.1; omega
  refine fr_aload_n (pc := 0) d_FR_join_0 rfl rfl ?_
  refine fr_iload_n (pc := 1) d_FR_join_1 rfl rfl ?_
  refine fr_callv_n (pc := 2) (nc := 3) (ns := 18) (N := m_FR_requireGroup) (rest := []) (as := [.int (nI i)]) d_FR_join_2 vc_FR_41 ⟨by decide, by decide, Nat.le_of_ble_eq_true rfl⟩ (Nat.le_of_ble_eq_true rfl) h0 (c_FR_requireGroup h0 hG.1 hi hb) rfl ?_
  refine fr_aload_n (pc := 5) d_FR_join_5 rfl rfl ?_
  refine fr_iload_n (pc := 6) d_FR_join_6 rfl rfl ?_
  refine fr_iload_n (pc := 7) d_FR_join_7 rfl rfl ?_
  refine fr_callv_x (pc := 8) (nc := 1) (ns := 6) (N := m_FR_requireUserOrGroup) (rest := []) (as := [.int y, .int (bI b)]) d_FR_join_8 vc_FR_45 ⟨by decide, by decide, Nat.le_of_ble_eq_true rfl⟩ (Nat.le_of_ble_eq_true rfl) h0 (x_FR_requireUserOrGroup h0 hG.1 hy hb hb2) rfl ?_
  exact fx_out (by decide) ⟨rfl, hX, fs_Fr_id⟩
theorem p_FR_leave_n1 {g : fw_G} {w : fw_W} {o gr a1 a2 a3 a4 na us n : Nat} {hu hg : Nat → Nat → Bool} {nd : fs_D} (hX : fs_X g (o, gr, a1, a2, a3, a4, na) (us, n, hu, hg, nd) w) {x y : Int32} {b : Bool} (hx : fs_no2 x n) : fw_R g m_FR_leave (fs_P g (o, gr, a1, a2, a3, a4, na) w (.inr "java/util/NoSuchElementException") (us, n, hu, hg, nd)) 3 18 w 0 [(0, .ref o), (1, .int x), (2, .int y), (3, .int (bI b))] [] := by
  obtain ⟨f1, f2, f3, f4, ad, lq, ld, lc, lt, hok, h0, hG, hR, hN, hr⟩ := fs_X_el hX
  have hb : n < 2 ^ 31 := by have := hok.2.2.1; omega
  have hb2 : us < 2 ^ 31 := by have := hok.2.1; omega
  refine fr_aload_n (pc := 0) d_FR_leave_0 rfl rfl ?_
  refine fr_iload_n (pc := 1) d_FR_leave_1 rfl rfl ?_
  refine fr_callv_x (pc := 2) (nc := 2) (ns := 12) (N := m_FR_requireGroup) (rest := []) (as := [.int x]) d_FR_leave_2 vc_FR_41 ⟨by decide, by decide, Nat.le_of_ble_eq_true rfl⟩ (Nat.le_of_ble_eq_true rfl) h0 (x_FR_requireGroup h0 hG.1 hx hb) rfl ?_
  exact fx_out (by decide) ⟨rfl, hX, fs_Fr_id⟩
theorem p_FR_leave_n2 {g : fw_G} {w : fw_W} {o gr a1 a2 a3 a4 na us n : Nat} {hu hg : Nat → Nat → Bool} {nd : fs_D} (hX : fs_X g (o, gr, a1, a2, a3, a4, na) (us, n, hu, hg, nd) w) {i : Nat} {y : Int32} {b : Bool} (hi : i < n) (hy : fs_no2 y (if b then n else us)) : fw_R g m_FR_leave (fs_P g (o, gr, a1, a2, a3, a4, na) w (.inr "java/util/NoSuchElementException") (us, n, hu, hg, nd)) 3 18 w 0 [(0, .ref o), (1, .int (nI i)), (2, .int y), (3, .int (bI b))] [] := by
  obtain ⟨f1, f2, f3, f4, ad, lq, ld, lc, lt, hok, h0, hG, hR, hN, hr⟩ := fs_X_el hX
  have hb : n < 2 ^ 31 := by have := hok.2.2.1; omega
  have hb2 : us < 2 ^ 31 := by have := hok.2.1; omega
  refine fr_aload_n (pc := 0) d_FR_leave_0 rfl rfl ?_
  refine fr_iload_n (pc := 1) d_FR_leave_1 rfl rfl ?_
  refine fr_callv_n (pc := 2) (nc := 2) (ns := 12) (N := m_FR_requireGroup) (rest := []) (as := [.int (nI i)]) d_FR_leave_2 vc_FR_41 ⟨by decide, by decide, Nat.le_of_ble_eq_true rfl⟩ (Nat.le_of_ble_eq_true rfl) h0 (c_FR_requireGroup h0 hG.1 hi hb) rfl ?_
  refine fr_aload_n (pc := 5) d_FR_leave_5 rfl rfl ?_
  refine fr_iload_n (pc := 6) d_FR_leave_6 rfl rfl ?_
  refine fr_iload_n (pc := 7) d_FR_leave_7 rfl rfl ?_
  refine fr_callv_x (pc := 8) (nc := 0) (ns := 0) (N := m_FR_requireUserOrGroup) (rest := []) (as := [.int y, .int (bI b)]) d_FR_leave_8 vc_FR_45 ⟨by decide, by decide, Nat.le_of_ble_eq_true rfl⟩ (Nat.le_of_ble_eq_true rfl) h0 (x_FR_requireUserOrGroup h0 hG.1 hy hb hb2) rfl ?_
  exact fx_out (by decide) ⟨rfl, hX, fs_Fr_id⟩
theorem p_FR_join_cir {g : fw_G} {w : fw_W} {o gr a1 a2 a3 a4 na us n : Nat} {hu hg : Nat → Nat → Bool} {nd : fs_D} (hX : fs_X g (o, gr, a1, a2, a3, a4, na) (us, n, hu, hg, nd) w) {i j : Nat} (hi : i < n) (hj : j < n) (hc : cl_rt hg j i) : fw_R g m_FR_join (fs_P g (o, gr, a1, a2, a3, a4, na) w (.inr "java/lang/IllegalStateException") (us, n, hu, hg, nd)) 4 24 w 0 [(0, .ref o), (1, .int (nI i)), (2, .int (nI j)), (3, .int (bI true))] [] := by
  obtain ⟨f1, f2, f3, f4, ad, lq, ld, lc, lt, hok, h0, hG, hR, hN, hr⟩ := fs_X_el hX
  have hb : n < 2 ^ 31 := by have := hok.2.2.1; omega
  have hb2 : us < 2 ^ 31 := by have := hok.2.1; omega
  refine fr_aload_n (pc := 0) d_FR_join_0 rfl rfl ?_
  refine fr_iload_n (pc := 1) d_FR_join_1 rfl rfl ?_
  refine fr_callv_n (pc := 2) (nc := 3) (ns := 18) (N := m_FR_requireGroup) (rest := []) (as := [.int (nI i)]) d_FR_join_2 vc_FR_41 ⟨by decide, by decide, Nat.le_of_ble_eq_true rfl⟩ (Nat.le_of_ble_eq_true rfl) h0 (c_FR_requireGroup h0 hG.1 hi hb) rfl ?_
  refine fr_aload_n (pc := 5) d_FR_join_5 rfl rfl ?_
  refine fr_iload_n (pc := 6) d_FR_join_6 rfl rfl ?_
  refine fr_iload_n (pc := 7) d_FR_join_7 rfl rfl ?_
  refine fr_callv_n (pc := 8) (nc := 1) (ns := 6) (N := m_FR_requireUserOrGroup) (rest := []) (as := [.int (nI j), .int (bI true)]) d_FR_join_8 vc_FR_45 ⟨by decide, by decide, Nat.le_of_ble_eq_true rfl⟩ (Nat.le_of_ble_eq_true rfl) h0 (c_FR_requireUserOrGroup h0 hG.1 (b := true) hj hb hb2) rfl ?_
  refine fr_iload_n (pc := 11) d_FR_join_11 rfl rfl ?_
  refine fr_if_eq (pc := 12) (tgt := 37) d_FR_join_12 (by decide) (fun q => ?_) (fun q => ?_)
  · exact absurd q (by decide)
  · refine fr_aload_n (pc := 15) d_FR_join_15 rfl rfl ?_
    refine fr_get (pc := 16) (v := .ref gr) d_FR_join_16 fg_FR_10 h0 rfl ?_
    refine fr_iload_n (pc := 19) d_FR_join_19 rfl rfl ?_
    refine fr_iload_n (pc := 20) d_FR_join_20 rfl rfl ?_
    refine fr_callv_p (pc := 21) (nc := 1) (ns := 6) (N := m_GR_wouldHoldItself) (rest := []) (as := [.int (nI i), .int (nI j)]) d_FR_join_21 vc_FR_49 ⟨by decide, by decide, Nat.le_of_ble_eq_true rfl⟩ (Nat.le_of_ble_eq_true rfl) hG.1 (c_GR_would hG hi hj) rfl ?_
    refine fr_st (st2 := [.int (bI true)]) (by rw [(fs_cir hR i j).mpr hc]) ?_
    refine fr_if_eq (pc := 24) (tgt := 37) d_FR_join_24 (by decide) (fun q2 => ?_) (fun q2 => ?_)
    · exact absurd q2 (by decide)
    · exact fr_throw (pc := 27) (nc := 0) (ns := 0) th_FR_53 d_FR_join_27 d_FR_join_30 d_FR_join_31 d_FR_join_33 d_FR_join_36 (by decide) (by decide) (by decide) ⟨rfl, hX, fs_Fr_id⟩
theorem p_FR_join_has {g : fw_G} {w : fw_W} {o gr a1 a2 a3 a4 na us n : Nat} {hu hg : Nat → Nat → Bool} {nd : fs_D} (hX : fs_X g (o, gr, a1, a2, a3, a4, na) (us, n, hu, hg, nd) w) {i j : Nat} {b : Bool} (hi : i < n) (hj : j < (if b then n else us)) (hc : b = true → ¬ cl_rt hg j i) (hh : fs_hh hu hg b i j = true) : fw_R g m_FR_join (fs_P g (o, gr, a1, a2, a3, a4, na) w (.inl (some (.int (bI false)))) (us, n, hu, hg, nd)) 4 24 w 0 [(0, .ref o), (1, .int (nI i)), (2, .int (nI j)), (3, .int (bI b))] [] := by
  obtain ⟨f1, f2, f3, f4, ad, lq, ld, lc, lt, hok, h0, hG, hR, hN, hr⟩ := fs_X_el hX
  have hb : n < 2 ^ 31 := by have := hok.2.2.1; omega
  have hb2 : us < 2 ^ 31 := by have := hok.2.1; omega
  have hj64 : j < 64 := by
    have h1 := hok.2.1
    have h2 := hok.2.2.1
    cases b <;> simp at hj <;> omega
  refine fr_aload_n (pc := 0) d_FR_join_0 rfl rfl ?_
  refine fr_iload_n (pc := 1) d_FR_join_1 rfl rfl ?_
  refine fr_callv_n (pc := 2) (nc := 3) (ns := 18) (N := m_FR_requireGroup) (rest := []) (as := [.int (nI i)]) d_FR_join_2 vc_FR_41 ⟨by decide, by decide, Nat.le_of_ble_eq_true rfl⟩ (Nat.le_of_ble_eq_true rfl) h0 (c_FR_requireGroup h0 hG.1 hi hb) rfl ?_
  refine fr_aload_n (pc := 5) d_FR_join_5 rfl rfl ?_
  refine fr_iload_n (pc := 6) d_FR_join_6 rfl rfl ?_
  refine fr_iload_n (pc := 7) d_FR_join_7 rfl rfl ?_
  refine fr_callv_n (pc := 8) (nc := 1) (ns := 6) (N := m_FR_requireUserOrGroup) (rest := []) (as := [.int (nI j), .int (bI b)]) d_FR_join_8 vc_FR_45 ⟨by decide, by decide, Nat.le_of_ble_eq_true rfl⟩ (Nat.le_of_ble_eq_true rfl) h0 (c_FR_requireUserOrGroup h0 hG.1 hj hb hb2) rfl ?_
  refine fr_iload_n (pc := 11) d_FR_join_11 rfl rfl ?_
  refine fr_if_eq (pc := 12) (tgt := 37) d_FR_join_12 (by decide) (fun q => ?_) (fun q => ?_)
  · refine fr_aload_n (pc := 37) d_FR_join_37 rfl rfl ?_
    refine fr_get (pc := 38) (v := .ref gr) d_FR_join_38 fg_FR_10 h0 rfl ?_
    refine fr_iload_n (pc := 41) d_FR_join_41 rfl rfl ?_
    refine fr_iload_n (pc := 42) d_FR_join_42 rfl rfl ?_
    refine fr_iload_n (pc := 43) d_FR_join_43 rfl rfl ?_
    refine fr_callv_p (pc := 44) (nc := 1) (ns := 6) (N := m_GR_hasMember) (rest := []) (as := [.int (nI i), .int (nI j), .int (bI b)]) d_FR_join_44 vc_FR_55 ⟨by decide, by decide, Nat.le_of_ble_eq_true rfl⟩ (Nat.le_of_ble_eq_true rfl) hG.1 (by have hh := c_GR_has (nc := 0) (ns := 0) hG (b := b) hi hj64; rw [fs_hh_f hR] at hh; exact hh) rfl ?_
    refine fr_st (st2 := [.int (bI true)]) (by rw [hh]) ?_
    refine fr_if_eq (pc := 47) (tgt := 52) d_FR_join_47 (by decide) (fun q9 => ?_) (fun q9 => ?_)
    · exact absurd q9 (by decide)
    · refine fr_iconst (pc := 50) (v := 0) d_FR_join_50 (by decide) ?_
      refine fr_st (st2 := [.int (bI false)]) rfl ?_
      exact fr_zret rfl (by first | exact bI_01 _ | exact Or.inl rfl | exact Or.inr rfl) d_FR_join_51 ⟨rfl, hX, fs_Fr_id⟩
  · have hbt : b = true := ts_nf (fun z => q (bI_0.mpr z))
    have hjn : j < n := by rw [hbt] at hj; simpa using hj
    have hcf : (decide (i = j) || bb (f3 j) i) = false := by
      cases hd : (decide (i = j) || bb (f3 j) i) with
      | false => rfl
      | true => exact absurd ((fs_cir hR i j).mp hd) (hc hbt)
    refine fr_aload_n (pc := 15) d_FR_join_15 rfl rfl ?_
    refine fr_get (pc := 16) (v := .ref gr) d_FR_join_16 fg_FR_10 h0 rfl ?_
    refine fr_iload_n (pc := 19) d_FR_join_19 rfl rfl ?_
    refine fr_iload_n (pc := 20) d_FR_join_20 rfl rfl ?_
    refine fr_callv_p (pc := 21) (nc := 1) (ns := 6) (N := m_GR_wouldHoldItself) (rest := []) (as := [.int (nI i), .int (nI j)]) d_FR_join_21 vc_FR_49 ⟨by decide, by decide, Nat.le_of_ble_eq_true rfl⟩ (Nat.le_of_ble_eq_true rfl) hG.1 (c_GR_would hG hi hjn) rfl ?_
    refine fr_st (st2 := [.int (bI false)]) (by rw [hcf]) ?_
    refine fr_if_eq (pc := 24) (tgt := 37) d_FR_join_24 (by decide) (fun q2 => ?_) (fun q2 => ?_)
    · refine fr_aload_n (pc := 37) d_FR_join_37 rfl rfl ?_
      refine fr_get (pc := 38) (v := .ref gr) d_FR_join_38 fg_FR_10 h0 rfl ?_
      refine fr_iload_n (pc := 41) d_FR_join_41 rfl rfl ?_
      refine fr_iload_n (pc := 42) d_FR_join_42 rfl rfl ?_
      refine fr_iload_n (pc := 43) d_FR_join_43 rfl rfl ?_
      refine fr_callv_p (pc := 44) (nc := 1) (ns := 6) (N := m_GR_hasMember) (rest := []) (as := [.int (nI i), .int (nI j), .int (bI b)]) d_FR_join_44 vc_FR_55 ⟨by decide, by decide, Nat.le_of_ble_eq_true rfl⟩ (Nat.le_of_ble_eq_true rfl) hG.1 (by have hh := c_GR_has (nc := 0) (ns := 0) hG (b := b) hi hj64; rw [fs_hh_f hR] at hh; exact hh) rfl ?_
      refine fr_st (st2 := [.int (bI true)]) (by rw [hh]) ?_
      refine fr_if_eq (pc := 47) (tgt := 52) d_FR_join_47 (by decide) (fun q9 => ?_) (fun q9 => ?_)
      · exact absurd q9 (by decide)
      · refine fr_iconst (pc := 50) (v := 0) d_FR_join_50 (by decide) ?_
        refine fr_st (st2 := [.int (bI false)]) rfl ?_
        exact fr_zret rfl (by first | exact bI_01 _ | exact Or.inl rfl | exact Or.inr rfl) d_FR_join_51 ⟨rfl, hX, fs_Fr_id⟩
    · exact absurd rfl q2
theorem p_FR_join_new {g : fw_G} {w : fw_W} {o gr a1 a2 a3 a4 na us n : Nat} {hu hg : Nat → Nat → Bool} {nd : fs_D} (hX : fs_X g (o, gr, a1, a2, a3, a4, na) (us, n, hu, hg, nd) w) {i j : Nat} {b : Bool} (hi : i < n) (hj : j < (if b then n else us)) (hc : b = true → ¬ cl_rt hg j i) (hh : fs_hh hu hg b i j = false) : fw_R g m_FR_join (fs_P g (o, gr, a1, a2, a3, a4, na) w (.inl (some (.int (bI true)))) (us, n, (if b then hu else gr_tg hu i j), (if b then gr_tg hg i j else hg), nd)) 4 24 w 0 [(0, .ref o), (1, .int (nI i)), (2, .int (nI j)), (3, .int (bI b))] [] := by
  obtain ⟨f1, f2, f3, f4, ad, lq, ld, lc, lt, hok, h0, hG, hR, hN, hr⟩ := fs_X_el hX
  have hb : n < 2 ^ 31 := by have := hok.2.2.1; omega
  have hb2 : us < 2 ^ 31 := by have := hok.2.1; omega
  have hj64 : j < 64 := by
    have h1 := hok.2.1
    have h2 := hok.2.2.1
    cases b <;> simp at hj <;> omega
  refine fr_aload_n (pc := 0) d_FR_join_0 rfl rfl ?_
  refine fr_iload_n (pc := 1) d_FR_join_1 rfl rfl ?_
  refine fr_callv_n (pc := 2) (nc := 3) (ns := 18) (N := m_FR_requireGroup) (rest := []) (as := [.int (nI i)]) d_FR_join_2 vc_FR_41 ⟨by decide, by decide, Nat.le_of_ble_eq_true rfl⟩ (Nat.le_of_ble_eq_true rfl) h0 (c_FR_requireGroup h0 hG.1 hi hb) rfl ?_
  refine fr_aload_n (pc := 5) d_FR_join_5 rfl rfl ?_
  refine fr_iload_n (pc := 6) d_FR_join_6 rfl rfl ?_
  refine fr_iload_n (pc := 7) d_FR_join_7 rfl rfl ?_
  refine fr_callv_n (pc := 8) (nc := 1) (ns := 6) (N := m_FR_requireUserOrGroup) (rest := []) (as := [.int (nI j), .int (bI b)]) d_FR_join_8 vc_FR_45 ⟨by decide, by decide, Nat.le_of_ble_eq_true rfl⟩ (Nat.le_of_ble_eq_true rfl) h0 (c_FR_requireUserOrGroup h0 hG.1 hj hb hb2) rfl ?_
  refine fr_iload_n (pc := 11) d_FR_join_11 rfl rfl ?_
  refine fr_if_eq (pc := 12) (tgt := 37) d_FR_join_12 (by decide) (fun q => ?_) (fun q => ?_)
  · refine fr_aload_n (pc := 37) d_FR_join_37 rfl rfl ?_
    refine fr_get (pc := 38) (v := .ref gr) d_FR_join_38 fg_FR_10 h0 rfl ?_
    refine fr_iload_n (pc := 41) d_FR_join_41 rfl rfl ?_
    refine fr_iload_n (pc := 42) d_FR_join_42 rfl rfl ?_
    refine fr_iload_n (pc := 43) d_FR_join_43 rfl rfl ?_
    refine fr_callv_p (pc := 44) (nc := 1) (ns := 6) (N := m_GR_hasMember) (rest := []) (as := [.int (nI i), .int (nI j), .int (bI b)]) d_FR_join_44 vc_FR_55 ⟨by decide, by decide, Nat.le_of_ble_eq_true rfl⟩ (Nat.le_of_ble_eq_true rfl) hG.1 (by have hh := c_GR_has (nc := 0) (ns := 0) hG (b := b) hi hj64; rw [fs_hh_f hR] at hh; exact hh) rfl ?_
    refine fr_st (st2 := [.int (bI false)]) (by rw [hh]) ?_
    refine fr_if_eq (pc := 47) (tgt := 52) d_FR_join_47 (by decide) (fun q9 => ?_) (fun q9 => ?_)
    · refine fr_aload_n (pc := 52) d_FR_join_52 rfl rfl ?_
      refine fr_get (pc := 53) (v := .ref gr) d_FR_join_53 fg_FR_10 h0 rfl ?_
      refine fr_iload_n (pc := 56) d_FR_join_56 rfl rfl ?_
      refine fr_iload_n (pc := 57) d_FR_join_57 rfl rfl ?_
      refine fr_iload_n (pc := 58) d_FR_join_58 rfl rfl ?_
      refine fr_callv_n (pc := 59) (nc := 1) (ns := 6) (N := m_GR_turnMember) (rest := []) (as := [.int (nI i), .int (nI j), .int (bI b)]) d_FR_join_59 vc_FR_59 ⟨by decide, by decide, Nat.le_of_ble_eq_true rfl⟩ (Nat.le_of_ble_eq_true rfl) hG.1 (c_GR_turn hG hi) rfl ?_
      obtain ⟨hX2, hF2⟩ := fs_X_tu hok h0 hG hR hN hr hi hj
      refine fr_iconst (pc := 62) (v := 1) d_FR_join_62 (by decide) ?_
      refine fr_st (st2 := [.int (bI true)]) rfl ?_
      exact fr_zret rfl (by first | exact bI_01 _ | exact Or.inl rfl | exact Or.inr rfl) d_FR_join_63 ⟨rfl, hX2, hF2⟩
    · exact absurd rfl q9
  · have hbt : b = true := ts_nf (fun z => q (bI_0.mpr z))
    have hjn : j < n := by rw [hbt] at hj; simpa using hj
    have hcf : (decide (i = j) || bb (f3 j) i) = false := by
      cases hd : (decide (i = j) || bb (f3 j) i) with
      | false => rfl
      | true => exact absurd ((fs_cir hR i j).mp hd) (hc hbt)
    refine fr_aload_n (pc := 15) d_FR_join_15 rfl rfl ?_
    refine fr_get (pc := 16) (v := .ref gr) d_FR_join_16 fg_FR_10 h0 rfl ?_
    refine fr_iload_n (pc := 19) d_FR_join_19 rfl rfl ?_
    refine fr_iload_n (pc := 20) d_FR_join_20 rfl rfl ?_
    refine fr_callv_p (pc := 21) (nc := 1) (ns := 6) (N := m_GR_wouldHoldItself) (rest := []) (as := [.int (nI i), .int (nI j)]) d_FR_join_21 vc_FR_49 ⟨by decide, by decide, Nat.le_of_ble_eq_true rfl⟩ (Nat.le_of_ble_eq_true rfl) hG.1 (c_GR_would hG hi hjn) rfl ?_
    refine fr_st (st2 := [.int (bI false)]) (by rw [hcf]) ?_
    refine fr_if_eq (pc := 24) (tgt := 37) d_FR_join_24 (by decide) (fun q2 => ?_) (fun q2 => ?_)
    · refine fr_aload_n (pc := 37) d_FR_join_37 rfl rfl ?_
      refine fr_get (pc := 38) (v := .ref gr) d_FR_join_38 fg_FR_10 h0 rfl ?_
      refine fr_iload_n (pc := 41) d_FR_join_41 rfl rfl ?_
      refine fr_iload_n (pc := 42) d_FR_join_42 rfl rfl ?_
      refine fr_iload_n (pc := 43) d_FR_join_43 rfl rfl ?_
      refine fr_callv_p (pc := 44) (nc := 1) (ns := 6) (N := m_GR_hasMember) (rest := []) (as := [.int (nI i), .int (nI j), .int (bI b)]) d_FR_join_44 vc_FR_55 ⟨by decide, by decide, Nat.le_of_ble_eq_true rfl⟩ (Nat.le_of_ble_eq_true rfl) hG.1 (by have hh := c_GR_has (nc := 0) (ns := 0) hG (b := b) hi hj64; rw [fs_hh_f hR] at hh; exact hh) rfl ?_
      refine fr_st (st2 := [.int (bI false)]) (by rw [hh]) ?_
      refine fr_if_eq (pc := 47) (tgt := 52) d_FR_join_47 (by decide) (fun q9 => ?_) (fun q9 => ?_)
      · refine fr_aload_n (pc := 52) d_FR_join_52 rfl rfl ?_
        refine fr_get (pc := 53) (v := .ref gr) d_FR_join_53 fg_FR_10 h0 rfl ?_
        refine fr_iload_n (pc := 56) d_FR_join_56 rfl rfl ?_
        refine fr_iload_n (pc := 57) d_FR_join_57 rfl rfl ?_
        refine fr_iload_n (pc := 58) d_FR_join_58 rfl rfl ?_
        refine fr_callv_n (pc := 59) (nc := 1) (ns := 6) (N := m_GR_turnMember) (rest := []) (as := [.int (nI i), .int (nI j), .int (bI b)]) d_FR_join_59 vc_FR_59 ⟨by decide, by decide, Nat.le_of_ble_eq_true rfl⟩ (Nat.le_of_ble_eq_true rfl) hG.1 (c_GR_turn hG hi) rfl ?_
        obtain ⟨hX2, hF2⟩ := fs_X_tu hok h0 hG hR hN hr hi hj
        refine fr_iconst (pc := 62) (v := 1) d_FR_join_62 (by decide) ?_
        refine fr_st (st2 := [.int (bI true)]) rfl ?_
        exact fr_zret rfl (by first | exact bI_01 _ | exact Or.inl rfl | exact Or.inr rfl) d_FR_join_63 ⟨rfl, hX2, hF2⟩
      · exact absurd rfl q9
    · exact absurd rfl q2
theorem p_FR_leave_no {g : fw_G} {w : fw_W} {o gr a1 a2 a3 a4 na us n : Nat} {hu hg : Nat → Nat → Bool} {nd : fs_D} (hX : fs_X g (o, gr, a1, a2, a3, a4, na) (us, n, hu, hg, nd) w) {i j : Nat} {b : Bool} (hi : i < n) (hj : j < (if b then n else us)) (hh : fs_hh hu hg b i j = false) : fw_R g m_FR_leave (fs_P g (o, gr, a1, a2, a3, a4, na) w (.inl (some (.int (bI false)))) (us, n, hu, hg, nd)) 3 18 w 0 [(0, .ref o), (1, .int (nI i)), (2, .int (nI j)), (3, .int (bI b))] [] := by
  obtain ⟨f1, f2, f3, f4, ad, lq, ld, lc, lt, hok, h0, hG, hR, hN, hr⟩ := fs_X_el hX
  have hb : n < 2 ^ 31 := by have := hok.2.2.1; omega
  have hb2 : us < 2 ^ 31 := by have := hok.2.1; omega
  have hj64 : j < 64 := by
    have h1 := hok.2.1
    have h2 := hok.2.2.1
    cases b <;> simp at hj <;> omega
  refine fr_aload_n (pc := 0) d_FR_leave_0 rfl rfl ?_
  refine fr_iload_n (pc := 1) d_FR_leave_1 rfl rfl ?_
  refine fr_callv_n (pc := 2) (nc := 2) (ns := 12) (N := m_FR_requireGroup) (rest := []) (as := [.int (nI i)]) d_FR_leave_2 vc_FR_41 ⟨by decide, by decide, Nat.le_of_ble_eq_true rfl⟩ (Nat.le_of_ble_eq_true rfl) h0 (c_FR_requireGroup h0 hG.1 hi hb) rfl ?_
  refine fr_aload_n (pc := 5) d_FR_leave_5 rfl rfl ?_
  refine fr_iload_n (pc := 6) d_FR_leave_6 rfl rfl ?_
  refine fr_iload_n (pc := 7) d_FR_leave_7 rfl rfl ?_
  refine fr_callv_n (pc := 8) (nc := 0) (ns := 0) (N := m_FR_requireUserOrGroup) (rest := []) (as := [.int (nI j), .int (bI b)]) d_FR_leave_8 vc_FR_45 ⟨by decide, by decide, Nat.le_of_ble_eq_true rfl⟩ (Nat.le_of_ble_eq_true rfl) h0 (c_FR_requireUserOrGroup h0 hG.1 hj hb hb2) rfl ?_
  refine fr_aload_n (pc := 11) d_FR_leave_11 rfl rfl ?_
  refine fr_get (pc := 12) (v := .ref gr) d_FR_leave_12 fg_FR_10 h0 rfl ?_
  refine fr_iload_n (pc := 15) d_FR_leave_15 rfl rfl ?_
  refine fr_iload_n (pc := 16) d_FR_leave_16 rfl rfl ?_
  refine fr_iload_n (pc := 17) d_FR_leave_17 rfl rfl ?_
  refine fr_callv_p (pc := 18) (nc := 0) (ns := 0) (N := m_GR_hasMember) (rest := []) (as := [.int (nI i), .int (nI j), .int (bI b)]) d_FR_leave_18 vc_FR_55 ⟨by decide, by decide, Nat.le_of_ble_eq_true rfl⟩ (Nat.le_of_ble_eq_true rfl) hG.1 (by have hh := c_GR_has (nc := 0) (ns := 0) hG (b := b) hi hj64; rw [fs_hh_f hR] at hh; exact hh) rfl ?_
  refine fr_st (st2 := [.int (bI false)]) (by rw [hh]) ?_
  refine fr_if_ne (pc := 21) (tgt := 26) d_FR_leave_21 (by decide) (fun q9 => ?_) (fun q9 => ?_)
  · exact absurd rfl q9
  · refine fr_iconst (pc := 24) (v := 0) d_FR_leave_24 (by decide) ?_
    refine fr_st (st2 := [.int (bI false)]) rfl ?_
    exact fr_zret rfl (by first | exact bI_01 _ | exact Or.inl rfl | exact Or.inr rfl) d_FR_leave_25 ⟨rfl, hX, fs_Fr_id⟩
theorem p_FR_leave_has {g : fw_G} {w : fw_W} {o gr a1 a2 a3 a4 na us n : Nat} {hu hg : Nat → Nat → Bool} {nd : fs_D} (hX : fs_X g (o, gr, a1, a2, a3, a4, na) (us, n, hu, hg, nd) w) {i j : Nat} {b : Bool} (hi : i < n) (hj : j < (if b then n else us)) (hh : fs_hh hu hg b i j = true) : fw_R g m_FR_leave (fs_P g (o, gr, a1, a2, a3, a4, na) w (.inl (some (.int (bI true)))) (us, n, (if b then hu else gr_tg hu i j), (if b then gr_tg hg i j else hg), nd)) 3 18 w 0 [(0, .ref o), (1, .int (nI i)), (2, .int (nI j)), (3, .int (bI b))] [] := by
  obtain ⟨f1, f2, f3, f4, ad, lq, ld, lc, lt, hok, h0, hG, hR, hN, hr⟩ := fs_X_el hX
  have hb : n < 2 ^ 31 := by have := hok.2.2.1; omega
  have hb2 : us < 2 ^ 31 := by have := hok.2.1; omega
  have hj64 : j < 64 := by
    have h1 := hok.2.1
    have h2 := hok.2.2.1
    cases b <;> simp at hj <;> omega
  refine fr_aload_n (pc := 0) d_FR_leave_0 rfl rfl ?_
  refine fr_iload_n (pc := 1) d_FR_leave_1 rfl rfl ?_
  refine fr_callv_n (pc := 2) (nc := 2) (ns := 12) (N := m_FR_requireGroup) (rest := []) (as := [.int (nI i)]) d_FR_leave_2 vc_FR_41 ⟨by decide, by decide, Nat.le_of_ble_eq_true rfl⟩ (Nat.le_of_ble_eq_true rfl) h0 (c_FR_requireGroup h0 hG.1 hi hb) rfl ?_
  refine fr_aload_n (pc := 5) d_FR_leave_5 rfl rfl ?_
  refine fr_iload_n (pc := 6) d_FR_leave_6 rfl rfl ?_
  refine fr_iload_n (pc := 7) d_FR_leave_7 rfl rfl ?_
  refine fr_callv_n (pc := 8) (nc := 0) (ns := 0) (N := m_FR_requireUserOrGroup) (rest := []) (as := [.int (nI j), .int (bI b)]) d_FR_leave_8 vc_FR_45 ⟨by decide, by decide, Nat.le_of_ble_eq_true rfl⟩ (Nat.le_of_ble_eq_true rfl) h0 (c_FR_requireUserOrGroup h0 hG.1 hj hb hb2) rfl ?_
  refine fr_aload_n (pc := 11) d_FR_leave_11 rfl rfl ?_
  refine fr_get (pc := 12) (v := .ref gr) d_FR_leave_12 fg_FR_10 h0 rfl ?_
  refine fr_iload_n (pc := 15) d_FR_leave_15 rfl rfl ?_
  refine fr_iload_n (pc := 16) d_FR_leave_16 rfl rfl ?_
  refine fr_iload_n (pc := 17) d_FR_leave_17 rfl rfl ?_
  refine fr_callv_p (pc := 18) (nc := 0) (ns := 0) (N := m_GR_hasMember) (rest := []) (as := [.int (nI i), .int (nI j), .int (bI b)]) d_FR_leave_18 vc_FR_55 ⟨by decide, by decide, Nat.le_of_ble_eq_true rfl⟩ (Nat.le_of_ble_eq_true rfl) hG.1 (by have hh := c_GR_has (nc := 0) (ns := 0) hG (b := b) hi hj64; rw [fs_hh_f hR] at hh; exact hh) rfl ?_
  refine fr_st (st2 := [.int (bI true)]) (by rw [hh]) ?_
  refine fr_if_ne (pc := 21) (tgt := 26) d_FR_leave_21 (by decide) (fun q9 => ?_) (fun q9 => ?_)
  · refine fr_aload_n (pc := 26) d_FR_leave_26 rfl rfl ?_
    refine fr_get (pc := 27) (v := .ref gr) d_FR_leave_27 fg_FR_10 h0 rfl ?_
    refine fr_iload_n (pc := 30) d_FR_leave_30 rfl rfl ?_
    refine fr_iload_n (pc := 31) d_FR_leave_31 rfl rfl ?_
    refine fr_iload_n (pc := 32) d_FR_leave_32 rfl rfl ?_
    refine fr_callv_n (pc := 33) (nc := 0) (ns := 0) (N := m_GR_turnMember) (rest := []) (as := [.int (nI i), .int (nI j), .int (bI b)]) d_FR_leave_33 vc_FR_59 ⟨by decide, by decide, Nat.le_of_ble_eq_true rfl⟩ (Nat.le_of_ble_eq_true rfl) hG.1 (c_GR_turn hG hi) rfl ?_
    obtain ⟨hX2, hF2⟩ := fs_X_tu hok h0 hG hR hN hr hi hj
    refine fr_iconst (pc := 36) (v := 1) d_FR_leave_36 (by decide) ?_
    refine fr_st (st2 := [.int (bI true)]) rfl ?_
    exact fr_zret rfl (by first | exact bI_01 _ | exact Or.inl rfl | exact Or.inr rfl) d_FR_leave_37 ⟨rfl, hX2, hF2⟩
  · exact absurd q9 (by decide)
theorem c_FR_step_n {g : fw_G} {nc ns : Nat} {w : fw_W} {o gr na us : Nat} (h0 : w o = some (.inr (0, [.ref gr, .ref na, .int (nI us)]))) {nd : fs_D} {ad : Nat → Option Nat} {lq ld lc : Nat → Nat} {lt : Nat → List Nat} (hN : w na = some (fs_no g ad)) (hr : fs_rN g w nd ad lq ld lc lt) (hno : ∀ j M, j < 150 → nd j = some M → M.2.2.2.2.1 = false) : ∀ m i, i + m = 150 → ∀ L : List (Nat × Value), L = [(0, .ref o), (1, .ref na), (2, .int (nI 150)), (3, .int (nI i))] → fw_R g m_FR_step (fw_pv (.int (-1)) w) nc ns w 10 L [] := by
  intro m
  induction m with
  | zero =>
    intro i hi L hL
    have hk2 : i = 150 := by omega
    subst hk2 hL
    refine fr_iload_n (pc := 10) d_FR_step_10 rfl rfl ?_
    refine fr_iload_n (pc := 11) d_FR_step_11 rfl rfl ?_
    refine fr_icmp_ge (pc := 12) (tgt := 51) d_FR_step_12 (by decide) (fun q => ?_) (fun q => ?_)
    · refine fr_iconst (pc := 51) (v := -1) d_FR_step_51 (by decide) ?_
      exact fr_iret rfl d_FR_step_52 ⟨rfl, rfl⟩
    · exact absurd ((ni_le (a := 150) (b := 150) (by omega) (by omega)).mpr (by omega)) q
  | succ m ih =>
    intro i hi L hL
    subst hL
    refine fr_iload_n (pc := 10) d_FR_step_10 rfl rfl ?_
    refine fr_iload_n (pc := 11) d_FR_step_11 rfl rfl ?_
    refine fr_icmp_ge (pc := 12) (tgt := 51) d_FR_step_12 (by decide) (fun q => ?_) (fun q => ?_)
    · exact absurd ((ni_le (a := 150) (by omega) (by omega)).mp q) (by omega)
    · refine fr_aload_n (pc := 15) d_FR_step_15 rfl rfl ?_
      refine fr_iload_n (pc := 16) d_FR_step_16 rfl rfl ?_
      refine fr_aaldN (pc := 17) (t := 3) (n := 150) (k := i) (C := "FolderRights$Node") (f := ad) d_FR_step_17 rfl hN (by omega) (by omega) ?_
      cases hA : nd i with
      | none =>
        refine fr_st (st2 := [.null]) (by rw [rf_none (hr.1 i hA)]) ?_
        refine fr_astoreN (pc := 18) (L2 := [(0, .ref o), (1, .ref na), (2, .int (nI 150)), (3, .int (nI i)), (4, .null)]) d_FR_step_18 (by decide) rfl ?_
        refine fr_aloadN (pc := 20) d_FR_step_20 rfl ?_
        refine fr_ifnullN (pc := 22) (tgt := 45) d_FR_step_22 (by decide) ?_
        refine fr_iinc (pc := 45) (v := (nI (i + 1))) (L2 := [(0, .ref o), (1, .ref na), (2, .int (nI 150)), (3, .int (nI (i + 1))), (4, .null)]) d_FR_step_45 rfl (fi_1 _) (by decide) rfl ?_
        refine fr_goto (pc := 48) (tgt := 10) d_FR_step_48 (by decide) ?_
        exact fr_Ld (ih (i + 1) (by omega) _ rfl)
      | some M =>
        obtain ⟨-, a, ha, hc, -, -⟩ := hr.2.1 i M hA
        have hs : M.2.2.2.2.1 = false := hno i M (by omega) hA
        refine fr_st (st2 := [.ref a]) (by rw [rf_some ha]) ?_
        refine fr_astore (pc := 18) (L2 := [(0, .ref o), (1, .ref na), (2, .int (nI 150)), (3, .int (nI i)), (4, .ref a)]) d_FR_step_18 (by decide) rfl ?_
        refine fr_aload (pc := 20) d_FR_step_20 rfl ?_
        refine fr_ifnull (pc := 22) d_FR_step_22 ?_
        refine fr_aload (pc := 25) d_FR_step_25 rfl ?_
        refine fr_get (pc := 27) (v := .int (bI M.2.2.2.2.1)) d_FR_step_27 fg_FR_110 hc rfl ?_
        refine fr_if_eq (pc := 30) (tgt := 45) d_FR_step_30 (by decide) (fun q => ?_) (fun q => ?_)
        · refine fr_iinc (pc := 45) (v := (nI (i + 1))) (L2 := [(0, .ref o), (1, .ref na), (2, .int (nI 150)), (3, .int (nI (i + 1))), (4, .ref a)]) d_FR_step_45 rfl (fi_1 _) (by decide) rfl ?_
          refine fr_goto (pc := 48) (tgt := 10) d_FR_step_48 (by decide) ?_
          exact fr_Ld (ih (i + 1) (by omega) _ rfl)
        · exact absurd (bI_0.mpr hs) q
theorem c_FR_step_y {g : fw_G} {nc ns : Nat} {w : fw_W} {o gr na us : Nat} (h0 : w o = some (.inr (0, [.ref gr, .ref na, .int (nI us)]))) {nd : fs_D} {ad : Nat → Option Nat} {lq ld lc : Nat → Nat} {lt : Nat → List Nat} (hN : w na = some (fs_no g ad)) (hr : fs_rN g w nd ad lq ld lc lt) {k a : Nat} {N : fs_N} (hk : nd k = some N) (ha2 : ad k = some a) (hs2 : N.2.2.2.2.1 = true) (hno : ∀ j M, j < k → nd j = some M → M.2.2.2.2.1 = false) : ∀ m i, i + m = k → ∀ L : List (Nat × Value), L = [(0, .ref o), (1, .ref na), (2, .int (nI 150)), (3, .int (nI i))] → fw_R g m_FR_step (fw_pv (.int (nI k)) (fw_up w a (.inr (2, fs_nc k (fs_st N false) (lq k) (N.2.1.bind ad))))) nc ns w 10 L [] := by
  obtain ⟨hk150, a0, ha0, hc2, -, -⟩ := hr.2.1 k N hk
  rw [ha2] at ha0; cases ha0
  intro m
  induction m with
  | zero =>
    intro i hi L hL
    have hk2 : i = k := by omega
    subst hk2 hL
    refine fr_iload_n (pc := 10) d_FR_step_10 rfl rfl ?_
    refine fr_iload_n (pc := 11) d_FR_step_11 rfl rfl ?_
    refine fr_icmp_ge (pc := 12) (tgt := 51) d_FR_step_12 (by decide) (fun q => ?_) (fun q => ?_)
    · exact absurd ((ni_le (a := 150) (by omega) (by omega)).mp q) (by omega)
    · refine fr_aload_n (pc := 15) d_FR_step_15 rfl rfl ?_
      refine fr_iload_n (pc := 16) d_FR_step_16 rfl rfl ?_
      refine fr_aaldN (pc := 17) (t := 3) (n := 150) (k := i) (C := "FolderRights$Node") (f := ad) d_FR_step_17 rfl hN (by omega) (by omega) ?_
      refine fr_st (st2 := [.ref a]) (by rw [rf_some ha2]) ?_
      refine fr_astore (pc := 18) (L2 := [(0, .ref o), (1, .ref na), (2, .int (nI 150)), (3, .int (nI i)), (4, .ref a)]) d_FR_step_18 (by decide) rfl ?_
      refine fr_aload (pc := 20) d_FR_step_20 rfl ?_
      refine fr_ifnull (pc := 22) d_FR_step_22 ?_
      refine fr_aload (pc := 25) d_FR_step_25 rfl ?_
      refine fr_get (pc := 27) (v := .int (bI N.2.2.2.2.1)) d_FR_step_27 fg_FR_110 hc2 rfl ?_
      refine fr_if_eq (pc := 30) (tgt := 45) d_FR_step_30 (by decide) (fun q2 => ?_) (fun q2 => ?_)
      · exact absurd (bI_0.mp q2) (by rw [hs2]; decide)
      · refine fr_aload (pc := 33) d_FR_step_33 rfl ?_
        refine fr_iconst (pc := 35) (v := 0) d_FR_step_35 (by decide) ?_
        refine fr_put (pc := 36) (fs2 := fs_nc i (fs_st N false) (lq i) (N.2.1.bind ad)) d_FR_step_36 fp_FR_step_110 hc2 (Nat.le_of_ble_eq_true rfl) rfl rfl rfl ?_
        refine fr_aload (pc := 39) d_FR_step_39 rfl ?_
        refine fr_get (pc := 41) (v := .int (nI i)) d_FR_step_41 fg_FR_186 fw_up_self rfl ?_
        exact fr_iret rfl d_FR_step_44 ⟨rfl, rfl⟩
  | succ m ih =>
    intro i hi L hL
    subst hL
    refine fr_iload_n (pc := 10) d_FR_step_10 rfl rfl ?_
    refine fr_iload_n (pc := 11) d_FR_step_11 rfl rfl ?_
    refine fr_icmp_ge (pc := 12) (tgt := 51) d_FR_step_12 (by decide) (fun q => ?_) (fun q => ?_)
    · exact absurd ((ni_le (a := 150) (by omega) (by omega)).mp q) (by omega)
    · refine fr_aload_n (pc := 15) d_FR_step_15 rfl rfl ?_
      refine fr_iload_n (pc := 16) d_FR_step_16 rfl rfl ?_
      refine fr_aaldN (pc := 17) (t := 3) (n := 150) (k := i) (C := "FolderRights$Node") (f := ad) d_FR_step_17 rfl hN (by omega) (by omega) ?_
      cases hA : nd i with
      | none =>
        refine fr_st (st2 := [.null]) (by rw [rf_none (hr.1 i hA)]) ?_
        refine fr_astoreN (pc := 18) (L2 := [(0, .ref o), (1, .ref na), (2, .int (nI 150)), (3, .int (nI i)), (4, .null)]) d_FR_step_18 (by decide) rfl ?_
        refine fr_aloadN (pc := 20) d_FR_step_20 rfl ?_
        refine fr_ifnullN (pc := 22) (tgt := 45) d_FR_step_22 (by decide) ?_
        refine fr_iinc (pc := 45) (v := (nI (i + 1))) (L2 := [(0, .ref o), (1, .ref na), (2, .int (nI 150)), (3, .int (nI (i + 1))), (4, .null)]) d_FR_step_45 rfl (fi_1 _) (by decide) rfl ?_
        refine fr_goto (pc := 48) (tgt := 10) d_FR_step_48 (by decide) ?_
        exact fr_Ld (ih (i + 1) (by omega) _ rfl)
      | some M =>
        obtain ⟨-, a, ha, hc, -, -⟩ := hr.2.1 i M hA
        have hs : M.2.2.2.2.1 = false := hno i M (by omega) hA
        refine fr_st (st2 := [.ref a]) (by rw [rf_some ha]) ?_
        refine fr_astore (pc := 18) (L2 := [(0, .ref o), (1, .ref na), (2, .int (nI 150)), (3, .int (nI i)), (4, .ref a)]) d_FR_step_18 (by decide) rfl ?_
        refine fr_aload (pc := 20) d_FR_step_20 rfl ?_
        refine fr_ifnull (pc := 22) d_FR_step_22 ?_
        refine fr_aload (pc := 25) d_FR_step_25 rfl ?_
        refine fr_get (pc := 27) (v := .int (bI M.2.2.2.2.1)) d_FR_step_27 fg_FR_110 hc rfl ?_
        refine fr_if_eq (pc := 30) (tgt := 45) d_FR_step_30 (by decide) (fun q => ?_) (fun q => ?_)
        · refine fr_iinc (pc := 45) (v := (nI (i + 1))) (L2 := [(0, .ref o), (1, .ref na), (2, .int (nI 150)), (3, .int (nI (i + 1))), (4, .ref a)]) d_FR_step_45 rfl (fi_1 _) (by decide) rfl ?_
          refine fr_goto (pc := 48) (tgt := 10) d_FR_step_48 (by decide) ?_
          exact fr_Ld (ih (i + 1) (by omega) _ rfl)
        · exact absurd (bI_0.mpr hs) q
theorem p_FR_step_n {g : fw_G} {w : fw_W} {o gr a1 a2 a3 a4 na us n : Nat} {hu hg : Nat → Nat → Bool} {nd : fs_D} (hX : fs_X g (o, gr, a1, a2, a3, a4, na) (us, n, hu, hg, nd) w) (hno : ∀ j M, nd j = some M → M.2.2.2.2.1 = false) : fw_R g m_FR_step (fs_P g (o, gr, a1, a2, a3, a4, na) w (.inl (some (.int (-1)))) (us, n, hu, hg, nd)) 0 0 w 0 [(0, .ref o)] [] := by
  obtain ⟨f1, f2, f3, f4, ad, lq, ld, lc, lt, hok, h0, hG, hR, hN, hr⟩ := fs_X_el hX
  refine fr_po (Post := fw_pv (.int (-1)) w) (fun r u h => by obtain ⟨e1, e2⟩ := h; subst e2; exact ⟨e1, hX, fs_Fr_id⟩) ?_
  refine fr_aload_n (pc := 0) d_FR_step_0 rfl rfl ?_
  refine fr_get (pc := 1) (v := .ref na) d_FR_step_1 fg_FR_18 h0 rfl ?_
  refine fr_astore_n (pc := 4) (L2 := [(0, .ref o), (1, .ref na)]) d_FR_step_4 rfl (by decide) rfl ?_
  refine fr_aload_n (pc := 5) d_FR_step_5 rfl rfl ?_
  refine fr_alen (pc := 6) (t := 3) (v := (nI 150)) d_FR_step_6 rfl hN rfl ?_
  refine fr_istore_n (pc := 7) (L2 := [(0, .ref o), (1, .ref na), (2, .int (nI 150))]) d_FR_step_7 rfl (by decide) rfl ?_
  refine fr_iconst (pc := 8) (v := 0) d_FR_step_8 (by decide) ?_
  refine fr_istore_n (pc := 9) (L2 := [(0, .ref o), (1, .ref na), (2, .int (nI 150)), (3, .int 0)]) d_FR_step_9 rfl (by decide) rfl ?_
  exact c_FR_step_n h0 hN hr (fun j M _ => hno j M) 150 0 rfl _ rfl
theorem p_FR_step_y {g : fw_G} {w : fw_W} {o gr a1 a2 a3 a4 na us n : Nat} {hu hg : Nat → Nat → Bool} {nd : fs_D} (hX : fs_X g (o, gr, a1, a2, a3, a4, na) (us, n, hu, hg, nd) w) {k : Nat} {N : fs_N} (hk : nd k = some N) (hs : N.2.2.2.2.1 = true) (hno : ∀ j M, j < k → nd j = some M → M.2.2.2.2.1 = false) : fw_R g m_FR_step (fs_P g (o, gr, a1, a2, a3, a4, na) w (.inl (some (.int (nI k)))) (us, n, hu, hg, va_up nd k (some (fs_st N false)))) 0 0 w 0 [(0, .ref o)] [] := by
  obtain ⟨f1, f2, f3, f4, ad, lq, ld, lc, lt, hok, h0, hG, hR, hN, hr⟩ := fs_X_el hX
  obtain ⟨hk150, a, ha, hc, hl, hE⟩ := hr.2.1 k N hk
  obtain ⟨-, hk0, how, hlen, hes, hch, hdep⟩ := hok.2.2.2.2 k N hk
  refine fr_po (Post := fw_pv (.int (nI k)) (fw_up w a (.inr (2, fs_nc k (fs_st N false) (lq k) (N.2.1.bind ad))))) (fun r u h => by obtain ⟨e1, e2⟩ := h; subst e2; exact ⟨e1, fs_X_F2 (fs_ok_up hok (N2 := fs_st N false) hk rfl how hlen hes) h0 hG hR hN (fs_F2_up fs_F2_id hc) (fs_rN_put hr (N2 := fs_st N false) hk ha rfl), fs_F2_Fr (fs_F2_up fs_F2_id hc)⟩) ?_
  refine fr_aload_n (pc := 0) d_FR_step_0 rfl rfl ?_
  refine fr_get (pc := 1) (v := .ref na) d_FR_step_1 fg_FR_18 h0 rfl ?_
  refine fr_astore_n (pc := 4) (L2 := [(0, .ref o), (1, .ref na)]) d_FR_step_4 rfl (by decide) rfl ?_
  refine fr_aload_n (pc := 5) d_FR_step_5 rfl rfl ?_
  refine fr_alen (pc := 6) (t := 3) (v := (nI 150)) d_FR_step_6 rfl hN rfl ?_
  refine fr_istore_n (pc := 7) (L2 := [(0, .ref o), (1, .ref na), (2, .int (nI 150))]) d_FR_step_7 rfl (by decide) rfl ?_
  refine fr_iconst (pc := 8) (v := 0) d_FR_step_8 (by decide) ?_
  refine fr_istore_n (pc := 9) (L2 := [(0, .ref o), (1, .ref na), (2, .int (nI 150)), (3, .int 0)]) d_FR_step_9 rfl (by decide) rfl ?_
  exact c_FR_step_y h0 hN hr hk ha hs hno k 0 (Nat.zero_add _) _ rfl
end
section
noncomputable def fs_has (hu hg : Nat → Nat → Bool) (nd : fs_D) (N : fs_N) (n r u : Nat) : Bool := (decide (r = 7) && decide (N.2.2.1 = u)) || fs_yes (fs_dc nd (fs_in hu hg) N n r u (fs_ls nd n))
theorem fs_es_b {us ng : Nat} {nd : fs_D} (hok : fs_ok us ng nd) (v : Nat) : ∀ E ∈ fs_es nd v, E.2.2.1 = false → E.2.1 < 64 := by
  intro E hE hi
  unfold fs_es at hE
  cases hv : nd v with
  | none => rw [hv] at hE; cases hE
  | some V =>
    rw [hv] at hE
    obtain ⟨h1, -⟩ := (hok.2.2.2.2 v V hv).2.2.2.2.1 E hE
    rw [hi] at h1
    have h2 := hok.2.1
    have h3 : E.2.1 < us := by simpa using h1
    omega
theorem fs_hold_b {hu hg : Nat → Nat → Bool} {us ng : Nat} {f1 f2 f3 f4 : Nat → Int64} {nd : fs_D} {N : fs_N} {n r u : Nat} (hR : gr_rep hu hg ng us f1 f2 f3 f4) (hok : fs_ok us ng nd) (hA : nd n = some N) (hu64 : u < 64) : bb (fs_hs nd f4 N n r (if r = 7 then (1 : Int64) <<< ((nI N.2.2.1).toInt64 &&& 63) else 0) (if r = 7 then (1 : Int64) <<< ((nI N.2.2.1).toInt64 &&& 63) else 0) (fs_ls nd n)) u = fs_has hu hg nd N n r u := by
  have hf : (fun i u => bb (f4 i) u) = fs_in hu hg := by funext i u; exact fs_in_f4 hR i u
  have how : N.2.2.1 < 64 := by have h1 := (hok.2.2.2.2 n N hA).2.2.1; have h2 := hok.2.1; omega
  rw [fs_hs_b hu64 _ _ _ (fun v _ => fs_es_b hok v), hf]
  unfold fs_has
  by_cases h7 : r = 7
  · rw [if_pos h7, bb_shl how hu64]
    have e : decide (u = N.2.2.1) = decide (N.2.2.1 = u) := by congr 1; exact propext ⟨Eq.symm, Eq.symm⟩
    rw [e]
    simp only [h7, decide_true, Bool.true_and]
    cases decide (N.2.2.1 = u) <;> simp
  · rw [if_neg h7, bb_0]
    simp [h7]
theorem fs_hold_0 {hu hg : Nat → Nat → Bool} {us ng : Nat} {f1 f2 f3 f4 : Nat → Int64} {nd : fs_D} {N : fs_N} {n r u : Nat} (hR : gr_rep hu hg ng us f1 f2 f3 f4) (hok : fs_ok us ng nd) (hA : nd n = some N) (h : fs_has hu hg nd N n r u = true) : u < us := by
  have how := (hok.2.2.2.2 n N hA).2.2.1
  unfold fs_has at h
  rw [Bool.or_eq_true] at h
  rcases h with h | h
  · simp only [Bool.and_eq_true, decide_eq_true_iff] at h
    omega
  · have key : ∀ l, fs_yes (fs_dc nd (fs_in hu hg) N n r u l) = true → u < us := by
      intro l
      induction l with
      | nil => intro h; simp [fs_dc, fs_yes] at h
      | cons v t ih =>
        intro h
        rw [fs_dc] at h
        cases hl : fs_lv1 (fs_hit (fs_in hu hg) N n v r u) (fs_es nd v) with
        | none => rw [hl] at h; exact ih h
        | some q =>
          have hany : (fs_es nd v).any (fun E => fs_hit (fs_in hu hg) N n v r u E) = true := by
            have h1 := (fs_lv1_b (H := fs_hit (fs_in hu hg) N n v r u) (es := fs_es nd v)).1
            rw [hl] at h1
            have h2 := h1.symm
            rw [Option.isSome_some, Bool.or_eq_true] at h2
            rw [List.any_eq_true]
            rcases h2 with h2 | h2 <;> (obtain ⟨E, e1, e2⟩ := List.any_eq_true.mp h2; exact ⟨E, e1, (Bool.and_eq_true _ _ ▸ e2).2⟩)
          obtain ⟨E, hE, hh⟩ := List.any_eq_true.mp hany
          simp only [fs_hit, Bool.and_eq_true] at hh
          have hm := hh.2
          unfold fs_mt at hm
          unfold fs_es at hE
          cases hv : nd v with
          | none => rw [hv] at hE; cases hE
          | some V =>
            rw [hv] at hE
            obtain ⟨h1, -⟩ := (hok.2.2.2.2 v V hv).2.2.2.2.1 E hE
            cases hg2 : E.2.2.1 with
            | true =>
              rw [hg2, if_pos rfl] at hm
              unfold fs_in at hm
              have hm2 := @of_decide_eq_true (∃ k, cl_rt hg E.2.1 k ∧ hu k u = true) (Classical.propDecidable _) hm
              obtain ⟨k, -, hk⟩ := hm2
              exact (hR.2.2.2.2.1 k u hk).2
            | false =>
              rw [hg2] at hm h1
              have e1 : E.2.1 = u := by simpa using hm
              have e2 : E.2.1 < us := by simpa using h1
              omega
    exact key _ h
def fs_ri (P : Nat → Bool) : Nat → Nat → Int32 → Int32
  | 0, _, acc => acc
  | m + 1, r, acc => fs_ri P m (r + 1) (if P r = true then acc ||| (1 <<< (nI r &&& 31)) else acc)
def fs_wh (P : Nat → Bool) (q : Nat) : Nat → Nat → Nat → Option Nat
  | 0, _, _ => none
  | m + 1, u, c => if P u = true then (if c = q then some u else fs_wh P q m (u + 1) (c + 1)) else fs_wh P q m (u + 1) c
theorem c_FR_rights_l {g : fw_G} {nc ns : Nat} {w : fw_W} {o gr na us : Nat} (h0 : w o = some (.inr (0, [.ref gr, .ref na, .int (nI us)]))) {ng a1 a2 a3 a4 : Nat} {f1 f2 f3 f4 : Nat → Int64} (hG : gr_at g w gr a1 a2 a3 a4 ng f1 f2 f3 f4) {nd : fs_D} {ad : Nat → Option Nat} {lq ld lc : Nat → Nat} {lt : Nat → List Nat} (hr : fs_rN g w nd ad lq ld lc lt) (hok : fs_ok us ng nd) {hu hg : Nat → Nat → Bool} (hR : gr_rep hu hg ng us f1 f2 f3 f4) {n a : Nat} {N : fs_N} (hA : nd n = some N) (ha : ad n = some a) {u : Nat} (hu2 : u < us) : ∀ m r acc, r + m = 8 → ∀ L : List (Nat × Value), L = [(0, .ref o), (1, .int (nI u)), (2, .int (nI n)), (3, .ref a), (4, .int acc), (5, .int (nI r))] → fw_R g m_FR_rights (fw_pv (.int (fs_ri (fun r => fs_has hu hg nd N n r u) m r acc)) w) nc ns w 22 L [] := by
  have hus := hok.2.1
  intro m
  induction m with
  | zero =>
    intro r acc hi L hL
    have hk2 : r = 8 := by omega
    subst hk2 hL
    refine fr_iload (pc := 22) d_FR_rights_22 rfl ?_
    refine fr_bipush (pc := 24) (v := 8) d_FR_rights_24 (by decide) ?_
    refine fr_icmp_ge (pc := 26) (tgt := 58) d_FR_rights_26 (by decide) (fun q => ?_) (fun q => ?_)
    · refine fr_iload (pc := 58) d_FR_rights_58 rfl ?_
      exact fr_iret rfl d_FR_rights_60 ⟨rfl, rfl⟩
    · exact absurd ((ni_le (a := 8) (b := 8) (by omega) (by omega)).mpr (by omega)) q
  | succ m ih =>
    intro r acc hi L hL
    subst hL
    refine fr_iload (pc := 22) d_FR_rights_22 rfl ?_
    refine fr_bipush (pc := 24) (v := 8) d_FR_rights_24 (by decide) ?_
    refine fr_icmp_ge (pc := 26) (tgt := 58) d_FR_rights_26 (by decide) (fun q => ?_) (fun q => ?_)
    · exact absurd ((ni_le (a := 8) (by omega) (by omega)).mp q) (by omega)
    · refine fr_aload_n (pc := 29) d_FR_rights_29 rfl rfl ?_
      refine fr_aload_n (pc := 30) d_FR_rights_30 rfl rfl ?_
      refine fr_iload (pc := 31) d_FR_rights_31 rfl ?_
      refine fr_callv_p (pc := 33) (nc := nc) (ns := ns) (N := m_FR_holders) (rest := []) (as := [.ref a, .int (nI r)]) d_FR_rights_33 vc_FR_159 ⟨by decide, by decide, Nat.le_of_ble_eq_true rfl⟩ (Nat.le_of_ble_eq_true rfl) h0 (c_FR_hold h0 hG hr hok hA ha (by omega)) rfl ?_
      refine fr_iload_n (pc := 36) d_FR_rights_36 rfl rfl ?_
      refine fr_calls_p (pc := 37) (nc := nc) (ns := ns) (N := m_FR_isSet) (rest := []) (as := [.long (fs_hs nd f4 N n r (if r = 7 then (1 : Int64) <<< ((nI N.2.2.1).toInt64 &&& 63) else 0) (if r = 7 then (1 : Int64) <<< ((nI N.2.2.1).toInt64 &&& 63) else 0) (fs_ls nd n)), .int (nI u)]) d_FR_rights_37 k_FR_isSet lk_FR_163 sc_FR_isSet np_FR_isSet ⟨by decide, by decide, Nat.le_of_ble_eq_true rfl⟩ (Nat.le_of_ble_eq_true rfl) (c_FR_isSet (by omega)) rfl ?_
      rw [fs_hold_b hR hok hA (by omega)]
      refine fr_if_eq (pc := 40) (tgt := 52) d_FR_rights_40 (by decide) (fun q2 => ?_) (fun q2 => ?_)
      · refine fr_iinc (pc := 52) (v := (nI (r + 1))) (L2 := [(0, .ref o), (1, .int (nI u)), (2, .int (nI n)), (3, .ref a), (4, .int acc), (5, .int (nI (r + 1)))]) d_FR_rights_52 rfl (fi_1 _) (by decide) rfl ?_
        refine fr_goto (pc := 55) (tgt := 22) d_FR_rights_55 (by decide) ?_
        have e : fs_ri (fun r => fs_has hu hg nd N n r u) (m + 1) r acc = fs_ri (fun r => fs_has hu hg nd N n r u) m (r + 1) acc := by rw [fs_ri, if_neg (by rw [bI_0.mp q2]; decide)]
        rw [e]
        exact ih (r + 1) acc (by omega) _ rfl
      · refine fr_iload (pc := 43) d_FR_rights_43 rfl ?_
        refine fr_iconst (pc := 45) (v := 1) d_FR_rights_45 (by decide) ?_
        refine fr_iload (pc := 46) d_FR_rights_46 rfl ?_
        refine fr_ishl (pc := 48) d_FR_rights_48 ?_
        refine fr_ior (pc := 49) d_FR_rights_49 ?_
        refine fr_istore (pc := 50) (L2 := [(0, .ref o), (1, .int (nI u)), (2, .int (nI n)), (3, .ref a), (4, .int (acc ||| (1 <<< ((nI r) &&& 31)))), (5, .int (nI r))]) d_FR_rights_50 (by decide) rfl ?_
        refine fr_iinc (pc := 52) (v := (nI (r + 1))) (L2 := [(0, .ref o), (1, .int (nI u)), (2, .int (nI n)), (3, .ref a), (4, .int (acc ||| (1 <<< ((nI r) &&& 31)))), (5, .int (nI (r + 1)))]) d_FR_rights_52 rfl (fi_1 _) (by decide) rfl ?_
        refine fr_goto (pc := 55) (tgt := 22) d_FR_rights_55 (by decide) ?_
        have e : fs_ri (fun r => fs_has hu hg nd N n r u) (m + 1) r acc = fs_ri (fun r => fs_has hu hg nd N n r u) m (r + 1) (acc ||| (1 <<< (nI r &&& 31))) := by rw [fs_ri, if_pos (ts_nf (fun z => q2 (bI_0.mpr z)))]
        rw [e]
        exact ih (r + 1) _ (by omega) _ rfl
theorem p_FR_rights_ok {g : fw_G} {w : fw_W} {o gr a1 a2 a3 a4 na us n : Nat} {hu hg : Nat → Nat → Bool} {nd : fs_D} (hX : fs_X g (o, gr, a1, a2, a3, a4, na) (us, n, hu, hg, nd) w) {k : Nat} {N : fs_N} (hk : nd k = some N) {u : Nat} (hu2 : u < us) : fw_R g m_FR_rights (fs_P g (o, gr, a1, a2, a3, a4, na) w (.inl (some (.int (fs_ri (fun r => fs_has hu hg (va_up nd k (some (fs_st N false))) (fs_st N false) k r u) 8 0 0)))) (us, n, hu, hg, (va_up nd k (some (fs_st N false))))) 2 12 w 0 [(0, .ref o), (1, .int (nI u)), (2, .int (nI k))] [] := by
  obtain ⟨f1, f2, f3, f4, ad, lq, ld, lc, lt, hok, h0, hG, hR, hN, hr⟩ := fs_X_el hX
  have hb : n < 2 ^ 31 := by have := hok.2.2.1; omega
  have hb2 : us < 2 ^ 31 := by have := hok.2.1; omega
  obtain ⟨hk150, a, ha, hc, hl, hE⟩ := hr.2.1 k N hk
  obtain ⟨-, hk0, how, hlen, hes, hch, hdep⟩ := hok.2.2.2.2 k N hk
  have hF1 := fs_F2_up (x := .inr (2, fs_nc k (fs_st N false) (lq k) (N.2.1.bind ad))) fs_F2_id hc
  have hr1 := fs_rN_put hr (N2 := fs_st N false) hk ha rfl
  have hok1 := fs_ok_up hok (N2 := fs_st N false) hk rfl how hlen hes
  have h01 := fs_F2_3 hF1 _ h0 (fun fs z => by cases z)
  have hG1 := fs_gr_fr hG (fun b e hb h1 _ => fs_F2_3 hF1 b hb (fun fs z => by have := h1 2 fs z; omega))
  have hE1 : ∀ v r u, fw_pv v (fw_up w a (.inr (2, fs_nc k (fs_st N false) (lq k) (N.2.1.bind ad)))) r u → fs_P g (o, gr, a1, a2, a3, a4, na) w (.inl (some v)) (us, n, hu, hg, (va_up nd k (some (fs_st N false)))) r u := by
    rintro v r u ⟨e1, e2⟩
    subst e2
    exact ⟨e1, fs_X_F2 hok1 h0 hG hR hN hF1 hr1, fs_F2_Fr hF1⟩
  refine fr_aload_n (pc := 0) d_FR_rights_0 rfl rfl ?_
  refine fr_iload_n (pc := 1) d_FR_rights_1 rfl rfl ?_
  refine fr_callv_n (pc := 2) (nc := 1) (ns := 6) (N := m_FR_requireUser) (rest := []) (as := [.int (nI u)]) d_FR_rights_2 vc_FR_67 ⟨by decide, by decide, Nat.le_of_ble_eq_true rfl⟩ (Nat.le_of_ble_eq_true rfl) h0 (c_FR_requireUser h0 hu2 hb2) rfl ?_
  refine fr_aload_n (pc := 5) d_FR_rights_5 rfl rfl ?_
  refine fr_iload_n (pc := 6) d_FR_rights_6 rfl rfl ?_
  refine fr_callv_p (pc := 7) (nc := 0) (ns := 0) (N := m_FR_nodeAt) (rest := []) (as := [.int (nI k)]) d_FR_rights_7 vc_FR_63 ⟨by decide, by decide, Nat.le_of_ble_eq_true rfl⟩ (Nat.le_of_ble_eq_true rfl) h0 (c_FR_nodeAt h0 hN hk150 ha) rfl ?_
  refine fr_astore_n (pc := 10) (L2 := [(0, .ref o), (1, .int (nI u)), (2, .int (nI k)), (3, .ref a)]) d_FR_rights_10 rfl (by decide) rfl ?_
  refine fr_aload_n (pc := 11) d_FR_rights_11 rfl rfl ?_
  refine fr_iconst (pc := 12) (v := 0) d_FR_rights_12 (by decide) ?_
  refine fr_put (pc := 13) (fs2 := fs_nc k (fs_st N false) (lq k) (N.2.1.bind ad)) d_FR_rights_13 fp_FR_rights_110 hc (Nat.le_of_ble_eq_true rfl) rfl rfl rfl ?_
  refine fr_iconst (pc := 16) (v := 0) d_FR_rights_16 (by decide) ?_
  refine fr_istore (pc := 17) (L2 := [(0, .ref o), (1, .int (nI u)), (2, .int (nI k)), (3, .ref a), (4, .int 0)]) d_FR_rights_17 (by decide) rfl ?_
  refine fr_iconst (pc := 19) (v := 0) d_FR_rights_19 (by decide) ?_
  refine fr_istore (pc := 20) (L2 := [(0, .ref o), (1, .int (nI u)), (2, .int (nI k)), (3, .ref a), (4, .int 0), (5, .int 0)]) d_FR_rights_20 (by decide) rfl ?_
  exact fr_po (hE1 _) (c_FR_rights_l h01 hG1 hr1 hok1 hR vu_self ha hu2 8 0 0 rfl _ rfl)
theorem p_FR_rights_n1 {g : fw_G} {w : fw_W} {o gr a1 a2 a3 a4 na us n : Nat} {hu hg : Nat → Nat → Bool} {nd : fs_D} (hX : fs_X g (o, gr, a1, a2, a3, a4, na) (us, n, hu, hg, nd) w) {x y : Int32} (hx : fs_no2 x us) : fw_R g m_FR_rights (fs_P g (o, gr, a1, a2, a3, a4, na) w (.inr "java/util/NoSuchElementException") (us, n, hu, hg, nd)) 2 12 w 0 [(0, .ref o), (1, .int x), (2, .int y)] [] := by
  obtain ⟨f1, f2, f3, f4, ad, lq, ld, lc, lt, hok, h0, hG, hR, hN, hr⟩ := fs_X_el hX
  have hb : n < 2 ^ 31 := by have := hok.2.2.1; omega
  have hb2 : us < 2 ^ 31 := by have := hok.2.1; omega
  refine fr_aload_n (pc := 0) d_FR_rights_0 rfl rfl ?_
  refine fr_iload_n (pc := 1) d_FR_rights_1 rfl rfl ?_
  refine fr_callv_x (pc := 2) (nc := 1) (ns := 6) (N := m_FR_requireUser) (rest := []) (as := [.int x]) d_FR_rights_2 vc_FR_67 ⟨by decide, by decide, Nat.le_of_ble_eq_true rfl⟩ (Nat.le_of_ble_eq_true rfl) h0 (x_FR_requireUser h0 hx hb2) rfl ?_
  exact fx_out (by decide) ⟨rfl, hX, fs_Fr_id⟩
theorem p_FR_rights_n2 {g : fw_G} {w : fw_W} {o gr a1 a2 a3 a4 na us n : Nat} {hu hg : Nat → Nat → Bool} {nd : fs_D} (hX : fs_X g (o, gr, a1, a2, a3, a4, na) (us, n, hu, hg, nd) w) {u : Nat} {x : Int32} (hu2 : u < us) (hx : ∀ k, x = nI k → nd k = none) : fw_R g m_FR_rights (fs_P g (o, gr, a1, a2, a3, a4, na) w (.inr "java/util/NoSuchElementException") (us, n, hu, hg, nd)) 2 12 w 0 [(0, .ref o), (1, .int (nI u)), (2, .int x)] [] := by
  obtain ⟨f1, f2, f3, f4, ad, lq, ld, lc, lt, hok, h0, hG, hR, hN, hr⟩ := fs_X_el hX
  have hb : n < 2 ^ 31 := by have := hok.2.2.1; omega
  have hb2 : us < 2 ^ 31 := by have := hok.2.1; omega
  refine fr_aload_n (pc := 0) d_FR_rights_0 rfl rfl ?_
  refine fr_iload_n (pc := 1) d_FR_rights_1 rfl rfl ?_
  refine fr_callv_n (pc := 2) (nc := 1) (ns := 6) (N := m_FR_requireUser) (rest := []) (as := [.int (nI u)]) d_FR_rights_2 vc_FR_67 ⟨by decide, by decide, Nat.le_of_ble_eq_true rfl⟩ (Nat.le_of_ble_eq_true rfl) h0 (c_FR_requireUser h0 hu2 hb2) rfl ?_
  refine fr_aload_n (pc := 5) d_FR_rights_5 rfl rfl ?_
  refine fr_iload_n (pc := 6) d_FR_rights_6 rfl rfl ?_
  refine fr_callv_x (pc := 7) (nc := 0) (ns := 0) (N := m_FR_nodeAt) (rest := []) (as := [.int x]) d_FR_rights_7 vc_FR_63 ⟨by decide, by decide, Nat.le_of_ble_eq_true rfl⟩ (Nat.le_of_ble_eq_true rfl) h0 (x_FR_nodeAt h0 hN (fun k _ e => hr.1 k (hx k e))) rfl ?_
  exact fx_out (by decide) ⟨rfl, hX, fs_Fr_id⟩
theorem c_FR_who_l {g : fw_G} {nc ns : Nat} {w : fw_W} {o gr na us : Nat} (h0 : w o = some (.inr (0, [.ref gr, .ref na, .int (nI us)]))) {ng a1 a2 a3 a4 : Nat} {f1 f2 f3 f4 : Nat → Int64} (hG : gr_at g w gr a1 a2 a3 a4 ng f1 f2 f3 f4) {nd : fs_D} {ad : Nat → Option Nat} {lq ld lc : Nat → Nat} {lt : Nat → List Nat} (hr : fs_rN g w nd ad lq ld lc lt) (hok : fs_ok us ng nd) {hu hg : Nat → Nat → Bool} (hR : gr_rep hu hg ng us f1 f2 f3 f4) {n a : Nat} {N : fs_N} (hA : nd n = some N) (ha : ad n = some a) {r qq : Nat} (hq : qq < 2 ^ 31) : ∀ m u c, u + m = us → c ≤ u → ∀ L : List (Nat × Value), L = [(0, .ref o), (1, .int (nI n)), (2, .int (nI r)), (3, .int (nI qq)), (4, .ref a), (5, .long (fs_hs nd f4 N n r (if r = 7 then (1 : Int64) <<< ((nI N.2.2.1).toInt64 &&& 63) else 0) (if r = 7 then (1 : Int64) <<< ((nI N.2.2.1).toInt64 &&& 63) else 0) (fs_ls nd n))), (7, .int (nI c)), (8, .int (nI u))] → fw_R g m_FR_who (fw_pv (.int (fs_ov (fs_wh (fun u => fs_has hu hg nd N n r u) qq m u c))) w) nc ns w 36 L [] := by
  have hus := hok.2.1
  intro m
  induction m with
  | zero =>
    intro u c hi hcu L hL
    subst hL
    refine fr_iload (pc := 36) d_FR_who_36 rfl ?_
    refine fr_aload_n (pc := 38) d_FR_who_38 rfl rfl ?_
    refine fr_get (pc := 39) (v := .int (nI us)) d_FR_who_39 fg_FR_25 h0 rfl ?_
    refine fr_icmp_ge (pc := 42) (tgt := 73) d_FR_who_42 (by decide) (fun q => ?_) (fun q => ?_)
    · refine fr_iconst (pc := 73) (v := -1) d_FR_who_73 (by decide) ?_
      exact fr_iret rfl d_FR_who_74 ⟨rfl, rfl⟩
    · exact absurd ((ni_le (by omega) (by omega)).mpr (by omega)) q
  | succ m ih =>
    intro u c hi hcu L hL
    subst hL
    refine fr_iload (pc := 36) d_FR_who_36 rfl ?_
    refine fr_aload_n (pc := 38) d_FR_who_38 rfl rfl ?_
    refine fr_get (pc := 39) (v := .int (nI us)) d_FR_who_39 fg_FR_25 h0 rfl ?_
    refine fr_icmp_ge (pc := 42) (tgt := 73) d_FR_who_42 (by decide) (fun q => ?_) (fun q => ?_)
    · exact absurd ((ni_le (by omega) (by omega)).mp q) (by omega)
    · refine fr_lload (pc := 45) d_FR_who_45 rfl ?_
      refine fr_iload (pc := 47) d_FR_who_47 rfl ?_
      refine fr_calls_p (pc := 49) (nc := nc) (ns := ns) (N := m_FR_isSet) (rest := []) (as := [.long (fs_hs nd f4 N n r (if r = 7 then (1 : Int64) <<< ((nI N.2.2.1).toInt64 &&& 63) else 0) (if r = 7 then (1 : Int64) <<< ((nI N.2.2.1).toInt64 &&& 63) else 0) (fs_ls nd n)), .int (nI u)]) d_FR_who_49 k_FR_isSet lk_FR_163 sc_FR_isSet np_FR_isSet ⟨by decide, by decide, Nat.le_of_ble_eq_true rfl⟩ (Nat.le_of_ble_eq_true rfl) (c_FR_isSet (by omega)) rfl ?_
      rw [fs_hold_b hR hok hA (by omega)]
      refine fr_if_eq (pc := 52) (tgt := 67) d_FR_who_52 (by decide) (fun q2 => ?_) (fun q2 => ?_)
      · refine fr_iinc (pc := 67) (v := (nI (u + 1))) (L2 := [(0, .ref o), (1, .int (nI n)), (2, .int (nI r)), (3, .int (nI qq)), (4, .ref a), (5, .long (fs_hs nd f4 N n r (if r = 7 then (1 : Int64) <<< ((nI N.2.2.1).toInt64 &&& 63) else 0) (if r = 7 then (1 : Int64) <<< ((nI N.2.2.1).toInt64 &&& 63) else 0) (fs_ls nd n))), (7, .int (nI c)), (8, .int (nI (u + 1)))]) d_FR_who_67 rfl (fi_1 _) (by decide) rfl ?_
        refine fr_goto (pc := 70) (tgt := 36) d_FR_who_70 (by decide) ?_
        have e : fs_wh (fun u => fs_has hu hg nd N n r u) qq (m + 1) u c = fs_wh (fun u => fs_has hu hg nd N n r u) qq m (u + 1) c := by rw [fs_wh, if_neg (by rw [bI_0.mp q2]; decide)]
        rw [e]
        exact ih (u + 1) c (by omega) (by omega) _ rfl
      · have hP := ts_nf (fun z => q2 (bI_0.mpr z))
        refine fr_iload (pc := 55) d_FR_who_55 rfl ?_
        refine fr_iload_n (pc := 57) d_FR_who_57 rfl rfl ?_
        refine fr_icmp_ne (pc := 58) (tgt := 64) d_FR_who_58 (by decide) (fun q3 => ?_) (fun q3 => ?_)
        · have hne : ¬ c = qq := fun z => q3 (by rw [z])
          refine fr_iinc (pc := 64) (v := (nI (c + 1))) (L2 := [(0, .ref o), (1, .int (nI n)), (2, .int (nI r)), (3, .int (nI qq)), (4, .ref a), (5, .long (fs_hs nd f4 N n r (if r = 7 then (1 : Int64) <<< ((nI N.2.2.1).toInt64 &&& 63) else 0) (if r = 7 then (1 : Int64) <<< ((nI N.2.2.1).toInt64 &&& 63) else 0) (fs_ls nd n))), (7, .int (nI (c + 1))), (8, .int (nI u))]) d_FR_who_64 rfl (fi_1 _) (by decide) rfl ?_
          refine fr_iinc (pc := 67) (v := (nI (u + 1))) (L2 := [(0, .ref o), (1, .int (nI n)), (2, .int (nI r)), (3, .int (nI qq)), (4, .ref a), (5, .long (fs_hs nd f4 N n r (if r = 7 then (1 : Int64) <<< ((nI N.2.2.1).toInt64 &&& 63) else 0) (if r = 7 then (1 : Int64) <<< ((nI N.2.2.1).toInt64 &&& 63) else 0) (fs_ls nd n))), (7, .int (nI (c + 1))), (8, .int (nI (u + 1)))]) d_FR_who_67 rfl (fi_1 _) (by decide) rfl ?_
          refine fr_goto (pc := 70) (tgt := 36) d_FR_who_70 (by decide) ?_
          have e : fs_wh (fun u => fs_has hu hg nd N n r u) qq (m + 1) u c = fs_wh (fun u => fs_has hu hg nd N n r u) qq m (u + 1) (c + 1) := by rw [fs_wh, if_pos hP, if_neg hne]
          rw [e]
          exact ih (u + 1) (c + 1) (by omega) (by omega) _ rfl
        · have heq : c = qq := (ni_eq (by omega) hq).mp q3
          refine fr_iload (pc := 61) d_FR_who_61 rfl ?_
          refine fr_st (st2 := [.int (fs_ov (fs_wh (fun u => fs_has hu hg nd N n r u) qq (m + 1) u c))]) (by rw [fs_wh, if_pos hP, if_pos heq]; rfl) ?_
          exact fr_iret rfl d_FR_who_63 ⟨rfl, rfl⟩
theorem p_FR_who_ok {g : fw_G} {w : fw_W} {o gr a1 a2 a3 a4 na us n : Nat} {hu hg : Nat → Nat → Bool} {nd : fs_D} (hX : fs_X g (o, gr, a1, a2, a3, a4, na) (us, n, hu, hg, nd) w) {k : Nat} {N : fs_N} (hk : nd k = some N) {r qq : Nat} (hr8 : r < 8) (hq : qq < 2 ^ 31) : fw_R g m_FR_who (fs_P g (o, gr, a1, a2, a3, a4, na) w (.inl (some (.int (fs_ov (fs_wh (fun u => fs_has hu hg (va_up nd k (some (fs_st N false))) (fs_st N false) k r u) qq us 0 0))))) (us, n, hu, hg, (va_up nd k (some (fs_st N false))))) 3 18 w 0 [(0, .ref o), (1, .int (nI k)), (2, .int (nI r)), (3, .int (nI qq))] [] := by
  obtain ⟨f1, f2, f3, f4, ad, lq, ld, lc, lt, hok, h0, hG, hR, hN, hr⟩ := fs_X_el hX
  have hb : n < 2 ^ 31 := by have := hok.2.2.1; omega
  have hb2 : us < 2 ^ 31 := by have := hok.2.1; omega
  obtain ⟨hk150, a, ha, hc, hl, hE⟩ := hr.2.1 k N hk
  obtain ⟨-, hk0, how, hlen, hes, hch, hdep⟩ := hok.2.2.2.2 k N hk
  have hF1 := fs_F2_up (x := .inr (2, fs_nc k (fs_st N false) (lq k) (N.2.1.bind ad))) fs_F2_id hc
  have hr1 := fs_rN_put hr (N2 := fs_st N false) hk ha rfl
  have hok1 := fs_ok_up hok (N2 := fs_st N false) hk rfl how hlen hes
  have h01 := fs_F2_3 hF1 _ h0 (fun fs z => by cases z)
  have hG1 := fs_gr_fr hG (fun b e hb h1 _ => fs_F2_3 hF1 b hb (fun fs z => by have := h1 2 fs z; omega))
  have hE1 : ∀ v r u, fw_pv v (fw_up w a (.inr (2, fs_nc k (fs_st N false) (lq k) (N.2.1.bind ad)))) r u → fs_P g (o, gr, a1, a2, a3, a4, na) w (.inl (some v)) (us, n, hu, hg, (va_up nd k (some (fs_st N false)))) r u := by
    rintro v r u ⟨e1, e2⟩
    subst e2
    exact ⟨e1, fs_X_F2 hok1 h0 hG hR hN hF1 hr1, fs_F2_Fr hF1⟩
  refine fr_aload_n (pc := 0) d_FR_who_0 rfl rfl ?_
  refine fr_iload_n (pc := 1) d_FR_who_1 rfl rfl ?_
  refine fr_callv_p (pc := 2) (nc := 2) (ns := 12) (N := m_FR_nodeAt) (rest := []) (as := [.int (nI k)]) d_FR_who_2 vc_FR_63 ⟨by decide, by decide, Nat.le_of_ble_eq_true rfl⟩ (Nat.le_of_ble_eq_true rfl) h0 (c_FR_nodeAt h0 hN hk150 ha) rfl ?_
  refine fr_astore (pc := 5) (L2 := [(0, .ref o), (1, .int (nI k)), (2, .int (nI r)), (3, .int (nI qq)), (4, .ref a)]) d_FR_who_5 (by decide) rfl ?_
  refine fr_iload_n (pc := 7) d_FR_who_7 rfl rfl ?_
  refine fr_calls_n (pc := 8) (nc := 1) (ns := 6) (N := m_FR_requireRight) (rest := []) (as := [.int (nI r)]) d_FR_who_8 k_FR_requireRight lk_FR_167 sc_FR_requireRight np_FR_requireRight ⟨by decide, by decide, Nat.le_of_ble_eq_true rfl⟩ (Nat.le_of_ble_eq_true rfl) (c_FR_requireRight hr8) rfl ?_
  refine fr_iload_n (pc := 11) d_FR_who_11 rfl rfl ?_
  refine fr_calls_n (pc := 12) (nc := 0) (ns := 0) (N := m_FR_requirePlace) (rest := []) (as := [.int (nI qq)]) d_FR_who_12 k_FR_requirePlace lk_FR_193 sc_FR_requirePlace np_FR_requirePlace ⟨by decide, by decide, Nat.le_of_ble_eq_true rfl⟩ (Nat.le_of_ble_eq_true rfl) (c_FR_requirePlace (ix_nn hq)) rfl ?_
  refine fr_aload (pc := 15) d_FR_who_15 rfl ?_
  refine fr_iconst (pc := 17) (v := 0) d_FR_who_17 (by decide) ?_
  refine fr_put (pc := 18) (fs2 := fs_nc k (fs_st N false) (lq k) (N.2.1.bind ad)) d_FR_who_18 fp_FR_who_110 hc (Nat.le_of_ble_eq_true rfl) rfl rfl rfl ?_
  refine fr_aload_n (pc := 21) d_FR_who_21 rfl rfl ?_
  refine fr_aload (pc := 22) d_FR_who_22 rfl ?_
  refine fr_iload_n (pc := 24) d_FR_who_24 rfl rfl ?_
  refine fr_callv_p (pc := 25) (nc := 0) (ns := 0) (N := m_FR_holders) (rest := []) (as := [.ref a, .int (nI r)]) d_FR_who_25 vc_FR_159 ⟨by decide, by decide, Nat.le_of_ble_eq_true rfl⟩ (Nat.le_of_ble_eq_true rfl) h01 (c_FR_hold h01 hG1 hr1 hok1 vu_self ha hr8) rfl ?_
  refine fr_lstore (pc := 28) (L2 := [(0, .ref o), (1, .int (nI k)), (2, .int (nI r)), (3, .int (nI qq)), (4, .ref a), (5, .long (fs_hs (va_up nd k (some (fs_st N false))) f4 (fs_st N false) k r (if r = 7 then (1 : Int64) <<< ((nI (fs_st N false).2.2.1).toInt64 &&& 63) else 0) (if r = 7 then (1 : Int64) <<< ((nI (fs_st N false).2.2.1).toInt64 &&& 63) else 0) (fs_ls (va_up nd k (some (fs_st N false))) k)))]) d_FR_who_28 (by decide) rfl ?_
  refine fr_iconst (pc := 30) (v := 0) d_FR_who_30 (by decide) ?_
  refine fr_istore (pc := 31) (L2 := [(0, .ref o), (1, .int (nI k)), (2, .int (nI r)), (3, .int (nI qq)), (4, .ref a), (5, .long (fs_hs (va_up nd k (some (fs_st N false))) f4 (fs_st N false) k r (if r = 7 then (1 : Int64) <<< ((nI (fs_st N false).2.2.1).toInt64 &&& 63) else 0) (if r = 7 then (1 : Int64) <<< ((nI (fs_st N false).2.2.1).toInt64 &&& 63) else 0) (fs_ls (va_up nd k (some (fs_st N false))) k))), (7, .int 0)]) d_FR_who_31 (by decide) rfl ?_
  refine fr_iconst (pc := 33) (v := 0) d_FR_who_33 (by decide) ?_
  refine fr_istore (pc := 34) (L2 := [(0, .ref o), (1, .int (nI k)), (2, .int (nI r)), (3, .int (nI qq)), (4, .ref a), (5, .long (fs_hs (va_up nd k (some (fs_st N false))) f4 (fs_st N false) k r (if r = 7 then (1 : Int64) <<< ((nI (fs_st N false).2.2.1).toInt64 &&& 63) else 0) (if r = 7 then (1 : Int64) <<< ((nI (fs_st N false).2.2.1).toInt64 &&& 63) else 0) (fs_ls (va_up nd k (some (fs_st N false))) k))), (7, .int 0), (8, .int 0)]) d_FR_who_34 (by decide) rfl ?_
  exact fr_po (hE1 _) (c_FR_who_l h01 hG1 hr1 hok1 hR vu_self ha hq us 0 0 (Nat.zero_add _) (Nat.le_refl _) _ rfl)
theorem p_FR_who_n1 {g : fw_G} {w : fw_W} {o gr a1 a2 a3 a4 na us n : Nat} {hu hg : Nat → Nat → Bool} {nd : fs_D} (hX : fs_X g (o, gr, a1, a2, a3, a4, na) (us, n, hu, hg, nd) w) {x y z : Int32} (hx : ∀ k, x = nI k → nd k = none) : fw_R g m_FR_who (fs_P g (o, gr, a1, a2, a3, a4, na) w (.inr "java/util/NoSuchElementException") (us, n, hu, hg, nd)) 3 18 w 0 [(0, .ref o), (1, .int x), (2, .int y), (3, .int z)] [] := by
  obtain ⟨f1, f2, f3, f4, ad, lq, ld, lc, lt, hok, h0, hG, hR, hN, hr⟩ := fs_X_el hX
  have hb : n < 2 ^ 31 := by have := hok.2.2.1; omega
  have hb2 : us < 2 ^ 31 := by have := hok.2.1; omega
  refine fr_aload_n (pc := 0) d_FR_who_0 rfl rfl ?_
  refine fr_iload_n (pc := 1) d_FR_who_1 rfl rfl ?_
  refine fr_callv_x (pc := 2) (nc := 2) (ns := 12) (N := m_FR_nodeAt) (rest := []) (as := [.int x]) d_FR_who_2 vc_FR_63 ⟨by decide, by decide, Nat.le_of_ble_eq_true rfl⟩ (Nat.le_of_ble_eq_true rfl) h0 (x_FR_nodeAt h0 hN (fun k _ e => hr.1 k (hx k e))) rfl ?_
  exact fx_out (by decide) ⟨rfl, hX, fs_Fr_id⟩
theorem p_FR_who_n2 {g : fw_G} {w : fw_W} {o gr a1 a2 a3 a4 na us n : Nat} {hu hg : Nat → Nat → Bool} {nd : fs_D} (hX : fs_X g (o, gr, a1, a2, a3, a4, na) (us, n, hu, hg, nd) w) {k : Nat} {N : fs_N} (hk : nd k = some N) {y z : Int32} (hy : fs_no2 y 8) : fw_R g m_FR_who (fs_P g (o, gr, a1, a2, a3, a4, na) w (.inr "java/lang/IllegalArgumentException") (us, n, hu, hg, nd)) 3 18 w 0 [(0, .ref o), (1, .int (nI k)), (2, .int y), (3, .int z)] [] := by
  obtain ⟨f1, f2, f3, f4, ad, lq, ld, lc, lt, hok, h0, hG, hR, hN, hr⟩ := fs_X_el hX
  have hb : n < 2 ^ 31 := by have := hok.2.2.1; omega
  have hb2 : us < 2 ^ 31 := by have := hok.2.1; omega
  obtain ⟨hk150, a, ha, hc, hl, hE⟩ := hr.2.1 k N hk
  obtain ⟨-, hk0, how, hlen, hes, hch, hdep⟩ := hok.2.2.2.2 k N hk
  refine fr_aload_n (pc := 0) d_FR_who_0 rfl rfl ?_
  refine fr_iload_n (pc := 1) d_FR_who_1 rfl rfl ?_
  refine fr_callv_p (pc := 2) (nc := 2) (ns := 12) (N := m_FR_nodeAt) (rest := []) (as := [.int (nI k)]) d_FR_who_2 vc_FR_63 ⟨by decide, by decide, Nat.le_of_ble_eq_true rfl⟩ (Nat.le_of_ble_eq_true rfl) h0 (c_FR_nodeAt h0 hN hk150 ha) rfl ?_
  refine fr_astore (pc := 5) (L2 := [(0, .ref o), (1, .int (nI k)), (2, .int y), (3, .int z), (4, .ref a)]) d_FR_who_5 (by decide) rfl ?_
  refine fr_iload_n (pc := 7) d_FR_who_7 rfl rfl ?_
  refine fr_calls_x (pc := 8) (nc := 1) (ns := 6) (N := m_FR_requireRight) (rest := []) (as := [.int y]) d_FR_who_8 k_FR_requireRight lk_FR_167 sc_FR_requireRight np_FR_requireRight ⟨by decide, by decide, Nat.le_of_ble_eq_true rfl⟩ (Nat.le_of_ble_eq_true rfl) (x_FR_requireRight hy) rfl ?_
  exact fx_out (by decide) ⟨rfl, hX, fs_Fr_id⟩
theorem p_FR_who_n3 {g : fw_G} {w : fw_W} {o gr a1 a2 a3 a4 na us n : Nat} {hu hg : Nat → Nat → Bool} {nd : fs_D} (hX : fs_X g (o, gr, a1, a2, a3, a4, na) (us, n, hu, hg, nd) w) {k : Nat} {N : fs_N} (hk : nd k = some N) {r : Nat} {z : Int32} (hr8 : r < 8) (hz : z < 0) : fw_R g m_FR_who (fs_P g (o, gr, a1, a2, a3, a4, na) w (.inr "java/lang/IllegalArgumentException") (us, n, hu, hg, nd)) 3 18 w 0 [(0, .ref o), (1, .int (nI k)), (2, .int (nI r)), (3, .int z)] [] := by
  obtain ⟨f1, f2, f3, f4, ad, lq, ld, lc, lt, hok, h0, hG, hR, hN, hr⟩ := fs_X_el hX
  have hb : n < 2 ^ 31 := by have := hok.2.2.1; omega
  have hb2 : us < 2 ^ 31 := by have := hok.2.1; omega
  obtain ⟨hk150, a, ha, hc, hl, hE⟩ := hr.2.1 k N hk
  obtain ⟨-, hk0, how, hlen, hes, hch, hdep⟩ := hok.2.2.2.2 k N hk
  refine fr_aload_n (pc := 0) d_FR_who_0 rfl rfl ?_
  refine fr_iload_n (pc := 1) d_FR_who_1 rfl rfl ?_
  refine fr_callv_p (pc := 2) (nc := 2) (ns := 12) (N := m_FR_nodeAt) (rest := []) (as := [.int (nI k)]) d_FR_who_2 vc_FR_63 ⟨by decide, by decide, Nat.le_of_ble_eq_true rfl⟩ (Nat.le_of_ble_eq_true rfl) h0 (c_FR_nodeAt h0 hN hk150 ha) rfl ?_
  refine fr_astore (pc := 5) (L2 := [(0, .ref o), (1, .int (nI k)), (2, .int (nI r)), (3, .int z), (4, .ref a)]) d_FR_who_5 (by decide) rfl ?_
  refine fr_iload_n (pc := 7) d_FR_who_7 rfl rfl ?_
  refine fr_calls_n (pc := 8) (nc := 1) (ns := 6) (N := m_FR_requireRight) (rest := []) (as := [.int (nI r)]) d_FR_who_8 k_FR_requireRight lk_FR_167 sc_FR_requireRight np_FR_requireRight ⟨by decide, by decide, Nat.le_of_ble_eq_true rfl⟩ (Nat.le_of_ble_eq_true rfl) (c_FR_requireRight hr8) rfl ?_
  refine fr_iload_n (pc := 11) d_FR_who_11 rfl rfl ?_
  refine fr_calls_x (pc := 12) (nc := 0) (ns := 0) (N := m_FR_requirePlace) (rest := []) (as := [.int z]) d_FR_who_12 k_FR_requirePlace lk_FR_193 sc_FR_requirePlace np_FR_requirePlace ⟨by decide, by decide, Nat.le_of_ble_eq_true rfl⟩ (Nat.le_of_ble_eq_true rfl) (x_FR_requirePlace hz) rfl ?_
  exact fx_out (by decide) ⟨rfl, hX, fs_Fr_id⟩
end
section
theorem bb_cmp2 (x y : Int64) : lg_cmp x y = 0 ↔ x = y := by
  unfold lg_cmp
  by_cases h1 : x > y
  · rw [if_pos h1]
    constructor
    · intro h; cases h
    · intro h; subst h; exact absurd h1 (Int64.lt_irrefl)
  · rw [if_neg h1]
    by_cases h2 : x = y
    · rw [if_pos h2]; simp [h2]
    · rw [if_neg h2]
      constructor
      · intro h; cases h
      · intro h; exact absurd h h2
def fs_al (P : Nat → Bool) : Nat → Nat → Bool
  | 0, _ => true
  | m + 1, r => P r && fs_al P m (r + 1)
noncomputable def fs_eq (hu hg : Nat → Nat → Bool) (us : Nat) (nd : fs_D) (NA : fs_N) (ka : Nat) (NB : fs_N) (kb r : Nat) : Bool := (List.range us).all (fun u => fs_has hu hg nd NA ka r u == fs_has hu hg nd NB kb r u)
theorem fs_eq_l {hu hg : Nat → Nat → Bool} {us ng : Nat} {f1 f2 f3 f4 : Nat → Int64} {nd : fs_D} {NA NB : fs_N} {ka kb r : Nat} (hR : gr_rep hu hg ng us f1 f2 f3 f4) (hok : fs_ok us ng nd) (hA : nd ka = some NA) (hB : nd kb = some NB) : (fs_hs nd f4 NA ka r (if r = 7 then (1 : Int64) <<< ((nI NA.2.2.1).toInt64 &&& 63) else 0) (if r = 7 then (1 : Int64) <<< ((nI NA.2.2.1).toInt64 &&& 63) else 0) (fs_ls nd ka)) = (fs_hs nd f4 NB kb r (if r = 7 then (1 : Int64) <<< ((nI NB.2.2.1).toInt64 &&& 63) else 0) (if r = 7 then (1 : Int64) <<< ((nI NB.2.2.1).toInt64 &&& 63) else 0) (fs_ls nd kb)) ↔ fs_eq hu hg us nd NA ka NB kb r = true := by
  have hus := hok.2.1
  unfold fs_eq
  rw [List.all_eq_true]
  constructor
  · intro h u hu2
    have hu3 := List.mem_range.mp hu2
    rw [← fs_hold_b hR hok hA (by omega), ← fs_hold_b hR hok hB (by omega), h]
    exact beq_self_eq_true _
  · intro h
    apply bb_ext
    intro u hu64
    rw [fs_hold_b hR hok hA hu64, fs_hold_b hR hok hB hu64]
    by_cases hu3 : u < us
    · exact beq_iff_eq.mp (h u (List.mem_range.mpr hu3))
    · have h1 : fs_has hu hg nd NA ka r u = false := by
        cases hh : fs_has hu hg nd NA ka r u with
        | false => rfl
        | true => exact absurd (fs_hold_0 hR hok hA hh) hu3
      have h2 : fs_has hu hg nd NB kb r u = false := by
        cases hh : fs_has hu hg nd NB kb r u with
        | false => rfl
        | true => exact absurd (fs_hold_0 hR hok hB hh) hu3
      rw [h1, h2]
theorem fs_st_at {nd : fs_D} {ka kb : Nat} {NA NB : fs_N} (hA : nd ka = some NA) (hB : nd kb = some NB) : ∃ M, va_up nd ka (some (fs_st NA false)) kb = some M ∧ fs_st M false = fs_st NB false := by
  by_cases e : kb = ka
  · subst e
    rw [hA] at hB; cases hB
    exact ⟨_, vu_self, rfl⟩
  · exact ⟨NB, by rw [vu_ne e]; exact hB, rfl⟩
theorem fs_st_at2 {nd : fs_D} {ka kb : Nat} {NA NB : fs_N} (hA : nd ka = some NA) (hB : nd kb = some NB) : va_up (va_up nd ka (some (fs_st NA false))) kb (some (fs_st NB false)) ka = some (fs_st NA false) := by
  by_cases e : ka = kb
  · subst e
    rw [hA] at hB; cases hB
    exact vu_self
  · rw [vu_ne e, vu_self]
theorem c_FR_same_l {g : fw_G} {nc ns : Nat} {w : fw_W} {o gr na us : Nat} (h0 : w o = some (.inr (0, [.ref gr, .ref na, .int (nI us)]))) {ng a1 a2 a3 a4 : Nat} {f1 f2 f3 f4 : Nat → Int64} (hG : gr_at g w gr a1 a2 a3 a4 ng f1 f2 f3 f4) {nd : fs_D} {ad : Nat → Option Nat} {lq ld lc : Nat → Nat} {lt : Nat → List Nat} (hr : fs_rN g w nd ad lq ld lc lt) (hok : fs_ok us ng nd) {hu hg : Nat → Nat → Bool} (hR : gr_rep hu hg ng us f1 f2 f3 f4) {ka kb pa pb : Nat} {NA NB : fs_N} (hA : nd ka = some NA) (hB : nd kb = some NB) (ha : ad ka = some pa) (hb : ad kb = some pb) : ∀ m r, r + m = 8 → ∀ L : List (Nat × Value), L = [(0, .ref o), (1, .int (nI ka)), (2, .int (nI kb)), (3, .ref pa), (4, .ref pb), (5, .int (nI r))] → fw_R g m_FR_same (fw_pv (.int (bI (fs_al (fs_eq hu hg us nd NA ka NB kb) m r))) w) nc ns w 27 L [] := by
  intro m
  induction m with
  | zero =>
    intro r hi L hL
    have hk2 : r = 8 := by omega
    subst hk2 hL
    refine fr_iload (pc := 27) d_FR_same_27 rfl ?_
    refine fr_bipush (pc := 29) (v := 8) d_FR_same_29 (by decide) ?_
    refine fr_icmp_ge (pc := 31) (tgt := 61) d_FR_same_31 (by decide) (fun q => ?_) (fun q => ?_)
    · refine fr_iconst (pc := 61) (v := 1) d_FR_same_61 (by decide) ?_
      refine fr_st (st2 := [.int (bI true)]) rfl ?_
      exact fr_zret rfl (by first | exact bI_01 _ | exact Or.inl rfl | exact Or.inr rfl) d_FR_same_62 ⟨rfl, rfl⟩
    · exact absurd ((ni_le (a := 8) (b := 8) (by omega) (by omega)).mpr (by omega)) q
  | succ m ih =>
    intro r hi L hL
    subst hL
    refine fr_iload (pc := 27) d_FR_same_27 rfl ?_
    refine fr_bipush (pc := 29) (v := 8) d_FR_same_29 (by decide) ?_
    refine fr_icmp_ge (pc := 31) (tgt := 61) d_FR_same_31 (by decide) (fun q => ?_) (fun q => ?_)
    · exact absurd ((ni_le (a := 8) (by omega) (by omega)).mp q) (by omega)
    · refine fr_aload_n (pc := 34) d_FR_same_34 rfl rfl ?_
      refine fr_aload_n (pc := 35) d_FR_same_35 rfl rfl ?_
      refine fr_iload (pc := 36) d_FR_same_36 rfl ?_
      refine fr_callv_p (pc := 38) (nc := nc) (ns := ns) (N := m_FR_holders) (rest := []) (as := [.ref pa, .int (nI r)]) d_FR_same_38 vc_FR_159 ⟨by decide, by decide, Nat.le_of_ble_eq_true rfl⟩ (Nat.le_of_ble_eq_true rfl) h0 (c_FR_hold h0 hG hr hok hA ha (by omega)) rfl ?_
      refine fr_aload_n (pc := 41) d_FR_same_41 rfl rfl ?_
      refine fr_aload (pc := 42) d_FR_same_42 rfl ?_
      refine fr_iload (pc := 44) d_FR_same_44 rfl ?_
      refine fr_callv_p (pc := 46) (nc := nc) (ns := ns) (N := m_FR_holders) (rest := [.long (fs_hs nd f4 NA ka r (if r = 7 then (1 : Int64) <<< ((nI NA.2.2.1).toInt64 &&& 63) else 0) (if r = 7 then (1 : Int64) <<< ((nI NA.2.2.1).toInt64 &&& 63) else 0) (fs_ls nd ka))]) (as := [.ref pb, .int (nI r)]) d_FR_same_46 vc_FR_159 ⟨by decide, by decide, Nat.le_of_ble_eq_true rfl⟩ (Nat.le_of_ble_eq_true rfl) h0 (c_FR_hold h0 hG hr hok hB hb (by omega)) rfl ?_
      refine fr_lcmp (pc := 49) d_FR_same_49 ?_
      refine fr_if_eq (pc := 50) (tgt := 55) d_FR_same_50 (by decide) (fun q2 => ?_) (fun q2 => ?_)
      · have hE := (fs_eq_l hR hok hA hB).mp ((bb_cmp2 _ _).mp q2)
        refine fr_iinc (pc := 55) (v := (nI (r + 1))) (L2 := [(0, .ref o), (1, .int (nI ka)), (2, .int (nI kb)), (3, .ref pa), (4, .ref pb), (5, .int (nI (r + 1)))]) d_FR_same_55 rfl (fi_1 _) (by decide) rfl ?_
        refine fr_goto (pc := 58) (tgt := 27) d_FR_same_58 (by decide) ?_
        have e : fs_al (fs_eq hu hg us nd NA ka NB kb) (m + 1) r = fs_al (fs_eq hu hg us nd NA ka NB kb) m (r + 1) := by rw [fs_al, hE, Bool.true_and]
        rw [e]
        exact ih (r + 1) (by omega) _ rfl
      · have hE : fs_eq hu hg us nd NA ka NB kb r = false := by
          cases hh : fs_eq hu hg us nd NA ka NB kb r with
          | false => rfl
          | true => exact absurd ((bb_cmp2 _ _).mpr ((fs_eq_l hR hok hA hB).mpr hh)) q2
        refine fr_iconst (pc := 53) (v := 0) d_FR_same_53 (by decide) ?_
        refine fr_st (st2 := [.int (bI (fs_al (fs_eq hu hg us nd NA ka NB kb) (m + 1) r))]) (by rw [fs_al, hE]; rfl) ?_
        exact fr_zret rfl (by first | exact bI_01 _ | exact Or.inl rfl | exact Or.inr rfl) d_FR_same_54 ⟨rfl, rfl⟩
theorem p_FR_same_ok {g : fw_G} {w : fw_W} {o gr a1 a2 a3 a4 na us n : Nat} {hu hg : Nat → Nat → Bool} {nd : fs_D} (hX : fs_X g (o, gr, a1, a2, a3, a4, na) (us, n, hu, hg, nd) w) {ka kb : Nat} {NA NB : fs_N} (hA : nd ka = some NA) (hB : nd kb = some NB) : fw_R g m_FR_same (fs_P g (o, gr, a1, a2, a3, a4, na) w (.inl (some (.int (bI (fs_al (fs_eq hu hg us (va_up (va_up nd ka (some (fs_st NA false))) kb (some (fs_st NB false))) (fs_st NA false) ka (fs_st NB false) kb) 8 0))))) (us, n, hu, hg, (va_up (va_up nd ka (some (fs_st NA false))) kb (some (fs_st NB false))))) 2 12 w 0 [(0, .ref o), (1, .int (nI ka)), (2, .int (nI kb))] [] := by
  obtain ⟨f1, f2, f3, f4, ad, lq, ld, lc, lt, hok, h0, hG, hR, hN, hr⟩ := fs_X_el hX
  have hb : n < 2 ^ 31 := by have := hok.2.2.1; omega
  have hb2 : us < 2 ^ 31 := by have := hok.2.1; omega
  obtain ⟨hka, pa, ha, hca, -, -⟩ := hr.2.1 ka NA hA
  obtain ⟨hkb, pb, hbb, hcb, -, -⟩ := hr.2.1 kb NB hB
  obtain ⟨-, -, how, hlen, hes, -, -⟩ := hok.2.2.2.2 ka NA hA
  obtain ⟨M, hM, hMs⟩ := fs_st_at hA hB
  have hF1 := fs_F2_up (x := .inr (2, fs_nc ka (fs_st NA false) (lq ka) (NA.2.1.bind ad))) fs_F2_id hca
  have hr1 := fs_rN_put hr (N2 := fs_st NA false) hA ha rfl
  have hok1 := fs_ok_up hok (N2 := fs_st NA false) hA rfl how hlen hes
  obtain ⟨-, p9, hp9, hcb1, -, -⟩ := hr1.2.1 kb M hM
  rw [hbb] at hp9; cases hp9
  obtain ⟨-, -, how2, hlen2, hes2, -, -⟩ := hok1.2.2.2.2 kb M hM
  have hF2 := fs_F2_up2 (x := .inr (2, fs_nc kb (fs_st M false) (lq kb) (M.2.1.bind ad))) hF1 hcb1
  have hr2 := fs_rN_put hr1 (N2 := fs_st M false) hM hbb rfl
  have hok2 := fs_ok_up hok1 (N2 := fs_st M false) hM rfl how2 hlen2 hes2
  have h02 := fs_F2_3 hF2 _ h0 (fun fs z => by cases z)
  have hG2 := fs_gr_fr hG (fun b e hb h1 _ => fs_F2_3 hF2 b hb (fun fs z => by have := h1 2 fs z; omega))
  refine fr_aload_n (pc := 0) d_FR_same_0 rfl rfl ?_
  refine fr_iload_n (pc := 1) d_FR_same_1 rfl rfl ?_
  refine fr_callv_p (pc := 2) (nc := 1) (ns := 6) (N := m_FR_nodeAt) (rest := []) (as := [.int (nI ka)]) d_FR_same_2 vc_FR_63 ⟨by decide, by decide, Nat.le_of_ble_eq_true rfl⟩ (Nat.le_of_ble_eq_true rfl) h0 (c_FR_nodeAt h0 hN hka ha) rfl ?_
  refine fr_astore_n (pc := 5) (L2 := [(0, .ref o), (1, .int (nI ka)), (2, .int (nI kb)), (3, .ref pa)]) d_FR_same_5 rfl (by decide) rfl ?_
  refine fr_aload_n (pc := 6) d_FR_same_6 rfl rfl ?_
  refine fr_iload_n (pc := 7) d_FR_same_7 rfl rfl ?_
  refine fr_callv_p (pc := 8) (nc := 0) (ns := 0) (N := m_FR_nodeAt) (rest := []) (as := [.int (nI kb)]) d_FR_same_8 vc_FR_63 ⟨by decide, by decide, Nat.le_of_ble_eq_true rfl⟩ (Nat.le_of_ble_eq_true rfl) h0 (c_FR_nodeAt h0 hN hkb hbb) rfl ?_
  refine fr_astore (pc := 11) (L2 := [(0, .ref o), (1, .int (nI ka)), (2, .int (nI kb)), (3, .ref pa), (4, .ref pb)]) d_FR_same_11 (by decide) rfl ?_
  refine fr_aload_n (pc := 13) d_FR_same_13 rfl rfl ?_
  refine fr_iconst (pc := 14) (v := 0) d_FR_same_14 (by decide) ?_
  refine fr_put (pc := 15) (fs2 := fs_nc ka (fs_st NA false) (lq ka) (NA.2.1.bind ad)) d_FR_same_15 fp_FR_same_110 hca (Nat.le_of_ble_eq_true rfl) rfl rfl rfl ?_
  refine fr_aload (pc := 18) d_FR_same_18 rfl ?_
  refine fr_iconst (pc := 20) (v := 0) d_FR_same_20 (by decide) ?_
  refine fr_put (pc := 21) (fs2 := fs_nc kb (fs_st M false) (lq kb) (M.2.1.bind ad)) d_FR_same_21 fp_FR_same_110 hcb1 (Nat.le_of_ble_eq_true rfl) rfl rfl rfl ?_
  refine fr_iconst (pc := 24) (v := 0) d_FR_same_24 (by decide) ?_
  refine fr_istore (pc := 25) (L2 := [(0, .ref o), (1, .int (nI ka)), (2, .int (nI kb)), (3, .ref pa), (4, .ref pb), (5, .int 0)]) d_FR_same_25 (by decide) rfl ?_
  have hXX := fs_X_F2 hok2 h0 hG hR hN hF2 hr2
  have hnd : va_up (va_up nd ka (some (fs_st NA false))) kb (some (fs_st M false)) = va_up (va_up nd ka (some (fs_st NA false))) kb (some (fs_st NB false)) := by rw [hMs]
  rw [hnd] at hr2 hok2 hXX
  exact fr_po (fun r u h => by obtain ⟨e1, e2⟩ := h; subst e2; exact ⟨e1, hXX, fs_F2_Fr hF2⟩) (c_FR_same_l h02 hG2 hr2 hok2 hR (fs_st_at2 hA hB) vu_self ha hbb 8 0 rfl _ rfl)
theorem p_FR_same_n1 {g : fw_G} {w : fw_W} {o gr a1 a2 a3 a4 na us n : Nat} {hu hg : Nat → Nat → Bool} {nd : fs_D} (hX : fs_X g (o, gr, a1, a2, a3, a4, na) (us, n, hu, hg, nd) w) {x y : Int32} (hx : ∀ k, x = nI k → nd k = none) : fw_R g m_FR_same (fs_P g (o, gr, a1, a2, a3, a4, na) w (.inr "java/util/NoSuchElementException") (us, n, hu, hg, nd)) 2 12 w 0 [(0, .ref o), (1, .int x), (2, .int y)] [] := by
  obtain ⟨f1, f2, f3, f4, ad, lq, ld, lc, lt, hok, h0, hG, hR, hN, hr⟩ := fs_X_el hX
  have hb : n < 2 ^ 31 := by have := hok.2.2.1; omega
  have hb2 : us < 2 ^ 31 := by have := hok.2.1; omega
  refine fr_aload_n (pc := 0) d_FR_same_0 rfl rfl ?_
  refine fr_iload_n (pc := 1) d_FR_same_1 rfl rfl ?_
  refine fr_callv_x (pc := 2) (nc := 1) (ns := 6) (N := m_FR_nodeAt) (rest := []) (as := [.int x]) d_FR_same_2 vc_FR_63 ⟨by decide, by decide, Nat.le_of_ble_eq_true rfl⟩ (Nat.le_of_ble_eq_true rfl) h0 (x_FR_nodeAt h0 hN (fun k _ e => hr.1 k (hx k e))) rfl ?_
  exact fx_out (by decide) ⟨rfl, hX, fs_Fr_id⟩
theorem p_FR_same_n2 {g : fw_G} {w : fw_W} {o gr a1 a2 a3 a4 na us n : Nat} {hu hg : Nat → Nat → Bool} {nd : fs_D} (hX : fs_X g (o, gr, a1, a2, a3, a4, na) (us, n, hu, hg, nd) w) {k : Nat} {N : fs_N} (hk : nd k = some N) {x : Int32} (hx : ∀ k, x = nI k → nd k = none) : fw_R g m_FR_same (fs_P g (o, gr, a1, a2, a3, a4, na) w (.inr "java/util/NoSuchElementException") (us, n, hu, hg, nd)) 2 12 w 0 [(0, .ref o), (1, .int (nI k)), (2, .int x)] [] := by
  obtain ⟨f1, f2, f3, f4, ad, lq, ld, lc, lt, hok, h0, hG, hR, hN, hr⟩ := fs_X_el hX
  have hb : n < 2 ^ 31 := by have := hok.2.2.1; omega
  have hb2 : us < 2 ^ 31 := by have := hok.2.1; omega
  obtain ⟨hk150, a, ha, hc, hl, hE⟩ := hr.2.1 k N hk
  obtain ⟨-, hk0, how, hlen, hes, hch, hdep⟩ := hok.2.2.2.2 k N hk
  refine fr_aload_n (pc := 0) d_FR_same_0 rfl rfl ?_
  refine fr_iload_n (pc := 1) d_FR_same_1 rfl rfl ?_
  refine fr_callv_p (pc := 2) (nc := 1) (ns := 6) (N := m_FR_nodeAt) (rest := []) (as := [.int (nI k)]) d_FR_same_2 vc_FR_63 ⟨by decide, by decide, Nat.le_of_ble_eq_true rfl⟩ (Nat.le_of_ble_eq_true rfl) h0 (c_FR_nodeAt h0 hN hk150 ha) rfl ?_
  refine fr_astore_n (pc := 5) (L2 := [(0, .ref o), (1, .int (nI k)), (2, .int x), (3, .ref a)]) d_FR_same_5 rfl (by decide) rfl ?_
  refine fr_aload_n (pc := 6) d_FR_same_6 rfl rfl ?_
  refine fr_iload_n (pc := 7) d_FR_same_7 rfl rfl ?_
  refine fr_callv_x (pc := 8) (nc := 0) (ns := 0) (N := m_FR_nodeAt) (rest := []) (as := [.int x]) d_FR_same_8 vc_FR_63 ⟨by decide, by decide, Nat.le_of_ble_eq_true rfl⟩ (Nat.le_of_ble_eq_true rfl) h0 (x_FR_nodeAt h0 hN (fun k _ e => hr.1 k (hx k e))) rfl ?_
  exact fx_out (by decide) ⟨rfl, hX, fs_Fr_id⟩
def fs_xx (q : Option (Nat × Nat × Bool)) (f : Nat) : Int32 := match q with
  | some x => if f = 0 then (if x.2.2 then 1 else 2) else if f = 1 then nI x.1 else nI x.2.1
  | none => if f = 0 then 3 else if f = 1 then -1 else -1
set_option maxRecDepth 20000 in
theorem c_FR_exp_l {g : fw_G} {nc ns : Nat} {w : fw_W} {o gr na us : Nat} (h0 : w o = some (.inr (0, [.ref gr, .ref na, .int (nI us)]))) {ng a1 a2 a3 a4 : Nat} {f1 f2 f3 f4 : Nat → Int64} (hG : gr_at g w gr a1 a2 a3 a4 ng f1 f2 f3 f4) {nd : fs_D} {ad : Nat → Option Nat} {lq ld lc : Nat → Nat} {lt : Nat → List Nat} (hr : fs_rN g w nd ad lq ld lc lt) (hok : fs_ok us ng nd) {n a r u f : Nat} {N : fs_N} (hA : nd n = some N) (ha : ad n = some a) (hr8 : r < 8) (hu64 : u < 64) (hf : f < 3) : ∀ (l : List Nat) (v p : Nat), fs_ch nd v l → ad v = some p → ∀ L : List (Nat × Value), L = [(0, .ref o), (1, .int (nI u)), (2, .int (nI n)), (3, .int (nI r)), (4, .int (nI f)), (5, .ref a), (6, .ref p)] → fw_R g m_FR_explain (fw_pv (.int (fs_xx (fs_dc nd (fun i u => bb (f4 i) u) N n r u (fs_lv nd (v :: l))) f)) w) nc ns w 71 L [] := by
  intro l
  induction l with
  | nil =>
    intro v p hc hp L hL
    subst hL
    obtain ⟨V, hV⟩ : ∃ V, nd v = some V := fs_ch_some _ _ hc v (Or.inl rfl)
    obtain ⟨hv150, p0, hp0, hcp, hlp, hEp⟩ := hr.2.1 v V hV
    rw [hp] at hp0; cases hp0
    obtain ⟨mc, hl1, -⟩ := id hlp
    obtain ⟨-, -, -, hlen12, -, -⟩ := hok.2.2.2.2 v V hV
    obtain ⟨V2, hV2, hpr⟩ := hc
    rw [hV] at hV2; cases hV2
    refine fr_aload (pc := 71) d_FR_explain_71 rfl ?_
    refine fr_ifnull (pc := 73) d_FR_explain_73 ?_
    refine fr_aload_n (pc := 76) d_FR_explain_76 rfl rfl ?_
    refine fr_aload (pc := 77) d_FR_explain_77 rfl ?_
    refine fr_aload (pc := 79) d_FR_explain_79 rfl ?_
    refine fr_iload_n (pc := 81) d_FR_explain_81 rfl rfl ?_
    refine fr_iload_n (pc := 82) d_FR_explain_82 rfl rfl ?_
    refine fr_callv_p (pc := 83) (nc := nc) (ns := ns) (N := m_FR_decidingPosition) (rest := []) (as := [.ref p, .ref a, .int (nI u), .int (nI r)]) d_FR_explain_83 vc_FR_176 ⟨by decide, by decide, Nat.le_of_ble_eq_true rfl⟩ (Nat.le_of_ble_eq_true rfl) h0 (c_FR_dp h0 hG hr hok hA hV ha hp hr8 hu64) rfl ?_
    cases hL1 : fs_lv1 (fs_hit (fun i u => bb (f4 i) u) N n v r u) (fs_es nd v) with
    | some x =>
      obtain ⟨ps, b⟩ := x
      obtain ⟨E, hE1, hE2⟩ := fs_lv1_at hL1
      have hes : fs_es nd v = V.2.2.2.2.2 := by simp [fs_es, hV]
      rw [hes] at hE1
      obtain ⟨hps, -⟩ := List.getElem?_eq_some_iff.mp hE1
      obtain ⟨y, hy⟩ : ∃ y, (lt v)[ps]? = some y := ⟨_, List.getElem?_eq_getElem (by rw [hEp.1]; exact hps)⟩
      have hcy := hEp.2 ps y E hy hE1
      have e : fs_dc nd (fun i u => bb (f4 i) u) N n r u (fs_lv nd (v :: [])) = some (v, ps, b) := by
        rw [fs_lv, fs_dc, hL1]
      rw [e]
      refine fr_st (st2 := [.int (nI ps)]) rfl ?_
      refine fr_istore (pc := 86) (L2 := [(0, .ref o), (1, .int (nI u)), (2, .int (nI n)), (3, .int (nI r)), (4, .int (nI f)), (5, .ref a), (6, .ref p), (7, .int (nI ps))]) d_FR_explain_86 (by decide) rfl ?_
      refine fr_iload (pc := 88) d_FR_explain_88 rfl ?_
      refine fr_iconst (pc := 90) (v := -1) d_FR_explain_90 (by decide) ?_
      refine fr_icmp_eq (pc := 91) (tgt := 135) d_FR_explain_91 (by decide) (fun q => ?_) (fun q => ?_)
      · exact absurd q (fs_ov_ne (by omega))
      · refine fr_aload (pc := 94) d_FR_explain_94 rfl ?_
        refine fr_get (pc := 96) (v := .ref (lq v)) d_FR_explain_96 fg_FR_119 hcp rfl ?_
        refine fr_iload (pc := 99) d_FR_explain_99 rfl ?_
        refine fr_callv_p (pc := 101) (nc := nc) (ns := ns) (N := m_AL_get) (rest := []) (as := [.int (nI ps)]) d_FR_explain_101 vc_FR_180 ⟨by decide, by decide, Nat.le_of_ble_eq_true rfl⟩ (Nat.le_of_ble_eq_true rfl) hl1 (c_AL_get hlp hy) rfl ?_
        refine fr_cast (pc := 104) (ci := 3) d_FR_explain_104 (fw_t 386 (by decide +kernel)) rfl hcy ?_
        refine fr_get (pc := 107) (v := .int (bI E.1)) d_FR_explain_107 fg_FR_183 hcy rfl ?_
        refine fr_st (st2 := [.int (bI b)]) (by rw [hE2]) ?_
        cases b with
        | true =>
          refine fr_if_eq (pc := 110) (tgt := 117) d_FR_explain_110 (by decide) (fun q2 => ?_) (fun q2 => ?_)
          · exact absurd q2 (by decide)
          · refine fr_iconst (pc := 113) (v := 1) d_FR_explain_113 (by decide) ?_
            refine fr_goto (pc := 114) (tgt := 118) d_FR_explain_114 (by decide) ?_
            refine fr_istore (pc := 118) (L2 := [(0, .ref o), (1, .int (nI u)), (2, .int (nI n)), (3, .int (nI r)), (4, .int (nI f)), (5, .ref a), (6, .ref p), (7, .int (nI ps)), (8, .int 1)]) d_FR_explain_118 (by decide) rfl ?_
            refine fr_iload (pc := 120) d_FR_explain_120 rfl ?_
            refine fr_iload (pc := 122) d_FR_explain_122 rfl ?_
            refine fr_aload (pc := 124) d_FR_explain_124 rfl ?_
            refine fr_get (pc := 126) (v := .int (nI v)) d_FR_explain_126 fg_FR_186 hcp rfl ?_
            refine fr_iload (pc := 129) d_FR_explain_129 rfl ?_
            refine fr_calls_p (pc := 131) (nc := nc) (ns := ns) (N := m_FR_fieldOf) (rest := []) (as := [.int (nI f), .int 1, .int (nI v), .int (nI ps)]) d_FR_explain_131 k_FR_fieldOf lk_FR_172 sc_FR_fieldOf np_FR_fieldOf ⟨by decide, by decide, Nat.le_of_ble_eq_true rfl⟩ (Nat.le_of_ble_eq_true rfl) (c_FR_fieldOf hf) rfl ?_
            exact fr_iret rfl d_FR_explain_134 ⟨rfl, rfl⟩
        | false =>
          refine fr_if_eq (pc := 110) (tgt := 117) d_FR_explain_110 (by decide) (fun q2 => ?_) (fun q2 => ?_)
          · refine fr_iconst (pc := 117) (v := 2) d_FR_explain_117 (by decide) ?_
            refine fr_istore (pc := 118) (L2 := [(0, .ref o), (1, .int (nI u)), (2, .int (nI n)), (3, .int (nI r)), (4, .int (nI f)), (5, .ref a), (6, .ref p), (7, .int (nI ps)), (8, .int 2)]) d_FR_explain_118 (by decide) rfl ?_
            refine fr_iload (pc := 120) d_FR_explain_120 rfl ?_
            refine fr_iload (pc := 122) d_FR_explain_122 rfl ?_
            refine fr_aload (pc := 124) d_FR_explain_124 rfl ?_
            refine fr_get (pc := 126) (v := .int (nI v)) d_FR_explain_126 fg_FR_186 hcp rfl ?_
            refine fr_iload (pc := 129) d_FR_explain_129 rfl ?_
            refine fr_calls_p (pc := 131) (nc := nc) (ns := ns) (N := m_FR_fieldOf) (rest := []) (as := [.int (nI f), .int 2, .int (nI v), .int (nI ps)]) d_FR_explain_131 k_FR_fieldOf lk_FR_172 sc_FR_fieldOf np_FR_fieldOf ⟨by decide, by decide, Nat.le_of_ble_eq_true rfl⟩ (Nat.le_of_ble_eq_true rfl) (c_FR_fieldOf hf) rfl ?_
            exact fr_iret rfl d_FR_explain_134 ⟨rfl, rfl⟩
          · exact absurd rfl q2
    | none =>
      refine fr_st (st2 := [.int (-1)]) rfl ?_
      refine fr_istore (pc := 86) (L2 := [(0, .ref o), (1, .int (nI u)), (2, .int (nI n)), (3, .int (nI r)), (4, .int (nI f)), (5, .ref a), (6, .ref p), (7, .int (-1))]) d_FR_explain_86 (by decide) rfl ?_
      refine fr_iload (pc := 88) d_FR_explain_88 rfl ?_
      refine fr_iconst (pc := 90) (v := -1) d_FR_explain_90 (by decide) ?_
      refine fr_icmp_eq (pc := 91) (tgt := 135) d_FR_explain_91 (by decide) (fun q => ?_) (fun q => ?_)
      · refine fr_aload (pc := 135) d_FR_explain_135 rfl ?_
        refine fr_callv_p (pc := 137) (nc := nc) (ns := ns) (N := m_ND_nextLevel) (rest := []) (as := []) d_FR_explain_137 vc_FR_189 ⟨by decide, by decide, Nat.le_of_ble_eq_true rfl⟩ (Nat.le_of_ble_eq_true rfl) hcp (c_ND_next hcp rfl rfl) rfl ?_
        refine fr_st (st2 := [.null]) (by rw [hpr]; cases V.2.2.2.1 <;> rfl) ?_
        have e : fs_dc nd (fun i u => bb (f4 i) u) N n r u (fs_lv nd (v :: [])) = none := by
          have e2 : fs_lv nd (v :: []) = [v] := by simp [fs_lv]
          rw [e2, fs_dc, hL1]; rfl
        rw [e]
        refine fr_astoreN (pc := 140) (L2 := [(0, .ref o), (1, .int (nI u)), (2, .int (nI n)), (3, .int (nI r)), (4, .int (nI f)), (5, .ref a), (6, .null), (7, .int (-1))]) d_FR_explain_140 (by decide) rfl ?_
        refine fr_goto (pc := 142) (tgt := 71) d_FR_explain_142 (by decide) ?_
        refine fr_aloadN (pc := 71) d_FR_explain_71 rfl ?_
        refine fr_ifnullN (pc := 73) (tgt := 145) d_FR_explain_73 (by decide) ?_
        refine fr_iload (pc := 145) d_FR_explain_145 rfl ?_
        refine fr_iconst (pc := 147) (v := 3) d_FR_explain_147 (by decide) ?_
        refine fr_iconst (pc := 148) (v := -1) d_FR_explain_148 (by decide) ?_
        refine fr_iconst (pc := 149) (v := -1) d_FR_explain_149 (by decide) ?_
        refine fr_calls_p (pc := 150) (nc := nc) (ns := ns) (N := m_FR_fieldOf) (rest := []) (as := [.int (nI f), .int 3, .int (-1), .int (-1)]) d_FR_explain_150 k_FR_fieldOf lk_FR_172 sc_FR_fieldOf np_FR_fieldOf ⟨by decide, by decide, Nat.le_of_ble_eq_true rfl⟩ (Nat.le_of_ble_eq_true rfl) (c_FR_fieldOf hf) rfl ?_
        exact fr_iret rfl d_FR_explain_153 ⟨rfl, rfl⟩
      · exact absurd rfl q
  | cons pa t ih =>
    intro v p hc hp L hL
    subst hL
    obtain ⟨V, hV⟩ : ∃ V, nd v = some V := fs_ch_some _ _ hc v (Or.inl rfl)
    obtain ⟨hv150, p0, hp0, hcp, hlp, hEp⟩ := hr.2.1 v V hV
    rw [hp] at hp0; cases hp0
    obtain ⟨mc, hl1, -⟩ := id hlp
    obtain ⟨-, -, -, hlen12, -, -⟩ := hok.2.2.2.2 v V hV
    obtain ⟨⟨V2, hV2, hpr⟩, hc2⟩ := hc
    rw [hV] at hV2; cases hV2
    obtain ⟨PA, hPA⟩ := fs_ch_some _ _ hc2 pa (Or.inl rfl)
    obtain ⟨-, p2, hp2, -, -, -⟩ := hr.2.1 pa PA hPA
    refine fr_aload (pc := 71) d_FR_explain_71 rfl ?_
    refine fr_ifnull (pc := 73) d_FR_explain_73 ?_
    refine fr_aload_n (pc := 76) d_FR_explain_76 rfl rfl ?_
    refine fr_aload (pc := 77) d_FR_explain_77 rfl ?_
    refine fr_aload (pc := 79) d_FR_explain_79 rfl ?_
    refine fr_iload_n (pc := 81) d_FR_explain_81 rfl rfl ?_
    refine fr_iload_n (pc := 82) d_FR_explain_82 rfl rfl ?_
    refine fr_callv_p (pc := 83) (nc := nc) (ns := ns) (N := m_FR_decidingPosition) (rest := []) (as := [.ref p, .ref a, .int (nI u), .int (nI r)]) d_FR_explain_83 vc_FR_176 ⟨by decide, by decide, Nat.le_of_ble_eq_true rfl⟩ (Nat.le_of_ble_eq_true rfl) h0 (c_FR_dp h0 hG hr hok hA hV ha hp hr8 hu64) rfl ?_
    cases hL1 : fs_lv1 (fs_hit (fun i u => bb (f4 i) u) N n v r u) (fs_es nd v) with
    | some x =>
      obtain ⟨ps, b⟩ := x
      obtain ⟨E, hE1, hE2⟩ := fs_lv1_at hL1
      have hes : fs_es nd v = V.2.2.2.2.2 := by simp [fs_es, hV]
      rw [hes] at hE1
      obtain ⟨hps, -⟩ := List.getElem?_eq_some_iff.mp hE1
      obtain ⟨y, hy⟩ : ∃ y, (lt v)[ps]? = some y := ⟨_, List.getElem?_eq_getElem (by rw [hEp.1]; exact hps)⟩
      have hcy := hEp.2 ps y E hy hE1
      have e : fs_dc nd (fun i u => bb (f4 i) u) N n r u (fs_lv nd (v :: pa :: t)) = some (v, ps, b) := by
        rw [fs_lv, fs_dc, hL1]
      rw [e]
      refine fr_st (st2 := [.int (nI ps)]) rfl ?_
      refine fr_istore (pc := 86) (L2 := [(0, .ref o), (1, .int (nI u)), (2, .int (nI n)), (3, .int (nI r)), (4, .int (nI f)), (5, .ref a), (6, .ref p), (7, .int (nI ps))]) d_FR_explain_86 (by decide) rfl ?_
      refine fr_iload (pc := 88) d_FR_explain_88 rfl ?_
      refine fr_iconst (pc := 90) (v := -1) d_FR_explain_90 (by decide) ?_
      refine fr_icmp_eq (pc := 91) (tgt := 135) d_FR_explain_91 (by decide) (fun q => ?_) (fun q => ?_)
      · exact absurd q (fs_ov_ne (by omega))
      · refine fr_aload (pc := 94) d_FR_explain_94 rfl ?_
        refine fr_get (pc := 96) (v := .ref (lq v)) d_FR_explain_96 fg_FR_119 hcp rfl ?_
        refine fr_iload (pc := 99) d_FR_explain_99 rfl ?_
        refine fr_callv_p (pc := 101) (nc := nc) (ns := ns) (N := m_AL_get) (rest := []) (as := [.int (nI ps)]) d_FR_explain_101 vc_FR_180 ⟨by decide, by decide, Nat.le_of_ble_eq_true rfl⟩ (Nat.le_of_ble_eq_true rfl) hl1 (c_AL_get hlp hy) rfl ?_
        refine fr_cast (pc := 104) (ci := 3) d_FR_explain_104 (fw_t 386 (by decide +kernel)) rfl hcy ?_
        refine fr_get (pc := 107) (v := .int (bI E.1)) d_FR_explain_107 fg_FR_183 hcy rfl ?_
        refine fr_st (st2 := [.int (bI b)]) (by rw [hE2]) ?_
        cases b with
        | true =>
          refine fr_if_eq (pc := 110) (tgt := 117) d_FR_explain_110 (by decide) (fun q2 => ?_) (fun q2 => ?_)
          · exact absurd q2 (by decide)
          · refine fr_iconst (pc := 113) (v := 1) d_FR_explain_113 (by decide) ?_
            refine fr_goto (pc := 114) (tgt := 118) d_FR_explain_114 (by decide) ?_
            refine fr_istore (pc := 118) (L2 := [(0, .ref o), (1, .int (nI u)), (2, .int (nI n)), (3, .int (nI r)), (4, .int (nI f)), (5, .ref a), (6, .ref p), (7, .int (nI ps)), (8, .int 1)]) d_FR_explain_118 (by decide) rfl ?_
            refine fr_iload (pc := 120) d_FR_explain_120 rfl ?_
            refine fr_iload (pc := 122) d_FR_explain_122 rfl ?_
            refine fr_aload (pc := 124) d_FR_explain_124 rfl ?_
            refine fr_get (pc := 126) (v := .int (nI v)) d_FR_explain_126 fg_FR_186 hcp rfl ?_
            refine fr_iload (pc := 129) d_FR_explain_129 rfl ?_
            refine fr_calls_p (pc := 131) (nc := nc) (ns := ns) (N := m_FR_fieldOf) (rest := []) (as := [.int (nI f), .int 1, .int (nI v), .int (nI ps)]) d_FR_explain_131 k_FR_fieldOf lk_FR_172 sc_FR_fieldOf np_FR_fieldOf ⟨by decide, by decide, Nat.le_of_ble_eq_true rfl⟩ (Nat.le_of_ble_eq_true rfl) (c_FR_fieldOf hf) rfl ?_
            exact fr_iret rfl d_FR_explain_134 ⟨rfl, rfl⟩
        | false =>
          refine fr_if_eq (pc := 110) (tgt := 117) d_FR_explain_110 (by decide) (fun q2 => ?_) (fun q2 => ?_)
          · refine fr_iconst (pc := 117) (v := 2) d_FR_explain_117 (by decide) ?_
            refine fr_istore (pc := 118) (L2 := [(0, .ref o), (1, .int (nI u)), (2, .int (nI n)), (3, .int (nI r)), (4, .int (nI f)), (5, .ref a), (6, .ref p), (7, .int (nI ps)), (8, .int 2)]) d_FR_explain_118 (by decide) rfl ?_
            refine fr_iload (pc := 120) d_FR_explain_120 rfl ?_
            refine fr_iload (pc := 122) d_FR_explain_122 rfl ?_
            refine fr_aload (pc := 124) d_FR_explain_124 rfl ?_
            refine fr_get (pc := 126) (v := .int (nI v)) d_FR_explain_126 fg_FR_186 hcp rfl ?_
            refine fr_iload (pc := 129) d_FR_explain_129 rfl ?_
            refine fr_calls_p (pc := 131) (nc := nc) (ns := ns) (N := m_FR_fieldOf) (rest := []) (as := [.int (nI f), .int 2, .int (nI v), .int (nI ps)]) d_FR_explain_131 k_FR_fieldOf lk_FR_172 sc_FR_fieldOf np_FR_fieldOf ⟨by decide, by decide, Nat.le_of_ble_eq_true rfl⟩ (Nat.le_of_ble_eq_true rfl) (c_FR_fieldOf hf) rfl ?_
            exact fr_iret rfl d_FR_explain_134 ⟨rfl, rfl⟩
          · exact absurd rfl q2
    | none =>
      refine fr_st (st2 := [.int (-1)]) rfl ?_
      refine fr_istore (pc := 86) (L2 := [(0, .ref o), (1, .int (nI u)), (2, .int (nI n)), (3, .int (nI r)), (4, .int (nI f)), (5, .ref a), (6, .ref p), (7, .int (-1))]) d_FR_explain_86 (by decide) rfl ?_
      refine fr_iload (pc := 88) d_FR_explain_88 rfl ?_
      refine fr_iconst (pc := 90) (v := -1) d_FR_explain_90 (by decide) ?_
      refine fr_icmp_eq (pc := 91) (tgt := 135) d_FR_explain_91 (by decide) (fun q => ?_) (fun q => ?_)
      · refine fr_aload (pc := 135) d_FR_explain_135 rfl ?_
        refine fr_callv_p (pc := 137) (nc := nc) (ns := ns) (N := m_ND_nextLevel) (rest := []) (as := []) d_FR_explain_137 vc_FR_189 ⟨by decide, by decide, Nat.le_of_ble_eq_true rfl⟩ (Nat.le_of_ble_eq_true rfl) hcp (c_ND_next hcp rfl rfl) rfl ?_
        cases hbl : V.2.2.2.1 with
        | true =>
          refine fr_st (st2 := [.null]) rfl ?_
          have e : fs_dc nd (fun i u => bb (f4 i) u) N n r u (fs_lv nd (v :: pa :: t)) = none := by
            have e2 : fs_lv nd (v :: pa :: t) = [v] := by simp [fs_lv, fs_bl, hV, hbl]
            rw [e2, fs_dc, hL1]; rfl
          rw [e]
          refine fr_astoreN (pc := 140) (L2 := [(0, .ref o), (1, .int (nI u)), (2, .int (nI n)), (3, .int (nI r)), (4, .int (nI f)), (5, .ref a), (6, .null), (7, .int (-1))]) d_FR_explain_140 (by decide) rfl ?_
          refine fr_goto (pc := 142) (tgt := 71) d_FR_explain_142 (by decide) ?_
          refine fr_aloadN (pc := 71) d_FR_explain_71 rfl ?_
          refine fr_ifnullN (pc := 73) (tgt := 145) d_FR_explain_73 (by decide) ?_
          refine fr_iload (pc := 145) d_FR_explain_145 rfl ?_
          refine fr_iconst (pc := 147) (v := 3) d_FR_explain_147 (by decide) ?_
          refine fr_iconst (pc := 148) (v := -1) d_FR_explain_148 (by decide) ?_
          refine fr_iconst (pc := 149) (v := -1) d_FR_explain_149 (by decide) ?_
          refine fr_calls_p (pc := 150) (nc := nc) (ns := ns) (N := m_FR_fieldOf) (rest := []) (as := [.int (nI f), .int 3, .int (-1), .int (-1)]) d_FR_explain_150 k_FR_fieldOf lk_FR_172 sc_FR_fieldOf np_FR_fieldOf ⟨by decide, by decide, Nat.le_of_ble_eq_true rfl⟩ (Nat.le_of_ble_eq_true rfl) (c_FR_fieldOf hf) rfl ?_
          exact fr_iret rfl d_FR_explain_153 ⟨rfl, rfl⟩
        | false =>
          refine fr_st (st2 := [.ref p2]) (by rw [hpr]; show [va_rf (ad pa)] = _; rw [rf_some hp2]) ?_
          refine fr_astore (pc := 140) (L2 := [(0, .ref o), (1, .int (nI u)), (2, .int (nI n)), (3, .int (nI r)), (4, .int (nI f)), (5, .ref a), (6, .ref p2), (7, .int (-1))]) d_FR_explain_140 (by decide) rfl ?_
          refine fr_goto (pc := 142) (tgt := 71) d_FR_explain_142 (by decide) ?_
          have e : fs_dc nd (fun i u => bb (f4 i) u) N n r u (fs_lv nd (v :: pa :: t)) = fs_dc nd (fun i u => bb (f4 i) u) N n r u (fs_lv nd (pa :: t)) := by
            have e2 : fs_lv nd (v :: pa :: t) = v :: fs_lv nd (pa :: t) := by
              rw [fs_lv]; simp [fs_bl, hV, hbl]
            rw [e2, fs_dc, hL1]
          rw [e]
          exact fr_Ld (ih pa p2 hc2 hp2 _ rfl)
      · exact absurd rfl q
set_option maxRecDepth 20000 in
theorem p_FR_explain_ok {g : fw_G} {w : fw_W} {o gr a1 a2 a3 a4 na us n : Nat} {hu hg : Nat → Nat → Bool} {nd : fs_D} (hX : fs_X g (o, gr, a1, a2, a3, a4, na) (us, n, hu, hg, nd) w) {k : Nat} {N : fs_N} (hk : nd k = some N) {u r f : Nat} (hu2 : u < us) (hr8 : r < 8) (hf : f < 3) : fw_R g m_FR_explain (fs_P g (o, gr, a1, a2, a3, a4, na) w (.inl (some (.int (if r = 7 ∧ N.2.2.1 = u then (if f = 0 then 0 else if f = 1 then nI k else -1) else fs_xx (fs_dc (va_up nd k (some (fs_st N false))) (fs_in hu hg) (fs_st N false) k r u (fs_ls (va_up nd k (some (fs_st N false))) k)) f)))) (us, n, hu, hg, (va_up nd k (some (fs_st N false))))) 4 24 w 0 [(0, .ref o), (1, .int (nI u)), (2, .int (nI k)), (3, .int (nI r)), (4, .int (nI f))] [] := by
  obtain ⟨f1, f2, f3, f4, ad, lq, ld, lc, lt, hok, h0, hG, hR, hN, hr⟩ := fs_X_el hX
  have hb : n < 2 ^ 31 := by have := hok.2.2.1; omega
  have hb2 : us < 2 ^ 31 := by have := hok.2.1; omega
  obtain ⟨hk150, a, ha, hc, hl, hE⟩ := hr.2.1 k N hk
  obtain ⟨-, hk0, how, hlen, hes, hch, hdep⟩ := hok.2.2.2.2 k N hk
  have hF1 := fs_F2_up (x := .inr (2, fs_nc k (fs_st N false) (lq k) (N.2.1.bind ad))) fs_F2_id hc
  have hr1 := fs_rN_put hr (N2 := fs_st N false) hk ha rfl
  have hok1 := fs_ok_up hok (N2 := fs_st N false) hk rfl how hlen hes
  have h01 := fs_F2_3 hF1 _ h0 (fun fs z => by cases z)
  have hG1 := fs_gr_fr hG (fun b e hb h1 _ => fs_F2_3 hF1 b hb (fun fs z => by have := h1 2 fs z; omega))
  have hE1 : ∀ v r u, fw_pv v (fw_up w a (.inr (2, fs_nc k (fs_st N false) (lq k) (N.2.1.bind ad)))) r u → fs_P g (o, gr, a1, a2, a3, a4, na) w (.inl (some v)) (us, n, hu, hg, (va_up nd k (some (fs_st N false)))) r u := by
    rintro v r u ⟨e1, e2⟩
    subst e2
    exact ⟨e1, fs_X_F2 hok1 h0 hG hR hN hF1 hr1, fs_F2_Fr hF1⟩
  have hus := hok.2.1
  refine fr_aload_n (pc := 0) d_FR_explain_0 rfl rfl ?_
  refine fr_iload_n (pc := 1) d_FR_explain_1 rfl rfl ?_
  refine fr_callv_n (pc := 2) (nc := 3) (ns := 18) (N := m_FR_requireUser) (rest := []) (as := [.int (nI u)]) d_FR_explain_2 vc_FR_67 ⟨by decide, by decide, Nat.le_of_ble_eq_true rfl⟩ (Nat.le_of_ble_eq_true rfl) h0 (c_FR_requireUser h0 hu2 hb2) rfl ?_
  refine fr_aload_n (pc := 5) d_FR_explain_5 rfl rfl ?_
  refine fr_iload_n (pc := 6) d_FR_explain_6 rfl rfl ?_
  refine fr_callv_p (pc := 7) (nc := 2) (ns := 12) (N := m_FR_nodeAt) (rest := []) (as := [.int (nI k)]) d_FR_explain_7 vc_FR_63 ⟨by decide, by decide, Nat.le_of_ble_eq_true rfl⟩ (Nat.le_of_ble_eq_true rfl) h0 (c_FR_nodeAt h0 hN hk150 ha) rfl ?_
  refine fr_astore (pc := 10) (L2 := [(0, .ref o), (1, .int (nI u)), (2, .int (nI k)), (3, .int (nI r)), (4, .int (nI f)), (5, .ref a)]) d_FR_explain_10 (by decide) rfl ?_
  refine fr_iload_n (pc := 12) d_FR_explain_12 rfl rfl ?_
  refine fr_calls_n (pc := 13) (nc := 1) (ns := 6) (N := m_FR_requireRight) (rest := []) (as := [.int (nI r)]) d_FR_explain_13 k_FR_requireRight lk_FR_167 sc_FR_requireRight np_FR_requireRight ⟨by decide, by decide, Nat.le_of_ble_eq_true rfl⟩ (Nat.le_of_ble_eq_true rfl) (c_FR_requireRight hr8) rfl ?_
  refine fr_iload (pc := 16) d_FR_explain_16 rfl ?_
  refine fr_if_lt (pc := 18) (tgt := 27) d_FR_explain_18 (by decide) (fun q => ?_) (fun q => ?_)
  · exact absurd q (ix_nn (by omega))
  · refine fr_iload (pc := 21) d_FR_explain_21 rfl ?_
    refine fr_iconst (pc := 23) (v := 2) d_FR_explain_23 (by decide) ?_
    refine fr_icmp_le (pc := 24) (tgt := 37) d_FR_explain_24 (by decide) (fun q2 => ?_) (fun q2 => ?_)
    · refine fr_aload (pc := 37) d_FR_explain_37 rfl ?_
      refine fr_iconst (pc := 39) (v := 0) d_FR_explain_39 (by decide) ?_
      refine fr_put (pc := 40) (fs2 := fs_nc k (fs_st N false) (lq k) (N.2.1.bind ad)) d_FR_explain_40 fp_FR_explain_110 hc (Nat.le_of_ble_eq_true rfl) rfl rfl rfl ?_
      refine fr_po (hE1 _) ?_
      refine fr_iload_n (pc := 43) d_FR_explain_43 rfl rfl ?_
      refine fr_bipush (pc := 44) (v := 7) d_FR_explain_44 (by decide) ?_
      refine fr_icmp_ne (pc := 46) (tgt := 67) d_FR_explain_46 (by decide) (fun q3 => ?_) (fun q3 => ?_)
      · have h7 : ¬ (r = 7 ∧ N.2.2.1 = u) := fun z => q3 (by rw [z.1]; rfl)
        rw [if_neg h7]
        refine fr_aload (pc := 67) d_FR_explain_67 rfl ?_
        refine fr_astore (pc := 69) (L2 := [(0, .ref o), (1, .int (nI u)), (2, .int (nI k)), (3, .int (nI r)), (4, .int (nI f)), (5, .ref a), (6, .ref a)]) d_FR_explain_69 (by decide) rfl ?_
        have hfi : (fun i u => bb (f4 i) u) = fs_in hu hg := by funext i u; exact fs_in_f4 hR i u
        have hh := @c_FR_exp_l g 1 6 _ o gr na us h01 n a1 a2 a3 a4 f1 f2 f3 f4 hG1 (va_up nd k (some (fs_st N false))) ad lq ld lc lt hr1 hok1 k a r u f (fs_st N false) vu_self ha hr8 (by omega) hf _ k a (fs_ok_ch hok1 k _ vu_self) ha _ rfl
        rw [hfi] at hh
        exact hh
      · have h7 : r = 7 := (ni_eq (b := 7) (by omega) (by omega)).mp q3
        refine fr_aload (pc := 49) d_FR_explain_49 rfl ?_
        refine fr_get (pc := 51) (v := .int (nI N.2.2.1)) d_FR_explain_51 fg_FR_156 fw_up_self rfl ?_
        refine fr_iload_n (pc := 54) d_FR_explain_54 rfl rfl ?_
        refine fr_icmp_ne (pc := 55) (tgt := 67) d_FR_explain_55 (by decide) (fun q4 => ?_) (fun q4 => ?_)
        · have h8 : ¬ (r = 7 ∧ N.2.2.1 = u) := fun z => q4 (by rw [z.2])
          rw [if_neg h8]
          refine fr_aload (pc := 67) d_FR_explain_67 rfl ?_
          refine fr_astore (pc := 69) (L2 := [(0, .ref o), (1, .int (nI u)), (2, .int (nI k)), (3, .int (nI r)), (4, .int (nI f)), (5, .ref a), (6, .ref a)]) d_FR_explain_69 (by decide) rfl ?_
          have hfi : (fun i u => bb (f4 i) u) = fs_in hu hg := by funext i u; exact fs_in_f4 hR i u
          have hh := @c_FR_exp_l g 1 6 _ o gr na us h01 n a1 a2 a3 a4 f1 f2 f3 f4 hG1 (va_up nd k (some (fs_st N false))) ad lq ld lc lt hr1 hok1 k a r u f (fs_st N false) vu_self ha hr8 (by omega) hf _ k a (fs_ok_ch hok1 k _ vu_self) ha _ rfl
          rw [hfi] at hh
          exact hh
        · have h8 : N.2.2.1 = u := (ni_eq (by omega) (by omega)).mp q4
          rw [if_pos ⟨h7, h8⟩]
          refine fr_iload (pc := 58) d_FR_explain_58 rfl ?_
          refine fr_iconst (pc := 60) (v := 0) d_FR_explain_60 (by decide) ?_
          refine fr_iload_n (pc := 61) d_FR_explain_61 rfl rfl ?_
          refine fr_iconst (pc := 62) (v := -1) d_FR_explain_62 (by decide) ?_
          refine fr_calls_p (pc := 63) (nc := 1) (ns := 6) (N := m_FR_fieldOf) (rest := []) (as := [.int (nI f), .int 0, .int (nI k), .int (-1)]) d_FR_explain_63 k_FR_fieldOf lk_FR_172 sc_FR_fieldOf np_FR_fieldOf ⟨by decide, by decide, Nat.le_of_ble_eq_true rfl⟩ (Nat.le_of_ble_eq_true rfl) (c_FR_fieldOf hf) rfl ?_
          exact fr_iret rfl d_FR_explain_66 ⟨rfl, rfl⟩
    · exact absurd ((ni_le (b := 2) (by omega) (by omega)).mpr (by omega)) q2
set_option maxRecDepth 20000 in
theorem p_FR_explain_n1 {g : fw_G} {w : fw_W} {o gr a1 a2 a3 a4 na us n : Nat} {hu hg : Nat → Nat → Bool} {nd : fs_D} (hX : fs_X g (o, gr, a1, a2, a3, a4, na) (us, n, hu, hg, nd) w) {x y z v : Int32} (hx : fs_no2 x us) : fw_R g m_FR_explain (fs_P g (o, gr, a1, a2, a3, a4, na) w (.inr "java/util/NoSuchElementException") (us, n, hu, hg, nd)) 4 24 w 0 [(0, .ref o), (1, .int x), (2, .int y), (3, .int z), (4, .int v)] [] := by
  obtain ⟨f1, f2, f3, f4, ad, lq, ld, lc, lt, hok, h0, hG, hR, hN, hr⟩ := fs_X_el hX
  have hb : n < 2 ^ 31 := by have := hok.2.2.1; omega
  have hb2 : us < 2 ^ 31 := by have := hok.2.1; omega
  refine fr_aload_n (pc := 0) d_FR_explain_0 rfl rfl ?_
  refine fr_iload_n (pc := 1) d_FR_explain_1 rfl rfl ?_
  refine fr_callv_x (pc := 2) (nc := 3) (ns := 18) (N := m_FR_requireUser) (rest := []) (as := [.int x]) d_FR_explain_2 vc_FR_67 ⟨by decide, by decide, Nat.le_of_ble_eq_true rfl⟩ (Nat.le_of_ble_eq_true rfl) h0 (x_FR_requireUser h0 hx hb2) rfl ?_
  exact fx_out (by decide) ⟨rfl, hX, fs_Fr_id⟩
set_option maxRecDepth 20000 in
theorem p_FR_explain_n2 {g : fw_G} {w : fw_W} {o gr a1 a2 a3 a4 na us n : Nat} {hu hg : Nat → Nat → Bool} {nd : fs_D} (hX : fs_X g (o, gr, a1, a2, a3, a4, na) (us, n, hu, hg, nd) w) {u : Nat} {x z v : Int32} (hu2 : u < us) (hx : ∀ k, x = nI k → nd k = none) : fw_R g m_FR_explain (fs_P g (o, gr, a1, a2, a3, a4, na) w (.inr "java/util/NoSuchElementException") (us, n, hu, hg, nd)) 4 24 w 0 [(0, .ref o), (1, .int (nI u)), (2, .int x), (3, .int z), (4, .int v)] [] := by
  obtain ⟨f1, f2, f3, f4, ad, lq, ld, lc, lt, hok, h0, hG, hR, hN, hr⟩ := fs_X_el hX
  have hb : n < 2 ^ 31 := by have := hok.2.2.1; omega
  have hb2 : us < 2 ^ 31 := by have := hok.2.1; omega
  refine fr_aload_n (pc := 0) d_FR_explain_0 rfl rfl ?_
  refine fr_iload_n (pc := 1) d_FR_explain_1 rfl rfl ?_
  refine fr_callv_n (pc := 2) (nc := 3) (ns := 18) (N := m_FR_requireUser) (rest := []) (as := [.int (nI u)]) d_FR_explain_2 vc_FR_67 ⟨by decide, by decide, Nat.le_of_ble_eq_true rfl⟩ (Nat.le_of_ble_eq_true rfl) h0 (c_FR_requireUser h0 hu2 hb2) rfl ?_
  refine fr_aload_n (pc := 5) d_FR_explain_5 rfl rfl ?_
  refine fr_iload_n (pc := 6) d_FR_explain_6 rfl rfl ?_
  refine fr_callv_x (pc := 7) (nc := 2) (ns := 12) (N := m_FR_nodeAt) (rest := []) (as := [.int x]) d_FR_explain_7 vc_FR_63 ⟨by decide, by decide, Nat.le_of_ble_eq_true rfl⟩ (Nat.le_of_ble_eq_true rfl) h0 (x_FR_nodeAt h0 hN (fun k _ e => hr.1 k (hx k e))) rfl ?_
  exact fx_out (by decide) ⟨rfl, hX, fs_Fr_id⟩
set_option maxRecDepth 20000 in
theorem p_FR_explain_n3 {g : fw_G} {w : fw_W} {o gr a1 a2 a3 a4 na us n : Nat} {hu hg : Nat → Nat → Bool} {nd : fs_D} (hX : fs_X g (o, gr, a1, a2, a3, a4, na) (us, n, hu, hg, nd) w) {k : Nat} {N : fs_N} (hk : nd k = some N) {u : Nat} {z v : Int32} (hu2 : u < us) (hz : fs_no2 z 8) : fw_R g m_FR_explain (fs_P g (o, gr, a1, a2, a3, a4, na) w (.inr "java/lang/IllegalArgumentException") (us, n, hu, hg, nd)) 4 24 w 0 [(0, .ref o), (1, .int (nI u)), (2, .int (nI k)), (3, .int z), (4, .int v)] [] := by
  obtain ⟨f1, f2, f3, f4, ad, lq, ld, lc, lt, hok, h0, hG, hR, hN, hr⟩ := fs_X_el hX
  have hb : n < 2 ^ 31 := by have := hok.2.2.1; omega
  have hb2 : us < 2 ^ 31 := by have := hok.2.1; omega
  obtain ⟨hk150, a, ha, hc, hl, hE⟩ := hr.2.1 k N hk
  obtain ⟨-, hk0, how, hlen, hes, hch, hdep⟩ := hok.2.2.2.2 k N hk
  refine fr_aload_n (pc := 0) d_FR_explain_0 rfl rfl ?_
  refine fr_iload_n (pc := 1) d_FR_explain_1 rfl rfl ?_
  refine fr_callv_n (pc := 2) (nc := 3) (ns := 18) (N := m_FR_requireUser) (rest := []) (as := [.int (nI u)]) d_FR_explain_2 vc_FR_67 ⟨by decide, by decide, Nat.le_of_ble_eq_true rfl⟩ (Nat.le_of_ble_eq_true rfl) h0 (c_FR_requireUser h0 hu2 hb2) rfl ?_
  refine fr_aload_n (pc := 5) d_FR_explain_5 rfl rfl ?_
  refine fr_iload_n (pc := 6) d_FR_explain_6 rfl rfl ?_
  refine fr_callv_p (pc := 7) (nc := 2) (ns := 12) (N := m_FR_nodeAt) (rest := []) (as := [.int (nI k)]) d_FR_explain_7 vc_FR_63 ⟨by decide, by decide, Nat.le_of_ble_eq_true rfl⟩ (Nat.le_of_ble_eq_true rfl) h0 (c_FR_nodeAt h0 hN hk150 ha) rfl ?_
  refine fr_astore (pc := 10) (L2 := [(0, .ref o), (1, .int (nI u)), (2, .int (nI k)), (3, .int z), (4, .int v), (5, .ref a)]) d_FR_explain_10 (by decide) rfl ?_
  refine fr_iload_n (pc := 12) d_FR_explain_12 rfl rfl ?_
  refine fr_calls_x (pc := 13) (nc := 1) (ns := 6) (N := m_FR_requireRight) (rest := []) (as := [.int z]) d_FR_explain_13 k_FR_requireRight lk_FR_167 sc_FR_requireRight np_FR_requireRight ⟨by decide, by decide, Nat.le_of_ble_eq_true rfl⟩ (Nat.le_of_ble_eq_true rfl) (x_FR_requireRight hz) rfl ?_
  exact fx_out (by decide) ⟨rfl, hX, fs_Fr_id⟩
set_option maxRecDepth 20000 in
theorem p_FR_explain_n4 {g : fw_G} {w : fw_W} {o gr a1 a2 a3 a4 na us n : Nat} {hu hg : Nat → Nat → Bool} {nd : fs_D} (hX : fs_X g (o, gr, a1, a2, a3, a4, na) (us, n, hu, hg, nd) w) {k : Nat} {N : fs_N} (hk : nd k = some N) {u r : Nat} {v : Int32} (hu2 : u < us) (hr8 : r < 8) (hv : fs_no2 v 3) : fw_R g m_FR_explain (fs_P g (o, gr, a1, a2, a3, a4, na) w (.inr "java/lang/IllegalArgumentException") (us, n, hu, hg, nd)) 4 24 w 0 [(0, .ref o), (1, .int (nI u)), (2, .int (nI k)), (3, .int (nI r)), (4, .int v)] [] := by
  obtain ⟨f1, f2, f3, f4, ad, lq, ld, lc, lt, hok, h0, hG, hR, hN, hr⟩ := fs_X_el hX
  have hb : n < 2 ^ 31 := by have := hok.2.2.1; omega
  have hb2 : us < 2 ^ 31 := by have := hok.2.1; omega
  obtain ⟨hk150, a, ha, hc, hl, hE⟩ := hr.2.1 k N hk
  obtain ⟨-, hk0, how, hlen, hes, hch, hdep⟩ := hok.2.2.2.2 k N hk
  refine fr_aload_n (pc := 0) d_FR_explain_0 rfl rfl ?_
  refine fr_iload_n (pc := 1) d_FR_explain_1 rfl rfl ?_
  refine fr_callv_n (pc := 2) (nc := 3) (ns := 18) (N := m_FR_requireUser) (rest := []) (as := [.int (nI u)]) d_FR_explain_2 vc_FR_67 ⟨by decide, by decide, Nat.le_of_ble_eq_true rfl⟩ (Nat.le_of_ble_eq_true rfl) h0 (c_FR_requireUser h0 hu2 hb2) rfl ?_
  refine fr_aload_n (pc := 5) d_FR_explain_5 rfl rfl ?_
  refine fr_iload_n (pc := 6) d_FR_explain_6 rfl rfl ?_
  refine fr_callv_p (pc := 7) (nc := 2) (ns := 12) (N := m_FR_nodeAt) (rest := []) (as := [.int (nI k)]) d_FR_explain_7 vc_FR_63 ⟨by decide, by decide, Nat.le_of_ble_eq_true rfl⟩ (Nat.le_of_ble_eq_true rfl) h0 (c_FR_nodeAt h0 hN hk150 ha) rfl ?_
  refine fr_astore (pc := 10) (L2 := [(0, .ref o), (1, .int (nI u)), (2, .int (nI k)), (3, .int (nI r)), (4, .int v), (5, .ref a)]) d_FR_explain_10 (by decide) rfl ?_
  refine fr_iload_n (pc := 12) d_FR_explain_12 rfl rfl ?_
  refine fr_calls_n (pc := 13) (nc := 1) (ns := 6) (N := m_FR_requireRight) (rest := []) (as := [.int (nI r)]) d_FR_explain_13 k_FR_requireRight lk_FR_167 sc_FR_requireRight np_FR_requireRight ⟨by decide, by decide, Nat.le_of_ble_eq_true rfl⟩ (Nat.le_of_ble_eq_true rfl) (c_FR_requireRight hr8) rfl ?_
  refine fr_iload (pc := 16) d_FR_explain_16 rfl ?_
  refine fr_if_lt (pc := 18) (tgt := 27) d_FR_explain_18 (by decide) (fun q => ?_) (fun q => ?_)
  · exact fr_throw (pc := 27) (nc := 0) (ns := 0) th_FR_170 d_FR_explain_27 d_FR_explain_30 d_FR_explain_31 d_FR_explain_33 d_FR_explain_36 (by decide) (by decide) (by decide) ⟨rfl, hX, fs_Fr_id⟩
  · refine fr_iload (pc := 21) d_FR_explain_21 rfl ?_
    refine fr_iconst (pc := 23) (v := 2) d_FR_explain_23 (by decide) ?_
    refine fr_icmp_le (pc := 24) (tgt := 37) d_FR_explain_24 (by decide) (fun q2 => ?_) (fun q2 => ?_)
    · obtain ⟨h3, h4⟩ := ix_of q
      rw [h4] at q2
      have h5 := (ni_le (b := 2) h3 (by omega)).mp q2
      exact absurd h4 (hv _ (by omega))
    · exact fr_throw (pc := 27) (nc := 0) (ns := 0) th_FR_170 d_FR_explain_27 d_FR_explain_30 d_FR_explain_31 d_FR_explain_33 d_FR_explain_36 (by decide) (by decide) (by decide) ⟨rfl, hX, fs_Fr_id⟩
end
section
theorem fs_no2_out {x : Int32} {n : Nat} (hn : n + 1 < 2 ^ 31) (h : fs_no2 x (n + 1)) : x.toInt < 0 ∨ (n : Int) < x.toInt := by
  by_cases h1 : x < 0
  · left
    have := Int32.lt_iff_toInt_lt.mp h1
    have e : (0 : Int32).toInt = 0 := rfl
    omega
  · right
    obtain ⟨h2, h3⟩ := ix_of h1
    have h4 : ¬ x.toNatClampNeg < n + 1 := fun z => h _ z h3
    have h5 : x.toNatClampNeg = x.toInt.toNat := rfl
    omega
theorem p_FR_about_0 {g : fw_G} {w : fw_W} {o gr a1 a2 a3 a4 na us n : Nat} {hu hg : Nat → Nat → Bool} {nd : fs_D} (hX : fs_X g (o, gr, a1, a2, a3, a4, na) (us, n, hu, hg, nd) w) {k : Nat} {N : fs_N} (hk : nd k = some N) : fw_R g m_FR_about (fs_P g (o, gr, a1, a2, a3, a4, na) w (.inl (some (.int (fs_ov N.2.1)))) (us, n, hu, hg, nd)) 2 12 w 0 [(0, .ref o), (1, .int (nI k)), (2, .int (nI 0))] [] := by
  obtain ⟨f1, f2, f3, f4, ad, lq, ld, lc, lt, hok, h0, hG, hR, hN, hr⟩ := fs_X_el hX
  obtain ⟨hk150, a, ha, hc, hl, hE⟩ := hr.2.1 k N hk
  obtain ⟨-, hk0, how, hlen, hes, hch, hdep⟩ := hok.2.2.2.2 k N hk
  refine fr_aload_n (pc := 0) d_FR_about_0 rfl rfl ?_
  refine fr_iload_n (pc := 1) d_FR_about_1 rfl rfl ?_
  refine fr_callv_p (pc := 2) (nc := 1) (ns := 6) (N := m_FR_nodeAt) (rest := []) (as := [.int (nI k)]) d_FR_about_2 vc_FR_63 ⟨by decide, by decide, Nat.le_of_ble_eq_true rfl⟩ (Nat.le_of_ble_eq_true rfl) h0 (c_FR_nodeAt h0 hN hk150 ha) rfl ?_
  refine fr_astore_n (pc := 5) (L2 := [(0, .ref o), (1, .int (nI k)), (2, .int (nI 0)), (3, .ref a)]) d_FR_about_5 rfl (by decide) rfl ?_
  refine fr_iload_n (pc := 6) d_FR_about_6 rfl rfl ?_
  refine fr_tableIn (pc := 7) (off := 45) (tgt := 52) d_FR_about_7 (by decide) (by decide) (by decide) (by decide) ?_
  refine fr_aload_n (pc := 52) d_FR_about_52 rfl rfl ?_
  refine fr_get (pc := 53) (v := va_rf (N.2.1.bind ad)) d_FR_about_53 fg_FR_103 hc rfl ?_
  cases hp : N.2.1 with
  | none =>
    refine fr_st (st2 := [.null]) rfl ?_
    refine fr_ifnonnullN (pc := 56) d_FR_about_56 ?_
    refine fr_iconst (pc := 59) (v := -1) d_FR_about_59 (by decide) ?_
    refine fr_goto (pc := 60) (tgt := 70) d_FR_about_60 (by decide) ?_
    exact fr_iret rfl d_FR_about_70 ⟨rfl, hX, fs_Fr_id⟩
  | some p =>
    obtain ⟨Pn, hPn, hbp⟩ : ∃ Pn b, nd p = some Pn ∧ ad p = some b := by
      obtain ⟨Pn, hPn⟩ : ∃ Pn, nd p = some Pn := by
        cases hab : fs_ab nd k with
        | nil => rw [hab] at hch; obtain ⟨N9, e1, e2⟩ := hch; rw [hk] at e1; cases e1; rw [hp] at e2; cases e2
        | cons p9 t9 => rw [hab] at hch; obtain ⟨⟨N9, e1, e2⟩, e3⟩ := hch; rw [hk] at e1; cases e1; rw [hp] at e2; cases e2; exact fs_ch_some _ _ e3 p (Or.inl rfl)
      obtain ⟨-, b, hb, -⟩ := hr.2.1 p Pn hPn
      exact ⟨Pn, b, hPn, hb⟩
    obtain ⟨hPn2, hbp2⟩ := hbp
    obtain ⟨-, b9, hb9, hcp, -⟩ := hr.2.1 p Pn hPn2
    rw [hbp2] at hb9; cases hb9
    refine fr_st (st2 := [.ref hPn]) (by show [va_rf (ad p)] = _; rw [rf_some hbp2]) ?_
    refine fr_ifnonnull (pc := 56) (tgt := 63) d_FR_about_56 (by decide) ?_
    refine fr_aload_n (pc := 63) d_FR_about_63 rfl rfl ?_
    refine fr_get (pc := 64) (v := va_rf (N.2.1.bind ad)) d_FR_about_64 fg_FR_103 hc rfl ?_
    refine fr_st (st2 := [.ref hPn]) (by rw [hp]; show [va_rf (ad p)] = _; rw [rf_some hbp2]) ?_
    refine fr_get (pc := 67) (v := .int (nI p)) d_FR_about_67 fg_FR_186 hcp rfl ?_
    exact fr_iret rfl d_FR_about_70 ⟨rfl, hX, fs_Fr_id⟩
theorem p_FR_about_1 {g : fw_G} {w : fw_W} {o gr a1 a2 a3 a4 na us n : Nat} {hu hg : Nat → Nat → Bool} {nd : fs_D} (hX : fs_X g (o, gr, a1, a2, a3, a4, na) (us, n, hu, hg, nd) w) {k : Nat} {N : fs_N} (hk : nd k = some N) : fw_R g m_FR_about (fs_P g (o, gr, a1, a2, a3, a4, na) w (.inl (some (.int (bI N.1)))) (us, n, hu, hg, nd)) 2 12 w 0 [(0, .ref o), (1, .int (nI k)), (2, .int (nI 1))] [] := by
  obtain ⟨f1, f2, f3, f4, ad, lq, ld, lc, lt, hok, h0, hG, hR, hN, hr⟩ := fs_X_el hX
  obtain ⟨hk150, a, ha, hc, hl, hE⟩ := hr.2.1 k N hk
  obtain ⟨-, hk0, how, hlen, hes, hch, hdep⟩ := hok.2.2.2.2 k N hk
  refine fr_aload_n (pc := 0) d_FR_about_0 rfl rfl ?_
  refine fr_iload_n (pc := 1) d_FR_about_1 rfl rfl ?_
  refine fr_callv_p (pc := 2) (nc := 1) (ns := 6) (N := m_FR_nodeAt) (rest := []) (as := [.int (nI k)]) d_FR_about_2 vc_FR_63 ⟨by decide, by decide, Nat.le_of_ble_eq_true rfl⟩ (Nat.le_of_ble_eq_true rfl) h0 (c_FR_nodeAt h0 hN hk150 ha) rfl ?_
  refine fr_astore_n (pc := 5) (L2 := [(0, .ref o), (1, .int (nI k)), (2, .int (nI 1)), (3, .ref a)]) d_FR_about_5 rfl (by decide) rfl ?_
  refine fr_iload_n (pc := 6) d_FR_about_6 rfl rfl ?_
  refine fr_tableIn (pc := 7) (off := 64) (tgt := 71) d_FR_about_7 (by decide) (by decide) (by decide) (by decide) ?_
  refine fr_aload_n (pc := 71) d_FR_about_71 rfl rfl ?_
  refine fr_get (pc := 72) (v := .int (bI N.1)) d_FR_about_72 fg_FR_200 hc rfl ?_
  refine fr_if_eq (pc := 75) (tgt := 82) d_FR_about_75 (by decide) (fun q => ?_) (fun q => ?_)
  · refine fr_iconst (pc := 82) (v := 0) d_FR_about_82 (by decide) ?_
    refine fr_st (st2 := [.int (bI N.1)]) (by rw [bI_0.mp q]; rfl) ?_
    exact fr_iret rfl d_FR_about_83 ⟨rfl, hX, fs_Fr_id⟩
  · refine fr_iconst (pc := 78) (v := 1) d_FR_about_78 (by decide) ?_
    refine fr_goto (pc := 79) (tgt := 83) d_FR_about_79 (by decide) ?_
    refine fr_st (st2 := [.int (bI N.1)]) (by rw [ts_nf (fun z => q (bI_0.mpr z))]; rfl) ?_
    exact fr_iret rfl d_FR_about_83 ⟨rfl, hX, fs_Fr_id⟩
theorem p_FR_about_2 {g : fw_G} {w : fw_W} {o gr a1 a2 a3 a4 na us n : Nat} {hu hg : Nat → Nat → Bool} {nd : fs_D} (hX : fs_X g (o, gr, a1, a2, a3, a4, na) (us, n, hu, hg, nd) w) {k : Nat} {N : fs_N} (hk : nd k = some N) : fw_R g m_FR_about (fs_P g (o, gr, a1, a2, a3, a4, na) w (.inl (some (.int (nI N.2.2.1)))) (us, n, hu, hg, nd)) 2 12 w 0 [(0, .ref o), (1, .int (nI k)), (2, .int (nI 2))] [] := by
  obtain ⟨f1, f2, f3, f4, ad, lq, ld, lc, lt, hok, h0, hG, hR, hN, hr⟩ := fs_X_el hX
  obtain ⟨hk150, a, ha, hc, hl, hE⟩ := hr.2.1 k N hk
  obtain ⟨-, hk0, how, hlen, hes, hch, hdep⟩ := hok.2.2.2.2 k N hk
  refine fr_aload_n (pc := 0) d_FR_about_0 rfl rfl ?_
  refine fr_iload_n (pc := 1) d_FR_about_1 rfl rfl ?_
  refine fr_callv_p (pc := 2) (nc := 1) (ns := 6) (N := m_FR_nodeAt) (rest := []) (as := [.int (nI k)]) d_FR_about_2 vc_FR_63 ⟨by decide, by decide, Nat.le_of_ble_eq_true rfl⟩ (Nat.le_of_ble_eq_true rfl) h0 (c_FR_nodeAt h0 hN hk150 ha) rfl ?_
  refine fr_astore_n (pc := 5) (L2 := [(0, .ref o), (1, .int (nI k)), (2, .int (nI 2)), (3, .ref a)]) d_FR_about_5 rfl (by decide) rfl ?_
  refine fr_iload_n (pc := 6) d_FR_about_6 rfl rfl ?_
  refine fr_tableIn (pc := 7) (off := 77) (tgt := 84) d_FR_about_7 (by decide) (by decide) (by decide) (by decide) ?_
  refine fr_aload_n (pc := 84) d_FR_about_84 rfl rfl ?_
  refine fr_get (pc := 85) (v := .int (nI N.2.2.1)) d_FR_about_85 fg_FR_156 hc rfl ?_
  exact fr_iret rfl d_FR_about_88 ⟨rfl, hX, fs_Fr_id⟩
theorem p_FR_about_3 {g : fw_G} {w : fw_W} {o gr a1 a2 a3 a4 na us n : Nat} {hu hg : Nat → Nat → Bool} {nd : fs_D} (hX : fs_X g (o, gr, a1, a2, a3, a4, na) (us, n, hu, hg, nd) w) {k : Nat} {N : fs_N} (hk : nd k = some N) : fw_R g m_FR_about (fs_P g (o, gr, a1, a2, a3, a4, na) w (.inl (some (.int (bI N.2.2.2.1)))) (us, n, hu, hg, nd)) 2 12 w 0 [(0, .ref o), (1, .int (nI k)), (2, .int (nI 3))] [] := by
  obtain ⟨f1, f2, f3, f4, ad, lq, ld, lc, lt, hok, h0, hG, hR, hN, hr⟩ := fs_X_el hX
  obtain ⟨hk150, a, ha, hc, hl, hE⟩ := hr.2.1 k N hk
  obtain ⟨-, hk0, how, hlen, hes, hch, hdep⟩ := hok.2.2.2.2 k N hk
  refine fr_aload_n (pc := 0) d_FR_about_0 rfl rfl ?_
  refine fr_iload_n (pc := 1) d_FR_about_1 rfl rfl ?_
  refine fr_callv_p (pc := 2) (nc := 1) (ns := 6) (N := m_FR_nodeAt) (rest := []) (as := [.int (nI k)]) d_FR_about_2 vc_FR_63 ⟨by decide, by decide, Nat.le_of_ble_eq_true rfl⟩ (Nat.le_of_ble_eq_true rfl) h0 (c_FR_nodeAt h0 hN hk150 ha) rfl ?_
  refine fr_astore_n (pc := 5) (L2 := [(0, .ref o), (1, .int (nI k)), (2, .int (nI 3)), (3, .ref a)]) d_FR_about_5 rfl (by decide) rfl ?_
  refine fr_iload_n (pc := 6) d_FR_about_6 rfl rfl ?_
  refine fr_tableIn (pc := 7) (off := 82) (tgt := 89) d_FR_about_7 (by decide) (by decide) (by decide) (by decide) ?_
  refine fr_aload_n (pc := 89) d_FR_about_89 rfl rfl ?_
  refine fr_get (pc := 90) (v := .int (bI N.2.2.2.1)) d_FR_about_90 fg_FR_153 hc rfl ?_
  refine fr_if_eq (pc := 93) (tgt := 100) d_FR_about_93 (by decide) (fun q => ?_) (fun q => ?_)
  · refine fr_iconst (pc := 100) (v := 0) d_FR_about_100 (by decide) ?_
    refine fr_st (st2 := [.int (bI N.2.2.2.1)]) (by rw [bI_0.mp q]; rfl) ?_
    exact fr_iret rfl d_FR_about_101 ⟨rfl, hX, fs_Fr_id⟩
  · refine fr_iconst (pc := 96) (v := 1) d_FR_about_96 (by decide) ?_
    refine fr_goto (pc := 97) (tgt := 101) d_FR_about_97 (by decide) ?_
    refine fr_st (st2 := [.int (bI N.2.2.2.1)]) (by rw [ts_nf (fun z => q (bI_0.mpr z))]; rfl) ?_
    exact fr_iret rfl d_FR_about_101 ⟨rfl, hX, fs_Fr_id⟩
theorem p_FR_about_4 {g : fw_G} {w : fw_W} {o gr a1 a2 a3 a4 na us n : Nat} {hu hg : Nat → Nat → Bool} {nd : fs_D} (hX : fs_X g (o, gr, a1, a2, a3, a4, na) (us, n, hu, hg, nd) w) {k : Nat} {N : fs_N} (hk : nd k = some N) : fw_R g m_FR_about (fs_P g (o, gr, a1, a2, a3, a4, na) w (.inl (some (.int (nI (fs_ab nd k).length)))) (us, n, hu, hg, nd)) 2 12 w 0 [(0, .ref o), (1, .int (nI k)), (2, .int (nI 4))] [] := by
  obtain ⟨f1, f2, f3, f4, ad, lq, ld, lc, lt, hok, h0, hG, hR, hN, hr⟩ := fs_X_el hX
  obtain ⟨hk150, a, ha, hc, hl, hE⟩ := hr.2.1 k N hk
  obtain ⟨-, hk0, how, hlen, hes, hch, hdep⟩ := hok.2.2.2.2 k N hk
  refine fr_aload_n (pc := 0) d_FR_about_0 rfl rfl ?_
  refine fr_iload_n (pc := 1) d_FR_about_1 rfl rfl ?_
  refine fr_callv_p (pc := 2) (nc := 1) (ns := 6) (N := m_FR_nodeAt) (rest := []) (as := [.int (nI k)]) d_FR_about_2 vc_FR_63 ⟨by decide, by decide, Nat.le_of_ble_eq_true rfl⟩ (Nat.le_of_ble_eq_true rfl) h0 (c_FR_nodeAt h0 hN hk150 ha) rfl ?_
  refine fr_astore_n (pc := 5) (L2 := [(0, .ref o), (1, .int (nI k)), (2, .int (nI 4)), (3, .ref a)]) d_FR_about_5 rfl (by decide) rfl ?_
  refine fr_iload_n (pc := 6) d_FR_about_6 rfl rfl ?_
  refine fr_tableIn (pc := 7) (off := 95) (tgt := 102) d_FR_about_7 (by decide) (by decide) (by decide) (by decide) ?_
  refine fr_aload_n (pc := 102) d_FR_about_102 rfl rfl ?_
  refine fr_callv_p (pc := 103) (nc := 1) (ns := 6) (N := m_ND_depth) (rest := []) (as := []) d_FR_about_103 vc_FR_80 ⟨by decide, by decide, Nat.le_of_ble_eq_true rfl⟩ (Nat.le_of_ble_eq_true rfl) hc (c_dep hr hch ha) rfl ?_
  exact fr_iret rfl d_FR_about_106 ⟨rfl, hX, fs_Fr_id⟩
theorem p_FR_about_5 {g : fw_G} {w : fw_W} {o gr a1 a2 a3 a4 na us n : Nat} {hu hg : Nat → Nat → Bool} {nd : fs_D} (hX : fs_X g (o, gr, a1, a2, a3, a4, na) (us, n, hu, hg, nd) w) {k : Nat} {N : fs_N} (hk : nd k = some N) : fw_R g m_FR_about (fs_P g (o, gr, a1, a2, a3, a4, na) w (.inl (some (.int (nI N.2.2.2.2.2.length)))) (us, n, hu, hg, nd)) 2 12 w 0 [(0, .ref o), (1, .int (nI k)), (2, .int (nI 5))] [] := by
  obtain ⟨f1, f2, f3, f4, ad, lq, ld, lc, lt, hok, h0, hG, hR, hN, hr⟩ := fs_X_el hX
  obtain ⟨hk150, a, ha, hc, hl, hE⟩ := hr.2.1 k N hk
  obtain ⟨-, hk0, how, hlen, hes, hch, hdep⟩ := hok.2.2.2.2 k N hk
  refine fr_aload_n (pc := 0) d_FR_about_0 rfl rfl ?_
  refine fr_iload_n (pc := 1) d_FR_about_1 rfl rfl ?_
  refine fr_callv_p (pc := 2) (nc := 1) (ns := 6) (N := m_FR_nodeAt) (rest := []) (as := [.int (nI k)]) d_FR_about_2 vc_FR_63 ⟨by decide, by decide, Nat.le_of_ble_eq_true rfl⟩ (Nat.le_of_ble_eq_true rfl) h0 (c_FR_nodeAt h0 hN hk150 ha) rfl ?_
  refine fr_astore_n (pc := 5) (L2 := [(0, .ref o), (1, .int (nI k)), (2, .int (nI 5)), (3, .ref a)]) d_FR_about_5 rfl (by decide) rfl ?_
  refine fr_iload_n (pc := 6) d_FR_about_6 rfl rfl ?_
  refine fr_tableIn (pc := 7) (off := 100) (tgt := 107) d_FR_about_7 (by decide) (by decide) (by decide) (by decide) ?_
  refine fr_aload_n (pc := 107) d_FR_about_107 rfl rfl ?_
  refine fr_get (pc := 108) (v := .ref (lq k)) d_FR_about_108 fg_FR_119 hc rfl ?_
  obtain ⟨mc, hl1, -⟩ := id hl
  refine fr_callv_p (pc := 111) (nc := 1) (ns := 6) (N := m_AL_size) (rest := []) (as := []) d_FR_about_111 vc_FR_123 ⟨by decide, by decide, Nat.le_of_ble_eq_true rfl⟩ (Nat.le_of_ble_eq_true rfl) hl1 (c_AL_size hl) rfl ?_
  refine fr_st (st2 := [.int (nI N.2.2.2.2.2.length)]) (by rw [hE.1]) ?_
  exact fr_iret rfl d_FR_about_114 ⟨rfl, hX, fs_Fr_id⟩
theorem p_FR_about_6 {g : fw_G} {w : fw_W} {o gr a1 a2 a3 a4 na us n : Nat} {hu hg : Nat → Nat → Bool} {nd : fs_D} (hX : fs_X g (o, gr, a1, a2, a3, a4, na) (us, n, hu, hg, nd) w) {k : Nat} {N : fs_N} (hk : nd k = some N) : fw_R g m_FR_about (fs_P g (o, gr, a1, a2, a3, a4, na) w (.inl (some (.int (nI (fs_sum (fs_f4 nd k) 150 0))))) (us, n, hu, hg, nd)) 2 12 w 0 [(0, .ref o), (1, .int (nI k)), (2, .int (nI 6))] [] := by
  obtain ⟨f1, f2, f3, f4, ad, lq, ld, lc, lt, hok, h0, hG, hR, hN, hr⟩ := fs_X_el hX
  obtain ⟨hk150, a, ha, hc, hl, hE⟩ := hr.2.1 k N hk
  obtain ⟨-, hk0, how, hlen, hes, hch, hdep⟩ := hok.2.2.2.2 k N hk
  refine fr_aload_n (pc := 0) d_FR_about_0 rfl rfl ?_
  refine fr_iload_n (pc := 1) d_FR_about_1 rfl rfl ?_
  refine fr_callv_p (pc := 2) (nc := 1) (ns := 6) (N := m_FR_nodeAt) (rest := []) (as := [.int (nI k)]) d_FR_about_2 vc_FR_63 ⟨by decide, by decide, Nat.le_of_ble_eq_true rfl⟩ (Nat.le_of_ble_eq_true rfl) h0 (c_FR_nodeAt h0 hN hk150 ha) rfl ?_
  refine fr_astore_n (pc := 5) (L2 := [(0, .ref o), (1, .int (nI k)), (2, .int (nI 6)), (3, .ref a)]) d_FR_about_5 rfl (by decide) rfl ?_
  refine fr_iload_n (pc := 6) d_FR_about_6 rfl rfl ?_
  refine fr_tableIn (pc := 7) (off := 108) (tgt := 115) d_FR_about_7 (by decide) (by decide) (by decide) (by decide) ?_
  refine fr_aload_n (pc := 115) d_FR_about_115 rfl rfl ?_
  refine fr_aload_n (pc := 116) d_FR_about_116 rfl rfl ?_
  refine fr_callv_p (pc := 117) (nc := 1) (ns := 6) (N := m_FR_childrenOf) (rest := []) (as := [.ref a]) d_FR_about_117 vc_FR_114 ⟨by decide, by decide, Nat.le_of_ble_eq_true rfl⟩ (Nat.le_of_ble_eq_true rfl) h0 (by have hh := c_FR_childrenOf (nc := 0) (ns := 0) h0 hN hr (fs_ok_ch hok) hk ha; rw [Nat.zero_add] at hh; exact hh) rfl ?_
  exact fr_iret rfl d_FR_about_120 ⟨rfl, hX, fs_Fr_id⟩
theorem p_FR_about_7 {g : fw_G} {w : fw_W} {o gr a1 a2 a3 a4 na us n : Nat} {hu hg : Nat → Nat → Bool} {nd : fs_D} (hX : fs_X g (o, gr, a1, a2, a3, a4, na) (us, n, hu, hg, nd) w) {k : Nat} {N : fs_N} (hk : nd k = some N) : fw_R g m_FR_about (fs_P g (o, gr, a1, a2, a3, a4, na) w (.inl (some (.int (bI N.2.2.2.2.1)))) (us, n, hu, hg, nd)) 2 12 w 0 [(0, .ref o), (1, .int (nI k)), (2, .int (nI 7))] [] := by
  obtain ⟨f1, f2, f3, f4, ad, lq, ld, lc, lt, hok, h0, hG, hR, hN, hr⟩ := fs_X_el hX
  obtain ⟨hk150, a, ha, hc, hl, hE⟩ := hr.2.1 k N hk
  obtain ⟨-, hk0, how, hlen, hes, hch, hdep⟩ := hok.2.2.2.2 k N hk
  refine fr_aload_n (pc := 0) d_FR_about_0 rfl rfl ?_
  refine fr_iload_n (pc := 1) d_FR_about_1 rfl rfl ?_
  refine fr_callv_p (pc := 2) (nc := 1) (ns := 6) (N := m_FR_nodeAt) (rest := []) (as := [.int (nI k)]) d_FR_about_2 vc_FR_63 ⟨by decide, by decide, Nat.le_of_ble_eq_true rfl⟩ (Nat.le_of_ble_eq_true rfl) h0 (c_FR_nodeAt h0 hN hk150 ha) rfl ?_
  refine fr_astore_n (pc := 5) (L2 := [(0, .ref o), (1, .int (nI k)), (2, .int (nI 7)), (3, .ref a)]) d_FR_about_5 rfl (by decide) rfl ?_
  refine fr_iload_n (pc := 6) d_FR_about_6 rfl rfl ?_
  refine fr_tableIn (pc := 7) (off := 114) (tgt := 121) d_FR_about_7 (by decide) (by decide) (by decide) (by decide) ?_
  refine fr_aload_n (pc := 121) d_FR_about_121 rfl rfl ?_
  refine fr_get (pc := 122) (v := .int (bI N.2.2.2.2.1)) d_FR_about_122 fg_FR_110 hc rfl ?_
  refine fr_if_eq (pc := 125) (tgt := 132) d_FR_about_125 (by decide) (fun q => ?_) (fun q => ?_)
  · refine fr_iconst (pc := 132) (v := 0) d_FR_about_132 (by decide) ?_
    refine fr_st (st2 := [.int (bI N.2.2.2.2.1)]) (by rw [bI_0.mp q]; rfl) ?_
    exact fr_iret rfl d_FR_about_133 ⟨rfl, hX, fs_Fr_id⟩
  · refine fr_iconst (pc := 128) (v := 1) d_FR_about_128 (by decide) ?_
    refine fr_goto (pc := 129) (tgt := 133) d_FR_about_129 (by decide) ?_
    refine fr_st (st2 := [.int (bI N.2.2.2.2.1)]) (by rw [ts_nf (fun z => q (bI_0.mpr z))]; rfl) ?_
    exact fr_iret rfl d_FR_about_133 ⟨rfl, hX, fs_Fr_id⟩
theorem p_FR_about_n1 {g : fw_G} {w : fw_W} {o gr a1 a2 a3 a4 na us n : Nat} {hu hg : Nat → Nat → Bool} {nd : fs_D} (hX : fs_X g (o, gr, a1, a2, a3, a4, na) (us, n, hu, hg, nd) w) {x y : Int32} (hx : ∀ k, x = nI k → nd k = none) : fw_R g m_FR_about (fs_P g (o, gr, a1, a2, a3, a4, na) w (.inr "java/util/NoSuchElementException") (us, n, hu, hg, nd)) 2 12 w 0 [(0, .ref o), (1, .int x), (2, .int y)] [] := by
  obtain ⟨f1, f2, f3, f4, ad, lq, ld, lc, lt, hok, h0, hG, hR, hN, hr⟩ := fs_X_el hX
  refine fr_aload_n (pc := 0) d_FR_about_0 rfl rfl ?_
  refine fr_iload_n (pc := 1) d_FR_about_1 rfl rfl ?_
  refine fr_callv_x (pc := 2) (nc := 1) (ns := 6) (N := m_FR_nodeAt) (rest := []) (as := [.int x]) d_FR_about_2 vc_FR_63 ⟨by decide, by decide, Nat.le_of_ble_eq_true rfl⟩ (Nat.le_of_ble_eq_true rfl) h0 (x_FR_nodeAt h0 hN (fun k _ e => hr.1 k (hx k e))) rfl ?_
  exact fx_out (by decide) ⟨rfl, hX, fs_Fr_id⟩
theorem p_FR_about_n2 {g : fw_G} {w : fw_W} {o gr a1 a2 a3 a4 na us n : Nat} {hu hg : Nat → Nat → Bool} {nd : fs_D} (hX : fs_X g (o, gr, a1, a2, a3, a4, na) (us, n, hu, hg, nd) w) {k : Nat} {N : fs_N} (hk : nd k = some N) {y : Int32} (hy : fs_no2 y 8) : fw_R g m_FR_about (fs_P g (o, gr, a1, a2, a3, a4, na) w (.inr "java/lang/IllegalArgumentException") (us, n, hu, hg, nd)) 2 12 w 0 [(0, .ref o), (1, .int (nI k)), (2, .int y)] [] := by
  obtain ⟨f1, f2, f3, f4, ad, lq, ld, lc, lt, hok, h0, hG, hR, hN, hr⟩ := fs_X_el hX
  obtain ⟨hk150, a, ha, hc, hl, hE⟩ := hr.2.1 k N hk
  obtain ⟨-, hk0, how, hlen, hes, hch, hdep⟩ := hok.2.2.2.2 k N hk
  refine fr_aload_n (pc := 0) d_FR_about_0 rfl rfl ?_
  refine fr_iload_n (pc := 1) d_FR_about_1 rfl rfl ?_
  refine fr_callv_p (pc := 2) (nc := 1) (ns := 6) (N := m_FR_nodeAt) (rest := []) (as := [.int (nI k)]) d_FR_about_2 vc_FR_63 ⟨by decide, by decide, Nat.le_of_ble_eq_true rfl⟩ (Nat.le_of_ble_eq_true rfl) h0 (c_FR_nodeAt h0 hN hk150 ha) rfl ?_
  refine fr_astore_n (pc := 5) (L2 := [(0, .ref o), (1, .int (nI k)), (2, .int y), (3, .ref a)]) d_FR_about_5 rfl (by decide) rfl ?_
  refine fr_iload_n (pc := 6) d_FR_about_6 rfl rfl ?_
  refine fr_tableOut (pc := 7) (tgt := 134) d_FR_about_7 (fs_no2_out (by decide) hy) (by decide) ?_
  exact fr_throw (pc := 134) (nc := 0) (ns := 0) th_FR_203 d_FR_about_134 d_FR_about_137 d_FR_about_138 d_FR_about_140 d_FR_about_143 (by decide) (by decide) (by decide) ⟨rfl, hX, fs_Fr_id⟩
theorem p_FR_count_0 {g : fw_G} {w : fw_W} {o gr a1 a2 a3 a4 na us n : Nat} {hu hg : Nat → Nat → Bool} {nd : fs_D} (hX : fs_X g (o, gr, a1, a2, a3, a4, na) (us, n, hu, hg, nd) w)  : fw_R g m_FR_count (fs_P g (o, gr, a1, a2, a3, a4, na) w (.inl (some (.int (nI us)))) (us, n, hu, hg, nd)) 1 6 w 0 [(0, .ref o), (1, .int (nI 0))] [] := by
  obtain ⟨f1, f2, f3, f4, ad, lq, ld, lc, lt, hok, h0, hG, hR, hN, hr⟩ := fs_X_el hX
  refine fr_iload_n (pc := 0) d_FR_count_0 rfl rfl ?_
  refine fr_tableIn (pc := 1) (off := 35) (tgt := 36) d_FR_count_1 (by decide) (by decide) (by decide) (by decide) ?_
  refine fr_aload_n (pc := 36) d_FR_count_36 rfl rfl ?_
  refine fr_get (pc := 37) (v := .int (nI us)) d_FR_count_37 fg_FR_25 h0 rfl ?_
  exact fr_iret rfl d_FR_count_40 ⟨rfl, hX, fs_Fr_id⟩
theorem p_FR_count_1 {g : fw_G} {w : fw_W} {o gr a1 a2 a3 a4 na us n : Nat} {hu hg : Nat → Nat → Bool} {nd : fs_D} (hX : fs_X g (o, gr, a1, a2, a3, a4, na) (us, n, hu, hg, nd) w)  : fw_R g m_FR_count (fs_P g (o, gr, a1, a2, a3, a4, na) w (.inl (some (.int (nI n)))) (us, n, hu, hg, nd)) 1 6 w 0 [(0, .ref o), (1, .int (nI 1))] [] := by
  obtain ⟨f1, f2, f3, f4, ad, lq, ld, lc, lt, hok, h0, hG, hR, hN, hr⟩ := fs_X_el hX
  refine fr_iload_n (pc := 0) d_FR_count_0 rfl rfl ?_
  refine fr_tableIn (pc := 1) (off := 40) (tgt := 41) d_FR_count_1 (by decide) (by decide) (by decide) (by decide) ?_
  refine fr_aload_n (pc := 41) d_FR_count_41 rfl rfl ?_
  refine fr_get (pc := 42) (v := .ref gr) d_FR_count_42 fg_FR_10 h0 rfl ?_
  refine fr_get (pc := 45) (v := .int (nI n)) d_FR_count_45 fg_FR_36 hG.1 rfl ?_
  exact fr_iret rfl d_FR_count_48 ⟨rfl, hX, fs_Fr_id⟩
theorem p_FR_count_2 {g : fw_G} {w : fw_W} {o gr a1 a2 a3 a4 na us n : Nat} {hu hg : Nat → Nat → Bool} {nd : fs_D} (hX : fs_X g (o, gr, a1, a2, a3, a4, na) (us, n, hu, hg, nd) w)  : fw_R g m_FR_count (fs_P g (o, gr, a1, a2, a3, a4, na) w (.inl (some (.int (nI (fs_sum (fs_f1 nd) 150 0))))) (us, n, hu, hg, nd)) 1 6 w 0 [(0, .ref o), (1, .int (nI 2))] [] := by
  obtain ⟨f1, f2, f3, f4, ad, lq, ld, lc, lt, hok, h0, hG, hR, hN, hr⟩ := fs_X_el hX
  refine fr_iload_n (pc := 0) d_FR_count_0 rfl rfl ?_
  refine fr_tableIn (pc := 1) (off := 48) (tgt := 49) d_FR_count_1 (by decide) (by decide) (by decide) (by decide) ?_
  refine fr_aload_n (pc := 49) d_FR_count_49 rfl rfl ?_
  refine fr_callv_p (pc := 50) (nc := 1) (ns := 6) (N := m_FR_countNodes) (rest := []) (as := []) d_FR_count_50 vc_FR_205 ⟨by decide, by decide, Nat.le_of_ble_eq_true rfl⟩ (Nat.le_of_ble_eq_true rfl) h0 (by have hh := c_FR_countNodes (nc := 0) (ns := 0) h0 hN hr; rw [Nat.zero_add] at hh; exact hh) rfl ?_
  exact fr_iret rfl d_FR_count_53 ⟨rfl, hX, fs_Fr_id⟩
theorem p_FR_count_3 {g : fw_G} {w : fw_W} {o gr a1 a2 a3 a4 na us n : Nat} {hu hg : Nat → Nat → Bool} {nd : fs_D} (hX : fs_X g (o, gr, a1, a2, a3, a4, na) (us, n, hu, hg, nd) w)  : fw_R g m_FR_count (fs_P g (o, gr, a1, a2, a3, a4, na) w (.inl (some (.int (nI (fs_sum (fs_f2 nd) 150 0))))) (us, n, hu, hg, nd)) 1 6 w 0 [(0, .ref o), (1, .int (nI 3))] [] := by
  obtain ⟨f1, f2, f3, f4, ad, lq, ld, lc, lt, hok, h0, hG, hR, hN, hr⟩ := fs_X_el hX
  refine fr_iload_n (pc := 0) d_FR_count_0 rfl rfl ?_
  refine fr_tableIn (pc := 1) (off := 53) (tgt := 54) d_FR_count_1 (by decide) (by decide) (by decide) (by decide) ?_
  refine fr_aload_n (pc := 54) d_FR_count_54 rfl rfl ?_
  refine fr_callv_p (pc := 55) (nc := 1) (ns := 6) (N := m_FR_countEntries) (rest := []) (as := []) d_FR_count_55 vc_FR_208 ⟨by decide, by decide, Nat.le_of_ble_eq_true rfl⟩ (Nat.le_of_ble_eq_true rfl) h0 (by have hh := c_FR_countEntries (nc := 0) (ns := 0) h0 hN hr; rw [Nat.zero_add] at hh; exact hh) rfl ?_
  exact fr_iret rfl d_FR_count_58 ⟨rfl, hX, fs_Fr_id⟩
theorem p_FR_count_n {g : fw_G} {w : fw_W} {o gr a1 a2 a3 a4 na us n : Nat} {hu hg : Nat → Nat → Bool} {nd : fs_D} (hX : fs_X g (o, gr, a1, a2, a3, a4, na) (us, n, hu, hg, nd) w) {x : Int32} (hx : fs_no2 x 5) : fw_R g m_FR_count (fs_P g (o, gr, a1, a2, a3, a4, na) w (.inr "java/lang/IllegalArgumentException") (us, n, hu, hg, nd)) 1 6 w 0 [(0, .ref o), (1, .int x)] [] := by
  obtain ⟨f1, f2, f3, f4, ad, lq, ld, lc, lt, hok, h0, hG, hR, hN, hr⟩ := fs_X_el hX
  refine fr_iload_n (pc := 0) d_FR_count_0 rfl rfl ?_
  refine fr_tableOut (pc := 1) (tgt := 67) d_FR_count_1 (fs_no2_out (by decide) hx) (by decide) ?_
  exact fr_throw (pc := 67) (nc := 0) (ns := 0) th_FR_214 d_FR_count_67 d_FR_count_70 d_FR_count_71 d_FR_count_73 d_FR_count_76 (by decide) (by decide) (by decide) ⟨rfl, hX, fs_Fr_id⟩
end
section
def fs_wk (nd : fs_D) (i : Nat) : fs_D := fun k => match nd k with
  | some N => some (if k < i then fs_st N false else N)
  | none => none
theorem fs_wk_0 {nd : fs_D} : fs_wk nd 0 = nd := by
  funext k
  cases h : nd k with
  | none => simp [fs_wk, h]
  | some N => simp [fs_wk, h]
theorem fs_wk_at {nd : fs_D} {k : Nat} : fs_wk nd k k = nd k := by
  cases h : nd k with
  | none => simp [fs_wk, h]
  | some N => simp [fs_wk, h]
theorem fs_wk_no {nd : fs_D} {k : Nat} (h : nd k = none) : fs_wk nd (k + 1) = fs_wk nd k := by
  funext j
  cases hj : nd j with
  | none => simp [fs_wk, hj]
  | some N =>
    have e : j ≠ k := fun e => by subst e; rw [h] at hj; cases hj
    have e2 : j < k + 1 ↔ j < k := by omega
    simp only [fs_wk, hj, e2]
theorem fs_wk_yes {nd : fs_D} {k : Nat} {N : fs_N} (h : nd k = some N) : fs_wk nd (k + 1) = va_up (fs_wk nd k) k (some (fs_st N false)) := by
  funext j
  by_cases e : j = k
  · subst e
    rw [vu_self]
    simp only [fs_wk, h]
    rw [if_pos (by omega)]
  · rw [vu_ne e]
    cases hj : nd j with
    | none => simp [fs_wk, hj]
    | some M =>
      have e2 : j < k + 1 ↔ j < k := by omega
      simp only [fs_wk, hj, e2]
theorem fs_wk_pa {nd : fs_D} {i : Nat} (k : Nat) : (fs_wk nd i k).map (fun N => N.2.1) = (nd k).map (fun N => N.2.1) := by
  cases h : nd k with
  | none => simp [fs_wk, h]
  | some N =>
    simp only [fs_wk, h, Option.map_some]
    split <;> rfl
theorem fs_ok_wk {us n : Nat} {nd : fs_D} (h : fs_ok us n nd) {i : Nat} : fs_ok us n (fs_wk nd i) := by
  refine fs_ok_t h fs_wk_pa (fun j M hj => ?_)
  cases hk : nd j with
  | none => simp [fs_wk, hk] at hj
  | some N =>
    obtain ⟨-, -, e3, e4, e5, -⟩ := h.2.2.2.2 j N hk
    simp only [fs_wk, hk] at hj
    split at hj <;> (cases hj; exact ⟨e3, e4, e5⟩)
noncomputable def fs_wp (hu hg : Nat → Nat → Bool) (nd : fs_D) (r u i : Nat) : Bool := match nd i with
  | some N => fs_has hu hg (fs_wk nd (i + 1)) (fs_st N false) i r u
  | none => false
def fs_wS (nd : fs_D) (q : Option Nat) : fs_D := match q with
  | some i => fs_wk nd (i + 1)
  | none => fs_wk nd 150
theorem c_FR_where_l {g : fw_G} {nc ns : Nat} {w : fw_W} {o gr na us : Nat} (h0 : w o = some (.inr (0, [.ref gr, .ref na, .int (nI us)]))) {ng a1 a2 a3 a4 : Nat} {f1 f2 f3 f4 : Nat → Int64} (hG : gr_at g w gr a1 a2 a3 a4 ng f1 f2 f3 f4) {nd : fs_D} {ad : Nat → Option Nat} {lq ld lc : Nat → Nat} {lt : Nat → List Nat} (hN : w na = some (fs_no g ad)) (hok : fs_ok us ng nd) {hu hg : Nat → Nat → Bool} (hR : gr_rep hu hg ng us f1 f2 f3 f4) {r u qq : Nat} (hr8 : r < 8) (hu2 : u < us) (hq : qq < 2 ^ 31) : ∀ m i c, i + m = 150 → c ≤ i → ∀ w2, fs_rN g w2 (fs_wk nd i) ad lq ld lc lt → fs_F2 w w2 → ∀ L : List (Nat × Value), L = [(0, .ref o), (1, .int (nI u)), (2, .int (nI r)), (3, .int (nI qq)), (4, .int (nI c)), (5, .ref na), (6, .int (nI 150)), (7, .int (nI i))] → fw_R g m_FR_where (fun r9 u9 => r9 = .inl (some (.int (fs_ov (fs_wh (fs_wp hu hg nd r u) qq m i c)))) ∧ fs_rN g u9 (fs_wS nd (fs_wh (fs_wp hu hg nd r u) qq m i c)) ad lq ld lc lt ∧ fs_F2 w u9) nc ns w2 30 L [] := by
  have hus := hok.2.1
  intro m
  induction m with
  | zero =>
    intro i c hi hci w2 hr hF L hL
    have hk2 : i = 150 := by omega
    subst hk2 hL
    refine fr_iload (pc := 30) d_FR_where_30 rfl ?_
    refine fr_iload (pc := 32) d_FR_where_32 rfl ?_
    refine fr_icmp_ge (pc := 34) (tgt := 90) d_FR_where_34 (by decide) (fun q => ?_) (fun q => ?_)
    · refine fr_iconst (pc := 90) (v := -1) d_FR_where_90 (by decide) ?_
      exact fr_iret rfl d_FR_where_91 ⟨rfl, hr, hF⟩
    · exact absurd ((ni_le (a := 150) (b := 150) (by omega) (by omega)).mpr (by omega)) q
  | succ m ih =>
    intro i c hi hci w2 hr hF L hL
    subst hL
    have hN2 : w2 na = some (fs_no g ad) := fs_F2_3 hF na hN (fun fs z => by cases z)
    refine fr_iload (pc := 30) d_FR_where_30 rfl ?_
    refine fr_iload (pc := 32) d_FR_where_32 rfl ?_
    refine fr_icmp_ge (pc := 34) (tgt := 90) d_FR_where_34 (by decide) (fun q => ?_) (fun q => ?_)
    · exact absurd ((ni_le (a := 150) (by omega) (by omega)).mp q) (by omega)
    · refine fr_aload (pc := 37) d_FR_where_37 rfl ?_
      refine fr_iload (pc := 39) d_FR_where_39 rfl ?_
      refine fr_aaldN (pc := 41) (t := 3) (n := 150) (k := i) (C := "FolderRights$Node") (f := ad) d_FR_where_41 rfl hN2 (by omega) (by omega) ?_
      cases hA : nd i with
      | none =>
        refine fr_st (st2 := [.null]) (by rw [rf_none (hr.1 i (fs_wk_at.trans hA))]) ?_
        refine fr_astoreN (pc := 42) (L2 := [(0, .ref o), (1, .int (nI u)), (2, .int (nI r)), (3, .int (nI qq)), (4, .int (nI c)), (5, .ref na), (6, .int (nI 150)), (7, .int (nI i)), (8, .null)]) d_FR_where_42 (by decide) rfl ?_
        refine fr_aloadN (pc := 44) d_FR_where_44 rfl ?_
        refine fr_ifnullN (pc := 46) (tgt := 84) d_FR_where_46 (by decide) ?_
        refine fr_iinc (pc := 84) (v := (nI (i + 1))) (L2 := [(0, .ref o), (1, .int (nI u)), (2, .int (nI r)), (3, .int (nI qq)), (4, .int (nI c)), (5, .ref na), (6, .int (nI 150)), (7, .int (nI (i + 1))), (8, .null)]) d_FR_where_84 rfl (fi_1 _) (by decide) rfl ?_
        refine fr_goto (pc := 87) (tgt := 30) d_FR_where_87 (by decide) ?_
        have hP : fs_wp hu hg nd r u i = false := by simp [fs_wp, hA]
        rw [← fs_wk_no hA] at hr
        have e : fs_wh (fs_wp hu hg nd r u) qq (m + 1) i c = fs_wh (fs_wp hu hg nd r u) qq m (i + 1) c := by rw [fs_wh, if_neg (by rw [hP]; decide)]
        rw [e]
        exact fr_Ld (ih (i + 1) c (by omega) (by omega) _ hr hF _ rfl)
      | some N =>
        have hB : fs_wk nd i i = some N := fs_wk_at.trans hA
        obtain ⟨-, a, ha, hc, -, -⟩ := hr.2.1 i N hB
        refine fr_st (st2 := [.ref a]) (by rw [rf_some ha]) ?_
        refine fr_astore (pc := 42) (L2 := [(0, .ref o), (1, .int (nI u)), (2, .int (nI r)), (3, .int (nI qq)), (4, .int (nI c)), (5, .ref na), (6, .int (nI 150)), (7, .int (nI i)), (8, .ref a)]) d_FR_where_42 (by decide) rfl ?_
        refine fr_aload (pc := 44) d_FR_where_44 rfl ?_
        refine fr_ifnull (pc := 46) d_FR_where_46 ?_
        refine fr_aload (pc := 49) d_FR_where_49 rfl ?_
        refine fr_iconst (pc := 51) (v := 0) d_FR_where_51 (by decide) ?_
        refine fr_put (pc := 52) (fs2 := fs_nc i (fs_st N false) (lq i) (N.2.1.bind ad)) d_FR_where_52 fp_FR_where_110 hc (Nat.le_of_ble_eq_true rfl) rfl rfl rfl ?_
        have hr3 := fs_rN_put hr (N2 := fs_st N false) hB ha rfl
        rw [← fs_wk_yes hA] at hr3
        have hF3 := fs_F2_up2 (x := .inr (2, fs_nc i (fs_st N false) (lq i) (N.2.1.bind ad))) hF hc
        have h03 := fs_F2_3 hF3 _ h0 (fun fs z => by cases z)
        have hG3 := fs_gr_fr hG (fun b e hb h1 _ => fs_F2_3 hF3 b hb (fun fs z => by have := h1 2 fs z; omega))
        have hok3 : fs_ok us ng (fs_wk nd (i + 1)) := fs_ok_wk hok
        have hA3 : fs_wk nd (i + 1) i = some (fs_st N false) := by rw [fs_wk_yes hA, vu_self]
        refine fr_aload_n (pc := 55) d_FR_where_55 rfl rfl ?_
        refine fr_aload (pc := 56) d_FR_where_56 rfl ?_
        refine fr_iload_n (pc := 58) d_FR_where_58 rfl rfl ?_
        refine fr_callv_p (pc := 59) (nc := nc) (ns := ns) (N := m_FR_holders) (rest := []) (as := [.ref a, .int (nI r)]) d_FR_where_59 vc_FR_159 ⟨by decide, by decide, Nat.le_of_ble_eq_true rfl⟩ (Nat.le_of_ble_eq_true rfl) h03 (c_FR_hold h03 hG3 hr3 hok3 hA3 ha hr8) rfl ?_
        refine fr_iload_n (pc := 62) d_FR_where_62 rfl rfl ?_
        refine fr_calls_p (pc := 63) (nc := nc) (ns := ns) (N := m_FR_isSet) (rest := []) (as := [.long (fs_hs (fs_wk nd (i + 1)) f4 (fs_st N false) i r (if r = 7 then (1 : Int64) <<< ((nI (fs_st N false).2.2.1).toInt64 &&& 63) else 0) (if r = 7 then (1 : Int64) <<< ((nI (fs_st N false).2.2.1).toInt64 &&& 63) else 0) (fs_ls (fs_wk nd (i + 1)) i)), .int (nI u)]) d_FR_where_63 k_FR_isSet lk_FR_163 sc_FR_isSet np_FR_isSet ⟨by decide, by decide, Nat.le_of_ble_eq_true rfl⟩ (Nat.le_of_ble_eq_true rfl) (c_FR_isSet (by omega)) rfl ?_
        have hP : bb (fs_hs (fs_wk nd (i + 1)) f4 (fs_st N false) i r (if r = 7 then (1 : Int64) <<< ((nI (fs_st N false).2.2.1).toInt64 &&& 63) else 0) (if r = 7 then (1 : Int64) <<< ((nI (fs_st N false).2.2.1).toInt64 &&& 63) else 0) (fs_ls (fs_wk nd (i + 1)) i)) u = fs_wp hu hg nd r u i := by rw [fs_hold_b hR hok3 hA3 (by omega)]; simp [fs_wp, hA]
        rw [hP]
        refine fr_if_eq (pc := 66) (tgt := 84) d_FR_where_66 (by decide) (fun q2 => ?_) (fun q2 => ?_)
        · refine fr_iinc (pc := 84) (v := (nI (i + 1))) (L2 := [(0, .ref o), (1, .int (nI u)), (2, .int (nI r)), (3, .int (nI qq)), (4, .int (nI c)), (5, .ref na), (6, .int (nI 150)), (7, .int (nI (i + 1))), (8, .ref a)]) d_FR_where_84 rfl (fi_1 _) (by decide) rfl ?_
          refine fr_goto (pc := 87) (tgt := 30) d_FR_where_87 (by decide) ?_
          have e : fs_wh (fs_wp hu hg nd r u) qq (m + 1) i c = fs_wh (fs_wp hu hg nd r u) qq m (i + 1) c := by rw [fs_wh, if_neg (by rw [bI_0.mp q2]; decide)]
          rw [e]
          exact fr_Ld (ih (i + 1) c (by omega) (by omega) _ hr3 hF3 _ rfl)
        · have hP2 := ts_nf (fun z => q2 (bI_0.mpr z))
          refine fr_iload (pc := 69) d_FR_where_69 rfl ?_
          refine fr_iload_n (pc := 71) d_FR_where_71 rfl rfl ?_
          refine fr_icmp_ne (pc := 72) (tgt := 81) d_FR_where_72 (by decide) (fun q3 => ?_) (fun q3 => ?_)
          · have hne : ¬ c = qq := fun z => q3 (by rw [z])
            refine fr_iinc (pc := 81) (v := (nI (c + 1))) (L2 := [(0, .ref o), (1, .int (nI u)), (2, .int (nI r)), (3, .int (nI qq)), (4, .int (nI (c + 1))), (5, .ref na), (6, .int (nI 150)), (7, .int (nI i)), (8, .ref a)]) d_FR_where_81 rfl (fi_1 _) (by decide) rfl ?_
            refine fr_iinc (pc := 84) (v := (nI (i + 1))) (L2 := [(0, .ref o), (1, .int (nI u)), (2, .int (nI r)), (3, .int (nI qq)), (4, .int (nI (c + 1))), (5, .ref na), (6, .int (nI 150)), (7, .int (nI (i + 1))), (8, .ref a)]) d_FR_where_84 rfl (fi_1 _) (by decide) rfl ?_
            refine fr_goto (pc := 87) (tgt := 30) d_FR_where_87 (by decide) ?_
            have e : fs_wh (fs_wp hu hg nd r u) qq (m + 1) i c = fs_wh (fs_wp hu hg nd r u) qq m (i + 1) (c + 1) := by rw [fs_wh, if_pos hP2, if_neg hne]
            rw [e]
            exact fr_Ld (ih (i + 1) (c + 1) (by omega) (by omega) _ hr3 hF3 _ rfl)
          · have heq : c = qq := (ni_eq (by omega) hq).mp q3
            refine fr_aload (pc := 75) d_FR_where_75 rfl ?_
            refine fr_get (pc := 77) (v := .int (nI i)) d_FR_where_77 fg_FR_186 fw_up_self rfl ?_
            have e : fs_wh (fs_wp hu hg nd r u) qq (m + 1) i c = some i := by rw [fs_wh, if_pos hP2, if_pos heq]
            rw [e]
            exact fr_iret rfl d_FR_where_80 ⟨rfl, hr3, hF3⟩
theorem p_FR_where_ok {g : fw_G} {w : fw_W} {o gr a1 a2 a3 a4 na us n : Nat} {hu hg : Nat → Nat → Bool} {nd : fs_D} (hX : fs_X g (o, gr, a1, a2, a3, a4, na) (us, n, hu, hg, nd) w) {u r qq : Nat} (hu2 : u < us) (hr8 : r < 8) (hq : qq < 2 ^ 31) : fw_R g m_FR_where (fs_P g (o, gr, a1, a2, a3, a4, na) w (.inl (some (.int (fs_ov (fs_wh (fs_wp hu hg nd r u) qq 150 0 0))))) (us, n, hu, hg, fs_wS nd (fs_wh (fs_wp hu hg nd r u) qq 150 0 0))) 3 18 w 0 [(0, .ref o), (1, .int (nI u)), (2, .int (nI r)), (3, .int (nI qq))] [] := by
  obtain ⟨f1, f2, f3, f4, ad, lq, ld, lc, lt, hok, h0, hG, hR, hN, hr⟩ := fs_X_el hX
  have hb : n < 2 ^ 31 := by have := hok.2.2.1; omega
  have hb2 : us < 2 ^ 31 := by have := hok.2.1; omega
  have hoS : fs_ok us n (fs_wS nd (fs_wh (fs_wp hu hg nd r u) qq 150 0 0)) := by
    unfold fs_wS; split <;> exact fs_ok_wk hok
  refine fr_po (fun r9 u9 h => ?_) (Post := (fun r9 u9 => r9 = .inl (some (.int (fs_ov (fs_wh (fs_wp hu hg nd r u) qq 150 0 0)))) ∧ fs_rN g u9 (fs_wS nd (fs_wh (fs_wp hu hg nd r u) qq 150 0 0)) ad lq ld lc lt ∧ fs_F2 w u9)) ?_
  · obtain ⟨e1, e2, e3⟩ := h; exact ⟨e1, fs_X_F2 hoS h0 hG hR hN e3 e2, fs_F2_Fr e3⟩
  refine fr_aload_n (pc := 0) d_FR_where_0 rfl rfl ?_
  refine fr_iload_n (pc := 1) d_FR_where_1 rfl rfl ?_
  refine fr_callv_n (pc := 2) (nc := 2) (ns := 12) (N := m_FR_requireUser) (rest := []) (as := [.int (nI u)]) d_FR_where_2 vc_FR_67 ⟨by decide, by decide, Nat.le_of_ble_eq_true rfl⟩ (Nat.le_of_ble_eq_true rfl) h0 (c_FR_requireUser h0 hu2 hb2) rfl ?_
  refine fr_iload_n (pc := 5) d_FR_where_5 rfl rfl ?_
  refine fr_calls_n (pc := 6) (nc := 1) (ns := 6) (N := m_FR_requireRight) (rest := []) (as := [.int (nI r)]) d_FR_where_6 k_FR_requireRight lk_FR_167 sc_FR_requireRight np_FR_requireRight ⟨by decide, by decide, Nat.le_of_ble_eq_true rfl⟩ (Nat.le_of_ble_eq_true rfl) (c_FR_requireRight hr8) rfl ?_
  refine fr_iload_n (pc := 9) d_FR_where_9 rfl rfl ?_
  refine fr_calls_n (pc := 10) (nc := 0) (ns := 0) (N := m_FR_requirePlace) (rest := []) (as := [.int (nI qq)]) d_FR_where_10 k_FR_requirePlace lk_FR_193 sc_FR_requirePlace np_FR_requirePlace ⟨by decide, by decide, Nat.le_of_ble_eq_true rfl⟩ (Nat.le_of_ble_eq_true rfl) (c_FR_requirePlace (ix_nn hq)) rfl ?_
  refine fr_iconst (pc := 13) (v := 0) d_FR_where_13 (by decide) ?_
  refine fr_istore (pc := 14) (L2 := [(0, .ref o), (1, .int (nI u)), (2, .int (nI r)), (3, .int (nI qq)), (4, .int 0)]) d_FR_where_14 (by decide) rfl ?_
  refine fr_aload_n (pc := 16) d_FR_where_16 rfl rfl ?_
  refine fr_get (pc := 17) (v := .ref na) d_FR_where_17 fg_FR_18 h0 rfl ?_
  refine fr_astore (pc := 20) (L2 := [(0, .ref o), (1, .int (nI u)), (2, .int (nI r)), (3, .int (nI qq)), (4, .int 0), (5, .ref na)]) d_FR_where_20 (by decide) rfl ?_
  refine fr_aload (pc := 22) d_FR_where_22 rfl ?_
  refine fr_alen (pc := 24) (t := 3) (v := (nI 150)) d_FR_where_24 rfl hN rfl ?_
  refine fr_istore (pc := 25) (L2 := [(0, .ref o), (1, .int (nI u)), (2, .int (nI r)), (3, .int (nI qq)), (4, .int 0), (5, .ref na), (6, .int (nI 150))]) d_FR_where_25 (by decide) rfl ?_
  refine fr_iconst (pc := 27) (v := 0) d_FR_where_27 (by decide) ?_
  refine fr_istore (pc := 28) (L2 := [(0, .ref o), (1, .int (nI u)), (2, .int (nI r)), (3, .int (nI qq)), (4, .int 0), (5, .ref na), (6, .int (nI 150)), (7, .int 0)]) d_FR_where_28 (by decide) rfl ?_
  exact c_FR_where_l h0 hG hN hok hR hr8 hu2 hq 150 0 0 rfl (Nat.le_refl _) w (by rw [fs_wk_0]; exact hr) fs_F2_id _ rfl
theorem p_FR_where_n1 {g : fw_G} {w : fw_W} {o gr a1 a2 a3 a4 na us n : Nat} {hu hg : Nat → Nat → Bool} {nd : fs_D} (hX : fs_X g (o, gr, a1, a2, a3, a4, na) (us, n, hu, hg, nd) w) {x y z : Int32} (hx : fs_no2 x us) : fw_R g m_FR_where (fs_P g (o, gr, a1, a2, a3, a4, na) w (.inr "java/util/NoSuchElementException") (us, n, hu, hg, nd)) 3 18 w 0 [(0, .ref o), (1, .int x), (2, .int y), (3, .int z)] [] := by
  obtain ⟨f1, f2, f3, f4, ad, lq, ld, lc, lt, hok, h0, hG, hR, hN, hr⟩ := fs_X_el hX
  have hb : n < 2 ^ 31 := by have := hok.2.2.1; omega
  have hb2 : us < 2 ^ 31 := by have := hok.2.1; omega
  refine fr_aload_n (pc := 0) d_FR_where_0 rfl rfl ?_
  refine fr_iload_n (pc := 1) d_FR_where_1 rfl rfl ?_
  refine fr_callv_x (pc := 2) (nc := 2) (ns := 12) (N := m_FR_requireUser) (rest := []) (as := [.int x]) d_FR_where_2 vc_FR_67 ⟨by decide, by decide, Nat.le_of_ble_eq_true rfl⟩ (Nat.le_of_ble_eq_true rfl) h0 (x_FR_requireUser h0 hx hb2) rfl ?_
  exact fx_out (by decide) ⟨rfl, hX, fs_Fr_id⟩
theorem p_FR_where_n2 {g : fw_G} {w : fw_W} {o gr a1 a2 a3 a4 na us n : Nat} {hu hg : Nat → Nat → Bool} {nd : fs_D} (hX : fs_X g (o, gr, a1, a2, a3, a4, na) (us, n, hu, hg, nd) w) {u : Nat} {y z : Int32} (hu2 : u < us) (hy : fs_no2 y 8) : fw_R g m_FR_where (fs_P g (o, gr, a1, a2, a3, a4, na) w (.inr "java/lang/IllegalArgumentException") (us, n, hu, hg, nd)) 3 18 w 0 [(0, .ref o), (1, .int (nI u)), (2, .int y), (3, .int z)] [] := by
  obtain ⟨f1, f2, f3, f4, ad, lq, ld, lc, lt, hok, h0, hG, hR, hN, hr⟩ := fs_X_el hX
  have hb : n < 2 ^ 31 := by have := hok.2.2.1; omega
  have hb2 : us < 2 ^ 31 := by have := hok.2.1; omega
  refine fr_aload_n (pc := 0) d_FR_where_0 rfl rfl ?_
  refine fr_iload_n (pc := 1) d_FR_where_1 rfl rfl ?_
  refine fr_callv_n (pc := 2) (nc := 2) (ns := 12) (N := m_FR_requireUser) (rest := []) (as := [.int (nI u)]) d_FR_where_2 vc_FR_67 ⟨by decide, by decide, Nat.le_of_ble_eq_true rfl⟩ (Nat.le_of_ble_eq_true rfl) h0 (c_FR_requireUser h0 hu2 hb2) rfl ?_
  refine fr_iload_n (pc := 5) d_FR_where_5 rfl rfl ?_
  refine fr_calls_x (pc := 6) (nc := 1) (ns := 6) (N := m_FR_requireRight) (rest := []) (as := [.int y]) d_FR_where_6 k_FR_requireRight lk_FR_167 sc_FR_requireRight np_FR_requireRight ⟨by decide, by decide, Nat.le_of_ble_eq_true rfl⟩ (Nat.le_of_ble_eq_true rfl) (x_FR_requireRight hy) rfl ?_
  exact fx_out (by decide) ⟨rfl, hX, fs_Fr_id⟩
theorem p_FR_where_n3 {g : fw_G} {w : fw_W} {o gr a1 a2 a3 a4 na us n : Nat} {hu hg : Nat → Nat → Bool} {nd : fs_D} (hX : fs_X g (o, gr, a1, a2, a3, a4, na) (us, n, hu, hg, nd) w) {u r : Nat} {z : Int32} (hu2 : u < us) (hr8 : r < 8) (hz : z < 0) : fw_R g m_FR_where (fs_P g (o, gr, a1, a2, a3, a4, na) w (.inr "java/lang/IllegalArgumentException") (us, n, hu, hg, nd)) 3 18 w 0 [(0, .ref o), (1, .int (nI u)), (2, .int (nI r)), (3, .int z)] [] := by
  obtain ⟨f1, f2, f3, f4, ad, lq, ld, lc, lt, hok, h0, hG, hR, hN, hr⟩ := fs_X_el hX
  have hb : n < 2 ^ 31 := by have := hok.2.2.1; omega
  have hb2 : us < 2 ^ 31 := by have := hok.2.1; omega
  refine fr_aload_n (pc := 0) d_FR_where_0 rfl rfl ?_
  refine fr_iload_n (pc := 1) d_FR_where_1 rfl rfl ?_
  refine fr_callv_n (pc := 2) (nc := 2) (ns := 12) (N := m_FR_requireUser) (rest := []) (as := [.int (nI u)]) d_FR_where_2 vc_FR_67 ⟨by decide, by decide, Nat.le_of_ble_eq_true rfl⟩ (Nat.le_of_ble_eq_true rfl) h0 (c_FR_requireUser h0 hu2 hb2) rfl ?_
  refine fr_iload_n (pc := 5) d_FR_where_5 rfl rfl ?_
  refine fr_calls_n (pc := 6) (nc := 1) (ns := 6) (N := m_FR_requireRight) (rest := []) (as := [.int (nI r)]) d_FR_where_6 k_FR_requireRight lk_FR_167 sc_FR_requireRight np_FR_requireRight ⟨by decide, by decide, Nat.le_of_ble_eq_true rfl⟩ (Nat.le_of_ble_eq_true rfl) (c_FR_requireRight hr8) rfl ?_
  refine fr_iload_n (pc := 9) d_FR_where_9 rfl rfl ?_
  refine fr_calls_x (pc := 10) (nc := 0) (ns := 0) (N := m_FR_requirePlace) (rest := []) (as := [.int z]) d_FR_where_10 k_FR_requirePlace lk_FR_193 sc_FR_requirePlace np_FR_requirePlace ⟨by decide, by decide, Nat.le_of_ble_eq_true rfl⟩ (Nat.le_of_ble_eq_true rfl) (x_FR_requirePlace hz) rfl ?_
  exact fx_out (by decide) ⟨rfl, hX, fs_Fr_id⟩
end
section
def fs_del {α : Type} (l : List α) (i : Nat) : List α := l.take i ++ l.drop (i + 1)
def fs_ins {α : Type} (l : List α) (i : Nat) (x : α) : List α := l.take i ++ x :: l.drop i
theorem fs_ins_len {α : Type} {l : List α} {i : Nat} {x : α} (h : i ≤ l.length) : (fs_ins l i x).length = l.length + 1 := by
  unfold fs_ins
  rw [List.length_append, List.length_cons, List.length_take, List.length_drop]
  omega
theorem fs_del_len {α : Type} {l : List α} {i : Nat} (h : i < l.length) : (fs_del l i).length = l.length - 1 := by
  unfold fs_del
  rw [List.length_append, List.length_take, List.length_drop]
  omega
theorem fs_ins_at {α : Type} {l : List α} {i : Nat} {x : α} (h : i ≤ l.length) (j : Nat) : (fs_ins l i x)[j]? = if j < i then l[j]? else if j = i then some x else l[j - 1]? := by
  unfold fs_ins
  have hl : (l.take i).length = i := by rw [List.length_take]; omega
  by_cases h1 : j < i
  · rw [if_pos h1, List.getElem?_append_left (by omega), List.getElem?_take_of_lt h1]
  · rw [if_neg h1, List.getElem?_append_right (by omega), hl]
    by_cases h2 : j = i
    · rw [if_pos h2, h2, Nat.sub_self]; rfl
    · rw [if_neg h2, show j - i = (j - i - 1) + 1 by omega, List.getElem?_cons_succ, List.getElem?_drop, show i + (j - i - 1) = j - 1 by omega]
theorem fs_del_at {α : Type} {l : List α} {i : Nat} (h : i < l.length) (j : Nat) : (fs_del l i)[j]? = if j < i then l[j]? else l[j + 1]? := by
  unfold fs_del
  have hl : (l.take i).length = i := by rw [List.length_take]; omega
  by_cases h1 : j < i
  · rw [if_pos h1, List.getElem?_append_left (by omega), List.getElem?_take_of_lt h1]
  · rw [if_neg h1, List.getElem?_append_right (by omega), hl, List.getElem?_drop, show i + 1 + (j - i) = j + 1 by omega]
theorem fs_del_mem {α : Type} {l : List α} {i : Nat} {y : α} (h : y ∈ fs_del l i) : y ∈ l := by
  unfold fs_del at h
  rcases List.mem_append.mp h with h | h
  · exact List.mem_of_mem_take h
  · exact List.mem_of_mem_drop h
theorem fs_ins_mem {α : Type} {l : List α} {i : Nat} {x y : α} (h : y ∈ fs_ins l i x) : y = x ∨ y ∈ l := by
  unfold fs_ins at h
  rcases List.mem_append.mp h with h | h
  · exact Or.inr (List.mem_of_mem_take h)
  · rcases List.mem_cons.mp h with h | h
    · exact Or.inl h
    · exact Or.inr (List.mem_of_mem_drop h)
theorem fs_en_del {w : fw_W} {ts : List Nat} {es : List fs_E} (h : fs_en w ts es) {i : Nat} (hi : i < ts.length) : fs_en w (fs_del ts i) (fs_del es i) := by
  have hl := h.1
  refine ⟨by rw [fs_del_len hi, fs_del_len (by omega)]; omega, fun j y E h1 h2 => ?_⟩
  rw [fs_del_at hi] at h1
  rw [fs_del_at (by omega)] at h2
  split at h1 <;> rename_i hj
  · rw [if_pos hj] at h2; exact h.2 j y E h1 h2
  · rw [if_neg hj] at h2; exact h.2 (j + 1) y E h1 h2
theorem fs_en_ins {w : fw_W} {ts : List Nat} {es : List fs_E} (h : fs_en w ts es) {i e : Nat} {E0 : fs_E} (hi : i ≤ ts.length) (he : w e = some (.inr (3, fs_ec E0))) : fs_en w (fs_ins ts i e) (fs_ins es i E0) := by
  have hl := h.1
  refine ⟨by rw [fs_ins_len hi, fs_ins_len (by omega)]; omega, fun j y E h1 h2 => ?_⟩
  rw [fs_ins_at hi] at h1
  rw [fs_ins_at (by omega)] at h2
  split at h1 <;> rename_i hj
  · rw [if_pos hj] at h2; exact h.2 j y E h1 h2
  · rw [if_neg hj] at h2
    split at h1 <;> rename_i hj2
    · rw [if_pos hj2] at h2; cases h1; cases h2; exact he
    · rw [if_neg hj2] at h2; exact h.2 (j - 1) y E h1 h2
theorem fs_lk {g : fw_G} {w u : fw_W} {nd : fs_D} {ad : Nat → Option Nat} {lq ld lc : Nat → Nat} {lt : Nat → List Nat} (h : fs_rN g w nd ad lq ld lc lt) {k d2 : Nat} {N : fs_N} (hk : nd k = some N) (hdf : w (fw_df g) = none) (hfr : ∀ b, b ≠ lq k → b ≠ d2 → u b = w b) (hd2 : (d2 = ld k ∧ w (ld k) ≠ none) ∨ w d2 = none) (b : Nat) (e : va_E) (hb : w b = some e) (h1 : b ≠ lq k) (h2 : ∀ c n f, e ≠ .inl (c, n, .inr (.inr (.inr (.inr f))))) : u b = some e := by
  rw [hfr b h1 ?_]
  · exact hb
  · rintro rfl
    rcases hd2 with ⟨e1, e2⟩ | e1
    · obtain ⟨-, a, -, -, ⟨mc, -, -, -, hl4⟩, -⟩ := h.2.1 k N hk
      rcases hl4 with ⟨e3, -⟩ | ⟨e3, -⟩
      · rw [e3] at e2; exact e2 hdf
      · rw [← e1, hb] at e3
        exact h2 _ _ _ (Option.some.inj e3)
    · rw [e1] at hb; cases hb
theorem fs_rN_list {g : fw_G} {w u : fw_W} {nd : fs_D} {ad : Nat → Option Nat} {lq ld lc : Nat → Nat} {lt : Nat → List Nat} (h : fs_rN g w nd ad lq ld lc lt) {k d2 c2 : Nat} {N : fs_N} {ts2 : List Nat} {es2 : List fs_E} (hk : nd k = some N) (hdf : w (fw_df g) = none) (hfr : ∀ b, b ≠ lq k → b ≠ d2 → u b = w b) (hd2 : (d2 = ld k ∧ w (ld k) ≠ none) ∨ w d2 = none) (hli : li_at g u (lq k) d2 c2 ts2) (hen : fs_en u ts2 es2) :
    fs_rN g u (va_up nd k (some (N.1, N.2.1, N.2.2.1, N.2.2.2.1, N.2.2.2.2.1, es2))) ad lq (va_up ld k d2) (va_up lc k c2) (va_up lt k ts2) := by
  have hke := fs_lk h hk hdf hfr hd2
  obtain ⟨h0, h1, h2, h3⟩ := id h
  obtain ⟨hk1, a, ha, hc, hl, hE⟩ := h1 k N hk
  obtain ⟨mc, hq1, -, -, -⟩ := id hl
  have hnn : ∀ j, va_up nd k (some (N.1, N.2.1, N.2.2.1, N.2.2.2.1, N.2.2.2.2.1, es2)) j ≠ none → nd j ≠ none := fun j hj => by
    by_cases e : j = k
    · subst e; rw [hk]; intro q; cases q
    · rwa [vu_ne e] at hj
  have hne4 : ∀ b ci fs, ci ≠ 4 → w b = some (.inr (ci, fs)) → b ≠ lq k := fun b ci fs hci hb => fs_ne hb hq1 (fun z => by cases z; exact hci rfl)
  have hdn : ∀ j, nd j ≠ none → ld j ≠ fw_df g → w (ld j) ≠ none := fun j hj hd z => by
    cases hj2 : nd j with
    | none => exact hj hj2
    | some M =>
      obtain ⟨-, -, -, -, ⟨mc2, -, -, -, hl4⟩, -⟩ := h1 j M hj2
      rcases hl4 with ⟨e, -⟩ | ⟨e, -⟩
      · exact hd e
      · rw [e] at z; cases z
  refine ⟨fun j hj => ?_, fun j M hj => ?_, fun i j e1 e2 => h2 i j (hnn i e1) (hnn j e2), fun i j e1 e2 e3 e4 => ?_⟩
  · by_cases e : j = k
    · subst e; rw [vu_self] at hj; cases hj
    · rw [vu_ne e] at hj; exact h0 j hj
  · by_cases e : j = k
    · subst e
      rw [vu_self] at hj; cases hj
      rw [vu_self, vu_self, vu_self]
      exact ⟨hk1, a, ha, hke a _ hc (hne4 a 2 _ (by omega) hc) (fun c n f z => by cases z), hli, hen⟩
    · rw [vu_ne e] at hj
      obtain ⟨hj1, b, hb, hcb, hlb, hEb⟩ := h1 j M hj
      rw [vu_ne e, vu_ne e, vu_ne e]
      refine ⟨hj1, b, hb, hke b _ hcb (hne4 b 2 _ (by omega) hcb) (fun c n f z => by cases z), fs_li hlb (fun x ex hx hor => ?_), fs_en_of hEb (fun x fs hx => hke x _ hx (hne4 x 3 _ (by omega) hx) (fun c n f z => by cases z))⟩
      obtain ⟨mc2, hq2, -, hy3, hl4⟩ := id hlb
      rcases hor with rfl | rfl | hm
      · rw [hq2] at hx; cases hx
        exact hke _ _ hq2 (fun z => e (h2 j k (by rw [hj]; intro q; cases q) (by rw [hk]; intro q; cases q) z)) (fun c n f z => by cases z)
      · have hndf : ld j ≠ fw_df g := fun z => by rw [z, hdf] at hx; cases hx
        rcases hl4 with ⟨e9, -⟩ | ⟨e9, -⟩
        · exact absurd e9 hndf
        · rw [e9] at hx; cases hx
          rw [hfr (ld j) (fs_ne e9 hq1 (fun z => by cases z)) ?_]
          · exact e9
          · intro z
            rcases hd2 with ⟨q1, q2⟩ | q1
            · exact e (h3 j k (by rw [hj]; intro q; cases q) (by rw [hk]; intro q; cases q) (z.trans q1) hndf)
            · rw [← z, e9] at q1; cases q1
      · obtain ⟨fs, hfs⟩ := hy3 x hm
        rw [hfs] at hx; cases hx
        exact hke x _ hfs (hne4 x 3 _ (by omega) hfs) (fun c n f z => by cases z)
  · have key : ∀ x, x ≠ k → nd x ≠ none → ld x ≠ fw_df g → ld x ≠ d2 := by
      intro x hx hxn hxd z
      rcases hd2 with ⟨q1, q2⟩ | q1
      · exact hx (h3 x k hxn (by rw [hk]; intro q; cases q) (z.trans q1) hxd)
      · exact hdn x hxn hxd (z ▸ q1)
    by_cases ei : i = k
    · by_cases ej : j = k
      · rw [ei, ej]
      · rw [ei, vu_self, vu_ne ej] at e3
        rw [ei, vu_self] at e4
        exact absurd e3.symm (key j ej (hnn j e2) (by rw [← e3]; exact e4))
    · by_cases ej : j = k
      · rw [ej, vu_self, vu_ne ei] at e3
        rw [vu_ne ei] at e4
        exact absurd e3 (key i ei (hnn i e1) e4)
      · rw [vu_ne ei, vu_ne ej] at e3
        rw [vu_ne ei] at e4
        exact h3 i j (hnn i e1) (hnn j e2) e3 e4
theorem fs_Fr_list {A : fs_A} {w u v : fw_W} {q : Nat} {fq : List Value} (hq : w q = some (.inr (4, fq))) (hke : ∀ b e, w b = some e → b ≠ q → (∀ c n f, e ≠ .inl (c, n, .inr (.inr (.inr (.inr f))))) → u b = some e) (hF : fs_F2 u v) : fs_Fr A w v := by
  intro b e hb
  by_cases h1 : ∃ ci fs, e = .inr (ci, fs) ∧ ci ≤ 4
  · exact Or.inl (Or.inl h1)
  · by_cases h2 : ∃ c n f, e = .inl (c, n, .inr (.inr (.inr (.inr f))))
    · exact Or.inl (Or.inr (Or.inl h2))
    · refine Or.inr (fs_F2_3 hF b (hke b e hb (fs_ne hb hq (fun z => h1 ⟨4, fq, z, by omega⟩)) (fun c n f z => h2 ⟨c, n, f, z⟩)) (fun fs z => h1 ⟨2, fs, z, by omega⟩))
theorem p_FR_dropEntry_ok {g : fw_G} {w : fw_W} {o gr a1 a2 a3 a4 na us n : Nat} {hu hg : Nat → Nat → Bool} {nd : fs_D} (hX : fs_X g (o, gr, a1, a2, a3, a4, na) (us, n, hu, hg, nd) w) {k : Nat} {N : fs_N} (hk : nd k = some N) {i : Nat} (hi : i < N.2.2.2.2.2.length) : fw_R g m_FR_dropEntry (fs_P g (o, gr, a1, a2, a3, a4, na) w (.inl (some (.int (nI (N.2.2.2.2.2.length - 1))))) (us, n, hu, hg, fs_mk (va_up nd k (some (N.1, N.2.1, N.2.2.1, N.2.2.2.1, N.2.2.2.2.1, (fs_del N.2.2.2.2.2 i)))) k 150)) 2 12 w 0 [(0, .ref o), (1, .int (nI k)), (2, .int (nI i))] [] := by
  obtain ⟨f1, f2, f3, f4, ad, lq, ld, lc, lt, hok, h0, hG, hR, hN, hr⟩ := fs_X_el hX
  have hb : n < 2 ^ 31 := by have := hok.2.2.1; omega
  have hb2 : us < 2 ^ 31 := by have := hok.2.1; omega
  obtain ⟨hk150, a, ha, hc, hl, hE⟩ := hr.2.1 k N hk
  obtain ⟨-, hk0, how, hlen, hes, hch, hdep⟩ := hok.2.2.2.2 k N hk
  refine fr_dn (fun hdf => ?_)
  obtain ⟨mc, hl1, -⟩ := id hl
  have eL := hE.1
  obtain ⟨y, hy⟩ : ∃ y, (lt k)[i]? = some y := ⟨_, List.getElem?_eq_getElem (by omega)⟩
  refine fr_aload_n (pc := 0) d_FR_dropEntry_0 rfl rfl ?_
  refine fr_iload_n (pc := 1) d_FR_dropEntry_1 rfl rfl ?_
  refine fr_callv_p (pc := 2) (nc := 1) (ns := 6) (N := m_FR_nodeAt) (rest := []) (as := [.int (nI k)]) d_FR_dropEntry_2 vc_FR_63 ⟨by decide, by decide, Nat.le_of_ble_eq_true rfl⟩ (Nat.le_of_ble_eq_true rfl) h0 (c_FR_nodeAt h0 hN hk150 ha) rfl ?_
  refine fr_astore_n (pc := 5) (L2 := [(0, .ref o), (1, .int (nI k)), (2, .int (nI i)), (3, .ref a)]) d_FR_dropEntry_5 rfl (by decide) rfl ?_
  refine fr_iload_n (pc := 6) d_FR_dropEntry_6 rfl rfl ?_
  refine fr_if_lt (pc := 7) (tgt := 21) d_FR_dropEntry_7 (by decide) (fun q => ?_) (fun q => ?_)
  · exact absurd q (ix_nn (by omega))
  · refine fr_iload_n (pc := 10) d_FR_dropEntry_10 rfl rfl ?_
    refine fr_aload_n (pc := 11) d_FR_dropEntry_11 rfl rfl ?_
    refine fr_get (pc := 12) (v := .ref (lq k)) d_FR_dropEntry_12 fg_FR_119 hc rfl ?_
    refine fr_callv_p (pc := 15) (nc := 1) (ns := 6) (N := m_AL_size) (rest := [.int (nI i)]) (as := []) d_FR_dropEntry_15 vc_FR_123 ⟨by decide, by decide, Nat.le_of_ble_eq_true rfl⟩ (Nat.le_of_ble_eq_true rfl) hl1 (c_AL_size hl) rfl ?_
    refine fr_icmp_lt (pc := 18) (tgt := 31) d_FR_dropEntry_18 (by decide) (fun q2 => ?_) (fun q2 => ?_)
    · refine fr_aload_n (pc := 31) d_FR_dropEntry_31 rfl rfl ?_
      refine fr_get (pc := 32) (v := .ref (lq k)) d_FR_dropEntry_32 fg_FR_119 hc rfl ?_
      refine fr_iload_n (pc := 35) d_FR_dropEntry_35 rfl rfl ?_
      refine fr_callV (pc := 36) (nc := 1) (ns := 6) (N := m_AL_remove) (rest := []) (as := [.int (nI i)]) d_FR_dropEntry_36 vc_FR_149 ⟨by decide, by decide, Nat.le_of_ble_eq_true rfl⟩ (Nat.le_of_ble_eq_true rfl) hl1 (c_AL_rem hl hy) rfl (fun v8 u h8 => ?_) (fun C u h8 => by obtain ⟨h1, -⟩ := h8; cases h1)
      obtain ⟨h1, hli, hfr⟩ := h8
      cases h1
      have hd2 : (ld k = ld k ∧ w (ld k) ≠ none) ∨ w (ld k) = none := by
        by_cases z : w (ld k) = none
        · exact Or.inr z
        · exact Or.inl ⟨rfl, z⟩
      have hke := fs_lk hr hk hdf hfr hd2
      have h0u := hke _ _ h0 (fs_ne h0 hl1 (fun z => by cases z)) (fun c n f z => by cases z)
      have hnq : na ≠ lq k := fs_ne hN hl1 (fun z => by cases z)
      have hnd : na ≠ ld k := fun z => by
        obtain ⟨mc2, -, -, -, hl4⟩ := id hl
        rcases hl4 with ⟨e9, -⟩ | ⟨e9, e10, e11⟩
        · rw [z, e9, hdf] at hN; cases hN
        · rw [← z, hN] at e9; have := congrArg (fun q => q.2.1) (Sum.inl.inj (Option.some.inj e9)); simp only at this; omega
      have hNu : u na = some (fs_no g ad) := (hfr na hnq hnd).trans hN
      have hGu := fs_gr_fr hG (fun b e hb h1 h2 => hke b e hb (fs_ne hb hl1 (fun z => by have := h1 4 _ z; omega)) h2)
      have hr1 := fs_rN_list hr hk hdf hfr hd2 hli (fs_en_del (fs_en_of hE (fun b fs hb => hke b _ hb (fs_ne hb hl1 (fun z => by cases z)) (fun c n f z => by cases z))) (by omega))
      have hok1 : fs_ok us n (va_up nd k (some (N.1, N.2.1, N.2.2.1, N.2.2.2.1, N.2.2.2.2.1, (fs_del N.2.2.2.2.2 i)))) := fs_ok_up hok (N2 := (N.1, N.2.1, N.2.2.1, N.2.2.2.1, N.2.2.2.2.1, (fs_del N.2.2.2.2.2 i))) hk rfl how (by show (fs_del N.2.2.2.2.2 i).length ≤ 12; rw [fs_del_len hi]; omega) (fun E hE2 => hes E (fs_del_mem hE2))
      refine fr_pop (pc := 39) d_FR_dropEntry_39 rfl ?_
      refine fr_aload_n (pc := 40) d_FR_dropEntry_40 rfl rfl ?_
      refine fr_aload_n (pc := 41) d_FR_dropEntry_41 rfl rfl ?_
      refine fr_callV (pc := 42) (nc := 1) (ns := 6) (N := m_FR_markStaleBelow) (rest := []) (as := [.ref a]) d_FR_dropEntry_42 vc_FR_107 ⟨by decide, by decide, Nat.le_of_ble_eq_true rfl⟩ (Nat.le_of_ble_eq_true rfl) h0u (c_FR_mark h0u hNu (fs_ok_ch hok1) vu_self ha hr1) rfl (fun v9 u9 h9 => ?_) (fun C u9 h9 => by obtain ⟨h1, -⟩ := h9; cases h1)
      obtain ⟨h1, hr2, hF2⟩ := h9
      cases h1
      have hm : fs_mk (va_up nd k (some (N.1, N.2.1, N.2.2.1, N.2.2.2.1, N.2.2.2.2.1, (fs_del N.2.2.2.2.2 i)))) k 150 k = some (N.1, N.2.1, N.2.2.1, N.2.2.2.1, N.2.2.2.2.1, (fs_del N.2.2.2.2.2 i)) := by simp [fs_mk, vu_self]
      obtain ⟨-, a9, ha9, hc9, hl9, hE9⟩ := hr2.2.1 k _ hm
      rw [ha] at ha9; cases ha9
      obtain ⟨mc9, hl91, -⟩ := id hl9
      refine fr_aload_n (pc := 45) d_FR_dropEntry_45 rfl rfl ?_
      refine fr_get (pc := 46) (v := .ref (lq k)) d_FR_dropEntry_46 fg_FR_119 hc9 rfl ?_
      refine fr_callv_p (pc := 49) (nc := 1) (ns := 6) (N := m_AL_size) (rest := []) (as := []) d_FR_dropEntry_49 vc_FR_123 ⟨by decide, by decide, Nat.le_of_ble_eq_true rfl⟩ (Nat.le_of_ble_eq_true rfl) hl91 (c_AL_size hl9) rfl ?_
      refine fr_st (st2 := [.int (nI (N.2.2.2.2.2.length - 1))]) (by rw [hE9.1]; show [Value.int (nI (fs_del N.2.2.2.2.2 i).length)] = _; rw [fs_del_len hi]) ?_
      exact fr_iret rfl d_FR_dropEntry_52 ⟨rfl, fs_X_F2 (fs_ok_mk hok1) h0u hGu hR hNu hF2 hr2, fs_Fr_list hl1 hke hF2⟩
    · exact absurd ((ni_lt (by omega) (by omega)).mpr (by omega)) q2
theorem p_FR_dropEntry_n1 {g : fw_G} {w : fw_W} {o gr a1 a2 a3 a4 na us n : Nat} {hu hg : Nat → Nat → Bool} {nd : fs_D} (hX : fs_X g (o, gr, a1, a2, a3, a4, na) (us, n, hu, hg, nd) w) {x y : Int32} (hx : ∀ k, x = nI k → nd k = none) : fw_R g m_FR_dropEntry (fs_P g (o, gr, a1, a2, a3, a4, na) w (.inr "java/util/NoSuchElementException") (us, n, hu, hg, nd)) 2 12 w 0 [(0, .ref o), (1, .int x), (2, .int y)] [] := by
  obtain ⟨f1, f2, f3, f4, ad, lq, ld, lc, lt, hok, h0, hG, hR, hN, hr⟩ := fs_X_el hX
  refine fr_aload_n (pc := 0) d_FR_dropEntry_0 rfl rfl ?_
  refine fr_iload_n (pc := 1) d_FR_dropEntry_1 rfl rfl ?_
  refine fr_callv_x (pc := 2) (nc := 1) (ns := 6) (N := m_FR_nodeAt) (rest := []) (as := [.int x]) d_FR_dropEntry_2 vc_FR_63 ⟨by decide, by decide, Nat.le_of_ble_eq_true rfl⟩ (Nat.le_of_ble_eq_true rfl) h0 (x_FR_nodeAt h0 hN (fun k _ e => hr.1 k (hx k e))) rfl ?_
  exact fx_out (by decide) ⟨rfl, hX, fs_Fr_id⟩
theorem p_FR_dropEntry_n2 {g : fw_G} {w : fw_W} {o gr a1 a2 a3 a4 na us n : Nat} {hu hg : Nat → Nat → Bool} {nd : fs_D} (hX : fs_X g (o, gr, a1, a2, a3, a4, na) (us, n, hu, hg, nd) w) {k : Nat} {N : fs_N} (hk : nd k = some N) {y : Int32} (hy : fs_no2 y N.2.2.2.2.2.length) : fw_R g m_FR_dropEntry (fs_P g (o, gr, a1, a2, a3, a4, na) w (.inr "java/util/NoSuchElementException") (us, n, hu, hg, nd)) 2 12 w 0 [(0, .ref o), (1, .int (nI k)), (2, .int y)] [] := by
  obtain ⟨f1, f2, f3, f4, ad, lq, ld, lc, lt, hok, h0, hG, hR, hN, hr⟩ := fs_X_el hX
  obtain ⟨hk150, a, ha, hc, hl, hE⟩ := hr.2.1 k N hk
  obtain ⟨-, hk0, how, hlen, hes, hch, hdep⟩ := hok.2.2.2.2 k N hk
  obtain ⟨mc, hl1, -⟩ := id hl
  have eL := hE.1
  refine fr_aload_n (pc := 0) d_FR_dropEntry_0 rfl rfl ?_
  refine fr_iload_n (pc := 1) d_FR_dropEntry_1 rfl rfl ?_
  refine fr_callv_p (pc := 2) (nc := 1) (ns := 6) (N := m_FR_nodeAt) (rest := []) (as := [.int (nI k)]) d_FR_dropEntry_2 vc_FR_63 ⟨by decide, by decide, Nat.le_of_ble_eq_true rfl⟩ (Nat.le_of_ble_eq_true rfl) h0 (c_FR_nodeAt h0 hN hk150 ha) rfl ?_
  refine fr_astore_n (pc := 5) (L2 := [(0, .ref o), (1, .int (nI k)), (2, .int y), (3, .ref a)]) d_FR_dropEntry_5 rfl (by decide) rfl ?_
  refine fr_iload_n (pc := 6) d_FR_dropEntry_6 rfl rfl ?_
  refine fr_if_lt (pc := 7) (tgt := 21) d_FR_dropEntry_7 (by decide) (fun q => ?_) (fun q => ?_)
  · exact fr_throwX (pc := 21) (nc := 0) (ns := 0) th_FR_146 d_FR_dropEntry_21 d_FR_dropEntry_24 d_FR_dropEntry_25 d_FR_dropEntry_27 d_FR_dropEntry_30 (by decide) (by decide) (by decide) ⟨rfl, hX, fs_Fr_id⟩
  · refine fr_iload_n (pc := 10) d_FR_dropEntry_10 rfl rfl ?_
    refine fr_aload_n (pc := 11) d_FR_dropEntry_11 rfl rfl ?_
    refine fr_get (pc := 12) (v := .ref (lq k)) d_FR_dropEntry_12 fg_FR_119 hc rfl ?_
    refine fr_callv_p (pc := 15) (nc := 1) (ns := 6) (N := m_AL_size) (rest := [.int y]) (as := []) d_FR_dropEntry_15 vc_FR_123 ⟨by decide, by decide, Nat.le_of_ble_eq_true rfl⟩ (Nat.le_of_ble_eq_true rfl) hl1 (c_AL_size hl) rfl ?_
    refine fr_icmp_lt (pc := 18) (tgt := 31) d_FR_dropEntry_18 (by decide) (fun q2 => ?_) (fun q2 => ?_)
    · obtain ⟨j, hj, e⟩ := ix_lt (by omega) q q2
      exact absurd e (hy j (by omega))
    · exact fr_throwX (pc := 21) (nc := 0) (ns := 0) th_FR_146 d_FR_dropEntry_21 d_FR_dropEntry_24 d_FR_dropEntry_25 d_FR_dropEntry_27 d_FR_dropEntry_30 (by decide) (by decide) (by decide) ⟨rfl, hX, fs_Fr_id⟩
end
section
theorem fs_pad {g : fw_G} {w : fw_W} {nd : fs_D} {ad : Nat → Option Nat} {lq ld lc : Nat → Nat} {lt : Nat → List Nat} (hr : fs_rN g w nd ad lq ld lc lt) {k p : Nat} {N : fs_N} (hk : nd k = some N) (hch : fs_ch nd k (fs_ab nd k)) (hp : N.2.1 = some p) : ∃ Pn b, nd p = some Pn ∧ ad p = some b := by
  obtain ⟨Pn, hPn⟩ : ∃ Pn, nd p = some Pn := by
    cases hab : fs_ab nd k with
    | nil => rw [hab] at hch; obtain ⟨N9, e1, e2⟩ := hch; rw [hk] at e1; cases e1; rw [hp] at e2; cases e2
    | cons p9 t9 => rw [hab] at hch; obtain ⟨⟨N9, e1, e2⟩, e3⟩ := hch; rw [hk] at e1; cases e1; rw [hp] at e2; cases e2; exact fs_ch_some _ _ e3 p (Or.inl rfl)
  obtain ⟨-, b, hb, -⟩ := hr.2.1 p Pn hPn
  exact ⟨Pn, b, hPn, hb⟩
theorem fs_sum_0 {f : Nat → Nat} : ∀ m k, fs_sum f m k = 0 → ∀ j, k ≤ j → j < k + m → f j = 0 := by
  intro m
  induction m with
  | zero => intro k _ j h1 h2; omega
  | succ m ih =>
    intro k h j h1 h2
    rw [fs_sum] at h
    by_cases e : j = k
    · subst e; omega
    · exact ih (k + 1) (by omega) j (by omega) (by omega)
theorem fs_sum_le {f : Nat → Nat} {B : Nat} (hf : ∀ k, f k ≤ B) : ∀ m k, fs_sum f m k ≤ m * B := by
  intro m
  induction m with
  | zero => intro k; simp [fs_sum]
  | succ m ih => intro k; rw [fs_sum, Nat.succ_mul]; have := hf k; have := ih (k + 1); omega
theorem fs_f4_1 (nd : fs_D) (t k : Nat) : fs_f4 nd t k ≤ 1 := by
  unfold fs_f4
  split
  · split <;> omega
  · omega
theorem fs_nokid {nd : fs_D} {t : Nat} (hb : ∀ k N, nd k = some N → k < 150) (h : fs_sum (fs_f4 nd t) 150 0 = 0) : ∀ j M, nd j = some M → M.2.1 ≠ some t := by
  intro j M hj hp
  have h1 := fs_sum_0 150 0 h j (Nat.zero_le _) (by have := hb j M hj; omega)
  simp [fs_f4, hj, hp] at h1
theorem fs_ch_off {nd nd2 : fs_D} : ∀ (l : List Nat) (k : Nat), (∀ x, x = k ∨ x ∈ l → nd2 x = nd x) → fs_ch nd k l → fs_ch nd2 k l := by
  intro l
  induction l with
  | nil =>
    rintro k h ⟨N, h1, h2⟩
    exact ⟨N, by rw [h k (Or.inl rfl)]; exact h1, h2⟩
  | cons p t ih =>
    rintro k h ⟨⟨N, h1, h2⟩, h3⟩
    exact ⟨⟨N, by rw [h k (Or.inl rfl)]; exact h1, h2⟩, ih p (fun x hx => h x (Or.inr (List.mem_cons.mpr hx))) h3⟩
theorem fs_ch_np {nd : fs_D} {t : Nat} (h : ∀ j M, nd j = some M → M.2.1 ≠ some t) : ∀ (l : List Nat) (k : Nat), fs_ch nd k l → t ∉ l := by
  intro l
  induction l with
  | nil => intro k _ hm; cases hm
  | cons p r ih =>
    rintro k ⟨⟨N, h1, h2⟩, h3⟩ hm
    rcases List.mem_cons.mp hm with rfl | hm
    · exact h k N h1 h2
    · exact ih p h3 hm
theorem fs_ab_of {nd : fs_D} {k : Nat} {l : List Nat} (h : fs_ch nd k l) (hl : l.length ≤ 20) : fs_ab nd k = l := fs_an_ch l k 21 h (by omega)
theorem fs_ok_rm {us n : Nat} {nd : fs_D} (h : fs_ok us n nd) {t : Nat} (ht : t ≠ 0) (hno : ∀ j M, nd j = some M → M.2.1 ≠ some t) : fs_ok us n (va_up nd t none) := by
  obtain ⟨q1, q2, q3, ⟨N0, q4, q6⟩, q5⟩ := h
  refine ⟨q1, q2, q3, ⟨N0, by rw [vu_ne (Ne.symm ht)]; exact q4, q6⟩, fun k N hk => ?_⟩
  have hkt : k ≠ t := fun e => by subst e; rw [vu_self] at hk; cases hk
  rw [vu_ne hkt] at hk
  obtain ⟨e1, e2, e3, e4, e5, e6, e7⟩ := q5 k N hk
  have hc := fs_ch_off (nd2 := va_up nd t none) _ _ (fun x hx => by
    refine vu_ne (fun e => ?_)
    subst e
    rcases hx with hx | hx
    · exact hkt hx.symm
    · exact fs_ch_np hno _ _ e6 hx) e6
  refine ⟨e1, e2, e3, e4, e5, ?_, ?_⟩
  · rw [fs_ab_of hc e7]; exact hc
  · rw [fs_ab_of hc e7]; exact e7
theorem fs_rN_rm {g : fw_G} {w : fw_W} {nd : fs_D} {ad : Nat → Option Nat} {lq ld lc : Nat → Nat} {lt : Nat → List Nat} (h : fs_rN g w nd ad lq ld lc lt) {t : Nat} (hno : ∀ j M, nd j = some M → M.2.1 ≠ some t) : fs_rN g w (va_up nd t none) (va_up ad t none) lq ld lc lt := by
  obtain ⟨h0, h1, h2, h3⟩ := h
  have hnn : ∀ j, va_up nd t none j ≠ none → nd j ≠ none := fun j hj => by
    by_cases e : j = t
    · subst e; rw [vu_self] at hj; exact absurd rfl hj
    · rwa [vu_ne e] at hj
  refine ⟨fun j hj => ?_, fun j M hj => ?_, fun i j e1 e2 => h2 i j (hnn i e1) (hnn j e2), fun i j e1 e2 => h3 i j (hnn i e1) (hnn j e2)⟩
  · by_cases e : j = t
    · subst e; exact vu_self
    · rw [vu_ne e] at hj ⊢; exact h0 j hj
  · have e : j ≠ t := fun e => by subst e; rw [vu_self] at hj; cases hj
    rw [vu_ne e] at hj
    obtain ⟨p1, a, ha, hc, hl, hE⟩ := h1 j M hj
    refine ⟨p1, a, by rw [vu_ne e]; exact ha, ?_, hl, hE⟩
    have eb : M.2.1.bind (va_up ad t none) = M.2.1.bind ad := by
      cases hp : M.2.1 with
      | none => rfl
      | some p =>
        show va_up ad t none p = ad p
        exact vu_ne (fun e2 => hno j M hj (by rw [hp, e2]))
    rw [eb]; exact hc
theorem fs_kk_no {g : fw_G} {ad : Nat → Option Nat} : ¬ fs_kk (fs_no g ad) := by
  rintro (⟨c2, f2, e, h1, h2⟩ | ⟨c, n, f, e, h⟩)
  · cases e
  · cases e; exact h rfl
theorem fr_aastNk {g : fw_G} {M : fw_M} {Post : fw_O → fw_W → Prop} {nc ns : Nat} {w : fw_W} {pc : Nat} {L : List (Nat × Value)} {rest : List Value} {a n k t : Nat} {C : String} {f : Nat → Option Nat} (hd : decode M.2.1 pc = .ok (.aastore, 1)) (ht : fw_kd t (.object C)) (ha : w a = some (.inl (fw_c g t, n, .inr (.inr (.inr (.inr f)))))) (hk : k < n) (hn : n < 2 ^ 31) (kk : fw_R g M Post nc ns (fw_up w a (.inl (fw_c g t, n, .inr (.inr (.inr (.inr (va_up f k none))))))) (pc + 1) L rest) : fw_R g M Post nc ns w pc L (.null :: .int (nI k) :: .ref a :: rest) :=
  fr_aastN hd ht ha (vp_in_nI hk hn) (by rw [nI_clamp (by omega)]; exact kk)
theorem fr_aastk {g : fw_G} {M : fw_M} {Post : fw_O → fw_W → Prop} {nc ns : Nat} {w : fw_W} {pc : Nat} {L : List (Nat × Value)} {rest : List Value} {a n k t v ci : Nat} {r : vw_C} {f : Nat → Option Nat} {vs : List Value} (hd : decode M.2.1 pc = .ok (.aastore, 1)) (hr : fw_cl[ci]? = some r) (ht : fw_kd t (.object r.1)) (ha : w a = some (.inl (fw_c g t, n, .inr (.inr (.inr (.inr f)))))) (hv : w v = some (.inr (ci, vs))) (hk : k < n) (hn : n < 2 ^ 31) (kk : fw_R g M Post nc ns (fw_up w a (.inl (fw_c g t, n, .inr (.inr (.inr (.inr (va_up f k (some v)))))))) (pc + 1) L rest) : fw_R g M Post nc ns w pc L (.ref v :: .int (nI k) :: .ref a :: rest) :=
  fr_aast hd hr ht ha hv (vp_in_nI hk hn) (by rw [nI_clamp (by omega)]; exact kk)
theorem p_FR_remove_n1 {g : fw_G} {w : fw_W} {o gr a1 a2 a3 a4 na us n : Nat} {hu hg : Nat → Nat → Bool} {nd : fs_D} (hX : fs_X g (o, gr, a1, a2, a3, a4, na) (us, n, hu, hg, nd) w) {x : Int32} (hx : ∀ k, x = nI k → nd k = none) : fw_R g m_FR_remove (fs_P g (o, gr, a1, a2, a3, a4, na) w (.inr "java/util/NoSuchElementException") (us, n, hu, hg, nd)) 3 18 w 0 [(0, .ref o), (1, .int x)] [] := by
  obtain ⟨f1, f2, f3, f4, ad, lq, ld, lc, lt, hok, h0, hG, hR, hN, hr⟩ := fs_X_el hX
  refine fr_aload_n (pc := 0) d_FR_remove_0 rfl rfl ?_
  refine fr_iload_n (pc := 1) d_FR_remove_1 rfl rfl ?_
  refine fr_callv_x (pc := 2) (nc := 2) (ns := 12) (N := m_FR_nodeAt) (rest := []) (as := [.int x]) d_FR_remove_2 vc_FR_63 ⟨by decide, by decide, Nat.le_of_ble_eq_true rfl⟩ (Nat.le_of_ble_eq_true rfl) h0 (x_FR_nodeAt h0 hN (fun k _ e => hr.1 k (hx k e))) rfl ?_
  exact fx_out (by decide) ⟨rfl, hX, fs_Fr_id⟩
theorem p_FR_remove_n2 {g : fw_G} {w : fw_W} {o gr a1 a2 a3 a4 na us n : Nat} {hu hg : Nat → Nat → Bool} {nd : fs_D} (hX : fs_X g (o, gr, a1, a2, a3, a4, na) (us, n, hu, hg, nd) w) {k : Nat} {N : fs_N} (hk : nd k = some N) (hp : N.2.1 = none) : fw_R g m_FR_remove (fs_P g (o, gr, a1, a2, a3, a4, na) w (.inr "java/lang/IllegalArgumentException") (us, n, hu, hg, nd)) 3 18 w 0 [(0, .ref o), (1, .int (nI k))] [] := by
  obtain ⟨f1, f2, f3, f4, ad, lq, ld, lc, lt, hok, h0, hG, hR, hN, hr⟩ := fs_X_el hX
  obtain ⟨hk150, a, ha, hc, hl, hE⟩ := hr.2.1 k N hk
  obtain ⟨-, hk0, how, hlen, hes, hch, hdep⟩ := hok.2.2.2.2 k N hk
  have h3 : (fs_nc k N (lq k) (N.2.1.bind ad))[3]? = some .null := by show some (va_rf (N.2.1.bind ad)) = _; rw [hp]; rfl
  refine fr_aload_n (pc := 0) d_FR_remove_0 rfl rfl ?_
  refine fr_iload_n (pc := 1) d_FR_remove_1 rfl rfl ?_
  refine fr_callv_p (pc := 2) (nc := 2) (ns := 12) (N := m_FR_nodeAt) (rest := []) (as := [.int (nI k)]) d_FR_remove_2 vc_FR_63 ⟨by decide, by decide, Nat.le_of_ble_eq_true rfl⟩ (Nat.le_of_ble_eq_true rfl) h0 (c_FR_nodeAt h0 hN hk150 ha) rfl ?_
  refine fr_astore_n (pc := 5) (L2 := [(0, .ref o), (1, .int (nI k)), (2, .ref a)]) d_FR_remove_5 rfl (by decide) rfl ?_
  refine fr_aload_n (pc := 6) d_FR_remove_6 rfl rfl ?_
  refine fr_calls_x (pc := 7) (nc := 1) (ns := 6) (N := m_FR_requireNotRoot) (rest := []) (as := [.ref a]) d_FR_remove_7 k_FR_requireNotRoot lk_FR_85 sc_FR_requireNotRoot np_FR_requireNotRoot ⟨by decide, by decide, Nat.le_of_ble_eq_true rfl⟩ (Nat.le_of_ble_eq_true rfl) (x_FR_requireNotRoot (p := 0) hc h3) rfl ?_
  exact fx_out (by decide) ⟨rfl, hX, fs_Fr_id⟩
theorem p_FR_remove_n3 {g : fw_G} {w : fw_W} {o gr a1 a2 a3 a4 na us n : Nat} {hu hg : Nat → Nat → Bool} {nd : fs_D} (hX : fs_X g (o, gr, a1, a2, a3, a4, na) (us, n, hu, hg, nd) w) {k : Nat} {N : fs_N} (hk : nd k = some N) {p : Nat} (hp : N.2.1 = some p) (hs : (fs_sum (fs_f4 nd k) 150 0) ≠ 0) : fw_R g m_FR_remove (fs_P g (o, gr, a1, a2, a3, a4, na) w (.inr "java/lang/IllegalStateException") (us, n, hu, hg, nd)) 3 18 w 0 [(0, .ref o), (1, .int (nI k))] [] := by
  obtain ⟨f1, f2, f3, f4, ad, lq, ld, lc, lt, hok, h0, hG, hR, hN, hr⟩ := fs_X_el hX
  obtain ⟨hk150, a, ha, hc, hl, hE⟩ := hr.2.1 k N hk
  obtain ⟨-, hk0, how, hlen, hes, hch, hdep⟩ := hok.2.2.2.2 k N hk
  have hs150 : fs_sum (fs_f4 nd k) 150 0 ≤ 150 := by have := fs_sum_le (fs_f4_1 nd k) 150 0; omega
  obtain ⟨Pn, pb, hPn, hpb⟩ := fs_pad hr hk hch hp
  have h3 : (fs_nc k N (lq k) (N.2.1.bind ad))[3]? = some (.ref pb) := by show some (va_rf (N.2.1.bind ad)) = _; rw [hp]; show some (va_rf (ad p)) = _; rw [rf_some hpb]
  refine fr_aload_n (pc := 0) d_FR_remove_0 rfl rfl ?_
  refine fr_iload_n (pc := 1) d_FR_remove_1 rfl rfl ?_
  refine fr_callv_p (pc := 2) (nc := 2) (ns := 12) (N := m_FR_nodeAt) (rest := []) (as := [.int (nI k)]) d_FR_remove_2 vc_FR_63 ⟨by decide, by decide, Nat.le_of_ble_eq_true rfl⟩ (Nat.le_of_ble_eq_true rfl) h0 (c_FR_nodeAt h0 hN hk150 ha) rfl ?_
  refine fr_astore_n (pc := 5) (L2 := [(0, .ref o), (1, .int (nI k)), (2, .ref a)]) d_FR_remove_5 rfl (by decide) rfl ?_
  refine fr_aload_n (pc := 6) d_FR_remove_6 rfl rfl ?_
  refine fr_calls_n (pc := 7) (nc := 1) (ns := 6) (N := m_FR_requireNotRoot) (rest := []) (as := [.ref a]) d_FR_remove_7 k_FR_requireNotRoot lk_FR_85 sc_FR_requireNotRoot np_FR_requireNotRoot ⟨by decide, by decide, Nat.le_of_ble_eq_true rfl⟩ (Nat.le_of_ble_eq_true rfl) (c_FR_requireNotRoot hc h3) rfl ?_
  refine fr_aload_n (pc := 10) d_FR_remove_10 rfl rfl ?_
  refine fr_aload_n (pc := 11) d_FR_remove_11 rfl rfl ?_
  refine fr_callv_p (pc := 12) (nc := 1) (ns := 6) (N := m_FR_childrenOf) (rest := []) (as := [.ref a]) d_FR_remove_12 vc_FR_114 ⟨by decide, by decide, Nat.le_of_ble_eq_true rfl⟩ (Nat.le_of_ble_eq_true rfl) h0 (by have hh := c_FR_childrenOf (nc := 0) (ns := 0) h0 hN hr (fs_ok_ch hok) hk ha; rw [Nat.zero_add] at hh; exact hh) rfl ?_
  refine fr_if_le (pc := 15) (tgt := 28) d_FR_remove_15 (by decide) (fun q => ?_) (fun q => ?_)
  · exact absurd ((ni_le (b := 0) (by omega) (by omega)).mp q) (by omega)
  · exact fr_throw (pc := 18) (nc := 0) (ns := 0) th_FR_117 d_FR_remove_18 d_FR_remove_21 d_FR_remove_22 d_FR_remove_24 d_FR_remove_27 (by decide) (by decide) (by decide) ⟨rfl, hX, fs_Fr_id⟩
theorem p_FR_remove_ok {g : fw_G} {w : fw_W} {o gr a1 a2 a3 a4 na us n : Nat} {hu hg : Nat → Nat → Bool} {nd : fs_D} (hX : fs_X g (o, gr, a1, a2, a3, a4, na) (us, n, hu, hg, nd) w) {k : Nat} {N : fs_N} (hk : nd k = some N) {p : Nat} (hp : N.2.1 = some p) (hs : (fs_sum (fs_f4 nd k) 150 0) = 0) : fw_R g m_FR_remove (fs_P g (o, gr, a1, a2, a3, a4, na) w (.inl (some (.int (nI N.2.2.2.2.2.length)))) (us, n, hu, hg, va_up nd k none)) 3 18 w 0 [(0, .ref o), (1, .int (nI k))] [] := by
  obtain ⟨f1, f2, f3, f4, ad, lq, ld, lc, lt, hok, h0, hG, hR, hN, hr⟩ := fs_X_el hX
  obtain ⟨hk150, a, ha, hc, hl, hE⟩ := hr.2.1 k N hk
  obtain ⟨-, hk0, how, hlen, hes, hch, hdep⟩ := hok.2.2.2.2 k N hk
  have hs150 : fs_sum (fs_f4 nd k) 150 0 ≤ 150 := by have := fs_sum_le (fs_f4_1 nd k) 150 0; omega
  obtain ⟨Pn, pb, hPn, hpb⟩ := fs_pad hr hk hch hp
  have h3 : (fs_nc k N (lq k) (N.2.1.bind ad))[3]? = some (.ref pb) := by show some (va_rf (N.2.1.bind ad)) = _; rw [hp]; show some (va_rf (ad p)) = _; rw [rf_some hpb]
  obtain ⟨mc, hl1, -⟩ := id hl
  have hno := fs_nokid (fun j M hj => (hok.2.2.2.2 j M hj).1) hs
  have hk00 : k ≠ 0 := fun z => by
    subst z
    obtain ⟨N0, e1, e2⟩ := hok.2.2.2.1
    rw [hk] at e1; cases e1; rw [hp] at e2; cases e2
  refine fr_dn (fun hdf => ?_)
  have hdn : w (fw_df g) = some (fs_no g ad) → False := fun z => by rw [hdf] at z; cases z
  refine fr_aload_n (pc := 0) d_FR_remove_0 rfl rfl ?_
  refine fr_iload_n (pc := 1) d_FR_remove_1 rfl rfl ?_
  refine fr_callv_p (pc := 2) (nc := 2) (ns := 12) (N := m_FR_nodeAt) (rest := []) (as := [.int (nI k)]) d_FR_remove_2 vc_FR_63 ⟨by decide, by decide, Nat.le_of_ble_eq_true rfl⟩ (Nat.le_of_ble_eq_true rfl) h0 (c_FR_nodeAt h0 hN hk150 ha) rfl ?_
  refine fr_astore_n (pc := 5) (L2 := [(0, .ref o), (1, .int (nI k)), (2, .ref a)]) d_FR_remove_5 rfl (by decide) rfl ?_
  refine fr_aload_n (pc := 6) d_FR_remove_6 rfl rfl ?_
  refine fr_calls_n (pc := 7) (nc := 1) (ns := 6) (N := m_FR_requireNotRoot) (rest := []) (as := [.ref a]) d_FR_remove_7 k_FR_requireNotRoot lk_FR_85 sc_FR_requireNotRoot np_FR_requireNotRoot ⟨by decide, by decide, Nat.le_of_ble_eq_true rfl⟩ (Nat.le_of_ble_eq_true rfl) (c_FR_requireNotRoot hc h3) rfl ?_
  refine fr_aload_n (pc := 10) d_FR_remove_10 rfl rfl ?_
  refine fr_aload_n (pc := 11) d_FR_remove_11 rfl rfl ?_
  refine fr_callv_p (pc := 12) (nc := 1) (ns := 6) (N := m_FR_childrenOf) (rest := []) (as := [.ref a]) d_FR_remove_12 vc_FR_114 ⟨by decide, by decide, Nat.le_of_ble_eq_true rfl⟩ (Nat.le_of_ble_eq_true rfl) h0 (by have hh := c_FR_childrenOf (nc := 0) (ns := 0) h0 hN hr (fs_ok_ch hok) hk ha; rw [Nat.zero_add] at hh; exact hh) rfl ?_
  refine fr_if_le (pc := 15) (tgt := 28) d_FR_remove_15 (by decide) (fun q => ?_) (fun q => ?_)
  · refine fr_aload_n (pc := 28) d_FR_remove_28 rfl rfl ?_
    refine fr_get (pc := 29) (v := .ref na) d_FR_remove_29 fg_FR_18 h0 rfl ?_
    refine fr_iload_n (pc := 32) d_FR_remove_32 rfl rfl ?_
    refine fr_null (pc := 33) d_FR_remove_33 ?_
    refine fr_aastNk (pc := 34) (t := 3) (C := "FolderRights$Node") d_FR_remove_34 rfl hN hk150 (by omega) ?_
    have hq1 := fw_up_at (a := na) (x := fs_no g (va_up ad k none)) hl1 (fs_ne hl1 hN (fun z => by cases z))
    have hrr := fs_rN_fr (fs_rN_rm hr hno) (fs_up_kk (y := fs_no g (va_up ad k none)) hN fs_kk_no)
    have hl2 := fs_li hl (u := fw_up w na (fs_no g (va_up ad k none))) (fun b e hb hor => fw_up_at hb (fun z => by
      subst z
      rw [hN] at hb; cases hb
      obtain ⟨mc2, e0, -, e3, e4⟩ := id hl
      rcases hor with z | z | z
      · rw [z, e0] at hN; cases hN
      · rcases e4 with ⟨e9, e10⟩ | ⟨e9, e10, e11⟩
        · exact hdn (by rw [← e9, ← z]; exact hN)
        · rw [← z, hN] at e9; have := congrArg (fun q => q.2.1) (Sum.inl.inj (Option.some.inj e9)); simp only at this; omega
      · obtain ⟨fs, hfs⟩ := e3 _ z; rw [hN] at hfs; cases hfs))
    refine fr_aload_n (pc := 35) d_FR_remove_35 rfl rfl ?_
    refine fr_get (pc := 36) (v := .ref (lq k)) d_FR_remove_36 fg_FR_119 (fw_up_at hc (fs_ne hc hN (fun z => by cases z))) rfl ?_
    refine fr_callv_p (pc := 39) (nc := 1) (ns := 6) (N := m_AL_size) (rest := []) (as := []) d_FR_remove_39 vc_FR_123 ⟨by decide, by decide, Nat.le_of_ble_eq_true rfl⟩ (Nat.le_of_ble_eq_true rfl) hq1 (c_AL_size hl2) rfl ?_
    refine fr_st (st2 := [.int (nI N.2.2.2.2.2.length)]) (by rw [hE.1]) ?_
    exact fr_iret rfl d_FR_remove_42 ⟨rfl, fs_X_in (fs_ok_rm hok hk00 hno) (fw_up_at h0 (fs_ne h0 hN (fun z => by cases z))) (fs_gr_fr hG (fun b e hb h1 h2 => fw_up_at hb (fs_ne hb hN (fun z => h2 _ _ _ z)))) hR fw_up_self hrr, fs_Fr_up fs_Fr_id (fun e he => by rw [hN] at he; cases he; exact Or.inr (Or.inl ⟨_, _, _, rfl⟩))⟩
  · exact absurd (by rw [hs]; decide) q
end
