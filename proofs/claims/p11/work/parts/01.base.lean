def lw_okq (q : MethodName × Nat) : Prop := (q.1.cls ≠ "java/lang/invoke/MethodHandle" ∧ q.1.cls ≠ "java/lang/invoke/VarHandle") ∧ Cond.instantiable q.1.cls q.2 ∈ tables_1 ∧ Cond.privateMethod q.1 ∈ tables_1 ∧ Cond.instanceMethod q.1 ∈ tables_1
theorem lw_p0 : lw_okq (⟨"LayerDesk", "openLayer", "(I)LLayerDesk$Layer;"⟩, 6) := ⟨⟨by decide +kernel, by decide +kernel⟩, List.mem_of_getElem? (i := 23) (by decide +kernel), List.mem_of_getElem? (i := 135) (by decide +kernel), List.mem_of_getElem? (i := 136) (by decide +kernel)⟩
theorem lw_p1 : lw_okq (⟨"LayerDesk", "isParentOfOpen", "(LLayerDesk$Layer;)Z"⟩, 6) := ⟨⟨by decide +kernel, by decide +kernel⟩, List.mem_of_getElem? (i := 23) (by decide +kernel), List.mem_of_getElem? (i := 139) (by decide +kernel), List.mem_of_getElem? (i := 140) (by decide +kernel)⟩
theorem lw_p2 : lw_okq (⟨"LayerDesk", "countOpen", "()I"⟩, 6) := ⟨⟨by decide +kernel, by decide +kernel⟩, List.mem_of_getElem? (i := 23) (by decide +kernel), List.mem_of_getElem? (i := 147) (by decide +kernel), List.mem_of_getElem? (i := 148) (by decide +kernel)⟩
theorem lw_p3 : lw_okq (⟨"LayerDesk", "memberAt", "(II)LLayerDesk$Member;"⟩, 6) := ⟨⟨by decide +kernel, by decide +kernel⟩, List.mem_of_getElem? (i := 23) (by decide +kernel), List.mem_of_getElem? (i := 159) (by decide +kernel), List.mem_of_getElem? (i := 160) (by decide +kernel)⟩
theorem lw_p4 : lw_okq (⟨"LayerDesk", "memberOf", "(II)LLayerDesk$Member;"⟩, 6) := ⟨⟨by decide +kernel, by decide +kernel⟩, List.mem_of_getElem? (i := 23) (by decide +kernel), List.mem_of_getElem? (i := 167) (by decide +kernel), List.mem_of_getElem? (i := 168) (by decide +kernel)⟩
theorem lw_p5 : lw_okq (⟨"LayerDesk$Shelf", "acceptDescriptor", "(LLayerDesk$Line;)I"⟩, 2) := ⟨⟨by decide +kernel, by decide +kernel⟩, List.mem_of_getElem? (i := 57) (by decide +kernel), List.mem_of_getElem? (i := 249) (by decide +kernel), List.mem_of_getElem? (i := 250) (by decide +kernel)⟩
theorem lw_p6 : lw_okq (⟨"LayerDesk$Shelf", "acceptPackage", "(LLayerDesk$Line;)I"⟩, 2) := ⟨⟨by decide +kernel, by decide +kernel⟩, List.mem_of_getElem? (i := 57) (by decide +kernel), List.mem_of_getElem? (i := 353) (by decide +kernel), List.mem_of_getElem? (i := 354) (by decide +kernel)⟩
theorem lw_p7 : lw_okq (⟨"LayerDesk$Shelf", "latest", "()LLayerDesk$Descriptor;"⟩, 2) := ⟨⟨by decide +kernel, by decide +kernel⟩, List.mem_of_getElem? (i := 57) (by decide +kernel), List.mem_of_getElem? (i := 357) (by decide +kernel), List.mem_of_getElem? (i := 358) (by decide +kernel)⟩
theorem lw_p8 : lw_okq (⟨"LayerDesk$Shelf", "acceptGrant", "(LLayerDesk$Line;)I"⟩, 2) := ⟨⟨by decide +kernel, by decide +kernel⟩, List.mem_of_getElem? (i := 57) (by decide +kernel), List.mem_of_getElem? (i := 399) (by decide +kernel), List.mem_of_getElem? (i := 400) (by decide +kernel)⟩
theorem lw_p9 : lw_okq (⟨"LayerDesk$Shelf", "acceptRequired", "(LLayerDesk$Line;)I"⟩, 2) := ⟨⟨by decide +kernel, by decide +kernel⟩, List.mem_of_getElem? (i := 57) (by decide +kernel), List.mem_of_getElem? (i := 429) (by decide +kernel), List.mem_of_getElem? (i := 430) (by decide +kernel)⟩
theorem lw_p10 : lw_okq (⟨"LayerDesk$Shelf", "acceptService", "(LLayerDesk$Line;)I"⟩, 2) := ⟨⟨by decide +kernel, by decide +kernel⟩, List.mem_of_getElem? (i := 57) (by decide +kernel), List.mem_of_getElem? (i := 441) (by decide +kernel), List.mem_of_getElem? (i := 442) (by decide +kernel)⟩
theorem lw_p11 : lw_okq (⟨"java/lang/Throwable", "fillInStackTrace", "(I)Ljava/lang/Throwable;"⟩, 6) := ⟨⟨by decide +kernel, by decide +kernel⟩, List.mem_of_getElem? (i := 484) (by decide +kernel), List.mem_of_getElem? (i := 482) (by decide +kernel), List.mem_of_getElem? (i := 483) (by decide +kernel)⟩
theorem lw_p12 : lw_okq (⟨"LayerDesk", "rootsAreNames", "()Z"⟩, 6) := ⟨⟨by decide +kernel, by decide +kernel⟩, List.mem_of_getElem? (i := 23) (by decide +kernel), List.mem_of_getElem? (i := 537) (by decide +kernel), List.mem_of_getElem? (i := 538) (by decide +kernel)⟩
theorem lw_p13 : lw_okq (⟨"LayerDesk", "addRoots", "()Z"⟩, 6) := ⟨⟨by decide +kernel, by decide +kernel⟩, List.mem_of_getElem? (i := 23) (by decide +kernel), List.mem_of_getElem? (i := 550) (by decide +kernel), List.mem_of_getElem? (i := 551) (by decide +kernel)⟩
theorem lw_p14 : lw_okq (⟨"LayerDesk$Chooser", "addName", "(II)Z"⟩, 5) := ⟨⟨by decide +kernel, by decide +kernel⟩, List.mem_of_getElem? (i := 75) (by decide +kernel), List.mem_of_getElem? (i := 558) (by decide +kernel), List.mem_of_getElem? (i := 559) (by decide +kernel)⟩
theorem lw_p15 : lw_okq (⟨"LayerDesk$Chooser", "isChosen", "(LLayerDesk$Descriptor;)Z"⟩, 5) := ⟨⟨by decide +kernel, by decide +kernel⟩, List.mem_of_getElem? (i := 75) (by decide +kernel), List.mem_of_getElem? (i := 567) (by decide +kernel), List.mem_of_getElem? (i := 568) (by decide +kernel)⟩
def lw_privs_1 : List (MethodName × Nat) := [(⟨"LayerDesk", "openLayer", "(I)LLayerDesk$Layer;"⟩, 6), (⟨"LayerDesk", "isParentOfOpen", "(LLayerDesk$Layer;)Z"⟩, 6), (⟨"LayerDesk", "countOpen", "()I"⟩, 6), (⟨"LayerDesk", "memberAt", "(II)LLayerDesk$Member;"⟩, 6), (⟨"LayerDesk", "memberOf", "(II)LLayerDesk$Member;"⟩, 6), (⟨"LayerDesk$Shelf", "acceptDescriptor", "(LLayerDesk$Line;)I"⟩, 2), (⟨"LayerDesk$Shelf", "acceptPackage", "(LLayerDesk$Line;)I"⟩, 2), (⟨"LayerDesk$Shelf", "latest", "()LLayerDesk$Descriptor;"⟩, 2), (⟨"LayerDesk$Shelf", "acceptGrant", "(LLayerDesk$Line;)I"⟩, 2), (⟨"LayerDesk$Shelf", "acceptRequired", "(LLayerDesk$Line;)I"⟩, 2), (⟨"LayerDesk$Shelf", "acceptService", "(LLayerDesk$Line;)I"⟩, 2), (⟨"java/lang/Throwable", "fillInStackTrace", "(I)Ljava/lang/Throwable;"⟩, 6), (⟨"LayerDesk", "rootsAreNames", "()Z"⟩, 6), (⟨"LayerDesk", "addRoots", "()Z"⟩, 6), (⟨"LayerDesk$Chooser", "addName", "(II)Z"⟩, 5), (⟨"LayerDesk$Chooser", "isChosen", "(LLayerDesk$Descriptor;)Z"⟩, 5)]
theorem lw_r1 : ∀ q ∈ lw_privs_1, lw_okq q := List.forall_mem_cons.mpr ⟨lw_p0, List.forall_mem_cons.mpr ⟨lw_p1, List.forall_mem_cons.mpr ⟨lw_p2, List.forall_mem_cons.mpr ⟨lw_p3, List.forall_mem_cons.mpr ⟨lw_p4, List.forall_mem_cons.mpr ⟨lw_p5, List.forall_mem_cons.mpr ⟨lw_p6, List.forall_mem_cons.mpr ⟨lw_p7, List.forall_mem_cons.mpr ⟨lw_p8, List.forall_mem_cons.mpr ⟨lw_p9, List.forall_mem_cons.mpr ⟨lw_p10, List.forall_mem_cons.mpr ⟨lw_p11, List.forall_mem_cons.mpr ⟨lw_p12, List.forall_mem_cons.mpr ⟨lw_p13, List.forall_mem_cons.mpr ⟨lw_p14, List.forall_mem_cons.mpr ⟨lw_p15, fun _ h => absurd h List.not_mem_nil⟩⟩⟩⟩⟩⟩⟩⟩⟩⟩⟩⟩⟩⟩⟩⟩
theorem lw_p16 : lw_okq (⟨"LayerDesk$Chooser", "bindOnce", "()V"⟩, 5) := ⟨⟨by decide +kernel, by decide +kernel⟩, List.mem_of_getElem? (i := 75) (by decide +kernel), List.mem_of_getElem? (i := 595) (by decide +kernel), List.mem_of_getElem? (i := 596) (by decide +kernel)⟩
theorem lw_p17 : lw_okq (⟨"LayerDesk$Chooser", "bindUsesOf", "(LLayerDesk$Descriptor;)V"⟩, 5) := ⟨⟨by decide +kernel, by decide +kernel⟩, List.mem_of_getElem? (i := 75) (by decide +kernel), List.mem_of_getElem? (i := 599) (by decide +kernel), List.mem_of_getElem? (i := 600) (by decide +kernel)⟩
theorem lw_p18 : lw_okq (⟨"LayerDesk$Chooser", "bindProvidersOf", "(I)V"⟩, 5) := ⟨⟨by decide +kernel, by decide +kernel⟩, List.mem_of_getElem? (i := 75) (by decide +kernel), List.mem_of_getElem? (i := 603) (by decide +kernel), List.mem_of_getElem? (i := 604) (by decide +kernel)⟩
theorem lw_p19 : lw_okq (⟨"LayerDesk$Layer", "follow", "([LLayerDesk$Reach;)V"⟩, 4) := ⟨⟨by decide +kernel, by decide +kernel⟩, List.mem_of_getElem? (i := 612) (by decide +kernel), List.mem_of_getElem? (i := 707) (by decide +kernel), List.mem_of_getElem? (i := 708) (by decide +kernel)⟩
theorem lw_p20 : lw_okq (⟨"LayerDesk", "faultOf", "(LLayerDesk$Layer;)I"⟩, 6) := ⟨⟨by decide +kernel, by decide +kernel⟩, List.mem_of_getElem? (i := 23) (by decide +kernel), List.mem_of_getElem? (i := 721) (by decide +kernel), List.mem_of_getElem? (i := 722) (by decide +kernel)⟩
theorem lw_p21 : lw_okq (⟨"LayerDesk", "keep", "(LLayerDesk$Layer;)V"⟩, 6) := ⟨⟨by decide +kernel, by decide +kernel⟩, List.mem_of_getElem? (i := 23) (by decide +kernel), List.mem_of_getElem? (i := 749) (by decide +kernel), List.mem_of_getElem? (i := 750) (by decide +kernel)⟩
theorem lw_p22 : lw_okq (⟨"LayerDeskModel", "split", "()V"⟩, 31) := ⟨⟨by decide +kernel, by decide +kernel⟩, List.mem_of_getElem? (i := 799) (by decide +kernel), List.mem_of_getElem? (i := 911) (by decide +kernel), List.mem_of_getElem? (i := 912) (by decide +kernel)⟩
theorem lw_p23 : lw_okq (⟨"LayerDeskModel", "says", "(III)Z"⟩, 31) := ⟨⟨by decide +kernel, by decide +kernel⟩, List.mem_of_getElem? (i := 799) (by decide +kernel), List.mem_of_getElem? (i := 918) (by decide +kernel), List.mem_of_getElem? (i := 919) (by decide +kernel)⟩
theorem lw_p24 : lw_okq (⟨"LayerDeskModel", "letter", "(II)C"⟩, 31) := ⟨⟨by decide +kernel, by decide +kernel⟩, List.mem_of_getElem? (i := 799) (by decide +kernel), List.mem_of_getElem? (i := 922) (by decide +kernel), List.mem_of_getElem? (i := 923) (by decide +kernel)⟩
theorem lw_p25 : lw_okq (⟨"LayerDeskModel", "newDescriptor", "()I"⟩, 31) := ⟨⟨by decide +kernel, by decide +kernel⟩, List.mem_of_getElem? (i := 799) (by decide +kernel), List.mem_of_getElem? (i := 926) (by decide +kernel), List.mem_of_getElem? (i := 927) (by decide +kernel)⟩
theorem lw_p26 : lw_okq (⟨"LayerDeskModel", "nameOf", "(I)I"⟩, 31) := ⟨⟨by decide +kernel, by decide +kernel⟩, List.mem_of_getElem? (i := 799) (by decide +kernel), List.mem_of_getElem? (i := 930) (by decide +kernel), List.mem_of_getElem? (i := 931) (by decide +kernel)⟩
theorem lw_p27 : lw_okq (⟨"LayerDeskModel", "descriptorOf", "(II)I"⟩, 31) := ⟨⟨by decide +kernel, by decide +kernel⟩, List.mem_of_getElem? (i := 799) (by decide +kernel), List.mem_of_getElem? (i := 934) (by decide +kernel), List.mem_of_getElem? (i := 935) (by decide +kernel)⟩
theorem lw_p28 : lw_okq (⟨"LayerDeskModel", "newPackage", "()I"⟩, 31) := ⟨⟨by decide +kernel, by decide +kernel⟩, List.mem_of_getElem? (i := 799) (by decide +kernel), List.mem_of_getElem? (i := 938) (by decide +kernel), List.mem_of_getElem? (i := 939) (by decide +kernel)⟩
theorem lw_p29 : lw_okq (⟨"LayerDeskModel", "packageOf", "(II)I"⟩, 31) := ⟨⟨by decide +kernel, by decide +kernel⟩, List.mem_of_getElem? (i := 799) (by decide +kernel), List.mem_of_getElem? (i := 942) (by decide +kernel), List.mem_of_getElem? (i := 943) (by decide +kernel)⟩
theorem lw_p30 : lw_okq (⟨"LayerDeskModel", "isShut", "()Z"⟩, 31) := ⟨⟨by decide +kernel, by decide +kernel⟩, List.mem_of_getElem? (i := 799) (by decide +kernel), List.mem_of_getElem? (i := 946) (by decide +kernel), List.mem_of_getElem? (i := 947) (by decide +kernel)⟩
theorem lw_p31 : lw_okq (⟨"LayerDeskModel", "shown", "(Z)I"⟩, 31) := ⟨⟨by decide +kernel, by decide +kernel⟩, List.mem_of_getElem? (i := 799) (by decide +kernel), List.mem_of_getElem? (i := 950) (by decide +kernel), List.mem_of_getElem? (i := 951) (by decide +kernel)⟩
def lw_privs_2 : List (MethodName × Nat) := [(⟨"LayerDesk$Chooser", "bindOnce", "()V"⟩, 5), (⟨"LayerDesk$Chooser", "bindUsesOf", "(LLayerDesk$Descriptor;)V"⟩, 5), (⟨"LayerDesk$Chooser", "bindProvidersOf", "(I)V"⟩, 5), (⟨"LayerDesk$Layer", "follow", "([LLayerDesk$Reach;)V"⟩, 4), (⟨"LayerDesk", "faultOf", "(LLayerDesk$Layer;)I"⟩, 6), (⟨"LayerDesk", "keep", "(LLayerDesk$Layer;)V"⟩, 6), (⟨"LayerDeskModel", "split", "()V"⟩, 31), (⟨"LayerDeskModel", "says", "(III)Z"⟩, 31), (⟨"LayerDeskModel", "letter", "(II)C"⟩, 31), (⟨"LayerDeskModel", "newDescriptor", "()I"⟩, 31), (⟨"LayerDeskModel", "nameOf", "(I)I"⟩, 31), (⟨"LayerDeskModel", "descriptorOf", "(II)I"⟩, 31), (⟨"LayerDeskModel", "newPackage", "()I"⟩, 31), (⟨"LayerDeskModel", "packageOf", "(II)I"⟩, 31), (⟨"LayerDeskModel", "isShut", "()Z"⟩, 31), (⟨"LayerDeskModel", "shown", "(Z)I"⟩, 31)]
theorem lw_r2 : ∀ q ∈ lw_privs_2, lw_okq q := List.forall_mem_cons.mpr ⟨lw_p16, List.forall_mem_cons.mpr ⟨lw_p17, List.forall_mem_cons.mpr ⟨lw_p18, List.forall_mem_cons.mpr ⟨lw_p19, List.forall_mem_cons.mpr ⟨lw_p20, List.forall_mem_cons.mpr ⟨lw_p21, List.forall_mem_cons.mpr ⟨lw_p22, List.forall_mem_cons.mpr ⟨lw_p23, List.forall_mem_cons.mpr ⟨lw_p24, List.forall_mem_cons.mpr ⟨lw_p25, List.forall_mem_cons.mpr ⟨lw_p26, List.forall_mem_cons.mpr ⟨lw_p27, List.forall_mem_cons.mpr ⟨lw_p28, List.forall_mem_cons.mpr ⟨lw_p29, List.forall_mem_cons.mpr ⟨lw_p30, List.forall_mem_cons.mpr ⟨lw_p31, fun _ h => absurd h List.not_mem_nil⟩⟩⟩⟩⟩⟩⟩⟩⟩⟩⟩⟩⟩⟩⟩⟩
theorem lw_p32 : lw_okq (⟨"LayerDeskModel", "newRequire", "()I"⟩, 31) := ⟨⟨by decide +kernel, by decide +kernel⟩, List.mem_of_getElem? (i := 799) (by decide +kernel), List.mem_of_getElem? (i := 954) (by decide +kernel), List.mem_of_getElem? (i := 955) (by decide +kernel)⟩
theorem lw_p33 : lw_okq (⟨"LayerDeskModel", "newService", "(Z)I"⟩, 31) := ⟨⟨by decide +kernel, by decide +kernel⟩, List.mem_of_getElem? (i := 799) (by decide +kernel), List.mem_of_getElem? (i := 958) (by decide +kernel), List.mem_of_getElem? (i := 959) (by decide +kernel)⟩
theorem lw_p34 : lw_okq (⟨"LayerDeskModel", "fails", "(I)I"⟩, 31) := ⟨⟨by decide +kernel, by decide +kernel⟩, List.mem_of_getElem? (i := 799) (by decide +kernel), List.mem_of_getElem? (i := 962) (by decide +kernel), List.mem_of_getElem? (i := 963) (by decide +kernel)⟩
theorem lw_p35 : lw_okq (⟨"LayerDeskModel", "isOpen", "(I)Z"⟩, 31) := ⟨⟨by decide +kernel, by decide +kernel⟩, List.mem_of_getElem? (i := 799) (by decide +kernel), List.mem_of_getElem? (i := 970) (by decide +kernel), List.mem_of_getElem? (i := 971) (by decide +kernel)⟩
theorem lw_p36 : lw_okq (⟨"LayerDeskModel", "adds", "(I)Z"⟩, 31) := ⟨⟨by decide +kernel, by decide +kernel⟩, List.mem_of_getElem? (i := 799) (by decide +kernel), List.mem_of_getElem? (i := 974) (by decide +kernel), List.mem_of_getElem? (i := 975) (by decide +kernel)⟩
theorem lw_p37 : lw_okq (⟨"LayerDeskModel", "lookUp", "(II)I"⟩, 31) := ⟨⟨by decide +kernel, by decide +kernel⟩, List.mem_of_getElem? (i := 799) (by decide +kernel), List.mem_of_getElem? (i := 978) (by decide +kernel), List.mem_of_getElem? (i := 979) (by decide +kernel)⟩
theorem lw_p38 : lw_okq (⟨"LayerDeskModel", "isIn", "(II)Z"⟩, 31) := ⟨⟨by decide +kernel, by decide +kernel⟩, List.mem_of_getElem? (i := 799) (by decide +kernel), List.mem_of_getElem? (i := 982) (by decide +kernel), List.mem_of_getElem? (i := 983) (by decide +kernel)⟩
theorem lw_p39 : lw_okq (⟨"LayerDeskModel", "binding", "()V"⟩, 31) := ⟨⟨by decide +kernel, by decide +kernel⟩, List.mem_of_getElem? (i := 799) (by decide +kernel), List.mem_of_getElem? (i := 986) (by decide +kernel), List.mem_of_getElem? (i := 987) (by decide +kernel)⟩
theorem lw_p40 : lw_okq (⟨"LayerDeskModel", "bindsFor", "(I)Z"⟩, 31) := ⟨⟨by decide +kernel, by decide +kernel⟩, List.mem_of_getElem? (i := 799) (by decide +kernel), List.mem_of_getElem? (i := 990) (by decide +kernel), List.mem_of_getElem? (i := 991) (by decide +kernel)⟩
theorem lw_p41 : lw_okq (⟨"LayerDeskModel", "reason", "()I"⟩, 31) := ⟨⟨by decide +kernel, by decide +kernel⟩, List.mem_of_getElem? (i := 799) (by decide +kernel), List.mem_of_getElem? (i := 994) (by decide +kernel), List.mem_of_getElem? (i := 995) (by decide +kernel)⟩
theorem lw_p42 : lw_okq (⟨"LayerDeskModel", "isCycle", "(I)Z"⟩, 31) := ⟨⟨by decide +kernel, by decide +kernel⟩, List.mem_of_getElem? (i := 799) (by decide +kernel), List.mem_of_getElem? (i := 998) (by decide +kernel), List.mem_of_getElem? (i := 999) (by decide +kernel)⟩
theorem lw_p43 : lw_okq (⟨"LayerDeskModel", "isSplit", "(II)Z"⟩, 31) := ⟨⟨by decide +kernel, by decide +kernel⟩, List.mem_of_getElem? (i := 799) (by decide +kernel), List.mem_of_getElem? (i := 1002) (by decide +kernel), List.mem_of_getElem? (i := 1003) (by decide +kernel)⟩
theorem lw_p44 : lw_okq (⟨"LayerDeskModel", "reading", "(II)V"⟩, 31) := ⟨⟨by decide +kernel, by decide +kernel⟩, List.mem_of_getElem? (i := 799) (by decide +kernel), List.mem_of_getElem? (i := 1006) (by decide +kernel), List.mem_of_getElem? (i := 1007) (by decide +kernel)⟩
theorem lw_p45 : lw_okq (⟨"LayerDeskModel", "exports", "(II)Z"⟩, 31) := ⟨⟨by decide +kernel, by decide +kernel⟩, List.mem_of_getElem? (i := 799) (by decide +kernel), List.mem_of_getElem? (i := 1010) (by decide +kernel), List.mem_of_getElem? (i := 1011) (by decide +kernel)⟩
theorem lw_p46 : lw_okq (⟨"LayerDeskModel", "isTo", "(ZIIII)Z"⟩, 31) := ⟨⟨by decide +kernel, by decide +kernel⟩, List.mem_of_getElem? (i := 799) (by decide +kernel), List.mem_of_getElem? (i := 1014) (by decide +kernel), List.mem_of_getElem? (i := 1015) (by decide +kernel)⟩
theorem lw_p47 : lw_okq (⟨"LayerDeskModel", "isElsewhere", "(III)Z"⟩, 31) := ⟨⟨by decide +kernel, by decide +kernel⟩, List.mem_of_getElem? (i := 799) (by decide +kernel), List.mem_of_getElem? (i := 1018) (by decide +kernel), List.mem_of_getElem? (i := 1019) (by decide +kernel)⟩
def lw_privs_3 : List (MethodName × Nat) := [(⟨"LayerDeskModel", "newRequire", "()I"⟩, 31), (⟨"LayerDeskModel", "newService", "(Z)I"⟩, 31), (⟨"LayerDeskModel", "fails", "(I)I"⟩, 31), (⟨"LayerDeskModel", "isOpen", "(I)Z"⟩, 31), (⟨"LayerDeskModel", "adds", "(I)Z"⟩, 31), (⟨"LayerDeskModel", "lookUp", "(II)I"⟩, 31), (⟨"LayerDeskModel", "isIn", "(II)Z"⟩, 31), (⟨"LayerDeskModel", "binding", "()V"⟩, 31), (⟨"LayerDeskModel", "bindsFor", "(I)Z"⟩, 31), (⟨"LayerDeskModel", "reason", "()I"⟩, 31), (⟨"LayerDeskModel", "isCycle", "(I)Z"⟩, 31), (⟨"LayerDeskModel", "isSplit", "(II)Z"⟩, 31), (⟨"LayerDeskModel", "reading", "(II)V"⟩, 31), (⟨"LayerDeskModel", "exports", "(II)Z"⟩, 31), (⟨"LayerDeskModel", "isTo", "(ZIIII)Z"⟩, 31), (⟨"LayerDeskModel", "isElsewhere", "(III)Z"⟩, 31)]
theorem lw_r3 : ∀ q ∈ lw_privs_3, lw_okq q := List.forall_mem_cons.mpr ⟨lw_p32, List.forall_mem_cons.mpr ⟨lw_p33, List.forall_mem_cons.mpr ⟨lw_p34, List.forall_mem_cons.mpr ⟨lw_p35, List.forall_mem_cons.mpr ⟨lw_p36, List.forall_mem_cons.mpr ⟨lw_p37, List.forall_mem_cons.mpr ⟨lw_p38, List.forall_mem_cons.mpr ⟨lw_p39, List.forall_mem_cons.mpr ⟨lw_p40, List.forall_mem_cons.mpr ⟨lw_p41, List.forall_mem_cons.mpr ⟨lw_p42, List.forall_mem_cons.mpr ⟨lw_p43, List.forall_mem_cons.mpr ⟨lw_p44, List.forall_mem_cons.mpr ⟨lw_p45, List.forall_mem_cons.mpr ⟨lw_p46, List.forall_mem_cons.mpr ⟨lw_p47, fun _ h => absurd h List.not_mem_nil⟩⟩⟩⟩⟩⟩⟩⟩⟩⟩⟩⟩⟩⟩⟩⟩
theorem lw_p48 : lw_okq (⟨"LayerDeskModel", "moduleOf", "(II)I"⟩, 31) := ⟨⟨by decide +kernel, by decide +kernel⟩, List.mem_of_getElem? (i := 799) (by decide +kernel), List.mem_of_getElem? (i := 1042) (by decide +kernel), List.mem_of_getElem? (i := 1043) (by decide +kernel)⟩
theorem lw_p49 : lw_okq (⟨"LayerDeskModel", "isThere", "(II)Z"⟩, 31) := ⟨⟨by decide +kernel, by decide +kernel⟩, List.mem_of_getElem? (i := 799) (by decide +kernel), List.mem_of_getElem? (i := 1050) (by decide +kernel), List.mem_of_getElem? (i := 1051) (by decide +kernel)⟩
theorem lw_p50 : lw_okq (⟨"LayerDeskModel", "oneName", "()I"⟩, 31) := ⟨⟨by decide +kernel, by decide +kernel⟩, List.mem_of_getElem? (i := 799) (by decide +kernel), List.mem_of_getElem? (i := 1058) (by decide +kernel), List.mem_of_getElem? (i := 1059) (by decide +kernel)⟩
def lw_privs_4 : List (MethodName × Nat) := [(⟨"LayerDeskModel", "moduleOf", "(II)I"⟩, 31), (⟨"LayerDeskModel", "isThere", "(II)Z"⟩, 31), (⟨"LayerDeskModel", "oneName", "()I"⟩, 31)]
theorem lw_r4 : ∀ q ∈ lw_privs_4, lw_okq q := List.forall_mem_cons.mpr ⟨lw_p48, List.forall_mem_cons.mpr ⟨lw_p49, List.forall_mem_cons.mpr ⟨lw_p50, fun _ h => absurd h List.not_mem_nil⟩⟩⟩
def lw_privs : List (MethodName × Nat) := lw_privs_1 ++ (lw_privs_2 ++ (lw_privs_3 ++ (lw_privs_4)))
def lw_tbl : List Cond := k2_sels lw_privs ++ tables_1
theorem lw_privs_ok : ∀ q ∈ lw_privs, lw_okq q := by
  show ∀ q ∈ lw_privs_1 ++ (lw_privs_2 ++ (lw_privs_3 ++ (lw_privs_4))), lw_okq q
  exact List.forall_mem_append.mpr ⟨lw_r1, List.forall_mem_append.mpr ⟨lw_r2, List.forall_mem_append.mpr ⟨lw_r3, lw_r4⟩⟩⟩
section VXA
def vx_T (XC : String → State → State → Prop) (st : State) (q : Addr) (t : State) (mc ms : Nat) (free : Addr → Prop) : Prop :=
  ∃ (E : String) (ce : Cell) (L : List Loc), XC E st t ∧ t.heap[q]? = some ce ∧ ce.vm = .none ∧ st.vm.findClass E = some ce.cls ∧ st.WarmedH t.vm ∧ st.sameButNew ({ t with vm := st.vm } : State) L mc ms ∧ ∀ z ∈ L, free z.base
def vx_Q (Qc : Array Value → State → Outcome → State → Prop) (XC : String → State → State → Prop) (mc ms : Nat) (free : Addr → Prop) : Array Value → State → Outcome → State → Prop := fun a st o t =>
  (Qc a st o t ∧ ∃ L, FrameEnd st o t L mc ms ∧ ∀ q ∈ L, free q.base) ∨ ∃ q, o = .threw q ∧ vx_T XC st q t mc ms free
def vx_Met (l : Launch) (y : MethodName) (ws : List Cond) (rm : Room) (Pc : Array Value → State → Prop) (Qc : Array Value → State → Outcome → State → Prop) (XC : String → State → State → Prop) (mc ms : Nat) (free : Addr → Prop) : Prop :=
  MetFree l y (headSpec ws rm) Pc (fun _ _ _ _ _ => True) (vx_Q Qc XC mc ms free)
def vx_Post (XC : String → State → State → Prop) (mc ms : Nat) (free : Addr → Prop) : Pt → Array Value → Addr → Pt → Prop := fun A a q B =>
  ∃ (g : JFrame) (mk : MethodId) (t : State) (L : List Loc) (E : String) (ce : Cell), B.U.heap = t.heap ∧ B.U.vm = t.vm ∧ XC E (A.U.calling g mk a) t ∧ t.heap[q]? = some ce ∧ ce.vm = .none ∧ A.U.vm.findClass E = some ce.cls ∧ B.locs = A.locs ++ L ∧ (∀ z ∈ L, free z.base) ∧ B.cells = A.cells + mc ∧ B.slots = A.slots + ms
def vx_Back (l : Launch) (R : Room) (p : Program) (e : Env) (below : List Frame) (s : State) (sargs : Array Value) (y : MethodName) (len W9 : Nat)
    (Pre : Pt → Array Value → Prop) (Post : Pt → Array Value → Option Value → Pt → Prop) (PostX : Pt → Array Value → Addr → Pt → Prop) : Prop :=
  ∀ (m : MethodId) (meth : Method) (c : Code) (A : Pt) (g : JFrame) (ig : Instr) (mk : MethodId) (a : Array Value),
    Stand p l e R s m sargs below meth c A.U A.locs A.cells A.slots → g.method = m → g.locals.size = c.maxLocals → decode c.code g.pc = .ok (ig, len) →
    2 * g.monitorRoom + (g.stack.map fun v => v.category).sum ≤ W9 → A.U.methodNamed? y = some mk → Pre A a →
    (∃ (v : Option Value) (B : Pt), Stand p l e R s m sargs below meth c B.U B.locs B.cells B.slots ∧ Post A a v B ∧
      Steps p.tables e below (doInvoke e (A.U.setTop g) [] mk a).1 (B.U.setTop { g with pc := g.pc + len, stack := v.toList ++ g.stack })) ∨
    (∃ (q : Addr) (B : Pt), Stand p l e R s m sargs below meth c B.U B.locs B.cells B.slots ∧ PostX A a q B ∧
      Steps p.tables e below (doInvoke e (A.U.setTop g) [] mk a).1 ((B.U.setTop g).pushFrame (.throwing q)))
section Payer
variable {l : Launch} {R : Room} {p : Program} {e : Env} {below : List Frame} {s : State} {sargs : Array Value} {y : MethodName} {len W9 : Nat}
theorem vx_back {ws : List Cond} {rm : Room} {Pc : Array Value → State → Prop} {Qc : Array Value → State → Outcome → State → Prop} {XC : String → State → State → Prop} {mc ms : Nat} {free : Addr → Prop} {bytes : ByteArray} {maxL : Nat} {ret : Option FieldType}
    (hM : vx_Met l y ws rm Pc Qc XC mc ms free) (hblind : FrameBlind Pc) (hrc : rm.cells = mc) (hrs : rm.slots = ms)
    (hframes : rm.frames + 1 ≤ R.frames) (hlocals : W9 + (maxL + 11) + rm.locals ≤ R.locals)
    (hws : ∀ w ∈ ws, ∀ a' U, s.WarmedH U.vm → w.before a' U = true) (hcode : Cond.code y bytes maxL ret ∈ ws) (hinit : ∀ a' U, s.WarmedH U.vm → (Cond.initialized y.cls).before a' U = true) :
    vx_Back l R p e below s sargs y len W9 (PreOf R mc ms Pc) (PostOf Qc mc ms free) (vx_Post XC mc ms free) := by
  intro m meth c A g ig mk a X hg hsize hdg hW hn hp
  have h1 : (headSpec ws rm).pre.before a A.U = true := atoms_intro fun w hw => hws w hw _ _ X.warmed
  have h2 : (Cond.code y bytes maxL ret).before a A.U = true := hws _ hcode _ _ X.warmed
  have h3 : (Cond.initialized y.cls).before a A.U = true := hinit _ _ X.warmed
  have h4 : A.cells + (headSpec ws rm).room.cells ≤ R.cells := by rw [show (headSpec ws rm).room.cells = mc from hrc]; exact hp.1
  have h5 : A.slots + (headSpec ws rm).room.slots ≤ R.slots := by rw [show (headSpec ws rm).room.slots = ms from hrs]; exact hp.2.1
  have hPc : Pc a (A.U.calling g mk a) := hblind _ _ _ _ hp.2.2
  obtain ⟨U, Ls, c0, s0⟩ := A
  dsimp only [Pt.U, Pt.locs, Pt.cells, Pt.slots] at h1 h2 h3 h4 h5 X hn hPc ⊢
  obtain ⟨methY, cY, hmY, hcY, -, hlY, -, -, -, -⟩ := Cond.code_spec hn h2
  obtain ⟨kY, hkY, -⟩ := className_of_methodNamed hn
  have hinitY : kY.init = .initialized := Cond.initialized_spec (findClass_of_methodNamed hn) hkY h3
  have h : At U g.method c below := by rw [hg]; exact X.here
  have hlocals9 : W9 + (maxL + 11) + (headSpec ws rm).room.locals ≤ R.locals := hlocals
  have happ : (headSpec ws rm).appliesLoose y e.platform (U.calling g mk a) = true :=
    Spec.appliesLoose_calling (g := g) h hdg hn hkY hinitY
      (X.room_calling (g := g) (R' := (headSpec ws rm).room) hsize hmY hcY hframes (by rw [hlY]; omega) h4 h5) h1
  obtain ⟨mid, hmid⟩ := h.above
  have hfr : (U.setTop g).frames = (.java g :: mid) ++ below := by rw [State.frames_setTop' g h.top, hmid]; rfl
  obtain ⟨o, s₂, hsteps, -, hend, hq⟩ := Steps.callFree hM p X.admits X.cas X.clock (acts := []) hfr happ hPc trivial
  have hq' : vx_Q Qc XC mc ms free a (U.calling g mk a) o s₂ := hq
  rw [State.frames_setTop' g h.top] at hend
  obtain ⟨g₀, hg0⟩ := Option.isSome_iff_exists.mp h.top
  obtain ⟨r, hr⟩ := State.topJava?_eq_some.mp hg0
  have hr' : (({ U with heap := s₂.heap, slotsUsed := s₂.slotsUsed } : State).setVm s₂.vm).frames = .java g₀ :: r := hr
  rcases hq' with ⟨hqc, L, hfe, hL⟩ | ⟨q, rfl, E, ce, L, hx, hce, hcv, hcl, hW₂, hsm, hL⟩
  · obtain ⟨⟨v, rfl⟩, hW₂, e2, q2, q3, q4, q5, q6⟩ := id hfe
    have e3 : s₂ = ({ (U.calling g mk a).setFrames s₂.frames with heap := s₂.heap, slotsUsed := s₂.slotsUsed } : State).setVm s₂.vm := by
      have : s₂ = ({ s₂ with vm := (U.calling g mk a).vm } : State).setVm s₂.vm := rfl
      rw [e2] at this
      exact this
    obtain ⟨c₂, i₂, len₂, hc₂, hd₂, hf₂⟩ := hend
    have hW' : U.WarmedH s₂.vm := hW₂
    have hcc : c₂ = c := by
      have h1 : s₂.code? g.method = U.code? g.method := by
        rw [State.code?_eq, State.code?_eq, hW'.alike.method?]
      exact Option.some.inj (hc₂.symm.trans (h1.trans h.code))
    subst hcc
    have hlen : len₂ = len := by rw [hdg] at hd₂; cases hd₂; rfl
    subst hlen
    have hs₂ : s₂ = (({ U with heap := s₂.heap, slotsUsed := s₂.slotsUsed } : State).setVm s₂.vm).setTop { g with pc := g.pc + len₂, stack := v.toList ++ g.stack } := by
      refine e3.trans ?_
      rw [hf₂, State.calling_eq h.top, State.setFrames_setFrames, State.setTop_of_frames _ hr', hr]
      rfl
    have hsame : U.sameButNew ({ U with heap := s₂.heap, slotsUsed := s₂.slotsUsed } : State) L mc ms := by
      refine ⟨?_, q2, q3, q4, q5, q6⟩
      obtain ⟨t, ht, -⟩ := State.frames_cons hr
      show ({ U with heap := s₂.heap, slotsUsed := s₂.slotsUsed } : State) = { U.setFrames U.frames with heap := s₂.heap, slotsUsed := s₂.slotsUsed }
      rw [State.setFrames_self ht]
    subst hg
    refine Or.inl ⟨v, ⟨(({ U with heap := s₂.heap, slotsUsed := s₂.slotsUsed } : State).setVm s₂.vm), Ls ++ L, c0 + mc, s0 + ms⟩,
      ⟨X.admits, X.cas, X.clock, X.frames, X.room, X.hears, X.method, X.code, (X.here.setHeapUsed s₂.heap s₂.slotsUsed).setVm hW'.alike, X.tail, State.WarmedH.trans X.warmed hW', X.limits, X.bytes, X.same.trans (hsame.setVm s.vm)⟩,
      ⟨g, mk, s₂, L, rfl, rfl, hqc, rfl, hL, rfl, rfl⟩, ?_⟩
    show Steps p.tables e below _ ((({ U with heap := s₂.heap, slotsUsed := s₂.slotsUsed } : State).setVm s₂.vm).setTop { g with pc := g.pc + len₂, stack := v.toList ++ g.stack })
    rw [← hs₂]
    exact hsteps
  · obtain ⟨e2, q2, q3, q4, q5, q6⟩ := id hsm
    have e3 : s₂ = ({ (U.calling g mk a).setFrames s₂.frames with heap := s₂.heap, slotsUsed := s₂.slotsUsed } : State).setVm s₂.vm := by
      have : s₂ = ({ s₂ with vm := (U.calling g mk a).vm } : State).setVm s₂.vm := rfl
      rw [e2] at this
      exact this
    have hf₂ : s₂.frames = .throwing q :: .java g :: U.frames.tail := hend
    have hW' : U.WarmedH s₂.vm := hW₂
    have hs₂ : s₂ = ((({ U with heap := s₂.heap, slotsUsed := s₂.slotsUsed } : State).setVm s₂.vm).setTop g).pushFrame (.throwing q) := by
      refine e3.trans ?_
      rw [hf₂, State.calling_eq h.top, State.setFrames_setFrames, State.pushFrame, State.frames_setTop _ hr', State.setTop_of_frames _ hr', State.setFrames_setFrames, hr]
      rfl
    have hsame : U.sameButNew ({ U with heap := s₂.heap, slotsUsed := s₂.slotsUsed } : State) L mc ms := by
      refine ⟨?_, q2, q3, q4, q5, q6⟩
      obtain ⟨t, ht, -⟩ := State.frames_cons hr
      show ({ U with heap := s₂.heap, slotsUsed := s₂.slotsUsed } : State) = { U.setFrames U.frames with heap := s₂.heap, slotsUsed := s₂.slotsUsed }
      rw [State.setFrames_self ht]
    subst hg
    refine Or.inr ⟨q, ⟨(({ U with heap := s₂.heap, slotsUsed := s₂.slotsUsed } : State).setVm s₂.vm), Ls ++ L, c0 + mc, s0 + ms⟩,
      ⟨X.admits, X.cas, X.clock, X.frames, X.room, X.hears, X.method, X.code, (X.here.setHeapUsed s₂.heap s₂.slotsUsed).setVm hW'.alike, X.tail, State.WarmedH.trans X.warmed hW', X.limits, X.bytes, X.same.trans (hsame.setVm s.vm)⟩,
      ⟨g, mk, s₂, L, E, ce, rfl, rfl, hx, hce, hcv, hcl, rfl, hL, rfl, rfl⟩, ?_⟩
    show Steps p.tables e below _ (((({ U with heap := s₂.heap, slotsUsed := s₂.slotsUsed } : State).setVm s₂.vm).setTop g).pushFrame (.throwing q))
    rw [← hs₂]
    exact hsteps
end Payer
section Calls
variable {p : Program} {l : Launch} {e : Env} {R : Room} {s : State} {m : MethodId} {args : Array Value} {below : List Frame} {meth : Method} {c : Code} {T : State} {locs : List Loc} {cells slots : Nat}
theorem vx_callV (X : Stand p l e R s m args below meth c T locs cells slots) (hexec : p.tables.exec = Jvm.exec) {own C : String} {index : Nat} {y : MethodName} {bytes : ByteArray} {maxL : Nat} {ret : Option FieldType}
    (hown : s.vm.findClass own = some m.cls) (hlink : (Cond.methodLink own index y).before args s = true) (hinst : (Cond.instanceMethod y).before args s = true) (hsel : (Cond.selects C y y).before args s = true)
    (hcode : (Cond.code y bytes maxL ret).before args s = true) (hy : y.cls ≠ "java/lang/invoke/MethodHandle" ∧ y.cls ≠ "java/lang/invoke/VarHandle")
    {W9 : Nat} {Pre : Pt → Array Value → Prop} {Post : Pt → Array Value → Option Value → Pt → Prop} {PostX : Pt → Array Value → Addr → Pt → Prop} (hK : vx_Back l R p e below s args y 3 W9 Pre Post PostX)
    {b : Addr} {cellB : Cell} (hcell : T.heap[b]? = some cellB) (hobj : cellB.vm.isStatics = false) (hcls : s.vm.findClass C = some cellB.cls)
    {g : JFrame} (hg : g.method = m) (hsize : g.locals.size = c.maxLocals) {argsL rest : List Value} (hlen : ∀ sig, parseMethodDescriptor y.desc = some sig → argsL.length = sig.parameters.length)
    (hstack : g.stack = argsL.reverse ++ .ref b :: rest) (hW : 2 * g.monitorRoom + (rest.map fun v => v.category).sum ≤ W9) (hdg : decode c.code g.pc = .ok (.invokevirtual index, 3))
    (hpre : ∀ vm₁, s.WarmedH vm₁ → Pre ⟨T.setVm vm₁, locs, cells, slots⟩ (Value.ref b :: argsL).toArray) :
    (∃ (v : Option Value) (vm₁ : Vm) (B : Pt), s.WarmedH vm₁ ∧ Stand p l e R s m args below meth c B.U B.locs B.cells B.slots ∧ Post ⟨T.setVm vm₁, locs, cells, slots⟩ (Value.ref b :: argsL).toArray v B ∧
      ∀ target, Steps p.tables e below (B.U.setTop { g with pc := g.pc + 3, stack := v.toList ++ rest }) target → Steps p.tables e below (T.setTop g) target) ∨
    (∃ (q : Addr) (vm₁ : Vm) (B : Pt), s.WarmedH vm₁ ∧ Stand p l e R s m args below meth c B.U B.locs B.cells B.slots ∧ PostX ⟨T.setVm vm₁, locs, cells, slots⟩ (Value.ref b :: argsL).toArray q B ∧
      Steps p.tables e below (T.setTop g) ((B.U.setTop { g with stack := rest }).pushFrame (.throwing q))) := by
  obtain ⟨mk, methM, hnamed, hmethM, hstM, habM⟩ := Cond.instanceMethod_spec hinst
  obtain ⟨methM', cM, hmethM', -, -, -, -, -, -, hsigM⟩ := Cond.code_spec hnamed hcode
  cases hmethM.symm.trans hmethM'
  obtain ⟨c2, r2, m2, q1, q2, q3, q4, kP, hkP, hkPi⟩ := Cond.selects_spec hsel
  cases hcls.symm.trans q1
  cases (State.methodFound?_of_named hnamed hy).symm.trans q2
  cases hnamed.symm.trans q3
  have hselP : selectMethod e.platform s.vm cellB.cls mk = .method mk := by rw [Launch.admits_selectMethod X.admits]; exact q4
  obtain ⟨vm₁, X₁, hstep₁⟩ := X.invokevirtual hexec hown hlink hnamed hmethM hstM hkP hkPi hy (a := b) (cell := cellB) hcell
    (fun z h => by rw [h] at hobj; cases hobj) hselP hmethM habM hkP hkPi (g := g) hg (argsL := argsL) (rest := rest) (hlen _ hsigM) hstack hdg
  rcases hK m meth c ⟨T.setVm vm₁, locs, cells, slots⟩ { g with stack := rest } (.invokevirtual index) mk (Value.ref b :: argsL).toArray X₁ hg hsize hdg hW (X₁.named hnamed) (hpre vm₁ X₁.warmed) with ⟨v, B, X', hpost, hsteps⟩ | ⟨q, B, X', hpost, hsteps⟩
  · exact Or.inl ⟨v, vm₁, B, X₁.warmed, X', hpost, fun target h => hstep₁ _ fun acts => by rw [doInvoke_state]; exact hsteps.trans h⟩
  · exact Or.inr ⟨q, vm₁, B, X₁.warmed, X', hpost, hstep₁ _ fun acts => by rw [doInvoke_state]; exact hsteps⟩
end Calls
theorem vx_cls {s : State} {T : State} {vm₁ : Vm} {E : String} {k : ClassId} (hW : s.WarmedH vm₁) (h : (T.setVm vm₁).vm.findClass E = some k) : s.vm.findClass E = some k := by
  have h1 : vm₁.findClass E = some k := h
  rw [hW.alike.findClass] at h1
  exact h1
def vx_W (p : Program) (l : Launch) (e : Env) (R : Room) (s : State) (m : MethodId) (args : Array Value) (below : List Frame) (meth : Method) (c : Code) (H : Heap) (locs : List Loc) (cells slots : Nat) (Q : State → Prop) (g : JFrame) (q : Addr) : Prop :=
  ∀ T : State, T.heap = H → Stand p l e R s m args below meth c T locs cells slots → ∃ t, Steps p.tables e below ((T.setTop g).pushFrame (.throwing q)) t ∧ Q t
def vx_Run (p : Program) (l : Launch) (e : Env) (R : Room) (s : State) (m : MethodId) (args : Array Value) (below : List Frame) (meth : Method) (c : Code) (H : Heap) (locs : List Loc) (cells slots mc ms : Nat) (g : JFrame) (rest : List Value) (Qa : State → Outcome → State → Prop) (XC : String → State → State → Prop) (free : Addr → Prop) : Prop :=
  ∀ T : State, T.heap = H → Stand p l e R s m args below meth c T locs cells slots →
    (∃ (v : Option Value) (st₀ t T' : State) (L : List Loc), st₀.heap = H ∧ Stand p l e R s m args below meth c T' (locs ++ L) (cells + mc) (slots + ms) ∧ (∀ q ∈ L, free q.base) ∧ T'.heap = t.heap ∧ T'.vm = t.vm ∧ Qa st₀ (.returned v) t ∧
      Goes p e below T g T' { g with pc := g.pc + 3, stack := v.toList ++ rest }) ∨
    (∃ (q : Addr) (st₀ t T' : State) (L : List Loc) (E : String) (ce : Cell), st₀.heap = H ∧ Stand p l e R s m args below meth c T' (locs ++ L) (cells + mc) (slots + ms) ∧ (∀ z ∈ L, free z.base) ∧ T'.heap = t.heap ∧ T'.vm = t.vm ∧ XC E st₀ t ∧ t.heap[q]? = some ce ∧ ce.vm = .none ∧ s.vm.findClass E = some ce.cls ∧
      Steps p.tables e below (T.setTop g) ((T'.setTop { g with stack := rest }).pushFrame (.throwing q)))
def vx_X {S : Type} (px : S → Prop) (B : String → S → State → Prop) (A : Nat → Prop) : String → State → State → Prop := fun E st t => ∃ u : S, px u ∧ B E u t ∧ va_F A st t
section Runs
variable {p : Program} {l : Launch} {e : Env} {R : Room} {s : State} {m : MethodId} {args : Array Value} {below : List Frame} {meth : Method} {c : Code} {H : Heap} {locs : List Loc} {cells slots : Nat}
variable {y : MethodName} {bytes cc : ByteArray} {maxL nL mc ms n index : Nat} {ret : Option FieldType} {ws : List Cond} {rm : Room} {Pc : Array Value → State → Prop} {Qc : Array Value → State → Outcome → State → Prop} {XC : String → State → State → Prop} {free : Addr → Prop} {Ts : List Cond} {own C : String} {b : Addr} {As rest : List Value} {g : JFrame}
theorem vx_callBack (cb : CallB R s args own index y bytes maxL ret ws rm mc ms n) (hM : vx_Met l y ws rm Pc Qc XC mc ms free) (hbl : FrameBlind Pc) : vx_Back l R p e below s args y 3 8 (PreOf R mc ms Pc) (PostOf Qc mc ms free) (vx_Post XC mc ms free) := by
  obtain ⟨hrc, hrs, hfr, hlo, hws, hcw, -, hini, -⟩ := cb
  exact vx_back (bytes := bytes) (maxL := maxL) (ret := ret) hM hbl hrc hrs hfr hlo hws hcw (fun a' U hW => word_at hW (Or.inl (by first | rfl | simp [Cond.onTables, Cond.keeps, Cond.steady])) hini)
theorem vx_runV (S : CallFix p m c cc nL s args Ts own) (hM : vx_Met l y ws rm Pc Qc XC mc ms free) (cw : CallW R s args own C index y bytes maxL ret ws rm mc ms n) (hp : PreV s H C b Pc As)
    (hg : g.method = m) (hn : As.length = n) (hsize : g.locals.size = nL) (hstack : g.stack = As.reverse ++ .ref b :: rest) (hW : 2 * g.monitorRoom + (rest.map fun v => v.category).sum ≤ 8) (hdg : decode cc g.pc = .ok (.invokevirtual index, 3)) (hf : cells + mc ≤ R.cells ∧ slots + ms ≤ R.slots) :
    vx_Run p l e R s m args below meth c H locs cells slots mc ms g rest (Qc (Value.ref b :: As).toArray) XC free := by
  have hK : vx_Back l R p e below s args y 3 8 (PreOf R mc ms Pc) (PostOf Qc mc ms free) (vx_Post XC mc ms free) := vx_callBack cw.1 hM hp.1
  obtain ⟨⟨-, -, -, -, -, -, hcode, -, hy, hlen, hl⟩, hin, hse⟩ := cw
  obtain ⟨hx, hb, hml, ho, -⟩ := S
  obtain ⟨-, ⟨cellB, hcB, hoB, hclB⟩, hPc⟩ := hp
  intro T hT X
  rcases vx_callV X hx (C := C) (bytes := bytes) (maxL := maxL) (ret := ret) ho hl hin hse hcode hy hK (by rw [hT]; exact hcB) hoB hclB hg (hsize.trans hml.symm) (argsL := As) (rest := rest) (fun sig h => hn.trans (hlen sig h)) hstack hW (by rw [hb]; exact hdg)
    (fun vm₁ hW₁ => ⟨hf.1, hf.2, hPc (T.setVm vm₁) hT hW₁⟩) with ⟨v, vm₁, ⟨U', l2, c2, s2⟩, hW₁, X', ⟨g', mk, t, L, e1, e2, hq, h1, hL, h2, h3⟩, st⟩ | ⟨q, vm₁, ⟨U', l2, c2, s2⟩, hW₁, X', ⟨g', mk, t, L, E, ce, e1, e2, hq, hce, hcv, hcl, h1, hL, h2, h3⟩, st⟩
  · dsimp only [Pt.U, Pt.locs, Pt.cells, Pt.slots] at X' e1 e2 h1 h2 h3 st
    subst h1; subst h2; subst h3
    exact Or.inl ⟨v, (T.setVm vm₁).calling g' mk (Value.ref b :: As).toArray, t, U', L, hT, X', hL, e1, e2, hq, st⟩
  · dsimp only [Pt.U, Pt.locs, Pt.cells, Pt.slots] at X' e1 e2 h1 h2 h3 st hcl
    subst h1; subst h2; subst h3
    exact Or.inr ⟨q, (T.setVm vm₁).calling g' mk (Value.ref b :: As).toArray, t, U', L, E, ce, hT, X', hL, e1, e2, hq, hce, hcv, vx_cls hW₁ hcl, st⟩
end Runs
section Rows
variable {p : Program} {l : Launch} {e : Env} {R : Room} {s : State} {m : MethodId} {args : Array Value} {below : List Frame} {meth : Method} {c : Code} {H : Heap} {locs : List Loc} {cells slots : Nat} {Q : State → Prop}
variable {mc ms : Nat} {free : Addr → Prop} {A0 A1 : Nat → Prop} {H0 : Heap} {a : Array Value} {pc : Nat} {ls : Array Slot} {st0 rest : List Value}
theorem vx_keep {st₀ t T' : State} {L : List Loc} (h0 : st₀.heap = H) (e1 : T'.heap = t.heap) (hS : va_S A0 H0 H locs) (hA : ∀ q, q < H.size → A1 q → A0 q) (hf : ∀ q, free q → A0 q) (hL : ∀ q ∈ L, free q.base) (hF : va_F A1 st₀ t) :
    H.size ≤ T'.heap.size ∧ (∀ q : Nat, q < H.size → ¬ A1 q → T'.heap[q]? = H[q]?) ∧ va_S A0 H0 T'.heap (locs ++ L) := by
  obtain ⟨hz, hk⟩ := hF
  rw [h0] at hz hk
  exact ⟨by rw [e1]; exact hz, fun q h1 h2 => by rw [e1]; exact hk q h1 h2,
    ⟨Nat.le_trans hS.1 (by rw [e1]; exact hz), fun q h1 h2 => by rw [e1, hk q (Nat.lt_of_lt_of_le h1 hS.1) (fun z => h2 (hA q (Nat.lt_of_lt_of_le h1 hS.1) z))]; exact hS.2.1 q h1 h2, fun q hq => by
      rcases List.mem_append.mp hq with h | h
      · exact hS.2.2 q h
      · exact hf _ (hL q h)⟩⟩
theorem vx_calli {S SX : Type} {post : Int32 → S → Prop} {px : SX → Prop} {B : S → State → Prop} {BX : String → SX → State → Prop} {AX : Nat → Prop} (hr : vx_Run p l e R s m args below meth c H locs cells slots mc ms (F0 m pc ls st0) rest (va_Qi post B A1 a) (vx_X px BX AX) free) (hS : va_S A0 H0 H locs) (hA : ∀ q, q < H.size → A1 q → A0 q) (hf : ∀ q, free q → A0 q) (hAX : ∀ q, q < H.size → AX q → A0 q)
    (kx : ∀ (E : String) (ce : Cell) (q9 : Addr) (u : SX) (t : State) (H1 : Heap) (locs1 : List Loc), t.heap = H1 → s.vm.Alike t.vm → px u → BX E u t → H.size ≤ H1.size → (∀ q : Nat, q < H.size → ¬ AX q → H1[q]? = H[q]?) → va_S A0 H0 H1 locs1 → H1[q9]? = some ce → ce.vm = .none → s.vm.findClass E = some ce.cls → vx_W p l e R s m args below meth c H1 locs1 (cells + mc) (slots + ms) Q (F0 m pc ls rest) q9)
    (kk : ∀ (r : Int32) (u : S) (t : State) (H1 : Heap) (locs1 : List Loc), t.heap = H1 → s.vm.Alike t.vm → post r u → B u t → H.size ≤ H1.size → (∀ q : Nat, q < H.size → ¬ A1 q → H1[q]? = H[q]?) → va_S A0 H0 H1 locs1 → W p l e R s m args below meth c H1 locs1 (cells + mc) (slots + ms) Q (F0 m (pc + 3) ls (.int r :: rest))) : W p l e R s m args below meth c H locs cells slots Q (F0 m pc ls st0) := by
  intro T hT X
  rcases hr T hT X with ⟨v, st₀, t, T', L, h0, X', hL, e1, e2, ⟨⟨r, u, hv, hp, hb⟩, hF⟩, st⟩ | ⟨q, st₀, t, T', L, E, ce, h0, X', hL, e1, e2, ⟨u, hp, hb, hF⟩, hce, hcv, hcl, st⟩
  · cases hv
    obtain ⟨k1, k2, k3⟩ := vx_keep h0 e1 hS hA hf hL hF
    obtain ⟨t2, a1, b1⟩ := kk r u t T'.heap (locs ++ L) e1.symm (by rw [← e2]; exact X'.warmed.alike) hp hb k1 k2 k3 T' rfl X'
    exact ⟨t2, st t2 a1, b1⟩
  · obtain ⟨k1, k2, k3⟩ := vx_keep h0 e1 hS hAX hf hL hF
    obtain ⟨t2, a1, b1⟩ := kx E ce q u t T'.heap (locs ++ L) e1.symm (by rw [← e2]; exact X'.warmed.alike) hp hb k1 k2 k3 (by rw [e1]; exact hce) hcv hcl T' rfl X'
    exact ⟨t2, st.trans a1, b1⟩
theorem vx_catch {own name : String} {E : String} {ce : Cell} {q : Addr} (hown : s.vm.findClass own = some m.cls) (pre : List ExceptionTableEntry) (x : ExceptionTableEntry) (suf : List ExceptionTableEntry) (hsplit : c.exceptionTable.toList = pre ++ x :: suf)
    (hpass : ∀ z ∈ pre, covers z pc = false ∨ (z.catchType ≠ 0 ∧ ∃ nm : String, (Cond.classLink own z.catchType nm).before args s = true ∧ va_Nc E nm s)) (hx : covers x pc = true) (h0 : x.catchType ≠ 0)
    (hlink : (Cond.classLink own x.catchType name).before args s = true) (hcast : (Cond.castable E name).before args s = true) (hcell : H[q]? = some ce) (hv : ce.vm = .none) (hcl : s.vm.findClass E = some ce.cls)
    (kk : W p l e R s m args below meth c H locs cells slots Q (F0 m x.handlerPc ls [.ref q])) : vx_W p l e R s m args below meth c H locs cells slots Q (F0 m pc ls rest) q := by
  intro T hT X
  have hpl : e.platform.magicAccessors = ({} : Platform).magicAccessors := by rw [X.admits.platform]
  obtain ⟨c3, c4, hc3, hc4, hasg⟩ := Cond.castable_spec hcast
  cases Option.some.inj (hc3.symm.trans hcl)
  obtain ⟨c5, hc5, hcl5⟩ := Cond.classLink_spec hown hlink e.platform hpl
  cases Option.some.inj (hc4.symm.trans hc5)
  obtain ⟨vm', X', st⟩ := X.thenCaughtThrough q (g := F0 m pc ls rest) rfl (Steps.refl _) (by rw [hT]; exact hcell) (by rw [hv]; rfl) (by obtain ⟨k9, h9, -⟩ := Vm.findClass_spec hcl; exact ⟨k9, h9⟩) pre x suf hsplit
    (fun z hz => by
      rcases hpass z hz with h | ⟨hz0, nm, hl1, hn1⟩
      · exact Or.inl h
      · obtain ⟨c6, hc6, hcl6⟩ := Cond.classLink_spec hown hl1 e.platform hpl
        obtain ⟨a8, b8, h1, h2, h3⟩ := hn1
        cases Option.some.inj (h1.symm.trans hcl)
        cases Option.some.inj (h2.symm.trans hc6)
        exact Or.inr ⟨hz0, _, hcl6, h3⟩) hx (Or.inr ⟨h0, c4, hcl5, hasg⟩)
  obtain ⟨t, a1, b1⟩ := kk (T.setVm vm') hT X'
  exact ⟨t, st.trans a1, b1⟩
end Rows
section Ends
variable {p : Program} {l : Launch} {e : Env} {R : Room} {s : State} {m : MethodId} {args : Array Value} {below : List Frame} {meth : Method} {c : Code} {H : Heap} {locs : List Loc} {cells slots : Nat} {Q : State → Prop}
variable {mc ms : Nat} {free : Addr → Prop} {A0 A1 : Nat → Prop} {H0 : Heap} {a : Array Value} {ls : Array Slot} {st0 rest : List Value}
variable {Qc : Array Value → State → Outcome → State → Prop} {XC : String → State → State → Prop}
def vx_MQ (below : List Frame) (Qc : Array Value → State → Outcome → State → Prop) (XC : String → State → State → Prop) (a : Array Value) (s : State) (mc ms : Nat) (free : Addr → Prop) : State → Prop := fun t =>
  ∃ o, t.status = .running ∧ Ended t below o ∧ vx_Q Qc XC mc ms free a s o t
theorem vx_ret {g : JFrame} {mc ms : Nat} (k : W p l e R s m args below meth c H locs cells slots (MQ below Qc args s mc ms free) g) : W p l e R s m args below meth c H locs cells slots (vx_MQ below Qc XC args s mc ms free) g := by
  intro T hT X
  obtain ⟨t, a1, o, b1, b2, b3, b4⟩ := k T hT X
  exact ⟨t, a1, o, b1, b2, Or.inl ⟨b3, b4⟩⟩
theorem vx_frame {U : State} {k n : Nat} (h : s.sameButNew ({ U with vm := s.vm } : State) locs k n) : s.heap.size ≤ U.heap.size ∧ ∀ q : Nat, q < s.heap.size → (∀ z ∈ locs, z.base ≠ q) → U.heap[q]? = s.heap[q]? := by
  obtain ⟨-, h2, -, -, -, h6⟩ := h
  refine ⟨h2, fun q hq hz => ?_⟩
  obtain ⟨c9, e1, e2, e3, e4⟩ := h6 q _ (Array.getElem?_eq_getElem hq)
  have hs : c9.slots = (s.heap[q]).slots := Array.ext_getElem? fun i => e4 i fun hm => hz _ hm rfl
  have h9 : c9 = s.heap[q] := by
    rw [hs] at e2
    exact e2
  have e5 : U.heap[q]? = some c9 := e1
  rw [e5, h9, Array.getElem?_eq_getElem hq]
def vx_no (w : Cond) : Bool := decide (w ≠ .isRef (.static Bundle.tN "UNASSIGNED_STACK" Bundle.steD)) && decide (w ≠ .isRef (.static Bundle.tN "SUPPRESSED_SENTINEL" Bundle.listD)) && decide (w ≠ .laysStatic Bundle.tN "UNASSIGNED_STACK" Bundle.steD) && decide (w ≠ .laysStatic Bundle.tN "SUPPRESSED_SENTINEL" Bundle.listD)
def vx_atS (own : String) (ic : Nat) (X : String) (names : List String) : List Cond := (Bundle.ownAtoms own ic X names).filter vx_no
def vx_ot (w : Cond) : Bool := w.onTables || goodWord w
theorem vx_ot_at {args a' : Array Value} {s U : State} {w : Cond} (hW : s.WarmedH U.vm) (hvm : s.vm = U.vm) (hg : vx_ot w = true) (h : w.before args s = true) : w.before a' U = true := by
  simp only [vx_ot, Bool.or_eq_true] at hg
  rcases hg with hg | hg
  · exact va_tabs hg hvm h
  · exact word_at hW (good_of_word hg) h
theorem vx_hat {args : Array Value} {s : State} {L B : List Cond} (h1 : ∀ w ∈ L.filter goodWord, w.before args s = true) (h2 : ∀ w ∈ L.filter (fun w => !goodWord w), w ∈ B) (h3 : ∀ w ∈ B, w.before args s = true) : ∀ w ∈ L, w.before args s = true := by
  intro w hw
  by_cases g : goodWord w = true
  · exact h1 w (List.mem_filter.mpr ⟨hw, g⟩)
  · refine h3 w (h2 w (List.mem_filter.mpr ⟨hw, ?_⟩))
    show (!goodWord w) = true
    cases hgw : goodWord w
    · rfl
    · exact absurd hgw g
theorem vx_c {args : Array Value} {s : State} {w : Cond} {B : List Cond} (h : w.before args s = true) (t : ∀ w ∈ B, w.before args s = true) : ∀ w' ∈ w :: B, w'.before args s = true := fun w' h' => (List.mem_cons.mp h').elim (fun e => by rw [e]; exact h) (t w')
theorem vx_n {args : Array Value} {s : State} : ∀ w ∈ ([] : List Cond), w.before args s = true := fun _ h => nomatch h
theorem vx_own {args : Array Value} {s : State} {L : List Cond} (h1 : ∀ w ∈ L.filter vx_no, w.before args s = true)
    (hU : (Cond.isRef (.static Bundle.tN "UNASSIGNED_STACK" Bundle.steD)).before args s = true) (hN : (Cond.isRef (.static Bundle.tN "SUPPRESSED_SENTINEL" Bundle.listD)).before args s = true)
    (lU : (Cond.laysStatic Bundle.tN "UNASSIGNED_STACK" Bundle.steD).before args s = true) (lN : (Cond.laysStatic Bundle.tN "SUPPRESSED_SENTINEL" Bundle.listD).before args s = true) : ∀ w ∈ L, w.before args s = true := by
  intro w hw
  by_cases e1 : w = .isRef (.static Bundle.tN "UNASSIGNED_STACK" Bundle.steD)
  · rw [e1]; exact hU
  · by_cases e2 : w = .isRef (.static Bundle.tN "SUPPRESSED_SENTINEL" Bundle.listD)
    · rw [e2]; exact hN
    · by_cases e3 : w = .laysStatic Bundle.tN "UNASSIGNED_STACK" Bundle.steD
      · rw [e3]; exact lU
      · by_cases e4 : w = .laysStatic Bundle.tN "SUPPRESSED_SENTINEL" Bundle.listD
        · rw [e4]; exact lN
        · exact h1 w (List.mem_filter.mpr ⟨hw, by unfold vx_no; rw [decide_eq_true e1, decide_eq_true e2, decide_eq_true e3, decide_eq_true e4]; rfl⟩)
def vx_L (C n d : String) (A : Nat → Prop) (U : State) (H : Heap) : Prop := ∃ (c : ClassId) (k : Class) (i : Nat) (f : Field) (a : Nat) (cell : Cell), U.vm.findClass C = some c ∧ U.fieldFound? C n d = some (c, k, i, f) ∧ f.isStatic = true ∧ k.statics = some a ∧ H[a]? = some cell ∧ cell.vm.isStatics = true ∧ cell.cls = c ∧ f.slot < cell.slots.size ∧ k.staticTypes[f.slot]? = some f.type ∧ ¬ A a
theorem vx_L.moved {C n d : String} {A : Nat → Prop} {u U : State} {H : Heap} (hvm : u.vm.Alike U.vm) (h : vx_L C n d A u H) : vx_L C n d A U H := by
  obtain ⟨c, k, i, f, a, cell, h1, h2, h3, h4, h5, h6, h7, h8, h9, h10⟩ := h
  obtain ⟨k', hi', he⟩ := State.fieldFound?_setVm hvm h2
  exact ⟨c, k', i, f, a, cell, by rw [hvm.findClass]; exact h1, hi', h3, by rw [he]; exact h4, h5, h6, h7, h8, by rw [he]; exact h9, h10⟩
theorem vx_L.kept {C n d : String} {A : Nat → Prop} {U : State} {H H1 : Heap} (h : vx_L C n d A U H) (hq : ∀ a : Nat, a < H.size → ¬ A a → H1[a]? = H[a]?) : vx_L C n d A U H1 := by
  obtain ⟨c, k, i, f, a, cell, h1, h2, h3, h4, h5, h6, h7, h8, h9, h10⟩ := h
  exact ⟨c, k, i, f, a, cell, h1, h2, h3, h4, by rw [hq a (Array.getElem?_eq_some_iff.mp h5).1 h10]; exact h5, h6, h7, h8, h9, h10⟩
theorem vx_L.narrow {C n d : String} {A B : Nat → Prop} {U : State} {H : Heap} (h : vx_L C n d A U H) (hAB : ∀ q, B q → A q) : vx_L C n d B U H := by
  obtain ⟨c, k, i, f, a, cell, h1, h2, h3, h4, h5, h6, h7, h8, h9, h10⟩ := h
  exact ⟨c, k, i, f, a, cell, h1, h2, h3, h4, h5, h6, h7, h8, h9, fun z => h10 (hAB _ z)⟩
theorem vx_L.word {C n d : String} {A : Nat → Prop} {s : State} {args : Array Value} (h : vx_L C n d A s s.heap) : (Cond.laysStatic C n d).before args s = true := by
  obtain ⟨c, k, i, f, a, cell, h1, h2, h3, h4, h5, h6, h7, h8, h9, -⟩ := h
  show (Cond.laysStatic C n d).holds args s none s [] = true
  exact Cond.laysStatic_of h1 h2 h3 h4 h5 h6 h7 h8 h9
def vx_Zq (C n d : String) (A : Nat → Prop) (U : State) (H : Heap) : Prop := va_Zq C n d A U H ∧ vx_L C n d A U H
theorem vx_Zq.moved {C n d : String} {A : Nat → Prop} {u U : State} {H : Heap} (hvm : u.vm.Alike U.vm) (h : vx_Zq C n d A u H) : vx_Zq C n d A U H := ⟨va_Zq.moved hvm h.1, vx_L.moved hvm h.2⟩
theorem vx_Zq.kept {C n d : String} {A : Nat → Prop} {U : State} {H H1 : Heap} (h : vx_Zq C n d A U H) (hq : ∀ a : Nat, a < H.size → ¬ A a → H1[a]? = H[a]?) : vx_Zq C n d A U H1 := ⟨va_Zq.kept h.1 hq, vx_L.kept h.2 hq⟩
theorem vx_Zq.narrow {C n d : String} {A B : Nat → Prop} {U : State} {H : Heap} (h : vx_Zq C n d A U H) (hAB : ∀ q, B q → A q) : vx_Zq C n d B U H := ⟨va_Zq.narrow h.1 hAB, vx_L.narrow h.2 hAB⟩
theorem vx_Zqof {args : Array Value} {s : State} {C n d : String} {A : Nat → Prop} (hl : (Cond.laysStatic C n d).before args s = true) (hini : (Cond.initialized C).before args s = true) (h : (Cond.isRef (.static C n d)).before args s = true) (hA : ∀ a : Nat, a < s.heap.size → ¬ A a) : vx_Zq C n d A s s.heap := by
  refine ⟨va_Zqof hl hini h hA, ?_⟩
  obtain ⟨c, k, i, f, a, cell, h1, h2, h3, h4, h5, h6, h7, h8, h9⟩ := Cond.laysStatic_spec hl
  exact ⟨c, k, i, f, a, cell, h1, h2, h3, h4, h5, h6, h7, h8, h9, hA a (Array.getElem?_eq_some_iff.mp h5).1⟩
theorem vx_isRef {C n d : String} {v : Value} {A : Nat → Prop} {s : State} {args : Array Value} (h : va_Z C n d v A s s.heap) (hv : v.isRef = true) : (Cond.isRef (.static C n d)).before args s = true := by
  obtain ⟨cf, kf, fi, f, a, cell, h1, h2, h3, h4, h5, h6, h7, -⟩ := h
  have he : (Term.static C n d).eval args s none [] s = some v := by
    simp [Term.eval, State.fieldNamed?, h1, h2, h4, h5, h6, h7]
  simp only [Cond.before, Cond.holds, Cond.value, he]
  cases v <;> simp_all [Value.isRef]
theorem vx_isRefq {C n d : String} {A : Nat → Prop} {s : State} {args : Array Value} (h : va_Zq C n d A s s.heap) : (Cond.isRef (.static C n d)).before args s = true := by
  rcases h with h | ⟨t, h⟩
  · exact vx_isRef h rfl
  · exact vx_isRef h rfl
theorem vx_rebase {T : State} (X : Stand p l e R s m args below meth c T locs cells slots) {R' : Room} (hf : R'.frames ≤ R.frames) (hl : R'.locals ≤ R.locals) (hc : cells + R'.cells ≤ R.cells) (hs : slots + R'.slots ≤ R.slots) :
    Stand p l e R' ((T.setVm s.vm).setFrames (.invoking m args :: below)) m args below meth c T [] 0 0 := by
  have htop : (T.setVm s.vm).topJava?.isSome := X.here.top
  have hF : ((T.setVm s.vm).setFrames (.invoking m args :: below)).frames = .invoking m args :: below := State.frames_setFrames _ (State.cur_lt_of_top htop)
  obtain ⟨g₀, hg0⟩ := Option.isSome_iff_exists.mp htop
  obtain ⟨r, hr⟩ := State.topJava?_eq_some.mp hg0
  have hl9 : e.platform.stackLimits (T.setVm s.vm).me = e.platform.stackLimits s.me := X.limits
  have hb9 : (T.setVm s.vm).me.stackBytes = s.me.stackBytes := X.bytes
  refine ⟨X.admits, X.cas, X.clock, hF, ?_, X.hears, X.method, X.code, X.here, X.tail, X.warmed, ?_, ?_, ?_⟩
  · have h := X.room
    have hU : ((T.setVm s.vm).setFrames (.invoking m args :: below)).localsInUse = s.localsInUse := by
      rw [State.localsInUse_invoking hF (meth := meth) (c := c) X.method X.code, State.localsInUse_invoking X.frames X.method X.code]
    simp only [State.hasRoom, Bool.and_eq_true, decide_eq_true_eq] at h ⊢
    obtain ⟨⟨⟨⟨h1, h2, h3, h4, h5, h6⟩, h7⟩, h8⟩, h9⟩ := h
    rw [X.frames, List.length_cons] at h2 h3
    have q1 := X.heapSize
    have q2 := X.used
    simp only [hF, hU, List.length_cons, State.stackLimits_setFrames, State.stackBytes_setFrames, hl9, hb9]
    refine ⟨⟨⟨⟨by omega, by omega, by omega, by omega, by omega, h6⟩, ?_⟩, ?_⟩, X.book⟩
    · show T.heap.size + R'.cells ≤ e.platform.maxCells
      omega
    · show T.slotsUsed + R'.slots ≤ e.platform.maxSlots
      omega
  · rw [State.stackLimits_setFrames]; rfl
  · rw [State.stackBytes_setFrames]; rfl
  · refine ⟨?_, Nat.le_refl _, Nat.le_refl _, ?_, ?_, fun a c9 h9 => ⟨c9, h9, rfl, rfl, fun _ _ => rfl⟩⟩
    · obtain ⟨t, ht, -⟩ := State.frames_cons hr
      show T.setVm s.vm = { ((T.setVm s.vm).setFrames (.invoking m args :: below)).setFrames (T.setVm s.vm).frames with heap := T.heap, slotsUsed := T.slotsUsed }
      rw [State.setFrames_setFrames, State.setFrames_self ht]
      rfl
    · show T.slotsUsed = T.slotsUsed + ((T.heap.toList.drop T.heap.size).map (·.slots.size)).sum
      rw [List.drop_eq_nil_of_le (Nat.le_of_eq Array.length_toList)]
      rfl
    · show ((T.heap.toList.drop T.heap.size).map (·.slots.size)).sum ≤ 0
      rw [List.drop_eq_nil_of_le (Nat.le_of_eq Array.length_toList)]
      exact Nat.le_refl _
theorem vx_throwS {cc : ByteArray} {pc : Nat} (hexec : p.tables.exec = Jvm.exec) (hb : c.code = cc) (hl : l.stackTraces = false) {own cls text : String} {names : List String} {ik is ic mc ms sa : Nat} {A : Nat → Prop}
    (hown : s.vm.findClass own = some m.cls) (hcls : Bundle.fit cls = true) (hnames : ∀ n ∈ names, Bundle.fit n = true)
    (hk : (Cond.classLink own ik cls).before args s = true) (hini : (Cond.initialized cls).before args s = true) (hstr : vk_R own is text sa s) (hat : ∀ w ∈ vx_atS own ic cls names, w.before args s = true)
    (hgood : ∀ w ∈ Cond.classLink own ik cls :: Cond.initialized cls :: vx_atS own ic cls names, vx_ot w = true)
    (hU : vx_Zq Bundle.tN "UNASSIGNED_STACK" Bundle.steD A s s.heap) (hN : vx_Zq Bundle.tN "SUPPRESSED_SENTINEL" Bundle.listD A s s.heap) (hS : va_S A s.heap H locs) (hsize : ls.size = c.maxLocals)
    (d0 : decode cc pc = .ok (.new ik, 3)) (d3 : decode cc (pc + 3) = .ok (.dup, 1)) (d4 : decode cc (pc + 4) = .ok (.ldc is, 2)) (d6 : decode cc (pc + 6) = .ok (.invokespecial ic, 3)) (d9 : decode cc (pc + 9) = .ok (.athrow, 1))
    (hout : ∀ x ∈ c.exceptionTable.toList, covers x (pc + 9) = false)
    (hRframes : names.length + 3 < R.frames) (hRlocals : (rest.map fun v => v.category).sum + (13 * (names.length + 1) + 43) ≤ R.locals) (hRcells : cells + 1 ≤ R.cells) (hRslots : slots + 6 ≤ R.slots) (hlocks : meth.locks = false)
    (hx : ∀ t : State, s.vm.Alike t.vm → H.size ≤ t.heap.size → (∀ q : Nat, q < H.size → t.heap[q]? = H[q]?) → XC cls s t)
    (hf : ∀ z ∈ locs, free z.base) (hc : cells + 1 ≤ mc) (hs : slots + 6 ≤ ms) :
    W p l e R s m args below meth c H locs cells slots (vx_MQ below Qc XC args s mc ms free) (F0 m pc ls rest) := by
  intro T hT X
  have htr : e.platform.stackTraces = false := (show e.platform.stackTraces = l.stackTraces by rw [X.admits.platform]).trans hl
  have Y := vx_rebase X (R' := { frames := R.frames, locals := R.locals, cells := 1, slots := 6 }) (Nat.le_refl _) (Nat.le_refl _) hRcells hRslots
  obtain ⟨s', hA⟩ : ∃ z, z = (T.setVm s.vm).setFrames (.invoking m args :: below) := ⟨_, rfl⟩
  rw [← hA] at Y
  have hvm : s'.vm = s.vm := by rw [hA]; rfl
  have hhp : s'.heap = H := by rw [hA]; exact hT
  have hW0 : s.WarmedH s'.vm := by rw [hvm]; exact State.WarmedH.refl s
  have hat' : ∀ w ∈ vx_atS own ic cls names, w.before args s' = true := fun w hw => vx_ot_at hW0 hvm.symm (hgood w (List.mem_cons_of_mem _ (List.mem_cons_of_mem _ hw))) (hat w hw)
  have hk' : (Cond.classLink own ik cls).before args s' = true := vx_ot_at hW0 hvm.symm (hgood _ List.mem_cons_self) hk
  have hini' : (Cond.initialized cls).before args s' = true := vx_ot_at hW0 hvm.symm (hgood _ (List.mem_cons_of_mem _ List.mem_cons_self)) hini
  have hU' : vx_Zq Bundle.tN "UNASSIGNED_STACK" Bundle.steD A s' s'.heap := by rw [hhp]; exact vx_Zq.moved hW0.alike (hU.kept hS.2.1)
  have hN' : vx_Zq Bundle.tN "SUPPRESSED_SENTINEL" Bundle.listD A s' s'.heap := by rw [hhp]; exact vx_Zq.moved hW0.alike (hN.kept hS.2.1)
  have h : ∀ w ∈ Bundle.ownAtoms own ic cls names, w.before args s' = true := vx_own hat' (vx_isRefq hU'.1) (vx_isRefq hN'.1) hU'.2.word hN'.2.word
  have hown' : s'.vm.findClass own = some m.cls := by rw [hvm]; exact hown
  have hins : (Cond.instantiable cls 6).before args s' = true := h _ (by simp [Bundle.ownAtoms])
  obtain ⟨vm₁, cX, kX, hfX, hkX, -, -, X₁, st1⟩ := Y.newCold hexec (own := own) (C := cls) (index := ik) (n := 6) hown' hk' hins hini'
    (g := F0 m pc ls rest) rfl (by rw [hb]; exact d0) (Nat.le_refl _) (Nat.le_refl _)
  generalize hT1 : (T.setVm vm₁).pushCell { cls := cX, slots := kX.instanceTypes.map defaultValue, vm := .none } = T1 at X₁ st1
  have hcat : (Value.ref T.heap.size).category = 1 := rfl
  have hcellA : T1.heap[T.heap.size]? = some (freshCell cX kX) := by rw [← hT1]; exact State.heap_pushCell_size _ _
  have d3' : decode c.code (pc + 3) = .ok (.dup, 1) := by rw [hb]; exact d3
  have d4' : decode c.code (pc + 4) = .ok (.ldc is, 2) := by rw [hb]; exact d4
  have hstr' : vk_R own is text sa s' := vk_R.warm hW0 hstr
  obtain ⟨U, hsteps, hrun, hend, hW, hsame, ce, hce, hO⟩ := X₁.ctorThrowS hexec htr (own := own) (cls := cls) (names := names) (ic := ic) hown' hcls hnames h (fun x hx => nomatch hx) hfX hkX hcellA (by rw [hhp, hT]; exact Nat.le_refl _) (msg := .ref sa) rfl
    (g := { method := m, pc := pc + 6, locals := ls, stack := .ref sa :: .ref T.heap.size :: .ref T.heap.size :: rest, locked := none }) rfl hsize rfl rfl (rest := rest) rfl
    (by rw [hb]; exact d6) (by rw [hb]; exact d9) hout hRframes (by simp only [List.map_cons, List.sum_cons, hcat]; omega) hlocks
  obtain ⟨f1, f2⟩ := vx_frame hsame
  rw [hhp] at f1 f2
  have hWs : s.WarmedH U.vm := State.WarmedH.trans hW0 hW
  have hcl : s.vm.findClass cls = some ce.cls := by
    have h9 := hO.cls
    rw [hvm] at h9
    exact h9
  have hall : s.sameButNew ({ U with vm := s.vm } : State) locs mc ms := by
    subst hA
    obtain ⟨e1, e2⟩ := hsame
    rw [State.setFrames_setFrames] at e1
    have h2 : (T.setVm s.vm).sameButNew ({ U with vm := s.vm } : State) [] (0 + 1) (0 + 6) := ⟨e1, e2⟩
    have h3 := X.same.trans h2
    rw [List.append_nil] at h3
    exact h3.mono hc hs
  refine ⟨U, ?_, .threw T.heap.size, hrun, hend, Or.inr ⟨T.heap.size, rfl, cls, ce, locs, hx U hWs.alike f1 (fun q hq => f2 q hq (fun z hz => nomatch hz)), hce, hO.vm, hcl, hWs, hall, hf⟩⟩
  refine st1 _ ?_
  show Steps p.tables e below (T1.setTop { method := m, pc := pc + 3, locals := ls, stack := .ref T.heap.size :: rest, locked := none }) _
  jvm_step X₁.here [X₁.here.top, hexec, d3', Value.category]
  exact X₁.ldcString hexec (own := own) (text := text) (index := is) (a := sa) hown' hstr'.1 hstr'.2
    (g := { method := m, pc := pc + 4, locals := ls, stack := .ref T.heap.size :: .ref T.heap.size :: rest, locked := none }) rfl d4' _ hsteps
end Ends
section Bodies
variable {l : Launch}
theorem vx_ofW {y : MethodName} {ws ws' : List Cond} {rm : Room} {Pc : Array Value → State → Prop} {Qc : Array Value → State → Outcome → State → Prop} {XC : String → State → State → Prop} {mc ms : Nat} {free : Addr → Prop} {cc : ByteArray} {maxL : Nat} {ret : Option FieldType}
    (hy : plainName y.cls = true) (hw : ws = Cond.code y cc maxL ret :: ws')
    (body : ∀ p e s m args below meth c s₁, BodyLoose p l y (headSpec ws rm) cc maxL ret e s m args below meth c s₁ → c.maxLocals = maxL → (∀ x ∈ c.exceptionTable.toList, False) → Pc args s →
      W p l e (headSpec ws rm).room s m args below meth c s.heap [] 0 0 (vx_MQ below Qc XC args s mc ms free) (entryFrame m args maxL)) : vx_Met l y ws rm Pc Qc XC mc ms free := by
  refine MetFree.of_bodyS (code := cc) (maxLocals := maxL) (ret := ret) hy ?_ ?_
  · intro args s m h hn
    obtain ⟨meth, c, h1, h2, h3, h4, h5, h6, -, -⟩ := Cond.code_spec hn (atoms_spec (ws := ws) h _ (by rw [hw]; exact List.mem_cons_self))
    exact ⟨meth, c, h1, h2, h3, h4, h5, h6⟩
  · intro p e s m args below meth c s₁ B hml hP _
    have hh0 : s₁.heap = s.heap := by rw [B.state]; rfl
    have ht : ∀ x ∈ c.exceptionTable.toList, False := by
      obtain ⟨meth9, c9, h1, h2, -, -, -, -, h7, -⟩ := Cond.code_spec B.named (atoms_spec (ws := ws) B.pre _ (by rw [hw]; exact List.mem_cons_self))
      cases Option.some.inj (h1.symm.trans B.method)
      cases Option.some.inj (h2.symm.trans (Stand.of_body B).code)
      intro x hx
      rw [Array.isEmpty_iff.mp h7] at hx
      cases hx
    obtain ⟨t, a1, o, b1, b2, b3⟩ := body p e s m args below meth c s₁ B hml ht hP s₁ hh0 (Stand.of_body B)
    exact ⟨t, o, a1, b1, b2, b3⟩
theorem vx_table {p : Program} {x y : MethodName} {S : Spec} {cc bytes : ByteArray} {maxL maxL' : Nat} {ret ret' : Option FieldType} {e : Env} {s s₁ : State} {m : MethodId} {args : Array Value} {below : List Frame} {meth : Method} {c : Code} {hh : List (Nat × Nat × Nat × Nat)}
    (B : BodyLoose p l y S cc maxL ret e s m args below meth c s₁) (h : (Cond.codeWith y bytes maxL' ret' hh).before args s = true) : c.exceptionTable.toList = tableOf hh := by
  obtain ⟨m9, meth9, c9, hn9, h1, h2, -, -, h6, -⟩ := Cond.codeWith_spec h
  cases Option.some.inj (hn9.symm.trans B.named)
  cases Option.some.inj (h1.symm.trans B.method)
  cases Option.some.inj (h2.symm.trans (Stand.of_body B).code)
  rw [← h6, table_eq]
end Bodies
end VXA
section VXS
variable {p : Program} {l : Launch} {e : Env} {R : Room} {s : State} {m : MethodId} {args : Array Value} {below : List Frame} {meth : Method} {c : Code} {T : State} {H : Heap} {locs : List Loc} {cells slots : Nat}
abbrev vx_CSW (R : Room) (s : State) (args : Array Value) (own : String) (index : Nat) (y : MethodName) (bytes : ByteArray) (maxL : Nat) (ret : Option FieldType) (hh : List (Nat × Nat × Nat × Nat)) (ws : List Cond) (rm : Room) (mc ms n : Nat) : Prop :=
  (rm.cells = mc ∧ rm.slots = ms ∧ rm.frames + 1 ≤ R.frames ∧ 8 + (maxL + 11) + rm.locals ≤ R.locals ∧ (∀ w ∈ ws, ∀ (a' : Array Value) (U : State), s.WarmedH U.vm → w.before a' U = true) ∧ Cond.codeWith y bytes maxL ret hh ∈ ws) ∧
  (Cond.codeWith y bytes maxL ret hh).before args s = true ∧ (Cond.initialized y.cls).before args s = true ∧ (y.cls ≠ "java/lang/invoke/MethodHandle" ∧ y.cls ≠ "java/lang/invoke/VarHandle") ∧
  (∀ sig, parseMethodDescriptor y.desc = some sig → n = sig.parameters.length) ∧ (Cond.methodLink own index y).before args s = true ∧ (Cond.static y).before args s = true
theorem vx_cwSW {own : String} {index maxL mc ms : Nat} {y : MethodName} {bytes : ByteArray} {ret : Option FieldType} {hh : List (Nat × Nat × Nat × Nat)} {Ts ws ws' : List Cond} {rm : Room} (n : Nat) (ht : ∀ w ∈ Ts, w.before args s = true) (hT : GoodIn Ts (va_wsS own index y ws)) (hw : ws = Cond.codeWith y bytes maxL ret hh :: ws') (hrc : rm.cells = mc) (hrs : rm.slots = ms)
    (hd : y.cls ≠ "java/lang/invoke/MethodHandle" ∧ y.cls ≠ "java/lang/invoke/VarHandle" ∧ (parseMethodDescriptor y.desc).map (fun d => d.parameters.length) = some n) (hR : rm.frames + 1 ≤ R.frames ∧ 8 + (maxL + 11) + rm.locals ≤ R.locals) :
    vx_CSW R s args own index y bytes maxL ret hh ws rm mc ms n := by
  have ok : ∀ w ∈ va_wsS own index y ws, w.before args s = true := fun w h => ht w (hT w h).1
  have hG : GoodIn Ts ws := fun w h => hT w (by unfold va_wsS; exact List.mem_append_right _ h)
  have hc : Cond.codeWith y bytes maxL ret hh ∈ ws := by rw [hw]; exact List.mem_cons_self
  refine ⟨⟨hrc, hrs, hR.1, hR.2, pay_in ht hG, hc⟩, ht _ (hG _ hc).1, ok _ (by simp [va_wsS]), ⟨hd.1, hd.2.1⟩, fun sig h => ?_, ok _ (by simp [va_wsS]), ok _ (by simp [va_wsS])⟩
  have h2 := hd.2.2
  rw [h] at h2
  exact (Option.some.inj h2).symm
theorem vx_callSW (X : Stand p l e R s m args below meth c T locs cells slots) (hexec : p.tables.exec = Jvm.exec) {own : String} {index : Nat} {y : MethodName} {bytes : ByteArray} {maxL : Nat} {ret : Option FieldType} {hh : List (Nat × Nat × Nat × Nat)}
    (hown : s.vm.findClass own = some m.cls) (hlink : (Cond.methodLink own index y).before args s = true) (hstat : (Cond.static y).before args s = true) (hinit : (Cond.initialized y.cls).before args s = true)
    (hcode : (Cond.codeWith y bytes maxL ret hh).before args s = true) (hy : y.cls ≠ "java/lang/invoke/MethodHandle" ∧ y.cls ≠ "java/lang/invoke/VarHandle")
    {W9 : Nat} {Pre : Pt → Array Value → Prop} {Post : Pt → Array Value → Option Value → Pt → Prop} (hK : Back l R p e below s args y 3 W9 Pre Post)
    {g : JFrame} (hg : g.method = m) (hsize : g.locals.size = c.maxLocals) {argsL rest : List Value} (hlen : ∀ sig, parseMethodDescriptor y.desc = some sig → argsL.length = sig.parameters.length)
    (hstack : g.stack = argsL.reverse ++ rest) (hW : 2 * g.monitorRoom + (rest.map fun v => v.category).sum ≤ W9) (hdg : decode c.code g.pc = .ok (.invokestatic index, 3))
    (hpre : ∀ vm₁, s.WarmedH vm₁ → Pre ⟨T.setVm vm₁, locs, cells, slots⟩ argsL.toArray) :
    ∃ (v : Option Value) (vm₁ : Vm) (B : Pt), s.WarmedH vm₁ ∧ Stand p l e R s m args below meth c B.U B.locs B.cells B.slots ∧ Post ⟨T.setVm vm₁, locs, cells, slots⟩ argsL.toArray v B ∧
      ∀ target, Steps p.tables e below (B.U.setTop { g with pc := g.pc + 3, stack := v.toList ++ rest }) target → Steps p.tables e below (T.setTop g) target := by
  obtain ⟨mk, methM, cM, hnamed, hmethM, -, -, -, -, -, -, hsigM⟩ := Cond.codeWith_spec hcode
  have hstatic : methM.isStatic = true := Cond.static_spec hnamed hmethM hstat
  obtain ⟨kP, hkP, -⟩ := className_of_methodNamed hnamed
  have hinitP : kP.init = .initialized := Cond.initialized_spec (findClass_of_methodNamed hnamed) hkP hinit
  obtain ⟨vm₁, X₁, hstep₁⟩ := X.invokestatic hexec hown hlink hnamed hmethM hstatic hkP hinitP hy (g := g) hg (argsL := argsL) (rest := rest) (hlen _ hsigM) hstack hdg
  obtain ⟨v, B, X', hpost, hsteps⟩ := hK m meth c ⟨T.setVm vm₁, locs, cells, slots⟩ { g with stack := rest } (.invokestatic index) mk argsL.toArray X₁ hg hsize hdg hW (X₁.named hnamed) (hpre vm₁ X₁.warmed)
  exact ⟨v, vm₁, B, X₁.warmed, X', hpost, fun target h => hstep₁ _ fun acts => by rw [doInvoke_state]; exact hsteps.trans h⟩
theorem vx_runSW {y : MethodName} {bytes cc : ByteArray} {maxL nL mc ms n index : Nat} {ret : Option FieldType} {hh : List (Nat × Nat × Nat × Nat)} {ws : List Cond} {rm : Room} {Pc : Array Value → State → Prop} {Qc : Array Value → State → Outcome → State → Prop} {free : Addr → Prop} {Ts : List Cond} {own : String} {As rest : List Value} {g : JFrame}
    (S : CallFix p m c cc nL s args Ts own) (hM : Met l y ws rm Pc Qc mc ms free) (cw : vx_CSW R s args own index y bytes maxL ret hh ws rm mc ms n) (hp : PreS s H Pc As)
    (hg : g.method = m) (hn : As.length = n) (hsize : g.locals.size = nL) (hstack : g.stack = As.reverse ++ rest) (hW : 2 * g.monitorRoom + (rest.map fun v => v.category).sum ≤ 8) (hdg : decode cc g.pc = .ok (.invokestatic index, 3)) (hf : cells + mc ≤ R.cells ∧ slots + ms ≤ R.slots) :
    va_Run p l e R s m args below meth c H locs cells slots mc ms g rest (Qc As.toArray) (free) := by
  obtain ⟨⟨hrc, hrs, hfr, hlo, hws, hcw⟩, hcode, hini, hy, hlen, hl, hstt⟩ := cw
  have hK : Back l R p e below s args y 3 8 (PreOf R mc ms Pc) (PostOf Qc mc ms free) := va_backW (hh := hh) (bytes := bytes) (maxL := maxL) (ret := ret) hM hp.1 hrc hrs hfr hlo hws hcw (fun a' U hW => word_at hW (Or.inl (by first | rfl | simp [Cond.onTables, Cond.keeps, Cond.steady])) hini)
  obtain ⟨hx, hb, hml, ho, -⟩ := S
  intro T hT X
  obtain ⟨v, vm₁, ⟨U', l2, c2, s2⟩, hW₁, X', ⟨g', mk, t, L, e1, e2, hq, h1, hL, h2, h3⟩, st⟩ := vx_callSW X hx (hh := hh) (bytes := bytes) (maxL := maxL) (ret := ret) ho hl hstt hini hcode hy hK hg (hsize.trans hml.symm) (argsL := As) (rest := rest) (fun sig h => hn.trans (hlen sig h)) hstack hW (by rw [hb]; exact hdg)
    (fun vm₁ hW₁ => ⟨hf.1, hf.2, hp.2 (T.setVm vm₁) hT hW₁⟩)
  dsimp only [Pt.U, Pt.locs, Pt.cells, Pt.slots] at X' e1 e2 h1 h2 h3 st
  subst h1; subst h2; subst h3
  exact ⟨v, (T.setVm vm₁).calling g' mk As.toArray, t, U', L, hT, X', hL, e1, e2, hq, st⟩
end VXS
section VXH
section
variable {l : Launch} {R : Room} {p : Program} {e : Env} {below : List Frame} {s : State} {sargs : Array Value} {y : MethodName} {len W9 : Nat}
end
variable {p : Program} {l : Launch} {e : Env} {R : Room} {s : State} {m : MethodId} {args : Array Value} {below : List Frame} {meth : Method} {c : Code} {T : State} {H : Heap} {locs : List Loc} {cells slots : Nat}
section
variable {y : MethodName} {bytes cc : ByteArray} {maxL nL mc ms n index : Nat} {ret : Option FieldType} {ws : List Cond} {rm : Room} {Pc : Array Value → State → Prop} {Qc : Array Value → State → Outcome → State → Prop} {XC : String → State → State → Prop} {free : Addr → Prop} {Ts : List Cond} {own C : String} {b : Addr} {As rest : List Value} {g : JFrame}
end
end VXH
def wT : List Cond := lw_tbl.filter goodWord
theorem wT_t {w : Cond} (h : w ∈ tables_1) (g : goodWord w = true) : w ∈ wT := List.mem_filter.mpr ⟨List.mem_append_right _ h, g⟩
theorem wT_s {q : MethodName × Nat} (h : q ∈ lw_privs) (g : goodWord (Cond.selects q.1.cls q.1 q.1) = true) : Cond.selects q.1.cls q.1 q.1 ∈ wT := List.mem_filter.mpr ⟨List.mem_append_left _ (List.mem_map.mpr ⟨q, h, rfl⟩), g⟩
theorem wT_g {ws : List Cond} (h : ∀ w ∈ ws, w ∈ wT) : GoodIn wT ws := fun w hw => ⟨h w hw, good_of_word (List.mem_filter.mp (h w hw)).2⟩
theorem wT_c {w : Cond} (h5 : w ∈ wT) : ∀ v ∈ w :: wT, v ∈ wT := fun v hv => by
  rcases List.mem_cons.mp hv with rfl | h
  · exact h5
  · exact h
theorem wT_V {own C : String} {idx : Nat} {y : MethodName} {w : Cond} (h1 : Cond.methodLink own idx y ∈ wT) (h2 : Cond.instanceMethod y ∈ wT) (h3 : Cond.selects C y y ∈ wT) (h4 : Cond.initialized C ∈ wT) (h5 : w ∈ wT) : GoodIn wT (wsV own idx C y (w :: wT)) := wT_g (fun v hv => by
  rcases List.mem_append.mp hv with h | h
  · simp only [List.mem_cons, List.not_mem_nil, or_false] at h
    rcases h with rfl | rfl | rfl | rfl
    · exact h1
    · exact h2
    · exact h3
    · exact h4
  · exact wT_c h5 v h)
theorem wT_S {own : String} {idx : Nat} {y : MethodName} {w : Cond} (h1 : Cond.methodLink own idx y ∈ wT) (h2 : Cond.static y ∈ wT) (h4 : Cond.initialized y.cls ∈ wT) (h5 : w ∈ wT) : GoodIn wT (va_wsS own idx y (w :: wT)) := wT_g (fun v hv => by
  rcases List.mem_append.mp hv with h | h
  · simp only [List.mem_cons, List.not_mem_nil, or_false] at h
    rcases h with rfl | rfl | rfl
    · exact h1
    · exact h2
    · exact h4
  · exact wT_c h5 v h)
theorem wT_S0 {own : String} {idx : Nat} {y : MethodName} {w : Cond} (h1 : Cond.methodLink own idx y ∈ wT) (h2 : Cond.static y ∈ wT) (h4 : Cond.initialized own ∈ wT) (h5 : w ∈ wT) : GoodIn wT (wsS own idx y (w :: wT)) := wT_g (fun v hv => by
  rcases List.mem_append.mp hv with h | h
  · simp only [List.mem_cons, List.not_mem_nil, or_false] at h
    rcases h with rfl | rfl | rfl
    · exact h1
    · exact h2
    · exact h4
  · exact wT_c h5 v h)
theorem wT_I {w : Cond} (h5 : w ∈ wT) : GoodIn wT (w :: wT) := wT_g (wT_c h5)
theorem x_hT {w : Cond} {rm : Room} {args : Array Value} {s : State} (h : (headSpec (w :: wT) rm).pre.before args s = true) : ∀ v ∈ wT, v.before args s = true := fun v hv => atoms_spec (ws := w :: wT) h v (List.mem_cons_of_mem _ hv)
def xR_De : String := "LayerDesk"
def xT_De : u_T := fun k => match k with
  | 0 => ("LayerDesk", "written", "LLayerDesk$Line;", true)
  | 1 => ("LayerDesk", "shelf", "LLayerDesk$Shelf;", true)
  | 2 => ("LayerDesk", "chooser", "LLayerDesk$Chooser;", true)
  | 3 => ("LayerDesk", "layers", "[LLayerDesk$Layer;", true)
  | 4 => ("LayerDesk", "made", "I", false)
  | _ => ("LayerDesk", "latestFault", "I", false)
def xt_De : Nat → FieldType := fun k => match k with
  | 0 => .object "LayerDesk$Line"
  | 1 => .object "LayerDesk$Shelf"
  | 2 => .object "LayerDesk$Chooser"
  | 3 => .array (.object "LayerDesk$Layer")
  | 4 => .int
  | _ => .int
theorem xn_De : ∀ a, a < 6 → ∀ b, b < 6 → a ≠ b → (xT_De a).2.1 ≠ (xT_De b).2.1 := by decide +kernel
theorem xt_De_ok : ∀ k, k < 6 → parseFieldDescriptor (xT_De k).2.2.1 = some (xt_De k) := by decide +kernel
theorem xi_De : ∀ w ∈ u_ws xR_De xT_De 6, w ∈ wT := fun w hw => by
  have h : w ∈ ([Cond.laysFinal xR_De "LayerDesk" "written" "LLayerDesk$Line;", Cond.laysFinal xR_De "LayerDesk" "shelf" "LLayerDesk$Shelf;", Cond.laysFinal xR_De "LayerDesk" "chooser" "LLayerDesk$Chooser;", Cond.laysFinal xR_De "LayerDesk" "layers" "[LLayerDesk$Layer;", Cond.lays xR_De "LayerDesk" "made" "I", Cond.lays xR_De "LayerDesk" "latestFault" "I"] : List Cond) := hw
  simp only [List.mem_cons, List.not_mem_nil, or_false] at h
  rcases h with rfl | rfl | rfl | rfl | rfl | rfl
  · exact wT_t (List.mem_append_left _ (List.mem_of_getElem? (i := 105) rfl)) rfl
  · exact wT_t (List.mem_append_left _ (List.mem_of_getElem? (i := 107) rfl)) rfl
  · exact wT_t (List.mem_append_left _ (List.mem_of_getElem? (i := 109) rfl)) rfl
  · exact wT_t (List.mem_append_left _ (List.mem_of_getElem? (i := 111) rfl)) rfl
  · exact wT_t (List.mem_append_left _ (List.mem_of_getElem? (i := 113) rfl)) rfl
  · exact wT_t (List.mem_append_left _ (List.mem_of_getElem? (i := 115) rfl)) rfl
def xR_Li : String := "LayerDesk$Line"
def xT_Li : u_T := fun k => match k with
  | 0 => ("LayerDesk$Line", "text", "[C", true)
  | 1 => ("LayerDesk$Line", "starts", "[I", true)
  | 2 => ("LayerDesk$Line", "ends", "[I", true)
  | 3 => ("LayerDesk$Line", "length", "I", false)
  | _ => ("LayerDesk$Line", "words", "I", false)
def xt_Li : Nat → FieldType := fun k => match k with
  | 0 => .array .char
  | 1 => .array .int
  | 2 => .array .int
  | 3 => .int
  | _ => .int
theorem xn_Li : ∀ a, a < 5 → ∀ b, b < 5 → a ≠ b → (xT_Li a).2.1 ≠ (xT_Li b).2.1 := by decide +kernel
theorem xt_Li_ok : ∀ k, k < 5 → parseFieldDescriptor (xT_Li k).2.2.1 = some (xt_Li k) := by decide +kernel
theorem xi_Li : ∀ w ∈ u_ws xR_Li xT_Li 5, w ∈ wT := fun w hw => by
  have h : w ∈ ([Cond.laysFinal xR_Li "LayerDesk$Line" "text" "[C", Cond.laysFinal xR_Li "LayerDesk$Line" "starts" "[I", Cond.laysFinal xR_Li "LayerDesk$Line" "ends" "[I", Cond.lays xR_Li "LayerDesk$Line" "length" "I", Cond.lays xR_Li "LayerDesk$Line" "words" "I"] : List Cond) := hw
  simp only [List.mem_cons, List.not_mem_nil, or_false] at h
  rcases h with rfl | rfl | rfl | rfl | rfl
  · exact wT_t (List.mem_append_left _ (List.mem_of_getElem? (i := 43) rfl)) rfl
  · exact wT_t (List.mem_append_left _ (List.mem_of_getElem? (i := 45) rfl)) rfl
  · exact wT_t (List.mem_append_left _ (List.mem_of_getElem? (i := 47) rfl)) rfl
  · exact wT_t (List.mem_append_left _ (List.mem_of_getElem? (i := 49) rfl)) rfl
  · exact wT_t (List.mem_append_left _ (List.mem_of_getElem? (i := 51) rfl)) rfl
def xR_Sh : String := "LayerDesk$Shelf"
def xT_Sh : u_T := fun k => match k with
  | 0 => ("LayerDesk$Shelf", "descriptors", "[LLayerDesk$Descriptor;", true)
  | _ => ("LayerDesk$Shelf", "size", "I", false)
def xt_Sh : Nat → FieldType := fun k => match k with
  | 0 => .array (.object "LayerDesk$Descriptor")
  | _ => .int
theorem xn_Sh : ∀ a, a < 2 → ∀ b, b < 2 → a ≠ b → (xT_Sh a).2.1 ≠ (xT_Sh b).2.1 := by decide +kernel
theorem xt_Sh_ok : ∀ k, k < 2 → parseFieldDescriptor (xT_Sh k).2.2.1 = some (xt_Sh k) := by decide +kernel
theorem xi_Sh : ∀ w ∈ u_ws xR_Sh xT_Sh 2, w ∈ wT := fun w hw => by
  have h : w ∈ ([Cond.laysFinal xR_Sh "LayerDesk$Shelf" "descriptors" "[LLayerDesk$Descriptor;", Cond.lays xR_Sh "LayerDesk$Shelf" "size" "I"] : List Cond) := hw
  simp only [List.mem_cons, List.not_mem_nil, or_false] at h
  rcases h with rfl | rfl
  · exact wT_t (List.mem_append_left _ (List.mem_of_getElem? (i := 69) rfl)) rfl
  · exact wT_t (List.mem_append_left _ (List.mem_of_getElem? (i := 71) rfl)) rfl
def xR_Ch : String := "LayerDesk$Chooser"
def xT_Ch : u_T := fun k => match k with
  | 0 => ("LayerDesk$Chooser", "shelf", "LLayerDesk$Shelf;", true)
  | 1 => ("LayerDesk$Chooser", "chosen", "[LLayerDesk$Descriptor;", true)
  | 2 => ("LayerDesk$Chooser", "size", "I", false)
  | 3 => ("LayerDesk$Chooser", "finder", "I", false)
  | _ => ("LayerDesk$Chooser", "parent", "LLayerDesk$Layer;", false)
def xt_Ch : Nat → FieldType := fun k => match k with
  | 0 => .object "LayerDesk$Shelf"
  | 1 => .array (.object "LayerDesk$Descriptor")
  | 2 => .int
  | 3 => .int
  | _ => .object "LayerDesk$Layer"
theorem xn_Ch : ∀ a, a < 5 → ∀ b, b < 5 → a ≠ b → (xT_Ch a).2.1 ≠ (xT_Ch b).2.1 := by decide +kernel
theorem xt_Ch_ok : ∀ k, k < 5 → parseFieldDescriptor (xT_Ch k).2.2.1 = some (xt_Ch k) := by decide +kernel
theorem xi_Ch : ∀ w ∈ u_ws xR_Ch xT_Ch 5, w ∈ wT := fun w hw => by
  have h : w ∈ ([Cond.laysFinal xR_Ch "LayerDesk$Chooser" "shelf" "LLayerDesk$Shelf;", Cond.laysFinal xR_Ch "LayerDesk$Chooser" "chosen" "[LLayerDesk$Descriptor;", Cond.lays xR_Ch "LayerDesk$Chooser" "size" "I", Cond.lays xR_Ch "LayerDesk$Chooser" "finder" "I", Cond.lays xR_Ch "LayerDesk$Chooser" "parent" "LLayerDesk$Layer;"] : List Cond) := hw
  simp only [List.mem_cons, List.not_mem_nil, or_false] at h
  rcases h with rfl | rfl | rfl | rfl | rfl
  · exact wT_t (List.mem_append_left _ (List.mem_of_getElem? (i := 86) rfl)) rfl
  · exact wT_t (List.mem_append_left _ (List.mem_of_getElem? (i := 88) rfl)) rfl
  · exact wT_t (List.mem_append_left _ (List.mem_of_getElem? (i := 90) rfl)) rfl
  · exact wT_t (List.mem_append_left _ (List.mem_of_getElem? (i := 92) rfl)) rfl
  · exact wT_t (List.mem_append_left _ (List.mem_of_getElem? (i := 94) rfl)) rfl
def xR_Mo : String := "LayerDeskModel"
def xT_Mo : u_T := fun k => match k with
  | 0 => ("LayerDeskModel", "fault", "I", false)
  | 1 => ("LayerDeskModel", "why", "I", false)
  | 2 => ("LayerDeskModel", "text", "[C", true)
  | 3 => ("LayerDeskModel", "written", "I", false)
  | 4 => ("LayerDeskModel", "words", "I", false)
  | 5 => ("LayerDeskModel", "begin", "[I", true)
  | 6 => ("LayerDeskModel", "end", "[I", true)
  | 7 => ("LayerDeskModel", "descriptors", "I", false)
  | 8 => ("LayerDeskModel", "finder", "[I", true)
  | 9 => ("LayerDeskModel", "name", "[I", true)
  | 10 => ("LayerDeskModel", "packages", "[I", true)
  | 11 => ("LayerDeskModel", "pack", "[I", true)
  | 12 => ("LayerDeskModel", "exportTo", "[I", true)
  | 13 => ("LayerDeskModel", "openTo", "[I", true)
  | 14 => ("LayerDeskModel", "exportAll", "[Z", true)
  | 15 => ("LayerDeskModel", "openAll", "[Z", true)
  | 16 => ("LayerDeskModel", "locked", "[Z", true)
  | 17 => ("LayerDeskModel", "requires", "[I", true)
  | 18 => ("LayerDeskModel", "require", "[I", true)
  | 19 => ("LayerDeskModel", "use", "[I", true)
  | 20 => ("LayerDeskModel", "provide", "[I", true)
  | 21 => ("LayerDeskModel", "passes", "[Z", true)
  | 22 => ("LayerDeskModel", "still", "[Z", true)
  | 23 => ("LayerDeskModel", "layers", "I", false)
  | 24 => ("LayerDeskModel", "finderOf", "[I", true)
  | 25 => ("LayerDeskModel", "parent", "[I", true)
  | 26 => ("LayerDeskModel", "modules", "[I", true)
  | 27 => ("LayerDeskModel", "module", "[I", true)
  | 28 => ("LayerDeskModel", "open", "[Z", true)
  | 29 => ("LayerDeskModel", "stack", "[I", true)
  | _ => ("LayerDeskModel", "seen", "[Z", true)
def xt_Mo : Nat → FieldType := fun k => match k with
  | 0 => .int
  | 1 => .int
  | 2 => .array .char
  | 3 => .int
  | 4 => .int
  | 5 => .array .int
  | 6 => .array .int
  | 7 => .int
  | 8 => .array .int
  | 9 => .array .int
  | 10 => .array .int
  | 11 => .array .int
  | 12 => .array .int
  | 13 => .array .int
  | 14 => .array .boolean
  | 15 => .array .boolean
  | 16 => .array .boolean
  | 17 => .array .int
  | 18 => .array .int
  | 19 => .array .int
  | 20 => .array .int
  | 21 => .array .boolean
  | 22 => .array .boolean
  | 23 => .int
  | 24 => .array .int
  | 25 => .array .int
  | 26 => .array .int
  | 27 => .array .int
  | 28 => .array .boolean
  | 29 => .array .int
  | _ => .array .boolean
theorem xn_Mo : ∀ a, a < 31 → ∀ b, b < 31 → a ≠ b → (xT_Mo a).2.1 ≠ (xT_Mo b).2.1 := by decide +kernel
theorem xt_Mo_ok : ∀ k, k < 31 → parseFieldDescriptor (xT_Mo k).2.2.1 = some (xt_Mo k) := by decide +kernel
theorem xi_Mo : ∀ w ∈ u_ws xR_Mo xT_Mo 31, w ∈ wT := fun w hw => by
  have h : w ∈ ([Cond.lays xR_Mo "LayerDeskModel" "fault" "I", Cond.lays xR_Mo "LayerDeskModel" "why" "I", Cond.laysFinal xR_Mo "LayerDeskModel" "text" "[C", Cond.lays xR_Mo "LayerDeskModel" "written" "I", Cond.lays xR_Mo "LayerDeskModel" "words" "I", Cond.laysFinal xR_Mo "LayerDeskModel" "begin" "[I", Cond.laysFinal xR_Mo "LayerDeskModel" "end" "[I", Cond.lays xR_Mo "LayerDeskModel" "descriptors" "I", Cond.laysFinal xR_Mo "LayerDeskModel" "finder" "[I", Cond.laysFinal xR_Mo "LayerDeskModel" "name" "[I", Cond.laysFinal xR_Mo "LayerDeskModel" "packages" "[I", Cond.laysFinal xR_Mo "LayerDeskModel" "pack" "[I", Cond.laysFinal xR_Mo "LayerDeskModel" "exportTo" "[I", Cond.laysFinal xR_Mo "LayerDeskModel" "openTo" "[I", Cond.laysFinal xR_Mo "LayerDeskModel" "exportAll" "[Z", Cond.laysFinal xR_Mo "LayerDeskModel" "openAll" "[Z", Cond.laysFinal xR_Mo "LayerDeskModel" "locked" "[Z", Cond.laysFinal xR_Mo "LayerDeskModel" "requires" "[I", Cond.laysFinal xR_Mo "LayerDeskModel" "require" "[I", Cond.laysFinal xR_Mo "LayerDeskModel" "use" "[I", Cond.laysFinal xR_Mo "LayerDeskModel" "provide" "[I", Cond.laysFinal xR_Mo "LayerDeskModel" "passes" "[Z", Cond.laysFinal xR_Mo "LayerDeskModel" "still" "[Z", Cond.lays xR_Mo "LayerDeskModel" "layers" "I", Cond.laysFinal xR_Mo "LayerDeskModel" "finderOf" "[I", Cond.laysFinal xR_Mo "LayerDeskModel" "parent" "[I", Cond.laysFinal xR_Mo "LayerDeskModel" "modules" "[I", Cond.laysFinal xR_Mo "LayerDeskModel" "module" "[I", Cond.laysFinal xR_Mo "LayerDeskModel" "open" "[Z", Cond.laysFinal xR_Mo "LayerDeskModel" "stack" "[I", Cond.laysFinal xR_Mo "LayerDeskModel" "seen" "[Z"] : List Cond) := hw
  simp only [List.mem_cons, List.not_mem_nil, or_false] at h
  rcases h with rfl | rfl | rfl | rfl | rfl | rfl | rfl | rfl | rfl | rfl | rfl | rfl | rfl | rfl | rfl | rfl | rfl | rfl | rfl | rfl | rfl | rfl | rfl | rfl | rfl | rfl | rfl | rfl | rfl | rfl | rfl
  · exact wT_t (List.mem_append_right _ (List.mem_append_right _ (List.mem_append_right _ (List.mem_append_left _ (List.mem_of_getElem? (i := 115) rfl))))) rfl
  · exact wT_t (List.mem_append_right _ (List.mem_append_right _ (List.mem_append_right _ (List.mem_append_left _ (List.mem_of_getElem? (i := 117) rfl))))) rfl
  · exact wT_t (List.mem_append_right _ (List.mem_append_right _ (List.mem_append_right _ (List.mem_append_left _ (List.mem_of_getElem? (i := 119) rfl))))) rfl
  · exact wT_t (List.mem_append_right _ (List.mem_append_right _ (List.mem_append_right _ (List.mem_append_left _ (List.mem_of_getElem? (i := 121) rfl))))) rfl
  · exact wT_t (List.mem_append_right _ (List.mem_append_right _ (List.mem_append_right _ (List.mem_append_left _ (List.mem_of_getElem? (i := 123) rfl))))) rfl
  · exact wT_t (List.mem_append_right _ (List.mem_append_right _ (List.mem_append_right _ (List.mem_append_left _ (List.mem_of_getElem? (i := 125) rfl))))) rfl
  · exact wT_t (List.mem_append_right _ (List.mem_append_right _ (List.mem_append_right _ (List.mem_append_left _ (List.mem_of_getElem? (i := 127) rfl))))) rfl
  · exact wT_t (List.mem_append_right _ (List.mem_append_right _ (List.mem_append_right _ (List.mem_append_left _ (List.mem_of_getElem? (i := 129) rfl))))) rfl
  · exact wT_t (List.mem_append_right _ (List.mem_append_right _ (List.mem_append_right _ (List.mem_append_left _ (List.mem_of_getElem? (i := 131) rfl))))) rfl
  · exact wT_t (List.mem_append_right _ (List.mem_append_right _ (List.mem_append_right _ (List.mem_append_left _ (List.mem_of_getElem? (i := 133) rfl))))) rfl
  · exact wT_t (List.mem_append_right _ (List.mem_append_right _ (List.mem_append_right _ (List.mem_append_left _ (List.mem_of_getElem? (i := 135) rfl))))) rfl
  · exact wT_t (List.mem_append_right _ (List.mem_append_right _ (List.mem_append_right _ (List.mem_append_left _ (List.mem_of_getElem? (i := 137) rfl))))) rfl
  · exact wT_t (List.mem_append_right _ (List.mem_append_right _ (List.mem_append_right _ (List.mem_append_left _ (List.mem_of_getElem? (i := 139) rfl))))) rfl
  · exact wT_t (List.mem_append_right _ (List.mem_append_right _ (List.mem_append_right _ (List.mem_append_left _ (List.mem_of_getElem? (i := 141) rfl))))) rfl
  · exact wT_t (List.mem_append_right _ (List.mem_append_right _ (List.mem_append_right _ (List.mem_append_left _ (List.mem_of_getElem? (i := 143) rfl))))) rfl
  · exact wT_t (List.mem_append_right _ (List.mem_append_right _ (List.mem_append_right _ (List.mem_append_left _ (List.mem_of_getElem? (i := 145) rfl))))) rfl
  · exact wT_t (List.mem_append_right _ (List.mem_append_right _ (List.mem_append_right _ (List.mem_append_left _ (List.mem_of_getElem? (i := 147) rfl))))) rfl
  · exact wT_t (List.mem_append_right _ (List.mem_append_right _ (List.mem_append_right _ (List.mem_append_left _ (List.mem_of_getElem? (i := 149) rfl))))) rfl
  · exact wT_t (List.mem_append_right _ (List.mem_append_right _ (List.mem_append_right _ (List.mem_append_left _ (List.mem_of_getElem? (i := 151) rfl))))) rfl
  · exact wT_t (List.mem_append_right _ (List.mem_append_right _ (List.mem_append_right _ (List.mem_append_left _ (List.mem_of_getElem? (i := 153) rfl))))) rfl
  · exact wT_t (List.mem_append_right _ (List.mem_append_right _ (List.mem_append_right _ (List.mem_append_left _ (List.mem_of_getElem? (i := 155) rfl))))) rfl
  · exact wT_t (List.mem_append_right _ (List.mem_append_right _ (List.mem_append_right _ (List.mem_append_left _ (List.mem_of_getElem? (i := 157) rfl))))) rfl
  · exact wT_t (List.mem_append_right _ (List.mem_append_right _ (List.mem_append_right _ (List.mem_append_left _ (List.mem_of_getElem? (i := 159) rfl))))) rfl
  · exact wT_t (List.mem_append_right _ (List.mem_append_right _ (List.mem_append_right _ (List.mem_append_left _ (List.mem_of_getElem? (i := 161) rfl))))) rfl
  · exact wT_t (List.mem_append_right _ (List.mem_append_right _ (List.mem_append_right _ (List.mem_append_left _ (List.mem_of_getElem? (i := 163) rfl))))) rfl
  · exact wT_t (List.mem_append_right _ (List.mem_append_right _ (List.mem_append_right _ (List.mem_append_left _ (List.mem_of_getElem? (i := 165) rfl))))) rfl
  · exact wT_t (List.mem_append_right _ (List.mem_append_right _ (List.mem_append_right _ (List.mem_append_left _ (List.mem_of_getElem? (i := 167) rfl))))) rfl
  · exact wT_t (List.mem_append_right _ (List.mem_append_right _ (List.mem_append_right _ (List.mem_append_left _ (List.mem_of_getElem? (i := 169) rfl))))) rfl
  · exact wT_t (List.mem_append_right _ (List.mem_append_right _ (List.mem_append_right _ (List.mem_append_left _ (List.mem_of_getElem? (i := 171) rfl))))) rfl
  · exact wT_t (List.mem_append_right _ (List.mem_append_right _ (List.mem_append_right _ (List.mem_append_left _ (List.mem_of_getElem? (i := 173) rfl))))) rfl
  · exact wT_t (List.mem_append_right _ (List.mem_append_right _ (List.mem_append_right _ (List.mem_append_left _ (List.mem_of_getElem? (i := 175) rfl))))) rfl
def xR_Ly : String := "LayerDesk$Layer"
def xT_Ly : u_T := fun k => match k with
  | 0 => ("LayerDesk$Layer", "number", "I", true)
  | 1 => ("LayerDesk$Layer", "parent", "LLayerDesk$Layer;", true)
  | 2 => ("LayerDesk$Layer", "members", "[LLayerDesk$Member;", true)
  | _ => ("LayerDesk$Layer", "open", "Z", false)
def xt_Ly : Nat → FieldType := fun k => match k with
  | 0 => .int
  | 1 => .object "LayerDesk$Layer"
  | 2 => .array (.object "LayerDesk$Member")
  | _ => .boolean
theorem xn_Ly : ∀ a, a < 4 → ∀ b, b < 4 → a ≠ b → (xT_Ly a).2.1 ≠ (xT_Ly b).2.1 := by decide +kernel
theorem xt_Ly_ok : ∀ k, k < 4 → parseFieldDescriptor (xT_Ly k).2.2.1 = some (xt_Ly k) := by decide +kernel
theorem xi_Ly : ∀ w ∈ u_ws xR_Ly xT_Ly 4, w ∈ wT := fun w hw => by
  have h : w ∈ ([Cond.laysFinal xR_Ly "LayerDesk$Layer" "number" "I", Cond.laysFinal xR_Ly "LayerDesk$Layer" "parent" "LLayerDesk$Layer;", Cond.laysFinal xR_Ly "LayerDesk$Layer" "members" "[LLayerDesk$Member;", Cond.lays xR_Ly "LayerDesk$Layer" "open" "Z"] : List Cond) := hw
  simp only [List.mem_cons, List.not_mem_nil, or_false] at h
  rcases h with rfl | rfl | rfl | rfl
  · exact wT_t (List.mem_append_right _ (List.mem_append_right _ (List.mem_append_left _ (List.mem_of_getElem? (i := 153) rfl)))) rfl
  · exact wT_t (List.mem_append_right _ (List.mem_append_right _ (List.mem_append_left _ (List.mem_of_getElem? (i := 155) rfl)))) rfl
  · exact wT_t (List.mem_append_right _ (List.mem_append_right _ (List.mem_append_left _ (List.mem_of_getElem? (i := 157) rfl)))) rfl
  · exact wT_t (List.mem_append_right _ (List.mem_append_right _ (List.mem_append_left _ (List.mem_of_getElem? (i := 159) rfl)))) rfl
def xR_Me : String := "LayerDesk$Member"
def xT_Me : u_T := fun k => match k with
  | 0 => ("LayerDesk$Member", "home", "LLayerDesk$Layer;", true)
  | 1 => ("LayerDesk$Member", "descriptor", "LLayerDesk$Descriptor;", true)
  | 2 => ("LayerDesk$Member", "required", "[LLayerDesk$Member;", true)
  | 3 => ("LayerDesk$Member", "leading", "LLayerDesk$Reach;", true)
  | 4 => ("LayerDesk$Member", "carried", "LLayerDesk$Reach;", true)
  | _ => ("LayerDesk$Member", "reading", "LLayerDesk$Reach;", true)
def xt_Me : Nat → FieldType := fun k => match k with
  | 0 => .object "LayerDesk$Layer"
  | 1 => .object "LayerDesk$Descriptor"
  | 2 => .array (.object "LayerDesk$Member")
  | 3 => .object "LayerDesk$Reach"
  | 4 => .object "LayerDesk$Reach"
  | _ => .object "LayerDesk$Reach"
theorem xn_Me : ∀ a, a < 6 → ∀ b, b < 6 → a ≠ b → (xT_Me a).2.1 ≠ (xT_Me b).2.1 := by decide +kernel
theorem xt_Me_ok : ∀ k, k < 6 → parseFieldDescriptor (xT_Me k).2.2.1 = some (xt_Me k) := by decide +kernel
theorem xi_Me : ∀ w ∈ u_ws xR_Me xT_Me 6, w ∈ wT := fun w hw => by
  have h : w ∈ ([Cond.laysFinal xR_Me "LayerDesk$Member" "home" "LLayerDesk$Layer;", Cond.laysFinal xR_Me "LayerDesk$Member" "descriptor" "LLayerDesk$Descriptor;", Cond.laysFinal xR_Me "LayerDesk$Member" "required" "[LLayerDesk$Member;", Cond.laysFinal xR_Me "LayerDesk$Member" "leading" "LLayerDesk$Reach;", Cond.laysFinal xR_Me "LayerDesk$Member" "carried" "LLayerDesk$Reach;", Cond.laysFinal xR_Me "LayerDesk$Member" "reading" "LLayerDesk$Reach;"] : List Cond) := hw
  simp only [List.mem_cons, List.not_mem_nil, or_false] at h
  rcases h with rfl | rfl | rfl | rfl | rfl | rfl
  · exact wT_t (List.mem_append_right _ (List.mem_append_right _ (List.mem_append_left _ (List.mem_of_getElem? (i := 193) rfl)))) rfl
  · exact wT_t (List.mem_append_right _ (List.mem_append_right _ (List.mem_append_left _ (List.mem_of_getElem? (i := 195) rfl)))) rfl
  · exact wT_t (List.mem_append_right _ (List.mem_append_right _ (List.mem_append_left _ (List.mem_of_getElem? (i := 197) rfl)))) rfl
  · exact wT_t (List.mem_append_right _ (List.mem_append_right _ (List.mem_append_left _ (List.mem_of_getElem? (i := 199) rfl)))) rfl
  · exact wT_t (List.mem_append_right _ (List.mem_append_right _ (List.mem_append_left _ (List.mem_of_getElem? (i := 201) rfl)))) rfl
  · exact wT_t (List.mem_append_right _ (List.mem_append_right _ (List.mem_append_left _ (List.mem_of_getElem? (i := 203) rfl)))) rfl
def xR_Ds : String := "LayerDesk$Descriptor"
def xT_Ds : u_T := fun k => match k with
  | 0 => ("LayerDesk$Descriptor", "number", "I", true)
  | 1 => ("LayerDesk$Descriptor", "finder", "I", true)
  | 2 => ("LayerDesk$Descriptor", "name", "I", true)
  | 3 => ("LayerDesk$Descriptor", "packages", "LLayerDesk$Names;", true)
  | 4 => ("LayerDesk$Descriptor", "exported", "[LLayerDesk$Grant;", true)
  | 5 => ("LayerDesk$Descriptor", "opened", "[LLayerDesk$Grant;", true)
  | 6 => ("LayerDesk$Descriptor", "required", "LLayerDesk$Names;", true)
  | 7 => ("LayerDesk$Descriptor", "transitive", "[Z", true)
  | 8 => ("LayerDesk$Descriptor", "optional", "[Z", true)
  | 9 => ("LayerDesk$Descriptor", "used", "LLayerDesk$Names;", true)
  | 10 => ("LayerDesk$Descriptor", "provided", "LLayerDesk$Names;", true)
  | _ => ("LayerDesk$Descriptor", "settled", "Z", false)
def xt_Ds : Nat → FieldType := fun k => match k with
  | 0 => .int
  | 1 => .int
  | 2 => .int
  | 3 => .object "LayerDesk$Names"
  | 4 => .array (.object "LayerDesk$Grant")
  | 5 => .array (.object "LayerDesk$Grant")
  | 6 => .object "LayerDesk$Names"
  | 7 => .array .boolean
  | 8 => .array .boolean
  | 9 => .object "LayerDesk$Names"
  | 10 => .object "LayerDesk$Names"
  | _ => .boolean
theorem xn_Ds : ∀ a, a < 12 → ∀ b, b < 12 → a ≠ b → (xT_Ds a).2.1 ≠ (xT_Ds b).2.1 := by decide +kernel
theorem xt_Ds_ok : ∀ k, k < 12 → parseFieldDescriptor (xT_Ds k).2.2.1 = some (xt_Ds k) := by decide +kernel
theorem xi_Ds : ∀ w ∈ u_ws xR_Ds xT_Ds 12, w ∈ wT := fun w hw => by
  have h : w ∈ ([Cond.laysFinal xR_Ds "LayerDesk$Descriptor" "number" "I", Cond.laysFinal xR_Ds "LayerDesk$Descriptor" "finder" "I", Cond.laysFinal xR_Ds "LayerDesk$Descriptor" "name" "I", Cond.laysFinal xR_Ds "LayerDesk$Descriptor" "packages" "LLayerDesk$Names;", Cond.laysFinal xR_Ds "LayerDesk$Descriptor" "exported" "[LLayerDesk$Grant;", Cond.laysFinal xR_Ds "LayerDesk$Descriptor" "opened" "[LLayerDesk$Grant;", Cond.laysFinal xR_Ds "LayerDesk$Descriptor" "required" "LLayerDesk$Names;", Cond.laysFinal xR_Ds "LayerDesk$Descriptor" "transitive" "[Z", Cond.laysFinal xR_Ds "LayerDesk$Descriptor" "optional" "[Z", Cond.laysFinal xR_Ds "LayerDesk$Descriptor" "used" "LLayerDesk$Names;", Cond.laysFinal xR_Ds "LayerDesk$Descriptor" "provided" "LLayerDesk$Names;", Cond.lays xR_Ds "LayerDesk$Descriptor" "settled" "Z"] : List Cond) := hw
  simp only [List.mem_cons, List.not_mem_nil, or_false] at h
  rcases h with rfl | rfl | rfl | rfl | rfl | rfl | rfl | rfl | rfl | rfl | rfl | rfl
  · exact wT_t (List.mem_append_right _ (List.mem_append_left _ (List.mem_of_getElem? (i := 85) rfl))) rfl
  · exact wT_t (List.mem_append_right _ (List.mem_append_left _ (List.mem_of_getElem? (i := 87) rfl))) rfl
  · exact wT_t (List.mem_append_right _ (List.mem_append_left _ (List.mem_of_getElem? (i := 89) rfl))) rfl
  · exact wT_t (List.mem_append_right _ (List.mem_append_left _ (List.mem_of_getElem? (i := 91) rfl))) rfl
  · exact wT_t (List.mem_append_right _ (List.mem_append_left _ (List.mem_of_getElem? (i := 93) rfl))) rfl
  · exact wT_t (List.mem_append_right _ (List.mem_append_left _ (List.mem_of_getElem? (i := 95) rfl))) rfl
  · exact wT_t (List.mem_append_right _ (List.mem_append_left _ (List.mem_of_getElem? (i := 97) rfl))) rfl
  · exact wT_t (List.mem_append_right _ (List.mem_append_left _ (List.mem_of_getElem? (i := 99) rfl))) rfl
  · exact wT_t (List.mem_append_right _ (List.mem_append_left _ (List.mem_of_getElem? (i := 101) rfl))) rfl
  · exact wT_t (List.mem_append_right _ (List.mem_append_left _ (List.mem_of_getElem? (i := 103) rfl))) rfl
  · exact wT_t (List.mem_append_right _ (List.mem_append_left _ (List.mem_of_getElem? (i := 105) rfl))) rfl
  · exact wT_t (List.mem_append_right _ (List.mem_append_left _ (List.mem_of_getElem? (i := 107) rfl))) rfl
def xR_Na : String := "LayerDesk$Names"
def xT_Na : u_T := fun k => match k with
  | 0 => ("LayerDesk$Names", "entries", "[I", true)
  | _ => ("LayerDesk$Names", "size", "I", false)
def xt_Na : Nat → FieldType := fun k => match k with
  | 0 => .array .int
  | _ => .int
theorem xn_Na : ∀ a, a < 2 → ∀ b, b < 2 → a ≠ b → (xT_Na a).2.1 ≠ (xT_Na b).2.1 := by decide +kernel
theorem xt_Na_ok : ∀ k, k < 2 → parseFieldDescriptor (xT_Na k).2.2.1 = some (xt_Na k) := by decide +kernel
theorem xi_Na : ∀ w ∈ u_ws xR_Na xT_Na 2, w ∈ wT := fun w hw => by
  have h : w ∈ ([Cond.laysFinal xR_Na "LayerDesk$Names" "entries" "[I", Cond.lays xR_Na "LayerDesk$Names" "size" "I"] : List Cond) := hw
  simp only [List.mem_cons, List.not_mem_nil, or_false] at h
  rcases h with rfl | rfl
  · exact wT_t (List.mem_append_right _ (List.mem_append_left _ (List.mem_of_getElem? (i := 38) rfl))) rfl
  · exact wT_t (List.mem_append_right _ (List.mem_append_left _ (List.mem_of_getElem? (i := 40) rfl))) rfl
def xR_Gr : String := "LayerDesk$Grant"
def xT_Gr : u_T := fun k => match k with
  | 0 => ("LayerDesk$Grant", "names", "LLayerDesk$Names;", true)
  | _ => ("LayerDesk$Grant", "toAll", "Z", false)
def xt_Gr : Nat → FieldType := fun k => match k with
  | 0 => .object "LayerDesk$Names"
  | _ => .boolean
theorem xn_Gr : ∀ a, a < 2 → ∀ b, b < 2 → a ≠ b → (xT_Gr a).2.1 ≠ (xT_Gr b).2.1 := by decide +kernel
theorem xt_Gr_ok : ∀ k, k < 2 → parseFieldDescriptor (xT_Gr k).2.2.1 = some (xt_Gr k) := by decide +kernel
theorem xi_Gr : ∀ w ∈ u_ws xR_Gr xT_Gr 2, w ∈ wT := fun w hw => by
  have h : w ∈ ([Cond.laysFinal xR_Gr "LayerDesk$Grant" "names" "LLayerDesk$Names;", Cond.lays xR_Gr "LayerDesk$Grant" "toAll" "Z"] : List Cond) := hw
  simp only [List.mem_cons, List.not_mem_nil, or_false] at h
  rcases h with rfl | rfl
  · exact wT_t (List.mem_append_right _ (List.mem_append_left _ (List.mem_of_getElem? (i := 146) rfl))) rfl
  · exact wT_t (List.mem_append_right _ (List.mem_append_left _ (List.mem_of_getElem? (i := 148) rfl))) rfl
def xR_Re : String := "LayerDesk$Reach"
def xT_Re : u_T := fun k => match k with
  | _ => ("LayerDesk$Reach", "rows", "[I", true)
def xt_Re : Nat → FieldType := fun k => match k with
  | _ => .array .int
theorem xn_Re : ∀ a, a < 1 → ∀ b, b < 1 → a ≠ b → (xT_Re a).2.1 ≠ (xT_Re b).2.1 := by decide +kernel
theorem xt_Re_ok : ∀ k, k < 1 → parseFieldDescriptor (xT_Re k).2.2.1 = some (xt_Re k) := by decide +kernel
theorem xi_Re : ∀ w ∈ u_ws xR_Re xT_Re 1, w ∈ wT := fun w hw => by
  have h : w ∈ ([Cond.laysFinal xR_Re "LayerDesk$Reach" "rows" "[I"] : List Cond) := hw
  simp only [List.mem_cons, List.not_mem_nil, or_false] at h
  rcases h with rfl
  · exact wT_t (List.mem_append_right _ (List.mem_append_right _ (List.mem_append_left _ (List.mem_of_getElem? (i := 175) rfl)))) rfl
def xcl : List vw_C := [(xR_De, xT_De, 6), (xR_Li, xT_Li, 5), (xR_Sh, xT_Sh, 2), (xR_Ch, xT_Ch, 5), (xR_Mo, xT_Mo, 31), (xR_Ly, xT_Ly, 4), (xR_Me, xT_Me, 6), (xR_Ds, xT_Ds, 12), (xR_Na, xT_Na, 2), (xR_Gr, xT_Gr, 2), (xR_Re, xT_Re, 1)]
def xty (kA : Nat → ClassId) : List (ClassId × FieldType) := [(kA 0, .int), (kA 1, .char), (kA 2, .boolean), (kA 3, .long), (kA 4, .object "LayerDesk$Descriptor"), (kA 5, .object "LayerDesk$Layer"), (kA 6, .object "LayerDesk$Member"), (kA 7, .object "LayerDesk$Reach"), (kA 8, .object "LayerDesk$Grant")]
def xE1 (U : State) : Prop := va_Nw (.methodLinkNest "LayerDesk" 9 ⟨"LayerDesk$Line", "<init>", "()V"⟩ "LayerDesk") U ∧ va_Nw (.methodLinkNest "LayerDesk" 18 ⟨"LayerDesk$Shelf", "<init>", "()V"⟩ "LayerDesk") U ∧ va_Nw (.methodLinkNest "LayerDesk$Descriptor" 64 ⟨"LayerDesk$Grant", "<init>", "()V"⟩ "LayerDesk") U ∧ va_Nw (.methodLinkNest "LayerDesk$Member" 11 ⟨"LayerDesk$Reach", "<init>", "()V"⟩ "LayerDesk") U ∧ va_AO "LayerDesk$Descriptor" U ∧ va_AO "LayerDesk$Layer" U ∧ va_AO "LayerDesk$Member" U ∧ va_AO "LayerDesk$Reach" U ∧ va_AO "LayerDesk$Grant" U
theorem xE1.warm {s U : State} (hW : s.WarmedH U.vm) (h : xE1 s) : xE1 U := by
  obtain ⟨h1, h2, h3, h4, h5, h6, h7, h8, h9⟩ := h
  exact ⟨va_Nw.warmM hW h1, va_Nw.warmM hW h2, va_Nw.warmM hW h3, va_Nw.warmM hW h4, va_AO.moved hW.alike h5, va_AO.moved hW.alike h6, va_AO.moved hW.alike h7, va_AO.moved hW.alike h8, va_AO.moved hW.alike h9⟩
theorem xE1.same {s U : State} (hv : s.vm = U.vm) (h : xE1 s) : xE1 U := by
  obtain ⟨h1, h2, h3, h4, h5, h6, h7, h8, h9⟩ := h
  have ha : s.vm.Alike U.vm := by rw [hv]; exact Vm.Alike.refl _
  exact ⟨va_Nw.same rfl hv h1, va_Nw.same rfl hv h2, va_Nw.same rfl hv h3, va_Nw.same rfl hv h4, va_AO.moved ha h5, va_AO.moved ha h6, va_AO.moved ha h7, va_AO.moved ha h8, va_AO.moved ha h9⟩
def xE2 (U : State) : Prop := va_Nw (.declares ⟨"java/lang/RuntimeException", "<init>", "(Ljava/lang/String;)V"⟩) U ∧ va_Nw (.declares ⟨"java/lang/Exception", "<init>", "(Ljava/lang/String;)V"⟩) U ∧ va_Nw (.declares ⟨"java/lang/Throwable", "<init>", "(Ljava/lang/String;)V"⟩) U ∧ va_Nw (.castable "java/lang/IllegalArgumentException" "java/lang/IllegalArgumentException") U ∧ va_Nw (.castable "java/lang/IllegalStateException" "java/lang/IllegalStateException") U ∧ va_Nw (.castable "java/util/NoSuchElementException" "java/util/NoSuchElementException") U
theorem xE2.warm {s U : State} (hW : s.WarmedH U.vm) (h : xE2 s) : xE2 U := by
  obtain ⟨h1, h2, h3, h4, h5, h6⟩ := h
  exact ⟨va_Nw.warmD hW h1, va_Nw.warmD hW h2, va_Nw.warmD hW h3, va_Nw.warmC hW h4, va_Nw.warmC hW h5, va_Nw.warmC hW h6⟩
theorem xE2.same {s U : State} (hv : s.vm = U.vm) (h : xE2 s) : xE2 U := by
  obtain ⟨h1, h2, h3, h4, h5, h6⟩ := h
  exact ⟨va_Nw.same rfl hv h1, va_Nw.same rfl hv h2, va_Nw.same rfl hv h3, va_Nw.same rfl hv h4, va_Nw.same rfl hv h5, va_Nw.same rfl hv h6⟩
def xE (U : State) : Prop := xE1 U ∧ xE2 U
theorem xE.warm {s U : State} (hW : s.WarmedH U.vm) (h : xE s) : xE U := ⟨xE1.warm hW h.1, xE2.warm hW h.2⟩
theorem xE.same {s U : State} (hv : s.vm = U.vm) (h : xE s) : xE U := ⟨xE1.same hv h.1, xE2.same hv h.2⟩
def xK (D : va_G) (kA : Nat → ClassId) (U : State) : Prop := va_K D xcl (xty kA) U ∧ xE U
theorem xK.warm {D : va_G} {kA : Nat → ClassId} {s U : State} (hW : s.WarmedH U.vm) (h : xK D kA s) : xK D kA U := ⟨va_K.moved hW.alike h.1, xE.warm hW h.2⟩
theorem xK.same {D : va_G} {kA : Nat → ClassId} {s U : State} (hv : s.vm = U.vm) (h : xK D kA s) : xK D kA U := ⟨va_K.moved (by rw [hv]; exact Vm.Alike.refl _) h.1, xE.same hv h.2⟩
def xPre (D : va_G) (kA : Nat → ClassId) (sz : Nat) (ws : va_W) (U : State) : Prop := U.heap.size = sz ∧ va_P D xcl ws U.heap ∧ xK D kA U ∧ va_D (fun _ => True) ws
theorem x_blind {av : List Value} {D : va_G} {kA : Nat → ClassId} {sz : Nat} {ws : va_W} : FrameBlind (va_Pc av (xPre D kA sz ws)) := fun a U g mk h => by
  obtain ⟨q0, q1, qP, qK, qD⟩ := h
  exact ⟨q0, q1, qP, xK.same (s := U) (U := U.calling g mk a) rfl qK, qD⟩
theorem x_preS {s : State} {H : Heap} {D : va_G} {kA : Nat → ClassId} {wc : va_W} {A : Nat → Prop} {As : List Value} (hK : xK D kA s) (hP : va_P D xcl wc H) (hD : va_D A wc) : PreS s H (va_Pc As (xPre D kA H.size wc)) As :=
  ⟨x_blind, fun U hU hW => ⟨rfl, by rw [hU], by rw [hU]; exact hP, xK.warm hW hK, hD.weaken (fun _ _ _ _ => trivial)⟩⟩
theorem x_preV {s : State} {H : Heap} {D : va_G} {kA : Nat → ClassId} {wc : va_W} {A : Nat → Prop} {As : List Value} {b ci : Nat} {fs : List Value} {q : vw_C} (hK : xK D kA s) (hP : va_P D xcl wc H) (hD : va_D A wc) (q0 : Nat) (he : wc[q0]? = some (b, .inr (ci, fs))) (hc : xcl[ci]? = some q) : PreV s H q.1 b (va_Pc (.ref b :: As) (xPre D kA H.size wc)) As :=
  ⟨x_blind, va_recv hK.1 hP hc he, fun U hU hW => ⟨rfl, by rw [hU], by rw [hU]; exact hP, xK.warm hW hK, hD.weaken (fun _ _ _ _ => trivial)⟩⟩
section XA
variable {p : Program} {l : Launch} {e : Env} {R : Room} {s : State} {m : MethodId} {args : Array Value} {below : List Frame} {meth : Method} {c : Code} {H : Heap} {locs : List Loc} {cells slots : Nat} {Q : State → Prop}
variable {cc : ByteArray} {pc : Nat} {ls : Array Slot} {rest : List Value} {D : va_G} {cl : List vw_C} {tys : List (ClassId × FieldType)} {ws : va_W} {A : Nat → Prop} {H0 : Heap}
theorem xa_newa (hexec : p.tables.exec = Jvm.exec) (hb : c.code = cc) {atype : ArrayType} (harr : (Cond.arrayClass (newarray.typeOf atype)).before args s = true) {ty : FieldType} (hty : newarray.typeOf atype = ty) (hra : ∀ cA : ClassId, va_RA s cA ty → s.vm.findClass ("[" ++ ty.toString) = some cA) (hK : va_K D cl tys s) (t0 : Nat) {cA0 : ClassId} (ht : tys[t0]? = some (cA0, ty)) (hP : va_P D cl ws H) (hD : va_D A ws) (hS : va_S A H0 H locs) (hA : ∀ q, H0.size ≤ q → A q)
    {n : Int32} {N' : Nat} {a0 : vp_A} (ha : ∀ cA : ClassId, vp_cell cA a0 = arrV cA N' (fun _ => defaultValue ty)) (hn : ¬ n < 0) (hN : n.toNatClampNeg = N') (hbytes : N' * componentBytes ty ≤ 536870912) (hcells : cells + 1 ≤ R.cells) (hslots : slots + N' ≤ R.slots) (hdg : decode cc pc = .ok (.newarray atype, 2))
    (kk : ∀ (q : Nat) (H1 : Heap), va_P D cl (ws ++ [(q, .inl (cA0, a0))]) H1 → va_D A (ws ++ [(q, .inl (cA0, a0))]) → va_S A H0 H1 locs →
      W p l e R s m args below meth c H1 locs (cells + 1) (slots + N') Q (F0 m (pc + 2) ls (.ref q :: rest))) : W p l e R s m args below meth c H locs cells slots Q (F0 m pc ls (.int n :: rest)) := by
  refine va_newa hexec hb harr hty hK hP hD hS hA ha hn hN hbytes hcells hslots hdg (fun q cA H1 hK1 hP1 hD1 hS1 => ?_)
  have e1 := hra _ (hK.2 t0 _ ht).2
  have e2 := hra _ (hK1.2 tys.length (cA, ty) (by simp)).2
  cases Option.some.inj (e1.symm.trans e2)
  exact kk q H1 hP1 hD1 hS1
theorem xa_newq (hexec : p.tables.exec = Jvm.exec) (hb : c.code = cc) {own C : String} {index : Nat} (hown : s.vm.findClass own = some m.cls) (hclink : (Cond.classLink own index C).before args s = true) (hover : va_AO C s) (hK : va_K D cl tys s) (t0 : Nat) {cA0 : ClassId} (ht : tys[t0]? = some (cA0, .object C)) (hP : va_P D cl ws H) (hD : va_D A ws) (hS : va_S A H0 H locs) (hA : ∀ q, H0.size ≤ q → A q)
    {n : Int32} {N' : Nat} (hn : ¬ n < 0) (hN : n.toNatClampNeg = N') (hbytes : N' * 4 ≤ 536870912) (hcells : cells + 1 ≤ R.cells) (hslots : slots + N' ≤ R.slots) (hdg : decode cc pc = .ok (.anewarray index, 3))
    (kk : ∀ (q : Nat) (H1 : Heap), va_P D cl (ws ++ [(q, .inl (cA0, N', .inr (.inr (.inr (.inr (fun _ => none))))))]) H1 → va_D A (ws ++ [(q, .inl (cA0, N', .inr (.inr (.inr (.inr (fun _ => none))))))]) → va_S A H0 H1 locs →
      W p l e R s m args below meth c H1 locs (cells + 1) (slots + N') Q (F0 m (pc + 3) ls (.ref q :: rest))) : W p l e R s m args below meth c H locs cells slots Q (F0 m pc ls (.int n :: rest)) := by
  refine va_newq hexec hb hown hclink hover hK hP hD hS hA hn hN hbytes hcells hslots hdg (fun q cA H1 hK1 hP1 hD1 hS1 => ?_)
  obtain ⟨-, -, -, -, -, e1⟩ := (hK.2 t0 _ ht).2
  obtain ⟨-, -, -, -, -, e2⟩ := (hK1.2 tys.length (cA, .object C) (by simp)).2
  cases Option.some.inj (e1.symm.trans e2)
  exact kk q H1 hP1 hD1 hS1
end XA
abbrev xb_Li_init : ByteArray := prog_6_method_1_code
def xy_Li_init : MethodName := ⟨"LayerDesk$Line", "<init>", "()V"⟩
abbrev xb_Sh_init : ByteArray := prog_10_method_1_code
def xy_Sh_init : MethodName := ⟨"LayerDesk$Shelf", "<init>", "()V"⟩
abbrev xb_Ch_init : ByteArray := prog_2_method_1_code
def xy_Ch_init : MethodName := ⟨"LayerDesk$Chooser", "<init>", "(LLayerDesk$Shelf;)V"⟩
abbrev xb_De_init : ByteArray := prog_1_method_1_code
def xy_De_init : MethodName := ⟨"LayerDesk", "<init>", "()V"⟩
abbrev xb_Mo_init : ByteArray := prog_12_method_1_code
def xy_Mo_init : MethodName := ⟨"LayerDeskModel", "<init>", "()V"⟩
theorem xd_Ch_init_0 : decode xb_Ch_init 0 = .ok (.aload_n 0, 1) := by decide +kernel
theorem xd_Ch_init_1 : decode xb_Ch_init 1 = .ok (.invokespecial 3, 3) := by decide +kernel
theorem xd_Ch_init_4 : decode xb_Ch_init 4 = .ok (.aload_n 0, 1) := by decide +kernel
theorem xd_Ch_init_5 : decode xb_Ch_init 5 = .ok (.bipush 12, 2) := by decide +kernel
theorem xd_Ch_init_7 : decode xb_Ch_init 7 = .ok (.anewarray 9, 3) := by decide +kernel
theorem xd_Ch_init_10 : decode xb_Ch_init 10 = .ok (.putfield 11, 3) := by decide +kernel
theorem xd_Ch_init_13 : decode xb_Ch_init 13 = .ok (.aload_n 0, 1) := by decide +kernel
theorem xd_Ch_init_14 : decode xb_Ch_init 14 = .ok (.iconst 0, 1) := by decide +kernel
theorem xd_Ch_init_15 : decode xb_Ch_init 15 = .ok (.putfield 17, 3) := by decide +kernel
theorem xd_Ch_init_18 : decode xb_Ch_init 18 = .ok (.aload_n 0, 1) := by decide +kernel
theorem xd_Ch_init_19 : decode xb_Ch_init 19 = .ok (.iconst 0, 1) := by decide +kernel
theorem xd_Ch_init_20 : decode xb_Ch_init 20 = .ok (.putfield 21, 3) := by decide +kernel
theorem xd_Ch_init_23 : decode xb_Ch_init 23 = .ok (.aload_n 0, 1) := by decide +kernel
theorem xd_Ch_init_24 : decode xb_Ch_init 24 = .ok (.aconst_null, 1) := by decide +kernel
theorem xd_Ch_init_25 : decode xb_Ch_init 25 = .ok (.putfield 24, 3) := by decide +kernel
theorem xd_Ch_init_28 : decode xb_Ch_init 28 = .ok (.aload_n 0, 1) := by decide +kernel
theorem xd_Ch_init_29 : decode xb_Ch_init 29 = .ok (.aload_n 1, 1) := by decide +kernel
theorem xd_Ch_init_30 : decode xb_Ch_init 30 = .ok (.putfield 28, 3) := by decide +kernel
theorem xd_Ch_init_33 : decode xb_Ch_init 33 = .ok (.return_, 1) := by decide +kernel
theorem xd_De_init_0 : decode xb_De_init 0 = .ok (.aload_n 0, 1) := by decide +kernel
theorem xd_De_init_1 : decode xb_De_init 1 = .ok (.invokespecial 1, 3) := by decide +kernel
theorem xd_De_init_4 : decode xb_De_init 4 = .ok (.aload_n 0, 1) := by decide +kernel
theorem xd_De_init_5 : decode xb_De_init 5 = .ok (.new 7, 3) := by decide +kernel
theorem xd_De_init_8 : decode xb_De_init 8 = .ok (.dup, 1) := by decide +kernel
theorem xd_De_init_9 : decode xb_De_init 9 = .ok (.invokespecial 9, 3) := by decide +kernel
theorem xd_De_init_12 : decode xb_De_init 12 = .ok (.putfield 10, 3) := by decide +kernel
theorem xd_De_init_15 : decode xb_De_init 15 = .ok (.aload_n 0, 1) := by decide +kernel
theorem xd_De_init_16 : decode xb_De_init 16 = .ok (.new 16, 3) := by decide +kernel
theorem xd_De_init_19 : decode xb_De_init 19 = .ok (.dup, 1) := by decide +kernel
theorem xd_De_init_20 : decode xb_De_init 20 = .ok (.invokespecial 18, 3) := by decide +kernel
theorem xd_De_init_23 : decode xb_De_init 23 = .ok (.putfield 19, 3) := by decide +kernel
theorem xd_De_init_26 : decode xb_De_init 26 = .ok (.aload_n 0, 1) := by decide +kernel
theorem xd_De_init_27 : decode xb_De_init 27 = .ok (.new 23, 3) := by decide +kernel
theorem xd_De_init_30 : decode xb_De_init 30 = .ok (.dup, 1) := by decide +kernel
theorem xd_De_init_31 : decode xb_De_init 31 = .ok (.aload_n 0, 1) := by decide +kernel
theorem xd_De_init_32 : decode xb_De_init 32 = .ok (.getfield 19, 3) := by decide +kernel
theorem xd_De_init_35 : decode xb_De_init 35 = .ok (.invokespecial 25, 3) := by decide +kernel
theorem xd_De_init_38 : decode xb_De_init 38 = .ok (.putfield 28, 3) := by decide +kernel
theorem xd_De_init_41 : decode xb_De_init 41 = .ok (.aload_n 0, 1) := by decide +kernel
theorem xd_De_init_42 : decode xb_De_init 42 = .ok (.iconst 5, 1) := by decide +kernel
theorem xd_De_init_43 : decode xb_De_init 43 = .ok (.anewarray 32, 3) := by decide +kernel
theorem xd_De_init_46 : decode xb_De_init 46 = .ok (.putfield 34, 3) := by decide +kernel
theorem xd_De_init_49 : decode xb_De_init 49 = .ok (.aload_n 0, 1) := by decide +kernel
theorem xd_De_init_50 : decode xb_De_init 50 = .ok (.iconst 0, 1) := by decide +kernel
theorem xd_De_init_51 : decode xb_De_init 51 = .ok (.putfield 38, 3) := by decide +kernel
theorem xd_De_init_54 : decode xb_De_init 54 = .ok (.aload_n 0, 1) := by decide +kernel
theorem xd_De_init_55 : decode xb_De_init 55 = .ok (.iconst 0, 1) := by decide +kernel
theorem xd_De_init_56 : decode xb_De_init 56 = .ok (.putfield 42, 3) := by decide +kernel
theorem xd_De_init_59 : decode xb_De_init 59 = .ok (.return_, 1) := by decide +kernel
theorem xd_Li_init_0 : decode xb_Li_init 0 = .ok (.aload_n 0, 1) := by decide +kernel
theorem xd_Li_init_1 : decode xb_Li_init 1 = .ok (.invokespecial 1, 3) := by decide +kernel
theorem xd_Li_init_4 : decode xb_Li_init 4 = .ok (.aload_n 0, 1) := by decide +kernel
theorem xd_Li_init_5 : decode xb_Li_init 5 = .ok (.bipush 40, 2) := by decide +kernel
theorem xd_Li_init_7 : decode xb_Li_init 7 = .ok (.newarray .char, 2) := by decide +kernel
theorem xd_Li_init_9 : decode xb_Li_init 9 = .ok (.putfield 9, 3) := by decide +kernel
theorem xd_Li_init_12 : decode xb_Li_init 12 = .ok (.aload_n 0, 1) := by decide +kernel
theorem xd_Li_init_13 : decode xb_Li_init 13 = .ok (.bipush 20, 2) := by decide +kernel
theorem xd_Li_init_15 : decode xb_Li_init 15 = .ok (.newarray .int, 2) := by decide +kernel
theorem xd_Li_init_17 : decode xb_Li_init 17 = .ok (.putfield 13, 3) := by decide +kernel
theorem xd_Li_init_20 : decode xb_Li_init 20 = .ok (.aload_n 0, 1) := by decide +kernel
theorem xd_Li_init_21 : decode xb_Li_init 21 = .ok (.bipush 20, 2) := by decide +kernel
theorem xd_Li_init_23 : decode xb_Li_init 23 = .ok (.newarray .int, 2) := by decide +kernel
theorem xd_Li_init_25 : decode xb_Li_init 25 = .ok (.putfield 17, 3) := by decide +kernel
theorem xd_Li_init_28 : decode xb_Li_init 28 = .ok (.aload_n 0, 1) := by decide +kernel
theorem xd_Li_init_29 : decode xb_Li_init 29 = .ok (.iconst 0, 1) := by decide +kernel
theorem xd_Li_init_30 : decode xb_Li_init 30 = .ok (.putfield 20, 3) := by decide +kernel
theorem xd_Li_init_33 : decode xb_Li_init 33 = .ok (.aload_n 0, 1) := by decide +kernel
theorem xd_Li_init_34 : decode xb_Li_init 34 = .ok (.iconst 0, 1) := by decide +kernel
theorem xd_Li_init_35 : decode xb_Li_init 35 = .ok (.putfield 24, 3) := by decide +kernel
theorem xd_Li_init_38 : decode xb_Li_init 38 = .ok (.return_, 1) := by decide +kernel
theorem xd_Mo_init_0 : decode xb_Mo_init 0 = .ok (.aload_n 0, 1) := by decide +kernel
theorem xd_Mo_init_1 : decode xb_Mo_init 1 = .ok (.invokespecial 1, 3) := by decide +kernel
theorem xd_Mo_init_4 : decode xb_Mo_init 4 = .ok (.aload_n 0, 1) := by decide +kernel
theorem xd_Mo_init_5 : decode xb_Mo_init 5 = .ok (.bipush 40, 2) := by decide +kernel
theorem xd_Mo_init_7 : decode xb_Mo_init 7 = .ok (.newarray .char, 2) := by decide +kernel
theorem xd_Mo_init_9 : decode xb_Mo_init 9 = .ok (.putfield 7, 3) := by decide +kernel
theorem xd_Mo_init_12 : decode xb_Mo_init 12 = .ok (.aload_n 0, 1) := by decide +kernel
theorem xd_Mo_init_13 : decode xb_Mo_init 13 = .ok (.bipush 20, 2) := by decide +kernel
theorem xd_Mo_init_15 : decode xb_Mo_init 15 = .ok (.newarray .int, 2) := by decide +kernel
theorem xd_Mo_init_17 : decode xb_Mo_init 17 = .ok (.putfield 13, 3) := by decide +kernel
theorem xd_Mo_init_20 : decode xb_Mo_init 20 = .ok (.aload_n 0, 1) := by decide +kernel
theorem xd_Mo_init_21 : decode xb_Mo_init 21 = .ok (.bipush 20, 2) := by decide +kernel
theorem xd_Mo_init_23 : decode xb_Mo_init 23 = .ok (.newarray .int, 2) := by decide +kernel
theorem xd_Mo_init_25 : decode xb_Mo_init 25 = .ok (.putfield 17, 3) := by decide +kernel
theorem xd_Mo_init_28 : decode xb_Mo_init 28 = .ok (.aload_n 0, 1) := by decide +kernel
theorem xd_Mo_init_29 : decode xb_Mo_init 29 = .ok (.bipush 12, 2) := by decide +kernel
theorem xd_Mo_init_31 : decode xb_Mo_init 31 = .ok (.newarray .int, 2) := by decide +kernel
theorem xd_Mo_init_33 : decode xb_Mo_init 33 = .ok (.putfield 20, 3) := by decide +kernel
theorem xd_Mo_init_36 : decode xb_Mo_init 36 = .ok (.aload_n 0, 1) := by decide +kernel
theorem xd_Mo_init_37 : decode xb_Mo_init 37 = .ok (.bipush 12, 2) := by decide +kernel
theorem xd_Mo_init_39 : decode xb_Mo_init 39 = .ok (.newarray .int, 2) := by decide +kernel
theorem xd_Mo_init_41 : decode xb_Mo_init 41 = .ok (.putfield 23, 3) := by decide +kernel
theorem xd_Mo_init_44 : decode xb_Mo_init 44 = .ok (.aload_n 0, 1) := by decide +kernel
theorem xd_Mo_init_45 : decode xb_Mo_init 45 = .ok (.bipush 12, 2) := by decide +kernel
theorem xd_Mo_init_47 : decode xb_Mo_init 47 = .ok (.newarray .int, 2) := by decide +kernel
theorem xd_Mo_init_49 : decode xb_Mo_init 49 = .ok (.putfield 26, 3) := by decide +kernel
theorem xd_Mo_init_52 : decode xb_Mo_init 52 = .ok (.aload_n 0, 1) := by decide +kernel
theorem xd_Mo_init_53 : decode xb_Mo_init 53 = .ok (.bipush 72, 2) := by decide +kernel
theorem xd_Mo_init_55 : decode xb_Mo_init 55 = .ok (.newarray .int, 2) := by decide +kernel
theorem xd_Mo_init_57 : decode xb_Mo_init 57 = .ok (.putfield 29, 3) := by decide +kernel
theorem xd_Mo_init_60 : decode xb_Mo_init 60 = .ok (.aload_n 0, 1) := by decide +kernel
theorem xd_Mo_init_61 : decode xb_Mo_init 61 = .ok (.sipush 216, 3) := by decide +kernel
theorem xd_Mo_init_64 : decode xb_Mo_init 64 = .ok (.newarray .int, 2) := by decide +kernel
theorem xd_Mo_init_66 : decode xb_Mo_init 66 = .ok (.putfield 32, 3) := by decide +kernel
theorem xd_Mo_init_69 : decode xb_Mo_init 69 = .ok (.aload_n 0, 1) := by decide +kernel
theorem xd_Mo_init_70 : decode xb_Mo_init 70 = .ok (.sipush 216, 3) := by decide +kernel
theorem xd_Mo_init_73 : decode xb_Mo_init 73 = .ok (.newarray .int, 2) := by decide +kernel
theorem xd_Mo_init_75 : decode xb_Mo_init 75 = .ok (.putfield 35, 3) := by decide +kernel
theorem xd_Mo_init_78 : decode xb_Mo_init 78 = .ok (.aload_n 0, 1) := by decide +kernel
theorem xd_Mo_init_79 : decode xb_Mo_init 79 = .ok (.bipush 72, 2) := by decide +kernel
theorem xd_Mo_init_81 : decode xb_Mo_init 81 = .ok (.newarray .boolean, 2) := by decide +kernel
theorem xd_Mo_init_83 : decode xb_Mo_init 83 = .ok (.putfield 38, 3) := by decide +kernel
theorem xd_Mo_init_86 : decode xb_Mo_init 86 = .ok (.aload_n 0, 1) := by decide +kernel
theorem xd_Mo_init_87 : decode xb_Mo_init 87 = .ok (.bipush 72, 2) := by decide +kernel
theorem xd_Mo_init_89 : decode xb_Mo_init 89 = .ok (.newarray .boolean, 2) := by decide +kernel
theorem xd_Mo_init_91 : decode xb_Mo_init 91 = .ok (.putfield 42, 3) := by decide +kernel
theorem xd_Mo_init_94 : decode xb_Mo_init 94 = .ok (.aload_n 0, 1) := by decide +kernel
theorem xd_Mo_init_95 : decode xb_Mo_init 95 = .ok (.bipush 12, 2) := by decide +kernel
theorem xd_Mo_init_97 : decode xb_Mo_init 97 = .ok (.newarray .boolean, 2) := by decide +kernel
theorem xd_Mo_init_99 : decode xb_Mo_init 99 = .ok (.putfield 45, 3) := by decide +kernel
theorem xd_Mo_init_102 : decode xb_Mo_init 102 = .ok (.aload_n 0, 1) := by decide +kernel
theorem xd_Mo_init_103 : decode xb_Mo_init 103 = .ok (.bipush 12, 2) := by decide +kernel
theorem xd_Mo_init_105 : decode xb_Mo_init 105 = .ok (.newarray .int, 2) := by decide +kernel
theorem xd_Mo_init_107 : decode xb_Mo_init 107 = .ok (.putfield 48, 3) := by decide +kernel
theorem xd_Mo_init_110 : decode xb_Mo_init 110 = .ok (.aload_n 0, 1) := by decide +kernel
theorem xd_Mo_init_111 : decode xb_Mo_init 111 = .ok (.bipush 60, 2) := by decide +kernel
theorem xd_Mo_init_113 : decode xb_Mo_init 113 = .ok (.newarray .int, 2) := by decide +kernel
theorem xd_Mo_init_115 : decode xb_Mo_init 115 = .ok (.putfield 51, 3) := by decide +kernel
theorem xd_Mo_init_118 : decode xb_Mo_init 118 = .ok (.aload_n 0, 1) := by decide +kernel
theorem xd_Mo_init_119 : decode xb_Mo_init 119 = .ok (.bipush 36, 2) := by decide +kernel
theorem xd_Mo_init_121 : decode xb_Mo_init 121 = .ok (.newarray .int, 2) := by decide +kernel
theorem xd_Mo_init_123 : decode xb_Mo_init 123 = .ok (.putfield 54, 3) := by decide +kernel
theorem xd_Mo_init_126 : decode xb_Mo_init 126 = .ok (.aload_n 0, 1) := by decide +kernel
theorem xd_Mo_init_127 : decode xb_Mo_init 127 = .ok (.bipush 36, 2) := by decide +kernel
theorem xd_Mo_init_129 : decode xb_Mo_init 129 = .ok (.newarray .int, 2) := by decide +kernel
theorem xd_Mo_init_131 : decode xb_Mo_init 131 = .ok (.putfield 57, 3) := by decide +kernel
theorem xd_Mo_init_134 : decode xb_Mo_init 134 = .ok (.aload_n 0, 1) := by decide +kernel
theorem xd_Mo_init_135 : decode xb_Mo_init 135 = .ok (.bipush 60, 2) := by decide +kernel
theorem xd_Mo_init_137 : decode xb_Mo_init 137 = .ok (.newarray .boolean, 2) := by decide +kernel
theorem xd_Mo_init_139 : decode xb_Mo_init 139 = .ok (.putfield 60, 3) := by decide +kernel
theorem xd_Mo_init_142 : decode xb_Mo_init 142 = .ok (.aload_n 0, 1) := by decide +kernel
theorem xd_Mo_init_143 : decode xb_Mo_init 143 = .ok (.bipush 60, 2) := by decide +kernel
theorem xd_Mo_init_145 : decode xb_Mo_init 145 = .ok (.newarray .boolean, 2) := by decide +kernel
theorem xd_Mo_init_147 : decode xb_Mo_init 147 = .ok (.putfield 63, 3) := by decide +kernel
theorem xd_Mo_init_150 : decode xb_Mo_init 150 = .ok (.aload_n 0, 1) := by decide +kernel
theorem xd_Mo_init_151 : decode xb_Mo_init 151 = .ok (.bipush 6, 2) := by decide +kernel
theorem xd_Mo_init_153 : decode xb_Mo_init 153 = .ok (.newarray .int, 2) := by decide +kernel
theorem xd_Mo_init_155 : decode xb_Mo_init 155 = .ok (.putfield 66, 3) := by decide +kernel
theorem xd_Mo_init_158 : decode xb_Mo_init 158 = .ok (.aload_n 0, 1) := by decide +kernel
theorem xd_Mo_init_159 : decode xb_Mo_init 159 = .ok (.bipush 6, 2) := by decide +kernel
theorem xd_Mo_init_161 : decode xb_Mo_init 161 = .ok (.newarray .int, 2) := by decide +kernel
theorem xd_Mo_init_163 : decode xb_Mo_init 163 = .ok (.putfield 69, 3) := by decide +kernel
theorem xd_Mo_init_166 : decode xb_Mo_init 166 = .ok (.aload_n 0, 1) := by decide +kernel
theorem xd_Mo_init_167 : decode xb_Mo_init 167 = .ok (.bipush 6, 2) := by decide +kernel
theorem xd_Mo_init_169 : decode xb_Mo_init 169 = .ok (.newarray .int, 2) := by decide +kernel
theorem xd_Mo_init_171 : decode xb_Mo_init 171 = .ok (.putfield 72, 3) := by decide +kernel
theorem xd_Mo_init_174 : decode xb_Mo_init 174 = .ok (.aload_n 0, 1) := by decide +kernel
theorem xd_Mo_init_175 : decode xb_Mo_init 175 = .ok (.bipush 72, 2) := by decide +kernel
theorem xd_Mo_init_177 : decode xb_Mo_init 177 = .ok (.newarray .int, 2) := by decide +kernel
theorem xd_Mo_init_179 : decode xb_Mo_init 179 = .ok (.putfield 75, 3) := by decide +kernel
theorem xd_Mo_init_182 : decode xb_Mo_init 182 = .ok (.aload_n 0, 1) := by decide +kernel
theorem xd_Mo_init_183 : decode xb_Mo_init 183 = .ok (.bipush 6, 2) := by decide +kernel
theorem xd_Mo_init_185 : decode xb_Mo_init 185 = .ok (.newarray .boolean, 2) := by decide +kernel
theorem xd_Mo_init_187 : decode xb_Mo_init 187 = .ok (.putfield 78, 3) := by decide +kernel
theorem xd_Mo_init_190 : decode xb_Mo_init 190 = .ok (.aload_n 0, 1) := by decide +kernel
theorem xd_Mo_init_191 : decode xb_Mo_init 191 = .ok (.bipush 80, 2) := by decide +kernel
theorem xd_Mo_init_193 : decode xb_Mo_init 193 = .ok (.newarray .int, 2) := by decide +kernel
theorem xd_Mo_init_195 : decode xb_Mo_init 195 = .ok (.putfield 81, 3) := by decide +kernel
theorem xd_Mo_init_198 : decode xb_Mo_init 198 = .ok (.aload_n 0, 1) := by decide +kernel
theorem xd_Mo_init_199 : decode xb_Mo_init 199 = .ok (.bipush 72, 2) := by decide +kernel
theorem xd_Mo_init_201 : decode xb_Mo_init 201 = .ok (.newarray .boolean, 2) := by decide +kernel
theorem xd_Mo_init_203 : decode xb_Mo_init 203 = .ok (.putfield 84, 3) := by decide +kernel
theorem xd_Mo_init_206 : decode xb_Mo_init 206 = .ok (.return_, 1) := by decide +kernel
theorem xd_Sh_init_0 : decode xb_Sh_init 0 = .ok (.aload_n 0, 1) := by decide +kernel
theorem xd_Sh_init_1 : decode xb_Sh_init 1 = .ok (.invokespecial 3, 3) := by decide +kernel
theorem xd_Sh_init_4 : decode xb_Sh_init 4 = .ok (.aload_n 0, 1) := by decide +kernel
theorem xd_Sh_init_5 : decode xb_Sh_init 5 = .ok (.bipush 12, 2) := by decide +kernel
theorem xd_Sh_init_7 : decode xb_Sh_init 7 = .ok (.anewarray 9, 3) := by decide +kernel
theorem xd_Sh_init_10 : decode xb_Sh_init 10 = .ok (.putfield 11, 3) := by decide +kernel
theorem xd_Sh_init_13 : decode xb_Sh_init 13 = .ok (.aload_n 0, 1) := by decide +kernel
theorem xd_Sh_init_14 : decode xb_Sh_init 14 = .ok (.iconst 0, 1) := by decide +kernel
theorem xd_Sh_init_15 : decode xb_Sh_init 15 = .ok (.putfield 17, 3) := by decide +kernel
theorem xd_Sh_init_18 : decode xb_Sh_init 18 = .ok (.return_, 1) := by decide +kernel
theorem xk_0 : (Cond.methodLink "LayerDesk$Line" 1 ⟨"java/lang/Object", "<init>", "()V"⟩) ∈ wT := wT_t (List.mem_append_left _ (List.mem_of_getElem? (i := 35) rfl)) rfl
theorem xk_1 : (Cond.instanceMethod ⟨"java/lang/Object", "<init>", "()V"⟩) ∈ wT := wT_t (List.mem_append_left _ (List.mem_of_getElem? (i := 28) rfl)) rfl
theorem xk_2 : (Cond.code ⟨"java/lang/Object", "<init>", "()V"⟩ object_method_1_code 1 none) ∈ wT := wT_t (List.mem_append_left _ (List.mem_of_getElem? (i := 29) rfl)) rfl
theorem xk_3 : (Cond.arrayClass .char) ∈ wT := wT_t (List.mem_append_left _ (List.mem_of_getElem? (i := 54) rfl)) rfl
theorem xk_4 : (Cond.fieldLink "LayerDesk$Line" 9 "LayerDesk$Line" "text" "[C") ∈ wT := wT_t (List.mem_append_left _ (List.mem_of_getElem? (i := 36) rfl)) rfl
theorem xk_5 : (Cond.arrayClass .int) ∈ wT := wT_t (List.mem_append_left _ (List.mem_of_getElem? (i := 55) rfl)) rfl
theorem xk_6 : (Cond.fieldLink "LayerDesk$Line" 13 "LayerDesk$Line" "starts" "[I") ∈ wT := wT_t (List.mem_append_left _ (List.mem_of_getElem? (i := 37) rfl)) rfl
theorem xk_7 : (Cond.fieldLink "LayerDesk$Line" 17 "LayerDesk$Line" "ends" "[I") ∈ wT := wT_t (List.mem_append_left _ (List.mem_of_getElem? (i := 38) rfl)) rfl
theorem xk_8 : (Cond.fieldLink "LayerDesk$Line" 20 "LayerDesk$Line" "length" "I") ∈ wT := wT_t (List.mem_append_left _ (List.mem_of_getElem? (i := 39) rfl)) rfl
theorem xk_9 : (Cond.fieldLink "LayerDesk$Line" 24 "LayerDesk$Line" "words" "I") ∈ wT := wT_t (List.mem_append_left _ (List.mem_of_getElem? (i := 40) rfl)) rfl
theorem xk_10 : (Cond.methodLink "LayerDesk$Shelf" 3 ⟨"java/lang/Object", "<init>", "()V"⟩) ∈ wT := wT_t (List.mem_append_left _ (List.mem_of_getElem? (i := 61) rfl)) rfl
theorem xk_11 : (Cond.classLink "LayerDesk$Shelf" 9 "LayerDesk$Descriptor") ∈ wT := wT_t (List.mem_append_left _ (List.mem_of_getElem? (i := 62) rfl)) rfl
theorem xk_12 : (Cond.fieldLink "LayerDesk$Shelf" 11 "LayerDesk$Shelf" "descriptors" "[LLayerDesk$Descriptor;") ∈ wT := wT_t (List.mem_append_left _ (List.mem_of_getElem? (i := 64) rfl)) rfl
theorem xk_13 : (Cond.fieldLink "LayerDesk$Shelf" 17 "LayerDesk$Shelf" "size" "I") ∈ wT := wT_t (List.mem_append_left _ (List.mem_of_getElem? (i := 66) rfl)) rfl
theorem xk_14 : (Cond.methodLink "LayerDesk$Chooser" 3 ⟨"java/lang/Object", "<init>", "()V"⟩) ∈ wT := wT_t (List.mem_append_left _ (List.mem_of_getElem? (i := 79) rfl)) rfl
theorem xk_15 : (Cond.classLink "LayerDesk$Chooser" 9 "LayerDesk$Descriptor") ∈ wT := wT_t (List.mem_append_left _ (List.mem_of_getElem? (i := 80) rfl)) rfl
theorem xk_16 : (Cond.fieldLink "LayerDesk$Chooser" 11 "LayerDesk$Chooser" "chosen" "[LLayerDesk$Descriptor;") ∈ wT := wT_t (List.mem_append_left _ (List.mem_of_getElem? (i := 82) rfl)) rfl
theorem xk_17 : (Cond.fieldLink "LayerDesk$Chooser" 17 "LayerDesk$Chooser" "size" "I") ∈ wT := wT_t (List.mem_append_left _ (List.mem_of_getElem? (i := 83) rfl)) rfl
theorem xk_18 : (Cond.fieldLink "LayerDesk$Chooser" 21 "LayerDesk$Chooser" "finder" "I") ∈ wT := wT_t (List.mem_append_left _ (List.mem_of_getElem? (i := 84) rfl)) rfl
theorem xk_19 : (Cond.fieldLink "LayerDesk$Chooser" 24 "LayerDesk$Chooser" "parent" "LLayerDesk$Layer;") ∈ wT := wT_t (List.mem_append_left _ (List.mem_of_getElem? (i := 85) rfl)) rfl
theorem xk_20 : (Cond.fieldLink "LayerDesk$Chooser" 28 "LayerDesk$Chooser" "shelf" "LLayerDesk$Shelf;") ∈ wT := wT_t (List.mem_append_left _ (List.mem_of_getElem? (i := 81) rfl)) rfl
theorem xk_21 : (Cond.methodLink "LayerDesk" 1 ⟨"java/lang/Object", "<init>", "()V"⟩) ∈ wT := wT_t (List.mem_append_left _ (List.mem_of_getElem? (i := 27) rfl)) rfl
theorem xk_22 : (Cond.classLink "LayerDesk" 7 "LayerDesk$Line") ∈ wT := wT_t (List.mem_append_left _ (List.mem_of_getElem? (i := 30) rfl)) rfl
theorem xk_23 : (Cond.instantiable "LayerDesk$Line" 5) ∈ wT := wT_t (List.mem_append_left _ (List.mem_of_getElem? (i := 31) rfl)) rfl
theorem xk_24 : (Cond.initialized "LayerDesk$Line") ∈ wT := wT_t (List.mem_append_left _ (List.mem_of_getElem? (i := 2) rfl)) rfl
theorem xk_25 : (Cond.code xy_Li_init xb_Li_init 1 none) ∈ wT := wT_t (List.mem_append_left _ (List.mem_of_getElem? (i := 34) rfl)) rfl
theorem xk_26 : (Cond.instanceMethod xy_Li_init) ∈ wT := wT_t (List.mem_append_left _ (List.mem_of_getElem? (i := 33) rfl)) rfl
theorem xk_27 : (Cond.fieldLink "LayerDesk" 10 "LayerDesk" "written" "LLayerDesk$Line;") ∈ wT := wT_t (List.mem_append_left _ (List.mem_of_getElem? (i := 99) rfl)) rfl
theorem xk_28 : (Cond.classLink "LayerDesk" 16 "LayerDesk$Shelf") ∈ wT := wT_t (List.mem_append_left _ (List.mem_of_getElem? (i := 56) rfl)) rfl
theorem xk_29 : (Cond.instantiable "LayerDesk$Shelf" 2) ∈ wT := wT_t (List.mem_append_left _ (List.mem_of_getElem? (i := 57) rfl)) rfl
theorem xk_30 : (Cond.initialized "LayerDesk$Shelf") ∈ wT := wT_t (List.mem_append_left _ (List.mem_of_getElem? (i := 3) rfl)) rfl
theorem xk_31 : (Cond.code xy_Sh_init xb_Sh_init 1 none) ∈ wT := wT_t (List.mem_append_left _ (List.mem_of_getElem? (i := 60) rfl)) rfl
theorem xk_32 : (Cond.instanceMethod xy_Sh_init) ∈ wT := wT_t (List.mem_append_left _ (List.mem_of_getElem? (i := 59) rfl)) rfl
theorem xk_33 : (Cond.fieldLink "LayerDesk" 19 "LayerDesk" "shelf" "LLayerDesk$Shelf;") ∈ wT := wT_t (List.mem_append_left _ (List.mem_of_getElem? (i := 100) rfl)) rfl
theorem xk_34 : (Cond.classLink "LayerDesk" 23 "LayerDesk$Chooser") ∈ wT := wT_t (List.mem_append_left _ (List.mem_of_getElem? (i := 74) rfl)) rfl
theorem xk_35 : (Cond.instantiable "LayerDesk$Chooser" 5) ∈ wT := wT_t (List.mem_append_left _ (List.mem_of_getElem? (i := 75) rfl)) rfl
theorem xk_36 : (Cond.initialized "LayerDesk$Chooser") ∈ wT := wT_t (List.mem_append_left _ (List.mem_of_getElem? (i := 4) rfl)) rfl
theorem xk_37 : (Cond.code xy_Ch_init xb_Ch_init 2 none) ∈ wT := wT_t (List.mem_append_left _ (List.mem_of_getElem? (i := 78) rfl)) rfl
theorem xk_38 : (Cond.methodLink "LayerDesk" 25 xy_Ch_init) ∈ wT := wT_t (List.mem_append_left _ (List.mem_of_getElem? (i := 76) rfl)) rfl
theorem xk_39 : (Cond.instanceMethod xy_Ch_init) ∈ wT := wT_t (List.mem_append_left _ (List.mem_of_getElem? (i := 77) rfl)) rfl
theorem xk_40 : (Cond.fieldLink "LayerDesk" 28 "LayerDesk" "chooser" "LLayerDesk$Chooser;") ∈ wT := wT_t (List.mem_append_left _ (List.mem_of_getElem? (i := 101) rfl)) rfl
theorem xk_41 : (Cond.classLink "LayerDesk" 32 "LayerDesk$Layer") ∈ wT := wT_t (List.mem_append_left _ (List.mem_of_getElem? (i := 97) rfl)) rfl
theorem xk_42 : (Cond.fieldLink "LayerDesk" 34 "LayerDesk" "layers" "[LLayerDesk$Layer;") ∈ wT := wT_t (List.mem_append_left _ (List.mem_of_getElem? (i := 102) rfl)) rfl
theorem xk_43 : (Cond.fieldLink "LayerDesk" 38 "LayerDesk" "made" "I") ∈ wT := wT_t (List.mem_append_left _ (List.mem_of_getElem? (i := 103) rfl)) rfl
theorem xk_44 : (Cond.fieldLink "LayerDesk" 42 "LayerDesk" "latestFault" "I") ∈ wT := wT_t (List.mem_append_left _ (List.mem_of_getElem? (i := 104) rfl)) rfl
theorem xk_45 : (Cond.methodLink "LayerDeskModel" 1 ⟨"java/lang/Object", "<init>", "()V"⟩) ∈ wT := wT_t (List.mem_append_right _ (List.mem_append_right _ (List.mem_append_right _ (List.mem_append_left _ (List.mem_of_getElem? (i := 83) rfl))))) rfl
theorem xk_46 : (Cond.fieldLink "LayerDeskModel" 7 "LayerDeskModel" "text" "[C") ∈ wT := wT_t (List.mem_append_right _ (List.mem_append_right _ (List.mem_append_right _ (List.mem_append_left _ (List.mem_of_getElem? (i := 86) rfl))))) rfl
theorem xk_47 : (Cond.fieldLink "LayerDeskModel" 13 "LayerDeskModel" "begin" "[I") ∈ wT := wT_t (List.mem_append_right _ (List.mem_append_right _ (List.mem_append_right _ (List.mem_append_left _ (List.mem_of_getElem? (i := 89) rfl))))) rfl
theorem xk_48 : (Cond.fieldLink "LayerDeskModel" 17 "LayerDeskModel" "end" "[I") ∈ wT := wT_t (List.mem_append_right _ (List.mem_append_right _ (List.mem_append_right _ (List.mem_append_left _ (List.mem_of_getElem? (i := 90) rfl))))) rfl
theorem xk_49 : (Cond.fieldLink "LayerDeskModel" 20 "LayerDeskModel" "finder" "[I") ∈ wT := wT_t (List.mem_append_right _ (List.mem_append_right _ (List.mem_append_right _ (List.mem_append_left _ (List.mem_of_getElem? (i := 92) rfl))))) rfl
theorem xk_50 : (Cond.fieldLink "LayerDeskModel" 23 "LayerDeskModel" "name" "[I") ∈ wT := wT_t (List.mem_append_right _ (List.mem_append_right _ (List.mem_append_right _ (List.mem_append_left _ (List.mem_of_getElem? (i := 93) rfl))))) rfl
theorem xk_51 : (Cond.fieldLink "LayerDeskModel" 26 "LayerDeskModel" "packages" "[I") ∈ wT := wT_t (List.mem_append_right _ (List.mem_append_right _ (List.mem_append_right _ (List.mem_append_left _ (List.mem_of_getElem? (i := 94) rfl))))) rfl
theorem xk_52 : (Cond.fieldLink "LayerDeskModel" 29 "LayerDeskModel" "pack" "[I") ∈ wT := wT_t (List.mem_append_right _ (List.mem_append_right _ (List.mem_append_right _ (List.mem_append_left _ (List.mem_of_getElem? (i := 95) rfl))))) rfl
theorem xk_53 : (Cond.fieldLink "LayerDeskModel" 32 "LayerDeskModel" "exportTo" "[I") ∈ wT := wT_t (List.mem_append_right _ (List.mem_append_right _ (List.mem_append_right _ (List.mem_append_left _ (List.mem_of_getElem? (i := 96) rfl))))) rfl
theorem xk_54 : (Cond.fieldLink "LayerDeskModel" 35 "LayerDeskModel" "openTo" "[I") ∈ wT := wT_t (List.mem_append_right _ (List.mem_append_right _ (List.mem_append_right _ (List.mem_append_left _ (List.mem_of_getElem? (i := 97) rfl))))) rfl
theorem xk_55 : (Cond.arrayClass .boolean) ∈ wT := wT_t (List.mem_append_right _ (List.mem_append_left _ (List.mem_of_getElem? (i := 110) rfl))) rfl
theorem xk_56 : (Cond.fieldLink "LayerDeskModel" 38 "LayerDeskModel" "exportAll" "[Z") ∈ wT := wT_t (List.mem_append_right _ (List.mem_append_right _ (List.mem_append_right _ (List.mem_append_left _ (List.mem_of_getElem? (i := 98) rfl))))) rfl
theorem xk_57 : (Cond.fieldLink "LayerDeskModel" 42 "LayerDeskModel" "openAll" "[Z") ∈ wT := wT_t (List.mem_append_right _ (List.mem_append_right _ (List.mem_append_right _ (List.mem_append_left _ (List.mem_of_getElem? (i := 99) rfl))))) rfl
theorem xk_58 : (Cond.fieldLink "LayerDeskModel" 45 "LayerDeskModel" "locked" "[Z") ∈ wT := wT_t (List.mem_append_right _ (List.mem_append_right _ (List.mem_append_right _ (List.mem_append_left _ (List.mem_of_getElem? (i := 100) rfl))))) rfl
theorem xk_59 : (Cond.fieldLink "LayerDeskModel" 48 "LayerDeskModel" "requires" "[I") ∈ wT := wT_t (List.mem_append_right _ (List.mem_append_right _ (List.mem_append_right _ (List.mem_append_left _ (List.mem_of_getElem? (i := 101) rfl))))) rfl
theorem xk_60 : (Cond.fieldLink "LayerDeskModel" 51 "LayerDeskModel" "require" "[I") ∈ wT := wT_t (List.mem_append_right _ (List.mem_append_right _ (List.mem_append_right _ (List.mem_append_left _ (List.mem_of_getElem? (i := 102) rfl))))) rfl
theorem xk_61 : (Cond.fieldLink "LayerDeskModel" 54 "LayerDeskModel" "use" "[I") ∈ wT := wT_t (List.mem_append_right _ (List.mem_append_right _ (List.mem_append_right _ (List.mem_append_left _ (List.mem_of_getElem? (i := 103) rfl))))) rfl
theorem xk_62 : (Cond.fieldLink "LayerDeskModel" 57 "LayerDeskModel" "provide" "[I") ∈ wT := wT_t (List.mem_append_right _ (List.mem_append_right _ (List.mem_append_right _ (List.mem_append_left _ (List.mem_of_getElem? (i := 104) rfl))))) rfl
theorem xk_63 : (Cond.fieldLink "LayerDeskModel" 60 "LayerDeskModel" "passes" "[Z") ∈ wT := wT_t (List.mem_append_right _ (List.mem_append_right _ (List.mem_append_right _ (List.mem_append_left _ (List.mem_of_getElem? (i := 105) rfl))))) rfl
theorem xk_64 : (Cond.fieldLink "LayerDeskModel" 63 "LayerDeskModel" "still" "[Z") ∈ wT := wT_t (List.mem_append_right _ (List.mem_append_right _ (List.mem_append_right _ (List.mem_append_left _ (List.mem_of_getElem? (i := 106) rfl))))) rfl
theorem xk_65 : (Cond.fieldLink "LayerDeskModel" 66 "LayerDeskModel" "finderOf" "[I") ∈ wT := wT_t (List.mem_append_right _ (List.mem_append_right _ (List.mem_append_right _ (List.mem_append_left _ (List.mem_of_getElem? (i := 108) rfl))))) rfl
theorem xk_66 : (Cond.fieldLink "LayerDeskModel" 69 "LayerDeskModel" "parent" "[I") ∈ wT := wT_t (List.mem_append_right _ (List.mem_append_right _ (List.mem_append_right _ (List.mem_append_left _ (List.mem_of_getElem? (i := 109) rfl))))) rfl
theorem xk_67 : (Cond.fieldLink "LayerDeskModel" 72 "LayerDeskModel" "modules" "[I") ∈ wT := wT_t (List.mem_append_right _ (List.mem_append_right _ (List.mem_append_right _ (List.mem_append_left _ (List.mem_of_getElem? (i := 110) rfl))))) rfl
theorem xk_68 : (Cond.fieldLink "LayerDeskModel" 75 "LayerDeskModel" "module" "[I") ∈ wT := wT_t (List.mem_append_right _ (List.mem_append_right _ (List.mem_append_right _ (List.mem_append_left _ (List.mem_of_getElem? (i := 111) rfl))))) rfl
theorem xk_69 : (Cond.fieldLink "LayerDeskModel" 78 "LayerDeskModel" "open" "[Z") ∈ wT := wT_t (List.mem_append_right _ (List.mem_append_right _ (List.mem_append_right _ (List.mem_append_left _ (List.mem_of_getElem? (i := 112) rfl))))) rfl
theorem xk_70 : (Cond.fieldLink "LayerDeskModel" 81 "LayerDeskModel" "stack" "[I") ∈ wT := wT_t (List.mem_append_right _ (List.mem_append_right _ (List.mem_append_right _ (List.mem_append_left _ (List.mem_of_getElem? (i := 113) rfl))))) rfl
theorem xk_71 : (Cond.fieldLink "LayerDeskModel" 84 "LayerDeskModel" "seen" "[Z") ∈ wT := wT_t (List.mem_append_right _ (List.mem_append_right _ (List.mem_append_right _ (List.mem_append_left _ (List.mem_of_getElem? (i := 114) rfl))))) rfl
