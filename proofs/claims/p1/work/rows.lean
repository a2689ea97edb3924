section
def lw_okq (q : MethodName × Nat) : Prop := (q.1.cls ≠ "java/lang/invoke/MethodHandle" ∧ q.1.cls ≠ "java/lang/invoke/VarHandle") ∧ Cond.instantiable q.1.cls q.2 ∈ tables_1 ∧ Cond.privateMethod q.1 ∈ tables_1 ∧ Cond.instanceMethod q.1 ∈ tables_1
theorem lw_p0 : lw_okq (⟨"LayerDesk", "openLayer", "(I)LLayerDesk$Layer;"⟩, 6) := ⟨⟨by decide +kernel, by decide +kernel⟩, List.mem_of_getElem? (i := 23) (by decide +kernel), List.mem_of_getElem? (i := 135) (by decide +kernel), List.mem_of_getElem? (i := 136) (by decide +kernel)⟩
theorem lw_p1 : lw_okq (⟨"LayerDesk", "isParentOfOpen", "(LLayerDesk$Layer;)Z"⟩, 6) := ⟨⟨by decide +kernel, by decide +kernel⟩, List.mem_of_getElem? (i := 23) (by decide +kernel), List.mem_of_getElem? (i := 139) (by decide +kernel), List.mem_of_getElem? (i := 140) (by decide +kernel)⟩
theorem lw_p2 : lw_okq (⟨"LayerDesk", "countOpen", "()I"⟩, 6) := ⟨⟨by decide +kernel, by decide +kernel⟩, List.mem_of_getElem? (i := 23) (by decide +kernel), List.mem_of_getElem? (i := 147) (by decide +kernel), List.mem_of_getElem? (i := 148) (by decide +kernel)⟩
theorem lw_p3 : lw_okq (⟨"LayerDesk", "memberAt", "(II)LLayerDesk$Member;"⟩, 6) := ⟨⟨by decide +kernel, by decide +kernel⟩, List.mem_of_getElem? (i := 23) (by decide +kernel), List.mem_of_getElem? (i := 159) (by decide +kernel), List.mem_of_getElem? (i := 160) (by decide +kernel)⟩
theorem lw_p4 : lw_okq (⟨"LayerDesk", "memberOf", "(II)LLayerDesk$Member;"⟩, 6) := ⟨⟨by decide +kernel, by decide +kernel⟩, List.mem_of_getElem? (i := 23) (by decide +kernel), List.mem_of_getElem? (i := 167) (by decide +kernel), List.mem_of_getElem? (i := 168) (by decide +kernel)⟩
theorem lw_p5 : lw_okq (⟨"LayerDesk$Shelf", "acceptDescriptor", "(LLayerDesk$Line;)I"⟩, 2) := ⟨⟨by decide +kernel, by decide +kernel⟩, List.mem_of_getElem? (i := 57) (by decide +kernel), List.mem_of_getElem? (i := 249) (by decide +kernel), List.mem_of_getElem? (i := 250) (by decide +kernel)⟩
theorem lw_p6 : lw_okq (⟨"LayerDesk$Shelf", "acceptPackage", "(LLayerDesk$Line;)I"⟩, 2) := ⟨⟨by decide +kernel, by decide +kernel⟩, List.mem_of_getElem? (i := 57) (by decide +kernel), List.mem_of_getElem? (i := 353) (by decide +kernel), List.mem_of_getElem? (i := 354) (by decide +kernel)⟩
theorem lw_p7 : lw_okq (⟨"LayerDesk$Shelf", "latest", "()LLayerDesk$Descriptor;"⟩, 2) := ⟨⟨by decide +kernel, by decide +kernel⟩, List.mem_of_getElem? (i := 57) (by decide +kernel), List.mem_of_getElem? (i := 357) (by decide +kernel), List.mem_of_getElem? (i := 358) (by decide +kernel)⟩
theorem lw_p8 : lw_okq (⟨"LayerDesk$Shelf", "acceptGrant", "(LLayerDesk$Line;)I"⟩, 2) := ⟨⟨by decide +kernel, by decide +kernel⟩, List.mem_of_getElem? (i := 57) (by decide +kernel), List.mem_of_getElem? (i := 399) (by decide +kernel), List.mem_of_getElem? (i := 400) (by decide +kernel)⟩
theorem lw_p9 : lw_okq (⟨"LayerDesk$Shelf", "acceptRequired", "(LLayerDesk$Line;)I"⟩, 2) := ⟨⟨by decide +kernel, by decide +kernel⟩, List.mem_of_getElem? (i := 57) (by decide +kernel), List.mem_of_getElem? (i := 429) (by decide +kernel), List.mem_of_getElem? (i := 430) (by decide +kernel)⟩
theorem lw_p10 : lw_okq (⟨"LayerDesk$Shelf", "acceptService", "(LLayerDesk$Line;)I"⟩, 2) := ⟨⟨by decide +kernel, by decide +kernel⟩, List.mem_of_getElem? (i := 57) (by decide +kernel), List.mem_of_getElem? (i := 441) (by decide +kernel), List.mem_of_getElem? (i := 442) (by decide +kernel)⟩
theorem lw_p11 : lw_okq (⟨"java/lang/Throwable", "fillInStackTrace", "(I)Ljava/lang/Throwable;"⟩, 6) := ⟨⟨by decide +kernel, by decide +kernel⟩, List.mem_of_getElem? (i := 484) (by decide +kernel), List.mem_of_getElem? (i := 482) (by decide +kernel), List.mem_of_getElem? (i := 483) (by decide +kernel)⟩
theorem lw_p12 : lw_okq (⟨"LayerDesk", "rootsAreNames", "()Z"⟩, 6) := ⟨⟨by decide +kernel, by decide +kernel⟩, List.mem_of_getElem? (i := 23) (by decide +kernel), List.mem_of_getElem? (i := 537) (by decide +kernel), List.mem_of_getElem? (i := 538) (by decide +kernel)⟩
theorem lw_p13 : lw_okq (⟨"LayerDesk", "addRoots", "()Z"⟩, 6) := ⟨⟨by decide +kernel, by decide +kernel⟩, List.mem_of_getElem? (i := 23) (by decide +kernel), List.mem_of_getElem? (i := 550) (by decide +kernel), List.mem_of_getElem? (i := 551) (by decide +kernel)⟩
theorem lw_p14 : lw_okq (⟨"LayerDesk$Chooser", "addName", "(II)Z"⟩, 5) := ⟨⟨by decide +kernel, by decide +kernel⟩, List.mem_of_getElem? (i := 75) (by decide +kernel), List.mem_of_getElem? (i := 558) (by decide +kernel), List.mem_of_getElem? (i := 559) (by decide +kernel)⟩
theorem lw_p15 : lw_okq (⟨"LayerDesk$Chooser", "isChosen", "(LLayerDesk$Descriptor;)Z"⟩, 5) := ⟨⟨by decide +kernel, by decide +kernel⟩, List.mem_of_getElem? (i := 75) (by decide +kernel), List.mem_of_getElem? (i := 567) (by decide +kernel), List.mem_of_getElem? (i := 568) (by decide +kernel)⟩
def lw_privs_1 : List (MethodName × Nat) := [(⟨"LayerDesk", "openLayer", "(I)LLayerDesk$Layer;"⟩, 6), (⟨"LayerDesk", "isParentOfOpen", "(LLayerDesk$Layer;)Z"⟩, 6), (⟨"LayerDesk", "countOpen", "()I"⟩, 6), (⟨"LayerDesk", "memberAt", "(II)LLayerDesk$Member;"⟩, 6), (⟨"LayerDesk", "memberOf", "(II)LLayerDesk$Member;"⟩, 6), (⟨"LayerDesk$Shelf", "acceptDescriptor", "(LLayerDesk$Line;)I"⟩, 2), (⟨"LayerDesk$Shelf", "acceptPackage", "(LLayerDesk$Line;)I"⟩, 2), (⟨"LayerDesk$Shelf", "latest", "()LLayerDesk$Descriptor;"⟩, 2), (⟨"LayerDesk$Shelf", "acceptGrant", "(LLayerDesk$Line;)I"⟩, 2), (⟨"LayerDesk$Shelf", "acceptRequired", "(LLayerDesk$Line;)I"⟩, 2), (⟨"LayerDesk$Shelf", "acceptService", "(LLayerDesk$Line;)I"⟩, 2), (⟨"java/lang/Throwable", "fillInStackTrace", "(I)Ljava/lang/Throwable;"⟩, 6), (⟨"LayerDesk", "rootsAreNames", "()Z"⟩, 6), (⟨"LayerDesk", "addRoots", "()Z"⟩, 6), (⟨"LayerDesk$Chooser", "addName", "(II)Z"⟩, 5), (⟨"LayerDesk$Chooser", "isChosen", "(LLayerDesk$Descriptor;)Z"⟩, 5)]
theorem lw_r1 : ∀ q ∈ lw_privs_1, lw_okq q := List.forall_mem_cons.mpr ⟨lw_p0, List.forall_mem_cons.mpr ⟨lw_p1, List.forall_mem_cons.mpr ⟨lw_p2, List.forall_mem_cons.mpr ⟨lw_p3, List.forall_mem_cons.mpr ⟨lw_p4, List.forall_mem_cons.mpr ⟨lw_p5, List.forall_mem_cons.mpr ⟨lw_p6, List.forall_mem_cons.mpr ⟨lw_p7, List.forall_mem_cons.mpr ⟨lw_p8, List.forall_mem_cons.mpr ⟨lw_p9, List.forall_mem_cons.mpr ⟨lw_p10, List.forall_mem_cons.mpr ⟨lw_p11, List.forall_mem_cons.mpr ⟨lw_p12, List.forall_mem_cons.mpr ⟨lw_p13, List.forall_mem_cons.mpr ⟨lw_p14, List.forall_mem_cons.mpr ⟨lw_p15, fun _ h => absurd h List.not_mem_nil⟩⟩⟩⟩⟩⟩⟩⟩⟩⟩⟩⟩⟩⟩⟩⟩
theorem lw_p16 : lw_okq (⟨"LayerDesk$Chooser", "bindOnce", "()V"⟩, 5) := ⟨⟨by decide +kernel, by decide +kernel⟩, List.mem_of_getElem? (i := 75) (by decide +kernel), List.mem_of_getElem? (i := 595) (by decide +kernel), List.mem_of_getElem? (i := 596) (by decide +kernel)⟩
theorem lw_p17 : lw_okq (⟨"LayerDesk$Chooser", "bindUsesOf", "(LLayerDesk$Descriptor;)V"⟩, 5) := ⟨⟨by decide +kernel, by decide +kernel⟩, List.mem_of_getElem? (i := 75) (by decide +kernel), List.mem_of_getElem? (i := 599) (by decide +kernel), List.mem_of_getElem? (i := 600) (by decide +kernel)⟩
theorem lw_p18 : lw_okq (⟨"LayerDesk$Chooser", "bindProvidersOf", "(I)V"⟩, 5) := ⟨⟨by decide +kernel, by decide +kernel⟩, List.mem_of_getElem? (i := 75) (by decide +kernel), List.mem_of_getElem? (i := 603) (by decide +kernel), List.mem_of_getElem? (i := 604) (by decide +kernel)⟩
theorem lw_p19 : lw_okq (⟨"LayerDesk$Layer", "follow", "([LLayerDesk$Reach;)V"⟩, 4) := ⟨⟨by decide +kernel, by decide +kernel⟩, List.mem_of_getElem? (i := 612) (by decide +kernel), List.mem_of_getElem? (i := 707) (by decide +kernel), List.mem_of_getElem? (i := 708) (by decide +kernel)⟩
theorem lw_p20 : lw_okq (⟨"LayerDesk", "faultOf", "(LLayerDesk$Layer;)I"⟩, 6) := ⟨⟨by decide +kernel, by decide +kernel⟩, List.mem_of_getElem? (i := 23) (by decide +kernel), List.mem_of_getElem? (i := 721) (by decide +kernel), List.mem_of_getElem? (i := 722) (by decide +kernel)⟩
theorem lw_p21 : lw_okq (⟨"LayerDesk", "keep", "(LLayerDesk$Layer;)V"⟩, 6) := ⟨⟨by decide +kernel, by decide +kernel⟩, List.mem_of_getElem? (i := 23) (by decide +kernel), List.mem_of_getElem? (i := 749) (by decide +kernel), List.mem_of_getElem? (i := 750) (by decide +kernel)⟩
theorem lw_p22 : lw_okq (⟨"LayerDeskModel", "split", "()V"⟩, 31) := ⟨⟨by decide +kernel, by decide +kernel⟩, List.mem_of_getElem? (i := 799) (by decide +kernel), List.mem_of_getElem? (i := 911) (by decide +kernel), List.mem_of_getElem? (i := 912) (by decide +kernel)⟩
theorem lw_p23 : lw_okq (⟨"LayerDeskModel", "says", "(III)Z"⟩, 31) := ⟨⟨by decide +kernel, by decide +kernel⟩, List.mem_of_getElem? (i := 799) (by decide +kernel), List.mem_of_getElem? (i := 918) (by decide +kernel), List.mem_of_getElem? (i := 919) (by decide +kernel)⟩
theorem lw_p24 : lw_okq (⟨"LayerDeskModel", "letter", "(II)C"⟩, 31) := ⟨⟨by decide +kernel, by decide +kernel⟩, List.mem_of_getElem? (i := 799) (by decide +kernel), List.mem_of_getElem? (i := 922) (by decide +kernel), List.mem_of_getElem? (i := 923) (by decide +kernel)⟩
theorem lw_p25 : lw_okq (⟨"LayerDeskModel", "newDescriptor", "()I"⟩, 31) := ⟨⟨by decide +kernel, by decide +kernel⟩, List.mem_of_getElem? (i := 799) (by decide +kernel), List.mem_of_getElem? (i := 926) (by decide +kernel), List.mem_of_getElem? (i := 927) (by decide +kernel)⟩
theorem lw_p26 : lw_okq (⟨"LayerDeskModel", "nameOf", "(I)I"⟩, 31) := ⟨⟨by decide +kernel, by decide +kernel⟩, List.mem_of_getElem? (i := 799) (by decide +kernel), List.mem_of_getElem? (i := 930) (by decide +kernel), List.mem_of_getElem? (i := 931) (by decide +kernel)⟩
theorem lw_p27 : lw_okq (⟨"LayerDeskModel", "descriptorOf", "(II)I"⟩, 31) := ⟨⟨by decide +kernel, by decide +kernel⟩, List.mem_of_getElem? (i := 799) (by decide +kernel), List.mem_of_getElem? (i := 934) (by decide +kernel), List.mem_of_getElem? (i := 935) (by decide +kernel)⟩
theorem lw_p28 : lw_okq (⟨"LayerDeskModel", "newPackage", "()I"⟩, 31) := ⟨⟨by decide +kernel, by decide +kernel⟩, List.mem_of_getElem? (i := 799) (by decide +kernel), List.mem_of_getElem? (i := 938) (by decide +kernel), List.mem_of_getElem? (i := 939) (by decide +kernel)⟩
theorem lw_p29 : lw_okq (⟨"LayerDeskModel", "packageOf", "(II)I"⟩, 31) := ⟨⟨by decide +kernel, by decide +kernel⟩, List.mem_of_getElem? (i := 799) (by decide +kernel), List.mem_of_getElem? (i := 942) (by decide +kernel), List.mem_of_getElem? (i := 943) (by decide +kernel)⟩
theorem lw_p30 : lw_okq (⟨"LayerDeskModel", "isShut", "()Z"⟩, 31) := ⟨⟨by decide +kernel, by decide +kernel⟩, List.mem_of_getElem? (i := 799) (by decide +kernel), List.mem_of_getElem? (i := 946) (by decide +kernel), List.mem_of_getElem? (i := 947) (by decide +kernel)⟩
theorem lw_p31 : lw_okq (⟨"LayerDeskModel", "shown", "(Z)I"⟩, 31) := ⟨⟨by decide +kernel, by decide +kernel⟩, List.mem_of_getElem? (i := 799) (by decide +kernel), List.mem_of_getElem? (i := 950) (by decide +kernel), List.mem_of_getElem? (i := 951) (by decide +kernel)⟩
def lw_privs_2 : List (MethodName × Nat) := [(⟨"LayerDesk$Chooser", "bindOnce", "()V"⟩, 5), (⟨"LayerDesk$Chooser", "bindUsesOf", "(LLayerDesk$Descriptor;)V"⟩, 5), (⟨"LayerDesk$Chooser", "bindProvidersOf", "(I)V"⟩, 5), (⟨"LayerDesk$Layer", "follow", "([LLayerDesk$Reach;)V"⟩, 4), (⟨"LayerDesk", "faultOf", "(LLayerDesk$Layer;)I"⟩, 6), (⟨"LayerDesk", "keep", "(LLayerDesk$Layer;)V"⟩, 6), (⟨"LayerDeskModel", "split", "()V"⟩, 31), (⟨"LayerDeskModel", "says", "(III)Z"⟩, 31), (⟨"LayerDeskModel", "letter", "(II)C"⟩, 31), (⟨"LayerDeskModel", "newDescriptor", "()I"⟩, 31), (⟨"LayerDeskModel", "nameOf", "(I)I"⟩, 31), (⟨"LayerDeskModel", "descriptorOf", "(II)I"⟩, 31), (⟨"LayerDeskModel", "newPackage", "()I"⟩, 31), (⟨"LayerDeskModel", "packageOf", "(II)I"⟩, 31), (⟨"LayerDeskModel", "isShut", "()Z"⟩, 31), (⟨"LayerDeskModel", "shown", "(Z)I"⟩, 31)]
theorem lw_r2 : ∀ q ∈ lw_privs_2, lw_okq q := List.forall_mem_cons.mpr ⟨lw_p16, List.forall_mem_cons.mpr ⟨lw_p17, List.forall_mem_cons.mpr ⟨lw_p18, List.forall_mem_cons.mpr ⟨lw_p19, List.forall_mem_cons.mpr ⟨lw_p20, List.forall_mem_cons.mpr ⟨lw_p21, List.forall_mem_cons.mpr ⟨lw_p22, List.forall_mem_cons.mpr ⟨lw_p23, List.forall_mem_cons.mpr ⟨lw_p24, List.forall_mem_cons.mpr ⟨lw_p25, List.forall_mem_cons.mpr ⟨lw_p26, List.forall_mem_cons.mpr ⟨lw_p27, List.forall_mem_cons.mpr ⟨lw_p28, List.forall_mem_cons.mpr ⟨lw_p29, List.forall_mem_cons.mpr ⟨lw_p30, List.forall_mem_cons.mpr ⟨lw_p31, fun _ h => absurd h List.not_mem_nil⟩⟩⟩⟩⟩⟩⟩⟩⟩⟩⟩⟩⟩⟩⟩⟩
theorem lw_p32 : lw_okq (⟨"LayerDeskModel", "newRequire", "()I"⟩, 31) := ⟨⟨by decide +kernel, by decide +kernel⟩, List.mem_of_getElem? (i := 799) (by decide +kernel), List.mem_of_getElem? (i := 954) (by decide +kernel), List.mem_of_getElem? (i := 955) (by decide +kernel)⟩
theorem lw_p33 : lw_okq (⟨"LayerDeskModel", "newService", "(Z)I"⟩, 31) := ⟨⟨by decide +kernel, by decide +kernel⟩, List.mem_of_getElem? (i := 799) (by decide +kernel), List.mem_of_getElem? (i := 958) (by decide +kernel), List.mem_of_getElem? (i := 959) (by decide +kernel)⟩
theorem lw_p34 : lw_okq (⟨"LayerDeskModel", "fails", "(I)I"⟩, 31) := ⟨⟨by decide +kernel, by decide +kernel⟩, List.mem_of_getElem? (i := 799) (by decide +kernel), List.mem_of_getElem? (i := 962) (by decide +kernel), List.mem_of_getElem? (i := 963) (by decide +kernel)⟩
theorem lw_p35 : lw_okq (⟨"LayerDeskModel", "isOpen", "(I)Z"⟩, 31) := ⟨⟨by decide +kernel, by decide +kernel⟩, List.mem_of_getElem? (i := 799) (by decide +kernel), List.mem_of_getElem? (i := 970) (by decide +kernel), List.mem_of_getElem? (i := 971) (by decide +kernel)⟩
theorem lw_p36 : lw_okq (⟨"LayerDeskModel", "adds", "(I)Z"⟩, 31) := ⟨⟨by decide +kernel, by decide +kernel⟩, List.mem_of_getElem? (i := 799) (by decide +kernel), List.mem_of_getElem? (i := 974) (by decide +kernel), List.mem_of_getElem? (i := 975) (by decide +kernel)⟩
theorem lw_p37 : lw_okq (⟨"LayerDeskModel", "lookUp", "(II)I"⟩, 31) := ⟨⟨by decide +kernel, by decide +kernel⟩, List.mem_of_getElem? (i := 799) (by decide +kernel), List.mem_of_getElem? (i := 978) (by decide +kernel), List.mem_of_getElem? (i := 979) (by decide +kernel)⟩
theorem lw_p38 : lw_okq (⟨"LayerDeskModel", "isIn", "(II)Z"⟩, 31) := ⟨⟨by decide +kernel, by decide +kernel⟩, List.mem_of_getElem? (i := 799) (by decide +kernel), List.mem_of_getElem? (i := 982) (by decide +kernel), List.mem_of_getElem? (i := 983) (by decide +kernel)⟩
theorem lw_p39 : lw_okq (⟨"LayerDeskModel", "binding", "()V"⟩, 31) := ⟨⟨by decide +kernel, by decide +kernel⟩, List.mem_of_getElem? (i := 799) (by decide +kernel), List.mem_of_getElem? (i := 986) (by decide +kernel), List.mem_of_getElem? (i := 987) (by decide +kernel)⟩
theorem lw_p40 : lw_okq (⟨"LayerDeskModel", "bindsFor", "(I)Z"⟩, 31) := ⟨⟨by decide +kernel, by decide +kernel⟩, List.mem_of_getElem? (i := 799) (by decide +kernel), List.mem_of_getElem? (i := 990) (by decide +kernel), List.mem_of_getElem? (i := 991) (by decide +kernel)⟩
theorem lw_p41 : lw_okq (⟨"LayerDeskModel", "reason", "()I"⟩, 31) := ⟨⟨by decide +kernel, by decide +kernel⟩, List.mem_of_getElem? (i := 799) (by decide +kernel), List.mem_of_getElem? (i := 994) (by decide +kernel), List.mem_of_getElem? (i := 995) (by decide +kernel)⟩
theorem lw_p42 : lw_okq (⟨"LayerDeskModel", "isCycle", "(I)Z"⟩, 31) := ⟨⟨by decide +kernel, by decide +kernel⟩, List.mem_of_getElem? (i := 799) (by decide +kernel), List.mem_of_getElem? (i := 998) (by decide +kernel), List.mem_of_getElem? (i := 999) (by decide +kernel)⟩
theorem lw_p43 : lw_okq (⟨"LayerDeskModel", "isSplit", "(II)Z"⟩, 31) := ⟨⟨by decide +kernel, by decide +kernel⟩, List.mem_of_getElem? (i := 799) (by decide +kernel), List.mem_of_getElem? (i := 1002) (by decide +kernel), List.mem_of_getElem? (i := 1003) (by decide +kernel)⟩
theorem lw_p44 : lw_okq (⟨"LayerDeskModel", "reading", "(II)V"⟩, 31) := ⟨⟨by decide +kernel, by decide +kernel⟩, List.mem_of_getElem? (i := 799) (by decide +kernel), List.mem_of_getElem? (i := 1006) (by decide +kernel), List.mem_of_getElem? (i := 1007) (by decide +kernel)⟩
theorem lw_p45 : lw_okq (⟨"LayerDeskModel", "exports", "(II)Z"⟩, 31) := ⟨⟨by decide +kernel, by decide +kernel⟩, List.mem_of_getElem? (i := 799) (by decide +kernel), List.mem_of_getElem? (i := 1010) (by decide +kernel), List.mem_of_getElem? (i := 1011) (by decide +kernel)⟩
theorem lw_p46 : lw_okq (⟨"LayerDeskModel", "isTo", "(ZIIII)Z"⟩, 31) := ⟨⟨by decide +kernel, by decide +kernel⟩, List.mem_of_getElem? (i := 799) (by decide +kernel), List.mem_of_getElem? (i := 1014) (by decide +kernel), List.mem_of_getElem? (i := 1015) (by decide +kernel)⟩
theorem lw_p47 : lw_okq (⟨"LayerDeskModel", "isElsewhere", "(III)Z"⟩, 31) := ⟨⟨by decide +kernel, by decide +kernel⟩, List.mem_of_getElem? (i := 799) (by decide +kernel), List.mem_of_getElem? (i := 1018) (by decide +kernel), List.mem_of_getElem? (i := 1019) (by decide +kernel)⟩
def lw_privs_3 : List (MethodName × Nat) := [(⟨"LayerDeskModel", "newRequire", "()I"⟩, 31), (⟨"LayerDeskModel", "newService", "(Z)I"⟩, 31), (⟨"LayerDeskModel", "fails", "(I)I"⟩, 31), (⟨"LayerDeskModel", "isOpen", "(I)Z"⟩, 31), (⟨"LayerDeskModel", "adds", "(I)Z"⟩, 31), (⟨"LayerDeskModel", "lookUp", "(II)I"⟩, 31), (⟨"LayerDeskModel", "isIn", "(II)Z"⟩, 31), (⟨"LayerDeskModel", "binding", "()V"⟩, 31), (⟨"LayerDeskModel", "bindsFor", "(I)Z"⟩, 31), (⟨"LayerDeskModel", "reason", "()I"⟩, 31), (⟨"LayerDeskModel", "isCycle", "(I)Z"⟩, 31), (⟨"LayerDeskModel", "isSplit", "(II)Z"⟩, 31), (⟨"LayerDeskModel", "reading", "(II)V"⟩, 31), (⟨"LayerDeskModel", "exports", "(II)Z"⟩, 31), (⟨"LayerDeskModel", "isTo", "(ZIIII)Z"⟩, 31), (⟨"LayerDeskModel", "isElsewhere", "(III)Z"⟩, 31)]
theorem lw_r3 : ∀ q ∈ lw_privs_3, lw_okq q := List.forall_mem_cons.mpr ⟨lw_p32, List.forall_mem_cons.mpr ⟨lw_p33, List.forall_mem_cons.mpr ⟨lw_p34, List.forall_mem_cons.mpr ⟨lw_p35, List.forall_mem_cons.mpr ⟨lw_p36, List.forall_mem_cons.mpr ⟨lw_p37, List.forall_mem_cons.mpr ⟨lw_p38, List.forall_mem_cons.mpr ⟨lw_p39, List.forall_mem_cons.mpr ⟨lw_p40, List.forall_mem_cons.mpr ⟨lw_p41, List.forall_mem_cons.mpr ⟨lw_p42, List.forall_mem_cons.mpr ⟨lw_p43, List.forall_mem_cons.mpr ⟨lw_p44, List.forall_mem_cons.mpr ⟨lw_p45, List.forall_mem_cons.mpr ⟨lw_p46, List.forall_mem_cons.mpr ⟨lw_p47, fun _ h => absurd h List.not_mem_nil⟩⟩⟩⟩⟩⟩⟩⟩⟩⟩⟩⟩⟩⟩⟩⟩
theorem lw_p48 : lw_okq (⟨"LayerDeskModel", "moduleOf", "(II)I"⟩, 31) := ⟨⟨by decide +kernel, by decide +kernel⟩, List.mem_of_getElem? (i := 799) (by decide +kernel), List.mem_of_getElem? (i := 1042) (by decide +kernel), List.mem_of_getElem? (i := 1043) (by decide +kernel)⟩
theorem lw_p49 : lw_okq (⟨"LayerDeskModel", "isThere", "(II)Z"⟩, 31) := ⟨⟨by decide +kernel, by decide +kernel⟩, List.mem_of_getElem? (i := 799) (by decide +kernel), List.mem_of_getElem? (i := 1050) (by decide +kernel), List.mem_of_getElem? (i := 1051) (by decide +kernel)⟩
theorem lw_p50 : lw_okq (⟨"LayerDeskModel", "oneName", "()I"⟩, 31) := ⟨⟨by decide +kernel, by decide +kernel⟩, List.mem_of_getElem? (i := 799) (by decide +kernel), List.mem_of_getElem? (i := 1058) (by decide +kernel), List.mem_of_getElem? (i := 1059) (by decide +kernel)⟩
def lw_privs_4 : List (MethodName × Nat) := [(⟨"LayerDeskModel", "moduleOf", "(II)I"⟩, 31), (⟨"LayerDeskModel", "isThere", "(II)Z"⟩, 31), (⟨"LayerDeskModel", "oneName", "()I"⟩, 31)]
theorem lw_r4 : ∀ q ∈ lw_privs_4, lw_okq q := List.forall_mem_cons.mpr ⟨lw_p48, List.forall_mem_cons.mpr ⟨lw_p49, List.forall_mem_cons.mpr ⟨lw_p50, fun _ h => absurd h List.not_mem_nil⟩⟩⟩
def lw_privs : List (MethodName × Nat) := lw_privs_1 ++ (lw_privs_2 ++ (lw_privs_3 ++ (lw_privs_4)))
def lw_tbl : List Cond := k2_sels lw_privs ++ tables_1
theorem lw_privs_ok : ∀ q ∈ lw_privs, lw_okq q := by
  show ∀ q ∈ lw_privs_1 ++ (lw_privs_2 ++ (lw_privs_3 ++ (lw_privs_4))), lw_okq q
  exact List.forall_mem_append.mpr ⟨lw_r1, List.forall_mem_append.mpr ⟨lw_r2, List.forall_mem_append.mpr ⟨lw_r3, lw_r4⟩⟩⟩
theorem goodIn_r {big : List Cond} (ws : List Cond) (ps : List Nat) (hp : ws = ps.filterMap (fun i => big[i]?)) (h : ws.all goodWord = true) : GoodIn big ws := by
  intro w hw
  have h1 := List.all_eq_true.mp h w hw
  rw [hp] at hw
  obtain ⟨i, -, hi⟩ := List.mem_filterMap.mp hw
  have hm : w ∈ big := by first | exact List.mem_of_getElem? hi | exact List.getElem?_mem hi
  exact ⟨hm, good_of_word h1⟩
theorem goodIn_app {big a b : List Cond} (ha : GoodIn big a) (hb : GoodIn big b) : GoodIn big (a ++ b) := fun w h => (List.mem_append.mp h).elim (ha w) (hb w)
theorem goodIn_ca {big a b : List Cond} {c : Cond} (ha : GoodIn big (c :: a)) (hb : GoodIn big b) : GoodIn big (c :: (a ++ b)) := fun w h => (List.mem_cons.mp h).elim (fun e => ha w (List.mem_cons.mpr (Or.inl e))) (fun h => (List.mem_append.mp h).elim (fun h => ha w (List.mem_cons.mpr (Or.inr h))) (hb w))
theorem goodIn_sub {big ws : List Cond} (hm : ∀ w ∈ ws, w ∈ big) (h : ws.all goodWord = true) : GoodIn big ws := fun w hw => ⟨hm w hw, good_of_word (List.all_eq_true.mp h w hw)⟩
section VXA
def vx_T (XC : String → State → State → Prop) (st : State) (q : Addr) (t : State) (mc ms : Nat) (free : Addr → Prop) : Prop :=
  ∃ (E : String) (ce : Cell) (L : List Loc), XC E st t ∧ t.heap[q]? = some ce ∧ ce.vm = .none ∧ st.vm.findClass E = some ce.cls ∧ st.WarmedH t.vm ∧ st.sameButNew ({ t with vm := st.vm } : State) L mc ms ∧ ∀ z ∈ L, free z.base
def vx_Q (Qc : Array Value → State → Outcome → State → Prop) (XC : String → State → State → Prop) (mc ms : Nat) (free : Addr → Prop) : Array Value → State → Outcome → State → Prop := fun a st o t =>
  (Qc a st o t ∧ ∃ L, FrameEnd st o t L mc ms ∧ ∀ q ∈ L, free q.base) ∨ ∃ q, o = .threw q ∧ vx_T XC st q t mc ms free
def vx_Met (l : Launch) (y : MethodName) (ws : List Cond) (rm : Room) (Pc : Array Value → State → Prop) (Qc : Array Value → State → Outcome → State → Prop) (XC : String → State → State → Prop) (mc ms : Nat) (free : Addr → Prop) : Prop :=
  MetFree l y (headSpec ws rm) Pc (fun _ _ _ _ _ => True) (vx_Q Qc XC mc ms free)
def vx_Post (XC : String → State → State → Prop) (mc ms : Nat) (free : Addr → Prop) : Pt → Array Value → Addr → Pt → Prop := fun A a q B =>
  ∃ (g : JFrame) (mk : MethodId) (t : State) (L : List Loc) (E : String) (ce : Cell), B.U.heap = t.heap ∧ B.U.vm = t.vm ∧ XC E (A.U.calling g mk a) t ∧ t.heap[q]? = some ce ∧ ce.vm = .none ∧ A.U.vm.findClass E = some ce.cls ∧ B.locs = A.locs ++ L ∧ (∀ z ∈ L, free z.base) ∧ B.cells = A.cells + mc ∧ B.slots = A.slots + ms
def vx_Back (l : Launch) (R : Room) (p : Program) (e : Env) (below : List Frame) (s : State) (sargs : Array Value) (y : MethodName) (len W9 : Nat)
    (Pre : Pt → Array Value → Prop) (Post : Pt → Array Value → Option Value → Pt → Prop) (PostX : Pt → Array Value → Addr → Pt → Prop) : Prop :=
  ∀ (m : MethodId) (meth : Method) (c : Code) (A : Pt) (g : JFrame) (ig : Instr) (mk : MethodId) (a : Array Value),
    Stand p l e R s m sargs below meth c A.U A.locs A.cells A.slots → g.method = m → g.locals.size = c.maxLocals → decode c.code g.pc = .ok (ig, len) →
    2 * g.monitorRoom + (g.stack.map fun v => v.category).sum ≤ W9 → A.U.methodNamed? y = some mk → Pre A a →
    (∃ (v : Option Value) (B : Pt), Stand p l e R s m sargs below meth c B.U B.locs B.cells B.slots ∧ Post A a v B ∧
      Steps p.tables e below (doInvoke e (A.U.setTop g) [] mk a).1 (B.U.setTop { g with pc := g.pc + len, stack := v.toList ++ g.stack })) ∨
    (∃ (q : Addr) (B : Pt), Stand p l e R s m sargs below meth c B.U B.locs B.cells B.slots ∧ PostX A a q B ∧
      Steps p.tables e below (doInvoke e (A.U.setTop g) [] mk a).1 ((B.U.setTop g).pushFrame (.throwing q)))
section Payer
variable {l : Launch} {R : Room} {p : Program} {e : Env} {below : List Frame} {s : State} {sargs : Array Value} {y : MethodName} {len W9 : Nat}
theorem vx_back {ws : List Cond} {rm : Room} {Pc : Array Value → State → Prop} {Qc : Array Value → State → Outcome → State → Prop} {XC : String → State → State → Prop} {mc ms : Nat} {free : Addr → Prop} {bytes : ByteArray} {maxL : Nat} {ret : Option FieldType}
    (hM : vx_Met l y ws rm Pc Qc XC mc ms free) (hblind : FrameBlind Pc) (hrc : rm.cells = mc) (hrs : rm.slots = ms)
    (hframes : rm.frames + 1 ≤ R.frames) (hlocals : W9 + (maxL + 11) + rm.locals ≤ R.locals)
    (hws : ∀ w ∈ ws, ∀ a' U, s.WarmedH U.vm → w.before a' U = true) (hcode : Cond.code y bytes maxL ret ∈ ws) (hinit : ∀ a' U, s.WarmedH U.vm → (Cond.initialized y.cls).before a' U = true) :
    vx_Back l R p e below s sargs y len W9 (PreOf R mc ms Pc) (PostOf Qc mc ms free) (vx_Post XC mc ms free) := by
  intro m meth c A g ig mk a X hg hsize hdg hW hn hp
  have h1 : (headSpec ws rm).pre.before a A.U = true := atoms_intro fun w hw => hws w hw _ _ X.warmed
  have h2 : (Cond.code y bytes maxL ret).before a A.U = true := hws _ hcode _ _ X.warmed
  have h3 : (Cond.initialized y.cls).before a A.U = true := hinit _ _ X.warmed
  have h4 : A.cells + (headSpec ws rm).room.cells ≤ R.cells := by rw [show (headSpec ws rm).room.cells = mc from hrc]; exact hp.1
  have h5 : A.slots + (headSpec ws rm).room.slots ≤ R.slots := by rw [show (headSpec ws rm).room.slots = ms from hrs]; exact hp.2.1
  have hPc : Pc a (A.U.calling g mk a) := hblind _ _ _ _ hp.2.2
  obtain ⟨U, Ls, c0, s0⟩ := A
  dsimp only [Pt.U, Pt.locs, Pt.cells, Pt.slots] at h1 h2 h3 h4 h5 X hn hPc ⊢
  obtain ⟨methY, cY, hmY, hcY, -, hlY, -, -, -, -⟩ := Cond.code_spec hn h2
  obtain ⟨kY, hkY, -⟩ := className_of_methodNamed hn
  have hinitY : kY.init = .initialized := Cond.initialized_spec (findClass_of_methodNamed hn) hkY h3
  have h : At U g.method c below := by rw [hg]; exact X.here
  have hlocals9 : W9 + (maxL + 11) + (headSpec ws rm).room.locals ≤ R.locals := hlocals
  have happ : (headSpec ws rm).appliesLoose y e.platform (U.calling g mk a) = true :=
    Spec.appliesLoose_calling (g := g) h hdg hn hkY hinitY
      (X.room_calling (g := g) (R' := (headSpec ws rm).room) hsize hmY hcY hframes (by rw [hlY]; omega) h4 h5) h1
  obtain ⟨mid, hmid⟩ := h.above
  have hfr : (U.setTop g).frames = (.java g :: mid) ++ below := by rw [State.frames_setTop' g h.top, hmid]; rfl
  obtain ⟨o, s₂, hsteps, -, hend, hq⟩ := Steps.callFree hM p X.admits X.cas X.clock (acts := []) hfr happ hPc trivial
  have hq' : vx_Q Qc XC mc ms free a (U.calling g mk a) o s₂ := hq
  rw [State.frames_setTop' g h.top] at hend
  obtain ⟨g₀, hg0⟩ := Option.isSome_iff_exists.mp h.top
  obtain ⟨r, hr⟩ := State.topJava?_eq_some.mp hg0
  have hr' : (({ U with heap := s₂.heap, slotsUsed := s₂.slotsUsed } : State).setVm s₂.vm).frames = .java g₀ :: r := hr
  rcases hq' with ⟨hqc, L, hfe, hL⟩ | ⟨q, rfl, E, ce, L, hx, hce, hcv, hcl, hW₂, hsm, hL⟩
  · obtain ⟨⟨v, rfl⟩, hW₂, e2, q2, q3, q4, q5, q6⟩ := id hfe
    have e3 : s₂ = ({ (U.calling g mk a).setFrames s₂.frames with heap := s₂.heap, slotsUsed := s₂.slotsUsed } : State).setVm s₂.vm := by
      have : s₂ = ({ s₂ with vm := (U.calling g mk a).vm } : State).setVm s₂.vm := rfl
      rw [e2] at this
      exact this
    obtain ⟨c₂, i₂, len₂, hc₂, hd₂, hf₂⟩ := hend
    have hW' : U.WarmedH s₂.vm := hW₂
    have hcc : c₂ = c := by
      have h1 : s₂.code? g.method = U.code? g.method := by
        rw [State.code?_eq, State.code?_eq, hW'.alike.method?]
      exact Option.some.inj (hc₂.symm.trans (h1.trans h.code))
    subst hcc
    have hlen : len₂ = len := by rw [hdg] at hd₂; cases hd₂; rfl
    subst hlen
    have hs₂ : s₂ = (({ U with heap := s₂.heap, slotsUsed := s₂.slotsUsed } : State).setVm s₂.vm).setTop { g with pc := g.pc + len₂, stack := v.toList ++ g.stack } := by
      refine e3.trans ?_
      rw [hf₂, State.calling_eq h.top, State.setFrames_setFrames, State.setTop_of_frames _ hr', hr]
      rfl
    have hsame : U.sameButNew ({ U with heap := s₂.heap, slotsUsed := s₂.slotsUsed } : State) L mc ms := by
      refine ⟨?_, q2, q3, q4, q5, q6⟩
      obtain ⟨t, ht, -⟩ := State.frames_cons hr
      show ({ U with heap := s₂.heap, slotsUsed := s₂.slotsUsed } : State) = { U.setFrames U.frames with heap := s₂.heap, slotsUsed := s₂.slotsUsed }
      rw [State.setFrames_self ht]
    subst hg
    refine Or.inl ⟨v, ⟨(({ U with heap := s₂.heap, slotsUsed := s₂.slotsUsed } : State).setVm s₂.vm), Ls ++ L, c0 + mc, s0 + ms⟩,
      ⟨X.admits, X.cas, X.clock, X.frames, X.room, X.hears, X.method, X.code, (X.here.setHeapUsed s₂.heap s₂.slotsUsed).setVm hW'.alike, X.tail, State.WarmedH.trans X.warmed hW', X.limits, X.bytes, X.same.trans (hsame.setVm s.vm)⟩,
      ⟨g, mk, s₂, L, rfl, rfl, hqc, rfl, hL, rfl, rfl⟩, ?_⟩
    show Steps p.tables e below _ ((({ U with heap := s₂.heap, slotsUsed := s₂.slotsUsed } : State).setVm s₂.vm).setTop { g with pc := g.pc + len₂, stack := v.toList ++ g.stack })
    rw [← hs₂]
    exact hsteps
  · obtain ⟨e2, q2, q3, q4, q5, q6⟩ := id hsm
    have e3 : s₂ = ({ (U.calling g mk a).setFrames s₂.frames with heap := s₂.heap, slotsUsed := s₂.slotsUsed } : State).setVm s₂.vm := by
      have : s₂ = ({ s₂ with vm := (U.calling g mk a).vm } : State).setVm s₂.vm := rfl
      rw [e2] at this
      exact this
    have hf₂ : s₂.frames = .throwing q :: .java g :: U.frames.tail := hend
    have hW' : U.WarmedH s₂.vm := hW₂
    have hs₂ : s₂ = ((({ U with heap := s₂.heap, slotsUsed := s₂.slotsUsed } : State).setVm s₂.vm).setTop g).pushFrame (.throwing q) := by
      refine e3.trans ?_
      rw [hf₂, State.calling_eq h.top, State.setFrames_setFrames, State.pushFrame, State.frames_setTop _ hr', State.setTop_of_frames _ hr', State.setFrames_setFrames, hr]
      rfl
    have hsame : U.sameButNew ({ U with heap := s₂.heap, slotsUsed := s₂.slotsUsed } : State) L mc ms := by
      refine ⟨?_, q2, q3, q4, q5, q6⟩
      obtain ⟨t, ht, -⟩ := State.frames_cons hr
      show ({ U with heap := s₂.heap, slotsUsed := s₂.slotsUsed } : State) = { U.setFrames U.frames with heap := s₂.heap, slotsUsed := s₂.slotsUsed }
      rw [State.setFrames_self ht]
    subst hg
    refine Or.inr ⟨q, ⟨(({ U with heap := s₂.heap, slotsUsed := s₂.slotsUsed } : State).setVm s₂.vm), Ls ++ L, c0 + mc, s0 + ms⟩,
      ⟨X.admits, X.cas, X.clock, X.frames, X.room, X.hears, X.method, X.code, (X.here.setHeapUsed s₂.heap s₂.slotsUsed).setVm hW'.alike, X.tail, State.WarmedH.trans X.warmed hW', X.limits, X.bytes, X.same.trans (hsame.setVm s.vm)⟩,
      ⟨g, mk, s₂, L, E, ce, rfl, rfl, hx, hce, hcv, hcl, rfl, hL, rfl, rfl⟩, ?_⟩
    show Steps p.tables e below _ (((({ U with heap := s₂.heap, slotsUsed := s₂.slotsUsed } : State).setVm s₂.vm).setTop g).pushFrame (.throwing q))
    rw [← hs₂]
    exact hsteps
end Payer
section Calls
variable {p : Program} {l : Launch} {e : Env} {R : Room} {s : State} {m : MethodId} {args : Array Value} {below : List Frame} {meth : Method} {c : Code} {T : State} {locs : List Loc} {cells slots : Nat}
theorem vx_callV (X : Stand p l e R s m args below meth c T locs cells slots) (hexec : p.tables.exec = Jvm.exec) {own C : String} {index : Nat} {y : MethodName} {bytes : ByteArray} {maxL : Nat} {ret : Option FieldType}
    (hown : s.vm.findClass own = some m.cls) (hlink : (Cond.methodLink own index y).before args s = true) (hinst : (Cond.instanceMethod y).before args s = true) (hsel : (Cond.selects C y y).before args s = true)
    (hcode : (Cond.code y bytes maxL ret).before args s = true) (hy : y.cls ≠ "java/lang/invoke/MethodHandle" ∧ y.cls ≠ "java/lang/invoke/VarHandle")
    {W9 : Nat} {Pre : Pt → Array Value → Prop} {Post : Pt → Array Value → Option Value → Pt → Prop} {PostX : Pt → Array Value → Addr → Pt → Prop} (hK : vx_Back l R p e below s args y 3 W9 Pre Post PostX)
    {b : Addr} {cellB : Cell} (hcell : T.heap[b]? = some cellB) (hobj : cellB.vm.isStatics = false) (hcls : s.vm.findClass C = some cellB.cls)
    {g : JFrame} (hg : g.method = m) (hsize : g.locals.size = c.maxLocals) {argsL rest : List Value} (hlen : ∀ sig, parseMethodDescriptor y.desc = some sig → argsL.length = sig.parameters.length)
    (hstack : g.stack = argsL.reverse ++ .ref b :: rest) (hW : 2 * g.monitorRoom + (rest.map fun v => v.category).sum ≤ W9) (hdg : decode c.code g.pc = .ok (.invokevirtual index, 3))
    (hpre : ∀ vm₁, s.WarmedH vm₁ → Pre ⟨T.setVm vm₁, locs, cells, slots⟩ (Value.ref b :: argsL).toArray) :
    (∃ (v : Option Value) (vm₁ : Vm) (B : Pt), s.WarmedH vm₁ ∧ Stand p l e R s m args below meth c B.U B.locs B.cells B.slots ∧ Post ⟨T.setVm vm₁, locs, cells, slots⟩ (Value.ref b :: argsL).toArray v B ∧
      ∀ target, Steps p.tables e below (B.U.setTop { g with pc := g.pc + 3, stack := v.toList ++ rest }) target → Steps p.tables e below (T.setTop g) target) ∨
    (∃ (q : Addr) (vm₁ : Vm) (B : Pt), s.WarmedH vm₁ ∧ Stand p l e R s m args below meth c B.U B.locs B.cells B.slots ∧ PostX ⟨T.setVm vm₁, locs, cells, slots⟩ (Value.ref b :: argsL).toArray q B ∧
      Steps p.tables e below (T.setTop g) ((B.U.setTop { g with stack := rest }).pushFrame (.throwing q))) := by
  obtain ⟨mk, methM, hnamed, hmethM, hstM, habM⟩ := Cond.instanceMethod_spec hinst
  obtain ⟨methM', cM, hmethM', -, -, -, -, -, -, hsigM⟩ := Cond.code_spec hnamed hcode
  cases hmethM.symm.trans hmethM'
  obtain ⟨c2, r2, m2, q1, q2, q3, q4, kP, hkP, hkPi⟩ := Cond.selects_spec hsel
  cases hcls.symm.trans q1
  cases (State.methodFound?_of_named hnamed hy).symm.trans q2
  cases hnamed.symm.trans q3
  have hselP : selectMethod e.platform s.vm cellB.cls mk = .method mk := by rw [Launch.admits_selectMethod X.admits]; exact q4
  obtain ⟨vm₁, X₁, hstep₁⟩ := X.invokevirtual hexec hown hlink hnamed hmethM hstM hkP hkPi hy (a := b) (cell := cellB) hcell
    (fun z h => by rw [h] at hobj; cases hobj) hselP hmethM habM hkP hkPi (g := g) hg (argsL := argsL) (rest := rest) (hlen _ hsigM) hstack hdg
  rcases hK m meth c ⟨T.setVm vm₁, locs, cells, slots⟩ { g with stack := rest } (.invokevirtual index) mk (Value.ref b :: argsL).toArray X₁ hg hsize hdg hW (X₁.named hnamed) (hpre vm₁ X₁.warmed) with ⟨v, B, X', hpost, hsteps⟩ | ⟨q, B, X', hpost, hsteps⟩
  · exact Or.inl ⟨v, vm₁, B, X₁.warmed, X', hpost, fun target h => hstep₁ _ fun acts => by rw [doInvoke_state]; exact hsteps.trans h⟩
  · exact Or.inr ⟨q, vm₁, B, X₁.warmed, X', hpost, hstep₁ _ fun acts => by rw [doInvoke_state]; exact hsteps⟩
theorem vx_callS (X : Stand p l e R s m args below meth c T locs cells slots) (hexec : p.tables.exec = Jvm.exec) {own : String} {index : Nat} {y : MethodName} {bytes : ByteArray} {maxL : Nat} {ret : Option FieldType}
    (hown : s.vm.findClass own = some m.cls) (hlink : (Cond.methodLink own index y).before args s = true) (hstat : (Cond.static y).before args s = true) (hinit : (Cond.initialized y.cls).before args s = true)
    (hcode : (Cond.code y bytes maxL ret).before args s = true) (hy : y.cls ≠ "java/lang/invoke/MethodHandle" ∧ y.cls ≠ "java/lang/invoke/VarHandle")
    {W9 : Nat} {Pre : Pt → Array Value → Prop} {Post : Pt → Array Value → Option Value → Pt → Prop} {PostX : Pt → Array Value → Addr → Pt → Prop} (hK : vx_Back l R p e below s args y 3 W9 Pre Post PostX)
    {g : JFrame} (hg : g.method = m) (hsize : g.locals.size = c.maxLocals) {argsL rest : List Value} (hlen : ∀ sig, parseMethodDescriptor y.desc = some sig → argsL.length = sig.parameters.length)
    (hstack : g.stack = argsL.reverse ++ rest) (hW : 2 * g.monitorRoom + (rest.map fun v => v.category).sum ≤ W9) (hdg : decode c.code g.pc = .ok (.invokestatic index, 3))
    (hpre : ∀ vm₁, s.WarmedH vm₁ → Pre ⟨T.setVm vm₁, locs, cells, slots⟩ argsL.toArray) :
    (∃ (v : Option Value) (vm₁ : Vm) (B : Pt), s.WarmedH vm₁ ∧ Stand p l e R s m args below meth c B.U B.locs B.cells B.slots ∧ Post ⟨T.setVm vm₁, locs, cells, slots⟩ argsL.toArray v B ∧
      ∀ target, Steps p.tables e below (B.U.setTop { g with pc := g.pc + 3, stack := v.toList ++ rest }) target → Steps p.tables e below (T.setTop g) target) ∨
    (∃ (q : Addr) (vm₁ : Vm) (B : Pt), s.WarmedH vm₁ ∧ Stand p l e R s m args below meth c B.U B.locs B.cells B.slots ∧ PostX ⟨T.setVm vm₁, locs, cells, slots⟩ argsL.toArray q B ∧
      Steps p.tables e below (T.setTop g) ((B.U.setTop { g with stack := rest }).pushFrame (.throwing q))) := by
  obtain ⟨mk, hnamed⟩ := Cond.code_named hcode
  obtain ⟨methM, cM, hmethM, -, -, -, -, -, -, hsigM⟩ := Cond.code_spec hnamed hcode
  have hstatic : methM.isStatic = true := Cond.static_spec hnamed hmethM hstat
  obtain ⟨kP, hkP, -⟩ := className_of_methodNamed hnamed
  have hinitP : kP.init = .initialized := Cond.initialized_spec (findClass_of_methodNamed hnamed) hkP hinit
  obtain ⟨vm₁, X₁, hstep₁⟩ := X.invokestatic hexec hown hlink hnamed hmethM hstatic hkP hinitP hy (g := g) hg (argsL := argsL) (rest := rest) (hlen _ hsigM) hstack hdg
  rcases hK m meth c ⟨T.setVm vm₁, locs, cells, slots⟩ { g with stack := rest } (.invokestatic index) mk argsL.toArray X₁ hg hsize hdg hW (X₁.named hnamed) (hpre vm₁ X₁.warmed) with ⟨v, B, X', hpost, hsteps⟩ | ⟨q, B, X', hpost, hsteps⟩
  · exact Or.inl ⟨v, vm₁, B, X₁.warmed, X', hpost, fun target h => hstep₁ _ fun acts => by rw [doInvoke_state]; exact hsteps.trans h⟩
  · exact Or.inr ⟨q, vm₁, B, X₁.warmed, X', hpost, hstep₁ _ fun acts => by rw [doInvoke_state]; exact hsteps⟩
end Calls
theorem vx_cls {s : State} {T : State} {vm₁ : Vm} {E : String} {k : ClassId} (hW : s.WarmedH vm₁) (h : (T.setVm vm₁).vm.findClass E = some k) : s.vm.findClass E = some k := by
  have h1 : vm₁.findClass E = some k := h
  rw [hW.alike.findClass] at h1
  exact h1
def vx_W (p : Program) (l : Launch) (e : Env) (R : Room) (s : State) (m : MethodId) (args : Array Value) (below : List Frame) (meth : Method) (c : Code) (H : Heap) (locs : List Loc) (cells slots : Nat) (Q : State → Prop) (g : JFrame) (q : Addr) : Prop :=
  ∀ T : State, T.heap = H → Stand p l e R s m args below meth c T locs cells slots → ∃ t, Steps p.tables e below ((T.setTop g).pushFrame (.throwing q)) t ∧ Q t
def vx_Run (p : Program) (l : Launch) (e : Env) (R : Room) (s : State) (m : MethodId) (args : Array Value) (below : List Frame) (meth : Method) (c : Code) (H : Heap) (locs : List Loc) (cells slots mc ms : Nat) (g : JFrame) (rest : List Value) (Qa : State → Outcome → State → Prop) (XC : String → State → State → Prop) (free : Addr → Prop) : Prop :=
  ∀ T : State, T.heap = H → Stand p l e R s m args below meth c T locs cells slots →
    (∃ (v : Option Value) (st₀ t T' : State) (L : List Loc), st₀.heap = H ∧ Stand p l e R s m args below meth c T' (locs ++ L) (cells + mc) (slots + ms) ∧ (∀ q ∈ L, free q.base) ∧ T'.heap = t.heap ∧ T'.vm = t.vm ∧ Qa st₀ (.returned v) t ∧
      Goes p e below T g T' { g with pc := g.pc + 3, stack := v.toList ++ rest }) ∨
    (∃ (q : Addr) (st₀ t T' : State) (L : List Loc) (E : String) (ce : Cell), st₀.heap = H ∧ Stand p l e R s m args below meth c T' (locs ++ L) (cells + mc) (slots + ms) ∧ (∀ z ∈ L, free z.base) ∧ T'.heap = t.heap ∧ T'.vm = t.vm ∧ XC E st₀ t ∧ t.heap[q]? = some ce ∧ ce.vm = .none ∧ s.vm.findClass E = some ce.cls ∧
      Steps p.tables e below (T.setTop g) ((T'.setTop { g with stack := rest }).pushFrame (.throwing q)))
def vx_X {S : Type} (px : S → Prop) (B : String → S → State → Prop) (A : Nat → Prop) : String → State → State → Prop := fun E st t => ∃ u : S, px u ∧ B E u t ∧ va_F A st t
section Runs
variable {p : Program} {l : Launch} {e : Env} {R : Room} {s : State} {m : MethodId} {args : Array Value} {below : List Frame} {meth : Method} {c : Code} {H : Heap} {locs : List Loc} {cells slots : Nat}
variable {y : MethodName} {bytes cc : ByteArray} {maxL nL mc ms n index : Nat} {ret : Option FieldType} {ws : List Cond} {rm : Room} {Pc : Array Value → State → Prop} {Qc : Array Value → State → Outcome → State → Prop} {XC : String → State → State → Prop} {free : Addr → Prop} {Ts : List Cond} {own C : String} {b : Addr} {As rest : List Value} {g : JFrame}
theorem vx_callBack (cb : CallB R s args own index y bytes maxL ret ws rm mc ms n) (hM : vx_Met l y ws rm Pc Qc XC mc ms free) (hbl : FrameBlind Pc) : vx_Back l R p e below s args y 3 8 (PreOf R mc ms Pc) (PostOf Qc mc ms free) (vx_Post XC mc ms free) := by
  obtain ⟨hrc, hrs, hfr, hlo, hws, hcw, -, hini, -⟩ := cb
  exact vx_back (bytes := bytes) (maxL := maxL) (ret := ret) hM hbl hrc hrs hfr hlo hws hcw (fun a' U hW => word_at hW (Or.inl (by first | rfl | simp [Cond.onTables, Cond.keeps, Cond.steady])) hini)
theorem vx_runV (S : CallFix p m c cc nL s args Ts own) (hM : vx_Met l y ws rm Pc Qc XC mc ms free) (cw : CallW R s args own C index y bytes maxL ret ws rm mc ms n) (hp : PreV s H C b Pc As)
    (hg : g.method = m) (hn : As.length = n) (hsize : g.locals.size = nL) (hstack : g.stack = As.reverse ++ .ref b :: rest) (hW : 2 * g.monitorRoom + (rest.map fun v => v.category).sum ≤ 8) (hdg : decode cc g.pc = .ok (.invokevirtual index, 3)) (hf : cells + mc ≤ R.cells ∧ slots + ms ≤ R.slots) :
    vx_Run p l e R s m args below meth c H locs cells slots mc ms g rest (Qc (Value.ref b :: As).toArray) XC free := by
  have hK : vx_Back l R p e below s args y 3 8 (PreOf R mc ms Pc) (PostOf Qc mc ms free) (vx_Post XC mc ms free) := vx_callBack cw.1 hM hp.1
  obtain ⟨⟨-, -, -, -, -, -, hcode, -, hy, hlen, hl⟩, hin, hse⟩ := cw
  obtain ⟨hx, hb, hml, ho, -⟩ := S
  obtain ⟨-, ⟨cellB, hcB, hoB, hclB⟩, hPc⟩ := hp
  intro T hT X
  rcases vx_callV X hx (C := C) (bytes := bytes) (maxL := maxL) (ret := ret) ho hl hin hse hcode hy hK (by rw [hT]; exact hcB) hoB hclB hg (hsize.trans hml.symm) (argsL := As) (rest := rest) (fun sig h => hn.trans (hlen sig h)) hstack hW (by rw [hb]; exact hdg)
    (fun vm₁ hW₁ => ⟨hf.1, hf.2, hPc (T.setVm vm₁) hT hW₁⟩) with ⟨v, vm₁, ⟨U', l2, c2, s2⟩, hW₁, X', ⟨g', mk, t, L, e1, e2, hq, h1, hL, h2, h3⟩, st⟩ | ⟨q, vm₁, ⟨U', l2, c2, s2⟩, hW₁, X', ⟨g', mk, t, L, E, ce, e1, e2, hq, hce, hcv, hcl, h1, hL, h2, h3⟩, st⟩
  · dsimp only [Pt.U, Pt.locs, Pt.cells, Pt.slots] at X' e1 e2 h1 h2 h3 st
    subst h1; subst h2; subst h3
    exact Or.inl ⟨v, (T.setVm vm₁).calling g' mk (Value.ref b :: As).toArray, t, U', L, hT, X', hL, e1, e2, hq, st⟩
  · dsimp only [Pt.U, Pt.locs, Pt.cells, Pt.slots] at X' e1 e2 h1 h2 h3 st hcl
    subst h1; subst h2; subst h3
    exact Or.inr ⟨q, (T.setVm vm₁).calling g' mk (Value.ref b :: As).toArray, t, U', L, E, ce, hT, X', hL, e1, e2, hq, hce, hcv, vx_cls hW₁ hcl, st⟩
theorem vx_runS (S : CallFix p m c cc nL s args Ts own) (hM : vx_Met l y ws rm Pc Qc XC mc ms free) (cw : CallB R s args own index y bytes maxL ret ws rm mc ms n ∧ (Cond.static y).before args s = true) (hp : PreS s H Pc As)
    (hg : g.method = m) (hn : As.length = n) (hsize : g.locals.size = nL) (hstack : g.stack = As.reverse ++ rest) (hW : 2 * g.monitorRoom + (rest.map fun v => v.category).sum ≤ 8) (hdg : decode cc g.pc = .ok (.invokestatic index, 3)) (hf : cells + mc ≤ R.cells ∧ slots + ms ≤ R.slots) :
    vx_Run p l e R s m args below meth c H locs cells slots mc ms g rest (Qc As.toArray) XC free := by
  have hK : vx_Back l R p e below s args y 3 8 (PreOf R mc ms Pc) (PostOf Qc mc ms free) (vx_Post XC mc ms free) := vx_callBack cw.1 hM hp.1
  obtain ⟨⟨-, -, -, -, -, -, hcode, hini, hy, hlen, hl⟩, hstt⟩ := cw
  obtain ⟨hx, hb, hml, ho, -⟩ := S
  intro T hT X
  rcases vx_callS X hx (bytes := bytes) (maxL := maxL) (ret := ret) ho hl hstt hini hcode hy hK hg (hsize.trans hml.symm) (argsL := As) (rest := rest) (fun sig h => hn.trans (hlen sig h)) hstack hW (by rw [hb]; exact hdg)
    (fun vm₁ hW₁ => ⟨hf.1, hf.2, hp.2 (T.setVm vm₁) hT hW₁⟩) with ⟨v, vm₁, ⟨U', l2, c2, s2⟩, hW₁, X', ⟨g', mk, t, L, e1, e2, hq, h1, hL, h2, h3⟩, st⟩ | ⟨q, vm₁, ⟨U', l2, c2, s2⟩, hW₁, X', ⟨g', mk, t, L, E, ce, e1, e2, hq, hce, hcv, hcl, h1, hL, h2, h3⟩, st⟩
  · dsimp only [Pt.U, Pt.locs, Pt.cells, Pt.slots] at X' e1 e2 h1 h2 h3 st
    subst h1; subst h2; subst h3
    exact Or.inl ⟨v, (T.setVm vm₁).calling g' mk As.toArray, t, U', L, hT, X', hL, e1, e2, hq, st⟩
  · dsimp only [Pt.U, Pt.locs, Pt.cells, Pt.slots] at X' e1 e2 h1 h2 h3 st hcl
    subst h1; subst h2; subst h3
    exact Or.inr ⟨q, (T.setVm vm₁).calling g' mk As.toArray, t, U', L, E, ce, hT, X', hL, e1, e2, hq, hce, hcv, vx_cls hW₁ hcl, st⟩
end Runs
section Rows
variable {p : Program} {l : Launch} {e : Env} {R : Room} {s : State} {m : MethodId} {args : Array Value} {below : List Frame} {meth : Method} {c : Code} {H : Heap} {locs : List Loc} {cells slots : Nat} {Q : State → Prop}
variable {mc ms : Nat} {free : Addr → Prop} {A0 A1 : Nat → Prop} {H0 : Heap} {a : Array Value} {pc : Nat} {ls : Array Slot} {st0 rest : List Value}
theorem vx_keep {st₀ t T' : State} {L : List Loc} (h0 : st₀.heap = H) (e1 : T'.heap = t.heap) (hS : va_S A0 H0 H locs) (hA : ∀ q, q < H.size → A1 q → A0 q) (hf : ∀ q, free q → A0 q) (hL : ∀ q ∈ L, free q.base) (hF : va_F A1 st₀ t) :
    H.size ≤ T'.heap.size ∧ (∀ q : Nat, q < H.size → ¬ A1 q → T'.heap[q]? = H[q]?) ∧ va_S A0 H0 T'.heap (locs ++ L) := by
  obtain ⟨hz, hk⟩ := hF
  rw [h0] at hz hk
  exact ⟨by rw [e1]; exact hz, fun q h1 h2 => by rw [e1]; exact hk q h1 h2,
    ⟨Nat.le_trans hS.1 (by rw [e1]; exact hz), fun q h1 h2 => by rw [e1, hk q (Nat.lt_of_lt_of_le h1 hS.1) (fun z => h2 (hA q (Nat.lt_of_lt_of_le h1 hS.1) z))]; exact hS.2.1 q h1 h2, fun q hq => by
      rcases List.mem_append.mp hq with h | h
      · exact hS.2.2 q h
      · exact hf _ (hL q h)⟩⟩
theorem vx_calli {S SX : Type} {post : Int32 → S → Prop} {px : SX → Prop} {B : S → State → Prop} {BX : String → SX → State → Prop} {AX : Nat → Prop} (hr : vx_Run p l e R s m args below meth c H locs cells slots mc ms (F0 m pc ls st0) rest (va_Qi post B A1 a) (vx_X px BX AX) free) (hS : va_S A0 H0 H locs) (hA : ∀ q, q < H.size → A1 q → A0 q) (hf : ∀ q, free q → A0 q) (hAX : ∀ q, q < H.size → AX q → A0 q)
    (kx : ∀ (E : String) (ce : Cell) (q9 : Addr) (u : SX) (t : State) (H1 : Heap) (locs1 : List Loc), t.heap = H1 → s.vm.Alike t.vm → px u → BX E u t → H.size ≤ H1.size → (∀ q : Nat, q < H.size → ¬ AX q → H1[q]? = H[q]?) → va_S A0 H0 H1 locs1 → H1[q9]? = some ce → ce.vm = .none → s.vm.findClass E = some ce.cls → vx_W p l e R s m args below meth c H1 locs1 (cells + mc) (slots + ms) Q (F0 m pc ls rest) q9)
    (kk : ∀ (r : Int32) (u : S) (t : State) (H1 : Heap) (locs1 : List Loc), t.heap = H1 → s.vm.Alike t.vm → post r u → B u t → H.size ≤ H1.size → (∀ q : Nat, q < H.size → ¬ A1 q → H1[q]? = H[q]?) → va_S A0 H0 H1 locs1 → W p l e R s m args below meth c H1 locs1 (cells + mc) (slots + ms) Q (F0 m (pc + 3) ls (.int r :: rest))) : W p l e R s m args below meth c H locs cells slots Q (F0 m pc ls st0) := by
  intro T hT X
  rcases hr T hT X with ⟨v, st₀, t, T', L, h0, X', hL, e1, e2, ⟨⟨r, u, hv, hp, hb⟩, hF⟩, st⟩ | ⟨q, st₀, t, T', L, E, ce, h0, X', hL, e1, e2, ⟨u, hp, hb, hF⟩, hce, hcv, hcl, st⟩
  · cases hv
    obtain ⟨k1, k2, k3⟩ := vx_keep h0 e1 hS hA hf hL hF
    obtain ⟨t2, a1, b1⟩ := kk r u t T'.heap (locs ++ L) e1.symm (by rw [← e2]; exact X'.warmed.alike) hp hb k1 k2 k3 T' rfl X'
    exact ⟨t2, st t2 a1, b1⟩
  · obtain ⟨k1, k2, k3⟩ := vx_keep h0 e1 hS hAX hf hL hF
    obtain ⟨t2, a1, b1⟩ := kx E ce q u t T'.heap (locs ++ L) e1.symm (by rw [← e2]; exact X'.warmed.alike) hp hb k1 k2 k3 (by rw [e1]; exact hce) hcv hcl T' rfl X'
    exact ⟨t2, st.trans a1, b1⟩
theorem vx_calll {S SX : Type} {post : Int64 → S → Prop} {px : SX → Prop} {B : S → State → Prop} {BX : String → SX → State → Prop} {AX : Nat → Prop} (hr : vx_Run p l e R s m args below meth c H locs cells slots mc ms (F0 m pc ls st0) rest (va_Ql post B A1 a) (vx_X px BX AX) free) (hS : va_S A0 H0 H locs) (hA : ∀ q, q < H.size → A1 q → A0 q) (hf : ∀ q, free q → A0 q) (hAX : ∀ q, q < H.size → AX q → A0 q)
    (kx : ∀ (E : String) (ce : Cell) (q9 : Addr) (u : SX) (t : State) (H1 : Heap) (locs1 : List Loc), t.heap = H1 → s.vm.Alike t.vm → px u → BX E u t → H.size ≤ H1.size → (∀ q : Nat, q < H.size → ¬ AX q → H1[q]? = H[q]?) → va_S A0 H0 H1 locs1 → H1[q9]? = some ce → ce.vm = .none → s.vm.findClass E = some ce.cls → vx_W p l e R s m args below meth c H1 locs1 (cells + mc) (slots + ms) Q (F0 m pc ls rest) q9)
    (kk : ∀ (r : Int64) (u : S) (t : State) (H1 : Heap) (locs1 : List Loc), t.heap = H1 → s.vm.Alike t.vm → post r u → B u t → H.size ≤ H1.size → (∀ q : Nat, q < H.size → ¬ A1 q → H1[q]? = H[q]?) → va_S A0 H0 H1 locs1 → W p l e R s m args below meth c H1 locs1 (cells + mc) (slots + ms) Q (F0 m (pc + 3) ls (.long r :: rest))) : W p l e R s m args below meth c H locs cells slots Q (F0 m pc ls st0) := by
  intro T hT X
  rcases hr T hT X with ⟨v, st₀, t, T', L, h0, X', hL, e1, e2, ⟨⟨r, u, hv, hp, hb⟩, hF⟩, st⟩ | ⟨q, st₀, t, T', L, E, ce, h0, X', hL, e1, e2, ⟨u, hp, hb, hF⟩, hce, hcv, hcl, st⟩
  · cases hv
    obtain ⟨k1, k2, k3⟩ := vx_keep h0 e1 hS hA hf hL hF
    obtain ⟨t2, a1, b1⟩ := kk r u t T'.heap (locs ++ L) e1.symm (by rw [← e2]; exact X'.warmed.alike) hp hb k1 k2 k3 T' rfl X'
    exact ⟨t2, st t2 a1, b1⟩
  · obtain ⟨k1, k2, k3⟩ := vx_keep h0 e1 hS hAX hf hL hF
    obtain ⟨t2, a1, b1⟩ := kx E ce q u t T'.heap (locs ++ L) e1.symm (by rw [← e2]; exact X'.warmed.alike) hp hb k1 k2 k3 (by rw [e1]; exact hce) hcv hcl T' rfl X'
    exact ⟨t2, st.trans a1, b1⟩
theorem vx_callf {S SX : Type} {post : UInt32 → S → Prop} {px : SX → Prop} {B : S → State → Prop} {BX : String → SX → State → Prop} {AX : Nat → Prop} (hr : vx_Run p l e R s m args below meth c H locs cells slots mc ms (F0 m pc ls st0) rest (va_Qf post B A1 a) (vx_X px BX AX) free) (hS : va_S A0 H0 H locs) (hA : ∀ q, q < H.size → A1 q → A0 q) (hf : ∀ q, free q → A0 q) (hAX : ∀ q, q < H.size → AX q → A0 q)
    (kx : ∀ (E : String) (ce : Cell) (q9 : Addr) (u : SX) (t : State) (H1 : Heap) (locs1 : List Loc), t.heap = H1 → s.vm.Alike t.vm → px u → BX E u t → H.size ≤ H1.size → (∀ q : Nat, q < H.size → ¬ AX q → H1[q]? = H[q]?) → va_S A0 H0 H1 locs1 → H1[q9]? = some ce → ce.vm = .none → s.vm.findClass E = some ce.cls → vx_W p l e R s m args below meth c H1 locs1 (cells + mc) (slots + ms) Q (F0 m pc ls rest) q9)
    (kk : ∀ (r : UInt32) (u : S) (t : State) (H1 : Heap) (locs1 : List Loc), t.heap = H1 → s.vm.Alike t.vm → post r u → B u t → H.size ≤ H1.size → (∀ q : Nat, q < H.size → ¬ A1 q → H1[q]? = H[q]?) → va_S A0 H0 H1 locs1 → W p l e R s m args below meth c H1 locs1 (cells + mc) (slots + ms) Q (F0 m (pc + 3) ls (.float r :: rest))) : W p l e R s m args below meth c H locs cells slots Q (F0 m pc ls st0) := by
  intro T hT X
  rcases hr T hT X with ⟨v, st₀, t, T', L, h0, X', hL, e1, e2, ⟨⟨r, u, hv, hp, hb⟩, hF⟩, st⟩ | ⟨q, st₀, t, T', L, E, ce, h0, X', hL, e1, e2, ⟨u, hp, hb, hF⟩, hce, hcv, hcl, st⟩
  · cases hv
    obtain ⟨k1, k2, k3⟩ := vx_keep h0 e1 hS hA hf hL hF
    obtain ⟨t2, a1, b1⟩ := kk r u t T'.heap (locs ++ L) e1.symm (by rw [← e2]; exact X'.warmed.alike) hp hb k1 k2 k3 T' rfl X'
    exact ⟨t2, st t2 a1, b1⟩
  · obtain ⟨k1, k2, k3⟩ := vx_keep h0 e1 hS hAX hf hL hF
    obtain ⟨t2, a1, b1⟩ := kx E ce q u t T'.heap (locs ++ L) e1.symm (by rw [← e2]; exact X'.warmed.alike) hp hb k1 k2 k3 (by rw [e1]; exact hce) hcv hcl T' rfl X'
    exact ⟨t2, st.trans a1, b1⟩
theorem vx_calld {S SX : Type} {post : UInt64 → S → Prop} {px : SX → Prop} {B : S → State → Prop} {BX : String → SX → State → Prop} {AX : Nat → Prop} (hr : vx_Run p l e R s m args below meth c H locs cells slots mc ms (F0 m pc ls st0) rest (va_Qd post B A1 a) (vx_X px BX AX) free) (hS : va_S A0 H0 H locs) (hA : ∀ q, q < H.size → A1 q → A0 q) (hf : ∀ q, free q → A0 q) (hAX : ∀ q, q < H.size → AX q → A0 q)
    (kx : ∀ (E : String) (ce : Cell) (q9 : Addr) (u : SX) (t : State) (H1 : Heap) (locs1 : List Loc), t.heap = H1 → s.vm.Alike t.vm → px u → BX E u t → H.size ≤ H1.size → (∀ q : Nat, q < H.size → ¬ AX q → H1[q]? = H[q]?) → va_S A0 H0 H1 locs1 → H1[q9]? = some ce → ce.vm = .none → s.vm.findClass E = some ce.cls → vx_W p l e R s m args below meth c H1 locs1 (cells + mc) (slots + ms) Q (F0 m pc ls rest) q9)
    (kk : ∀ (r : UInt64) (u : S) (t : State) (H1 : Heap) (locs1 : List Loc), t.heap = H1 → s.vm.Alike t.vm → post r u → B u t → H.size ≤ H1.size → (∀ q : Nat, q < H.size → ¬ A1 q → H1[q]? = H[q]?) → va_S A0 H0 H1 locs1 → W p l e R s m args below meth c H1 locs1 (cells + mc) (slots + ms) Q (F0 m (pc + 3) ls (.double r :: rest))) : W p l e R s m args below meth c H locs cells slots Q (F0 m pc ls st0) := by
  intro T hT X
  rcases hr T hT X with ⟨v, st₀, t, T', L, h0, X', hL, e1, e2, ⟨⟨r, u, hv, hp, hb⟩, hF⟩, st⟩ | ⟨q, st₀, t, T', L, E, ce, h0, X', hL, e1, e2, ⟨u, hp, hb, hF⟩, hce, hcv, hcl, st⟩
  · cases hv
    obtain ⟨k1, k2, k3⟩ := vx_keep h0 e1 hS hA hf hL hF
    obtain ⟨t2, a1, b1⟩ := kk r u t T'.heap (locs ++ L) e1.symm (by rw [← e2]; exact X'.warmed.alike) hp hb k1 k2 k3 T' rfl X'
    exact ⟨t2, st t2 a1, b1⟩
  · obtain ⟨k1, k2, k3⟩ := vx_keep h0 e1 hS hAX hf hL hF
    obtain ⟨t2, a1, b1⟩ := kx E ce q u t T'.heap (locs ++ L) e1.symm (by rw [← e2]; exact X'.warmed.alike) hp hb k1 k2 k3 (by rw [e1]; exact hce) hcv hcl T' rfl X'
    exact ⟨t2, st.trans a1, b1⟩
theorem vx_callv {S SX : Type} {post : S → Prop} {px : SX → Prop} {B : S → State → Prop} {BX : String → SX → State → Prop} {AX : Nat → Prop} (hr : vx_Run p l e R s m args below meth c H locs cells slots mc ms (F0 m pc ls st0) rest (va_Qv post B A1 a) (vx_X px BX AX) free) (hS : va_S A0 H0 H locs) (hA : ∀ q, q < H.size → A1 q → A0 q) (hf : ∀ q, free q → A0 q) (hAX : ∀ q, q < H.size → AX q → A0 q)
    (kx : ∀ (E : String) (ce : Cell) (q9 : Addr) (u : SX) (t : State) (H1 : Heap) (locs1 : List Loc), t.heap = H1 → s.vm.Alike t.vm → px u → BX E u t → H.size ≤ H1.size → (∀ q : Nat, q < H.size → ¬ AX q → H1[q]? = H[q]?) → va_S A0 H0 H1 locs1 → H1[q9]? = some ce → ce.vm = .none → s.vm.findClass E = some ce.cls → vx_W p l e R s m args below meth c H1 locs1 (cells + mc) (slots + ms) Q (F0 m pc ls rest) q9)
    (kk : ∀ (u : S) (t : State) (H1 : Heap) (locs1 : List Loc), t.heap = H1 → s.vm.Alike t.vm → post u → B u t → H.size ≤ H1.size → (∀ q : Nat, q < H.size → ¬ A1 q → H1[q]? = H[q]?) → va_S A0 H0 H1 locs1 → W p l e R s m args below meth c H1 locs1 (cells + mc) (slots + ms) Q (F0 m (pc + 3) ls (rest))) : W p l e R s m args below meth c H locs cells slots Q (F0 m pc ls st0) := by
  intro T hT X
  rcases hr T hT X with ⟨v, st₀, t, T', L, h0, X', hL, e1, e2, ⟨⟨u, hv, hp, hb⟩, hF⟩, st⟩ | ⟨q, st₀, t, T', L, E, ce, h0, X', hL, e1, e2, ⟨u, hp, hb, hF⟩, hce, hcv, hcl, st⟩
  · cases hv
    obtain ⟨k1, k2, k3⟩ := vx_keep h0 e1 hS hA hf hL hF
    obtain ⟨t2, a1, b1⟩ := kk u t T'.heap (locs ++ L) e1.symm (by rw [← e2]; exact X'.warmed.alike) hp hb k1 k2 k3 T' rfl X'
    exact ⟨t2, st t2 a1, b1⟩
  · obtain ⟨k1, k2, k3⟩ := vx_keep h0 e1 hS hAX hf hL hF
    obtain ⟨t2, a1, b1⟩ := kx E ce q u t T'.heap (locs ++ L) e1.symm (by rw [← e2]; exact X'.warmed.alike) hp hb k1 k2 k3 (by rw [e1]; exact hce) hcv hcl T' rfl X'
    exact ⟨t2, st.trans a1, b1⟩
theorem vx_catch {own name : String} {E : String} {ce : Cell} {q : Addr} (hown : s.vm.findClass own = some m.cls) (pre : List ExceptionTableEntry) (x : ExceptionTableEntry) (suf : List ExceptionTableEntry) (hsplit : c.exceptionTable.toList = pre ++ x :: suf)
    (hpass : ∀ z ∈ pre, covers z pc = false ∨ (z.catchType ≠ 0 ∧ ∃ nm : String, (Cond.classLink own z.catchType nm).before args s = true ∧ va_Nc E nm s)) (hx : covers x pc = true) (h0 : x.catchType ≠ 0)
    (hlink : (Cond.classLink own x.catchType name).before args s = true) (hcast : (Cond.castable E name).before args s = true) (hcell : H[q]? = some ce) (hv : ce.vm = .none) (hcl : s.vm.findClass E = some ce.cls)
    (kk : W p l e R s m args below meth c H locs cells slots Q (F0 m x.handlerPc ls [.ref q])) : vx_W p l e R s m args below meth c H locs cells slots Q (F0 m pc ls rest) q := by
  intro T hT X
  have hpl : e.platform.magicAccessors = ({} : Platform).magicAccessors := by rw [X.admits.platform]
  obtain ⟨c3, c4, hc3, hc4, hasg⟩ := Cond.castable_spec hcast
  cases Option.some.inj (hc3.symm.trans hcl)
  obtain ⟨c5, hc5, hcl5⟩ := Cond.classLink_spec hown hlink e.platform hpl
  cases Option.some.inj (hc4.symm.trans hc5)
  obtain ⟨vm', X', st⟩ := X.thenCaughtThrough q (g := F0 m pc ls rest) rfl (Steps.refl _) (by rw [hT]; exact hcell) (by rw [hv]; rfl) (by obtain ⟨k9, h9, -⟩ := Vm.findClass_spec hcl; exact ⟨k9, h9⟩) pre x suf hsplit
    (fun z hz => by
      rcases hpass z hz with h | ⟨hz0, nm, hl1, hn1⟩
      · exact Or.inl h
      · obtain ⟨c6, hc6, hcl6⟩ := Cond.classLink_spec hown hl1 e.platform hpl
        obtain ⟨a8, b8, h1, h2, h3⟩ := hn1
        cases Option.some.inj (h1.symm.trans hcl)
        cases Option.some.inj (h2.symm.trans hc6)
        exact Or.inr ⟨hz0, _, hcl6, h3⟩) hx (Or.inr ⟨h0, c4, hcl5, hasg⟩)
  obtain ⟨t, a1, b1⟩ := kk (T.setVm vm') hT X'
  exact ⟨t, st.trans a1, b1⟩
end Rows
section Ends
variable {p : Program} {l : Launch} {e : Env} {R : Room} {s : State} {m : MethodId} {args : Array Value} {below : List Frame} {meth : Method} {c : Code} {H : Heap} {locs : List Loc} {cells slots : Nat} {Q : State → Prop}
variable {mc ms : Nat} {free : Addr → Prop} {A0 A1 : Nat → Prop} {H0 : Heap} {a : Array Value} {ls : Array Slot} {st0 rest : List Value}
variable {Qc : Array Value → State → Outcome → State → Prop} {XC : String → State → State → Prop}
def vx_MQ (below : List Frame) (Qc : Array Value → State → Outcome → State → Prop) (XC : String → State → State → Prop) (a : Array Value) (s : State) (mc ms : Nat) (free : Addr → Prop) : State → Prop := fun t =>
  ∃ o, t.status = .running ∧ Ended t below o ∧ vx_Q Qc XC mc ms free a s o t
theorem vx_ret {g : JFrame} {mc ms : Nat} (k : W p l e R s m args below meth c H locs cells slots (MQ below Qc args s mc ms free) g) : W p l e R s m args below meth c H locs cells slots (vx_MQ below Qc XC args s mc ms free) g := by
  intro T hT X
  obtain ⟨t, a1, o, b1, b2, b3, b4⟩ := k T hT X
  exact ⟨t, a1, o, b1, b2, Or.inl ⟨b3, b4⟩⟩
theorem vx_widen {g : JFrame} {q : Addr} {k n : Nat} (h1 : cells ≤ k) (h2 : slots ≤ n) (kk : vx_W p l e R s m args below meth c H locs k n Q g q) : vx_W p l e R s m args below meth c H locs cells slots Q g q := fun T hT X => kk T hT (stand_widen X h1 h2)
theorem vx_out {pc : Nat} {E : String} {ce : Cell} {q : Addr} {mc ms : Nat} (hout : ∀ x ∈ c.exceptionTable.toList, covers x pc = false) (hlocks : meth.locks = false) (hcell : H[q]? = some ce) (hv : ce.vm = .none) (hcl : s.vm.findClass E = some ce.cls)
    (hx : ∀ t : State, t.heap = H → s.vm.Alike t.vm → XC E s t) (hf : ∀ z ∈ locs, free z.base) (hc : cells ≤ mc) (hs : slots ≤ ms) :
    vx_W p l e R s m args below meth c H locs cells slots (vx_MQ below Qc XC args s mc ms free) (F0 m pc ls rest) q := by
  intro T hT X
  obtain ⟨st1, hrun, hend, hW, hsm⟩ := X.leaveThrown q (g := F0 m pc ls rest) rfl rfl rfl hout hlocks
  have hcell9 : (T.setFrames (.throwing q :: below)).heap[q]? = some ce := by
    show T.heap[q]? = some ce
    rw [hT]; exact hcell
  exact ⟨_, st1, .threw q, hrun, hend, Or.inr ⟨q, rfl, E, ce, locs, hx _ hT hW.alike, hcell9, hv, hcl, hW, hsm.mono hc hs, hf⟩⟩
theorem vx_frame {U : State} {k n : Nat} (h : s.sameButNew ({ U with vm := s.vm } : State) locs k n) : s.heap.size ≤ U.heap.size ∧ ∀ q : Nat, q < s.heap.size → (∀ z ∈ locs, z.base ≠ q) → U.heap[q]? = s.heap[q]? := by
  obtain ⟨-, h2, -, -, -, h6⟩ := h
  refine ⟨h2, fun q hq hz => ?_⟩
  obtain ⟨c9, e1, e2, e3, e4⟩ := h6 q _ (Array.getElem?_eq_getElem hq)
  have hs : c9.slots = (s.heap[q]).slots := Array.ext_getElem? fun i => e4 i fun hm => hz _ hm rfl
  have h9 : c9 = s.heap[q] := by
    rw [hs] at e2
    exact e2
  have e5 : U.heap[q]? = some c9 := e1
  rw [e5, h9, Array.getElem?_eq_getElem hq]
def vx_no (w : Cond) : Bool := decide (w ≠ .isRef (.static Bundle.tN "UNASSIGNED_STACK" Bundle.steD)) && decide (w ≠ .isRef (.static Bundle.tN "SUPPRESSED_SENTINEL" Bundle.listD)) && decide (w ≠ .laysStatic Bundle.tN "UNASSIGNED_STACK" Bundle.steD) && decide (w ≠ .laysStatic Bundle.tN "SUPPRESSED_SENTINEL" Bundle.listD)
def vx_at0 (own : String) (ic : Nat) (X : String) (names : List String) : List Cond := (Bundle.ownAtoms0 own ic X names).filter vx_no
def vx_atS (own : String) (ic : Nat) (X : String) (names : List String) : List Cond := (Bundle.ownAtoms own ic X names).filter vx_no
def vx_ot (w : Cond) : Bool := w.onTables || goodWord w
theorem vx_ot_at {args a' : Array Value} {s U : State} {w : Cond} (hW : s.WarmedH U.vm) (hvm : s.vm = U.vm) (hg : vx_ot w = true) (h : w.before args s = true) : w.before a' U = true := by
  simp only [vx_ot, Bool.or_eq_true] at hg
  rcases hg with hg | hg
  · exact va_tabs hg hvm h
  · exact word_at hW (good_of_word hg) h
theorem vx_hat {args : Array Value} {s : State} {L B : List Cond} (h1 : ∀ w ∈ L.filter goodWord, w.before args s = true) (h2 : ∀ w ∈ L.filter (fun w => !goodWord w), w ∈ B) (h3 : ∀ w ∈ B, w.before args s = true) : ∀ w ∈ L, w.before args s = true := by
  intro w hw
  by_cases g : goodWord w = true
  · exact h1 w (List.mem_filter.mpr ⟨hw, g⟩)
  · refine h3 w (h2 w (List.mem_filter.mpr ⟨hw, ?_⟩))
    show (!goodWord w) = true
    cases hgw : goodWord w
    · rfl
    · exact absurd hgw g
theorem vx_c {args : Array Value} {s : State} {w : Cond} {B : List Cond} (h : w.before args s = true) (t : ∀ w ∈ B, w.before args s = true) : ∀ w' ∈ w :: B, w'.before args s = true := fun w' h' => (List.mem_cons.mp h').elim (fun e => by rw [e]; exact h) (t w')
theorem vx_n {args : Array Value} {s : State} : ∀ w ∈ ([] : List Cond), w.before args s = true := fun _ h => nomatch h
theorem vx_own {args : Array Value} {s : State} {L : List Cond} (h1 : ∀ w ∈ L.filter vx_no, w.before args s = true)
    (hU : (Cond.isRef (.static Bundle.tN "UNASSIGNED_STACK" Bundle.steD)).before args s = true) (hN : (Cond.isRef (.static Bundle.tN "SUPPRESSED_SENTINEL" Bundle.listD)).before args s = true)
    (lU : (Cond.laysStatic Bundle.tN "UNASSIGNED_STACK" Bundle.steD).before args s = true) (lN : (Cond.laysStatic Bundle.tN "SUPPRESSED_SENTINEL" Bundle.listD).before args s = true) : ∀ w ∈ L, w.before args s = true := by
  intro w hw
  by_cases e1 : w = .isRef (.static Bundle.tN "UNASSIGNED_STACK" Bundle.steD)
  · rw [e1]; exact hU
  · by_cases e2 : w = .isRef (.static Bundle.tN "SUPPRESSED_SENTINEL" Bundle.listD)
    · rw [e2]; exact hN
    · by_cases e3 : w = .laysStatic Bundle.tN "UNASSIGNED_STACK" Bundle.steD
      · rw [e3]; exact lU
      · by_cases e4 : w = .laysStatic Bundle.tN "SUPPRESSED_SENTINEL" Bundle.listD
        · rw [e4]; exact lN
        · exact h1 w (List.mem_filter.mpr ⟨hw, by unfold vx_no; rw [decide_eq_true e1, decide_eq_true e2, decide_eq_true e3, decide_eq_true e4]; rfl⟩)
def vx_L (C n d : String) (A : Nat → Prop) (U : State) (H : Heap) : Prop := ∃ (c : ClassId) (k : Class) (i : Nat) (f : Field) (a : Nat) (cell : Cell), U.vm.findClass C = some c ∧ U.fieldFound? C n d = some (c, k, i, f) ∧ f.isStatic = true ∧ k.statics = some a ∧ H[a]? = some cell ∧ cell.vm.isStatics = true ∧ cell.cls = c ∧ f.slot < cell.slots.size ∧ k.staticTypes[f.slot]? = some f.type ∧ ¬ A a
theorem vx_L.moved {C n d : String} {A : Nat → Prop} {u U : State} {H : Heap} (hvm : u.vm.Alike U.vm) (h : vx_L C n d A u H) : vx_L C n d A U H := by
  obtain ⟨c, k, i, f, a, cell, h1, h2, h3, h4, h5, h6, h7, h8, h9, h10⟩ := h
  obtain ⟨k', hi', he⟩ := State.fieldFound?_setVm hvm h2
  exact ⟨c, k', i, f, a, cell, by rw [hvm.findClass]; exact h1, hi', h3, by rw [he]; exact h4, h5, h6, h7, h8, by rw [he]; exact h9, h10⟩
theorem vx_L.kept {C n d : String} {A : Nat → Prop} {U : State} {H H1 : Heap} (h : vx_L C n d A U H) (hq : ∀ a : Nat, a < H.size → ¬ A a → H1[a]? = H[a]?) : vx_L C n d A U H1 := by
  obtain ⟨c, k, i, f, a, cell, h1, h2, h3, h4, h5, h6, h7, h8, h9, h10⟩ := h
  exact ⟨c, k, i, f, a, cell, h1, h2, h3, h4, by rw [hq a (Array.getElem?_eq_some_iff.mp h5).1 h10]; exact h5, h6, h7, h8, h9, h10⟩
theorem vx_L.narrow {C n d : String} {A B : Nat → Prop} {U : State} {H : Heap} (h : vx_L C n d A U H) (hAB : ∀ q, B q → A q) : vx_L C n d B U H := by
  obtain ⟨c, k, i, f, a, cell, h1, h2, h3, h4, h5, h6, h7, h8, h9, h10⟩ := h
  exact ⟨c, k, i, f, a, cell, h1, h2, h3, h4, h5, h6, h7, h8, h9, fun z => h10 (hAB _ z)⟩
theorem vx_L.word {C n d : String} {A : Nat → Prop} {s : State} {args : Array Value} (h : vx_L C n d A s s.heap) : (Cond.laysStatic C n d).before args s = true := by
  obtain ⟨c, k, i, f, a, cell, h1, h2, h3, h4, h5, h6, h7, h8, h9, -⟩ := h
  show (Cond.laysStatic C n d).holds args s none s [] = true
  exact Cond.laysStatic_of h1 h2 h3 h4 h5 h6 h7 h8 h9
def vx_Zq (C n d : String) (A : Nat → Prop) (U : State) (H : Heap) : Prop := va_Zq C n d A U H ∧ vx_L C n d A U H
theorem vx_Zq.moved {C n d : String} {A : Nat → Prop} {u U : State} {H : Heap} (hvm : u.vm.Alike U.vm) (h : vx_Zq C n d A u H) : vx_Zq C n d A U H := ⟨va_Zq.moved hvm h.1, vx_L.moved hvm h.2⟩
theorem vx_Zq.kept {C n d : String} {A : Nat → Prop} {U : State} {H H1 : Heap} (h : vx_Zq C n d A U H) (hq : ∀ a : Nat, a < H.size → ¬ A a → H1[a]? = H[a]?) : vx_Zq C n d A U H1 := ⟨va_Zq.kept h.1 hq, vx_L.kept h.2 hq⟩
theorem vx_Zq.narrow {C n d : String} {A B : Nat → Prop} {U : State} {H : Heap} (h : vx_Zq C n d A U H) (hAB : ∀ q, B q → A q) : vx_Zq C n d B U H := ⟨va_Zq.narrow h.1 hAB, vx_L.narrow h.2 hAB⟩
theorem vx_Zqof {args : Array Value} {s : State} {C n d : String} {A : Nat → Prop} (hl : (Cond.laysStatic C n d).before args s = true) (hini : (Cond.initialized C).before args s = true) (h : (Cond.isRef (.static C n d)).before args s = true) (hA : ∀ a : Nat, a < s.heap.size → ¬ A a) : vx_Zq C n d A s s.heap := by
  refine ⟨va_Zqof hl hini h hA, ?_⟩
  obtain ⟨c, k, i, f, a, cell, h1, h2, h3, h4, h5, h6, h7, h8, h9⟩ := Cond.laysStatic_spec hl
  exact ⟨c, k, i, f, a, cell, h1, h2, h3, h4, h5, h6, h7, h8, h9, hA a (Array.getElem?_eq_some_iff.mp h5).1⟩
theorem vx_isRef {C n d : String} {v : Value} {A : Nat → Prop} {s : State} {args : Array Value} (h : va_Z C n d v A s s.heap) (hv : v.isRef = true) : (Cond.isRef (.static C n d)).before args s = true := by
  obtain ⟨cf, kf, fi, f, a, cell, h1, h2, h3, h4, h5, h6, h7, -⟩ := h
  have he : (Term.static C n d).eval args s none [] s = some v := by
    simp [Term.eval, State.fieldNamed?, h1, h2, h4, h5, h6, h7]
  simp only [Cond.before, Cond.holds, Cond.value, he]
  cases v <;> simp_all [Value.isRef]
theorem vx_isRefq {C n d : String} {A : Nat → Prop} {s : State} {args : Array Value} (h : va_Zq C n d A s s.heap) : (Cond.isRef (.static C n d)).before args s = true := by
  rcases h with h | ⟨t, h⟩
  · exact vx_isRef h rfl
  · exact vx_isRef h rfl
theorem vx_rebase {T : State} (X : Stand p l e R s m args below meth c T locs cells slots) {R' : Room} (hf : R'.frames ≤ R.frames) (hl : R'.locals ≤ R.locals) (hc : cells + R'.cells ≤ R.cells) (hs : slots + R'.slots ≤ R.slots) :
    Stand p l e R' ((T.setVm s.vm).setFrames (.invoking m args :: below)) m args below meth c T [] 0 0 := by
  have htop : (T.setVm s.vm).topJava?.isSome := X.here.top
  have hF : ((T.setVm s.vm).setFrames (.invoking m args :: below)).frames = .invoking m args :: below := State.frames_setFrames _ (State.cur_lt_of_top htop)
  obtain ⟨g₀, hg0⟩ := Option.isSome_iff_exists.mp htop
  obtain ⟨r, hr⟩ := State.topJava?_eq_some.mp hg0
  have hl9 : e.platform.stackLimits (T.setVm s.vm).me = e.platform.stackLimits s.me := X.limits
  have hb9 : (T.setVm s.vm).me.stackBytes = s.me.stackBytes := X.bytes
  refine ⟨X.admits, X.cas, X.clock, hF, ?_, X.hears, X.method, X.code, X.here, X.tail, X.warmed, ?_, ?_, ?_⟩
  · have h := X.room
    have hU : ((T.setVm s.vm).setFrames (.invoking m args :: below)).localsInUse = s.localsInUse := by
      rw [State.localsInUse_invoking hF (meth := meth) (c := c) X.method X.code, State.localsInUse_invoking X.frames X.method X.code]
    simp only [State.hasRoom, Bool.and_eq_true, decide_eq_true_eq] at h ⊢
    obtain ⟨⟨⟨⟨h1, h2, h3, h4, h5, h6⟩, h7⟩, h8⟩, h9⟩ := h
    rw [X.frames, List.length_cons] at h2 h3
    have q1 := X.heapSize
    have q2 := X.used
    simp only [hF, hU, List.length_cons, State.stackLimits_setFrames, State.stackBytes_setFrames, hl9, hb9]
    refine ⟨⟨⟨⟨by omega, by omega, by omega, by omega, by omega, h6⟩, ?_⟩, ?_⟩, X.book⟩
    · show T.heap.size + R'.cells ≤ e.platform.maxCells
      omega
    · show T.slotsUsed + R'.slots ≤ e.platform.maxSlots
      omega
  · rw [State.stackLimits_setFrames]; rfl
  · rw [State.stackBytes_setFrames]; rfl
  · refine ⟨?_, Nat.le_refl _, Nat.le_refl _, ?_, ?_, fun a c9 h9 => ⟨c9, h9, rfl, rfl, fun _ _ => rfl⟩⟩
    · obtain ⟨t, ht, -⟩ := State.frames_cons hr
      show T.setVm s.vm = { ((T.setVm s.vm).setFrames (.invoking m args :: below)).setFrames (T.setVm s.vm).frames with heap := T.heap, slotsUsed := T.slotsUsed }
      rw [State.setFrames_setFrames, State.setFrames_self ht]
      rfl
    · show T.slotsUsed = T.slotsUsed + ((T.heap.toList.drop T.heap.size).map (·.slots.size)).sum
      rw [List.drop_eq_nil_of_le (Nat.le_of_eq Array.length_toList)]
      rfl
    · show ((T.heap.toList.drop T.heap.size).map (·.slots.size)).sum ≤ 0
      rw [List.drop_eq_nil_of_le (Nat.le_of_eq Array.length_toList)]
      exact Nat.le_refl _
theorem vx_throw0 {cc : ByteArray} {pc : Nat} (hexec : p.tables.exec = Jvm.exec) (hb : c.code = cc) (hl : l.stackTraces = false) {own cls : String} {names : List String} {ik ic mc ms : Nat} {A : Nat → Prop}
    (hown : s.vm.findClass own = some m.cls) (hcls : Bundle.fit cls = true) (hnames : ∀ n ∈ names, Bundle.fit n = true)
    (hk : (Cond.classLink own ik cls).before args s = true) (hini : (Cond.initialized cls).before args s = true) (hat : ∀ w ∈ vx_at0 own ic cls names, w.before args s = true)
    (hgood : ∀ w ∈ Cond.classLink own ik cls :: Cond.initialized cls :: vx_at0 own ic cls names, vx_ot w = true)
    (hU : vx_Zq Bundle.tN "UNASSIGNED_STACK" Bundle.steD A s s.heap) (hN : vx_Zq Bundle.tN "SUPPRESSED_SENTINEL" Bundle.listD A s s.heap) (hS : va_S A s.heap H locs) (hsize : ls.size = c.maxLocals)
    (d0 : decode cc pc = .ok (.new ik, 3)) (d3 : decode cc (pc + 3) = .ok (.dup, 1)) (d4 : decode cc (pc + 4) = .ok (.invokespecial ic, 3)) (d7 : decode cc (pc + 7) = .ok (.athrow, 1))
    (hout : ∀ x ∈ c.exceptionTable.toList, covers x (pc + 7) = false)
    (hRframes : names.length + 3 < R.frames) (hRlocals : (rest.map fun v => v.category).sum + (13 * (names.length + 1) + 42) ≤ R.locals) (hRcells : cells + 1 ≤ R.cells) (hRslots : slots + 6 ≤ R.slots) (hlocks : meth.locks = false)
    (hx : ∀ t : State, s.vm.Alike t.vm → H.size ≤ t.heap.size → (∀ q : Nat, q < H.size → t.heap[q]? = H[q]?) → XC cls s t)
    (hf : ∀ z ∈ locs, free z.base) (hc : cells + 1 ≤ mc) (hs : slots + 6 ≤ ms) :
    W p l e R s m args below meth c H locs cells slots (vx_MQ below Qc XC args s mc ms free) (F0 m pc ls rest) := by
  intro T hT X
  have htr : e.platform.stackTraces = false := (show e.platform.stackTraces = l.stackTraces by rw [X.admits.platform]).trans hl
  have Y := vx_rebase X (R' := { frames := R.frames, locals := R.locals, cells := 1, slots := 6 }) (Nat.le_refl _) (Nat.le_refl _) hRcells hRslots
  obtain ⟨s', hA⟩ : ∃ z, z = (T.setVm s.vm).setFrames (.invoking m args :: below) := ⟨_, rfl⟩
  rw [← hA] at Y
  have hvm : s'.vm = s.vm := by rw [hA]; rfl
  have hhp : s'.heap = H := by rw [hA]; exact hT
  have hW0 : s.WarmedH s'.vm := by rw [hvm]; exact State.WarmedH.refl s
  have hat' : ∀ w ∈ vx_at0 own ic cls names, w.before args s' = true := fun w hw => vx_ot_at hW0 hvm.symm (hgood w (List.mem_cons_of_mem _ (List.mem_cons_of_mem _ hw))) (hat w hw)
  have hk' : (Cond.classLink own ik cls).before args s' = true := vx_ot_at hW0 hvm.symm (hgood _ List.mem_cons_self) hk
  have hini' : (Cond.initialized cls).before args s' = true := vx_ot_at hW0 hvm.symm (hgood _ (List.mem_cons_of_mem _ List.mem_cons_self)) hini
  have hU' : vx_Zq Bundle.tN "UNASSIGNED_STACK" Bundle.steD A s' s'.heap := by rw [hhp]; exact vx_Zq.moved hW0.alike (hU.kept hS.2.1)
  have hN' : vx_Zq Bundle.tN "SUPPRESSED_SENTINEL" Bundle.listD A s' s'.heap := by rw [hhp]; exact vx_Zq.moved hW0.alike (hN.kept hS.2.1)
  have h : ∀ w ∈ Bundle.ownAtoms0 own ic cls names, w.before args s' = true := vx_own hat' (vx_isRefq hU'.1) (vx_isRefq hN'.1) hU'.2.word hN'.2.word
  have hown' : s'.vm.findClass own = some m.cls := by rw [hvm]; exact hown
  have hins : (Cond.instantiable cls 6).before args s' = true := h _ (by simp [Bundle.ownAtoms0])
  obtain ⟨vm₁, cX, kX, hfX, hkX, -, -, X₁, st1⟩ := Y.newCold hexec (own := own) (C := cls) (index := ik) (n := 6) hown' hk' hins hini'
    (g := F0 m pc ls rest) rfl (by rw [hb]; exact d0) (Nat.le_refl _) (Nat.le_refl _)
  generalize hT1 : (T.setVm vm₁).pushCell { cls := cX, slots := kX.instanceTypes.map defaultValue, vm := .none } = T1 at X₁ st1
  have hcat : (Value.ref T.heap.size).category = 1 := rfl
  have hcellA : T1.heap[T.heap.size]? = some (freshCell cX kX) := by rw [← hT1]; exact State.heap_pushCell_size _ _
  have d3' : decode c.code (pc + 3) = .ok (.dup, 1) := by rw [hb]; exact d3
  obtain ⟨U, hsteps, hrun, hend, hW, hsame, ce, hce, hO⟩ := X₁.ctorThrow0 hexec htr (own := own) (cls := cls) (names := names) (ic := ic) hown' hcls hnames h (fun x hx => nomatch hx) hfX hkX hcellA (by rw [hhp, hT]; exact Nat.le_refl _)
    (g := { method := m, pc := pc + 4, locals := ls, stack := .ref T.heap.size :: .ref T.heap.size :: rest, locked := none }) rfl hsize rfl rfl (rest := rest) rfl
    (by rw [hb]; exact d4) (by rw [hb]; exact d7) hout hRframes (by simp only [List.map_cons, List.sum_cons, hcat]; omega) hlocks
  obtain ⟨f1, f2⟩ := vx_frame hsame
  rw [hhp] at f1 f2
  have hWs : s.WarmedH U.vm := State.WarmedH.trans hW0 hW
  have hcl : s.vm.findClass cls = some ce.cls := by
    have h9 := hO.cls
    rw [hvm] at h9
    exact h9
  have hall : s.sameButNew ({ U with vm := s.vm } : State) locs mc ms := by
    subst hA
    obtain ⟨e1, e2⟩ := hsame
    rw [State.setFrames_setFrames] at e1
    have h2 : (T.setVm s.vm).sameButNew ({ U with vm := s.vm } : State) [] (0 + 1) (0 + 6) := ⟨e1, e2⟩
    have h3 := X.same.trans h2
    rw [List.append_nil] at h3
    exact h3.mono hc hs
  refine ⟨U, ?_, .threw T.heap.size, hrun, hend, Or.inr ⟨T.heap.size, rfl, cls, ce, locs, hx U hWs.alike f1 (fun q hq => f2 q hq (fun z hz => nomatch hz)), hce, hO.vm, hcl, hWs, hall, hf⟩⟩
  refine st1 _ ?_
  show Steps p.tables e below (T1.setTop { method := m, pc := pc + 3, locals := ls, stack := .ref T.heap.size :: rest, locked := none }) _
  jvm_step X₁.here [X₁.here.top, hexec, d3', Value.category]
  exact hsteps
theorem vx_throwS {cc : ByteArray} {pc : Nat} (hexec : p.tables.exec = Jvm.exec) (hb : c.code = cc) (hl : l.stackTraces = false) {own cls text : String} {names : List String} {ik is ic mc ms sa : Nat} {A : Nat → Prop}
    (hown : s.vm.findClass own = some m.cls) (hcls : Bundle.fit cls = true) (hnames : ∀ n ∈ names, Bundle.fit n = true)
    (hk : (Cond.classLink own ik cls).before args s = true) (hini : (Cond.initialized cls).before args s = true) (hstr : vk_R own is text sa s) (hat : ∀ w ∈ vx_atS own ic cls names, w.before args s = true)
    (hgood : ∀ w ∈ Cond.classLink own ik cls :: Cond.initialized cls :: vx_atS own ic cls names, vx_ot w = true)
    (hU : vx_Zq Bundle.tN "UNASSIGNED_STACK" Bundle.steD A s s.heap) (hN : vx_Zq Bundle.tN "SUPPRESSED_SENTINEL" Bundle.listD A s s.heap) (hS : va_S A s.heap H locs) (hsize : ls.size = c.maxLocals)
    (d0 : decode cc pc = .ok (.new ik, 3)) (d3 : decode cc (pc + 3) = .ok (.dup, 1)) (d4 : decode cc (pc + 4) = .ok (.ldc is, 2)) (d6 : decode cc (pc + 6) = .ok (.invokespecial ic, 3)) (d9 : decode cc (pc + 9) = .ok (.athrow, 1))
    (hout : ∀ x ∈ c.exceptionTable.toList, covers x (pc + 9) = false)
    (hRframes : names.length + 3 < R.frames) (hRlocals : (rest.map fun v => v.category).sum + (13 * (names.length + 1) + 43) ≤ R.locals) (hRcells : cells + 1 ≤ R.cells) (hRslots : slots + 6 ≤ R.slots) (hlocks : meth.locks = false)
    (hx : ∀ t : State, s.vm.Alike t.vm → H.size ≤ t.heap.size → (∀ q : Nat, q < H.size → t.heap[q]? = H[q]?) → XC cls s t)
    (hf : ∀ z ∈ locs, free z.base) (hc : cells + 1 ≤ mc) (hs : slots + 6 ≤ ms) :
    W p l e R s m args below meth c H locs cells slots (vx_MQ below Qc XC args s mc ms free) (F0 m pc ls rest) := by
  intro T hT X
  have htr : e.platform.stackTraces = false := (show e.platform.stackTraces = l.stackTraces by rw [X.admits.platform]).trans hl
  have Y := vx_rebase X (R' := { frames := R.frames, locals := R.locals, cells := 1, slots := 6 }) (Nat.le_refl _) (Nat.le_refl _) hRcells hRslots
  obtain ⟨s', hA⟩ : ∃ z, z = (T.setVm s.vm).setFrames (.invoking m args :: below) := ⟨_, rfl⟩
  rw [← hA] at Y
  have hvm : s'.vm = s.vm := by rw [hA]; rfl
  have hhp : s'.heap = H := by rw [hA]; exact hT
  have hW0 : s.WarmedH s'.vm := by rw [hvm]; exact State.WarmedH.refl s
  have hat' : ∀ w ∈ vx_atS own ic cls names, w.before args s' = true := fun w hw => vx_ot_at hW0 hvm.symm (hgood w (List.mem_cons_of_mem _ (List.mem_cons_of_mem _ hw))) (hat w hw)
  have hk' : (Cond.classLink own ik cls).before args s' = true := vx_ot_at hW0 hvm.symm (hgood _ List.mem_cons_self) hk
  have hini' : (Cond.initialized cls).before args s' = true := vx_ot_at hW0 hvm.symm (hgood _ (List.mem_cons_of_mem _ List.mem_cons_self)) hini
  have hU' : vx_Zq Bundle.tN "UNASSIGNED_STACK" Bundle.steD A s' s'.heap := by rw [hhp]; exact vx_Zq.moved hW0.alike (hU.kept hS.2.1)
  have hN' : vx_Zq Bundle.tN "SUPPRESSED_SENTINEL" Bundle.listD A s' s'.heap := by rw [hhp]; exact vx_Zq.moved hW0.alike (hN.kept hS.2.1)
  have h : ∀ w ∈ Bundle.ownAtoms own ic cls names, w.before args s' = true := vx_own hat' (vx_isRefq hU'.1) (vx_isRefq hN'.1) hU'.2.word hN'.2.word
  have hown' : s'.vm.findClass own = some m.cls := by rw [hvm]; exact hown
  have hins : (Cond.instantiable cls 6).before args s' = true := h _ (by simp [Bundle.ownAtoms])
  obtain ⟨vm₁, cX, kX, hfX, hkX, -, -, X₁, st1⟩ := Y.newCold hexec (own := own) (C := cls) (index := ik) (n := 6) hown' hk' hins hini'
    (g := F0 m pc ls rest) rfl (by rw [hb]; exact d0) (Nat.le_refl _) (Nat.le_refl _)
  generalize hT1 : (T.setVm vm₁).pushCell { cls := cX, slots := kX.instanceTypes.map defaultValue, vm := .none } = T1 at X₁ st1
  have hcat : (Value.ref T.heap.size).category = 1 := rfl
  have hcellA : T1.heap[T.heap.size]? = some (freshCell cX kX) := by rw [← hT1]; exact State.heap_pushCell_size _ _
  have d3' : decode c.code (pc + 3) = .ok (.dup, 1) := by rw [hb]; exact d3
  have d4' : decode c.code (pc + 4) = .ok (.ldc is, 2) := by rw [hb]; exact d4
  have hstr' : vk_R own is text sa s' := vk_R.warm hW0 hstr
  obtain ⟨U, hsteps, hrun, hend, hW, hsame, ce, hce, hO⟩ := X₁.ctorThrowS hexec htr (own := own) (cls := cls) (names := names) (ic := ic) hown' hcls hnames h (fun x hx => nomatch hx) hfX hkX hcellA (by rw [hhp, hT]; exact Nat.le_refl _) (msg := .ref sa) rfl
    (g := { method := m, pc := pc + 6, locals := ls, stack := .ref sa :: .ref T.heap.size :: .ref T.heap.size :: rest, locked := none }) rfl hsize rfl rfl (rest := rest) rfl
    (by rw [hb]; exact d6) (by rw [hb]; exact d9) hout hRframes (by simp only [List.map_cons, List.sum_cons, hcat]; omega) hlocks
  obtain ⟨f1, f2⟩ := vx_frame hsame
  rw [hhp] at f1 f2
  have hWs : s.WarmedH U.vm := State.WarmedH.trans hW0 hW
  have hcl : s.vm.findClass cls = some ce.cls := by
    have h9 := hO.cls
    rw [hvm] at h9
    exact h9
  have hall : s.sameButNew ({ U with vm := s.vm } : State) locs mc ms := by
    subst hA
    obtain ⟨e1, e2⟩ := hsame
    rw [State.setFrames_setFrames] at e1
    have h2 : (T.setVm s.vm).sameButNew ({ U with vm := s.vm } : State) [] (0 + 1) (0 + 6) := ⟨e1, e2⟩
    have h3 := X.same.trans h2
    rw [List.append_nil] at h3
    exact h3.mono hc hs
  refine ⟨U, ?_, .threw T.heap.size, hrun, hend, Or.inr ⟨T.heap.size, rfl, cls, ce, locs, hx U hWs.alike f1 (fun q hq => f2 q hq (fun z hz => nomatch hz)), hce, hO.vm, hcl, hWs, hall, hf⟩⟩
  refine st1 _ ?_
  show Steps p.tables e below (T1.setTop { method := m, pc := pc + 3, locals := ls, stack := .ref T.heap.size :: rest, locked := none }) _
  jvm_step X₁.here [X₁.here.top, hexec, d3', Value.category]
  exact X₁.ldcString hexec (own := own) (text := text) (index := is) (a := sa) hown' hstr'.1 hstr'.2
    (g := { method := m, pc := pc + 4, locals := ls, stack := .ref T.heap.size :: .ref T.heap.size :: rest, locked := none }) rfl d4' _ hsteps
theorem vx_throwSW {cc : ByteArray} {pc : Nat} (hexec : p.tables.exec = Jvm.exec) (hb : c.code = cc) (hl : l.stackTraces = false) {own cls text : String} {names : List String} {ik is ic mc ms sa : Nat} {A : Nat → Prop}
    (hown : s.vm.findClass own = some m.cls) (hcls : Bundle.fit cls = true) (hnames : ∀ n ∈ names, Bundle.fit n = true)
    (hk : (Cond.classLink own ik cls).before args s = true) (hini : (Cond.initialized cls).before args s = true) (hstr : vk_R own is text sa s) (hat : ∀ w ∈ vx_atS own ic cls names, w.before args s = true)
    (hgood : ∀ w ∈ Cond.classLink own ik cls :: Cond.initialized cls :: vx_atS own ic cls names, vx_ot w = true)
    (hU : vx_Zq Bundle.tN "UNASSIGNED_STACK" Bundle.steD A s s.heap) (hN : vx_Zq Bundle.tN "SUPPRESSED_SENTINEL" Bundle.listD A s s.heap) (hS : va_S A s.heap H locs) (hsize : ls.size = c.maxLocals)
    (d0 : decode cc pc = .ok (.new ik, 3)) (d3 : decode cc (pc + 3) = .ok (.dup, 1)) (d4 : decode cc (pc + 4) = .ok (.ldc_w is, 3)) (d7 : decode cc (pc + 7) = .ok (.invokespecial ic, 3)) (d10 : decode cc (pc + 10) = .ok (.athrow, 1))
    (hout : ∀ x ∈ c.exceptionTable.toList, covers x (pc + 10) = false)
    (hRframes : names.length + 3 < R.frames) (hRlocals : (rest.map fun v => v.category).sum + (13 * (names.length + 1) + 43) ≤ R.locals) (hRcells : cells + 1 ≤ R.cells) (hRslots : slots + 6 ≤ R.slots) (hlocks : meth.locks = false)
    (hx : ∀ t : State, s.vm.Alike t.vm → H.size ≤ t.heap.size → (∀ q : Nat, q < H.size → t.heap[q]? = H[q]?) → XC cls s t)
    (hf : ∀ z ∈ locs, free z.base) (hc : cells + 1 ≤ mc) (hs : slots + 6 ≤ ms) :
    W p l e R s m args below meth c H locs cells slots (vx_MQ below Qc XC args s mc ms free) (F0 m pc ls rest) := by
  intro T hT X
  have htr : e.platform.stackTraces = false := (show e.platform.stackTraces = l.stackTraces by rw [X.admits.platform]).trans hl
  have Y := vx_rebase X (R' := { frames := R.frames, locals := R.locals, cells := 1, slots := 6 }) (Nat.le_refl _) (Nat.le_refl _) hRcells hRslots
  obtain ⟨s', hA⟩ : ∃ z, z = (T.setVm s.vm).setFrames (.invoking m args :: below) := ⟨_, rfl⟩
  rw [← hA] at Y
  have hvm : s'.vm = s.vm := by rw [hA]; rfl
  have hhp : s'.heap = H := by rw [hA]; exact hT
  have hW0 : s.WarmedH s'.vm := by rw [hvm]; exact State.WarmedH.refl s
  have hat' : ∀ w ∈ vx_atS own ic cls names, w.before args s' = true := fun w hw => vx_ot_at hW0 hvm.symm (hgood w (List.mem_cons_of_mem _ (List.mem_cons_of_mem _ hw))) (hat w hw)
  have hk' : (Cond.classLink own ik cls).before args s' = true := vx_ot_at hW0 hvm.symm (hgood _ List.mem_cons_self) hk
  have hini' : (Cond.initialized cls).before args s' = true := vx_ot_at hW0 hvm.symm (hgood _ (List.mem_cons_of_mem _ List.mem_cons_self)) hini
  have hU' : vx_Zq Bundle.tN "UNASSIGNED_STACK" Bundle.steD A s' s'.heap := by rw [hhp]; exact vx_Zq.moved hW0.alike (hU.kept hS.2.1)
  have hN' : vx_Zq Bundle.tN "SUPPRESSED_SENTINEL" Bundle.listD A s' s'.heap := by rw [hhp]; exact vx_Zq.moved hW0.alike (hN.kept hS.2.1)
  have h : ∀ w ∈ Bundle.ownAtoms own ic cls names, w.before args s' = true := vx_own hat' (vx_isRefq hU'.1) (vx_isRefq hN'.1) hU'.2.word hN'.2.word
  have hown' : s'.vm.findClass own = some m.cls := by rw [hvm]; exact hown
  have hins : (Cond.instantiable cls 6).before args s' = true := h _ (by simp [Bundle.ownAtoms])
  obtain ⟨vm₁, cX, kX, hfX, hkX, -, -, X₁, st1⟩ := Y.newCold hexec (own := own) (C := cls) (index := ik) (n := 6) hown' hk' hins hini'
    (g := F0 m pc ls rest) rfl (by rw [hb]; exact d0) (Nat.le_refl _) (Nat.le_refl _)
  generalize hT1 : (T.setVm vm₁).pushCell { cls := cX, slots := kX.instanceTypes.map defaultValue, vm := .none } = T1 at X₁ st1
  have hcat : (Value.ref T.heap.size).category = 1 := rfl
  have hcellA : T1.heap[T.heap.size]? = some (freshCell cX kX) := by rw [← hT1]; exact State.heap_pushCell_size _ _
  have d3' : decode c.code (pc + 3) = .ok (.dup, 1) := by rw [hb]; exact d3
  have d4' : decode c.code (pc + 4) = .ok (.ldc_w is, 3) := by rw [hb]; exact d4
  have hstr' : vk_R own is text sa s' := vk_R.warm hW0 hstr
  obtain ⟨U, hsteps, hrun, hend, hW, hsame, ce, hce, hO⟩ := X₁.ctorThrowS hexec htr (own := own) (cls := cls) (names := names) (ic := ic) hown' hcls hnames h (fun x hx => nomatch hx) hfX hkX hcellA (by rw [hhp, hT]; exact Nat.le_refl _) (msg := .ref sa) rfl
    (g := { method := m, pc := pc + 7, locals := ls, stack := .ref sa :: .ref T.heap.size :: .ref T.heap.size :: rest, locked := none }) rfl hsize rfl rfl (rest := rest) rfl
    (by rw [hb]; exact d7) (by rw [hb]; exact d10) hout hRframes (by simp only [List.map_cons, List.sum_cons, hcat]; omega) hlocks
  obtain ⟨f1, f2⟩ := vx_frame hsame
  rw [hhp] at f1 f2
  have hWs : s.WarmedH U.vm := State.WarmedH.trans hW0 hW
  have hcl : s.vm.findClass cls = some ce.cls := by
    have h9 := hO.cls
    rw [hvm] at h9
    exact h9
  have hall : s.sameButNew ({ U with vm := s.vm } : State) locs mc ms := by
    subst hA
    obtain ⟨e1, e2⟩ := hsame
    rw [State.setFrames_setFrames] at e1
    have h2 : (T.setVm s.vm).sameButNew ({ U with vm := s.vm } : State) [] (0 + 1) (0 + 6) := ⟨e1, e2⟩
    have h3 := X.same.trans h2
    rw [List.append_nil] at h3
    exact h3.mono hc hs
  refine ⟨U, ?_, .threw T.heap.size, hrun, hend, Or.inr ⟨T.heap.size, rfl, cls, ce, locs, hx U hWs.alike f1 (fun q hq => f2 q hq (fun z hz => nomatch hz)), hce, hO.vm, hcl, hWs, hall, hf⟩⟩
  refine st1 _ ?_
  show Steps p.tables e below (T1.setTop { method := m, pc := pc + 3, locals := ls, stack := .ref T.heap.size :: rest, locked := none }) _
  jvm_step X₁.here [X₁.here.top, hexec, d3', Value.category]
  exact X₁.ldcStringW hexec (own := own) (text := text) (index := is) (a := sa) hown' hstr'.1 hstr'.2
    (g := { method := m, pc := pc + 4, locals := ls, stack := .ref T.heap.size :: .ref T.heap.size :: rest, locked := none }) rfl d4' _ hsteps
end Ends
section Bodies
variable {l : Launch}
theorem vx_ofW {y : MethodName} {ws ws' : List Cond} {rm : Room} {Pc : Array Value → State → Prop} {Qc : Array Value → State → Outcome → State → Prop} {XC : String → State → State → Prop} {mc ms : Nat} {free : Addr → Prop} {cc : ByteArray} {maxL : Nat} {ret : Option FieldType}
    (hy : plainName y.cls = true) (hw : ws = Cond.code y cc maxL ret :: ws')
    (body : ∀ p e s m args below meth c s₁, BodyLoose p l y (headSpec ws rm) cc maxL ret e s m args below meth c s₁ → c.maxLocals = maxL → (∀ x ∈ c.exceptionTable.toList, False) → Pc args s →
      W p l e (headSpec ws rm).room s m args below meth c s.heap [] 0 0 (vx_MQ below Qc XC args s mc ms free) (entryFrame m args maxL)) : vx_Met l y ws rm Pc Qc XC mc ms free := by
  refine MetFree.of_bodyS (code := cc) (maxLocals := maxL) (ret := ret) hy ?_ ?_
  · intro args s m h hn
    obtain ⟨meth, c, h1, h2, h3, h4, h5, h6, -, -⟩ := Cond.code_spec hn (atoms_spec (ws := ws) h _ (by rw [hw]; exact List.mem_cons_self))
    exact ⟨meth, c, h1, h2, h3, h4, h5, h6⟩
  · intro p e s m args below meth c s₁ B hml hP _
    have hh0 : s₁.heap = s.heap := by rw [B.state]; rfl
    have ht : ∀ x ∈ c.exceptionTable.toList, False := by
      obtain ⟨meth9, c9, h1, h2, -, -, -, -, h7, -⟩ := Cond.code_spec B.named (atoms_spec (ws := ws) B.pre _ (by rw [hw]; exact List.mem_cons_self))
      cases Option.some.inj (h1.symm.trans B.method)
      cases Option.some.inj (h2.symm.trans (Stand.of_body B).code)
      intro x hx
      rw [Array.isEmpty_iff.mp h7] at hx
      cases hx
    obtain ⟨t, a1, o, b1, b2, b3⟩ := body p e s m args below meth c s₁ B hml ht hP s₁ hh0 (Stand.of_body B)
    exact ⟨t, o, a1, b1, b2, b3⟩
theorem vx_table {p : Program} {x y : MethodName} {S : Spec} {cc bytes : ByteArray} {maxL maxL' : Nat} {ret ret' : Option FieldType} {e : Env} {s s₁ : State} {m : MethodId} {args : Array Value} {below : List Frame} {meth : Method} {c : Code} {hh : List (Nat × Nat × Nat × Nat)}
    (B : BodyLoose p l y S cc maxL ret e s m args below meth c s₁) (h : (Cond.codeWith y bytes maxL' ret' hh).before args s = true) : c.exceptionTable.toList = tableOf hh := by
  obtain ⟨m9, meth9, c9, hn9, h1, h2, -, -, h6, -⟩ := Cond.codeWith_spec h
  cases Option.some.inj (hn9.symm.trans B.named)
  cases Option.some.inj (h1.symm.trans B.method)
  cases Option.some.inj (h2.symm.trans (Stand.of_body B).code)
  rw [← h6, table_eq]
end Bodies
end VXA
section VXS
variable {p : Program} {l : Launch} {e : Env} {R : Room} {s : State} {m : MethodId} {args : Array Value} {below : List Frame} {meth : Method} {c : Code} {T : State} {H : Heap} {locs : List Loc} {cells slots : Nat}
abbrev vx_CSW (R : Room) (s : State) (args : Array Value) (own : String) (index : Nat) (y : MethodName) (bytes : ByteArray) (maxL : Nat) (ret : Option FieldType) (hh : List (Nat × Nat × Nat × Nat)) (ws : List Cond) (rm : Room) (mc ms n : Nat) : Prop :=
  (rm.cells = mc ∧ rm.slots = ms ∧ rm.frames + 1 ≤ R.frames ∧ 8 + (maxL + 11) + rm.locals ≤ R.locals ∧ (∀ w ∈ ws, ∀ (a' : Array Value) (U : State), s.WarmedH U.vm → w.before a' U = true) ∧ Cond.codeWith y bytes maxL ret hh ∈ ws) ∧
  (Cond.codeWith y bytes maxL ret hh).before args s = true ∧ (Cond.initialized y.cls).before args s = true ∧ (y.cls ≠ "java/lang/invoke/MethodHandle" ∧ y.cls ≠ "java/lang/invoke/VarHandle") ∧
  (∀ sig, parseMethodDescriptor y.desc = some sig → n = sig.parameters.length) ∧ (Cond.methodLink own index y).before args s = true ∧ (Cond.static y).before args s = true
theorem vx_cwSW {own : String} {index maxL mc ms : Nat} {y : MethodName} {bytes : ByteArray} {ret : Option FieldType} {hh : List (Nat × Nat × Nat × Nat)} {Ts ws ws' : List Cond} {rm : Room} (n : Nat) (ht : ∀ w ∈ Ts, w.before args s = true) (hT : GoodIn Ts (va_wsS own index y ws)) (hw : ws = Cond.codeWith y bytes maxL ret hh :: ws') (hrc : rm.cells = mc) (hrs : rm.slots = ms)
    (hd : y.cls ≠ "java/lang/invoke/MethodHandle" ∧ y.cls ≠ "java/lang/invoke/VarHandle" ∧ (parseMethodDescriptor y.desc).map (fun d => d.parameters.length) = some n) (hR : rm.frames + 1 ≤ R.frames ∧ 8 + (maxL + 11) + rm.locals ≤ R.locals) :
    vx_CSW R s args own index y bytes maxL ret hh ws rm mc ms n := by
  have ok : ∀ w ∈ va_wsS own index y ws, w.before args s = true := fun w h => ht w (hT w h).1
  have hG : GoodIn Ts ws := fun w h => hT w (by unfold va_wsS; exact List.mem_append_right _ h)
  have hc : Cond.codeWith y bytes maxL ret hh ∈ ws := by rw [hw]; exact List.mem_cons_self
  refine ⟨⟨hrc, hrs, hR.1, hR.2, pay_in ht hG, hc⟩, ht _ (hG _ hc).1, ok _ (by simp [va_wsS]), ⟨hd.1, hd.2.1⟩, fun sig h => ?_, ok _ (by simp [va_wsS]), ok _ (by simp [va_wsS])⟩
  have h2 := hd.2.2
  rw [h] at h2
  exact (Option.some.inj h2).symm
theorem vx_callSW (X : Stand p l e R s m args below meth c T locs cells slots) (hexec : p.tables.exec = Jvm.exec) {own : String} {index : Nat} {y : MethodName} {bytes : ByteArray} {maxL : Nat} {ret : Option FieldType} {hh : List (Nat × Nat × Nat × Nat)}
    (hown : s.vm.findClass own = some m.cls) (hlink : (Cond.methodLink own index y).before args s = true) (hstat : (Cond.static y).before args s = true) (hinit : (Cond.initialized y.cls).before args s = true)
    (hcode : (Cond.codeWith y bytes maxL ret hh).before args s = true) (hy : y.cls ≠ "java/lang/invoke/MethodHandle" ∧ y.cls ≠ "java/lang/invoke/VarHandle")
    {W9 : Nat} {Pre : Pt → Array Value → Prop} {Post : Pt → Array Value → Option Value → Pt → Prop} (hK : Back l R p e below s args y 3 W9 Pre Post)
    {g : JFrame} (hg : g.method = m) (hsize : g.locals.size = c.maxLocals) {argsL rest : List Value} (hlen : ∀ sig, parseMethodDescriptor y.desc = some sig → argsL.length = sig.parameters.length)
    (hstack : g.stack = argsL.reverse ++ rest) (hW : 2 * g.monitorRoom + (rest.map fun v => v.category).sum ≤ W9) (hdg : decode c.code g.pc = .ok (.invokestatic index, 3))
    (hpre : ∀ vm₁, s.WarmedH vm₁ → Pre ⟨T.setVm vm₁, locs, cells, slots⟩ argsL.toArray) :
    ∃ (v : Option Value) (vm₁ : Vm) (B : Pt), s.WarmedH vm₁ ∧ Stand p l e R s m args below meth c B.U B.locs B.cells B.slots ∧ Post ⟨T.setVm vm₁, locs, cells, slots⟩ argsL.toArray v B ∧
      ∀ target, Steps p.tables e below (B.U.setTop { g with pc := g.pc + 3, stack := v.toList ++ rest }) target → Steps p.tables e below (T.setTop g) target := by
  obtain ⟨mk, methM, cM, hnamed, hmethM, -, -, -, -, -, -, hsigM⟩ := Cond.codeWith_spec hcode
  have hstatic : methM.isStatic = true := Cond.static_spec hnamed hmethM hstat
  obtain ⟨kP, hkP, -⟩ := className_of_methodNamed hnamed
  have hinitP : kP.init = .initialized := Cond.initialized_spec (findClass_of_methodNamed hnamed) hkP hinit
  obtain ⟨vm₁, X₁, hstep₁⟩ := X.invokestatic hexec hown hlink hnamed hmethM hstatic hkP hinitP hy (g := g) hg (argsL := argsL) (rest := rest) (hlen _ hsigM) hstack hdg
  obtain ⟨v, B, X', hpost, hsteps⟩ := hK m meth c ⟨T.setVm vm₁, locs, cells, slots⟩ { g with stack := rest } (.invokestatic index) mk argsL.toArray X₁ hg hsize hdg hW (X₁.named hnamed) (hpre vm₁ X₁.warmed)
  exact ⟨v, vm₁, B, X₁.warmed, X', hpost, fun target h => hstep₁ _ fun acts => by rw [doInvoke_state]; exact hsteps.trans h⟩
theorem vx_runSW {y : MethodName} {bytes cc : ByteArray} {maxL nL mc ms n index : Nat} {ret : Option FieldType} {hh : List (Nat × Nat × Nat × Nat)} {ws : List Cond} {rm : Room} {Pc : Array Value → State → Prop} {Qc : Array Value → State → Outcome → State → Prop} {free : Addr → Prop} {Ts : List Cond} {own : String} {As rest : List Value} {g : JFrame}
    (S : CallFix p m c cc nL s args Ts own) (hM : Met l y ws rm Pc Qc mc ms free) (cw : vx_CSW R s args own index y bytes maxL ret hh ws rm mc ms n) (hp : PreS s H Pc As)
    (hg : g.method = m) (hn : As.length = n) (hsize : g.locals.size = nL) (hstack : g.stack = As.reverse ++ rest) (hW : 2 * g.monitorRoom + (rest.map fun v => v.category).sum ≤ 8) (hdg : decode cc g.pc = .ok (.invokestatic index, 3)) (hf : cells + mc ≤ R.cells ∧ slots + ms ≤ R.slots) :
    va_Run p l e R s m args below meth c H locs cells slots mc ms g rest (Qc As.toArray) (free) := by
  obtain ⟨⟨hrc, hrs, hfr, hlo, hws, hcw⟩, hcode, hini, hy, hlen, hl, hstt⟩ := cw
  have hK : Back l R p e below s args y 3 8 (PreOf R mc ms Pc) (PostOf Qc mc ms free) := va_backW (hh := hh) (bytes := bytes) (maxL := maxL) (ret := ret) hM hp.1 hrc hrs hfr hlo hws hcw (fun a' U hW => word_at hW (Or.inl (by first | rfl | simp [Cond.onTables, Cond.keeps, Cond.steady])) hini)
  obtain ⟨hx, hb, hml, ho, -⟩ := S
  intro T hT X
  obtain ⟨v, vm₁, ⟨U', l2, c2, s2⟩, hW₁, X', ⟨g', mk, t, L, e1, e2, hq, h1, hL, h2, h3⟩, st⟩ := vx_callSW X hx (hh := hh) (bytes := bytes) (maxL := maxL) (ret := ret) ho hl hstt hini hcode hy hK hg (hsize.trans hml.symm) (argsL := As) (rest := rest) (fun sig h => hn.trans (hlen sig h)) hstack hW (by rw [hb]; exact hdg)
    (fun vm₁ hW₁ => ⟨hf.1, hf.2, hp.2 (T.setVm vm₁) hT hW₁⟩)
  dsimp only [Pt.U, Pt.locs, Pt.cells, Pt.slots] at X' e1 e2 h1 h2 h3 st
  subst h1; subst h2; subst h3
  exact ⟨v, (T.setVm vm₁).calling g' mk As.toArray, t, U', L, hT, X', hL, e1, e2, hq, st⟩
theorem vx_outP {p : Program} {l : Launch} {e : Env} {R : Room} {s : State} {m : MethodId} {args : Array Value} {below : List Frame} {meth : Method} {c : Code} {H : Heap} {locs : List Loc} {cells slots : Nat} {free : Addr → Prop} {ls : Array Slot} {rest : List Value} {Qc : Array Value → State → Outcome → State → Prop} {XC : String → State → State → Prop}
    {pc : Nat} {own E : String} {ce : Cell} {q : Addr} {mc ms : Nat} (hown : s.vm.findClass own = some m.cls) (hlocks : meth.locks = false)
    (hpass : ∀ z ∈ c.exceptionTable.toList, covers z pc = false ∨ (z.catchType ≠ 0 ∧ ∃ nm : String, (Cond.classLink own z.catchType nm).before args s = true ∧ va_Nc E nm s)) (hcell : H[q]? = some ce) (hv : ce.vm = .none) (hcl : s.vm.findClass E = some ce.cls)
    (hx : ∀ t : State, t.heap = H → s.vm.Alike t.vm → XC E s t) (hf : ∀ z ∈ locs, free z.base) (hc : cells ≤ mc) (hs : slots ≤ ms) :
    vx_W p l e R s m args below meth c H locs cells slots (vx_MQ below Qc XC args s mc ms free) (F0 m pc ls rest) q := by
  intro T hT X
  have hpl : e.platform.magicAccessors = ({} : Platform).magicAccessors := by rw [X.admits.platform]
  obtain ⟨vm', hW', X', st⟩ := X.outThrough hlocks q (g := F0 m pc ls rest) rfl rfl rfl (cell := ce) (by rw [hT]; exact hcell) (by rw [hv]; rfl)
    (by obtain ⟨k9, h9, -⟩ := Vm.findClass_spec hcl; exact ⟨k9, h9⟩) (fun z hz => by
      rcases hpass z hz with h | ⟨hz0, nm, hl1, hn1⟩
      · exact Or.inl h
      · obtain ⟨c6, hc6, hcl6⟩ := Cond.classLink_spec hown hl1 e.platform hpl
        obtain ⟨a8, b8, h1, h2, h3⟩ := hn1
        cases Option.some.inj (h1.symm.trans hcl)
        cases Option.some.inj (h2.symm.trans hc6)
        exact Or.inr ⟨hz0, _, hcl6, h3⟩)
  obtain ⟨g₀, hfr⟩ := X'.frames_eq
  have hcell9 : ((T.setVm vm').setFrames (.throwing q :: below)).heap[q]? = some ce := by
    show T.heap[q]? = some ce
    rw [hT]; exact hcell
  have hend : Ended ((T.setVm vm').setFrames (.throwing q :: below)) below (.threw q) := State.frames_setFrames _ (State.cur_lt_of_frames hfr)
  refine ⟨(T.setVm vm').setFrames (.throwing q :: below), ?_, .threw q, X'.here.running, hend, Or.inr ⟨q, rfl, E, ce, locs, hx _ hT (X'.ends _).1.alike, hcell9, hv, hcl, (X'.ends _).1, (X'.ends _).2.mono hc hs, hf⟩⟩
  rw [X.pushThrowing_eq]
  exact st
theorem vx_lt {D : va_G} {cl : List vw_C} {ws : va_W} {H1 : Heap} (h : va_P D cl ws H1) {k : Nat} {q : Nat × va_E} (hk : ws[k]? = some q) : q.1 < H1.size := (h k q hk).lt
end VXS
section VXH
section
variable {l : Launch} {R : Room} {p : Program} {e : Env} {below : List Frame} {s : State} {sargs : Array Value} {y : MethodName} {len W9 : Nat}
theorem vx_backW {ws : List Cond} {rm : Room} {Pc : Array Value → State → Prop} {Qc : Array Value → State → Outcome → State → Prop} {XC : String → State → State → Prop} {mc ms : Nat} {free : Addr → Prop} {bytes : ByteArray} {maxL : Nat} {ret : Option FieldType} {hh : List (Nat × Nat × Nat × Nat)}
    (hM : vx_Met l y ws rm Pc Qc XC mc ms free) (hblind : FrameBlind Pc) (hrc : rm.cells = mc) (hrs : rm.slots = ms)
    (hframes : rm.frames + 1 ≤ R.frames) (hlocals : W9 + (maxL + 11) + rm.locals ≤ R.locals)
    (hws : ∀ w ∈ ws, ∀ a' U, s.WarmedH U.vm → w.before a' U = true) (hcode : Cond.codeWith y bytes maxL ret hh ∈ ws) (hinit : ∀ a' U, s.WarmedH U.vm → (Cond.initialized y.cls).before a' U = true) :
    vx_Back l R p e below s sargs y len W9 (PreOf R mc ms Pc) (PostOf Qc mc ms free) (vx_Post XC mc ms free) := by
  intro m meth c A g ig mk a X hg hsize hdg hW hn hp
  have h1 : (headSpec ws rm).pre.before a A.U = true := atoms_intro fun w hw => hws w hw _ _ X.warmed
  have h2 : (Cond.codeWith y bytes maxL ret hh).before a A.U = true := hws _ hcode _ _ X.warmed
  have h3 : (Cond.initialized y.cls).before a A.U = true := hinit _ _ X.warmed
  have h4 : A.cells + (headSpec ws rm).room.cells ≤ R.cells := by rw [show (headSpec ws rm).room.cells = mc from hrc]; exact hp.1
  have h5 : A.slots + (headSpec ws rm).room.slots ≤ R.slots := by rw [show (headSpec ws rm).room.slots = ms from hrs]; exact hp.2.1
  have hPc : Pc a (A.U.calling g mk a) := hblind _ _ _ _ hp.2.2
  obtain ⟨U, Ls, c0, s0⟩ := A
  dsimp only [Pt.U, Pt.locs, Pt.cells, Pt.slots] at h1 h2 h3 h4 h5 X hn hPc ⊢
  obtain ⟨m9, methY, cY, hn9, hmY, hcY, -, hlY, -⟩ := Cond.codeWith_spec h2
  cases Option.some.inj (hn9.symm.trans hn)
  obtain ⟨kY, hkY, -⟩ := className_of_methodNamed hn
  have hinitY : kY.init = .initialized := Cond.initialized_spec (findClass_of_methodNamed hn) hkY h3
  have h : At U g.method c below := by rw [hg]; exact X.here
  have hlocals9 : W9 + (maxL + 11) + (headSpec ws rm).room.locals ≤ R.locals := hlocals
  have happ : (headSpec ws rm).appliesLoose y e.platform (U.calling g mk a) = true :=
    Spec.appliesLoose_calling (g := g) h hdg hn hkY hinitY
      (X.room_calling (g := g) (R' := (headSpec ws rm).room) hsize hmY hcY hframes (by rw [hlY]; omega) h4 h5) h1
  obtain ⟨mid, hmid⟩ := h.above
  have hfr : (U.setTop g).frames = (.java g :: mid) ++ below := by rw [State.frames_setTop' g h.top, hmid]; rfl
  obtain ⟨o, s₂, hsteps, -, hend, hq⟩ := Steps.callFree hM p X.admits X.cas X.clock (acts := []) hfr happ hPc trivial
  have hq' : vx_Q Qc XC mc ms free a (U.calling g mk a) o s₂ := hq
  rw [State.frames_setTop' g h.top] at hend
  obtain ⟨g₀, hg0⟩ := Option.isSome_iff_exists.mp h.top
  obtain ⟨r, hr⟩ := State.topJava?_eq_some.mp hg0
  have hr' : (({ U with heap := s₂.heap, slotsUsed := s₂.slotsUsed } : State).setVm s₂.vm).frames = .java g₀ :: r := hr
  rcases hq' with ⟨hqc, L, hfe, hL⟩ | ⟨q, rfl, E, ce, L, hx, hce, hcv, hcl, hW₂, hsm, hL⟩
  · obtain ⟨⟨v, rfl⟩, hW₂, e2, q2, q3, q4, q5, q6⟩ := id hfe
    have e3 : s₂ = ({ (U.calling g mk a).setFrames s₂.frames with heap := s₂.heap, slotsUsed := s₂.slotsUsed } : State).setVm s₂.vm := by
      have : s₂ = ({ s₂ with vm := (U.calling g mk a).vm } : State).setVm s₂.vm := rfl
      rw [e2] at this
      exact this
    obtain ⟨c₂, i₂, len₂, hc₂, hd₂, hf₂⟩ := hend
    have hW' : U.WarmedH s₂.vm := hW₂
    have hcc : c₂ = c := by
      have h1 : s₂.code? g.method = U.code? g.method := by
        rw [State.code?_eq, State.code?_eq, hW'.alike.method?]
      exact Option.some.inj (hc₂.symm.trans (h1.trans h.code))
    subst hcc
    have hlen : len₂ = len := by rw [hdg] at hd₂; cases hd₂; rfl
    subst hlen
    have hs₂ : s₂ = (({ U with heap := s₂.heap, slotsUsed := s₂.slotsUsed } : State).setVm s₂.vm).setTop { g with pc := g.pc + len₂, stack := v.toList ++ g.stack } := by
      refine e3.trans ?_
      rw [hf₂, State.calling_eq h.top, State.setFrames_setFrames, State.setTop_of_frames _ hr', hr]
      rfl
    have hsame : U.sameButNew ({ U with heap := s₂.heap, slotsUsed := s₂.slotsUsed } : State) L mc ms := by
      refine ⟨?_, q2, q3, q4, q5, q6⟩
      obtain ⟨t, ht, -⟩ := State.frames_cons hr
      show ({ U with heap := s₂.heap, slotsUsed := s₂.slotsUsed } : State) = { U.setFrames U.frames with heap := s₂.heap, slotsUsed := s₂.slotsUsed }
      rw [State.setFrames_self ht]
    subst hg
    refine Or.inl ⟨v, ⟨(({ U with heap := s₂.heap, slotsUsed := s₂.slotsUsed } : State).setVm s₂.vm), Ls ++ L, c0 + mc, s0 + ms⟩,
      ⟨X.admits, X.cas, X.clock, X.frames, X.room, X.hears, X.method, X.code, (X.here.setHeapUsed s₂.heap s₂.slotsUsed).setVm hW'.alike, X.tail, State.WarmedH.trans X.warmed hW', X.limits, X.bytes, X.same.trans (hsame.setVm s.vm)⟩,
      ⟨g, mk, s₂, L, rfl, rfl, hqc, rfl, hL, rfl, rfl⟩, ?_⟩
    show Steps p.tables e below _ ((({ U with heap := s₂.heap, slotsUsed := s₂.slotsUsed } : State).setVm s₂.vm).setTop { g with pc := g.pc + len₂, stack := v.toList ++ g.stack })
    rw [← hs₂]
    exact hsteps
  · obtain ⟨e2, q2, q3, q4, q5, q6⟩ := id hsm
    have e3 : s₂ = ({ (U.calling g mk a).setFrames s₂.frames with heap := s₂.heap, slotsUsed := s₂.slotsUsed } : State).setVm s₂.vm := by
      have : s₂ = ({ s₂ with vm := (U.calling g mk a).vm } : State).setVm s₂.vm := rfl
      rw [e2] at this
      exact this
    have hf₂ : s₂.frames = .throwing q :: .java g :: U.frames.tail := hend
    have hW' : U.WarmedH s₂.vm := hW₂
    have hs₂ : s₂ = ((({ U with heap := s₂.heap, slotsUsed := s₂.slotsUsed } : State).setVm s₂.vm).setTop g).pushFrame (.throwing q) := by
      refine e3.trans ?_
      rw [hf₂, State.calling_eq h.top, State.setFrames_setFrames, State.pushFrame, State.frames_setTop _ hr', State.setTop_of_frames _ hr', State.setFrames_setFrames, hr]
      rfl
    have hsame : U.sameButNew ({ U with heap := s₂.heap, slotsUsed := s₂.slotsUsed } : State) L mc ms := by
      refine ⟨?_, q2, q3, q4, q5, q6⟩
      obtain ⟨t, ht, -⟩ := State.frames_cons hr
      show ({ U with heap := s₂.heap, slotsUsed := s₂.slotsUsed } : State) = { U.setFrames U.frames with heap := s₂.heap, slotsUsed := s₂.slotsUsed }
      rw [State.setFrames_self ht]
    subst hg
    refine Or.inr ⟨q, ⟨(({ U with heap := s₂.heap, slotsUsed := s₂.slotsUsed } : State).setVm s₂.vm), Ls ++ L, c0 + mc, s0 + ms⟩,
      ⟨X.admits, X.cas, X.clock, X.frames, X.room, X.hears, X.method, X.code, (X.here.setHeapUsed s₂.heap s₂.slotsUsed).setVm hW'.alike, X.tail, State.WarmedH.trans X.warmed hW', X.limits, X.bytes, X.same.trans (hsame.setVm s.vm)⟩,
      ⟨g, mk, s₂, L, E, ce, rfl, rfl, hx, hce, hcv, hcl, rfl, hL, rfl, rfl⟩, ?_⟩
    show Steps p.tables e below _ (((({ U with heap := s₂.heap, slotsUsed := s₂.slotsUsed } : State).setVm s₂.vm).setTop g).pushFrame (.throwing q))
    rw [← hs₂]
    exact hsteps
end
variable {p : Program} {l : Launch} {e : Env} {R : Room} {s : State} {m : MethodId} {args : Array Value} {below : List Frame} {meth : Method} {c : Code} {T : State} {H : Heap} {locs : List Loc} {cells slots : Nat}
theorem vx_callVX (X : Stand p l e R s m args below meth c T locs cells slots) (hexec : p.tables.exec = Jvm.exec) {own C : String} {index : Nat} {y : MethodName} {bytes : ByteArray} {maxL : Nat} {ret : Option FieldType} {hh : List (Nat × Nat × Nat × Nat)}
    (hown : s.vm.findClass own = some m.cls) (hlink : (Cond.methodLink own index y).before args s = true) (hinst : (Cond.instanceMethod y).before args s = true) (hsel : (Cond.selects C y y).before args s = true)
    (hcode : (Cond.codeWith y bytes maxL ret hh).before args s = true) (hy : y.cls ≠ "java/lang/invoke/MethodHandle" ∧ y.cls ≠ "java/lang/invoke/VarHandle")
    {W9 : Nat} {Pre : Pt → Array Value → Prop} {Post : Pt → Array Value → Option Value → Pt → Prop} {PostX : Pt → Array Value → Addr → Pt → Prop} (hK : vx_Back l R p e below s args y 3 W9 Pre Post PostX)
    {b : Addr} {cellB : Cell} (hcell : T.heap[b]? = some cellB) (hobj : cellB.vm.isStatics = false) (hcls : s.vm.findClass C = some cellB.cls)
    {g : JFrame} (hg : g.method = m) (hsize : g.locals.size = c.maxLocals) {argsL rest : List Value} (hlen : ∀ sig, parseMethodDescriptor y.desc = some sig → argsL.length = sig.parameters.length)
    (hstack : g.stack = argsL.reverse ++ .ref b :: rest) (hW : 2 * g.monitorRoom + (rest.map fun v => v.category).sum ≤ W9) (hdg : decode c.code g.pc = .ok (.invokevirtual index, 3))
    (hpre : ∀ vm₁, s.WarmedH vm₁ → Pre ⟨T.setVm vm₁, locs, cells, slots⟩ (Value.ref b :: argsL).toArray) :
    (∃ (v : Option Value) (vm₁ : Vm) (B : Pt), s.WarmedH vm₁ ∧ Stand p l e R s m args below meth c B.U B.locs B.cells B.slots ∧ Post ⟨T.setVm vm₁, locs, cells, slots⟩ (Value.ref b :: argsL).toArray v B ∧
      ∀ target, Steps p.tables e below (B.U.setTop { g with pc := g.pc + 3, stack := v.toList ++ rest }) target → Steps p.tables e below (T.setTop g) target) ∨
    (∃ (q : Addr) (vm₁ : Vm) (B : Pt), s.WarmedH vm₁ ∧ Stand p l e R s m args below meth c B.U B.locs B.cells B.slots ∧ PostX ⟨T.setVm vm₁, locs, cells, slots⟩ (Value.ref b :: argsL).toArray q B ∧
      Steps p.tables e below (T.setTop g) ((B.U.setTop { g with stack := rest }).pushFrame (.throwing q))) := by
  obtain ⟨mk, methM, hnamed, hmethM, hstM, habM⟩ := Cond.instanceMethod_spec hinst
  obtain ⟨m8, methM', cM, hn8, hmethM', -, -, -, -, -, -, hsigM⟩ := Cond.codeWith_spec hcode
  cases Option.some.inj (hn8.symm.trans hnamed)
  cases hmethM.symm.trans hmethM'
  obtain ⟨c2, r2, m2, q1, q2, q3, q4, kP, hkP, hkPi⟩ := Cond.selects_spec hsel
  cases hcls.symm.trans q1
  cases (State.methodFound?_of_named hnamed hy).symm.trans q2
  cases hnamed.symm.trans q3
  have hselP : selectMethod e.platform s.vm cellB.cls mk = .method mk := by rw [Launch.admits_selectMethod X.admits]; exact q4
  obtain ⟨vm₁, X₁, hstep₁⟩ := X.invokevirtual hexec hown hlink hnamed hmethM hstM hkP hkPi hy (a := b) (cell := cellB) hcell
    (fun z h => by rw [h] at hobj; cases hobj) hselP hmethM habM hkP hkPi (g := g) hg (argsL := argsL) (rest := rest) (hlen _ hsigM) hstack hdg
  rcases hK m meth c ⟨T.setVm vm₁, locs, cells, slots⟩ { g with stack := rest } (.invokevirtual index) mk (Value.ref b :: argsL).toArray X₁ hg hsize hdg hW (X₁.named hnamed) (hpre vm₁ X₁.warmed) with ⟨v, B, X', hpost, hsteps⟩ | ⟨q, B, X', hpost, hsteps⟩
  · exact Or.inl ⟨v, vm₁, B, X₁.warmed, X', hpost, fun target h => hstep₁ _ fun acts => by rw [doInvoke_state]; exact hsteps.trans h⟩
  · exact Or.inr ⟨q, vm₁, B, X₁.warmed, X', hpost, hstep₁ _ fun acts => by rw [doInvoke_state]; exact hsteps⟩
theorem vx_callSX (X : Stand p l e R s m args below meth c T locs cells slots) (hexec : p.tables.exec = Jvm.exec) {own : String} {index : Nat} {y : MethodName} {bytes : ByteArray} {maxL : Nat} {ret : Option FieldType} {hh : List (Nat × Nat × Nat × Nat)}
    (hown : s.vm.findClass own = some m.cls) (hlink : (Cond.methodLink own index y).before args s = true) (hstat : (Cond.static y).before args s = true) (hinit : (Cond.initialized y.cls).before args s = true)
    (hcode : (Cond.codeWith y bytes maxL ret hh).before args s = true) (hy : y.cls ≠ "java/lang/invoke/MethodHandle" ∧ y.cls ≠ "java/lang/invoke/VarHandle")
    {W9 : Nat} {Pre : Pt → Array Value → Prop} {Post : Pt → Array Value → Option Value → Pt → Prop} {PostX : Pt → Array Value → Addr → Pt → Prop} (hK : vx_Back l R p e below s args y 3 W9 Pre Post PostX)
    {g : JFrame} (hg : g.method = m) (hsize : g.locals.size = c.maxLocals) {argsL rest : List Value} (hlen : ∀ sig, parseMethodDescriptor y.desc = some sig → argsL.length = sig.parameters.length)
    (hstack : g.stack = argsL.reverse ++ rest) (hW : 2 * g.monitorRoom + (rest.map fun v => v.category).sum ≤ W9) (hdg : decode c.code g.pc = .ok (.invokestatic index, 3))
    (hpre : ∀ vm₁, s.WarmedH vm₁ → Pre ⟨T.setVm vm₁, locs, cells, slots⟩ argsL.toArray) :
    (∃ (v : Option Value) (vm₁ : Vm) (B : Pt), s.WarmedH vm₁ ∧ Stand p l e R s m args below meth c B.U B.locs B.cells B.slots ∧ Post ⟨T.setVm vm₁, locs, cells, slots⟩ argsL.toArray v B ∧
      ∀ target, Steps p.tables e below (B.U.setTop { g with pc := g.pc + 3, stack := v.toList ++ rest }) target → Steps p.tables e below (T.setTop g) target) ∨
    (∃ (q : Addr) (vm₁ : Vm) (B : Pt), s.WarmedH vm₁ ∧ Stand p l e R s m args below meth c B.U B.locs B.cells B.slots ∧ PostX ⟨T.setVm vm₁, locs, cells, slots⟩ argsL.toArray q B ∧
      Steps p.tables e below (T.setTop g) ((B.U.setTop { g with stack := rest }).pushFrame (.throwing q))) := by
  obtain ⟨mk, methM, cM, hnamed, hmethM, -, -, -, -, -, -, hsigM⟩ := Cond.codeWith_spec hcode
  have hstatic : methM.isStatic = true := Cond.static_spec hnamed hmethM hstat
  obtain ⟨kP, hkP, -⟩ := className_of_methodNamed hnamed
  have hinitP : kP.init = .initialized := Cond.initialized_spec (findClass_of_methodNamed hnamed) hkP hinit
  obtain ⟨vm₁, X₁, hstep₁⟩ := X.invokestatic hexec hown hlink hnamed hmethM hstatic hkP hinitP hy (g := g) hg (argsL := argsL) (rest := rest) (hlen _ hsigM) hstack hdg
  rcases hK m meth c ⟨T.setVm vm₁, locs, cells, slots⟩ { g with stack := rest } (.invokestatic index) mk argsL.toArray X₁ hg hsize hdg hW (X₁.named hnamed) (hpre vm₁ X₁.warmed) with ⟨v, B, X', hpost, hsteps⟩ | ⟨q, B, X', hpost, hsteps⟩
  · exact Or.inl ⟨v, vm₁, B, X₁.warmed, X', hpost, fun target h => hstep₁ _ fun acts => by rw [doInvoke_state]; exact hsteps.trans h⟩
  · exact Or.inr ⟨q, vm₁, B, X₁.warmed, X', hpost, hstep₁ _ fun acts => by rw [doInvoke_state]; exact hsteps⟩
theorem vx_callVW (X : Stand p l e R s m args below meth c T locs cells slots) (hexec : p.tables.exec = Jvm.exec) {own C : String} {index : Nat} {y : MethodName} {bytes : ByteArray} {maxL : Nat} {ret : Option FieldType} {hh : List (Nat × Nat × Nat × Nat)}
    (hown : s.vm.findClass own = some m.cls) (hlink : (Cond.methodLink own index y).before args s = true) (hinst : (Cond.instanceMethod y).before args s = true) (hsel : (Cond.selects C y y).before args s = true)
    (hcode : (Cond.codeWith y bytes maxL ret hh).before args s = true) (hy : y.cls ≠ "java/lang/invoke/MethodHandle" ∧ y.cls ≠ "java/lang/invoke/VarHandle")
    {W9 : Nat} {Pre : Pt → Array Value → Prop} {Post : Pt → Array Value → Option Value → Pt → Prop} (hK : Back l R p e below s args y 3 W9 Pre Post)
    {b : Addr} {cellB : Cell} (hcell : T.heap[b]? = some cellB) (hobj : cellB.vm.isStatics = false) (hcls : s.vm.findClass C = some cellB.cls)
    {g : JFrame} (hg : g.method = m) (hsize : g.locals.size = c.maxLocals) {argsL rest : List Value} (hlen : ∀ sig, parseMethodDescriptor y.desc = some sig → argsL.length = sig.parameters.length)
    (hstack : g.stack = argsL.reverse ++ .ref b :: rest) (hW : 2 * g.monitorRoom + (rest.map fun v => v.category).sum ≤ W9) (hdg : decode c.code g.pc = .ok (.invokevirtual index, 3))
    (hpre : ∀ vm₁, s.WarmedH vm₁ → Pre ⟨T.setVm vm₁, locs, cells, slots⟩ (Value.ref b :: argsL).toArray) :
    ∃ (v : Option Value) (vm₁ : Vm) (B : Pt), s.WarmedH vm₁ ∧ Stand p l e R s m args below meth c B.U B.locs B.cells B.slots ∧ Post ⟨T.setVm vm₁, locs, cells, slots⟩ (Value.ref b :: argsL).toArray v B ∧
      ∀ target, Steps p.tables e below (B.U.setTop { g with pc := g.pc + 3, stack := v.toList ++ rest }) target → Steps p.tables e below (T.setTop g) target := by
  obtain ⟨mk, methM, hnamed, hmethM, hstM, habM⟩ := Cond.instanceMethod_spec hinst
  obtain ⟨m8, methM', cM, hn8, hmethM', -, -, -, -, -, -, hsigM⟩ := Cond.codeWith_spec hcode
  cases Option.some.inj (hn8.symm.trans hnamed)
  cases hmethM.symm.trans hmethM'
  obtain ⟨c2, r2, m2, q1, q2, q3, q4, kP, hkP, hkPi⟩ := Cond.selects_spec hsel
  cases hcls.symm.trans q1
  cases (State.methodFound?_of_named hnamed hy).symm.trans q2
  cases hnamed.symm.trans q3
  have hselP : selectMethod e.platform s.vm cellB.cls mk = .method mk := by rw [Launch.admits_selectMethod X.admits]; exact q4
  obtain ⟨vm₁, X₁, hstep₁⟩ := X.invokevirtual hexec hown hlink hnamed hmethM hstM hkP hkPi hy (a := b) (cell := cellB) hcell
    (fun z h => by rw [h] at hobj; cases hobj) hselP hmethM habM hkP hkPi (g := g) hg (argsL := argsL) (rest := rest) (hlen _ hsigM) hstack hdg
  obtain ⟨v, B, X', hpost, hsteps⟩ := hK m meth c ⟨T.setVm vm₁, locs, cells, slots⟩ { g with stack := rest } (.invokevirtual index) mk (Value.ref b :: argsL).toArray X₁ hg hsize hdg hW (X₁.named hnamed) (hpre vm₁ X₁.warmed)
  exact ⟨v, vm₁, B, X₁.warmed, X', hpost, fun target h => hstep₁ _ fun acts => by rw [doInvoke_state]; exact hsteps.trans h⟩
abbrev vx_CVW (R : Room) (s : State) (args : Array Value) (own C : String) (index : Nat) (y : MethodName) (bytes : ByteArray) (maxL : Nat) (ret : Option FieldType) (hh : List (Nat × Nat × Nat × Nat)) (ws : List Cond) (rm : Room) (mc ms n : Nat) : Prop :=
  (rm.cells = mc ∧ rm.slots = ms ∧ rm.frames + 1 ≤ R.frames ∧ 8 + (maxL + 11) + rm.locals ≤ R.locals ∧ (∀ w ∈ ws, ∀ (a' : Array Value) (U : State), s.WarmedH U.vm → w.before a' U = true) ∧ Cond.codeWith y bytes maxL ret hh ∈ ws) ∧
  (Cond.codeWith y bytes maxL ret hh).before args s = true ∧ (Cond.initialized y.cls).before args s = true ∧ (y.cls ≠ "java/lang/invoke/MethodHandle" ∧ y.cls ≠ "java/lang/invoke/VarHandle") ∧
  (∀ sig, parseMethodDescriptor y.desc = some sig → n = sig.parameters.length) ∧ (Cond.methodLink own index y).before args s = true ∧ (Cond.instanceMethod y).before args s = true ∧ (Cond.selects C y y).before args s = true
theorem vx_cwVW {own C : String} {index maxL mc ms : Nat} {y : MethodName} {bytes : ByteArray} {ret : Option FieldType} {hh : List (Nat × Nat × Nat × Nat)} {Ts ws ws' : List Cond} {rm : Room} (n : Nat) (ht : ∀ w ∈ Ts, w.before args s = true) (hT : GoodIn Ts (wsV own index C y ws)) (hw : ws = Cond.codeWith y bytes maxL ret hh :: ws') (hrc : rm.cells = mc) (hrs : rm.slots = ms)
    (hd : y.cls = C ∧ y.cls ≠ "java/lang/invoke/MethodHandle" ∧ y.cls ≠ "java/lang/invoke/VarHandle" ∧ (parseMethodDescriptor y.desc).map (fun d => d.parameters.length) = some n) (hR : rm.frames + 1 ≤ R.frames ∧ 8 + (maxL + 11) + rm.locals ≤ R.locals) :
    vx_CVW R s args own C index y bytes maxL ret hh ws rm mc ms n := by
  obtain ⟨hC, hd⟩ := hd
  subst hC
  have ok : ∀ w ∈ wsV own index y.cls y ws, w.before args s = true := fun w h => ht w (hT w h).1
  have hG : GoodIn Ts ws := fun w h => hT w (by unfold wsV; exact List.mem_append_right _ h)
  have hc : Cond.codeWith y bytes maxL ret hh ∈ ws := by rw [hw]; exact List.mem_cons_self
  refine ⟨⟨hrc, hrs, hR.1, hR.2, pay_in ht hG, hc⟩, ht _ (hG _ hc).1, ok _ (by simp [wsV]), ⟨hd.1, hd.2.1⟩, fun sig h => ?_, ok _ (by simp [wsV]), ok _ (by simp [wsV]), ok _ (by simp [wsV])⟩
  have h2 := hd.2.2
  rw [h] at h2
  exact (Option.some.inj h2).symm
theorem vx_runVW {y : MethodName} {bytes cc : ByteArray} {maxL nL mc ms n index : Nat} {ret : Option FieldType} {hh : List (Nat × Nat × Nat × Nat)} {ws : List Cond} {rm : Room} {Pc : Array Value → State → Prop} {Qc : Array Value → State → Outcome → State → Prop} {free : Addr → Prop} {Ts : List Cond} {own C : String} {b : Addr} {As rest : List Value} {g : JFrame}
    (S : CallFix p m c cc nL s args Ts own) (hM : Met l y ws rm Pc Qc mc ms free) (cw : vx_CVW R s args own C index y bytes maxL ret hh ws rm mc ms n) (hp : PreV s H C b Pc As)
    (hg : g.method = m) (hn : As.length = n) (hsize : g.locals.size = nL) (hstack : g.stack = As.reverse ++ .ref b :: rest) (hW : 2 * g.monitorRoom + (rest.map fun v => v.category).sum ≤ 8) (hdg : decode cc g.pc = .ok (.invokevirtual index, 3)) (hf : cells + mc ≤ R.cells ∧ slots + ms ≤ R.slots) :
    va_Run p l e R s m args below meth c H locs cells slots mc ms g rest (Qc (Value.ref b :: As).toArray) free := by
  obtain ⟨⟨hrc, hrs, hfr, hlo, hws, hcw⟩, hcode, hini, hy, hlen, hl, hin, hse⟩ := cw
  have hK : Back l R p e below s args y 3 8 (PreOf R mc ms Pc) (PostOf Qc mc ms free) := va_backW (hh := hh) (bytes := bytes) (maxL := maxL) (ret := ret) hM hp.1 hrc hrs hfr hlo hws hcw (fun a' U hW => word_at hW (Or.inl (by first | rfl | simp [Cond.onTables, Cond.keeps, Cond.steady])) hini)
  obtain ⟨hx, hb, hml, ho, -⟩ := S
  obtain ⟨-, ⟨cellB, hcB, hoB, hclB⟩, hPc⟩ := hp
  intro T hT X
  obtain ⟨v, vm₁, ⟨U', l2, c2, s2⟩, hW₁, X', ⟨g', mk, t, L, e1, e2, hq, h1, hL, h2, h3⟩, st⟩ := vx_callVW X hx (C := C) (hh := hh) (bytes := bytes) (maxL := maxL) (ret := ret) ho hl hin hse hcode hy hK (by rw [hT]; exact hcB) hoB hclB hg (hsize.trans hml.symm) (argsL := As) (rest := rest) (fun sig h => hn.trans (hlen sig h)) hstack hW (by rw [hb]; exact hdg)
    (fun vm₁ hW₁ => ⟨hf.1, hf.2, hPc (T.setVm vm₁) hT hW₁⟩)
  dsimp only [Pt.U, Pt.locs, Pt.cells, Pt.slots] at X' e1 e2 h1 h2 h3 st
  subst h1; subst h2; subst h3
  exact ⟨v, (T.setVm vm₁).calling g' mk (Value.ref b :: As).toArray, t, U', L, hT, X', hL, e1, e2, hq, st⟩
section
variable {y : MethodName} {bytes cc : ByteArray} {maxL nL mc ms n index : Nat} {ret : Option FieldType} {ws : List Cond} {rm : Room} {Pc : Array Value → State → Prop} {Qc : Array Value → State → Outcome → State → Prop} {XC : String → State → State → Prop} {free : Addr → Prop} {Ts : List Cond} {own C : String} {b : Addr} {As rest : List Value} {g : JFrame}
theorem vx_runVX {hh : List (Nat × Nat × Nat × Nat)} (S : CallFix p m c cc nL s args Ts own) (hM : vx_Met l y ws rm Pc Qc XC mc ms free) (cw : vx_CVW R s args own C index y bytes maxL ret hh ws rm mc ms n) (hp : PreV s H C b Pc As)
    (hg : g.method = m) (hn : As.length = n) (hsize : g.locals.size = nL) (hstack : g.stack = As.reverse ++ .ref b :: rest) (hW : 2 * g.monitorRoom + (rest.map fun v => v.category).sum ≤ 8) (hdg : decode cc g.pc = .ok (.invokevirtual index, 3)) (hf : cells + mc ≤ R.cells ∧ slots + ms ≤ R.slots) :
    vx_Run p l e R s m args below meth c H locs cells slots mc ms g rest (Qc (Value.ref b :: As).toArray) XC free := by
  obtain ⟨⟨hrc, hrs, hfr, hlo, hws, hcw⟩, hcode, hini, hy, hlen, hl, hin, hse⟩ := cw
  have hK : vx_Back l R p e below s args y 3 8 (PreOf R mc ms Pc) (PostOf Qc mc ms free) (vx_Post XC mc ms free) := vx_backW (hh := hh) (bytes := bytes) (maxL := maxL) (ret := ret) hM hp.1 hrc hrs hfr hlo hws hcw (fun a' U hW => word_at hW (Or.inl (by first | rfl | simp [Cond.onTables, Cond.keeps, Cond.steady])) hini)
  obtain ⟨hx, hb, hml, ho, -⟩ := S
  obtain ⟨-, ⟨cellB, hcB, hoB, hclB⟩, hPc⟩ := hp
  intro T hT X
  rcases vx_callVX X hx (C := C) (hh := hh) (bytes := bytes) (maxL := maxL) (ret := ret) ho hl hin hse hcode hy hK (by rw [hT]; exact hcB) hoB hclB hg (hsize.trans hml.symm) (argsL := As) (rest := rest) (fun sig h => hn.trans (hlen sig h)) hstack hW (by rw [hb]; exact hdg)
    (fun vm₁ hW₁ => ⟨hf.1, hf.2, hPc (T.setVm vm₁) hT hW₁⟩) with ⟨v, vm₁, ⟨U', l2, c2, s2⟩, hW₁, X', ⟨g', mk, t, L, e1, e2, hq, h1, hL, h2, h3⟩, st⟩ | ⟨q, vm₁, ⟨U', l2, c2, s2⟩, hW₁, X', ⟨g', mk, t, L, E, ce, e1, e2, hq, hce, hcv, hcl, h1, hL, h2, h3⟩, st⟩
  · dsimp only [Pt.U, Pt.locs, Pt.cells, Pt.slots] at X' e1 e2 h1 h2 h3 st
    subst h1; subst h2; subst h3
    exact Or.inl ⟨v, (T.setVm vm₁).calling g' mk (Value.ref b :: As).toArray, t, U', L, hT, X', hL, e1, e2, hq, st⟩
  · dsimp only [Pt.U, Pt.locs, Pt.cells, Pt.slots] at X' e1 e2 h1 h2 h3 st hcl
    subst h1; subst h2; subst h3
    exact Or.inr ⟨q, (T.setVm vm₁).calling g' mk (Value.ref b :: As).toArray, t, U', L, E, ce, hT, X', hL, e1, e2, hq, hce, hcv, vx_cls hW₁ hcl, st⟩
theorem vx_runSX {hh : List (Nat × Nat × Nat × Nat)} (S : CallFix p m c cc nL s args Ts own) (hM : vx_Met l y ws rm Pc Qc XC mc ms free) (cw : vx_CSW R s args own index y bytes maxL ret hh ws rm mc ms n) (hp : PreS s H Pc As)
    (hg : g.method = m) (hn : As.length = n) (hsize : g.locals.size = nL) (hstack : g.stack = As.reverse ++ rest) (hW : 2 * g.monitorRoom + (rest.map fun v => v.category).sum ≤ 8) (hdg : decode cc g.pc = .ok (.invokestatic index, 3)) (hf : cells + mc ≤ R.cells ∧ slots + ms ≤ R.slots) :
    vx_Run p l e R s m args below meth c H locs cells slots mc ms g rest (Qc As.toArray) XC free := by
  obtain ⟨⟨hrc, hrs, hfr, hlo, hws, hcw⟩, hcode, hini, hy, hlen, hl, hstt⟩ := cw
  have hK : vx_Back l R p e below s args y 3 8 (PreOf R mc ms Pc) (PostOf Qc mc ms free) (vx_Post XC mc ms free) := vx_backW (hh := hh) (bytes := bytes) (maxL := maxL) (ret := ret) hM hp.1 hrc hrs hfr hlo hws hcw (fun a' U hW => word_at hW (Or.inl (by first | rfl | simp [Cond.onTables, Cond.keeps, Cond.steady])) hini)
  obtain ⟨hx, hb, hml, ho, -⟩ := S
  intro T hT X
  rcases vx_callSX X hx (hh := hh) (bytes := bytes) (maxL := maxL) (ret := ret) ho hl hstt hini hcode hy hK hg (hsize.trans hml.symm) (argsL := As) (rest := rest) (fun sig h => hn.trans (hlen sig h)) hstack hW (by rw [hb]; exact hdg)
    (fun vm₁ hW₁ => ⟨hf.1, hf.2, hp.2 (T.setVm vm₁) hT hW₁⟩) with ⟨v, vm₁, ⟨U', l2, c2, s2⟩, hW₁, X', ⟨g', mk, t, L, e1, e2, hq, h1, hL, h2, h3⟩, st⟩ | ⟨q, vm₁, ⟨U', l2, c2, s2⟩, hW₁, X', ⟨g', mk, t, L, E, ce, e1, e2, hq, hce, hcv, hcl, h1, hL, h2, h3⟩, st⟩
  · dsimp only [Pt.U, Pt.locs, Pt.cells, Pt.slots] at X' e1 e2 h1 h2 h3 st
    subst h1; subst h2; subst h3
    exact Or.inl ⟨v, (T.setVm vm₁).calling g' mk As.toArray, t, U', L, hT, X', hL, e1, e2, hq, st⟩
  · dsimp only [Pt.U, Pt.locs, Pt.cells, Pt.slots] at X' e1 e2 h1 h2 h3 st hcl
    subst h1; subst h2; subst h3
    exact Or.inr ⟨q, (T.setVm vm₁).calling g' mk As.toArray, t, U', L, E, ce, hT, X', hL, e1, e2, hq, hce, hcv, vx_cls hW₁ hcl, st⟩
end
end VXH
theorem vx_ofWH {l : Launch} {y : MethodName} {ws ws' : List Cond} {rm : Room} {Pc : Array Value → State → Prop} {Qc : Array Value → State → Outcome → State → Prop} {XC : String → State → State → Prop} {mc ms : Nat} {free : Addr → Prop} {cc : ByteArray} {maxL : Nat} {ret : Option FieldType} {hh : List (Nat × Nat × Nat × Nat)}
    (hy : plainName y.cls = true) (hw : ws = Cond.codeWith y cc maxL ret hh :: ws')
    (body : ∀ p e s m args below meth c s₁, BodyLoose p l y (headSpec ws rm) cc maxL ret e s m args below meth c s₁ → c.maxLocals = maxL → Pc args s →
      W p l e (headSpec ws rm).room s m args below meth c s.heap [] 0 0 (vx_MQ below Qc XC args s mc ms free) (entryFrame m args maxL)) : vx_Met l y ws rm Pc Qc XC mc ms free := by
  refine MetFree.of_bodyS (code := cc) (maxLocals := maxL) (ret := ret) hy ?_ ?_
  · intro args s m h hn
    obtain ⟨m9, meth, c, hn9, h1, h2, h3, h4, -, h5, h6, -⟩ := Cond.codeWith_spec (atoms_spec (ws := ws) h _ (by rw [hw]; exact List.mem_cons_self))
    cases hn.symm.trans hn9
    exact ⟨meth, c, h1, h2, h3, h4, h5, h6⟩
  · intro p e s m args below meth c s₁ B hml hP _
    have hh0 : s₁.heap = s.heap := by rw [B.state]; rfl
    obtain ⟨t, a1, o, b1, b2, b3⟩ := body p e s m args below meth c s₁ B hml hP s₁ hh0 (Stand.of_body B)
    exact ⟨t, o, a1, b1, b2, b3⟩
end
section
def wT : List Cond := lw_tbl.filter goodWord
theorem wT_t {w : Cond} (h : w ∈ tables_1) (g : goodWord w = true) : w ∈ wT := List.mem_filter.mpr ⟨List.mem_append_right _ h, g⟩
theorem wT_s {q : MethodName × Nat} (h : q ∈ lw_privs) (g : goodWord (Cond.selects q.1.cls q.1 q.1) = true) : Cond.selects q.1.cls q.1 q.1 ∈ wT := List.mem_filter.mpr ⟨List.mem_append_left _ (List.mem_map.mpr ⟨q, h, rfl⟩), g⟩
theorem wT_g {ws : List Cond} (h : ∀ w ∈ ws, w ∈ wT) : GoodIn wT ws := fun w hw => ⟨h w hw, good_of_word (List.mem_filter.mp (h w hw)).2⟩
theorem wT_c {w : Cond} (h5 : w ∈ wT) : ∀ v ∈ w :: wT, v ∈ wT := fun v hv => by
  rcases List.mem_cons.mp hv with rfl | h
  · exact h5
  · exact h
theorem wT_V {own C : String} {idx : Nat} {y : MethodName} {w : Cond} (h1 : Cond.methodLink own idx y ∈ wT) (h2 : Cond.instanceMethod y ∈ wT) (h3 : Cond.selects C y y ∈ wT) (h4 : Cond.initialized C ∈ wT) (h5 : w ∈ wT) : GoodIn wT (wsV own idx C y (w :: wT)) := wT_g (fun v hv => by
  rcases List.mem_append.mp hv with h | h
  · simp only [List.mem_cons, List.not_mem_nil, or_false] at h
    rcases h with rfl | rfl | rfl | rfl
    · exact h1
    · exact h2
    · exact h3
    · exact h4
  · exact wT_c h5 v h)
theorem wT_S {own : String} {idx : Nat} {y : MethodName} {w : Cond} (h1 : Cond.methodLink own idx y ∈ wT) (h2 : Cond.static y ∈ wT) (h4 : Cond.initialized y.cls ∈ wT) (h5 : w ∈ wT) : GoodIn wT (va_wsS own idx y (w :: wT)) := wT_g (fun v hv => by
  rcases List.mem_append.mp hv with h | h
  · simp only [List.mem_cons, List.not_mem_nil, or_false] at h
    rcases h with rfl | rfl | rfl
    · exact h1
    · exact h2
    · exact h4
  · exact wT_c h5 v h)
theorem wT_S0 {own : String} {idx : Nat} {y : MethodName} {w : Cond} (h1 : Cond.methodLink own idx y ∈ wT) (h2 : Cond.static y ∈ wT) (h4 : Cond.initialized own ∈ wT) (h5 : w ∈ wT) : GoodIn wT (wsS own idx y (w :: wT)) := wT_g (fun v hv => by
  rcases List.mem_append.mp hv with h | h
  · simp only [List.mem_cons, List.not_mem_nil, or_false] at h
    rcases h with rfl | rfl | rfl
    · exact h1
    · exact h2
    · exact h4
  · exact wT_c h5 v h)
theorem wT_I {w : Cond} (h5 : w ∈ wT) : GoodIn wT (w :: wT) := wT_g (wT_c h5)
theorem x_hT {w : Cond} {rm : Room} {args : Array Value} {s : State} (h : (headSpec (w :: wT) rm).pre.before args s = true) : ∀ v ∈ wT, v.before args s = true := fun v hv => atoms_spec (ws := w :: wT) h v (List.mem_cons_of_mem _ hv)
def xR_De : String := "LayerDesk"
def xT_De : u_T := fun k => match k with
  | 0 => ("LayerDesk", "written", "LLayerDesk$Line;", true)
  | 1 => ("LayerDesk", "shelf", "LLayerDesk$Shelf;", true)
  | 2 => ("LayerDesk", "chooser", "LLayerDesk$Chooser;", true)
  | 3 => ("LayerDesk", "layers", "[LLayerDesk$Layer;", true)
  | 4 => ("LayerDesk", "made", "I", false)
  | _ => ("LayerDesk", "latestFault", "I", false)
def xt_De : Nat → FieldType := fun k => match k with
  | 0 => .object "LayerDesk$Line"
  | 1 => .object "LayerDesk$Shelf"
  | 2 => .object "LayerDesk$Chooser"
  | 3 => .array (.object "LayerDesk$Layer")
  | 4 => .int
  | _ => .int
theorem xn_De : ∀ a, a < 6 → ∀ b, b < 6 → a ≠ b → (xT_De a).2.1 ≠ (xT_De b).2.1 := by decide +kernel
theorem xt_De_ok : ∀ k, k < 6 → parseFieldDescriptor (xT_De k).2.2.1 = some (xt_De k) := by decide +kernel
theorem xi_De : ∀ w ∈ u_ws xR_De xT_De 6, w ∈ wT := fun w hw => by
  have h : w ∈ ([Cond.laysFinal xR_De "LayerDesk" "written" "LLayerDesk$Line;", Cond.laysFinal xR_De "LayerDesk" "shelf" "LLayerDesk$Shelf;", Cond.laysFinal xR_De "LayerDesk" "chooser" "LLayerDesk$Chooser;", Cond.laysFinal xR_De "LayerDesk" "layers" "[LLayerDesk$Layer;", Cond.lays xR_De "LayerDesk" "made" "I", Cond.lays xR_De "LayerDesk" "latestFault" "I"] : List Cond) := hw
  simp only [List.mem_cons, List.not_mem_nil, or_false] at h
  rcases h with rfl | rfl | rfl | rfl | rfl | rfl
  · exact wT_t (List.mem_append_left _ (List.mem_of_getElem? (i := 105) rfl)) rfl
  · exact wT_t (List.mem_append_left _ (List.mem_of_getElem? (i := 107) rfl)) rfl
  · exact wT_t (List.mem_append_left _ (List.mem_of_getElem? (i := 109) rfl)) rfl
  · exact wT_t (List.mem_append_left _ (List.mem_of_getElem? (i := 111) rfl)) rfl
  · exact wT_t (List.mem_append_left _ (List.mem_of_getElem? (i := 113) rfl)) rfl
  · exact wT_t (List.mem_append_left _ (List.mem_of_getElem? (i := 115) rfl)) rfl
def xR_Li : String := "LayerDesk$Line"
def xT_Li : u_T := fun k => match k with
  | 0 => ("LayerDesk$Line", "text", "[C", true)
  | 1 => ("LayerDesk$Line", "starts", "[I", true)
  | 2 => ("LayerDesk$Line", "ends", "[I", true)
  | 3 => ("LayerDesk$Line", "length", "I", false)
  | _ => ("LayerDesk$Line", "words", "I", false)
def xt_Li : Nat → FieldType := fun k => match k with
  | 0 => .array .char
  | 1 => .array .int
  | 2 => .array .int
  | 3 => .int
  | _ => .int
theorem xn_Li : ∀ a, a < 5 → ∀ b, b < 5 → a ≠ b → (xT_Li a).2.1 ≠ (xT_Li b).2.1 := by decide +kernel
theorem xt_Li_ok : ∀ k, k < 5 → parseFieldDescriptor (xT_Li k).2.2.1 = some (xt_Li k) := by decide +kernel
theorem xi_Li : ∀ w ∈ u_ws xR_Li xT_Li 5, w ∈ wT := fun w hw => by
  have h : w ∈ ([Cond.laysFinal xR_Li "LayerDesk$Line" "text" "[C", Cond.laysFinal xR_Li "LayerDesk$Line" "starts" "[I", Cond.laysFinal xR_Li "LayerDesk$Line" "ends" "[I", Cond.lays xR_Li "LayerDesk$Line" "length" "I", Cond.lays xR_Li "LayerDesk$Line" "words" "I"] : List Cond) := hw
  simp only [List.mem_cons, List.not_mem_nil, or_false] at h
  rcases h with rfl | rfl | rfl | rfl | rfl
  · exact wT_t (List.mem_append_left _ (List.mem_of_getElem? (i := 43) rfl)) rfl
  · exact wT_t (List.mem_append_left _ (List.mem_of_getElem? (i := 45) rfl)) rfl
  · exact wT_t (List.mem_append_left _ (List.mem_of_getElem? (i := 47) rfl)) rfl
  · exact wT_t (List.mem_append_left _ (List.mem_of_getElem? (i := 49) rfl)) rfl
  · exact wT_t (List.mem_append_left _ (List.mem_of_getElem? (i := 51) rfl)) rfl
def xR_Sh : String := "LayerDesk$Shelf"
def xT_Sh : u_T := fun k => match k with
  | 0 => ("LayerDesk$Shelf", "descriptors", "[LLayerDesk$Descriptor;", true)
  | _ => ("LayerDesk$Shelf", "size", "I", false)
def xt_Sh : Nat → FieldType := fun k => match k with
  | 0 => .array (.object "LayerDesk$Descriptor")
  | _ => .int
theorem xn_Sh : ∀ a, a < 2 → ∀ b, b < 2 → a ≠ b → (xT_Sh a).2.1 ≠ (xT_Sh b).2.1 := by decide +kernel
theorem xt_Sh_ok : ∀ k, k < 2 → parseFieldDescriptor (xT_Sh k).2.2.1 = some (xt_Sh k) := by decide +kernel
theorem xi_Sh : ∀ w ∈ u_ws xR_Sh xT_Sh 2, w ∈ wT := fun w hw => by
  have h : w ∈ ([Cond.laysFinal xR_Sh "LayerDesk$Shelf" "descriptors" "[LLayerDesk$Descriptor;", Cond.lays xR_Sh "LayerDesk$Shelf" "size" "I"] : List Cond) := hw
  simp only [List.mem_cons, List.not_mem_nil, or_false] at h
  rcases h with rfl | rfl
  · exact wT_t (List.mem_append_left _ (List.mem_of_getElem? (i := 69) rfl)) rfl
  · exact wT_t (List.mem_append_left _ (List.mem_of_getElem? (i := 71) rfl)) rfl
def xR_Ch : String := "LayerDesk$Chooser"
def xT_Ch : u_T := fun k => match k with
  | 0 => ("LayerDesk$Chooser", "shelf", "LLayerDesk$Shelf;", true)
  | 1 => ("LayerDesk$Chooser", "chosen", "[LLayerDesk$Descriptor;", true)
  | 2 => ("LayerDesk$Chooser", "size", "I", false)
  | 3 => ("LayerDesk$Chooser", "finder", "I", false)
  | _ => ("LayerDesk$Chooser", "parent", "LLayerDesk$Layer;", false)
def xt_Ch : Nat → FieldType := fun k => match k with
  | 0 => .object "LayerDesk$Shelf"
  | 1 => .array (.object "LayerDesk$Descriptor")
  | 2 => .int
  | 3 => .int
  | _ => .object "LayerDesk$Layer"
theorem xn_Ch : ∀ a, a < 5 → ∀ b, b < 5 → a ≠ b → (xT_Ch a).2.1 ≠ (xT_Ch b).2.1 := by decide +kernel
theorem xt_Ch_ok : ∀ k, k < 5 → parseFieldDescriptor (xT_Ch k).2.2.1 = some (xt_Ch k) := by decide +kernel
theorem xi_Ch : ∀ w ∈ u_ws xR_Ch xT_Ch 5, w ∈ wT := fun w hw => by
  have h : w ∈ ([Cond.laysFinal xR_Ch "LayerDesk$Chooser" "shelf" "LLayerDesk$Shelf;", Cond.laysFinal xR_Ch "LayerDesk$Chooser" "chosen" "[LLayerDesk$Descriptor;", Cond.lays xR_Ch "LayerDesk$Chooser" "size" "I", Cond.lays xR_Ch "LayerDesk$Chooser" "finder" "I", Cond.lays xR_Ch "LayerDesk$Chooser" "parent" "LLayerDesk$Layer;"] : List Cond) := hw
  simp only [List.mem_cons, List.not_mem_nil, or_false] at h
  rcases h with rfl | rfl | rfl | rfl | rfl
  · exact wT_t (List.mem_append_left _ (List.mem_of_getElem? (i := 86) rfl)) rfl
  · exact wT_t (List.mem_append_left _ (List.mem_of_getElem? (i := 88) rfl)) rfl
  · exact wT_t (List.mem_append_left _ (List.mem_of_getElem? (i := 90) rfl)) rfl
  · exact wT_t (List.mem_append_left _ (List.mem_of_getElem? (i := 92) rfl)) rfl
  · exact wT_t (List.mem_append_left _ (List.mem_of_getElem? (i := 94) rfl)) rfl
def xR_Mo : String := "LayerDeskModel"
def xT_Mo : u_T := fun k => match k with
  | 0 => ("LayerDeskModel", "fault", "I", false)
  | 1 => ("LayerDeskModel", "why", "I", false)
  | 2 => ("LayerDeskModel", "text", "[C", true)
  | 3 => ("LayerDeskModel", "written", "I", false)
  | 4 => ("LayerDeskModel", "words", "I", false)
  | 5 => ("LayerDeskModel", "begin", "[I", true)
  | 6 => ("LayerDeskModel", "end", "[I", true)
  | 7 => ("LayerDeskModel", "descriptors", "I", false)
  | 8 => ("LayerDeskModel", "finder", "[I", true)
  | 9 => ("LayerDeskModel", "name", "[I", true)
  | 10 => ("LayerDeskModel", "packages", "[I", true)
  | 11 => ("LayerDeskModel", "pack", "[I", true)
  | 12 => ("LayerDeskModel", "exportTo", "[I", true)
  | 13 => ("LayerDeskModel", "openTo", "[I", true)
  | 14 => ("LayerDeskModel", "exportAll", "[Z", true)
  | 15 => ("LayerDeskModel", "openAll", "[Z", true)
  | 16 => ("LayerDeskModel", "locked", "[Z", true)
  | 17 => ("LayerDeskModel", "requires", "[I", true)
  | 18 => ("LayerDeskModel", "require", "[I", true)
  | 19 => ("LayerDeskModel", "use", "[I", true)
  | 20 => ("LayerDeskModel", "provide", "[I", true)
  | 21 => ("LayerDeskModel", "passes", "[Z", true)
  | 22 => ("LayerDeskModel", "still", "[Z", true)
  | 23 => ("LayerDeskModel", "layers", "I", false)
  | 24 => ("LayerDeskModel", "finderOf", "[I", true)
  | 25 => ("LayerDeskModel", "parent", "[I", true)
  | 26 => ("LayerDeskModel", "modules", "[I", true)
  | 27 => ("LayerDeskModel", "module", "[I", true)
  | 28 => ("LayerDeskModel", "open", "[Z", true)
  | 29 => ("LayerDeskModel", "stack", "[I", true)
  | _ => ("LayerDeskModel", "seen", "[Z", true)
def xt_Mo : Nat → FieldType := fun k => match k with
  | 0 => .int
  | 1 => .int
  | 2 => .array .char
  | 3 => .int
  | 4 => .int
  | 5 => .array .int
  | 6 => .array .int
  | 7 => .int
  | 8 => .array .int
  | 9 => .array .int
  | 10 => .array .int
  | 11 => .array .int
  | 12 => .array .int
  | 13 => .array .int
  | 14 => .array .boolean
  | 15 => .array .boolean
  | 16 => .array .boolean
  | 17 => .array .int
  | 18 => .array .int
  | 19 => .array .int
  | 20 => .array .int
  | 21 => .array .boolean
  | 22 => .array .boolean
  | 23 => .int
  | 24 => .array .int
  | 25 => .array .int
  | 26 => .array .int
  | 27 => .array .int
  | 28 => .array .boolean
  | 29 => .array .int
  | _ => .array .boolean
theorem xn_Mo : ∀ a, a < 31 → ∀ b, b < 31 → a ≠ b → (xT_Mo a).2.1 ≠ (xT_Mo b).2.1 := by decide +kernel
theorem xt_Mo_ok : ∀ k, k < 31 → parseFieldDescriptor (xT_Mo k).2.2.1 = some (xt_Mo k) := by decide +kernel
theorem xi_Mo : ∀ w ∈ u_ws xR_Mo xT_Mo 31, w ∈ wT := fun w hw => by
  have h : w ∈ ([Cond.lays xR_Mo "LayerDeskModel" "fault" "I", Cond.lays xR_Mo "LayerDeskModel" "why" "I", Cond.laysFinal xR_Mo "LayerDeskModel" "text" "[C", Cond.lays xR_Mo "LayerDeskModel" "written" "I", Cond.lays xR_Mo "LayerDeskModel" "words" "I", Cond.laysFinal xR_Mo "LayerDeskModel" "begin" "[I", Cond.laysFinal xR_Mo "LayerDeskModel" "end" "[I", Cond.lays xR_Mo "LayerDeskModel" "descriptors" "I", Cond.laysFinal xR_Mo "LayerDeskModel" "finder" "[I", Cond.laysFinal xR_Mo "LayerDeskModel" "name" "[I", Cond.laysFinal xR_Mo "LayerDeskModel" "packages" "[I", Cond.laysFinal xR_Mo "LayerDeskModel" "pack" "[I", Cond.laysFinal xR_Mo "LayerDeskModel" "exportTo" "[I", Cond.laysFinal xR_Mo "LayerDeskModel" "openTo" "[I", Cond.laysFinal xR_Mo "LayerDeskModel" "exportAll" "[Z", Cond.laysFinal xR_Mo "LayerDeskModel" "openAll" "[Z", Cond.laysFinal xR_Mo "LayerDeskModel" "locked" "[Z", Cond.laysFinal xR_Mo "LayerDeskModel" "requires" "[I", Cond.laysFinal xR_Mo "LayerDeskModel" "require" "[I", Cond.laysFinal xR_Mo "LayerDeskModel" "use" "[I", Cond.laysFinal xR_Mo "LayerDeskModel" "provide" "[I", Cond.laysFinal xR_Mo "LayerDeskModel" "passes" "[Z", Cond.laysFinal xR_Mo "LayerDeskModel" "still" "[Z", Cond.lays xR_Mo "LayerDeskModel" "layers" "I", Cond.laysFinal xR_Mo "LayerDeskModel" "finderOf" "[I", Cond.laysFinal xR_Mo "LayerDeskModel" "parent" "[I", Cond.laysFinal xR_Mo "LayerDeskModel" "modules" "[I", Cond.laysFinal xR_Mo "LayerDeskModel" "module" "[I", Cond.laysFinal xR_Mo "LayerDeskModel" "open" "[Z", Cond.laysFinal xR_Mo "LayerDeskModel" "stack" "[I", Cond.laysFinal xR_Mo "LayerDeskModel" "seen" "[Z"] : List Cond) := hw
  simp only [List.mem_cons, List.not_mem_nil, or_false] at h
  rcases h with rfl | rfl | rfl | rfl | rfl | rfl | rfl | rfl | rfl | rfl | rfl | rfl | rfl | rfl | rfl | rfl | rfl | rfl | rfl | rfl | rfl | rfl | rfl | rfl | rfl | rfl | rfl | rfl | rfl | rfl | rfl
  · exact wT_t (List.mem_append_right _ (List.mem_append_right _ (List.mem_append_right _ (List.mem_append_left _ (List.mem_of_getElem? (i := 115) rfl))))) rfl
  · exact wT_t (List.mem_append_right _ (List.mem_append_right _ (List.mem_append_right _ (List.mem_append_left _ (List.mem_of_getElem? (i := 117) rfl))))) rfl
  · exact wT_t (List.mem_append_right _ (List.mem_append_right _ (List.mem_append_right _ (List.mem_append_left _ (List.mem_of_getElem? (i := 119) rfl))))) rfl
  · exact wT_t (List.mem_append_right _ (List.mem_append_right _ (List.mem_append_right _ (List.mem_append_left _ (List.mem_of_getElem? (i := 121) rfl))))) rfl
  · exact wT_t (List.mem_append_right _ (List.mem_append_right _ (List.mem_append_right _ (List.mem_append_left _ (List.mem_of_getElem? (i := 123) rfl))))) rfl
  · exact wT_t (List.mem_append_right _ (List.mem_append_right _ (List.mem_append_right _ (List.mem_append_left _ (List.mem_of_getElem? (i := 125) rfl))))) rfl
  · exact wT_t (List.mem_append_right _ (List.mem_append_right _ (List.mem_append_right _ (List.mem_append_left _ (List.mem_of_getElem? (i := 127) rfl))))) rfl
  · exact wT_t (List.mem_append_right _ (List.mem_append_right _ (List.mem_append_right _ (List.mem_append_left _ (List.mem_of_getElem? (i := 129) rfl))))) rfl
  · exact wT_t (List.mem_append_right _ (List.mem_append_right _ (List.mem_append_right _ (List.mem_append_left _ (List.mem_of_getElem? (i := 131) rfl))))) rfl
  · exact wT_t (List.mem_append_right _ (List.mem_append_right _ (List.mem_append_right _ (List.mem_append_left _ (List.mem_of_getElem? (i := 133) rfl))))) rfl
  · exact wT_t (List.mem_append_right _ (List.mem_append_right _ (List.mem_append_right _ (List.mem_append_left _ (List.mem_of_getElem? (i := 135) rfl))))) rfl
  · exact wT_t (List.mem_append_right _ (List.mem_append_right _ (List.mem_append_right _ (List.mem_append_left _ (List.mem_of_getElem? (i := 137) rfl))))) rfl
  · exact wT_t (List.mem_append_right _ (List.mem_append_right _ (List.mem_append_right _ (List.mem_append_left _ (List.mem_of_getElem? (i := 139) rfl))))) rfl
  · exact wT_t (List.mem_append_right _ (List.mem_append_right _ (List.mem_append_right _ (List.mem_append_left _ (List.mem_of_getElem? (i := 141) rfl))))) rfl
  · exact wT_t (List.mem_append_right _ (List.mem_append_right _ (List.mem_append_right _ (List.mem_append_left _ (List.mem_of_getElem? (i := 143) rfl))))) rfl
  · exact wT_t (List.mem_append_right _ (List.mem_append_right _ (List.mem_append_right _ (List.mem_append_left _ (List.mem_of_getElem? (i := 145) rfl))))) rfl
  · exact wT_t (List.mem_append_right _ (List.mem_append_right _ (List.mem_append_right _ (List.mem_append_left _ (List.mem_of_getElem? (i := 147) rfl))))) rfl
  · exact wT_t (List.mem_append_right _ (List.mem_append_right _ (List.mem_append_right _ (List.mem_append_left _ (List.mem_of_getElem? (i := 149) rfl))))) rfl
  · exact wT_t (List.mem_append_right _ (List.mem_append_right _ (List.mem_append_right _ (List.mem_append_left _ (List.mem_of_getElem? (i := 151) rfl))))) rfl
  · exact wT_t (List.mem_append_right _ (List.mem_append_right _ (List.mem_append_right _ (List.mem_append_left _ (List.mem_of_getElem? (i := 153) rfl))))) rfl
  · exact wT_t (List.mem_append_right _ (List.mem_append_right _ (List.mem_append_right _ (List.mem_append_left _ (List.mem_of_getElem? (i := 155) rfl))))) rfl
  · exact wT_t (List.mem_append_right _ (List.mem_append_right _ (List.mem_append_right _ (List.mem_append_left _ (List.mem_of_getElem? (i := 157) rfl))))) rfl
  · exact wT_t (List.mem_append_right _ (List.mem_append_right _ (List.mem_append_right _ (List.mem_append_left _ (List.mem_of_getElem? (i := 159) rfl))))) rfl
  · exact wT_t (List.mem_append_right _ (List.mem_append_right _ (List.mem_append_right _ (List.mem_append_left _ (List.mem_of_getElem? (i := 161) rfl))))) rfl
  · exact wT_t (List.mem_append_right _ (List.mem_append_right _ (List.mem_append_right _ (List.mem_append_left _ (List.mem_of_getElem? (i := 163) rfl))))) rfl
  · exact wT_t (List.mem_append_right _ (List.mem_append_right _ (List.mem_append_right _ (List.mem_append_left _ (List.mem_of_getElem? (i := 165) rfl))))) rfl
  · exact wT_t (List.mem_append_right _ (List.mem_append_right _ (List.mem_append_right _ (List.mem_append_left _ (List.mem_of_getElem? (i := 167) rfl))))) rfl
  · exact wT_t (List.mem_append_right _ (List.mem_append_right _ (List.mem_append_right _ (List.mem_append_left _ (List.mem_of_getElem? (i := 169) rfl))))) rfl
  · exact wT_t (List.mem_append_right _ (List.mem_append_right _ (List.mem_append_right _ (List.mem_append_left _ (List.mem_of_getElem? (i := 171) rfl))))) rfl
  · exact wT_t (List.mem_append_right _ (List.mem_append_right _ (List.mem_append_right _ (List.mem_append_left _ (List.mem_of_getElem? (i := 173) rfl))))) rfl
  · exact wT_t (List.mem_append_right _ (List.mem_append_right _ (List.mem_append_right _ (List.mem_append_left _ (List.mem_of_getElem? (i := 175) rfl))))) rfl
def xR_Ly : String := "LayerDesk$Layer"
def xT_Ly : u_T := fun k => match k with
  | 0 => ("LayerDesk$Layer", "number", "I", true)
  | 1 => ("LayerDesk$Layer", "parent", "LLayerDesk$Layer;", true)
  | 2 => ("LayerDesk$Layer", "members", "[LLayerDesk$Member;", true)
  | _ => ("LayerDesk$Layer", "open", "Z", false)
def xt_Ly : Nat → FieldType := fun k => match k with
  | 0 => .int
  | 1 => .object "LayerDesk$Layer"
  | 2 => .array (.object "LayerDesk$Member")
  | _ => .boolean
theorem xn_Ly : ∀ a, a < 4 → ∀ b, b < 4 → a ≠ b → (xT_Ly a).2.1 ≠ (xT_Ly b).2.1 := by decide +kernel
theorem xt_Ly_ok : ∀ k, k < 4 → parseFieldDescriptor (xT_Ly k).2.2.1 = some (xt_Ly k) := by decide +kernel
theorem xi_Ly : ∀ w ∈ u_ws xR_Ly xT_Ly 4, w ∈ wT := fun w hw => by
  have h : w ∈ ([Cond.laysFinal xR_Ly "LayerDesk$Layer" "number" "I", Cond.laysFinal xR_Ly "LayerDesk$Layer" "parent" "LLayerDesk$Layer;", Cond.laysFinal xR_Ly "LayerDesk$Layer" "members" "[LLayerDesk$Member;", Cond.lays xR_Ly "LayerDesk$Layer" "open" "Z"] : List Cond) := hw
  simp only [List.mem_cons, List.not_mem_nil, or_false] at h
  rcases h with rfl | rfl | rfl | rfl
  · exact wT_t (List.mem_append_right _ (List.mem_append_right _ (List.mem_append_left _ (List.mem_of_getElem? (i := 153) rfl)))) rfl
  · exact wT_t (List.mem_append_right _ (List.mem_append_right _ (List.mem_append_left _ (List.mem_of_getElem? (i := 155) rfl)))) rfl
  · exact wT_t (List.mem_append_right _ (List.mem_append_right _ (List.mem_append_left _ (List.mem_of_getElem? (i := 157) rfl)))) rfl
  · exact wT_t (List.mem_append_right _ (List.mem_append_right _ (List.mem_append_left _ (List.mem_of_getElem? (i := 159) rfl)))) rfl
def xR_Me : String := "LayerDesk$Member"
def xT_Me : u_T := fun k => match k with
  | 0 => ("LayerDesk$Member", "home", "LLayerDesk$Layer;", true)
  | 1 => ("LayerDesk$Member", "descriptor", "LLayerDesk$Descriptor;", true)
  | 2 => ("LayerDesk$Member", "required", "[LLayerDesk$Member;", true)
  | 3 => ("LayerDesk$Member", "leading", "LLayerDesk$Reach;", true)
  | 4 => ("LayerDesk$Member", "carried", "LLayerDesk$Reach;", true)
  | _ => ("LayerDesk$Member", "reading", "LLayerDesk$Reach;", true)
def xt_Me : Nat → FieldType := fun k => match k with
  | 0 => .object "LayerDesk$Layer"
  | 1 => .object "LayerDesk$Descriptor"
  | 2 => .array (.object "LayerDesk$Member")
  | 3 => .object "LayerDesk$Reach"
  | 4 => .object "LayerDesk$Reach"
  | _ => .object "LayerDesk$Reach"
theorem xn_Me : ∀ a, a < 6 → ∀ b, b < 6 → a ≠ b → (xT_Me a).2.1 ≠ (xT_Me b).2.1 := by decide +kernel
theorem xt_Me_ok : ∀ k, k < 6 → parseFieldDescriptor (xT_Me k).2.2.1 = some (xt_Me k) := by decide +kernel
theorem xi_Me : ∀ w ∈ u_ws xR_Me xT_Me 6, w ∈ wT := fun w hw => by
  have h : w ∈ ([Cond.laysFinal xR_Me "LayerDesk$Member" "home" "LLayerDesk$Layer;", Cond.laysFinal xR_Me "LayerDesk$Member" "descriptor" "LLayerDesk$Descriptor;", Cond.laysFinal xR_Me "LayerDesk$Member" "required" "[LLayerDesk$Member;", Cond.laysFinal xR_Me "LayerDesk$Member" "leading" "LLayerDesk$Reach;", Cond.laysFinal xR_Me "LayerDesk$Member" "carried" "LLayerDesk$Reach;", Cond.laysFinal xR_Me "LayerDesk$Member" "reading" "LLayerDesk$Reach;"] : List Cond) := hw
  simp only [List.mem_cons, List.not_mem_nil, or_false] at h
  rcases h with rfl | rfl | rfl | rfl | rfl | rfl
  · exact wT_t (List.mem_append_right _ (List.mem_append_right _ (List.mem_append_left _ (List.mem_of_getElem? (i := 193) rfl)))) rfl
  · exact wT_t (List.mem_append_right _ (List.mem_append_right _ (List.mem_append_left _ (List.mem_of_getElem? (i := 195) rfl)))) rfl
  · exact wT_t (List.mem_append_right _ (List.mem_append_right _ (List.mem_append_left _ (List.mem_of_getElem? (i := 197) rfl)))) rfl
  · exact wT_t (List.mem_append_right _ (List.mem_append_right _ (List.mem_append_left _ (List.mem_of_getElem? (i := 199) rfl)))) rfl
  · exact wT_t (List.mem_append_right _ (List.mem_append_right _ (List.mem_append_left _ (List.mem_of_getElem? (i := 201) rfl)))) rfl
  · exact wT_t (List.mem_append_right _ (List.mem_append_right _ (List.mem_append_left _ (List.mem_of_getElem? (i := 203) rfl)))) rfl
def xR_Ds : String := "LayerDesk$Descriptor"
def xT_Ds : u_T := fun k => match k with
  | 0 => ("LayerDesk$Descriptor", "number", "I", true)
  | 1 => ("LayerDesk$Descriptor", "finder", "I", true)
  | 2 => ("LayerDesk$Descriptor", "name", "I", true)
  | 3 => ("LayerDesk$Descriptor", "packages", "LLayerDesk$Names;", true)
  | 4 => ("LayerDesk$Descriptor", "exported", "[LLayerDesk$Grant;", true)
  | 5 => ("LayerDesk$Descriptor", "opened", "[LLayerDesk$Grant;", true)
  | 6 => ("LayerDesk$Descriptor", "required", "LLayerDesk$Names;", true)
  | 7 => ("LayerDesk$Descriptor", "transitive", "[Z", true)
  | 8 => ("LayerDesk$Descriptor", "optional", "[Z", true)
  | 9 => ("LayerDesk$Descriptor", "used", "LLayerDesk$Names;", true)
  | 10 => ("LayerDesk$Descriptor", "provided", "LLayerDesk$Names;", true)
  | _ => ("LayerDesk$Descriptor", "settled", "Z", false)
def xt_Ds : Nat → FieldType := fun k => match k with
  | 0 => .int
  | 1 => .int
  | 2 => .int
  | 3 => .object "LayerDesk$Names"
  | 4 => .array (.object "LayerDesk$Grant")
  | 5 => .array (.object "LayerDesk$Grant")
  | 6 => .object "LayerDesk$Names"
  | 7 => .array .boolean
  | 8 => .array .boolean
  | 9 => .object "LayerDesk$Names"
  | 10 => .object "LayerDesk$Names"
  | _ => .boolean
theorem xn_Ds : ∀ a, a < 12 → ∀ b, b < 12 → a ≠ b → (xT_Ds a).2.1 ≠ (xT_Ds b).2.1 := by decide +kernel
theorem xt_Ds_ok : ∀ k, k < 12 → parseFieldDescriptor (xT_Ds k).2.2.1 = some (xt_Ds k) := by decide +kernel
theorem xi_Ds : ∀ w ∈ u_ws xR_Ds xT_Ds 12, w ∈ wT := fun w hw => by
  have h : w ∈ ([Cond.laysFinal xR_Ds "LayerDesk$Descriptor" "number" "I", Cond.laysFinal xR_Ds "LayerDesk$Descriptor" "finder" "I", Cond.laysFinal xR_Ds "LayerDesk$Descriptor" "name" "I", Cond.laysFinal xR_Ds "LayerDesk$Descriptor" "packages" "LLayerDesk$Names;", Cond.laysFinal xR_Ds "LayerDesk$Descriptor" "exported" "[LLayerDesk$Grant;", Cond.laysFinal xR_Ds "LayerDesk$Descriptor" "opened" "[LLayerDesk$Grant;", Cond.laysFinal xR_Ds "LayerDesk$Descriptor" "required" "LLayerDesk$Names;", Cond.laysFinal xR_Ds "LayerDesk$Descriptor" "transitive" "[Z", Cond.laysFinal xR_Ds "LayerDesk$Descriptor" "optional" "[Z", Cond.laysFinal xR_Ds "LayerDesk$Descriptor" "used" "LLayerDesk$Names;", Cond.laysFinal xR_Ds "LayerDesk$Descriptor" "provided" "LLayerDesk$Names;", Cond.lays xR_Ds "LayerDesk$Descriptor" "settled" "Z"] : List Cond) := hw
  simp only [List.mem_cons, List.not_mem_nil, or_false] at h
  rcases h with rfl | rfl | rfl | rfl | rfl | rfl | rfl | rfl | rfl | rfl | rfl | rfl
  · exact wT_t (List.mem_append_right _ (List.mem_append_left _ (List.mem_of_getElem? (i := 85) rfl))) rfl
  · exact wT_t (List.mem_append_right _ (List.mem_append_left _ (List.mem_of_getElem? (i := 87) rfl))) rfl
  · exact wT_t (List.mem_append_right _ (List.mem_append_left _ (List.mem_of_getElem? (i := 89) rfl))) rfl
  · exact wT_t (List.mem_append_right _ (List.mem_append_left _ (List.mem_of_getElem? (i := 91) rfl))) rfl
  · exact wT_t (List.mem_append_right _ (List.mem_append_left _ (List.mem_of_getElem? (i := 93) rfl))) rfl
  · exact wT_t (List.mem_append_right _ (List.mem_append_left _ (List.mem_of_getElem? (i := 95) rfl))) rfl
  · exact wT_t (List.mem_append_right _ (List.mem_append_left _ (List.mem_of_getElem? (i := 97) rfl))) rfl
  · exact wT_t (List.mem_append_right _ (List.mem_append_left _ (List.mem_of_getElem? (i := 99) rfl))) rfl
  · exact wT_t (List.mem_append_right _ (List.mem_append_left _ (List.mem_of_getElem? (i := 101) rfl))) rfl
  · exact wT_t (List.mem_append_right _ (List.mem_append_left _ (List.mem_of_getElem? (i := 103) rfl))) rfl
  · exact wT_t (List.mem_append_right _ (List.mem_append_left _ (List.mem_of_getElem? (i := 105) rfl))) rfl
  · exact wT_t (List.mem_append_right _ (List.mem_append_left _ (List.mem_of_getElem? (i := 107) rfl))) rfl
def xR_Na : String := "LayerDesk$Names"
def xT_Na : u_T := fun k => match k with
  | 0 => ("LayerDesk$Names", "entries", "[I", true)
  | _ => ("LayerDesk$Names", "size", "I", false)
def xt_Na : Nat → FieldType := fun k => match k with
  | 0 => .array .int
  | _ => .int
theorem xn_Na : ∀ a, a < 2 → ∀ b, b < 2 → a ≠ b → (xT_Na a).2.1 ≠ (xT_Na b).2.1 := by decide +kernel
theorem xt_Na_ok : ∀ k, k < 2 → parseFieldDescriptor (xT_Na k).2.2.1 = some (xt_Na k) := by decide +kernel
theorem xi_Na : ∀ w ∈ u_ws xR_Na xT_Na 2, w ∈ wT := fun w hw => by
  have h : w ∈ ([Cond.laysFinal xR_Na "LayerDesk$Names" "entries" "[I", Cond.lays xR_Na "LayerDesk$Names" "size" "I"] : List Cond) := hw
  simp only [List.mem_cons, List.not_mem_nil, or_false] at h
  rcases h with rfl | rfl
  · exact wT_t (List.mem_append_right _ (List.mem_append_left _ (List.mem_of_getElem? (i := 38) rfl))) rfl
  · exact wT_t (List.mem_append_right _ (List.mem_append_left _ (List.mem_of_getElem? (i := 40) rfl))) rfl
def xR_Gr : String := "LayerDesk$Grant"
def xT_Gr : u_T := fun k => match k with
  | 0 => ("LayerDesk$Grant", "names", "LLayerDesk$Names;", true)
  | _ => ("LayerDesk$Grant", "toAll", "Z", false)
def xt_Gr : Nat → FieldType := fun k => match k with
  | 0 => .object "LayerDesk$Names"
  | _ => .boolean
theorem xn_Gr : ∀ a, a < 2 → ∀ b, b < 2 → a ≠ b → (xT_Gr a).2.1 ≠ (xT_Gr b).2.1 := by decide +kernel
theorem xt_Gr_ok : ∀ k, k < 2 → parseFieldDescriptor (xT_Gr k).2.2.1 = some (xt_Gr k) := by decide +kernel
theorem xi_Gr : ∀ w ∈ u_ws xR_Gr xT_Gr 2, w ∈ wT := fun w hw => by
  have h : w ∈ ([Cond.laysFinal xR_Gr "LayerDesk$Grant" "names" "LLayerDesk$Names;", Cond.lays xR_Gr "LayerDesk$Grant" "toAll" "Z"] : List Cond) := hw
  simp only [List.mem_cons, List.not_mem_nil, or_false] at h
  rcases h with rfl | rfl
  · exact wT_t (List.mem_append_right _ (List.mem_append_left _ (List.mem_of_getElem? (i := 146) rfl))) rfl
  · exact wT_t (List.mem_append_right _ (List.mem_append_left _ (List.mem_of_getElem? (i := 148) rfl))) rfl
def xR_Re : String := "LayerDesk$Reach"
def xT_Re : u_T := fun k => match k with
  | _ => ("LayerDesk$Reach", "rows", "[I", true)
def xt_Re : Nat → FieldType := fun k => match k with
  | _ => .array .int
theorem xn_Re : ∀ a, a < 1 → ∀ b, b < 1 → a ≠ b → (xT_Re a).2.1 ≠ (xT_Re b).2.1 := by decide +kernel
theorem xt_Re_ok : ∀ k, k < 1 → parseFieldDescriptor (xT_Re k).2.2.1 = some (xt_Re k) := by decide +kernel
theorem xi_Re : ∀ w ∈ u_ws xR_Re xT_Re 1, w ∈ wT := fun w hw => by
  have h : w ∈ ([Cond.laysFinal xR_Re "LayerDesk$Reach" "rows" "[I"] : List Cond) := hw
  simp only [List.mem_cons, List.not_mem_nil, or_false] at h
  rcases h with rfl
  · exact wT_t (List.mem_append_right _ (List.mem_append_right _ (List.mem_append_left _ (List.mem_of_getElem? (i := 175) rfl)))) rfl
def xcl : List vw_C := [(xR_De, xT_De, 6), (xR_Li, xT_Li, 5), (xR_Sh, xT_Sh, 2), (xR_Ch, xT_Ch, 5), (xR_Mo, xT_Mo, 31), (xR_Ly, xT_Ly, 4), (xR_Me, xT_Me, 6), (xR_Ds, xT_Ds, 12), (xR_Na, xT_Na, 2), (xR_Gr, xT_Gr, 2), (xR_Re, xT_Re, 1)]
def xty (kA : Nat → ClassId) : List (ClassId × FieldType) := [(kA 0, .int), (kA 1, .char), (kA 2, .boolean), (kA 3, .long), (kA 4, .object "LayerDesk$Descriptor"), (kA 5, .object "LayerDesk$Layer"), (kA 6, .object "LayerDesk$Member"), (kA 7, .object "LayerDesk$Reach"), (kA 8, .object "LayerDesk$Grant")]
def xE1 (U : State) : Prop := va_Nw (.methodLinkNest "LayerDesk" 9 ⟨"LayerDesk$Line", "<init>", "()V"⟩ "LayerDesk") U ∧ va_Nw (.methodLinkNest "LayerDesk" 18 ⟨"LayerDesk$Shelf", "<init>", "()V"⟩ "LayerDesk") U ∧ va_Nw (.methodLinkNest "LayerDesk$Descriptor" 64 ⟨"LayerDesk$Grant", "<init>", "()V"⟩ "LayerDesk") U ∧ va_Nw (.methodLinkNest "LayerDesk$Member" 11 ⟨"LayerDesk$Reach", "<init>", "()V"⟩ "LayerDesk") U ∧ va_AO "LayerDesk$Descriptor" U ∧ va_AO "LayerDesk$Layer" U ∧ va_AO "LayerDesk$Member" U ∧ va_AO "LayerDesk$Reach" U ∧ va_AO "LayerDesk$Grant" U
theorem xE1.warm {s U : State} (hW : s.WarmedH U.vm) (h : xE1 s) : xE1 U := by
  obtain ⟨h1, h2, h3, h4, h5, h6, h7, h8, h9⟩ := h
  exact ⟨va_Nw.warmM hW h1, va_Nw.warmM hW h2, va_Nw.warmM hW h3, va_Nw.warmM hW h4, va_AO.moved hW.alike h5, va_AO.moved hW.alike h6, va_AO.moved hW.alike h7, va_AO.moved hW.alike h8, va_AO.moved hW.alike h9⟩
theorem xE1.same {s U : State} (hv : s.vm = U.vm) (h : xE1 s) : xE1 U := by
  obtain ⟨h1, h2, h3, h4, h5, h6, h7, h8, h9⟩ := h
  have ha : s.vm.Alike U.vm := by rw [hv]; exact Vm.Alike.refl _
  exact ⟨va_Nw.same rfl hv h1, va_Nw.same rfl hv h2, va_Nw.same rfl hv h3, va_Nw.same rfl hv h4, va_AO.moved ha h5, va_AO.moved ha h6, va_AO.moved ha h7, va_AO.moved ha h8, va_AO.moved ha h9⟩
def xE2 (U : State) : Prop := va_Nw (.declares ⟨"java/lang/RuntimeException", "<init>", "(Ljava/lang/String;)V"⟩) U ∧ va_Nw (.declares ⟨"java/lang/Exception", "<init>", "(Ljava/lang/String;)V"⟩) U ∧ va_Nw (.declares ⟨"java/lang/Throwable", "<init>", "(Ljava/lang/String;)V"⟩) U ∧ va_Nw (.castable "java/lang/IllegalArgumentException" "java/lang/IllegalArgumentException") U ∧ va_Nw (.castable "java/lang/IllegalStateException" "java/lang/IllegalStateException") U ∧ va_Nw (.castable "java/util/NoSuchElementException" "java/util/NoSuchElementException") U
theorem xE2.warm {s U : State} (hW : s.WarmedH U.vm) (h : xE2 s) : xE2 U := by
  obtain ⟨h1, h2, h3, h4, h5, h6⟩ := h
  exact ⟨va_Nw.warmD hW h1, va_Nw.warmD hW h2, va_Nw.warmD hW h3, va_Nw.warmC hW h4, va_Nw.warmC hW h5, va_Nw.warmC hW h6⟩
theorem xE2.same {s U : State} (hv : s.vm = U.vm) (h : xE2 s) : xE2 U := by
  obtain ⟨h1, h2, h3, h4, h5, h6⟩ := h
  exact ⟨va_Nw.same rfl hv h1, va_Nw.same rfl hv h2, va_Nw.same rfl hv h3, va_Nw.same rfl hv h4, va_Nw.same rfl hv h5, va_Nw.same rfl hv h6⟩
def xE (U : State) : Prop := xE1 U ∧ xE2 U
theorem xE.warm {s U : State} (hW : s.WarmedH U.vm) (h : xE s) : xE U := ⟨xE1.warm hW h.1, xE2.warm hW h.2⟩
theorem xE.same {s U : State} (hv : s.vm = U.vm) (h : xE s) : xE U := ⟨xE1.same hv h.1, xE2.same hv h.2⟩
def xK (D : va_G) (kA : Nat → ClassId) (U : State) : Prop := va_K D xcl (xty kA) U ∧ xE U
theorem xK.warm {D : va_G} {kA : Nat → ClassId} {s U : State} (hW : s.WarmedH U.vm) (h : xK D kA s) : xK D kA U := ⟨va_K.moved hW.alike h.1, xE.warm hW h.2⟩
theorem xK.same {D : va_G} {kA : Nat → ClassId} {s U : State} (hv : s.vm = U.vm) (h : xK D kA s) : xK D kA U := ⟨va_K.moved (by rw [hv]; exact Vm.Alike.refl _) h.1, xE.same hv h.2⟩
def xPre (D : va_G) (kA : Nat → ClassId) (sz : Nat) (ws : va_W) (U : State) : Prop := U.heap.size = sz ∧ va_P D xcl ws U.heap ∧ xK D kA U ∧ va_D (fun _ => True) ws
theorem x_blind {av : List Value} {D : va_G} {kA : Nat → ClassId} {sz : Nat} {ws : va_W} : FrameBlind (va_Pc av (xPre D kA sz ws)) := fun a U g mk h => by
  obtain ⟨q0, q1, qP, qK, qD⟩ := h
  exact ⟨q0, q1, qP, xK.same (s := U) (U := U.calling g mk a) rfl qK, qD⟩
theorem x_preS {s : State} {H : Heap} {D : va_G} {kA : Nat → ClassId} {wc : va_W} {A : Nat → Prop} {As : List Value} (hK : xK D kA s) (hP : va_P D xcl wc H) (hD : va_D A wc) : PreS s H (va_Pc As (xPre D kA H.size wc)) As :=
  ⟨x_blind, fun U hU hW => ⟨rfl, by rw [hU], by rw [hU]; exact hP, xK.warm hW hK, hD.weaken (fun _ _ _ _ => trivial)⟩⟩
theorem x_preV {s : State} {H : Heap} {D : va_G} {kA : Nat → ClassId} {wc : va_W} {A : Nat → Prop} {As : List Value} {b ci : Nat} {fs : List Value} {q : vw_C} (hK : xK D kA s) (hP : va_P D xcl wc H) (hD : va_D A wc) (q0 : Nat) (he : wc[q0]? = some (b, .inr (ci, fs))) (hc : xcl[ci]? = some q) : PreV s H q.1 b (va_Pc (.ref b :: As) (xPre D kA H.size wc)) As :=
  ⟨x_blind, va_recv hK.1 hP hc he, fun U hU hW => ⟨rfl, by rw [hU], by rw [hU]; exact hP, xK.warm hW hK, hD.weaken (fun _ _ _ _ => trivial)⟩⟩
section XA
variable {p : Program} {l : Launch} {e : Env} {R : Room} {s : State} {m : MethodId} {args : Array Value} {below : List Frame} {meth : Method} {c : Code} {H : Heap} {locs : List Loc} {cells slots : Nat} {Q : State → Prop}
variable {cc : ByteArray} {pc : Nat} {ls : Array Slot} {rest : List Value} {D : va_G} {cl : List vw_C} {tys : List (ClassId × FieldType)} {ws : va_W} {A : Nat → Prop} {H0 : Heap}
theorem xa_newa (hexec : p.tables.exec = Jvm.exec) (hb : c.code = cc) {atype : ArrayType} (harr : (Cond.arrayClass (newarray.typeOf atype)).before args s = true) {ty : FieldType} (hty : newarray.typeOf atype = ty) (hra : ∀ cA : ClassId, va_RA s cA ty → s.vm.findClass ("[" ++ ty.toString) = some cA) (hK : va_K D cl tys s) (t0 : Nat) {cA0 : ClassId} (ht : tys[t0]? = some (cA0, ty)) (hP : va_P D cl ws H) (hD : va_D A ws) (hS : va_S A H0 H locs) (hA : ∀ q, H0.size ≤ q → A q)
    {n : Int32} {N' : Nat} {a0 : vp_A} (ha : ∀ cA : ClassId, vp_cell cA a0 = arrV cA N' (fun _ => defaultValue ty)) (hn : ¬ n < 0) (hN : n.toNatClampNeg = N') (hbytes : N' * componentBytes ty ≤ 536870912) (hcells : cells + 1 ≤ R.cells) (hslots : slots + N' ≤ R.slots) (hdg : decode cc pc = .ok (.newarray atype, 2))
    (kk : ∀ (q : Nat) (H1 : Heap), va_P D cl (ws ++ [(q, .inl (cA0, a0))]) H1 → va_D A (ws ++ [(q, .inl (cA0, a0))]) → va_S A H0 H1 locs →
      W p l e R s m args below meth c H1 locs (cells + 1) (slots + N') Q (F0 m (pc + 2) ls (.ref q :: rest))) : W p l e R s m args below meth c H locs cells slots Q (F0 m pc ls (.int n :: rest)) := by
  refine va_newa hexec hb harr hty hK hP hD hS hA ha hn hN hbytes hcells hslots hdg (fun q cA H1 hK1 hP1 hD1 hS1 => ?_)
  have e1 := hra _ (hK.2 t0 _ ht).2
  have e2 := hra _ (hK1.2 tys.length (cA, ty) (by simp)).2
  cases Option.some.inj (e1.symm.trans e2)
  exact kk q H1 hP1 hD1 hS1
theorem xa_newq (hexec : p.tables.exec = Jvm.exec) (hb : c.code = cc) {own C : String} {index : Nat} (hown : s.vm.findClass own = some m.cls) (hclink : (Cond.classLink own index C).before args s = true) (hover : va_AO C s) (hK : va_K D cl tys s) (t0 : Nat) {cA0 : ClassId} (ht : tys[t0]? = some (cA0, .object C)) (hP : va_P D cl ws H) (hD : va_D A ws) (hS : va_S A H0 H locs) (hA : ∀ q, H0.size ≤ q → A q)
    {n : Int32} {N' : Nat} (hn : ¬ n < 0) (hN : n.toNatClampNeg = N') (hbytes : N' * 4 ≤ 536870912) (hcells : cells + 1 ≤ R.cells) (hslots : slots + N' ≤ R.slots) (hdg : decode cc pc = .ok (.anewarray index, 3))
    (kk : ∀ (q : Nat) (H1 : Heap), va_P D cl (ws ++ [(q, .inl (cA0, N', .inr (.inr (.inr (.inr (fun _ => none))))))]) H1 → va_D A (ws ++ [(q, .inl (cA0, N', .inr (.inr (.inr (.inr (fun _ => none))))))]) → va_S A H0 H1 locs →
      W p l e R s m args below meth c H1 locs (cells + 1) (slots + N') Q (F0 m (pc + 3) ls (.ref q :: rest))) : W p l e R s m args below meth c H locs cells slots Q (F0 m pc ls (.int n :: rest)) := by
  refine va_newq hexec hb hown hclink hover hK hP hD hS hA hn hN hbytes hcells hslots hdg (fun q cA H1 hK1 hP1 hD1 hS1 => ?_)
  obtain ⟨-, -, -, -, -, e1⟩ := (hK.2 t0 _ ht).2
  obtain ⟨-, -, -, -, -, e2⟩ := (hK1.2 tys.length (cA, .object C) (by simp)).2
  cases Option.some.inj (e1.symm.trans e2)
  exact kk q H1 hP1 hD1 hS1
end XA
end
section
def xR_La : String := "LayerDeskLaw"
abbrev xb_Li_init : ByteArray := prog_6_method_1_code
def xy_Li_init : MethodName := ⟨"LayerDesk$Line", "<init>", "()V"⟩
abbrev xb_Sh_init : ByteArray := prog_10_method_1_code
def xy_Sh_init : MethodName := ⟨"LayerDesk$Shelf", "<init>", "()V"⟩
abbrev xb_Ch_init : ByteArray := prog_2_method_1_code
def xy_Ch_init : MethodName := ⟨"LayerDesk$Chooser", "<init>", "(LLayerDesk$Shelf;)V"⟩
abbrev xb_De_init : ByteArray := prog_1_method_1_code
def xy_De_init : MethodName := ⟨"LayerDesk", "<init>", "()V"⟩
abbrev xb_Mo_init : ByteArray := prog_12_method_1_code
def xy_Mo_init : MethodName := ⟨"LayerDeskModel", "<init>", "()V"⟩
abbrev xb_Li_append : ByteArray := prog_6_method_2_code
def xy_Li_append : MethodName := ⟨"LayerDesk$Line", "append", "(C)Z"⟩
abbrev xb_De_write : ByteArray := prog_1_method_2_code
def xy_De_write : MethodName := ⟨"LayerDesk", "write", "(C)Z"⟩
abbrev xb_Li_take : ByteArray := prog_6_method_3_code
def xy_Li_take : MethodName := ⟨"LayerDesk$Line", "take", "()V"⟩
abbrev xb_Li_takeName : ByteArray := prog_6_method_4_code
def xy_Li_takeName : MethodName := ⟨"LayerDesk$Line", "takeName", "()I"⟩
abbrev xb_Sh_accept : ByteArray := prog_10_method_4_code
def xy_Sh_accept : MethodName := ⟨"LayerDesk$Shelf", "accept", "(LLayerDesk$Line;)I"⟩
abbrev xb_De_line : ByteArray := prog_1_method_3_code
def xy_De_line : MethodName := ⟨"LayerDesk", "line", "()I"⟩
abbrev xb_De_fault : ByteArray := prog_1_method_5_code
def xy_De_fault : MethodName := ⟨"LayerDesk", "fault", "()I"⟩
abbrev xb_De_openLayer : ByteArray := prog_1_method_14_code
def xy_De_openLayer : MethodName := ⟨"LayerDesk", "openLayer", "(I)LLayerDesk$Layer;"⟩
abbrev xb_De_close : ByteArray := prog_1_method_6_code
def xy_De_close : MethodName := ⟨"LayerDesk", "close", "(I)Z"⟩
abbrev xb_De_countOpen : ByteArray := prog_1_method_22_code
def xy_De_countOpen : MethodName := ⟨"LayerDesk", "countOpen", "()I"⟩
abbrev xb_De_count : ByteArray := prog_1_method_7_code
def xy_De_count : MethodName := ⟨"LayerDesk", "count", "(I)I"⟩
abbrev xb_De_modules : ByteArray := prog_1_method_8_code
def xy_De_modules : MethodName := ⟨"LayerDesk", "modules", "(I)I"⟩
abbrev xb_De_memberAt : ByteArray := prog_1_method_15_code
def xy_De_memberAt : MethodName := ⟨"LayerDesk", "memberAt", "(II)LLayerDesk$Member;"⟩
abbrev xb_De_memberOf : ByteArray := prog_1_method_16_code
def xy_De_memberOf : MethodName := ⟨"LayerDesk", "memberOf", "(II)LLayerDesk$Member;"⟩
abbrev xb_De_module : ByteArray := prog_1_method_9_code
def xy_De_module : MethodName := ⟨"LayerDesk", "module", "(II)I"⟩
abbrev xb_De_reads : ByteArray := prog_1_method_10_code
def xy_De_reads : MethodName := ⟨"LayerDesk", "reads", "(IIII)Z"⟩
abbrev xb_De_rootsAreNames : ByteArray := prog_1_method_17_code
def xy_De_rootsAreNames : MethodName := ⟨"LayerDesk", "rootsAreNames", "()Z"⟩
abbrev xb_De_layer : ByteArray := prog_1_method_4_code
def xy_De_layer : MethodName := ⟨"LayerDesk", "layer", "(IIZ)I"⟩
abbrev xb_De_load : ByteArray := prog_1_method_11_code
def xy_De_load : MethodName := ⟨"LayerDesk", "load", "(II)I"⟩
abbrev xb_De_peek : ByteArray := prog_1_method_12_code
def xy_De_peek : MethodName := ⟨"LayerDesk", "peek", "(IIII)Z"⟩
abbrev xb_De_provider : ByteArray := prog_1_method_13_code
def xy_De_provider : MethodName := ⟨"LayerDesk", "provider", "(II)I"⟩
abbrev xb_Mo_thrown : ByteArray := prog_12_method_2_code
def xy_Mo_thrown : MethodName := ⟨"LayerDeskModel", "thrown", "()I"⟩
abbrev xb_Mo_fails : ByteArray := prog_12_method_3_code
def xy_Mo_fails : MethodName := ⟨"LayerDeskModel", "fails", "(I)I"⟩
abbrev xb_Mo_write : ByteArray := prog_12_method_4_code
def xy_Mo_write : MethodName := ⟨"LayerDeskModel", "write", "(C)Z"⟩
abbrev xb_Mo_split : ByteArray := prog_12_method_5_code
def xy_Mo_split : MethodName := ⟨"LayerDeskModel", "split", "()V"⟩
abbrev xb_Mo_line : ByteArray := prog_12_method_10_code
def xy_Mo_line : MethodName := ⟨"LayerDeskModel", "line", "()I"⟩
abbrev xb_Mo_isOpen : ByteArray := prog_12_method_19_code
def xy_Mo_isOpen : MethodName := ⟨"LayerDeskModel", "isOpen", "(I)Z"⟩
abbrev xb_Mo_layer : ByteArray := prog_12_method_32_code
def xy_Mo_layer : MethodName := ⟨"LayerDeskModel", "layer", "(IIZ)I"⟩
abbrev xb_Mo_fault : ByteArray := prog_12_method_33_code
def xy_Mo_fault : MethodName := ⟨"LayerDeskModel", "fault", "()I"⟩
abbrev xb_Mo_close : ByteArray := prog_12_method_34_code
def xy_Mo_close : MethodName := ⟨"LayerDeskModel", "close", "(I)Z"⟩
abbrev xb_Mo_count : ByteArray := prog_12_method_35_code
def xy_Mo_count : MethodName := ⟨"LayerDeskModel", "count", "(I)I"⟩
abbrev xb_Mo_modules : ByteArray := prog_12_method_36_code
def xy_Mo_modules : MethodName := ⟨"LayerDeskModel", "modules", "(I)I"⟩
abbrev xb_Mo_moduleOf : ByteArray := prog_12_method_37_code
def xy_Mo_moduleOf : MethodName := ⟨"LayerDeskModel", "moduleOf", "(II)I"⟩
abbrev xb_Mo_module : ByteArray := prog_12_method_38_code
def xy_Mo_module : MethodName := ⟨"LayerDeskModel", "module", "(II)I"⟩
abbrev xb_Mo_reads : ByteArray := prog_12_method_40_code
def xy_Mo_reads : MethodName := ⟨"LayerDeskModel", "reads", "(IIII)Z"⟩
abbrev xb_Mo_oneName : ByteArray := prog_12_method_41_code
def xy_Mo_oneName : MethodName := ⟨"LayerDeskModel", "oneName", "()I"⟩
abbrev xb_Mo_load : ByteArray := prog_12_method_42_code
def xy_Mo_load : MethodName := ⟨"LayerDeskModel", "load", "(II)I"⟩
abbrev xb_Mo_peek : ByteArray := prog_12_method_43_code
def xy_Mo_peek : MethodName := ⟨"LayerDeskModel", "peek", "(IIII)Z"⟩
abbrev xb_Mo_provider : ByteArray := prog_12_method_44_code
def xy_Mo_provider : MethodName := ⟨"LayerDeskModel", "provider", "(II)I"⟩
abbrev xb_La_line : ByteArray := method_3_code
def xy_La_line : MethodName := ⟨"LayerDeskLaw", "line", "(LLayerDesk;[J)I"⟩
abbrev xb_La_layer : ByteArray := method_4_code
def xy_La_layer : MethodName := ⟨"LayerDeskLaw", "layer", "(LLayerDesk;IIZ[J)I"⟩
abbrev xb_La_load : ByteArray := method_5_code
def xy_La_load : MethodName := ⟨"LayerDeskLaw", "load", "(LLayerDesk;II[J)I"⟩
abbrev xb_La_peek : ByteArray := method_6_code
def xy_La_peek : MethodName := ⟨"LayerDeskLaw", "peek", "(LLayerDesk;IIII[J)I"⟩
abbrev xb_La_provider : ByteArray := method_7_code
def xy_La_provider : MethodName := ⟨"LayerDeskLaw", "provider", "(LLayerDesk;II[J)I"⟩
theorem xd_Ch_init_0 : decode xb_Ch_init 0 = .ok (.aload_n 0, 1) := by decide +kernel
theorem xd_Ch_init_1 : decode xb_Ch_init 1 = .ok (.invokespecial 3, 3) := by decide +kernel
theorem xd_Ch_init_4 : decode xb_Ch_init 4 = .ok (.aload_n 0, 1) := by decide +kernel
theorem xd_Ch_init_5 : decode xb_Ch_init 5 = .ok (.bipush 12, 2) := by decide +kernel
theorem xd_Ch_init_7 : decode xb_Ch_init 7 = .ok (.anewarray 9, 3) := by decide +kernel
theorem xd_Ch_init_10 : decode xb_Ch_init 10 = .ok (.putfield 11, 3) := by decide +kernel
theorem xd_Ch_init_13 : decode xb_Ch_init 13 = .ok (.aload_n 0, 1) := by decide +kernel
theorem xd_Ch_init_14 : decode xb_Ch_init 14 = .ok (.iconst 0, 1) := by decide +kernel
theorem xd_Ch_init_15 : decode xb_Ch_init 15 = .ok (.putfield 17, 3) := by decide +kernel
theorem xd_Ch_init_18 : decode xb_Ch_init 18 = .ok (.aload_n 0, 1) := by decide +kernel
theorem xd_Ch_init_19 : decode xb_Ch_init 19 = .ok (.iconst 0, 1) := by decide +kernel
theorem xd_Ch_init_20 : decode xb_Ch_init 20 = .ok (.putfield 21, 3) := by decide +kernel
theorem xd_Ch_init_23 : decode xb_Ch_init 23 = .ok (.aload_n 0, 1) := by decide +kernel
theorem xd_Ch_init_24 : decode xb_Ch_init 24 = .ok (.aconst_null, 1) := by decide +kernel
theorem xd_Ch_init_25 : decode xb_Ch_init 25 = .ok (.putfield 24, 3) := by decide +kernel
theorem xd_Ch_init_28 : decode xb_Ch_init 28 = .ok (.aload_n 0, 1) := by decide +kernel
theorem xd_Ch_init_29 : decode xb_Ch_init 29 = .ok (.aload_n 1, 1) := by decide +kernel
theorem xd_Ch_init_30 : decode xb_Ch_init 30 = .ok (.putfield 28, 3) := by decide +kernel
theorem xd_Ch_init_33 : decode xb_Ch_init 33 = .ok (.return_, 1) := by decide +kernel
theorem xd_De_close_0 : decode xb_De_close 0 = .ok (.aload_n 0, 1) := by decide +kernel
theorem xd_De_close_1 : decode xb_De_close 1 = .ok (.iload_n 1, 1) := by decide +kernel
theorem xd_De_close_2 : decode xb_De_close 2 = .ok (.invokevirtual 68, 3) := by decide +kernel
theorem xd_De_close_5 : decode xb_De_close 5 = .ok (.astore_n 2, 1) := by decide +kernel
theorem xd_De_close_6 : decode xb_De_close 6 = .ok (.aload_n 2, 1) := by decide +kernel
theorem xd_De_close_7 : decode xb_De_close 7 = .ok (.ifnull 11, 3) := by decide +kernel
theorem xd_De_close_18 : decode xb_De_close 18 = .ok (.iconst 0, 1) := by decide +kernel
theorem xd_De_close_19 : decode xb_De_close 19 = .ok (.ireturn, 1) := by decide +kernel
theorem xd_De_count_0 : decode xb_De_count 0 = .ok (.iload_n 1, 1) := by decide +kernel
theorem xd_De_count_1 : decode xb_De_count 1 = .ok (.tableswitch 45 0 2 #[27, 35, 40], 27) := by decide +kernel
theorem xd_De_count_28 : decode xb_De_count 28 = .ok (.aload_n 0, 1) := by decide +kernel
theorem xd_De_count_29 : decode xb_De_count 29 = .ok (.getfield 19, 3) := by decide +kernel
theorem xd_De_count_32 : decode xb_De_count 32 = .ok (.getfield 121, 3) := by decide +kernel
theorem xd_De_count_35 : decode xb_De_count 35 = .ok (.ireturn, 1) := by decide +kernel
theorem xd_De_count_36 : decode xb_De_count 36 = .ok (.aload_n 0, 1) := by decide +kernel
theorem xd_De_count_37 : decode xb_De_count 37 = .ok (.getfield 38, 3) := by decide +kernel
theorem xd_De_count_40 : decode xb_De_count 40 = .ok (.ireturn, 1) := by decide +kernel
theorem xd_De_count_41 : decode xb_De_count 41 = .ok (.aload_n 0, 1) := by decide +kernel
theorem xd_De_count_42 : decode xb_De_count 42 = .ok (.invokevirtual 124, 3) := by decide +kernel
theorem xd_De_count_45 : decode xb_De_count 45 = .ok (.ireturn, 1) := by decide +kernel
theorem xd_De_count_46 : decode xb_De_count 46 = .ok (.iconst (-1), 1) := by decide +kernel
theorem xd_De_count_47 : decode xb_De_count 47 = .ok (.ireturn, 1) := by decide +kernel
theorem xd_De_countOpen_0 : decode xb_De_countOpen 0 = .ok (.iconst 0, 1) := by decide +kernel
theorem xd_De_countOpen_1 : decode xb_De_countOpen 1 = .ok (.istore_n 1, 1) := by decide +kernel
theorem xd_De_countOpen_2 : decode xb_De_countOpen 2 = .ok (.iconst 0, 1) := by decide +kernel
theorem xd_De_countOpen_3 : decode xb_De_countOpen 3 = .ok (.istore_n 2, 1) := by decide +kernel
theorem xd_De_countOpen_4 : decode xb_De_countOpen 4 = .ok (.iload_n 2, 1) := by decide +kernel
theorem xd_De_countOpen_5 : decode xb_De_countOpen 5 = .ok (.aload_n 0, 1) := by decide +kernel
theorem xd_De_countOpen_6 : decode xb_De_countOpen 6 = .ok (.getfield 38, 3) := by decide +kernel
theorem xd_De_countOpen_9 : decode xb_De_countOpen 9 = .ok (.if_icmp .ge 20, 3) := by decide +kernel
theorem xd_De_countOpen_29 : decode xb_De_countOpen 29 = .ok (.iload_n 1, 1) := by decide +kernel
theorem xd_De_countOpen_30 : decode xb_De_countOpen 30 = .ok (.ireturn, 1) := by decide +kernel
theorem xd_De_fault_0 : decode xb_De_fault 0 = .ok (.aload_n 0, 1) := by decide +kernel
theorem xd_De_fault_1 : decode xb_De_fault 1 = .ok (.getfield 42, 3) := by decide +kernel
theorem xd_De_fault_4 : decode xb_De_fault 4 = .ok (.ireturn, 1) := by decide +kernel
theorem xd_De_init_0 : decode xb_De_init 0 = .ok (.aload_n 0, 1) := by decide +kernel
theorem xd_De_init_1 : decode xb_De_init 1 = .ok (.invokespecial 1, 3) := by decide +kernel
theorem xd_De_init_4 : decode xb_De_init 4 = .ok (.aload_n 0, 1) := by decide +kernel
theorem xd_De_init_5 : decode xb_De_init 5 = .ok (.new 7, 3) := by decide +kernel
theorem xd_De_init_8 : decode xb_De_init 8 = .ok (.dup, 1) := by decide +kernel
theorem xd_De_init_9 : decode xb_De_init 9 = .ok (.invokespecial 9, 3) := by decide +kernel
theorem xd_De_init_12 : decode xb_De_init 12 = .ok (.putfield 10, 3) := by decide +kernel
theorem xd_De_init_15 : decode xb_De_init 15 = .ok (.aload_n 0, 1) := by decide +kernel
theorem xd_De_init_16 : decode xb_De_init 16 = .ok (.new 16, 3) := by decide +kernel
theorem xd_De_init_19 : decode xb_De_init 19 = .ok (.dup, 1) := by decide +kernel
theorem xd_De_init_20 : decode xb_De_init 20 = .ok (.invokespecial 18, 3) := by decide +kernel
theorem xd_De_init_23 : decode xb_De_init 23 = .ok (.putfield 19, 3) := by decide +kernel
theorem xd_De_init_26 : decode xb_De_init 26 = .ok (.aload_n 0, 1) := by decide +kernel
theorem xd_De_init_27 : decode xb_De_init 27 = .ok (.new 23, 3) := by decide +kernel
theorem xd_De_init_30 : decode xb_De_init 30 = .ok (.dup, 1) := by decide +kernel
theorem xd_De_init_31 : decode xb_De_init 31 = .ok (.aload_n 0, 1) := by decide +kernel
theorem xd_De_init_32 : decode xb_De_init 32 = .ok (.getfield 19, 3) := by decide +kernel
theorem xd_De_init_35 : decode xb_De_init 35 = .ok (.invokespecial 25, 3) := by decide +kernel
theorem xd_De_init_38 : decode xb_De_init 38 = .ok (.putfield 28, 3) := by decide +kernel
theorem xd_De_init_41 : decode xb_De_init 41 = .ok (.aload_n 0, 1) := by decide +kernel
theorem xd_De_init_42 : decode xb_De_init 42 = .ok (.iconst 5, 1) := by decide +kernel
theorem xd_De_init_43 : decode xb_De_init 43 = .ok (.anewarray 32, 3) := by decide +kernel
theorem xd_De_init_46 : decode xb_De_init 46 = .ok (.putfield 34, 3) := by decide +kernel
theorem xd_De_init_49 : decode xb_De_init 49 = .ok (.aload_n 0, 1) := by decide +kernel
theorem xd_De_init_50 : decode xb_De_init 50 = .ok (.iconst 0, 1) := by decide +kernel
theorem xd_De_init_51 : decode xb_De_init 51 = .ok (.putfield 38, 3) := by decide +kernel
theorem xd_De_init_54 : decode xb_De_init 54 = .ok (.aload_n 0, 1) := by decide +kernel
theorem xd_De_init_55 : decode xb_De_init 55 = .ok (.iconst 0, 1) := by decide +kernel
theorem xd_De_init_56 : decode xb_De_init 56 = .ok (.putfield 42, 3) := by decide +kernel
theorem xd_De_init_59 : decode xb_De_init 59 = .ok (.return_, 1) := by decide +kernel
theorem xd_De_layer_0 : decode xb_De_layer 0 = .ok (.aload_n 0, 1) := by decide +kernel
theorem xd_De_layer_1 : decode xb_De_layer 1 = .ok (.iconst 0, 1) := by decide +kernel
theorem xd_De_layer_2 : decode xb_De_layer 2 = .ok (.putfield 42, 3) := by decide +kernel
theorem xd_De_layer_5 : decode xb_De_layer 5 = .ok (.aload_n 0, 1) := by decide +kernel
theorem xd_De_layer_6 : decode xb_De_layer 6 = .ok (.getfield 10, 3) := by decide +kernel
theorem xd_De_layer_9 : decode xb_De_layer 9 = .ok (.invokevirtual 49, 3) := by decide +kernel
theorem xd_De_layer_12 : decode xb_De_layer 12 = .ok (.aload_n 0, 1) := by decide +kernel
theorem xd_De_layer_13 : decode xb_De_layer 13 = .ok (.iload_n 2, 1) := by decide +kernel
theorem xd_De_layer_14 : decode xb_De_layer 14 = .ok (.invokevirtual 68, 3) := by decide +kernel
theorem xd_De_layer_17 : decode xb_De_layer 17 = .ok (.astore 4, 2) := by decide +kernel
theorem xd_De_layer_19 : decode xb_De_layer 19 = .ok (.iload_n 2, 1) := by decide +kernel
theorem xd_De_layer_20 : decode xb_De_layer 20 = .ok (.iconst (-1), 1) := by decide +kernel
theorem xd_De_layer_21 : decode xb_De_layer 21 = .ok (.if_icmp .eq 8, 3) := by decide +kernel
theorem xd_De_layer_24 : decode xb_De_layer 24 = .ok (.aload 4, 2) := by decide +kernel
theorem xd_De_layer_26 : decode xb_De_layer 26 = .ok (.ifnull 7, 3) := by decide +kernel
theorem xd_De_layer_29 : decode xb_De_layer 29 = .ok (.iconst 1, 1) := by decide +kernel
theorem xd_De_layer_30 : decode xb_De_layer 30 = .ok (.goto 4, 3) := by decide +kernel
theorem xd_De_layer_33 : decode xb_De_layer 33 = .ok (.iconst 0, 1) := by decide +kernel
theorem xd_De_layer_34 : decode xb_De_layer 34 = .ok (.istore 5, 2) := by decide +kernel
theorem xd_De_layer_36 : decode xb_De_layer 36 = .ok (.aload_n 0, 1) := by decide +kernel
theorem xd_De_layer_37 : decode xb_De_layer 37 = .ok (.invokevirtual 72, 3) := by decide +kernel
theorem xd_De_layer_40 : decode xb_De_layer 40 = .ok (.ifCond .eq 15, 3) := by decide +kernel
theorem xd_De_layer_55 : decode xb_De_layer 55 = .ok (.new 56, 3) := by decide +kernel
theorem xd_De_layer_58 : decode xb_De_layer 58 = .ok (.dup, 1) := by decide +kernel
theorem xd_De_layer_59 : decode xb_De_layer 59 = .ok (.ldc 80, 2) := by decide +kernel
theorem xd_De_layer_61 : decode xb_De_layer 61 = .ok (.invokespecial 60, 3) := by decide +kernel
theorem xd_De_layer_64 : decode xb_De_layer 64 = .ok (.athrow, 1) := by decide +kernel
theorem xd_De_line_0 : decode xb_De_line 0 = .ok (.aload_n 0, 1) := by decide +kernel
theorem xd_De_line_1 : decode xb_De_line 1 = .ok (.getfield 10, 3) := by decide +kernel
theorem xd_De_line_4 : decode xb_De_line 4 = .ok (.invokevirtual 49, 3) := by decide +kernel
theorem xd_De_line_7 : decode xb_De_line 7 = .ok (.aload_n 0, 1) := by decide +kernel
theorem xd_De_line_8 : decode xb_De_line 8 = .ok (.getfield 19, 3) := by decide +kernel
theorem xd_De_line_11 : decode xb_De_line 11 = .ok (.aload_n 0, 1) := by decide +kernel
theorem xd_De_line_12 : decode xb_De_line 12 = .ok (.getfield 10, 3) := by decide +kernel
theorem xd_De_line_15 : decode xb_De_line 15 = .ok (.invokevirtual 52, 3) := by decide +kernel
theorem xd_De_line_18 : decode xb_De_line 18 = .ok (.istore_n 1, 1) := by decide +kernel
theorem xd_De_line_19 : decode xb_De_line 19 = .ok (.iload_n 1, 1) := by decide +kernel
theorem xd_De_line_20 : decode xb_De_line 20 = .ok (.iconst (-1), 1) := by decide +kernel
theorem xd_De_line_21 : decode xb_De_line 21 = .ok (.if_icmp .ne 13, 3) := by decide +kernel
theorem xd_De_line_34 : decode xb_De_line 34 = .ok (.iload_n 1, 1) := by decide +kernel
theorem xd_De_line_35 : decode xb_De_line 35 = .ok (.bipush (-2), 2) := by decide +kernel
theorem xd_De_line_37 : decode xb_De_line 37 = .ok (.if_icmp .ne 13, 3) := by decide +kernel
theorem xd_De_line_50 : decode xb_De_line 50 = .ok (.iload_n 1, 1) := by decide +kernel
theorem xd_De_line_51 : decode xb_De_line 51 = .ok (.ireturn, 1) := by decide +kernel
theorem xd_De_load_0 : decode xb_De_load 0 = .ok (.aload_n 0, 1) := by decide +kernel
theorem xd_De_load_1 : decode xb_De_load 1 = .ok (.getfield 10, 3) := by decide +kernel
theorem xd_De_load_4 : decode xb_De_load 4 = .ok (.invokevirtual 158, 3) := by decide +kernel
theorem xd_De_load_7 : decode xb_De_load 7 = .ok (.istore_n 3, 1) := by decide +kernel
theorem xd_De_load_8 : decode xb_De_load 8 = .ok (.aload_n 0, 1) := by decide +kernel
theorem xd_De_load_9 : decode xb_De_load 9 = .ok (.iload_n 1, 1) := by decide +kernel
theorem xd_De_load_10 : decode xb_De_load 10 = .ok (.iload_n 2, 1) := by decide +kernel
theorem xd_De_load_11 : decode xb_De_load 11 = .ok (.invokevirtual 132, 3) := by decide +kernel
theorem xd_De_load_14 : decode xb_De_load 14 = .ok (.astore 4, 2) := by decide +kernel
theorem xd_De_load_16 : decode xb_De_load 16 = .ok (.aload 4, 2) := by decide +kernel
theorem xd_De_load_18 : decode xb_De_load 18 = .ok (.ifnull 7, 3) := by decide +kernel
theorem xd_De_load_25 : decode xb_De_load 25 = .ok (.new 56, 3) := by decide +kernel
theorem xd_De_load_28 : decode xb_De_load 28 = .ok (.dup, 1) := by decide +kernel
theorem xd_De_load_29 : decode xb_De_load 29 = .ok (.ldc 161, 2) := by decide +kernel
theorem xd_De_load_31 : decode xb_De_load 31 = .ok (.invokespecial 60, 3) := by decide +kernel
theorem xd_De_load_34 : decode xb_De_load 34 = .ok (.athrow, 1) := by decide +kernel
theorem xd_De_memberAt_0 : decode xb_De_memberAt 0 = .ok (.aload_n 0, 1) := by decide +kernel
theorem xd_De_memberAt_1 : decode xb_De_memberAt 1 = .ok (.iload_n 1, 1) := by decide +kernel
theorem xd_De_memberAt_2 : decode xb_De_memberAt 2 = .ok (.invokevirtual 68, 3) := by decide +kernel
theorem xd_De_memberAt_5 : decode xb_De_memberAt 5 = .ok (.astore_n 3, 1) := by decide +kernel
theorem xd_De_memberAt_6 : decode xb_De_memberAt 6 = .ok (.aload_n 3, 1) := by decide +kernel
theorem xd_De_memberAt_7 : decode xb_De_memberAt 7 = .ok (.ifnull 16, 3) := by decide +kernel
theorem xd_De_memberAt_23 : decode xb_De_memberAt 23 = .ok (.aconst_null, 1) := by decide +kernel
theorem xd_De_memberAt_24 : decode xb_De_memberAt 24 = .ok (.goto 9, 3) := by decide +kernel
theorem xd_De_memberAt_33 : decode xb_De_memberAt 33 = .ok (.areturn, 1) := by decide +kernel
theorem xd_De_memberOf_0 : decode xb_De_memberOf 0 = .ok (.aload_n 0, 1) := by decide +kernel
theorem xd_De_memberOf_1 : decode xb_De_memberOf 1 = .ok (.iload_n 1, 1) := by decide +kernel
theorem xd_De_memberOf_2 : decode xb_De_memberOf 2 = .ok (.invokevirtual 68, 3) := by decide +kernel
theorem xd_De_memberOf_5 : decode xb_De_memberOf 5 = .ok (.astore_n 3, 1) := by decide +kernel
theorem xd_De_memberOf_6 : decode xb_De_memberOf 6 = .ok (.aload_n 3, 1) := by decide +kernel
theorem xd_De_memberOf_7 : decode xb_De_memberOf 7 = .ok (.ifnonnull 7, 3) := by decide +kernel
theorem xd_De_memberOf_10 : decode xb_De_memberOf 10 = .ok (.aconst_null, 1) := by decide +kernel
theorem xd_De_memberOf_11 : decode xb_De_memberOf 11 = .ok (.goto 8, 3) := by decide +kernel
theorem xd_De_memberOf_19 : decode xb_De_memberOf 19 = .ok (.areturn, 1) := by decide +kernel
theorem xd_De_module_0 : decode xb_De_module 0 = .ok (.aload_n 0, 1) := by decide +kernel
theorem xd_De_module_1 : decode xb_De_module 1 = .ok (.iload_n 1, 1) := by decide +kernel
theorem xd_De_module_2 : decode xb_De_module 2 = .ok (.iload_n 2, 1) := by decide +kernel
theorem xd_De_module_3 : decode xb_De_module 3 = .ok (.invokevirtual 132, 3) := by decide +kernel
theorem xd_De_module_6 : decode xb_De_module 6 = .ok (.astore_n 3, 1) := by decide +kernel
theorem xd_De_module_7 : decode xb_De_module 7 = .ok (.aload_n 3, 1) := by decide +kernel
theorem xd_De_module_8 : decode xb_De_module 8 = .ok (.ifnonnull 7, 3) := by decide +kernel
theorem xd_De_module_11 : decode xb_De_module 11 = .ok (.iconst (-1), 1) := by decide +kernel
theorem xd_De_module_12 : decode xb_De_module 12 = .ok (.goto 10, 3) := by decide +kernel
theorem xd_De_module_22 : decode xb_De_module 22 = .ok (.ireturn, 1) := by decide +kernel
theorem xd_De_modules_0 : decode xb_De_modules 0 = .ok (.aload_n 0, 1) := by decide +kernel
theorem xd_De_modules_1 : decode xb_De_modules 1 = .ok (.iload_n 1, 1) := by decide +kernel
theorem xd_De_modules_2 : decode xb_De_modules 2 = .ok (.invokevirtual 68, 3) := by decide +kernel
theorem xd_De_modules_5 : decode xb_De_modules 5 = .ok (.astore_n 2, 1) := by decide +kernel
theorem xd_De_modules_6 : decode xb_De_modules 6 = .ok (.aload_n 2, 1) := by decide +kernel
theorem xd_De_modules_7 : decode xb_De_modules 7 = .ok (.ifnonnull 7, 3) := by decide +kernel
theorem xd_De_modules_10 : decode xb_De_modules 10 = .ok (.iconst (-1), 1) := by decide +kernel
theorem xd_De_modules_11 : decode xb_De_modules 11 = .ok (.goto 8, 3) := by decide +kernel
theorem xd_De_modules_19 : decode xb_De_modules 19 = .ok (.ireturn, 1) := by decide +kernel
theorem xd_De_openLayer_0 : decode xb_De_openLayer 0 = .ok (.iload_n 1, 1) := by decide +kernel
theorem xd_De_openLayer_1 : decode xb_De_openLayer 1 = .ok (.ifCond .lt 11, 3) := by decide +kernel
theorem xd_De_openLayer_4 : decode xb_De_openLayer 4 = .ok (.iload_n 1, 1) := by decide +kernel
theorem xd_De_openLayer_5 : decode xb_De_openLayer 5 = .ok (.aload_n 0, 1) := by decide +kernel
theorem xd_De_openLayer_6 : decode xb_De_openLayer 6 = .ok (.getfield 38, 3) := by decide +kernel
theorem xd_De_openLayer_9 : decode xb_De_openLayer 9 = .ok (.if_icmp .lt 5, 3) := by decide +kernel
theorem xd_De_openLayer_12 : decode xb_De_openLayer 12 = .ok (.aconst_null, 1) := by decide +kernel
theorem xd_De_openLayer_13 : decode xb_De_openLayer 13 = .ok (.areturn, 1) := by decide +kernel
theorem xd_De_peek_0 : decode xb_De_peek 0 = .ok (.aload_n 0, 1) := by decide +kernel
theorem xd_De_peek_1 : decode xb_De_peek 1 = .ok (.getfield 10, 3) := by decide +kernel
theorem xd_De_peek_4 : decode xb_De_peek 4 = .ok (.invokevirtual 158, 3) := by decide +kernel
theorem xd_De_peek_7 : decode xb_De_peek 7 = .ok (.istore 5, 2) := by decide +kernel
theorem xd_De_peek_9 : decode xb_De_peek 9 = .ok (.aload_n 0, 1) := by decide +kernel
theorem xd_De_peek_10 : decode xb_De_peek 10 = .ok (.iload_n 1, 1) := by decide +kernel
theorem xd_De_peek_11 : decode xb_De_peek 11 = .ok (.iload_n 2, 1) := by decide +kernel
theorem xd_De_peek_12 : decode xb_De_peek 12 = .ok (.invokevirtual 132, 3) := by decide +kernel
theorem xd_De_peek_15 : decode xb_De_peek 15 = .ok (.astore 6, 2) := by decide +kernel
theorem xd_De_peek_17 : decode xb_De_peek 17 = .ok (.aload_n 0, 1) := by decide +kernel
theorem xd_De_peek_18 : decode xb_De_peek 18 = .ok (.iload_n 3, 1) := by decide +kernel
theorem xd_De_peek_19 : decode xb_De_peek 19 = .ok (.iload 4, 2) := by decide +kernel
theorem xd_De_peek_21 : decode xb_De_peek 21 = .ok (.invokevirtual 145, 3) := by decide +kernel
theorem xd_De_peek_24 : decode xb_De_peek 24 = .ok (.astore 7, 2) := by decide +kernel
theorem xd_De_peek_26 : decode xb_De_peek 26 = .ok (.aload 6, 2) := by decide +kernel
theorem xd_De_peek_28 : decode xb_De_peek 28 = .ok (.ifnull 13, 3) := by decide +kernel
theorem xd_De_peek_41 : decode xb_De_peek 41 = .ok (.new 56, 3) := by decide +kernel
theorem xd_De_peek_44 : decode xb_De_peek 44 = .ok (.dup, 1) := by decide +kernel
theorem xd_De_peek_45 : decode xb_De_peek 45 = .ok (.ldc 161, 2) := by decide +kernel
theorem xd_De_peek_47 : decode xb_De_peek 47 = .ok (.invokespecial 60, 3) := by decide +kernel
theorem xd_De_peek_50 : decode xb_De_peek 50 = .ok (.athrow, 1) := by decide +kernel
theorem xd_De_provider_0 : decode xb_De_provider 0 = .ok (.aload_n 0, 1) := by decide +kernel
theorem xd_De_provider_1 : decode xb_De_provider 1 = .ok (.getfield 10, 3) := by decide +kernel
theorem xd_De_provider_4 : decode xb_De_provider 4 = .ok (.invokevirtual 158, 3) := by decide +kernel
theorem xd_De_provider_7 : decode xb_De_provider 7 = .ok (.istore_n 3, 1) := by decide +kernel
theorem xd_De_provider_8 : decode xb_De_provider 8 = .ok (.aload_n 0, 1) := by decide +kernel
theorem xd_De_provider_9 : decode xb_De_provider 9 = .ok (.iload_n 1, 1) := by decide +kernel
theorem xd_De_provider_10 : decode xb_De_provider 10 = .ok (.invokevirtual 68, 3) := by decide +kernel
theorem xd_De_provider_13 : decode xb_De_provider 13 = .ok (.astore 4, 2) := by decide +kernel
theorem xd_De_provider_15 : decode xb_De_provider 15 = .ok (.aload 4, 2) := by decide +kernel
theorem xd_De_provider_17 : decode xb_De_provider 17 = .ok (.ifnull 7, 3) := by decide +kernel
theorem xd_De_provider_24 : decode xb_De_provider 24 = .ok (.new 56, 3) := by decide +kernel
theorem xd_De_provider_27 : decode xb_De_provider 27 = .ok (.dup, 1) := by decide +kernel
theorem xd_De_provider_28 : decode xb_De_provider 28 = .ok (.ldc 190, 2) := by decide +kernel
theorem xd_De_provider_30 : decode xb_De_provider 30 = .ok (.invokespecial 60, 3) := by decide +kernel
theorem xd_De_provider_33 : decode xb_De_provider 33 = .ok (.athrow, 1) := by decide +kernel
theorem xd_De_reads_0 : decode xb_De_reads 0 = .ok (.aload_n 0, 1) := by decide +kernel
theorem xd_De_reads_1 : decode xb_De_reads 1 = .ok (.iload_n 1, 1) := by decide +kernel
theorem xd_De_reads_2 : decode xb_De_reads 2 = .ok (.iload_n 2, 1) := by decide +kernel
theorem xd_De_reads_3 : decode xb_De_reads 3 = .ok (.invokevirtual 132, 3) := by decide +kernel
theorem xd_De_reads_6 : decode xb_De_reads 6 = .ok (.astore 5, 2) := by decide +kernel
theorem xd_De_reads_8 : decode xb_De_reads 8 = .ok (.aload_n 0, 1) := by decide +kernel
theorem xd_De_reads_9 : decode xb_De_reads 9 = .ok (.iload_n 3, 1) := by decide +kernel
theorem xd_De_reads_10 : decode xb_De_reads 10 = .ok (.iload 4, 2) := by decide +kernel
theorem xd_De_reads_12 : decode xb_De_reads 12 = .ok (.invokevirtual 145, 3) := by decide +kernel
theorem xd_De_reads_15 : decode xb_De_reads 15 = .ok (.astore 6, 2) := by decide +kernel
theorem xd_De_reads_17 : decode xb_De_reads 17 = .ok (.aload 5, 2) := by decide +kernel
theorem xd_De_reads_19 : decode xb_De_reads 19 = .ok (.ifnull 25, 3) := by decide +kernel
theorem xd_De_reads_44 : decode xb_De_reads 44 = .ok (.iconst 0, 1) := by decide +kernel
theorem xd_De_reads_45 : decode xb_De_reads 45 = .ok (.ireturn, 1) := by decide +kernel
theorem xd_De_rootsAreNames_0 : decode xb_De_rootsAreNames 0 = .ok (.aload_n 0, 1) := by decide +kernel
theorem xd_De_rootsAreNames_1 : decode xb_De_rootsAreNames 1 = .ok (.getfield 10, 3) := by decide +kernel
theorem xd_De_rootsAreNames_4 : decode xb_De_rootsAreNames 4 = .ok (.getfield 198, 3) := by decide +kernel
theorem xd_De_rootsAreNames_7 : decode xb_De_rootsAreNames 7 = .ok (.iconst 1, 1) := by decide +kernel
theorem xd_De_rootsAreNames_8 : decode xb_De_rootsAreNames 8 = .ok (.if_icmp .lt 14, 3) := by decide +kernel
theorem xd_De_rootsAreNames_22 : decode xb_De_rootsAreNames 22 = .ok (.iconst 0, 1) := by decide +kernel
theorem xd_De_rootsAreNames_23 : decode xb_De_rootsAreNames 23 = .ok (.ireturn, 1) := by decide +kernel
theorem xd_De_write_0 : decode xb_De_write 0 = .ok (.aload_n 0, 1) := by decide +kernel
theorem xd_De_write_1 : decode xb_De_write 1 = .ok (.getfield 10, 3) := by decide +kernel
theorem xd_De_write_4 : decode xb_De_write 4 = .ok (.iload_n 1, 1) := by decide +kernel
theorem xd_De_write_5 : decode xb_De_write 5 = .ok (.invokevirtual 45, 3) := by decide +kernel
theorem xd_De_write_8 : decode xb_De_write 8 = .ok (.ireturn, 1) := by decide +kernel
theorem xd_La_layer_0 : decode xb_La_layer 0 = .ok (.aload 4, 2) := by decide +kernel
theorem xd_La_layer_2 : decode xb_La_layer 2 = .ok (.iconst 0, 1) := by decide +kernel
theorem xd_La_layer_3 : decode xb_La_layer 3 = .ok (.aload_n 0, 1) := by decide +kernel
theorem xd_La_layer_4 : decode xb_La_layer 4 = .ok (.iload_n 1, 1) := by decide +kernel
theorem xd_La_layer_5 : decode xb_La_layer 5 = .ok (.iload_n 2, 1) := by decide +kernel
theorem xd_La_layer_6 : decode xb_La_layer 6 = .ok (.iload_n 3, 1) := by decide +kernel
theorem xd_La_layer_7 : decode xb_La_layer 7 = .ok (.invokevirtual 17, 3) := by decide +kernel
theorem xd_La_layer_15 : decode xb_La_layer 15 = .ok (.astore 5, 2) := by decide +kernel
theorem xd_La_layer_17 : decode xb_La_layer 17 = .ok (.iconst 1, 1) := by decide +kernel
theorem xd_La_layer_18 : decode xb_La_layer 18 = .ok (.ireturn, 1) := by decide +kernel
theorem xd_La_line_0 : decode xb_La_line 0 = .ok (.aload_n 1, 1) := by decide +kernel
theorem xd_La_line_1 : decode xb_La_line 1 = .ok (.iconst 0, 1) := by decide +kernel
theorem xd_La_line_2 : decode xb_La_line 2 = .ok (.aload_n 0, 1) := by decide +kernel
theorem xd_La_line_3 : decode xb_La_line 3 = .ok (.invokevirtual 7, 3) := by decide +kernel
theorem xd_La_line_6 : decode xb_La_line 6 = .ok (.i2l, 1) := by decide +kernel
theorem xd_La_line_7 : decode xb_La_line 7 = .ok (.lastore, 1) := by decide +kernel
theorem xd_La_line_8 : decode xb_La_line 8 = .ok (.goto 9, 3) := by decide +kernel
theorem xd_La_line_17 : decode xb_La_line 17 = .ok (.iconst 0, 1) := by decide +kernel
theorem xd_La_line_18 : decode xb_La_line 18 = .ok (.ireturn, 1) := by decide +kernel
theorem xd_La_load_0 : decode xb_La_load 0 = .ok (.aload_n 3, 1) := by decide +kernel
theorem xd_La_load_1 : decode xb_La_load 1 = .ok (.iconst 0, 1) := by decide +kernel
theorem xd_La_load_2 : decode xb_La_load 2 = .ok (.aload_n 0, 1) := by decide +kernel
theorem xd_La_load_3 : decode xb_La_load 3 = .ok (.iload_n 1, 1) := by decide +kernel
theorem xd_La_load_4 : decode xb_La_load 4 = .ok (.iload_n 2, 1) := by decide +kernel
theorem xd_La_load_5 : decode xb_La_load 5 = .ok (.invokevirtual 23, 3) := by decide +kernel
theorem xd_La_load_13 : decode xb_La_load 13 = .ok (.astore 4, 2) := by decide +kernel
theorem xd_La_load_15 : decode xb_La_load 15 = .ok (.iconst 1, 1) := by decide +kernel
theorem xd_La_load_16 : decode xb_La_load 16 = .ok (.ireturn, 1) := by decide +kernel
theorem xd_La_peek_0 : decode xb_La_peek 0 = .ok (.aload 5, 2) := by decide +kernel
theorem xd_La_peek_2 : decode xb_La_peek 2 = .ok (.iconst 0, 1) := by decide +kernel
theorem xd_La_peek_3 : decode xb_La_peek 3 = .ok (.aload_n 0, 1) := by decide +kernel
theorem xd_La_peek_4 : decode xb_La_peek 4 = .ok (.iload_n 1, 1) := by decide +kernel
theorem xd_La_peek_5 : decode xb_La_peek 5 = .ok (.iload_n 2, 1) := by decide +kernel
theorem xd_La_peek_6 : decode xb_La_peek 6 = .ok (.iload_n 3, 1) := by decide +kernel
theorem xd_La_peek_7 : decode xb_La_peek 7 = .ok (.iload 4, 2) := by decide +kernel
theorem xd_La_peek_9 : decode xb_La_peek 9 = .ok (.invokevirtual 27, 3) := by decide +kernel
theorem xd_La_peek_24 : decode xb_La_peek 24 = .ok (.astore 6, 2) := by decide +kernel
theorem xd_La_peek_26 : decode xb_La_peek 26 = .ok (.iconst 1, 1) := by decide +kernel
theorem xd_La_peek_27 : decode xb_La_peek 27 = .ok (.ireturn, 1) := by decide +kernel
theorem xd_La_provider_0 : decode xb_La_provider 0 = .ok (.aload_n 3, 1) := by decide +kernel
theorem xd_La_provider_1 : decode xb_La_provider 1 = .ok (.iconst 0, 1) := by decide +kernel
theorem xd_La_provider_2 : decode xb_La_provider 2 = .ok (.aload_n 0, 1) := by decide +kernel
theorem xd_La_provider_3 : decode xb_La_provider 3 = .ok (.iload_n 1, 1) := by decide +kernel
theorem xd_La_provider_4 : decode xb_La_provider 4 = .ok (.iload_n 2, 1) := by decide +kernel
theorem xd_La_provider_5 : decode xb_La_provider 5 = .ok (.invokevirtual 31, 3) := by decide +kernel
theorem xd_La_provider_13 : decode xb_La_provider 13 = .ok (.astore 4, 2) := by decide +kernel
theorem xd_La_provider_15 : decode xb_La_provider 15 = .ok (.iconst 1, 1) := by decide +kernel
theorem xd_La_provider_16 : decode xb_La_provider 16 = .ok (.ireturn, 1) := by decide +kernel
theorem xd_Li_append_0 : decode xb_Li_append 0 = .ok (.aload_n 0, 1) := by decide +kernel
theorem xd_Li_append_1 : decode xb_Li_append 1 = .ok (.getfield 20, 3) := by decide +kernel
theorem xd_Li_append_4 : decode xb_Li_append 4 = .ok (.bipush 40, 2) := by decide +kernel
theorem xd_Li_append_6 : decode xb_Li_append 6 = .ok (.if_icmp .ge 15, 3) := by decide +kernel
theorem xd_Li_append_9 : decode xb_Li_append 9 = .ok (.iload_n 1, 1) := by decide +kernel
theorem xd_Li_append_10 : decode xb_Li_append 10 = .ok (.bipush 32, 2) := by decide +kernel
theorem xd_Li_append_12 : decode xb_Li_append 12 = .ok (.if_icmp .lt 9, 3) := by decide +kernel
theorem xd_Li_append_15 : decode xb_Li_append 15 = .ok (.iload_n 1, 1) := by decide +kernel
theorem xd_Li_append_16 : decode xb_Li_append 16 = .ok (.bipush 126, 2) := by decide +kernel
theorem xd_Li_append_18 : decode xb_Li_append 18 = .ok (.if_icmp .le 5, 3) := by decide +kernel
theorem xd_Li_append_21 : decode xb_Li_append 21 = .ok (.iconst 0, 1) := by decide +kernel
theorem xd_Li_append_22 : decode xb_Li_append 22 = .ok (.ireturn, 1) := by decide +kernel
theorem xd_Li_append_23 : decode xb_Li_append 23 = .ok (.aload_n 0, 1) := by decide +kernel
theorem xd_Li_append_24 : decode xb_Li_append 24 = .ok (.getfield 9, 3) := by decide +kernel
theorem xd_Li_append_27 : decode xb_Li_append 27 = .ok (.aload_n 0, 1) := by decide +kernel
theorem xd_Li_append_28 : decode xb_Li_append 28 = .ok (.getfield 20, 3) := by decide +kernel
theorem xd_Li_append_31 : decode xb_Li_append 31 = .ok (.iload_n 1, 1) := by decide +kernel
theorem xd_Li_append_32 : decode xb_Li_append 32 = .ok (.castore, 1) := by decide +kernel
theorem xd_Li_append_33 : decode xb_Li_append 33 = .ok (.aload_n 0, 1) := by decide +kernel
theorem xd_Li_append_34 : decode xb_Li_append 34 = .ok (.dup, 1) := by decide +kernel
theorem xd_Li_append_35 : decode xb_Li_append 35 = .ok (.getfield 20, 3) := by decide +kernel
theorem xd_Li_append_38 : decode xb_Li_append 38 = .ok (.iconst 1, 1) := by decide +kernel
theorem xd_Li_append_39 : decode xb_Li_append 39 = .ok (.iadd, 1) := by decide +kernel
theorem xd_Li_append_40 : decode xb_Li_append 40 = .ok (.putfield 20, 3) := by decide +kernel
theorem xd_Li_append_43 : decode xb_Li_append 43 = .ok (.iconst 1, 1) := by decide +kernel
theorem xd_Li_append_44 : decode xb_Li_append 44 = .ok (.ireturn, 1) := by decide +kernel
theorem xd_Li_init_0 : decode xb_Li_init 0 = .ok (.aload_n 0, 1) := by decide +kernel
theorem xd_Li_init_1 : decode xb_Li_init 1 = .ok (.invokespecial 1, 3) := by decide +kernel
theorem xd_Li_init_4 : decode xb_Li_init 4 = .ok (.aload_n 0, 1) := by decide +kernel
theorem xd_Li_init_5 : decode xb_Li_init 5 = .ok (.bipush 40, 2) := by decide +kernel
theorem xd_Li_init_7 : decode xb_Li_init 7 = .ok (.newarray .char, 2) := by decide +kernel
theorem xd_Li_init_9 : decode xb_Li_init 9 = .ok (.putfield 9, 3) := by decide +kernel
theorem xd_Li_init_12 : decode xb_Li_init 12 = .ok (.aload_n 0, 1) := by decide +kernel
theorem xd_Li_init_13 : decode xb_Li_init 13 = .ok (.bipush 20, 2) := by decide +kernel
theorem xd_Li_init_15 : decode xb_Li_init 15 = .ok (.newarray .int, 2) := by decide +kernel
theorem xd_Li_init_17 : decode xb_Li_init 17 = .ok (.putfield 13, 3) := by decide +kernel
theorem xd_Li_init_20 : decode xb_Li_init 20 = .ok (.aload_n 0, 1) := by decide +kernel
theorem xd_Li_init_21 : decode xb_Li_init 21 = .ok (.bipush 20, 2) := by decide +kernel
theorem xd_Li_init_23 : decode xb_Li_init 23 = .ok (.newarray .int, 2) := by decide +kernel
theorem xd_Li_init_25 : decode xb_Li_init 25 = .ok (.putfield 17, 3) := by decide +kernel
theorem xd_Li_init_28 : decode xb_Li_init 28 = .ok (.aload_n 0, 1) := by decide +kernel
theorem xd_Li_init_29 : decode xb_Li_init 29 = .ok (.iconst 0, 1) := by decide +kernel
theorem xd_Li_init_30 : decode xb_Li_init 30 = .ok (.putfield 20, 3) := by decide +kernel
theorem xd_Li_init_33 : decode xb_Li_init 33 = .ok (.aload_n 0, 1) := by decide +kernel
theorem xd_Li_init_34 : decode xb_Li_init 34 = .ok (.iconst 0, 1) := by decide +kernel
theorem xd_Li_init_35 : decode xb_Li_init 35 = .ok (.putfield 24, 3) := by decide +kernel
theorem xd_Li_init_38 : decode xb_Li_init 38 = .ok (.return_, 1) := by decide +kernel
theorem xd_Li_take_0 : decode xb_Li_take 0 = .ok (.aload_n 0, 1) := by decide +kernel
theorem xd_Li_take_1 : decode xb_Li_take 1 = .ok (.iconst 0, 1) := by decide +kernel
theorem xd_Li_take_2 : decode xb_Li_take 2 = .ok (.putfield 24, 3) := by decide +kernel
theorem xd_Li_take_5 : decode xb_Li_take 5 = .ok (.iconst 0, 1) := by decide +kernel
theorem xd_Li_take_6 : decode xb_Li_take 6 = .ok (.istore_n 1, 1) := by decide +kernel
theorem xd_Li_take_7 : decode xb_Li_take 7 = .ok (.iconst 0, 1) := by decide +kernel
theorem xd_Li_take_8 : decode xb_Li_take 8 = .ok (.istore_n 2, 1) := by decide +kernel
theorem xd_Li_take_9 : decode xb_Li_take 9 = .ok (.iload_n 2, 1) := by decide +kernel
theorem xd_Li_take_10 : decode xb_Li_take 10 = .ok (.aload_n 0, 1) := by decide +kernel
theorem xd_Li_take_11 : decode xb_Li_take 11 = .ok (.getfield 20, 3) := by decide +kernel
theorem xd_Li_take_14 : decode xb_Li_take 14 = .ok (.if_icmp .gt 76, 3) := by decide +kernel
theorem xd_Li_take_17 : decode xb_Li_take 17 = .ok (.iload_n 2, 1) := by decide +kernel
theorem xd_Li_take_18 : decode xb_Li_take 18 = .ok (.aload_n 0, 1) := by decide +kernel
theorem xd_Li_take_19 : decode xb_Li_take 19 = .ok (.getfield 20, 3) := by decide +kernel
theorem xd_Li_take_22 : decode xb_Li_take 22 = .ok (.if_icmp .eq 14, 3) := by decide +kernel
theorem xd_Li_take_36 : decode xb_Li_take 36 = .ok (.iload_n 2, 1) := by decide +kernel
theorem xd_Li_take_37 : decode xb_Li_take 37 = .ok (.iload_n 1, 1) := by decide +kernel
theorem xd_Li_take_38 : decode xb_Li_take 38 = .ok (.if_icmp .le 42, 3) := by decide +kernel
theorem xd_Li_take_80 : decode xb_Li_take 80 = .ok (.iload_n 2, 1) := by decide +kernel
theorem xd_Li_take_81 : decode xb_Li_take 81 = .ok (.iconst 1, 1) := by decide +kernel
theorem xd_Li_take_82 : decode xb_Li_take 82 = .ok (.iadd, 1) := by decide +kernel
theorem xd_Li_take_83 : decode xb_Li_take 83 = .ok (.istore_n 1, 1) := by decide +kernel
theorem xd_Li_take_84 : decode xb_Li_take 84 = .ok (.iinc 2 1, 3) := by decide +kernel
theorem xd_Li_take_87 : decode xb_Li_take 87 = .ok (.goto (-78), 3) := by decide +kernel
theorem xd_Li_take_90 : decode xb_Li_take 90 = .ok (.aload_n 0, 1) := by decide +kernel
theorem xd_Li_take_91 : decode xb_Li_take 91 = .ok (.iconst 0, 1) := by decide +kernel
theorem xd_Li_take_92 : decode xb_Li_take 92 = .ok (.putfield 20, 3) := by decide +kernel
theorem xd_Li_take_95 : decode xb_Li_take 95 = .ok (.return_, 1) := by decide +kernel
theorem xd_Li_takeName_0 : decode xb_Li_takeName 0 = .ok (.aload_n 0, 1) := by decide +kernel
theorem xd_Li_takeName_1 : decode xb_Li_takeName 1 = .ok (.invokevirtual 27, 3) := by decide +kernel
theorem xd_Li_takeName_4 : decode xb_Li_takeName 4 = .ok (.aload_n 0, 1) := by decide +kernel
theorem xd_Li_takeName_5 : decode xb_Li_takeName 5 = .ok (.getfield 24, 3) := by decide +kernel
theorem xd_Li_takeName_8 : decode xb_Li_takeName 8 = .ok (.iconst 1, 1) := by decide +kernel
theorem xd_Li_takeName_9 : decode xb_Li_takeName 9 = .ok (.if_icmp .ne 11, 3) := by decide +kernel
theorem xd_Li_takeName_20 : decode xb_Li_takeName 20 = .ok (.iconst 0, 1) := by decide +kernel
theorem xd_Li_takeName_21 : decode xb_Li_takeName 21 = .ok (.ireturn, 1) := by decide +kernel
theorem xd_Mo_close_0 : decode xb_Mo_close 0 = .ok (.aload_n 0, 1) := by decide +kernel
theorem xd_Mo_close_1 : decode xb_Mo_close 1 = .ok (.iconst 0, 1) := by decide +kernel
theorem xd_Mo_close_2 : decode xb_Mo_close 2 = .ok (.putfield 87, 3) := by decide +kernel
theorem xd_Mo_close_5 : decode xb_Mo_close 5 = .ok (.aload_n 0, 1) := by decide +kernel
theorem xd_Mo_close_6 : decode xb_Mo_close 6 = .ok (.iload_n 1, 1) := by decide +kernel
theorem xd_Mo_close_7 : decode xb_Mo_close 7 = .ok (.invokevirtual 190, 3) := by decide +kernel
theorem xd_Mo_close_10 : decode xb_Mo_close 10 = .ok (.ifCond .ne 5, 3) := by decide +kernel
theorem xd_Mo_close_13 : decode xb_Mo_close 13 = .ok (.iconst 0, 1) := by decide +kernel
theorem xd_Mo_close_14 : decode xb_Mo_close 14 = .ok (.ireturn, 1) := by decide +kernel
theorem xd_Mo_count_0 : decode xb_Mo_count 0 = .ok (.aload_n 0, 1) := by decide +kernel
theorem xd_Mo_count_1 : decode xb_Mo_count 1 = .ok (.iconst 0, 1) := by decide +kernel
theorem xd_Mo_count_2 : decode xb_Mo_count 2 = .ok (.putfield 87, 3) := by decide +kernel
theorem xd_Mo_count_5 : decode xb_Mo_count 5 = .ok (.iconst 0, 1) := by decide +kernel
theorem xd_Mo_count_6 : decode xb_Mo_count 6 = .ok (.istore_n 2, 1) := by decide +kernel
theorem xd_Mo_count_7 : decode xb_Mo_count 7 = .ok (.iconst 0, 1) := by decide +kernel
theorem xd_Mo_count_8 : decode xb_Mo_count 8 = .ok (.istore_n 3, 1) := by decide +kernel
theorem xd_Mo_count_9 : decode xb_Mo_count 9 = .ok (.iload_n 3, 1) := by decide +kernel
theorem xd_Mo_count_10 : decode xb_Mo_count 10 = .ok (.aload_n 0, 1) := by decide +kernel
theorem xd_Mo_count_11 : decode xb_Mo_count 11 = .ok (.getfield 150, 3) := by decide +kernel
theorem xd_Mo_count_14 : decode xb_Mo_count 14 = .ok (.if_icmp .ge 26, 3) := by decide +kernel
theorem xd_Mo_count_40 : decode xb_Mo_count 40 = .ok (.iload_n 1, 1) := by decide +kernel
theorem xd_Mo_count_41 : decode xb_Mo_count 41 = .ok (.ifCond .ne 10, 3) := by decide +kernel
theorem xd_Mo_count_44 : decode xb_Mo_count 44 = .ok (.aload_n 0, 1) := by decide +kernel
theorem xd_Mo_count_45 : decode xb_Mo_count 45 = .ok (.getfield 140, 3) := by decide +kernel
theorem xd_Mo_count_48 : decode xb_Mo_count 48 = .ok (.goto 25, 3) := by decide +kernel
theorem xd_Mo_count_51 : decode xb_Mo_count 51 = .ok (.iload_n 1, 1) := by decide +kernel
theorem xd_Mo_count_52 : decode xb_Mo_count 52 = .ok (.iconst 1, 1) := by decide +kernel
theorem xd_Mo_count_53 : decode xb_Mo_count 53 = .ok (.if_icmp .ne 10, 3) := by decide +kernel
theorem xd_Mo_count_56 : decode xb_Mo_count 56 = .ok (.aload_n 0, 1) := by decide +kernel
theorem xd_Mo_count_57 : decode xb_Mo_count 57 = .ok (.getfield 150, 3) := by decide +kernel
theorem xd_Mo_count_60 : decode xb_Mo_count 60 = .ok (.goto 13, 3) := by decide +kernel
theorem xd_Mo_count_63 : decode xb_Mo_count 63 = .ok (.iload_n 1, 1) := by decide +kernel
theorem xd_Mo_count_64 : decode xb_Mo_count 64 = .ok (.iconst 2, 1) := by decide +kernel
theorem xd_Mo_count_65 : decode xb_Mo_count 65 = .ok (.if_icmp .ne 7, 3) := by decide +kernel
theorem xd_Mo_count_68 : decode xb_Mo_count 68 = .ok (.iload_n 2, 1) := by decide +kernel
theorem xd_Mo_count_69 : decode xb_Mo_count 69 = .ok (.goto 4, 3) := by decide +kernel
theorem xd_Mo_count_72 : decode xb_Mo_count 72 = .ok (.iconst (-1), 1) := by decide +kernel
theorem xd_Mo_count_73 : decode xb_Mo_count 73 = .ok (.ireturn, 1) := by decide +kernel
theorem xd_Mo_fails_0 : decode xb_Mo_fails 0 = .ok (.aload_n 0, 1) := by decide +kernel
theorem xd_Mo_fails_1 : decode xb_Mo_fails 1 = .ok (.iload_n 1, 1) := by decide +kernel
theorem xd_Mo_fails_2 : decode xb_Mo_fails 2 = .ok (.putfield 87, 3) := by decide +kernel
theorem xd_Mo_fails_5 : decode xb_Mo_fails 5 = .ok (.iconst 0, 1) := by decide +kernel
theorem xd_Mo_fails_6 : decode xb_Mo_fails 6 = .ok (.ireturn, 1) := by decide +kernel
theorem xd_Mo_fault_0 : decode xb_Mo_fault 0 = .ok (.aload_n 0, 1) := by decide +kernel
theorem xd_Mo_fault_1 : decode xb_Mo_fault 1 = .ok (.iconst 0, 1) := by decide +kernel
theorem xd_Mo_fault_2 : decode xb_Mo_fault 2 = .ok (.putfield 87, 3) := by decide +kernel
theorem xd_Mo_fault_5 : decode xb_Mo_fault 5 = .ok (.aload_n 0, 1) := by decide +kernel
theorem xd_Mo_fault_6 : decode xb_Mo_fault 6 = .ok (.getfield 187, 3) := by decide +kernel
theorem xd_Mo_fault_9 : decode xb_Mo_fault 9 = .ok (.ireturn, 1) := by decide +kernel
theorem xd_Mo_init_0 : decode xb_Mo_init 0 = .ok (.aload_n 0, 1) := by decide +kernel
theorem xd_Mo_init_1 : decode xb_Mo_init 1 = .ok (.invokespecial 1, 3) := by decide +kernel
theorem xd_Mo_init_4 : decode xb_Mo_init 4 = .ok (.aload_n 0, 1) := by decide +kernel
theorem xd_Mo_init_5 : decode xb_Mo_init 5 = .ok (.bipush 40, 2) := by decide +kernel
theorem xd_Mo_init_7 : decode xb_Mo_init 7 = .ok (.newarray .char, 2) := by decide +kernel
theorem xd_Mo_init_9 : decode xb_Mo_init 9 = .ok (.putfield 7, 3) := by decide +kernel
theorem xd_Mo_init_12 : decode xb_Mo_init 12 = .ok (.aload_n 0, 1) := by decide +kernel
theorem xd_Mo_init_13 : decode xb_Mo_init 13 = .ok (.bipush 20, 2) := by decide +kernel
theorem xd_Mo_init_15 : decode xb_Mo_init 15 = .ok (.newarray .int, 2) := by decide +kernel
theorem xd_Mo_init_17 : decode xb_Mo_init 17 = .ok (.putfield 13, 3) := by decide +kernel
theorem xd_Mo_init_20 : decode xb_Mo_init 20 = .ok (.aload_n 0, 1) := by decide +kernel
theorem xd_Mo_init_21 : decode xb_Mo_init 21 = .ok (.bipush 20, 2) := by decide +kernel
theorem xd_Mo_init_23 : decode xb_Mo_init 23 = .ok (.newarray .int, 2) := by decide +kernel
theorem xd_Mo_init_25 : decode xb_Mo_init 25 = .ok (.putfield 17, 3) := by decide +kernel
theorem xd_Mo_init_28 : decode xb_Mo_init 28 = .ok (.aload_n 0, 1) := by decide +kernel
theorem xd_Mo_init_29 : decode xb_Mo_init 29 = .ok (.bipush 12, 2) := by decide +kernel
theorem xd_Mo_init_31 : decode xb_Mo_init 31 = .ok (.newarray .int, 2) := by decide +kernel
theorem xd_Mo_init_33 : decode xb_Mo_init 33 = .ok (.putfield 20, 3) := by decide +kernel
theorem xd_Mo_init_36 : decode xb_Mo_init 36 = .ok (.aload_n 0, 1) := by decide +kernel
theorem xd_Mo_init_37 : decode xb_Mo_init 37 = .ok (.bipush 12, 2) := by decide +kernel
theorem xd_Mo_init_39 : decode xb_Mo_init 39 = .ok (.newarray .int, 2) := by decide +kernel
theorem xd_Mo_init_41 : decode xb_Mo_init 41 = .ok (.putfield 23, 3) := by decide +kernel
theorem xd_Mo_init_44 : decode xb_Mo_init 44 = .ok (.aload_n 0, 1) := by decide +kernel
theorem xd_Mo_init_45 : decode xb_Mo_init 45 = .ok (.bipush 12, 2) := by decide +kernel
theorem xd_Mo_init_47 : decode xb_Mo_init 47 = .ok (.newarray .int, 2) := by decide +kernel
theorem xd_Mo_init_49 : decode xb_Mo_init 49 = .ok (.putfield 26, 3) := by decide +kernel
theorem xd_Mo_init_52 : decode xb_Mo_init 52 = .ok (.aload_n 0, 1) := by decide +kernel
theorem xd_Mo_init_53 : decode xb_Mo_init 53 = .ok (.bipush 72, 2) := by decide +kernel
theorem xd_Mo_init_55 : decode xb_Mo_init 55 = .ok (.newarray .int, 2) := by decide +kernel
theorem xd_Mo_init_57 : decode xb_Mo_init 57 = .ok (.putfield 29, 3) := by decide +kernel
theorem xd_Mo_init_60 : decode xb_Mo_init 60 = .ok (.aload_n 0, 1) := by decide +kernel
theorem xd_Mo_init_61 : decode xb_Mo_init 61 = .ok (.sipush 216, 3) := by decide +kernel
theorem xd_Mo_init_64 : decode xb_Mo_init 64 = .ok (.newarray .int, 2) := by decide +kernel
theorem xd_Mo_init_66 : decode xb_Mo_init 66 = .ok (.putfield 32, 3) := by decide +kernel
theorem xd_Mo_init_69 : decode xb_Mo_init 69 = .ok (.aload_n 0, 1) := by decide +kernel
theorem xd_Mo_init_70 : decode xb_Mo_init 70 = .ok (.sipush 216, 3) := by decide +kernel
theorem xd_Mo_init_73 : decode xb_Mo_init 73 = .ok (.newarray .int, 2) := by decide +kernel
theorem xd_Mo_init_75 : decode xb_Mo_init 75 = .ok (.putfield 35, 3) := by decide +kernel
theorem xd_Mo_init_78 : decode xb_Mo_init 78 = .ok (.aload_n 0, 1) := by decide +kernel
theorem xd_Mo_init_79 : decode xb_Mo_init 79 = .ok (.bipush 72, 2) := by decide +kernel
theorem xd_Mo_init_81 : decode xb_Mo_init 81 = .ok (.newarray .boolean, 2) := by decide +kernel
theorem xd_Mo_init_83 : decode xb_Mo_init 83 = .ok (.putfield 38, 3) := by decide +kernel
theorem xd_Mo_init_86 : decode xb_Mo_init 86 = .ok (.aload_n 0, 1) := by decide +kernel
theorem xd_Mo_init_87 : decode xb_Mo_init 87 = .ok (.bipush 72, 2) := by decide +kernel
theorem xd_Mo_init_89 : decode xb_Mo_init 89 = .ok (.newarray .boolean, 2) := by decide +kernel
theorem xd_Mo_init_91 : decode xb_Mo_init 91 = .ok (.putfield 42, 3) := by decide +kernel
theorem xd_Mo_init_94 : decode xb_Mo_init 94 = .ok (.aload_n 0, 1) := by decide +kernel
theorem xd_Mo_init_95 : decode xb_Mo_init 95 = .ok (.bipush 12, 2) := by decide +kernel
theorem xd_Mo_init_97 : decode xb_Mo_init 97 = .ok (.newarray .boolean, 2) := by decide +kernel
theorem xd_Mo_init_99 : decode xb_Mo_init 99 = .ok (.putfield 45, 3) := by decide +kernel
theorem xd_Mo_init_102 : decode xb_Mo_init 102 = .ok (.aload_n 0, 1) := by decide +kernel
theorem xd_Mo_init_103 : decode xb_Mo_init 103 = .ok (.bipush 12, 2) := by decide +kernel
theorem xd_Mo_init_105 : decode xb_Mo_init 105 = .ok (.newarray .int, 2) := by decide +kernel
theorem xd_Mo_init_107 : decode xb_Mo_init 107 = .ok (.putfield 48, 3) := by decide +kernel
theorem xd_Mo_init_110 : decode xb_Mo_init 110 = .ok (.aload_n 0, 1) := by decide +kernel
theorem xd_Mo_init_111 : decode xb_Mo_init 111 = .ok (.bipush 60, 2) := by decide +kernel
theorem xd_Mo_init_113 : decode xb_Mo_init 113 = .ok (.newarray .int, 2) := by decide +kernel
theorem xd_Mo_init_115 : decode xb_Mo_init 115 = .ok (.putfield 51, 3) := by decide +kernel
theorem xd_Mo_init_118 : decode xb_Mo_init 118 = .ok (.aload_n 0, 1) := by decide +kernel
theorem xd_Mo_init_119 : decode xb_Mo_init 119 = .ok (.bipush 36, 2) := by decide +kernel
theorem xd_Mo_init_121 : decode xb_Mo_init 121 = .ok (.newarray .int, 2) := by decide +kernel
theorem xd_Mo_init_123 : decode xb_Mo_init 123 = .ok (.putfield 54, 3) := by decide +kernel
theorem xd_Mo_init_126 : decode xb_Mo_init 126 = .ok (.aload_n 0, 1) := by decide +kernel
theorem xd_Mo_init_127 : decode xb_Mo_init 127 = .ok (.bipush 36, 2) := by decide +kernel
theorem xd_Mo_init_129 : decode xb_Mo_init 129 = .ok (.newarray .int, 2) := by decide +kernel
theorem xd_Mo_init_131 : decode xb_Mo_init 131 = .ok (.putfield 57, 3) := by decide +kernel
theorem xd_Mo_init_134 : decode xb_Mo_init 134 = .ok (.aload_n 0, 1) := by decide +kernel
theorem xd_Mo_init_135 : decode xb_Mo_init 135 = .ok (.bipush 60, 2) := by decide +kernel
theorem xd_Mo_init_137 : decode xb_Mo_init 137 = .ok (.newarray .boolean, 2) := by decide +kernel
theorem xd_Mo_init_139 : decode xb_Mo_init 139 = .ok (.putfield 60, 3) := by decide +kernel
theorem xd_Mo_init_142 : decode xb_Mo_init 142 = .ok (.aload_n 0, 1) := by decide +kernel
theorem xd_Mo_init_143 : decode xb_Mo_init 143 = .ok (.bipush 60, 2) := by decide +kernel
theorem xd_Mo_init_145 : decode xb_Mo_init 145 = .ok (.newarray .boolean, 2) := by decide +kernel
theorem xd_Mo_init_147 : decode xb_Mo_init 147 = .ok (.putfield 63, 3) := by decide +kernel
theorem xd_Mo_init_150 : decode xb_Mo_init 150 = .ok (.aload_n 0, 1) := by decide +kernel
theorem xd_Mo_init_151 : decode xb_Mo_init 151 = .ok (.bipush 6, 2) := by decide +kernel
theorem xd_Mo_init_153 : decode xb_Mo_init 153 = .ok (.newarray .int, 2) := by decide +kernel
theorem xd_Mo_init_155 : decode xb_Mo_init 155 = .ok (.putfield 66, 3) := by decide +kernel
theorem xd_Mo_init_158 : decode xb_Mo_init 158 = .ok (.aload_n 0, 1) := by decide +kernel
theorem xd_Mo_init_159 : decode xb_Mo_init 159 = .ok (.bipush 6, 2) := by decide +kernel
theorem xd_Mo_init_161 : decode xb_Mo_init 161 = .ok (.newarray .int, 2) := by decide +kernel
theorem xd_Mo_init_163 : decode xb_Mo_init 163 = .ok (.putfield 69, 3) := by decide +kernel
theorem xd_Mo_init_166 : decode xb_Mo_init 166 = .ok (.aload_n 0, 1) := by decide +kernel
theorem xd_Mo_init_167 : decode xb_Mo_init 167 = .ok (.bipush 6, 2) := by decide +kernel
theorem xd_Mo_init_169 : decode xb_Mo_init 169 = .ok (.newarray .int, 2) := by decide +kernel
theorem xd_Mo_init_171 : decode xb_Mo_init 171 = .ok (.putfield 72, 3) := by decide +kernel
theorem xd_Mo_init_174 : decode xb_Mo_init 174 = .ok (.aload_n 0, 1) := by decide +kernel
theorem xd_Mo_init_175 : decode xb_Mo_init 175 = .ok (.bipush 72, 2) := by decide +kernel
theorem xd_Mo_init_177 : decode xb_Mo_init 177 = .ok (.newarray .int, 2) := by decide +kernel
theorem xd_Mo_init_179 : decode xb_Mo_init 179 = .ok (.putfield 75, 3) := by decide +kernel
theorem xd_Mo_init_182 : decode xb_Mo_init 182 = .ok (.aload_n 0, 1) := by decide +kernel
theorem xd_Mo_init_183 : decode xb_Mo_init 183 = .ok (.bipush 6, 2) := by decide +kernel
theorem xd_Mo_init_185 : decode xb_Mo_init 185 = .ok (.newarray .boolean, 2) := by decide +kernel
theorem xd_Mo_init_187 : decode xb_Mo_init 187 = .ok (.putfield 78, 3) := by decide +kernel
theorem xd_Mo_init_190 : decode xb_Mo_init 190 = .ok (.aload_n 0, 1) := by decide +kernel
theorem xd_Mo_init_191 : decode xb_Mo_init 191 = .ok (.bipush 80, 2) := by decide +kernel
theorem xd_Mo_init_193 : decode xb_Mo_init 193 = .ok (.newarray .int, 2) := by decide +kernel
theorem xd_Mo_init_195 : decode xb_Mo_init 195 = .ok (.putfield 81, 3) := by decide +kernel
theorem xd_Mo_init_198 : decode xb_Mo_init 198 = .ok (.aload_n 0, 1) := by decide +kernel
theorem xd_Mo_init_199 : decode xb_Mo_init 199 = .ok (.bipush 72, 2) := by decide +kernel
theorem xd_Mo_init_201 : decode xb_Mo_init 201 = .ok (.newarray .boolean, 2) := by decide +kernel
theorem xd_Mo_init_203 : decode xb_Mo_init 203 = .ok (.putfield 84, 3) := by decide +kernel
theorem xd_Mo_init_206 : decode xb_Mo_init 206 = .ok (.return_, 1) := by decide +kernel
theorem xd_Mo_isOpen_0 : decode xb_Mo_isOpen 0 = .ok (.iload_n 1, 1) := by decide +kernel
theorem xd_Mo_isOpen_1 : decode xb_Mo_isOpen 1 = .ok (.ifCond .lt 24, 3) := by decide +kernel
theorem xd_Mo_isOpen_4 : decode xb_Mo_isOpen 4 = .ok (.iload_n 1, 1) := by decide +kernel
theorem xd_Mo_isOpen_5 : decode xb_Mo_isOpen 5 = .ok (.aload_n 0, 1) := by decide +kernel
theorem xd_Mo_isOpen_6 : decode xb_Mo_isOpen 6 = .ok (.getfield 150, 3) := by decide +kernel
theorem xd_Mo_isOpen_9 : decode xb_Mo_isOpen 9 = .ok (.if_icmp .ge 16, 3) := by decide +kernel
theorem xd_Mo_isOpen_25 : decode xb_Mo_isOpen 25 = .ok (.iconst 0, 1) := by decide +kernel
theorem xd_Mo_isOpen_26 : decode xb_Mo_isOpen 26 = .ok (.ireturn, 1) := by decide +kernel
theorem xd_Mo_layer_0 : decode xb_Mo_layer 0 = .ok (.aload_n 0, 1) := by decide +kernel
theorem xd_Mo_layer_1 : decode xb_Mo_layer 1 = .ok (.iconst 0, 1) := by decide +kernel
theorem xd_Mo_layer_2 : decode xb_Mo_layer 2 = .ok (.putfield 87, 3) := by decide +kernel
theorem xd_Mo_layer_5 : decode xb_Mo_layer 5 = .ok (.aload_n 0, 1) := by decide +kernel
theorem xd_Mo_layer_6 : decode xb_Mo_layer 6 = .ok (.iconst 0, 1) := by decide +kernel
theorem xd_Mo_layer_7 : decode xb_Mo_layer 7 = .ok (.putfield 187, 3) := by decide +kernel
theorem xd_Mo_layer_10 : decode xb_Mo_layer 10 = .ok (.aload_n 0, 1) := by decide +kernel
theorem xd_Mo_layer_11 : decode xb_Mo_layer 11 = .ok (.invokevirtual 101, 3) := by decide +kernel
theorem xd_Mo_layer_14 : decode xb_Mo_layer 14 = .ok (.aload_n 0, 1) := by decide +kernel
theorem xd_Mo_layer_15 : decode xb_Mo_layer 15 = .ok (.getfield 94, 3) := by decide +kernel
theorem xd_Mo_layer_18 : decode xb_Mo_layer 18 = .ok (.iconst 1, 1) := by decide +kernel
theorem xd_Mo_layer_19 : decode xb_Mo_layer 19 = .ok (.if_icmp .lt 15, 3) := by decide +kernel
theorem xd_Mo_layer_34 : decode xb_Mo_layer 34 = .ok (.iconst 0, 1) := by decide +kernel
theorem xd_Mo_layer_35 : decode xb_Mo_layer 35 = .ok (.istore 4, 2) := by decide +kernel
theorem xd_Mo_layer_37 : decode xb_Mo_layer 37 = .ok (.iconst 0, 1) := by decide +kernel
theorem xd_Mo_layer_38 : decode xb_Mo_layer 38 = .ok (.istore 5, 2) := by decide +kernel
theorem xd_Mo_layer_40 : decode xb_Mo_layer 40 = .ok (.iload 5, 2) := by decide +kernel
theorem xd_Mo_layer_42 : decode xb_Mo_layer 42 = .ok (.aload_n 0, 1) := by decide +kernel
theorem xd_Mo_layer_43 : decode xb_Mo_layer 43 = .ok (.getfield 94, 3) := by decide +kernel
theorem xd_Mo_layer_46 : decode xb_Mo_layer 46 = .ok (.if_icmp .ge 30, 3) := by decide +kernel
theorem xd_Mo_layer_76 : decode xb_Mo_layer 76 = .ok (.iload 4, 2) := by decide +kernel
theorem xd_Mo_layer_78 : decode xb_Mo_layer 78 = .ok (.ifCond .eq 25, 3) := by decide +kernel
theorem xd_Mo_layer_103 : decode xb_Mo_layer 103 = .ok (.aload_n 0, 1) := by decide +kernel
theorem xd_Mo_layer_104 : decode xb_Mo_layer 104 = .ok (.iconst 1, 1) := by decide +kernel
theorem xd_Mo_layer_105 : decode xb_Mo_layer 105 = .ok (.invokevirtual 129, 3) := by decide +kernel
theorem xd_Mo_layer_108 : decode xb_Mo_layer 108 = .ok (.ireturn, 1) := by decide +kernel
theorem xd_Mo_line_0 : decode xb_Mo_line 0 = .ok (.aload_n 0, 1) := by decide +kernel
theorem xd_Mo_line_1 : decode xb_Mo_line 1 = .ok (.iconst 0, 1) := by decide +kernel
theorem xd_Mo_line_2 : decode xb_Mo_line 2 = .ok (.putfield 87, 3) := by decide +kernel
theorem xd_Mo_line_5 : decode xb_Mo_line 5 = .ok (.aload_n 0, 1) := by decide +kernel
theorem xd_Mo_line_6 : decode xb_Mo_line 6 = .ok (.invokevirtual 101, 3) := by decide +kernel
theorem xd_Mo_line_9 : decode xb_Mo_line 9 = .ok (.aload_n 0, 1) := by decide +kernel
theorem xd_Mo_line_10 : decode xb_Mo_line 10 = .ok (.getfield 94, 3) := by decide +kernel
theorem xd_Mo_line_13 : decode xb_Mo_line 13 = .ok (.ifCond .ne 5, 3) := by decide +kernel
theorem xd_Mo_line_16 : decode xb_Mo_line 16 = .ok (.iconst 0, 1) := by decide +kernel
theorem xd_Mo_line_17 : decode xb_Mo_line 17 = .ok (.ireturn, 1) := by decide +kernel
theorem xd_Mo_load_0 : decode xb_Mo_load 0 = .ok (.aload_n 0, 1) := by decide +kernel
theorem xd_Mo_load_1 : decode xb_Mo_load 1 = .ok (.iconst 0, 1) := by decide +kernel
theorem xd_Mo_load_2 : decode xb_Mo_load 2 = .ok (.putfield 87, 3) := by decide +kernel
theorem xd_Mo_load_5 : decode xb_Mo_load 5 = .ok (.aload_n 0, 1) := by decide +kernel
theorem xd_Mo_load_6 : decode xb_Mo_load 6 = .ok (.invokevirtual 205, 3) := by decide +kernel
theorem xd_Mo_load_9 : decode xb_Mo_load 9 = .ok (.istore_n 3, 1) := by decide +kernel
theorem xd_Mo_load_10 : decode xb_Mo_load 10 = .ok (.aload_n 0, 1) := by decide +kernel
theorem xd_Mo_load_11 : decode xb_Mo_load 11 = .ok (.iload_n 1, 1) := by decide +kernel
theorem xd_Mo_load_12 : decode xb_Mo_load 12 = .ok (.iload_n 2, 1) := by decide +kernel
theorem xd_Mo_load_13 : decode xb_Mo_load 13 = .ok (.invokevirtual 199, 3) := by decide +kernel
theorem xd_Mo_load_16 : decode xb_Mo_load 16 = .ok (.istore 4, 2) := by decide +kernel
theorem xd_Mo_load_18 : decode xb_Mo_load 18 = .ok (.iload_n 3, 1) := by decide +kernel
theorem xd_Mo_load_19 : decode xb_Mo_load 19 = .ok (.ifCond .eq 8, 3) := by decide +kernel
theorem xd_Mo_load_27 : decode xb_Mo_load 27 = .ok (.aload_n 0, 1) := by decide +kernel
theorem xd_Mo_load_28 : decode xb_Mo_load 28 = .ok (.iconst 1, 1) := by decide +kernel
theorem xd_Mo_load_29 : decode xb_Mo_load 29 = .ok (.invokevirtual 129, 3) := by decide +kernel
theorem xd_Mo_load_32 : decode xb_Mo_load 32 = .ok (.ireturn, 1) := by decide +kernel
theorem xd_Mo_module_0 : decode xb_Mo_module 0 = .ok (.aload_n 0, 1) := by decide +kernel
theorem xd_Mo_module_1 : decode xb_Mo_module 1 = .ok (.iconst 0, 1) := by decide +kernel
theorem xd_Mo_module_2 : decode xb_Mo_module 2 = .ok (.putfield 87, 3) := by decide +kernel
theorem xd_Mo_module_5 : decode xb_Mo_module 5 = .ok (.aload_n 0, 1) := by decide +kernel
theorem xd_Mo_module_6 : decode xb_Mo_module 6 = .ok (.iload_n 1, 1) := by decide +kernel
theorem xd_Mo_module_7 : decode xb_Mo_module 7 = .ok (.iload_n 2, 1) := by decide +kernel
theorem xd_Mo_module_8 : decode xb_Mo_module 8 = .ok (.invokevirtual 199, 3) := by decide +kernel
theorem xd_Mo_module_11 : decode xb_Mo_module 11 = .ok (.ireturn, 1) := by decide +kernel
theorem xd_Mo_moduleOf_0 : decode xb_Mo_moduleOf 0 = .ok (.aload_n 0, 1) := by decide +kernel
theorem xd_Mo_moduleOf_1 : decode xb_Mo_moduleOf 1 = .ok (.iload_n 1, 1) := by decide +kernel
theorem xd_Mo_moduleOf_2 : decode xb_Mo_moduleOf 2 = .ok (.invokevirtual 190, 3) := by decide +kernel
theorem xd_Mo_moduleOf_5 : decode xb_Mo_moduleOf 5 = .ok (.ifCond .eq 31, 3) := by decide +kernel
theorem xd_Mo_moduleOf_36 : decode xb_Mo_moduleOf 36 = .ok (.iconst (-1), 1) := by decide +kernel
theorem xd_Mo_moduleOf_37 : decode xb_Mo_moduleOf 37 = .ok (.ireturn, 1) := by decide +kernel
theorem xd_Mo_modules_0 : decode xb_Mo_modules 0 = .ok (.aload_n 0, 1) := by decide +kernel
theorem xd_Mo_modules_1 : decode xb_Mo_modules 1 = .ok (.iconst 0, 1) := by decide +kernel
theorem xd_Mo_modules_2 : decode xb_Mo_modules 2 = .ok (.putfield 87, 3) := by decide +kernel
theorem xd_Mo_modules_5 : decode xb_Mo_modules 5 = .ok (.aload_n 0, 1) := by decide +kernel
theorem xd_Mo_modules_6 : decode xb_Mo_modules 6 = .ok (.iload_n 1, 1) := by decide +kernel
theorem xd_Mo_modules_7 : decode xb_Mo_modules 7 = .ok (.invokevirtual 190, 3) := by decide +kernel
theorem xd_Mo_modules_10 : decode xb_Mo_modules 10 = .ok (.ifCond .eq 12, 3) := by decide +kernel
theorem xd_Mo_modules_22 : decode xb_Mo_modules 22 = .ok (.iconst (-1), 1) := by decide +kernel
theorem xd_Mo_modules_23 : decode xb_Mo_modules 23 = .ok (.ireturn, 1) := by decide +kernel
theorem xd_Mo_oneName_0 : decode xb_Mo_oneName 0 = .ok (.aload_n 0, 1) := by decide +kernel
theorem xd_Mo_oneName_1 : decode xb_Mo_oneName 1 = .ok (.invokevirtual 101, 3) := by decide +kernel
theorem xd_Mo_oneName_4 : decode xb_Mo_oneName 4 = .ok (.aload_n 0, 1) := by decide +kernel
theorem xd_Mo_oneName_5 : decode xb_Mo_oneName 5 = .ok (.getfield 94, 3) := by decide +kernel
theorem xd_Mo_oneName_8 : decode xb_Mo_oneName 8 = .ok (.iconst 1, 1) := by decide +kernel
theorem xd_Mo_oneName_9 : decode xb_Mo_oneName 9 = .ok (.if_icmp .ne 11, 3) := by decide +kernel
theorem xd_Mo_oneName_20 : decode xb_Mo_oneName 20 = .ok (.iconst 0, 1) := by decide +kernel
theorem xd_Mo_oneName_21 : decode xb_Mo_oneName 21 = .ok (.ireturn, 1) := by decide +kernel
theorem xd_Mo_peek_0 : decode xb_Mo_peek 0 = .ok (.aload_n 0, 1) := by decide +kernel
theorem xd_Mo_peek_1 : decode xb_Mo_peek 1 = .ok (.iconst 0, 1) := by decide +kernel
theorem xd_Mo_peek_2 : decode xb_Mo_peek 2 = .ok (.putfield 87, 3) := by decide +kernel
theorem xd_Mo_peek_5 : decode xb_Mo_peek 5 = .ok (.aload_n 0, 1) := by decide +kernel
theorem xd_Mo_peek_6 : decode xb_Mo_peek 6 = .ok (.invokevirtual 205, 3) := by decide +kernel
theorem xd_Mo_peek_9 : decode xb_Mo_peek 9 = .ok (.istore 5, 2) := by decide +kernel
theorem xd_Mo_peek_11 : decode xb_Mo_peek 11 = .ok (.aload_n 0, 1) := by decide +kernel
theorem xd_Mo_peek_12 : decode xb_Mo_peek 12 = .ok (.iload_n 1, 1) := by decide +kernel
theorem xd_Mo_peek_13 : decode xb_Mo_peek 13 = .ok (.iload_n 2, 1) := by decide +kernel
theorem xd_Mo_peek_14 : decode xb_Mo_peek 14 = .ok (.invokevirtual 199, 3) := by decide +kernel
theorem xd_Mo_peek_17 : decode xb_Mo_peek 17 = .ok (.istore 6, 2) := by decide +kernel
theorem xd_Mo_peek_19 : decode xb_Mo_peek 19 = .ok (.iload 5, 2) := by decide +kernel
theorem xd_Mo_peek_21 : decode xb_Mo_peek 21 = .ok (.ifCond .eq 18, 3) := by decide +kernel
theorem xd_Mo_peek_39 : decode xb_Mo_peek 39 = .ok (.aload_n 0, 1) := by decide +kernel
theorem xd_Mo_peek_40 : decode xb_Mo_peek 40 = .ok (.iconst 1, 1) := by decide +kernel
theorem xd_Mo_peek_41 : decode xb_Mo_peek 41 = .ok (.putfield 87, 3) := by decide +kernel
theorem xd_Mo_peek_44 : decode xb_Mo_peek 44 = .ok (.iconst 0, 1) := by decide +kernel
theorem xd_Mo_peek_45 : decode xb_Mo_peek 45 = .ok (.ireturn, 1) := by decide +kernel
theorem xd_Mo_provider_0 : decode xb_Mo_provider 0 = .ok (.aload_n 0, 1) := by decide +kernel
theorem xd_Mo_provider_1 : decode xb_Mo_provider 1 = .ok (.iconst 0, 1) := by decide +kernel
theorem xd_Mo_provider_2 : decode xb_Mo_provider 2 = .ok (.putfield 87, 3) := by decide +kernel
theorem xd_Mo_provider_5 : decode xb_Mo_provider 5 = .ok (.aload_n 0, 1) := by decide +kernel
theorem xd_Mo_provider_6 : decode xb_Mo_provider 6 = .ok (.invokevirtual 205, 3) := by decide +kernel
theorem xd_Mo_provider_9 : decode xb_Mo_provider 9 = .ok (.istore_n 3, 1) := by decide +kernel
theorem xd_Mo_provider_10 : decode xb_Mo_provider 10 = .ok (.iload_n 3, 1) := by decide +kernel
theorem xd_Mo_provider_11 : decode xb_Mo_provider 11 = .ok (.ifCond .eq 11, 3) := by decide +kernel
theorem xd_Mo_provider_22 : decode xb_Mo_provider 22 = .ok (.aload_n 0, 1) := by decide +kernel
theorem xd_Mo_provider_23 : decode xb_Mo_provider 23 = .ok (.iconst 1, 1) := by decide +kernel
theorem xd_Mo_provider_24 : decode xb_Mo_provider 24 = .ok (.invokevirtual 129, 3) := by decide +kernel
theorem xd_Mo_provider_27 : decode xb_Mo_provider 27 = .ok (.ireturn, 1) := by decide +kernel
theorem xd_Mo_reads_0 : decode xb_Mo_reads 0 = .ok (.aload_n 0, 1) := by decide +kernel
theorem xd_Mo_reads_1 : decode xb_Mo_reads 1 = .ok (.iconst 0, 1) := by decide +kernel
theorem xd_Mo_reads_2 : decode xb_Mo_reads 2 = .ok (.putfield 87, 3) := by decide +kernel
theorem xd_Mo_reads_5 : decode xb_Mo_reads 5 = .ok (.aload_n 0, 1) := by decide +kernel
theorem xd_Mo_reads_6 : decode xb_Mo_reads 6 = .ok (.iload_n 1, 1) := by decide +kernel
theorem xd_Mo_reads_7 : decode xb_Mo_reads 7 = .ok (.iload_n 2, 1) := by decide +kernel
theorem xd_Mo_reads_8 : decode xb_Mo_reads 8 = .ok (.invokevirtual 199, 3) := by decide +kernel
theorem xd_Mo_reads_11 : decode xb_Mo_reads 11 = .ok (.istore 5, 2) := by decide +kernel
theorem xd_Mo_reads_13 : decode xb_Mo_reads 13 = .ok (.iload 5, 2) := by decide +kernel
theorem xd_Mo_reads_15 : decode xb_Mo_reads 15 = .ok (.ifCond .lt 13, 3) := by decide +kernel
theorem xd_Mo_reads_28 : decode xb_Mo_reads 28 = .ok (.iconst 0, 1) := by decide +kernel
theorem xd_Mo_reads_29 : decode xb_Mo_reads 29 = .ok (.ireturn, 1) := by decide +kernel
theorem xd_Mo_split_0 : decode xb_Mo_split 0 = .ok (.aload_n 0, 1) := by decide +kernel
theorem xd_Mo_split_1 : decode xb_Mo_split 1 = .ok (.iconst 0, 1) := by decide +kernel
theorem xd_Mo_split_2 : decode xb_Mo_split 2 = .ok (.putfield 94, 3) := by decide +kernel
theorem xd_Mo_split_5 : decode xb_Mo_split 5 = .ok (.iconst 0, 1) := by decide +kernel
theorem xd_Mo_split_6 : decode xb_Mo_split 6 = .ok (.istore_n 1, 1) := by decide +kernel
theorem xd_Mo_split_7 : decode xb_Mo_split 7 = .ok (.iload_n 1, 1) := by decide +kernel
theorem xd_Mo_split_8 : decode xb_Mo_split 8 = .ok (.aload_n 0, 1) := by decide +kernel
theorem xd_Mo_split_9 : decode xb_Mo_split 9 = .ok (.getfield 91, 3) := by decide +kernel
theorem xd_Mo_split_12 : decode xb_Mo_split 12 = .ok (.if_icmp .ge 94, 3) := by decide +kernel
theorem xd_Mo_split_106 : decode xb_Mo_split 106 = .ok (.aload_n 0, 1) := by decide +kernel
theorem xd_Mo_split_107 : decode xb_Mo_split 107 = .ok (.iconst 0, 1) := by decide +kernel
theorem xd_Mo_split_108 : decode xb_Mo_split 108 = .ok (.putfield 91, 3) := by decide +kernel
theorem xd_Mo_split_111 : decode xb_Mo_split 111 = .ok (.return_, 1) := by decide +kernel
theorem xd_Mo_thrown_0 : decode xb_Mo_thrown 0 = .ok (.aload_n 0, 1) := by decide +kernel
theorem xd_Mo_thrown_1 : decode xb_Mo_thrown 1 = .ok (.getfield 87, 3) := by decide +kernel
theorem xd_Mo_thrown_4 : decode xb_Mo_thrown 4 = .ok (.ireturn, 1) := by decide +kernel
theorem xd_Mo_write_0 : decode xb_Mo_write 0 = .ok (.aload_n 0, 1) := by decide +kernel
theorem xd_Mo_write_1 : decode xb_Mo_write 1 = .ok (.iconst 0, 1) := by decide +kernel
theorem xd_Mo_write_2 : decode xb_Mo_write 2 = .ok (.putfield 87, 3) := by decide +kernel
theorem xd_Mo_write_5 : decode xb_Mo_write 5 = .ok (.iload_n 1, 1) := by decide +kernel
theorem xd_Mo_write_6 : decode xb_Mo_write 6 = .ok (.bipush 32, 2) := by decide +kernel
theorem xd_Mo_write_8 : decode xb_Mo_write 8 = .ok (.if_icmp .lt 18, 3) := by decide +kernel
theorem xd_Mo_write_11 : decode xb_Mo_write 11 = .ok (.iload_n 1, 1) := by decide +kernel
theorem xd_Mo_write_12 : decode xb_Mo_write 12 = .ok (.bipush 126, 2) := by decide +kernel
theorem xd_Mo_write_14 : decode xb_Mo_write 14 = .ok (.if_icmp .gt 12, 3) := by decide +kernel
theorem xd_Mo_write_17 : decode xb_Mo_write 17 = .ok (.aload_n 0, 1) := by decide +kernel
theorem xd_Mo_write_18 : decode xb_Mo_write 18 = .ok (.getfield 91, 3) := by decide +kernel
theorem xd_Mo_write_21 : decode xb_Mo_write 21 = .ok (.bipush 40, 2) := by decide +kernel
theorem xd_Mo_write_23 : decode xb_Mo_write 23 = .ok (.if_icmp .lt 5, 3) := by decide +kernel
theorem xd_Mo_write_26 : decode xb_Mo_write 26 = .ok (.iconst 0, 1) := by decide +kernel
theorem xd_Mo_write_27 : decode xb_Mo_write 27 = .ok (.ireturn, 1) := by decide +kernel
theorem xd_Mo_write_28 : decode xb_Mo_write 28 = .ok (.aload_n 0, 1) := by decide +kernel
theorem xd_Mo_write_29 : decode xb_Mo_write 29 = .ok (.getfield 7, 3) := by decide +kernel
theorem xd_Mo_write_32 : decode xb_Mo_write 32 = .ok (.aload_n 0, 1) := by decide +kernel
theorem xd_Mo_write_33 : decode xb_Mo_write 33 = .ok (.getfield 91, 3) := by decide +kernel
theorem xd_Mo_write_36 : decode xb_Mo_write 36 = .ok (.iload_n 1, 1) := by decide +kernel
theorem xd_Mo_write_37 : decode xb_Mo_write 37 = .ok (.castore, 1) := by decide +kernel
theorem xd_Mo_write_38 : decode xb_Mo_write 38 = .ok (.aload_n 0, 1) := by decide +kernel
theorem xd_Mo_write_39 : decode xb_Mo_write 39 = .ok (.dup, 1) := by decide +kernel
theorem xd_Mo_write_40 : decode xb_Mo_write 40 = .ok (.getfield 91, 3) := by decide +kernel
theorem xd_Mo_write_43 : decode xb_Mo_write 43 = .ok (.iconst 1, 1) := by decide +kernel
theorem xd_Mo_write_44 : decode xb_Mo_write 44 = .ok (.iadd, 1) := by decide +kernel
theorem xd_Mo_write_45 : decode xb_Mo_write 45 = .ok (.putfield 91, 3) := by decide +kernel
theorem xd_Mo_write_48 : decode xb_Mo_write 48 = .ok (.iconst 1, 1) := by decide +kernel
theorem xd_Mo_write_49 : decode xb_Mo_write 49 = .ok (.ireturn, 1) := by decide +kernel
theorem xd_Sh_accept_0 : decode xb_Sh_accept 0 = .ok (.aload_n 1, 1) := by decide +kernel
theorem xd_Sh_accept_1 : decode xb_Sh_accept 1 = .ok (.getfield 27, 3) := by decide +kernel
theorem xd_Sh_accept_4 : decode xb_Sh_accept 4 = .ok (.ifCond .ne 5, 3) := by decide +kernel
theorem xd_Sh_accept_7 : decode xb_Sh_accept 7 = .ok (.iconst 0, 1) := by decide +kernel
theorem xd_Sh_accept_8 : decode xb_Sh_accept 8 = .ok (.ireturn, 1) := by decide +kernel
theorem xd_Sh_init_0 : decode xb_Sh_init 0 = .ok (.aload_n 0, 1) := by decide +kernel
theorem xd_Sh_init_1 : decode xb_Sh_init 1 = .ok (.invokespecial 3, 3) := by decide +kernel
theorem xd_Sh_init_4 : decode xb_Sh_init 4 = .ok (.aload_n 0, 1) := by decide +kernel
theorem xd_Sh_init_5 : decode xb_Sh_init 5 = .ok (.bipush 12, 2) := by decide +kernel
theorem xd_Sh_init_7 : decode xb_Sh_init 7 = .ok (.anewarray 9, 3) := by decide +kernel
theorem xd_Sh_init_10 : decode xb_Sh_init 10 = .ok (.putfield 11, 3) := by decide +kernel
theorem xd_Sh_init_13 : decode xb_Sh_init 13 = .ok (.aload_n 0, 1) := by decide +kernel
theorem xd_Sh_init_14 : decode xb_Sh_init 14 = .ok (.iconst 0, 1) := by decide +kernel
theorem xd_Sh_init_15 : decode xb_Sh_init 15 = .ok (.putfield 17, 3) := by decide +kernel
theorem xd_Sh_init_18 : decode xb_Sh_init 18 = .ok (.return_, 1) := by decide +kernel
theorem xk_0 : (Cond.methodLink "LayerDesk$Line" 1 ⟨"java/lang/Object", "<init>", "()V"⟩) ∈ wT := wT_t (List.mem_append_left _ (List.mem_of_getElem? (i := 35) rfl)) rfl
theorem xk_1 : (Cond.instanceMethod ⟨"java/lang/Object", "<init>", "()V"⟩) ∈ wT := wT_t (List.mem_append_left _ (List.mem_of_getElem? (i := 28) rfl)) rfl
theorem xk_2 : (Cond.code ⟨"java/lang/Object", "<init>", "()V"⟩ object_method_1_code 1 none) ∈ wT := wT_t (List.mem_append_left _ (List.mem_of_getElem? (i := 29) rfl)) rfl
theorem xk_3 : (Cond.arrayClass .char) ∈ wT := wT_t (List.mem_append_left _ (List.mem_of_getElem? (i := 54) rfl)) rfl
theorem xk_4 : (Cond.fieldLink "LayerDesk$Line" 9 "LayerDesk$Line" "text" "[C") ∈ wT := wT_t (List.mem_append_left _ (List.mem_of_getElem? (i := 36) rfl)) rfl
theorem xk_5 : (Cond.arrayClass .int) ∈ wT := wT_t (List.mem_append_left _ (List.mem_of_getElem? (i := 55) rfl)) rfl
theorem xk_6 : (Cond.fieldLink "LayerDesk$Line" 13 "LayerDesk$Line" "starts" "[I") ∈ wT := wT_t (List.mem_append_left _ (List.mem_of_getElem? (i := 37) rfl)) rfl
theorem xk_7 : (Cond.fieldLink "LayerDesk$Line" 17 "LayerDesk$Line" "ends" "[I") ∈ wT := wT_t (List.mem_append_left _ (List.mem_of_getElem? (i := 38) rfl)) rfl
theorem xk_8 : (Cond.fieldLink "LayerDesk$Line" 20 "LayerDesk$Line" "length" "I") ∈ wT := wT_t (List.mem_append_left _ (List.mem_of_getElem? (i := 39) rfl)) rfl
theorem xk_9 : (Cond.fieldLink "LayerDesk$Line" 24 "LayerDesk$Line" "words" "I") ∈ wT := wT_t (List.mem_append_left _ (List.mem_of_getElem? (i := 40) rfl)) rfl
theorem xk_10 : (Cond.methodLink "LayerDesk$Shelf" 3 ⟨"java/lang/Object", "<init>", "()V"⟩) ∈ wT := wT_t (List.mem_append_left _ (List.mem_of_getElem? (i := 61) rfl)) rfl
theorem xk_11 : (Cond.classLink "LayerDesk$Shelf" 9 "LayerDesk$Descriptor") ∈ wT := wT_t (List.mem_append_left _ (List.mem_of_getElem? (i := 62) rfl)) rfl
theorem xk_12 : (Cond.fieldLink "LayerDesk$Shelf" 11 "LayerDesk$Shelf" "descriptors" "[LLayerDesk$Descriptor;") ∈ wT := wT_t (List.mem_append_left _ (List.mem_of_getElem? (i := 64) rfl)) rfl
theorem xk_13 : (Cond.fieldLink "LayerDesk$Shelf" 17 "LayerDesk$Shelf" "size" "I") ∈ wT := wT_t (List.mem_append_left _ (List.mem_of_getElem? (i := 66) rfl)) rfl
theorem xk_14 : (Cond.methodLink "LayerDesk$Chooser" 3 ⟨"java/lang/Object", "<init>", "()V"⟩) ∈ wT := wT_t (List.mem_append_left _ (List.mem_of_getElem? (i := 79) rfl)) rfl
theorem xk_15 : (Cond.classLink "LayerDesk$Chooser" 9 "LayerDesk$Descriptor") ∈ wT := wT_t (List.mem_append_left _ (List.mem_of_getElem? (i := 80) rfl)) rfl
theorem xk_16 : (Cond.fieldLink "LayerDesk$Chooser" 11 "LayerDesk$Chooser" "chosen" "[LLayerDesk$Descriptor;") ∈ wT := wT_t (List.mem_append_left _ (List.mem_of_getElem? (i := 82) rfl)) rfl
theorem xk_17 : (Cond.fieldLink "LayerDesk$Chooser" 17 "LayerDesk$Chooser" "size" "I") ∈ wT := wT_t (List.mem_append_left _ (List.mem_of_getElem? (i := 83) rfl)) rfl
theorem xk_18 : (Cond.fieldLink "LayerDesk$Chooser" 21 "LayerDesk$Chooser" "finder" "I") ∈ wT := wT_t (List.mem_append_left _ (List.mem_of_getElem? (i := 84) rfl)) rfl
theorem xk_19 : (Cond.fieldLink "LayerDesk$Chooser" 24 "LayerDesk$Chooser" "parent" "LLayerDesk$Layer;") ∈ wT := wT_t (List.mem_append_left _ (List.mem_of_getElem? (i := 85) rfl)) rfl
theorem xk_20 : (Cond.fieldLink "LayerDesk$Chooser" 28 "LayerDesk$Chooser" "shelf" "LLayerDesk$Shelf;") ∈ wT := wT_t (List.mem_append_left _ (List.mem_of_getElem? (i := 81) rfl)) rfl
theorem xk_21 : (Cond.methodLink "LayerDesk" 1 ⟨"java/lang/Object", "<init>", "()V"⟩) ∈ wT := wT_t (List.mem_append_left _ (List.mem_of_getElem? (i := 27) rfl)) rfl
theorem xk_22 : (Cond.classLink "LayerDesk" 7 "LayerDesk$Line") ∈ wT := wT_t (List.mem_append_left _ (List.mem_of_getElem? (i := 30) rfl)) rfl
theorem xk_23 : (Cond.instantiable "LayerDesk$Line" 5) ∈ wT := wT_t (List.mem_append_left _ (List.mem_of_getElem? (i := 31) rfl)) rfl
theorem xk_24 : (Cond.initialized "LayerDesk$Line") ∈ wT := wT_t (List.mem_append_left _ (List.mem_of_getElem? (i := 2) rfl)) rfl
theorem xk_25 : (Cond.code xy_Li_init xb_Li_init 1 none) ∈ wT := wT_t (List.mem_append_left _ (List.mem_of_getElem? (i := 34) rfl)) rfl
theorem xk_26 : (Cond.instanceMethod xy_Li_init) ∈ wT := wT_t (List.mem_append_left _ (List.mem_of_getElem? (i := 33) rfl)) rfl
theorem xk_27 : (Cond.fieldLink "LayerDesk" 10 "LayerDesk" "written" "LLayerDesk$Line;") ∈ wT := wT_t (List.mem_append_left _ (List.mem_of_getElem? (i := 99) rfl)) rfl
theorem xk_28 : (Cond.classLink "LayerDesk" 16 "LayerDesk$Shelf") ∈ wT := wT_t (List.mem_append_left _ (List.mem_of_getElem? (i := 56) rfl)) rfl
theorem xk_29 : (Cond.instantiable "LayerDesk$Shelf" 2) ∈ wT := wT_t (List.mem_append_left _ (List.mem_of_getElem? (i := 57) rfl)) rfl
theorem xk_30 : (Cond.initialized "LayerDesk$Shelf") ∈ wT := wT_t (List.mem_append_left _ (List.mem_of_getElem? (i := 3) rfl)) rfl
theorem xk_31 : (Cond.code xy_Sh_init xb_Sh_init 1 none) ∈ wT := wT_t (List.mem_append_left _ (List.mem_of_getElem? (i := 60) rfl)) rfl
theorem xk_32 : (Cond.instanceMethod xy_Sh_init) ∈ wT := wT_t (List.mem_append_left _ (List.mem_of_getElem? (i := 59) rfl)) rfl
theorem xk_33 : (Cond.fieldLink "LayerDesk" 19 "LayerDesk" "shelf" "LLayerDesk$Shelf;") ∈ wT := wT_t (List.mem_append_left _ (List.mem_of_getElem? (i := 100) rfl)) rfl
theorem xk_34 : (Cond.classLink "LayerDesk" 23 "LayerDesk$Chooser") ∈ wT := wT_t (List.mem_append_left _ (List.mem_of_getElem? (i := 74) rfl)) rfl
theorem xk_35 : (Cond.instantiable "LayerDesk$Chooser" 5) ∈ wT := wT_t (List.mem_append_left _ (List.mem_of_getElem? (i := 75) rfl)) rfl
theorem xk_36 : (Cond.initialized "LayerDesk$Chooser") ∈ wT := wT_t (List.mem_append_left _ (List.mem_of_getElem? (i := 4) rfl)) rfl
theorem xk_37 : (Cond.code xy_Ch_init xb_Ch_init 2 none) ∈ wT := wT_t (List.mem_append_left _ (List.mem_of_getElem? (i := 78) rfl)) rfl
theorem xk_38 : (Cond.methodLink "LayerDesk" 25 xy_Ch_init) ∈ wT := wT_t (List.mem_append_left _ (List.mem_of_getElem? (i := 76) rfl)) rfl
theorem xk_39 : (Cond.instanceMethod xy_Ch_init) ∈ wT := wT_t (List.mem_append_left _ (List.mem_of_getElem? (i := 77) rfl)) rfl
theorem xk_40 : (Cond.fieldLink "LayerDesk" 28 "LayerDesk" "chooser" "LLayerDesk$Chooser;") ∈ wT := wT_t (List.mem_append_left _ (List.mem_of_getElem? (i := 101) rfl)) rfl
theorem xk_41 : (Cond.classLink "LayerDesk" 32 "LayerDesk$Layer") ∈ wT := wT_t (List.mem_append_left _ (List.mem_of_getElem? (i := 97) rfl)) rfl
theorem xk_42 : (Cond.fieldLink "LayerDesk" 34 "LayerDesk" "layers" "[LLayerDesk$Layer;") ∈ wT := wT_t (List.mem_append_left _ (List.mem_of_getElem? (i := 102) rfl)) rfl
theorem xk_43 : (Cond.fieldLink "LayerDesk" 38 "LayerDesk" "made" "I") ∈ wT := wT_t (List.mem_append_left _ (List.mem_of_getElem? (i := 103) rfl)) rfl
theorem xk_44 : (Cond.fieldLink "LayerDesk" 42 "LayerDesk" "latestFault" "I") ∈ wT := wT_t (List.mem_append_left _ (List.mem_of_getElem? (i := 104) rfl)) rfl
theorem xk_45 : (Cond.methodLink "LayerDeskModel" 1 ⟨"java/lang/Object", "<init>", "()V"⟩) ∈ wT := wT_t (List.mem_append_right _ (List.mem_append_right _ (List.mem_append_right _ (List.mem_append_left _ (List.mem_of_getElem? (i := 83) rfl))))) rfl
theorem xk_46 : (Cond.fieldLink "LayerDeskModel" 7 "LayerDeskModel" "text" "[C") ∈ wT := wT_t (List.mem_append_right _ (List.mem_append_right _ (List.mem_append_right _ (List.mem_append_left _ (List.mem_of_getElem? (i := 86) rfl))))) rfl
theorem xk_47 : (Cond.fieldLink "LayerDeskModel" 13 "LayerDeskModel" "begin" "[I") ∈ wT := wT_t (List.mem_append_right _ (List.mem_append_right _ (List.mem_append_right _ (List.mem_append_left _ (List.mem_of_getElem? (i := 89) rfl))))) rfl
theorem xk_48 : (Cond.fieldLink "LayerDeskModel" 17 "LayerDeskModel" "end" "[I") ∈ wT := wT_t (List.mem_append_right _ (List.mem_append_right _ (List.mem_append_right _ (List.mem_append_left _ (List.mem_of_getElem? (i := 90) rfl))))) rfl
theorem xk_49 : (Cond.fieldLink "LayerDeskModel" 20 "LayerDeskModel" "finder" "[I") ∈ wT := wT_t (List.mem_append_right _ (List.mem_append_right _ (List.mem_append_right _ (List.mem_append_left _ (List.mem_of_getElem? (i := 92) rfl))))) rfl
theorem xk_50 : (Cond.fieldLink "LayerDeskModel" 23 "LayerDeskModel" "name" "[I") ∈ wT := wT_t (List.mem_append_right _ (List.mem_append_right _ (List.mem_append_right _ (List.mem_append_left _ (List.mem_of_getElem? (i := 93) rfl))))) rfl
theorem xk_51 : (Cond.fieldLink "LayerDeskModel" 26 "LayerDeskModel" "packages" "[I") ∈ wT := wT_t (List.mem_append_right _ (List.mem_append_right _ (List.mem_append_right _ (List.mem_append_left _ (List.mem_of_getElem? (i := 94) rfl))))) rfl
theorem xk_52 : (Cond.fieldLink "LayerDeskModel" 29 "LayerDeskModel" "pack" "[I") ∈ wT := wT_t (List.mem_append_right _ (List.mem_append_right _ (List.mem_append_right _ (List.mem_append_left _ (List.mem_of_getElem? (i := 95) rfl))))) rfl
theorem xk_53 : (Cond.fieldLink "LayerDeskModel" 32 "LayerDeskModel" "exportTo" "[I") ∈ wT := wT_t (List.mem_append_right _ (List.mem_append_right _ (List.mem_append_right _ (List.mem_append_left _ (List.mem_of_getElem? (i := 96) rfl))))) rfl
theorem xk_54 : (Cond.fieldLink "LayerDeskModel" 35 "LayerDeskModel" "openTo" "[I") ∈ wT := wT_t (List.mem_append_right _ (List.mem_append_right _ (List.mem_append_right _ (List.mem_append_left _ (List.mem_of_getElem? (i := 97) rfl))))) rfl
theorem xk_55 : (Cond.arrayClass .boolean) ∈ wT := wT_t (List.mem_append_right _ (List.mem_append_left _ (List.mem_of_getElem? (i := 110) rfl))) rfl
theorem xk_56 : (Cond.fieldLink "LayerDeskModel" 38 "LayerDeskModel" "exportAll" "[Z") ∈ wT := wT_t (List.mem_append_right _ (List.mem_append_right _ (List.mem_append_right _ (List.mem_append_left _ (List.mem_of_getElem? (i := 98) rfl))))) rfl
theorem xk_57 : (Cond.fieldLink "LayerDeskModel" 42 "LayerDeskModel" "openAll" "[Z") ∈ wT := wT_t (List.mem_append_right _ (List.mem_append_right _ (List.mem_append_right _ (List.mem_append_left _ (List.mem_of_getElem? (i := 99) rfl))))) rfl
theorem xk_58 : (Cond.fieldLink "LayerDeskModel" 45 "LayerDeskModel" "locked" "[Z") ∈ wT := wT_t (List.mem_append_right _ (List.mem_append_right _ (List.mem_append_right _ (List.mem_append_left _ (List.mem_of_getElem? (i := 100) rfl))))) rfl
theorem xk_59 : (Cond.fieldLink "LayerDeskModel" 48 "LayerDeskModel" "requires" "[I") ∈ wT := wT_t (List.mem_append_right _ (List.mem_append_right _ (List.mem_append_right _ (List.mem_append_left _ (List.mem_of_getElem? (i := 101) rfl))))) rfl
theorem xk_60 : (Cond.fieldLink "LayerDeskModel" 51 "LayerDeskModel" "require" "[I") ∈ wT := wT_t (List.mem_append_right _ (List.mem_append_right _ (List.mem_append_right _ (List.mem_append_left _ (List.mem_of_getElem? (i := 102) rfl))))) rfl
theorem xk_61 : (Cond.fieldLink "LayerDeskModel" 54 "LayerDeskModel" "use" "[I") ∈ wT := wT_t (List.mem_append_right _ (List.mem_append_right _ (List.mem_append_right _ (List.mem_append_left _ (List.mem_of_getElem? (i := 103) rfl))))) rfl
theorem xk_62 : (Cond.fieldLink "LayerDeskModel" 57 "LayerDeskModel" "provide" "[I") ∈ wT := wT_t (List.mem_append_right _ (List.mem_append_right _ (List.mem_append_right _ (List.mem_append_left _ (List.mem_of_getElem? (i := 104) rfl))))) rfl
theorem xk_63 : (Cond.fieldLink "LayerDeskModel" 60 "LayerDeskModel" "passes" "[Z") ∈ wT := wT_t (List.mem_append_right _ (List.mem_append_right _ (List.mem_append_right _ (List.mem_append_left _ (List.mem_of_getElem? (i := 105) rfl))))) rfl
theorem xk_64 : (Cond.fieldLink "LayerDeskModel" 63 "LayerDeskModel" "still" "[Z") ∈ wT := wT_t (List.mem_append_right _ (List.mem_append_right _ (List.mem_append_right _ (List.mem_append_left _ (List.mem_of_getElem? (i := 106) rfl))))) rfl
theorem xk_65 : (Cond.fieldLink "LayerDeskModel" 66 "LayerDeskModel" "finderOf" "[I") ∈ wT := wT_t (List.mem_append_right _ (List.mem_append_right _ (List.mem_append_right _ (List.mem_append_left _ (List.mem_of_getElem? (i := 108) rfl))))) rfl
theorem xk_66 : (Cond.fieldLink "LayerDeskModel" 69 "LayerDeskModel" "parent" "[I") ∈ wT := wT_t (List.mem_append_right _ (List.mem_append_right _ (List.mem_append_right _ (List.mem_append_left _ (List.mem_of_getElem? (i := 109) rfl))))) rfl
theorem xk_67 : (Cond.fieldLink "LayerDeskModel" 72 "LayerDeskModel" "modules" "[I") ∈ wT := wT_t (List.mem_append_right _ (List.mem_append_right _ (List.mem_append_right _ (List.mem_append_left _ (List.mem_of_getElem? (i := 110) rfl))))) rfl
theorem xk_68 : (Cond.fieldLink "LayerDeskModel" 75 "LayerDeskModel" "module" "[I") ∈ wT := wT_t (List.mem_append_right _ (List.mem_append_right _ (List.mem_append_right _ (List.mem_append_left _ (List.mem_of_getElem? (i := 111) rfl))))) rfl
theorem xk_69 : (Cond.fieldLink "LayerDeskModel" 78 "LayerDeskModel" "open" "[Z") ∈ wT := wT_t (List.mem_append_right _ (List.mem_append_right _ (List.mem_append_right _ (List.mem_append_left _ (List.mem_of_getElem? (i := 112) rfl))))) rfl
theorem xk_70 : (Cond.fieldLink "LayerDeskModel" 81 "LayerDeskModel" "stack" "[I") ∈ wT := wT_t (List.mem_append_right _ (List.mem_append_right _ (List.mem_append_right _ (List.mem_append_left _ (List.mem_of_getElem? (i := 113) rfl))))) rfl
theorem xk_71 : (Cond.fieldLink "LayerDeskModel" 84 "LayerDeskModel" "seen" "[Z") ∈ wT := wT_t (List.mem_append_right _ (List.mem_append_right _ (List.mem_append_right _ (List.mem_append_left _ (List.mem_of_getElem? (i := 114) rfl))))) rfl
theorem xk_72 : (Cond.code xy_Li_append xb_Li_append 2 (some .boolean)) ∈ wT := wT_t (List.mem_append_left _ (List.mem_of_getElem? (i := 125) rfl)) rfl
theorem xk_73 : (Cond.methodLink "LayerDesk" 45 xy_Li_append) ∈ wT := wT_t (List.mem_append_left _ (List.mem_of_getElem? (i := 122) rfl)) rfl
theorem xk_74 : (Cond.instanceMethod xy_Li_append) ∈ wT := wT_t (List.mem_append_left _ (List.mem_of_getElem? (i := 123) rfl)) rfl
theorem xk_75 : (Cond.selects "LayerDesk$Line" xy_Li_append xy_Li_append) ∈ wT := wT_t (List.mem_append_left _ (List.mem_of_getElem? (i := 124) rfl)) rfl
theorem xk_76 : (Cond.code xy_Li_take xb_Li_take 3 none) ∈ wT := wT_t (List.mem_append_left _ (List.mem_of_getElem? (i := 190) rfl)) rfl
theorem xk_77 : (Cond.methodLink "LayerDesk$Line" 27 xy_Li_take) ∈ wT := wT_t (List.mem_append_right _ (List.mem_append_right _ (List.mem_append_right _ (List.mem_append_left _ (List.mem_of_getElem? (i := 43) rfl))))) rfl
theorem xk_78 : (Cond.instanceMethod xy_Li_take) ∈ wT := wT_t (List.mem_append_left _ (List.mem_of_getElem? (i := 188) rfl)) rfl
theorem xk_79 : (Cond.selects "LayerDesk$Line" xy_Li_take xy_Li_take) ∈ wT := wT_t (List.mem_append_left _ (List.mem_of_getElem? (i := 189) rfl)) rfl
theorem xk_80 : (Cond.fieldLink "LayerDesk$Shelf" 27 "LayerDesk$Line" "words" "I") ∈ wT := wT_t (List.mem_append_left _ (List.mem_of_getElem? (i := 41) rfl)) rfl
theorem xk_81 : (Cond.methodLink "LayerDesk" 49 xy_Li_take) ∈ wT := wT_t (List.mem_append_left _ (List.mem_of_getElem? (i := 187) rfl)) rfl
theorem xk_82 : (Cond.code xy_Sh_accept xb_Sh_accept 2 (some .int)) ∈ wT := wT_t (List.mem_append_left _ (List.mem_of_getElem? (i := 194) rfl)) rfl
theorem xk_83 : (Cond.methodLink "LayerDesk" 52 xy_Sh_accept) ∈ wT := wT_t (List.mem_append_left _ (List.mem_of_getElem? (i := 191) rfl)) rfl
theorem xk_84 : (Cond.instanceMethod xy_Sh_accept) ∈ wT := wT_t (List.mem_append_left _ (List.mem_of_getElem? (i := 192) rfl)) rfl
theorem xk_85 : (Cond.selects "LayerDesk$Shelf" xy_Sh_accept xy_Sh_accept) ∈ wT := wT_t (List.mem_append_left _ (List.mem_of_getElem? (i := 193) rfl)) rfl
theorem xk_86 : (Cond.code xy_De_openLayer xb_De_openLayer 3 (some (.object "LayerDesk$Layer"))) ∈ wT := wT_t (List.mem_append_left _ (List.mem_of_getElem? (i := 137) rfl)) rfl
theorem xk_87 : (Cond.methodLink "LayerDesk" 68 xy_De_openLayer) ∈ wT := wT_t (List.mem_append_left _ (List.mem_of_getElem? (i := 134) rfl)) rfl
theorem xk_88 : (Cond.instanceMethod xy_De_openLayer) ∈ wT := wT_t (List.mem_append_left _ (List.mem_of_getElem? (i := 136) rfl)) rfl
theorem xk_89 : (Cond.selects "LayerDesk" xy_De_openLayer xy_De_openLayer) ∈ wT := wT_s (q := (xy_De_openLayer, 6)) (by decide +kernel) rfl
theorem xk_90 : (Cond.initialized "LayerDesk") ∈ wT := wT_t (List.mem_append_left _ (List.mem_of_getElem? (i := 1) rfl)) rfl
theorem xk_91 : (Cond.fieldLink "LayerDesk" 121 "LayerDesk$Shelf" "size" "I") ∈ wT := wT_t (List.mem_append_left _ (List.mem_of_getElem? (i := 67) rfl)) rfl
theorem xk_92 : (Cond.code xy_De_countOpen xb_De_countOpen 3 (some .int)) ∈ wT := wT_t (List.mem_append_left _ (List.mem_of_getElem? (i := 149) rfl)) rfl
theorem xk_93 : (Cond.methodLink "LayerDesk" 124 xy_De_countOpen) ∈ wT := wT_t (List.mem_append_left _ (List.mem_of_getElem? (i := 146) rfl)) rfl
theorem xk_94 : (Cond.instanceMethod xy_De_countOpen) ∈ wT := wT_t (List.mem_append_left _ (List.mem_of_getElem? (i := 148) rfl)) rfl
theorem xk_95 : (Cond.selects "LayerDesk" xy_De_countOpen xy_De_countOpen) ∈ wT := wT_s (q := (xy_De_countOpen, 6)) (by decide +kernel) rfl
theorem xk_96 : (Cond.code xy_De_memberAt xb_De_memberAt 4 (some (.object "LayerDesk$Member"))) ∈ wT := wT_t (List.mem_append_left _ (List.mem_of_getElem? (i := 161) rfl)) rfl
theorem xk_97 : (Cond.methodLink "LayerDesk" 132 xy_De_memberAt) ∈ wT := wT_t (List.mem_append_left _ (List.mem_of_getElem? (i := 158) rfl)) rfl
theorem xk_98 : (Cond.instanceMethod xy_De_memberAt) ∈ wT := wT_t (List.mem_append_left _ (List.mem_of_getElem? (i := 160) rfl)) rfl
theorem xk_99 : (Cond.selects "LayerDesk" xy_De_memberAt xy_De_memberAt) ∈ wT := wT_s (q := (xy_De_memberAt, 6)) (by decide +kernel) rfl
theorem xk_100 : (Cond.code xy_De_memberOf xb_De_memberOf 4 (some (.object "LayerDesk$Member"))) ∈ wT := wT_t (List.mem_append_left _ (List.mem_of_getElem? (i := 169) rfl)) rfl
theorem xk_101 : (Cond.methodLink "LayerDesk" 145 xy_De_memberOf) ∈ wT := wT_t (List.mem_append_left _ (List.mem_of_getElem? (i := 166) rfl)) rfl
theorem xk_102 : (Cond.instanceMethod xy_De_memberOf) ∈ wT := wT_t (List.mem_append_left _ (List.mem_of_getElem? (i := 168) rfl)) rfl
theorem xk_103 : (Cond.selects "LayerDesk" xy_De_memberOf xy_De_memberOf) ∈ wT := wT_s (q := (xy_De_memberOf, 6)) (by decide +kernel) rfl
theorem xk_104 : (Cond.fieldLink "LayerDesk" 198 "LayerDesk$Line" "words" "I") ∈ wT := wT_t (List.mem_append_left _ (List.mem_of_getElem? (i := 42) rfl)) rfl
theorem xk_105 : (Cond.code xy_De_rootsAreNames xb_De_rootsAreNames 2 (some .boolean)) ∈ wT := wT_t (List.mem_append_right _ (List.mem_append_right _ (List.mem_append_left _ (List.mem_of_getElem? (i := 59) rfl)))) rfl
theorem xk_106 : (Cond.methodLink "LayerDesk" 72 xy_De_rootsAreNames) ∈ wT := wT_t (List.mem_append_right _ (List.mem_append_right _ (List.mem_append_left _ (List.mem_of_getElem? (i := 56) rfl)))) rfl
theorem xk_107 : (Cond.instanceMethod xy_De_rootsAreNames) ∈ wT := wT_t (List.mem_append_right _ (List.mem_append_right _ (List.mem_append_left _ (List.mem_of_getElem? (i := 58) rfl)))) rfl
theorem xk_108 : (Cond.selects "LayerDesk" xy_De_rootsAreNames xy_De_rootsAreNames) ∈ wT := wT_s (q := (xy_De_rootsAreNames, 6)) (by decide +kernel) rfl
theorem xk_109 : (Cond.classLink "LayerDesk" 56 "java/lang/IllegalArgumentException") ∈ wT := wT_t (List.mem_append_right _ (List.mem_append_left _ (List.mem_of_getElem? (i := 205) rfl))) rfl
theorem xk_110 : (Cond.initialized "java/lang/IllegalArgumentException") ∈ wT := wT_t (List.mem_append_left _ (List.mem_of_getElem? (i := 16) rfl)) rfl
theorem xk_111 : (Cond.code xy_Li_takeName xb_Li_takeName 1 (some .int)) ∈ wT := wT_t (List.mem_append_right _ (List.mem_append_right _ (List.mem_append_right _ (List.mem_append_left _ (List.mem_of_getElem? (i := 42) rfl))))) rfl
theorem xk_112 : (Cond.methodLink "LayerDesk" 158 xy_Li_takeName) ∈ wT := wT_t (List.mem_append_right _ (List.mem_append_right _ (List.mem_append_right _ (List.mem_append_left _ (List.mem_of_getElem? (i := 39) rfl))))) rfl
theorem xk_113 : (Cond.instanceMethod xy_Li_takeName) ∈ wT := wT_t (List.mem_append_right _ (List.mem_append_right _ (List.mem_append_right _ (List.mem_append_left _ (List.mem_of_getElem? (i := 40) rfl))))) rfl
theorem xk_114 : (Cond.selects "LayerDesk$Line" xy_Li_takeName xy_Li_takeName) ∈ wT := wT_t (List.mem_append_right _ (List.mem_append_right _ (List.mem_append_right _ (List.mem_append_left _ (List.mem_of_getElem? (i := 41) rfl))))) rfl
theorem xk_115 : (Cond.fieldLink "LayerDeskModel" 87 "LayerDeskModel" "fault" "I") ∈ wT := wT_t (List.mem_append_right _ (List.mem_append_right _ (List.mem_append_right _ (List.mem_append_left _ (List.mem_of_getElem? (i := 84) rfl))))) rfl
theorem xk_116 : (Cond.fieldLink "LayerDeskModel" 91 "LayerDeskModel" "written" "I") ∈ wT := wT_t (List.mem_append_right _ (List.mem_append_right _ (List.mem_append_right _ (List.mem_append_left _ (List.mem_of_getElem? (i := 87) rfl))))) rfl
theorem xk_117 : (Cond.fieldLink "LayerDeskModel" 94 "LayerDeskModel" "words" "I") ∈ wT := wT_t (List.mem_append_right _ (List.mem_append_right _ (List.mem_append_right _ (List.mem_append_left _ (List.mem_of_getElem? (i := 88) rfl))))) rfl
theorem xk_118 : (Cond.code xy_Mo_split xb_Mo_split 2 none) ∈ wT := wT_t (List.mem_append_right _ (List.mem_append_right _ (List.mem_append_right _ (List.mem_append_left _ (List.mem_of_getElem? (i := 193) rfl))))) rfl
theorem xk_119 : (Cond.methodLink "LayerDeskModel" 101 xy_Mo_split) ∈ wT := wT_t (List.mem_append_right _ (List.mem_append_right _ (List.mem_append_right _ (List.mem_append_left _ (List.mem_of_getElem? (i := 190) rfl))))) rfl
theorem xk_120 : (Cond.instanceMethod xy_Mo_split) ∈ wT := wT_t (List.mem_append_right _ (List.mem_append_right _ (List.mem_append_right _ (List.mem_append_left _ (List.mem_of_getElem? (i := 192) rfl))))) rfl
theorem xk_121 : (Cond.selects "LayerDeskModel" xy_Mo_split xy_Mo_split) ∈ wT := wT_s (q := (xy_Mo_split, 31)) (by decide +kernel) rfl
theorem xk_122 : (Cond.initialized "LayerDeskModel") ∈ wT := wT_t (List.mem_append_left _ (List.mem_of_getElem? (i := 5) rfl)) rfl
theorem xk_123 : (Cond.fieldLink "LayerDeskModel" 150 "LayerDeskModel" "layers" "I") ∈ wT := wT_t (List.mem_append_right _ (List.mem_append_right _ (List.mem_append_right _ (List.mem_append_left _ (List.mem_of_getElem? (i := 107) rfl))))) rfl
theorem xk_124 : (Cond.fieldLink "LayerDeskModel" 187 "LayerDeskModel" "why" "I") ∈ wT := wT_t (List.mem_append_right _ (List.mem_append_right _ (List.mem_append_right _ (List.mem_append_left _ (List.mem_of_getElem? (i := 85) rfl))))) rfl
theorem xk_125 : (Cond.code xy_Mo_fails xb_Mo_fails 2 (some .int)) ∈ wT := wT_t (List.mem_append_right _ (List.mem_append_right _ (List.mem_append_right _ (List.mem_append_right _ (List.mem_of_getElem? (i := 4) rfl))))) rfl
theorem xk_126 : (Cond.methodLink "LayerDeskModel" 129 xy_Mo_fails) ∈ wT := wT_t (List.mem_append_right _ (List.mem_append_right _ (List.mem_append_right _ (List.mem_append_right _ (List.mem_of_getElem? (i := 1) rfl))))) rfl
theorem xk_127 : (Cond.instanceMethod xy_Mo_fails) ∈ wT := wT_t (List.mem_append_right _ (List.mem_append_right _ (List.mem_append_right _ (List.mem_append_right _ (List.mem_of_getElem? (i := 3) rfl))))) rfl
theorem xk_128 : (Cond.selects "LayerDeskModel" xy_Mo_fails xy_Mo_fails) ∈ wT := wT_s (q := (xy_Mo_fails, 31)) (by decide +kernel) rfl
theorem xk_129 : (Cond.code xy_Mo_isOpen xb_Mo_isOpen 2 (some .boolean)) ∈ wT := wT_t (List.mem_append_right _ (List.mem_append_right _ (List.mem_append_right _ (List.mem_append_right _ (List.mem_of_getElem? (i := 12) rfl))))) rfl
theorem xk_130 : (Cond.methodLink "LayerDeskModel" 190 xy_Mo_isOpen) ∈ wT := wT_t (List.mem_append_right _ (List.mem_append_right _ (List.mem_append_right _ (List.mem_append_right _ (List.mem_of_getElem? (i := 9) rfl))))) rfl
theorem xk_131 : (Cond.instanceMethod xy_Mo_isOpen) ∈ wT := wT_t (List.mem_append_right _ (List.mem_append_right _ (List.mem_append_right _ (List.mem_append_right _ (List.mem_of_getElem? (i := 11) rfl))))) rfl
theorem xk_132 : (Cond.selects "LayerDeskModel" xy_Mo_isOpen xy_Mo_isOpen) ∈ wT := wT_s (q := (xy_Mo_isOpen, 31)) (by decide +kernel) rfl
theorem xk_133 : (Cond.fieldLink "LayerDeskModel" 140 "LayerDeskModel" "descriptors" "I") ∈ wT := wT_t (List.mem_append_right _ (List.mem_append_right _ (List.mem_append_right _ (List.mem_append_left _ (List.mem_of_getElem? (i := 91) rfl))))) rfl
theorem xk_134 : (Cond.code xy_Mo_moduleOf xb_Mo_moduleOf 3 (some .int)) ∈ wT := wT_t (List.mem_append_right _ (List.mem_append_right _ (List.mem_append_right _ (List.mem_append_right _ (List.mem_of_getElem? (i := 84) rfl))))) rfl
theorem xk_135 : (Cond.methodLink "LayerDeskModel" 199 xy_Mo_moduleOf) ∈ wT := wT_t (List.mem_append_right _ (List.mem_append_right _ (List.mem_append_right _ (List.mem_append_right _ (List.mem_of_getElem? (i := 81) rfl))))) rfl
theorem xk_136 : (Cond.instanceMethod xy_Mo_moduleOf) ∈ wT := wT_t (List.mem_append_right _ (List.mem_append_right _ (List.mem_append_right _ (List.mem_append_right _ (List.mem_of_getElem? (i := 83) rfl))))) rfl
theorem xk_137 : (Cond.selects "LayerDeskModel" xy_Mo_moduleOf xy_Mo_moduleOf) ∈ wT := wT_s (q := (xy_Mo_moduleOf, 31)) (by decide +kernel) rfl
theorem xk_138 : (Cond.code xy_Mo_oneName xb_Mo_oneName 1 (some .int)) ∈ wT := wT_t (List.mem_append_right _ (List.mem_append_right _ (List.mem_append_right _ (List.mem_append_right _ (List.mem_of_getElem? (i := 100) rfl))))) rfl
theorem xk_139 : (Cond.methodLink "LayerDeskModel" 205 xy_Mo_oneName) ∈ wT := wT_t (List.mem_append_right _ (List.mem_append_right _ (List.mem_append_right _ (List.mem_append_right _ (List.mem_of_getElem? (i := 97) rfl))))) rfl
theorem xk_140 : (Cond.instanceMethod xy_Mo_oneName) ∈ wT := wT_t (List.mem_append_right _ (List.mem_append_right _ (List.mem_append_right _ (List.mem_append_right _ (List.mem_of_getElem? (i := 99) rfl))))) rfl
theorem xk_141 : (Cond.selects "LayerDeskModel" xy_Mo_oneName xy_Mo_oneName) ∈ wT := wT_s (q := (xy_Mo_oneName, 31)) (by decide +kernel) rfl
theorem xk_142 : (Cond.code xy_De_line xb_De_line 2 (some .int)) ∈ wT := wT_t (List.mem_append_left _ (List.mem_of_getElem? (i := 186) rfl)) rfl
theorem xk_143 : (Cond.methodLink "LayerDeskLaw" 7 xy_De_line) ∈ wT := wT_t (List.mem_append_left _ (List.mem_of_getElem? (i := 183) rfl)) rfl
theorem xk_144 : (Cond.instanceMethod xy_De_line) ∈ wT := wT_t (List.mem_append_left _ (List.mem_of_getElem? (i := 184) rfl)) rfl
theorem xk_145 : (Cond.selects "LayerDesk" xy_De_line xy_De_line) ∈ wT := wT_t (List.mem_append_left _ (List.mem_of_getElem? (i := 185) rfl)) rfl
theorem xk_146 : (Cond.code xy_De_layer xb_De_layer 7 (some .int)) ∈ wT := wT_t (List.mem_append_right _ (List.mem_append_right _ (List.mem_append_left _ (List.mem_of_getElem? (i := 55) rfl)))) rfl
theorem xk_147 : (Cond.methodLink "LayerDeskLaw" 17 xy_De_layer) ∈ wT := wT_t (List.mem_append_right _ (List.mem_append_right _ (List.mem_append_left _ (List.mem_of_getElem? (i := 52) rfl)))) rfl
theorem xk_148 : (Cond.instanceMethod xy_De_layer) ∈ wT := wT_t (List.mem_append_right _ (List.mem_append_right _ (List.mem_append_left _ (List.mem_of_getElem? (i := 53) rfl)))) rfl
theorem xk_149 : (Cond.selects "LayerDesk" xy_De_layer xy_De_layer) ∈ wT := wT_t (List.mem_append_right _ (List.mem_append_right _ (List.mem_append_left _ (List.mem_of_getElem? (i := 54) rfl)))) rfl
theorem xk_150 : (Cond.classLink "LayerDeskLaw" 13 "java/lang/IllegalArgumentException") ∈ wT := wT_t (List.mem_append_left _ (List.mem_of_getElem? (i := 181) rfl)) rfl
theorem xk_151 : (Cond.code xy_De_load xb_De_load 6 (some .int)) ∈ wT := wT_t (List.mem_append_right _ (List.mem_append_right _ (List.mem_append_right _ (List.mem_append_left _ (List.mem_of_getElem? (i := 38) rfl))))) rfl
theorem xk_152 : (Cond.methodLink "LayerDeskLaw" 23 xy_De_load) ∈ wT := wT_t (List.mem_append_right _ (List.mem_append_right _ (List.mem_append_right _ (List.mem_append_left _ (List.mem_of_getElem? (i := 35) rfl))))) rfl
theorem xk_153 : (Cond.instanceMethod xy_De_load) ∈ wT := wT_t (List.mem_append_right _ (List.mem_append_right _ (List.mem_append_right _ (List.mem_append_left _ (List.mem_of_getElem? (i := 36) rfl))))) rfl
theorem xk_154 : (Cond.selects "LayerDesk" xy_De_load xy_De_load) ∈ wT := wT_t (List.mem_append_right _ (List.mem_append_right _ (List.mem_append_right _ (List.mem_append_left _ (List.mem_of_getElem? (i := 37) rfl))))) rfl
theorem xk_155 : (Cond.code xy_De_peek xb_De_peek 8 (some .boolean)) ∈ wT := wT_t (List.mem_append_right _ (List.mem_append_right _ (List.mem_append_right _ (List.mem_append_left _ (List.mem_of_getElem? (i := 59) rfl))))) rfl
theorem xk_156 : (Cond.methodLink "LayerDeskLaw" 27 xy_De_peek) ∈ wT := wT_t (List.mem_append_right _ (List.mem_append_right _ (List.mem_append_right _ (List.mem_append_left _ (List.mem_of_getElem? (i := 56) rfl))))) rfl
theorem xk_157 : (Cond.instanceMethod xy_De_peek) ∈ wT := wT_t (List.mem_append_right _ (List.mem_append_right _ (List.mem_append_right _ (List.mem_append_left _ (List.mem_of_getElem? (i := 57) rfl))))) rfl
theorem xk_158 : (Cond.selects "LayerDesk" xy_De_peek xy_De_peek) ∈ wT := wT_t (List.mem_append_right _ (List.mem_append_right _ (List.mem_append_right _ (List.mem_append_left _ (List.mem_of_getElem? (i := 58) rfl))))) rfl
theorem xk_159 : (Cond.code xy_De_provider xb_De_provider 6 (some .int)) ∈ wT := wT_t (List.mem_append_right _ (List.mem_append_right _ (List.mem_append_right _ (List.mem_append_left _ (List.mem_of_getElem? (i := 71) rfl))))) rfl
theorem xk_160 : (Cond.methodLink "LayerDeskLaw" 31 xy_De_provider) ∈ wT := wT_t (List.mem_append_right _ (List.mem_append_right _ (List.mem_append_right _ (List.mem_append_left _ (List.mem_of_getElem? (i := 68) rfl))))) rfl
theorem xk_161 : (Cond.instanceMethod xy_De_provider) ∈ wT := wT_t (List.mem_append_right _ (List.mem_append_right _ (List.mem_append_right _ (List.mem_append_left _ (List.mem_of_getElem? (i := 69) rfl))))) rfl
theorem xk_162 : (Cond.selects "LayerDesk" xy_De_provider xy_De_provider) ∈ wT := wT_t (List.mem_append_right _ (List.mem_append_right _ (List.mem_append_right _ (List.mem_append_left _ (List.mem_of_getElem? (i := 70) rfl))))) rfl
end
section
set_option maxHeartbeats 4000000 in
set_option maxRecDepth 100000 in
theorem xc_Li_init (l : Launch) (D : va_G) (kA : Nat → ClassId) (sz : Nat) (h : Nat) : Met l xy_Li_init (.code xy_Li_init xb_Li_init 1 none :: wT) { frames := 1, cells := 3, slots := 80, locals := 14 } (va_Pc [.ref h] (xPre D kA sz [(h, .inr (1, [.null, .null, .null, .int 0, .int 0]))])) (va_Qv (fun (u : Nat × Nat × Nat) => True) (fun (u : Nat × Nat × Nat) t => va_P D xcl [(h, .inr (1, [.ref u.1, .ref u.2.1, .ref u.2.2, .int 0, .int 0])), (u.1, .inl (kA 1, 40, .inl (fun _ => 0))), (u.2.1, .inl (kA 0, 20, .inl (fun _ => 0))), (u.2.2, .inl (kA 0, 20, .inl (fun _ => 0)))] t.heap ∧ va_D (va_A [(h, .inr (1, [.null, .null, .null, .int 0, .int 0]))] sz) [(h, .inr (1, [.ref u.1, .ref u.2.1, .ref u.2.2, .int 0, .int 0])), (u.1, .inl (kA 1, 40, .inl (fun _ => 0))), (u.2.1, .inl (kA 0, 20, .inl (fun _ => 0))), (u.2.2, .inl (kA 0, 20, .inl (fun _ => 0)))]) (va_A [(h, .inr (1, [.null, .null, .null, .int 0, .int 0]))] sz)) 3 80 (va_A [(h, .inr (1, [.null, .null, .null, .int 0, .int 0]))] sz) := by
  refine Met.ofW (cc := xb_Li_init) (maxL := 1) (ret := none) (by decide) rfl ?_
  intro p e s m args below meth c s₁ B hml hv
  obtain ⟨rfl, hsz, hP, hK, hD0⟩ := hv
  have hx := B.exec
  have hb := B.bytes
  have hr := B.returns
  have hT := x_hT B.pre
  have hown : s.vm.findClass xR_Li = some m.cls := findClass_of_methodNamed B.named
  have hlocks := B.notSynchronized
  have hin : meth.name = "<init>" := (name_of_methodNamed B.named B.method).1
  subst hsz
  have hD := hD0.self (sz := s.heap.size)
  generalize hAe : va_A [(h, .inr (1, [.null, .null, .null, .int 0, .int 0]))] s.heap.size = A at hD ⊢
  have hA : ∀ q : Nat, s.heap.size ≤ q → A q := fun q h => by rw [← hAe]; exact Or.inr h
  have hS : va_S A s.heap s.heap [] := va_S.rf
  have hP : va_P D xcl [(h, .inr (1, [.null, .null, .null, .int 0, .int 0]))] s.heap := hP
  have hl := lv_entry ([.ref h]) (n := 1) (Nat.le_of_ble_eq_true rfl)
  rw [lg_entry_eq]
  generalize (lg_sl ([.ref h]) ++ List.replicate (1 - (lg_sl ([.ref h])).length) Slot.unset).toArray = ls at hl ⊢
  have hl : lv_has ls 1 [(0, .ref h)] := hl
  refine lv_aload_n hx hb xd_Li_init_0 rfl (lv_at hl 0 rfl) ?_
  refine W.objInit hx hb hown (hT _ xk_0) (hT _ xk_1) (hT _ xk_2) rfl (by rw [hml]; exact hl.1) rfl xd_Li_init_1 (Nat.le_of_ble_eq_true rfl) (Nat.le_of_ble_eq_true rfl) ?_
  refine W.eq (g2 := F0 m 4 ls []) rfl ?_
  refine lv_aload_n hx hb xd_Li_init_4 rfl (lv_at hl 0 rfl) ?_
  refine lv_bipush (v := 40) hx hb xd_Li_init_5 (by decide) ?_
  refine xa_newa (atype := .char) (a0 := (40, Sum.inl (fun _ => 0))) (ty := .char) (N' := 40) hx hb (hT _ xk_3) rfl (fun _ h9 => h9) hK.1 1 rfl hP hD hS hA (fun _ => rfl) (by decide) rfl (by decide) (Nat.le_of_ble_eq_true rfl) (Nat.le_of_ble_eq_true rfl) xd_Li_init_7 (fun q1 H hP hD hS => ?_)
  have hP : va_P D xcl [(h, .inr (1, [.null, .null, .null, .int 0, .int 0])), (q1, .inl (kA 1, 40, .inl (fun _ => 0)))] H := hP
  have hD : va_D A [(h, .inr (1, [.null, .null, .null, .int 0, .int 0])), (q1, .inl (kA 1, 40, .inl (fun _ => 0)))] := hD
  refine va_putF (D := D) (ci := 1) (v := .ref q1) (ty := .array .char) (C := xR_Li) (T := xT_Li) (N := 5) hx hb hT xi_Li xt_Li xt_Li_ok xn_Li hown hK.1 hP hD hS 0 rfl rfl 0 (by decide) (hT _ xk_4) (fun _ h9 => h9) rfl hin rfl (by decide +kernel) rfl rfl (Nat.le_of_ble_eq_true rfl) xd_Li_init_9 (fun H locs hP hD hS => ?_)
  have hP : va_P D xcl [(h, .inr (1, [.ref q1, .null, .null, .int 0, .int 0])), (q1, .inl (kA 1, 40, .inl (fun _ => 0)))] H := hP
  have hD : va_D A [(h, .inr (1, [.ref q1, .null, .null, .int 0, .int 0])), (q1, .inl (kA 1, 40, .inl (fun _ => 0)))] := hD
  refine lv_aload_n hx hb xd_Li_init_12 rfl (lv_at hl 0 rfl) ?_
  refine lv_bipush (v := 20) hx hb xd_Li_init_13 (by decide) ?_
  refine xa_newa (atype := .int) (a0 := (20, Sum.inl (fun _ => 0))) (ty := .int) (N' := 20) hx hb (hT _ xk_5) rfl (fun _ h9 => h9) hK.1 0 rfl hP hD hS hA (fun _ => rfl) (by decide) rfl (by decide) (Nat.le_of_ble_eq_true rfl) (Nat.le_of_ble_eq_true rfl) xd_Li_init_15 (fun q2 H hP hD hS => ?_)
  have hP : va_P D xcl [(h, .inr (1, [.ref q1, .null, .null, .int 0, .int 0])), (q1, .inl (kA 1, 40, .inl (fun _ => 0))), (q2, .inl (kA 0, 20, .inl (fun _ => 0)))] H := hP
  have hD : va_D A [(h, .inr (1, [.ref q1, .null, .null, .int 0, .int 0])), (q1, .inl (kA 1, 40, .inl (fun _ => 0))), (q2, .inl (kA 0, 20, .inl (fun _ => 0)))] := hD
  refine va_putF (D := D) (ci := 1) (v := .ref q2) (ty := .array .int) (C := xR_Li) (T := xT_Li) (N := 5) hx hb hT xi_Li xt_Li xt_Li_ok xn_Li hown hK.1 hP hD hS 0 rfl rfl 1 (by decide) (hT _ xk_6) (fun _ h9 => h9) rfl hin rfl (by decide +kernel) rfl rfl (Nat.le_of_ble_eq_true rfl) xd_Li_init_17 (fun H locs hP hD hS => ?_)
  have hP : va_P D xcl [(h, .inr (1, [.ref q1, .ref q2, .null, .int 0, .int 0])), (q1, .inl (kA 1, 40, .inl (fun _ => 0))), (q2, .inl (kA 0, 20, .inl (fun _ => 0)))] H := hP
  have hD : va_D A [(h, .inr (1, [.ref q1, .ref q2, .null, .int 0, .int 0])), (q1, .inl (kA 1, 40, .inl (fun _ => 0))), (q2, .inl (kA 0, 20, .inl (fun _ => 0)))] := hD
  refine lv_aload_n hx hb xd_Li_init_20 rfl (lv_at hl 0 rfl) ?_
  refine lv_bipush (v := 20) hx hb xd_Li_init_21 (by decide) ?_
  refine xa_newa (atype := .int) (a0 := (20, Sum.inl (fun _ => 0))) (ty := .int) (N' := 20) hx hb (hT _ xk_5) rfl (fun _ h9 => h9) hK.1 0 rfl hP hD hS hA (fun _ => rfl) (by decide) rfl (by decide) (Nat.le_of_ble_eq_true rfl) (Nat.le_of_ble_eq_true rfl) xd_Li_init_23 (fun q3 H hP hD hS => ?_)
  have hP : va_P D xcl [(h, .inr (1, [.ref q1, .ref q2, .null, .int 0, .int 0])), (q1, .inl (kA 1, 40, .inl (fun _ => 0))), (q2, .inl (kA 0, 20, .inl (fun _ => 0))), (q3, .inl (kA 0, 20, .inl (fun _ => 0)))] H := hP
  have hD : va_D A [(h, .inr (1, [.ref q1, .ref q2, .null, .int 0, .int 0])), (q1, .inl (kA 1, 40, .inl (fun _ => 0))), (q2, .inl (kA 0, 20, .inl (fun _ => 0))), (q3, .inl (kA 0, 20, .inl (fun _ => 0)))] := hD
  refine va_putF (D := D) (ci := 1) (v := .ref q3) (ty := .array .int) (C := xR_Li) (T := xT_Li) (N := 5) hx hb hT xi_Li xt_Li xt_Li_ok xn_Li hown hK.1 hP hD hS 0 rfl rfl 2 (by decide) (hT _ xk_7) (fun _ h9 => h9) rfl hin rfl (by decide +kernel) rfl rfl (Nat.le_of_ble_eq_true rfl) xd_Li_init_25 (fun H locs hP hD hS => ?_)
  have hP : va_P D xcl [(h, .inr (1, [.ref q1, .ref q2, .ref q3, .int 0, .int 0])), (q1, .inl (kA 1, 40, .inl (fun _ => 0))), (q2, .inl (kA 0, 20, .inl (fun _ => 0))), (q3, .inl (kA 0, 20, .inl (fun _ => 0)))] H := hP
  have hD : va_D A [(h, .inr (1, [.ref q1, .ref q2, .ref q3, .int 0, .int 0])), (q1, .inl (kA 1, 40, .inl (fun _ => 0))), (q2, .inl (kA 0, 20, .inl (fun _ => 0))), (q3, .inl (kA 0, 20, .inl (fun _ => 0)))] := hD
  refine lv_aload_n hx hb xd_Li_init_28 rfl (lv_at hl 0 rfl) ?_
  refine lv_iconst (v := 0) hx hb xd_Li_init_29 (by decide) ?_
  refine va_put (D := D) (ci := 1) (v := .int 0) (ty := .int) (C := xR_Li) (T := xT_Li) (N := 5) hx hb hT xi_Li xt_Li xt_Li_ok xn_Li hown hK.1 hP hD hS 0 rfl rfl 3 (by decide) (hT _ xk_8) (fun _ h9 => h9) rfl (by decide +kernel) rfl rfl (Nat.le_of_ble_eq_true rfl) xd_Li_init_30 (fun H locs hP hD hS => ?_)
  have hP : va_P D xcl [(h, .inr (1, [.ref q1, .ref q2, .ref q3, .int 0, .int 0])), (q1, .inl (kA 1, 40, .inl (fun _ => 0))), (q2, .inl (kA 0, 20, .inl (fun _ => 0))), (q3, .inl (kA 0, 20, .inl (fun _ => 0)))] H := hP
  have hD : va_D A [(h, .inr (1, [.ref q1, .ref q2, .ref q3, .int 0, .int 0])), (q1, .inl (kA 1, 40, .inl (fun _ => 0))), (q2, .inl (kA 0, 20, .inl (fun _ => 0))), (q3, .inl (kA 0, 20, .inl (fun _ => 0)))] := hD
  refine lv_aload_n hx hb xd_Li_init_33 rfl (lv_at hl 0 rfl) ?_
  refine lv_iconst (v := 0) hx hb xd_Li_init_34 (by decide) ?_
  refine va_put (D := D) (ci := 1) (v := .int 0) (ty := .int) (C := xR_Li) (T := xT_Li) (N := 5) hx hb hT xi_Li xt_Li xt_Li_ok xn_Li hown hK.1 hP hD hS 0 rfl rfl 4 (by decide) (hT _ xk_9) (fun _ h9 => h9) rfl (by decide +kernel) rfl rfl (Nat.le_of_ble_eq_true rfl) xd_Li_init_35 (fun H locs hP hD hS => ?_)
  have hP : va_P D xcl [(h, .inr (1, [.ref q1, .ref q2, .ref q3, .int 0, .int 0])), (q1, .inl (kA 1, 40, .inl (fun _ => 0))), (q2, .inl (kA 0, 20, .inl (fun _ => 0))), (q3, .inl (kA 0, 20, .inl (fun _ => 0)))] H := hP
  have hD : va_D A [(h, .inr (1, [.ref q1, .ref q2, .ref q3, .int 0, .int 0])), (q1, .inl (kA 1, 40, .inl (fun _ => 0))), (q2, .inl (kA 0, 20, .inl (fun _ => 0))), (q3, .inl (kA 0, 20, .inl (fun _ => 0)))] := hD
  have hP9 := hP.sub (ws' := [(h, .inr (1, [.ref q1, .ref q2, .ref q3, .int 0, .int 0])), (q1, .inl (kA 1, 40, .inl (fun _ => 0))), (q2, .inl (kA 0, 20, .inl (fun _ => 0))), (q3, .inl (kA 0, 20, .inl (fun _ => 0)))]) [0, 1, 2, 3] rfl
  have hD9 := hD.sub (ws' := [(h, .inr (1, [.ref q1, .ref q2, .ref q3, .int 0, .int 0])), (q1, .inl (kA 1, 40, .inl (fun _ => 0))), (q2, .inl (kA 0, 20, .inl (fun _ => 0))), (q3, .inl (kA 0, 20, .inl (fun _ => 0)))]) [0, 1, 2, 3] (by decide) rfl
  refine W.widen (k := 3) (n := 80) (Nat.le_of_ble_eq_true rfl) (Nat.le_of_ble_eq_true rfl) ?_
  exact W.vret hx hb hr (fun t ht hW => ⟨⟨(q1, q2, q3), rfl, trivial, by rw [ht]; exact hP9, hD9⟩, hS.F ht⟩) hS.2.2 xd_Li_init_38
set_option maxHeartbeats 4000000 in
set_option maxRecDepth 100000 in
theorem xc_Sh_init (l : Launch) (D : va_G) (kA : Nat → ClassId) (sz : Nat) (h : Nat) : Met l xy_Sh_init (.code xy_Sh_init xb_Sh_init 1 none :: wT) { frames := 1, cells := 1, slots := 12, locals := 14 } (va_Pc [.ref h] (xPre D kA sz [(h, .inr (2, [.null, .int 0]))])) (va_Qv (fun (u : Nat) => True) (fun (u : Nat) t => va_P D xcl [(h, .inr (2, [.ref u, .int 0])), (u, .inl (kA 4, 12, .inr (.inr (.inr (.inr (fun _ => none))))))] t.heap ∧ va_D (va_A [(h, .inr (2, [.null, .int 0]))] sz) [(h, .inr (2, [.ref u, .int 0])), (u, .inl (kA 4, 12, .inr (.inr (.inr (.inr (fun _ => none))))))]) (va_A [(h, .inr (2, [.null, .int 0]))] sz)) 1 12 (va_A [(h, .inr (2, [.null, .int 0]))] sz) := by
  refine Met.ofW (cc := xb_Sh_init) (maxL := 1) (ret := none) (by decide) rfl ?_
  intro p e s m args below meth c s₁ B hml hv
  obtain ⟨rfl, hsz, hP, hK, hD0⟩ := hv
  have hx := B.exec
  have hb := B.bytes
  have hr := B.returns
  have hT := x_hT B.pre
  have hown : s.vm.findClass xR_Sh = some m.cls := findClass_of_methodNamed B.named
  have hlocks := B.notSynchronized
  have hin : meth.name = "<init>" := (name_of_methodNamed B.named B.method).1
  subst hsz
  have hD := hD0.self (sz := s.heap.size)
  generalize hAe : va_A [(h, .inr (2, [.null, .int 0]))] s.heap.size = A at hD ⊢
  have hA : ∀ q : Nat, s.heap.size ≤ q → A q := fun q h => by rw [← hAe]; exact Or.inr h
  have hS : va_S A s.heap s.heap [] := va_S.rf
  have hP : va_P D xcl [(h, .inr (2, [.null, .int 0]))] s.heap := hP
  have hl := lv_entry ([.ref h]) (n := 1) (Nat.le_of_ble_eq_true rfl)
  rw [lg_entry_eq]
  generalize (lg_sl ([.ref h]) ++ List.replicate (1 - (lg_sl ([.ref h])).length) Slot.unset).toArray = ls at hl ⊢
  have hl : lv_has ls 1 [(0, .ref h)] := hl
  refine lv_aload_n hx hb xd_Sh_init_0 rfl (lv_at hl 0 rfl) ?_
  refine W.objInit hx hb hown (hT _ xk_10) (hT _ xk_1) (hT _ xk_2) rfl (by rw [hml]; exact hl.1) rfl xd_Sh_init_1 (Nat.le_of_ble_eq_true rfl) (Nat.le_of_ble_eq_true rfl) ?_
  refine W.eq (g2 := F0 m 4 ls []) rfl ?_
  refine lv_aload_n hx hb xd_Sh_init_4 rfl (lv_at hl 0 rfl) ?_
  refine lv_bipush (v := 12) hx hb xd_Sh_init_5 (by decide) ?_
  refine xa_newq (C := "LayerDesk$Descriptor") (N' := 12) hx hb hown (hT _ xk_11) hK.2.1.2.2.2.2.1 hK.1 4 rfl hP hD hS hA (by decide) rfl (by decide) (Nat.le_of_ble_eq_true rfl) (Nat.le_of_ble_eq_true rfl) xd_Sh_init_7 (fun q1 H hP hD hS => ?_)
  have hP : va_P D xcl [(h, .inr (2, [.null, .int 0])), (q1, .inl (kA 4, 12, .inr (.inr (.inr (.inr (fun _ => none))))))] H := hP
  have hD : va_D A [(h, .inr (2, [.null, .int 0])), (q1, .inl (kA 4, 12, .inr (.inr (.inr (.inr (fun _ => none))))))] := hD
  refine va_putF (D := D) (ci := 2) (v := .ref q1) (ty := .array (.object "LayerDesk$Descriptor")) (C := xR_Sh) (T := xT_Sh) (N := 2) hx hb hT xi_Sh xt_Sh xt_Sh_ok xn_Sh hown hK.1 hP hD hS 0 rfl rfl 0 (by decide) (hT _ xk_12) (fun _ h9 => h9) rfl hin rfl (by decide +kernel) rfl rfl (Nat.le_of_ble_eq_true rfl) xd_Sh_init_10 (fun H locs hP hD hS => ?_)
  have hP : va_P D xcl [(h, .inr (2, [.ref q1, .int 0])), (q1, .inl (kA 4, 12, .inr (.inr (.inr (.inr (fun _ => none))))))] H := hP
  have hD : va_D A [(h, .inr (2, [.ref q1, .int 0])), (q1, .inl (kA 4, 12, .inr (.inr (.inr (.inr (fun _ => none))))))] := hD
  refine lv_aload_n hx hb xd_Sh_init_13 rfl (lv_at hl 0 rfl) ?_
  refine lv_iconst (v := 0) hx hb xd_Sh_init_14 (by decide) ?_
  refine va_put (D := D) (ci := 2) (v := .int 0) (ty := .int) (C := xR_Sh) (T := xT_Sh) (N := 2) hx hb hT xi_Sh xt_Sh xt_Sh_ok xn_Sh hown hK.1 hP hD hS 0 rfl rfl 1 (by decide) (hT _ xk_13) (fun _ h9 => h9) rfl (by decide +kernel) rfl rfl (Nat.le_of_ble_eq_true rfl) xd_Sh_init_15 (fun H locs hP hD hS => ?_)
  have hP : va_P D xcl [(h, .inr (2, [.ref q1, .int 0])), (q1, .inl (kA 4, 12, .inr (.inr (.inr (.inr (fun _ => none))))))] H := hP
  have hD : va_D A [(h, .inr (2, [.ref q1, .int 0])), (q1, .inl (kA 4, 12, .inr (.inr (.inr (.inr (fun _ => none))))))] := hD
  have hP9 := hP.sub (ws' := [(h, .inr (2, [.ref q1, .int 0])), (q1, .inl (kA 4, 12, .inr (.inr (.inr (.inr (fun _ => none))))))]) [0, 1] rfl
  have hD9 := hD.sub (ws' := [(h, .inr (2, [.ref q1, .int 0])), (q1, .inl (kA 4, 12, .inr (.inr (.inr (.inr (fun _ => none))))))]) [0, 1] (by decide) rfl
  refine W.widen (k := 1) (n := 12) (Nat.le_of_ble_eq_true rfl) (Nat.le_of_ble_eq_true rfl) ?_
  exact W.vret hx hb hr (fun t ht hW => ⟨⟨q1, rfl, trivial, by rw [ht]; exact hP9, hD9⟩, hS.F ht⟩) hS.2.2 xd_Sh_init_18
set_option maxHeartbeats 4000000 in
set_option maxRecDepth 100000 in
theorem xc_Ch_init (l : Launch) (D : va_G) (kA : Nat → ClassId) (sz : Nat) (h : Nat) (b : Nat) : Met l xy_Ch_init (.code xy_Ch_init xb_Ch_init 2 none :: wT) { frames := 1, cells := 1, slots := 12, locals := 14 } (va_Pc [.ref h, .ref b] (xPre D kA sz [(h, .inr (3, [.null, .null, .int 0, .int 0, .null]))])) (va_Qv (fun (u : Nat) => True) (fun (u : Nat) t => va_P D xcl [(h, .inr (3, [.ref b, .ref u, .int 0, .int 0, .null])), (u, .inl (kA 4, 12, .inr (.inr (.inr (.inr (fun _ => none))))))] t.heap ∧ va_D (va_A [(h, .inr (3, [.null, .null, .int 0, .int 0, .null]))] sz) [(h, .inr (3, [.ref b, .ref u, .int 0, .int 0, .null])), (u, .inl (kA 4, 12, .inr (.inr (.inr (.inr (fun _ => none))))))]) (va_A [(h, .inr (3, [.null, .null, .int 0, .int 0, .null]))] sz)) 1 12 (va_A [(h, .inr (3, [.null, .null, .int 0, .int 0, .null]))] sz) := by
  refine Met.ofW (cc := xb_Ch_init) (maxL := 2) (ret := none) (by decide) rfl ?_
  intro p e s m args below meth c s₁ B hml hv
  obtain ⟨rfl, hsz, hP, hK, hD0⟩ := hv
  have hx := B.exec
  have hb := B.bytes
  have hr := B.returns
  have hT := x_hT B.pre
  have hown : s.vm.findClass xR_Ch = some m.cls := findClass_of_methodNamed B.named
  have hlocks := B.notSynchronized
  have hin : meth.name = "<init>" := (name_of_methodNamed B.named B.method).1
  subst hsz
  have hD := hD0.self (sz := s.heap.size)
  generalize hAe : va_A [(h, .inr (3, [.null, .null, .int 0, .int 0, .null]))] s.heap.size = A at hD ⊢
  have hA : ∀ q : Nat, s.heap.size ≤ q → A q := fun q h => by rw [← hAe]; exact Or.inr h
  have hS : va_S A s.heap s.heap [] := va_S.rf
  have hP : va_P D xcl [(h, .inr (3, [.null, .null, .int 0, .int 0, .null]))] s.heap := hP
  have hl := lv_entry ([.ref h, .ref b]) (n := 2) (Nat.le_of_ble_eq_true rfl)
  rw [lg_entry_eq]
  generalize (lg_sl ([.ref h, .ref b]) ++ List.replicate (2 - (lg_sl ([.ref h, .ref b])).length) Slot.unset).toArray = ls at hl ⊢
  have hl : lv_has ls 2 [(0, .ref h), (1, .ref b)] := hl
  refine lv_aload_n hx hb xd_Ch_init_0 rfl (lv_at hl 0 rfl) ?_
  refine W.objInit hx hb hown (hT _ xk_14) (hT _ xk_1) (hT _ xk_2) rfl (by rw [hml]; exact hl.1) rfl xd_Ch_init_1 (Nat.le_of_ble_eq_true rfl) (Nat.le_of_ble_eq_true rfl) ?_
  refine W.eq (g2 := F0 m 4 ls []) rfl ?_
  refine lv_aload_n hx hb xd_Ch_init_4 rfl (lv_at hl 0 rfl) ?_
  refine lv_bipush (v := 12) hx hb xd_Ch_init_5 (by decide) ?_
  refine xa_newq (C := "LayerDesk$Descriptor") (N' := 12) hx hb hown (hT _ xk_15) hK.2.1.2.2.2.2.1 hK.1 4 rfl hP hD hS hA (by decide) rfl (by decide) (Nat.le_of_ble_eq_true rfl) (Nat.le_of_ble_eq_true rfl) xd_Ch_init_7 (fun q1 H hP hD hS => ?_)
  have hP : va_P D xcl [(h, .inr (3, [.null, .null, .int 0, .int 0, .null])), (q1, .inl (kA 4, 12, .inr (.inr (.inr (.inr (fun _ => none))))))] H := hP
  have hD : va_D A [(h, .inr (3, [.null, .null, .int 0, .int 0, .null])), (q1, .inl (kA 4, 12, .inr (.inr (.inr (.inr (fun _ => none))))))] := hD
  refine va_putF (D := D) (ci := 3) (v := .ref q1) (ty := .array (.object "LayerDesk$Descriptor")) (C := xR_Ch) (T := xT_Ch) (N := 5) hx hb hT xi_Ch xt_Ch xt_Ch_ok xn_Ch hown hK.1 hP hD hS 0 rfl rfl 1 (by decide) (hT _ xk_16) (fun _ h9 => h9) rfl hin rfl (by decide +kernel) rfl rfl (Nat.le_of_ble_eq_true rfl) xd_Ch_init_10 (fun H locs hP hD hS => ?_)
  have hP : va_P D xcl [(h, .inr (3, [.null, .ref q1, .int 0, .int 0, .null])), (q1, .inl (kA 4, 12, .inr (.inr (.inr (.inr (fun _ => none))))))] H := hP
  have hD : va_D A [(h, .inr (3, [.null, .ref q1, .int 0, .int 0, .null])), (q1, .inl (kA 4, 12, .inr (.inr (.inr (.inr (fun _ => none))))))] := hD
  refine lv_aload_n hx hb xd_Ch_init_13 rfl (lv_at hl 0 rfl) ?_
  refine lv_iconst (v := 0) hx hb xd_Ch_init_14 (by decide) ?_
  refine va_put (D := D) (ci := 3) (v := .int 0) (ty := .int) (C := xR_Ch) (T := xT_Ch) (N := 5) hx hb hT xi_Ch xt_Ch xt_Ch_ok xn_Ch hown hK.1 hP hD hS 0 rfl rfl 2 (by decide) (hT _ xk_17) (fun _ h9 => h9) rfl (by decide +kernel) rfl rfl (Nat.le_of_ble_eq_true rfl) xd_Ch_init_15 (fun H locs hP hD hS => ?_)
  have hP : va_P D xcl [(h, .inr (3, [.null, .ref q1, .int 0, .int 0, .null])), (q1, .inl (kA 4, 12, .inr (.inr (.inr (.inr (fun _ => none))))))] H := hP
  have hD : va_D A [(h, .inr (3, [.null, .ref q1, .int 0, .int 0, .null])), (q1, .inl (kA 4, 12, .inr (.inr (.inr (.inr (fun _ => none))))))] := hD
  refine lv_aload_n hx hb xd_Ch_init_18 rfl (lv_at hl 0 rfl) ?_
  refine lv_iconst (v := 0) hx hb xd_Ch_init_19 (by decide) ?_
  refine va_put (D := D) (ci := 3) (v := .int 0) (ty := .int) (C := xR_Ch) (T := xT_Ch) (N := 5) hx hb hT xi_Ch xt_Ch xt_Ch_ok xn_Ch hown hK.1 hP hD hS 0 rfl rfl 3 (by decide) (hT _ xk_18) (fun _ h9 => h9) rfl (by decide +kernel) rfl rfl (Nat.le_of_ble_eq_true rfl) xd_Ch_init_20 (fun H locs hP hD hS => ?_)
  have hP : va_P D xcl [(h, .inr (3, [.null, .ref q1, .int 0, .int 0, .null])), (q1, .inl (kA 4, 12, .inr (.inr (.inr (.inr (fun _ => none))))))] H := hP
  have hD : va_D A [(h, .inr (3, [.null, .ref q1, .int 0, .int 0, .null])), (q1, .inl (kA 4, 12, .inr (.inr (.inr (.inr (fun _ => none))))))] := hD
  refine lv_aload_n hx hb xd_Ch_init_23 rfl (lv_at hl 0 rfl) ?_
  refine lv_null hx hb xd_Ch_init_24 ?_
  refine va_put (D := D) (ci := 3) (v := .null) (ty := .object "LayerDesk$Layer") (C := xR_Ch) (T := xT_Ch) (N := 5) hx hb hT xi_Ch xt_Ch xt_Ch_ok xn_Ch hown hK.1 hP hD hS 0 rfl rfl 4 (by decide) (hT _ xk_19) (fun _ h9 => h9) rfl (by decide +kernel) rfl rfl (Nat.le_of_ble_eq_true rfl) xd_Ch_init_25 (fun H locs hP hD hS => ?_)
  have hP : va_P D xcl [(h, .inr (3, [.null, .ref q1, .int 0, .int 0, .null])), (q1, .inl (kA 4, 12, .inr (.inr (.inr (.inr (fun _ => none))))))] H := hP
  have hD : va_D A [(h, .inr (3, [.null, .ref q1, .int 0, .int 0, .null])), (q1, .inl (kA 4, 12, .inr (.inr (.inr (.inr (fun _ => none))))))] := hD
  refine lv_aload_n hx hb xd_Ch_init_28 rfl (lv_at hl 0 rfl) ?_
  refine lv_aload_n hx hb xd_Ch_init_29 rfl (lv_at hl 1 rfl) ?_
  refine va_putF (D := D) (ci := 3) (v := .ref b) (ty := .object "LayerDesk$Shelf") (C := xR_Ch) (T := xT_Ch) (N := 5) hx hb hT xi_Ch xt_Ch xt_Ch_ok xn_Ch hown hK.1 hP hD hS 0 rfl rfl 0 (by decide) (hT _ xk_20) (fun _ h9 => h9) rfl hin rfl (by decide +kernel) rfl rfl (Nat.le_of_ble_eq_true rfl) xd_Ch_init_30 (fun H locs hP hD hS => ?_)
  have hP : va_P D xcl [(h, .inr (3, [.ref b, .ref q1, .int 0, .int 0, .null])), (q1, .inl (kA 4, 12, .inr (.inr (.inr (.inr (fun _ => none))))))] H := hP
  have hD : va_D A [(h, .inr (3, [.ref b, .ref q1, .int 0, .int 0, .null])), (q1, .inl (kA 4, 12, .inr (.inr (.inr (.inr (fun _ => none))))))] := hD
  have hP9 := hP.sub (ws' := [(h, .inr (3, [.ref b, .ref q1, .int 0, .int 0, .null])), (q1, .inl (kA 4, 12, .inr (.inr (.inr (.inr (fun _ => none))))))]) [0, 1] rfl
  have hD9 := hD.sub (ws' := [(h, .inr (3, [.ref b, .ref q1, .int 0, .int 0, .null])), (q1, .inl (kA 4, 12, .inr (.inr (.inr (.inr (fun _ => none))))))]) [0, 1] (by decide) rfl
  refine W.widen (k := 1) (n := 12) (Nat.le_of_ble_eq_true rfl) (Nat.le_of_ble_eq_true rfl) ?_
  exact W.vret hx hb hr (fun t ht hW => ⟨⟨q1, rfl, trivial, by rw [ht]; exact hP9, hD9⟩, hS.F ht⟩) hS.2.2 xd_Ch_init_33
set_option maxHeartbeats 4000000 in
set_option maxRecDepth 100000 in
theorem xc_De_init (l : Launch) (D : va_G) (kA : Nat → ClassId) (sz : Nat) (h : Nat) : Met l xy_De_init (.code xy_De_init xb_De_init 1 none :: wT) { frames := 2, cells := 9, slots := 121, locals := 35 } (va_Pc [.ref h] (xPre D kA sz [(h, .inr (0, [.null, .null, .null, .null, .int 0, .int 0]))])) (va_Qv (fun (u : Nat × Nat × Nat × Nat × Nat × Nat × Nat × Nat × Nat) => True) (fun (u : Nat × Nat × Nat × Nat × Nat × Nat × Nat × Nat × Nat) t => va_P D xcl [(h, .inr (0, [.ref u.1, .ref u.2.1, .ref u.2.2.1, .ref u.2.2.2.1, .int 0, .int 0])), (u.1, .inr (1, [.ref u.2.2.2.2.1, .ref u.2.2.2.2.2.1, .ref u.2.2.2.2.2.2.1, .int 0, .int 0])), (u.2.2.2.2.1, .inl (kA 1, 40, .inl (fun _ => 0))), (u.2.2.2.2.2.1, .inl (kA 0, 20, .inl (fun _ => 0))), (u.2.2.2.2.2.2.1, .inl (kA 0, 20, .inl (fun _ => 0))), (u.2.1, .inr (2, [.ref u.2.2.2.2.2.2.2.1, .int 0])), (u.2.2.2.2.2.2.2.1, .inl (kA 4, 12, .inr (.inr (.inr (.inr (fun _ => none)))))), (u.2.2.1, .inr (3, [.ref u.2.1, .ref u.2.2.2.2.2.2.2.2, .int 0, .int 0, .null])), (u.2.2.2.2.2.2.2.2, .inl (kA 4, 12, .inr (.inr (.inr (.inr (fun _ => none)))))), (u.2.2.2.1, .inl (kA 5, 5, .inr (.inr (.inr (.inr (fun _ => none))))))] t.heap ∧ va_D (va_A [(h, .inr (0, [.null, .null, .null, .null, .int 0, .int 0]))] sz) [(h, .inr (0, [.ref u.1, .ref u.2.1, .ref u.2.2.1, .ref u.2.2.2.1, .int 0, .int 0])), (u.1, .inr (1, [.ref u.2.2.2.2.1, .ref u.2.2.2.2.2.1, .ref u.2.2.2.2.2.2.1, .int 0, .int 0])), (u.2.2.2.2.1, .inl (kA 1, 40, .inl (fun _ => 0))), (u.2.2.2.2.2.1, .inl (kA 0, 20, .inl (fun _ => 0))), (u.2.2.2.2.2.2.1, .inl (kA 0, 20, .inl (fun _ => 0))), (u.2.1, .inr (2, [.ref u.2.2.2.2.2.2.2.1, .int 0])), (u.2.2.2.2.2.2.2.1, .inl (kA 4, 12, .inr (.inr (.inr (.inr (fun _ => none)))))), (u.2.2.1, .inr (3, [.ref u.2.1, .ref u.2.2.2.2.2.2.2.2, .int 0, .int 0, .null])), (u.2.2.2.2.2.2.2.2, .inl (kA 4, 12, .inr (.inr (.inr (.inr (fun _ => none)))))), (u.2.2.2.1, .inl (kA 5, 5, .inr (.inr (.inr (.inr (fun _ => none))))))]) (va_A [(h, .inr (0, [.null, .null, .null, .null, .int 0, .int 0]))] sz)) 9 121 (va_A [(h, .inr (0, [.null, .null, .null, .null, .int 0, .int 0]))] sz) := by
  refine Met.ofW (cc := xb_De_init) (maxL := 1) (ret := none) (by decide) rfl ?_
  intro p e s m args below meth c s₁ B hml hv
  obtain ⟨rfl, hsz, hP, hK, hD0⟩ := hv
  have hx := B.exec
  have hb := B.bytes
  have hr := B.returns
  have hT := x_hT B.pre
  have hown : s.vm.findClass xR_De = some m.cls := findClass_of_methodNamed B.named
  have hlocks := B.notSynchronized
  have hin : meth.name = "<init>" := (name_of_methodNamed B.named B.method).1
  subst hsz
  have hD := hD0.self (sz := s.heap.size)
  generalize hAe : va_A [(h, .inr (0, [.null, .null, .null, .null, .int 0, .int 0]))] s.heap.size = A at hD ⊢
  have hA : ∀ q : Nat, s.heap.size ≤ q → A q := fun q h => by rw [← hAe]; exact Or.inr h
  have hS : va_S A s.heap s.heap [] := va_S.rf
  have hP : va_P D xcl [(h, .inr (0, [.null, .null, .null, .null, .int 0, .int 0]))] s.heap := hP
  have hl := lv_entry ([.ref h]) (n := 1) (Nat.le_of_ble_eq_true rfl)
  rw [lg_entry_eq]
  generalize (lg_sl ([.ref h]) ++ List.replicate (1 - (lg_sl ([.ref h])).length) Slot.unset).toArray = ls at hl ⊢
  have hl : lv_has ls 1 [(0, .ref h)] := hl
  refine lv_aload_n hx hb xd_De_init_0 rfl (lv_at hl 0 rfl) ?_
  refine W.objInit hx hb hown (hT _ xk_21) (hT _ xk_1) (hT _ xk_2) rfl (by rw [hml]; exact hl.1) rfl xd_De_init_1 (Nat.le_of_ble_eq_true rfl) (Nat.le_of_ble_eq_true rfl) ?_
  refine W.eq (g2 := F0 m 4 ls []) rfl ?_
  refine lv_aload_n hx hb xd_De_init_4 rfl (lv_at hl 0 rfl) ?_
  refine va_new (ci := 1) (fs := [.null, .null, .null, .int 0, .int 0]) (C := xR_Li) (T := xT_Li) (N := 5) hx hb hT xi_Li xt_Li xt_Li_ok hown (hT _ xk_22) (hT _ xk_23) (hT _ xk_24) hK.1 hP hD hS hA rfl (by decide +kernel) (Nat.le_of_ble_eq_true rfl) (Nat.le_of_ble_eq_true rfl) xd_De_init_5 (fun q1 H hP hD hS => ?_)
  have hP : va_P D xcl [(h, .inr (0, [.null, .null, .null, .null, .int 0, .int 0])), (q1, .inr (1, [.null, .null, .null, .int 0, .int 0]))] H := hP
  have hD : va_D A [(h, .inr (0, [.null, .null, .null, .null, .int 0, .int 0])), (q1, .inr (1, [.null, .null, .null, .int 0, .int 0]))] := hD
  refine lv_dup hx hb xd_De_init_8 rfl ?_
  have hPc := hP.sub (ws' := [(q1, .inr (1, [.null, .null, .null, .int 0, .int 0]))]) [1] rfl
  have hDc := hD.sub (ws' := [(q1, .inr (1, [.null, .null, .null, .int 0, .int 0]))]) [1] (by decide) rfl
  have hFc := va_free (wc := [(q1, .inr (1, [.null, .null, .null, .int 0, .int 0]))]) hD hS hA [1] rfl
  have hkc : 1 + 3 ≤ 9 := Nat.le_of_ble_eq_true rfl
  have hks : 5 + 80 ≤ 121 := Nat.le_of_ble_eq_true rfl
  refine va_callv (va_runIN (As := []) (rest := [.ref q1, .ref h]) ⟨hx, hb, hml, hown, hT⟩ (xc_Li_init l D kA H.size q1) ⟨va_cnB 0 hT (wT_I xk_25) rfl rfl rfl hK.2.1.1 (hT _ xk_24) (by decide +kernel) ⟨Nat.le_of_ble_eq_true rfl, Nat.le_of_ble_eq_true rfl⟩, rfl, hT _ xk_26⟩ (x_preS hK hPc hDc) rfl rfl hl.1 rfl (lv_room (Nat.le_of_ble_eq_true rfl)) xd_De_init_9 ⟨hkc, hks⟩) hS (fun q _ h => hFc q h) hFc (fun u t H1 locs ht hvm hpost hB hz1 hk1 hS => ?_)
  obtain ⟨u2, u3, u4⟩ := u
  obtain ⟨hP1, hD1⟩ := hB
  rw [ht] at hP1
  obtain ⟨hP, hD⟩ := va_join (wr := [(h, .inr (0, [.null, .null, .null, .null, .int 0, .int 0]))]) (w1 := [(q1, .inr (1, [.ref u2, .ref u3, .ref u4, .int 0, .int 0])), (u2, .inl (kA 1, 40, .inl (fun _ => 0))), (u3, .inl (kA 0, 20, .inl (fun _ => 0))), (u4, .inl (kA 0, 20, .inl (fun _ => 0)))]) hP hD [1] [0] rfl rfl (by decide) (by decide) hk1 hFc hP1 hD1
  generalize H1 = H at hP hS ⊢
  have hP : va_P D xcl [(h, .inr (0, [.null, .null, .null, .null, .int 0, .int 0])), (q1, .inr (1, [.ref u2, .ref u3, .ref u4, .int 0, .int 0])), (u2, .inl (kA 1, 40, .inl (fun _ => 0))), (u3, .inl (kA 0, 20, .inl (fun _ => 0))), (u4, .inl (kA 0, 20, .inl (fun _ => 0)))] H := hP
  have hD : va_D A [(h, .inr (0, [.null, .null, .null, .null, .int 0, .int 0])), (q1, .inr (1, [.ref u2, .ref u3, .ref u4, .int 0, .int 0])), (u2, .inl (kA 1, 40, .inl (fun _ => 0))), (u3, .inl (kA 0, 20, .inl (fun _ => 0))), (u4, .inl (kA 0, 20, .inl (fun _ => 0)))] := hD
  refine va_putF (D := D) (ci := 0) (v := .ref q1) (ty := .object "LayerDesk$Line") (C := xR_De) (T := xT_De) (N := 6) hx hb hT xi_De xt_De xt_De_ok xn_De hown hK.1 hP hD hS 0 rfl rfl 0 (by decide) (hT _ xk_27) (fun _ h9 => h9) rfl hin rfl (by decide +kernel) rfl rfl (Nat.le_of_ble_eq_true rfl) xd_De_init_12 (fun H locs hP hD hS => ?_)
  have hP : va_P D xcl [(h, .inr (0, [.ref q1, .null, .null, .null, .int 0, .int 0])), (q1, .inr (1, [.ref u2, .ref u3, .ref u4, .int 0, .int 0])), (u2, .inl (kA 1, 40, .inl (fun _ => 0))), (u3, .inl (kA 0, 20, .inl (fun _ => 0))), (u4, .inl (kA 0, 20, .inl (fun _ => 0)))] H := hP
  have hD : va_D A [(h, .inr (0, [.ref q1, .null, .null, .null, .int 0, .int 0])), (q1, .inr (1, [.ref u2, .ref u3, .ref u4, .int 0, .int 0])), (u2, .inl (kA 1, 40, .inl (fun _ => 0))), (u3, .inl (kA 0, 20, .inl (fun _ => 0))), (u4, .inl (kA 0, 20, .inl (fun _ => 0)))] := hD
  refine lv_aload_n hx hb xd_De_init_15 rfl (lv_at hl 0 rfl) ?_
  refine va_new (ci := 2) (fs := [.null, .int 0]) (C := xR_Sh) (T := xT_Sh) (N := 2) hx hb hT xi_Sh xt_Sh xt_Sh_ok hown (hT _ xk_28) (hT _ xk_29) (hT _ xk_30) hK.1 hP hD hS hA rfl (by decide +kernel) (Nat.le_of_ble_eq_true rfl) (Nat.le_of_ble_eq_true rfl) xd_De_init_16 (fun q5 H hP hD hS => ?_)
  have hP : va_P D xcl [(h, .inr (0, [.ref q1, .null, .null, .null, .int 0, .int 0])), (q1, .inr (1, [.ref u2, .ref u3, .ref u4, .int 0, .int 0])), (u2, .inl (kA 1, 40, .inl (fun _ => 0))), (u3, .inl (kA 0, 20, .inl (fun _ => 0))), (u4, .inl (kA 0, 20, .inl (fun _ => 0))), (q5, .inr (2, [.null, .int 0]))] H := hP
  have hD : va_D A [(h, .inr (0, [.ref q1, .null, .null, .null, .int 0, .int 0])), (q1, .inr (1, [.ref u2, .ref u3, .ref u4, .int 0, .int 0])), (u2, .inl (kA 1, 40, .inl (fun _ => 0))), (u3, .inl (kA 0, 20, .inl (fun _ => 0))), (u4, .inl (kA 0, 20, .inl (fun _ => 0))), (q5, .inr (2, [.null, .int 0]))] := hD
  refine lv_dup hx hb xd_De_init_19 rfl ?_
  have hPc := hP.sub (ws' := [(q5, .inr (2, [.null, .int 0]))]) [5] rfl
  have hDc := hD.sub (ws' := [(q5, .inr (2, [.null, .int 0]))]) [5] (by decide) rfl
  have hFc := va_free (wc := [(q5, .inr (2, [.null, .int 0]))]) hD hS hA [5] rfl
  have hkc : 5 + 1 ≤ 9 := Nat.le_of_ble_eq_true rfl
  have hks : 87 + 12 ≤ 121 := Nat.le_of_ble_eq_true rfl
  refine va_callv (va_runIN (As := []) (rest := [.ref q5, .ref h]) ⟨hx, hb, hml, hown, hT⟩ (xc_Sh_init l D kA H.size q5) ⟨va_cnB 0 hT (wT_I xk_31) rfl rfl rfl hK.2.1.2.1 (hT _ xk_30) (by decide +kernel) ⟨Nat.le_of_ble_eq_true rfl, Nat.le_of_ble_eq_true rfl⟩, rfl, hT _ xk_32⟩ (x_preS hK hPc hDc) rfl rfl hl.1 rfl (lv_room (Nat.le_of_ble_eq_true rfl)) xd_De_init_20 ⟨hkc, hks⟩) hS (fun q _ h => hFc q h) hFc (fun u t H1 locs ht hvm hpost hB hz1 hk1 hS => ?_)
  obtain ⟨u6, rfl⟩ : ∃ z, z = u := ⟨_, rfl⟩
  obtain ⟨hP1, hD1⟩ := hB
  rw [ht] at hP1
  obtain ⟨hP, hD⟩ := va_join (wr := [(h, .inr (0, [.ref q1, .null, .null, .null, .int 0, .int 0])), (q1, .inr (1, [.ref u2, .ref u3, .ref u4, .int 0, .int 0])), (u2, .inl (kA 1, 40, .inl (fun _ => 0))), (u3, .inl (kA 0, 20, .inl (fun _ => 0))), (u4, .inl (kA 0, 20, .inl (fun _ => 0)))]) (w1 := [(q5, .inr (2, [.ref u6, .int 0])), (u6, .inl (kA 4, 12, .inr (.inr (.inr (.inr (fun _ => none))))))]) hP hD [5] [0, 1, 2, 3, 4] rfl rfl (by decide) (by decide) hk1 hFc hP1 hD1
  generalize H1 = H at hP hS ⊢
  have hP : va_P D xcl [(h, .inr (0, [.ref q1, .null, .null, .null, .int 0, .int 0])), (q1, .inr (1, [.ref u2, .ref u3, .ref u4, .int 0, .int 0])), (u2, .inl (kA 1, 40, .inl (fun _ => 0))), (u3, .inl (kA 0, 20, .inl (fun _ => 0))), (u4, .inl (kA 0, 20, .inl (fun _ => 0))), (q5, .inr (2, [.ref u6, .int 0])), (u6, .inl (kA 4, 12, .inr (.inr (.inr (.inr (fun _ => none))))))] H := hP
  have hD : va_D A [(h, .inr (0, [.ref q1, .null, .null, .null, .int 0, .int 0])), (q1, .inr (1, [.ref u2, .ref u3, .ref u4, .int 0, .int 0])), (u2, .inl (kA 1, 40, .inl (fun _ => 0))), (u3, .inl (kA 0, 20, .inl (fun _ => 0))), (u4, .inl (kA 0, 20, .inl (fun _ => 0))), (q5, .inr (2, [.ref u6, .int 0])), (u6, .inl (kA 4, 12, .inr (.inr (.inr (.inr (fun _ => none))))))] := hD
  refine va_putF (D := D) (ci := 0) (v := .ref q5) (ty := .object "LayerDesk$Shelf") (C := xR_De) (T := xT_De) (N := 6) hx hb hT xi_De xt_De xt_De_ok xn_De hown hK.1 hP hD hS 0 rfl rfl 1 (by decide) (hT _ xk_33) (fun _ h9 => h9) rfl hin rfl (by decide +kernel) rfl rfl (Nat.le_of_ble_eq_true rfl) xd_De_init_23 (fun H locs hP hD hS => ?_)
  have hP : va_P D xcl [(h, .inr (0, [.ref q1, .ref q5, .null, .null, .int 0, .int 0])), (q1, .inr (1, [.ref u2, .ref u3, .ref u4, .int 0, .int 0])), (u2, .inl (kA 1, 40, .inl (fun _ => 0))), (u3, .inl (kA 0, 20, .inl (fun _ => 0))), (u4, .inl (kA 0, 20, .inl (fun _ => 0))), (q5, .inr (2, [.ref u6, .int 0])), (u6, .inl (kA 4, 12, .inr (.inr (.inr (.inr (fun _ => none))))))] H := hP
  have hD : va_D A [(h, .inr (0, [.ref q1, .ref q5, .null, .null, .int 0, .int 0])), (q1, .inr (1, [.ref u2, .ref u3, .ref u4, .int 0, .int 0])), (u2, .inl (kA 1, 40, .inl (fun _ => 0))), (u3, .inl (kA 0, 20, .inl (fun _ => 0))), (u4, .inl (kA 0, 20, .inl (fun _ => 0))), (q5, .inr (2, [.ref u6, .int 0])), (u6, .inl (kA 4, 12, .inr (.inr (.inr (.inr (fun _ => none))))))] := hD
  refine lv_aload_n hx hb xd_De_init_26 rfl (lv_at hl 0 rfl) ?_
  refine va_new (ci := 3) (fs := [.null, .null, .int 0, .int 0, .null]) (C := xR_Ch) (T := xT_Ch) (N := 5) hx hb hT xi_Ch xt_Ch xt_Ch_ok hown (hT _ xk_34) (hT _ xk_35) (hT _ xk_36) hK.1 hP hD hS hA rfl (by decide +kernel) (Nat.le_of_ble_eq_true rfl) (Nat.le_of_ble_eq_true rfl) xd_De_init_27 (fun q7 H hP hD hS => ?_)
  have hP : va_P D xcl [(h, .inr (0, [.ref q1, .ref q5, .null, .null, .int 0, .int 0])), (q1, .inr (1, [.ref u2, .ref u3, .ref u4, .int 0, .int 0])), (u2, .inl (kA 1, 40, .inl (fun _ => 0))), (u3, .inl (kA 0, 20, .inl (fun _ => 0))), (u4, .inl (kA 0, 20, .inl (fun _ => 0))), (q5, .inr (2, [.ref u6, .int 0])), (u6, .inl (kA 4, 12, .inr (.inr (.inr (.inr (fun _ => none)))))), (q7, .inr (3, [.null, .null, .int 0, .int 0, .null]))] H := hP
  have hD : va_D A [(h, .inr (0, [.ref q1, .ref q5, .null, .null, .int 0, .int 0])), (q1, .inr (1, [.ref u2, .ref u3, .ref u4, .int 0, .int 0])), (u2, .inl (kA 1, 40, .inl (fun _ => 0))), (u3, .inl (kA 0, 20, .inl (fun _ => 0))), (u4, .inl (kA 0, 20, .inl (fun _ => 0))), (q5, .inr (2, [.ref u6, .int 0])), (u6, .inl (kA 4, 12, .inr (.inr (.inr (.inr (fun _ => none)))))), (q7, .inr (3, [.null, .null, .int 0, .int 0, .null]))] := hD
  refine lv_dup hx hb xd_De_init_30 rfl ?_
  refine lv_aload_n hx hb xd_De_init_31 rfl (lv_at hl 0 rfl) ?_
  refine va_get (D := D) (ci := 0) (v := .ref q5) (C := xR_De) (T := xT_De) (N := 6) hx hb hT xi_De hown hK.1 hP 0 rfl rfl 1 (by decide) (hT _ xk_33) (fun _ h9 => h9) rfl xd_De_init_32 ?_
  have hPc := hP.sub (ws' := [(q7, .inr (3, [.null, .null, .int 0, .int 0, .null]))]) [7] rfl
  have hDc := hD.sub (ws' := [(q7, .inr (3, [.null, .null, .int 0, .int 0, .null]))]) [7] (by decide) rfl
  have hFc := va_free (wc := [(q7, .inr (3, [.null, .null, .int 0, .int 0, .null]))]) hD hS hA [7] rfl
  have hkc : 7 + 1 ≤ 9 := Nat.le_of_ble_eq_true rfl
  have hks : 104 + 12 ≤ 121 := Nat.le_of_ble_eq_true rfl
  refine va_callv (va_runI (As := [.ref q5]) (rest := [.ref q7, .ref h]) ⟨hx, hb, hml, hown, hT⟩ (xc_Ch_init l D kA H.size q7 q5) (cwI 1 hT (wT_I xk_37) rfl rfl rfl (hT _ xk_36) (hT _ xk_38) (hT _ xk_39) rfl (by decide +kernel) ⟨Nat.le_of_ble_eq_true rfl, Nat.le_of_ble_eq_true rfl⟩) (x_preS hK hPc hDc) rfl rfl hl.1 rfl (lv_room (Nat.le_of_ble_eq_true rfl)) xd_De_init_35 ⟨hkc, hks⟩) hS (fun q _ h => hFc q h) hFc (fun u t H1 locs ht hvm hpost hB hz1 hk1 hS => ?_)
  obtain ⟨u8, rfl⟩ : ∃ z, z = u := ⟨_, rfl⟩
  obtain ⟨hP1, hD1⟩ := hB
  rw [ht] at hP1
  obtain ⟨hP, hD⟩ := va_join (wr := [(h, .inr (0, [.ref q1, .ref q5, .null, .null, .int 0, .int 0])), (q1, .inr (1, [.ref u2, .ref u3, .ref u4, .int 0, .int 0])), (u2, .inl (kA 1, 40, .inl (fun _ => 0))), (u3, .inl (kA 0, 20, .inl (fun _ => 0))), (u4, .inl (kA 0, 20, .inl (fun _ => 0))), (q5, .inr (2, [.ref u6, .int 0])), (u6, .inl (kA 4, 12, .inr (.inr (.inr (.inr (fun _ => none))))))]) (w1 := [(q7, .inr (3, [.ref q5, .ref u8, .int 0, .int 0, .null])), (u8, .inl (kA 4, 12, .inr (.inr (.inr (.inr (fun _ => none))))))]) hP hD [7] [0, 1, 2, 3, 4, 5, 6] rfl rfl (by decide) (by decide) hk1 hFc hP1 hD1
  generalize H1 = H at hP hS ⊢
  have hP : va_P D xcl [(h, .inr (0, [.ref q1, .ref q5, .null, .null, .int 0, .int 0])), (q1, .inr (1, [.ref u2, .ref u3, .ref u4, .int 0, .int 0])), (u2, .inl (kA 1, 40, .inl (fun _ => 0))), (u3, .inl (kA 0, 20, .inl (fun _ => 0))), (u4, .inl (kA 0, 20, .inl (fun _ => 0))), (q5, .inr (2, [.ref u6, .int 0])), (u6, .inl (kA 4, 12, .inr (.inr (.inr (.inr (fun _ => none)))))), (q7, .inr (3, [.ref q5, .ref u8, .int 0, .int 0, .null])), (u8, .inl (kA 4, 12, .inr (.inr (.inr (.inr (fun _ => none))))))] H := hP
  have hD : va_D A [(h, .inr (0, [.ref q1, .ref q5, .null, .null, .int 0, .int 0])), (q1, .inr (1, [.ref u2, .ref u3, .ref u4, .int 0, .int 0])), (u2, .inl (kA 1, 40, .inl (fun _ => 0))), (u3, .inl (kA 0, 20, .inl (fun _ => 0))), (u4, .inl (kA 0, 20, .inl (fun _ => 0))), (q5, .inr (2, [.ref u6, .int 0])), (u6, .inl (kA 4, 12, .inr (.inr (.inr (.inr (fun _ => none)))))), (q7, .inr (3, [.ref q5, .ref u8, .int 0, .int 0, .null])), (u8, .inl (kA 4, 12, .inr (.inr (.inr (.inr (fun _ => none))))))] := hD
  refine va_putF (D := D) (ci := 0) (v := .ref q7) (ty := .object "LayerDesk$Chooser") (C := xR_De) (T := xT_De) (N := 6) hx hb hT xi_De xt_De xt_De_ok xn_De hown hK.1 hP hD hS 0 rfl rfl 2 (by decide) (hT _ xk_40) (fun _ h9 => h9) rfl hin rfl (by decide +kernel) rfl rfl (Nat.le_of_ble_eq_true rfl) xd_De_init_38 (fun H locs hP hD hS => ?_)
  have hP : va_P D xcl [(h, .inr (0, [.ref q1, .ref q5, .ref q7, .null, .int 0, .int 0])), (q1, .inr (1, [.ref u2, .ref u3, .ref u4, .int 0, .int 0])), (u2, .inl (kA 1, 40, .inl (fun _ => 0))), (u3, .inl (kA 0, 20, .inl (fun _ => 0))), (u4, .inl (kA 0, 20, .inl (fun _ => 0))), (q5, .inr (2, [.ref u6, .int 0])), (u6, .inl (kA 4, 12, .inr (.inr (.inr (.inr (fun _ => none)))))), (q7, .inr (3, [.ref q5, .ref u8, .int 0, .int 0, .null])), (u8, .inl (kA 4, 12, .inr (.inr (.inr (.inr (fun _ => none))))))] H := hP
  have hD : va_D A [(h, .inr (0, [.ref q1, .ref q5, .ref q7, .null, .int 0, .int 0])), (q1, .inr (1, [.ref u2, .ref u3, .ref u4, .int 0, .int 0])), (u2, .inl (kA 1, 40, .inl (fun _ => 0))), (u3, .inl (kA 0, 20, .inl (fun _ => 0))), (u4, .inl (kA 0, 20, .inl (fun _ => 0))), (q5, .inr (2, [.ref u6, .int 0])), (u6, .inl (kA 4, 12, .inr (.inr (.inr (.inr (fun _ => none)))))), (q7, .inr (3, [.ref q5, .ref u8, .int 0, .int 0, .null])), (u8, .inl (kA 4, 12, .inr (.inr (.inr (.inr (fun _ => none))))))] := hD
  refine lv_aload_n hx hb xd_De_init_41 rfl (lv_at hl 0 rfl) ?_
  refine lv_iconst (v := 5) hx hb xd_De_init_42 (by decide) ?_
  refine xa_newq (C := "LayerDesk$Layer") (N' := 5) hx hb hown (hT _ xk_41) hK.2.1.2.2.2.2.2.1 hK.1 5 rfl hP hD hS hA (by decide) rfl (by decide) (Nat.le_of_ble_eq_true rfl) (Nat.le_of_ble_eq_true rfl) xd_De_init_43 (fun q9 H hP hD hS => ?_)
  have hP : va_P D xcl [(h, .inr (0, [.ref q1, .ref q5, .ref q7, .null, .int 0, .int 0])), (q1, .inr (1, [.ref u2, .ref u3, .ref u4, .int 0, .int 0])), (u2, .inl (kA 1, 40, .inl (fun _ => 0))), (u3, .inl (kA 0, 20, .inl (fun _ => 0))), (u4, .inl (kA 0, 20, .inl (fun _ => 0))), (q5, .inr (2, [.ref u6, .int 0])), (u6, .inl (kA 4, 12, .inr (.inr (.inr (.inr (fun _ => none)))))), (q7, .inr (3, [.ref q5, .ref u8, .int 0, .int 0, .null])), (u8, .inl (kA 4, 12, .inr (.inr (.inr (.inr (fun _ => none)))))), (q9, .inl (kA 5, 5, .inr (.inr (.inr (.inr (fun _ => none))))))] H := hP
  have hD : va_D A [(h, .inr (0, [.ref q1, .ref q5, .ref q7, .null, .int 0, .int 0])), (q1, .inr (1, [.ref u2, .ref u3, .ref u4, .int 0, .int 0])), (u2, .inl (kA 1, 40, .inl (fun _ => 0))), (u3, .inl (kA 0, 20, .inl (fun _ => 0))), (u4, .inl (kA 0, 20, .inl (fun _ => 0))), (q5, .inr (2, [.ref u6, .int 0])), (u6, .inl (kA 4, 12, .inr (.inr (.inr (.inr (fun _ => none)))))), (q7, .inr (3, [.ref q5, .ref u8, .int 0, .int 0, .null])), (u8, .inl (kA 4, 12, .inr (.inr (.inr (.inr (fun _ => none)))))), (q9, .inl (kA 5, 5, .inr (.inr (.inr (.inr (fun _ => none))))))] := hD
  refine va_putF (D := D) (ci := 0) (v := .ref q9) (ty := .array (.object "LayerDesk$Layer")) (C := xR_De) (T := xT_De) (N := 6) hx hb hT xi_De xt_De xt_De_ok xn_De hown hK.1 hP hD hS 0 rfl rfl 3 (by decide) (hT _ xk_42) (fun _ h9 => h9) rfl hin rfl (by decide +kernel) rfl rfl (Nat.le_of_ble_eq_true rfl) xd_De_init_46 (fun H locs hP hD hS => ?_)
  have hP : va_P D xcl [(h, .inr (0, [.ref q1, .ref q5, .ref q7, .ref q9, .int 0, .int 0])), (q1, .inr (1, [.ref u2, .ref u3, .ref u4, .int 0, .int 0])), (u2, .inl (kA 1, 40, .inl (fun _ => 0))), (u3, .inl (kA 0, 20, .inl (fun _ => 0))), (u4, .inl (kA 0, 20, .inl (fun _ => 0))), (q5, .inr (2, [.ref u6, .int 0])), (u6, .inl (kA 4, 12, .inr (.inr (.inr (.inr (fun _ => none)))))), (q7, .inr (3, [.ref q5, .ref u8, .int 0, .int 0, .null])), (u8, .inl (kA 4, 12, .inr (.inr (.inr (.inr (fun _ => none)))))), (q9, .inl (kA 5, 5, .inr (.inr (.inr (.inr (fun _ => none))))))] H := hP
  have hD : va_D A [(h, .inr (0, [.ref q1, .ref q5, .ref q7, .ref q9, .int 0, .int 0])), (q1, .inr (1, [.ref u2, .ref u3, .ref u4, .int 0, .int 0])), (u2, .inl (kA 1, 40, .inl (fun _ => 0))), (u3, .inl (kA 0, 20, .inl (fun _ => 0))), (u4, .inl (kA 0, 20, .inl (fun _ => 0))), (q5, .inr (2, [.ref u6, .int 0])), (u6, .inl (kA 4, 12, .inr (.inr (.inr (.inr (fun _ => none)))))), (q7, .inr (3, [.ref q5, .ref u8, .int 0, .int 0, .null])), (u8, .inl (kA 4, 12, .inr (.inr (.inr (.inr (fun _ => none)))))), (q9, .inl (kA 5, 5, .inr (.inr (.inr (.inr (fun _ => none))))))] := hD
  refine lv_aload_n hx hb xd_De_init_49 rfl (lv_at hl 0 rfl) ?_
  refine lv_iconst (v := 0) hx hb xd_De_init_50 (by decide) ?_
  refine va_put (D := D) (ci := 0) (v := .int 0) (ty := .int) (C := xR_De) (T := xT_De) (N := 6) hx hb hT xi_De xt_De xt_De_ok xn_De hown hK.1 hP hD hS 0 rfl rfl 4 (by decide) (hT _ xk_43) (fun _ h9 => h9) rfl (by decide +kernel) rfl rfl (Nat.le_of_ble_eq_true rfl) xd_De_init_51 (fun H locs hP hD hS => ?_)
  have hP : va_P D xcl [(h, .inr (0, [.ref q1, .ref q5, .ref q7, .ref q9, .int 0, .int 0])), (q1, .inr (1, [.ref u2, .ref u3, .ref u4, .int 0, .int 0])), (u2, .inl (kA 1, 40, .inl (fun _ => 0))), (u3, .inl (kA 0, 20, .inl (fun _ => 0))), (u4, .inl (kA 0, 20, .inl (fun _ => 0))), (q5, .inr (2, [.ref u6, .int 0])), (u6, .inl (kA 4, 12, .inr (.inr (.inr (.inr (fun _ => none)))))), (q7, .inr (3, [.ref q5, .ref u8, .int 0, .int 0, .null])), (u8, .inl (kA 4, 12, .inr (.inr (.inr (.inr (fun _ => none)))))), (q9, .inl (kA 5, 5, .inr (.inr (.inr (.inr (fun _ => none))))))] H := hP
  have hD : va_D A [(h, .inr (0, [.ref q1, .ref q5, .ref q7, .ref q9, .int 0, .int 0])), (q1, .inr (1, [.ref u2, .ref u3, .ref u4, .int 0, .int 0])), (u2, .inl (kA 1, 40, .inl (fun _ => 0))), (u3, .inl (kA 0, 20, .inl (fun _ => 0))), (u4, .inl (kA 0, 20, .inl (fun _ => 0))), (q5, .inr (2, [.ref u6, .int 0])), (u6, .inl (kA 4, 12, .inr (.inr (.inr (.inr (fun _ => none)))))), (q7, .inr (3, [.ref q5, .ref u8, .int 0, .int 0, .null])), (u8, .inl (kA 4, 12, .inr (.inr (.inr (.inr (fun _ => none)))))), (q9, .inl (kA 5, 5, .inr (.inr (.inr (.inr (fun _ => none))))))] := hD
  refine lv_aload_n hx hb xd_De_init_54 rfl (lv_at hl 0 rfl) ?_
  refine lv_iconst (v := 0) hx hb xd_De_init_55 (by decide) ?_
  refine va_put (D := D) (ci := 0) (v := .int 0) (ty := .int) (C := xR_De) (T := xT_De) (N := 6) hx hb hT xi_De xt_De xt_De_ok xn_De hown hK.1 hP hD hS 0 rfl rfl 5 (by decide) (hT _ xk_44) (fun _ h9 => h9) rfl (by decide +kernel) rfl rfl (Nat.le_of_ble_eq_true rfl) xd_De_init_56 (fun H locs hP hD hS => ?_)
  have hP : va_P D xcl [(h, .inr (0, [.ref q1, .ref q5, .ref q7, .ref q9, .int 0, .int 0])), (q1, .inr (1, [.ref u2, .ref u3, .ref u4, .int 0, .int 0])), (u2, .inl (kA 1, 40, .inl (fun _ => 0))), (u3, .inl (kA 0, 20, .inl (fun _ => 0))), (u4, .inl (kA 0, 20, .inl (fun _ => 0))), (q5, .inr (2, [.ref u6, .int 0])), (u6, .inl (kA 4, 12, .inr (.inr (.inr (.inr (fun _ => none)))))), (q7, .inr (3, [.ref q5, .ref u8, .int 0, .int 0, .null])), (u8, .inl (kA 4, 12, .inr (.inr (.inr (.inr (fun _ => none)))))), (q9, .inl (kA 5, 5, .inr (.inr (.inr (.inr (fun _ => none))))))] H := hP
  have hD : va_D A [(h, .inr (0, [.ref q1, .ref q5, .ref q7, .ref q9, .int 0, .int 0])), (q1, .inr (1, [.ref u2, .ref u3, .ref u4, .int 0, .int 0])), (u2, .inl (kA 1, 40, .inl (fun _ => 0))), (u3, .inl (kA 0, 20, .inl (fun _ => 0))), (u4, .inl (kA 0, 20, .inl (fun _ => 0))), (q5, .inr (2, [.ref u6, .int 0])), (u6, .inl (kA 4, 12, .inr (.inr (.inr (.inr (fun _ => none)))))), (q7, .inr (3, [.ref q5, .ref u8, .int 0, .int 0, .null])), (u8, .inl (kA 4, 12, .inr (.inr (.inr (.inr (fun _ => none)))))), (q9, .inl (kA 5, 5, .inr (.inr (.inr (.inr (fun _ => none))))))] := hD
  have hP9 := hP.sub (ws' := [(h, .inr (0, [.ref q1, .ref q5, .ref q7, .ref q9, .int 0, .int 0])), (q1, .inr (1, [.ref u2, .ref u3, .ref u4, .int 0, .int 0])), (u2, .inl (kA 1, 40, .inl (fun _ => 0))), (u3, .inl (kA 0, 20, .inl (fun _ => 0))), (u4, .inl (kA 0, 20, .inl (fun _ => 0))), (q5, .inr (2, [.ref u6, .int 0])), (u6, .inl (kA 4, 12, .inr (.inr (.inr (.inr (fun _ => none)))))), (q7, .inr (3, [.ref q5, .ref u8, .int 0, .int 0, .null])), (u8, .inl (kA 4, 12, .inr (.inr (.inr (.inr (fun _ => none)))))), (q9, .inl (kA 5, 5, .inr (.inr (.inr (.inr (fun _ => none))))))]) [0, 1, 2, 3, 4, 5, 6, 7, 8, 9] rfl
  have hD9 := hD.sub (ws' := [(h, .inr (0, [.ref q1, .ref q5, .ref q7, .ref q9, .int 0, .int 0])), (q1, .inr (1, [.ref u2, .ref u3, .ref u4, .int 0, .int 0])), (u2, .inl (kA 1, 40, .inl (fun _ => 0))), (u3, .inl (kA 0, 20, .inl (fun _ => 0))), (u4, .inl (kA 0, 20, .inl (fun _ => 0))), (q5, .inr (2, [.ref u6, .int 0])), (u6, .inl (kA 4, 12, .inr (.inr (.inr (.inr (fun _ => none)))))), (q7, .inr (3, [.ref q5, .ref u8, .int 0, .int 0, .null])), (u8, .inl (kA 4, 12, .inr (.inr (.inr (.inr (fun _ => none)))))), (q9, .inl (kA 5, 5, .inr (.inr (.inr (.inr (fun _ => none))))))]) [0, 1, 2, 3, 4, 5, 6, 7, 8, 9] (by decide) rfl
  refine W.widen (k := 9) (n := 121) (Nat.le_of_ble_eq_true rfl) (Nat.le_of_ble_eq_true rfl) ?_
  exact W.vret hx hb hr (fun t ht hW => ⟨⟨(q1, q5, q7, q9, u2, u3, u4, u6, u8), rfl, trivial, by rw [ht]; exact hP9, hD9⟩, hS.F ht⟩) hS.2.2 xd_De_init_59
set_option maxHeartbeats 4000000 in
set_option maxRecDepth 100000 in
theorem xc_Mo_init (l : Launch) (D : va_G) (kA : Nat → ClassId) (sz : Nat) (h : Nat) : Met l xy_Mo_init (.code xy_Mo_init xb_Mo_init 1 none :: wT) { frames := 1, cells := 25, slots := 1288, locals := 14 } (va_Pc [.ref h] (xPre D kA sz [(h, .inr (4, [.int 0, .int 0, .null, .int 0, .int 0, .null, .null, .int 0, .null, .null, .null, .null, .null, .null, .null, .null, .null, .null, .null, .null, .null, .null, .null, .int 0, .null, .null, .null, .null, .null, .null, .null]))])) (va_Qv (fun (u : Nat × Nat × Nat × Nat × Nat × Nat × Nat × Nat × Nat × Nat × Nat × Nat × Nat × Nat × Nat × Nat × Nat × Nat × Nat × Nat × Nat × Nat × Nat × Nat × Nat) => True) (fun (u : Nat × Nat × Nat × Nat × Nat × Nat × Nat × Nat × Nat × Nat × Nat × Nat × Nat × Nat × Nat × Nat × Nat × Nat × Nat × Nat × Nat × Nat × Nat × Nat × Nat) t => va_P D xcl [(h, .inr (4, [.int 0, .int 0, .ref u.1, .int 0, .int 0, .ref u.2.1, .ref u.2.2.1, .int 0, .ref u.2.2.2.1, .ref u.2.2.2.2.1, .ref u.2.2.2.2.2.1, .ref u.2.2.2.2.2.2.1, .ref u.2.2.2.2.2.2.2.1, .ref u.2.2.2.2.2.2.2.2.1, .ref u.2.2.2.2.2.2.2.2.2.1, .ref u.2.2.2.2.2.2.2.2.2.2.1, .ref u.2.2.2.2.2.2.2.2.2.2.2.1, .ref u.2.2.2.2.2.2.2.2.2.2.2.2.1, .ref u.2.2.2.2.2.2.2.2.2.2.2.2.2.1, .ref u.2.2.2.2.2.2.2.2.2.2.2.2.2.2.1, .ref u.2.2.2.2.2.2.2.2.2.2.2.2.2.2.2.1, .ref u.2.2.2.2.2.2.2.2.2.2.2.2.2.2.2.2.1, .ref u.2.2.2.2.2.2.2.2.2.2.2.2.2.2.2.2.2.1, .int 0, .ref u.2.2.2.2.2.2.2.2.2.2.2.2.2.2.2.2.2.2.1, .ref u.2.2.2.2.2.2.2.2.2.2.2.2.2.2.2.2.2.2.2.1, .ref u.2.2.2.2.2.2.2.2.2.2.2.2.2.2.2.2.2.2.2.2.1, .ref u.2.2.2.2.2.2.2.2.2.2.2.2.2.2.2.2.2.2.2.2.2.1, .ref u.2.2.2.2.2.2.2.2.2.2.2.2.2.2.2.2.2.2.2.2.2.2.1, .ref u.2.2.2.2.2.2.2.2.2.2.2.2.2.2.2.2.2.2.2.2.2.2.2.1, .ref u.2.2.2.2.2.2.2.2.2.2.2.2.2.2.2.2.2.2.2.2.2.2.2.2])), (u.1, .inl (kA 1, 40, .inl (fun _ => 0))), (u.2.1, .inl (kA 0, 20, .inl (fun _ => 0))), (u.2.2.1, .inl (kA 0, 20, .inl (fun _ => 0))), (u.2.2.2.1, .inl (kA 0, 12, .inl (fun _ => 0))), (u.2.2.2.2.1, .inl (kA 0, 12, .inl (fun _ => 0))), (u.2.2.2.2.2.1, .inl (kA 0, 12, .inl (fun _ => 0))), (u.2.2.2.2.2.2.1, .inl (kA 0, 72, .inl (fun _ => 0))), (u.2.2.2.2.2.2.2.1, .inl (kA 0, 216, .inl (fun _ => 0))), (u.2.2.2.2.2.2.2.2.1, .inl (kA 0, 216, .inl (fun _ => 0))), (u.2.2.2.2.2.2.2.2.2.1, .inl (kA 2, 72, .inl (fun _ => 0))), (u.2.2.2.2.2.2.2.2.2.2.1, .inl (kA 2, 72, .inl (fun _ => 0))), (u.2.2.2.2.2.2.2.2.2.2.2.1, .inl (kA 2, 12, .inl (fun _ => 0))), (u.2.2.2.2.2.2.2.2.2.2.2.2.1, .inl (kA 0, 12, .inl (fun _ => 0))), (u.2.2.2.2.2.2.2.2.2.2.2.2.2.1, .inl (kA 0, 60, .inl (fun _ => 0))), (u.2.2.2.2.2.2.2.2.2.2.2.2.2.2.1, .inl (kA 0, 36, .inl (fun _ => 0))), (u.2.2.2.2.2.2.2.2.2.2.2.2.2.2.2.1, .inl (kA 0, 36, .inl (fun _ => 0))), (u.2.2.2.2.2.2.2.2.2.2.2.2.2.2.2.2.1, .inl (kA 2, 60, .inl (fun _ => 0))), (u.2.2.2.2.2.2.2.2.2.2.2.2.2.2.2.2.2.1, .inl (kA 2, 60, .inl (fun _ => 0))), (u.2.2.2.2.2.2.2.2.2.2.2.2.2.2.2.2.2.2.1, .inl (kA 0, 6, .inl (fun _ => 0))), (u.2.2.2.2.2.2.2.2.2.2.2.2.2.2.2.2.2.2.2.1, .inl (kA 0, 6, .inl (fun _ => 0))), (u.2.2.2.2.2.2.2.2.2.2.2.2.2.2.2.2.2.2.2.2.1, .inl (kA 0, 6, .inl (fun _ => 0))), (u.2.2.2.2.2.2.2.2.2.2.2.2.2.2.2.2.2.2.2.2.2.1, .inl (kA 0, 72, .inl (fun _ => 0))), (u.2.2.2.2.2.2.2.2.2.2.2.2.2.2.2.2.2.2.2.2.2.2.1, .inl (kA 2, 6, .inl (fun _ => 0))), (u.2.2.2.2.2.2.2.2.2.2.2.2.2.2.2.2.2.2.2.2.2.2.2.1, .inl (kA 0, 80, .inl (fun _ => 0))), (u.2.2.2.2.2.2.2.2.2.2.2.2.2.2.2.2.2.2.2.2.2.2.2.2, .inl (kA 2, 72, .inl (fun _ => 0)))] t.heap ∧ va_D (va_A [(h, .inr (4, [.int 0, .int 0, .null, .int 0, .int 0, .null, .null, .int 0, .null, .null, .null, .null, .null, .null, .null, .null, .null, .null, .null, .null, .null, .null, .null, .int 0, .null, .null, .null, .null, .null, .null, .null]))] sz) [(h, .inr (4, [.int 0, .int 0, .ref u.1, .int 0, .int 0, .ref u.2.1, .ref u.2.2.1, .int 0, .ref u.2.2.2.1, .ref u.2.2.2.2.1, .ref u.2.2.2.2.2.1, .ref u.2.2.2.2.2.2.1, .ref u.2.2.2.2.2.2.2.1, .ref u.2.2.2.2.2.2.2.2.1, .ref u.2.2.2.2.2.2.2.2.2.1, .ref u.2.2.2.2.2.2.2.2.2.2.1, .ref u.2.2.2.2.2.2.2.2.2.2.2.1, .ref u.2.2.2.2.2.2.2.2.2.2.2.2.1, .ref u.2.2.2.2.2.2.2.2.2.2.2.2.2.1, .ref u.2.2.2.2.2.2.2.2.2.2.2.2.2.2.1, .ref u.2.2.2.2.2.2.2.2.2.2.2.2.2.2.2.1, .ref u.2.2.2.2.2.2.2.2.2.2.2.2.2.2.2.2.1, .ref u.2.2.2.2.2.2.2.2.2.2.2.2.2.2.2.2.2.1, .int 0, .ref u.2.2.2.2.2.2.2.2.2.2.2.2.2.2.2.2.2.2.1, .ref u.2.2.2.2.2.2.2.2.2.2.2.2.2.2.2.2.2.2.2.1, .ref u.2.2.2.2.2.2.2.2.2.2.2.2.2.2.2.2.2.2.2.2.1, .ref u.2.2.2.2.2.2.2.2.2.2.2.2.2.2.2.2.2.2.2.2.2.1, .ref u.2.2.2.2.2.2.2.2.2.2.2.2.2.2.2.2.2.2.2.2.2.2.1, .ref u.2.2.2.2.2.2.2.2.2.2.2.2.2.2.2.2.2.2.2.2.2.2.2.1, .ref u.2.2.2.2.2.2.2.2.2.2.2.2.2.2.2.2.2.2.2.2.2.2.2.2])), (u.1, .inl (kA 1, 40, .inl (fun _ => 0))), (u.2.1, .inl (kA 0, 20, .inl (fun _ => 0))), (u.2.2.1, .inl (kA 0, 20, .inl (fun _ => 0))), (u.2.2.2.1, .inl (kA 0, 12, .inl (fun _ => 0))), (u.2.2.2.2.1, .inl (kA 0, 12, .inl (fun _ => 0))), (u.2.2.2.2.2.1, .inl (kA 0, 12, .inl (fun _ => 0))), (u.2.2.2.2.2.2.1, .inl (kA 0, 72, .inl (fun _ => 0))), (u.2.2.2.2.2.2.2.1, .inl (kA 0, 216, .inl (fun _ => 0))), (u.2.2.2.2.2.2.2.2.1, .inl (kA 0, 216, .inl (fun _ => 0))), (u.2.2.2.2.2.2.2.2.2.1, .inl (kA 2, 72, .inl (fun _ => 0))), (u.2.2.2.2.2.2.2.2.2.2.1, .inl (kA 2, 72, .inl (fun _ => 0))), (u.2.2.2.2.2.2.2.2.2.2.2.1, .inl (kA 2, 12, .inl (fun _ => 0))), (u.2.2.2.2.2.2.2.2.2.2.2.2.1, .inl (kA 0, 12, .inl (fun _ => 0))), (u.2.2.2.2.2.2.2.2.2.2.2.2.2.1, .inl (kA 0, 60, .inl (fun _ => 0))), (u.2.2.2.2.2.2.2.2.2.2.2.2.2.2.1, .inl (kA 0, 36, .inl (fun _ => 0))), (u.2.2.2.2.2.2.2.2.2.2.2.2.2.2.2.1, .inl (kA 0, 36, .inl (fun _ => 0))), (u.2.2.2.2.2.2.2.2.2.2.2.2.2.2.2.2.1, .inl (kA 2, 60, .inl (fun _ => 0))), (u.2.2.2.2.2.2.2.2.2.2.2.2.2.2.2.2.2.1, .inl (kA 2, 60, .inl (fun _ => 0))), (u.2.2.2.2.2.2.2.2.2.2.2.2.2.2.2.2.2.2.1, .inl (kA 0, 6, .inl (fun _ => 0))), (u.2.2.2.2.2.2.2.2.2.2.2.2.2.2.2.2.2.2.2.1, .inl (kA 0, 6, .inl (fun _ => 0))), (u.2.2.2.2.2.2.2.2.2.2.2.2.2.2.2.2.2.2.2.2.1, .inl (kA 0, 6, .inl (fun _ => 0))), (u.2.2.2.2.2.2.2.2.2.2.2.2.2.2.2.2.2.2.2.2.2.1, .inl (kA 0, 72, .inl (fun _ => 0))), (u.2.2.2.2.2.2.2.2.2.2.2.2.2.2.2.2.2.2.2.2.2.2.1, .inl (kA 2, 6, .inl (fun _ => 0))), (u.2.2.2.2.2.2.2.2.2.2.2.2.2.2.2.2.2.2.2.2.2.2.2.1, .inl (kA 0, 80, .inl (fun _ => 0))), (u.2.2.2.2.2.2.2.2.2.2.2.2.2.2.2.2.2.2.2.2.2.2.2.2, .inl (kA 2, 72, .inl (fun _ => 0)))]) (va_A [(h, .inr (4, [.int 0, .int 0, .null, .int 0, .int 0, .null, .null, .int 0, .null, .null, .null, .null, .null, .null, .null, .null, .null, .null, .null, .null, .null, .null, .null, .int 0, .null, .null, .null, .null, .null, .null, .null]))] sz)) 25 1288 (va_A [(h, .inr (4, [.int 0, .int 0, .null, .int 0, .int 0, .null, .null, .int 0, .null, .null, .null, .null, .null, .null, .null, .null, .null, .null, .null, .null, .null, .null, .null, .int 0, .null, .null, .null, .null, .null, .null, .null]))] sz) := by
  refine Met.ofW (cc := xb_Mo_init) (maxL := 1) (ret := none) (by decide) rfl ?_
  intro p e s m args below meth c s₁ B hml hv
  obtain ⟨rfl, hsz, hP, hK, hD0⟩ := hv
  have hx := B.exec
  have hb := B.bytes
  have hr := B.returns
  have hT := x_hT B.pre
  have hown : s.vm.findClass xR_Mo = some m.cls := findClass_of_methodNamed B.named
  have hlocks := B.notSynchronized
  have hin : meth.name = "<init>" := (name_of_methodNamed B.named B.method).1
  subst hsz
  have hD := hD0.self (sz := s.heap.size)
  generalize hAe : va_A [(h, .inr (4, [.int 0, .int 0, .null, .int 0, .int 0, .null, .null, .int 0, .null, .null, .null, .null, .null, .null, .null, .null, .null, .null, .null, .null, .null, .null, .null, .int 0, .null, .null, .null, .null, .null, .null, .null]))] s.heap.size = A at hD ⊢
  have hA : ∀ q : Nat, s.heap.size ≤ q → A q := fun q h => by rw [← hAe]; exact Or.inr h
  have hS : va_S A s.heap s.heap [] := va_S.rf
  have hP : va_P D xcl [(h, .inr (4, [.int 0, .int 0, .null, .int 0, .int 0, .null, .null, .int 0, .null, .null, .null, .null, .null, .null, .null, .null, .null, .null, .null, .null, .null, .null, .null, .int 0, .null, .null, .null, .null, .null, .null, .null]))] s.heap := hP
  have hl := lv_entry ([.ref h]) (n := 1) (Nat.le_of_ble_eq_true rfl)
  rw [lg_entry_eq]
  generalize (lg_sl ([.ref h]) ++ List.replicate (1 - (lg_sl ([.ref h])).length) Slot.unset).toArray = ls at hl ⊢
  have hl : lv_has ls 1 [(0, .ref h)] := hl
  refine lv_aload_n hx hb xd_Mo_init_0 rfl (lv_at hl 0 rfl) ?_
  refine W.objInit hx hb hown (hT _ xk_45) (hT _ xk_1) (hT _ xk_2) rfl (by rw [hml]; exact hl.1) rfl xd_Mo_init_1 (Nat.le_of_ble_eq_true rfl) (Nat.le_of_ble_eq_true rfl) ?_
  refine W.eq (g2 := F0 m 4 ls []) rfl ?_
  refine lv_aload_n hx hb xd_Mo_init_4 rfl (lv_at hl 0 rfl) ?_
  refine lv_bipush (v := 40) hx hb xd_Mo_init_5 (by decide) ?_
  refine xa_newa (atype := .char) (a0 := (40, Sum.inl (fun _ => 0))) (ty := .char) (N' := 40) hx hb (hT _ xk_3) rfl (fun _ h9 => h9) hK.1 1 rfl hP hD hS hA (fun _ => rfl) (by decide) rfl (by decide) (Nat.le_of_ble_eq_true rfl) (Nat.le_of_ble_eq_true rfl) xd_Mo_init_7 (fun q1 H hP hD hS => ?_)
  have hP : va_P D xcl [(h, .inr (4, [.int 0, .int 0, .null, .int 0, .int 0, .null, .null, .int 0, .null, .null, .null, .null, .null, .null, .null, .null, .null, .null, .null, .null, .null, .null, .null, .int 0, .null, .null, .null, .null, .null, .null, .null])), (q1, .inl (kA 1, 40, .inl (fun _ => 0)))] H := hP
  have hD : va_D A [(h, .inr (4, [.int 0, .int 0, .null, .int 0, .int 0, .null, .null, .int 0, .null, .null, .null, .null, .null, .null, .null, .null, .null, .null, .null, .null, .null, .null, .null, .int 0, .null, .null, .null, .null, .null, .null, .null])), (q1, .inl (kA 1, 40, .inl (fun _ => 0)))] := hD
  refine va_putF (D := D) (ci := 4) (v := .ref q1) (ty := .array .char) (C := xR_Mo) (T := xT_Mo) (N := 31) hx hb hT xi_Mo xt_Mo xt_Mo_ok xn_Mo hown hK.1 hP hD hS 0 rfl rfl 2 (by decide) (hT _ xk_46) (fun _ h9 => h9) rfl hin rfl (by decide +kernel) rfl rfl (Nat.le_of_ble_eq_true rfl) xd_Mo_init_9 (fun H locs hP hD hS => ?_)
  have hP : va_P D xcl [(h, .inr (4, [.int 0, .int 0, .ref q1, .int 0, .int 0, .null, .null, .int 0, .null, .null, .null, .null, .null, .null, .null, .null, .null, .null, .null, .null, .null, .null, .null, .int 0, .null, .null, .null, .null, .null, .null, .null])), (q1, .inl (kA 1, 40, .inl (fun _ => 0)))] H := hP
  have hD : va_D A [(h, .inr (4, [.int 0, .int 0, .ref q1, .int 0, .int 0, .null, .null, .int 0, .null, .null, .null, .null, .null, .null, .null, .null, .null, .null, .null, .null, .null, .null, .null, .int 0, .null, .null, .null, .null, .null, .null, .null])), (q1, .inl (kA 1, 40, .inl (fun _ => 0)))] := hD
  refine lv_aload_n hx hb xd_Mo_init_12 rfl (lv_at hl 0 rfl) ?_
  refine lv_bipush (v := 20) hx hb xd_Mo_init_13 (by decide) ?_
  refine xa_newa (atype := .int) (a0 := (20, Sum.inl (fun _ => 0))) (ty := .int) (N' := 20) hx hb (hT _ xk_5) rfl (fun _ h9 => h9) hK.1 0 rfl hP hD hS hA (fun _ => rfl) (by decide) rfl (by decide) (Nat.le_of_ble_eq_true rfl) (Nat.le_of_ble_eq_true rfl) xd_Mo_init_15 (fun q2 H hP hD hS => ?_)
  have hP : va_P D xcl [(h, .inr (4, [.int 0, .int 0, .ref q1, .int 0, .int 0, .null, .null, .int 0, .null, .null, .null, .null, .null, .null, .null, .null, .null, .null, .null, .null, .null, .null, .null, .int 0, .null, .null, .null, .null, .null, .null, .null])), (q1, .inl (kA 1, 40, .inl (fun _ => 0))), (q2, .inl (kA 0, 20, .inl (fun _ => 0)))] H := hP
  have hD : va_D A [(h, .inr (4, [.int 0, .int 0, .ref q1, .int 0, .int 0, .null, .null, .int 0, .null, .null, .null, .null, .null, .null, .null, .null, .null, .null, .null, .null, .null, .null, .null, .int 0, .null, .null, .null, .null, .null, .null, .null])), (q1, .inl (kA 1, 40, .inl (fun _ => 0))), (q2, .inl (kA 0, 20, .inl (fun _ => 0)))] := hD
  refine va_putF (D := D) (ci := 4) (v := .ref q2) (ty := .array .int) (C := xR_Mo) (T := xT_Mo) (N := 31) hx hb hT xi_Mo xt_Mo xt_Mo_ok xn_Mo hown hK.1 hP hD hS 0 rfl rfl 5 (by decide) (hT _ xk_47) (fun _ h9 => h9) rfl hin rfl (by decide +kernel) rfl rfl (Nat.le_of_ble_eq_true rfl) xd_Mo_init_17 (fun H locs hP hD hS => ?_)
  have hP : va_P D xcl [(h, .inr (4, [.int 0, .int 0, .ref q1, .int 0, .int 0, .ref q2, .null, .int 0, .null, .null, .null, .null, .null, .null, .null, .null, .null, .null, .null, .null, .null, .null, .null, .int 0, .null, .null, .null, .null, .null, .null, .null])), (q1, .inl (kA 1, 40, .inl (fun _ => 0))), (q2, .inl (kA 0, 20, .inl (fun _ => 0)))] H := hP
  have hD : va_D A [(h, .inr (4, [.int 0, .int 0, .ref q1, .int 0, .int 0, .ref q2, .null, .int 0, .null, .null, .null, .null, .null, .null, .null, .null, .null, .null, .null, .null, .null, .null, .null, .int 0, .null, .null, .null, .null, .null, .null, .null])), (q1, .inl (kA 1, 40, .inl (fun _ => 0))), (q2, .inl (kA 0, 20, .inl (fun _ => 0)))] := hD
  refine lv_aload_n hx hb xd_Mo_init_20 rfl (lv_at hl 0 rfl) ?_
  refine lv_bipush (v := 20) hx hb xd_Mo_init_21 (by decide) ?_
  refine xa_newa (atype := .int) (a0 := (20, Sum.inl (fun _ => 0))) (ty := .int) (N' := 20) hx hb (hT _ xk_5) rfl (fun _ h9 => h9) hK.1 0 rfl hP hD hS hA (fun _ => rfl) (by decide) rfl (by decide) (Nat.le_of_ble_eq_true rfl) (Nat.le_of_ble_eq_true rfl) xd_Mo_init_23 (fun q3 H hP hD hS => ?_)
  have hP : va_P D xcl [(h, .inr (4, [.int 0, .int 0, .ref q1, .int 0, .int 0, .ref q2, .null, .int 0, .null, .null, .null, .null, .null, .null, .null, .null, .null, .null, .null, .null, .null, .null, .null, .int 0, .null, .null, .null, .null, .null, .null, .null])), (q1, .inl (kA 1, 40, .inl (fun _ => 0))), (q2, .inl (kA 0, 20, .inl (fun _ => 0))), (q3, .inl (kA 0, 20, .inl (fun _ => 0)))] H := hP
  have hD : va_D A [(h, .inr (4, [.int 0, .int 0, .ref q1, .int 0, .int 0, .ref q2, .null, .int 0, .null, .null, .null, .null, .null, .null, .null, .null, .null, .null, .null, .null, .null, .null, .null, .int 0, .null, .null, .null, .null, .null, .null, .null])), (q1, .inl (kA 1, 40, .inl (fun _ => 0))), (q2, .inl (kA 0, 20, .inl (fun _ => 0))), (q3, .inl (kA 0, 20, .inl (fun _ => 0)))] := hD
  refine va_putF (D := D) (ci := 4) (v := .ref q3) (ty := .array .int) (C := xR_Mo) (T := xT_Mo) (N := 31) hx hb hT xi_Mo xt_Mo xt_Mo_ok xn_Mo hown hK.1 hP hD hS 0 rfl rfl 6 (by decide) (hT _ xk_48) (fun _ h9 => h9) rfl hin rfl (by decide +kernel) rfl rfl (Nat.le_of_ble_eq_true rfl) xd_Mo_init_25 (fun H locs hP hD hS => ?_)
  have hP : va_P D xcl [(h, .inr (4, [.int 0, .int 0, .ref q1, .int 0, .int 0, .ref q2, .ref q3, .int 0, .null, .null, .null, .null, .null, .null, .null, .null, .null, .null, .null, .null, .null, .null, .null, .int 0, .null, .null, .null, .null, .null, .null, .null])), (q1, .inl (kA 1, 40, .inl (fun _ => 0))), (q2, .inl (kA 0, 20, .inl (fun _ => 0))), (q3, .inl (kA 0, 20, .inl (fun _ => 0)))] H := hP
  have hD : va_D A [(h, .inr (4, [.int 0, .int 0, .ref q1, .int 0, .int 0, .ref q2, .ref q3, .int 0, .null, .null, .null, .null, .null, .null, .null, .null, .null, .null, .null, .null, .null, .null, .null, .int 0, .null, .null, .null, .null, .null, .null, .null])), (q1, .inl (kA 1, 40, .inl (fun _ => 0))), (q2, .inl (kA 0, 20, .inl (fun _ => 0))), (q3, .inl (kA 0, 20, .inl (fun _ => 0)))] := hD
  refine lv_aload_n hx hb xd_Mo_init_28 rfl (lv_at hl 0 rfl) ?_
  refine lv_bipush (v := 12) hx hb xd_Mo_init_29 (by decide) ?_
  refine xa_newa (atype := .int) (a0 := (12, Sum.inl (fun _ => 0))) (ty := .int) (N' := 12) hx hb (hT _ xk_5) rfl (fun _ h9 => h9) hK.1 0 rfl hP hD hS hA (fun _ => rfl) (by decide) rfl (by decide) (Nat.le_of_ble_eq_true rfl) (Nat.le_of_ble_eq_true rfl) xd_Mo_init_31 (fun q4 H hP hD hS => ?_)
  have hP : va_P D xcl [(h, .inr (4, [.int 0, .int 0, .ref q1, .int 0, .int 0, .ref q2, .ref q3, .int 0, .null, .null, .null, .null, .null, .null, .null, .null, .null, .null, .null, .null, .null, .null, .null, .int 0, .null, .null, .null, .null, .null, .null, .null])), (q1, .inl (kA 1, 40, .inl (fun _ => 0))), (q2, .inl (kA 0, 20, .inl (fun _ => 0))), (q3, .inl (kA 0, 20, .inl (fun _ => 0))), (q4, .inl (kA 0, 12, .inl (fun _ => 0)))] H := hP
  have hD : va_D A [(h, .inr (4, [.int 0, .int 0, .ref q1, .int 0, .int 0, .ref q2, .ref q3, .int 0, .null, .null, .null, .null, .null, .null, .null, .null, .null, .null, .null, .null, .null, .null, .null, .int 0, .null, .null, .null, .null, .null, .null, .null])), (q1, .inl (kA 1, 40, .inl (fun _ => 0))), (q2, .inl (kA 0, 20, .inl (fun _ => 0))), (q3, .inl (kA 0, 20, .inl (fun _ => 0))), (q4, .inl (kA 0, 12, .inl (fun _ => 0)))] := hD
  refine va_putF (D := D) (ci := 4) (v := .ref q4) (ty := .array .int) (C := xR_Mo) (T := xT_Mo) (N := 31) hx hb hT xi_Mo xt_Mo xt_Mo_ok xn_Mo hown hK.1 hP hD hS 0 rfl rfl 8 (by decide) (hT _ xk_49) (fun _ h9 => h9) rfl hin rfl (by decide +kernel) rfl rfl (Nat.le_of_ble_eq_true rfl) xd_Mo_init_33 (fun H locs hP hD hS => ?_)
  have hP : va_P D xcl [(h, .inr (4, [.int 0, .int 0, .ref q1, .int 0, .int 0, .ref q2, .ref q3, .int 0, .ref q4, .null, .null, .null, .null, .null, .null, .null, .null, .null, .null, .null, .null, .null, .null, .int 0, .null, .null, .null, .null, .null, .null, .null])), (q1, .inl (kA 1, 40, .inl (fun _ => 0))), (q2, .inl (kA 0, 20, .inl (fun _ => 0))), (q3, .inl (kA 0, 20, .inl (fun _ => 0))), (q4, .inl (kA 0, 12, .inl (fun _ => 0)))] H := hP
  have hD : va_D A [(h, .inr (4, [.int 0, .int 0, .ref q1, .int 0, .int 0, .ref q2, .ref q3, .int 0, .ref q4, .null, .null, .null, .null, .null, .null, .null, .null, .null, .null, .null, .null, .null, .null, .int 0, .null, .null, .null, .null, .null, .null, .null])), (q1, .inl (kA 1, 40, .inl (fun _ => 0))), (q2, .inl (kA 0, 20, .inl (fun _ => 0))), (q3, .inl (kA 0, 20, .inl (fun _ => 0))), (q4, .inl (kA 0, 12, .inl (fun _ => 0)))] := hD
  refine lv_aload_n hx hb xd_Mo_init_36 rfl (lv_at hl 0 rfl) ?_
  refine lv_bipush (v := 12) hx hb xd_Mo_init_37 (by decide) ?_
  refine xa_newa (atype := .int) (a0 := (12, Sum.inl (fun _ => 0))) (ty := .int) (N' := 12) hx hb (hT _ xk_5) rfl (fun _ h9 => h9) hK.1 0 rfl hP hD hS hA (fun _ => rfl) (by decide) rfl (by decide) (Nat.le_of_ble_eq_true rfl) (Nat.le_of_ble_eq_true rfl) xd_Mo_init_39 (fun q5 H hP hD hS => ?_)
  have hP : va_P D xcl [(h, .inr (4, [.int 0, .int 0, .ref q1, .int 0, .int 0, .ref q2, .ref q3, .int 0, .ref q4, .null, .null, .null, .null, .null, .null, .null, .null, .null, .null, .null, .null, .null, .null, .int 0, .null, .null, .null, .null, .null, .null, .null])), (q1, .inl (kA 1, 40, .inl (fun _ => 0))), (q2, .inl (kA 0, 20, .inl (fun _ => 0))), (q3, .inl (kA 0, 20, .inl (fun _ => 0))), (q4, .inl (kA 0, 12, .inl (fun _ => 0))), (q5, .inl (kA 0, 12, .inl (fun _ => 0)))] H := hP
  have hD : va_D A [(h, .inr (4, [.int 0, .int 0, .ref q1, .int 0, .int 0, .ref q2, .ref q3, .int 0, .ref q4, .null, .null, .null, .null, .null, .null, .null, .null, .null, .null, .null, .null, .null, .null, .int 0, .null, .null, .null, .null, .null, .null, .null])), (q1, .inl (kA 1, 40, .inl (fun _ => 0))), (q2, .inl (kA 0, 20, .inl (fun _ => 0))), (q3, .inl (kA 0, 20, .inl (fun _ => 0))), (q4, .inl (kA 0, 12, .inl (fun _ => 0))), (q5, .inl (kA 0, 12, .inl (fun _ => 0)))] := hD
  refine va_putF (D := D) (ci := 4) (v := .ref q5) (ty := .array .int) (C := xR_Mo) (T := xT_Mo) (N := 31) hx hb hT xi_Mo xt_Mo xt_Mo_ok xn_Mo hown hK.1 hP hD hS 0 rfl rfl 9 (by decide) (hT _ xk_50) (fun _ h9 => h9) rfl hin rfl (by decide +kernel) rfl rfl (Nat.le_of_ble_eq_true rfl) xd_Mo_init_41 (fun H locs hP hD hS => ?_)
  have hP : va_P D xcl [(h, .inr (4, [.int 0, .int 0, .ref q1, .int 0, .int 0, .ref q2, .ref q3, .int 0, .ref q4, .ref q5, .null, .null, .null, .null, .null, .null, .null, .null, .null, .null, .null, .null, .null, .int 0, .null, .null, .null, .null, .null, .null, .null])), (q1, .inl (kA 1, 40, .inl (fun _ => 0))), (q2, .inl (kA 0, 20, .inl (fun _ => 0))), (q3, .inl (kA 0, 20, .inl (fun _ => 0))), (q4, .inl (kA 0, 12, .inl (fun _ => 0))), (q5, .inl (kA 0, 12, .inl (fun _ => 0)))] H := hP
  have hD : va_D A [(h, .inr (4, [.int 0, .int 0, .ref q1, .int 0, .int 0, .ref q2, .ref q3, .int 0, .ref q4, .ref q5, .null, .null, .null, .null, .null, .null, .null, .null, .null, .null, .null, .null, .null, .int 0, .null, .null, .null, .null, .null, .null, .null])), (q1, .inl (kA 1, 40, .inl (fun _ => 0))), (q2, .inl (kA 0, 20, .inl (fun _ => 0))), (q3, .inl (kA 0, 20, .inl (fun _ => 0))), (q4, .inl (kA 0, 12, .inl (fun _ => 0))), (q5, .inl (kA 0, 12, .inl (fun _ => 0)))] := hD
  refine lv_aload_n hx hb xd_Mo_init_44 rfl (lv_at hl 0 rfl) ?_
  refine lv_bipush (v := 12) hx hb xd_Mo_init_45 (by decide) ?_
  refine xa_newa (atype := .int) (a0 := (12, Sum.inl (fun _ => 0))) (ty := .int) (N' := 12) hx hb (hT _ xk_5) rfl (fun _ h9 => h9) hK.1 0 rfl hP hD hS hA (fun _ => rfl) (by decide) rfl (by decide) (Nat.le_of_ble_eq_true rfl) (Nat.le_of_ble_eq_true rfl) xd_Mo_init_47 (fun q6 H hP hD hS => ?_)
  have hP : va_P D xcl [(h, .inr (4, [.int 0, .int 0, .ref q1, .int 0, .int 0, .ref q2, .ref q3, .int 0, .ref q4, .ref q5, .null, .null, .null, .null, .null, .null, .null, .null, .null, .null, .null, .null, .null, .int 0, .null, .null, .null, .null, .null, .null, .null])), (q1, .inl (kA 1, 40, .inl (fun _ => 0))), (q2, .inl (kA 0, 20, .inl (fun _ => 0))), (q3, .inl (kA 0, 20, .inl (fun _ => 0))), (q4, .inl (kA 0, 12, .inl (fun _ => 0))), (q5, .inl (kA 0, 12, .inl (fun _ => 0))), (q6, .inl (kA 0, 12, .inl (fun _ => 0)))] H := hP
  have hD : va_D A [(h, .inr (4, [.int 0, .int 0, .ref q1, .int 0, .int 0, .ref q2, .ref q3, .int 0, .ref q4, .ref q5, .null, .null, .null, .null, .null, .null, .null, .null, .null, .null, .null, .null, .null, .int 0, .null, .null, .null, .null, .null, .null, .null])), (q1, .inl (kA 1, 40, .inl (fun _ => 0))), (q2, .inl (kA 0, 20, .inl (fun _ => 0))), (q3, .inl (kA 0, 20, .inl (fun _ => 0))), (q4, .inl (kA 0, 12, .inl (fun _ => 0))), (q5, .inl (kA 0, 12, .inl (fun _ => 0))), (q6, .inl (kA 0, 12, .inl (fun _ => 0)))] := hD
  refine va_putF (D := D) (ci := 4) (v := .ref q6) (ty := .array .int) (C := xR_Mo) (T := xT_Mo) (N := 31) hx hb hT xi_Mo xt_Mo xt_Mo_ok xn_Mo hown hK.1 hP hD hS 0 rfl rfl 10 (by decide) (hT _ xk_51) (fun _ h9 => h9) rfl hin rfl (by decide +kernel) rfl rfl (Nat.le_of_ble_eq_true rfl) xd_Mo_init_49 (fun H locs hP hD hS => ?_)
  have hP : va_P D xcl [(h, .inr (4, [.int 0, .int 0, .ref q1, .int 0, .int 0, .ref q2, .ref q3, .int 0, .ref q4, .ref q5, .ref q6, .null, .null, .null, .null, .null, .null, .null, .null, .null, .null, .null, .null, .int 0, .null, .null, .null, .null, .null, .null, .null])), (q1, .inl (kA 1, 40, .inl (fun _ => 0))), (q2, .inl (kA 0, 20, .inl (fun _ => 0))), (q3, .inl (kA 0, 20, .inl (fun _ => 0))), (q4, .inl (kA 0, 12, .inl (fun _ => 0))), (q5, .inl (kA 0, 12, .inl (fun _ => 0))), (q6, .inl (kA 0, 12, .inl (fun _ => 0)))] H := hP
  have hD : va_D A [(h, .inr (4, [.int 0, .int 0, .ref q1, .int 0, .int 0, .ref q2, .ref q3, .int 0, .ref q4, .ref q5, .ref q6, .null, .null, .null, .null, .null, .null, .null, .null, .null, .null, .null, .null, .int 0, .null, .null, .null, .null, .null, .null, .null])), (q1, .inl (kA 1, 40, .inl (fun _ => 0))), (q2, .inl (kA 0, 20, .inl (fun _ => 0))), (q3, .inl (kA 0, 20, .inl (fun _ => 0))), (q4, .inl (kA 0, 12, .inl (fun _ => 0))), (q5, .inl (kA 0, 12, .inl (fun _ => 0))), (q6, .inl (kA 0, 12, .inl (fun _ => 0)))] := hD
  refine lv_aload_n hx hb xd_Mo_init_52 rfl (lv_at hl 0 rfl) ?_
  refine lv_bipush (v := 72) hx hb xd_Mo_init_53 (by decide) ?_
  refine xa_newa (atype := .int) (a0 := (72, Sum.inl (fun _ => 0))) (ty := .int) (N' := 72) hx hb (hT _ xk_5) rfl (fun _ h9 => h9) hK.1 0 rfl hP hD hS hA (fun _ => rfl) (by decide) rfl (by decide) (Nat.le_of_ble_eq_true rfl) (Nat.le_of_ble_eq_true rfl) xd_Mo_init_55 (fun q7 H hP hD hS => ?_)
  have hP : va_P D xcl [(h, .inr (4, [.int 0, .int 0, .ref q1, .int 0, .int 0, .ref q2, .ref q3, .int 0, .ref q4, .ref q5, .ref q6, .null, .null, .null, .null, .null, .null, .null, .null, .null, .null, .null, .null, .int 0, .null, .null, .null, .null, .null, .null, .null])), (q1, .inl (kA 1, 40, .inl (fun _ => 0))), (q2, .inl (kA 0, 20, .inl (fun _ => 0))), (q3, .inl (kA 0, 20, .inl (fun _ => 0))), (q4, .inl (kA 0, 12, .inl (fun _ => 0))), (q5, .inl (kA 0, 12, .inl (fun _ => 0))), (q6, .inl (kA 0, 12, .inl (fun _ => 0))), (q7, .inl (kA 0, 72, .inl (fun _ => 0)))] H := hP
  have hD : va_D A [(h, .inr (4, [.int 0, .int 0, .ref q1, .int 0, .int 0, .ref q2, .ref q3, .int 0, .ref q4, .ref q5, .ref q6, .null, .null, .null, .null, .null, .null, .null, .null, .null, .null, .null, .null, .int 0, .null, .null, .null, .null, .null, .null, .null])), (q1, .inl (kA 1, 40, .inl (fun _ => 0))), (q2, .inl (kA 0, 20, .inl (fun _ => 0))), (q3, .inl (kA 0, 20, .inl (fun _ => 0))), (q4, .inl (kA 0, 12, .inl (fun _ => 0))), (q5, .inl (kA 0, 12, .inl (fun _ => 0))), (q6, .inl (kA 0, 12, .inl (fun _ => 0))), (q7, .inl (kA 0, 72, .inl (fun _ => 0)))] := hD
  refine va_putF (D := D) (ci := 4) (v := .ref q7) (ty := .array .int) (C := xR_Mo) (T := xT_Mo) (N := 31) hx hb hT xi_Mo xt_Mo xt_Mo_ok xn_Mo hown hK.1 hP hD hS 0 rfl rfl 11 (by decide) (hT _ xk_52) (fun _ h9 => h9) rfl hin rfl (by decide +kernel) rfl rfl (Nat.le_of_ble_eq_true rfl) xd_Mo_init_57 (fun H locs hP hD hS => ?_)
  have hP : va_P D xcl [(h, .inr (4, [.int 0, .int 0, .ref q1, .int 0, .int 0, .ref q2, .ref q3, .int 0, .ref q4, .ref q5, .ref q6, .ref q7, .null, .null, .null, .null, .null, .null, .null, .null, .null, .null, .null, .int 0, .null, .null, .null, .null, .null, .null, .null])), (q1, .inl (kA 1, 40, .inl (fun _ => 0))), (q2, .inl (kA 0, 20, .inl (fun _ => 0))), (q3, .inl (kA 0, 20, .inl (fun _ => 0))), (q4, .inl (kA 0, 12, .inl (fun _ => 0))), (q5, .inl (kA 0, 12, .inl (fun _ => 0))), (q6, .inl (kA 0, 12, .inl (fun _ => 0))), (q7, .inl (kA 0, 72, .inl (fun _ => 0)))] H := hP
  have hD : va_D A [(h, .inr (4, [.int 0, .int 0, .ref q1, .int 0, .int 0, .ref q2, .ref q3, .int 0, .ref q4, .ref q5, .ref q6, .ref q7, .null, .null, .null, .null, .null, .null, .null, .null, .null, .null, .null, .int 0, .null, .null, .null, .null, .null, .null, .null])), (q1, .inl (kA 1, 40, .inl (fun _ => 0))), (q2, .inl (kA 0, 20, .inl (fun _ => 0))), (q3, .inl (kA 0, 20, .inl (fun _ => 0))), (q4, .inl (kA 0, 12, .inl (fun _ => 0))), (q5, .inl (kA 0, 12, .inl (fun _ => 0))), (q6, .inl (kA 0, 12, .inl (fun _ => 0))), (q7, .inl (kA 0, 72, .inl (fun _ => 0)))] := hD
  refine lv_aload_n hx hb xd_Mo_init_60 rfl (lv_at hl 0 rfl) ?_
  refine lv_sipush (v := 216) hx hb xd_Mo_init_61 (by decide) ?_
  refine xa_newa (atype := .int) (a0 := (216, Sum.inl (fun _ => 0))) (ty := .int) (N' := 216) hx hb (hT _ xk_5) rfl (fun _ h9 => h9) hK.1 0 rfl hP hD hS hA (fun _ => rfl) (by decide) rfl (by decide) (Nat.le_of_ble_eq_true rfl) (Nat.le_of_ble_eq_true rfl) xd_Mo_init_64 (fun q8 H hP hD hS => ?_)
  have hP : va_P D xcl [(h, .inr (4, [.int 0, .int 0, .ref q1, .int 0, .int 0, .ref q2, .ref q3, .int 0, .ref q4, .ref q5, .ref q6, .ref q7, .null, .null, .null, .null, .null, .null, .null, .null, .null, .null, .null, .int 0, .null, .null, .null, .null, .null, .null, .null])), (q1, .inl (kA 1, 40, .inl (fun _ => 0))), (q2, .inl (kA 0, 20, .inl (fun _ => 0))), (q3, .inl (kA 0, 20, .inl (fun _ => 0))), (q4, .inl (kA 0, 12, .inl (fun _ => 0))), (q5, .inl (kA 0, 12, .inl (fun _ => 0))), (q6, .inl (kA 0, 12, .inl (fun _ => 0))), (q7, .inl (kA 0, 72, .inl (fun _ => 0))), (q8, .inl (kA 0, 216, .inl (fun _ => 0)))] H := hP
  have hD : va_D A [(h, .inr (4, [.int 0, .int 0, .ref q1, .int 0, .int 0, .ref q2, .ref q3, .int 0, .ref q4, .ref q5, .ref q6, .ref q7, .null, .null, .null, .null, .null, .null, .null, .null, .null, .null, .null, .int 0, .null, .null, .null, .null, .null, .null, .null])), (q1, .inl (kA 1, 40, .inl (fun _ => 0))), (q2, .inl (kA 0, 20, .inl (fun _ => 0))), (q3, .inl (kA 0, 20, .inl (fun _ => 0))), (q4, .inl (kA 0, 12, .inl (fun _ => 0))), (q5, .inl (kA 0, 12, .inl (fun _ => 0))), (q6, .inl (kA 0, 12, .inl (fun _ => 0))), (q7, .inl (kA 0, 72, .inl (fun _ => 0))), (q8, .inl (kA 0, 216, .inl (fun _ => 0)))] := hD
  refine va_putF (D := D) (ci := 4) (v := .ref q8) (ty := .array .int) (C := xR_Mo) (T := xT_Mo) (N := 31) hx hb hT xi_Mo xt_Mo xt_Mo_ok xn_Mo hown hK.1 hP hD hS 0 rfl rfl 12 (by decide) (hT _ xk_53) (fun _ h9 => h9) rfl hin rfl (by decide +kernel) rfl rfl (Nat.le_of_ble_eq_true rfl) xd_Mo_init_66 (fun H locs hP hD hS => ?_)
  have hP : va_P D xcl [(h, .inr (4, [.int 0, .int 0, .ref q1, .int 0, .int 0, .ref q2, .ref q3, .int 0, .ref q4, .ref q5, .ref q6, .ref q7, .ref q8, .null, .null, .null, .null, .null, .null, .null, .null, .null, .null, .int 0, .null, .null, .null, .null, .null, .null, .null])), (q1, .inl (kA 1, 40, .inl (fun _ => 0))), (q2, .inl (kA 0, 20, .inl (fun _ => 0))), (q3, .inl (kA 0, 20, .inl (fun _ => 0))), (q4, .inl (kA 0, 12, .inl (fun _ => 0))), (q5, .inl (kA 0, 12, .inl (fun _ => 0))), (q6, .inl (kA 0, 12, .inl (fun _ => 0))), (q7, .inl (kA 0, 72, .inl (fun _ => 0))), (q8, .inl (kA 0, 216, .inl (fun _ => 0)))] H := hP
  have hD : va_D A [(h, .inr (4, [.int 0, .int 0, .ref q1, .int 0, .int 0, .ref q2, .ref q3, .int 0, .ref q4, .ref q5, .ref q6, .ref q7, .ref q8, .null, .null, .null, .null, .null, .null, .null, .null, .null, .null, .int 0, .null, .null, .null, .null, .null, .null, .null])), (q1, .inl (kA 1, 40, .inl (fun _ => 0))), (q2, .inl (kA 0, 20, .inl (fun _ => 0))), (q3, .inl (kA 0, 20, .inl (fun _ => 0))), (q4, .inl (kA 0, 12, .inl (fun _ => 0))), (q5, .inl (kA 0, 12, .inl (fun _ => 0))), (q6, .inl (kA 0, 12, .inl (fun _ => 0))), (q7, .inl (kA 0, 72, .inl (fun _ => 0))), (q8, .inl (kA 0, 216, .inl (fun _ => 0)))] := hD
  refine lv_aload_n hx hb xd_Mo_init_69 rfl (lv_at hl 0 rfl) ?_
  refine lv_sipush (v := 216) hx hb xd_Mo_init_70 (by decide) ?_
  refine xa_newa (atype := .int) (a0 := (216, Sum.inl (fun _ => 0))) (ty := .int) (N' := 216) hx hb (hT _ xk_5) rfl (fun _ h9 => h9) hK.1 0 rfl hP hD hS hA (fun _ => rfl) (by decide) rfl (by decide) (Nat.le_of_ble_eq_true rfl) (Nat.le_of_ble_eq_true rfl) xd_Mo_init_73 (fun q9 H hP hD hS => ?_)
  have hP : va_P D xcl [(h, .inr (4, [.int 0, .int 0, .ref q1, .int 0, .int 0, .ref q2, .ref q3, .int 0, .ref q4, .ref q5, .ref q6, .ref q7, .ref q8, .null, .null, .null, .null, .null, .null, .null, .null, .null, .null, .int 0, .null, .null, .null, .null, .null, .null, .null])), (q1, .inl (kA 1, 40, .inl (fun _ => 0))), (q2, .inl (kA 0, 20, .inl (fun _ => 0))), (q3, .inl (kA 0, 20, .inl (fun _ => 0))), (q4, .inl (kA 0, 12, .inl (fun _ => 0))), (q5, .inl (kA 0, 12, .inl (fun _ => 0))), (q6, .inl (kA 0, 12, .inl (fun _ => 0))), (q7, .inl (kA 0, 72, .inl (fun _ => 0))), (q8, .inl (kA 0, 216, .inl (fun _ => 0))), (q9, .inl (kA 0, 216, .inl (fun _ => 0)))] H := hP
  have hD : va_D A [(h, .inr (4, [.int 0, .int 0, .ref q1, .int 0, .int 0, .ref q2, .ref q3, .int 0, .ref q4, .ref q5, .ref q6, .ref q7, .ref q8, .null, .null, .null, .null, .null, .null, .null, .null, .null, .null, .int 0, .null, .null, .null, .null, .null, .null, .null])), (q1, .inl (kA 1, 40, .inl (fun _ => 0))), (q2, .inl (kA 0, 20, .inl (fun _ => 0))), (q3, .inl (kA 0, 20, .inl (fun _ => 0))), (q4, .inl (kA 0, 12, .inl (fun _ => 0))), (q5, .inl (kA 0, 12, .inl (fun _ => 0))), (q6, .inl (kA 0, 12, .inl (fun _ => 0))), (q7, .inl (kA 0, 72, .inl (fun _ => 0))), (q8, .inl (kA 0, 216, .inl (fun _ => 0))), (q9, .inl (kA 0, 216, .inl (fun _ => 0)))] := hD
  refine va_putF (D := D) (ci := 4) (v := .ref q9) (ty := .array .int) (C := xR_Mo) (T := xT_Mo) (N := 31) hx hb hT xi_Mo xt_Mo xt_Mo_ok xn_Mo hown hK.1 hP hD hS 0 rfl rfl 13 (by decide) (hT _ xk_54) (fun _ h9 => h9) rfl hin rfl (by decide +kernel) rfl rfl (Nat.le_of_ble_eq_true rfl) xd_Mo_init_75 (fun H locs hP hD hS => ?_)
  have hP : va_P D xcl [(h, .inr (4, [.int 0, .int 0, .ref q1, .int 0, .int 0, .ref q2, .ref q3, .int 0, .ref q4, .ref q5, .ref q6, .ref q7, .ref q8, .ref q9, .null, .null, .null, .null, .null, .null, .null, .null, .null, .int 0, .null, .null, .null, .null, .null, .null, .null])), (q1, .inl (kA 1, 40, .inl (fun _ => 0))), (q2, .inl (kA 0, 20, .inl (fun _ => 0))), (q3, .inl (kA 0, 20, .inl (fun _ => 0))), (q4, .inl (kA 0, 12, .inl (fun _ => 0))), (q5, .inl (kA 0, 12, .inl (fun _ => 0))), (q6, .inl (kA 0, 12, .inl (fun _ => 0))), (q7, .inl (kA 0, 72, .inl (fun _ => 0))), (q8, .inl (kA 0, 216, .inl (fun _ => 0))), (q9, .inl (kA 0, 216, .inl (fun _ => 0)))] H := hP
  have hD : va_D A [(h, .inr (4, [.int 0, .int 0, .ref q1, .int 0, .int 0, .ref q2, .ref q3, .int 0, .ref q4, .ref q5, .ref q6, .ref q7, .ref q8, .ref q9, .null, .null, .null, .null, .null, .null, .null, .null, .null, .int 0, .null, .null, .null, .null, .null, .null, .null])), (q1, .inl (kA 1, 40, .inl (fun _ => 0))), (q2, .inl (kA 0, 20, .inl (fun _ => 0))), (q3, .inl (kA 0, 20, .inl (fun _ => 0))), (q4, .inl (kA 0, 12, .inl (fun _ => 0))), (q5, .inl (kA 0, 12, .inl (fun _ => 0))), (q6, .inl (kA 0, 12, .inl (fun _ => 0))), (q7, .inl (kA 0, 72, .inl (fun _ => 0))), (q8, .inl (kA 0, 216, .inl (fun _ => 0))), (q9, .inl (kA 0, 216, .inl (fun _ => 0)))] := hD
  refine lv_aload_n hx hb xd_Mo_init_78 rfl (lv_at hl 0 rfl) ?_
  refine lv_bipush (v := 72) hx hb xd_Mo_init_79 (by decide) ?_
  refine xa_newa (atype := .boolean) (a0 := (72, Sum.inl (fun _ => 0))) (ty := .boolean) (N' := 72) hx hb (hT _ xk_55) rfl (fun _ h9 => h9) hK.1 2 rfl hP hD hS hA (fun _ => rfl) (by decide) rfl (by decide) (Nat.le_of_ble_eq_true rfl) (Nat.le_of_ble_eq_true rfl) xd_Mo_init_81 (fun q10 H hP hD hS => ?_)
  have hP : va_P D xcl [(h, .inr (4, [.int 0, .int 0, .ref q1, .int 0, .int 0, .ref q2, .ref q3, .int 0, .ref q4, .ref q5, .ref q6, .ref q7, .ref q8, .ref q9, .null, .null, .null, .null, .null, .null, .null, .null, .null, .int 0, .null, .null, .null, .null, .null, .null, .null])), (q1, .inl (kA 1, 40, .inl (fun _ => 0))), (q2, .inl (kA 0, 20, .inl (fun _ => 0))), (q3, .inl (kA 0, 20, .inl (fun _ => 0))), (q4, .inl (kA 0, 12, .inl (fun _ => 0))), (q5, .inl (kA 0, 12, .inl (fun _ => 0))), (q6, .inl (kA 0, 12, .inl (fun _ => 0))), (q7, .inl (kA 0, 72, .inl (fun _ => 0))), (q8, .inl (kA 0, 216, .inl (fun _ => 0))), (q9, .inl (kA 0, 216, .inl (fun _ => 0))), (q10, .inl (kA 2, 72, .inl (fun _ => 0)))] H := hP
  have hD : va_D A [(h, .inr (4, [.int 0, .int 0, .ref q1, .int 0, .int 0, .ref q2, .ref q3, .int 0, .ref q4, .ref q5, .ref q6, .ref q7, .ref q8, .ref q9, .null, .null, .null, .null, .null, .null, .null, .null, .null, .int 0, .null, .null, .null, .null, .null, .null, .null])), (q1, .inl (kA 1, 40, .inl (fun _ => 0))), (q2, .inl (kA 0, 20, .inl (fun _ => 0))), (q3, .inl (kA 0, 20, .inl (fun _ => 0))), (q4, .inl (kA 0, 12, .inl (fun _ => 0))), (q5, .inl (kA 0, 12, .inl (fun _ => 0))), (q6, .inl (kA 0, 12, .inl (fun _ => 0))), (q7, .inl (kA 0, 72, .inl (fun _ => 0))), (q8, .inl (kA 0, 216, .inl (fun _ => 0))), (q9, .inl (kA 0, 216, .inl (fun _ => 0))), (q10, .inl (kA 2, 72, .inl (fun _ => 0)))] := hD
  refine va_putF (D := D) (ci := 4) (v := .ref q10) (ty := .array .boolean) (C := xR_Mo) (T := xT_Mo) (N := 31) hx hb hT xi_Mo xt_Mo xt_Mo_ok xn_Mo hown hK.1 hP hD hS 0 rfl rfl 14 (by decide) (hT _ xk_56) (fun _ h9 => h9) rfl hin rfl (by decide +kernel) rfl rfl (Nat.le_of_ble_eq_true rfl) xd_Mo_init_83 (fun H locs hP hD hS => ?_)
  have hP : va_P D xcl [(h, .inr (4, [.int 0, .int 0, .ref q1, .int 0, .int 0, .ref q2, .ref q3, .int 0, .ref q4, .ref q5, .ref q6, .ref q7, .ref q8, .ref q9, .ref q10, .null, .null, .null, .null, .null, .null, .null, .null, .int 0, .null, .null, .null, .null, .null, .null, .null])), (q1, .inl (kA 1, 40, .inl (fun _ => 0))), (q2, .inl (kA 0, 20, .inl (fun _ => 0))), (q3, .inl (kA 0, 20, .inl (fun _ => 0))), (q4, .inl (kA 0, 12, .inl (fun _ => 0))), (q5, .inl (kA 0, 12, .inl (fun _ => 0))), (q6, .inl (kA 0, 12, .inl (fun _ => 0))), (q7, .inl (kA 0, 72, .inl (fun _ => 0))), (q8, .inl (kA 0, 216, .inl (fun _ => 0))), (q9, .inl (kA 0, 216, .inl (fun _ => 0))), (q10, .inl (kA 2, 72, .inl (fun _ => 0)))] H := hP
  have hD : va_D A [(h, .inr (4, [.int 0, .int 0, .ref q1, .int 0, .int 0, .ref q2, .ref q3, .int 0, .ref q4, .ref q5, .ref q6, .ref q7, .ref q8, .ref q9, .ref q10, .null, .null, .null, .null, .null, .null, .null, .null, .int 0, .null, .null, .null, .null, .null, .null, .null])), (q1, .inl (kA 1, 40, .inl (fun _ => 0))), (q2, .inl (kA 0, 20, .inl (fun _ => 0))), (q3, .inl (kA 0, 20, .inl (fun _ => 0))), (q4, .inl (kA 0, 12, .inl (fun _ => 0))), (q5, .inl (kA 0, 12, .inl (fun _ => 0))), (q6, .inl (kA 0, 12, .inl (fun _ => 0))), (q7, .inl (kA 0, 72, .inl (fun _ => 0))), (q8, .inl (kA 0, 216, .inl (fun _ => 0))), (q9, .inl (kA 0, 216, .inl (fun _ => 0))), (q10, .inl (kA 2, 72, .inl (fun _ => 0)))] := hD
  refine lv_aload_n hx hb xd_Mo_init_86 rfl (lv_at hl 0 rfl) ?_
  refine lv_bipush (v := 72) hx hb xd_Mo_init_87 (by decide) ?_
  refine xa_newa (atype := .boolean) (a0 := (72, Sum.inl (fun _ => 0))) (ty := .boolean) (N' := 72) hx hb (hT _ xk_55) rfl (fun _ h9 => h9) hK.1 2 rfl hP hD hS hA (fun _ => rfl) (by decide) rfl (by decide) (Nat.le_of_ble_eq_true rfl) (Nat.le_of_ble_eq_true rfl) xd_Mo_init_89 (fun q11 H hP hD hS => ?_)
  have hP : va_P D xcl [(h, .inr (4, [.int 0, .int 0, .ref q1, .int 0, .int 0, .ref q2, .ref q3, .int 0, .ref q4, .ref q5, .ref q6, .ref q7, .ref q8, .ref q9, .ref q10, .null, .null, .null, .null, .null, .null, .null, .null, .int 0, .null, .null, .null, .null, .null, .null, .null])), (q1, .inl (kA 1, 40, .inl (fun _ => 0))), (q2, .inl (kA 0, 20, .inl (fun _ => 0))), (q3, .inl (kA 0, 20, .inl (fun _ => 0))), (q4, .inl (kA 0, 12, .inl (fun _ => 0))), (q5, .inl (kA 0, 12, .inl (fun _ => 0))), (q6, .inl (kA 0, 12, .inl (fun _ => 0))), (q7, .inl (kA 0, 72, .inl (fun _ => 0))), (q8, .inl (kA 0, 216, .inl (fun _ => 0))), (q9, .inl (kA 0, 216, .inl (fun _ => 0))), (q10, .inl (kA 2, 72, .inl (fun _ => 0))), (q11, .inl (kA 2, 72, .inl (fun _ => 0)))] H := hP
  have hD : va_D A [(h, .inr (4, [.int 0, .int 0, .ref q1, .int 0, .int 0, .ref q2, .ref q3, .int 0, .ref q4, .ref q5, .ref q6, .ref q7, .ref q8, .ref q9, .ref q10, .null, .null, .null, .null, .null, .null, .null, .null, .int 0, .null, .null, .null, .null, .null, .null, .null])), (q1, .inl (kA 1, 40, .inl (fun _ => 0))), (q2, .inl (kA 0, 20, .inl (fun _ => 0))), (q3, .inl (kA 0, 20, .inl (fun _ => 0))), (q4, .inl (kA 0, 12, .inl (fun _ => 0))), (q5, .inl (kA 0, 12, .inl (fun _ => 0))), (q6, .inl (kA 0, 12, .inl (fun _ => 0))), (q7, .inl (kA 0, 72, .inl (fun _ => 0))), (q8, .inl (kA 0, 216, .inl (fun _ => 0))), (q9, .inl (kA 0, 216, .inl (fun _ => 0))), (q10, .inl (kA 2, 72, .inl (fun _ => 0))), (q11, .inl (kA 2, 72, .inl (fun _ => 0)))] := hD
  refine va_putF (D := D) (ci := 4) (v := .ref q11) (ty := .array .boolean) (C := xR_Mo) (T := xT_Mo) (N := 31) hx hb hT xi_Mo xt_Mo xt_Mo_ok xn_Mo hown hK.1 hP hD hS 0 rfl rfl 15 (by decide) (hT _ xk_57) (fun _ h9 => h9) rfl hin rfl (by decide +kernel) rfl rfl (Nat.le_of_ble_eq_true rfl) xd_Mo_init_91 (fun H locs hP hD hS => ?_)
  have hP : va_P D xcl [(h, .inr (4, [.int 0, .int 0, .ref q1, .int 0, .int 0, .ref q2, .ref q3, .int 0, .ref q4, .ref q5, .ref q6, .ref q7, .ref q8, .ref q9, .ref q10, .ref q11, .null, .null, .null, .null, .null, .null, .null, .int 0, .null, .null, .null, .null, .null, .null, .null])), (q1, .inl (kA 1, 40, .inl (fun _ => 0))), (q2, .inl (kA 0, 20, .inl (fun _ => 0))), (q3, .inl (kA 0, 20, .inl (fun _ => 0))), (q4, .inl (kA 0, 12, .inl (fun _ => 0))), (q5, .inl (kA 0, 12, .inl (fun _ => 0))), (q6, .inl (kA 0, 12, .inl (fun _ => 0))), (q7, .inl (kA 0, 72, .inl (fun _ => 0))), (q8, .inl (kA 0, 216, .inl (fun _ => 0))), (q9, .inl (kA 0, 216, .inl (fun _ => 0))), (q10, .inl (kA 2, 72, .inl (fun _ => 0))), (q11, .inl (kA 2, 72, .inl (fun _ => 0)))] H := hP
  have hD : va_D A [(h, .inr (4, [.int 0, .int 0, .ref q1, .int 0, .int 0, .ref q2, .ref q3, .int 0, .ref q4, .ref q5, .ref q6, .ref q7, .ref q8, .ref q9, .ref q10, .ref q11, .null, .null, .null, .null, .null, .null, .null, .int 0, .null, .null, .null, .null, .null, .null, .null])), (q1, .inl (kA 1, 40, .inl (fun _ => 0))), (q2, .inl (kA 0, 20, .inl (fun _ => 0))), (q3, .inl (kA 0, 20, .inl (fun _ => 0))), (q4, .inl (kA 0, 12, .inl (fun _ => 0))), (q5, .inl (kA 0, 12, .inl (fun _ => 0))), (q6, .inl (kA 0, 12, .inl (fun _ => 0))), (q7, .inl (kA 0, 72, .inl (fun _ => 0))), (q8, .inl (kA 0, 216, .inl (fun _ => 0))), (q9, .inl (kA 0, 216, .inl (fun _ => 0))), (q10, .inl (kA 2, 72, .inl (fun _ => 0))), (q11, .inl (kA 2, 72, .inl (fun _ => 0)))] := hD
  refine lv_aload_n hx hb xd_Mo_init_94 rfl (lv_at hl 0 rfl) ?_
  refine lv_bipush (v := 12) hx hb xd_Mo_init_95 (by decide) ?_
  refine xa_newa (atype := .boolean) (a0 := (12, Sum.inl (fun _ => 0))) (ty := .boolean) (N' := 12) hx hb (hT _ xk_55) rfl (fun _ h9 => h9) hK.1 2 rfl hP hD hS hA (fun _ => rfl) (by decide) rfl (by decide) (Nat.le_of_ble_eq_true rfl) (Nat.le_of_ble_eq_true rfl) xd_Mo_init_97 (fun q12 H hP hD hS => ?_)
  have hP : va_P D xcl [(h, .inr (4, [.int 0, .int 0, .ref q1, .int 0, .int 0, .ref q2, .ref q3, .int 0, .ref q4, .ref q5, .ref q6, .ref q7, .ref q8, .ref q9, .ref q10, .ref q11, .null, .null, .null, .null, .null, .null, .null, .int 0, .null, .null, .null, .null, .null, .null, .null])), (q1, .inl (kA 1, 40, .inl (fun _ => 0))), (q2, .inl (kA 0, 20, .inl (fun _ => 0))), (q3, .inl (kA 0, 20, .inl (fun _ => 0))), (q4, .inl (kA 0, 12, .inl (fun _ => 0))), (q5, .inl (kA 0, 12, .inl (fun _ => 0))), (q6, .inl (kA 0, 12, .inl (fun _ => 0))), (q7, .inl (kA 0, 72, .inl (fun _ => 0))), (q8, .inl (kA 0, 216, .inl (fun _ => 0))), (q9, .inl (kA 0, 216, .inl (fun _ => 0))), (q10, .inl (kA 2, 72, .inl (fun _ => 0))), (q11, .inl (kA 2, 72, .inl (fun _ => 0))), (q12, .inl (kA 2, 12, .inl (fun _ => 0)))] H := hP
  have hD : va_D A [(h, .inr (4, [.int 0, .int 0, .ref q1, .int 0, .int 0, .ref q2, .ref q3, .int 0, .ref q4, .ref q5, .ref q6, .ref q7, .ref q8, .ref q9, .ref q10, .ref q11, .null, .null, .null, .null, .null, .null, .null, .int 0, .null, .null, .null, .null, .null, .null, .null])), (q1, .inl (kA 1, 40, .inl (fun _ => 0))), (q2, .inl (kA 0, 20, .inl (fun _ => 0))), (q3, .inl (kA 0, 20, .inl (fun _ => 0))), (q4, .inl (kA 0, 12, .inl (fun _ => 0))), (q5, .inl (kA 0, 12, .inl (fun _ => 0))), (q6, .inl (kA 0, 12, .inl (fun _ => 0))), (q7, .inl (kA 0, 72, .inl (fun _ => 0))), (q8, .inl (kA 0, 216, .inl (fun _ => 0))), (q9, .inl (kA 0, 216, .inl (fun _ => 0))), (q10, .inl (kA 2, 72, .inl (fun _ => 0))), (q11, .inl (kA 2, 72, .inl (fun _ => 0))), (q12, .inl (kA 2, 12, .inl (fun _ => 0)))] := hD
  refine va_putF (D := D) (ci := 4) (v := .ref q12) (ty := .array .boolean) (C := xR_Mo) (T := xT_Mo) (N := 31) hx hb hT xi_Mo xt_Mo xt_Mo_ok xn_Mo hown hK.1 hP hD hS 0 rfl rfl 16 (by decide) (hT _ xk_58) (fun _ h9 => h9) rfl hin rfl (by decide +kernel) rfl rfl (Nat.le_of_ble_eq_true rfl) xd_Mo_init_99 (fun H locs hP hD hS => ?_)
  have hP : va_P D xcl [(h, .inr (4, [.int 0, .int 0, .ref q1, .int 0, .int 0, .ref q2, .ref q3, .int 0, .ref q4, .ref q5, .ref q6, .ref q7, .ref q8, .ref q9, .ref q10, .ref q11, .ref q12, .null, .null, .null, .null, .null, .null, .int 0, .null, .null, .null, .null, .null, .null, .null])), (q1, .inl (kA 1, 40, .inl (fun _ => 0))), (q2, .inl (kA 0, 20, .inl (fun _ => 0))), (q3, .inl (kA 0, 20, .inl (fun _ => 0))), (q4, .inl (kA 0, 12, .inl (fun _ => 0))), (q5, .inl (kA 0, 12, .inl (fun _ => 0))), (q6, .inl (kA 0, 12, .inl (fun _ => 0))), (q7, .inl (kA 0, 72, .inl (fun _ => 0))), (q8, .inl (kA 0, 216, .inl (fun _ => 0))), (q9, .inl (kA 0, 216, .inl (fun _ => 0))), (q10, .inl (kA 2, 72, .inl (fun _ => 0))), (q11, .inl (kA 2, 72, .inl (fun _ => 0))), (q12, .inl (kA 2, 12, .inl (fun _ => 0)))] H := hP
  have hD : va_D A [(h, .inr (4, [.int 0, .int 0, .ref q1, .int 0, .int 0, .ref q2, .ref q3, .int 0, .ref q4, .ref q5, .ref q6, .ref q7, .ref q8, .ref q9, .ref q10, .ref q11, .ref q12, .null, .null, .null, .null, .null, .null, .int 0, .null, .null, .null, .null, .null, .null, .null])), (q1, .inl (kA 1, 40, .inl (fun _ => 0))), (q2, .inl (kA 0, 20, .inl (fun _ => 0))), (q3, .inl (kA 0, 20, .inl (fun _ => 0))), (q4, .inl (kA 0, 12, .inl (fun _ => 0))), (q5, .inl (kA 0, 12, .inl (fun _ => 0))), (q6, .inl (kA 0, 12, .inl (fun _ => 0))), (q7, .inl (kA 0, 72, .inl (fun _ => 0))), (q8, .inl (kA 0, 216, .inl (fun _ => 0))), (q9, .inl (kA 0, 216, .inl (fun _ => 0))), (q10, .inl (kA 2, 72, .inl (fun _ => 0))), (q11, .inl (kA 2, 72, .inl (fun _ => 0))), (q12, .inl (kA 2, 12, .inl (fun _ => 0)))] := hD
  refine lv_aload_n hx hb xd_Mo_init_102 rfl (lv_at hl 0 rfl) ?_
  refine lv_bipush (v := 12) hx hb xd_Mo_init_103 (by decide) ?_
  refine xa_newa (atype := .int) (a0 := (12, Sum.inl (fun _ => 0))) (ty := .int) (N' := 12) hx hb (hT _ xk_5) rfl (fun _ h9 => h9) hK.1 0 rfl hP hD hS hA (fun _ => rfl) (by decide) rfl (by decide) (Nat.le_of_ble_eq_true rfl) (Nat.le_of_ble_eq_true rfl) xd_Mo_init_105 (fun q13 H hP hD hS => ?_)
  have hP : va_P D xcl [(h, .inr (4, [.int 0, .int 0, .ref q1, .int 0, .int 0, .ref q2, .ref q3, .int 0, .ref q4, .ref q5, .ref q6, .ref q7, .ref q8, .ref q9, .ref q10, .ref q11, .ref q12, .null, .null, .null, .null, .null, .null, .int 0, .null, .null, .null, .null, .null, .null, .null])), (q1, .inl (kA 1, 40, .inl (fun _ => 0))), (q2, .inl (kA 0, 20, .inl (fun _ => 0))), (q3, .inl (kA 0, 20, .inl (fun _ => 0))), (q4, .inl (kA 0, 12, .inl (fun _ => 0))), (q5, .inl (kA 0, 12, .inl (fun _ => 0))), (q6, .inl (kA 0, 12, .inl (fun _ => 0))), (q7, .inl (kA 0, 72, .inl (fun _ => 0))), (q8, .inl (kA 0, 216, .inl (fun _ => 0))), (q9, .inl (kA 0, 216, .inl (fun _ => 0))), (q10, .inl (kA 2, 72, .inl (fun _ => 0))), (q11, .inl (kA 2, 72, .inl (fun _ => 0))), (q12, .inl (kA 2, 12, .inl (fun _ => 0))), (q13, .inl (kA 0, 12, .inl (fun _ => 0)))] H := hP
  have hD : va_D A [(h, .inr (4, [.int 0, .int 0, .ref q1, .int 0, .int 0, .ref q2, .ref q3, .int 0, .ref q4, .ref q5, .ref q6, .ref q7, .ref q8, .ref q9, .ref q10, .ref q11, .ref q12, .null, .null, .null, .null, .null, .null, .int 0, .null, .null, .null, .null, .null, .null, .null])), (q1, .inl (kA 1, 40, .inl (fun _ => 0))), (q2, .inl (kA 0, 20, .inl (fun _ => 0))), (q3, .inl (kA 0, 20, .inl (fun _ => 0))), (q4, .inl (kA 0, 12, .inl (fun _ => 0))), (q5, .inl (kA 0, 12, .inl (fun _ => 0))), (q6, .inl (kA 0, 12, .inl (fun _ => 0))), (q7, .inl (kA 0, 72, .inl (fun _ => 0))), (q8, .inl (kA 0, 216, .inl (fun _ => 0))), (q9, .inl (kA 0, 216, .inl (fun _ => 0))), (q10, .inl (kA 2, 72, .inl (fun _ => 0))), (q11, .inl (kA 2, 72, .inl (fun _ => 0))), (q12, .inl (kA 2, 12, .inl (fun _ => 0))), (q13, .inl (kA 0, 12, .inl (fun _ => 0)))] := hD
  refine va_putF (D := D) (ci := 4) (v := .ref q13) (ty := .array .int) (C := xR_Mo) (T := xT_Mo) (N := 31) hx hb hT xi_Mo xt_Mo xt_Mo_ok xn_Mo hown hK.1 hP hD hS 0 rfl rfl 17 (by decide) (hT _ xk_59) (fun _ h9 => h9) rfl hin rfl (by decide +kernel) rfl rfl (Nat.le_of_ble_eq_true rfl) xd_Mo_init_107 (fun H locs hP hD hS => ?_)
  have hP : va_P D xcl [(h, .inr (4, [.int 0, .int 0, .ref q1, .int 0, .int 0, .ref q2, .ref q3, .int 0, .ref q4, .ref q5, .ref q6, .ref q7, .ref q8, .ref q9, .ref q10, .ref q11, .ref q12, .ref q13, .null, .null, .null, .null, .null, .int 0, .null, .null, .null, .null, .null, .null, .null])), (q1, .inl (kA 1, 40, .inl (fun _ => 0))), (q2, .inl (kA 0, 20, .inl (fun _ => 0))), (q3, .inl (kA 0, 20, .inl (fun _ => 0))), (q4, .inl (kA 0, 12, .inl (fun _ => 0))), (q5, .inl (kA 0, 12, .inl (fun _ => 0))), (q6, .inl (kA 0, 12, .inl (fun _ => 0))), (q7, .inl (kA 0, 72, .inl (fun _ => 0))), (q8, .inl (kA 0, 216, .inl (fun _ => 0))), (q9, .inl (kA 0, 216, .inl (fun _ => 0))), (q10, .inl (kA 2, 72, .inl (fun _ => 0))), (q11, .inl (kA 2, 72, .inl (fun _ => 0))), (q12, .inl (kA 2, 12, .inl (fun _ => 0))), (q13, .inl (kA 0, 12, .inl (fun _ => 0)))] H := hP
  have hD : va_D A [(h, .inr (4, [.int 0, .int 0, .ref q1, .int 0, .int 0, .ref q2, .ref q3, .int 0, .ref q4, .ref q5, .ref q6, .ref q7, .ref q8, .ref q9, .ref q10, .ref q11, .ref q12, .ref q13, .null, .null, .null, .null, .null, .int 0, .null, .null, .null, .null, .null, .null, .null])), (q1, .inl (kA 1, 40, .inl (fun _ => 0))), (q2, .inl (kA 0, 20, .inl (fun _ => 0))), (q3, .inl (kA 0, 20, .inl (fun _ => 0))), (q4, .inl (kA 0, 12, .inl (fun _ => 0))), (q5, .inl (kA 0, 12, .inl (fun _ => 0))), (q6, .inl (kA 0, 12, .inl (fun _ => 0))), (q7, .inl (kA 0, 72, .inl (fun _ => 0))), (q8, .inl (kA 0, 216, .inl (fun _ => 0))), (q9, .inl (kA 0, 216, .inl (fun _ => 0))), (q10, .inl (kA 2, 72, .inl (fun _ => 0))), (q11, .inl (kA 2, 72, .inl (fun _ => 0))), (q12, .inl (kA 2, 12, .inl (fun _ => 0))), (q13, .inl (kA 0, 12, .inl (fun _ => 0)))] := hD
  refine lv_aload_n hx hb xd_Mo_init_110 rfl (lv_at hl 0 rfl) ?_
  refine lv_bipush (v := 60) hx hb xd_Mo_init_111 (by decide) ?_
  refine xa_newa (atype := .int) (a0 := (60, Sum.inl (fun _ => 0))) (ty := .int) (N' := 60) hx hb (hT _ xk_5) rfl (fun _ h9 => h9) hK.1 0 rfl hP hD hS hA (fun _ => rfl) (by decide) rfl (by decide) (Nat.le_of_ble_eq_true rfl) (Nat.le_of_ble_eq_true rfl) xd_Mo_init_113 (fun q14 H hP hD hS => ?_)
  have hP : va_P D xcl [(h, .inr (4, [.int 0, .int 0, .ref q1, .int 0, .int 0, .ref q2, .ref q3, .int 0, .ref q4, .ref q5, .ref q6, .ref q7, .ref q8, .ref q9, .ref q10, .ref q11, .ref q12, .ref q13, .null, .null, .null, .null, .null, .int 0, .null, .null, .null, .null, .null, .null, .null])), (q1, .inl (kA 1, 40, .inl (fun _ => 0))), (q2, .inl (kA 0, 20, .inl (fun _ => 0))), (q3, .inl (kA 0, 20, .inl (fun _ => 0))), (q4, .inl (kA 0, 12, .inl (fun _ => 0))), (q5, .inl (kA 0, 12, .inl (fun _ => 0))), (q6, .inl (kA 0, 12, .inl (fun _ => 0))), (q7, .inl (kA 0, 72, .inl (fun _ => 0))), (q8, .inl (kA 0, 216, .inl (fun _ => 0))), (q9, .inl (kA 0, 216, .inl (fun _ => 0))), (q10, .inl (kA 2, 72, .inl (fun _ => 0))), (q11, .inl (kA 2, 72, .inl (fun _ => 0))), (q12, .inl (kA 2, 12, .inl (fun _ => 0))), (q13, .inl (kA 0, 12, .inl (fun _ => 0))), (q14, .inl (kA 0, 60, .inl (fun _ => 0)))] H := hP
  have hD : va_D A [(h, .inr (4, [.int 0, .int 0, .ref q1, .int 0, .int 0, .ref q2, .ref q3, .int 0, .ref q4, .ref q5, .ref q6, .ref q7, .ref q8, .ref q9, .ref q10, .ref q11, .ref q12, .ref q13, .null, .null, .null, .null, .null, .int 0, .null, .null, .null, .null, .null, .null, .null])), (q1, .inl (kA 1, 40, .inl (fun _ => 0))), (q2, .inl (kA 0, 20, .inl (fun _ => 0))), (q3, .inl (kA 0, 20, .inl (fun _ => 0))), (q4, .inl (kA 0, 12, .inl (fun _ => 0))), (q5, .inl (kA 0, 12, .inl (fun _ => 0))), (q6, .inl (kA 0, 12, .inl (fun _ => 0))), (q7, .inl (kA 0, 72, .inl (fun _ => 0))), (q8, .inl (kA 0, 216, .inl (fun _ => 0))), (q9, .inl (kA 0, 216, .inl (fun _ => 0))), (q10, .inl (kA 2, 72, .inl (fun _ => 0))), (q11, .inl (kA 2, 72, .inl (fun _ => 0))), (q12, .inl (kA 2, 12, .inl (fun _ => 0))), (q13, .inl (kA 0, 12, .inl (fun _ => 0))), (q14, .inl (kA 0, 60, .inl (fun _ => 0)))] := hD
  refine va_putF (D := D) (ci := 4) (v := .ref q14) (ty := .array .int) (C := xR_Mo) (T := xT_Mo) (N := 31) hx hb hT xi_Mo xt_Mo xt_Mo_ok xn_Mo hown hK.1 hP hD hS 0 rfl rfl 18 (by decide) (hT _ xk_60) (fun _ h9 => h9) rfl hin rfl (by decide +kernel) rfl rfl (Nat.le_of_ble_eq_true rfl) xd_Mo_init_115 (fun H locs hP hD hS => ?_)
  have hP : va_P D xcl [(h, .inr (4, [.int 0, .int 0, .ref q1, .int 0, .int 0, .ref q2, .ref q3, .int 0, .ref q4, .ref q5, .ref q6, .ref q7, .ref q8, .ref q9, .ref q10, .ref q11, .ref q12, .ref q13, .ref q14, .null, .null, .null, .null, .int 0, .null, .null, .null, .null, .null, .null, .null])), (q1, .inl (kA 1, 40, .inl (fun _ => 0))), (q2, .inl (kA 0, 20, .inl (fun _ => 0))), (q3, .inl (kA 0, 20, .inl (fun _ => 0))), (q4, .inl (kA 0, 12, .inl (fun _ => 0))), (q5, .inl (kA 0, 12, .inl (fun _ => 0))), (q6, .inl (kA 0, 12, .inl (fun _ => 0))), (q7, .inl (kA 0, 72, .inl (fun _ => 0))), (q8, .inl (kA 0, 216, .inl (fun _ => 0))), (q9, .inl (kA 0, 216, .inl (fun _ => 0))), (q10, .inl (kA 2, 72, .inl (fun _ => 0))), (q11, .inl (kA 2, 72, .inl (fun _ => 0))), (q12, .inl (kA 2, 12, .inl (fun _ => 0))), (q13, .inl (kA 0, 12, .inl (fun _ => 0))), (q14, .inl (kA 0, 60, .inl (fun _ => 0)))] H := hP
  have hD : va_D A [(h, .inr (4, [.int 0, .int 0, .ref q1, .int 0, .int 0, .ref q2, .ref q3, .int 0, .ref q4, .ref q5, .ref q6, .ref q7, .ref q8, .ref q9, .ref q10, .ref q11, .ref q12, .ref q13, .ref q14, .null, .null, .null, .null, .int 0, .null, .null, .null, .null, .null, .null, .null])), (q1, .inl (kA 1, 40, .inl (fun _ => 0))), (q2, .inl (kA 0, 20, .inl (fun _ => 0))), (q3, .inl (kA 0, 20, .inl (fun _ => 0))), (q4, .inl (kA 0, 12, .inl (fun _ => 0))), (q5, .inl (kA 0, 12, .inl (fun _ => 0))), (q6, .inl (kA 0, 12, .inl (fun _ => 0))), (q7, .inl (kA 0, 72, .inl (fun _ => 0))), (q8, .inl (kA 0, 216, .inl (fun _ => 0))), (q9, .inl (kA 0, 216, .inl (fun _ => 0))), (q10, .inl (kA 2, 72, .inl (fun _ => 0))), (q11, .inl (kA 2, 72, .inl (fun _ => 0))), (q12, .inl (kA 2, 12, .inl (fun _ => 0))), (q13, .inl (kA 0, 12, .inl (fun _ => 0))), (q14, .inl (kA 0, 60, .inl (fun _ => 0)))] := hD
  refine lv_aload_n hx hb xd_Mo_init_118 rfl (lv_at hl 0 rfl) ?_
  refine lv_bipush (v := 36) hx hb xd_Mo_init_119 (by decide) ?_
  refine xa_newa (atype := .int) (a0 := (36, Sum.inl (fun _ => 0))) (ty := .int) (N' := 36) hx hb (hT _ xk_5) rfl (fun _ h9 => h9) hK.1 0 rfl hP hD hS hA (fun _ => rfl) (by decide) rfl (by decide) (Nat.le_of_ble_eq_true rfl) (Nat.le_of_ble_eq_true rfl) xd_Mo_init_121 (fun q15 H hP hD hS => ?_)
  have hP : va_P D xcl [(h, .inr (4, [.int 0, .int 0, .ref q1, .int 0, .int 0, .ref q2, .ref q3, .int 0, .ref q4, .ref q5, .ref q6, .ref q7, .ref q8, .ref q9, .ref q10, .ref q11, .ref q12, .ref q13, .ref q14, .null, .null, .null, .null, .int 0, .null, .null, .null, .null, .null, .null, .null])), (q1, .inl (kA 1, 40, .inl (fun _ => 0))), (q2, .inl (kA 0, 20, .inl (fun _ => 0))), (q3, .inl (kA 0, 20, .inl (fun _ => 0))), (q4, .inl (kA 0, 12, .inl (fun _ => 0))), (q5, .inl (kA 0, 12, .inl (fun _ => 0))), (q6, .inl (kA 0, 12, .inl (fun _ => 0))), (q7, .inl (kA 0, 72, .inl (fun _ => 0))), (q8, .inl (kA 0, 216, .inl (fun _ => 0))), (q9, .inl (kA 0, 216, .inl (fun _ => 0))), (q10, .inl (kA 2, 72, .inl (fun _ => 0))), (q11, .inl (kA 2, 72, .inl (fun _ => 0))), (q12, .inl (kA 2, 12, .inl (fun _ => 0))), (q13, .inl (kA 0, 12, .inl (fun _ => 0))), (q14, .inl (kA 0, 60, .inl (fun _ => 0))), (q15, .inl (kA 0, 36, .inl (fun _ => 0)))] H := hP
  have hD : va_D A [(h, .inr (4, [.int 0, .int 0, .ref q1, .int 0, .int 0, .ref q2, .ref q3, .int 0, .ref q4, .ref q5, .ref q6, .ref q7, .ref q8, .ref q9, .ref q10, .ref q11, .ref q12, .ref q13, .ref q14, .null, .null, .null, .null, .int 0, .null, .null, .null, .null, .null, .null, .null])), (q1, .inl (kA 1, 40, .inl (fun _ => 0))), (q2, .inl (kA 0, 20, .inl (fun _ => 0))), (q3, .inl (kA 0, 20, .inl (fun _ => 0))), (q4, .inl (kA 0, 12, .inl (fun _ => 0))), (q5, .inl (kA 0, 12, .inl (fun _ => 0))), (q6, .inl (kA 0, 12, .inl (fun _ => 0))), (q7, .inl (kA 0, 72, .inl (fun _ => 0))), (q8, .inl (kA 0, 216, .inl (fun _ => 0))), (q9, .inl (kA 0, 216, .inl (fun _ => 0))), (q10, .inl (kA 2, 72, .inl (fun _ => 0))), (q11, .inl (kA 2, 72, .inl (fun _ => 0))), (q12, .inl (kA 2, 12, .inl (fun _ => 0))), (q13, .inl (kA 0, 12, .inl (fun _ => 0))), (q14, .inl (kA 0, 60, .inl (fun _ => 0))), (q15, .inl (kA 0, 36, .inl (fun _ => 0)))] := hD
  refine va_putF (D := D) (ci := 4) (v := .ref q15) (ty := .array .int) (C := xR_Mo) (T := xT_Mo) (N := 31) hx hb hT xi_Mo xt_Mo xt_Mo_ok xn_Mo hown hK.1 hP hD hS 0 rfl rfl 19 (by decide) (hT _ xk_61) (fun _ h9 => h9) rfl hin rfl (by decide +kernel) rfl rfl (Nat.le_of_ble_eq_true rfl) xd_Mo_init_123 (fun H locs hP hD hS => ?_)
  have hP : va_P D xcl [(h, .inr (4, [.int 0, .int 0, .ref q1, .int 0, .int 0, .ref q2, .ref q3, .int 0, .ref q4, .ref q5, .ref q6, .ref q7, .ref q8, .ref q9, .ref q10, .ref q11, .ref q12, .ref q13, .ref q14, .ref q15, .null, .null, .null, .int 0, .null, .null, .null, .null, .null, .null, .null])), (q1, .inl (kA 1, 40, .inl (fun _ => 0))), (q2, .inl (kA 0, 20, .inl (fun _ => 0))), (q3, .inl (kA 0, 20, .inl (fun _ => 0))), (q4, .inl (kA 0, 12, .inl (fun _ => 0))), (q5, .inl (kA 0, 12, .inl (fun _ => 0))), (q6, .inl (kA 0, 12, .inl (fun _ => 0))), (q7, .inl (kA 0, 72, .inl (fun _ => 0))), (q8, .inl (kA 0, 216, .inl (fun _ => 0))), (q9, .inl (kA 0, 216, .inl (fun _ => 0))), (q10, .inl (kA 2, 72, .inl (fun _ => 0))), (q11, .inl (kA 2, 72, .inl (fun _ => 0))), (q12, .inl (kA 2, 12, .inl (fun _ => 0))), (q13, .inl (kA 0, 12, .inl (fun _ => 0))), (q14, .inl (kA 0, 60, .inl (fun _ => 0))), (q15, .inl (kA 0, 36, .inl (fun _ => 0)))] H := hP
  have hD : va_D A [(h, .inr (4, [.int 0, .int 0, .ref q1, .int 0, .int 0, .ref q2, .ref q3, .int 0, .ref q4, .ref q5, .ref q6, .ref q7, .ref q8, .ref q9, .ref q10, .ref q11, .ref q12, .ref q13, .ref q14, .ref q15, .null, .null, .null, .int 0, .null, .null, .null, .null, .null, .null, .null])), (q1, .inl (kA 1, 40, .inl (fun _ => 0))), (q2, .inl (kA 0, 20, .inl (fun _ => 0))), (q3, .inl (kA 0, 20, .inl (fun _ => 0))), (q4, .inl (kA 0, 12, .inl (fun _ => 0))), (q5, .inl (kA 0, 12, .inl (fun _ => 0))), (q6, .inl (kA 0, 12, .inl (fun _ => 0))), (q7, .inl (kA 0, 72, .inl (fun _ => 0))), (q8, .inl (kA 0, 216, .inl (fun _ => 0))), (q9, .inl (kA 0, 216, .inl (fun _ => 0))), (q10, .inl (kA 2, 72, .inl (fun _ => 0))), (q11, .inl (kA 2, 72, .inl (fun _ => 0))), (q12, .inl (kA 2, 12, .inl (fun _ => 0))), (q13, .inl (kA 0, 12, .inl (fun _ => 0))), (q14, .inl (kA 0, 60, .inl (fun _ => 0))), (q15, .inl (kA 0, 36, .inl (fun _ => 0)))] := hD
  refine lv_aload_n hx hb xd_Mo_init_126 rfl (lv_at hl 0 rfl) ?_
  refine lv_bipush (v := 36) hx hb xd_Mo_init_127 (by decide) ?_
  refine xa_newa (atype := .int) (a0 := (36, Sum.inl (fun _ => 0))) (ty := .int) (N' := 36) hx hb (hT _ xk_5) rfl (fun _ h9 => h9) hK.1 0 rfl hP hD hS hA (fun _ => rfl) (by decide) rfl (by decide) (Nat.le_of_ble_eq_true rfl) (Nat.le_of_ble_eq_true rfl) xd_Mo_init_129 (fun q16 H hP hD hS => ?_)
  have hP : va_P D xcl [(h, .inr (4, [.int 0, .int 0, .ref q1, .int 0, .int 0, .ref q2, .ref q3, .int 0, .ref q4, .ref q5, .ref q6, .ref q7, .ref q8, .ref q9, .ref q10, .ref q11, .ref q12, .ref q13, .ref q14, .ref q15, .null, .null, .null, .int 0, .null, .null, .null, .null, .null, .null, .null])), (q1, .inl (kA 1, 40, .inl (fun _ => 0))), (q2, .inl (kA 0, 20, .inl (fun _ => 0))), (q3, .inl (kA 0, 20, .inl (fun _ => 0))), (q4, .inl (kA 0, 12, .inl (fun _ => 0))), (q5, .inl (kA 0, 12, .inl (fun _ => 0))), (q6, .inl (kA 0, 12, .inl (fun _ => 0))), (q7, .inl (kA 0, 72, .inl (fun _ => 0))), (q8, .inl (kA 0, 216, .inl (fun _ => 0))), (q9, .inl (kA 0, 216, .inl (fun _ => 0))), (q10, .inl (kA 2, 72, .inl (fun _ => 0))), (q11, .inl (kA 2, 72, .inl (fun _ => 0))), (q12, .inl (kA 2, 12, .inl (fun _ => 0))), (q13, .inl (kA 0, 12, .inl (fun _ => 0))), (q14, .inl (kA 0, 60, .inl (fun _ => 0))), (q15, .inl (kA 0, 36, .inl (fun _ => 0))), (q16, .inl (kA 0, 36, .inl (fun _ => 0)))] H := hP
  have hD : va_D A [(h, .inr (4, [.int 0, .int 0, .ref q1, .int 0, .int 0, .ref q2, .ref q3, .int 0, .ref q4, .ref q5, .ref q6, .ref q7, .ref q8, .ref q9, .ref q10, .ref q11, .ref q12, .ref q13, .ref q14, .ref q15, .null, .null, .null, .int 0, .null, .null, .null, .null, .null, .null, .null])), (q1, .inl (kA 1, 40, .inl (fun _ => 0))), (q2, .inl (kA 0, 20, .inl (fun _ => 0))), (q3, .inl (kA 0, 20, .inl (fun _ => 0))), (q4, .inl (kA 0, 12, .inl (fun _ => 0))), (q5, .inl (kA 0, 12, .inl (fun _ => 0))), (q6, .inl (kA 0, 12, .inl (fun _ => 0))), (q7, .inl (kA 0, 72, .inl (fun _ => 0))), (q8, .inl (kA 0, 216, .inl (fun _ => 0))), (q9, .inl (kA 0, 216, .inl (fun _ => 0))), (q10, .inl (kA 2, 72, .inl (fun _ => 0))), (q11, .inl (kA 2, 72, .inl (fun _ => 0))), (q12, .inl (kA 2, 12, .inl (fun _ => 0))), (q13, .inl (kA 0, 12, .inl (fun _ => 0))), (q14, .inl (kA 0, 60, .inl (fun _ => 0))), (q15, .inl (kA 0, 36, .inl (fun _ => 0))), (q16, .inl (kA 0, 36, .inl (fun _ => 0)))] := hD
  refine va_putF (D := D) (ci := 4) (v := .ref q16) (ty := .array .int) (C := xR_Mo) (T := xT_Mo) (N := 31) hx hb hT xi_Mo xt_Mo xt_Mo_ok xn_Mo hown hK.1 hP hD hS 0 rfl rfl 20 (by decide) (hT _ xk_62) (fun _ h9 => h9) rfl hin rfl (by decide +kernel) rfl rfl (Nat.le_of_ble_eq_true rfl) xd_Mo_init_131 (fun H locs hP hD hS => ?_)
  have hP : va_P D xcl [(h, .inr (4, [.int 0, .int 0, .ref q1, .int 0, .int 0, .ref q2, .ref q3, .int 0, .ref q4, .ref q5, .ref q6, .ref q7, .ref q8, .ref q9, .ref q10, .ref q11, .ref q12, .ref q13, .ref q14, .ref q15, .ref q16, .null, .null, .int 0, .null, .null, .null, .null, .null, .null, .null])), (q1, .inl (kA 1, 40, .inl (fun _ => 0))), (q2, .inl (kA 0, 20, .inl (fun _ => 0))), (q3, .inl (kA 0, 20, .inl (fun _ => 0))), (q4, .inl (kA 0, 12, .inl (fun _ => 0))), (q5, .inl (kA 0, 12, .inl (fun _ => 0))), (q6, .inl (kA 0, 12, .inl (fun _ => 0))), (q7, .inl (kA 0, 72, .inl (fun _ => 0))), (q8, .inl (kA 0, 216, .inl (fun _ => 0))), (q9, .inl (kA 0, 216, .inl (fun _ => 0))), (q10, .inl (kA 2, 72, .inl (fun _ => 0))), (q11, .inl (kA 2, 72, .inl (fun _ => 0))), (q12, .inl (kA 2, 12, .inl (fun _ => 0))), (q13, .inl (kA 0, 12, .inl (fun _ => 0))), (q14, .inl (kA 0, 60, .inl (fun _ => 0))), (q15, .inl (kA 0, 36, .inl (fun _ => 0))), (q16, .inl (kA 0, 36, .inl (fun _ => 0)))] H := hP
  have hD : va_D A [(h, .inr (4, [.int 0, .int 0, .ref q1, .int 0, .int 0, .ref q2, .ref q3, .int 0, .ref q4, .ref q5, .ref q6, .ref q7, .ref q8, .ref q9, .ref q10, .ref q11, .ref q12, .ref q13, .ref q14, .ref q15, .ref q16, .null, .null, .int 0, .null, .null, .null, .null, .null, .null, .null])), (q1, .inl (kA 1, 40, .inl (fun _ => 0))), (q2, .inl (kA 0, 20, .inl (fun _ => 0))), (q3, .inl (kA 0, 20, .inl (fun _ => 0))), (q4, .inl (kA 0, 12, .inl (fun _ => 0))), (q5, .inl (kA 0, 12, .inl (fun _ => 0))), (q6, .inl (kA 0, 12, .inl (fun _ => 0))), (q7, .inl (kA 0, 72, .inl (fun _ => 0))), (q8, .inl (kA 0, 216, .inl (fun _ => 0))), (q9, .inl (kA 0, 216, .inl (fun _ => 0))), (q10, .inl (kA 2, 72, .inl (fun _ => 0))), (q11, .inl (kA 2, 72, .inl (fun _ => 0))), (q12, .inl (kA 2, 12, .inl (fun _ => 0))), (q13, .inl (kA 0, 12, .inl (fun _ => 0))), (q14, .inl (kA 0, 60, .inl (fun _ => 0))), (q15, .inl (kA 0, 36, .inl (fun _ => 0))), (q16, .inl (kA 0, 36, .inl (fun _ => 0)))] := hD
  refine lv_aload_n hx hb xd_Mo_init_134 rfl (lv_at hl 0 rfl) ?_
  refine lv_bipush (v := 60) hx hb xd_Mo_init_135 (by decide) ?_
  refine xa_newa (atype := .boolean) (a0 := (60, Sum.inl (fun _ => 0))) (ty := .boolean) (N' := 60) hx hb (hT _ xk_55) rfl (fun _ h9 => h9) hK.1 2 rfl hP hD hS hA (fun _ => rfl) (by decide) rfl (by decide) (Nat.le_of_ble_eq_true rfl) (Nat.le_of_ble_eq_true rfl) xd_Mo_init_137 (fun q17 H hP hD hS => ?_)
  have hP : va_P D xcl [(h, .inr (4, [.int 0, .int 0, .ref q1, .int 0, .int 0, .ref q2, .ref q3, .int 0, .ref q4, .ref q5, .ref q6, .ref q7, .ref q8, .ref q9, .ref q10, .ref q11, .ref q12, .ref q13, .ref q14, .ref q15, .ref q16, .null, .null, .int 0, .null, .null, .null, .null, .null, .null, .null])), (q1, .inl (kA 1, 40, .inl (fun _ => 0))), (q2, .inl (kA 0, 20, .inl (fun _ => 0))), (q3, .inl (kA 0, 20, .inl (fun _ => 0))), (q4, .inl (kA 0, 12, .inl (fun _ => 0))), (q5, .inl (kA 0, 12, .inl (fun _ => 0))), (q6, .inl (kA 0, 12, .inl (fun _ => 0))), (q7, .inl (kA 0, 72, .inl (fun _ => 0))), (q8, .inl (kA 0, 216, .inl (fun _ => 0))), (q9, .inl (kA 0, 216, .inl (fun _ => 0))), (q10, .inl (kA 2, 72, .inl (fun _ => 0))), (q11, .inl (kA 2, 72, .inl (fun _ => 0))), (q12, .inl (kA 2, 12, .inl (fun _ => 0))), (q13, .inl (kA 0, 12, .inl (fun _ => 0))), (q14, .inl (kA 0, 60, .inl (fun _ => 0))), (q15, .inl (kA 0, 36, .inl (fun _ => 0))), (q16, .inl (kA 0, 36, .inl (fun _ => 0))), (q17, .inl (kA 2, 60, .inl (fun _ => 0)))] H := hP
  have hD : va_D A [(h, .inr (4, [.int 0, .int 0, .ref q1, .int 0, .int 0, .ref q2, .ref q3, .int 0, .ref q4, .ref q5, .ref q6, .ref q7, .ref q8, .ref q9, .ref q10, .ref q11, .ref q12, .ref q13, .ref q14, .ref q15, .ref q16, .null, .null, .int 0, .null, .null, .null, .null, .null, .null, .null])), (q1, .inl (kA 1, 40, .inl (fun _ => 0))), (q2, .inl (kA 0, 20, .inl (fun _ => 0))), (q3, .inl (kA 0, 20, .inl (fun _ => 0))), (q4, .inl (kA 0, 12, .inl (fun _ => 0))), (q5, .inl (kA 0, 12, .inl (fun _ => 0))), (q6, .inl (kA 0, 12, .inl (fun _ => 0))), (q7, .inl (kA 0, 72, .inl (fun _ => 0))), (q8, .inl (kA 0, 216, .inl (fun _ => 0))), (q9, .inl (kA 0, 216, .inl (fun _ => 0))), (q10, .inl (kA 2, 72, .inl (fun _ => 0))), (q11, .inl (kA 2, 72, .inl (fun _ => 0))), (q12, .inl (kA 2, 12, .inl (fun _ => 0))), (q13, .inl (kA 0, 12, .inl (fun _ => 0))), (q14, .inl (kA 0, 60, .inl (fun _ => 0))), (q15, .inl (kA 0, 36, .inl (fun _ => 0))), (q16, .inl (kA 0, 36, .inl (fun _ => 0))), (q17, .inl (kA 2, 60, .inl (fun _ => 0)))] := hD
  refine va_putF (D := D) (ci := 4) (v := .ref q17) (ty := .array .boolean) (C := xR_Mo) (T := xT_Mo) (N := 31) hx hb hT xi_Mo xt_Mo xt_Mo_ok xn_Mo hown hK.1 hP hD hS 0 rfl rfl 21 (by decide) (hT _ xk_63) (fun _ h9 => h9) rfl hin rfl (by decide +kernel) rfl rfl (Nat.le_of_ble_eq_true rfl) xd_Mo_init_139 (fun H locs hP hD hS => ?_)
  have hP : va_P D xcl [(h, .inr (4, [.int 0, .int 0, .ref q1, .int 0, .int 0, .ref q2, .ref q3, .int 0, .ref q4, .ref q5, .ref q6, .ref q7, .ref q8, .ref q9, .ref q10, .ref q11, .ref q12, .ref q13, .ref q14, .ref q15, .ref q16, .ref q17, .null, .int 0, .null, .null, .null, .null, .null, .null, .null])), (q1, .inl (kA 1, 40, .inl (fun _ => 0))), (q2, .inl (kA 0, 20, .inl (fun _ => 0))), (q3, .inl (kA 0, 20, .inl (fun _ => 0))), (q4, .inl (kA 0, 12, .inl (fun _ => 0))), (q5, .inl (kA 0, 12, .inl (fun _ => 0))), (q6, .inl (kA 0, 12, .inl (fun _ => 0))), (q7, .inl (kA 0, 72, .inl (fun _ => 0))), (q8, .inl (kA 0, 216, .inl (fun _ => 0))), (q9, .inl (kA 0, 216, .inl (fun _ => 0))), (q10, .inl (kA 2, 72, .inl (fun _ => 0))), (q11, .inl (kA 2, 72, .inl (fun _ => 0))), (q12, .inl (kA 2, 12, .inl (fun _ => 0))), (q13, .inl (kA 0, 12, .inl (fun _ => 0))), (q14, .inl (kA 0, 60, .inl (fun _ => 0))), (q15, .inl (kA 0, 36, .inl (fun _ => 0))), (q16, .inl (kA 0, 36, .inl (fun _ => 0))), (q17, .inl (kA 2, 60, .inl (fun _ => 0)))] H := hP
  have hD : va_D A [(h, .inr (4, [.int 0, .int 0, .ref q1, .int 0, .int 0, .ref q2, .ref q3, .int 0, .ref q4, .ref q5, .ref q6, .ref q7, .ref q8, .ref q9, .ref q10, .ref q11, .ref q12, .ref q13, .ref q14, .ref q15, .ref q16, .ref q17, .null, .int 0, .null, .null, .null, .null, .null, .null, .null])), (q1, .inl (kA 1, 40, .inl (fun _ => 0))), (q2, .inl (kA 0, 20, .inl (fun _ => 0))), (q3, .inl (kA 0, 20, .inl (fun _ => 0))), (q4, .inl (kA 0, 12, .inl (fun _ => 0))), (q5, .inl (kA 0, 12, .inl (fun _ => 0))), (q6, .inl (kA 0, 12, .inl (fun _ => 0))), (q7, .inl (kA 0, 72, .inl (fun _ => 0))), (q8, .inl (kA 0, 216, .inl (fun _ => 0))), (q9, .inl (kA 0, 216, .inl (fun _ => 0))), (q10, .inl (kA 2, 72, .inl (fun _ => 0))), (q11, .inl (kA 2, 72, .inl (fun _ => 0))), (q12, .inl (kA 2, 12, .inl (fun _ => 0))), (q13, .inl (kA 0, 12, .inl (fun _ => 0))), (q14, .inl (kA 0, 60, .inl (fun _ => 0))), (q15, .inl (kA 0, 36, .inl (fun _ => 0))), (q16, .inl (kA 0, 36, .inl (fun _ => 0))), (q17, .inl (kA 2, 60, .inl (fun _ => 0)))] := hD
  refine lv_aload_n hx hb xd_Mo_init_142 rfl (lv_at hl 0 rfl) ?_
  refine lv_bipush (v := 60) hx hb xd_Mo_init_143 (by decide) ?_
  refine xa_newa (atype := .boolean) (a0 := (60, Sum.inl (fun _ => 0))) (ty := .boolean) (N' := 60) hx hb (hT _ xk_55) rfl (fun _ h9 => h9) hK.1 2 rfl hP hD hS hA (fun _ => rfl) (by decide) rfl (by decide) (Nat.le_of_ble_eq_true rfl) (Nat.le_of_ble_eq_true rfl) xd_Mo_init_145 (fun q18 H hP hD hS => ?_)
  have hP : va_P D xcl [(h, .inr (4, [.int 0, .int 0, .ref q1, .int 0, .int 0, .ref q2, .ref q3, .int 0, .ref q4, .ref q5, .ref q6, .ref q7, .ref q8, .ref q9, .ref q10, .ref q11, .ref q12, .ref q13, .ref q14, .ref q15, .ref q16, .ref q17, .null, .int 0, .null, .null, .null, .null, .null, .null, .null])), (q1, .inl (kA 1, 40, .inl (fun _ => 0))), (q2, .inl (kA 0, 20, .inl (fun _ => 0))), (q3, .inl (kA 0, 20, .inl (fun _ => 0))), (q4, .inl (kA 0, 12, .inl (fun _ => 0))), (q5, .inl (kA 0, 12, .inl (fun _ => 0))), (q6, .inl (kA 0, 12, .inl (fun _ => 0))), (q7, .inl (kA 0, 72, .inl (fun _ => 0))), (q8, .inl (kA 0, 216, .inl (fun _ => 0))), (q9, .inl (kA 0, 216, .inl (fun _ => 0))), (q10, .inl (kA 2, 72, .inl (fun _ => 0))), (q11, .inl (kA 2, 72, .inl (fun _ => 0))), (q12, .inl (kA 2, 12, .inl (fun _ => 0))), (q13, .inl (kA 0, 12, .inl (fun _ => 0))), (q14, .inl (kA 0, 60, .inl (fun _ => 0))), (q15, .inl (kA 0, 36, .inl (fun _ => 0))), (q16, .inl (kA 0, 36, .inl (fun _ => 0))), (q17, .inl (kA 2, 60, .inl (fun _ => 0))), (q18, .inl (kA 2, 60, .inl (fun _ => 0)))] H := hP
  have hD : va_D A [(h, .inr (4, [.int 0, .int 0, .ref q1, .int 0, .int 0, .ref q2, .ref q3, .int 0, .ref q4, .ref q5, .ref q6, .ref q7, .ref q8, .ref q9, .ref q10, .ref q11, .ref q12, .ref q13, .ref q14, .ref q15, .ref q16, .ref q17, .null, .int 0, .null, .null, .null, .null, .null, .null, .null])), (q1, .inl (kA 1, 40, .inl (fun _ => 0))), (q2, .inl (kA 0, 20, .inl (fun _ => 0))), (q3, .inl (kA 0, 20, .inl (fun _ => 0))), (q4, .inl (kA 0, 12, .inl (fun _ => 0))), (q5, .inl (kA 0, 12, .inl (fun _ => 0))), (q6, .inl (kA 0, 12, .inl (fun _ => 0))), (q7, .inl (kA 0, 72, .inl (fun _ => 0))), (q8, .inl (kA 0, 216, .inl (fun _ => 0))), (q9, .inl (kA 0, 216, .inl (fun _ => 0))), (q10, .inl (kA 2, 72, .inl (fun _ => 0))), (q11, .inl (kA 2, 72, .inl (fun _ => 0))), (q12, .inl (kA 2, 12, .inl (fun _ => 0))), (q13, .inl (kA 0, 12, .inl (fun _ => 0))), (q14, .inl (kA 0, 60, .inl (fun _ => 0))), (q15, .inl (kA 0, 36, .inl (fun _ => 0))), (q16, .inl (kA 0, 36, .inl (fun _ => 0))), (q17, .inl (kA 2, 60, .inl (fun _ => 0))), (q18, .inl (kA 2, 60, .inl (fun _ => 0)))] := hD
  refine va_putF (D := D) (ci := 4) (v := .ref q18) (ty := .array .boolean) (C := xR_Mo) (T := xT_Mo) (N := 31) hx hb hT xi_Mo xt_Mo xt_Mo_ok xn_Mo hown hK.1 hP hD hS 0 rfl rfl 22 (by decide) (hT _ xk_64) (fun _ h9 => h9) rfl hin rfl (by decide +kernel) rfl rfl (Nat.le_of_ble_eq_true rfl) xd_Mo_init_147 (fun H locs hP hD hS => ?_)
  have hP : va_P D xcl [(h, .inr (4, [.int 0, .int 0, .ref q1, .int 0, .int 0, .ref q2, .ref q3, .int 0, .ref q4, .ref q5, .ref q6, .ref q7, .ref q8, .ref q9, .ref q10, .ref q11, .ref q12, .ref q13, .ref q14, .ref q15, .ref q16, .ref q17, .ref q18, .int 0, .null, .null, .null, .null, .null, .null, .null])), (q1, .inl (kA 1, 40, .inl (fun _ => 0))), (q2, .inl (kA 0, 20, .inl (fun _ => 0))), (q3, .inl (kA 0, 20, .inl (fun _ => 0))), (q4, .inl (kA 0, 12, .inl (fun _ => 0))), (q5, .inl (kA 0, 12, .inl (fun _ => 0))), (q6, .inl (kA 0, 12, .inl (fun _ => 0))), (q7, .inl (kA 0, 72, .inl (fun _ => 0))), (q8, .inl (kA 0, 216, .inl (fun _ => 0))), (q9, .inl (kA 0, 216, .inl (fun _ => 0))), (q10, .inl (kA 2, 72, .inl (fun _ => 0))), (q11, .inl (kA 2, 72, .inl (fun _ => 0))), (q12, .inl (kA 2, 12, .inl (fun _ => 0))), (q13, .inl (kA 0, 12, .inl (fun _ => 0))), (q14, .inl (kA 0, 60, .inl (fun _ => 0))), (q15, .inl (kA 0, 36, .inl (fun _ => 0))), (q16, .inl (kA 0, 36, .inl (fun _ => 0))), (q17, .inl (kA 2, 60, .inl (fun _ => 0))), (q18, .inl (kA 2, 60, .inl (fun _ => 0)))] H := hP
  have hD : va_D A [(h, .inr (4, [.int 0, .int 0, .ref q1, .int 0, .int 0, .ref q2, .ref q3, .int 0, .ref q4, .ref q5, .ref q6, .ref q7, .ref q8, .ref q9, .ref q10, .ref q11, .ref q12, .ref q13, .ref q14, .ref q15, .ref q16, .ref q17, .ref q18, .int 0, .null, .null, .null, .null, .null, .null, .null])), (q1, .inl (kA 1, 40, .inl (fun _ => 0))), (q2, .inl (kA 0, 20, .inl (fun _ => 0))), (q3, .inl (kA 0, 20, .inl (fun _ => 0))), (q4, .inl (kA 0, 12, .inl (fun _ => 0))), (q5, .inl (kA 0, 12, .inl (fun _ => 0))), (q6, .inl (kA 0, 12, .inl (fun _ => 0))), (q7, .inl (kA 0, 72, .inl (fun _ => 0))), (q8, .inl (kA 0, 216, .inl (fun _ => 0))), (q9, .inl (kA 0, 216, .inl (fun _ => 0))), (q10, .inl (kA 2, 72, .inl (fun _ => 0))), (q11, .inl (kA 2, 72, .inl (fun _ => 0))), (q12, .inl (kA 2, 12, .inl (fun _ => 0))), (q13, .inl (kA 0, 12, .inl (fun _ => 0))), (q14, .inl (kA 0, 60, .inl (fun _ => 0))), (q15, .inl (kA 0, 36, .inl (fun _ => 0))), (q16, .inl (kA 0, 36, .inl (fun _ => 0))), (q17, .inl (kA 2, 60, .inl (fun _ => 0))), (q18, .inl (kA 2, 60, .inl (fun _ => 0)))] := hD
  refine lv_aload_n hx hb xd_Mo_init_150 rfl (lv_at hl 0 rfl) ?_
  refine lv_bipush (v := 6) hx hb xd_Mo_init_151 (by decide) ?_
  refine xa_newa (atype := .int) (a0 := (6, Sum.inl (fun _ => 0))) (ty := .int) (N' := 6) hx hb (hT _ xk_5) rfl (fun _ h9 => h9) hK.1 0 rfl hP hD hS hA (fun _ => rfl) (by decide) rfl (by decide) (Nat.le_of_ble_eq_true rfl) (Nat.le_of_ble_eq_true rfl) xd_Mo_init_153 (fun q19 H hP hD hS => ?_)
  have hP : va_P D xcl [(h, .inr (4, [.int 0, .int 0, .ref q1, .int 0, .int 0, .ref q2, .ref q3, .int 0, .ref q4, .ref q5, .ref q6, .ref q7, .ref q8, .ref q9, .ref q10, .ref q11, .ref q12, .ref q13, .ref q14, .ref q15, .ref q16, .ref q17, .ref q18, .int 0, .null, .null, .null, .null, .null, .null, .null])), (q1, .inl (kA 1, 40, .inl (fun _ => 0))), (q2, .inl (kA 0, 20, .inl (fun _ => 0))), (q3, .inl (kA 0, 20, .inl (fun _ => 0))), (q4, .inl (kA 0, 12, .inl (fun _ => 0))), (q5, .inl (kA 0, 12, .inl (fun _ => 0))), (q6, .inl (kA 0, 12, .inl (fun _ => 0))), (q7, .inl (kA 0, 72, .inl (fun _ => 0))), (q8, .inl (kA 0, 216, .inl (fun _ => 0))), (q9, .inl (kA 0, 216, .inl (fun _ => 0))), (q10, .inl (kA 2, 72, .inl (fun _ => 0))), (q11, .inl (kA 2, 72, .inl (fun _ => 0))), (q12, .inl (kA 2, 12, .inl (fun _ => 0))), (q13, .inl (kA 0, 12, .inl (fun _ => 0))), (q14, .inl (kA 0, 60, .inl (fun _ => 0))), (q15, .inl (kA 0, 36, .inl (fun _ => 0))), (q16, .inl (kA 0, 36, .inl (fun _ => 0))), (q17, .inl (kA 2, 60, .inl (fun _ => 0))), (q18, .inl (kA 2, 60, .inl (fun _ => 0))), (q19, .inl (kA 0, 6, .inl (fun _ => 0)))] H := hP
  have hD : va_D A [(h, .inr (4, [.int 0, .int 0, .ref q1, .int 0, .int 0, .ref q2, .ref q3, .int 0, .ref q4, .ref q5, .ref q6, .ref q7, .ref q8, .ref q9, .ref q10, .ref q11, .ref q12, .ref q13, .ref q14, .ref q15, .ref q16, .ref q17, .ref q18, .int 0, .null, .null, .null, .null, .null, .null, .null])), (q1, .inl (kA 1, 40, .inl (fun _ => 0))), (q2, .inl (kA 0, 20, .inl (fun _ => 0))), (q3, .inl (kA 0, 20, .inl (fun _ => 0))), (q4, .inl (kA 0, 12, .inl (fun _ => 0))), (q5, .inl (kA 0, 12, .inl (fun _ => 0))), (q6, .inl (kA 0, 12, .inl (fun _ => 0))), (q7, .inl (kA 0, 72, .inl (fun _ => 0))), (q8, .inl (kA 0, 216, .inl (fun _ => 0))), (q9, .inl (kA 0, 216, .inl (fun _ => 0))), (q10, .inl (kA 2, 72, .inl (fun _ => 0))), (q11, .inl (kA 2, 72, .inl (fun _ => 0))), (q12, .inl (kA 2, 12, .inl (fun _ => 0))), (q13, .inl (kA 0, 12, .inl (fun _ => 0))), (q14, .inl (kA 0, 60, .inl (fun _ => 0))), (q15, .inl (kA 0, 36, .inl (fun _ => 0))), (q16, .inl (kA 0, 36, .inl (fun _ => 0))), (q17, .inl (kA 2, 60, .inl (fun _ => 0))), (q18, .inl (kA 2, 60, .inl (fun _ => 0))), (q19, .inl (kA 0, 6, .inl (fun _ => 0)))] := hD
  refine va_putF (D := D) (ci := 4) (v := .ref q19) (ty := .array .int) (C := xR_Mo) (T := xT_Mo) (N := 31) hx hb hT xi_Mo xt_Mo xt_Mo_ok xn_Mo hown hK.1 hP hD hS 0 rfl rfl 24 (by decide) (hT _ xk_65) (fun _ h9 => h9) rfl hin rfl (by decide +kernel) rfl rfl (Nat.le_of_ble_eq_true rfl) xd_Mo_init_155 (fun H locs hP hD hS => ?_)
  have hP : va_P D xcl [(h, .inr (4, [.int 0, .int 0, .ref q1, .int 0, .int 0, .ref q2, .ref q3, .int 0, .ref q4, .ref q5, .ref q6, .ref q7, .ref q8, .ref q9, .ref q10, .ref q11, .ref q12, .ref q13, .ref q14, .ref q15, .ref q16, .ref q17, .ref q18, .int 0, .ref q19, .null, .null, .null, .null, .null, .null])), (q1, .inl (kA 1, 40, .inl (fun _ => 0))), (q2, .inl (kA 0, 20, .inl (fun _ => 0))), (q3, .inl (kA 0, 20, .inl (fun _ => 0))), (q4, .inl (kA 0, 12, .inl (fun _ => 0))), (q5, .inl (kA 0, 12, .inl (fun _ => 0))), (q6, .inl (kA 0, 12, .inl (fun _ => 0))), (q7, .inl (kA 0, 72, .inl (fun _ => 0))), (q8, .inl (kA 0, 216, .inl (fun _ => 0))), (q9, .inl (kA 0, 216, .inl (fun _ => 0))), (q10, .inl (kA 2, 72, .inl (fun _ => 0))), (q11, .inl (kA 2, 72, .inl (fun _ => 0))), (q12, .inl (kA 2, 12, .inl (fun _ => 0))), (q13, .inl (kA 0, 12, .inl (fun _ => 0))), (q14, .inl (kA 0, 60, .inl (fun _ => 0))), (q15, .inl (kA 0, 36, .inl (fun _ => 0))), (q16, .inl (kA 0, 36, .inl (fun _ => 0))), (q17, .inl (kA 2, 60, .inl (fun _ => 0))), (q18, .inl (kA 2, 60, .inl (fun _ => 0))), (q19, .inl (kA 0, 6, .inl (fun _ => 0)))] H := hP
  have hD : va_D A [(h, .inr (4, [.int 0, .int 0, .ref q1, .int 0, .int 0, .ref q2, .ref q3, .int 0, .ref q4, .ref q5, .ref q6, .ref q7, .ref q8, .ref q9, .ref q10, .ref q11, .ref q12, .ref q13, .ref q14, .ref q15, .ref q16, .ref q17, .ref q18, .int 0, .ref q19, .null, .null, .null, .null, .null, .null])), (q1, .inl (kA 1, 40, .inl (fun _ => 0))), (q2, .inl (kA 0, 20, .inl (fun _ => 0))), (q3, .inl (kA 0, 20, .inl (fun _ => 0))), (q4, .inl (kA 0, 12, .inl (fun _ => 0))), (q5, .inl (kA 0, 12, .inl (fun _ => 0))), (q6, .inl (kA 0, 12, .inl (fun _ => 0))), (q7, .inl (kA 0, 72, .inl (fun _ => 0))), (q8, .inl (kA 0, 216, .inl (fun _ => 0))), (q9, .inl (kA 0, 216, .inl (fun _ => 0))), (q10, .inl (kA 2, 72, .inl (fun _ => 0))), (q11, .inl (kA 2, 72, .inl (fun _ => 0))), (q12, .inl (kA 2, 12, .inl (fun _ => 0))), (q13, .inl (kA 0, 12, .inl (fun _ => 0))), (q14, .inl (kA 0, 60, .inl (fun _ => 0))), (q15, .inl (kA 0, 36, .inl (fun _ => 0))), (q16, .inl (kA 0, 36, .inl (fun _ => 0))), (q17, .inl (kA 2, 60, .inl (fun _ => 0))), (q18, .inl (kA 2, 60, .inl (fun _ => 0))), (q19, .inl (kA 0, 6, .inl (fun _ => 0)))] := hD
  refine lv_aload_n hx hb xd_Mo_init_158 rfl (lv_at hl 0 rfl) ?_
  refine lv_bipush (v := 6) hx hb xd_Mo_init_159 (by decide) ?_
  refine xa_newa (atype := .int) (a0 := (6, Sum.inl (fun _ => 0))) (ty := .int) (N' := 6) hx hb (hT _ xk_5) rfl (fun _ h9 => h9) hK.1 0 rfl hP hD hS hA (fun _ => rfl) (by decide) rfl (by decide) (Nat.le_of_ble_eq_true rfl) (Nat.le_of_ble_eq_true rfl) xd_Mo_init_161 (fun q20 H hP hD hS => ?_)
  have hP : va_P D xcl [(h, .inr (4, [.int 0, .int 0, .ref q1, .int 0, .int 0, .ref q2, .ref q3, .int 0, .ref q4, .ref q5, .ref q6, .ref q7, .ref q8, .ref q9, .ref q10, .ref q11, .ref q12, .ref q13, .ref q14, .ref q15, .ref q16, .ref q17, .ref q18, .int 0, .ref q19, .null, .null, .null, .null, .null, .null])), (q1, .inl (kA 1, 40, .inl (fun _ => 0))), (q2, .inl (kA 0, 20, .inl (fun _ => 0))), (q3, .inl (kA 0, 20, .inl (fun _ => 0))), (q4, .inl (kA 0, 12, .inl (fun _ => 0))), (q5, .inl (kA 0, 12, .inl (fun _ => 0))), (q6, .inl (kA 0, 12, .inl (fun _ => 0))), (q7, .inl (kA 0, 72, .inl (fun _ => 0))), (q8, .inl (kA 0, 216, .inl (fun _ => 0))), (q9, .inl (kA 0, 216, .inl (fun _ => 0))), (q10, .inl (kA 2, 72, .inl (fun _ => 0))), (q11, .inl (kA 2, 72, .inl (fun _ => 0))), (q12, .inl (kA 2, 12, .inl (fun _ => 0))), (q13, .inl (kA 0, 12, .inl (fun _ => 0))), (q14, .inl (kA 0, 60, .inl (fun _ => 0))), (q15, .inl (kA 0, 36, .inl (fun _ => 0))), (q16, .inl (kA 0, 36, .inl (fun _ => 0))), (q17, .inl (kA 2, 60, .inl (fun _ => 0))), (q18, .inl (kA 2, 60, .inl (fun _ => 0))), (q19, .inl (kA 0, 6, .inl (fun _ => 0))), (q20, .inl (kA 0, 6, .inl (fun _ => 0)))] H := hP
  have hD : va_D A [(h, .inr (4, [.int 0, .int 0, .ref q1, .int 0, .int 0, .ref q2, .ref q3, .int 0, .ref q4, .ref q5, .ref q6, .ref q7, .ref q8, .ref q9, .ref q10, .ref q11, .ref q12, .ref q13, .ref q14, .ref q15, .ref q16, .ref q17, .ref q18, .int 0, .ref q19, .null, .null, .null, .null, .null, .null])), (q1, .inl (kA 1, 40, .inl (fun _ => 0))), (q2, .inl (kA 0, 20, .inl (fun _ => 0))), (q3, .inl (kA 0, 20, .inl (fun _ => 0))), (q4, .inl (kA 0, 12, .inl (fun _ => 0))), (q5, .inl (kA 0, 12, .inl (fun _ => 0))), (q6, .inl (kA 0, 12, .inl (fun _ => 0))), (q7, .inl (kA 0, 72, .inl (fun _ => 0))), (q8, .inl (kA 0, 216, .inl (fun _ => 0))), (q9, .inl (kA 0, 216, .inl (fun _ => 0))), (q10, .inl (kA 2, 72, .inl (fun _ => 0))), (q11, .inl (kA 2, 72, .inl (fun _ => 0))), (q12, .inl (kA 2, 12, .inl (fun _ => 0))), (q13, .inl (kA 0, 12, .inl (fun _ => 0))), (q14, .inl (kA 0, 60, .inl (fun _ => 0))), (q15, .inl (kA 0, 36, .inl (fun _ => 0))), (q16, .inl (kA 0, 36, .inl (fun _ => 0))), (q17, .inl (kA 2, 60, .inl (fun _ => 0))), (q18, .inl (kA 2, 60, .inl (fun _ => 0))), (q19, .inl (kA 0, 6, .inl (fun _ => 0))), (q20, .inl (kA 0, 6, .inl (fun _ => 0)))] := hD
  refine va_putF (D := D) (ci := 4) (v := .ref q20) (ty := .array .int) (C := xR_Mo) (T := xT_Mo) (N := 31) hx hb hT xi_Mo xt_Mo xt_Mo_ok xn_Mo hown hK.1 hP hD hS 0 rfl rfl 25 (by decide) (hT _ xk_66) (fun _ h9 => h9) rfl hin rfl (by decide +kernel) rfl rfl (Nat.le_of_ble_eq_true rfl) xd_Mo_init_163 (fun H locs hP hD hS => ?_)
  have hP : va_P D xcl [(h, .inr (4, [.int 0, .int 0, .ref q1, .int 0, .int 0, .ref q2, .ref q3, .int 0, .ref q4, .ref q5, .ref q6, .ref q7, .ref q8, .ref q9, .ref q10, .ref q11, .ref q12, .ref q13, .ref q14, .ref q15, .ref q16, .ref q17, .ref q18, .int 0, .ref q19, .ref q20, .null, .null, .null, .null, .null])), (q1, .inl (kA 1, 40, .inl (fun _ => 0))), (q2, .inl (kA 0, 20, .inl (fun _ => 0))), (q3, .inl (kA 0, 20, .inl (fun _ => 0))), (q4, .inl (kA 0, 12, .inl (fun _ => 0))), (q5, .inl (kA 0, 12, .inl (fun _ => 0))), (q6, .inl (kA 0, 12, .inl (fun _ => 0))), (q7, .inl (kA 0, 72, .inl (fun _ => 0))), (q8, .inl (kA 0, 216, .inl (fun _ => 0))), (q9, .inl (kA 0, 216, .inl (fun _ => 0))), (q10, .inl (kA 2, 72, .inl (fun _ => 0))), (q11, .inl (kA 2, 72, .inl (fun _ => 0))), (q12, .inl (kA 2, 12, .inl (fun _ => 0))), (q13, .inl (kA 0, 12, .inl (fun _ => 0))), (q14, .inl (kA 0, 60, .inl (fun _ => 0))), (q15, .inl (kA 0, 36, .inl (fun _ => 0))), (q16, .inl (kA 0, 36, .inl (fun _ => 0))), (q17, .inl (kA 2, 60, .inl (fun _ => 0))), (q18, .inl (kA 2, 60, .inl (fun _ => 0))), (q19, .inl (kA 0, 6, .inl (fun _ => 0))), (q20, .inl (kA 0, 6, .inl (fun _ => 0)))] H := hP
  have hD : va_D A [(h, .inr (4, [.int 0, .int 0, .ref q1, .int 0, .int 0, .ref q2, .ref q3, .int 0, .ref q4, .ref q5, .ref q6, .ref q7, .ref q8, .ref q9, .ref q10, .ref q11, .ref q12, .ref q13, .ref q14, .ref q15, .ref q16, .ref q17, .ref q18, .int 0, .ref q19, .ref q20, .null, .null, .null, .null, .null])), (q1, .inl (kA 1, 40, .inl (fun _ => 0))), (q2, .inl (kA 0, 20, .inl (fun _ => 0))), (q3, .inl (kA 0, 20, .inl (fun _ => 0))), (q4, .inl (kA 0, 12, .inl (fun _ => 0))), (q5, .inl (kA 0, 12, .inl (fun _ => 0))), (q6, .inl (kA 0, 12, .inl (fun _ => 0))), (q7, .inl (kA 0, 72, .inl (fun _ => 0))), (q8, .inl (kA 0, 216, .inl (fun _ => 0))), (q9, .inl (kA 0, 216, .inl (fun _ => 0))), (q10, .inl (kA 2, 72, .inl (fun _ => 0))), (q11, .inl (kA 2, 72, .inl (fun _ => 0))), (q12, .inl (kA 2, 12, .inl (fun _ => 0))), (q13, .inl (kA 0, 12, .inl (fun _ => 0))), (q14, .inl (kA 0, 60, .inl (fun _ => 0))), (q15, .inl (kA 0, 36, .inl (fun _ => 0))), (q16, .inl (kA 0, 36, .inl (fun _ => 0))), (q17, .inl (kA 2, 60, .inl (fun _ => 0))), (q18, .inl (kA 2, 60, .inl (fun _ => 0))), (q19, .inl (kA 0, 6, .inl (fun _ => 0))), (q20, .inl (kA 0, 6, .inl (fun _ => 0)))] := hD
  refine lv_aload_n hx hb xd_Mo_init_166 rfl (lv_at hl 0 rfl) ?_
  refine lv_bipush (v := 6) hx hb xd_Mo_init_167 (by decide) ?_
  refine xa_newa (atype := .int) (a0 := (6, Sum.inl (fun _ => 0))) (ty := .int) (N' := 6) hx hb (hT _ xk_5) rfl (fun _ h9 => h9) hK.1 0 rfl hP hD hS hA (fun _ => rfl) (by decide) rfl (by decide) (Nat.le_of_ble_eq_true rfl) (Nat.le_of_ble_eq_true rfl) xd_Mo_init_169 (fun q21 H hP hD hS => ?_)
  have hP : va_P D xcl [(h, .inr (4, [.int 0, .int 0, .ref q1, .int 0, .int 0, .ref q2, .ref q3, .int 0, .ref q4, .ref q5, .ref q6, .ref q7, .ref q8, .ref q9, .ref q10, .ref q11, .ref q12, .ref q13, .ref q14, .ref q15, .ref q16, .ref q17, .ref q18, .int 0, .ref q19, .ref q20, .null, .null, .null, .null, .null])), (q1, .inl (kA 1, 40, .inl (fun _ => 0))), (q2, .inl (kA 0, 20, .inl (fun _ => 0))), (q3, .inl (kA 0, 20, .inl (fun _ => 0))), (q4, .inl (kA 0, 12, .inl (fun _ => 0))), (q5, .inl (kA 0, 12, .inl (fun _ => 0))), (q6, .inl (kA 0, 12, .inl (fun _ => 0))), (q7, .inl (kA 0, 72, .inl (fun _ => 0))), (q8, .inl (kA 0, 216, .inl (fun _ => 0))), (q9, .inl (kA 0, 216, .inl (fun _ => 0))), (q10, .inl (kA 2, 72, .inl (fun _ => 0))), (q11, .inl (kA 2, 72, .inl (fun _ => 0))), (q12, .inl (kA 2, 12, .inl (fun _ => 0))), (q13, .inl (kA 0, 12, .inl (fun _ => 0))), (q14, .inl (kA 0, 60, .inl (fun _ => 0))), (q15, .inl (kA 0, 36, .inl (fun _ => 0))), (q16, .inl (kA 0, 36, .inl (fun _ => 0))), (q17, .inl (kA 2, 60, .inl (fun _ => 0))), (q18, .inl (kA 2, 60, .inl (fun _ => 0))), (q19, .inl (kA 0, 6, .inl (fun _ => 0))), (q20, .inl (kA 0, 6, .inl (fun _ => 0))), (q21, .inl (kA 0, 6, .inl (fun _ => 0)))] H := hP
  have hD : va_D A [(h, .inr (4, [.int 0, .int 0, .ref q1, .int 0, .int 0, .ref q2, .ref q3, .int 0, .ref q4, .ref q5, .ref q6, .ref q7, .ref q8, .ref q9, .ref q10, .ref q11, .ref q12, .ref q13, .ref q14, .ref q15, .ref q16, .ref q17, .ref q18, .int 0, .ref q19, .ref q20, .null, .null, .null, .null, .null])), (q1, .inl (kA 1, 40, .inl (fun _ => 0))), (q2, .inl (kA 0, 20, .inl (fun _ => 0))), (q3, .inl (kA 0, 20, .inl (fun _ => 0))), (q4, .inl (kA 0, 12, .inl (fun _ => 0))), (q5, .inl (kA 0, 12, .inl (fun _ => 0))), (q6, .inl (kA 0, 12, .inl (fun _ => 0))), (q7, .inl (kA 0, 72, .inl (fun _ => 0))), (q8, .inl (kA 0, 216, .inl (fun _ => 0))), (q9, .inl (kA 0, 216, .inl (fun _ => 0))), (q10, .inl (kA 2, 72, .inl (fun _ => 0))), (q11, .inl (kA 2, 72, .inl (fun _ => 0))), (q12, .inl (kA 2, 12, .inl (fun _ => 0))), (q13, .inl (kA 0, 12, .inl (fun _ => 0))), (q14, .inl (kA 0, 60, .inl (fun _ => 0))), (q15, .inl (kA 0, 36, .inl (fun _ => 0))), (q16, .inl (kA 0, 36, .inl (fun _ => 0))), (q17, .inl (kA 2, 60, .inl (fun _ => 0))), (q18, .inl (kA 2, 60, .inl (fun _ => 0))), (q19, .inl (kA 0, 6, .inl (fun _ => 0))), (q20, .inl (kA 0, 6, .inl (fun _ => 0))), (q21, .inl (kA 0, 6, .inl (fun _ => 0)))] := hD
  refine va_putF (D := D) (ci := 4) (v := .ref q21) (ty := .array .int) (C := xR_Mo) (T := xT_Mo) (N := 31) hx hb hT xi_Mo xt_Mo xt_Mo_ok xn_Mo hown hK.1 hP hD hS 0 rfl rfl 26 (by decide) (hT _ xk_67) (fun _ h9 => h9) rfl hin rfl (by decide +kernel) rfl rfl (Nat.le_of_ble_eq_true rfl) xd_Mo_init_171 (fun H locs hP hD hS => ?_)
  have hP : va_P D xcl [(h, .inr (4, [.int 0, .int 0, .ref q1, .int 0, .int 0, .ref q2, .ref q3, .int 0, .ref q4, .ref q5, .ref q6, .ref q7, .ref q8, .ref q9, .ref q10, .ref q11, .ref q12, .ref q13, .ref q14, .ref q15, .ref q16, .ref q17, .ref q18, .int 0, .ref q19, .ref q20, .ref q21, .null, .null, .null, .null])), (q1, .inl (kA 1, 40, .inl (fun _ => 0))), (q2, .inl (kA 0, 20, .inl (fun _ => 0))), (q3, .inl (kA 0, 20, .inl (fun _ => 0))), (q4, .inl (kA 0, 12, .inl (fun _ => 0))), (q5, .inl (kA 0, 12, .inl (fun _ => 0))), (q6, .inl (kA 0, 12, .inl (fun _ => 0))), (q7, .inl (kA 0, 72, .inl (fun _ => 0))), (q8, .inl (kA 0, 216, .inl (fun _ => 0))), (q9, .inl (kA 0, 216, .inl (fun _ => 0))), (q10, .inl (kA 2, 72, .inl (fun _ => 0))), (q11, .inl (kA 2, 72, .inl (fun _ => 0))), (q12, .inl (kA 2, 12, .inl (fun _ => 0))), (q13, .inl (kA 0, 12, .inl (fun _ => 0))), (q14, .inl (kA 0, 60, .inl (fun _ => 0))), (q15, .inl (kA 0, 36, .inl (fun _ => 0))), (q16, .inl (kA 0, 36, .inl (fun _ => 0))), (q17, .inl (kA 2, 60, .inl (fun _ => 0))), (q18, .inl (kA 2, 60, .inl (fun _ => 0))), (q19, .inl (kA 0, 6, .inl (fun _ => 0))), (q20, .inl (kA 0, 6, .inl (fun _ => 0))), (q21, .inl (kA 0, 6, .inl (fun _ => 0)))] H := hP
  have hD : va_D A [(h, .inr (4, [.int 0, .int 0, .ref q1, .int 0, .int 0, .ref q2, .ref q3, .int 0, .ref q4, .ref q5, .ref q6, .ref q7, .ref q8, .ref q9, .ref q10, .ref q11, .ref q12, .ref q13, .ref q14, .ref q15, .ref q16, .ref q17, .ref q18, .int 0, .ref q19, .ref q20, .ref q21, .null, .null, .null, .null])), (q1, .inl (kA 1, 40, .inl (fun _ => 0))), (q2, .inl (kA 0, 20, .inl (fun _ => 0))), (q3, .inl (kA 0, 20, .inl (fun _ => 0))), (q4, .inl (kA 0, 12, .inl (fun _ => 0))), (q5, .inl (kA 0, 12, .inl (fun _ => 0))), (q6, .inl (kA 0, 12, .inl (fun _ => 0))), (q7, .inl (kA 0, 72, .inl (fun _ => 0))), (q8, .inl (kA 0, 216, .inl (fun _ => 0))), (q9, .inl (kA 0, 216, .inl (fun _ => 0))), (q10, .inl (kA 2, 72, .inl (fun _ => 0))), (q11, .inl (kA 2, 72, .inl (fun _ => 0))), (q12, .inl (kA 2, 12, .inl (fun _ => 0))), (q13, .inl (kA 0, 12, .inl (fun _ => 0))), (q14, .inl (kA 0, 60, .inl (fun _ => 0))), (q15, .inl (kA 0, 36, .inl (fun _ => 0))), (q16, .inl (kA 0, 36, .inl (fun _ => 0))), (q17, .inl (kA 2, 60, .inl (fun _ => 0))), (q18, .inl (kA 2, 60, .inl (fun _ => 0))), (q19, .inl (kA 0, 6, .inl (fun _ => 0))), (q20, .inl (kA 0, 6, .inl (fun _ => 0))), (q21, .inl (kA 0, 6, .inl (fun _ => 0)))] := hD
  refine lv_aload_n hx hb xd_Mo_init_174 rfl (lv_at hl 0 rfl) ?_
  refine lv_bipush (v := 72) hx hb xd_Mo_init_175 (by decide) ?_
  refine xa_newa (atype := .int) (a0 := (72, Sum.inl (fun _ => 0))) (ty := .int) (N' := 72) hx hb (hT _ xk_5) rfl (fun _ h9 => h9) hK.1 0 rfl hP hD hS hA (fun _ => rfl) (by decide) rfl (by decide) (Nat.le_of_ble_eq_true rfl) (Nat.le_of_ble_eq_true rfl) xd_Mo_init_177 (fun q22 H hP hD hS => ?_)
  have hP : va_P D xcl [(h, .inr (4, [.int 0, .int 0, .ref q1, .int 0, .int 0, .ref q2, .ref q3, .int 0, .ref q4, .ref q5, .ref q6, .ref q7, .ref q8, .ref q9, .ref q10, .ref q11, .ref q12, .ref q13, .ref q14, .ref q15, .ref q16, .ref q17, .ref q18, .int 0, .ref q19, .ref q20, .ref q21, .null, .null, .null, .null])), (q1, .inl (kA 1, 40, .inl (fun _ => 0))), (q2, .inl (kA 0, 20, .inl (fun _ => 0))), (q3, .inl (kA 0, 20, .inl (fun _ => 0))), (q4, .inl (kA 0, 12, .inl (fun _ => 0))), (q5, .inl (kA 0, 12, .inl (fun _ => 0))), (q6, .inl (kA 0, 12, .inl (fun _ => 0))), (q7, .inl (kA 0, 72, .inl (fun _ => 0))), (q8, .inl (kA 0, 216, .inl (fun _ => 0))), (q9, .inl (kA 0, 216, .inl (fun _ => 0))), (q10, .inl (kA 2, 72, .inl (fun _ => 0))), (q11, .inl (kA 2, 72, .inl (fun _ => 0))), (q12, .inl (kA 2, 12, .inl (fun _ => 0))), (q13, .inl (kA 0, 12, .inl (fun _ => 0))), (q14, .inl (kA 0, 60, .inl (fun _ => 0))), (q15, .inl (kA 0, 36, .inl (fun _ => 0))), (q16, .inl (kA 0, 36, .inl (fun _ => 0))), (q17, .inl (kA 2, 60, .inl (fun _ => 0))), (q18, .inl (kA 2, 60, .inl (fun _ => 0))), (q19, .inl (kA 0, 6, .inl (fun _ => 0))), (q20, .inl (kA 0, 6, .inl (fun _ => 0))), (q21, .inl (kA 0, 6, .inl (fun _ => 0))), (q22, .inl (kA 0, 72, .inl (fun _ => 0)))] H := hP
  have hD : va_D A [(h, .inr (4, [.int 0, .int 0, .ref q1, .int 0, .int 0, .ref q2, .ref q3, .int 0, .ref q4, .ref q5, .ref q6, .ref q7, .ref q8, .ref q9, .ref q10, .ref q11, .ref q12, .ref q13, .ref q14, .ref q15, .ref q16, .ref q17, .ref q18, .int 0, .ref q19, .ref q20, .ref q21, .null, .null, .null, .null])), (q1, .inl (kA 1, 40, .inl (fun _ => 0))), (q2, .inl (kA 0, 20, .inl (fun _ => 0))), (q3, .inl (kA 0, 20, .inl (fun _ => 0))), (q4, .inl (kA 0, 12, .inl (fun _ => 0))), (q5, .inl (kA 0, 12, .inl (fun _ => 0))), (q6, .inl (kA 0, 12, .inl (fun _ => 0))), (q7, .inl (kA 0, 72, .inl (fun _ => 0))), (q8, .inl (kA 0, 216, .inl (fun _ => 0))), (q9, .inl (kA 0, 216, .inl (fun _ => 0))), (q10, .inl (kA 2, 72, .inl (fun _ => 0))), (q11, .inl (kA 2, 72, .inl (fun _ => 0))), (q12, .inl (kA 2, 12, .inl (fun _ => 0))), (q13, .inl (kA 0, 12, .inl (fun _ => 0))), (q14, .inl (kA 0, 60, .inl (fun _ => 0))), (q15, .inl (kA 0, 36, .inl (fun _ => 0))), (q16, .inl (kA 0, 36, .inl (fun _ => 0))), (q17, .inl (kA 2, 60, .inl (fun _ => 0))), (q18, .inl (kA 2, 60, .inl (fun _ => 0))), (q19, .inl (kA 0, 6, .inl (fun _ => 0))), (q20, .inl (kA 0, 6, .inl (fun _ => 0))), (q21, .inl (kA 0, 6, .inl (fun _ => 0))), (q22, .inl (kA 0, 72, .inl (fun _ => 0)))] := hD
  refine va_putF (D := D) (ci := 4) (v := .ref q22) (ty := .array .int) (C := xR_Mo) (T := xT_Mo) (N := 31) hx hb hT xi_Mo xt_Mo xt_Mo_ok xn_Mo hown hK.1 hP hD hS 0 rfl rfl 27 (by decide) (hT _ xk_68) (fun _ h9 => h9) rfl hin rfl (by decide +kernel) rfl rfl (Nat.le_of_ble_eq_true rfl) xd_Mo_init_179 (fun H locs hP hD hS => ?_)
  have hP : va_P D xcl [(h, .inr (4, [.int 0, .int 0, .ref q1, .int 0, .int 0, .ref q2, .ref q3, .int 0, .ref q4, .ref q5, .ref q6, .ref q7, .ref q8, .ref q9, .ref q10, .ref q11, .ref q12, .ref q13, .ref q14, .ref q15, .ref q16, .ref q17, .ref q18, .int 0, .ref q19, .ref q20, .ref q21, .ref q22, .null, .null, .null])), (q1, .inl (kA 1, 40, .inl (fun _ => 0))), (q2, .inl (kA 0, 20, .inl (fun _ => 0))), (q3, .inl (kA 0, 20, .inl (fun _ => 0))), (q4, .inl (kA 0, 12, .inl (fun _ => 0))), (q5, .inl (kA 0, 12, .inl (fun _ => 0))), (q6, .inl (kA 0, 12, .inl (fun _ => 0))), (q7, .inl (kA 0, 72, .inl (fun _ => 0))), (q8, .inl (kA 0, 216, .inl (fun _ => 0))), (q9, .inl (kA 0, 216, .inl (fun _ => 0))), (q10, .inl (kA 2, 72, .inl (fun _ => 0))), (q11, .inl (kA 2, 72, .inl (fun _ => 0))), (q12, .inl (kA 2, 12, .inl (fun _ => 0))), (q13, .inl (kA 0, 12, .inl (fun _ => 0))), (q14, .inl (kA 0, 60, .inl (fun _ => 0))), (q15, .inl (kA 0, 36, .inl (fun _ => 0))), (q16, .inl (kA 0, 36, .inl (fun _ => 0))), (q17, .inl (kA 2, 60, .inl (fun _ => 0))), (q18, .inl (kA 2, 60, .inl (fun _ => 0))), (q19, .inl (kA 0, 6, .inl (fun _ => 0))), (q20, .inl (kA 0, 6, .inl (fun _ => 0))), (q21, .inl (kA 0, 6, .inl (fun _ => 0))), (q22, .inl (kA 0, 72, .inl (fun _ => 0)))] H := hP
  have hD : va_D A [(h, .inr (4, [.int 0, .int 0, .ref q1, .int 0, .int 0, .ref q2, .ref q3, .int 0, .ref q4, .ref q5, .ref q6, .ref q7, .ref q8, .ref q9, .ref q10, .ref q11, .ref q12, .ref q13, .ref q14, .ref q15, .ref q16, .ref q17, .ref q18, .int 0, .ref q19, .ref q20, .ref q21, .ref q22, .null, .null, .null])), (q1, .inl (kA 1, 40, .inl (fun _ => 0))), (q2, .inl (kA 0, 20, .inl (fun _ => 0))), (q3, .inl (kA 0, 20, .inl (fun _ => 0))), (q4, .inl (kA 0, 12, .inl (fun _ => 0))), (q5, .inl (kA 0, 12, .inl (fun _ => 0))), (q6, .inl (kA 0, 12, .inl (fun _ => 0))), (q7, .inl (kA 0, 72, .inl (fun _ => 0))), (q8, .inl (kA 0, 216, .inl (fun _ => 0))), (q9, .inl (kA 0, 216, .inl (fun _ => 0))), (q10, .inl (kA 2, 72, .inl (fun _ => 0))), (q11, .inl (kA 2, 72, .inl (fun _ => 0))), (q12, .inl (kA 2, 12, .inl (fun _ => 0))), (q13, .inl (kA 0, 12, .inl (fun _ => 0))), (q14, .inl (kA 0, 60, .inl (fun _ => 0))), (q15, .inl (kA 0, 36, .inl (fun _ => 0))), (q16, .inl (kA 0, 36, .inl (fun _ => 0))), (q17, .inl (kA 2, 60, .inl (fun _ => 0))), (q18, .inl (kA 2, 60, .inl (fun _ => 0))), (q19, .inl (kA 0, 6, .inl (fun _ => 0))), (q20, .inl (kA 0, 6, .inl (fun _ => 0))), (q21, .inl (kA 0, 6, .inl (fun _ => 0))), (q22, .inl (kA 0, 72, .inl (fun _ => 0)))] := hD
  refine lv_aload_n hx hb xd_Mo_init_182 rfl (lv_at hl 0 rfl) ?_
  refine lv_bipush (v := 6) hx hb xd_Mo_init_183 (by decide) ?_
  refine xa_newa (atype := .boolean) (a0 := (6, Sum.inl (fun _ => 0))) (ty := .boolean) (N' := 6) hx hb (hT _ xk_55) rfl (fun _ h9 => h9) hK.1 2 rfl hP hD hS hA (fun _ => rfl) (by decide) rfl (by decide) (Nat.le_of_ble_eq_true rfl) (Nat.le_of_ble_eq_true rfl) xd_Mo_init_185 (fun q23 H hP hD hS => ?_)
  have hP : va_P D xcl [(h, .inr (4, [.int 0, .int 0, .ref q1, .int 0, .int 0, .ref q2, .ref q3, .int 0, .ref q4, .ref q5, .ref q6, .ref q7, .ref q8, .ref q9, .ref q10, .ref q11, .ref q12, .ref q13, .ref q14, .ref q15, .ref q16, .ref q17, .ref q18, .int 0, .ref q19, .ref q20, .ref q21, .ref q22, .null, .null, .null])), (q1, .inl (kA 1, 40, .inl (fun _ => 0))), (q2, .inl (kA 0, 20, .inl (fun _ => 0))), (q3, .inl (kA 0, 20, .inl (fun _ => 0))), (q4, .inl (kA 0, 12, .inl (fun _ => 0))), (q5, .inl (kA 0, 12, .inl (fun _ => 0))), (q6, .inl (kA 0, 12, .inl (fun _ => 0))), (q7, .inl (kA 0, 72, .inl (fun _ => 0))), (q8, .inl (kA 0, 216, .inl (fun _ => 0))), (q9, .inl (kA 0, 216, .inl (fun _ => 0))), (q10, .inl (kA 2, 72, .inl (fun _ => 0))), (q11, .inl (kA 2, 72, .inl (fun _ => 0))), (q12, .inl (kA 2, 12, .inl (fun _ => 0))), (q13, .inl (kA 0, 12, .inl (fun _ => 0))), (q14, .inl (kA 0, 60, .inl (fun _ => 0))), (q15, .inl (kA 0, 36, .inl (fun _ => 0))), (q16, .inl (kA 0, 36, .inl (fun _ => 0))), (q17, .inl (kA 2, 60, .inl (fun _ => 0))), (q18, .inl (kA 2, 60, .inl (fun _ => 0))), (q19, .inl (kA 0, 6, .inl (fun _ => 0))), (q20, .inl (kA 0, 6, .inl (fun _ => 0))), (q21, .inl (kA 0, 6, .inl (fun _ => 0))), (q22, .inl (kA 0, 72, .inl (fun _ => 0))), (q23, .inl (kA 2, 6, .inl (fun _ => 0)))] H := hP
  have hD : va_D A [(h, .inr (4, [.int 0, .int 0, .ref q1, .int 0, .int 0, .ref q2, .ref q3, .int 0, .ref q4, .ref q5, .ref q6, .ref q7, .ref q8, .ref q9, .ref q10, .ref q11, .ref q12, .ref q13, .ref q14, .ref q15, .ref q16, .ref q17, .ref q18, .int 0, .ref q19, .ref q20, .ref q21, .ref q22, .null, .null, .null])), (q1, .inl (kA 1, 40, .inl (fun _ => 0))), (q2, .inl (kA 0, 20, .inl (fun _ => 0))), (q3, .inl (kA 0, 20, .inl (fun _ => 0))), (q4, .inl (kA 0, 12, .inl (fun _ => 0))), (q5, .inl (kA 0, 12, .inl (fun _ => 0))), (q6, .inl (kA 0, 12, .inl (fun _ => 0))), (q7, .inl (kA 0, 72, .inl (fun _ => 0))), (q8, .inl (kA 0, 216, .inl (fun _ => 0))), (q9, .inl (kA 0, 216, .inl (fun _ => 0))), (q10, .inl (kA 2, 72, .inl (fun _ => 0))), (q11, .inl (kA 2, 72, .inl (fun _ => 0))), (q12, .inl (kA 2, 12, .inl (fun _ => 0))), (q13, .inl (kA 0, 12, .inl (fun _ => 0))), (q14, .inl (kA 0, 60, .inl (fun _ => 0))), (q15, .inl (kA 0, 36, .inl (fun _ => 0))), (q16, .inl (kA 0, 36, .inl (fun _ => 0))), (q17, .inl (kA 2, 60, .inl (fun _ => 0))), (q18, .inl (kA 2, 60, .inl (fun _ => 0))), (q19, .inl (kA 0, 6, .inl (fun _ => 0))), (q20, .inl (kA 0, 6, .inl (fun _ => 0))), (q21, .inl (kA 0, 6, .inl (fun _ => 0))), (q22, .inl (kA 0, 72, .inl (fun _ => 0))), (q23, .inl (kA 2, 6, .inl (fun _ => 0)))] := hD
  refine va_putF (D := D) (ci := 4) (v := .ref q23) (ty := .array .boolean) (C := xR_Mo) (T := xT_Mo) (N := 31) hx hb hT xi_Mo xt_Mo xt_Mo_ok xn_Mo hown hK.1 hP hD hS 0 rfl rfl 28 (by decide) (hT _ xk_69) (fun _ h9 => h9) rfl hin rfl (by decide +kernel) rfl rfl (Nat.le_of_ble_eq_true rfl) xd_Mo_init_187 (fun H locs hP hD hS => ?_)
  have hP : va_P D xcl [(h, .inr (4, [.int 0, .int 0, .ref q1, .int 0, .int 0, .ref q2, .ref q3, .int 0, .ref q4, .ref q5, .ref q6, .ref q7, .ref q8, .ref q9, .ref q10, .ref q11, .ref q12, .ref q13, .ref q14, .ref q15, .ref q16, .ref q17, .ref q18, .int 0, .ref q19, .ref q20, .ref q21, .ref q22, .ref q23, .null, .null])), (q1, .inl (kA 1, 40, .inl (fun _ => 0))), (q2, .inl (kA 0, 20, .inl (fun _ => 0))), (q3, .inl (kA 0, 20, .inl (fun _ => 0))), (q4, .inl (kA 0, 12, .inl (fun _ => 0))), (q5, .inl (kA 0, 12, .inl (fun _ => 0))), (q6, .inl (kA 0, 12, .inl (fun _ => 0))), (q7, .inl (kA 0, 72, .inl (fun _ => 0))), (q8, .inl (kA 0, 216, .inl (fun _ => 0))), (q9, .inl (kA 0, 216, .inl (fun _ => 0))), (q10, .inl (kA 2, 72, .inl (fun _ => 0))), (q11, .inl (kA 2, 72, .inl (fun _ => 0))), (q12, .inl (kA 2, 12, .inl (fun _ => 0))), (q13, .inl (kA 0, 12, .inl (fun _ => 0))), (q14, .inl (kA 0, 60, .inl (fun _ => 0))), (q15, .inl (kA 0, 36, .inl (fun _ => 0))), (q16, .inl (kA 0, 36, .inl (fun _ => 0))), (q17, .inl (kA 2, 60, .inl (fun _ => 0))), (q18, .inl (kA 2, 60, .inl (fun _ => 0))), (q19, .inl (kA 0, 6, .inl (fun _ => 0))), (q20, .inl (kA 0, 6, .inl (fun _ => 0))), (q21, .inl (kA 0, 6, .inl (fun _ => 0))), (q22, .inl (kA 0, 72, .inl (fun _ => 0))), (q23, .inl (kA 2, 6, .inl (fun _ => 0)))] H := hP
  have hD : va_D A [(h, .inr (4, [.int 0, .int 0, .ref q1, .int 0, .int 0, .ref q2, .ref q3, .int 0, .ref q4, .ref q5, .ref q6, .ref q7, .ref q8, .ref q9, .ref q10, .ref q11, .ref q12, .ref q13, .ref q14, .ref q15, .ref q16, .ref q17, .ref q18, .int 0, .ref q19, .ref q20, .ref q21, .ref q22, .ref q23, .null, .null])), (q1, .inl (kA 1, 40, .inl (fun _ => 0))), (q2, .inl (kA 0, 20, .inl (fun _ => 0))), (q3, .inl (kA 0, 20, .inl (fun _ => 0))), (q4, .inl (kA 0, 12, .inl (fun _ => 0))), (q5, .inl (kA 0, 12, .inl (fun _ => 0))), (q6, .inl (kA 0, 12, .inl (fun _ => 0))), (q7, .inl (kA 0, 72, .inl (fun _ => 0))), (q8, .inl (kA 0, 216, .inl (fun _ => 0))), (q9, .inl (kA 0, 216, .inl (fun _ => 0))), (q10, .inl (kA 2, 72, .inl (fun _ => 0))), (q11, .inl (kA 2, 72, .inl (fun _ => 0))), (q12, .inl (kA 2, 12, .inl (fun _ => 0))), (q13, .inl (kA 0, 12, .inl (fun _ => 0))), (q14, .inl (kA 0, 60, .inl (fun _ => 0))), (q15, .inl (kA 0, 36, .inl (fun _ => 0))), (q16, .inl (kA 0, 36, .inl (fun _ => 0))), (q17, .inl (kA 2, 60, .inl (fun _ => 0))), (q18, .inl (kA 2, 60, .inl (fun _ => 0))), (q19, .inl (kA 0, 6, .inl (fun _ => 0))), (q20, .inl (kA 0, 6, .inl (fun _ => 0))), (q21, .inl (kA 0, 6, .inl (fun _ => 0))), (q22, .inl (kA 0, 72, .inl (fun _ => 0))), (q23, .inl (kA 2, 6, .inl (fun _ => 0)))] := hD
  refine lv_aload_n hx hb xd_Mo_init_190 rfl (lv_at hl 0 rfl) ?_
  refine lv_bipush (v := 80) hx hb xd_Mo_init_191 (by decide) ?_
  refine xa_newa (atype := .int) (a0 := (80, Sum.inl (fun _ => 0))) (ty := .int) (N' := 80) hx hb (hT _ xk_5) rfl (fun _ h9 => h9) hK.1 0 rfl hP hD hS hA (fun _ => rfl) (by decide) rfl (by decide) (Nat.le_of_ble_eq_true rfl) (Nat.le_of_ble_eq_true rfl) xd_Mo_init_193 (fun q24 H hP hD hS => ?_)
  have hP : va_P D xcl [(h, .inr (4, [.int 0, .int 0, .ref q1, .int 0, .int 0, .ref q2, .ref q3, .int 0, .ref q4, .ref q5, .ref q6, .ref q7, .ref q8, .ref q9, .ref q10, .ref q11, .ref q12, .ref q13, .ref q14, .ref q15, .ref q16, .ref q17, .ref q18, .int 0, .ref q19, .ref q20, .ref q21, .ref q22, .ref q23, .null, .null])), (q1, .inl (kA 1, 40, .inl (fun _ => 0))), (q2, .inl (kA 0, 20, .inl (fun _ => 0))), (q3, .inl (kA 0, 20, .inl (fun _ => 0))), (q4, .inl (kA 0, 12, .inl (fun _ => 0))), (q5, .inl (kA 0, 12, .inl (fun _ => 0))), (q6, .inl (kA 0, 12, .inl (fun _ => 0))), (q7, .inl (kA 0, 72, .inl (fun _ => 0))), (q8, .inl (kA 0, 216, .inl (fun _ => 0))), (q9, .inl (kA 0, 216, .inl (fun _ => 0))), (q10, .inl (kA 2, 72, .inl (fun _ => 0))), (q11, .inl (kA 2, 72, .inl (fun _ => 0))), (q12, .inl (kA 2, 12, .inl (fun _ => 0))), (q13, .inl (kA 0, 12, .inl (fun _ => 0))), (q14, .inl (kA 0, 60, .inl (fun _ => 0))), (q15, .inl (kA 0, 36, .inl (fun _ => 0))), (q16, .inl (kA 0, 36, .inl (fun _ => 0))), (q17, .inl (kA 2, 60, .inl (fun _ => 0))), (q18, .inl (kA 2, 60, .inl (fun _ => 0))), (q19, .inl (kA 0, 6, .inl (fun _ => 0))), (q20, .inl (kA 0, 6, .inl (fun _ => 0))), (q21, .inl (kA 0, 6, .inl (fun _ => 0))), (q22, .inl (kA 0, 72, .inl (fun _ => 0))), (q23, .inl (kA 2, 6, .inl (fun _ => 0))), (q24, .inl (kA 0, 80, .inl (fun _ => 0)))] H := hP
  have hD : va_D A [(h, .inr (4, [.int 0, .int 0, .ref q1, .int 0, .int 0, .ref q2, .ref q3, .int 0, .ref q4, .ref q5, .ref q6, .ref q7, .ref q8, .ref q9, .ref q10, .ref q11, .ref q12, .ref q13, .ref q14, .ref q15, .ref q16, .ref q17, .ref q18, .int 0, .ref q19, .ref q20, .ref q21, .ref q22, .ref q23, .null, .null])), (q1, .inl (kA 1, 40, .inl (fun _ => 0))), (q2, .inl (kA 0, 20, .inl (fun _ => 0))), (q3, .inl (kA 0, 20, .inl (fun _ => 0))), (q4, .inl (kA 0, 12, .inl (fun _ => 0))), (q5, .inl (kA 0, 12, .inl (fun _ => 0))), (q6, .inl (kA 0, 12, .inl (fun _ => 0))), (q7, .inl (kA 0, 72, .inl (fun _ => 0))), (q8, .inl (kA 0, 216, .inl (fun _ => 0))), (q9, .inl (kA 0, 216, .inl (fun _ => 0))), (q10, .inl (kA 2, 72, .inl (fun _ => 0))), (q11, .inl (kA 2, 72, .inl (fun _ => 0))), (q12, .inl (kA 2, 12, .inl (fun _ => 0))), (q13, .inl (kA 0, 12, .inl (fun _ => 0))), (q14, .inl (kA 0, 60, .inl (fun _ => 0))), (q15, .inl (kA 0, 36, .inl (fun _ => 0))), (q16, .inl (kA 0, 36, .inl (fun _ => 0))), (q17, .inl (kA 2, 60, .inl (fun _ => 0))), (q18, .inl (kA 2, 60, .inl (fun _ => 0))), (q19, .inl (kA 0, 6, .inl (fun _ => 0))), (q20, .inl (kA 0, 6, .inl (fun _ => 0))), (q21, .inl (kA 0, 6, .inl (fun _ => 0))), (q22, .inl (kA 0, 72, .inl (fun _ => 0))), (q23, .inl (kA 2, 6, .inl (fun _ => 0))), (q24, .inl (kA 0, 80, .inl (fun _ => 0)))] := hD
  refine va_putF (D := D) (ci := 4) (v := .ref q24) (ty := .array .int) (C := xR_Mo) (T := xT_Mo) (N := 31) hx hb hT xi_Mo xt_Mo xt_Mo_ok xn_Mo hown hK.1 hP hD hS 0 rfl rfl 29 (by decide) (hT _ xk_70) (fun _ h9 => h9) rfl hin rfl (by decide +kernel) rfl rfl (Nat.le_of_ble_eq_true rfl) xd_Mo_init_195 (fun H locs hP hD hS => ?_)
  have hP : va_P D xcl [(h, .inr (4, [.int 0, .int 0, .ref q1, .int 0, .int 0, .ref q2, .ref q3, .int 0, .ref q4, .ref q5, .ref q6, .ref q7, .ref q8, .ref q9, .ref q10, .ref q11, .ref q12, .ref q13, .ref q14, .ref q15, .ref q16, .ref q17, .ref q18, .int 0, .ref q19, .ref q20, .ref q21, .ref q22, .ref q23, .ref q24, .null])), (q1, .inl (kA 1, 40, .inl (fun _ => 0))), (q2, .inl (kA 0, 20, .inl (fun _ => 0))), (q3, .inl (kA 0, 20, .inl (fun _ => 0))), (q4, .inl (kA 0, 12, .inl (fun _ => 0))), (q5, .inl (kA 0, 12, .inl (fun _ => 0))), (q6, .inl (kA 0, 12, .inl (fun _ => 0))), (q7, .inl (kA 0, 72, .inl (fun _ => 0))), (q8, .inl (kA 0, 216, .inl (fun _ => 0))), (q9, .inl (kA 0, 216, .inl (fun _ => 0))), (q10, .inl (kA 2, 72, .inl (fun _ => 0))), (q11, .inl (kA 2, 72, .inl (fun _ => 0))), (q12, .inl (kA 2, 12, .inl (fun _ => 0))), (q13, .inl (kA 0, 12, .inl (fun _ => 0))), (q14, .inl (kA 0, 60, .inl (fun _ => 0))), (q15, .inl (kA 0, 36, .inl (fun _ => 0))), (q16, .inl (kA 0, 36, .inl (fun _ => 0))), (q17, .inl (kA 2, 60, .inl (fun _ => 0))), (q18, .inl (kA 2, 60, .inl (fun _ => 0))), (q19, .inl (kA 0, 6, .inl (fun _ => 0))), (q20, .inl (kA 0, 6, .inl (fun _ => 0))), (q21, .inl (kA 0, 6, .inl (fun _ => 0))), (q22, .inl (kA 0, 72, .inl (fun _ => 0))), (q23, .inl (kA 2, 6, .inl (fun _ => 0))), (q24, .inl (kA 0, 80, .inl (fun _ => 0)))] H := hP
  have hD : va_D A [(h, .inr (4, [.int 0, .int 0, .ref q1, .int 0, .int 0, .ref q2, .ref q3, .int 0, .ref q4, .ref q5, .ref q6, .ref q7, .ref q8, .ref q9, .ref q10, .ref q11, .ref q12, .ref q13, .ref q14, .ref q15, .ref q16, .ref q17, .ref q18, .int 0, .ref q19, .ref q20, .ref q21, .ref q22, .ref q23, .ref q24, .null])), (q1, .inl (kA 1, 40, .inl (fun _ => 0))), (q2, .inl (kA 0, 20, .inl (fun _ => 0))), (q3, .inl (kA 0, 20, .inl (fun _ => 0))), (q4, .inl (kA 0, 12, .inl (fun _ => 0))), (q5, .inl (kA 0, 12, .inl (fun _ => 0))), (q6, .inl (kA 0, 12, .inl (fun _ => 0))), (q7, .inl (kA 0, 72, .inl (fun _ => 0))), (q8, .inl (kA 0, 216, .inl (fun _ => 0))), (q9, .inl (kA 0, 216, .inl (fun _ => 0))), (q10, .inl (kA 2, 72, .inl (fun _ => 0))), (q11, .inl (kA 2, 72, .inl (fun _ => 0))), (q12, .inl (kA 2, 12, .inl (fun _ => 0))), (q13, .inl (kA 0, 12, .inl (fun _ => 0))), (q14, .inl (kA 0, 60, .inl (fun _ => 0))), (q15, .inl (kA 0, 36, .inl (fun _ => 0))), (q16, .inl (kA 0, 36, .inl (fun _ => 0))), (q17, .inl (kA 2, 60, .inl (fun _ => 0))), (q18, .inl (kA 2, 60, .inl (fun _ => 0))), (q19, .inl (kA 0, 6, .inl (fun _ => 0))), (q20, .inl (kA 0, 6, .inl (fun _ => 0))), (q21, .inl (kA 0, 6, .inl (fun _ => 0))), (q22, .inl (kA 0, 72, .inl (fun _ => 0))), (q23, .inl (kA 2, 6, .inl (fun _ => 0))), (q24, .inl (kA 0, 80, .inl (fun _ => 0)))] := hD
  refine lv_aload_n hx hb xd_Mo_init_198 rfl (lv_at hl 0 rfl) ?_
  refine lv_bipush (v := 72) hx hb xd_Mo_init_199 (by decide) ?_
  refine xa_newa (atype := .boolean) (a0 := (72, Sum.inl (fun _ => 0))) (ty := .boolean) (N' := 72) hx hb (hT _ xk_55) rfl (fun _ h9 => h9) hK.1 2 rfl hP hD hS hA (fun _ => rfl) (by decide) rfl (by decide) (Nat.le_of_ble_eq_true rfl) (Nat.le_of_ble_eq_true rfl) xd_Mo_init_201 (fun q25 H hP hD hS => ?_)
  have hP : va_P D xcl [(h, .inr (4, [.int 0, .int 0, .ref q1, .int 0, .int 0, .ref q2, .ref q3, .int 0, .ref q4, .ref q5, .ref q6, .ref q7, .ref q8, .ref q9, .ref q10, .ref q11, .ref q12, .ref q13, .ref q14, .ref q15, .ref q16, .ref q17, .ref q18, .int 0, .ref q19, .ref q20, .ref q21, .ref q22, .ref q23, .ref q24, .null])), (q1, .inl (kA 1, 40, .inl (fun _ => 0))), (q2, .inl (kA 0, 20, .inl (fun _ => 0))), (q3, .inl (kA 0, 20, .inl (fun _ => 0))), (q4, .inl (kA 0, 12, .inl (fun _ => 0))), (q5, .inl (kA 0, 12, .inl (fun _ => 0))), (q6, .inl (kA 0, 12, .inl (fun _ => 0))), (q7, .inl (kA 0, 72, .inl (fun _ => 0))), (q8, .inl (kA 0, 216, .inl (fun _ => 0))), (q9, .inl (kA 0, 216, .inl (fun _ => 0))), (q10, .inl (kA 2, 72, .inl (fun _ => 0))), (q11, .inl (kA 2, 72, .inl (fun _ => 0))), (q12, .inl (kA 2, 12, .inl (fun _ => 0))), (q13, .inl (kA 0, 12, .inl (fun _ => 0))), (q14, .inl (kA 0, 60, .inl (fun _ => 0))), (q15, .inl (kA 0, 36, .inl (fun _ => 0))), (q16, .inl (kA 0, 36, .inl (fun _ => 0))), (q17, .inl (kA 2, 60, .inl (fun _ => 0))), (q18, .inl (kA 2, 60, .inl (fun _ => 0))), (q19, .inl (kA 0, 6, .inl (fun _ => 0))), (q20, .inl (kA 0, 6, .inl (fun _ => 0))), (q21, .inl (kA 0, 6, .inl (fun _ => 0))), (q22, .inl (kA 0, 72, .inl (fun _ => 0))), (q23, .inl (kA 2, 6, .inl (fun _ => 0))), (q24, .inl (kA 0, 80, .inl (fun _ => 0))), (q25, .inl (kA 2, 72, .inl (fun _ => 0)))] H := hP
  have hD : va_D A [(h, .inr (4, [.int 0, .int 0, .ref q1, .int 0, .int 0, .ref q2, .ref q3, .int 0, .ref q4, .ref q5, .ref q6, .ref q7, .ref q8, .ref q9, .ref q10, .ref q11, .ref q12, .ref q13, .ref q14, .ref q15, .ref q16, .ref q17, .ref q18, .int 0, .ref q19, .ref q20, .ref q21, .ref q22, .ref q23, .ref q24, .null])), (q1, .inl (kA 1, 40, .inl (fun _ => 0))), (q2, .inl (kA 0, 20, .inl (fun _ => 0))), (q3, .inl (kA 0, 20, .inl (fun _ => 0))), (q4, .inl (kA 0, 12, .inl (fun _ => 0))), (q5, .inl (kA 0, 12, .inl (fun _ => 0))), (q6, .inl (kA 0, 12, .inl (fun _ => 0))), (q7, .inl (kA 0, 72, .inl (fun _ => 0))), (q8, .inl (kA 0, 216, .inl (fun _ => 0))), (q9, .inl (kA 0, 216, .inl (fun _ => 0))), (q10, .inl (kA 2, 72, .inl (fun _ => 0))), (q11, .inl (kA 2, 72, .inl (fun _ => 0))), (q12, .inl (kA 2, 12, .inl (fun _ => 0))), (q13, .inl (kA 0, 12, .inl (fun _ => 0))), (q14, .inl (kA 0, 60, .inl (fun _ => 0))), (q15, .inl (kA 0, 36, .inl (fun _ => 0))), (q16, .inl (kA 0, 36, .inl (fun _ => 0))), (q17, .inl (kA 2, 60, .inl (fun _ => 0))), (q18, .inl (kA 2, 60, .inl (fun _ => 0))), (q19, .inl (kA 0, 6, .inl (fun _ => 0))), (q20, .inl (kA 0, 6, .inl (fun _ => 0))), (q21, .inl (kA 0, 6, .inl (fun _ => 0))), (q22, .inl (kA 0, 72, .inl (fun _ => 0))), (q23, .inl (kA 2, 6, .inl (fun _ => 0))), (q24, .inl (kA 0, 80, .inl (fun _ => 0))), (q25, .inl (kA 2, 72, .inl (fun _ => 0)))] := hD
  refine va_putF (D := D) (ci := 4) (v := .ref q25) (ty := .array .boolean) (C := xR_Mo) (T := xT_Mo) (N := 31) hx hb hT xi_Mo xt_Mo xt_Mo_ok xn_Mo hown hK.1 hP hD hS 0 rfl rfl 30 (by decide) (hT _ xk_71) (fun _ h9 => h9) rfl hin rfl (by decide +kernel) rfl rfl (Nat.le_of_ble_eq_true rfl) xd_Mo_init_203 (fun H locs hP hD hS => ?_)
  have hP : va_P D xcl [(h, .inr (4, [.int 0, .int 0, .ref q1, .int 0, .int 0, .ref q2, .ref q3, .int 0, .ref q4, .ref q5, .ref q6, .ref q7, .ref q8, .ref q9, .ref q10, .ref q11, .ref q12, .ref q13, .ref q14, .ref q15, .ref q16, .ref q17, .ref q18, .int 0, .ref q19, .ref q20, .ref q21, .ref q22, .ref q23, .ref q24, .ref q25])), (q1, .inl (kA 1, 40, .inl (fun _ => 0))), (q2, .inl (kA 0, 20, .inl (fun _ => 0))), (q3, .inl (kA 0, 20, .inl (fun _ => 0))), (q4, .inl (kA 0, 12, .inl (fun _ => 0))), (q5, .inl (kA 0, 12, .inl (fun _ => 0))), (q6, .inl (kA 0, 12, .inl (fun _ => 0))), (q7, .inl (kA 0, 72, .inl (fun _ => 0))), (q8, .inl (kA 0, 216, .inl (fun _ => 0))), (q9, .inl (kA 0, 216, .inl (fun _ => 0))), (q10, .inl (kA 2, 72, .inl (fun _ => 0))), (q11, .inl (kA 2, 72, .inl (fun _ => 0))), (q12, .inl (kA 2, 12, .inl (fun _ => 0))), (q13, .inl (kA 0, 12, .inl (fun _ => 0))), (q14, .inl (kA 0, 60, .inl (fun _ => 0))), (q15, .inl (kA 0, 36, .inl (fun _ => 0))), (q16, .inl (kA 0, 36, .inl (fun _ => 0))), (q17, .inl (kA 2, 60, .inl (fun _ => 0))), (q18, .inl (kA 2, 60, .inl (fun _ => 0))), (q19, .inl (kA 0, 6, .inl (fun _ => 0))), (q20, .inl (kA 0, 6, .inl (fun _ => 0))), (q21, .inl (kA 0, 6, .inl (fun _ => 0))), (q22, .inl (kA 0, 72, .inl (fun _ => 0))), (q23, .inl (kA 2, 6, .inl (fun _ => 0))), (q24, .inl (kA 0, 80, .inl (fun _ => 0))), (q25, .inl (kA 2, 72, .inl (fun _ => 0)))] H := hP
  have hD : va_D A [(h, .inr (4, [.int 0, .int 0, .ref q1, .int 0, .int 0, .ref q2, .ref q3, .int 0, .ref q4, .ref q5, .ref q6, .ref q7, .ref q8, .ref q9, .ref q10, .ref q11, .ref q12, .ref q13, .ref q14, .ref q15, .ref q16, .ref q17, .ref q18, .int 0, .ref q19, .ref q20, .ref q21, .ref q22, .ref q23, .ref q24, .ref q25])), (q1, .inl (kA 1, 40, .inl (fun _ => 0))), (q2, .inl (kA 0, 20, .inl (fun _ => 0))), (q3, .inl (kA 0, 20, .inl (fun _ => 0))), (q4, .inl (kA 0, 12, .inl (fun _ => 0))), (q5, .inl (kA 0, 12, .inl (fun _ => 0))), (q6, .inl (kA 0, 12, .inl (fun _ => 0))), (q7, .inl (kA 0, 72, .inl (fun _ => 0))), (q8, .inl (kA 0, 216, .inl (fun _ => 0))), (q9, .inl (kA 0, 216, .inl (fun _ => 0))), (q10, .inl (kA 2, 72, .inl (fun _ => 0))), (q11, .inl (kA 2, 72, .inl (fun _ => 0))), (q12, .inl (kA 2, 12, .inl (fun _ => 0))), (q13, .inl (kA 0, 12, .inl (fun _ => 0))), (q14, .inl (kA 0, 60, .inl (fun _ => 0))), (q15, .inl (kA 0, 36, .inl (fun _ => 0))), (q16, .inl (kA 0, 36, .inl (fun _ => 0))), (q17, .inl (kA 2, 60, .inl (fun _ => 0))), (q18, .inl (kA 2, 60, .inl (fun _ => 0))), (q19, .inl (kA 0, 6, .inl (fun _ => 0))), (q20, .inl (kA 0, 6, .inl (fun _ => 0))), (q21, .inl (kA 0, 6, .inl (fun _ => 0))), (q22, .inl (kA 0, 72, .inl (fun _ => 0))), (q23, .inl (kA 2, 6, .inl (fun _ => 0))), (q24, .inl (kA 0, 80, .inl (fun _ => 0))), (q25, .inl (kA 2, 72, .inl (fun _ => 0)))] := hD
  have hP9 := hP.sub (ws' := [(h, .inr (4, [.int 0, .int 0, .ref q1, .int 0, .int 0, .ref q2, .ref q3, .int 0, .ref q4, .ref q5, .ref q6, .ref q7, .ref q8, .ref q9, .ref q10, .ref q11, .ref q12, .ref q13, .ref q14, .ref q15, .ref q16, .ref q17, .ref q18, .int 0, .ref q19, .ref q20, .ref q21, .ref q22, .ref q23, .ref q24, .ref q25])), (q1, .inl (kA 1, 40, .inl (fun _ => 0))), (q2, .inl (kA 0, 20, .inl (fun _ => 0))), (q3, .inl (kA 0, 20, .inl (fun _ => 0))), (q4, .inl (kA 0, 12, .inl (fun _ => 0))), (q5, .inl (kA 0, 12, .inl (fun _ => 0))), (q6, .inl (kA 0, 12, .inl (fun _ => 0))), (q7, .inl (kA 0, 72, .inl (fun _ => 0))), (q8, .inl (kA 0, 216, .inl (fun _ => 0))), (q9, .inl (kA 0, 216, .inl (fun _ => 0))), (q10, .inl (kA 2, 72, .inl (fun _ => 0))), (q11, .inl (kA 2, 72, .inl (fun _ => 0))), (q12, .inl (kA 2, 12, .inl (fun _ => 0))), (q13, .inl (kA 0, 12, .inl (fun _ => 0))), (q14, .inl (kA 0, 60, .inl (fun _ => 0))), (q15, .inl (kA 0, 36, .inl (fun _ => 0))), (q16, .inl (kA 0, 36, .inl (fun _ => 0))), (q17, .inl (kA 2, 60, .inl (fun _ => 0))), (q18, .inl (kA 2, 60, .inl (fun _ => 0))), (q19, .inl (kA 0, 6, .inl (fun _ => 0))), (q20, .inl (kA 0, 6, .inl (fun _ => 0))), (q21, .inl (kA 0, 6, .inl (fun _ => 0))), (q22, .inl (kA 0, 72, .inl (fun _ => 0))), (q23, .inl (kA 2, 6, .inl (fun _ => 0))), (q24, .inl (kA 0, 80, .inl (fun _ => 0))), (q25, .inl (kA 2, 72, .inl (fun _ => 0)))]) [0, 1, 2, 3, 4, 5, 6, 7, 8, 9, 10, 11, 12, 13, 14, 15, 16, 17, 18, 19, 20, 21, 22, 23, 24, 25] rfl
  have hD9 := hD.sub (ws' := [(h, .inr (4, [.int 0, .int 0, .ref q1, .int 0, .int 0, .ref q2, .ref q3, .int 0, .ref q4, .ref q5, .ref q6, .ref q7, .ref q8, .ref q9, .ref q10, .ref q11, .ref q12, .ref q13, .ref q14, .ref q15, .ref q16, .ref q17, .ref q18, .int 0, .ref q19, .ref q20, .ref q21, .ref q22, .ref q23, .ref q24, .ref q25])), (q1, .inl (kA 1, 40, .inl (fun _ => 0))), (q2, .inl (kA 0, 20, .inl (fun _ => 0))), (q3, .inl (kA 0, 20, .inl (fun _ => 0))), (q4, .inl (kA 0, 12, .inl (fun _ => 0))), (q5, .inl (kA 0, 12, .inl (fun _ => 0))), (q6, .inl (kA 0, 12, .inl (fun _ => 0))), (q7, .inl (kA 0, 72, .inl (fun _ => 0))), (q8, .inl (kA 0, 216, .inl (fun _ => 0))), (q9, .inl (kA 0, 216, .inl (fun _ => 0))), (q10, .inl (kA 2, 72, .inl (fun _ => 0))), (q11, .inl (kA 2, 72, .inl (fun _ => 0))), (q12, .inl (kA 2, 12, .inl (fun _ => 0))), (q13, .inl (kA 0, 12, .inl (fun _ => 0))), (q14, .inl (kA 0, 60, .inl (fun _ => 0))), (q15, .inl (kA 0, 36, .inl (fun _ => 0))), (q16, .inl (kA 0, 36, .inl (fun _ => 0))), (q17, .inl (kA 2, 60, .inl (fun _ => 0))), (q18, .inl (kA 2, 60, .inl (fun _ => 0))), (q19, .inl (kA 0, 6, .inl (fun _ => 0))), (q20, .inl (kA 0, 6, .inl (fun _ => 0))), (q21, .inl (kA 0, 6, .inl (fun _ => 0))), (q22, .inl (kA 0, 72, .inl (fun _ => 0))), (q23, .inl (kA 2, 6, .inl (fun _ => 0))), (q24, .inl (kA 0, 80, .inl (fun _ => 0))), (q25, .inl (kA 2, 72, .inl (fun _ => 0)))]) [0, 1, 2, 3, 4, 5, 6, 7, 8, 9, 10, 11, 12, 13, 14, 15, 16, 17, 18, 19, 20, 21, 22, 23, 24, 25] (by decide) rfl
  refine W.widen (k := 25) (n := 1288) (Nat.le_of_ble_eq_true rfl) (Nat.le_of_ble_eq_true rfl) ?_
  exact W.vret hx hb hr (fun t ht hW => ⟨⟨(q1, q2, q3, q4, q5, q6, q7, q8, q9, q10, q11, q12, q13, q14, q15, q16, q17, q18, q19, q20, q21, q22, q23, q24, q25), rfl, trivial, by rw [ht]; exact hP9, hD9⟩, hS.F ht⟩) hS.2.2 xd_Mo_init_206
end
section
theorem x_keepP {D : va_G} {cl : List vw_C} {ws : va_W} {H H1 : Heap} (h : va_P D cl ws H) (hq : ∀ q : Nat, q < H.size → H1[q]? = H[q]?) : va_P D cl ws H1 := fun k q hk => (h k q hk).kept (hq q.1 (h k q hk).lt)
theorem x_FX {A : Nat → Prop} {s t : State} {H : Heap} {locs : List Loc} (hS : va_S A s.heap H locs) (hz : H.size ≤ t.heap.size) (hq : ∀ q : Nat, q < H.size → t.heap[q]? = H[q]?) : va_F A s t := ⟨Nat.le_trans hS.1 hz, fun q h1 h2 => by rw [hq q (Nat.lt_of_lt_of_le h1 hS.1)]; exact hS.2.1 q h1 h2⟩
abbrev xUS (A : Nat → Prop) (U : State) (H : Heap) : Prop := vx_Zq Bundle.tN "UNASSIGNED_STACK" Bundle.steD A U H ∧ vx_Zq Bundle.tN "SUPPRESSED_SENTINEL" Bundle.listD A U H
theorem xUS_kept {A : Nat → Prop} {s : State} {H : Heap} {locs : List Loc} (hU : xUS A s s.heap) (hS : va_S A s.heap H locs) : xUS A s H := ⟨vx_Zq.kept hU.1 hS.2.1, vx_Zq.kept hU.2 hS.2.1⟩
def xPreX (D : va_G) (kA : Nat → ClassId) (sz : Nat) (ws : va_W) (own : String) (is : Nat) (text : String) (sa : Nat) (U : State) : Prop := xPre D kA sz ws U ∧ xUS (va_A ws sz) U U.heap ∧ vk_R own is text sa U
theorem x_blindX {av : List Value} {D : va_G} {kA : Nat → ClassId} {sz : Nat} {ws : va_W} {own text : String} {is sa : Nat} : FrameBlind (va_Pc av (xPreX D kA sz ws own is text sa)) := fun a U g mk h => by
  obtain ⟨q0, qp, ⟨qu, qv⟩, qs⟩ := h
  have hp := x_blind (av := a.toList) (D := D) (kA := kA) (sz := sz) (ws := ws) a U g mk ⟨by simp, qp⟩
  exact ⟨q0, hp.2, ⟨vx_Zq.moved (u := U) (U := U.calling g mk a) (Vm.Alike.refl U.vm) qu, vx_Zq.moved (u := U) (U := U.calling g mk a) (Vm.Alike.refl U.vm) qv⟩, vk_R.same (u := U) (U := U.calling g mk a) rfl qs⟩
theorem x_preVX {s : State} {H : Heap} {D : va_G} {kA : Nat → ClassId} {wc : va_W} {A : Nat → Prop} {As : List Value} {b ci : Nat} {fs : List Value} {q : vw_C} {own text : String} {is sa : Nat} (hK : xK D kA s) (hP : va_P D xcl wc H) (hD : va_D A wc) (q0 : Nat) (he : wc[q0]? = some (b, .inr (ci, fs))) (hc : xcl[ci]? = some q) (hF : ∀ q, va_A wc H.size q → A q) (hU : xUS A s H) (hs : vk_R own is text sa s) : PreV s H q.1 b (va_Pc (.ref b :: As) (xPreX D kA H.size wc own is text sa)) As :=
  ⟨x_blindX, va_recv hK.1 hP hc he, fun U hU1 hW => ⟨rfl, ⟨by rw [hU1], by rw [hU1]; exact hP, xK.warm hW hK, hD.weaken (fun _ _ _ _ => trivial)⟩, by rw [hU1]; exact ⟨vx_Zq.moved hW.alike (vx_Zq.narrow hU.1 hF), vx_Zq.moved hW.alike (vx_Zq.narrow hU.2 hF)⟩, vk_R.warm hW hs⟩⟩
theorem x_preSX {s : State} {H : Heap} {D : va_G} {kA : Nat → ClassId} {wc : va_W} {A : Nat → Prop} {As : List Value} {own text : String} {is sa : Nat} (hK : xK D kA s) (hP : va_P D xcl wc H) (hD : va_D A wc) (hF : ∀ q, va_A wc H.size q → A q) (hU : xUS A s H) (hs : vk_R own is text sa s) : PreS s H (va_Pc As (xPreX D kA H.size wc own is text sa)) As :=
  ⟨x_blindX, fun U hU1 hW => ⟨rfl, ⟨by rw [hU1], by rw [hU1]; exact hP, xK.warm hW hK, hD.weaken (fun _ _ _ _ => trivial)⟩, by rw [hU1]; exact ⟨vx_Zq.moved hW.alike (vx_Zq.narrow hU.1 hF), vx_Zq.moved hW.alike (vx_Zq.narrow hU.2 hF)⟩, vk_R.warm hW hs⟩⟩
theorem x_atI : ∀ w ∈ (vx_atS "LayerDesk" 60 "java/lang/IllegalArgumentException" ["java/lang/RuntimeException", "java/lang/Exception"]).filter goodWord, w ∈ wT := fun w hw => List.mem_filter.mpr ⟨(show ∀ w ∈ (vx_atS "LayerDesk" 60 "java/lang/IllegalArgumentException" ["java/lang/RuntimeException", "java/lang/Exception"]), w ∈ lw_tbl by decide +kernel) w (List.mem_filter.mp hw).1, (List.mem_filter.mp hw).2⟩
theorem x_ngI : ∀ w ∈ (vx_atS "LayerDesk" 60 "java/lang/IllegalArgumentException" ["java/lang/RuntimeException", "java/lang/Exception"]).filter (fun w => !goodWord w), w ∈ ([.declares ⟨"java/lang/RuntimeException", "<init>", "(Ljava/lang/String;)V"⟩, .declares ⟨"java/lang/Exception", "<init>", "(Ljava/lang/String;)V"⟩, .declares ⟨"java/lang/Throwable", "<init>", "(Ljava/lang/String;)V"⟩, .castable "java/lang/IllegalArgumentException" "java/lang/IllegalArgumentException"] : List Cond) := by decide +kernel
theorem x_otI (ik : Nat) : ∀ w ∈ Cond.classLink "LayerDesk" ik "java/lang/IllegalArgumentException" :: Cond.initialized "java/lang/IllegalArgumentException" :: vx_atS "LayerDesk" 60 "java/lang/IllegalArgumentException" ["java/lang/RuntimeException", "java/lang/Exception"], vx_ot w = true := by
  intro w hw
  rcases List.mem_cons.mp hw with rfl | hw
  · rfl
  rcases List.mem_cons.mp hw with rfl | hw
  · rfl
  · exact (show ∀ w ∈ vx_atS "LayerDesk" 60 "java/lang/IllegalArgumentException" ["java/lang/RuntimeException", "java/lang/Exception"], vx_ot w = true by decide +kernel) w hw
theorem x_hatI {args : Array Value} {s : State} (hT : ∀ w ∈ wT, w.before args s = true) (hE : xE2 s) : ∀ w ∈ vx_atS "LayerDesk" 60 "java/lang/IllegalArgumentException" ["java/lang/RuntimeException", "java/lang/Exception"], w.before args s = true := by
  obtain ⟨h1, h2, h3, h4, -, -⟩ := hE
  exact vx_hat (fun w hw => hT w (x_atI w hw)) x_ngI (vx_c (va_Nw.use rfl h1) (vx_c (va_Nw.use rfl h2) (vx_c (va_Nw.use rfl h3) (vx_c (va_Nw.use rfl h4) vx_n))))
section XTH
variable {p : Program} {l : Launch} {e : Env} {R : Room} {s : State} {m : MethodId} {args : Array Value} {below : List Frame} {meth : Method} {c : Code} {H : Heap} {locs : List Loc} {cells slots : Nat}
theorem x_throwI {cc : ByteArray} {pc : Nat} {ls : Array Slot} {rest : List Value} {D : va_G} {kA : Nat → ClassId} {w2 : va_W} {ik is mc ms sa : Nat} {text : String} {A : Nat → Prop} {Qc : Array Value → State → Outcome → State → Prop} (hx : p.tables.exec = Jvm.exec) (hb : c.code = cc) (hlt : l.stackTraces = false) (hown : s.vm.findClass "LayerDesk" = some m.cls) (hT : ∀ w ∈ wT, w.before args s = true) (hK : xK D kA s) (hk : Cond.classLink "LayerDesk" ik "java/lang/IllegalArgumentException" ∈ wT) (hini : Cond.initialized "java/lang/IllegalArgumentException" ∈ wT) (hstr : vk_R "LayerDesk" is text sa s) (hU : xUS A s s.heap) (hS : va_S A s.heap H locs) (hP : va_P D xcl w2 H) (hD : va_D A w2) (hsize : ls.size = c.maxLocals)
    (d0 : decode cc pc = .ok (.new ik, 3)) (d3 : decode cc (pc + 3) = .ok (.dup, 1)) (d4 : decode cc (pc + 4) = .ok (.ldc is, 2)) (d6 : decode cc (pc + 6) = .ok (.invokespecial 60, 3)) (d9 : decode cc (pc + 9) = .ok (.athrow, 1)) (htab : ∀ x ∈ c.exceptionTable.toList, False)
    (hRframes : 5 < R.frames) (hRlocals : (rest.map fun v => v.category).sum + 82 ≤ R.locals) (hRcells : cells + 1 ≤ R.cells) (hRslots : slots + 6 ≤ R.slots) (hlocks : meth.locks = false) (hc : cells + 1 ≤ mc) (hs : slots + 6 ≤ ms) :
    W p l e R s m args below meth c H locs cells slots (vx_MQ below Qc (vx_X (fun _ : Unit => True) (fun E _ t => E = "java/lang/IllegalArgumentException" ∧ va_P D xcl w2 t.heap ∧ va_D A w2) A) args s mc ms A) (F0 m pc ls rest) :=
  vx_throwS (own := "LayerDesk") (cls := "java/lang/IllegalArgumentException") (names := ["java/lang/RuntimeException", "java/lang/Exception"]) (sa := sa) (ic := 60) hx hb hlt hown (by decide +kernel) (by decide +kernel) (hT _ hk) (hT _ hini) hstr (x_hatI hT hK.2.2) (x_otI ik) hU.1 hU.2 hS hsize d0 d3 d4 d6 d9 (fun x hx9 => (htab x hx9).elim) hRframes hRlocals hRcells hRslots hlocks
    (fun t ht hz hq => ⟨(), trivial, ⟨rfl, x_keepP hP hq, hD⟩, x_FX hS hz hq⟩) hS.2.2 hc hs
end XTH
end
section
set_option maxHeartbeats 4000000 in
set_option maxRecDepth 100000 in
theorem xc_Li_append (l : Launch) (D : va_G) (kA : Nat → ClassId) (sz : Nat) (L : Nat) (tx : Nat) (b1 : Nat) (b2 : Nat) (cc9 : Int32) : Met l xy_Li_append (.code xy_Li_append xb_Li_append 2 (some .boolean) :: wT) { frames := 0, cells := 0, slots := 0, locals := 0 } (va_Pc [.ref L, .int cc9] (xPre D kA sz [(L, .inr (1, [.ref tx, .ref b1, .ref b2, .int 0, .int 0])), (tx, .inl (kA 1, 40, .inl (fun _ => 0)))])) (va_Qi (fun (r : Int32) (u : Int32 × (Nat → Int32)) => r = (if cc9 < 32 then 0 else if cc9 ≤ 126 then 1 else 0)) (fun (u : Int32 × (Nat → Int32)) t => va_P D xcl [(L, .inr (1, [.ref tx, .ref b1, .ref b2, .int u.1, .int 0])), (tx, .inl (kA 1, 40, .inl u.2))] t.heap ∧ va_D (va_A [(L, .inr (1, [.ref tx, .ref b1, .ref b2, .int 0, .int 0])), (tx, .inl (kA 1, 40, .inl (fun _ => 0)))] sz) [(L, .inr (1, [.ref tx, .ref b1, .ref b2, .int u.1, .int 0])), (tx, .inl (kA 1, 40, .inl u.2))]) (va_A [(L, .inr (1, [.ref tx, .ref b1, .ref b2, .int 0, .int 0])), (tx, .inl (kA 1, 40, .inl (fun _ => 0)))] sz)) 0 0 (va_A [(L, .inr (1, [.ref tx, .ref b1, .ref b2, .int 0, .int 0])), (tx, .inl (kA 1, 40, .inl (fun _ => 0)))] sz) := by
  refine Met.ofW (cc := xb_Li_append) (maxL := 2) (ret := (some .boolean)) (by decide) rfl ?_
  intro p e s m args below meth c s₁ B hml hv
  obtain ⟨rfl, hsz, hP, hK, hD0⟩ := hv
  have hx := B.exec
  have hb := B.bytes
  have hr := B.returns
  have hT := x_hT B.pre
  have hown : s.vm.findClass xR_Li = some m.cls := findClass_of_methodNamed B.named
  have hlocks := B.notSynchronized
  subst hsz
  have hD := hD0.self (sz := s.heap.size)
  generalize hAe : va_A [(L, .inr (1, [.ref tx, .ref b1, .ref b2, .int 0, .int 0])), (tx, .inl (kA 1, 40, .inl (fun _ => 0)))] s.heap.size = A at hD ⊢
  have hA : ∀ q : Nat, s.heap.size ≤ q → A q := fun q h => by rw [← hAe]; exact Or.inr h
  have hS : va_S A s.heap s.heap [] := va_S.rf
  have hP : va_P D xcl [(L, .inr (1, [.ref tx, .ref b1, .ref b2, .int 0, .int 0])), (tx, .inl (kA 1, 40, .inl (fun _ => 0)))] s.heap := hP
  have hl := lv_entry ([.ref L, .int cc9]) (n := 2) (Nat.le_of_ble_eq_true rfl)
  rw [lg_entry_eq]
  generalize (lg_sl ([.ref L, .int cc9]) ++ List.replicate (2 - (lg_sl ([.ref L, .int cc9])).length) Slot.unset).toArray = ls at hl ⊢
  have hl : lv_has ls 2 [(0, .ref L), (1, .int cc9)] := hl
  refine lv_aload_n hx hb xd_Li_append_0 rfl (lv_at hl 0 rfl) ?_
  refine va_get (D := D) (ci := 1) (v := .int 0) (C := xR_Li) (T := xT_Li) (N := 5) hx hb hT xi_Li hown hK.1 hP 0 rfl rfl 3 (by decide) (hT _ xk_8) (fun _ h9 => h9) rfl xd_Li_append_1 ?_
  refine lv_bipush (v := 40) hx hb xd_Li_append_4 (by decide) ?_
  refine lv_icmp_ge (tgt := 21) hx hb xd_Li_append_6 (by decide) (fun hc => absurd hc (by decide)) (fun _ => ?_)
  refine lv_iload_n hx hb xd_Li_append_9 rfl (lv_at hl 1 rfl) ?_
  refine lv_bipush (v := 32) hx hb xd_Li_append_10 (by decide) ?_
  refine lv_icmp_lt (tgt := 21) hx hb xd_Li_append_12 (by decide) (fun hc1 => ?_) (fun hc1 => ?_)
  · refine lv_iconst (v := 0) hx hb xd_Li_append_21 (by decide) ?_
    have hP9 := hP.sub (ws' := [(L, .inr (1, [.ref tx, .ref b1, .ref b2, .int 0, .int 0])), (tx, .inl (kA 1, 40, .inl (fun _ => 0)))]) [0, 1] rfl
    have hD9 := hD.sub (ws' := [(L, .inr (1, [.ref tx, .ref b1, .ref b2, .int 0, .int 0])), (tx, .inl (kA 1, 40, .inl (fun _ => 0)))]) [0, 1] (by decide) rfl
    refine W.widen (k := 0) (n := 0) (Nat.le_of_ble_eq_true rfl) (Nat.le_of_ble_eq_true rfl) ?_
    exact W.zret (v := 0) hx hb hr rfl (fun t ht hW => ⟨⟨0, (0, (fun _ => 0)), rfl, by simp [hc1], by rw [ht]; exact hP9, hD9⟩, hS.F ht⟩) hS.2.2 xd_Li_append_22
  · refine lv_iload_n hx hb xd_Li_append_15 rfl (lv_at hl 1 rfl) ?_
    refine lv_bipush (v := 126) hx hb xd_Li_append_16 (by decide) ?_
    refine lv_icmp_le (tgt := 23) hx hb xd_Li_append_18 (by decide) (fun hc2 => ?_) (fun hc2 => ?_)
    · refine lv_aload_n hx hb xd_Li_append_23 rfl (lv_at hl 0 rfl) ?_
      refine va_get (D := D) (ci := 1) (v := .ref tx) (C := xR_Li) (T := xT_Li) (N := 5) hx hb hT xi_Li hown hK.1 hP 0 rfl rfl 0 (by decide) (hT _ xk_4) (fun _ h9 => h9) rfl xd_Li_append_24 ?_
      refine lv_aload_n hx hb xd_Li_append_27 rfl (lv_at hl 0 rfl) ?_
      refine va_get (D := D) (ci := 1) (v := .int 0) (C := xR_Li) (T := xT_Li) (N := 5) hx hb hT xi_Li hown hK.1 hP 0 rfl rfl 3 (by decide) (hT _ xk_8) (fun _ h9 => h9) rfl xd_Li_append_28 ?_
      refine lv_iload_n hx hb xd_Li_append_31 rfl (lv_at hl 1 rfl) ?_
      refine va_cast hx hb hK.1 hP hD hS 1 1 rfl rfl (show ¬ _ by decide) xd_Li_append_32 (fun H locs hP hD hS => ?_)
      have hP : va_P D xcl [(L, .inr (1, [.ref tx, .ref b1, .ref b2, .int 0, .int 0])), (tx, .inl (kA 1, 40, .inl (upd (fun _ => 0) (0 : Int32).toNatClampNeg (vp_nar .char cc9))))] H := hP
      have hD : va_D A [(L, .inr (1, [.ref tx, .ref b1, .ref b2, .int 0, .int 0])), (tx, .inl (kA 1, 40, .inl (upd (fun _ => 0) (0 : Int32).toNatClampNeg (vp_nar .char cc9))))] := hD
      refine lv_aload_n hx hb xd_Li_append_33 rfl (lv_at hl 0 rfl) ?_
      refine lv_dup hx hb xd_Li_append_34 rfl ?_
      refine va_get (D := D) (ci := 1) (v := .int 0) (C := xR_Li) (T := xT_Li) (N := 5) hx hb hT xi_Li hown hK.1 hP 0 rfl rfl 3 (by decide) (hT _ xk_8) (fun _ h9 => h9) rfl xd_Li_append_35 ?_
      refine lv_iconst (v := 1) hx hb xd_Li_append_38 (by decide) ?_
      refine lv_iadd hx hb xd_Li_append_39 ?_
      refine va_put (D := D) (ci := 1) (v := .int (0 + 1)) (ty := .int) (C := xR_Li) (T := xT_Li) (N := 5) hx hb hT xi_Li xt_Li xt_Li_ok xn_Li hown hK.1 hP hD hS 0 rfl rfl 3 (by decide) (hT _ xk_8) (fun _ h9 => h9) rfl (by decide +kernel) rfl rfl (Nat.le_of_ble_eq_true rfl) xd_Li_append_40 (fun H locs hP hD hS => ?_)
      have hP : va_P D xcl [(L, .inr (1, [.ref tx, .ref b1, .ref b2, .int (0 + 1), .int 0])), (tx, .inl (kA 1, 40, .inl (upd (fun _ => 0) (0 : Int32).toNatClampNeg (vp_nar .char cc9))))] H := hP
      have hD : va_D A [(L, .inr (1, [.ref tx, .ref b1, .ref b2, .int (0 + 1), .int 0])), (tx, .inl (kA 1, 40, .inl (upd (fun _ => 0) (0 : Int32).toNatClampNeg (vp_nar .char cc9))))] := hD
      refine lv_iconst (v := 1) hx hb xd_Li_append_43 (by decide) ?_
      have hP9 := hP.sub (ws' := [(L, .inr (1, [.ref tx, .ref b1, .ref b2, .int (0 + 1), .int 0])), (tx, .inl (kA 1, 40, .inl (upd (fun _ => 0) (0 : Int32).toNatClampNeg (vp_nar .char cc9))))]) [0, 1] rfl
      have hD9 := hD.sub (ws' := [(L, .inr (1, [.ref tx, .ref b1, .ref b2, .int (0 + 1), .int 0])), (tx, .inl (kA 1, 40, .inl (upd (fun _ => 0) (0 : Int32).toNatClampNeg (vp_nar .char cc9))))]) [0, 1] (by decide) rfl
      refine W.widen (k := 0) (n := 0) (Nat.le_of_ble_eq_true rfl) (Nat.le_of_ble_eq_true rfl) ?_
      exact W.zret (v := 1) hx hb hr rfl (fun t ht hW => ⟨⟨1, ((0 + 1), (upd (fun _ => 0) (0 : Int32).toNatClampNeg (vp_nar .char cc9))), rfl, by simp [hc1, hc2], by rw [ht]; exact hP9, hD9⟩, hS.F ht⟩) hS.2.2 xd_Li_append_44
    · refine lv_iconst (v := 0) hx hb xd_Li_append_21 (by decide) ?_
      have hP9 := hP.sub (ws' := [(L, .inr (1, [.ref tx, .ref b1, .ref b2, .int 0, .int 0])), (tx, .inl (kA 1, 40, .inl (fun _ => 0)))]) [0, 1] rfl
      have hD9 := hD.sub (ws' := [(L, .inr (1, [.ref tx, .ref b1, .ref b2, .int 0, .int 0])), (tx, .inl (kA 1, 40, .inl (fun _ => 0)))]) [0, 1] (by decide) rfl
      refine W.widen (k := 0) (n := 0) (Nat.le_of_ble_eq_true rfl) (Nat.le_of_ble_eq_true rfl) ?_
      exact W.zret (v := 0) hx hb hr rfl (fun t ht hW => ⟨⟨0, (0, (fun _ => 0)), rfl, by simp [hc1, hc2], by rw [ht]; exact hP9, hD9⟩, hS.F ht⟩) hS.2.2 xd_Li_append_22
set_option maxHeartbeats 4000000 in
set_option maxRecDepth 100000 in
theorem xc_De_write (l : Launch) (D : va_G) (kA : Nat → ClassId) (sz : Nat) (x : Nat) (L : Nat) (S : Nat) (C : Nat) (P : Nat) (tx : Nat) (b1 : Nat) (b2 : Nat) (cc9 : Int32) : Met l xy_De_write (.code xy_De_write xb_De_write 2 (some .boolean) :: wT) { frames := 1, cells := 0, slots := 0, locals := 21 } (va_Pc [.ref x, .int cc9] (xPre D kA sz [(x, .inr (0, [.ref L, .ref S, .ref C, .ref P, .int 0, .int 0])), (L, .inr (1, [.ref tx, .ref b1, .ref b2, .int 0, .int 0])), (tx, .inl (kA 1, 40, .inl (fun _ => 0)))])) (va_Qi (fun (r : Int32) (u : Int32 × (Nat → Int32)) => r = (if cc9 < 32 then 0 else if cc9 ≤ 126 then 1 else 0)) (fun (u : Int32 × (Nat → Int32)) t => va_P D xcl [(x, .inr (0, [.ref L, .ref S, .ref C, .ref P, .int 0, .int 0])), (L, .inr (1, [.ref tx, .ref b1, .ref b2, .int u.1, .int 0])), (tx, .inl (kA 1, 40, .inl u.2))] t.heap ∧ va_D (va_A [(x, .inr (0, [.ref L, .ref S, .ref C, .ref P, .int 0, .int 0])), (L, .inr (1, [.ref tx, .ref b1, .ref b2, .int 0, .int 0])), (tx, .inl (kA 1, 40, .inl (fun _ => 0)))] sz) [(x, .inr (0, [.ref L, .ref S, .ref C, .ref P, .int 0, .int 0])), (L, .inr (1, [.ref tx, .ref b1, .ref b2, .int u.1, .int 0])), (tx, .inl (kA 1, 40, .inl u.2))]) (va_A [(x, .inr (0, [.ref L, .ref S, .ref C, .ref P, .int 0, .int 0])), (L, .inr (1, [.ref tx, .ref b1, .ref b2, .int 0, .int 0])), (tx, .inl (kA 1, 40, .inl (fun _ => 0)))] sz)) 0 0 (va_A [(x, .inr (0, [.ref L, .ref S, .ref C, .ref P, .int 0, .int 0])), (L, .inr (1, [.ref tx, .ref b1, .ref b2, .int 0, .int 0])), (tx, .inl (kA 1, 40, .inl (fun _ => 0)))] sz) := by
  refine Met.ofW (cc := xb_De_write) (maxL := 2) (ret := (some .boolean)) (by decide) rfl ?_
  intro p e s m args below meth c s₁ B hml hv
  obtain ⟨rfl, hsz, hP, hK, hD0⟩ := hv
  have hx := B.exec
  have hb := B.bytes
  have hr := B.returns
  have hT := x_hT B.pre
  have hown : s.vm.findClass xR_De = some m.cls := findClass_of_methodNamed B.named
  have hlocks := B.notSynchronized
  subst hsz
  have hD := hD0.self (sz := s.heap.size)
  generalize hAe : va_A [(x, .inr (0, [.ref L, .ref S, .ref C, .ref P, .int 0, .int 0])), (L, .inr (1, [.ref tx, .ref b1, .ref b2, .int 0, .int 0])), (tx, .inl (kA 1, 40, .inl (fun _ => 0)))] s.heap.size = A at hD ⊢
  have hA : ∀ q : Nat, s.heap.size ≤ q → A q := fun q h => by rw [← hAe]; exact Or.inr h
  have hS : va_S A s.heap s.heap [] := va_S.rf
  have hP : va_P D xcl [(x, .inr (0, [.ref L, .ref S, .ref C, .ref P, .int 0, .int 0])), (L, .inr (1, [.ref tx, .ref b1, .ref b2, .int 0, .int 0])), (tx, .inl (kA 1, 40, .inl (fun _ => 0)))] s.heap := hP
  have hl := lv_entry ([.ref x, .int cc9]) (n := 2) (Nat.le_of_ble_eq_true rfl)
  rw [lg_entry_eq]
  generalize (lg_sl ([.ref x, .int cc9]) ++ List.replicate (2 - (lg_sl ([.ref x, .int cc9])).length) Slot.unset).toArray = ls at hl ⊢
  have hl : lv_has ls 2 [(0, .ref x), (1, .int cc9)] := hl
  refine lv_aload_n hx hb xd_De_write_0 rfl (lv_at hl 0 rfl) ?_
  refine va_get (D := D) (ci := 0) (v := .ref L) (C := xR_De) (T := xT_De) (N := 6) hx hb hT xi_De hown hK.1 hP 0 rfl rfl 0 (by decide) (hT _ xk_27) (fun _ h9 => h9) rfl xd_De_write_1 ?_
  refine lv_iload_n hx hb xd_De_write_4 rfl (lv_at hl 1 rfl) ?_
  have hPc := hP.sub (ws' := [(L, .inr (1, [.ref tx, .ref b1, .ref b2, .int 0, .int 0])), (tx, .inl (kA 1, 40, .inl (fun _ => 0)))]) [1, 2] rfl
  have hDc := hD.sub (ws' := [(L, .inr (1, [.ref tx, .ref b1, .ref b2, .int 0, .int 0])), (tx, .inl (kA 1, 40, .inl (fun _ => 0)))]) [1, 2] (by decide) rfl
  have hFc := va_free (wc := [(L, .inr (1, [.ref tx, .ref b1, .ref b2, .int 0, .int 0])), (tx, .inl (kA 1, 40, .inl (fun _ => 0)))]) hD hS hA [1, 2] rfl
  have hkc : 0 + 0 ≤ 0 := Nat.le_of_ble_eq_true rfl
  have hks : 0 + 0 ≤ 0 := Nat.le_of_ble_eq_true rfl
  refine va_calli (va_runV (As := [.int cc9]) (rest := []) ⟨hx, hb, hml, hown, hT⟩ (xc_Li_append l D kA s.heap.size L tx b1 b2 cc9) (cwV 1 hT (wT_V xk_73 xk_74 xk_75 xk_24 xk_72) rfl rfl rfl (by decide +kernel) ⟨Nat.le_of_ble_eq_true rfl, Nat.le_of_ble_eq_true rfl⟩) (x_preV hK hPc hDc 0 rfl rfl) rfl rfl hl.1 rfl (lv_room (Nat.le_of_ble_eq_true rfl)) xd_De_write_5 ⟨hkc, hks⟩) hS (fun q _ h => hFc q h) hFc (fun r u t H1 locs ht hvm hpost hB hz1 hk1 hS => ?_)
  obtain ⟨u1, u2⟩ := u
  have hpost : r = (if cc9 < 32 then 0 else if cc9 ≤ 126 then 1 else 0) := hpost
  subst hpost
  obtain ⟨hP1, hD1⟩ := hB
  rw [ht] at hP1
  obtain ⟨hP, hD⟩ := va_join (wr := [(x, .inr (0, [.ref L, .ref S, .ref C, .ref P, .int 0, .int 0]))]) (w1 := [(L, .inr (1, [.ref tx, .ref b1, .ref b2, .int u1, .int 0])), (tx, .inl (kA 1, 40, .inl u2))]) hP hD [1, 2] [0] rfl rfl (by decide) (by decide) hk1 hFc hP1 hD1
  generalize H1 = H at hP hS ⊢
  have hP : va_P D xcl [(x, .inr (0, [.ref L, .ref S, .ref C, .ref P, .int 0, .int 0])), (L, .inr (1, [.ref tx, .ref b1, .ref b2, .int u1, .int 0])), (tx, .inl (kA 1, 40, .inl u2))] H := hP
  have hD : va_D A [(x, .inr (0, [.ref L, .ref S, .ref C, .ref P, .int 0, .int 0])), (L, .inr (1, [.ref tx, .ref b1, .ref b2, .int u1, .int 0])), (tx, .inl (kA 1, 40, .inl u2))] := hD
  have hP9 := hP.sub (ws' := [(x, .inr (0, [.ref L, .ref S, .ref C, .ref P, .int 0, .int 0])), (L, .inr (1, [.ref tx, .ref b1, .ref b2, .int u1, .int 0])), (tx, .inl (kA 1, 40, .inl u2))]) [0, 1, 2] rfl
  have hD9 := hD.sub (ws' := [(x, .inr (0, [.ref L, .ref S, .ref C, .ref P, .int 0, .int 0])), (L, .inr (1, [.ref tx, .ref b1, .ref b2, .int u1, .int 0])), (tx, .inl (kA 1, 40, .inl u2))]) [0, 1, 2] (by decide) rfl
  refine W.widen (k := 0) (n := 0) (Nat.le_of_ble_eq_true rfl) (Nat.le_of_ble_eq_true rfl) ?_
  exact W.zret (v := (if cc9 < 32 then 0 else if cc9 ≤ 126 then 1 else 0)) hx hb hr (by (repeat' split) <;> rfl) (fun t ht hW => ⟨⟨(if cc9 < 32 then 0 else if cc9 ≤ 126 then 1 else 0), (u1, u2), rfl, rfl, by rw [ht]; exact hP9, hD9⟩, hS.F ht⟩) hS.2.2 xd_De_write_8
set_option maxHeartbeats 4000000 in
set_option maxRecDepth 100000 in
theorem xc_Li_take (l : Launch) (D : va_G) (kA : Nat → ClassId) (sz : Nat) (L : Nat) (tx : Nat) (b1 : Nat) (b2 : Nat) : Met l xy_Li_take (.code xy_Li_take xb_Li_take 3 none :: wT) { frames := 0, cells := 0, slots := 0, locals := 0 } (va_Pc [.ref L] (xPre D kA sz [(L, .inr (1, [.ref tx, .ref b1, .ref b2, .int 0, .int 0]))])) (va_Qv (fun (u : Unit) => True) (fun (u : Unit) t => va_P D xcl [(L, .inr (1, [.ref tx, .ref b1, .ref b2, .int 0, .int 0]))] t.heap ∧ va_D (va_A [(L, .inr (1, [.ref tx, .ref b1, .ref b2, .int 0, .int 0]))] sz) [(L, .inr (1, [.ref tx, .ref b1, .ref b2, .int 0, .int 0]))]) (va_A [(L, .inr (1, [.ref tx, .ref b1, .ref b2, .int 0, .int 0]))] sz)) 0 0 (va_A [(L, .inr (1, [.ref tx, .ref b1, .ref b2, .int 0, .int 0]))] sz) := by
  refine Met.ofW (cc := xb_Li_take) (maxL := 3) (ret := none) (by decide) rfl ?_
  intro p e s m args below meth c s₁ B hml hv
  obtain ⟨rfl, hsz, hP, hK, hD0⟩ := hv
  have hx := B.exec
  have hb := B.bytes
  have hr := B.returns
  have hT := x_hT B.pre
  have hown : s.vm.findClass xR_Li = some m.cls := findClass_of_methodNamed B.named
  have hlocks := B.notSynchronized
  subst hsz
  have hD := hD0.self (sz := s.heap.size)
  generalize hAe : va_A [(L, .inr (1, [.ref tx, .ref b1, .ref b2, .int 0, .int 0]))] s.heap.size = A at hD ⊢
  have hA : ∀ q : Nat, s.heap.size ≤ q → A q := fun q h => by rw [← hAe]; exact Or.inr h
  have hS : va_S A s.heap s.heap [] := va_S.rf
  have hP : va_P D xcl [(L, .inr (1, [.ref tx, .ref b1, .ref b2, .int 0, .int 0]))] s.heap := hP
  have hl := lv_entry ([.ref L]) (n := 3) (Nat.le_of_ble_eq_true rfl)
  rw [lg_entry_eq]
  generalize (lg_sl ([.ref L]) ++ List.replicate (3 - (lg_sl ([.ref L])).length) Slot.unset).toArray = ls at hl ⊢
  have hl : lv_has ls 3 [(0, .ref L)] := hl
  refine lv_aload_n hx hb xd_Li_take_0 rfl (lv_at hl 0 rfl) ?_
  refine lv_iconst (v := 0) hx hb xd_Li_take_1 (by decide) ?_
  refine va_put (D := D) (ci := 1) (v := .int 0) (ty := .int) (C := xR_Li) (T := xT_Li) (N := 5) hx hb hT xi_Li xt_Li xt_Li_ok xn_Li hown hK.1 hP hD hS 0 rfl rfl 4 (by decide) (hT _ xk_9) (fun _ h9 => h9) rfl (by decide +kernel) rfl rfl (Nat.le_of_ble_eq_true rfl) xd_Li_take_2 (fun H locs hP hD hS => ?_)
  have hP : va_P D xcl [(L, .inr (1, [.ref tx, .ref b1, .ref b2, .int 0, .int 0]))] H := hP
  have hD : va_D A [(L, .inr (1, [.ref tx, .ref b1, .ref b2, .int 0, .int 0]))] := hD
  refine lv_iconst (v := 0) hx hb xd_Li_take_5 (by decide) ?_
  refine lv_istore_n hx hb xd_Li_take_6 rfl hl (Nat.le_of_ble_eq_true rfl) rfl (fun ls hl => ?_)
  have hl : lv_has ls 3 [(1, .int 0), (0, .ref L)] := hl
  refine lv_iconst (v := 0) hx hb xd_Li_take_7 (by decide) ?_
  refine lv_istore_n hx hb xd_Li_take_8 rfl hl (Nat.le_of_ble_eq_true rfl) rfl (fun ls hl => ?_)
  have hl : lv_has ls 3 [(2, .int 0), (1, .int 0), (0, .ref L)] := hl
  refine lv_iload_n hx hb xd_Li_take_9 rfl (lv_at hl 0 rfl) ?_
  refine lv_aload_n hx hb xd_Li_take_10 rfl (lv_at hl 2 rfl) ?_
  refine va_get (D := D) (ci := 1) (v := .int 0) (C := xR_Li) (T := xT_Li) (N := 5) hx hb hT xi_Li hown hK.1 hP 0 rfl rfl 3 (by decide) (hT _ xk_8) (fun _ h9 => h9) rfl xd_Li_take_11 ?_
  refine lv_icmp_gt (tgt := 90) hx hb xd_Li_take_14 (by decide) (fun hc => absurd hc (by decide)) (fun _ => ?_)
  refine lv_iload_n hx hb xd_Li_take_17 rfl (lv_at hl 0 rfl) ?_
  refine lv_aload_n hx hb xd_Li_take_18 rfl (lv_at hl 2 rfl) ?_
  refine va_get (D := D) (ci := 1) (v := .int 0) (C := xR_Li) (T := xT_Li) (N := 5) hx hb hT xi_Li hown hK.1 hP 0 rfl rfl 3 (by decide) (hT _ xk_8) (fun _ h9 => h9) rfl xd_Li_take_19 ?_
  refine lv_icmp_eq (tgt := 36) hx hb xd_Li_take_22 (by decide) (fun _ => ?_) (fun hc => absurd (by decide) hc)
  refine lv_iload_n hx hb xd_Li_take_36 rfl (lv_at hl 0 rfl) ?_
  refine lv_iload_n hx hb xd_Li_take_37 rfl (lv_at hl 1 rfl) ?_
  refine lv_icmp_le (tgt := 80) hx hb xd_Li_take_38 (by decide) (fun _ => ?_) (fun hc => absurd (by decide) hc)
  refine lv_iload_n hx hb xd_Li_take_80 rfl (lv_at hl 0 rfl) ?_
  refine lv_iconst (v := 1) hx hb xd_Li_take_81 (by decide) ?_
  refine lv_iadd hx hb xd_Li_take_82 ?_
  refine lv_istore_n hx hb xd_Li_take_83 rfl hl (Nat.le_of_ble_eq_true rfl) rfl (fun ls hl => ?_)
  have hl : lv_has ls 3 [(1, .int (0 + 1)), (2, .int 0), (0, .ref L)] := hl
  refine lv_iinc (k := 1) (v := (0 + Int32.ofInt 1)) hx hb xd_Li_take_84 hl rfl rfl (Nat.le_of_ble_eq_true rfl) rfl (fun ls hl => ?_)
  have hl : lv_has ls 3 [(2, .int (0 + Int32.ofInt 1)), (1, .int (0 + 1)), (0, .ref L)] := hl
  refine lv_goto (tgt := 9) hx hb xd_Li_take_87 (by decide) ?_
  refine lv_iload_n hx hb xd_Li_take_9 rfl (lv_at hl 0 rfl) ?_
  refine lv_aload_n hx hb xd_Li_take_10 rfl (lv_at hl 2 rfl) ?_
  refine va_get (D := D) (ci := 1) (v := .int 0) (C := xR_Li) (T := xT_Li) (N := 5) hx hb hT xi_Li hown hK.1 hP 0 rfl rfl 3 (by decide) (hT _ xk_8) (fun _ h9 => h9) rfl xd_Li_take_11 ?_
  refine lv_icmp_gt (tgt := 90) hx hb xd_Li_take_14 (by decide) (fun _ => ?_) (fun hc => absurd (by decide) hc)
  refine lv_aload_n hx hb xd_Li_take_90 rfl (lv_at hl 2 rfl) ?_
  refine lv_iconst (v := 0) hx hb xd_Li_take_91 (by decide) ?_
  refine va_put (D := D) (ci := 1) (v := .int 0) (ty := .int) (C := xR_Li) (T := xT_Li) (N := 5) hx hb hT xi_Li xt_Li xt_Li_ok xn_Li hown hK.1 hP hD hS 0 rfl rfl 3 (by decide) (hT _ xk_8) (fun _ h9 => h9) rfl (by decide +kernel) rfl rfl (Nat.le_of_ble_eq_true rfl) xd_Li_take_92 (fun H locs hP hD hS => ?_)
  have hP : va_P D xcl [(L, .inr (1, [.ref tx, .ref b1, .ref b2, .int 0, .int 0]))] H := hP
  have hD : va_D A [(L, .inr (1, [.ref tx, .ref b1, .ref b2, .int 0, .int 0]))] := hD
  have hP9 := hP.sub (ws' := [(L, .inr (1, [.ref tx, .ref b1, .ref b2, .int 0, .int 0]))]) [0] rfl
  have hD9 := hD.sub (ws' := [(L, .inr (1, [.ref tx, .ref b1, .ref b2, .int 0, .int 0]))]) [0] (by decide) rfl
  refine W.widen (k := 0) (n := 0) (Nat.le_of_ble_eq_true rfl) (Nat.le_of_ble_eq_true rfl) ?_
  exact W.vret hx hb hr (fun t ht hW => ⟨⟨(), rfl, trivial, by rw [ht]; exact hP9, hD9⟩, hS.F ht⟩) hS.2.2 xd_Li_take_95
set_option maxHeartbeats 4000000 in
set_option maxRecDepth 100000 in
theorem xc_Li_takeName (l : Launch) (D : va_G) (kA : Nat → ClassId) (sz : Nat) (L : Nat) (tx : Nat) (b1 : Nat) (b2 : Nat) : Met l xy_Li_takeName (.code xy_Li_takeName xb_Li_takeName 1 (some .int) :: wT) { frames := 1, cells := 0, slots := 0, locals := 22 } (va_Pc [.ref L] (xPre D kA sz [(L, .inr (1, [.ref tx, .ref b1, .ref b2, .int 0, .int 0]))])) (va_Qi (fun (r : Int32) (u : Unit) => r = 0) (fun (u : Unit) t => va_P D xcl [(L, .inr (1, [.ref tx, .ref b1, .ref b2, .int 0, .int 0]))] t.heap ∧ va_D (va_A [(L, .inr (1, [.ref tx, .ref b1, .ref b2, .int 0, .int 0]))] sz) [(L, .inr (1, [.ref tx, .ref b1, .ref b2, .int 0, .int 0]))]) (va_A [(L, .inr (1, [.ref tx, .ref b1, .ref b2, .int 0, .int 0]))] sz)) 0 0 (va_A [(L, .inr (1, [.ref tx, .ref b1, .ref b2, .int 0, .int 0]))] sz) := by
  refine Met.ofW (cc := xb_Li_takeName) (maxL := 1) (ret := (some .int)) (by decide) rfl ?_
  intro p e s m args below meth c s₁ B hml hv
  obtain ⟨rfl, hsz, hP, hK, hD0⟩ := hv
  have hx := B.exec
  have hb := B.bytes
  have hr := B.returns
  have hT := x_hT B.pre
  have hown : s.vm.findClass xR_Li = some m.cls := findClass_of_methodNamed B.named
  have hlocks := B.notSynchronized
  subst hsz
  have hD := hD0.self (sz := s.heap.size)
  generalize hAe : va_A [(L, .inr (1, [.ref tx, .ref b1, .ref b2, .int 0, .int 0]))] s.heap.size = A at hD ⊢
  have hA : ∀ q : Nat, s.heap.size ≤ q → A q := fun q h => by rw [← hAe]; exact Or.inr h
  have hS : va_S A s.heap s.heap [] := va_S.rf
  have hP : va_P D xcl [(L, .inr (1, [.ref tx, .ref b1, .ref b2, .int 0, .int 0]))] s.heap := hP
  have hl := lv_entry ([.ref L]) (n := 1) (Nat.le_of_ble_eq_true rfl)
  rw [lg_entry_eq]
  generalize (lg_sl ([.ref L]) ++ List.replicate (1 - (lg_sl ([.ref L])).length) Slot.unset).toArray = ls at hl ⊢
  have hl : lv_has ls 1 [(0, .ref L)] := hl
  refine lv_aload_n hx hb xd_Li_takeName_0 rfl (lv_at hl 0 rfl) ?_
  have hPc := hP.sub (ws' := [(L, .inr (1, [.ref tx, .ref b1, .ref b2, .int 0, .int 0]))]) [0] rfl
  have hDc := hD.sub (ws' := [(L, .inr (1, [.ref tx, .ref b1, .ref b2, .int 0, .int 0]))]) [0] (by decide) rfl
  have hFc := va_free (wc := [(L, .inr (1, [.ref tx, .ref b1, .ref b2, .int 0, .int 0]))]) hD hS hA [0] rfl
  have hkc : 0 + 0 ≤ 0 := Nat.le_of_ble_eq_true rfl
  have hks : 0 + 0 ≤ 0 := Nat.le_of_ble_eq_true rfl
  refine va_callv (va_runV (As := []) (rest := []) ⟨hx, hb, hml, hown, hT⟩ (xc_Li_take l D kA s.heap.size L tx b1 b2) (cwV 0 hT (wT_V xk_77 xk_78 xk_79 xk_24 xk_76) rfl rfl rfl (by decide +kernel) ⟨Nat.le_of_ble_eq_true rfl, Nat.le_of_ble_eq_true rfl⟩) (x_preV hK hPc hDc 0 rfl rfl) rfl rfl hl.1 rfl (lv_room (Nat.le_of_ble_eq_true rfl)) xd_Li_takeName_1 ⟨hkc, hks⟩) hS (fun q _ h => hFc q h) hFc (fun u t H1 locs ht hvm hpost hB hz1 hk1 hS => ?_)
  obtain ⟨hP1, hD1⟩ := hB
  rw [ht] at hP1
  obtain ⟨hP, hD⟩ := va_join (wr := []) (w1 := [(L, .inr (1, [.ref tx, .ref b1, .ref b2, .int 0, .int 0]))]) hP hD [0] [] rfl rfl (by decide) (by decide) hk1 hFc hP1 hD1
  generalize H1 = H at hP hS ⊢
  have hP : va_P D xcl [(L, .inr (1, [.ref tx, .ref b1, .ref b2, .int 0, .int 0]))] H := hP
  have hD : va_D A [(L, .inr (1, [.ref tx, .ref b1, .ref b2, .int 0, .int 0]))] := hD
  refine lv_aload_n hx hb xd_Li_takeName_4 rfl (lv_at hl 0 rfl) ?_
  refine va_get (D := D) (ci := 1) (v := .int 0) (C := xR_Li) (T := xT_Li) (N := 5) hx hb hT xi_Li hown hK.1 hP 0 rfl rfl 4 (by decide) (hT _ xk_9) (fun _ h9 => h9) rfl xd_Li_takeName_5 ?_
  refine lv_iconst (v := 1) hx hb xd_Li_takeName_8 (by decide) ?_
  refine lv_icmp_ne (tgt := 20) hx hb xd_Li_takeName_9 (by decide) (fun _ => ?_) (fun hc => absurd hc (by decide))
  refine lv_iconst (v := 0) hx hb xd_Li_takeName_20 (by decide) ?_
  have hP9 := hP.sub (ws' := [(L, .inr (1, [.ref tx, .ref b1, .ref b2, .int 0, .int 0]))]) [0] rfl
  have hD9 := hD.sub (ws' := [(L, .inr (1, [.ref tx, .ref b1, .ref b2, .int 0, .int 0]))]) [0] (by decide) rfl
  refine W.widen (k := 0) (n := 0) (Nat.le_of_ble_eq_true rfl) (Nat.le_of_ble_eq_true rfl) ?_
  exact W.iret (v := 0) hx hb hr (fun t ht hW => ⟨⟨0, (), rfl, rfl, by rw [ht]; exact hP9, hD9⟩, hS.F ht⟩) hS.2.2 xd_Li_takeName_21
set_option maxHeartbeats 4000000 in
set_option maxRecDepth 100000 in
theorem xc_Sh_accept (l : Launch) (D : va_G) (kA : Nat → ClassId) (sz : Nat) (S : Nat) (d1 : Nat) (L : Nat) (tx : Nat) (b1 : Nat) (b2 : Nat) : Met l xy_Sh_accept (.code xy_Sh_accept xb_Sh_accept 2 (some .int) :: wT) { frames := 0, cells := 0, slots := 0, locals := 0 } (va_Pc [.ref S, .ref L] (xPre D kA sz [(S, .inr (2, [.ref d1, .int 0])), (L, .inr (1, [.ref tx, .ref b1, .ref b2, .int 0, .int 0]))])) (va_Qi (fun (r : Int32) (u : Unit) => r = 0) (fun (u : Unit) t => va_P D xcl [(S, .inr (2, [.ref d1, .int 0])), (L, .inr (1, [.ref tx, .ref b1, .ref b2, .int 0, .int 0]))] t.heap ∧ va_D (va_A [(S, .inr (2, [.ref d1, .int 0])), (L, .inr (1, [.ref tx, .ref b1, .ref b2, .int 0, .int 0]))] sz) [(S, .inr (2, [.ref d1, .int 0])), (L, .inr (1, [.ref tx, .ref b1, .ref b2, .int 0, .int 0]))]) (va_A [(S, .inr (2, [.ref d1, .int 0])), (L, .inr (1, [.ref tx, .ref b1, .ref b2, .int 0, .int 0]))] sz)) 0 0 (va_A [(S, .inr (2, [.ref d1, .int 0])), (L, .inr (1, [.ref tx, .ref b1, .ref b2, .int 0, .int 0]))] sz) := by
  refine Met.ofW (cc := xb_Sh_accept) (maxL := 2) (ret := (some .int)) (by decide) rfl ?_
  intro p e s m args below meth c s₁ B hml hv
  obtain ⟨rfl, hsz, hP, hK, hD0⟩ := hv
  have hx := B.exec
  have hb := B.bytes
  have hr := B.returns
  have hT := x_hT B.pre
  have hown : s.vm.findClass xR_Sh = some m.cls := findClass_of_methodNamed B.named
  have hlocks := B.notSynchronized
  subst hsz
  have hD := hD0.self (sz := s.heap.size)
  generalize hAe : va_A [(S, .inr (2, [.ref d1, .int 0])), (L, .inr (1, [.ref tx, .ref b1, .ref b2, .int 0, .int 0]))] s.heap.size = A at hD ⊢
  have hA : ∀ q : Nat, s.heap.size ≤ q → A q := fun q h => by rw [← hAe]; exact Or.inr h
  have hS : va_S A s.heap s.heap [] := va_S.rf
  have hP : va_P D xcl [(S, .inr (2, [.ref d1, .int 0])), (L, .inr (1, [.ref tx, .ref b1, .ref b2, .int 0, .int 0]))] s.heap := hP
  have hl := lv_entry ([.ref S, .ref L]) (n := 2) (Nat.le_of_ble_eq_true rfl)
  rw [lg_entry_eq]
  generalize (lg_sl ([.ref S, .ref L]) ++ List.replicate (2 - (lg_sl ([.ref S, .ref L])).length) Slot.unset).toArray = ls at hl ⊢
  have hl : lv_has ls 2 [(0, .ref S), (1, .ref L)] := hl
  refine lv_aload_n hx hb xd_Sh_accept_0 rfl (lv_at hl 1 rfl) ?_
  refine va_get (D := D) (ci := 1) (v := .int 0) (C := xR_Li) (T := xT_Li) (N := 5) hx hb hT xi_Li hown hK.1 hP 1 rfl rfl 4 (by decide) (hT _ xk_80) (fun _ h9 => h9) rfl xd_Sh_accept_1 ?_
  refine lv_if_ne (tgt := 9) hx hb xd_Sh_accept_4 (by decide) (fun hc => absurd (by decide) hc) (fun _ => ?_)
  refine lv_iconst (v := 0) hx hb xd_Sh_accept_7 (by decide) ?_
  have hP9 := hP.sub (ws' := [(S, .inr (2, [.ref d1, .int 0])), (L, .inr (1, [.ref tx, .ref b1, .ref b2, .int 0, .int 0]))]) [0, 1] rfl
  have hD9 := hD.sub (ws' := [(S, .inr (2, [.ref d1, .int 0])), (L, .inr (1, [.ref tx, .ref b1, .ref b2, .int 0, .int 0]))]) [0, 1] (by decide) rfl
  refine W.widen (k := 0) (n := 0) (Nat.le_of_ble_eq_true rfl) (Nat.le_of_ble_eq_true rfl) ?_
  exact W.iret (v := 0) hx hb hr (fun t ht hW => ⟨⟨0, (), rfl, rfl, by rw [ht]; exact hP9, hD9⟩, hS.F ht⟩) hS.2.2 xd_Sh_accept_8
set_option maxHeartbeats 4000000 in
set_option maxRecDepth 100000 in
theorem xc_De_line (l : Launch) (D : va_G) (kA : Nat → ClassId) (sz : Nat) (x : Nat) (L : Nat) (S : Nat) (C : Nat) (P : Nat) (tx : Nat) (b1 : Nat) (b2 : Nat) (d1 : Nat) : Met l xy_De_line (.code xy_De_line xb_De_line 2 (some .int) :: wT) { frames := 1, cells := 0, slots := 0, locals := 22 } (va_Pc [.ref x] (xPre D kA sz [(x, .inr (0, [.ref L, .ref S, .ref C, .ref P, .int 0, .int 0])), (L, .inr (1, [.ref tx, .ref b1, .ref b2, .int 0, .int 0])), (S, .inr (2, [.ref d1, .int 0]))])) (va_Qi (fun (r : Int32) (u : Unit) => r = 0) (fun (u : Unit) t => va_P D xcl [(x, .inr (0, [.ref L, .ref S, .ref C, .ref P, .int 0, .int 0])), (L, .inr (1, [.ref tx, .ref b1, .ref b2, .int 0, .int 0])), (S, .inr (2, [.ref d1, .int 0]))] t.heap ∧ va_D (va_A [(x, .inr (0, [.ref L, .ref S, .ref C, .ref P, .int 0, .int 0])), (L, .inr (1, [.ref tx, .ref b1, .ref b2, .int 0, .int 0])), (S, .inr (2, [.ref d1, .int 0]))] sz) [(x, .inr (0, [.ref L, .ref S, .ref C, .ref P, .int 0, .int 0])), (L, .inr (1, [.ref tx, .ref b1, .ref b2, .int 0, .int 0])), (S, .inr (2, [.ref d1, .int 0]))]) (va_A [(x, .inr (0, [.ref L, .ref S, .ref C, .ref P, .int 0, .int 0])), (L, .inr (1, [.ref tx, .ref b1, .ref b2, .int 0, .int 0])), (S, .inr (2, [.ref d1, .int 0]))] sz)) 0 0 (va_A [(x, .inr (0, [.ref L, .ref S, .ref C, .ref P, .int 0, .int 0])), (L, .inr (1, [.ref tx, .ref b1, .ref b2, .int 0, .int 0])), (S, .inr (2, [.ref d1, .int 0]))] sz) := by
  refine Met.ofW (cc := xb_De_line) (maxL := 2) (ret := (some .int)) (by decide) rfl ?_
  intro p e s m args below meth c s₁ B hml hv
  obtain ⟨rfl, hsz, hP, hK, hD0⟩ := hv
  have hx := B.exec
  have hb := B.bytes
  have hr := B.returns
  have hT := x_hT B.pre
  have hown : s.vm.findClass xR_De = some m.cls := findClass_of_methodNamed B.named
  have hlocks := B.notSynchronized
  subst hsz
  have hD := hD0.self (sz := s.heap.size)
  generalize hAe : va_A [(x, .inr (0, [.ref L, .ref S, .ref C, .ref P, .int 0, .int 0])), (L, .inr (1, [.ref tx, .ref b1, .ref b2, .int 0, .int 0])), (S, .inr (2, [.ref d1, .int 0]))] s.heap.size = A at hD ⊢
  have hA : ∀ q : Nat, s.heap.size ≤ q → A q := fun q h => by rw [← hAe]; exact Or.inr h
  have hS : va_S A s.heap s.heap [] := va_S.rf
  have hP : va_P D xcl [(x, .inr (0, [.ref L, .ref S, .ref C, .ref P, .int 0, .int 0])), (L, .inr (1, [.ref tx, .ref b1, .ref b2, .int 0, .int 0])), (S, .inr (2, [.ref d1, .int 0]))] s.heap := hP
  have hl := lv_entry ([.ref x]) (n := 2) (Nat.le_of_ble_eq_true rfl)
  rw [lg_entry_eq]
  generalize (lg_sl ([.ref x]) ++ List.replicate (2 - (lg_sl ([.ref x])).length) Slot.unset).toArray = ls at hl ⊢
  have hl : lv_has ls 2 [(0, .ref x)] := hl
  refine lv_aload_n hx hb xd_De_line_0 rfl (lv_at hl 0 rfl) ?_
  refine va_get (D := D) (ci := 0) (v := .ref L) (C := xR_De) (T := xT_De) (N := 6) hx hb hT xi_De hown hK.1 hP 0 rfl rfl 0 (by decide) (hT _ xk_27) (fun _ h9 => h9) rfl xd_De_line_1 ?_
  have hPc := hP.sub (ws' := [(L, .inr (1, [.ref tx, .ref b1, .ref b2, .int 0, .int 0]))]) [1] rfl
  have hDc := hD.sub (ws' := [(L, .inr (1, [.ref tx, .ref b1, .ref b2, .int 0, .int 0]))]) [1] (by decide) rfl
  have hFc := va_free (wc := [(L, .inr (1, [.ref tx, .ref b1, .ref b2, .int 0, .int 0]))]) hD hS hA [1] rfl
  have hkc : 0 + 0 ≤ 0 := Nat.le_of_ble_eq_true rfl
  have hks : 0 + 0 ≤ 0 := Nat.le_of_ble_eq_true rfl
  refine va_callv (va_runV (As := []) (rest := []) ⟨hx, hb, hml, hown, hT⟩ (xc_Li_take l D kA s.heap.size L tx b1 b2) (cwV 0 hT (wT_V xk_81 xk_78 xk_79 xk_24 xk_76) rfl rfl rfl (by decide +kernel) ⟨Nat.le_of_ble_eq_true rfl, Nat.le_of_ble_eq_true rfl⟩) (x_preV hK hPc hDc 0 rfl rfl) rfl rfl hl.1 rfl (lv_room (Nat.le_of_ble_eq_true rfl)) xd_De_line_4 ⟨hkc, hks⟩) hS (fun q _ h => hFc q h) hFc (fun u t H1 locs ht hvm hpost hB hz1 hk1 hS => ?_)
  obtain ⟨hP1, hD1⟩ := hB
  rw [ht] at hP1
  obtain ⟨hP, hD⟩ := va_join (wr := [(x, .inr (0, [.ref L, .ref S, .ref C, .ref P, .int 0, .int 0])), (S, .inr (2, [.ref d1, .int 0]))]) (w1 := [(L, .inr (1, [.ref tx, .ref b1, .ref b2, .int 0, .int 0]))]) hP hD [1] [0, 2] rfl rfl (by decide) (by decide) hk1 hFc hP1 hD1
  generalize H1 = H at hP hS ⊢
  have hP : va_P D xcl [(x, .inr (0, [.ref L, .ref S, .ref C, .ref P, .int 0, .int 0])), (S, .inr (2, [.ref d1, .int 0])), (L, .inr (1, [.ref tx, .ref b1, .ref b2, .int 0, .int 0]))] H := hP
  have hD : va_D A [(x, .inr (0, [.ref L, .ref S, .ref C, .ref P, .int 0, .int 0])), (S, .inr (2, [.ref d1, .int 0])), (L, .inr (1, [.ref tx, .ref b1, .ref b2, .int 0, .int 0]))] := hD
  refine lv_aload_n hx hb xd_De_line_7 rfl (lv_at hl 0 rfl) ?_
  refine va_get (D := D) (ci := 0) (v := .ref S) (C := xR_De) (T := xT_De) (N := 6) hx hb hT xi_De hown hK.1 hP 0 rfl rfl 1 (by decide) (hT _ xk_33) (fun _ h9 => h9) rfl xd_De_line_8 ?_
  refine lv_aload_n hx hb xd_De_line_11 rfl (lv_at hl 0 rfl) ?_
  refine va_get (D := D) (ci := 0) (v := .ref L) (C := xR_De) (T := xT_De) (N := 6) hx hb hT xi_De hown hK.1 hP 0 rfl rfl 0 (by decide) (hT _ xk_27) (fun _ h9 => h9) rfl xd_De_line_12 ?_
  have hPc := hP.sub (ws' := [(S, .inr (2, [.ref d1, .int 0])), (L, .inr (1, [.ref tx, .ref b1, .ref b2, .int 0, .int 0]))]) [1, 2] rfl
  have hDc := hD.sub (ws' := [(S, .inr (2, [.ref d1, .int 0])), (L, .inr (1, [.ref tx, .ref b1, .ref b2, .int 0, .int 0]))]) [1, 2] (by decide) rfl
  have hFc := va_free (wc := [(S, .inr (2, [.ref d1, .int 0])), (L, .inr (1, [.ref tx, .ref b1, .ref b2, .int 0, .int 0]))]) hD hS hA [1, 2] rfl
  have hkc : 0 + 0 ≤ 0 := Nat.le_of_ble_eq_true rfl
  have hks : 0 + 0 ≤ 0 := Nat.le_of_ble_eq_true rfl
  refine va_calli (va_runV (As := [.ref L]) (rest := []) ⟨hx, hb, hml, hown, hT⟩ (xc_Sh_accept l D kA H.size S d1 L tx b1 b2) (cwV 1 hT (wT_V xk_83 xk_84 xk_85 xk_30 xk_82) rfl rfl rfl (by decide +kernel) ⟨Nat.le_of_ble_eq_true rfl, Nat.le_of_ble_eq_true rfl⟩) (x_preV hK hPc hDc 0 rfl rfl) rfl rfl hl.1 rfl (lv_room (Nat.le_of_ble_eq_true rfl)) xd_De_line_15 ⟨hkc, hks⟩) hS (fun q _ h => hFc q h) hFc (fun r u t H1 locs ht hvm hpost hB hz1 hk1 hS => ?_)
  have hpost : r = 0 := hpost
  subst hpost
  obtain ⟨hP1, hD1⟩ := hB
  rw [ht] at hP1
  obtain ⟨hP, hD⟩ := va_join (wr := [(x, .inr (0, [.ref L, .ref S, .ref C, .ref P, .int 0, .int 0]))]) (w1 := [(S, .inr (2, [.ref d1, .int 0])), (L, .inr (1, [.ref tx, .ref b1, .ref b2, .int 0, .int 0]))]) hP hD [1, 2] [0] rfl rfl (by decide) (by decide) hk1 hFc hP1 hD1
  generalize H1 = H at hP hS ⊢
  have hP : va_P D xcl [(x, .inr (0, [.ref L, .ref S, .ref C, .ref P, .int 0, .int 0])), (S, .inr (2, [.ref d1, .int 0])), (L, .inr (1, [.ref tx, .ref b1, .ref b2, .int 0, .int 0]))] H := hP
  have hD : va_D A [(x, .inr (0, [.ref L, .ref S, .ref C, .ref P, .int 0, .int 0])), (S, .inr (2, [.ref d1, .int 0])), (L, .inr (1, [.ref tx, .ref b1, .ref b2, .int 0, .int 0]))] := hD
  refine lv_istore_n hx hb xd_De_line_18 rfl hl (Nat.le_of_ble_eq_true rfl) rfl (fun ls hl => ?_)
  have hl : lv_has ls 2 [(1, .int 0), (0, .ref x)] := hl
  refine lv_iload_n hx hb xd_De_line_19 rfl (lv_at hl 0 rfl) ?_
  refine lv_iconst (v := (-1)) hx hb xd_De_line_20 (by decide) ?_
  refine lv_icmp_ne (tgt := 34) hx hb xd_De_line_21 (by decide) (fun _ => ?_) (fun hc => absurd hc (by decide))
  refine lv_iload_n hx hb xd_De_line_34 rfl (lv_at hl 0 rfl) ?_
  refine lv_bipush (v := (-2)) hx hb xd_De_line_35 (by decide) ?_
  refine lv_icmp_ne (tgt := 50) hx hb xd_De_line_37 (by decide) (fun _ => ?_) (fun hc => absurd hc (by decide))
  refine lv_iload_n hx hb xd_De_line_50 rfl (lv_at hl 0 rfl) ?_
  have hP9 := hP.sub (ws' := [(x, .inr (0, [.ref L, .ref S, .ref C, .ref P, .int 0, .int 0])), (L, .inr (1, [.ref tx, .ref b1, .ref b2, .int 0, .int 0])), (S, .inr (2, [.ref d1, .int 0]))]) [0, 2, 1] rfl
  have hD9 := hD.sub (ws' := [(x, .inr (0, [.ref L, .ref S, .ref C, .ref P, .int 0, .int 0])), (L, .inr (1, [.ref tx, .ref b1, .ref b2, .int 0, .int 0])), (S, .inr (2, [.ref d1, .int 0]))]) [0, 2, 1] (by decide) rfl
  refine W.widen (k := 0) (n := 0) (Nat.le_of_ble_eq_true rfl) (Nat.le_of_ble_eq_true rfl) ?_
  exact W.iret (v := 0) hx hb hr (fun t ht hW => ⟨⟨0, (), rfl, rfl, by rw [ht]; exact hP9, hD9⟩, hS.F ht⟩) hS.2.2 xd_De_line_51
set_option maxHeartbeats 4000000 in
set_option maxRecDepth 100000 in
theorem xc_De_fault (l : Launch) (D : va_G) (kA : Nat → ClassId) (sz : Nat) (x : Nat) (L : Nat) (S : Nat) (C : Nat) (P : Nat) : Met l xy_De_fault (.code xy_De_fault xb_De_fault 1 (some .int) :: wT) { frames := 0, cells := 0, slots := 0, locals := 0 } (va_Pc [.ref x] (xPre D kA sz [(x, .inr (0, [.ref L, .ref S, .ref C, .ref P, .int 0, .int 0]))])) (va_Qi (fun (r : Int32) (u : Unit) => r = 0) (fun (u : Unit) t => va_P D xcl [(x, .inr (0, [.ref L, .ref S, .ref C, .ref P, .int 0, .int 0]))] t.heap ∧ va_D (va_A [(x, .inr (0, [.ref L, .ref S, .ref C, .ref P, .int 0, .int 0]))] sz) [(x, .inr (0, [.ref L, .ref S, .ref C, .ref P, .int 0, .int 0]))]) (va_A [(x, .inr (0, [.ref L, .ref S, .ref C, .ref P, .int 0, .int 0]))] sz)) 0 0 (va_A [(x, .inr (0, [.ref L, .ref S, .ref C, .ref P, .int 0, .int 0]))] sz) := by
  refine Met.ofW (cc := xb_De_fault) (maxL := 1) (ret := (some .int)) (by decide) rfl ?_
  intro p e s m args below meth c s₁ B hml hv
  obtain ⟨rfl, hsz, hP, hK, hD0⟩ := hv
  have hx := B.exec
  have hb := B.bytes
  have hr := B.returns
  have hT := x_hT B.pre
  have hown : s.vm.findClass xR_De = some m.cls := findClass_of_methodNamed B.named
  have hlocks := B.notSynchronized
  subst hsz
  have hD := hD0.self (sz := s.heap.size)
  generalize hAe : va_A [(x, .inr (0, [.ref L, .ref S, .ref C, .ref P, .int 0, .int 0]))] s.heap.size = A at hD ⊢
  have hA : ∀ q : Nat, s.heap.size ≤ q → A q := fun q h => by rw [← hAe]; exact Or.inr h
  have hS : va_S A s.heap s.heap [] := va_S.rf
  have hP : va_P D xcl [(x, .inr (0, [.ref L, .ref S, .ref C, .ref P, .int 0, .int 0]))] s.heap := hP
  have hl := lv_entry ([.ref x]) (n := 1) (Nat.le_of_ble_eq_true rfl)
  rw [lg_entry_eq]
  generalize (lg_sl ([.ref x]) ++ List.replicate (1 - (lg_sl ([.ref x])).length) Slot.unset).toArray = ls at hl ⊢
  have hl : lv_has ls 1 [(0, .ref x)] := hl
  refine lv_aload_n hx hb xd_De_fault_0 rfl (lv_at hl 0 rfl) ?_
  refine va_get (D := D) (ci := 0) (v := .int 0) (C := xR_De) (T := xT_De) (N := 6) hx hb hT xi_De hown hK.1 hP 0 rfl rfl 5 (by decide) (hT _ xk_44) (fun _ h9 => h9) rfl xd_De_fault_1 ?_
  have hP9 := hP.sub (ws' := [(x, .inr (0, [.ref L, .ref S, .ref C, .ref P, .int 0, .int 0]))]) [0] rfl
  have hD9 := hD.sub (ws' := [(x, .inr (0, [.ref L, .ref S, .ref C, .ref P, .int 0, .int 0]))]) [0] (by decide) rfl
  refine W.widen (k := 0) (n := 0) (Nat.le_of_ble_eq_true rfl) (Nat.le_of_ble_eq_true rfl) ?_
  exact W.iret (v := 0) hx hb hr (fun t ht hW => ⟨⟨0, (), rfl, rfl, by rw [ht]; exact hP9, hD9⟩, hS.F ht⟩) hS.2.2 xd_De_fault_4
set_option maxHeartbeats 4000000 in
set_option maxRecDepth 100000 in
theorem xc_De_openLayer (l : Launch) (D : va_G) (kA : Nat → ClassId) (sz : Nat) (x : Nat) (L : Nat) (S : Nat) (C : Nat) (P : Nat) (n : Int32) : Met l xy_De_openLayer (.code xy_De_openLayer xb_De_openLayer 3 (some (.object "LayerDesk$Layer")) :: wT) { frames := 0, cells := 0, slots := 0, locals := 0 } (va_Pc [.ref x, .int n] (xPre D kA sz [(x, .inr (0, [.ref L, .ref S, .ref C, .ref P, .int 0, .int 0]))])) (va_Qq (fun (r : Option Nat) (u : Unit) => r = none) (fun (u : Unit) t => va_P D xcl [(x, .inr (0, [.ref L, .ref S, .ref C, .ref P, .int 0, .int 0]))] t.heap ∧ va_D (va_A [(x, .inr (0, [.ref L, .ref S, .ref C, .ref P, .int 0, .int 0]))] sz) [(x, .inr (0, [.ref L, .ref S, .ref C, .ref P, .int 0, .int 0]))]) (va_A [(x, .inr (0, [.ref L, .ref S, .ref C, .ref P, .int 0, .int 0]))] sz)) 0 0 (va_A [(x, .inr (0, [.ref L, .ref S, .ref C, .ref P, .int 0, .int 0]))] sz) := by
  refine Met.ofW (cc := xb_De_openLayer) (maxL := 3) (ret := (some (.object "LayerDesk$Layer"))) (by decide) rfl ?_
  intro p e s m args below meth c s₁ B hml hv
  obtain ⟨rfl, hsz, hP, hK, hD0⟩ := hv
  have hx := B.exec
  have hb := B.bytes
  have hr := B.returns
  have hT := x_hT B.pre
  have hown : s.vm.findClass xR_De = some m.cls := findClass_of_methodNamed B.named
  have hlocks := B.notSynchronized
  subst hsz
  have hD := hD0.self (sz := s.heap.size)
  generalize hAe : va_A [(x, .inr (0, [.ref L, .ref S, .ref C, .ref P, .int 0, .int 0]))] s.heap.size = A at hD ⊢
  have hA : ∀ q : Nat, s.heap.size ≤ q → A q := fun q h => by rw [← hAe]; exact Or.inr h
  have hS : va_S A s.heap s.heap [] := va_S.rf
  have hP : va_P D xcl [(x, .inr (0, [.ref L, .ref S, .ref C, .ref P, .int 0, .int 0]))] s.heap := hP
  have hl := lv_entry ([.ref x, .int n]) (n := 3) (Nat.le_of_ble_eq_true rfl)
  rw [lg_entry_eq]
  generalize (lg_sl ([.ref x, .int n]) ++ List.replicate (3 - (lg_sl ([.ref x, .int n])).length) Slot.unset).toArray = ls at hl ⊢
  have hl : lv_has ls 3 [(0, .ref x), (1, .int n)] := hl
  refine lv_iload_n hx hb xd_De_openLayer_0 rfl (lv_at hl 1 rfl) ?_
  refine lv_if_lt (tgt := 12) hx hb xd_De_openLayer_1 (by decide) (fun hc1 => ?_) (fun hc1 => ?_)
  · refine lv_null hx hb xd_De_openLayer_12 ?_
    have hP9 := hP.sub (ws' := [(x, .inr (0, [.ref L, .ref S, .ref C, .ref P, .int 0, .int 0]))]) [0] rfl
    have hD9 := hD.sub (ws' := [(x, .inr (0, [.ref L, .ref S, .ref C, .ref P, .int 0, .int 0]))]) [0] (by decide) rfl
    refine W.widen (k := 0) (n := 0) (Nat.le_of_ble_eq_true rfl) (Nat.le_of_ble_eq_true rfl) ?_
    exact W.aret (v := .null) hx hb hr (Or.inl ⟨_, rfl⟩) (Or.inl rfl) (fun t ht hW => ⟨⟨none, (), rfl, rfl, by rw [ht]; exact hP9, hD9⟩, hS.F ht⟩) hS.2.2 xd_De_openLayer_13
  · refine lv_iload_n hx hb xd_De_openLayer_4 rfl (lv_at hl 1 rfl) ?_
    refine lv_aload_n hx hb xd_De_openLayer_5 rfl (lv_at hl 0 rfl) ?_
    refine va_get (D := D) (ci := 0) (v := .int 0) (C := xR_De) (T := xT_De) (N := 6) hx hb hT xi_De hown hK.1 hP 0 rfl rfl 4 (by decide) (hT _ xk_43) (fun _ h9 => h9) rfl xd_De_openLayer_6 ?_
    refine lv_icmp_lt (tgt := 14) hx hb xd_De_openLayer_9 (by decide) (fun hc => absurd hc hc1) (fun _ => ?_)
    refine lv_null hx hb xd_De_openLayer_12 ?_
    have hP9 := hP.sub (ws' := [(x, .inr (0, [.ref L, .ref S, .ref C, .ref P, .int 0, .int 0]))]) [0] rfl
    have hD9 := hD.sub (ws' := [(x, .inr (0, [.ref L, .ref S, .ref C, .ref P, .int 0, .int 0]))]) [0] (by decide) rfl
    refine W.widen (k := 0) (n := 0) (Nat.le_of_ble_eq_true rfl) (Nat.le_of_ble_eq_true rfl) ?_
    exact W.aret (v := .null) hx hb hr (Or.inl ⟨_, rfl⟩) (Or.inl rfl) (fun t ht hW => ⟨⟨none, (), rfl, rfl, by rw [ht]; exact hP9, hD9⟩, hS.F ht⟩) hS.2.2 xd_De_openLayer_13
set_option maxHeartbeats 4000000 in
set_option maxRecDepth 100000 in
theorem xc_De_close (l : Launch) (D : va_G) (kA : Nat → ClassId) (sz : Nat) (x : Nat) (L : Nat) (S : Nat) (C : Nat) (P : Nat) (n : Int32) : Met l xy_De_close (.code xy_De_close xb_De_close 3 (some .boolean) :: wT) { frames := 1, cells := 0, slots := 0, locals := 22 } (va_Pc [.ref x, .int n] (xPre D kA sz [(x, .inr (0, [.ref L, .ref S, .ref C, .ref P, .int 0, .int 0]))])) (va_Qi (fun (r : Int32) (u : Unit) => r = 0) (fun (u : Unit) t => va_P D xcl [(x, .inr (0, [.ref L, .ref S, .ref C, .ref P, .int 0, .int 0]))] t.heap ∧ va_D (va_A [(x, .inr (0, [.ref L, .ref S, .ref C, .ref P, .int 0, .int 0]))] sz) [(x, .inr (0, [.ref L, .ref S, .ref C, .ref P, .int 0, .int 0]))]) (va_A [(x, .inr (0, [.ref L, .ref S, .ref C, .ref P, .int 0, .int 0]))] sz)) 0 0 (va_A [(x, .inr (0, [.ref L, .ref S, .ref C, .ref P, .int 0, .int 0]))] sz) := by
  refine Met.ofW (cc := xb_De_close) (maxL := 3) (ret := (some .boolean)) (by decide) rfl ?_
  intro p e s m args below meth c s₁ B hml hv
  obtain ⟨rfl, hsz, hP, hK, hD0⟩ := hv
  have hx := B.exec
  have hb := B.bytes
  have hr := B.returns
  have hT := x_hT B.pre
  have hown : s.vm.findClass xR_De = some m.cls := findClass_of_methodNamed B.named
  have hlocks := B.notSynchronized
  subst hsz
  have hD := hD0.self (sz := s.heap.size)
  generalize hAe : va_A [(x, .inr (0, [.ref L, .ref S, .ref C, .ref P, .int 0, .int 0]))] s.heap.size = A at hD ⊢
  have hA : ∀ q : Nat, s.heap.size ≤ q → A q := fun q h => by rw [← hAe]; exact Or.inr h
  have hS : va_S A s.heap s.heap [] := va_S.rf
  have hP : va_P D xcl [(x, .inr (0, [.ref L, .ref S, .ref C, .ref P, .int 0, .int 0]))] s.heap := hP
  have hl := lv_entry ([.ref x, .int n]) (n := 3) (Nat.le_of_ble_eq_true rfl)
  rw [lg_entry_eq]
  generalize (lg_sl ([.ref x, .int n]) ++ List.replicate (3 - (lg_sl ([.ref x, .int n])).length) Slot.unset).toArray = ls at hl ⊢
  have hl : lv_has ls 3 [(0, .ref x), (1, .int n)] := hl
  refine lv_aload_n hx hb xd_De_close_0 rfl (lv_at hl 0 rfl) ?_
  refine lv_iload_n hx hb xd_De_close_1 rfl (lv_at hl 1 rfl) ?_
  have hPc := hP.sub (ws' := [(x, .inr (0, [.ref L, .ref S, .ref C, .ref P, .int 0, .int 0]))]) [0] rfl
  have hDc := hD.sub (ws' := [(x, .inr (0, [.ref L, .ref S, .ref C, .ref P, .int 0, .int 0]))]) [0] (by decide) rfl
  have hFc := va_free (wc := [(x, .inr (0, [.ref L, .ref S, .ref C, .ref P, .int 0, .int 0]))]) hD hS hA [0] rfl
  have hkc : 0 + 0 ≤ 0 := Nat.le_of_ble_eq_true rfl
  have hks : 0 + 0 ≤ 0 := Nat.le_of_ble_eq_true rfl
  refine va_callq (va_runV (As := [.int n]) (rest := []) ⟨hx, hb, hml, hown, hT⟩ (xc_De_openLayer l D kA s.heap.size x L S C P n) (cwV 1 hT (wT_V xk_87 xk_88 xk_89 xk_90 xk_86) rfl rfl rfl (by decide +kernel) ⟨Nat.le_of_ble_eq_true rfl, Nat.le_of_ble_eq_true rfl⟩) (x_preV hK hPc hDc 0 rfl rfl) rfl rfl hl.1 rfl (lv_room (Nat.le_of_ble_eq_true rfl)) xd_De_close_2 ⟨hkc, hks⟩) hS (fun q _ h => hFc q h) hFc (fun r u t H1 locs ht hvm hpost hB hz1 hk1 hS => ?_)
  subst hpost
  obtain ⟨hP1, hD1⟩ := hB
  rw [ht] at hP1
  obtain ⟨hP, hD⟩ := va_join (wr := []) (w1 := [(x, .inr (0, [.ref L, .ref S, .ref C, .ref P, .int 0, .int 0]))]) hP hD [0] [] rfl rfl (by decide) (by decide) hk1 hFc hP1 hD1
  generalize H1 = H at hP hS ⊢
  have hP : va_P D xcl [(x, .inr (0, [.ref L, .ref S, .ref C, .ref P, .int 0, .int 0]))] H := hP
  have hD : va_D A [(x, .inr (0, [.ref L, .ref S, .ref C, .ref P, .int 0, .int 0]))] := hD
  refine lv_astore_nN hx hb xd_De_close_5 rfl hl (Nat.le_of_ble_eq_true rfl) rfl (fun ls hl => ?_)
  have hl : lv_has ls 3 [(2, .null), (0, .ref x), (1, .int n)] := hl
  refine lv_aload_nN hx hb xd_De_close_6 rfl (lv_at hl 0 rfl) ?_
  refine lv_ifnullN (tgt := 18) hx hb xd_De_close_7 (by decide) ?_
  refine lv_iconst (v := 0) hx hb xd_De_close_18 (by decide) ?_
  have hP9 := hP.sub (ws' := [(x, .inr (0, [.ref L, .ref S, .ref C, .ref P, .int 0, .int 0]))]) [0] rfl
  have hD9 := hD.sub (ws' := [(x, .inr (0, [.ref L, .ref S, .ref C, .ref P, .int 0, .int 0]))]) [0] (by decide) rfl
  refine W.widen (k := 0) (n := 0) (Nat.le_of_ble_eq_true rfl) (Nat.le_of_ble_eq_true rfl) ?_
  exact W.zret (v := 0) hx hb hr rfl (fun t ht hW => ⟨⟨0, (), rfl, rfl, by rw [ht]; exact hP9, hD9⟩, hS.F ht⟩) hS.2.2 xd_De_close_19
set_option maxHeartbeats 4000000 in
set_option maxRecDepth 100000 in
theorem xc_De_countOpen (l : Launch) (D : va_G) (kA : Nat → ClassId) (sz : Nat) (x : Nat) (L : Nat) (S : Nat) (C : Nat) (P : Nat) : Met l xy_De_countOpen (.code xy_De_countOpen xb_De_countOpen 3 (some .int) :: wT) { frames := 0, cells := 0, slots := 0, locals := 0 } (va_Pc [.ref x] (xPre D kA sz [(x, .inr (0, [.ref L, .ref S, .ref C, .ref P, .int 0, .int 0]))])) (va_Qi (fun (r : Int32) (u : Unit) => r = 0) (fun (u : Unit) t => va_P D xcl [(x, .inr (0, [.ref L, .ref S, .ref C, .ref P, .int 0, .int 0]))] t.heap ∧ va_D (va_A [(x, .inr (0, [.ref L, .ref S, .ref C, .ref P, .int 0, .int 0]))] sz) [(x, .inr (0, [.ref L, .ref S, .ref C, .ref P, .int 0, .int 0]))]) (va_A [(x, .inr (0, [.ref L, .ref S, .ref C, .ref P, .int 0, .int 0]))] sz)) 0 0 (va_A [(x, .inr (0, [.ref L, .ref S, .ref C, .ref P, .int 0, .int 0]))] sz) := by
  refine Met.ofW (cc := xb_De_countOpen) (maxL := 3) (ret := (some .int)) (by decide) rfl ?_
  intro p e s m args below meth c s₁ B hml hv
  obtain ⟨rfl, hsz, hP, hK, hD0⟩ := hv
  have hx := B.exec
  have hb := B.bytes
  have hr := B.returns
  have hT := x_hT B.pre
  have hown : s.vm.findClass xR_De = some m.cls := findClass_of_methodNamed B.named
  have hlocks := B.notSynchronized
  subst hsz
  have hD := hD0.self (sz := s.heap.size)
  generalize hAe : va_A [(x, .inr (0, [.ref L, .ref S, .ref C, .ref P, .int 0, .int 0]))] s.heap.size = A at hD ⊢
  have hA : ∀ q : Nat, s.heap.size ≤ q → A q := fun q h => by rw [← hAe]; exact Or.inr h
  have hS : va_S A s.heap s.heap [] := va_S.rf
  have hP : va_P D xcl [(x, .inr (0, [.ref L, .ref S, .ref C, .ref P, .int 0, .int 0]))] s.heap := hP
  have hl := lv_entry ([.ref x]) (n := 3) (Nat.le_of_ble_eq_true rfl)
  rw [lg_entry_eq]
  generalize (lg_sl ([.ref x]) ++ List.replicate (3 - (lg_sl ([.ref x])).length) Slot.unset).toArray = ls at hl ⊢
  have hl : lv_has ls 3 [(0, .ref x)] := hl
  refine lv_iconst (v := 0) hx hb xd_De_countOpen_0 (by decide) ?_
  refine lv_istore_n hx hb xd_De_countOpen_1 rfl hl (Nat.le_of_ble_eq_true rfl) rfl (fun ls hl => ?_)
  have hl : lv_has ls 3 [(1, .int 0), (0, .ref x)] := hl
  refine lv_iconst (v := 0) hx hb xd_De_countOpen_2 (by decide) ?_
  refine lv_istore_n hx hb xd_De_countOpen_3 rfl hl (Nat.le_of_ble_eq_true rfl) rfl (fun ls hl => ?_)
  have hl : lv_has ls 3 [(2, .int 0), (1, .int 0), (0, .ref x)] := hl
  refine lv_iload_n hx hb xd_De_countOpen_4 rfl (lv_at hl 0 rfl) ?_
  refine lv_aload_n hx hb xd_De_countOpen_5 rfl (lv_at hl 2 rfl) ?_
  refine va_get (D := D) (ci := 0) (v := .int 0) (C := xR_De) (T := xT_De) (N := 6) hx hb hT xi_De hown hK.1 hP 0 rfl rfl 4 (by decide) (hT _ xk_43) (fun _ h9 => h9) rfl xd_De_countOpen_6 ?_
  refine lv_icmp_ge (tgt := 29) hx hb xd_De_countOpen_9 (by decide) (fun _ => ?_) (fun hc => absurd (by decide) hc)
  refine lv_iload_n hx hb xd_De_countOpen_29 rfl (lv_at hl 1 rfl) ?_
  have hP9 := hP.sub (ws' := [(x, .inr (0, [.ref L, .ref S, .ref C, .ref P, .int 0, .int 0]))]) [0] rfl
  have hD9 := hD.sub (ws' := [(x, .inr (0, [.ref L, .ref S, .ref C, .ref P, .int 0, .int 0]))]) [0] (by decide) rfl
  refine W.widen (k := 0) (n := 0) (Nat.le_of_ble_eq_true rfl) (Nat.le_of_ble_eq_true rfl) ?_
  exact W.iret (v := 0) hx hb hr (fun t ht hW => ⟨⟨0, (), rfl, rfl, by rw [ht]; exact hP9, hD9⟩, hS.F ht⟩) hS.2.2 xd_De_countOpen_30
set_option maxHeartbeats 4000000 in
set_option maxRecDepth 100000 in
theorem xc_De_count (l : Launch) (D : va_G) (kA : Nat → ClassId) (sz : Nat) (x : Nat) (L : Nat) (S : Nat) (C : Nat) (P : Nat) (d1 : Nat) (n : Int32) : Met l xy_De_count (.code xy_De_count xb_De_count 2 (some .int) :: wT) { frames := 1, cells := 0, slots := 0, locals := 22 } (va_Pc [.ref x, .int n] (xPre D kA sz [(x, .inr (0, [.ref L, .ref S, .ref C, .ref P, .int 0, .int 0])), (S, .inr (2, [.ref d1, .int 0]))])) (va_Qi (fun (r : Int32) (u : Unit) => r = (if n = 0 then 0 else if n = 1 then 0 else if n = 2 then 0 else -1)) (fun (u : Unit) t => va_P D xcl [(x, .inr (0, [.ref L, .ref S, .ref C, .ref P, .int 0, .int 0])), (S, .inr (2, [.ref d1, .int 0]))] t.heap ∧ va_D (va_A [(x, .inr (0, [.ref L, .ref S, .ref C, .ref P, .int 0, .int 0])), (S, .inr (2, [.ref d1, .int 0]))] sz) [(x, .inr (0, [.ref L, .ref S, .ref C, .ref P, .int 0, .int 0])), (S, .inr (2, [.ref d1, .int 0]))]) (va_A [(x, .inr (0, [.ref L, .ref S, .ref C, .ref P, .int 0, .int 0])), (S, .inr (2, [.ref d1, .int 0]))] sz)) 0 0 (va_A [(x, .inr (0, [.ref L, .ref S, .ref C, .ref P, .int 0, .int 0])), (S, .inr (2, [.ref d1, .int 0]))] sz) := by
  refine Met.ofW (cc := xb_De_count) (maxL := 2) (ret := (some .int)) (by decide) rfl ?_
  intro p e s m args below meth c s₁ B hml hv
  obtain ⟨rfl, hsz, hP, hK, hD0⟩ := hv
  have hx := B.exec
  have hb := B.bytes
  have hr := B.returns
  have hT := x_hT B.pre
  have hown : s.vm.findClass xR_De = some m.cls := findClass_of_methodNamed B.named
  have hlocks := B.notSynchronized
  subst hsz
  have hD := hD0.self (sz := s.heap.size)
  generalize hAe : va_A [(x, .inr (0, [.ref L, .ref S, .ref C, .ref P, .int 0, .int 0])), (S, .inr (2, [.ref d1, .int 0]))] s.heap.size = A at hD ⊢
  have hA : ∀ q : Nat, s.heap.size ≤ q → A q := fun q h => by rw [← hAe]; exact Or.inr h
  have hS : va_S A s.heap s.heap [] := va_S.rf
  have hP : va_P D xcl [(x, .inr (0, [.ref L, .ref S, .ref C, .ref P, .int 0, .int 0])), (S, .inr (2, [.ref d1, .int 0]))] s.heap := hP
  have hl := lv_entry ([.ref x, .int n]) (n := 2) (Nat.le_of_ble_eq_true rfl)
  rw [lg_entry_eq]
  generalize (lg_sl ([.ref x, .int n]) ++ List.replicate (2 - (lg_sl ([.ref x, .int n])).length) Slot.unset).toArray = ls at hl ⊢
  have hl : lv_has ls 2 [(0, .ref x), (1, .int n)] := hl
  refine lv_iload_n hx hb xd_De_count_0 rfl (lv_at hl 1 rfl) ?_
  by_cases hw1 : n = 0
  · refine lv_tableIn (off := 27) (tgt := 28) hx hb xd_De_count_1 (by rw [hw1]; decide) (by rw [hw1]; decide) (by rw [hw1]; rfl) (by decide) ?_
    refine lv_aload_n hx hb xd_De_count_28 rfl (lv_at hl 0 rfl) ?_
    refine va_get (D := D) (ci := 0) (v := .ref S) (C := xR_De) (T := xT_De) (N := 6) hx hb hT xi_De hown hK.1 hP 0 rfl rfl 1 (by decide) (hT _ xk_33) (fun _ h9 => h9) rfl xd_De_count_29 ?_
    refine va_get (D := D) (ci := 2) (v := .int 0) (C := xR_Sh) (T := xT_Sh) (N := 2) hx hb hT xi_Sh hown hK.1 hP 1 rfl rfl 1 (by decide) (hT _ xk_91) (fun _ h9 => h9) rfl xd_De_count_32 ?_
    have hP9 := hP.sub (ws' := [(x, .inr (0, [.ref L, .ref S, .ref C, .ref P, .int 0, .int 0])), (S, .inr (2, [.ref d1, .int 0]))]) [0, 1] rfl
    have hD9 := hD.sub (ws' := [(x, .inr (0, [.ref L, .ref S, .ref C, .ref P, .int 0, .int 0])), (S, .inr (2, [.ref d1, .int 0]))]) [0, 1] (by decide) rfl
    refine W.widen (k := 0) (n := 0) (Nat.le_of_ble_eq_true rfl) (Nat.le_of_ble_eq_true rfl) ?_
    exact W.iret (v := 0) hx hb hr (fun t ht hW => ⟨⟨0, (), rfl, by simp [hw1], by rw [ht]; exact hP9, hD9⟩, hS.F ht⟩) hS.2.2 xd_De_count_35
  by_cases hw2 : n = 1
  · refine lv_tableIn (off := 35) (tgt := 36) hx hb xd_De_count_1 (by rw [hw2]; decide) (by rw [hw2]; decide) (by rw [hw2]; rfl) (by decide) ?_
    refine lv_aload_n hx hb xd_De_count_36 rfl (lv_at hl 0 rfl) ?_
    refine va_get (D := D) (ci := 0) (v := .int 0) (C := xR_De) (T := xT_De) (N := 6) hx hb hT xi_De hown hK.1 hP 0 rfl rfl 4 (by decide) (hT _ xk_43) (fun _ h9 => h9) rfl xd_De_count_37 ?_
    have hP9 := hP.sub (ws' := [(x, .inr (0, [.ref L, .ref S, .ref C, .ref P, .int 0, .int 0])), (S, .inr (2, [.ref d1, .int 0]))]) [0, 1] rfl
    have hD9 := hD.sub (ws' := [(x, .inr (0, [.ref L, .ref S, .ref C, .ref P, .int 0, .int 0])), (S, .inr (2, [.ref d1, .int 0]))]) [0, 1] (by decide) rfl
    refine W.widen (k := 0) (n := 0) (Nat.le_of_ble_eq_true rfl) (Nat.le_of_ble_eq_true rfl) ?_
    exact W.iret (v := 0) hx hb hr (fun t ht hW => ⟨⟨0, (), rfl, by simp [hw1, hw2], by rw [ht]; exact hP9, hD9⟩, hS.F ht⟩) hS.2.2 xd_De_count_40
  by_cases hw3 : n = 2
  · refine lv_tableIn (off := 40) (tgt := 41) hx hb xd_De_count_1 (by rw [hw3]; decide) (by rw [hw3]; decide) (by rw [hw3]; rfl) (by decide) ?_
    refine lv_aload_n hx hb xd_De_count_41 rfl (lv_at hl 0 rfl) ?_
    have hPc := hP.sub (ws' := [(x, .inr (0, [.ref L, .ref S, .ref C, .ref P, .int 0, .int 0]))]) [0] rfl
    have hDc := hD.sub (ws' := [(x, .inr (0, [.ref L, .ref S, .ref C, .ref P, .int 0, .int 0]))]) [0] (by decide) rfl
    have hFc := va_free (wc := [(x, .inr (0, [.ref L, .ref S, .ref C, .ref P, .int 0, .int 0]))]) hD hS hA [0] rfl
    have hkc : 0 + 0 ≤ 0 := Nat.le_of_ble_eq_true rfl
    have hks : 0 + 0 ≤ 0 := Nat.le_of_ble_eq_true rfl
    refine va_calli (va_runV (As := []) (rest := []) ⟨hx, hb, hml, hown, hT⟩ (xc_De_countOpen l D kA s.heap.size x L S C P) (cwV 0 hT (wT_V xk_93 xk_94 xk_95 xk_90 xk_92) rfl rfl rfl (by decide +kernel) ⟨Nat.le_of_ble_eq_true rfl, Nat.le_of_ble_eq_true rfl⟩) (x_preV hK hPc hDc 0 rfl rfl) rfl rfl hl.1 rfl (lv_room (Nat.le_of_ble_eq_true rfl)) xd_De_count_42 ⟨hkc, hks⟩) hS (fun q _ h => hFc q h) hFc (fun r u t H1 locs ht hvm hpost hB hz1 hk1 hS => ?_)
    have hpost : r = 0 := hpost
    subst hpost
    obtain ⟨hP1, hD1⟩ := hB
    rw [ht] at hP1
    obtain ⟨hP, hD⟩ := va_join (wr := [(S, .inr (2, [.ref d1, .int 0]))]) (w1 := [(x, .inr (0, [.ref L, .ref S, .ref C, .ref P, .int 0, .int 0]))]) hP hD [0] [1] rfl rfl (by decide) (by decide) hk1 hFc hP1 hD1
    generalize H1 = H at hP hS ⊢
    have hP : va_P D xcl [(S, .inr (2, [.ref d1, .int 0])), (x, .inr (0, [.ref L, .ref S, .ref C, .ref P, .int 0, .int 0]))] H := hP
    have hD : va_D A [(S, .inr (2, [.ref d1, .int 0])), (x, .inr (0, [.ref L, .ref S, .ref C, .ref P, .int 0, .int 0]))] := hD
    have hP9 := hP.sub (ws' := [(x, .inr (0, [.ref L, .ref S, .ref C, .ref P, .int 0, .int 0])), (S, .inr (2, [.ref d1, .int 0]))]) [1, 0] rfl
    have hD9 := hD.sub (ws' := [(x, .inr (0, [.ref L, .ref S, .ref C, .ref P, .int 0, .int 0])), (S, .inr (2, [.ref d1, .int 0]))]) [1, 0] (by decide) rfl
    refine W.widen (k := 0) (n := 0) (Nat.le_of_ble_eq_true rfl) (Nat.le_of_ble_eq_true rfl) ?_
    exact W.iret (v := 0) hx hb hr (fun t ht hW => ⟨⟨0, (), rfl, by simp [hw1, hw2, hw3], by rw [ht]; exact hP9, hD9⟩, hS.F ht⟩) hS.2.2 xd_De_count_45
  refine lv_tableOut (tgt := 46) hx hb xd_De_count_1 (by have a0 := lv_neT hw1 (show (0 : Int32).toInt = 0 by decide); have a1 := lv_neT hw2 (show (1 : Int32).toInt = 1 by decide); have a2 := lv_neT hw3 (show (2 : Int32).toInt = 2 by decide); omega) (by decide) ?_
  refine lv_iconst (v := (-1)) hx hb xd_De_count_46 (by decide) ?_
  have hP9 := hP.sub (ws' := [(x, .inr (0, [.ref L, .ref S, .ref C, .ref P, .int 0, .int 0])), (S, .inr (2, [.ref d1, .int 0]))]) [0, 1] rfl
  have hD9 := hD.sub (ws' := [(x, .inr (0, [.ref L, .ref S, .ref C, .ref P, .int 0, .int 0])), (S, .inr (2, [.ref d1, .int 0]))]) [0, 1] (by decide) rfl
  refine W.widen (k := 0) (n := 0) (Nat.le_of_ble_eq_true rfl) (Nat.le_of_ble_eq_true rfl) ?_
  exact W.iret (v := (-1)) hx hb hr (fun t ht hW => ⟨⟨(-1), (), rfl, by simp [hw1, hw2, hw3], by rw [ht]; exact hP9, hD9⟩, hS.F ht⟩) hS.2.2 xd_De_count_47
set_option maxHeartbeats 4000000 in
set_option maxRecDepth 100000 in
theorem xc_De_modules (l : Launch) (D : va_G) (kA : Nat → ClassId) (sz : Nat) (x : Nat) (L : Nat) (S : Nat) (C : Nat) (P : Nat) (n : Int32) : Met l xy_De_modules (.code xy_De_modules xb_De_modules 3 (some .int) :: wT) { frames := 1, cells := 0, slots := 0, locals := 22 } (va_Pc [.ref x, .int n] (xPre D kA sz [(x, .inr (0, [.ref L, .ref S, .ref C, .ref P, .int 0, .int 0]))])) (va_Qi (fun (r : Int32) (u : Unit) => r = (-1)) (fun (u : Unit) t => va_P D xcl [(x, .inr (0, [.ref L, .ref S, .ref C, .ref P, .int 0, .int 0]))] t.heap ∧ va_D (va_A [(x, .inr (0, [.ref L, .ref S, .ref C, .ref P, .int 0, .int 0]))] sz) [(x, .inr (0, [.ref L, .ref S, .ref C, .ref P, .int 0, .int 0]))]) (va_A [(x, .inr (0, [.ref L, .ref S, .ref C, .ref P, .int 0, .int 0]))] sz)) 0 0 (va_A [(x, .inr (0, [.ref L, .ref S, .ref C, .ref P, .int 0, .int 0]))] sz) := by
  refine Met.ofW (cc := xb_De_modules) (maxL := 3) (ret := (some .int)) (by decide) rfl ?_
  intro p e s m args below meth c s₁ B hml hv
  obtain ⟨rfl, hsz, hP, hK, hD0⟩ := hv
  have hx := B.exec
  have hb := B.bytes
  have hr := B.returns
  have hT := x_hT B.pre
  have hown : s.vm.findClass xR_De = some m.cls := findClass_of_methodNamed B.named
  have hlocks := B.notSynchronized
  subst hsz
  have hD := hD0.self (sz := s.heap.size)
  generalize hAe : va_A [(x, .inr (0, [.ref L, .ref S, .ref C, .ref P, .int 0, .int 0]))] s.heap.size = A at hD ⊢
  have hA : ∀ q : Nat, s.heap.size ≤ q → A q := fun q h => by rw [← hAe]; exact Or.inr h
  have hS : va_S A s.heap s.heap [] := va_S.rf
  have hP : va_P D xcl [(x, .inr (0, [.ref L, .ref S, .ref C, .ref P, .int 0, .int 0]))] s.heap := hP
  have hl := lv_entry ([.ref x, .int n]) (n := 3) (Nat.le_of_ble_eq_true rfl)
  rw [lg_entry_eq]
  generalize (lg_sl ([.ref x, .int n]) ++ List.replicate (3 - (lg_sl ([.ref x, .int n])).length) Slot.unset).toArray = ls at hl ⊢
  have hl : lv_has ls 3 [(0, .ref x), (1, .int n)] := hl
  refine lv_aload_n hx hb xd_De_modules_0 rfl (lv_at hl 0 rfl) ?_
  refine lv_iload_n hx hb xd_De_modules_1 rfl (lv_at hl 1 rfl) ?_
  have hPc := hP.sub (ws' := [(x, .inr (0, [.ref L, .ref S, .ref C, .ref P, .int 0, .int 0]))]) [0] rfl
  have hDc := hD.sub (ws' := [(x, .inr (0, [.ref L, .ref S, .ref C, .ref P, .int 0, .int 0]))]) [0] (by decide) rfl
  have hFc := va_free (wc := [(x, .inr (0, [.ref L, .ref S, .ref C, .ref P, .int 0, .int 0]))]) hD hS hA [0] rfl
  have hkc : 0 + 0 ≤ 0 := Nat.le_of_ble_eq_true rfl
  have hks : 0 + 0 ≤ 0 := Nat.le_of_ble_eq_true rfl
  refine va_callq (va_runV (As := [.int n]) (rest := []) ⟨hx, hb, hml, hown, hT⟩ (xc_De_openLayer l D kA s.heap.size x L S C P n) (cwV 1 hT (wT_V xk_87 xk_88 xk_89 xk_90 xk_86) rfl rfl rfl (by decide +kernel) ⟨Nat.le_of_ble_eq_true rfl, Nat.le_of_ble_eq_true rfl⟩) (x_preV hK hPc hDc 0 rfl rfl) rfl rfl hl.1 rfl (lv_room (Nat.le_of_ble_eq_true rfl)) xd_De_modules_2 ⟨hkc, hks⟩) hS (fun q _ h => hFc q h) hFc (fun r u t H1 locs ht hvm hpost hB hz1 hk1 hS => ?_)
  subst hpost
  obtain ⟨hP1, hD1⟩ := hB
  rw [ht] at hP1
  obtain ⟨hP, hD⟩ := va_join (wr := []) (w1 := [(x, .inr (0, [.ref L, .ref S, .ref C, .ref P, .int 0, .int 0]))]) hP hD [0] [] rfl rfl (by decide) (by decide) hk1 hFc hP1 hD1
  generalize H1 = H at hP hS ⊢
  have hP : va_P D xcl [(x, .inr (0, [.ref L, .ref S, .ref C, .ref P, .int 0, .int 0]))] H := hP
  have hD : va_D A [(x, .inr (0, [.ref L, .ref S, .ref C, .ref P, .int 0, .int 0]))] := hD
  refine lv_astore_nN hx hb xd_De_modules_5 rfl hl (Nat.le_of_ble_eq_true rfl) rfl (fun ls hl => ?_)
  have hl : lv_has ls 3 [(2, .null), (0, .ref x), (1, .int n)] := hl
  refine lv_aload_nN hx hb xd_De_modules_6 rfl (lv_at hl 0 rfl) ?_
  refine lv_ifnonnullN hx hb xd_De_modules_7 ?_
  refine lv_iconst (v := (-1)) hx hb xd_De_modules_10 (by decide) ?_
  refine lv_goto (tgt := 19) hx hb xd_De_modules_11 (by decide) ?_
  have hP9 := hP.sub (ws' := [(x, .inr (0, [.ref L, .ref S, .ref C, .ref P, .int 0, .int 0]))]) [0] rfl
  have hD9 := hD.sub (ws' := [(x, .inr (0, [.ref L, .ref S, .ref C, .ref P, .int 0, .int 0]))]) [0] (by decide) rfl
  refine W.widen (k := 0) (n := 0) (Nat.le_of_ble_eq_true rfl) (Nat.le_of_ble_eq_true rfl) ?_
  exact W.iret (v := (-1)) hx hb hr (fun t ht hW => ⟨⟨(-1), (), rfl, rfl, by rw [ht]; exact hP9, hD9⟩, hS.F ht⟩) hS.2.2 xd_De_modules_19
set_option maxHeartbeats 4000000 in
set_option maxRecDepth 100000 in
theorem xc_De_memberAt (l : Launch) (D : va_G) (kA : Nat → ClassId) (sz : Nat) (x : Nat) (L : Nat) (S : Nat) (C : Nat) (P : Nat) (n : Int32) (k : Int32) : Met l xy_De_memberAt (.code xy_De_memberAt xb_De_memberAt 4 (some (.object "LayerDesk$Member")) :: wT) { frames := 1, cells := 0, slots := 0, locals := 22 } (va_Pc [.ref x, .int n, .int k] (xPre D kA sz [(x, .inr (0, [.ref L, .ref S, .ref C, .ref P, .int 0, .int 0]))])) (va_Qq (fun (r : Option Nat) (u : Unit) => r = none) (fun (u : Unit) t => va_P D xcl [(x, .inr (0, [.ref L, .ref S, .ref C, .ref P, .int 0, .int 0]))] t.heap ∧ va_D (va_A [(x, .inr (0, [.ref L, .ref S, .ref C, .ref P, .int 0, .int 0]))] sz) [(x, .inr (0, [.ref L, .ref S, .ref C, .ref P, .int 0, .int 0]))]) (va_A [(x, .inr (0, [.ref L, .ref S, .ref C, .ref P, .int 0, .int 0]))] sz)) 0 0 (va_A [(x, .inr (0, [.ref L, .ref S, .ref C, .ref P, .int 0, .int 0]))] sz) := by
  refine Met.ofW (cc := xb_De_memberAt) (maxL := 4) (ret := (some (.object "LayerDesk$Member"))) (by decide) rfl ?_
  intro p e s m args below meth c s₁ B hml hv
  obtain ⟨rfl, hsz, hP, hK, hD0⟩ := hv
  have hx := B.exec
  have hb := B.bytes
  have hr := B.returns
  have hT := x_hT B.pre
  have hown : s.vm.findClass xR_De = some m.cls := findClass_of_methodNamed B.named
  have hlocks := B.notSynchronized
  subst hsz
  have hD := hD0.self (sz := s.heap.size)
  generalize hAe : va_A [(x, .inr (0, [.ref L, .ref S, .ref C, .ref P, .int 0, .int 0]))] s.heap.size = A at hD ⊢
  have hA : ∀ q : Nat, s.heap.size ≤ q → A q := fun q h => by rw [← hAe]; exact Or.inr h
  have hS : va_S A s.heap s.heap [] := va_S.rf
  have hP : va_P D xcl [(x, .inr (0, [.ref L, .ref S, .ref C, .ref P, .int 0, .int 0]))] s.heap := hP
  have hl := lv_entry ([.ref x, .int n, .int k]) (n := 4) (Nat.le_of_ble_eq_true rfl)
  rw [lg_entry_eq]
  generalize (lg_sl ([.ref x, .int n, .int k]) ++ List.replicate (4 - (lg_sl ([.ref x, .int n, .int k])).length) Slot.unset).toArray = ls at hl ⊢
  have hl : lv_has ls 4 [(0, .ref x), (1, .int n), (2, .int k)] := hl
  refine lv_aload_n hx hb xd_De_memberAt_0 rfl (lv_at hl 0 rfl) ?_
  refine lv_iload_n hx hb xd_De_memberAt_1 rfl (lv_at hl 1 rfl) ?_
  have hPc := hP.sub (ws' := [(x, .inr (0, [.ref L, .ref S, .ref C, .ref P, .int 0, .int 0]))]) [0] rfl
  have hDc := hD.sub (ws' := [(x, .inr (0, [.ref L, .ref S, .ref C, .ref P, .int 0, .int 0]))]) [0] (by decide) rfl
  have hFc := va_free (wc := [(x, .inr (0, [.ref L, .ref S, .ref C, .ref P, .int 0, .int 0]))]) hD hS hA [0] rfl
  have hkc : 0 + 0 ≤ 0 := Nat.le_of_ble_eq_true rfl
  have hks : 0 + 0 ≤ 0 := Nat.le_of_ble_eq_true rfl
  refine va_callq (va_runV (As := [.int n]) (rest := []) ⟨hx, hb, hml, hown, hT⟩ (xc_De_openLayer l D kA s.heap.size x L S C P n) (cwV 1 hT (wT_V xk_87 xk_88 xk_89 xk_90 xk_86) rfl rfl rfl (by decide +kernel) ⟨Nat.le_of_ble_eq_true rfl, Nat.le_of_ble_eq_true rfl⟩) (x_preV hK hPc hDc 0 rfl rfl) rfl rfl hl.1 rfl (lv_room (Nat.le_of_ble_eq_true rfl)) xd_De_memberAt_2 ⟨hkc, hks⟩) hS (fun q _ h => hFc q h) hFc (fun r u t H1 locs ht hvm hpost hB hz1 hk1 hS => ?_)
  subst hpost
  obtain ⟨hP1, hD1⟩ := hB
  rw [ht] at hP1
  obtain ⟨hP, hD⟩ := va_join (wr := []) (w1 := [(x, .inr (0, [.ref L, .ref S, .ref C, .ref P, .int 0, .int 0]))]) hP hD [0] [] rfl rfl (by decide) (by decide) hk1 hFc hP1 hD1
  generalize H1 = H at hP hS ⊢
  have hP : va_P D xcl [(x, .inr (0, [.ref L, .ref S, .ref C, .ref P, .int 0, .int 0]))] H := hP
  have hD : va_D A [(x, .inr (0, [.ref L, .ref S, .ref C, .ref P, .int 0, .int 0]))] := hD
  refine lv_astore_nN hx hb xd_De_memberAt_5 rfl hl (Nat.le_of_ble_eq_true rfl) rfl (fun ls hl => ?_)
  have hl : lv_has ls 4 [(3, .null), (0, .ref x), (1, .int n), (2, .int k)] := hl
  refine lv_aload_nN hx hb xd_De_memberAt_6 rfl (lv_at hl 0 rfl) ?_
  refine lv_ifnullN (tgt := 23) hx hb xd_De_memberAt_7 (by decide) ?_
  refine lv_null hx hb xd_De_memberAt_23 ?_
  refine lv_goto (tgt := 33) hx hb xd_De_memberAt_24 (by decide) ?_
  have hP9 := hP.sub (ws' := [(x, .inr (0, [.ref L, .ref S, .ref C, .ref P, .int 0, .int 0]))]) [0] rfl
  have hD9 := hD.sub (ws' := [(x, .inr (0, [.ref L, .ref S, .ref C, .ref P, .int 0, .int 0]))]) [0] (by decide) rfl
  refine W.widen (k := 0) (n := 0) (Nat.le_of_ble_eq_true rfl) (Nat.le_of_ble_eq_true rfl) ?_
  exact W.aret (v := .null) hx hb hr (Or.inl ⟨_, rfl⟩) (Or.inl rfl) (fun t ht hW => ⟨⟨none, (), rfl, rfl, by rw [ht]; exact hP9, hD9⟩, hS.F ht⟩) hS.2.2 xd_De_memberAt_33
set_option maxHeartbeats 4000000 in
set_option maxRecDepth 100000 in
theorem xc_De_memberOf (l : Launch) (D : va_G) (kA : Nat → ClassId) (sz : Nat) (x : Nat) (L : Nat) (S : Nat) (C : Nat) (P : Nat) (n : Int32) (k : Int32) : Met l xy_De_memberOf (.code xy_De_memberOf xb_De_memberOf 4 (some (.object "LayerDesk$Member")) :: wT) { frames := 1, cells := 0, slots := 0, locals := 22 } (va_Pc [.ref x, .int n, .int k] (xPre D kA sz [(x, .inr (0, [.ref L, .ref S, .ref C, .ref P, .int 0, .int 0]))])) (va_Qq (fun (r : Option Nat) (u : Unit) => r = none) (fun (u : Unit) t => va_P D xcl [(x, .inr (0, [.ref L, .ref S, .ref C, .ref P, .int 0, .int 0]))] t.heap ∧ va_D (va_A [(x, .inr (0, [.ref L, .ref S, .ref C, .ref P, .int 0, .int 0]))] sz) [(x, .inr (0, [.ref L, .ref S, .ref C, .ref P, .int 0, .int 0]))]) (va_A [(x, .inr (0, [.ref L, .ref S, .ref C, .ref P, .int 0, .int 0]))] sz)) 0 0 (va_A [(x, .inr (0, [.ref L, .ref S, .ref C, .ref P, .int 0, .int 0]))] sz) := by
  refine Met.ofW (cc := xb_De_memberOf) (maxL := 4) (ret := (some (.object "LayerDesk$Member"))) (by decide) rfl ?_
  intro p e s m args below meth c s₁ B hml hv
  obtain ⟨rfl, hsz, hP, hK, hD0⟩ := hv
  have hx := B.exec
  have hb := B.bytes
  have hr := B.returns
  have hT := x_hT B.pre
  have hown : s.vm.findClass xR_De = some m.cls := findClass_of_methodNamed B.named
  have hlocks := B.notSynchronized
  subst hsz
  have hD := hD0.self (sz := s.heap.size)
  generalize hAe : va_A [(x, .inr (0, [.ref L, .ref S, .ref C, .ref P, .int 0, .int 0]))] s.heap.size = A at hD ⊢
  have hA : ∀ q : Nat, s.heap.size ≤ q → A q := fun q h => by rw [← hAe]; exact Or.inr h
  have hS : va_S A s.heap s.heap [] := va_S.rf
  have hP : va_P D xcl [(x, .inr (0, [.ref L, .ref S, .ref C, .ref P, .int 0, .int 0]))] s.heap := hP
  have hl := lv_entry ([.ref x, .int n, .int k]) (n := 4) (Nat.le_of_ble_eq_true rfl)
  rw [lg_entry_eq]
  generalize (lg_sl ([.ref x, .int n, .int k]) ++ List.replicate (4 - (lg_sl ([.ref x, .int n, .int k])).length) Slot.unset).toArray = ls at hl ⊢
  have hl : lv_has ls 4 [(0, .ref x), (1, .int n), (2, .int k)] := hl
  refine lv_aload_n hx hb xd_De_memberOf_0 rfl (lv_at hl 0 rfl) ?_
  refine lv_iload_n hx hb xd_De_memberOf_1 rfl (lv_at hl 1 rfl) ?_
  have hPc := hP.sub (ws' := [(x, .inr (0, [.ref L, .ref S, .ref C, .ref P, .int 0, .int 0]))]) [0] rfl
  have hDc := hD.sub (ws' := [(x, .inr (0, [.ref L, .ref S, .ref C, .ref P, .int 0, .int 0]))]) [0] (by decide) rfl
  have hFc := va_free (wc := [(x, .inr (0, [.ref L, .ref S, .ref C, .ref P, .int 0, .int 0]))]) hD hS hA [0] rfl
  have hkc : 0 + 0 ≤ 0 := Nat.le_of_ble_eq_true rfl
  have hks : 0 + 0 ≤ 0 := Nat.le_of_ble_eq_true rfl
  refine va_callq (va_runV (As := [.int n]) (rest := []) ⟨hx, hb, hml, hown, hT⟩ (xc_De_openLayer l D kA s.heap.size x L S C P n) (cwV 1 hT (wT_V xk_87 xk_88 xk_89 xk_90 xk_86) rfl rfl rfl (by decide +kernel) ⟨Nat.le_of_ble_eq_true rfl, Nat.le_of_ble_eq_true rfl⟩) (x_preV hK hPc hDc 0 rfl rfl) rfl rfl hl.1 rfl (lv_room (Nat.le_of_ble_eq_true rfl)) xd_De_memberOf_2 ⟨hkc, hks⟩) hS (fun q _ h => hFc q h) hFc (fun r u t H1 locs ht hvm hpost hB hz1 hk1 hS => ?_)
  subst hpost
  obtain ⟨hP1, hD1⟩ := hB
  rw [ht] at hP1
  obtain ⟨hP, hD⟩ := va_join (wr := []) (w1 := [(x, .inr (0, [.ref L, .ref S, .ref C, .ref P, .int 0, .int 0]))]) hP hD [0] [] rfl rfl (by decide) (by decide) hk1 hFc hP1 hD1
  generalize H1 = H at hP hS ⊢
  have hP : va_P D xcl [(x, .inr (0, [.ref L, .ref S, .ref C, .ref P, .int 0, .int 0]))] H := hP
  have hD : va_D A [(x, .inr (0, [.ref L, .ref S, .ref C, .ref P, .int 0, .int 0]))] := hD
  refine lv_astore_nN hx hb xd_De_memberOf_5 rfl hl (Nat.le_of_ble_eq_true rfl) rfl (fun ls hl => ?_)
  have hl : lv_has ls 4 [(3, .null), (0, .ref x), (1, .int n), (2, .int k)] := hl
  refine lv_aload_nN hx hb xd_De_memberOf_6 rfl (lv_at hl 0 rfl) ?_
  refine lv_ifnonnullN hx hb xd_De_memberOf_7 ?_
  refine lv_null hx hb xd_De_memberOf_10 ?_
  refine lv_goto (tgt := 19) hx hb xd_De_memberOf_11 (by decide) ?_
  have hP9 := hP.sub (ws' := [(x, .inr (0, [.ref L, .ref S, .ref C, .ref P, .int 0, .int 0]))]) [0] rfl
  have hD9 := hD.sub (ws' := [(x, .inr (0, [.ref L, .ref S, .ref C, .ref P, .int 0, .int 0]))]) [0] (by decide) rfl
  refine W.widen (k := 0) (n := 0) (Nat.le_of_ble_eq_true rfl) (Nat.le_of_ble_eq_true rfl) ?_
  exact W.aret (v := .null) hx hb hr (Or.inl ⟨_, rfl⟩) (Or.inl rfl) (fun t ht hW => ⟨⟨none, (), rfl, rfl, by rw [ht]; exact hP9, hD9⟩, hS.F ht⟩) hS.2.2 xd_De_memberOf_19
set_option maxHeartbeats 4000000 in
set_option maxRecDepth 100000 in
theorem xc_De_module (l : Launch) (D : va_G) (kA : Nat → ClassId) (sz : Nat) (x : Nat) (L : Nat) (S : Nat) (C : Nat) (P : Nat) (n : Int32) (k : Int32) : Met l xy_De_module (.code xy_De_module xb_De_module 4 (some .int) :: wT) { frames := 2, cells := 0, slots := 0, locals := 45 } (va_Pc [.ref x, .int n, .int k] (xPre D kA sz [(x, .inr (0, [.ref L, .ref S, .ref C, .ref P, .int 0, .int 0]))])) (va_Qi (fun (r : Int32) (u : Unit) => r = (-1)) (fun (u : Unit) t => va_P D xcl [(x, .inr (0, [.ref L, .ref S, .ref C, .ref P, .int 0, .int 0]))] t.heap ∧ va_D (va_A [(x, .inr (0, [.ref L, .ref S, .ref C, .ref P, .int 0, .int 0]))] sz) [(x, .inr (0, [.ref L, .ref S, .ref C, .ref P, .int 0, .int 0]))]) (va_A [(x, .inr (0, [.ref L, .ref S, .ref C, .ref P, .int 0, .int 0]))] sz)) 0 0 (va_A [(x, .inr (0, [.ref L, .ref S, .ref C, .ref P, .int 0, .int 0]))] sz) := by
  refine Met.ofW (cc := xb_De_module) (maxL := 4) (ret := (some .int)) (by decide) rfl ?_
  intro p e s m args below meth c s₁ B hml hv
  obtain ⟨rfl, hsz, hP, hK, hD0⟩ := hv
  have hx := B.exec
  have hb := B.bytes
  have hr := B.returns
  have hT := x_hT B.pre
  have hown : s.vm.findClass xR_De = some m.cls := findClass_of_methodNamed B.named
  have hlocks := B.notSynchronized
  subst hsz
  have hD := hD0.self (sz := s.heap.size)
  generalize hAe : va_A [(x, .inr (0, [.ref L, .ref S, .ref C, .ref P, .int 0, .int 0]))] s.heap.size = A at hD ⊢
  have hA : ∀ q : Nat, s.heap.size ≤ q → A q := fun q h => by rw [← hAe]; exact Or.inr h
  have hS : va_S A s.heap s.heap [] := va_S.rf
  have hP : va_P D xcl [(x, .inr (0, [.ref L, .ref S, .ref C, .ref P, .int 0, .int 0]))] s.heap := hP
  have hl := lv_entry ([.ref x, .int n, .int k]) (n := 4) (Nat.le_of_ble_eq_true rfl)
  rw [lg_entry_eq]
  generalize (lg_sl ([.ref x, .int n, .int k]) ++ List.replicate (4 - (lg_sl ([.ref x, .int n, .int k])).length) Slot.unset).toArray = ls at hl ⊢
  have hl : lv_has ls 4 [(0, .ref x), (1, .int n), (2, .int k)] := hl
  refine lv_aload_n hx hb xd_De_module_0 rfl (lv_at hl 0 rfl) ?_
  refine lv_iload_n hx hb xd_De_module_1 rfl (lv_at hl 1 rfl) ?_
  refine lv_iload_n hx hb xd_De_module_2 rfl (lv_at hl 2 rfl) ?_
  have hPc := hP.sub (ws' := [(x, .inr (0, [.ref L, .ref S, .ref C, .ref P, .int 0, .int 0]))]) [0] rfl
  have hDc := hD.sub (ws' := [(x, .inr (0, [.ref L, .ref S, .ref C, .ref P, .int 0, .int 0]))]) [0] (by decide) rfl
  have hFc := va_free (wc := [(x, .inr (0, [.ref L, .ref S, .ref C, .ref P, .int 0, .int 0]))]) hD hS hA [0] rfl
  have hkc : 0 + 0 ≤ 0 := Nat.le_of_ble_eq_true rfl
  have hks : 0 + 0 ≤ 0 := Nat.le_of_ble_eq_true rfl
  refine va_callq (va_runV (As := [.int n, .int k]) (rest := []) ⟨hx, hb, hml, hown, hT⟩ (xc_De_memberAt l D kA s.heap.size x L S C P n k) (cwV 2 hT (wT_V xk_97 xk_98 xk_99 xk_90 xk_96) rfl rfl rfl (by decide +kernel) ⟨Nat.le_of_ble_eq_true rfl, Nat.le_of_ble_eq_true rfl⟩) (x_preV hK hPc hDc 0 rfl rfl) rfl rfl hl.1 rfl (lv_room (Nat.le_of_ble_eq_true rfl)) xd_De_module_3 ⟨hkc, hks⟩) hS (fun q _ h => hFc q h) hFc (fun r u t H1 locs ht hvm hpost hB hz1 hk1 hS => ?_)
  subst hpost
  obtain ⟨hP1, hD1⟩ := hB
  rw [ht] at hP1
  obtain ⟨hP, hD⟩ := va_join (wr := []) (w1 := [(x, .inr (0, [.ref L, .ref S, .ref C, .ref P, .int 0, .int 0]))]) hP hD [0] [] rfl rfl (by decide) (by decide) hk1 hFc hP1 hD1
  generalize H1 = H at hP hS ⊢
  have hP : va_P D xcl [(x, .inr (0, [.ref L, .ref S, .ref C, .ref P, .int 0, .int 0]))] H := hP
  have hD : va_D A [(x, .inr (0, [.ref L, .ref S, .ref C, .ref P, .int 0, .int 0]))] := hD
  refine lv_astore_nN hx hb xd_De_module_6 rfl hl (Nat.le_of_ble_eq_true rfl) rfl (fun ls hl => ?_)
  have hl : lv_has ls 4 [(3, .null), (0, .ref x), (1, .int n), (2, .int k)] := hl
  refine lv_aload_nN hx hb xd_De_module_7 rfl (lv_at hl 0 rfl) ?_
  refine lv_ifnonnullN hx hb xd_De_module_8 ?_
  refine lv_iconst (v := (-1)) hx hb xd_De_module_11 (by decide) ?_
  refine lv_goto (tgt := 22) hx hb xd_De_module_12 (by decide) ?_
  have hP9 := hP.sub (ws' := [(x, .inr (0, [.ref L, .ref S, .ref C, .ref P, .int 0, .int 0]))]) [0] rfl
  have hD9 := hD.sub (ws' := [(x, .inr (0, [.ref L, .ref S, .ref C, .ref P, .int 0, .int 0]))]) [0] (by decide) rfl
  refine W.widen (k := 0) (n := 0) (Nat.le_of_ble_eq_true rfl) (Nat.le_of_ble_eq_true rfl) ?_
  exact W.iret (v := (-1)) hx hb hr (fun t ht hW => ⟨⟨(-1), (), rfl, rfl, by rw [ht]; exact hP9, hD9⟩, hS.F ht⟩) hS.2.2 xd_De_module_22
set_option maxHeartbeats 4000000 in
set_option maxRecDepth 100000 in
theorem xc_De_reads (l : Launch) (D : va_G) (kA : Nat → ClassId) (sz : Nat) (x : Nat) (L : Nat) (S : Nat) (C : Nat) (P : Nat) (n : Int32) (k : Int32) (n2 : Int32) (k2 : Int32) : Met l xy_De_reads (.code xy_De_reads xb_De_reads 7 (some .boolean) :: wT) { frames := 2, cells := 0, slots := 0, locals := 45 } (va_Pc [.ref x, .int n, .int k, .int n2, .int k2] (xPre D kA sz [(x, .inr (0, [.ref L, .ref S, .ref C, .ref P, .int 0, .int 0]))])) (va_Qi (fun (r : Int32) (u : Unit) => r = 0) (fun (u : Unit) t => va_P D xcl [(x, .inr (0, [.ref L, .ref S, .ref C, .ref P, .int 0, .int 0]))] t.heap ∧ va_D (va_A [(x, .inr (0, [.ref L, .ref S, .ref C, .ref P, .int 0, .int 0]))] sz) [(x, .inr (0, [.ref L, .ref S, .ref C, .ref P, .int 0, .int 0]))]) (va_A [(x, .inr (0, [.ref L, .ref S, .ref C, .ref P, .int 0, .int 0]))] sz)) 0 0 (va_A [(x, .inr (0, [.ref L, .ref S, .ref C, .ref P, .int 0, .int 0]))] sz) := by
  refine Met.ofW (cc := xb_De_reads) (maxL := 7) (ret := (some .boolean)) (by decide) rfl ?_
  intro p e s m args below meth c s₁ B hml hv
  obtain ⟨rfl, hsz, hP, hK, hD0⟩ := hv
  have hx := B.exec
  have hb := B.bytes
  have hr := B.returns
  have hT := x_hT B.pre
  have hown : s.vm.findClass xR_De = some m.cls := findClass_of_methodNamed B.named
  have hlocks := B.notSynchronized
  subst hsz
  have hD := hD0.self (sz := s.heap.size)
  generalize hAe : va_A [(x, .inr (0, [.ref L, .ref S, .ref C, .ref P, .int 0, .int 0]))] s.heap.size = A at hD ⊢
  have hA : ∀ q : Nat, s.heap.size ≤ q → A q := fun q h => by rw [← hAe]; exact Or.inr h
  have hS : va_S A s.heap s.heap [] := va_S.rf
  have hP : va_P D xcl [(x, .inr (0, [.ref L, .ref S, .ref C, .ref P, .int 0, .int 0]))] s.heap := hP
  have hl := lv_entry ([.ref x, .int n, .int k, .int n2, .int k2]) (n := 7) (Nat.le_of_ble_eq_true rfl)
  rw [lg_entry_eq]
  generalize (lg_sl ([.ref x, .int n, .int k, .int n2, .int k2]) ++ List.replicate (7 - (lg_sl ([.ref x, .int n, .int k, .int n2, .int k2])).length) Slot.unset).toArray = ls at hl ⊢
  have hl : lv_has ls 7 [(0, .ref x), (1, .int n), (2, .int k), (3, .int n2), (4, .int k2)] := hl
  refine lv_aload_n hx hb xd_De_reads_0 rfl (lv_at hl 0 rfl) ?_
  refine lv_iload_n hx hb xd_De_reads_1 rfl (lv_at hl 1 rfl) ?_
  refine lv_iload_n hx hb xd_De_reads_2 rfl (lv_at hl 2 rfl) ?_
  have hPc := hP.sub (ws' := [(x, .inr (0, [.ref L, .ref S, .ref C, .ref P, .int 0, .int 0]))]) [0] rfl
  have hDc := hD.sub (ws' := [(x, .inr (0, [.ref L, .ref S, .ref C, .ref P, .int 0, .int 0]))]) [0] (by decide) rfl
  have hFc := va_free (wc := [(x, .inr (0, [.ref L, .ref S, .ref C, .ref P, .int 0, .int 0]))]) hD hS hA [0] rfl
  have hkc : 0 + 0 ≤ 0 := Nat.le_of_ble_eq_true rfl
  have hks : 0 + 0 ≤ 0 := Nat.le_of_ble_eq_true rfl
  refine va_callq (va_runV (As := [.int n, .int k]) (rest := []) ⟨hx, hb, hml, hown, hT⟩ (xc_De_memberAt l D kA s.heap.size x L S C P n k) (cwV 2 hT (wT_V xk_97 xk_98 xk_99 xk_90 xk_96) rfl rfl rfl (by decide +kernel) ⟨Nat.le_of_ble_eq_true rfl, Nat.le_of_ble_eq_true rfl⟩) (x_preV hK hPc hDc 0 rfl rfl) rfl rfl hl.1 rfl (lv_room (Nat.le_of_ble_eq_true rfl)) xd_De_reads_3 ⟨hkc, hks⟩) hS (fun q _ h => hFc q h) hFc (fun r u t H1 locs ht hvm hpost hB hz1 hk1 hS => ?_)
  subst hpost
  obtain ⟨hP1, hD1⟩ := hB
  rw [ht] at hP1
  obtain ⟨hP, hD⟩ := va_join (wr := []) (w1 := [(x, .inr (0, [.ref L, .ref S, .ref C, .ref P, .int 0, .int 0]))]) hP hD [0] [] rfl rfl (by decide) (by decide) hk1 hFc hP1 hD1
  generalize H1 = H at hP hS ⊢
  have hP : va_P D xcl [(x, .inr (0, [.ref L, .ref S, .ref C, .ref P, .int 0, .int 0]))] H := hP
  have hD : va_D A [(x, .inr (0, [.ref L, .ref S, .ref C, .ref P, .int 0, .int 0]))] := hD
  refine lv_astoreN hx hb xd_De_reads_6 hl (Nat.le_of_ble_eq_true rfl) rfl (fun ls hl => ?_)
  have hl : lv_has ls 7 [(5, .null), (0, .ref x), (1, .int n), (2, .int k), (3, .int n2), (4, .int k2)] := hl
  refine lv_aload_n hx hb xd_De_reads_8 rfl (lv_at hl 1 rfl) ?_
  refine lv_iload_n hx hb xd_De_reads_9 rfl (lv_at hl 4 rfl) ?_
  refine lv_iload hx hb xd_De_reads_10 (lv_at hl 5 rfl) ?_
  have hPc := hP.sub (ws' := [(x, .inr (0, [.ref L, .ref S, .ref C, .ref P, .int 0, .int 0]))]) [0] rfl
  have hDc := hD.sub (ws' := [(x, .inr (0, [.ref L, .ref S, .ref C, .ref P, .int 0, .int 0]))]) [0] (by decide) rfl
  have hFc := va_free (wc := [(x, .inr (0, [.ref L, .ref S, .ref C, .ref P, .int 0, .int 0]))]) hD hS hA [0] rfl
  have hkc : 0 + 0 ≤ 0 := Nat.le_of_ble_eq_true rfl
  have hks : 0 + 0 ≤ 0 := Nat.le_of_ble_eq_true rfl
  refine va_callq (va_runV (As := [.int n2, .int k2]) (rest := []) ⟨hx, hb, hml, hown, hT⟩ (xc_De_memberOf l D kA H.size x L S C P n2 k2) (cwV 2 hT (wT_V xk_101 xk_102 xk_103 xk_90 xk_100) rfl rfl rfl (by decide +kernel) ⟨Nat.le_of_ble_eq_true rfl, Nat.le_of_ble_eq_true rfl⟩) (x_preV hK hPc hDc 0 rfl rfl) rfl rfl hl.1 rfl (lv_room (Nat.le_of_ble_eq_true rfl)) xd_De_reads_12 ⟨hkc, hks⟩) hS (fun q _ h => hFc q h) hFc (fun r u t H1 locs ht hvm hpost hB hz1 hk1 hS => ?_)
  subst hpost
  obtain ⟨hP1, hD1⟩ := hB
  rw [ht] at hP1
  obtain ⟨hP, hD⟩ := va_join (wr := []) (w1 := [(x, .inr (0, [.ref L, .ref S, .ref C, .ref P, .int 0, .int 0]))]) hP hD [0] [] rfl rfl (by decide) (by decide) hk1 hFc hP1 hD1
  generalize H1 = H at hP hS ⊢
  have hP : va_P D xcl [(x, .inr (0, [.ref L, .ref S, .ref C, .ref P, .int 0, .int 0]))] H := hP
  have hD : va_D A [(x, .inr (0, [.ref L, .ref S, .ref C, .ref P, .int 0, .int 0]))] := hD
  refine lv_astoreN hx hb xd_De_reads_15 hl (Nat.le_of_ble_eq_true rfl) rfl (fun ls hl => ?_)
  have hl : lv_has ls 7 [(6, .null), (5, .null), (0, .ref x), (1, .int n), (2, .int k), (3, .int n2), (4, .int k2)] := hl
  refine lv_aloadN hx hb xd_De_reads_17 (lv_at hl 1 rfl) ?_
  refine lv_ifnullN (tgt := 44) hx hb xd_De_reads_19 (by decide) ?_
  refine lv_iconst (v := 0) hx hb xd_De_reads_44 (by decide) ?_
  have hP9 := hP.sub (ws' := [(x, .inr (0, [.ref L, .ref S, .ref C, .ref P, .int 0, .int 0]))]) [0] rfl
  have hD9 := hD.sub (ws' := [(x, .inr (0, [.ref L, .ref S, .ref C, .ref P, .int 0, .int 0]))]) [0] (by decide) rfl
  refine W.widen (k := 0) (n := 0) (Nat.le_of_ble_eq_true rfl) (Nat.le_of_ble_eq_true rfl) ?_
  exact W.zret (v := 0) hx hb hr rfl (fun t ht hW => ⟨⟨0, (), rfl, rfl, by rw [ht]; exact hP9, hD9⟩, hS.F ht⟩) hS.2.2 xd_De_reads_45
set_option maxHeartbeats 4000000 in
set_option maxRecDepth 100000 in
theorem xc_De_rootsAreNames (l : Launch) (D : va_G) (kA : Nat → ClassId) (sz : Nat) (x : Nat) (L : Nat) (S : Nat) (C : Nat) (P : Nat) (tx : Nat) (b1 : Nat) (b2 : Nat) : Met l xy_De_rootsAreNames (.code xy_De_rootsAreNames xb_De_rootsAreNames 2 (some .boolean) :: wT) { frames := 0, cells := 0, slots := 0, locals := 0 } (va_Pc [.ref x] (xPre D kA sz [(x, .inr (0, [.ref L, .ref S, .ref C, .ref P, .int 0, .int 0])), (L, .inr (1, [.ref tx, .ref b1, .ref b2, .int 0, .int 0]))])) (va_Qi (fun (r : Int32) (u : Unit) => r = 0) (fun (u : Unit) t => va_P D xcl [(x, .inr (0, [.ref L, .ref S, .ref C, .ref P, .int 0, .int 0])), (L, .inr (1, [.ref tx, .ref b1, .ref b2, .int 0, .int 0]))] t.heap ∧ va_D (va_A [(x, .inr (0, [.ref L, .ref S, .ref C, .ref P, .int 0, .int 0])), (L, .inr (1, [.ref tx, .ref b1, .ref b2, .int 0, .int 0]))] sz) [(x, .inr (0, [.ref L, .ref S, .ref C, .ref P, .int 0, .int 0])), (L, .inr (1, [.ref tx, .ref b1, .ref b2, .int 0, .int 0]))]) (va_A [(x, .inr (0, [.ref L, .ref S, .ref C, .ref P, .int 0, .int 0])), (L, .inr (1, [.ref tx, .ref b1, .ref b2, .int 0, .int 0]))] sz)) 0 0 (va_A [(x, .inr (0, [.ref L, .ref S, .ref C, .ref P, .int 0, .int 0])), (L, .inr (1, [.ref tx, .ref b1, .ref b2, .int 0, .int 0]))] sz) := by
  refine Met.ofW (cc := xb_De_rootsAreNames) (maxL := 2) (ret := (some .boolean)) (by decide) rfl ?_
  intro p e s m args below meth c s₁ B hml hv
  obtain ⟨rfl, hsz, hP, hK, hD0⟩ := hv
  have hx := B.exec
  have hb := B.bytes
  have hr := B.returns
  have hT := x_hT B.pre
  have hown : s.vm.findClass xR_De = some m.cls := findClass_of_methodNamed B.named
  have hlocks := B.notSynchronized
  subst hsz
  have hD := hD0.self (sz := s.heap.size)
  generalize hAe : va_A [(x, .inr (0, [.ref L, .ref S, .ref C, .ref P, .int 0, .int 0])), (L, .inr (1, [.ref tx, .ref b1, .ref b2, .int 0, .int 0]))] s.heap.size = A at hD ⊢
  have hA : ∀ q : Nat, s.heap.size ≤ q → A q := fun q h => by rw [← hAe]; exact Or.inr h
  have hS : va_S A s.heap s.heap [] := va_S.rf
  have hP : va_P D xcl [(x, .inr (0, [.ref L, .ref S, .ref C, .ref P, .int 0, .int 0])), (L, .inr (1, [.ref tx, .ref b1, .ref b2, .int 0, .int 0]))] s.heap := hP
  have hl := lv_entry ([.ref x]) (n := 2) (Nat.le_of_ble_eq_true rfl)
  rw [lg_entry_eq]
  generalize (lg_sl ([.ref x]) ++ List.replicate (2 - (lg_sl ([.ref x])).length) Slot.unset).toArray = ls at hl ⊢
  have hl : lv_has ls 2 [(0, .ref x)] := hl
  refine lv_aload_n hx hb xd_De_rootsAreNames_0 rfl (lv_at hl 0 rfl) ?_
  refine va_get (D := D) (ci := 0) (v := .ref L) (C := xR_De) (T := xT_De) (N := 6) hx hb hT xi_De hown hK.1 hP 0 rfl rfl 0 (by decide) (hT _ xk_27) (fun _ h9 => h9) rfl xd_De_rootsAreNames_1 ?_
  refine va_get (D := D) (ci := 1) (v := .int 0) (C := xR_Li) (T := xT_Li) (N := 5) hx hb hT xi_Li hown hK.1 hP 1 rfl rfl 4 (by decide) (hT _ xk_104) (fun _ h9 => h9) rfl xd_De_rootsAreNames_4 ?_
  refine lv_iconst (v := 1) hx hb xd_De_rootsAreNames_7 (by decide) ?_
  refine lv_icmp_lt (tgt := 22) hx hb xd_De_rootsAreNames_8 (by decide) (fun _ => ?_) (fun hc => absurd (by decide) hc)
  refine lv_iconst (v := 0) hx hb xd_De_rootsAreNames_22 (by decide) ?_
  have hP9 := hP.sub (ws' := [(x, .inr (0, [.ref L, .ref S, .ref C, .ref P, .int 0, .int 0])), (L, .inr (1, [.ref tx, .ref b1, .ref b2, .int 0, .int 0]))]) [0, 1] rfl
  have hD9 := hD.sub (ws' := [(x, .inr (0, [.ref L, .ref S, .ref C, .ref P, .int 0, .int 0])), (L, .inr (1, [.ref tx, .ref b1, .ref b2, .int 0, .int 0]))]) [0, 1] (by decide) rfl
  refine W.widen (k := 0) (n := 0) (Nat.le_of_ble_eq_true rfl) (Nat.le_of_ble_eq_true rfl) ?_
  exact W.zret (v := 0) hx hb hr rfl (fun t ht hW => ⟨⟨0, (), rfl, rfl, by rw [ht]; exact hP9, hD9⟩, hS.F ht⟩) hS.2.2 xd_De_rootsAreNames_23
set_option maxHeartbeats 4000000 in
set_option maxRecDepth 100000 in
theorem xc_De_layer (l : Launch) (hlt : l.stackTraces = false) (D : va_G) (kA : Nat → ClassId) (sz sa : Nat) (x : Nat) (L : Nat) (S : Nat) (C : Nat) (P : Nat) (tx : Nat) (b1 : Nat) (b2 : Nat) (n : Int32) (k : Int32) (z : Int32) : vx_Met l xy_De_layer (.code xy_De_layer xb_De_layer 7 (some .int) :: wT) { frames := 6, cells := 1, slots := 6, locals := 82 } (va_Pc [.ref x, .int n, .int k, .int z] (xPreX D kA sz [(x, .inr (0, [.ref L, .ref S, .ref C, .ref P, .int 0, .int 0])), (L, .inr (1, [.ref tx, .ref b1, .ref b2, .int 0, .int 0]))] "LayerDesk" 80 "no roots, no such finder or no open parent" sa)) (va_Qi (fun (r : Int32) (u : Unit) => False) (fun u t => True) (va_A [(x, .inr (0, [.ref L, .ref S, .ref C, .ref P, .int 0, .int 0])), (L, .inr (1, [.ref tx, .ref b1, .ref b2, .int 0, .int 0]))] sz)) (vx_X (fun _ : Unit => True) (fun E _ t => E = "java/lang/IllegalArgumentException" ∧ va_P D xcl [(x, .inr (0, [.ref L, .ref S, .ref C, .ref P, .int 0, .int 0])), (L, .inr (1, [.ref tx, .ref b1, .ref b2, .int 0, .int 0]))] t.heap ∧ va_D (va_A [(x, .inr (0, [.ref L, .ref S, .ref C, .ref P, .int 0, .int 0])), (L, .inr (1, [.ref tx, .ref b1, .ref b2, .int 0, .int 0]))] sz) [(x, .inr (0, [.ref L, .ref S, .ref C, .ref P, .int 0, .int 0])), (L, .inr (1, [.ref tx, .ref b1, .ref b2, .int 0, .int 0]))]) (va_A [(x, .inr (0, [.ref L, .ref S, .ref C, .ref P, .int 0, .int 0])), (L, .inr (1, [.ref tx, .ref b1, .ref b2, .int 0, .int 0]))] sz)) 1 6 (va_A [(x, .inr (0, [.ref L, .ref S, .ref C, .ref P, .int 0, .int 0])), (L, .inr (1, [.ref tx, .ref b1, .ref b2, .int 0, .int 0]))] sz) := by
  refine vx_ofW (cc := xb_De_layer) (maxL := 7) (ret := (some .int)) (by decide) rfl ?_
  intro p e s m args below meth c s₁ B hml htab hv
  obtain ⟨rfl, ⟨hsz, hP, hK, hD0⟩, hU, hstr⟩ := hv
  have hx := B.exec
  have hb := B.bytes
  have hr := B.returns
  have hT := x_hT B.pre
  have hown : s.vm.findClass xR_De = some m.cls := findClass_of_methodNamed B.named
  have hlocks := B.notSynchronized
  subst hsz
  have hD := hD0.self (sz := s.heap.size)
  generalize hAe : va_A [(x, .inr (0, [.ref L, .ref S, .ref C, .ref P, .int 0, .int 0])), (L, .inr (1, [.ref tx, .ref b1, .ref b2, .int 0, .int 0]))] s.heap.size = A at hD hU ⊢
  have hA : ∀ q : Nat, s.heap.size ≤ q → A q := fun q h => by rw [← hAe]; exact Or.inr h
  have hS : va_S A s.heap s.heap [] := va_S.rf
  have hP : va_P D xcl [(x, .inr (0, [.ref L, .ref S, .ref C, .ref P, .int 0, .int 0])), (L, .inr (1, [.ref tx, .ref b1, .ref b2, .int 0, .int 0]))] s.heap := hP
  have hl := lv_entry ([.ref x, .int n, .int k, .int z]) (n := 7) (Nat.le_of_ble_eq_true rfl)
  rw [lg_entry_eq]
  generalize (lg_sl ([.ref x, .int n, .int k, .int z]) ++ List.replicate (7 - (lg_sl ([.ref x, .int n, .int k, .int z])).length) Slot.unset).toArray = ls at hl ⊢
  have hl : lv_has ls 7 [(0, .ref x), (1, .int n), (2, .int k), (3, .int z)] := hl
  refine lv_aload_n hx hb xd_De_layer_0 rfl (lv_at hl 0 rfl) ?_
  refine lv_iconst (v := 0) hx hb xd_De_layer_1 (by decide) ?_
  refine va_put (D := D) (ci := 0) (v := .int 0) (ty := .int) (C := xR_De) (T := xT_De) (N := 6) hx hb hT xi_De xt_De xt_De_ok xn_De hown hK.1 hP hD hS 0 rfl rfl 5 (by decide) (hT _ xk_44) (fun _ h9 => h9) rfl (by decide +kernel) rfl rfl (Nat.le_of_ble_eq_true rfl) xd_De_layer_2 (fun H locs hP hD hS => ?_)
  have hP : va_P D xcl [(x, .inr (0, [.ref L, .ref S, .ref C, .ref P, .int 0, .int 0])), (L, .inr (1, [.ref tx, .ref b1, .ref b2, .int 0, .int 0]))] H := hP
  have hD : va_D A [(x, .inr (0, [.ref L, .ref S, .ref C, .ref P, .int 0, .int 0])), (L, .inr (1, [.ref tx, .ref b1, .ref b2, .int 0, .int 0]))] := hD
  refine lv_aload_n hx hb xd_De_layer_5 rfl (lv_at hl 0 rfl) ?_
  refine va_get (D := D) (ci := 0) (v := .ref L) (C := xR_De) (T := xT_De) (N := 6) hx hb hT xi_De hown hK.1 hP 0 rfl rfl 0 (by decide) (hT _ xk_27) (fun _ h9 => h9) rfl xd_De_layer_6 ?_
  have hPc := hP.sub (ws' := [(L, .inr (1, [.ref tx, .ref b1, .ref b2, .int 0, .int 0]))]) [1] rfl
  have hDc := hD.sub (ws' := [(L, .inr (1, [.ref tx, .ref b1, .ref b2, .int 0, .int 0]))]) [1] (by decide) rfl
  have hFc := va_free (wc := [(L, .inr (1, [.ref tx, .ref b1, .ref b2, .int 0, .int 0]))]) hD hS hA [1] rfl
  have hkc : 0 + 0 ≤ 1 := Nat.le_of_ble_eq_true rfl
  have hks : 0 + 0 ≤ 6 := Nat.le_of_ble_eq_true rfl
  refine va_callv (va_runV (As := []) (rest := []) ⟨hx, hb, hml, hown, hT⟩ (xc_Li_take l D kA H.size L tx b1 b2) (cwV 0 hT (wT_V xk_81 xk_78 xk_79 xk_24 xk_76) rfl rfl rfl (by decide +kernel) ⟨Nat.le_of_ble_eq_true rfl, Nat.le_of_ble_eq_true rfl⟩) (x_preV hK hPc hDc 0 rfl rfl) rfl rfl hl.1 rfl (lv_room (Nat.le_of_ble_eq_true rfl)) xd_De_layer_9 ⟨hkc, hks⟩) hS (fun q _ h => hFc q h) hFc (fun u t H1 locs ht hvm hpost hB hz1 hk1 hS => ?_)
  obtain ⟨hP1, hD1⟩ := hB
  rw [ht] at hP1
  obtain ⟨hP, hD⟩ := va_join (wr := [(x, .inr (0, [.ref L, .ref S, .ref C, .ref P, .int 0, .int 0]))]) (w1 := [(L, .inr (1, [.ref tx, .ref b1, .ref b2, .int 0, .int 0]))]) hP hD [1] [0] rfl rfl (by decide) (by decide) hk1 hFc hP1 hD1
  generalize H1 = H at hP hS ⊢
  have hP : va_P D xcl [(x, .inr (0, [.ref L, .ref S, .ref C, .ref P, .int 0, .int 0])), (L, .inr (1, [.ref tx, .ref b1, .ref b2, .int 0, .int 0]))] H := hP
  have hD : va_D A [(x, .inr (0, [.ref L, .ref S, .ref C, .ref P, .int 0, .int 0])), (L, .inr (1, [.ref tx, .ref b1, .ref b2, .int 0, .int 0]))] := hD
  refine lv_aload_n hx hb xd_De_layer_12 rfl (lv_at hl 0 rfl) ?_
  refine lv_iload_n hx hb xd_De_layer_13 rfl (lv_at hl 2 rfl) ?_
  have hPc := hP.sub (ws' := [(x, .inr (0, [.ref L, .ref S, .ref C, .ref P, .int 0, .int 0]))]) [0] rfl
  have hDc := hD.sub (ws' := [(x, .inr (0, [.ref L, .ref S, .ref C, .ref P, .int 0, .int 0]))]) [0] (by decide) rfl
  have hFc := va_free (wc := [(x, .inr (0, [.ref L, .ref S, .ref C, .ref P, .int 0, .int 0]))]) hD hS hA [0] rfl
  have hkc : 0 + 0 ≤ 1 := Nat.le_of_ble_eq_true rfl
  have hks : 0 + 0 ≤ 6 := Nat.le_of_ble_eq_true rfl
  refine va_callq (va_runV (As := [.int k]) (rest := []) ⟨hx, hb, hml, hown, hT⟩ (xc_De_openLayer l D kA H.size x L S C P k) (cwV 1 hT (wT_V xk_87 xk_88 xk_89 xk_90 xk_86) rfl rfl rfl (by decide +kernel) ⟨Nat.le_of_ble_eq_true rfl, Nat.le_of_ble_eq_true rfl⟩) (x_preV hK hPc hDc 0 rfl rfl) rfl rfl hl.1 rfl (lv_room (Nat.le_of_ble_eq_true rfl)) xd_De_layer_14 ⟨hkc, hks⟩) hS (fun q _ h => hFc q h) hFc (fun r u t H1 locs ht hvm hpost hB hz1 hk1 hS => ?_)
  subst hpost
  obtain ⟨hP1, hD1⟩ := hB
  rw [ht] at hP1
  obtain ⟨hP, hD⟩ := va_join (wr := [(L, .inr (1, [.ref tx, .ref b1, .ref b2, .int 0, .int 0]))]) (w1 := [(x, .inr (0, [.ref L, .ref S, .ref C, .ref P, .int 0, .int 0]))]) hP hD [0] [1] rfl rfl (by decide) (by decide) hk1 hFc hP1 hD1
  generalize H1 = H at hP hS ⊢
  have hP : va_P D xcl [(L, .inr (1, [.ref tx, .ref b1, .ref b2, .int 0, .int 0])), (x, .inr (0, [.ref L, .ref S, .ref C, .ref P, .int 0, .int 0]))] H := hP
  have hD : va_D A [(L, .inr (1, [.ref tx, .ref b1, .ref b2, .int 0, .int 0])), (x, .inr (0, [.ref L, .ref S, .ref C, .ref P, .int 0, .int 0]))] := hD
  refine lv_astoreN hx hb xd_De_layer_17 hl (Nat.le_of_ble_eq_true rfl) rfl (fun ls hl => ?_)
  have hl : lv_has ls 7 [(4, .null), (0, .ref x), (1, .int n), (2, .int k), (3, .int z)] := hl
  refine lv_iload_n hx hb xd_De_layer_19 rfl (lv_at hl 3 rfl) ?_
  refine lv_iconst (v := (-1)) hx hb xd_De_layer_20 (by decide) ?_
  refine lv_icmp_eq (tgt := 29) hx hb xd_De_layer_21 (by decide) (fun hc1 => ?_) (fun hc1 => ?_)
  · refine lv_iconst (v := 1) hx hb xd_De_layer_29 (by decide) ?_
    refine lv_goto (tgt := 34) hx hb xd_De_layer_30 (by decide) ?_
    refine lv_istore hx hb xd_De_layer_34 hl (Nat.le_of_ble_eq_true rfl) rfl (fun ls hl => ?_)
    have hl : lv_has ls 7 [(5, .int 1), (4, .null), (0, .ref x), (1, .int n), (2, .int k), (3, .int z)] := hl
    refine lv_aload_n hx hb xd_De_layer_36 rfl (lv_at hl 2 rfl) ?_
    have hPc := hP.sub (ws' := [(x, .inr (0, [.ref L, .ref S, .ref C, .ref P, .int 0, .int 0])), (L, .inr (1, [.ref tx, .ref b1, .ref b2, .int 0, .int 0]))]) [1, 0] rfl
    have hDc := hD.sub (ws' := [(x, .inr (0, [.ref L, .ref S, .ref C, .ref P, .int 0, .int 0])), (L, .inr (1, [.ref tx, .ref b1, .ref b2, .int 0, .int 0]))]) [1, 0] (by decide) rfl
    have hFc := va_free (wc := [(x, .inr (0, [.ref L, .ref S, .ref C, .ref P, .int 0, .int 0])), (L, .inr (1, [.ref tx, .ref b1, .ref b2, .int 0, .int 0]))]) hD hS hA [1, 0] rfl
    have hkc : 0 + 0 ≤ 1 := Nat.le_of_ble_eq_true rfl
    have hks : 0 + 0 ≤ 6 := Nat.le_of_ble_eq_true rfl
    refine va_calli (va_runV (As := []) (rest := []) ⟨hx, hb, hml, hown, hT⟩ (xc_De_rootsAreNames l D kA H.size x L S C P tx b1 b2) (cwV 0 hT (wT_V xk_106 xk_107 xk_108 xk_90 xk_105) rfl rfl rfl (by decide +kernel) ⟨Nat.le_of_ble_eq_true rfl, Nat.le_of_ble_eq_true rfl⟩) (x_preV hK hPc hDc 0 rfl rfl) rfl rfl hl.1 rfl (lv_room (Nat.le_of_ble_eq_true rfl)) xd_De_layer_37 ⟨hkc, hks⟩) hS (fun q _ h => hFc q h) hFc (fun r u t H1 locs ht hvm hpost hB hz1 hk1 hS => ?_)
    have hpost : r = 0 := hpost
    subst hpost
    obtain ⟨hP1, hD1⟩ := hB
    rw [ht] at hP1
    obtain ⟨hP, hD⟩ := va_join (wr := []) (w1 := [(x, .inr (0, [.ref L, .ref S, .ref C, .ref P, .int 0, .int 0])), (L, .inr (1, [.ref tx, .ref b1, .ref b2, .int 0, .int 0]))]) hP hD [1, 0] [] rfl rfl (by decide) (by decide) hk1 hFc hP1 hD1
    generalize H1 = H at hP hS ⊢
    have hP : va_P D xcl [(x, .inr (0, [.ref L, .ref S, .ref C, .ref P, .int 0, .int 0])), (L, .inr (1, [.ref tx, .ref b1, .ref b2, .int 0, .int 0]))] H := hP
    have hD : va_D A [(x, .inr (0, [.ref L, .ref S, .ref C, .ref P, .int 0, .int 0])), (L, .inr (1, [.ref tx, .ref b1, .ref b2, .int 0, .int 0]))] := hD
    refine lv_if_eq (tgt := 55) hx hb xd_De_layer_40 (by decide) (fun _ => ?_) (fun hc => absurd (by decide) hc)
    have hP9 := hP.sub (ws' := [(x, .inr (0, [.ref L, .ref S, .ref C, .ref P, .int 0, .int 0])), (L, .inr (1, [.ref tx, .ref b1, .ref b2, .int 0, .int 0]))]) [0, 1] rfl
    have hD9 := hD.sub (ws' := [(x, .inr (0, [.ref L, .ref S, .ref C, .ref P, .int 0, .int 0])), (L, .inr (1, [.ref tx, .ref b1, .ref b2, .int 0, .int 0]))]) [0, 1] (by decide) rfl
    exact x_throwI (ik := 56) (is := 80) (w2 := [(x, .inr (0, [.ref L, .ref S, .ref C, .ref P, .int 0, .int 0])), (L, .inr (1, [.ref tx, .ref b1, .ref b2, .int 0, .int 0]))]) hx hb hlt hown hT hK xk_109 xk_110 hstr hU hS hP9 hD9 (hl.1.trans hml.symm) xd_De_layer_55 xd_De_layer_58 xd_De_layer_59 xd_De_layer_61 xd_De_layer_64 htab (Nat.le_of_ble_eq_true rfl) (Nat.le_of_ble_eq_true rfl) (Nat.le_of_ble_eq_true rfl) (Nat.le_of_ble_eq_true rfl) hlocks (Nat.le_of_ble_eq_true rfl) (Nat.le_of_ble_eq_true rfl)
  · refine lv_aloadN hx hb xd_De_layer_24 (lv_at hl 0 rfl) ?_
    refine lv_ifnullN (tgt := 33) hx hb xd_De_layer_26 (by decide) ?_
    refine lv_iconst (v := 0) hx hb xd_De_layer_33 (by decide) ?_
    refine lv_istore hx hb xd_De_layer_34 hl (Nat.le_of_ble_eq_true rfl) rfl (fun ls hl => ?_)
    have hl : lv_has ls 7 [(5, .int 0), (4, .null), (0, .ref x), (1, .int n), (2, .int k), (3, .int z)] := hl
    refine lv_aload_n hx hb xd_De_layer_36 rfl (lv_at hl 2 rfl) ?_
    have hPc := hP.sub (ws' := [(x, .inr (0, [.ref L, .ref S, .ref C, .ref P, .int 0, .int 0])), (L, .inr (1, [.ref tx, .ref b1, .ref b2, .int 0, .int 0]))]) [1, 0] rfl
    have hDc := hD.sub (ws' := [(x, .inr (0, [.ref L, .ref S, .ref C, .ref P, .int 0, .int 0])), (L, .inr (1, [.ref tx, .ref b1, .ref b2, .int 0, .int 0]))]) [1, 0] (by decide) rfl
    have hFc := va_free (wc := [(x, .inr (0, [.ref L, .ref S, .ref C, .ref P, .int 0, .int 0])), (L, .inr (1, [.ref tx, .ref b1, .ref b2, .int 0, .int 0]))]) hD hS hA [1, 0] rfl
    have hkc : 0 + 0 ≤ 1 := Nat.le_of_ble_eq_true rfl
    have hks : 0 + 0 ≤ 6 := Nat.le_of_ble_eq_true rfl
    refine va_calli (va_runV (As := []) (rest := []) ⟨hx, hb, hml, hown, hT⟩ (xc_De_rootsAreNames l D kA H.size x L S C P tx b1 b2) (cwV 0 hT (wT_V xk_106 xk_107 xk_108 xk_90 xk_105) rfl rfl rfl (by decide +kernel) ⟨Nat.le_of_ble_eq_true rfl, Nat.le_of_ble_eq_true rfl⟩) (x_preV hK hPc hDc 0 rfl rfl) rfl rfl hl.1 rfl (lv_room (Nat.le_of_ble_eq_true rfl)) xd_De_layer_37 ⟨hkc, hks⟩) hS (fun q _ h => hFc q h) hFc (fun r u t H1 locs ht hvm hpost hB hz1 hk1 hS => ?_)
    have hpost : r = 0 := hpost
    subst hpost
    obtain ⟨hP1, hD1⟩ := hB
    rw [ht] at hP1
    obtain ⟨hP, hD⟩ := va_join (wr := []) (w1 := [(x, .inr (0, [.ref L, .ref S, .ref C, .ref P, .int 0, .int 0])), (L, .inr (1, [.ref tx, .ref b1, .ref b2, .int 0, .int 0]))]) hP hD [1, 0] [] rfl rfl (by decide) (by decide) hk1 hFc hP1 hD1
    generalize H1 = H at hP hS ⊢
    have hP : va_P D xcl [(x, .inr (0, [.ref L, .ref S, .ref C, .ref P, .int 0, .int 0])), (L, .inr (1, [.ref tx, .ref b1, .ref b2, .int 0, .int 0]))] H := hP
    have hD : va_D A [(x, .inr (0, [.ref L, .ref S, .ref C, .ref P, .int 0, .int 0])), (L, .inr (1, [.ref tx, .ref b1, .ref b2, .int 0, .int 0]))] := hD
    refine lv_if_eq (tgt := 55) hx hb xd_De_layer_40 (by decide) (fun _ => ?_) (fun hc => absurd (by decide) hc)
    have hP9 := hP.sub (ws' := [(x, .inr (0, [.ref L, .ref S, .ref C, .ref P, .int 0, .int 0])), (L, .inr (1, [.ref tx, .ref b1, .ref b2, .int 0, .int 0]))]) [0, 1] rfl
    have hD9 := hD.sub (ws' := [(x, .inr (0, [.ref L, .ref S, .ref C, .ref P, .int 0, .int 0])), (L, .inr (1, [.ref tx, .ref b1, .ref b2, .int 0, .int 0]))]) [0, 1] (by decide) rfl
    exact x_throwI (ik := 56) (is := 80) (w2 := [(x, .inr (0, [.ref L, .ref S, .ref C, .ref P, .int 0, .int 0])), (L, .inr (1, [.ref tx, .ref b1, .ref b2, .int 0, .int 0]))]) hx hb hlt hown hT hK xk_109 xk_110 hstr hU hS hP9 hD9 (hl.1.trans hml.symm) xd_De_layer_55 xd_De_layer_58 xd_De_layer_59 xd_De_layer_61 xd_De_layer_64 htab (Nat.le_of_ble_eq_true rfl) (Nat.le_of_ble_eq_true rfl) (Nat.le_of_ble_eq_true rfl) (Nat.le_of_ble_eq_true rfl) hlocks (Nat.le_of_ble_eq_true rfl) (Nat.le_of_ble_eq_true rfl)
set_option maxHeartbeats 4000000 in
set_option maxRecDepth 100000 in
theorem xc_De_load (l : Launch) (hlt : l.stackTraces = false) (D : va_G) (kA : Nat → ClassId) (sz sa : Nat) (x : Nat) (L : Nat) (S : Nat) (C : Nat) (P : Nat) (tx : Nat) (b1 : Nat) (b2 : Nat) (n : Int32) (k : Int32) : vx_Met l xy_De_load (.code xy_De_load xb_De_load 6 (some .int) :: wT) { frames := 6, cells := 1, slots := 6, locals := 82 } (va_Pc [.ref x, .int n, .int k] (xPreX D kA sz [(x, .inr (0, [.ref L, .ref S, .ref C, .ref P, .int 0, .int 0])), (L, .inr (1, [.ref tx, .ref b1, .ref b2, .int 0, .int 0]))] "LayerDesk" 161 "no such module, or no name" sa)) (va_Qi (fun (r : Int32) (u : Unit) => False) (fun u t => True) (va_A [(x, .inr (0, [.ref L, .ref S, .ref C, .ref P, .int 0, .int 0])), (L, .inr (1, [.ref tx, .ref b1, .ref b2, .int 0, .int 0]))] sz)) (vx_X (fun _ : Unit => True) (fun E _ t => E = "java/lang/IllegalArgumentException" ∧ va_P D xcl [(x, .inr (0, [.ref L, .ref S, .ref C, .ref P, .int 0, .int 0])), (L, .inr (1, [.ref tx, .ref b1, .ref b2, .int 0, .int 0]))] t.heap ∧ va_D (va_A [(x, .inr (0, [.ref L, .ref S, .ref C, .ref P, .int 0, .int 0])), (L, .inr (1, [.ref tx, .ref b1, .ref b2, .int 0, .int 0]))] sz) [(x, .inr (0, [.ref L, .ref S, .ref C, .ref P, .int 0, .int 0])), (L, .inr (1, [.ref tx, .ref b1, .ref b2, .int 0, .int 0]))]) (va_A [(x, .inr (0, [.ref L, .ref S, .ref C, .ref P, .int 0, .int 0])), (L, .inr (1, [.ref tx, .ref b1, .ref b2, .int 0, .int 0]))] sz)) 1 6 (va_A [(x, .inr (0, [.ref L, .ref S, .ref C, .ref P, .int 0, .int 0])), (L, .inr (1, [.ref tx, .ref b1, .ref b2, .int 0, .int 0]))] sz) := by
  refine vx_ofW (cc := xb_De_load) (maxL := 6) (ret := (some .int)) (by decide) rfl ?_
  intro p e s m args below meth c s₁ B hml htab hv
  obtain ⟨rfl, ⟨hsz, hP, hK, hD0⟩, hU, hstr⟩ := hv
  have hx := B.exec
  have hb := B.bytes
  have hr := B.returns
  have hT := x_hT B.pre
  have hown : s.vm.findClass xR_De = some m.cls := findClass_of_methodNamed B.named
  have hlocks := B.notSynchronized
  subst hsz
  have hD := hD0.self (sz := s.heap.size)
  generalize hAe : va_A [(x, .inr (0, [.ref L, .ref S, .ref C, .ref P, .int 0, .int 0])), (L, .inr (1, [.ref tx, .ref b1, .ref b2, .int 0, .int 0]))] s.heap.size = A at hD hU ⊢
  have hA : ∀ q : Nat, s.heap.size ≤ q → A q := fun q h => by rw [← hAe]; exact Or.inr h
  have hS : va_S A s.heap s.heap [] := va_S.rf
  have hP : va_P D xcl [(x, .inr (0, [.ref L, .ref S, .ref C, .ref P, .int 0, .int 0])), (L, .inr (1, [.ref tx, .ref b1, .ref b2, .int 0, .int 0]))] s.heap := hP
  have hl := lv_entry ([.ref x, .int n, .int k]) (n := 6) (Nat.le_of_ble_eq_true rfl)
  rw [lg_entry_eq]
  generalize (lg_sl ([.ref x, .int n, .int k]) ++ List.replicate (6 - (lg_sl ([.ref x, .int n, .int k])).length) Slot.unset).toArray = ls at hl ⊢
  have hl : lv_has ls 6 [(0, .ref x), (1, .int n), (2, .int k)] := hl
  refine lv_aload_n hx hb xd_De_load_0 rfl (lv_at hl 0 rfl) ?_
  refine va_get (D := D) (ci := 0) (v := .ref L) (C := xR_De) (T := xT_De) (N := 6) hx hb hT xi_De hown hK.1 hP 0 rfl rfl 0 (by decide) (hT _ xk_27) (fun _ h9 => h9) rfl xd_De_load_1 ?_
  have hPc := hP.sub (ws' := [(L, .inr (1, [.ref tx, .ref b1, .ref b2, .int 0, .int 0]))]) [1] rfl
  have hDc := hD.sub (ws' := [(L, .inr (1, [.ref tx, .ref b1, .ref b2, .int 0, .int 0]))]) [1] (by decide) rfl
  have hFc := va_free (wc := [(L, .inr (1, [.ref tx, .ref b1, .ref b2, .int 0, .int 0]))]) hD hS hA [1] rfl
  have hkc : 0 + 0 ≤ 1 := Nat.le_of_ble_eq_true rfl
  have hks : 0 + 0 ≤ 6 := Nat.le_of_ble_eq_true rfl
  refine va_calli (va_runV (As := []) (rest := []) ⟨hx, hb, hml, hown, hT⟩ (xc_Li_takeName l D kA s.heap.size L tx b1 b2) (cwV 0 hT (wT_V xk_112 xk_113 xk_114 xk_24 xk_111) rfl rfl rfl (by decide +kernel) ⟨Nat.le_of_ble_eq_true rfl, Nat.le_of_ble_eq_true rfl⟩) (x_preV hK hPc hDc 0 rfl rfl) rfl rfl hl.1 rfl (lv_room (Nat.le_of_ble_eq_true rfl)) xd_De_load_4 ⟨hkc, hks⟩) hS (fun q _ h => hFc q h) hFc (fun r u t H1 locs ht hvm hpost hB hz1 hk1 hS => ?_)
  have hpost : r = 0 := hpost
  subst hpost
  obtain ⟨hP1, hD1⟩ := hB
  rw [ht] at hP1
  obtain ⟨hP, hD⟩ := va_join (wr := [(x, .inr (0, [.ref L, .ref S, .ref C, .ref P, .int 0, .int 0]))]) (w1 := [(L, .inr (1, [.ref tx, .ref b1, .ref b2, .int 0, .int 0]))]) hP hD [1] [0] rfl rfl (by decide) (by decide) hk1 hFc hP1 hD1
  generalize H1 = H at hP hS ⊢
  have hP : va_P D xcl [(x, .inr (0, [.ref L, .ref S, .ref C, .ref P, .int 0, .int 0])), (L, .inr (1, [.ref tx, .ref b1, .ref b2, .int 0, .int 0]))] H := hP
  have hD : va_D A [(x, .inr (0, [.ref L, .ref S, .ref C, .ref P, .int 0, .int 0])), (L, .inr (1, [.ref tx, .ref b1, .ref b2, .int 0, .int 0]))] := hD
  refine lv_istore_n hx hb xd_De_load_7 rfl hl (Nat.le_of_ble_eq_true rfl) rfl (fun ls hl => ?_)
  have hl : lv_has ls 6 [(3, .int 0), (0, .ref x), (1, .int n), (2, .int k)] := hl
  refine lv_aload_n hx hb xd_De_load_8 rfl (lv_at hl 1 rfl) ?_
  refine lv_iload_n hx hb xd_De_load_9 rfl (lv_at hl 2 rfl) ?_
  refine lv_iload_n hx hb xd_De_load_10 rfl (lv_at hl 3 rfl) ?_
  have hPc := hP.sub (ws' := [(x, .inr (0, [.ref L, .ref S, .ref C, .ref P, .int 0, .int 0]))]) [0] rfl
  have hDc := hD.sub (ws' := [(x, .inr (0, [.ref L, .ref S, .ref C, .ref P, .int 0, .int 0]))]) [0] (by decide) rfl
  have hFc := va_free (wc := [(x, .inr (0, [.ref L, .ref S, .ref C, .ref P, .int 0, .int 0]))]) hD hS hA [0] rfl
  have hkc : 0 + 0 ≤ 1 := Nat.le_of_ble_eq_true rfl
  have hks : 0 + 0 ≤ 6 := Nat.le_of_ble_eq_true rfl
  refine va_callq (va_runV (As := [.int n, .int k]) (rest := []) ⟨hx, hb, hml, hown, hT⟩ (xc_De_memberAt l D kA H.size x L S C P n k) (cwV 2 hT (wT_V xk_97 xk_98 xk_99 xk_90 xk_96) rfl rfl rfl (by decide +kernel) ⟨Nat.le_of_ble_eq_true rfl, Nat.le_of_ble_eq_true rfl⟩) (x_preV hK hPc hDc 0 rfl rfl) rfl rfl hl.1 rfl (lv_room (Nat.le_of_ble_eq_true rfl)) xd_De_load_11 ⟨hkc, hks⟩) hS (fun q _ h => hFc q h) hFc (fun r u t H1 locs ht hvm hpost hB hz1 hk1 hS => ?_)
  subst hpost
  obtain ⟨hP1, hD1⟩ := hB
  rw [ht] at hP1
  obtain ⟨hP, hD⟩ := va_join (wr := [(L, .inr (1, [.ref tx, .ref b1, .ref b2, .int 0, .int 0]))]) (w1 := [(x, .inr (0, [.ref L, .ref S, .ref C, .ref P, .int 0, .int 0]))]) hP hD [0] [1] rfl rfl (by decide) (by decide) hk1 hFc hP1 hD1
  generalize H1 = H at hP hS ⊢
  have hP : va_P D xcl [(L, .inr (1, [.ref tx, .ref b1, .ref b2, .int 0, .int 0])), (x, .inr (0, [.ref L, .ref S, .ref C, .ref P, .int 0, .int 0]))] H := hP
  have hD : va_D A [(L, .inr (1, [.ref tx, .ref b1, .ref b2, .int 0, .int 0])), (x, .inr (0, [.ref L, .ref S, .ref C, .ref P, .int 0, .int 0]))] := hD
  refine lv_astoreN hx hb xd_De_load_14 hl (Nat.le_of_ble_eq_true rfl) rfl (fun ls hl => ?_)
  have hl : lv_has ls 6 [(4, .null), (3, .int 0), (0, .ref x), (1, .int n), (2, .int k)] := hl
  refine lv_aloadN hx hb xd_De_load_16 (lv_at hl 0 rfl) ?_
  refine lv_ifnullN (tgt := 25) hx hb xd_De_load_18 (by decide) ?_
  have hP9 := hP.sub (ws' := [(x, .inr (0, [.ref L, .ref S, .ref C, .ref P, .int 0, .int 0])), (L, .inr (1, [.ref tx, .ref b1, .ref b2, .int 0, .int 0]))]) [1, 0] rfl
  have hD9 := hD.sub (ws' := [(x, .inr (0, [.ref L, .ref S, .ref C, .ref P, .int 0, .int 0])), (L, .inr (1, [.ref tx, .ref b1, .ref b2, .int 0, .int 0]))]) [1, 0] (by decide) rfl
  exact x_throwI (ik := 56) (is := 161) (w2 := [(x, .inr (0, [.ref L, .ref S, .ref C, .ref P, .int 0, .int 0])), (L, .inr (1, [.ref tx, .ref b1, .ref b2, .int 0, .int 0]))]) hx hb hlt hown hT hK xk_109 xk_110 hstr hU hS hP9 hD9 (hl.1.trans hml.symm) xd_De_load_25 xd_De_load_28 xd_De_load_29 xd_De_load_31 xd_De_load_34 htab (Nat.le_of_ble_eq_true rfl) (Nat.le_of_ble_eq_true rfl) (Nat.le_of_ble_eq_true rfl) (Nat.le_of_ble_eq_true rfl) hlocks (Nat.le_of_ble_eq_true rfl) (Nat.le_of_ble_eq_true rfl)
set_option maxHeartbeats 4000000 in
set_option maxRecDepth 100000 in
theorem xc_De_peek (l : Launch) (hlt : l.stackTraces = false) (D : va_G) (kA : Nat → ClassId) (sz sa : Nat) (x : Nat) (L : Nat) (S : Nat) (C : Nat) (P : Nat) (tx : Nat) (b1 : Nat) (b2 : Nat) (n : Int32) (k : Int32) (n2 : Int32) (k2 : Int32) : vx_Met l xy_De_peek (.code xy_De_peek xb_De_peek 8 (some .boolean) :: wT) { frames := 6, cells := 1, slots := 6, locals := 82 } (va_Pc [.ref x, .int n, .int k, .int n2, .int k2] (xPreX D kA sz [(x, .inr (0, [.ref L, .ref S, .ref C, .ref P, .int 0, .int 0])), (L, .inr (1, [.ref tx, .ref b1, .ref b2, .int 0, .int 0]))] "LayerDesk" 161 "no such module, or no name" sa)) (va_Qi (fun (r : Int32) (u : Unit) => False) (fun u t => True) (va_A [(x, .inr (0, [.ref L, .ref S, .ref C, .ref P, .int 0, .int 0])), (L, .inr (1, [.ref tx, .ref b1, .ref b2, .int 0, .int 0]))] sz)) (vx_X (fun _ : Unit => True) (fun E _ t => E = "java/lang/IllegalArgumentException" ∧ va_P D xcl [(x, .inr (0, [.ref L, .ref S, .ref C, .ref P, .int 0, .int 0])), (L, .inr (1, [.ref tx, .ref b1, .ref b2, .int 0, .int 0]))] t.heap ∧ va_D (va_A [(x, .inr (0, [.ref L, .ref S, .ref C, .ref P, .int 0, .int 0])), (L, .inr (1, [.ref tx, .ref b1, .ref b2, .int 0, .int 0]))] sz) [(x, .inr (0, [.ref L, .ref S, .ref C, .ref P, .int 0, .int 0])), (L, .inr (1, [.ref tx, .ref b1, .ref b2, .int 0, .int 0]))]) (va_A [(x, .inr (0, [.ref L, .ref S, .ref C, .ref P, .int 0, .int 0])), (L, .inr (1, [.ref tx, .ref b1, .ref b2, .int 0, .int 0]))] sz)) 1 6 (va_A [(x, .inr (0, [.ref L, .ref S, .ref C, .ref P, .int 0, .int 0])), (L, .inr (1, [.ref tx, .ref b1, .ref b2, .int 0, .int 0]))] sz) := by
  refine vx_ofW (cc := xb_De_peek) (maxL := 8) (ret := (some .boolean)) (by decide) rfl ?_
  intro p e s m args below meth c s₁ B hml htab hv
  obtain ⟨rfl, ⟨hsz, hP, hK, hD0⟩, hU, hstr⟩ := hv
  have hx := B.exec
  have hb := B.bytes
  have hr := B.returns
  have hT := x_hT B.pre
  have hown : s.vm.findClass xR_De = some m.cls := findClass_of_methodNamed B.named
  have hlocks := B.notSynchronized
  subst hsz
  have hD := hD0.self (sz := s.heap.size)
  generalize hAe : va_A [(x, .inr (0, [.ref L, .ref S, .ref C, .ref P, .int 0, .int 0])), (L, .inr (1, [.ref tx, .ref b1, .ref b2, .int 0, .int 0]))] s.heap.size = A at hD hU ⊢
  have hA : ∀ q : Nat, s.heap.size ≤ q → A q := fun q h => by rw [← hAe]; exact Or.inr h
  have hS : va_S A s.heap s.heap [] := va_S.rf
  have hP : va_P D xcl [(x, .inr (0, [.ref L, .ref S, .ref C, .ref P, .int 0, .int 0])), (L, .inr (1, [.ref tx, .ref b1, .ref b2, .int 0, .int 0]))] s.heap := hP
  have hl := lv_entry ([.ref x, .int n, .int k, .int n2, .int k2]) (n := 8) (Nat.le_of_ble_eq_true rfl)
  rw [lg_entry_eq]
  generalize (lg_sl ([.ref x, .int n, .int k, .int n2, .int k2]) ++ List.replicate (8 - (lg_sl ([.ref x, .int n, .int k, .int n2, .int k2])).length) Slot.unset).toArray = ls at hl ⊢
  have hl : lv_has ls 8 [(0, .ref x), (1, .int n), (2, .int k), (3, .int n2), (4, .int k2)] := hl
  refine lv_aload_n hx hb xd_De_peek_0 rfl (lv_at hl 0 rfl) ?_
  refine va_get (D := D) (ci := 0) (v := .ref L) (C := xR_De) (T := xT_De) (N := 6) hx hb hT xi_De hown hK.1 hP 0 rfl rfl 0 (by decide) (hT _ xk_27) (fun _ h9 => h9) rfl xd_De_peek_1 ?_
  have hPc := hP.sub (ws' := [(L, .inr (1, [.ref tx, .ref b1, .ref b2, .int 0, .int 0]))]) [1] rfl
  have hDc := hD.sub (ws' := [(L, .inr (1, [.ref tx, .ref b1, .ref b2, .int 0, .int 0]))]) [1] (by decide) rfl
  have hFc := va_free (wc := [(L, .inr (1, [.ref tx, .ref b1, .ref b2, .int 0, .int 0]))]) hD hS hA [1] rfl
  have hkc : 0 + 0 ≤ 1 := Nat.le_of_ble_eq_true rfl
  have hks : 0 + 0 ≤ 6 := Nat.le_of_ble_eq_true rfl
  refine va_calli (va_runV (As := []) (rest := []) ⟨hx, hb, hml, hown, hT⟩ (xc_Li_takeName l D kA s.heap.size L tx b1 b2) (cwV 0 hT (wT_V xk_112 xk_113 xk_114 xk_24 xk_111) rfl rfl rfl (by decide +kernel) ⟨Nat.le_of_ble_eq_true rfl, Nat.le_of_ble_eq_true rfl⟩) (x_preV hK hPc hDc 0 rfl rfl) rfl rfl hl.1 rfl (lv_room (Nat.le_of_ble_eq_true rfl)) xd_De_peek_4 ⟨hkc, hks⟩) hS (fun q _ h => hFc q h) hFc (fun r u t H1 locs ht hvm hpost hB hz1 hk1 hS => ?_)
  have hpost : r = 0 := hpost
  subst hpost
  obtain ⟨hP1, hD1⟩ := hB
  rw [ht] at hP1
  obtain ⟨hP, hD⟩ := va_join (wr := [(x, .inr (0, [.ref L, .ref S, .ref C, .ref P, .int 0, .int 0]))]) (w1 := [(L, .inr (1, [.ref tx, .ref b1, .ref b2, .int 0, .int 0]))]) hP hD [1] [0] rfl rfl (by decide) (by decide) hk1 hFc hP1 hD1
  generalize H1 = H at hP hS ⊢
  have hP : va_P D xcl [(x, .inr (0, [.ref L, .ref S, .ref C, .ref P, .int 0, .int 0])), (L, .inr (1, [.ref tx, .ref b1, .ref b2, .int 0, .int 0]))] H := hP
  have hD : va_D A [(x, .inr (0, [.ref L, .ref S, .ref C, .ref P, .int 0, .int 0])), (L, .inr (1, [.ref tx, .ref b1, .ref b2, .int 0, .int 0]))] := hD
  refine lv_istore hx hb xd_De_peek_7 hl (Nat.le_of_ble_eq_true rfl) rfl (fun ls hl => ?_)
  have hl : lv_has ls 8 [(5, .int 0), (0, .ref x), (1, .int n), (2, .int k), (3, .int n2), (4, .int k2)] := hl
  refine lv_aload_n hx hb xd_De_peek_9 rfl (lv_at hl 1 rfl) ?_
  refine lv_iload_n hx hb xd_De_peek_10 rfl (lv_at hl 2 rfl) ?_
  refine lv_iload_n hx hb xd_De_peek_11 rfl (lv_at hl 3 rfl) ?_
  have hPc := hP.sub (ws' := [(x, .inr (0, [.ref L, .ref S, .ref C, .ref P, .int 0, .int 0]))]) [0] rfl
  have hDc := hD.sub (ws' := [(x, .inr (0, [.ref L, .ref S, .ref C, .ref P, .int 0, .int 0]))]) [0] (by decide) rfl
  have hFc := va_free (wc := [(x, .inr (0, [.ref L, .ref S, .ref C, .ref P, .int 0, .int 0]))]) hD hS hA [0] rfl
  have hkc : 0 + 0 ≤ 1 := Nat.le_of_ble_eq_true rfl
  have hks : 0 + 0 ≤ 6 := Nat.le_of_ble_eq_true rfl
  refine va_callq (va_runV (As := [.int n, .int k]) (rest := []) ⟨hx, hb, hml, hown, hT⟩ (xc_De_memberAt l D kA H.size x L S C P n k) (cwV 2 hT (wT_V xk_97 xk_98 xk_99 xk_90 xk_96) rfl rfl rfl (by decide +kernel) ⟨Nat.le_of_ble_eq_true rfl, Nat.le_of_ble_eq_true rfl⟩) (x_preV hK hPc hDc 0 rfl rfl) rfl rfl hl.1 rfl (lv_room (Nat.le_of_ble_eq_true rfl)) xd_De_peek_12 ⟨hkc, hks⟩) hS (fun q _ h => hFc q h) hFc (fun r u t H1 locs ht hvm hpost hB hz1 hk1 hS => ?_)
  subst hpost
  obtain ⟨hP1, hD1⟩ := hB
  rw [ht] at hP1
  obtain ⟨hP, hD⟩ := va_join (wr := [(L, .inr (1, [.ref tx, .ref b1, .ref b2, .int 0, .int 0]))]) (w1 := [(x, .inr (0, [.ref L, .ref S, .ref C, .ref P, .int 0, .int 0]))]) hP hD [0] [1] rfl rfl (by decide) (by decide) hk1 hFc hP1 hD1
  generalize H1 = H at hP hS ⊢
  have hP : va_P D xcl [(L, .inr (1, [.ref tx, .ref b1, .ref b2, .int 0, .int 0])), (x, .inr (0, [.ref L, .ref S, .ref C, .ref P, .int 0, .int 0]))] H := hP
  have hD : va_D A [(L, .inr (1, [.ref tx, .ref b1, .ref b2, .int 0, .int 0])), (x, .inr (0, [.ref L, .ref S, .ref C, .ref P, .int 0, .int 0]))] := hD
  refine lv_astoreN hx hb xd_De_peek_15 hl (Nat.le_of_ble_eq_true rfl) rfl (fun ls hl => ?_)
  have hl : lv_has ls 8 [(6, .null), (5, .int 0), (0, .ref x), (1, .int n), (2, .int k), (3, .int n2), (4, .int k2)] := hl
  refine lv_aload_n hx hb xd_De_peek_17 rfl (lv_at hl 2 rfl) ?_
  refine lv_iload_n hx hb xd_De_peek_18 rfl (lv_at hl 5 rfl) ?_
  refine lv_iload hx hb xd_De_peek_19 (lv_at hl 6 rfl) ?_
  have hPc := hP.sub (ws' := [(x, .inr (0, [.ref L, .ref S, .ref C, .ref P, .int 0, .int 0]))]) [1] rfl
  have hDc := hD.sub (ws' := [(x, .inr (0, [.ref L, .ref S, .ref C, .ref P, .int 0, .int 0]))]) [1] (by decide) rfl
  have hFc := va_free (wc := [(x, .inr (0, [.ref L, .ref S, .ref C, .ref P, .int 0, .int 0]))]) hD hS hA [1] rfl
  have hkc : 0 + 0 ≤ 1 := Nat.le_of_ble_eq_true rfl
  have hks : 0 + 0 ≤ 6 := Nat.le_of_ble_eq_true rfl
  refine va_callq (va_runV (As := [.int n2, .int k2]) (rest := []) ⟨hx, hb, hml, hown, hT⟩ (xc_De_memberOf l D kA H.size x L S C P n2 k2) (cwV 2 hT (wT_V xk_101 xk_102 xk_103 xk_90 xk_100) rfl rfl rfl (by decide +kernel) ⟨Nat.le_of_ble_eq_true rfl, Nat.le_of_ble_eq_true rfl⟩) (x_preV hK hPc hDc 0 rfl rfl) rfl rfl hl.1 rfl (lv_room (Nat.le_of_ble_eq_true rfl)) xd_De_peek_21 ⟨hkc, hks⟩) hS (fun q _ h => hFc q h) hFc (fun r u t H1 locs ht hvm hpost hB hz1 hk1 hS => ?_)
  subst hpost
  obtain ⟨hP1, hD1⟩ := hB
  rw [ht] at hP1
  obtain ⟨hP, hD⟩ := va_join (wr := [(L, .inr (1, [.ref tx, .ref b1, .ref b2, .int 0, .int 0]))]) (w1 := [(x, .inr (0, [.ref L, .ref S, .ref C, .ref P, .int 0, .int 0]))]) hP hD [1] [0] rfl rfl (by decide) (by decide) hk1 hFc hP1 hD1
  generalize H1 = H at hP hS ⊢
  have hP : va_P D xcl [(L, .inr (1, [.ref tx, .ref b1, .ref b2, .int 0, .int 0])), (x, .inr (0, [.ref L, .ref S, .ref C, .ref P, .int 0, .int 0]))] H := hP
  have hD : va_D A [(L, .inr (1, [.ref tx, .ref b1, .ref b2, .int 0, .int 0])), (x, .inr (0, [.ref L, .ref S, .ref C, .ref P, .int 0, .int 0]))] := hD
  refine lv_astoreN hx hb xd_De_peek_24 hl (Nat.le_of_ble_eq_true rfl) rfl (fun ls hl => ?_)
  have hl : lv_has ls 8 [(7, .null), (6, .null), (5, .int 0), (0, .ref x), (1, .int n), (2, .int k), (3, .int n2), (4, .int k2)] := hl
  refine lv_aloadN hx hb xd_De_peek_26 (lv_at hl 1 rfl) ?_
  refine lv_ifnullN (tgt := 41) hx hb xd_De_peek_28 (by decide) ?_
  have hP9 := hP.sub (ws' := [(x, .inr (0, [.ref L, .ref S, .ref C, .ref P, .int 0, .int 0])), (L, .inr (1, [.ref tx, .ref b1, .ref b2, .int 0, .int 0]))]) [1, 0] rfl
  have hD9 := hD.sub (ws' := [(x, .inr (0, [.ref L, .ref S, .ref C, .ref P, .int 0, .int 0])), (L, .inr (1, [.ref tx, .ref b1, .ref b2, .int 0, .int 0]))]) [1, 0] (by decide) rfl
  exact x_throwI (ik := 56) (is := 161) (w2 := [(x, .inr (0, [.ref L, .ref S, .ref C, .ref P, .int 0, .int 0])), (L, .inr (1, [.ref tx, .ref b1, .ref b2, .int 0, .int 0]))]) hx hb hlt hown hT hK xk_109 xk_110 hstr hU hS hP9 hD9 (hl.1.trans hml.symm) xd_De_peek_41 xd_De_peek_44 xd_De_peek_45 xd_De_peek_47 xd_De_peek_50 htab (Nat.le_of_ble_eq_true rfl) (Nat.le_of_ble_eq_true rfl) (Nat.le_of_ble_eq_true rfl) (Nat.le_of_ble_eq_true rfl) hlocks (Nat.le_of_ble_eq_true rfl) (Nat.le_of_ble_eq_true rfl)
set_option maxHeartbeats 4000000 in
set_option maxRecDepth 100000 in
theorem xc_De_provider (l : Launch) (hlt : l.stackTraces = false) (D : va_G) (kA : Nat → ClassId) (sz sa : Nat) (x : Nat) (L : Nat) (S : Nat) (C : Nat) (P : Nat) (tx : Nat) (b1 : Nat) (b2 : Nat) (n : Int32) (k : Int32) : vx_Met l xy_De_provider (.code xy_De_provider xb_De_provider 6 (some .int) :: wT) { frames := 6, cells := 1, slots := 6, locals := 82 } (va_Pc [.ref x, .int n, .int k] (xPreX D kA sz [(x, .inr (0, [.ref L, .ref S, .ref C, .ref P, .int 0, .int 0])), (L, .inr (1, [.ref tx, .ref b1, .ref b2, .int 0, .int 0]))] "LayerDesk" 190 "the layer is not open, or no name" sa)) (va_Qi (fun (r : Int32) (u : Unit) => False) (fun u t => True) (va_A [(x, .inr (0, [.ref L, .ref S, .ref C, .ref P, .int 0, .int 0])), (L, .inr (1, [.ref tx, .ref b1, .ref b2, .int 0, .int 0]))] sz)) (vx_X (fun _ : Unit => True) (fun E _ t => E = "java/lang/IllegalArgumentException" ∧ va_P D xcl [(x, .inr (0, [.ref L, .ref S, .ref C, .ref P, .int 0, .int 0])), (L, .inr (1, [.ref tx, .ref b1, .ref b2, .int 0, .int 0]))] t.heap ∧ va_D (va_A [(x, .inr (0, [.ref L, .ref S, .ref C, .ref P, .int 0, .int 0])), (L, .inr (1, [.ref tx, .ref b1, .ref b2, .int 0, .int 0]))] sz) [(x, .inr (0, [.ref L, .ref S, .ref C, .ref P, .int 0, .int 0])), (L, .inr (1, [.ref tx, .ref b1, .ref b2, .int 0, .int 0]))]) (va_A [(x, .inr (0, [.ref L, .ref S, .ref C, .ref P, .int 0, .int 0])), (L, .inr (1, [.ref tx, .ref b1, .ref b2, .int 0, .int 0]))] sz)) 1 6 (va_A [(x, .inr (0, [.ref L, .ref S, .ref C, .ref P, .int 0, .int 0])), (L, .inr (1, [.ref tx, .ref b1, .ref b2, .int 0, .int 0]))] sz) := by
  refine vx_ofW (cc := xb_De_provider) (maxL := 6) (ret := (some .int)) (by decide) rfl ?_
  intro p e s m args below meth c s₁ B hml htab hv
  obtain ⟨rfl, ⟨hsz, hP, hK, hD0⟩, hU, hstr⟩ := hv
  have hx := B.exec
  have hb := B.bytes
  have hr := B.returns
  have hT := x_hT B.pre
  have hown : s.vm.findClass xR_De = some m.cls := findClass_of_methodNamed B.named
  have hlocks := B.notSynchronized
  subst hsz
  have hD := hD0.self (sz := s.heap.size)
  generalize hAe : va_A [(x, .inr (0, [.ref L, .ref S, .ref C, .ref P, .int 0, .int 0])), (L, .inr (1, [.ref tx, .ref b1, .ref b2, .int 0, .int 0]))] s.heap.size = A at hD hU ⊢
  have hA : ∀ q : Nat, s.heap.size ≤ q → A q := fun q h => by rw [← hAe]; exact Or.inr h
  have hS : va_S A s.heap s.heap [] := va_S.rf
  have hP : va_P D xcl [(x, .inr (0, [.ref L, .ref S, .ref C, .ref P, .int 0, .int 0])), (L, .inr (1, [.ref tx, .ref b1, .ref b2, .int 0, .int 0]))] s.heap := hP
  have hl := lv_entry ([.ref x, .int n, .int k]) (n := 6) (Nat.le_of_ble_eq_true rfl)
  rw [lg_entry_eq]
  generalize (lg_sl ([.ref x, .int n, .int k]) ++ List.replicate (6 - (lg_sl ([.ref x, .int n, .int k])).length) Slot.unset).toArray = ls at hl ⊢
  have hl : lv_has ls 6 [(0, .ref x), (1, .int n), (2, .int k)] := hl
  refine lv_aload_n hx hb xd_De_provider_0 rfl (lv_at hl 0 rfl) ?_
  refine va_get (D := D) (ci := 0) (v := .ref L) (C := xR_De) (T := xT_De) (N := 6) hx hb hT xi_De hown hK.1 hP 0 rfl rfl 0 (by decide) (hT _ xk_27) (fun _ h9 => h9) rfl xd_De_provider_1 ?_
  have hPc := hP.sub (ws' := [(L, .inr (1, [.ref tx, .ref b1, .ref b2, .int 0, .int 0]))]) [1] rfl
  have hDc := hD.sub (ws' := [(L, .inr (1, [.ref tx, .ref b1, .ref b2, .int 0, .int 0]))]) [1] (by decide) rfl
  have hFc := va_free (wc := [(L, .inr (1, [.ref tx, .ref b1, .ref b2, .int 0, .int 0]))]) hD hS hA [1] rfl
  have hkc : 0 + 0 ≤ 1 := Nat.le_of_ble_eq_true rfl
  have hks : 0 + 0 ≤ 6 := Nat.le_of_ble_eq_true rfl
  refine va_calli (va_runV (As := []) (rest := []) ⟨hx, hb, hml, hown, hT⟩ (xc_Li_takeName l D kA s.heap.size L tx b1 b2) (cwV 0 hT (wT_V xk_112 xk_113 xk_114 xk_24 xk_111) rfl rfl rfl (by decide +kernel) ⟨Nat.le_of_ble_eq_true rfl, Nat.le_of_ble_eq_true rfl⟩) (x_preV hK hPc hDc 0 rfl rfl) rfl rfl hl.1 rfl (lv_room (Nat.le_of_ble_eq_true rfl)) xd_De_provider_4 ⟨hkc, hks⟩) hS (fun q _ h => hFc q h) hFc (fun r u t H1 locs ht hvm hpost hB hz1 hk1 hS => ?_)
  have hpost : r = 0 := hpost
  subst hpost
  obtain ⟨hP1, hD1⟩ := hB
  rw [ht] at hP1
  obtain ⟨hP, hD⟩ := va_join (wr := [(x, .inr (0, [.ref L, .ref S, .ref C, .ref P, .int 0, .int 0]))]) (w1 := [(L, .inr (1, [.ref tx, .ref b1, .ref b2, .int 0, .int 0]))]) hP hD [1] [0] rfl rfl (by decide) (by decide) hk1 hFc hP1 hD1
  generalize H1 = H at hP hS ⊢
  have hP : va_P D xcl [(x, .inr (0, [.ref L, .ref S, .ref C, .ref P, .int 0, .int 0])), (L, .inr (1, [.ref tx, .ref b1, .ref b2, .int 0, .int 0]))] H := hP
  have hD : va_D A [(x, .inr (0, [.ref L, .ref S, .ref C, .ref P, .int 0, .int 0])), (L, .inr (1, [.ref tx, .ref b1, .ref b2, .int 0, .int 0]))] := hD
  refine lv_istore_n hx hb xd_De_provider_7 rfl hl (Nat.le_of_ble_eq_true rfl) rfl (fun ls hl => ?_)
  have hl : lv_has ls 6 [(3, .int 0), (0, .ref x), (1, .int n), (2, .int k)] := hl
  refine lv_aload_n hx hb xd_De_provider_8 rfl (lv_at hl 1 rfl) ?_
  refine lv_iload_n hx hb xd_De_provider_9 rfl (lv_at hl 2 rfl) ?_
  have hPc := hP.sub (ws' := [(x, .inr (0, [.ref L, .ref S, .ref C, .ref P, .int 0, .int 0]))]) [0] rfl
  have hDc := hD.sub (ws' := [(x, .inr (0, [.ref L, .ref S, .ref C, .ref P, .int 0, .int 0]))]) [0] (by decide) rfl
  have hFc := va_free (wc := [(x, .inr (0, [.ref L, .ref S, .ref C, .ref P, .int 0, .int 0]))]) hD hS hA [0] rfl
  have hkc : 0 + 0 ≤ 1 := Nat.le_of_ble_eq_true rfl
  have hks : 0 + 0 ≤ 6 := Nat.le_of_ble_eq_true rfl
  refine va_callq (va_runV (As := [.int n]) (rest := []) ⟨hx, hb, hml, hown, hT⟩ (xc_De_openLayer l D kA H.size x L S C P n) (cwV 1 hT (wT_V xk_87 xk_88 xk_89 xk_90 xk_86) rfl rfl rfl (by decide +kernel) ⟨Nat.le_of_ble_eq_true rfl, Nat.le_of_ble_eq_true rfl⟩) (x_preV hK hPc hDc 0 rfl rfl) rfl rfl hl.1 rfl (lv_room (Nat.le_of_ble_eq_true rfl)) xd_De_provider_10 ⟨hkc, hks⟩) hS (fun q _ h => hFc q h) hFc (fun r u t H1 locs ht hvm hpost hB hz1 hk1 hS => ?_)
  subst hpost
  obtain ⟨hP1, hD1⟩ := hB
  rw [ht] at hP1
  obtain ⟨hP, hD⟩ := va_join (wr := [(L, .inr (1, [.ref tx, .ref b1, .ref b2, .int 0, .int 0]))]) (w1 := [(x, .inr (0, [.ref L, .ref S, .ref C, .ref P, .int 0, .int 0]))]) hP hD [0] [1] rfl rfl (by decide) (by decide) hk1 hFc hP1 hD1
  generalize H1 = H at hP hS ⊢
  have hP : va_P D xcl [(L, .inr (1, [.ref tx, .ref b1, .ref b2, .int 0, .int 0])), (x, .inr (0, [.ref L, .ref S, .ref C, .ref P, .int 0, .int 0]))] H := hP
  have hD : va_D A [(L, .inr (1, [.ref tx, .ref b1, .ref b2, .int 0, .int 0])), (x, .inr (0, [.ref L, .ref S, .ref C, .ref P, .int 0, .int 0]))] := hD
  refine lv_astoreN hx hb xd_De_provider_13 hl (Nat.le_of_ble_eq_true rfl) rfl (fun ls hl => ?_)
  have hl : lv_has ls 6 [(4, .null), (3, .int 0), (0, .ref x), (1, .int n), (2, .int k)] := hl
  refine lv_aloadN hx hb xd_De_provider_15 (lv_at hl 0 rfl) ?_
  refine lv_ifnullN (tgt := 24) hx hb xd_De_provider_17 (by decide) ?_
  have hP9 := hP.sub (ws' := [(x, .inr (0, [.ref L, .ref S, .ref C, .ref P, .int 0, .int 0])), (L, .inr (1, [.ref tx, .ref b1, .ref b2, .int 0, .int 0]))]) [1, 0] rfl
  have hD9 := hD.sub (ws' := [(x, .inr (0, [.ref L, .ref S, .ref C, .ref P, .int 0, .int 0])), (L, .inr (1, [.ref tx, .ref b1, .ref b2, .int 0, .int 0]))]) [1, 0] (by decide) rfl
  exact x_throwI (ik := 56) (is := 190) (w2 := [(x, .inr (0, [.ref L, .ref S, .ref C, .ref P, .int 0, .int 0])), (L, .inr (1, [.ref tx, .ref b1, .ref b2, .int 0, .int 0]))]) hx hb hlt hown hT hK xk_109 xk_110 hstr hU hS hP9 hD9 (hl.1.trans hml.symm) xd_De_provider_24 xd_De_provider_27 xd_De_provider_28 xd_De_provider_30 xd_De_provider_33 htab (Nat.le_of_ble_eq_true rfl) (Nat.le_of_ble_eq_true rfl) (Nat.le_of_ble_eq_true rfl) (Nat.le_of_ble_eq_true rfl) hlocks (Nat.le_of_ble_eq_true rfl) (Nat.le_of_ble_eq_true rfl)
end
section
set_option maxHeartbeats 4000000 in
set_option maxRecDepth 100000 in
theorem xc_Mo_thrown (l : Launch) (D : va_G) (kA : Nat → ClassId) (sz : Nat) (h : Nat) (m0 : Nat) (m1 : Nat) (m2 : Nat) (m3 : Nat) (m4 : Nat) (m5 : Nat) (m6 : Nat) (m7 : Nat) (m8 : Nat) (m9 : Nat) (m10 : Nat) (m11 : Nat) (m12 : Nat) (m13 : Nat) (m14 : Nat) (m15 : Nat) (m16 : Nat) (m17 : Nat) (m18 : Nat) (m19 : Nat) (m20 : Nat) (m21 : Nat) (m22 : Nat) (m23 : Nat) (m24 : Nat) (F : Int32) : Met l xy_Mo_thrown (.code xy_Mo_thrown xb_Mo_thrown 1 (some .int) :: wT) { frames := 0, cells := 0, slots := 0, locals := 0 } (va_Pc [.ref h] (xPre D kA sz [(h, .inr (4, [.int F, .int 0, .ref m0, .int 0, .int 0, .ref m1, .ref m2, .int 0, .ref m3, .ref m4, .ref m5, .ref m6, .ref m7, .ref m8, .ref m9, .ref m10, .ref m11, .ref m12, .ref m13, .ref m14, .ref m15, .ref m16, .ref m17, .int 0, .ref m18, .ref m19, .ref m20, .ref m21, .ref m22, .ref m23, .ref m24]))])) (va_Qi (fun (r : Int32) (u : Unit) => r = F) (fun (u : Unit) t => va_P D xcl [(h, .inr (4, [.int F, .int 0, .ref m0, .int 0, .int 0, .ref m1, .ref m2, .int 0, .ref m3, .ref m4, .ref m5, .ref m6, .ref m7, .ref m8, .ref m9, .ref m10, .ref m11, .ref m12, .ref m13, .ref m14, .ref m15, .ref m16, .ref m17, .int 0, .ref m18, .ref m19, .ref m20, .ref m21, .ref m22, .ref m23, .ref m24]))] t.heap ∧ va_D (va_A [(h, .inr (4, [.int F, .int 0, .ref m0, .int 0, .int 0, .ref m1, .ref m2, .int 0, .ref m3, .ref m4, .ref m5, .ref m6, .ref m7, .ref m8, .ref m9, .ref m10, .ref m11, .ref m12, .ref m13, .ref m14, .ref m15, .ref m16, .ref m17, .int 0, .ref m18, .ref m19, .ref m20, .ref m21, .ref m22, .ref m23, .ref m24]))] sz) [(h, .inr (4, [.int F, .int 0, .ref m0, .int 0, .int 0, .ref m1, .ref m2, .int 0, .ref m3, .ref m4, .ref m5, .ref m6, .ref m7, .ref m8, .ref m9, .ref m10, .ref m11, .ref m12, .ref m13, .ref m14, .ref m15, .ref m16, .ref m17, .int 0, .ref m18, .ref m19, .ref m20, .ref m21, .ref m22, .ref m23, .ref m24]))]) (va_A [(h, .inr (4, [.int F, .int 0, .ref m0, .int 0, .int 0, .ref m1, .ref m2, .int 0, .ref m3, .ref m4, .ref m5, .ref m6, .ref m7, .ref m8, .ref m9, .ref m10, .ref m11, .ref m12, .ref m13, .ref m14, .ref m15, .ref m16, .ref m17, .int 0, .ref m18, .ref m19, .ref m20, .ref m21, .ref m22, .ref m23, .ref m24]))] sz)) 0 0 (va_A [(h, .inr (4, [.int F, .int 0, .ref m0, .int 0, .int 0, .ref m1, .ref m2, .int 0, .ref m3, .ref m4, .ref m5, .ref m6, .ref m7, .ref m8, .ref m9, .ref m10, .ref m11, .ref m12, .ref m13, .ref m14, .ref m15, .ref m16, .ref m17, .int 0, .ref m18, .ref m19, .ref m20, .ref m21, .ref m22, .ref m23, .ref m24]))] sz) := by
  refine Met.ofW (cc := xb_Mo_thrown) (maxL := 1) (ret := (some .int)) (by decide) rfl ?_
  intro p e s m args below meth c s₁ B hml hv
  obtain ⟨rfl, hsz, hP, hK, hD0⟩ := hv
  have hx := B.exec
  have hb := B.bytes
  have hr := B.returns
  have hT := x_hT B.pre
  have hown : s.vm.findClass xR_Mo = some m.cls := findClass_of_methodNamed B.named
  have hlocks := B.notSynchronized
  subst hsz
  have hD := hD0.self (sz := s.heap.size)
  generalize hAe : va_A [(h, .inr (4, [.int F, .int 0, .ref m0, .int 0, .int 0, .ref m1, .ref m2, .int 0, .ref m3, .ref m4, .ref m5, .ref m6, .ref m7, .ref m8, .ref m9, .ref m10, .ref m11, .ref m12, .ref m13, .ref m14, .ref m15, .ref m16, .ref m17, .int 0, .ref m18, .ref m19, .ref m20, .ref m21, .ref m22, .ref m23, .ref m24]))] s.heap.size = A at hD ⊢
  have hA : ∀ q : Nat, s.heap.size ≤ q → A q := fun q h => by rw [← hAe]; exact Or.inr h
  have hS : va_S A s.heap s.heap [] := va_S.rf
  have hP : va_P D xcl [(h, .inr (4, [.int F, .int 0, .ref m0, .int 0, .int 0, .ref m1, .ref m2, .int 0, .ref m3, .ref m4, .ref m5, .ref m6, .ref m7, .ref m8, .ref m9, .ref m10, .ref m11, .ref m12, .ref m13, .ref m14, .ref m15, .ref m16, .ref m17, .int 0, .ref m18, .ref m19, .ref m20, .ref m21, .ref m22, .ref m23, .ref m24]))] s.heap := hP
  have hl := lv_entry ([.ref h]) (n := 1) (Nat.le_of_ble_eq_true rfl)
  rw [lg_entry_eq]
  generalize (lg_sl ([.ref h]) ++ List.replicate (1 - (lg_sl ([.ref h])).length) Slot.unset).toArray = ls at hl ⊢
  have hl : lv_has ls 1 [(0, .ref h)] := hl
  refine lv_aload_n hx hb xd_Mo_thrown_0 rfl (lv_at hl 0 rfl) ?_
  refine va_get (D := D) (ci := 4) (v := .int F) (C := xR_Mo) (T := xT_Mo) (N := 31) hx hb hT xi_Mo hown hK.1 hP 0 rfl rfl 0 (by decide) (hT _ xk_115) (fun _ h9 => h9) rfl xd_Mo_thrown_1 ?_
  have hP9 := hP.sub (ws' := [(h, .inr (4, [.int F, .int 0, .ref m0, .int 0, .int 0, .ref m1, .ref m2, .int 0, .ref m3, .ref m4, .ref m5, .ref m6, .ref m7, .ref m8, .ref m9, .ref m10, .ref m11, .ref m12, .ref m13, .ref m14, .ref m15, .ref m16, .ref m17, .int 0, .ref m18, .ref m19, .ref m20, .ref m21, .ref m22, .ref m23, .ref m24]))]) [0] rfl
  have hD9 := hD.sub (ws' := [(h, .inr (4, [.int F, .int 0, .ref m0, .int 0, .int 0, .ref m1, .ref m2, .int 0, .ref m3, .ref m4, .ref m5, .ref m6, .ref m7, .ref m8, .ref m9, .ref m10, .ref m11, .ref m12, .ref m13, .ref m14, .ref m15, .ref m16, .ref m17, .int 0, .ref m18, .ref m19, .ref m20, .ref m21, .ref m22, .ref m23, .ref m24]))]) [0] (by decide) rfl
  refine W.widen (k := 0) (n := 0) (Nat.le_of_ble_eq_true rfl) (Nat.le_of_ble_eq_true rfl) ?_
  exact W.iret (v := F) hx hb hr (fun t ht hW => ⟨⟨F, (), rfl, rfl, by rw [ht]; exact hP9, hD9⟩, hS.F ht⟩) hS.2.2 xd_Mo_thrown_4
set_option maxHeartbeats 4000000 in
set_option maxRecDepth 100000 in
theorem xc_Mo_fails (l : Launch) (D : va_G) (kA : Nat → ClassId) (sz : Nat) (h : Nat) (m0 : Nat) (m1 : Nat) (m2 : Nat) (m3 : Nat) (m4 : Nat) (m5 : Nat) (m6 : Nat) (m7 : Nat) (m8 : Nat) (m9 : Nat) (m10 : Nat) (m11 : Nat) (m12 : Nat) (m13 : Nat) (m14 : Nat) (m15 : Nat) (m16 : Nat) (m17 : Nat) (m18 : Nat) (m19 : Nat) (m20 : Nat) (m21 : Nat) (m22 : Nat) (m23 : Nat) (m24 : Nat) (F : Int32) (cd : Int32) : Met l xy_Mo_fails (.code xy_Mo_fails xb_Mo_fails 2 (some .int) :: wT) { frames := 0, cells := 0, slots := 0, locals := 0 } (va_Pc [.ref h, .int cd] (xPre D kA sz [(h, .inr (4, [.int F, .int 0, .ref m0, .int 0, .int 0, .ref m1, .ref m2, .int 0, .ref m3, .ref m4, .ref m5, .ref m6, .ref m7, .ref m8, .ref m9, .ref m10, .ref m11, .ref m12, .ref m13, .ref m14, .ref m15, .ref m16, .ref m17, .int 0, .ref m18, .ref m19, .ref m20, .ref m21, .ref m22, .ref m23, .ref m24]))])) (va_Qi (fun (r : Int32) (u : Unit) => r = 0) (fun (u : Unit) t => va_P D xcl [(h, .inr (4, [.int cd, .int 0, .ref m0, .int 0, .int 0, .ref m1, .ref m2, .int 0, .ref m3, .ref m4, .ref m5, .ref m6, .ref m7, .ref m8, .ref m9, .ref m10, .ref m11, .ref m12, .ref m13, .ref m14, .ref m15, .ref m16, .ref m17, .int 0, .ref m18, .ref m19, .ref m20, .ref m21, .ref m22, .ref m23, .ref m24]))] t.heap ∧ va_D (va_A [(h, .inr (4, [.int F, .int 0, .ref m0, .int 0, .int 0, .ref m1, .ref m2, .int 0, .ref m3, .ref m4, .ref m5, .ref m6, .ref m7, .ref m8, .ref m9, .ref m10, .ref m11, .ref m12, .ref m13, .ref m14, .ref m15, .ref m16, .ref m17, .int 0, .ref m18, .ref m19, .ref m20, .ref m21, .ref m22, .ref m23, .ref m24]))] sz) [(h, .inr (4, [.int cd, .int 0, .ref m0, .int 0, .int 0, .ref m1, .ref m2, .int 0, .ref m3, .ref m4, .ref m5, .ref m6, .ref m7, .ref m8, .ref m9, .ref m10, .ref m11, .ref m12, .ref m13, .ref m14, .ref m15, .ref m16, .ref m17, .int 0, .ref m18, .ref m19, .ref m20, .ref m21, .ref m22, .ref m23, .ref m24]))]) (va_A [(h, .inr (4, [.int F, .int 0, .ref m0, .int 0, .int 0, .ref m1, .ref m2, .int 0, .ref m3, .ref m4, .ref m5, .ref m6, .ref m7, .ref m8, .ref m9, .ref m10, .ref m11, .ref m12, .ref m13, .ref m14, .ref m15, .ref m16, .ref m17, .int 0, .ref m18, .ref m19, .ref m20, .ref m21, .ref m22, .ref m23, .ref m24]))] sz)) 0 0 (va_A [(h, .inr (4, [.int F, .int 0, .ref m0, .int 0, .int 0, .ref m1, .ref m2, .int 0, .ref m3, .ref m4, .ref m5, .ref m6, .ref m7, .ref m8, .ref m9, .ref m10, .ref m11, .ref m12, .ref m13, .ref m14, .ref m15, .ref m16, .ref m17, .int 0, .ref m18, .ref m19, .ref m20, .ref m21, .ref m22, .ref m23, .ref m24]))] sz) := by
  refine Met.ofW (cc := xb_Mo_fails) (maxL := 2) (ret := (some .int)) (by decide) rfl ?_
  intro p e s m args below meth c s₁ B hml hv
  obtain ⟨rfl, hsz, hP, hK, hD0⟩ := hv
  have hx := B.exec
  have hb := B.bytes
  have hr := B.returns
  have hT := x_hT B.pre
  have hown : s.vm.findClass xR_Mo = some m.cls := findClass_of_methodNamed B.named
  have hlocks := B.notSynchronized
  subst hsz
  have hD := hD0.self (sz := s.heap.size)
  generalize hAe : va_A [(h, .inr (4, [.int F, .int 0, .ref m0, .int 0, .int 0, .ref m1, .ref m2, .int 0, .ref m3, .ref m4, .ref m5, .ref m6, .ref m7, .ref m8, .ref m9, .ref m10, .ref m11, .ref m12, .ref m13, .ref m14, .ref m15, .ref m16, .ref m17, .int 0, .ref m18, .ref m19, .ref m20, .ref m21, .ref m22, .ref m23, .ref m24]))] s.heap.size = A at hD ⊢
  have hA : ∀ q : Nat, s.heap.size ≤ q → A q := fun q h => by rw [← hAe]; exact Or.inr h
  have hS : va_S A s.heap s.heap [] := va_S.rf
  have hP : va_P D xcl [(h, .inr (4, [.int F, .int 0, .ref m0, .int 0, .int 0, .ref m1, .ref m2, .int 0, .ref m3, .ref m4, .ref m5, .ref m6, .ref m7, .ref m8, .ref m9, .ref m10, .ref m11, .ref m12, .ref m13, .ref m14, .ref m15, .ref m16, .ref m17, .int 0, .ref m18, .ref m19, .ref m20, .ref m21, .ref m22, .ref m23, .ref m24]))] s.heap := hP
  have hl := lv_entry ([.ref h, .int cd]) (n := 2) (Nat.le_of_ble_eq_true rfl)
  rw [lg_entry_eq]
  generalize (lg_sl ([.ref h, .int cd]) ++ List.replicate (2 - (lg_sl ([.ref h, .int cd])).length) Slot.unset).toArray = ls at hl ⊢
  have hl : lv_has ls 2 [(0, .ref h), (1, .int cd)] := hl
  refine lv_aload_n hx hb xd_Mo_fails_0 rfl (lv_at hl 0 rfl) ?_
  refine lv_iload_n hx hb xd_Mo_fails_1 rfl (lv_at hl 1 rfl) ?_
  refine va_put (D := D) (ci := 4) (v := .int cd) (ty := .int) (C := xR_Mo) (T := xT_Mo) (N := 31) hx hb hT xi_Mo xt_Mo xt_Mo_ok xn_Mo hown hK.1 hP hD hS 0 rfl rfl 0 (by decide) (hT _ xk_115) (fun _ h9 => h9) rfl (by decide +kernel) rfl rfl (Nat.le_of_ble_eq_true rfl) xd_Mo_fails_2 (fun H locs hP hD hS => ?_)
  have hP : va_P D xcl [(h, .inr (4, [.int cd, .int 0, .ref m0, .int 0, .int 0, .ref m1, .ref m2, .int 0, .ref m3, .ref m4, .ref m5, .ref m6, .ref m7, .ref m8, .ref m9, .ref m10, .ref m11, .ref m12, .ref m13, .ref m14, .ref m15, .ref m16, .ref m17, .int 0, .ref m18, .ref m19, .ref m20, .ref m21, .ref m22, .ref m23, .ref m24]))] H := hP
  have hD : va_D A [(h, .inr (4, [.int cd, .int 0, .ref m0, .int 0, .int 0, .ref m1, .ref m2, .int 0, .ref m3, .ref m4, .ref m5, .ref m6, .ref m7, .ref m8, .ref m9, .ref m10, .ref m11, .ref m12, .ref m13, .ref m14, .ref m15, .ref m16, .ref m17, .int 0, .ref m18, .ref m19, .ref m20, .ref m21, .ref m22, .ref m23, .ref m24]))] := hD
  refine lv_iconst (v := 0) hx hb xd_Mo_fails_5 (by decide) ?_
  have hP9 := hP.sub (ws' := [(h, .inr (4, [.int cd, .int 0, .ref m0, .int 0, .int 0, .ref m1, .ref m2, .int 0, .ref m3, .ref m4, .ref m5, .ref m6, .ref m7, .ref m8, .ref m9, .ref m10, .ref m11, .ref m12, .ref m13, .ref m14, .ref m15, .ref m16, .ref m17, .int 0, .ref m18, .ref m19, .ref m20, .ref m21, .ref m22, .ref m23, .ref m24]))]) [0] rfl
  have hD9 := hD.sub (ws' := [(h, .inr (4, [.int cd, .int 0, .ref m0, .int 0, .int 0, .ref m1, .ref m2, .int 0, .ref m3, .ref m4, .ref m5, .ref m6, .ref m7, .ref m8, .ref m9, .ref m10, .ref m11, .ref m12, .ref m13, .ref m14, .ref m15, .ref m16, .ref m17, .int 0, .ref m18, .ref m19, .ref m20, .ref m21, .ref m22, .ref m23, .ref m24]))]) [0] (by decide) rfl
  refine W.widen (k := 0) (n := 0) (Nat.le_of_ble_eq_true rfl) (Nat.le_of_ble_eq_true rfl) ?_
  exact W.iret (v := 0) hx hb hr (fun t ht hW => ⟨⟨0, (), rfl, rfl, by rw [ht]; exact hP9, hD9⟩, hS.F ht⟩) hS.2.2 xd_Mo_fails_6
set_option maxHeartbeats 4000000 in
set_option maxRecDepth 100000 in
theorem xc_Mo_write (l : Launch) (D : va_G) (kA : Nat → ClassId) (sz : Nat) (h : Nat) (m0 : Nat) (m1 : Nat) (m2 : Nat) (m3 : Nat) (m4 : Nat) (m5 : Nat) (m6 : Nat) (m7 : Nat) (m8 : Nat) (m9 : Nat) (m10 : Nat) (m11 : Nat) (m12 : Nat) (m13 : Nat) (m14 : Nat) (m15 : Nat) (m16 : Nat) (m17 : Nat) (m18 : Nat) (m19 : Nat) (m20 : Nat) (m21 : Nat) (m22 : Nat) (m23 : Nat) (m24 : Nat) (F : Int32) (cc9 : Int32) : Met l xy_Mo_write (.code xy_Mo_write xb_Mo_write 2 (some .boolean) :: wT) { frames := 0, cells := 0, slots := 0, locals := 0 } (va_Pc [.ref h, .int cc9] (xPre D kA sz [(h, .inr (4, [.int F, .int 0, .ref m0, .int 0, .int 0, .ref m1, .ref m2, .int 0, .ref m3, .ref m4, .ref m5, .ref m6, .ref m7, .ref m8, .ref m9, .ref m10, .ref m11, .ref m12, .ref m13, .ref m14, .ref m15, .ref m16, .ref m17, .int 0, .ref m18, .ref m19, .ref m20, .ref m21, .ref m22, .ref m23, .ref m24])), (m0, .inl (kA 1, 40, .inl (fun _ => 0)))])) (va_Qi (fun (r : Int32) (u : Int32 × (Nat → Int32)) => r = (if cc9 < 32 then 0 else if cc9 ≤ 126 then 1 else 0)) (fun (u : Int32 × (Nat → Int32)) t => va_P D xcl [(h, .inr (4, [.int 0, .int 0, .ref m0, .int u.1, .int 0, .ref m1, .ref m2, .int 0, .ref m3, .ref m4, .ref m5, .ref m6, .ref m7, .ref m8, .ref m9, .ref m10, .ref m11, .ref m12, .ref m13, .ref m14, .ref m15, .ref m16, .ref m17, .int 0, .ref m18, .ref m19, .ref m20, .ref m21, .ref m22, .ref m23, .ref m24])), (m0, .inl (kA 1, 40, .inl u.2))] t.heap ∧ va_D (va_A [(h, .inr (4, [.int F, .int 0, .ref m0, .int 0, .int 0, .ref m1, .ref m2, .int 0, .ref m3, .ref m4, .ref m5, .ref m6, .ref m7, .ref m8, .ref m9, .ref m10, .ref m11, .ref m12, .ref m13, .ref m14, .ref m15, .ref m16, .ref m17, .int 0, .ref m18, .ref m19, .ref m20, .ref m21, .ref m22, .ref m23, .ref m24])), (m0, .inl (kA 1, 40, .inl (fun _ => 0)))] sz) [(h, .inr (4, [.int 0, .int 0, .ref m0, .int u.1, .int 0, .ref m1, .ref m2, .int 0, .ref m3, .ref m4, .ref m5, .ref m6, .ref m7, .ref m8, .ref m9, .ref m10, .ref m11, .ref m12, .ref m13, .ref m14, .ref m15, .ref m16, .ref m17, .int 0, .ref m18, .ref m19, .ref m20, .ref m21, .ref m22, .ref m23, .ref m24])), (m0, .inl (kA 1, 40, .inl u.2))]) (va_A [(h, .inr (4, [.int F, .int 0, .ref m0, .int 0, .int 0, .ref m1, .ref m2, .int 0, .ref m3, .ref m4, .ref m5, .ref m6, .ref m7, .ref m8, .ref m9, .ref m10, .ref m11, .ref m12, .ref m13, .ref m14, .ref m15, .ref m16, .ref m17, .int 0, .ref m18, .ref m19, .ref m20, .ref m21, .ref m22, .ref m23, .ref m24])), (m0, .inl (kA 1, 40, .inl (fun _ => 0)))] sz)) 0 0 (va_A [(h, .inr (4, [.int F, .int 0, .ref m0, .int 0, .int 0, .ref m1, .ref m2, .int 0, .ref m3, .ref m4, .ref m5, .ref m6, .ref m7, .ref m8, .ref m9, .ref m10, .ref m11, .ref m12, .ref m13, .ref m14, .ref m15, .ref m16, .ref m17, .int 0, .ref m18, .ref m19, .ref m20, .ref m21, .ref m22, .ref m23, .ref m24])), (m0, .inl (kA 1, 40, .inl (fun _ => 0)))] sz) := by
  refine Met.ofW (cc := xb_Mo_write) (maxL := 2) (ret := (some .boolean)) (by decide) rfl ?_
  intro p e s m args below meth c s₁ B hml hv
  obtain ⟨rfl, hsz, hP, hK, hD0⟩ := hv
  have hx := B.exec
  have hb := B.bytes
  have hr := B.returns
  have hT := x_hT B.pre
  have hown : s.vm.findClass xR_Mo = some m.cls := findClass_of_methodNamed B.named
  have hlocks := B.notSynchronized
  subst hsz
  have hD := hD0.self (sz := s.heap.size)
  generalize hAe : va_A [(h, .inr (4, [.int F, .int 0, .ref m0, .int 0, .int 0, .ref m1, .ref m2, .int 0, .ref m3, .ref m4, .ref m5, .ref m6, .ref m7, .ref m8, .ref m9, .ref m10, .ref m11, .ref m12, .ref m13, .ref m14, .ref m15, .ref m16, .ref m17, .int 0, .ref m18, .ref m19, .ref m20, .ref m21, .ref m22, .ref m23, .ref m24])), (m0, .inl (kA 1, 40, .inl (fun _ => 0)))] s.heap.size = A at hD ⊢
  have hA : ∀ q : Nat, s.heap.size ≤ q → A q := fun q h => by rw [← hAe]; exact Or.inr h
  have hS : va_S A s.heap s.heap [] := va_S.rf
  have hP : va_P D xcl [(h, .inr (4, [.int F, .int 0, .ref m0, .int 0, .int 0, .ref m1, .ref m2, .int 0, .ref m3, .ref m4, .ref m5, .ref m6, .ref m7, .ref m8, .ref m9, .ref m10, .ref m11, .ref m12, .ref m13, .ref m14, .ref m15, .ref m16, .ref m17, .int 0, .ref m18, .ref m19, .ref m20, .ref m21, .ref m22, .ref m23, .ref m24])), (m0, .inl (kA 1, 40, .inl (fun _ => 0)))] s.heap := hP
  have hl := lv_entry ([.ref h, .int cc9]) (n := 2) (Nat.le_of_ble_eq_true rfl)
  rw [lg_entry_eq]
  generalize (lg_sl ([.ref h, .int cc9]) ++ List.replicate (2 - (lg_sl ([.ref h, .int cc9])).length) Slot.unset).toArray = ls at hl ⊢
  have hl : lv_has ls 2 [(0, .ref h), (1, .int cc9)] := hl
  refine lv_aload_n hx hb xd_Mo_write_0 rfl (lv_at hl 0 rfl) ?_
  refine lv_iconst (v := 0) hx hb xd_Mo_write_1 (by decide) ?_
  refine va_put (D := D) (ci := 4) (v := .int 0) (ty := .int) (C := xR_Mo) (T := xT_Mo) (N := 31) hx hb hT xi_Mo xt_Mo xt_Mo_ok xn_Mo hown hK.1 hP hD hS 0 rfl rfl 0 (by decide) (hT _ xk_115) (fun _ h9 => h9) rfl (by decide +kernel) rfl rfl (Nat.le_of_ble_eq_true rfl) xd_Mo_write_2 (fun H locs hP hD hS => ?_)
  have hP : va_P D xcl [(h, .inr (4, [.int 0, .int 0, .ref m0, .int 0, .int 0, .ref m1, .ref m2, .int 0, .ref m3, .ref m4, .ref m5, .ref m6, .ref m7, .ref m8, .ref m9, .ref m10, .ref m11, .ref m12, .ref m13, .ref m14, .ref m15, .ref m16, .ref m17, .int 0, .ref m18, .ref m19, .ref m20, .ref m21, .ref m22, .ref m23, .ref m24])), (m0, .inl (kA 1, 40, .inl (fun _ => 0)))] H := hP
  have hD : va_D A [(h, .inr (4, [.int 0, .int 0, .ref m0, .int 0, .int 0, .ref m1, .ref m2, .int 0, .ref m3, .ref m4, .ref m5, .ref m6, .ref m7, .ref m8, .ref m9, .ref m10, .ref m11, .ref m12, .ref m13, .ref m14, .ref m15, .ref m16, .ref m17, .int 0, .ref m18, .ref m19, .ref m20, .ref m21, .ref m22, .ref m23, .ref m24])), (m0, .inl (kA 1, 40, .inl (fun _ => 0)))] := hD
  refine lv_iload_n hx hb xd_Mo_write_5 rfl (lv_at hl 1 rfl) ?_
  refine lv_bipush (v := 32) hx hb xd_Mo_write_6 (by decide) ?_
  refine lv_icmp_lt (tgt := 26) hx hb xd_Mo_write_8 (by decide) (fun hc1 => ?_) (fun hc1 => ?_)
  · refine lv_iconst (v := 0) hx hb xd_Mo_write_26 (by decide) ?_
    have hP9 := hP.sub (ws' := [(h, .inr (4, [.int 0, .int 0, .ref m0, .int 0, .int 0, .ref m1, .ref m2, .int 0, .ref m3, .ref m4, .ref m5, .ref m6, .ref m7, .ref m8, .ref m9, .ref m10, .ref m11, .ref m12, .ref m13, .ref m14, .ref m15, .ref m16, .ref m17, .int 0, .ref m18, .ref m19, .ref m20, .ref m21, .ref m22, .ref m23, .ref m24])), (m0, .inl (kA 1, 40, .inl (fun _ => 0)))]) [0, 1] rfl
    have hD9 := hD.sub (ws' := [(h, .inr (4, [.int 0, .int 0, .ref m0, .int 0, .int 0, .ref m1, .ref m2, .int 0, .ref m3, .ref m4, .ref m5, .ref m6, .ref m7, .ref m8, .ref m9, .ref m10, .ref m11, .ref m12, .ref m13, .ref m14, .ref m15, .ref m16, .ref m17, .int 0, .ref m18, .ref m19, .ref m20, .ref m21, .ref m22, .ref m23, .ref m24])), (m0, .inl (kA 1, 40, .inl (fun _ => 0)))]) [0, 1] (by decide) rfl
    refine W.widen (k := 0) (n := 0) (Nat.le_of_ble_eq_true rfl) (Nat.le_of_ble_eq_true rfl) ?_
    exact W.zret (v := 0) hx hb hr rfl (fun t ht hW => ⟨⟨0, (0, (fun _ => 0)), rfl, by simp [hc1], by rw [ht]; exact hP9, hD9⟩, hS.F ht⟩) hS.2.2 xd_Mo_write_27
  · refine lv_iload_n hx hb xd_Mo_write_11 rfl (lv_at hl 1 rfl) ?_
    refine lv_bipush (v := 126) hx hb xd_Mo_write_12 (by decide) ?_
    refine lv_icmp_gt (tgt := 26) hx hb xd_Mo_write_14 (by decide) (fun hc2 => ?_) (fun hc2 => ?_)
    · refine lv_iconst (v := 0) hx hb xd_Mo_write_26 (by decide) ?_
      have hP9 := hP.sub (ws' := [(h, .inr (4, [.int 0, .int 0, .ref m0, .int 0, .int 0, .ref m1, .ref m2, .int 0, .ref m3, .ref m4, .ref m5, .ref m6, .ref m7, .ref m8, .ref m9, .ref m10, .ref m11, .ref m12, .ref m13, .ref m14, .ref m15, .ref m16, .ref m17, .int 0, .ref m18, .ref m19, .ref m20, .ref m21, .ref m22, .ref m23, .ref m24])), (m0, .inl (kA 1, 40, .inl (fun _ => 0)))]) [0, 1] rfl
      have hD9 := hD.sub (ws' := [(h, .inr (4, [.int 0, .int 0, .ref m0, .int 0, .int 0, .ref m1, .ref m2, .int 0, .ref m3, .ref m4, .ref m5, .ref m6, .ref m7, .ref m8, .ref m9, .ref m10, .ref m11, .ref m12, .ref m13, .ref m14, .ref m15, .ref m16, .ref m17, .int 0, .ref m18, .ref m19, .ref m20, .ref m21, .ref m22, .ref m23, .ref m24])), (m0, .inl (kA 1, 40, .inl (fun _ => 0)))]) [0, 1] (by decide) rfl
      refine W.widen (k := 0) (n := 0) (Nat.le_of_ble_eq_true rfl) (Nat.le_of_ble_eq_true rfl) ?_
      exact W.zret (v := 0) hx hb hr rfl (fun t ht hW => ⟨⟨0, (0, (fun _ => 0)), rfl, by simp [hc1, hc2], by rw [ht]; exact hP9, hD9⟩, hS.F ht⟩) hS.2.2 xd_Mo_write_27
    · refine lv_aload_n hx hb xd_Mo_write_17 rfl (lv_at hl 0 rfl) ?_
      refine va_get (D := D) (ci := 4) (v := .int 0) (C := xR_Mo) (T := xT_Mo) (N := 31) hx hb hT xi_Mo hown hK.1 hP 0 rfl rfl 3 (by decide) (hT _ xk_116) (fun _ h9 => h9) rfl xd_Mo_write_18 ?_
      refine lv_bipush (v := 40) hx hb xd_Mo_write_21 (by decide) ?_
      refine lv_icmp_lt (tgt := 28) hx hb xd_Mo_write_23 (by decide) (fun _ => ?_) (fun hc => absurd (by decide) hc)
      refine lv_aload_n hx hb xd_Mo_write_28 rfl (lv_at hl 0 rfl) ?_
      refine va_get (D := D) (ci := 4) (v := .ref m0) (C := xR_Mo) (T := xT_Mo) (N := 31) hx hb hT xi_Mo hown hK.1 hP 0 rfl rfl 2 (by decide) (hT _ xk_46) (fun _ h9 => h9) rfl xd_Mo_write_29 ?_
      refine lv_aload_n hx hb xd_Mo_write_32 rfl (lv_at hl 0 rfl) ?_
      refine va_get (D := D) (ci := 4) (v := .int 0) (C := xR_Mo) (T := xT_Mo) (N := 31) hx hb hT xi_Mo hown hK.1 hP 0 rfl rfl 3 (by decide) (hT _ xk_116) (fun _ h9 => h9) rfl xd_Mo_write_33 ?_
      refine lv_iload_n hx hb xd_Mo_write_36 rfl (lv_at hl 1 rfl) ?_
      refine va_cast hx hb hK.1 hP hD hS 1 1 rfl rfl (show ¬ _ by decide) xd_Mo_write_37 (fun H locs hP hD hS => ?_)
      have hP : va_P D xcl [(h, .inr (4, [.int 0, .int 0, .ref m0, .int 0, .int 0, .ref m1, .ref m2, .int 0, .ref m3, .ref m4, .ref m5, .ref m6, .ref m7, .ref m8, .ref m9, .ref m10, .ref m11, .ref m12, .ref m13, .ref m14, .ref m15, .ref m16, .ref m17, .int 0, .ref m18, .ref m19, .ref m20, .ref m21, .ref m22, .ref m23, .ref m24])), (m0, .inl (kA 1, 40, .inl (upd (fun _ => 0) (0 : Int32).toNatClampNeg (vp_nar .char cc9))))] H := hP
      have hD : va_D A [(h, .inr (4, [.int 0, .int 0, .ref m0, .int 0, .int 0, .ref m1, .ref m2, .int 0, .ref m3, .ref m4, .ref m5, .ref m6, .ref m7, .ref m8, .ref m9, .ref m10, .ref m11, .ref m12, .ref m13, .ref m14, .ref m15, .ref m16, .ref m17, .int 0, .ref m18, .ref m19, .ref m20, .ref m21, .ref m22, .ref m23, .ref m24])), (m0, .inl (kA 1, 40, .inl (upd (fun _ => 0) (0 : Int32).toNatClampNeg (vp_nar .char cc9))))] := hD
      refine lv_aload_n hx hb xd_Mo_write_38 rfl (lv_at hl 0 rfl) ?_
      refine lv_dup hx hb xd_Mo_write_39 rfl ?_
      refine va_get (D := D) (ci := 4) (v := .int 0) (C := xR_Mo) (T := xT_Mo) (N := 31) hx hb hT xi_Mo hown hK.1 hP 0 rfl rfl 3 (by decide) (hT _ xk_116) (fun _ h9 => h9) rfl xd_Mo_write_40 ?_
      refine lv_iconst (v := 1) hx hb xd_Mo_write_43 (by decide) ?_
      refine lv_iadd hx hb xd_Mo_write_44 ?_
      refine va_put (D := D) (ci := 4) (v := .int (0 + 1)) (ty := .int) (C := xR_Mo) (T := xT_Mo) (N := 31) hx hb hT xi_Mo xt_Mo xt_Mo_ok xn_Mo hown hK.1 hP hD hS 0 rfl rfl 3 (by decide) (hT _ xk_116) (fun _ h9 => h9) rfl (by decide +kernel) rfl rfl (Nat.le_of_ble_eq_true rfl) xd_Mo_write_45 (fun H locs hP hD hS => ?_)
      have hP : va_P D xcl [(h, .inr (4, [.int 0, .int 0, .ref m0, .int (0 + 1), .int 0, .ref m1, .ref m2, .int 0, .ref m3, .ref m4, .ref m5, .ref m6, .ref m7, .ref m8, .ref m9, .ref m10, .ref m11, .ref m12, .ref m13, .ref m14, .ref m15, .ref m16, .ref m17, .int 0, .ref m18, .ref m19, .ref m20, .ref m21, .ref m22, .ref m23, .ref m24])), (m0, .inl (kA 1, 40, .inl (upd (fun _ => 0) (0 : Int32).toNatClampNeg (vp_nar .char cc9))))] H := hP
      have hD : va_D A [(h, .inr (4, [.int 0, .int 0, .ref m0, .int (0 + 1), .int 0, .ref m1, .ref m2, .int 0, .ref m3, .ref m4, .ref m5, .ref m6, .ref m7, .ref m8, .ref m9, .ref m10, .ref m11, .ref m12, .ref m13, .ref m14, .ref m15, .ref m16, .ref m17, .int 0, .ref m18, .ref m19, .ref m20, .ref m21, .ref m22, .ref m23, .ref m24])), (m0, .inl (kA 1, 40, .inl (upd (fun _ => 0) (0 : Int32).toNatClampNeg (vp_nar .char cc9))))] := hD
      refine lv_iconst (v := 1) hx hb xd_Mo_write_48 (by decide) ?_
      have hP9 := hP.sub (ws' := [(h, .inr (4, [.int 0, .int 0, .ref m0, .int (0 + 1), .int 0, .ref m1, .ref m2, .int 0, .ref m3, .ref m4, .ref m5, .ref m6, .ref m7, .ref m8, .ref m9, .ref m10, .ref m11, .ref m12, .ref m13, .ref m14, .ref m15, .ref m16, .ref m17, .int 0, .ref m18, .ref m19, .ref m20, .ref m21, .ref m22, .ref m23, .ref m24])), (m0, .inl (kA 1, 40, .inl (upd (fun _ => 0) (0 : Int32).toNatClampNeg (vp_nar .char cc9))))]) [0, 1] rfl
      have hD9 := hD.sub (ws' := [(h, .inr (4, [.int 0, .int 0, .ref m0, .int (0 + 1), .int 0, .ref m1, .ref m2, .int 0, .ref m3, .ref m4, .ref m5, .ref m6, .ref m7, .ref m8, .ref m9, .ref m10, .ref m11, .ref m12, .ref m13, .ref m14, .ref m15, .ref m16, .ref m17, .int 0, .ref m18, .ref m19, .ref m20, .ref m21, .ref m22, .ref m23, .ref m24])), (m0, .inl (kA 1, 40, .inl (upd (fun _ => 0) (0 : Int32).toNatClampNeg (vp_nar .char cc9))))]) [0, 1] (by decide) rfl
      refine W.widen (k := 0) (n := 0) (Nat.le_of_ble_eq_true rfl) (Nat.le_of_ble_eq_true rfl) ?_
      exact W.zret (v := 1) hx hb hr rfl (fun t ht hW => ⟨⟨1, ((0 + 1), (upd (fun _ => 0) (0 : Int32).toNatClampNeg (vp_nar .char cc9))), rfl, by simp [hc1, hc2], by rw [ht]; exact hP9, hD9⟩, hS.F ht⟩) hS.2.2 xd_Mo_write_49
set_option maxHeartbeats 4000000 in
set_option maxRecDepth 100000 in
theorem xc_Mo_split (l : Launch) (D : va_G) (kA : Nat → ClassId) (sz : Nat) (h : Nat) (m0 : Nat) (m1 : Nat) (m2 : Nat) (m3 : Nat) (m4 : Nat) (m5 : Nat) (m6 : Nat) (m7 : Nat) (m8 : Nat) (m9 : Nat) (m10 : Nat) (m11 : Nat) (m12 : Nat) (m13 : Nat) (m14 : Nat) (m15 : Nat) (m16 : Nat) (m17 : Nat) (m18 : Nat) (m19 : Nat) (m20 : Nat) (m21 : Nat) (m22 : Nat) (m23 : Nat) (m24 : Nat) (F : Int32) : Met l xy_Mo_split (.code xy_Mo_split xb_Mo_split 2 none :: wT) { frames := 0, cells := 0, slots := 0, locals := 0 } (va_Pc [.ref h] (xPre D kA sz [(h, .inr (4, [.int F, .int 0, .ref m0, .int 0, .int 0, .ref m1, .ref m2, .int 0, .ref m3, .ref m4, .ref m5, .ref m6, .ref m7, .ref m8, .ref m9, .ref m10, .ref m11, .ref m12, .ref m13, .ref m14, .ref m15, .ref m16, .ref m17, .int 0, .ref m18, .ref m19, .ref m20, .ref m21, .ref m22, .ref m23, .ref m24]))])) (va_Qv (fun (u : Unit) => True) (fun (u : Unit) t => va_P D xcl [(h, .inr (4, [.int F, .int 0, .ref m0, .int 0, .int 0, .ref m1, .ref m2, .int 0, .ref m3, .ref m4, .ref m5, .ref m6, .ref m7, .ref m8, .ref m9, .ref m10, .ref m11, .ref m12, .ref m13, .ref m14, .ref m15, .ref m16, .ref m17, .int 0, .ref m18, .ref m19, .ref m20, .ref m21, .ref m22, .ref m23, .ref m24]))] t.heap ∧ va_D (va_A [(h, .inr (4, [.int F, .int 0, .ref m0, .int 0, .int 0, .ref m1, .ref m2, .int 0, .ref m3, .ref m4, .ref m5, .ref m6, .ref m7, .ref m8, .ref m9, .ref m10, .ref m11, .ref m12, .ref m13, .ref m14, .ref m15, .ref m16, .ref m17, .int 0, .ref m18, .ref m19, .ref m20, .ref m21, .ref m22, .ref m23, .ref m24]))] sz) [(h, .inr (4, [.int F, .int 0, .ref m0, .int 0, .int 0, .ref m1, .ref m2, .int 0, .ref m3, .ref m4, .ref m5, .ref m6, .ref m7, .ref m8, .ref m9, .ref m10, .ref m11, .ref m12, .ref m13, .ref m14, .ref m15, .ref m16, .ref m17, .int 0, .ref m18, .ref m19, .ref m20, .ref m21, .ref m22, .ref m23, .ref m24]))]) (va_A [(h, .inr (4, [.int F, .int 0, .ref m0, .int 0, .int 0, .ref m1, .ref m2, .int 0, .ref m3, .ref m4, .ref m5, .ref m6, .ref m7, .ref m8, .ref m9, .ref m10, .ref m11, .ref m12, .ref m13, .ref m14, .ref m15, .ref m16, .ref m17, .int 0, .ref m18, .ref m19, .ref m20, .ref m21, .ref m22, .ref m23, .ref m24]))] sz)) 0 0 (va_A [(h, .inr (4, [.int F, .int 0, .ref m0, .int 0, .int 0, .ref m1, .ref m2, .int 0, .ref m3, .ref m4, .ref m5, .ref m6, .ref m7, .ref m8, .ref m9, .ref m10, .ref m11, .ref m12, .ref m13, .ref m14, .ref m15, .ref m16, .ref m17, .int 0, .ref m18, .ref m19, .ref m20, .ref m21, .ref m22, .ref m23, .ref m24]))] sz) := by
  refine Met.ofW (cc := xb_Mo_split) (maxL := 2) (ret := none) (by decide) rfl ?_
  intro p e s m args below meth c s₁ B hml hv
  obtain ⟨rfl, hsz, hP, hK, hD0⟩ := hv
  have hx := B.exec
  have hb := B.bytes
  have hr := B.returns
  have hT := x_hT B.pre
  have hown : s.vm.findClass xR_Mo = some m.cls := findClass_of_methodNamed B.named
  have hlocks := B.notSynchronized
  subst hsz
  have hD := hD0.self (sz := s.heap.size)
  generalize hAe : va_A [(h, .inr (4, [.int F, .int 0, .ref m0, .int 0, .int 0, .ref m1, .ref m2, .int 0, .ref m3, .ref m4, .ref m5, .ref m6, .ref m7, .ref m8, .ref m9, .ref m10, .ref m11, .ref m12, .ref m13, .ref m14, .ref m15, .ref m16, .ref m17, .int 0, .ref m18, .ref m19, .ref m20, .ref m21, .ref m22, .ref m23, .ref m24]))] s.heap.size = A at hD ⊢
  have hA : ∀ q : Nat, s.heap.size ≤ q → A q := fun q h => by rw [← hAe]; exact Or.inr h
  have hS : va_S A s.heap s.heap [] := va_S.rf
  have hP : va_P D xcl [(h, .inr (4, [.int F, .int 0, .ref m0, .int 0, .int 0, .ref m1, .ref m2, .int 0, .ref m3, .ref m4, .ref m5, .ref m6, .ref m7, .ref m8, .ref m9, .ref m10, .ref m11, .ref m12, .ref m13, .ref m14, .ref m15, .ref m16, .ref m17, .int 0, .ref m18, .ref m19, .ref m20, .ref m21, .ref m22, .ref m23, .ref m24]))] s.heap := hP
  have hl := lv_entry ([.ref h]) (n := 2) (Nat.le_of_ble_eq_true rfl)
  rw [lg_entry_eq]
  generalize (lg_sl ([.ref h]) ++ List.replicate (2 - (lg_sl ([.ref h])).length) Slot.unset).toArray = ls at hl ⊢
  have hl : lv_has ls 2 [(0, .ref h)] := hl
  refine lv_aload_n hx hb xd_Mo_split_0 rfl (lv_at hl 0 rfl) ?_
  refine lv_iconst (v := 0) hx hb xd_Mo_split_1 (by decide) ?_
  refine va_put (D := D) (ci := 4) (v := .int 0) (ty := .int) (C := xR_Mo) (T := xT_Mo) (N := 31) hx hb hT xi_Mo xt_Mo xt_Mo_ok xn_Mo hown hK.1 hP hD hS 0 rfl rfl 4 (by decide) (hT _ xk_117) (fun _ h9 => h9) rfl (by decide +kernel) rfl rfl (Nat.le_of_ble_eq_true rfl) xd_Mo_split_2 (fun H locs hP hD hS => ?_)
  have hP : va_P D xcl [(h, .inr (4, [.int F, .int 0, .ref m0, .int 0, .int 0, .ref m1, .ref m2, .int 0, .ref m3, .ref m4, .ref m5, .ref m6, .ref m7, .ref m8, .ref m9, .ref m10, .ref m11, .ref m12, .ref m13, .ref m14, .ref m15, .ref m16, .ref m17, .int 0, .ref m18, .ref m19, .ref m20, .ref m21, .ref m22, .ref m23, .ref m24]))] H := hP
  have hD : va_D A [(h, .inr (4, [.int F, .int 0, .ref m0, .int 0, .int 0, .ref m1, .ref m2, .int 0, .ref m3, .ref m4, .ref m5, .ref m6, .ref m7, .ref m8, .ref m9, .ref m10, .ref m11, .ref m12, .ref m13, .ref m14, .ref m15, .ref m16, .ref m17, .int 0, .ref m18, .ref m19, .ref m20, .ref m21, .ref m22, .ref m23, .ref m24]))] := hD
  refine lv_iconst (v := 0) hx hb xd_Mo_split_5 (by decide) ?_
  refine lv_istore_n hx hb xd_Mo_split_6 rfl hl (Nat.le_of_ble_eq_true rfl) rfl (fun ls hl => ?_)
  have hl : lv_has ls 2 [(1, .int 0), (0, .ref h)] := hl
  refine lv_iload_n hx hb xd_Mo_split_7 rfl (lv_at hl 0 rfl) ?_
  refine lv_aload_n hx hb xd_Mo_split_8 rfl (lv_at hl 1 rfl) ?_
  refine va_get (D := D) (ci := 4) (v := .int 0) (C := xR_Mo) (T := xT_Mo) (N := 31) hx hb hT xi_Mo hown hK.1 hP 0 rfl rfl 3 (by decide) (hT _ xk_116) (fun _ h9 => h9) rfl xd_Mo_split_9 ?_
  refine lv_icmp_ge (tgt := 106) hx hb xd_Mo_split_12 (by decide) (fun _ => ?_) (fun hc => absurd (by decide) hc)
  refine lv_aload_n hx hb xd_Mo_split_106 rfl (lv_at hl 1 rfl) ?_
  refine lv_iconst (v := 0) hx hb xd_Mo_split_107 (by decide) ?_
  refine va_put (D := D) (ci := 4) (v := .int 0) (ty := .int) (C := xR_Mo) (T := xT_Mo) (N := 31) hx hb hT xi_Mo xt_Mo xt_Mo_ok xn_Mo hown hK.1 hP hD hS 0 rfl rfl 3 (by decide) (hT _ xk_116) (fun _ h9 => h9) rfl (by decide +kernel) rfl rfl (Nat.le_of_ble_eq_true rfl) xd_Mo_split_108 (fun H locs hP hD hS => ?_)
  have hP : va_P D xcl [(h, .inr (4, [.int F, .int 0, .ref m0, .int 0, .int 0, .ref m1, .ref m2, .int 0, .ref m3, .ref m4, .ref m5, .ref m6, .ref m7, .ref m8, .ref m9, .ref m10, .ref m11, .ref m12, .ref m13, .ref m14, .ref m15, .ref m16, .ref m17, .int 0, .ref m18, .ref m19, .ref m20, .ref m21, .ref m22, .ref m23, .ref m24]))] H := hP
  have hD : va_D A [(h, .inr (4, [.int F, .int 0, .ref m0, .int 0, .int 0, .ref m1, .ref m2, .int 0, .ref m3, .ref m4, .ref m5, .ref m6, .ref m7, .ref m8, .ref m9, .ref m10, .ref m11, .ref m12, .ref m13, .ref m14, .ref m15, .ref m16, .ref m17, .int 0, .ref m18, .ref m19, .ref m20, .ref m21, .ref m22, .ref m23, .ref m24]))] := hD
  have hP9 := hP.sub (ws' := [(h, .inr (4, [.int F, .int 0, .ref m0, .int 0, .int 0, .ref m1, .ref m2, .int 0, .ref m3, .ref m4, .ref m5, .ref m6, .ref m7, .ref m8, .ref m9, .ref m10, .ref m11, .ref m12, .ref m13, .ref m14, .ref m15, .ref m16, .ref m17, .int 0, .ref m18, .ref m19, .ref m20, .ref m21, .ref m22, .ref m23, .ref m24]))]) [0] rfl
  have hD9 := hD.sub (ws' := [(h, .inr (4, [.int F, .int 0, .ref m0, .int 0, .int 0, .ref m1, .ref m2, .int 0, .ref m3, .ref m4, .ref m5, .ref m6, .ref m7, .ref m8, .ref m9, .ref m10, .ref m11, .ref m12, .ref m13, .ref m14, .ref m15, .ref m16, .ref m17, .int 0, .ref m18, .ref m19, .ref m20, .ref m21, .ref m22, .ref m23, .ref m24]))]) [0] (by decide) rfl
  refine W.widen (k := 0) (n := 0) (Nat.le_of_ble_eq_true rfl) (Nat.le_of_ble_eq_true rfl) ?_
  exact W.vret hx hb hr (fun t ht hW => ⟨⟨(), rfl, trivial, by rw [ht]; exact hP9, hD9⟩, hS.F ht⟩) hS.2.2 xd_Mo_split_111
set_option maxHeartbeats 4000000 in
set_option maxRecDepth 100000 in
theorem xc_Mo_line (l : Launch) (D : va_G) (kA : Nat → ClassId) (sz : Nat) (h : Nat) (m0 : Nat) (m1 : Nat) (m2 : Nat) (m3 : Nat) (m4 : Nat) (m5 : Nat) (m6 : Nat) (m7 : Nat) (m8 : Nat) (m9 : Nat) (m10 : Nat) (m11 : Nat) (m12 : Nat) (m13 : Nat) (m14 : Nat) (m15 : Nat) (m16 : Nat) (m17 : Nat) (m18 : Nat) (m19 : Nat) (m20 : Nat) (m21 : Nat) (m22 : Nat) (m23 : Nat) (m24 : Nat) (F : Int32) : Met l xy_Mo_line (.code xy_Mo_line xb_Mo_line 2 (some .int) :: wT) { frames := 1, cells := 0, slots := 0, locals := 21 } (va_Pc [.ref h] (xPre D kA sz [(h, .inr (4, [.int F, .int 0, .ref m0, .int 0, .int 0, .ref m1, .ref m2, .int 0, .ref m3, .ref m4, .ref m5, .ref m6, .ref m7, .ref m8, .ref m9, .ref m10, .ref m11, .ref m12, .ref m13, .ref m14, .ref m15, .ref m16, .ref m17, .int 0, .ref m18, .ref m19, .ref m20, .ref m21, .ref m22, .ref m23, .ref m24]))])) (va_Qi (fun (r : Int32) (u : Unit) => r = 0) (fun (u : Unit) t => va_P D xcl [(h, .inr (4, [.int 0, .int 0, .ref m0, .int 0, .int 0, .ref m1, .ref m2, .int 0, .ref m3, .ref m4, .ref m5, .ref m6, .ref m7, .ref m8, .ref m9, .ref m10, .ref m11, .ref m12, .ref m13, .ref m14, .ref m15, .ref m16, .ref m17, .int 0, .ref m18, .ref m19, .ref m20, .ref m21, .ref m22, .ref m23, .ref m24]))] t.heap ∧ va_D (va_A [(h, .inr (4, [.int F, .int 0, .ref m0, .int 0, .int 0, .ref m1, .ref m2, .int 0, .ref m3, .ref m4, .ref m5, .ref m6, .ref m7, .ref m8, .ref m9, .ref m10, .ref m11, .ref m12, .ref m13, .ref m14, .ref m15, .ref m16, .ref m17, .int 0, .ref m18, .ref m19, .ref m20, .ref m21, .ref m22, .ref m23, .ref m24]))] sz) [(h, .inr (4, [.int 0, .int 0, .ref m0, .int 0, .int 0, .ref m1, .ref m2, .int 0, .ref m3, .ref m4, .ref m5, .ref m6, .ref m7, .ref m8, .ref m9, .ref m10, .ref m11, .ref m12, .ref m13, .ref m14, .ref m15, .ref m16, .ref m17, .int 0, .ref m18, .ref m19, .ref m20, .ref m21, .ref m22, .ref m23, .ref m24]))]) (va_A [(h, .inr (4, [.int F, .int 0, .ref m0, .int 0, .int 0, .ref m1, .ref m2, .int 0, .ref m3, .ref m4, .ref m5, .ref m6, .ref m7, .ref m8, .ref m9, .ref m10, .ref m11, .ref m12, .ref m13, .ref m14, .ref m15, .ref m16, .ref m17, .int 0, .ref m18, .ref m19, .ref m20, .ref m21, .ref m22, .ref m23, .ref m24]))] sz)) 0 0 (va_A [(h, .inr (4, [.int F, .int 0, .ref m0, .int 0, .int 0, .ref m1, .ref m2, .int 0, .ref m3, .ref m4, .ref m5, .ref m6, .ref m7, .ref m8, .ref m9, .ref m10, .ref m11, .ref m12, .ref m13, .ref m14, .ref m15, .ref m16, .ref m17, .int 0, .ref m18, .ref m19, .ref m20, .ref m21, .ref m22, .ref m23, .ref m24]))] sz) := by
  refine Met.ofW (cc := xb_Mo_line) (maxL := 2) (ret := (some .int)) (by decide) rfl ?_
  intro p e s m args below meth c s₁ B hml hv
  obtain ⟨rfl, hsz, hP, hK, hD0⟩ := hv
  have hx := B.exec
  have hb := B.bytes
  have hr := B.returns
  have hT := x_hT B.pre
  have hown : s.vm.findClass xR_Mo = some m.cls := findClass_of_methodNamed B.named
  have hlocks := B.notSynchronized
  subst hsz
  have hD := hD0.self (sz := s.heap.size)
  generalize hAe : va_A [(h, .inr (4, [.int F, .int 0, .ref m0, .int 0, .int 0, .ref m1, .ref m2, .int 0, .ref m3, .ref m4, .ref m5, .ref m6, .ref m7, .ref m8, .ref m9, .ref m10, .ref m11, .ref m12, .ref m13, .ref m14, .ref m15, .ref m16, .ref m17, .int 0, .ref m18, .ref m19, .ref m20, .ref m21, .ref m22, .ref m23, .ref m24]))] s.heap.size = A at hD ⊢
  have hA : ∀ q : Nat, s.heap.size ≤ q → A q := fun q h => by rw [← hAe]; exact Or.inr h
  have hS : va_S A s.heap s.heap [] := va_S.rf
  have hP : va_P D xcl [(h, .inr (4, [.int F, .int 0, .ref m0, .int 0, .int 0, .ref m1, .ref m2, .int 0, .ref m3, .ref m4, .ref m5, .ref m6, .ref m7, .ref m8, .ref m9, .ref m10, .ref m11, .ref m12, .ref m13, .ref m14, .ref m15, .ref m16, .ref m17, .int 0, .ref m18, .ref m19, .ref m20, .ref m21, .ref m22, .ref m23, .ref m24]))] s.heap := hP
  have hl := lv_entry ([.ref h]) (n := 2) (Nat.le_of_ble_eq_true rfl)
  rw [lg_entry_eq]
  generalize (lg_sl ([.ref h]) ++ List.replicate (2 - (lg_sl ([.ref h])).length) Slot.unset).toArray = ls at hl ⊢
  have hl : lv_has ls 2 [(0, .ref h)] := hl
  refine lv_aload_n hx hb xd_Mo_line_0 rfl (lv_at hl 0 rfl) ?_
  refine lv_iconst (v := 0) hx hb xd_Mo_line_1 (by decide) ?_
  refine va_put (D := D) (ci := 4) (v := .int 0) (ty := .int) (C := xR_Mo) (T := xT_Mo) (N := 31) hx hb hT xi_Mo xt_Mo xt_Mo_ok xn_Mo hown hK.1 hP hD hS 0 rfl rfl 0 (by decide) (hT _ xk_115) (fun _ h9 => h9) rfl (by decide +kernel) rfl rfl (Nat.le_of_ble_eq_true rfl) xd_Mo_line_2 (fun H locs hP hD hS => ?_)
  have hP : va_P D xcl [(h, .inr (4, [.int 0, .int 0, .ref m0, .int 0, .int 0, .ref m1, .ref m2, .int 0, .ref m3, .ref m4, .ref m5, .ref m6, .ref m7, .ref m8, .ref m9, .ref m10, .ref m11, .ref m12, .ref m13, .ref m14, .ref m15, .ref m16, .ref m17, .int 0, .ref m18, .ref m19, .ref m20, .ref m21, .ref m22, .ref m23, .ref m24]))] H := hP
  have hD : va_D A [(h, .inr (4, [.int 0, .int 0, .ref m0, .int 0, .int 0, .ref m1, .ref m2, .int 0, .ref m3, .ref m4, .ref m5, .ref m6, .ref m7, .ref m8, .ref m9, .ref m10, .ref m11, .ref m12, .ref m13, .ref m14, .ref m15, .ref m16, .ref m17, .int 0, .ref m18, .ref m19, .ref m20, .ref m21, .ref m22, .ref m23, .ref m24]))] := hD
  refine lv_aload_n hx hb xd_Mo_line_5 rfl (lv_at hl 0 rfl) ?_
  have hPc := hP.sub (ws' := [(h, .inr (4, [.int 0, .int 0, .ref m0, .int 0, .int 0, .ref m1, .ref m2, .int 0, .ref m3, .ref m4, .ref m5, .ref m6, .ref m7, .ref m8, .ref m9, .ref m10, .ref m11, .ref m12, .ref m13, .ref m14, .ref m15, .ref m16, .ref m17, .int 0, .ref m18, .ref m19, .ref m20, .ref m21, .ref m22, .ref m23, .ref m24]))]) [0] rfl
  have hDc := hD.sub (ws' := [(h, .inr (4, [.int 0, .int 0, .ref m0, .int 0, .int 0, .ref m1, .ref m2, .int 0, .ref m3, .ref m4, .ref m5, .ref m6, .ref m7, .ref m8, .ref m9, .ref m10, .ref m11, .ref m12, .ref m13, .ref m14, .ref m15, .ref m16, .ref m17, .int 0, .ref m18, .ref m19, .ref m20, .ref m21, .ref m22, .ref m23, .ref m24]))]) [0] (by decide) rfl
  have hFc := va_free (wc := [(h, .inr (4, [.int 0, .int 0, .ref m0, .int 0, .int 0, .ref m1, .ref m2, .int 0, .ref m3, .ref m4, .ref m5, .ref m6, .ref m7, .ref m8, .ref m9, .ref m10, .ref m11, .ref m12, .ref m13, .ref m14, .ref m15, .ref m16, .ref m17, .int 0, .ref m18, .ref m19, .ref m20, .ref m21, .ref m22, .ref m23, .ref m24]))]) hD hS hA [0] rfl
  have hkc : 0 + 0 ≤ 0 := Nat.le_of_ble_eq_true rfl
  have hks : 0 + 0 ≤ 0 := Nat.le_of_ble_eq_true rfl
  refine va_callv (va_runV (As := []) (rest := []) ⟨hx, hb, hml, hown, hT⟩ (xc_Mo_split l D kA H.size h m0 m1 m2 m3 m4 m5 m6 m7 m8 m9 m10 m11 m12 m13 m14 m15 m16 m17 m18 m19 m20 m21 m22 m23 m24 0) (cwV 0 hT (wT_V xk_119 xk_120 xk_121 xk_122 xk_118) rfl rfl rfl (by decide +kernel) ⟨Nat.le_of_ble_eq_true rfl, Nat.le_of_ble_eq_true rfl⟩) (x_preV hK hPc hDc 0 rfl rfl) rfl rfl hl.1 rfl (lv_room (Nat.le_of_ble_eq_true rfl)) xd_Mo_line_6 ⟨hkc, hks⟩) hS (fun q _ h => hFc q h) hFc (fun u t H1 locs ht hvm hpost hB hz1 hk1 hS => ?_)
  obtain ⟨hP1, hD1⟩ := hB
  rw [ht] at hP1
  obtain ⟨hP, hD⟩ := va_join (wr := []) (w1 := [(h, .inr (4, [.int 0, .int 0, .ref m0, .int 0, .int 0, .ref m1, .ref m2, .int 0, .ref m3, .ref m4, .ref m5, .ref m6, .ref m7, .ref m8, .ref m9, .ref m10, .ref m11, .ref m12, .ref m13, .ref m14, .ref m15, .ref m16, .ref m17, .int 0, .ref m18, .ref m19, .ref m20, .ref m21, .ref m22, .ref m23, .ref m24]))]) hP hD [0] [] rfl rfl (by decide) (by decide) hk1 hFc hP1 hD1
  generalize H1 = H at hP hS ⊢
  have hP : va_P D xcl [(h, .inr (4, [.int 0, .int 0, .ref m0, .int 0, .int 0, .ref m1, .ref m2, .int 0, .ref m3, .ref m4, .ref m5, .ref m6, .ref m7, .ref m8, .ref m9, .ref m10, .ref m11, .ref m12, .ref m13, .ref m14, .ref m15, .ref m16, .ref m17, .int 0, .ref m18, .ref m19, .ref m20, .ref m21, .ref m22, .ref m23, .ref m24]))] H := hP
  have hD : va_D A [(h, .inr (4, [.int 0, .int 0, .ref m0, .int 0, .int 0, .ref m1, .ref m2, .int 0, .ref m3, .ref m4, .ref m5, .ref m6, .ref m7, .ref m8, .ref m9, .ref m10, .ref m11, .ref m12, .ref m13, .ref m14, .ref m15, .ref m16, .ref m17, .int 0, .ref m18, .ref m19, .ref m20, .ref m21, .ref m22, .ref m23, .ref m24]))] := hD
  refine lv_aload_n hx hb xd_Mo_line_9 rfl (lv_at hl 0 rfl) ?_
  refine va_get (D := D) (ci := 4) (v := .int 0) (C := xR_Mo) (T := xT_Mo) (N := 31) hx hb hT xi_Mo hown hK.1 hP 0 rfl rfl 4 (by decide) (hT _ xk_117) (fun _ h9 => h9) rfl xd_Mo_line_10 ?_
  refine lv_if_ne (tgt := 18) hx hb xd_Mo_line_13 (by decide) (fun hc => absurd (by decide) hc) (fun _ => ?_)
  refine lv_iconst (v := 0) hx hb xd_Mo_line_16 (by decide) ?_
  have hP9 := hP.sub (ws' := [(h, .inr (4, [.int 0, .int 0, .ref m0, .int 0, .int 0, .ref m1, .ref m2, .int 0, .ref m3, .ref m4, .ref m5, .ref m6, .ref m7, .ref m8, .ref m9, .ref m10, .ref m11, .ref m12, .ref m13, .ref m14, .ref m15, .ref m16, .ref m17, .int 0, .ref m18, .ref m19, .ref m20, .ref m21, .ref m22, .ref m23, .ref m24]))]) [0] rfl
  have hD9 := hD.sub (ws' := [(h, .inr (4, [.int 0, .int 0, .ref m0, .int 0, .int 0, .ref m1, .ref m2, .int 0, .ref m3, .ref m4, .ref m5, .ref m6, .ref m7, .ref m8, .ref m9, .ref m10, .ref m11, .ref m12, .ref m13, .ref m14, .ref m15, .ref m16, .ref m17, .int 0, .ref m18, .ref m19, .ref m20, .ref m21, .ref m22, .ref m23, .ref m24]))]) [0] (by decide) rfl
  refine W.widen (k := 0) (n := 0) (Nat.le_of_ble_eq_true rfl) (Nat.le_of_ble_eq_true rfl) ?_
  exact W.iret (v := 0) hx hb hr (fun t ht hW => ⟨⟨0, (), rfl, rfl, by rw [ht]; exact hP9, hD9⟩, hS.F ht⟩) hS.2.2 xd_Mo_line_17
set_option maxHeartbeats 4000000 in
set_option maxRecDepth 100000 in
theorem xc_Mo_isOpen (l : Launch) (D : va_G) (kA : Nat → ClassId) (sz : Nat) (h : Nat) (m0 : Nat) (m1 : Nat) (m2 : Nat) (m3 : Nat) (m4 : Nat) (m5 : Nat) (m6 : Nat) (m7 : Nat) (m8 : Nat) (m9 : Nat) (m10 : Nat) (m11 : Nat) (m12 : Nat) (m13 : Nat) (m14 : Nat) (m15 : Nat) (m16 : Nat) (m17 : Nat) (m18 : Nat) (m19 : Nat) (m20 : Nat) (m21 : Nat) (m22 : Nat) (m23 : Nat) (m24 : Nat) (F : Int32) (n : Int32) : Met l xy_Mo_isOpen (.code xy_Mo_isOpen xb_Mo_isOpen 2 (some .boolean) :: wT) { frames := 0, cells := 0, slots := 0, locals := 0 } (va_Pc [.ref h, .int n] (xPre D kA sz [(h, .inr (4, [.int F, .int 0, .ref m0, .int 0, .int 0, .ref m1, .ref m2, .int 0, .ref m3, .ref m4, .ref m5, .ref m6, .ref m7, .ref m8, .ref m9, .ref m10, .ref m11, .ref m12, .ref m13, .ref m14, .ref m15, .ref m16, .ref m17, .int 0, .ref m18, .ref m19, .ref m20, .ref m21, .ref m22, .ref m23, .ref m24]))])) (va_Qi (fun (r : Int32) (u : Unit) => r = 0) (fun (u : Unit) t => va_P D xcl [(h, .inr (4, [.int F, .int 0, .ref m0, .int 0, .int 0, .ref m1, .ref m2, .int 0, .ref m3, .ref m4, .ref m5, .ref m6, .ref m7, .ref m8, .ref m9, .ref m10, .ref m11, .ref m12, .ref m13, .ref m14, .ref m15, .ref m16, .ref m17, .int 0, .ref m18, .ref m19, .ref m20, .ref m21, .ref m22, .ref m23, .ref m24]))] t.heap ∧ va_D (va_A [(h, .inr (4, [.int F, .int 0, .ref m0, .int 0, .int 0, .ref m1, .ref m2, .int 0, .ref m3, .ref m4, .ref m5, .ref m6, .ref m7, .ref m8, .ref m9, .ref m10, .ref m11, .ref m12, .ref m13, .ref m14, .ref m15, .ref m16, .ref m17, .int 0, .ref m18, .ref m19, .ref m20, .ref m21, .ref m22, .ref m23, .ref m24]))] sz) [(h, .inr (4, [.int F, .int 0, .ref m0, .int 0, .int 0, .ref m1, .ref m2, .int 0, .ref m3, .ref m4, .ref m5, .ref m6, .ref m7, .ref m8, .ref m9, .ref m10, .ref m11, .ref m12, .ref m13, .ref m14, .ref m15, .ref m16, .ref m17, .int 0, .ref m18, .ref m19, .ref m20, .ref m21, .ref m22, .ref m23, .ref m24]))]) (va_A [(h, .inr (4, [.int F, .int 0, .ref m0, .int 0, .int 0, .ref m1, .ref m2, .int 0, .ref m3, .ref m4, .ref m5, .ref m6, .ref m7, .ref m8, .ref m9, .ref m10, .ref m11, .ref m12, .ref m13, .ref m14, .ref m15, .ref m16, .ref m17, .int 0, .ref m18, .ref m19, .ref m20, .ref m21, .ref m22, .ref m23, .ref m24]))] sz)) 0 0 (va_A [(h, .inr (4, [.int F, .int 0, .ref m0, .int 0, .int 0, .ref m1, .ref m2, .int 0, .ref m3, .ref m4, .ref m5, .ref m6, .ref m7, .ref m8, .ref m9, .ref m10, .ref m11, .ref m12, .ref m13, .ref m14, .ref m15, .ref m16, .ref m17, .int 0, .ref m18, .ref m19, .ref m20, .ref m21, .ref m22, .ref m23, .ref m24]))] sz) := by
  refine Met.ofW (cc := xb_Mo_isOpen) (maxL := 2) (ret := (some .boolean)) (by decide) rfl ?_
  intro p e s m args below meth c s₁ B hml hv
  obtain ⟨rfl, hsz, hP, hK, hD0⟩ := hv
  have hx := B.exec
  have hb := B.bytes
  have hr := B.returns
  have hT := x_hT B.pre
  have hown : s.vm.findClass xR_Mo = some m.cls := findClass_of_methodNamed B.named
  have hlocks := B.notSynchronized
  subst hsz
  have hD := hD0.self (sz := s.heap.size)
  generalize hAe : va_A [(h, .inr (4, [.int F, .int 0, .ref m0, .int 0, .int 0, .ref m1, .ref m2, .int 0, .ref m3, .ref m4, .ref m5, .ref m6, .ref m7, .ref m8, .ref m9, .ref m10, .ref m11, .ref m12, .ref m13, .ref m14, .ref m15, .ref m16, .ref m17, .int 0, .ref m18, .ref m19, .ref m20, .ref m21, .ref m22, .ref m23, .ref m24]))] s.heap.size = A at hD ⊢
  have hA : ∀ q : Nat, s.heap.size ≤ q → A q := fun q h => by rw [← hAe]; exact Or.inr h
  have hS : va_S A s.heap s.heap [] := va_S.rf
  have hP : va_P D xcl [(h, .inr (4, [.int F, .int 0, .ref m0, .int 0, .int 0, .ref m1, .ref m2, .int 0, .ref m3, .ref m4, .ref m5, .ref m6, .ref m7, .ref m8, .ref m9, .ref m10, .ref m11, .ref m12, .ref m13, .ref m14, .ref m15, .ref m16, .ref m17, .int 0, .ref m18, .ref m19, .ref m20, .ref m21, .ref m22, .ref m23, .ref m24]))] s.heap := hP
  have hl := lv_entry ([.ref h, .int n]) (n := 2) (Nat.le_of_ble_eq_true rfl)
  rw [lg_entry_eq]
  generalize (lg_sl ([.ref h, .int n]) ++ List.replicate (2 - (lg_sl ([.ref h, .int n])).length) Slot.unset).toArray = ls at hl ⊢
  have hl : lv_has ls 2 [(0, .ref h), (1, .int n)] := hl
  refine lv_iload_n hx hb xd_Mo_isOpen_0 rfl (lv_at hl 1 rfl) ?_
  refine lv_if_lt (tgt := 25) hx hb xd_Mo_isOpen_1 (by decide) (fun hc1 => ?_) (fun hc1 => ?_)
  · refine lv_iconst (v := 0) hx hb xd_Mo_isOpen_25 (by decide) ?_
    have hP9 := hP.sub (ws' := [(h, .inr (4, [.int F, .int 0, .ref m0, .int 0, .int 0, .ref m1, .ref m2, .int 0, .ref m3, .ref m4, .ref m5, .ref m6, .ref m7, .ref m8, .ref m9, .ref m10, .ref m11, .ref m12, .ref m13, .ref m14, .ref m15, .ref m16, .ref m17, .int 0, .ref m18, .ref m19, .ref m20, .ref m21, .ref m22, .ref m23, .ref m24]))]) [0] rfl
    have hD9 := hD.sub (ws' := [(h, .inr (4, [.int F, .int 0, .ref m0, .int 0, .int 0, .ref m1, .ref m2, .int 0, .ref m3, .ref m4, .ref m5, .ref m6, .ref m7, .ref m8, .ref m9, .ref m10, .ref m11, .ref m12, .ref m13, .ref m14, .ref m15, .ref m16, .ref m17, .int 0, .ref m18, .ref m19, .ref m20, .ref m21, .ref m22, .ref m23, .ref m24]))]) [0] (by decide) rfl
    refine W.widen (k := 0) (n := 0) (Nat.le_of_ble_eq_true rfl) (Nat.le_of_ble_eq_true rfl) ?_
    exact W.zret (v := 0) hx hb hr rfl (fun t ht hW => ⟨⟨0, (), rfl, rfl, by rw [ht]; exact hP9, hD9⟩, hS.F ht⟩) hS.2.2 xd_Mo_isOpen_26
  · refine lv_iload_n hx hb xd_Mo_isOpen_4 rfl (lv_at hl 1 rfl) ?_
    refine lv_aload_n hx hb xd_Mo_isOpen_5 rfl (lv_at hl 0 rfl) ?_
    refine va_get (D := D) (ci := 4) (v := .int 0) (C := xR_Mo) (T := xT_Mo) (N := 31) hx hb hT xi_Mo hown hK.1 hP 0 rfl rfl 23 (by decide) (hT _ xk_123) (fun _ h9 => h9) rfl xd_Mo_isOpen_6 ?_
    refine lv_icmp_ge (tgt := 25) hx hb xd_Mo_isOpen_9 (by decide) (fun _ => ?_) (fun hc => absurd (Int32.not_lt.mp hc1) hc)
    refine lv_iconst (v := 0) hx hb xd_Mo_isOpen_25 (by decide) ?_
    have hP9 := hP.sub (ws' := [(h, .inr (4, [.int F, .int 0, .ref m0, .int 0, .int 0, .ref m1, .ref m2, .int 0, .ref m3, .ref m4, .ref m5, .ref m6, .ref m7, .ref m8, .ref m9, .ref m10, .ref m11, .ref m12, .ref m13, .ref m14, .ref m15, .ref m16, .ref m17, .int 0, .ref m18, .ref m19, .ref m20, .ref m21, .ref m22, .ref m23, .ref m24]))]) [0] rfl
    have hD9 := hD.sub (ws' := [(h, .inr (4, [.int F, .int 0, .ref m0, .int 0, .int 0, .ref m1, .ref m2, .int 0, .ref m3, .ref m4, .ref m5, .ref m6, .ref m7, .ref m8, .ref m9, .ref m10, .ref m11, .ref m12, .ref m13, .ref m14, .ref m15, .ref m16, .ref m17, .int 0, .ref m18, .ref m19, .ref m20, .ref m21, .ref m22, .ref m23, .ref m24]))]) [0] (by decide) rfl
    refine W.widen (k := 0) (n := 0) (Nat.le_of_ble_eq_true rfl) (Nat.le_of_ble_eq_true rfl) ?_
    exact W.zret (v := 0) hx hb hr rfl (fun t ht hW => ⟨⟨0, (), rfl, rfl, by rw [ht]; exact hP9, hD9⟩, hS.F ht⟩) hS.2.2 xd_Mo_isOpen_26
set_option maxHeartbeats 4000000 in
set_option maxRecDepth 100000 in
theorem xc_Mo_layer (l : Launch) (D : va_G) (kA : Nat → ClassId) (sz : Nat) (h : Nat) (m0 : Nat) (m1 : Nat) (m2 : Nat) (m3 : Nat) (m4 : Nat) (m5 : Nat) (m6 : Nat) (m7 : Nat) (m8 : Nat) (m9 : Nat) (m10 : Nat) (m11 : Nat) (m12 : Nat) (m13 : Nat) (m14 : Nat) (m15 : Nat) (m16 : Nat) (m17 : Nat) (m18 : Nat) (m19 : Nat) (m20 : Nat) (m21 : Nat) (m22 : Nat) (m23 : Nat) (m24 : Nat) (F : Int32) (n : Int32) (k : Int32) (z : Int32) : Met l xy_Mo_layer (.code xy_Mo_layer xb_Mo_layer 7 (some .int) :: wT) { frames := 1, cells := 0, slots := 0, locals := 21 } (va_Pc [.ref h, .int n, .int k, .int z] (xPre D kA sz [(h, .inr (4, [.int F, .int 0, .ref m0, .int 0, .int 0, .ref m1, .ref m2, .int 0, .ref m3, .ref m4, .ref m5, .ref m6, .ref m7, .ref m8, .ref m9, .ref m10, .ref m11, .ref m12, .ref m13, .ref m14, .ref m15, .ref m16, .ref m17, .int 0, .ref m18, .ref m19, .ref m20, .ref m21, .ref m22, .ref m23, .ref m24]))])) (va_Qi (fun (r : Int32) (u : Unit) => r = 0) (fun (u : Unit) t => va_P D xcl [(h, .inr (4, [.int 1, .int 0, .ref m0, .int 0, .int 0, .ref m1, .ref m2, .int 0, .ref m3, .ref m4, .ref m5, .ref m6, .ref m7, .ref m8, .ref m9, .ref m10, .ref m11, .ref m12, .ref m13, .ref m14, .ref m15, .ref m16, .ref m17, .int 0, .ref m18, .ref m19, .ref m20, .ref m21, .ref m22, .ref m23, .ref m24]))] t.heap ∧ va_D (va_A [(h, .inr (4, [.int F, .int 0, .ref m0, .int 0, .int 0, .ref m1, .ref m2, .int 0, .ref m3, .ref m4, .ref m5, .ref m6, .ref m7, .ref m8, .ref m9, .ref m10, .ref m11, .ref m12, .ref m13, .ref m14, .ref m15, .ref m16, .ref m17, .int 0, .ref m18, .ref m19, .ref m20, .ref m21, .ref m22, .ref m23, .ref m24]))] sz) [(h, .inr (4, [.int 1, .int 0, .ref m0, .int 0, .int 0, .ref m1, .ref m2, .int 0, .ref m3, .ref m4, .ref m5, .ref m6, .ref m7, .ref m8, .ref m9, .ref m10, .ref m11, .ref m12, .ref m13, .ref m14, .ref m15, .ref m16, .ref m17, .int 0, .ref m18, .ref m19, .ref m20, .ref m21, .ref m22, .ref m23, .ref m24]))]) (va_A [(h, .inr (4, [.int F, .int 0, .ref m0, .int 0, .int 0, .ref m1, .ref m2, .int 0, .ref m3, .ref m4, .ref m5, .ref m6, .ref m7, .ref m8, .ref m9, .ref m10, .ref m11, .ref m12, .ref m13, .ref m14, .ref m15, .ref m16, .ref m17, .int 0, .ref m18, .ref m19, .ref m20, .ref m21, .ref m22, .ref m23, .ref m24]))] sz)) 0 0 (va_A [(h, .inr (4, [.int F, .int 0, .ref m0, .int 0, .int 0, .ref m1, .ref m2, .int 0, .ref m3, .ref m4, .ref m5, .ref m6, .ref m7, .ref m8, .ref m9, .ref m10, .ref m11, .ref m12, .ref m13, .ref m14, .ref m15, .ref m16, .ref m17, .int 0, .ref m18, .ref m19, .ref m20, .ref m21, .ref m22, .ref m23, .ref m24]))] sz) := by
  refine Met.ofW (cc := xb_Mo_layer) (maxL := 7) (ret := (some .int)) (by decide) rfl ?_
  intro p e s m args below meth c s₁ B hml hv
  obtain ⟨rfl, hsz, hP, hK, hD0⟩ := hv
  have hx := B.exec
  have hb := B.bytes
  have hr := B.returns
  have hT := x_hT B.pre
  have hown : s.vm.findClass xR_Mo = some m.cls := findClass_of_methodNamed B.named
  have hlocks := B.notSynchronized
  subst hsz
  have hD := hD0.self (sz := s.heap.size)
  generalize hAe : va_A [(h, .inr (4, [.int F, .int 0, .ref m0, .int 0, .int 0, .ref m1, .ref m2, .int 0, .ref m3, .ref m4, .ref m5, .ref m6, .ref m7, .ref m8, .ref m9, .ref m10, .ref m11, .ref m12, .ref m13, .ref m14, .ref m15, .ref m16, .ref m17, .int 0, .ref m18, .ref m19, .ref m20, .ref m21, .ref m22, .ref m23, .ref m24]))] s.heap.size = A at hD ⊢
  have hA : ∀ q : Nat, s.heap.size ≤ q → A q := fun q h => by rw [← hAe]; exact Or.inr h
  have hS : va_S A s.heap s.heap [] := va_S.rf
  have hP : va_P D xcl [(h, .inr (4, [.int F, .int 0, .ref m0, .int 0, .int 0, .ref m1, .ref m2, .int 0, .ref m3, .ref m4, .ref m5, .ref m6, .ref m7, .ref m8, .ref m9, .ref m10, .ref m11, .ref m12, .ref m13, .ref m14, .ref m15, .ref m16, .ref m17, .int 0, .ref m18, .ref m19, .ref m20, .ref m21, .ref m22, .ref m23, .ref m24]))] s.heap := hP
  have hl := lv_entry ([.ref h, .int n, .int k, .int z]) (n := 7) (Nat.le_of_ble_eq_true rfl)
  rw [lg_entry_eq]
  generalize (lg_sl ([.ref h, .int n, .int k, .int z]) ++ List.replicate (7 - (lg_sl ([.ref h, .int n, .int k, .int z])).length) Slot.unset).toArray = ls at hl ⊢
  have hl : lv_has ls 7 [(0, .ref h), (1, .int n), (2, .int k), (3, .int z)] := hl
  refine lv_aload_n hx hb xd_Mo_layer_0 rfl (lv_at hl 0 rfl) ?_
  refine lv_iconst (v := 0) hx hb xd_Mo_layer_1 (by decide) ?_
  refine va_put (D := D) (ci := 4) (v := .int 0) (ty := .int) (C := xR_Mo) (T := xT_Mo) (N := 31) hx hb hT xi_Mo xt_Mo xt_Mo_ok xn_Mo hown hK.1 hP hD hS 0 rfl rfl 0 (by decide) (hT _ xk_115) (fun _ h9 => h9) rfl (by decide +kernel) rfl rfl (Nat.le_of_ble_eq_true rfl) xd_Mo_layer_2 (fun H locs hP hD hS => ?_)
  have hP : va_P D xcl [(h, .inr (4, [.int 0, .int 0, .ref m0, .int 0, .int 0, .ref m1, .ref m2, .int 0, .ref m3, .ref m4, .ref m5, .ref m6, .ref m7, .ref m8, .ref m9, .ref m10, .ref m11, .ref m12, .ref m13, .ref m14, .ref m15, .ref m16, .ref m17, .int 0, .ref m18, .ref m19, .ref m20, .ref m21, .ref m22, .ref m23, .ref m24]))] H := hP
  have hD : va_D A [(h, .inr (4, [.int 0, .int 0, .ref m0, .int 0, .int 0, .ref m1, .ref m2, .int 0, .ref m3, .ref m4, .ref m5, .ref m6, .ref m7, .ref m8, .ref m9, .ref m10, .ref m11, .ref m12, .ref m13, .ref m14, .ref m15, .ref m16, .ref m17, .int 0, .ref m18, .ref m19, .ref m20, .ref m21, .ref m22, .ref m23, .ref m24]))] := hD
  refine lv_aload_n hx hb xd_Mo_layer_5 rfl (lv_at hl 0 rfl) ?_
  refine lv_iconst (v := 0) hx hb xd_Mo_layer_6 (by decide) ?_
  refine va_put (D := D) (ci := 4) (v := .int 0) (ty := .int) (C := xR_Mo) (T := xT_Mo) (N := 31) hx hb hT xi_Mo xt_Mo xt_Mo_ok xn_Mo hown hK.1 hP hD hS 0 rfl rfl 1 (by decide) (hT _ xk_124) (fun _ h9 => h9) rfl (by decide +kernel) rfl rfl (Nat.le_of_ble_eq_true rfl) xd_Mo_layer_7 (fun H locs hP hD hS => ?_)
  have hP : va_P D xcl [(h, .inr (4, [.int 0, .int 0, .ref m0, .int 0, .int 0, .ref m1, .ref m2, .int 0, .ref m3, .ref m4, .ref m5, .ref m6, .ref m7, .ref m8, .ref m9, .ref m10, .ref m11, .ref m12, .ref m13, .ref m14, .ref m15, .ref m16, .ref m17, .int 0, .ref m18, .ref m19, .ref m20, .ref m21, .ref m22, .ref m23, .ref m24]))] H := hP
  have hD : va_D A [(h, .inr (4, [.int 0, .int 0, .ref m0, .int 0, .int 0, .ref m1, .ref m2, .int 0, .ref m3, .ref m4, .ref m5, .ref m6, .ref m7, .ref m8, .ref m9, .ref m10, .ref m11, .ref m12, .ref m13, .ref m14, .ref m15, .ref m16, .ref m17, .int 0, .ref m18, .ref m19, .ref m20, .ref m21, .ref m22, .ref m23, .ref m24]))] := hD
  refine lv_aload_n hx hb xd_Mo_layer_10 rfl (lv_at hl 0 rfl) ?_
  have hPc := hP.sub (ws' := [(h, .inr (4, [.int 0, .int 0, .ref m0, .int 0, .int 0, .ref m1, .ref m2, .int 0, .ref m3, .ref m4, .ref m5, .ref m6, .ref m7, .ref m8, .ref m9, .ref m10, .ref m11, .ref m12, .ref m13, .ref m14, .ref m15, .ref m16, .ref m17, .int 0, .ref m18, .ref m19, .ref m20, .ref m21, .ref m22, .ref m23, .ref m24]))]) [0] rfl
  have hDc := hD.sub (ws' := [(h, .inr (4, [.int 0, .int 0, .ref m0, .int 0, .int 0, .ref m1, .ref m2, .int 0, .ref m3, .ref m4, .ref m5, .ref m6, .ref m7, .ref m8, .ref m9, .ref m10, .ref m11, .ref m12, .ref m13, .ref m14, .ref m15, .ref m16, .ref m17, .int 0, .ref m18, .ref m19, .ref m20, .ref m21, .ref m22, .ref m23, .ref m24]))]) [0] (by decide) rfl
  have hFc := va_free (wc := [(h, .inr (4, [.int 0, .int 0, .ref m0, .int 0, .int 0, .ref m1, .ref m2, .int 0, .ref m3, .ref m4, .ref m5, .ref m6, .ref m7, .ref m8, .ref m9, .ref m10, .ref m11, .ref m12, .ref m13, .ref m14, .ref m15, .ref m16, .ref m17, .int 0, .ref m18, .ref m19, .ref m20, .ref m21, .ref m22, .ref m23, .ref m24]))]) hD hS hA [0] rfl
  have hkc : 0 + 0 ≤ 0 := Nat.le_of_ble_eq_true rfl
  have hks : 0 + 0 ≤ 0 := Nat.le_of_ble_eq_true rfl
  refine va_callv (va_runV (As := []) (rest := []) ⟨hx, hb, hml, hown, hT⟩ (xc_Mo_split l D kA H.size h m0 m1 m2 m3 m4 m5 m6 m7 m8 m9 m10 m11 m12 m13 m14 m15 m16 m17 m18 m19 m20 m21 m22 m23 m24 0) (cwV 0 hT (wT_V xk_119 xk_120 xk_121 xk_122 xk_118) rfl rfl rfl (by decide +kernel) ⟨Nat.le_of_ble_eq_true rfl, Nat.le_of_ble_eq_true rfl⟩) (x_preV hK hPc hDc 0 rfl rfl) rfl rfl hl.1 rfl (lv_room (Nat.le_of_ble_eq_true rfl)) xd_Mo_layer_11 ⟨hkc, hks⟩) hS (fun q _ h => hFc q h) hFc (fun u t H1 locs ht hvm hpost hB hz1 hk1 hS => ?_)
  obtain ⟨hP1, hD1⟩ := hB
  rw [ht] at hP1
  obtain ⟨hP, hD⟩ := va_join (wr := []) (w1 := [(h, .inr (4, [.int 0, .int 0, .ref m0, .int 0, .int 0, .ref m1, .ref m2, .int 0, .ref m3, .ref m4, .ref m5, .ref m6, .ref m7, .ref m8, .ref m9, .ref m10, .ref m11, .ref m12, .ref m13, .ref m14, .ref m15, .ref m16, .ref m17, .int 0, .ref m18, .ref m19, .ref m20, .ref m21, .ref m22, .ref m23, .ref m24]))]) hP hD [0] [] rfl rfl (by decide) (by decide) hk1 hFc hP1 hD1
  generalize H1 = H at hP hS ⊢
  have hP : va_P D xcl [(h, .inr (4, [.int 0, .int 0, .ref m0, .int 0, .int 0, .ref m1, .ref m2, .int 0, .ref m3, .ref m4, .ref m5, .ref m6, .ref m7, .ref m8, .ref m9, .ref m10, .ref m11, .ref m12, .ref m13, .ref m14, .ref m15, .ref m16, .ref m17, .int 0, .ref m18, .ref m19, .ref m20, .ref m21, .ref m22, .ref m23, .ref m24]))] H := hP
  have hD : va_D A [(h, .inr (4, [.int 0, .int 0, .ref m0, .int 0, .int 0, .ref m1, .ref m2, .int 0, .ref m3, .ref m4, .ref m5, .ref m6, .ref m7, .ref m8, .ref m9, .ref m10, .ref m11, .ref m12, .ref m13, .ref m14, .ref m15, .ref m16, .ref m17, .int 0, .ref m18, .ref m19, .ref m20, .ref m21, .ref m22, .ref m23, .ref m24]))] := hD
  refine lv_aload_n hx hb xd_Mo_layer_14 rfl (lv_at hl 0 rfl) ?_
  refine va_get (D := D) (ci := 4) (v := .int 0) (C := xR_Mo) (T := xT_Mo) (N := 31) hx hb hT xi_Mo hown hK.1 hP 0 rfl rfl 4 (by decide) (hT _ xk_117) (fun _ h9 => h9) rfl xd_Mo_layer_15 ?_
  refine lv_iconst (v := 1) hx hb xd_Mo_layer_18 (by decide) ?_
  refine lv_icmp_lt (tgt := 34) hx hb xd_Mo_layer_19 (by decide) (fun _ => ?_) (fun hc => absurd (by decide) hc)
  refine lv_iconst (v := 0) hx hb xd_Mo_layer_34 (by decide) ?_
  refine lv_istore hx hb xd_Mo_layer_35 hl (Nat.le_of_ble_eq_true rfl) rfl (fun ls hl => ?_)
  have hl : lv_has ls 7 [(4, .int 0), (0, .ref h), (1, .int n), (2, .int k), (3, .int z)] := hl
  refine lv_iconst (v := 0) hx hb xd_Mo_layer_37 (by decide) ?_
  refine lv_istore hx hb xd_Mo_layer_38 hl (Nat.le_of_ble_eq_true rfl) rfl (fun ls hl => ?_)
  have hl : lv_has ls 7 [(5, .int 0), (4, .int 0), (0, .ref h), (1, .int n), (2, .int k), (3, .int z)] := hl
  refine lv_iload hx hb xd_Mo_layer_40 (lv_at hl 0 rfl) ?_
  refine lv_aload_n hx hb xd_Mo_layer_42 rfl (lv_at hl 2 rfl) ?_
  refine va_get (D := D) (ci := 4) (v := .int 0) (C := xR_Mo) (T := xT_Mo) (N := 31) hx hb hT xi_Mo hown hK.1 hP 0 rfl rfl 4 (by decide) (hT _ xk_117) (fun _ h9 => h9) rfl xd_Mo_layer_43 ?_
  refine lv_icmp_ge (tgt := 76) hx hb xd_Mo_layer_46 (by decide) (fun _ => ?_) (fun hc => absurd (by decide) hc)
  refine lv_iload hx hb xd_Mo_layer_76 (lv_at hl 1 rfl) ?_
  refine lv_if_eq (tgt := 103) hx hb xd_Mo_layer_78 (by decide) (fun _ => ?_) (fun hc => absurd (by decide) hc)
  refine lv_aload_n hx hb xd_Mo_layer_103 rfl (lv_at hl 2 rfl) ?_
  refine lv_iconst (v := 1) hx hb xd_Mo_layer_104 (by decide) ?_
  have hPc := hP.sub (ws' := [(h, .inr (4, [.int 0, .int 0, .ref m0, .int 0, .int 0, .ref m1, .ref m2, .int 0, .ref m3, .ref m4, .ref m5, .ref m6, .ref m7, .ref m8, .ref m9, .ref m10, .ref m11, .ref m12, .ref m13, .ref m14, .ref m15, .ref m16, .ref m17, .int 0, .ref m18, .ref m19, .ref m20, .ref m21, .ref m22, .ref m23, .ref m24]))]) [0] rfl
  have hDc := hD.sub (ws' := [(h, .inr (4, [.int 0, .int 0, .ref m0, .int 0, .int 0, .ref m1, .ref m2, .int 0, .ref m3, .ref m4, .ref m5, .ref m6, .ref m7, .ref m8, .ref m9, .ref m10, .ref m11, .ref m12, .ref m13, .ref m14, .ref m15, .ref m16, .ref m17, .int 0, .ref m18, .ref m19, .ref m20, .ref m21, .ref m22, .ref m23, .ref m24]))]) [0] (by decide) rfl
  have hFc := va_free (wc := [(h, .inr (4, [.int 0, .int 0, .ref m0, .int 0, .int 0, .ref m1, .ref m2, .int 0, .ref m3, .ref m4, .ref m5, .ref m6, .ref m7, .ref m8, .ref m9, .ref m10, .ref m11, .ref m12, .ref m13, .ref m14, .ref m15, .ref m16, .ref m17, .int 0, .ref m18, .ref m19, .ref m20, .ref m21, .ref m22, .ref m23, .ref m24]))]) hD hS hA [0] rfl
  have hkc : 0 + 0 ≤ 0 := Nat.le_of_ble_eq_true rfl
  have hks : 0 + 0 ≤ 0 := Nat.le_of_ble_eq_true rfl
  refine va_calli (va_runV (As := [.int 1]) (rest := []) ⟨hx, hb, hml, hown, hT⟩ (xc_Mo_fails l D kA H.size h m0 m1 m2 m3 m4 m5 m6 m7 m8 m9 m10 m11 m12 m13 m14 m15 m16 m17 m18 m19 m20 m21 m22 m23 m24 0 1) (cwV 1 hT (wT_V xk_126 xk_127 xk_128 xk_122 xk_125) rfl rfl rfl (by decide +kernel) ⟨Nat.le_of_ble_eq_true rfl, Nat.le_of_ble_eq_true rfl⟩) (x_preV hK hPc hDc 0 rfl rfl) rfl rfl hl.1 rfl (lv_room (Nat.le_of_ble_eq_true rfl)) xd_Mo_layer_105 ⟨hkc, hks⟩) hS (fun q _ h => hFc q h) hFc (fun r u t H1 locs ht hvm hpost hB hz1 hk1 hS => ?_)
  have hpost : r = 0 := hpost
  subst hpost
  obtain ⟨hP1, hD1⟩ := hB
  rw [ht] at hP1
  obtain ⟨hP, hD⟩ := va_join (wr := []) (w1 := [(h, .inr (4, [.int 1, .int 0, .ref m0, .int 0, .int 0, .ref m1, .ref m2, .int 0, .ref m3, .ref m4, .ref m5, .ref m6, .ref m7, .ref m8, .ref m9, .ref m10, .ref m11, .ref m12, .ref m13, .ref m14, .ref m15, .ref m16, .ref m17, .int 0, .ref m18, .ref m19, .ref m20, .ref m21, .ref m22, .ref m23, .ref m24]))]) hP hD [0] [] rfl rfl (by decide) (by decide) hk1 hFc hP1 hD1
  generalize H1 = H at hP hS ⊢
  have hP : va_P D xcl [(h, .inr (4, [.int 1, .int 0, .ref m0, .int 0, .int 0, .ref m1, .ref m2, .int 0, .ref m3, .ref m4, .ref m5, .ref m6, .ref m7, .ref m8, .ref m9, .ref m10, .ref m11, .ref m12, .ref m13, .ref m14, .ref m15, .ref m16, .ref m17, .int 0, .ref m18, .ref m19, .ref m20, .ref m21, .ref m22, .ref m23, .ref m24]))] H := hP
  have hD : va_D A [(h, .inr (4, [.int 1, .int 0, .ref m0, .int 0, .int 0, .ref m1, .ref m2, .int 0, .ref m3, .ref m4, .ref m5, .ref m6, .ref m7, .ref m8, .ref m9, .ref m10, .ref m11, .ref m12, .ref m13, .ref m14, .ref m15, .ref m16, .ref m17, .int 0, .ref m18, .ref m19, .ref m20, .ref m21, .ref m22, .ref m23, .ref m24]))] := hD
  have hP9 := hP.sub (ws' := [(h, .inr (4, [.int 1, .int 0, .ref m0, .int 0, .int 0, .ref m1, .ref m2, .int 0, .ref m3, .ref m4, .ref m5, .ref m6, .ref m7, .ref m8, .ref m9, .ref m10, .ref m11, .ref m12, .ref m13, .ref m14, .ref m15, .ref m16, .ref m17, .int 0, .ref m18, .ref m19, .ref m20, .ref m21, .ref m22, .ref m23, .ref m24]))]) [0] rfl
  have hD9 := hD.sub (ws' := [(h, .inr (4, [.int 1, .int 0, .ref m0, .int 0, .int 0, .ref m1, .ref m2, .int 0, .ref m3, .ref m4, .ref m5, .ref m6, .ref m7, .ref m8, .ref m9, .ref m10, .ref m11, .ref m12, .ref m13, .ref m14, .ref m15, .ref m16, .ref m17, .int 0, .ref m18, .ref m19, .ref m20, .ref m21, .ref m22, .ref m23, .ref m24]))]) [0] (by decide) rfl
  refine W.widen (k := 0) (n := 0) (Nat.le_of_ble_eq_true rfl) (Nat.le_of_ble_eq_true rfl) ?_
  exact W.iret (v := 0) hx hb hr (fun t ht hW => ⟨⟨0, (), rfl, rfl, by rw [ht]; exact hP9, hD9⟩, hS.F ht⟩) hS.2.2 xd_Mo_layer_108
set_option maxHeartbeats 4000000 in
set_option maxRecDepth 100000 in
theorem xc_Mo_fault (l : Launch) (D : va_G) (kA : Nat → ClassId) (sz : Nat) (h : Nat) (m0 : Nat) (m1 : Nat) (m2 : Nat) (m3 : Nat) (m4 : Nat) (m5 : Nat) (m6 : Nat) (m7 : Nat) (m8 : Nat) (m9 : Nat) (m10 : Nat) (m11 : Nat) (m12 : Nat) (m13 : Nat) (m14 : Nat) (m15 : Nat) (m16 : Nat) (m17 : Nat) (m18 : Nat) (m19 : Nat) (m20 : Nat) (m21 : Nat) (m22 : Nat) (m23 : Nat) (m24 : Nat) (F : Int32) : Met l xy_Mo_fault (.code xy_Mo_fault xb_Mo_fault 1 (some .int) :: wT) { frames := 0, cells := 0, slots := 0, locals := 0 } (va_Pc [.ref h] (xPre D kA sz [(h, .inr (4, [.int F, .int 0, .ref m0, .int 0, .int 0, .ref m1, .ref m2, .int 0, .ref m3, .ref m4, .ref m5, .ref m6, .ref m7, .ref m8, .ref m9, .ref m10, .ref m11, .ref m12, .ref m13, .ref m14, .ref m15, .ref m16, .ref m17, .int 0, .ref m18, .ref m19, .ref m20, .ref m21, .ref m22, .ref m23, .ref m24]))])) (va_Qi (fun (r : Int32) (u : Unit) => r = 0) (fun (u : Unit) t => va_P D xcl [(h, .inr (4, [.int 0, .int 0, .ref m0, .int 0, .int 0, .ref m1, .ref m2, .int 0, .ref m3, .ref m4, .ref m5, .ref m6, .ref m7, .ref m8, .ref m9, .ref m10, .ref m11, .ref m12, .ref m13, .ref m14, .ref m15, .ref m16, .ref m17, .int 0, .ref m18, .ref m19, .ref m20, .ref m21, .ref m22, .ref m23, .ref m24]))] t.heap ∧ va_D (va_A [(h, .inr (4, [.int F, .int 0, .ref m0, .int 0, .int 0, .ref m1, .ref m2, .int 0, .ref m3, .ref m4, .ref m5, .ref m6, .ref m7, .ref m8, .ref m9, .ref m10, .ref m11, .ref m12, .ref m13, .ref m14, .ref m15, .ref m16, .ref m17, .int 0, .ref m18, .ref m19, .ref m20, .ref m21, .ref m22, .ref m23, .ref m24]))] sz) [(h, .inr (4, [.int 0, .int 0, .ref m0, .int 0, .int 0, .ref m1, .ref m2, .int 0, .ref m3, .ref m4, .ref m5, .ref m6, .ref m7, .ref m8, .ref m9, .ref m10, .ref m11, .ref m12, .ref m13, .ref m14, .ref m15, .ref m16, .ref m17, .int 0, .ref m18, .ref m19, .ref m20, .ref m21, .ref m22, .ref m23, .ref m24]))]) (va_A [(h, .inr (4, [.int F, .int 0, .ref m0, .int 0, .int 0, .ref m1, .ref m2, .int 0, .ref m3, .ref m4, .ref m5, .ref m6, .ref m7, .ref m8, .ref m9, .ref m10, .ref m11, .ref m12, .ref m13, .ref m14, .ref m15, .ref m16, .ref m17, .int 0, .ref m18, .ref m19, .ref m20, .ref m21, .ref m22, .ref m23, .ref m24]))] sz)) 0 0 (va_A [(h, .inr (4, [.int F, .int 0, .ref m0, .int 0, .int 0, .ref m1, .ref m2, .int 0, .ref m3, .ref m4, .ref m5, .ref m6, .ref m7, .ref m8, .ref m9, .ref m10, .ref m11, .ref m12, .ref m13, .ref m14, .ref m15, .ref m16, .ref m17, .int 0, .ref m18, .ref m19, .ref m20, .ref m21, .ref m22, .ref m23, .ref m24]))] sz) := by
  refine Met.ofW (cc := xb_Mo_fault) (maxL := 1) (ret := (some .int)) (by decide) rfl ?_
  intro p e s m args below meth c s₁ B hml hv
  obtain ⟨rfl, hsz, hP, hK, hD0⟩ := hv
  have hx := B.exec
  have hb := B.bytes
  have hr := B.returns
  have hT := x_hT B.pre
  have hown : s.vm.findClass xR_Mo = some m.cls := findClass_of_methodNamed B.named
  have hlocks := B.notSynchronized
  subst hsz
  have hD := hD0.self (sz := s.heap.size)
  generalize hAe : va_A [(h, .inr (4, [.int F, .int 0, .ref m0, .int 0, .int 0, .ref m1, .ref m2, .int 0, .ref m3, .ref m4, .ref m5, .ref m6, .ref m7, .ref m8, .ref m9, .ref m10, .ref m11, .ref m12, .ref m13, .ref m14, .ref m15, .ref m16, .ref m17, .int 0, .ref m18, .ref m19, .ref m20, .ref m21, .ref m22, .ref m23, .ref m24]))] s.heap.size = A at hD ⊢
  have hA : ∀ q : Nat, s.heap.size ≤ q → A q := fun q h => by rw [← hAe]; exact Or.inr h
  have hS : va_S A s.heap s.heap [] := va_S.rf
  have hP : va_P D xcl [(h, .inr (4, [.int F, .int 0, .ref m0, .int 0, .int 0, .ref m1, .ref m2, .int 0, .ref m3, .ref m4, .ref m5, .ref m6, .ref m7, .ref m8, .ref m9, .ref m10, .ref m11, .ref m12, .ref m13, .ref m14, .ref m15, .ref m16, .ref m17, .int 0, .ref m18, .ref m19, .ref m20, .ref m21, .ref m22, .ref m23, .ref m24]))] s.heap := hP
  have hl := lv_entry ([.ref h]) (n := 1) (Nat.le_of_ble_eq_true rfl)
  rw [lg_entry_eq]
  generalize (lg_sl ([.ref h]) ++ List.replicate (1 - (lg_sl ([.ref h])).length) Slot.unset).toArray = ls at hl ⊢
  have hl : lv_has ls 1 [(0, .ref h)] := hl
  refine lv_aload_n hx hb xd_Mo_fault_0 rfl (lv_at hl 0 rfl) ?_
  refine lv_iconst (v := 0) hx hb xd_Mo_fault_1 (by decide) ?_
  refine va_put (D := D) (ci := 4) (v := .int 0) (ty := .int) (C := xR_Mo) (T := xT_Mo) (N := 31) hx hb hT xi_Mo xt_Mo xt_Mo_ok xn_Mo hown hK.1 hP hD hS 0 rfl rfl 0 (by decide) (hT _ xk_115) (fun _ h9 => h9) rfl (by decide +kernel) rfl rfl (Nat.le_of_ble_eq_true rfl) xd_Mo_fault_2 (fun H locs hP hD hS => ?_)
  have hP : va_P D xcl [(h, .inr (4, [.int 0, .int 0, .ref m0, .int 0, .int 0, .ref m1, .ref m2, .int 0, .ref m3, .ref m4, .ref m5, .ref m6, .ref m7, .ref m8, .ref m9, .ref m10, .ref m11, .ref m12, .ref m13, .ref m14, .ref m15, .ref m16, .ref m17, .int 0, .ref m18, .ref m19, .ref m20, .ref m21, .ref m22, .ref m23, .ref m24]))] H := hP
  have hD : va_D A [(h, .inr (4, [.int 0, .int 0, .ref m0, .int 0, .int 0, .ref m1, .ref m2, .int 0, .ref m3, .ref m4, .ref m5, .ref m6, .ref m7, .ref m8, .ref m9, .ref m10, .ref m11, .ref m12, .ref m13, .ref m14, .ref m15, .ref m16, .ref m17, .int 0, .ref m18, .ref m19, .ref m20, .ref m21, .ref m22, .ref m23, .ref m24]))] := hD
  refine lv_aload_n hx hb xd_Mo_fault_5 rfl (lv_at hl 0 rfl) ?_
  refine va_get (D := D) (ci := 4) (v := .int 0) (C := xR_Mo) (T := xT_Mo) (N := 31) hx hb hT xi_Mo hown hK.1 hP 0 rfl rfl 1 (by decide) (hT _ xk_124) (fun _ h9 => h9) rfl xd_Mo_fault_6 ?_
  have hP9 := hP.sub (ws' := [(h, .inr (4, [.int 0, .int 0, .ref m0, .int 0, .int 0, .ref m1, .ref m2, .int 0, .ref m3, .ref m4, .ref m5, .ref m6, .ref m7, .ref m8, .ref m9, .ref m10, .ref m11, .ref m12, .ref m13, .ref m14, .ref m15, .ref m16, .ref m17, .int 0, .ref m18, .ref m19, .ref m20, .ref m21, .ref m22, .ref m23, .ref m24]))]) [0] rfl
  have hD9 := hD.sub (ws' := [(h, .inr (4, [.int 0, .int 0, .ref m0, .int 0, .int 0, .ref m1, .ref m2, .int 0, .ref m3, .ref m4, .ref m5, .ref m6, .ref m7, .ref m8, .ref m9, .ref m10, .ref m11, .ref m12, .ref m13, .ref m14, .ref m15, .ref m16, .ref m17, .int 0, .ref m18, .ref m19, .ref m20, .ref m21, .ref m22, .ref m23, .ref m24]))]) [0] (by decide) rfl
  refine W.widen (k := 0) (n := 0) (Nat.le_of_ble_eq_true rfl) (Nat.le_of_ble_eq_true rfl) ?_
  exact W.iret (v := 0) hx hb hr (fun t ht hW => ⟨⟨0, (), rfl, rfl, by rw [ht]; exact hP9, hD9⟩, hS.F ht⟩) hS.2.2 xd_Mo_fault_9
set_option maxHeartbeats 4000000 in
set_option maxRecDepth 100000 in
theorem xc_Mo_close (l : Launch) (D : va_G) (kA : Nat → ClassId) (sz : Nat) (h : Nat) (m0 : Nat) (m1 : Nat) (m2 : Nat) (m3 : Nat) (m4 : Nat) (m5 : Nat) (m6 : Nat) (m7 : Nat) (m8 : Nat) (m9 : Nat) (m10 : Nat) (m11 : Nat) (m12 : Nat) (m13 : Nat) (m14 : Nat) (m15 : Nat) (m16 : Nat) (m17 : Nat) (m18 : Nat) (m19 : Nat) (m20 : Nat) (m21 : Nat) (m22 : Nat) (m23 : Nat) (m24 : Nat) (F : Int32) (n : Int32) : Met l xy_Mo_close (.code xy_Mo_close xb_Mo_close 3 (some .boolean) :: wT) { frames := 1, cells := 0, slots := 0, locals := 21 } (va_Pc [.ref h, .int n] (xPre D kA sz [(h, .inr (4, [.int F, .int 0, .ref m0, .int 0, .int 0, .ref m1, .ref m2, .int 0, .ref m3, .ref m4, .ref m5, .ref m6, .ref m7, .ref m8, .ref m9, .ref m10, .ref m11, .ref m12, .ref m13, .ref m14, .ref m15, .ref m16, .ref m17, .int 0, .ref m18, .ref m19, .ref m20, .ref m21, .ref m22, .ref m23, .ref m24]))])) (va_Qi (fun (r : Int32) (u : Unit) => r = 0) (fun (u : Unit) t => va_P D xcl [(h, .inr (4, [.int 0, .int 0, .ref m0, .int 0, .int 0, .ref m1, .ref m2, .int 0, .ref m3, .ref m4, .ref m5, .ref m6, .ref m7, .ref m8, .ref m9, .ref m10, .ref m11, .ref m12, .ref m13, .ref m14, .ref m15, .ref m16, .ref m17, .int 0, .ref m18, .ref m19, .ref m20, .ref m21, .ref m22, .ref m23, .ref m24]))] t.heap ∧ va_D (va_A [(h, .inr (4, [.int F, .int 0, .ref m0, .int 0, .int 0, .ref m1, .ref m2, .int 0, .ref m3, .ref m4, .ref m5, .ref m6, .ref m7, .ref m8, .ref m9, .ref m10, .ref m11, .ref m12, .ref m13, .ref m14, .ref m15, .ref m16, .ref m17, .int 0, .ref m18, .ref m19, .ref m20, .ref m21, .ref m22, .ref m23, .ref m24]))] sz) [(h, .inr (4, [.int 0, .int 0, .ref m0, .int 0, .int 0, .ref m1, .ref m2, .int 0, .ref m3, .ref m4, .ref m5, .ref m6, .ref m7, .ref m8, .ref m9, .ref m10, .ref m11, .ref m12, .ref m13, .ref m14, .ref m15, .ref m16, .ref m17, .int 0, .ref m18, .ref m19, .ref m20, .ref m21, .ref m22, .ref m23, .ref m24]))]) (va_A [(h, .inr (4, [.int F, .int 0, .ref m0, .int 0, .int 0, .ref m1, .ref m2, .int 0, .ref m3, .ref m4, .ref m5, .ref m6, .ref m7, .ref m8, .ref m9, .ref m10, .ref m11, .ref m12, .ref m13, .ref m14, .ref m15, .ref m16, .ref m17, .int 0, .ref m18, .ref m19, .ref m20, .ref m21, .ref m22, .ref m23, .ref m24]))] sz)) 0 0 (va_A [(h, .inr (4, [.int F, .int 0, .ref m0, .int 0, .int 0, .ref m1, .ref m2, .int 0, .ref m3, .ref m4, .ref m5, .ref m6, .ref m7, .ref m8, .ref m9, .ref m10, .ref m11, .ref m12, .ref m13, .ref m14, .ref m15, .ref m16, .ref m17, .int 0, .ref m18, .ref m19, .ref m20, .ref m21, .ref m22, .ref m23, .ref m24]))] sz) := by
  refine Met.ofW (cc := xb_Mo_close) (maxL := 3) (ret := (some .boolean)) (by decide) rfl ?_
  intro p e s m args below meth c s₁ B hml hv
  obtain ⟨rfl, hsz, hP, hK, hD0⟩ := hv
  have hx := B.exec
  have hb := B.bytes
  have hr := B.returns
  have hT := x_hT B.pre
  have hown : s.vm.findClass xR_Mo = some m.cls := findClass_of_methodNamed B.named
  have hlocks := B.notSynchronized
  subst hsz
  have hD := hD0.self (sz := s.heap.size)
  generalize hAe : va_A [(h, .inr (4, [.int F, .int 0, .ref m0, .int 0, .int 0, .ref m1, .ref m2, .int 0, .ref m3, .ref m4, .ref m5, .ref m6, .ref m7, .ref m8, .ref m9, .ref m10, .ref m11, .ref m12, .ref m13, .ref m14, .ref m15, .ref m16, .ref m17, .int 0, .ref m18, .ref m19, .ref m20, .ref m21, .ref m22, .ref m23, .ref m24]))] s.heap.size = A at hD ⊢
  have hA : ∀ q : Nat, s.heap.size ≤ q → A q := fun q h => by rw [← hAe]; exact Or.inr h
  have hS : va_S A s.heap s.heap [] := va_S.rf
  have hP : va_P D xcl [(h, .inr (4, [.int F, .int 0, .ref m0, .int 0, .int 0, .ref m1, .ref m2, .int 0, .ref m3, .ref m4, .ref m5, .ref m6, .ref m7, .ref m8, .ref m9, .ref m10, .ref m11, .ref m12, .ref m13, .ref m14, .ref m15, .ref m16, .ref m17, .int 0, .ref m18, .ref m19, .ref m20, .ref m21, .ref m22, .ref m23, .ref m24]))] s.heap := hP
  have hl := lv_entry ([.ref h, .int n]) (n := 3) (Nat.le_of_ble_eq_true rfl)
  rw [lg_entry_eq]
  generalize (lg_sl ([.ref h, .int n]) ++ List.replicate (3 - (lg_sl ([.ref h, .int n])).length) Slot.unset).toArray = ls at hl ⊢
  have hl : lv_has ls 3 [(0, .ref h), (1, .int n)] := hl
  refine lv_aload_n hx hb xd_Mo_close_0 rfl (lv_at hl 0 rfl) ?_
  refine lv_iconst (v := 0) hx hb xd_Mo_close_1 (by decide) ?_
  refine va_put (D := D) (ci := 4) (v := .int 0) (ty := .int) (C := xR_Mo) (T := xT_Mo) (N := 31) hx hb hT xi_Mo xt_Mo xt_Mo_ok xn_Mo hown hK.1 hP hD hS 0 rfl rfl 0 (by decide) (hT _ xk_115) (fun _ h9 => h9) rfl (by decide +kernel) rfl rfl (Nat.le_of_ble_eq_true rfl) xd_Mo_close_2 (fun H locs hP hD hS => ?_)
  have hP : va_P D xcl [(h, .inr (4, [.int 0, .int 0, .ref m0, .int 0, .int 0, .ref m1, .ref m2, .int 0, .ref m3, .ref m4, .ref m5, .ref m6, .ref m7, .ref m8, .ref m9, .ref m10, .ref m11, .ref m12, .ref m13, .ref m14, .ref m15, .ref m16, .ref m17, .int 0, .ref m18, .ref m19, .ref m20, .ref m21, .ref m22, .ref m23, .ref m24]))] H := hP
  have hD : va_D A [(h, .inr (4, [.int 0, .int 0, .ref m0, .int 0, .int 0, .ref m1, .ref m2, .int 0, .ref m3, .ref m4, .ref m5, .ref m6, .ref m7, .ref m8, .ref m9, .ref m10, .ref m11, .ref m12, .ref m13, .ref m14, .ref m15, .ref m16, .ref m17, .int 0, .ref m18, .ref m19, .ref m20, .ref m21, .ref m22, .ref m23, .ref m24]))] := hD
  refine lv_aload_n hx hb xd_Mo_close_5 rfl (lv_at hl 0 rfl) ?_
  refine lv_iload_n hx hb xd_Mo_close_6 rfl (lv_at hl 1 rfl) ?_
  have hPc := hP.sub (ws' := [(h, .inr (4, [.int 0, .int 0, .ref m0, .int 0, .int 0, .ref m1, .ref m2, .int 0, .ref m3, .ref m4, .ref m5, .ref m6, .ref m7, .ref m8, .ref m9, .ref m10, .ref m11, .ref m12, .ref m13, .ref m14, .ref m15, .ref m16, .ref m17, .int 0, .ref m18, .ref m19, .ref m20, .ref m21, .ref m22, .ref m23, .ref m24]))]) [0] rfl
  have hDc := hD.sub (ws' := [(h, .inr (4, [.int 0, .int 0, .ref m0, .int 0, .int 0, .ref m1, .ref m2, .int 0, .ref m3, .ref m4, .ref m5, .ref m6, .ref m7, .ref m8, .ref m9, .ref m10, .ref m11, .ref m12, .ref m13, .ref m14, .ref m15, .ref m16, .ref m17, .int 0, .ref m18, .ref m19, .ref m20, .ref m21, .ref m22, .ref m23, .ref m24]))]) [0] (by decide) rfl
  have hFc := va_free (wc := [(h, .inr (4, [.int 0, .int 0, .ref m0, .int 0, .int 0, .ref m1, .ref m2, .int 0, .ref m3, .ref m4, .ref m5, .ref m6, .ref m7, .ref m8, .ref m9, .ref m10, .ref m11, .ref m12, .ref m13, .ref m14, .ref m15, .ref m16, .ref m17, .int 0, .ref m18, .ref m19, .ref m20, .ref m21, .ref m22, .ref m23, .ref m24]))]) hD hS hA [0] rfl
  have hkc : 0 + 0 ≤ 0 := Nat.le_of_ble_eq_true rfl
  have hks : 0 + 0 ≤ 0 := Nat.le_of_ble_eq_true rfl
  refine va_calli (va_runV (As := [.int n]) (rest := []) ⟨hx, hb, hml, hown, hT⟩ (xc_Mo_isOpen l D kA H.size h m0 m1 m2 m3 m4 m5 m6 m7 m8 m9 m10 m11 m12 m13 m14 m15 m16 m17 m18 m19 m20 m21 m22 m23 m24 0 n) (cwV 1 hT (wT_V xk_130 xk_131 xk_132 xk_122 xk_129) rfl rfl rfl (by decide +kernel) ⟨Nat.le_of_ble_eq_true rfl, Nat.le_of_ble_eq_true rfl⟩) (x_preV hK hPc hDc 0 rfl rfl) rfl rfl hl.1 rfl (lv_room (Nat.le_of_ble_eq_true rfl)) xd_Mo_close_7 ⟨hkc, hks⟩) hS (fun q _ h => hFc q h) hFc (fun r u t H1 locs ht hvm hpost hB hz1 hk1 hS => ?_)
  have hpost : r = 0 := hpost
  subst hpost
  obtain ⟨hP1, hD1⟩ := hB
  rw [ht] at hP1
  obtain ⟨hP, hD⟩ := va_join (wr := []) (w1 := [(h, .inr (4, [.int 0, .int 0, .ref m0, .int 0, .int 0, .ref m1, .ref m2, .int 0, .ref m3, .ref m4, .ref m5, .ref m6, .ref m7, .ref m8, .ref m9, .ref m10, .ref m11, .ref m12, .ref m13, .ref m14, .ref m15, .ref m16, .ref m17, .int 0, .ref m18, .ref m19, .ref m20, .ref m21, .ref m22, .ref m23, .ref m24]))]) hP hD [0] [] rfl rfl (by decide) (by decide) hk1 hFc hP1 hD1
  generalize H1 = H at hP hS ⊢
  have hP : va_P D xcl [(h, .inr (4, [.int 0, .int 0, .ref m0, .int 0, .int 0, .ref m1, .ref m2, .int 0, .ref m3, .ref m4, .ref m5, .ref m6, .ref m7, .ref m8, .ref m9, .ref m10, .ref m11, .ref m12, .ref m13, .ref m14, .ref m15, .ref m16, .ref m17, .int 0, .ref m18, .ref m19, .ref m20, .ref m21, .ref m22, .ref m23, .ref m24]))] H := hP
  have hD : va_D A [(h, .inr (4, [.int 0, .int 0, .ref m0, .int 0, .int 0, .ref m1, .ref m2, .int 0, .ref m3, .ref m4, .ref m5, .ref m6, .ref m7, .ref m8, .ref m9, .ref m10, .ref m11, .ref m12, .ref m13, .ref m14, .ref m15, .ref m16, .ref m17, .int 0, .ref m18, .ref m19, .ref m20, .ref m21, .ref m22, .ref m23, .ref m24]))] := hD
  refine lv_if_ne (tgt := 15) hx hb xd_Mo_close_10 (by decide) (fun hc => absurd (by decide) hc) (fun _ => ?_)
  refine lv_iconst (v := 0) hx hb xd_Mo_close_13 (by decide) ?_
  have hP9 := hP.sub (ws' := [(h, .inr (4, [.int 0, .int 0, .ref m0, .int 0, .int 0, .ref m1, .ref m2, .int 0, .ref m3, .ref m4, .ref m5, .ref m6, .ref m7, .ref m8, .ref m9, .ref m10, .ref m11, .ref m12, .ref m13, .ref m14, .ref m15, .ref m16, .ref m17, .int 0, .ref m18, .ref m19, .ref m20, .ref m21, .ref m22, .ref m23, .ref m24]))]) [0] rfl
  have hD9 := hD.sub (ws' := [(h, .inr (4, [.int 0, .int 0, .ref m0, .int 0, .int 0, .ref m1, .ref m2, .int 0, .ref m3, .ref m4, .ref m5, .ref m6, .ref m7, .ref m8, .ref m9, .ref m10, .ref m11, .ref m12, .ref m13, .ref m14, .ref m15, .ref m16, .ref m17, .int 0, .ref m18, .ref m19, .ref m20, .ref m21, .ref m22, .ref m23, .ref m24]))]) [0] (by decide) rfl
  refine W.widen (k := 0) (n := 0) (Nat.le_of_ble_eq_true rfl) (Nat.le_of_ble_eq_true rfl) ?_
  exact W.zret (v := 0) hx hb hr rfl (fun t ht hW => ⟨⟨0, (), rfl, rfl, by rw [ht]; exact hP9, hD9⟩, hS.F ht⟩) hS.2.2 xd_Mo_close_14
set_option maxHeartbeats 4000000 in
set_option maxRecDepth 100000 in
theorem xc_Mo_count (l : Launch) (D : va_G) (kA : Nat → ClassId) (sz : Nat) (h : Nat) (m0 : Nat) (m1 : Nat) (m2 : Nat) (m3 : Nat) (m4 : Nat) (m5 : Nat) (m6 : Nat) (m7 : Nat) (m8 : Nat) (m9 : Nat) (m10 : Nat) (m11 : Nat) (m12 : Nat) (m13 : Nat) (m14 : Nat) (m15 : Nat) (m16 : Nat) (m17 : Nat) (m18 : Nat) (m19 : Nat) (m20 : Nat) (m21 : Nat) (m22 : Nat) (m23 : Nat) (m24 : Nat) (F : Int32) (n : Int32) : Met l xy_Mo_count (.code xy_Mo_count xb_Mo_count 4 (some .int) :: wT) { frames := 0, cells := 0, slots := 0, locals := 0 } (va_Pc [.ref h, .int n] (xPre D kA sz [(h, .inr (4, [.int F, .int 0, .ref m0, .int 0, .int 0, .ref m1, .ref m2, .int 0, .ref m3, .ref m4, .ref m5, .ref m6, .ref m7, .ref m8, .ref m9, .ref m10, .ref m11, .ref m12, .ref m13, .ref m14, .ref m15, .ref m16, .ref m17, .int 0, .ref m18, .ref m19, .ref m20, .ref m21, .ref m22, .ref m23, .ref m24]))])) (va_Qi (fun (r : Int32) (u : Unit) => r = (if n = 0 then 0 else if n = 1 then 0 else if n = 2 then 0 else -1)) (fun (u : Unit) t => va_P D xcl [(h, .inr (4, [.int 0, .int 0, .ref m0, .int 0, .int 0, .ref m1, .ref m2, .int 0, .ref m3, .ref m4, .ref m5, .ref m6, .ref m7, .ref m8, .ref m9, .ref m10, .ref m11, .ref m12, .ref m13, .ref m14, .ref m15, .ref m16, .ref m17, .int 0, .ref m18, .ref m19, .ref m20, .ref m21, .ref m22, .ref m23, .ref m24]))] t.heap ∧ va_D (va_A [(h, .inr (4, [.int F, .int 0, .ref m0, .int 0, .int 0, .ref m1, .ref m2, .int 0, .ref m3, .ref m4, .ref m5, .ref m6, .ref m7, .ref m8, .ref m9, .ref m10, .ref m11, .ref m12, .ref m13, .ref m14, .ref m15, .ref m16, .ref m17, .int 0, .ref m18, .ref m19, .ref m20, .ref m21, .ref m22, .ref m23, .ref m24]))] sz) [(h, .inr (4, [.int 0, .int 0, .ref m0, .int 0, .int 0, .ref m1, .ref m2, .int 0, .ref m3, .ref m4, .ref m5, .ref m6, .ref m7, .ref m8, .ref m9, .ref m10, .ref m11, .ref m12, .ref m13, .ref m14, .ref m15, .ref m16, .ref m17, .int 0, .ref m18, .ref m19, .ref m20, .ref m21, .ref m22, .ref m23, .ref m24]))]) (va_A [(h, .inr (4, [.int F, .int 0, .ref m0, .int 0, .int 0, .ref m1, .ref m2, .int 0, .ref m3, .ref m4, .ref m5, .ref m6, .ref m7, .ref m8, .ref m9, .ref m10, .ref m11, .ref m12, .ref m13, .ref m14, .ref m15, .ref m16, .ref m17, .int 0, .ref m18, .ref m19, .ref m20, .ref m21, .ref m22, .ref m23, .ref m24]))] sz)) 0 0 (va_A [(h, .inr (4, [.int F, .int 0, .ref m0, .int 0, .int 0, .ref m1, .ref m2, .int 0, .ref m3, .ref m4, .ref m5, .ref m6, .ref m7, .ref m8, .ref m9, .ref m10, .ref m11, .ref m12, .ref m13, .ref m14, .ref m15, .ref m16, .ref m17, .int 0, .ref m18, .ref m19, .ref m20, .ref m21, .ref m22, .ref m23, .ref m24]))] sz) := by
  refine Met.ofW (cc := xb_Mo_count) (maxL := 4) (ret := (some .int)) (by decide) rfl ?_
  intro p e s m args below meth c s₁ B hml hv
  obtain ⟨rfl, hsz, hP, hK, hD0⟩ := hv
  have hx := B.exec
  have hb := B.bytes
  have hr := B.returns
  have hT := x_hT B.pre
  have hown : s.vm.findClass xR_Mo = some m.cls := findClass_of_methodNamed B.named
  have hlocks := B.notSynchronized
  subst hsz
  have hD := hD0.self (sz := s.heap.size)
  generalize hAe : va_A [(h, .inr (4, [.int F, .int 0, .ref m0, .int 0, .int 0, .ref m1, .ref m2, .int 0, .ref m3, .ref m4, .ref m5, .ref m6, .ref m7, .ref m8, .ref m9, .ref m10, .ref m11, .ref m12, .ref m13, .ref m14, .ref m15, .ref m16, .ref m17, .int 0, .ref m18, .ref m19, .ref m20, .ref m21, .ref m22, .ref m23, .ref m24]))] s.heap.size = A at hD ⊢
  have hA : ∀ q : Nat, s.heap.size ≤ q → A q := fun q h => by rw [← hAe]; exact Or.inr h
  have hS : va_S A s.heap s.heap [] := va_S.rf
  have hP : va_P D xcl [(h, .inr (4, [.int F, .int 0, .ref m0, .int 0, .int 0, .ref m1, .ref m2, .int 0, .ref m3, .ref m4, .ref m5, .ref m6, .ref m7, .ref m8, .ref m9, .ref m10, .ref m11, .ref m12, .ref m13, .ref m14, .ref m15, .ref m16, .ref m17, .int 0, .ref m18, .ref m19, .ref m20, .ref m21, .ref m22, .ref m23, .ref m24]))] s.heap := hP
  have hl := lv_entry ([.ref h, .int n]) (n := 4) (Nat.le_of_ble_eq_true rfl)
  rw [lg_entry_eq]
  generalize (lg_sl ([.ref h, .int n]) ++ List.replicate (4 - (lg_sl ([.ref h, .int n])).length) Slot.unset).toArray = ls at hl ⊢
  have hl : lv_has ls 4 [(0, .ref h), (1, .int n)] := hl
  refine lv_aload_n hx hb xd_Mo_count_0 rfl (lv_at hl 0 rfl) ?_
  refine lv_iconst (v := 0) hx hb xd_Mo_count_1 (by decide) ?_
  refine va_put (D := D) (ci := 4) (v := .int 0) (ty := .int) (C := xR_Mo) (T := xT_Mo) (N := 31) hx hb hT xi_Mo xt_Mo xt_Mo_ok xn_Mo hown hK.1 hP hD hS 0 rfl rfl 0 (by decide) (hT _ xk_115) (fun _ h9 => h9) rfl (by decide +kernel) rfl rfl (Nat.le_of_ble_eq_true rfl) xd_Mo_count_2 (fun H locs hP hD hS => ?_)
  have hP : va_P D xcl [(h, .inr (4, [.int 0, .int 0, .ref m0, .int 0, .int 0, .ref m1, .ref m2, .int 0, .ref m3, .ref m4, .ref m5, .ref m6, .ref m7, .ref m8, .ref m9, .ref m10, .ref m11, .ref m12, .ref m13, .ref m14, .ref m15, .ref m16, .ref m17, .int 0, .ref m18, .ref m19, .ref m20, .ref m21, .ref m22, .ref m23, .ref m24]))] H := hP
  have hD : va_D A [(h, .inr (4, [.int 0, .int 0, .ref m0, .int 0, .int 0, .ref m1, .ref m2, .int 0, .ref m3, .ref m4, .ref m5, .ref m6, .ref m7, .ref m8, .ref m9, .ref m10, .ref m11, .ref m12, .ref m13, .ref m14, .ref m15, .ref m16, .ref m17, .int 0, .ref m18, .ref m19, .ref m20, .ref m21, .ref m22, .ref m23, .ref m24]))] := hD
  refine lv_iconst (v := 0) hx hb xd_Mo_count_5 (by decide) ?_
  refine lv_istore_n hx hb xd_Mo_count_6 rfl hl (Nat.le_of_ble_eq_true rfl) rfl (fun ls hl => ?_)
  have hl : lv_has ls 4 [(2, .int 0), (0, .ref h), (1, .int n)] := hl
  refine lv_iconst (v := 0) hx hb xd_Mo_count_7 (by decide) ?_
  refine lv_istore_n hx hb xd_Mo_count_8 rfl hl (Nat.le_of_ble_eq_true rfl) rfl (fun ls hl => ?_)
  have hl : lv_has ls 4 [(3, .int 0), (2, .int 0), (0, .ref h), (1, .int n)] := hl
  refine lv_iload_n hx hb xd_Mo_count_9 rfl (lv_at hl 0 rfl) ?_
  refine lv_aload_n hx hb xd_Mo_count_10 rfl (lv_at hl 2 rfl) ?_
  refine va_get (D := D) (ci := 4) (v := .int 0) (C := xR_Mo) (T := xT_Mo) (N := 31) hx hb hT xi_Mo hown hK.1 hP 0 rfl rfl 23 (by decide) (hT _ xk_123) (fun _ h9 => h9) rfl xd_Mo_count_11 ?_
  refine lv_icmp_ge (tgt := 40) hx hb xd_Mo_count_14 (by decide) (fun _ => ?_) (fun hc => absurd (by decide) hc)
  refine lv_iload_n hx hb xd_Mo_count_40 rfl (lv_at hl 3 rfl) ?_
  refine lv_if_ne (tgt := 51) hx hb xd_Mo_count_41 (by decide) (fun hc1 => ?_) (fun hc1 => ?_)
  · refine lv_iload_n hx hb xd_Mo_count_51 rfl (lv_at hl 3 rfl) ?_
    refine lv_iconst (v := 1) hx hb xd_Mo_count_52 (by decide) ?_
    refine lv_icmp_ne (tgt := 63) hx hb xd_Mo_count_53 (by decide) (fun hc2 => ?_) (fun hc2 => ?_)
    · refine lv_iload_n hx hb xd_Mo_count_63 rfl (lv_at hl 3 rfl) ?_
      refine lv_iconst (v := 2) hx hb xd_Mo_count_64 (by decide) ?_
      refine lv_icmp_ne (tgt := 72) hx hb xd_Mo_count_65 (by decide) (fun hc3 => ?_) (fun hc3 => ?_)
      · refine lv_iconst (v := (-1)) hx hb xd_Mo_count_72 (by decide) ?_
        have hP9 := hP.sub (ws' := [(h, .inr (4, [.int 0, .int 0, .ref m0, .int 0, .int 0, .ref m1, .ref m2, .int 0, .ref m3, .ref m4, .ref m5, .ref m6, .ref m7, .ref m8, .ref m9, .ref m10, .ref m11, .ref m12, .ref m13, .ref m14, .ref m15, .ref m16, .ref m17, .int 0, .ref m18, .ref m19, .ref m20, .ref m21, .ref m22, .ref m23, .ref m24]))]) [0] rfl
        have hD9 := hD.sub (ws' := [(h, .inr (4, [.int 0, .int 0, .ref m0, .int 0, .int 0, .ref m1, .ref m2, .int 0, .ref m3, .ref m4, .ref m5, .ref m6, .ref m7, .ref m8, .ref m9, .ref m10, .ref m11, .ref m12, .ref m13, .ref m14, .ref m15, .ref m16, .ref m17, .int 0, .ref m18, .ref m19, .ref m20, .ref m21, .ref m22, .ref m23, .ref m24]))]) [0] (by decide) rfl
        refine W.widen (k := 0) (n := 0) (Nat.le_of_ble_eq_true rfl) (Nat.le_of_ble_eq_true rfl) ?_
        exact W.iret (v := (-1)) hx hb hr (fun t ht hW => ⟨⟨(-1), (), rfl, by simp [hc1, hc2, hc3], by rw [ht]; exact hP9, hD9⟩, hS.F ht⟩) hS.2.2 xd_Mo_count_73
      · refine lv_iload_n hx hb xd_Mo_count_68 rfl (lv_at hl 1 rfl) ?_
        refine lv_goto (tgt := 73) hx hb xd_Mo_count_69 (by decide) ?_
        have hP9 := hP.sub (ws' := [(h, .inr (4, [.int 0, .int 0, .ref m0, .int 0, .int 0, .ref m1, .ref m2, .int 0, .ref m3, .ref m4, .ref m5, .ref m6, .ref m7, .ref m8, .ref m9, .ref m10, .ref m11, .ref m12, .ref m13, .ref m14, .ref m15, .ref m16, .ref m17, .int 0, .ref m18, .ref m19, .ref m20, .ref m21, .ref m22, .ref m23, .ref m24]))]) [0] rfl
        have hD9 := hD.sub (ws' := [(h, .inr (4, [.int 0, .int 0, .ref m0, .int 0, .int 0, .ref m1, .ref m2, .int 0, .ref m3, .ref m4, .ref m5, .ref m6, .ref m7, .ref m8, .ref m9, .ref m10, .ref m11, .ref m12, .ref m13, .ref m14, .ref m15, .ref m16, .ref m17, .int 0, .ref m18, .ref m19, .ref m20, .ref m21, .ref m22, .ref m23, .ref m24]))]) [0] (by decide) rfl
        refine W.widen (k := 0) (n := 0) (Nat.le_of_ble_eq_true rfl) (Nat.le_of_ble_eq_true rfl) ?_
        exact W.iret (v := 0) hx hb hr (fun t ht hW => ⟨⟨0, (), rfl, by simp [hc1, hc2, hc3], by rw [ht]; exact hP9, hD9⟩, hS.F ht⟩) hS.2.2 xd_Mo_count_73
    · refine lv_aload_n hx hb xd_Mo_count_56 rfl (lv_at hl 2 rfl) ?_
      refine va_get (D := D) (ci := 4) (v := .int 0) (C := xR_Mo) (T := xT_Mo) (N := 31) hx hb hT xi_Mo hown hK.1 hP 0 rfl rfl 23 (by decide) (hT _ xk_123) (fun _ h9 => h9) rfl xd_Mo_count_57 ?_
      refine lv_goto (tgt := 73) hx hb xd_Mo_count_60 (by decide) ?_
      have hP9 := hP.sub (ws' := [(h, .inr (4, [.int 0, .int 0, .ref m0, .int 0, .int 0, .ref m1, .ref m2, .int 0, .ref m3, .ref m4, .ref m5, .ref m6, .ref m7, .ref m8, .ref m9, .ref m10, .ref m11, .ref m12, .ref m13, .ref m14, .ref m15, .ref m16, .ref m17, .int 0, .ref m18, .ref m19, .ref m20, .ref m21, .ref m22, .ref m23, .ref m24]))]) [0] rfl
      have hD9 := hD.sub (ws' := [(h, .inr (4, [.int 0, .int 0, .ref m0, .int 0, .int 0, .ref m1, .ref m2, .int 0, .ref m3, .ref m4, .ref m5, .ref m6, .ref m7, .ref m8, .ref m9, .ref m10, .ref m11, .ref m12, .ref m13, .ref m14, .ref m15, .ref m16, .ref m17, .int 0, .ref m18, .ref m19, .ref m20, .ref m21, .ref m22, .ref m23, .ref m24]))]) [0] (by decide) rfl
      refine W.widen (k := 0) (n := 0) (Nat.le_of_ble_eq_true rfl) (Nat.le_of_ble_eq_true rfl) ?_
      exact W.iret (v := 0) hx hb hr (fun t ht hW => ⟨⟨0, (), rfl, by simp [hc1, hc2], by rw [ht]; exact hP9, hD9⟩, hS.F ht⟩) hS.2.2 xd_Mo_count_73
  · refine lv_aload_n hx hb xd_Mo_count_44 rfl (lv_at hl 2 rfl) ?_
    refine va_get (D := D) (ci := 4) (v := .int 0) (C := xR_Mo) (T := xT_Mo) (N := 31) hx hb hT xi_Mo hown hK.1 hP 0 rfl rfl 7 (by decide) (hT _ xk_133) (fun _ h9 => h9) rfl xd_Mo_count_45 ?_
    refine lv_goto (tgt := 73) hx hb xd_Mo_count_48 (by decide) ?_
    have hP9 := hP.sub (ws' := [(h, .inr (4, [.int 0, .int 0, .ref m0, .int 0, .int 0, .ref m1, .ref m2, .int 0, .ref m3, .ref m4, .ref m5, .ref m6, .ref m7, .ref m8, .ref m9, .ref m10, .ref m11, .ref m12, .ref m13, .ref m14, .ref m15, .ref m16, .ref m17, .int 0, .ref m18, .ref m19, .ref m20, .ref m21, .ref m22, .ref m23, .ref m24]))]) [0] rfl
    have hD9 := hD.sub (ws' := [(h, .inr (4, [.int 0, .int 0, .ref m0, .int 0, .int 0, .ref m1, .ref m2, .int 0, .ref m3, .ref m4, .ref m5, .ref m6, .ref m7, .ref m8, .ref m9, .ref m10, .ref m11, .ref m12, .ref m13, .ref m14, .ref m15, .ref m16, .ref m17, .int 0, .ref m18, .ref m19, .ref m20, .ref m21, .ref m22, .ref m23, .ref m24]))]) [0] (by decide) rfl
    refine W.widen (k := 0) (n := 0) (Nat.le_of_ble_eq_true rfl) (Nat.le_of_ble_eq_true rfl) ?_
    exact W.iret (v := 0) hx hb hr (fun t ht hW => ⟨⟨0, (), rfl, by simp [hc1], by rw [ht]; exact hP9, hD9⟩, hS.F ht⟩) hS.2.2 xd_Mo_count_73
set_option maxHeartbeats 4000000 in
set_option maxRecDepth 100000 in
theorem xc_Mo_modules (l : Launch) (D : va_G) (kA : Nat → ClassId) (sz : Nat) (h : Nat) (m0 : Nat) (m1 : Nat) (m2 : Nat) (m3 : Nat) (m4 : Nat) (m5 : Nat) (m6 : Nat) (m7 : Nat) (m8 : Nat) (m9 : Nat) (m10 : Nat) (m11 : Nat) (m12 : Nat) (m13 : Nat) (m14 : Nat) (m15 : Nat) (m16 : Nat) (m17 : Nat) (m18 : Nat) (m19 : Nat) (m20 : Nat) (m21 : Nat) (m22 : Nat) (m23 : Nat) (m24 : Nat) (F : Int32) (n : Int32) : Met l xy_Mo_modules (.code xy_Mo_modules xb_Mo_modules 2 (some .int) :: wT) { frames := 1, cells := 0, slots := 0, locals := 21 } (va_Pc [.ref h, .int n] (xPre D kA sz [(h, .inr (4, [.int F, .int 0, .ref m0, .int 0, .int 0, .ref m1, .ref m2, .int 0, .ref m3, .ref m4, .ref m5, .ref m6, .ref m7, .ref m8, .ref m9, .ref m10, .ref m11, .ref m12, .ref m13, .ref m14, .ref m15, .ref m16, .ref m17, .int 0, .ref m18, .ref m19, .ref m20, .ref m21, .ref m22, .ref m23, .ref m24]))])) (va_Qi (fun (r : Int32) (u : Unit) => r = (-1)) (fun (u : Unit) t => va_P D xcl [(h, .inr (4, [.int 0, .int 0, .ref m0, .int 0, .int 0, .ref m1, .ref m2, .int 0, .ref m3, .ref m4, .ref m5, .ref m6, .ref m7, .ref m8, .ref m9, .ref m10, .ref m11, .ref m12, .ref m13, .ref m14, .ref m15, .ref m16, .ref m17, .int 0, .ref m18, .ref m19, .ref m20, .ref m21, .ref m22, .ref m23, .ref m24]))] t.heap ∧ va_D (va_A [(h, .inr (4, [.int F, .int 0, .ref m0, .int 0, .int 0, .ref m1, .ref m2, .int 0, .ref m3, .ref m4, .ref m5, .ref m6, .ref m7, .ref m8, .ref m9, .ref m10, .ref m11, .ref m12, .ref m13, .ref m14, .ref m15, .ref m16, .ref m17, .int 0, .ref m18, .ref m19, .ref m20, .ref m21, .ref m22, .ref m23, .ref m24]))] sz) [(h, .inr (4, [.int 0, .int 0, .ref m0, .int 0, .int 0, .ref m1, .ref m2, .int 0, .ref m3, .ref m4, .ref m5, .ref m6, .ref m7, .ref m8, .ref m9, .ref m10, .ref m11, .ref m12, .ref m13, .ref m14, .ref m15, .ref m16, .ref m17, .int 0, .ref m18, .ref m19, .ref m20, .ref m21, .ref m22, .ref m23, .ref m24]))]) (va_A [(h, .inr (4, [.int F, .int 0, .ref m0, .int 0, .int 0, .ref m1, .ref m2, .int 0, .ref m3, .ref m4, .ref m5, .ref m6, .ref m7, .ref m8, .ref m9, .ref m10, .ref m11, .ref m12, .ref m13, .ref m14, .ref m15, .ref m16, .ref m17, .int 0, .ref m18, .ref m19, .ref m20, .ref m21, .ref m22, .ref m23, .ref m24]))] sz)) 0 0 (va_A [(h, .inr (4, [.int F, .int 0, .ref m0, .int 0, .int 0, .ref m1, .ref m2, .int 0, .ref m3, .ref m4, .ref m5, .ref m6, .ref m7, .ref m8, .ref m9, .ref m10, .ref m11, .ref m12, .ref m13, .ref m14, .ref m15, .ref m16, .ref m17, .int 0, .ref m18, .ref m19, .ref m20, .ref m21, .ref m22, .ref m23, .ref m24]))] sz) := by
  refine Met.ofW (cc := xb_Mo_modules) (maxL := 2) (ret := (some .int)) (by decide) rfl ?_
  intro p e s m args below meth c s₁ B hml hv
  obtain ⟨rfl, hsz, hP, hK, hD0⟩ := hv
  have hx := B.exec
  have hb := B.bytes
  have hr := B.returns
  have hT := x_hT B.pre
  have hown : s.vm.findClass xR_Mo = some m.cls := findClass_of_methodNamed B.named
  have hlocks := B.notSynchronized
  subst hsz
  have hD := hD0.self (sz := s.heap.size)
  generalize hAe : va_A [(h, .inr (4, [.int F, .int 0, .ref m0, .int 0, .int 0, .ref m1, .ref m2, .int 0, .ref m3, .ref m4, .ref m5, .ref m6, .ref m7, .ref m8, .ref m9, .ref m10, .ref m11, .ref m12, .ref m13, .ref m14, .ref m15, .ref m16, .ref m17, .int 0, .ref m18, .ref m19, .ref m20, .ref m21, .ref m22, .ref m23, .ref m24]))] s.heap.size = A at hD ⊢
  have hA : ∀ q : Nat, s.heap.size ≤ q → A q := fun q h => by rw [← hAe]; exact Or.inr h
  have hS : va_S A s.heap s.heap [] := va_S.rf
  have hP : va_P D xcl [(h, .inr (4, [.int F, .int 0, .ref m0, .int 0, .int 0, .ref m1, .ref m2, .int 0, .ref m3, .ref m4, .ref m5, .ref m6, .ref m7, .ref m8, .ref m9, .ref m10, .ref m11, .ref m12, .ref m13, .ref m14, .ref m15, .ref m16, .ref m17, .int 0, .ref m18, .ref m19, .ref m20, .ref m21, .ref m22, .ref m23, .ref m24]))] s.heap := hP
  have hl := lv_entry ([.ref h, .int n]) (n := 2) (Nat.le_of_ble_eq_true rfl)
  rw [lg_entry_eq]
  generalize (lg_sl ([.ref h, .int n]) ++ List.replicate (2 - (lg_sl ([.ref h, .int n])).length) Slot.unset).toArray = ls at hl ⊢
  have hl : lv_has ls 2 [(0, .ref h), (1, .int n)] := hl
  refine lv_aload_n hx hb xd_Mo_modules_0 rfl (lv_at hl 0 rfl) ?_
  refine lv_iconst (v := 0) hx hb xd_Mo_modules_1 (by decide) ?_
  refine va_put (D := D) (ci := 4) (v := .int 0) (ty := .int) (C := xR_Mo) (T := xT_Mo) (N := 31) hx hb hT xi_Mo xt_Mo xt_Mo_ok xn_Mo hown hK.1 hP hD hS 0 rfl rfl 0 (by decide) (hT _ xk_115) (fun _ h9 => h9) rfl (by decide +kernel) rfl rfl (Nat.le_of_ble_eq_true rfl) xd_Mo_modules_2 (fun H locs hP hD hS => ?_)
  have hP : va_P D xcl [(h, .inr (4, [.int 0, .int 0, .ref m0, .int 0, .int 0, .ref m1, .ref m2, .int 0, .ref m3, .ref m4, .ref m5, .ref m6, .ref m7, .ref m8, .ref m9, .ref m10, .ref m11, .ref m12, .ref m13, .ref m14, .ref m15, .ref m16, .ref m17, .int 0, .ref m18, .ref m19, .ref m20, .ref m21, .ref m22, .ref m23, .ref m24]))] H := hP
  have hD : va_D A [(h, .inr (4, [.int 0, .int 0, .ref m0, .int 0, .int 0, .ref m1, .ref m2, .int 0, .ref m3, .ref m4, .ref m5, .ref m6, .ref m7, .ref m8, .ref m9, .ref m10, .ref m11, .ref m12, .ref m13, .ref m14, .ref m15, .ref m16, .ref m17, .int 0, .ref m18, .ref m19, .ref m20, .ref m21, .ref m22, .ref m23, .ref m24]))] := hD
  refine lv_aload_n hx hb xd_Mo_modules_5 rfl (lv_at hl 0 rfl) ?_
  refine lv_iload_n hx hb xd_Mo_modules_6 rfl (lv_at hl 1 rfl) ?_
  have hPc := hP.sub (ws' := [(h, .inr (4, [.int 0, .int 0, .ref m0, .int 0, .int 0, .ref m1, .ref m2, .int 0, .ref m3, .ref m4, .ref m5, .ref m6, .ref m7, .ref m8, .ref m9, .ref m10, .ref m11, .ref m12, .ref m13, .ref m14, .ref m15, .ref m16, .ref m17, .int 0, .ref m18, .ref m19, .ref m20, .ref m21, .ref m22, .ref m23, .ref m24]))]) [0] rfl
  have hDc := hD.sub (ws' := [(h, .inr (4, [.int 0, .int 0, .ref m0, .int 0, .int 0, .ref m1, .ref m2, .int 0, .ref m3, .ref m4, .ref m5, .ref m6, .ref m7, .ref m8, .ref m9, .ref m10, .ref m11, .ref m12, .ref m13, .ref m14, .ref m15, .ref m16, .ref m17, .int 0, .ref m18, .ref m19, .ref m20, .ref m21, .ref m22, .ref m23, .ref m24]))]) [0] (by decide) rfl
  have hFc := va_free (wc := [(h, .inr (4, [.int 0, .int 0, .ref m0, .int 0, .int 0, .ref m1, .ref m2, .int 0, .ref m3, .ref m4, .ref m5, .ref m6, .ref m7, .ref m8, .ref m9, .ref m10, .ref m11, .ref m12, .ref m13, .ref m14, .ref m15, .ref m16, .ref m17, .int 0, .ref m18, .ref m19, .ref m20, .ref m21, .ref m22, .ref m23, .ref m24]))]) hD hS hA [0] rfl
  have hkc : 0 + 0 ≤ 0 := Nat.le_of_ble_eq_true rfl
  have hks : 0 + 0 ≤ 0 := Nat.le_of_ble_eq_true rfl
  refine va_calli (va_runV (As := [.int n]) (rest := []) ⟨hx, hb, hml, hown, hT⟩ (xc_Mo_isOpen l D kA H.size h m0 m1 m2 m3 m4 m5 m6 m7 m8 m9 m10 m11 m12 m13 m14 m15 m16 m17 m18 m19 m20 m21 m22 m23 m24 0 n) (cwV 1 hT (wT_V xk_130 xk_131 xk_132 xk_122 xk_129) rfl rfl rfl (by decide +kernel) ⟨Nat.le_of_ble_eq_true rfl, Nat.le_of_ble_eq_true rfl⟩) (x_preV hK hPc hDc 0 rfl rfl) rfl rfl hl.1 rfl (lv_room (Nat.le_of_ble_eq_true rfl)) xd_Mo_modules_7 ⟨hkc, hks⟩) hS (fun q _ h => hFc q h) hFc (fun r u t H1 locs ht hvm hpost hB hz1 hk1 hS => ?_)
  have hpost : r = 0 := hpost
  subst hpost
  obtain ⟨hP1, hD1⟩ := hB
  rw [ht] at hP1
  obtain ⟨hP, hD⟩ := va_join (wr := []) (w1 := [(h, .inr (4, [.int 0, .int 0, .ref m0, .int 0, .int 0, .ref m1, .ref m2, .int 0, .ref m3, .ref m4, .ref m5, .ref m6, .ref m7, .ref m8, .ref m9, .ref m10, .ref m11, .ref m12, .ref m13, .ref m14, .ref m15, .ref m16, .ref m17, .int 0, .ref m18, .ref m19, .ref m20, .ref m21, .ref m22, .ref m23, .ref m24]))]) hP hD [0] [] rfl rfl (by decide) (by decide) hk1 hFc hP1 hD1
  generalize H1 = H at hP hS ⊢
  have hP : va_P D xcl [(h, .inr (4, [.int 0, .int 0, .ref m0, .int 0, .int 0, .ref m1, .ref m2, .int 0, .ref m3, .ref m4, .ref m5, .ref m6, .ref m7, .ref m8, .ref m9, .ref m10, .ref m11, .ref m12, .ref m13, .ref m14, .ref m15, .ref m16, .ref m17, .int 0, .ref m18, .ref m19, .ref m20, .ref m21, .ref m22, .ref m23, .ref m24]))] H := hP
  have hD : va_D A [(h, .inr (4, [.int 0, .int 0, .ref m0, .int 0, .int 0, .ref m1, .ref m2, .int 0, .ref m3, .ref m4, .ref m5, .ref m6, .ref m7, .ref m8, .ref m9, .ref m10, .ref m11, .ref m12, .ref m13, .ref m14, .ref m15, .ref m16, .ref m17, .int 0, .ref m18, .ref m19, .ref m20, .ref m21, .ref m22, .ref m23, .ref m24]))] := hD
  refine lv_if_eq (tgt := 22) hx hb xd_Mo_modules_10 (by decide) (fun _ => ?_) (fun hc => absurd (by decide) hc)
  refine lv_iconst (v := (-1)) hx hb xd_Mo_modules_22 (by decide) ?_
  have hP9 := hP.sub (ws' := [(h, .inr (4, [.int 0, .int 0, .ref m0, .int 0, .int 0, .ref m1, .ref m2, .int 0, .ref m3, .ref m4, .ref m5, .ref m6, .ref m7, .ref m8, .ref m9, .ref m10, .ref m11, .ref m12, .ref m13, .ref m14, .ref m15, .ref m16, .ref m17, .int 0, .ref m18, .ref m19, .ref m20, .ref m21, .ref m22, .ref m23, .ref m24]))]) [0] rfl
  have hD9 := hD.sub (ws' := [(h, .inr (4, [.int 0, .int 0, .ref m0, .int 0, .int 0, .ref m1, .ref m2, .int 0, .ref m3, .ref m4, .ref m5, .ref m6, .ref m7, .ref m8, .ref m9, .ref m10, .ref m11, .ref m12, .ref m13, .ref m14, .ref m15, .ref m16, .ref m17, .int 0, .ref m18, .ref m19, .ref m20, .ref m21, .ref m22, .ref m23, .ref m24]))]) [0] (by decide) rfl
  refine W.widen (k := 0) (n := 0) (Nat.le_of_ble_eq_true rfl) (Nat.le_of_ble_eq_true rfl) ?_
  exact W.iret (v := (-1)) hx hb hr (fun t ht hW => ⟨⟨(-1), (), rfl, rfl, by rw [ht]; exact hP9, hD9⟩, hS.F ht⟩) hS.2.2 xd_Mo_modules_23
set_option maxHeartbeats 4000000 in
set_option maxRecDepth 100000 in
theorem xc_Mo_moduleOf (l : Launch) (D : va_G) (kA : Nat → ClassId) (sz : Nat) (h : Nat) (m0 : Nat) (m1 : Nat) (m2 : Nat) (m3 : Nat) (m4 : Nat) (m5 : Nat) (m6 : Nat) (m7 : Nat) (m8 : Nat) (m9 : Nat) (m10 : Nat) (m11 : Nat) (m12 : Nat) (m13 : Nat) (m14 : Nat) (m15 : Nat) (m16 : Nat) (m17 : Nat) (m18 : Nat) (m19 : Nat) (m20 : Nat) (m21 : Nat) (m22 : Nat) (m23 : Nat) (m24 : Nat) (F : Int32) (n : Int32) (k : Int32) : Met l xy_Mo_moduleOf (.code xy_Mo_moduleOf xb_Mo_moduleOf 3 (some .int) :: wT) { frames := 1, cells := 0, slots := 0, locals := 21 } (va_Pc [.ref h, .int n, .int k] (xPre D kA sz [(h, .inr (4, [.int F, .int 0, .ref m0, .int 0, .int 0, .ref m1, .ref m2, .int 0, .ref m3, .ref m4, .ref m5, .ref m6, .ref m7, .ref m8, .ref m9, .ref m10, .ref m11, .ref m12, .ref m13, .ref m14, .ref m15, .ref m16, .ref m17, .int 0, .ref m18, .ref m19, .ref m20, .ref m21, .ref m22, .ref m23, .ref m24]))])) (va_Qi (fun (r : Int32) (u : Unit) => r = (-1)) (fun (u : Unit) t => va_P D xcl [(h, .inr (4, [.int F, .int 0, .ref m0, .int 0, .int 0, .ref m1, .ref m2, .int 0, .ref m3, .ref m4, .ref m5, .ref m6, .ref m7, .ref m8, .ref m9, .ref m10, .ref m11, .ref m12, .ref m13, .ref m14, .ref m15, .ref m16, .ref m17, .int 0, .ref m18, .ref m19, .ref m20, .ref m21, .ref m22, .ref m23, .ref m24]))] t.heap ∧ va_D (va_A [(h, .inr (4, [.int F, .int 0, .ref m0, .int 0, .int 0, .ref m1, .ref m2, .int 0, .ref m3, .ref m4, .ref m5, .ref m6, .ref m7, .ref m8, .ref m9, .ref m10, .ref m11, .ref m12, .ref m13, .ref m14, .ref m15, .ref m16, .ref m17, .int 0, .ref m18, .ref m19, .ref m20, .ref m21, .ref m22, .ref m23, .ref m24]))] sz) [(h, .inr (4, [.int F, .int 0, .ref m0, .int 0, .int 0, .ref m1, .ref m2, .int 0, .ref m3, .ref m4, .ref m5, .ref m6, .ref m7, .ref m8, .ref m9, .ref m10, .ref m11, .ref m12, .ref m13, .ref m14, .ref m15, .ref m16, .ref m17, .int 0, .ref m18, .ref m19, .ref m20, .ref m21, .ref m22, .ref m23, .ref m24]))]) (va_A [(h, .inr (4, [.int F, .int 0, .ref m0, .int 0, .int 0, .ref m1, .ref m2, .int 0, .ref m3, .ref m4, .ref m5, .ref m6, .ref m7, .ref m8, .ref m9, .ref m10, .ref m11, .ref m12, .ref m13, .ref m14, .ref m15, .ref m16, .ref m17, .int 0, .ref m18, .ref m19, .ref m20, .ref m21, .ref m22, .ref m23, .ref m24]))] sz)) 0 0 (va_A [(h, .inr (4, [.int F, .int 0, .ref m0, .int 0, .int 0, .ref m1, .ref m2, .int 0, .ref m3, .ref m4, .ref m5, .ref m6, .ref m7, .ref m8, .ref m9, .ref m10, .ref m11, .ref m12, .ref m13, .ref m14, .ref m15, .ref m16, .ref m17, .int 0, .ref m18, .ref m19, .ref m20, .ref m21, .ref m22, .ref m23, .ref m24]))] sz) := by
  refine Met.ofW (cc := xb_Mo_moduleOf) (maxL := 3) (ret := (some .int)) (by decide) rfl ?_
  intro p e s m args below meth c s₁ B hml hv
  obtain ⟨rfl, hsz, hP, hK, hD0⟩ := hv
  have hx := B.exec
  have hb := B.bytes
  have hr := B.returns
  have hT := x_hT B.pre
  have hown : s.vm.findClass xR_Mo = some m.cls := findClass_of_methodNamed B.named
  have hlocks := B.notSynchronized
  subst hsz
  have hD := hD0.self (sz := s.heap.size)
  generalize hAe : va_A [(h, .inr (4, [.int F, .int 0, .ref m0, .int 0, .int 0, .ref m1, .ref m2, .int 0, .ref m3, .ref m4, .ref m5, .ref m6, .ref m7, .ref m8, .ref m9, .ref m10, .ref m11, .ref m12, .ref m13, .ref m14, .ref m15, .ref m16, .ref m17, .int 0, .ref m18, .ref m19, .ref m20, .ref m21, .ref m22, .ref m23, .ref m24]))] s.heap.size = A at hD ⊢
  have hA : ∀ q : Nat, s.heap.size ≤ q → A q := fun q h => by rw [← hAe]; exact Or.inr h
  have hS : va_S A s.heap s.heap [] := va_S.rf
  have hP : va_P D xcl [(h, .inr (4, [.int F, .int 0, .ref m0, .int 0, .int 0, .ref m1, .ref m2, .int 0, .ref m3, .ref m4, .ref m5, .ref m6, .ref m7, .ref m8, .ref m9, .ref m10, .ref m11, .ref m12, .ref m13, .ref m14, .ref m15, .ref m16, .ref m17, .int 0, .ref m18, .ref m19, .ref m20, .ref m21, .ref m22, .ref m23, .ref m24]))] s.heap := hP
  have hl := lv_entry ([.ref h, .int n, .int k]) (n := 3) (Nat.le_of_ble_eq_true rfl)
  rw [lg_entry_eq]
  generalize (lg_sl ([.ref h, .int n, .int k]) ++ List.replicate (3 - (lg_sl ([.ref h, .int n, .int k])).length) Slot.unset).toArray = ls at hl ⊢
  have hl : lv_has ls 3 [(0, .ref h), (1, .int n), (2, .int k)] := hl
  refine lv_aload_n hx hb xd_Mo_moduleOf_0 rfl (lv_at hl 0 rfl) ?_
  refine lv_iload_n hx hb xd_Mo_moduleOf_1 rfl (lv_at hl 1 rfl) ?_
  have hPc := hP.sub (ws' := [(h, .inr (4, [.int F, .int 0, .ref m0, .int 0, .int 0, .ref m1, .ref m2, .int 0, .ref m3, .ref m4, .ref m5, .ref m6, .ref m7, .ref m8, .ref m9, .ref m10, .ref m11, .ref m12, .ref m13, .ref m14, .ref m15, .ref m16, .ref m17, .int 0, .ref m18, .ref m19, .ref m20, .ref m21, .ref m22, .ref m23, .ref m24]))]) [0] rfl
  have hDc := hD.sub (ws' := [(h, .inr (4, [.int F, .int 0, .ref m0, .int 0, .int 0, .ref m1, .ref m2, .int 0, .ref m3, .ref m4, .ref m5, .ref m6, .ref m7, .ref m8, .ref m9, .ref m10, .ref m11, .ref m12, .ref m13, .ref m14, .ref m15, .ref m16, .ref m17, .int 0, .ref m18, .ref m19, .ref m20, .ref m21, .ref m22, .ref m23, .ref m24]))]) [0] (by decide) rfl
  have hFc := va_free (wc := [(h, .inr (4, [.int F, .int 0, .ref m0, .int 0, .int 0, .ref m1, .ref m2, .int 0, .ref m3, .ref m4, .ref m5, .ref m6, .ref m7, .ref m8, .ref m9, .ref m10, .ref m11, .ref m12, .ref m13, .ref m14, .ref m15, .ref m16, .ref m17, .int 0, .ref m18, .ref m19, .ref m20, .ref m21, .ref m22, .ref m23, .ref m24]))]) hD hS hA [0] rfl
  have hkc : 0 + 0 ≤ 0 := Nat.le_of_ble_eq_true rfl
  have hks : 0 + 0 ≤ 0 := Nat.le_of_ble_eq_true rfl
  refine va_calli (va_runV (As := [.int n]) (rest := []) ⟨hx, hb, hml, hown, hT⟩ (xc_Mo_isOpen l D kA s.heap.size h m0 m1 m2 m3 m4 m5 m6 m7 m8 m9 m10 m11 m12 m13 m14 m15 m16 m17 m18 m19 m20 m21 m22 m23 m24 F n) (cwV 1 hT (wT_V xk_130 xk_131 xk_132 xk_122 xk_129) rfl rfl rfl (by decide +kernel) ⟨Nat.le_of_ble_eq_true rfl, Nat.le_of_ble_eq_true rfl⟩) (x_preV hK hPc hDc 0 rfl rfl) rfl rfl hl.1 rfl (lv_room (Nat.le_of_ble_eq_true rfl)) xd_Mo_moduleOf_2 ⟨hkc, hks⟩) hS (fun q _ h => hFc q h) hFc (fun r u t H1 locs ht hvm hpost hB hz1 hk1 hS => ?_)
  have hpost : r = 0 := hpost
  subst hpost
  obtain ⟨hP1, hD1⟩ := hB
  rw [ht] at hP1
  obtain ⟨hP, hD⟩ := va_join (wr := []) (w1 := [(h, .inr (4, [.int F, .int 0, .ref m0, .int 0, .int 0, .ref m1, .ref m2, .int 0, .ref m3, .ref m4, .ref m5, .ref m6, .ref m7, .ref m8, .ref m9, .ref m10, .ref m11, .ref m12, .ref m13, .ref m14, .ref m15, .ref m16, .ref m17, .int 0, .ref m18, .ref m19, .ref m20, .ref m21, .ref m22, .ref m23, .ref m24]))]) hP hD [0] [] rfl rfl (by decide) (by decide) hk1 hFc hP1 hD1
  generalize H1 = H at hP hS ⊢
  have hP : va_P D xcl [(h, .inr (4, [.int F, .int 0, .ref m0, .int 0, .int 0, .ref m1, .ref m2, .int 0, .ref m3, .ref m4, .ref m5, .ref m6, .ref m7, .ref m8, .ref m9, .ref m10, .ref m11, .ref m12, .ref m13, .ref m14, .ref m15, .ref m16, .ref m17, .int 0, .ref m18, .ref m19, .ref m20, .ref m21, .ref m22, .ref m23, .ref m24]))] H := hP
  have hD : va_D A [(h, .inr (4, [.int F, .int 0, .ref m0, .int 0, .int 0, .ref m1, .ref m2, .int 0, .ref m3, .ref m4, .ref m5, .ref m6, .ref m7, .ref m8, .ref m9, .ref m10, .ref m11, .ref m12, .ref m13, .ref m14, .ref m15, .ref m16, .ref m17, .int 0, .ref m18, .ref m19, .ref m20, .ref m21, .ref m22, .ref m23, .ref m24]))] := hD
  refine lv_if_eq (tgt := 36) hx hb xd_Mo_moduleOf_5 (by decide) (fun _ => ?_) (fun hc => absurd (by decide) hc)
  refine lv_iconst (v := (-1)) hx hb xd_Mo_moduleOf_36 (by decide) ?_
  have hP9 := hP.sub (ws' := [(h, .inr (4, [.int F, .int 0, .ref m0, .int 0, .int 0, .ref m1, .ref m2, .int 0, .ref m3, .ref m4, .ref m5, .ref m6, .ref m7, .ref m8, .ref m9, .ref m10, .ref m11, .ref m12, .ref m13, .ref m14, .ref m15, .ref m16, .ref m17, .int 0, .ref m18, .ref m19, .ref m20, .ref m21, .ref m22, .ref m23, .ref m24]))]) [0] rfl
  have hD9 := hD.sub (ws' := [(h, .inr (4, [.int F, .int 0, .ref m0, .int 0, .int 0, .ref m1, .ref m2, .int 0, .ref m3, .ref m4, .ref m5, .ref m6, .ref m7, .ref m8, .ref m9, .ref m10, .ref m11, .ref m12, .ref m13, .ref m14, .ref m15, .ref m16, .ref m17, .int 0, .ref m18, .ref m19, .ref m20, .ref m21, .ref m22, .ref m23, .ref m24]))]) [0] (by decide) rfl
  refine W.widen (k := 0) (n := 0) (Nat.le_of_ble_eq_true rfl) (Nat.le_of_ble_eq_true rfl) ?_
  exact W.iret (v := (-1)) hx hb hr (fun t ht hW => ⟨⟨(-1), (), rfl, rfl, by rw [ht]; exact hP9, hD9⟩, hS.F ht⟩) hS.2.2 xd_Mo_moduleOf_37
set_option maxHeartbeats 4000000 in
set_option maxRecDepth 100000 in
theorem xc_Mo_module (l : Launch) (D : va_G) (kA : Nat → ClassId) (sz : Nat) (h : Nat) (m0 : Nat) (m1 : Nat) (m2 : Nat) (m3 : Nat) (m4 : Nat) (m5 : Nat) (m6 : Nat) (m7 : Nat) (m8 : Nat) (m9 : Nat) (m10 : Nat) (m11 : Nat) (m12 : Nat) (m13 : Nat) (m14 : Nat) (m15 : Nat) (m16 : Nat) (m17 : Nat) (m18 : Nat) (m19 : Nat) (m20 : Nat) (m21 : Nat) (m22 : Nat) (m23 : Nat) (m24 : Nat) (F : Int32) (n : Int32) (k : Int32) : Met l xy_Mo_module (.code xy_Mo_module xb_Mo_module 3 (some .int) :: wT) { frames := 2, cells := 0, slots := 0, locals := 43 } (va_Pc [.ref h, .int n, .int k] (xPre D kA sz [(h, .inr (4, [.int F, .int 0, .ref m0, .int 0, .int 0, .ref m1, .ref m2, .int 0, .ref m3, .ref m4, .ref m5, .ref m6, .ref m7, .ref m8, .ref m9, .ref m10, .ref m11, .ref m12, .ref m13, .ref m14, .ref m15, .ref m16, .ref m17, .int 0, .ref m18, .ref m19, .ref m20, .ref m21, .ref m22, .ref m23, .ref m24]))])) (va_Qi (fun (r : Int32) (u : Unit) => r = (-1)) (fun (u : Unit) t => va_P D xcl [(h, .inr (4, [.int 0, .int 0, .ref m0, .int 0, .int 0, .ref m1, .ref m2, .int 0, .ref m3, .ref m4, .ref m5, .ref m6, .ref m7, .ref m8, .ref m9, .ref m10, .ref m11, .ref m12, .ref m13, .ref m14, .ref m15, .ref m16, .ref m17, .int 0, .ref m18, .ref m19, .ref m20, .ref m21, .ref m22, .ref m23, .ref m24]))] t.heap ∧ va_D (va_A [(h, .inr (4, [.int F, .int 0, .ref m0, .int 0, .int 0, .ref m1, .ref m2, .int 0, .ref m3, .ref m4, .ref m5, .ref m6, .ref m7, .ref m8, .ref m9, .ref m10, .ref m11, .ref m12, .ref m13, .ref m14, .ref m15, .ref m16, .ref m17, .int 0, .ref m18, .ref m19, .ref m20, .ref m21, .ref m22, .ref m23, .ref m24]))] sz) [(h, .inr (4, [.int 0, .int 0, .ref m0, .int 0, .int 0, .ref m1, .ref m2, .int 0, .ref m3, .ref m4, .ref m5, .ref m6, .ref m7, .ref m8, .ref m9, .ref m10, .ref m11, .ref m12, .ref m13, .ref m14, .ref m15, .ref m16, .ref m17, .int 0, .ref m18, .ref m19, .ref m20, .ref m21, .ref m22, .ref m23, .ref m24]))]) (va_A [(h, .inr (4, [.int F, .int 0, .ref m0, .int 0, .int 0, .ref m1, .ref m2, .int 0, .ref m3, .ref m4, .ref m5, .ref m6, .ref m7, .ref m8, .ref m9, .ref m10, .ref m11, .ref m12, .ref m13, .ref m14, .ref m15, .ref m16, .ref m17, .int 0, .ref m18, .ref m19, .ref m20, .ref m21, .ref m22, .ref m23, .ref m24]))] sz)) 0 0 (va_A [(h, .inr (4, [.int F, .int 0, .ref m0, .int 0, .int 0, .ref m1, .ref m2, .int 0, .ref m3, .ref m4, .ref m5, .ref m6, .ref m7, .ref m8, .ref m9, .ref m10, .ref m11, .ref m12, .ref m13, .ref m14, .ref m15, .ref m16, .ref m17, .int 0, .ref m18, .ref m19, .ref m20, .ref m21, .ref m22, .ref m23, .ref m24]))] sz) := by
  refine Met.ofW (cc := xb_Mo_module) (maxL := 3) (ret := (some .int)) (by decide) rfl ?_
  intro p e s m args below meth c s₁ B hml hv
  obtain ⟨rfl, hsz, hP, hK, hD0⟩ := hv
  have hx := B.exec
  have hb := B.bytes
  have hr := B.returns
  have hT := x_hT B.pre
  have hown : s.vm.findClass xR_Mo = some m.cls := findClass_of_methodNamed B.named
  have hlocks := B.notSynchronized
  subst hsz
  have hD := hD0.self (sz := s.heap.size)
  generalize hAe : va_A [(h, .inr (4, [.int F, .int 0, .ref m0, .int 0, .int 0, .ref m1, .ref m2, .int 0, .ref m3, .ref m4, .ref m5, .ref m6, .ref m7, .ref m8, .ref m9, .ref m10, .ref m11, .ref m12, .ref m13, .ref m14, .ref m15, .ref m16, .ref m17, .int 0, .ref m18, .ref m19, .ref m20, .ref m21, .ref m22, .ref m23, .ref m24]))] s.heap.size = A at hD ⊢
  have hA : ∀ q : Nat, s.heap.size ≤ q → A q := fun q h => by rw [← hAe]; exact Or.inr h
  have hS : va_S A s.heap s.heap [] := va_S.rf
  have hP : va_P D xcl [(h, .inr (4, [.int F, .int 0, .ref m0, .int 0, .int 0, .ref m1, .ref m2, .int 0, .ref m3, .ref m4, .ref m5, .ref m6, .ref m7, .ref m8, .ref m9, .ref m10, .ref m11, .ref m12, .ref m13, .ref m14, .ref m15, .ref m16, .ref m17, .int 0, .ref m18, .ref m19, .ref m20, .ref m21, .ref m22, .ref m23, .ref m24]))] s.heap := hP
  have hl := lv_entry ([.ref h, .int n, .int k]) (n := 3) (Nat.le_of_ble_eq_true rfl)
  rw [lg_entry_eq]
  generalize (lg_sl ([.ref h, .int n, .int k]) ++ List.replicate (3 - (lg_sl ([.ref h, .int n, .int k])).length) Slot.unset).toArray = ls at hl ⊢
  have hl : lv_has ls 3 [(0, .ref h), (1, .int n), (2, .int k)] := hl
  refine lv_aload_n hx hb xd_Mo_module_0 rfl (lv_at hl 0 rfl) ?_
  refine lv_iconst (v := 0) hx hb xd_Mo_module_1 (by decide) ?_
  refine va_put (D := D) (ci := 4) (v := .int 0) (ty := .int) (C := xR_Mo) (T := xT_Mo) (N := 31) hx hb hT xi_Mo xt_Mo xt_Mo_ok xn_Mo hown hK.1 hP hD hS 0 rfl rfl 0 (by decide) (hT _ xk_115) (fun _ h9 => h9) rfl (by decide +kernel) rfl rfl (Nat.le_of_ble_eq_true rfl) xd_Mo_module_2 (fun H locs hP hD hS => ?_)
  have hP : va_P D xcl [(h, .inr (4, [.int 0, .int 0, .ref m0, .int 0, .int 0, .ref m1, .ref m2, .int 0, .ref m3, .ref m4, .ref m5, .ref m6, .ref m7, .ref m8, .ref m9, .ref m10, .ref m11, .ref m12, .ref m13, .ref m14, .ref m15, .ref m16, .ref m17, .int 0, .ref m18, .ref m19, .ref m20, .ref m21, .ref m22, .ref m23, .ref m24]))] H := hP
  have hD : va_D A [(h, .inr (4, [.int 0, .int 0, .ref m0, .int 0, .int 0, .ref m1, .ref m2, .int 0, .ref m3, .ref m4, .ref m5, .ref m6, .ref m7, .ref m8, .ref m9, .ref m10, .ref m11, .ref m12, .ref m13, .ref m14, .ref m15, .ref m16, .ref m17, .int 0, .ref m18, .ref m19, .ref m20, .ref m21, .ref m22, .ref m23, .ref m24]))] := hD
  refine lv_aload_n hx hb xd_Mo_module_5 rfl (lv_at hl 0 rfl) ?_
  refine lv_iload_n hx hb xd_Mo_module_6 rfl (lv_at hl 1 rfl) ?_
  refine lv_iload_n hx hb xd_Mo_module_7 rfl (lv_at hl 2 rfl) ?_
  have hPc := hP.sub (ws' := [(h, .inr (4, [.int 0, .int 0, .ref m0, .int 0, .int 0, .ref m1, .ref m2, .int 0, .ref m3, .ref m4, .ref m5, .ref m6, .ref m7, .ref m8, .ref m9, .ref m10, .ref m11, .ref m12, .ref m13, .ref m14, .ref m15, .ref m16, .ref m17, .int 0, .ref m18, .ref m19, .ref m20, .ref m21, .ref m22, .ref m23, .ref m24]))]) [0] rfl
  have hDc := hD.sub (ws' := [(h, .inr (4, [.int 0, .int 0, .ref m0, .int 0, .int 0, .ref m1, .ref m2, .int 0, .ref m3, .ref m4, .ref m5, .ref m6, .ref m7, .ref m8, .ref m9, .ref m10, .ref m11, .ref m12, .ref m13, .ref m14, .ref m15, .ref m16, .ref m17, .int 0, .ref m18, .ref m19, .ref m20, .ref m21, .ref m22, .ref m23, .ref m24]))]) [0] (by decide) rfl
  have hFc := va_free (wc := [(h, .inr (4, [.int 0, .int 0, .ref m0, .int 0, .int 0, .ref m1, .ref m2, .int 0, .ref m3, .ref m4, .ref m5, .ref m6, .ref m7, .ref m8, .ref m9, .ref m10, .ref m11, .ref m12, .ref m13, .ref m14, .ref m15, .ref m16, .ref m17, .int 0, .ref m18, .ref m19, .ref m20, .ref m21, .ref m22, .ref m23, .ref m24]))]) hD hS hA [0] rfl
  have hkc : 0 + 0 ≤ 0 := Nat.le_of_ble_eq_true rfl
  have hks : 0 + 0 ≤ 0 := Nat.le_of_ble_eq_true rfl
  refine va_calli (va_runV (As := [.int n, .int k]) (rest := []) ⟨hx, hb, hml, hown, hT⟩ (xc_Mo_moduleOf l D kA H.size h m0 m1 m2 m3 m4 m5 m6 m7 m8 m9 m10 m11 m12 m13 m14 m15 m16 m17 m18 m19 m20 m21 m22 m23 m24 0 n k) (cwV 2 hT (wT_V xk_135 xk_136 xk_137 xk_122 xk_134) rfl rfl rfl (by decide +kernel) ⟨Nat.le_of_ble_eq_true rfl, Nat.le_of_ble_eq_true rfl⟩) (x_preV hK hPc hDc 0 rfl rfl) rfl rfl hl.1 rfl (lv_room (Nat.le_of_ble_eq_true rfl)) xd_Mo_module_8 ⟨hkc, hks⟩) hS (fun q _ h => hFc q h) hFc (fun r u t H1 locs ht hvm hpost hB hz1 hk1 hS => ?_)
  have hpost : r = (-1) := hpost
  subst hpost
  obtain ⟨hP1, hD1⟩ := hB
  rw [ht] at hP1
  obtain ⟨hP, hD⟩ := va_join (wr := []) (w1 := [(h, .inr (4, [.int 0, .int 0, .ref m0, .int 0, .int 0, .ref m1, .ref m2, .int 0, .ref m3, .ref m4, .ref m5, .ref m6, .ref m7, .ref m8, .ref m9, .ref m10, .ref m11, .ref m12, .ref m13, .ref m14, .ref m15, .ref m16, .ref m17, .int 0, .ref m18, .ref m19, .ref m20, .ref m21, .ref m22, .ref m23, .ref m24]))]) hP hD [0] [] rfl rfl (by decide) (by decide) hk1 hFc hP1 hD1
  generalize H1 = H at hP hS ⊢
  have hP : va_P D xcl [(h, .inr (4, [.int 0, .int 0, .ref m0, .int 0, .int 0, .ref m1, .ref m2, .int 0, .ref m3, .ref m4, .ref m5, .ref m6, .ref m7, .ref m8, .ref m9, .ref m10, .ref m11, .ref m12, .ref m13, .ref m14, .ref m15, .ref m16, .ref m17, .int 0, .ref m18, .ref m19, .ref m20, .ref m21, .ref m22, .ref m23, .ref m24]))] H := hP
  have hD : va_D A [(h, .inr (4, [.int 0, .int 0, .ref m0, .int 0, .int 0, .ref m1, .ref m2, .int 0, .ref m3, .ref m4, .ref m5, .ref m6, .ref m7, .ref m8, .ref m9, .ref m10, .ref m11, .ref m12, .ref m13, .ref m14, .ref m15, .ref m16, .ref m17, .int 0, .ref m18, .ref m19, .ref m20, .ref m21, .ref m22, .ref m23, .ref m24]))] := hD
  have hP9 := hP.sub (ws' := [(h, .inr (4, [.int 0, .int 0, .ref m0, .int 0, .int 0, .ref m1, .ref m2, .int 0, .ref m3, .ref m4, .ref m5, .ref m6, .ref m7, .ref m8, .ref m9, .ref m10, .ref m11, .ref m12, .ref m13, .ref m14, .ref m15, .ref m16, .ref m17, .int 0, .ref m18, .ref m19, .ref m20, .ref m21, .ref m22, .ref m23, .ref m24]))]) [0] rfl
  have hD9 := hD.sub (ws' := [(h, .inr (4, [.int 0, .int 0, .ref m0, .int 0, .int 0, .ref m1, .ref m2, .int 0, .ref m3, .ref m4, .ref m5, .ref m6, .ref m7, .ref m8, .ref m9, .ref m10, .ref m11, .ref m12, .ref m13, .ref m14, .ref m15, .ref m16, .ref m17, .int 0, .ref m18, .ref m19, .ref m20, .ref m21, .ref m22, .ref m23, .ref m24]))]) [0] (by decide) rfl
  refine W.widen (k := 0) (n := 0) (Nat.le_of_ble_eq_true rfl) (Nat.le_of_ble_eq_true rfl) ?_
  exact W.iret (v := (-1)) hx hb hr (fun t ht hW => ⟨⟨(-1), (), rfl, rfl, by rw [ht]; exact hP9, hD9⟩, hS.F ht⟩) hS.2.2 xd_Mo_module_11
set_option maxHeartbeats 4000000 in
set_option maxRecDepth 100000 in
theorem xc_Mo_reads (l : Launch) (D : va_G) (kA : Nat → ClassId) (sz : Nat) (h : Nat) (m0 : Nat) (m1 : Nat) (m2 : Nat) (m3 : Nat) (m4 : Nat) (m5 : Nat) (m6 : Nat) (m7 : Nat) (m8 : Nat) (m9 : Nat) (m10 : Nat) (m11 : Nat) (m12 : Nat) (m13 : Nat) (m14 : Nat) (m15 : Nat) (m16 : Nat) (m17 : Nat) (m18 : Nat) (m19 : Nat) (m20 : Nat) (m21 : Nat) (m22 : Nat) (m23 : Nat) (m24 : Nat) (F : Int32) (n : Int32) (k : Int32) (n2 : Int32) (k2 : Int32) : Met l xy_Mo_reads (.code xy_Mo_reads xb_Mo_reads 6 (some .boolean) :: wT) { frames := 2, cells := 0, slots := 0, locals := 43 } (va_Pc [.ref h, .int n, .int k, .int n2, .int k2] (xPre D kA sz [(h, .inr (4, [.int F, .int 0, .ref m0, .int 0, .int 0, .ref m1, .ref m2, .int 0, .ref m3, .ref m4, .ref m5, .ref m6, .ref m7, .ref m8, .ref m9, .ref m10, .ref m11, .ref m12, .ref m13, .ref m14, .ref m15, .ref m16, .ref m17, .int 0, .ref m18, .ref m19, .ref m20, .ref m21, .ref m22, .ref m23, .ref m24]))])) (va_Qi (fun (r : Int32) (u : Unit) => r = 0) (fun (u : Unit) t => va_P D xcl [(h, .inr (4, [.int 0, .int 0, .ref m0, .int 0, .int 0, .ref m1, .ref m2, .int 0, .ref m3, .ref m4, .ref m5, .ref m6, .ref m7, .ref m8, .ref m9, .ref m10, .ref m11, .ref m12, .ref m13, .ref m14, .ref m15, .ref m16, .ref m17, .int 0, .ref m18, .ref m19, .ref m20, .ref m21, .ref m22, .ref m23, .ref m24]))] t.heap ∧ va_D (va_A [(h, .inr (4, [.int F, .int 0, .ref m0, .int 0, .int 0, .ref m1, .ref m2, .int 0, .ref m3, .ref m4, .ref m5, .ref m6, .ref m7, .ref m8, .ref m9, .ref m10, .ref m11, .ref m12, .ref m13, .ref m14, .ref m15, .ref m16, .ref m17, .int 0, .ref m18, .ref m19, .ref m20, .ref m21, .ref m22, .ref m23, .ref m24]))] sz) [(h, .inr (4, [.int 0, .int 0, .ref m0, .int 0, .int 0, .ref m1, .ref m2, .int 0, .ref m3, .ref m4, .ref m5, .ref m6, .ref m7, .ref m8, .ref m9, .ref m10, .ref m11, .ref m12, .ref m13, .ref m14, .ref m15, .ref m16, .ref m17, .int 0, .ref m18, .ref m19, .ref m20, .ref m21, .ref m22, .ref m23, .ref m24]))]) (va_A [(h, .inr (4, [.int F, .int 0, .ref m0, .int 0, .int 0, .ref m1, .ref m2, .int 0, .ref m3, .ref m4, .ref m5, .ref m6, .ref m7, .ref m8, .ref m9, .ref m10, .ref m11, .ref m12, .ref m13, .ref m14, .ref m15, .ref m16, .ref m17, .int 0, .ref m18, .ref m19, .ref m20, .ref m21, .ref m22, .ref m23, .ref m24]))] sz)) 0 0 (va_A [(h, .inr (4, [.int F, .int 0, .ref m0, .int 0, .int 0, .ref m1, .ref m2, .int 0, .ref m3, .ref m4, .ref m5, .ref m6, .ref m7, .ref m8, .ref m9, .ref m10, .ref m11, .ref m12, .ref m13, .ref m14, .ref m15, .ref m16, .ref m17, .int 0, .ref m18, .ref m19, .ref m20, .ref m21, .ref m22, .ref m23, .ref m24]))] sz) := by
  refine Met.ofW (cc := xb_Mo_reads) (maxL := 6) (ret := (some .boolean)) (by decide) rfl ?_
  intro p e s m args below meth c s₁ B hml hv
  obtain ⟨rfl, hsz, hP, hK, hD0⟩ := hv
  have hx := B.exec
  have hb := B.bytes
  have hr := B.returns
  have hT := x_hT B.pre
  have hown : s.vm.findClass xR_Mo = some m.cls := findClass_of_methodNamed B.named
  have hlocks := B.notSynchronized
  subst hsz
  have hD := hD0.self (sz := s.heap.size)
  generalize hAe : va_A [(h, .inr (4, [.int F, .int 0, .ref m0, .int 0, .int 0, .ref m1, .ref m2, .int 0, .ref m3, .ref m4, .ref m5, .ref m6, .ref m7, .ref m8, .ref m9, .ref m10, .ref m11, .ref m12, .ref m13, .ref m14, .ref m15, .ref m16, .ref m17, .int 0, .ref m18, .ref m19, .ref m20, .ref m21, .ref m22, .ref m23, .ref m24]))] s.heap.size = A at hD ⊢
  have hA : ∀ q : Nat, s.heap.size ≤ q → A q := fun q h => by rw [← hAe]; exact Or.inr h
  have hS : va_S A s.heap s.heap [] := va_S.rf
  have hP : va_P D xcl [(h, .inr (4, [.int F, .int 0, .ref m0, .int 0, .int 0, .ref m1, .ref m2, .int 0, .ref m3, .ref m4, .ref m5, .ref m6, .ref m7, .ref m8, .ref m9, .ref m10, .ref m11, .ref m12, .ref m13, .ref m14, .ref m15, .ref m16, .ref m17, .int 0, .ref m18, .ref m19, .ref m20, .ref m21, .ref m22, .ref m23, .ref m24]))] s.heap := hP
  have hl := lv_entry ([.ref h, .int n, .int k, .int n2, .int k2]) (n := 6) (Nat.le_of_ble_eq_true rfl)
  rw [lg_entry_eq]
  generalize (lg_sl ([.ref h, .int n, .int k, .int n2, .int k2]) ++ List.replicate (6 - (lg_sl ([.ref h, .int n, .int k, .int n2, .int k2])).length) Slot.unset).toArray = ls at hl ⊢
  have hl : lv_has ls 6 [(0, .ref h), (1, .int n), (2, .int k), (3, .int n2), (4, .int k2)] := hl
  refine lv_aload_n hx hb xd_Mo_reads_0 rfl (lv_at hl 0 rfl) ?_
  refine lv_iconst (v := 0) hx hb xd_Mo_reads_1 (by decide) ?_
  refine va_put (D := D) (ci := 4) (v := .int 0) (ty := .int) (C := xR_Mo) (T := xT_Mo) (N := 31) hx hb hT xi_Mo xt_Mo xt_Mo_ok xn_Mo hown hK.1 hP hD hS 0 rfl rfl 0 (by decide) (hT _ xk_115) (fun _ h9 => h9) rfl (by decide +kernel) rfl rfl (Nat.le_of_ble_eq_true rfl) xd_Mo_reads_2 (fun H locs hP hD hS => ?_)
  have hP : va_P D xcl [(h, .inr (4, [.int 0, .int 0, .ref m0, .int 0, .int 0, .ref m1, .ref m2, .int 0, .ref m3, .ref m4, .ref m5, .ref m6, .ref m7, .ref m8, .ref m9, .ref m10, .ref m11, .ref m12, .ref m13, .ref m14, .ref m15, .ref m16, .ref m17, .int 0, .ref m18, .ref m19, .ref m20, .ref m21, .ref m22, .ref m23, .ref m24]))] H := hP
  have hD : va_D A [(h, .inr (4, [.int 0, .int 0, .ref m0, .int 0, .int 0, .ref m1, .ref m2, .int 0, .ref m3, .ref m4, .ref m5, .ref m6, .ref m7, .ref m8, .ref m9, .ref m10, .ref m11, .ref m12, .ref m13, .ref m14, .ref m15, .ref m16, .ref m17, .int 0, .ref m18, .ref m19, .ref m20, .ref m21, .ref m22, .ref m23, .ref m24]))] := hD
  refine lv_aload_n hx hb xd_Mo_reads_5 rfl (lv_at hl 0 rfl) ?_
  refine lv_iload_n hx hb xd_Mo_reads_6 rfl (lv_at hl 1 rfl) ?_
  refine lv_iload_n hx hb xd_Mo_reads_7 rfl (lv_at hl 2 rfl) ?_
  have hPc := hP.sub (ws' := [(h, .inr (4, [.int 0, .int 0, .ref m0, .int 0, .int 0, .ref m1, .ref m2, .int 0, .ref m3, .ref m4, .ref m5, .ref m6, .ref m7, .ref m8, .ref m9, .ref m10, .ref m11, .ref m12, .ref m13, .ref m14, .ref m15, .ref m16, .ref m17, .int 0, .ref m18, .ref m19, .ref m20, .ref m21, .ref m22, .ref m23, .ref m24]))]) [0] rfl
  have hDc := hD.sub (ws' := [(h, .inr (4, [.int 0, .int 0, .ref m0, .int 0, .int 0, .ref m1, .ref m2, .int 0, .ref m3, .ref m4, .ref m5, .ref m6, .ref m7, .ref m8, .ref m9, .ref m10, .ref m11, .ref m12, .ref m13, .ref m14, .ref m15, .ref m16, .ref m17, .int 0, .ref m18, .ref m19, .ref m20, .ref m21, .ref m22, .ref m23, .ref m24]))]) [0] (by decide) rfl
  have hFc := va_free (wc := [(h, .inr (4, [.int 0, .int 0, .ref m0, .int 0, .int 0, .ref m1, .ref m2, .int 0, .ref m3, .ref m4, .ref m5, .ref m6, .ref m7, .ref m8, .ref m9, .ref m10, .ref m11, .ref m12, .ref m13, .ref m14, .ref m15, .ref m16, .ref m17, .int 0, .ref m18, .ref m19, .ref m20, .ref m21, .ref m22, .ref m23, .ref m24]))]) hD hS hA [0] rfl
  have hkc : 0 + 0 ≤ 0 := Nat.le_of_ble_eq_true rfl
  have hks : 0 + 0 ≤ 0 := Nat.le_of_ble_eq_true rfl
  refine va_calli (va_runV (As := [.int n, .int k]) (rest := []) ⟨hx, hb, hml, hown, hT⟩ (xc_Mo_moduleOf l D kA H.size h m0 m1 m2 m3 m4 m5 m6 m7 m8 m9 m10 m11 m12 m13 m14 m15 m16 m17 m18 m19 m20 m21 m22 m23 m24 0 n k) (cwV 2 hT (wT_V xk_135 xk_136 xk_137 xk_122 xk_134) rfl rfl rfl (by decide +kernel) ⟨Nat.le_of_ble_eq_true rfl, Nat.le_of_ble_eq_true rfl⟩) (x_preV hK hPc hDc 0 rfl rfl) rfl rfl hl.1 rfl (lv_room (Nat.le_of_ble_eq_true rfl)) xd_Mo_reads_8 ⟨hkc, hks⟩) hS (fun q _ h => hFc q h) hFc (fun r u t H1 locs ht hvm hpost hB hz1 hk1 hS => ?_)
  have hpost : r = (-1) := hpost
  subst hpost
  obtain ⟨hP1, hD1⟩ := hB
  rw [ht] at hP1
  obtain ⟨hP, hD⟩ := va_join (wr := []) (w1 := [(h, .inr (4, [.int 0, .int 0, .ref m0, .int 0, .int 0, .ref m1, .ref m2, .int 0, .ref m3, .ref m4, .ref m5, .ref m6, .ref m7, .ref m8, .ref m9, .ref m10, .ref m11, .ref m12, .ref m13, .ref m14, .ref m15, .ref m16, .ref m17, .int 0, .ref m18, .ref m19, .ref m20, .ref m21, .ref m22, .ref m23, .ref m24]))]) hP hD [0] [] rfl rfl (by decide) (by decide) hk1 hFc hP1 hD1
  generalize H1 = H at hP hS ⊢
  have hP : va_P D xcl [(h, .inr (4, [.int 0, .int 0, .ref m0, .int 0, .int 0, .ref m1, .ref m2, .int 0, .ref m3, .ref m4, .ref m5, .ref m6, .ref m7, .ref m8, .ref m9, .ref m10, .ref m11, .ref m12, .ref m13, .ref m14, .ref m15, .ref m16, .ref m17, .int 0, .ref m18, .ref m19, .ref m20, .ref m21, .ref m22, .ref m23, .ref m24]))] H := hP
  have hD : va_D A [(h, .inr (4, [.int 0, .int 0, .ref m0, .int 0, .int 0, .ref m1, .ref m2, .int 0, .ref m3, .ref m4, .ref m5, .ref m6, .ref m7, .ref m8, .ref m9, .ref m10, .ref m11, .ref m12, .ref m13, .ref m14, .ref m15, .ref m16, .ref m17, .int 0, .ref m18, .ref m19, .ref m20, .ref m21, .ref m22, .ref m23, .ref m24]))] := hD
  refine lv_istore hx hb xd_Mo_reads_11 hl (Nat.le_of_ble_eq_true rfl) rfl (fun ls hl => ?_)
  have hl : lv_has ls 6 [(5, .int (-1)), (0, .ref h), (1, .int n), (2, .int k), (3, .int n2), (4, .int k2)] := hl
  refine lv_iload hx hb xd_Mo_reads_13 (lv_at hl 0 rfl) ?_
  refine lv_if_lt (tgt := 28) hx hb xd_Mo_reads_15 (by decide) (fun _ => ?_) (fun hc => absurd (by decide) hc)
  refine lv_iconst (v := 0) hx hb xd_Mo_reads_28 (by decide) ?_
  have hP9 := hP.sub (ws' := [(h, .inr (4, [.int 0, .int 0, .ref m0, .int 0, .int 0, .ref m1, .ref m2, .int 0, .ref m3, .ref m4, .ref m5, .ref m6, .ref m7, .ref m8, .ref m9, .ref m10, .ref m11, .ref m12, .ref m13, .ref m14, .ref m15, .ref m16, .ref m17, .int 0, .ref m18, .ref m19, .ref m20, .ref m21, .ref m22, .ref m23, .ref m24]))]) [0] rfl
  have hD9 := hD.sub (ws' := [(h, .inr (4, [.int 0, .int 0, .ref m0, .int 0, .int 0, .ref m1, .ref m2, .int 0, .ref m3, .ref m4, .ref m5, .ref m6, .ref m7, .ref m8, .ref m9, .ref m10, .ref m11, .ref m12, .ref m13, .ref m14, .ref m15, .ref m16, .ref m17, .int 0, .ref m18, .ref m19, .ref m20, .ref m21, .ref m22, .ref m23, .ref m24]))]) [0] (by decide) rfl
  refine W.widen (k := 0) (n := 0) (Nat.le_of_ble_eq_true rfl) (Nat.le_of_ble_eq_true rfl) ?_
  exact W.zret (v := 0) hx hb hr rfl (fun t ht hW => ⟨⟨0, (), rfl, rfl, by rw [ht]; exact hP9, hD9⟩, hS.F ht⟩) hS.2.2 xd_Mo_reads_29
set_option maxHeartbeats 4000000 in
set_option maxRecDepth 100000 in
theorem xc_Mo_oneName (l : Launch) (D : va_G) (kA : Nat → ClassId) (sz : Nat) (h : Nat) (m0 : Nat) (m1 : Nat) (m2 : Nat) (m3 : Nat) (m4 : Nat) (m5 : Nat) (m6 : Nat) (m7 : Nat) (m8 : Nat) (m9 : Nat) (m10 : Nat) (m11 : Nat) (m12 : Nat) (m13 : Nat) (m14 : Nat) (m15 : Nat) (m16 : Nat) (m17 : Nat) (m18 : Nat) (m19 : Nat) (m20 : Nat) (m21 : Nat) (m22 : Nat) (m23 : Nat) (m24 : Nat) (F : Int32) : Met l xy_Mo_oneName (.code xy_Mo_oneName xb_Mo_oneName 1 (some .int) :: wT) { frames := 1, cells := 0, slots := 0, locals := 21 } (va_Pc [.ref h] (xPre D kA sz [(h, .inr (4, [.int F, .int 0, .ref m0, .int 0, .int 0, .ref m1, .ref m2, .int 0, .ref m3, .ref m4, .ref m5, .ref m6, .ref m7, .ref m8, .ref m9, .ref m10, .ref m11, .ref m12, .ref m13, .ref m14, .ref m15, .ref m16, .ref m17, .int 0, .ref m18, .ref m19, .ref m20, .ref m21, .ref m22, .ref m23, .ref m24]))])) (va_Qi (fun (r : Int32) (u : Unit) => r = 0) (fun (u : Unit) t => va_P D xcl [(h, .inr (4, [.int F, .int 0, .ref m0, .int 0, .int 0, .ref m1, .ref m2, .int 0, .ref m3, .ref m4, .ref m5, .ref m6, .ref m7, .ref m8, .ref m9, .ref m10, .ref m11, .ref m12, .ref m13, .ref m14, .ref m15, .ref m16, .ref m17, .int 0, .ref m18, .ref m19, .ref m20, .ref m21, .ref m22, .ref m23, .ref m24]))] t.heap ∧ va_D (va_A [(h, .inr (4, [.int F, .int 0, .ref m0, .int 0, .int 0, .ref m1, .ref m2, .int 0, .ref m3, .ref m4, .ref m5, .ref m6, .ref m7, .ref m8, .ref m9, .ref m10, .ref m11, .ref m12, .ref m13, .ref m14, .ref m15, .ref m16, .ref m17, .int 0, .ref m18, .ref m19, .ref m20, .ref m21, .ref m22, .ref m23, .ref m24]))] sz) [(h, .inr (4, [.int F, .int 0, .ref m0, .int 0, .int 0, .ref m1, .ref m2, .int 0, .ref m3, .ref m4, .ref m5, .ref m6, .ref m7, .ref m8, .ref m9, .ref m10, .ref m11, .ref m12, .ref m13, .ref m14, .ref m15, .ref m16, .ref m17, .int 0, .ref m18, .ref m19, .ref m20, .ref m21, .ref m22, .ref m23, .ref m24]))]) (va_A [(h, .inr (4, [.int F, .int 0, .ref m0, .int 0, .int 0, .ref m1, .ref m2, .int 0, .ref m3, .ref m4, .ref m5, .ref m6, .ref m7, .ref m8, .ref m9, .ref m10, .ref m11, .ref m12, .ref m13, .ref m14, .ref m15, .ref m16, .ref m17, .int 0, .ref m18, .ref m19, .ref m20, .ref m21, .ref m22, .ref m23, .ref m24]))] sz)) 0 0 (va_A [(h, .inr (4, [.int F, .int 0, .ref m0, .int 0, .int 0, .ref m1, .ref m2, .int 0, .ref m3, .ref m4, .ref m5, .ref m6, .ref m7, .ref m8, .ref m9, .ref m10, .ref m11, .ref m12, .ref m13, .ref m14, .ref m15, .ref m16, .ref m17, .int 0, .ref m18, .ref m19, .ref m20, .ref m21, .ref m22, .ref m23, .ref m24]))] sz) := by
  refine Met.ofW (cc := xb_Mo_oneName) (maxL := 1) (ret := (some .int)) (by decide) rfl ?_
  intro p e s m args below meth c s₁ B hml hv
  obtain ⟨rfl, hsz, hP, hK, hD0⟩ := hv
  have hx := B.exec
  have hb := B.bytes
  have hr := B.returns
  have hT := x_hT B.pre
  have hown : s.vm.findClass xR_Mo = some m.cls := findClass_of_methodNamed B.named
  have hlocks := B.notSynchronized
  subst hsz
  have hD := hD0.self (sz := s.heap.size)
  generalize hAe : va_A [(h, .inr (4, [.int F, .int 0, .ref m0, .int 0, .int 0, .ref m1, .ref m2, .int 0, .ref m3, .ref m4, .ref m5, .ref m6, .ref m7, .ref m8, .ref m9, .ref m10, .ref m11, .ref m12, .ref m13, .ref m14, .ref m15, .ref m16, .ref m17, .int 0, .ref m18, .ref m19, .ref m20, .ref m21, .ref m22, .ref m23, .ref m24]))] s.heap.size = A at hD ⊢
  have hA : ∀ q : Nat, s.heap.size ≤ q → A q := fun q h => by rw [← hAe]; exact Or.inr h
  have hS : va_S A s.heap s.heap [] := va_S.rf
  have hP : va_P D xcl [(h, .inr (4, [.int F, .int 0, .ref m0, .int 0, .int 0, .ref m1, .ref m2, .int 0, .ref m3, .ref m4, .ref m5, .ref m6, .ref m7, .ref m8, .ref m9, .ref m10, .ref m11, .ref m12, .ref m13, .ref m14, .ref m15, .ref m16, .ref m17, .int 0, .ref m18, .ref m19, .ref m20, .ref m21, .ref m22, .ref m23, .ref m24]))] s.heap := hP
  have hl := lv_entry ([.ref h]) (n := 1) (Nat.le_of_ble_eq_true rfl)
  rw [lg_entry_eq]
  generalize (lg_sl ([.ref h]) ++ List.replicate (1 - (lg_sl ([.ref h])).length) Slot.unset).toArray = ls at hl ⊢
  have hl : lv_has ls 1 [(0, .ref h)] := hl
  refine lv_aload_n hx hb xd_Mo_oneName_0 rfl (lv_at hl 0 rfl) ?_
  have hPc := hP.sub (ws' := [(h, .inr (4, [.int F, .int 0, .ref m0, .int 0, .int 0, .ref m1, .ref m2, .int 0, .ref m3, .ref m4, .ref m5, .ref m6, .ref m7, .ref m8, .ref m9, .ref m10, .ref m11, .ref m12, .ref m13, .ref m14, .ref m15, .ref m16, .ref m17, .int 0, .ref m18, .ref m19, .ref m20, .ref m21, .ref m22, .ref m23, .ref m24]))]) [0] rfl
  have hDc := hD.sub (ws' := [(h, .inr (4, [.int F, .int 0, .ref m0, .int 0, .int 0, .ref m1, .ref m2, .int 0, .ref m3, .ref m4, .ref m5, .ref m6, .ref m7, .ref m8, .ref m9, .ref m10, .ref m11, .ref m12, .ref m13, .ref m14, .ref m15, .ref m16, .ref m17, .int 0, .ref m18, .ref m19, .ref m20, .ref m21, .ref m22, .ref m23, .ref m24]))]) [0] (by decide) rfl
  have hFc := va_free (wc := [(h, .inr (4, [.int F, .int 0, .ref m0, .int 0, .int 0, .ref m1, .ref m2, .int 0, .ref m3, .ref m4, .ref m5, .ref m6, .ref m7, .ref m8, .ref m9, .ref m10, .ref m11, .ref m12, .ref m13, .ref m14, .ref m15, .ref m16, .ref m17, .int 0, .ref m18, .ref m19, .ref m20, .ref m21, .ref m22, .ref m23, .ref m24]))]) hD hS hA [0] rfl
  have hkc : 0 + 0 ≤ 0 := Nat.le_of_ble_eq_true rfl
  have hks : 0 + 0 ≤ 0 := Nat.le_of_ble_eq_true rfl
  refine va_callv (va_runV (As := []) (rest := []) ⟨hx, hb, hml, hown, hT⟩ (xc_Mo_split l D kA s.heap.size h m0 m1 m2 m3 m4 m5 m6 m7 m8 m9 m10 m11 m12 m13 m14 m15 m16 m17 m18 m19 m20 m21 m22 m23 m24 F) (cwV 0 hT (wT_V xk_119 xk_120 xk_121 xk_122 xk_118) rfl rfl rfl (by decide +kernel) ⟨Nat.le_of_ble_eq_true rfl, Nat.le_of_ble_eq_true rfl⟩) (x_preV hK hPc hDc 0 rfl rfl) rfl rfl hl.1 rfl (lv_room (Nat.le_of_ble_eq_true rfl)) xd_Mo_oneName_1 ⟨hkc, hks⟩) hS (fun q _ h => hFc q h) hFc (fun u t H1 locs ht hvm hpost hB hz1 hk1 hS => ?_)
  obtain ⟨hP1, hD1⟩ := hB
  rw [ht] at hP1
  obtain ⟨hP, hD⟩ := va_join (wr := []) (w1 := [(h, .inr (4, [.int F, .int 0, .ref m0, .int 0, .int 0, .ref m1, .ref m2, .int 0, .ref m3, .ref m4, .ref m5, .ref m6, .ref m7, .ref m8, .ref m9, .ref m10, .ref m11, .ref m12, .ref m13, .ref m14, .ref m15, .ref m16, .ref m17, .int 0, .ref m18, .ref m19, .ref m20, .ref m21, .ref m22, .ref m23, .ref m24]))]) hP hD [0] [] rfl rfl (by decide) (by decide) hk1 hFc hP1 hD1
  generalize H1 = H at hP hS ⊢
  have hP : va_P D xcl [(h, .inr (4, [.int F, .int 0, .ref m0, .int 0, .int 0, .ref m1, .ref m2, .int 0, .ref m3, .ref m4, .ref m5, .ref m6, .ref m7, .ref m8, .ref m9, .ref m10, .ref m11, .ref m12, .ref m13, .ref m14, .ref m15, .ref m16, .ref m17, .int 0, .ref m18, .ref m19, .ref m20, .ref m21, .ref m22, .ref m23, .ref m24]))] H := hP
  have hD : va_D A [(h, .inr (4, [.int F, .int 0, .ref m0, .int 0, .int 0, .ref m1, .ref m2, .int 0, .ref m3, .ref m4, .ref m5, .ref m6, .ref m7, .ref m8, .ref m9, .ref m10, .ref m11, .ref m12, .ref m13, .ref m14, .ref m15, .ref m16, .ref m17, .int 0, .ref m18, .ref m19, .ref m20, .ref m21, .ref m22, .ref m23, .ref m24]))] := hD
  refine lv_aload_n hx hb xd_Mo_oneName_4 rfl (lv_at hl 0 rfl) ?_
  refine va_get (D := D) (ci := 4) (v := .int 0) (C := xR_Mo) (T := xT_Mo) (N := 31) hx hb hT xi_Mo hown hK.1 hP 0 rfl rfl 4 (by decide) (hT _ xk_117) (fun _ h9 => h9) rfl xd_Mo_oneName_5 ?_
  refine lv_iconst (v := 1) hx hb xd_Mo_oneName_8 (by decide) ?_
  refine lv_icmp_ne (tgt := 20) hx hb xd_Mo_oneName_9 (by decide) (fun _ => ?_) (fun hc => absurd hc (by decide))
  refine lv_iconst (v := 0) hx hb xd_Mo_oneName_20 (by decide) ?_
  have hP9 := hP.sub (ws' := [(h, .inr (4, [.int F, .int 0, .ref m0, .int 0, .int 0, .ref m1, .ref m2, .int 0, .ref m3, .ref m4, .ref m5, .ref m6, .ref m7, .ref m8, .ref m9, .ref m10, .ref m11, .ref m12, .ref m13, .ref m14, .ref m15, .ref m16, .ref m17, .int 0, .ref m18, .ref m19, .ref m20, .ref m21, .ref m22, .ref m23, .ref m24]))]) [0] rfl
  have hD9 := hD.sub (ws' := [(h, .inr (4, [.int F, .int 0, .ref m0, .int 0, .int 0, .ref m1, .ref m2, .int 0, .ref m3, .ref m4, .ref m5, .ref m6, .ref m7, .ref m8, .ref m9, .ref m10, .ref m11, .ref m12, .ref m13, .ref m14, .ref m15, .ref m16, .ref m17, .int 0, .ref m18, .ref m19, .ref m20, .ref m21, .ref m22, .ref m23, .ref m24]))]) [0] (by decide) rfl
  refine W.widen (k := 0) (n := 0) (Nat.le_of_ble_eq_true rfl) (Nat.le_of_ble_eq_true rfl) ?_
  exact W.iret (v := 0) hx hb hr (fun t ht hW => ⟨⟨0, (), rfl, rfl, by rw [ht]; exact hP9, hD9⟩, hS.F ht⟩) hS.2.2 xd_Mo_oneName_21
set_option maxHeartbeats 4000000 in
set_option maxRecDepth 100000 in
theorem xc_Mo_load (l : Launch) (D : va_G) (kA : Nat → ClassId) (sz : Nat) (h : Nat) (m0 : Nat) (m1 : Nat) (m2 : Nat) (m3 : Nat) (m4 : Nat) (m5 : Nat) (m6 : Nat) (m7 : Nat) (m8 : Nat) (m9 : Nat) (m10 : Nat) (m11 : Nat) (m12 : Nat) (m13 : Nat) (m14 : Nat) (m15 : Nat) (m16 : Nat) (m17 : Nat) (m18 : Nat) (m19 : Nat) (m20 : Nat) (m21 : Nat) (m22 : Nat) (m23 : Nat) (m24 : Nat) (F : Int32) (n : Int32) (k : Int32) : Met l xy_Mo_load (.code xy_Mo_load xb_Mo_load 7 (some .int) :: wT) { frames := 2, cells := 0, slots := 0, locals := 43 } (va_Pc [.ref h, .int n, .int k] (xPre D kA sz [(h, .inr (4, [.int F, .int 0, .ref m0, .int 0, .int 0, .ref m1, .ref m2, .int 0, .ref m3, .ref m4, .ref m5, .ref m6, .ref m7, .ref m8, .ref m9, .ref m10, .ref m11, .ref m12, .ref m13, .ref m14, .ref m15, .ref m16, .ref m17, .int 0, .ref m18, .ref m19, .ref m20, .ref m21, .ref m22, .ref m23, .ref m24]))])) (va_Qi (fun (r : Int32) (u : Unit) => r = 0) (fun (u : Unit) t => va_P D xcl [(h, .inr (4, [.int 1, .int 0, .ref m0, .int 0, .int 0, .ref m1, .ref m2, .int 0, .ref m3, .ref m4, .ref m5, .ref m6, .ref m7, .ref m8, .ref m9, .ref m10, .ref m11, .ref m12, .ref m13, .ref m14, .ref m15, .ref m16, .ref m17, .int 0, .ref m18, .ref m19, .ref m20, .ref m21, .ref m22, .ref m23, .ref m24]))] t.heap ∧ va_D (va_A [(h, .inr (4, [.int F, .int 0, .ref m0, .int 0, .int 0, .ref m1, .ref m2, .int 0, .ref m3, .ref m4, .ref m5, .ref m6, .ref m7, .ref m8, .ref m9, .ref m10, .ref m11, .ref m12, .ref m13, .ref m14, .ref m15, .ref m16, .ref m17, .int 0, .ref m18, .ref m19, .ref m20, .ref m21, .ref m22, .ref m23, .ref m24]))] sz) [(h, .inr (4, [.int 1, .int 0, .ref m0, .int 0, .int 0, .ref m1, .ref m2, .int 0, .ref m3, .ref m4, .ref m5, .ref m6, .ref m7, .ref m8, .ref m9, .ref m10, .ref m11, .ref m12, .ref m13, .ref m14, .ref m15, .ref m16, .ref m17, .int 0, .ref m18, .ref m19, .ref m20, .ref m21, .ref m22, .ref m23, .ref m24]))]) (va_A [(h, .inr (4, [.int F, .int 0, .ref m0, .int 0, .int 0, .ref m1, .ref m2, .int 0, .ref m3, .ref m4, .ref m5, .ref m6, .ref m7, .ref m8, .ref m9, .ref m10, .ref m11, .ref m12, .ref m13, .ref m14, .ref m15, .ref m16, .ref m17, .int 0, .ref m18, .ref m19, .ref m20, .ref m21, .ref m22, .ref m23, .ref m24]))] sz)) 0 0 (va_A [(h, .inr (4, [.int F, .int 0, .ref m0, .int 0, .int 0, .ref m1, .ref m2, .int 0, .ref m3, .ref m4, .ref m5, .ref m6, .ref m7, .ref m8, .ref m9, .ref m10, .ref m11, .ref m12, .ref m13, .ref m14, .ref m15, .ref m16, .ref m17, .int 0, .ref m18, .ref m19, .ref m20, .ref m21, .ref m22, .ref m23, .ref m24]))] sz) := by
  refine Met.ofW (cc := xb_Mo_load) (maxL := 7) (ret := (some .int)) (by decide) rfl ?_
  intro p e s m args below meth c s₁ B hml hv
  obtain ⟨rfl, hsz, hP, hK, hD0⟩ := hv
  have hx := B.exec
  have hb := B.bytes
  have hr := B.returns
  have hT := x_hT B.pre
  have hown : s.vm.findClass xR_Mo = some m.cls := findClass_of_methodNamed B.named
  have hlocks := B.notSynchronized
  subst hsz
  have hD := hD0.self (sz := s.heap.size)
  generalize hAe : va_A [(h, .inr (4, [.int F, .int 0, .ref m0, .int 0, .int 0, .ref m1, .ref m2, .int 0, .ref m3, .ref m4, .ref m5, .ref m6, .ref m7, .ref m8, .ref m9, .ref m10, .ref m11, .ref m12, .ref m13, .ref m14, .ref m15, .ref m16, .ref m17, .int 0, .ref m18, .ref m19, .ref m20, .ref m21, .ref m22, .ref m23, .ref m24]))] s.heap.size = A at hD ⊢
  have hA : ∀ q : Nat, s.heap.size ≤ q → A q := fun q h => by rw [← hAe]; exact Or.inr h
  have hS : va_S A s.heap s.heap [] := va_S.rf
  have hP : va_P D xcl [(h, .inr (4, [.int F, .int 0, .ref m0, .int 0, .int 0, .ref m1, .ref m2, .int 0, .ref m3, .ref m4, .ref m5, .ref m6, .ref m7, .ref m8, .ref m9, .ref m10, .ref m11, .ref m12, .ref m13, .ref m14, .ref m15, .ref m16, .ref m17, .int 0, .ref m18, .ref m19, .ref m20, .ref m21, .ref m22, .ref m23, .ref m24]))] s.heap := hP
  have hl := lv_entry ([.ref h, .int n, .int k]) (n := 7) (Nat.le_of_ble_eq_true rfl)
  rw [lg_entry_eq]
  generalize (lg_sl ([.ref h, .int n, .int k]) ++ List.replicate (7 - (lg_sl ([.ref h, .int n, .int k])).length) Slot.unset).toArray = ls at hl ⊢
  have hl : lv_has ls 7 [(0, .ref h), (1, .int n), (2, .int k)] := hl
  refine lv_aload_n hx hb xd_Mo_load_0 rfl (lv_at hl 0 rfl) ?_
  refine lv_iconst (v := 0) hx hb xd_Mo_load_1 (by decide) ?_
  refine va_put (D := D) (ci := 4) (v := .int 0) (ty := .int) (C := xR_Mo) (T := xT_Mo) (N := 31) hx hb hT xi_Mo xt_Mo xt_Mo_ok xn_Mo hown hK.1 hP hD hS 0 rfl rfl 0 (by decide) (hT _ xk_115) (fun _ h9 => h9) rfl (by decide +kernel) rfl rfl (Nat.le_of_ble_eq_true rfl) xd_Mo_load_2 (fun H locs hP hD hS => ?_)
  have hP : va_P D xcl [(h, .inr (4, [.int 0, .int 0, .ref m0, .int 0, .int 0, .ref m1, .ref m2, .int 0, .ref m3, .ref m4, .ref m5, .ref m6, .ref m7, .ref m8, .ref m9, .ref m10, .ref m11, .ref m12, .ref m13, .ref m14, .ref m15, .ref m16, .ref m17, .int 0, .ref m18, .ref m19, .ref m20, .ref m21, .ref m22, .ref m23, .ref m24]))] H := hP
  have hD : va_D A [(h, .inr (4, [.int 0, .int 0, .ref m0, .int 0, .int 0, .ref m1, .ref m2, .int 0, .ref m3, .ref m4, .ref m5, .ref m6, .ref m7, .ref m8, .ref m9, .ref m10, .ref m11, .ref m12, .ref m13, .ref m14, .ref m15, .ref m16, .ref m17, .int 0, .ref m18, .ref m19, .ref m20, .ref m21, .ref m22, .ref m23, .ref m24]))] := hD
  refine lv_aload_n hx hb xd_Mo_load_5 rfl (lv_at hl 0 rfl) ?_
  have hPc := hP.sub (ws' := [(h, .inr (4, [.int 0, .int 0, .ref m0, .int 0, .int 0, .ref m1, .ref m2, .int 0, .ref m3, .ref m4, .ref m5, .ref m6, .ref m7, .ref m8, .ref m9, .ref m10, .ref m11, .ref m12, .ref m13, .ref m14, .ref m15, .ref m16, .ref m17, .int 0, .ref m18, .ref m19, .ref m20, .ref m21, .ref m22, .ref m23, .ref m24]))]) [0] rfl
  have hDc := hD.sub (ws' := [(h, .inr (4, [.int 0, .int 0, .ref m0, .int 0, .int 0, .ref m1, .ref m2, .int 0, .ref m3, .ref m4, .ref m5, .ref m6, .ref m7, .ref m8, .ref m9, .ref m10, .ref m11, .ref m12, .ref m13, .ref m14, .ref m15, .ref m16, .ref m17, .int 0, .ref m18, .ref m19, .ref m20, .ref m21, .ref m22, .ref m23, .ref m24]))]) [0] (by decide) rfl
  have hFc := va_free (wc := [(h, .inr (4, [.int 0, .int 0, .ref m0, .int 0, .int 0, .ref m1, .ref m2, .int 0, .ref m3, .ref m4, .ref m5, .ref m6, .ref m7, .ref m8, .ref m9, .ref m10, .ref m11, .ref m12, .ref m13, .ref m14, .ref m15, .ref m16, .ref m17, .int 0, .ref m18, .ref m19, .ref m20, .ref m21, .ref m22, .ref m23, .ref m24]))]) hD hS hA [0] rfl
  have hkc : 0 + 0 ≤ 0 := Nat.le_of_ble_eq_true rfl
  have hks : 0 + 0 ≤ 0 := Nat.le_of_ble_eq_true rfl
  refine va_calli (va_runV (As := []) (rest := []) ⟨hx, hb, hml, hown, hT⟩ (xc_Mo_oneName l D kA H.size h m0 m1 m2 m3 m4 m5 m6 m7 m8 m9 m10 m11 m12 m13 m14 m15 m16 m17 m18 m19 m20 m21 m22 m23 m24 0) (cwV 0 hT (wT_V xk_139 xk_140 xk_141 xk_122 xk_138) rfl rfl rfl (by decide +kernel) ⟨Nat.le_of_ble_eq_true rfl, Nat.le_of_ble_eq_true rfl⟩) (x_preV hK hPc hDc 0 rfl rfl) rfl rfl hl.1 rfl (lv_room (Nat.le_of_ble_eq_true rfl)) xd_Mo_load_6 ⟨hkc, hks⟩) hS (fun q _ h => hFc q h) hFc (fun r u t H1 locs ht hvm hpost hB hz1 hk1 hS => ?_)
  have hpost : r = 0 := hpost
  subst hpost
  obtain ⟨hP1, hD1⟩ := hB
  rw [ht] at hP1
  obtain ⟨hP, hD⟩ := va_join (wr := []) (w1 := [(h, .inr (4, [.int 0, .int 0, .ref m0, .int 0, .int 0, .ref m1, .ref m2, .int 0, .ref m3, .ref m4, .ref m5, .ref m6, .ref m7, .ref m8, .ref m9, .ref m10, .ref m11, .ref m12, .ref m13, .ref m14, .ref m15, .ref m16, .ref m17, .int 0, .ref m18, .ref m19, .ref m20, .ref m21, .ref m22, .ref m23, .ref m24]))]) hP hD [0] [] rfl rfl (by decide) (by decide) hk1 hFc hP1 hD1
  generalize H1 = H at hP hS ⊢
  have hP : va_P D xcl [(h, .inr (4, [.int 0, .int 0, .ref m0, .int 0, .int 0, .ref m1, .ref m2, .int 0, .ref m3, .ref m4, .ref m5, .ref m6, .ref m7, .ref m8, .ref m9, .ref m10, .ref m11, .ref m12, .ref m13, .ref m14, .ref m15, .ref m16, .ref m17, .int 0, .ref m18, .ref m19, .ref m20, .ref m21, .ref m22, .ref m23, .ref m24]))] H := hP
  have hD : va_D A [(h, .inr (4, [.int 0, .int 0, .ref m0, .int 0, .int 0, .ref m1, .ref m2, .int 0, .ref m3, .ref m4, .ref m5, .ref m6, .ref m7, .ref m8, .ref m9, .ref m10, .ref m11, .ref m12, .ref m13, .ref m14, .ref m15, .ref m16, .ref m17, .int 0, .ref m18, .ref m19, .ref m20, .ref m21, .ref m22, .ref m23, .ref m24]))] := hD
  refine lv_istore_n hx hb xd_Mo_load_9 rfl hl (Nat.le_of_ble_eq_true rfl) rfl (fun ls hl => ?_)
  have hl : lv_has ls 7 [(3, .int 0), (0, .ref h), (1, .int n), (2, .int k)] := hl
  refine lv_aload_n hx hb xd_Mo_load_10 rfl (lv_at hl 1 rfl) ?_
  refine lv_iload_n hx hb xd_Mo_load_11 rfl (lv_at hl 2 rfl) ?_
  refine lv_iload_n hx hb xd_Mo_load_12 rfl (lv_at hl 3 rfl) ?_
  have hPc := hP.sub (ws' := [(h, .inr (4, [.int 0, .int 0, .ref m0, .int 0, .int 0, .ref m1, .ref m2, .int 0, .ref m3, .ref m4, .ref m5, .ref m6, .ref m7, .ref m8, .ref m9, .ref m10, .ref m11, .ref m12, .ref m13, .ref m14, .ref m15, .ref m16, .ref m17, .int 0, .ref m18, .ref m19, .ref m20, .ref m21, .ref m22, .ref m23, .ref m24]))]) [0] rfl
  have hDc := hD.sub (ws' := [(h, .inr (4, [.int 0, .int 0, .ref m0, .int 0, .int 0, .ref m1, .ref m2, .int 0, .ref m3, .ref m4, .ref m5, .ref m6, .ref m7, .ref m8, .ref m9, .ref m10, .ref m11, .ref m12, .ref m13, .ref m14, .ref m15, .ref m16, .ref m17, .int 0, .ref m18, .ref m19, .ref m20, .ref m21, .ref m22, .ref m23, .ref m24]))]) [0] (by decide) rfl
  have hFc := va_free (wc := [(h, .inr (4, [.int 0, .int 0, .ref m0, .int 0, .int 0, .ref m1, .ref m2, .int 0, .ref m3, .ref m4, .ref m5, .ref m6, .ref m7, .ref m8, .ref m9, .ref m10, .ref m11, .ref m12, .ref m13, .ref m14, .ref m15, .ref m16, .ref m17, .int 0, .ref m18, .ref m19, .ref m20, .ref m21, .ref m22, .ref m23, .ref m24]))]) hD hS hA [0] rfl
  have hkc : 0 + 0 ≤ 0 := Nat.le_of_ble_eq_true rfl
  have hks : 0 + 0 ≤ 0 := Nat.le_of_ble_eq_true rfl
  refine va_calli (va_runV (As := [.int n, .int k]) (rest := []) ⟨hx, hb, hml, hown, hT⟩ (xc_Mo_moduleOf l D kA H.size h m0 m1 m2 m3 m4 m5 m6 m7 m8 m9 m10 m11 m12 m13 m14 m15 m16 m17 m18 m19 m20 m21 m22 m23 m24 0 n k) (cwV 2 hT (wT_V xk_135 xk_136 xk_137 xk_122 xk_134) rfl rfl rfl (by decide +kernel) ⟨Nat.le_of_ble_eq_true rfl, Nat.le_of_ble_eq_true rfl⟩) (x_preV hK hPc hDc 0 rfl rfl) rfl rfl hl.1 rfl (lv_room (Nat.le_of_ble_eq_true rfl)) xd_Mo_load_13 ⟨hkc, hks⟩) hS (fun q _ h => hFc q h) hFc (fun r u t H1 locs ht hvm hpost hB hz1 hk1 hS => ?_)
  have hpost : r = (-1) := hpost
  subst hpost
  obtain ⟨hP1, hD1⟩ := hB
  rw [ht] at hP1
  obtain ⟨hP, hD⟩ := va_join (wr := []) (w1 := [(h, .inr (4, [.int 0, .int 0, .ref m0, .int 0, .int 0, .ref m1, .ref m2, .int 0, .ref m3, .ref m4, .ref m5, .ref m6, .ref m7, .ref m8, .ref m9, .ref m10, .ref m11, .ref m12, .ref m13, .ref m14, .ref m15, .ref m16, .ref m17, .int 0, .ref m18, .ref m19, .ref m20, .ref m21, .ref m22, .ref m23, .ref m24]))]) hP hD [0] [] rfl rfl (by decide) (by decide) hk1 hFc hP1 hD1
  generalize H1 = H at hP hS ⊢
  have hP : va_P D xcl [(h, .inr (4, [.int 0, .int 0, .ref m0, .int 0, .int 0, .ref m1, .ref m2, .int 0, .ref m3, .ref m4, .ref m5, .ref m6, .ref m7, .ref m8, .ref m9, .ref m10, .ref m11, .ref m12, .ref m13, .ref m14, .ref m15, .ref m16, .ref m17, .int 0, .ref m18, .ref m19, .ref m20, .ref m21, .ref m22, .ref m23, .ref m24]))] H := hP
  have hD : va_D A [(h, .inr (4, [.int 0, .int 0, .ref m0, .int 0, .int 0, .ref m1, .ref m2, .int 0, .ref m3, .ref m4, .ref m5, .ref m6, .ref m7, .ref m8, .ref m9, .ref m10, .ref m11, .ref m12, .ref m13, .ref m14, .ref m15, .ref m16, .ref m17, .int 0, .ref m18, .ref m19, .ref m20, .ref m21, .ref m22, .ref m23, .ref m24]))] := hD
  refine lv_istore hx hb xd_Mo_load_16 hl (Nat.le_of_ble_eq_true rfl) rfl (fun ls hl => ?_)
  have hl : lv_has ls 7 [(4, .int (-1)), (3, .int 0), (0, .ref h), (1, .int n), (2, .int k)] := hl
  refine lv_iload_n hx hb xd_Mo_load_18 rfl (lv_at hl 1 rfl) ?_
  refine lv_if_eq (tgt := 27) hx hb xd_Mo_load_19 (by decide) (fun _ => ?_) (fun hc => absurd (by decide) hc)
  refine lv_aload_n hx hb xd_Mo_load_27 rfl (lv_at hl 2 rfl) ?_
  refine lv_iconst (v := 1) hx hb xd_Mo_load_28 (by decide) ?_
  have hPc := hP.sub (ws' := [(h, .inr (4, [.int 0, .int 0, .ref m0, .int 0, .int 0, .ref m1, .ref m2, .int 0, .ref m3, .ref m4, .ref m5, .ref m6, .ref m7, .ref m8, .ref m9, .ref m10, .ref m11, .ref m12, .ref m13, .ref m14, .ref m15, .ref m16, .ref m17, .int 0, .ref m18, .ref m19, .ref m20, .ref m21, .ref m22, .ref m23, .ref m24]))]) [0] rfl
  have hDc := hD.sub (ws' := [(h, .inr (4, [.int 0, .int 0, .ref m0, .int 0, .int 0, .ref m1, .ref m2, .int 0, .ref m3, .ref m4, .ref m5, .ref m6, .ref m7, .ref m8, .ref m9, .ref m10, .ref m11, .ref m12, .ref m13, .ref m14, .ref m15, .ref m16, .ref m17, .int 0, .ref m18, .ref m19, .ref m20, .ref m21, .ref m22, .ref m23, .ref m24]))]) [0] (by decide) rfl
  have hFc := va_free (wc := [(h, .inr (4, [.int 0, .int 0, .ref m0, .int 0, .int 0, .ref m1, .ref m2, .int 0, .ref m3, .ref m4, .ref m5, .ref m6, .ref m7, .ref m8, .ref m9, .ref m10, .ref m11, .ref m12, .ref m13, .ref m14, .ref m15, .ref m16, .ref m17, .int 0, .ref m18, .ref m19, .ref m20, .ref m21, .ref m22, .ref m23, .ref m24]))]) hD hS hA [0] rfl
  have hkc : 0 + 0 ≤ 0 := Nat.le_of_ble_eq_true rfl
  have hks : 0 + 0 ≤ 0 := Nat.le_of_ble_eq_true rfl
  refine va_calli (va_runV (As := [.int 1]) (rest := []) ⟨hx, hb, hml, hown, hT⟩ (xc_Mo_fails l D kA H.size h m0 m1 m2 m3 m4 m5 m6 m7 m8 m9 m10 m11 m12 m13 m14 m15 m16 m17 m18 m19 m20 m21 m22 m23 m24 0 1) (cwV 1 hT (wT_V xk_126 xk_127 xk_128 xk_122 xk_125) rfl rfl rfl (by decide +kernel) ⟨Nat.le_of_ble_eq_true rfl, Nat.le_of_ble_eq_true rfl⟩) (x_preV hK hPc hDc 0 rfl rfl) rfl rfl hl.1 rfl (lv_room (Nat.le_of_ble_eq_true rfl)) xd_Mo_load_29 ⟨hkc, hks⟩) hS (fun q _ h => hFc q h) hFc (fun r u t H1 locs ht hvm hpost hB hz1 hk1 hS => ?_)
  have hpost : r = 0 := hpost
  subst hpost
  obtain ⟨hP1, hD1⟩ := hB
  rw [ht] at hP1
  obtain ⟨hP, hD⟩ := va_join (wr := []) (w1 := [(h, .inr (4, [.int 1, .int 0, .ref m0, .int 0, .int 0, .ref m1, .ref m2, .int 0, .ref m3, .ref m4, .ref m5, .ref m6, .ref m7, .ref m8, .ref m9, .ref m10, .ref m11, .ref m12, .ref m13, .ref m14, .ref m15, .ref m16, .ref m17, .int 0, .ref m18, .ref m19, .ref m20, .ref m21, .ref m22, .ref m23, .ref m24]))]) hP hD [0] [] rfl rfl (by decide) (by decide) hk1 hFc hP1 hD1
  generalize H1 = H at hP hS ⊢
  have hP : va_P D xcl [(h, .inr (4, [.int 1, .int 0, .ref m0, .int 0, .int 0, .ref m1, .ref m2, .int 0, .ref m3, .ref m4, .ref m5, .ref m6, .ref m7, .ref m8, .ref m9, .ref m10, .ref m11, .ref m12, .ref m13, .ref m14, .ref m15, .ref m16, .ref m17, .int 0, .ref m18, .ref m19, .ref m20, .ref m21, .ref m22, .ref m23, .ref m24]))] H := hP
  have hD : va_D A [(h, .inr (4, [.int 1, .int 0, .ref m0, .int 0, .int 0, .ref m1, .ref m2, .int 0, .ref m3, .ref m4, .ref m5, .ref m6, .ref m7, .ref m8, .ref m9, .ref m10, .ref m11, .ref m12, .ref m13, .ref m14, .ref m15, .ref m16, .ref m17, .int 0, .ref m18, .ref m19, .ref m20, .ref m21, .ref m22, .ref m23, .ref m24]))] := hD
  have hP9 := hP.sub (ws' := [(h, .inr (4, [.int 1, .int 0, .ref m0, .int 0, .int 0, .ref m1, .ref m2, .int 0, .ref m3, .ref m4, .ref m5, .ref m6, .ref m7, .ref m8, .ref m9, .ref m10, .ref m11, .ref m12, .ref m13, .ref m14, .ref m15, .ref m16, .ref m17, .int 0, .ref m18, .ref m19, .ref m20, .ref m21, .ref m22, .ref m23, .ref m24]))]) [0] rfl
  have hD9 := hD.sub (ws' := [(h, .inr (4, [.int 1, .int 0, .ref m0, .int 0, .int 0, .ref m1, .ref m2, .int 0, .ref m3, .ref m4, .ref m5, .ref m6, .ref m7, .ref m8, .ref m9, .ref m10, .ref m11, .ref m12, .ref m13, .ref m14, .ref m15, .ref m16, .ref m17, .int 0, .ref m18, .ref m19, .ref m20, .ref m21, .ref m22, .ref m23, .ref m24]))]) [0] (by decide) rfl
  refine W.widen (k := 0) (n := 0) (Nat.le_of_ble_eq_true rfl) (Nat.le_of_ble_eq_true rfl) ?_
  exact W.iret (v := 0) hx hb hr (fun t ht hW => ⟨⟨0, (), rfl, rfl, by rw [ht]; exact hP9, hD9⟩, hS.F ht⟩) hS.2.2 xd_Mo_load_32
set_option maxHeartbeats 4000000 in
set_option maxRecDepth 100000 in
theorem xc_Mo_peek (l : Launch) (D : va_G) (kA : Nat → ClassId) (sz : Nat) (h : Nat) (m0 : Nat) (m1 : Nat) (m2 : Nat) (m3 : Nat) (m4 : Nat) (m5 : Nat) (m6 : Nat) (m7 : Nat) (m8 : Nat) (m9 : Nat) (m10 : Nat) (m11 : Nat) (m12 : Nat) (m13 : Nat) (m14 : Nat) (m15 : Nat) (m16 : Nat) (m17 : Nat) (m18 : Nat) (m19 : Nat) (m20 : Nat) (m21 : Nat) (m22 : Nat) (m23 : Nat) (m24 : Nat) (F : Int32) (n : Int32) (k : Int32) (n2 : Int32) (k2 : Int32) : Met l xy_Mo_peek (.code xy_Mo_peek xb_Mo_peek 8 (some .boolean) :: wT) { frames := 2, cells := 0, slots := 0, locals := 43 } (va_Pc [.ref h, .int n, .int k, .int n2, .int k2] (xPre D kA sz [(h, .inr (4, [.int F, .int 0, .ref m0, .int 0, .int 0, .ref m1, .ref m2, .int 0, .ref m3, .ref m4, .ref m5, .ref m6, .ref m7, .ref m8, .ref m9, .ref m10, .ref m11, .ref m12, .ref m13, .ref m14, .ref m15, .ref m16, .ref m17, .int 0, .ref m18, .ref m19, .ref m20, .ref m21, .ref m22, .ref m23, .ref m24]))])) (va_Qi (fun (r : Int32) (u : Unit) => r = 0) (fun (u : Unit) t => va_P D xcl [(h, .inr (4, [.int 1, .int 0, .ref m0, .int 0, .int 0, .ref m1, .ref m2, .int 0, .ref m3, .ref m4, .ref m5, .ref m6, .ref m7, .ref m8, .ref m9, .ref m10, .ref m11, .ref m12, .ref m13, .ref m14, .ref m15, .ref m16, .ref m17, .int 0, .ref m18, .ref m19, .ref m20, .ref m21, .ref m22, .ref m23, .ref m24]))] t.heap ∧ va_D (va_A [(h, .inr (4, [.int F, .int 0, .ref m0, .int 0, .int 0, .ref m1, .ref m2, .int 0, .ref m3, .ref m4, .ref m5, .ref m6, .ref m7, .ref m8, .ref m9, .ref m10, .ref m11, .ref m12, .ref m13, .ref m14, .ref m15, .ref m16, .ref m17, .int 0, .ref m18, .ref m19, .ref m20, .ref m21, .ref m22, .ref m23, .ref m24]))] sz) [(h, .inr (4, [.int 1, .int 0, .ref m0, .int 0, .int 0, .ref m1, .ref m2, .int 0, .ref m3, .ref m4, .ref m5, .ref m6, .ref m7, .ref m8, .ref m9, .ref m10, .ref m11, .ref m12, .ref m13, .ref m14, .ref m15, .ref m16, .ref m17, .int 0, .ref m18, .ref m19, .ref m20, .ref m21, .ref m22, .ref m23, .ref m24]))]) (va_A [(h, .inr (4, [.int F, .int 0, .ref m0, .int 0, .int 0, .ref m1, .ref m2, .int 0, .ref m3, .ref m4, .ref m5, .ref m6, .ref m7, .ref m8, .ref m9, .ref m10, .ref m11, .ref m12, .ref m13, .ref m14, .ref m15, .ref m16, .ref m17, .int 0, .ref m18, .ref m19, .ref m20, .ref m21, .ref m22, .ref m23, .ref m24]))] sz)) 0 0 (va_A [(h, .inr (4, [.int F, .int 0, .ref m0, .int 0, .int 0, .ref m1, .ref m2, .int 0, .ref m3, .ref m4, .ref m5, .ref m6, .ref m7, .ref m8, .ref m9, .ref m10, .ref m11, .ref m12, .ref m13, .ref m14, .ref m15, .ref m16, .ref m17, .int 0, .ref m18, .ref m19, .ref m20, .ref m21, .ref m22, .ref m23, .ref m24]))] sz) := by
  refine Met.ofW (cc := xb_Mo_peek) (maxL := 8) (ret := (some .boolean)) (by decide) rfl ?_
  intro p e s m args below meth c s₁ B hml hv
  obtain ⟨rfl, hsz, hP, hK, hD0⟩ := hv
  have hx := B.exec
  have hb := B.bytes
  have hr := B.returns
  have hT := x_hT B.pre
  have hown : s.vm.findClass xR_Mo = some m.cls := findClass_of_methodNamed B.named
  have hlocks := B.notSynchronized
  subst hsz
  have hD := hD0.self (sz := s.heap.size)
  generalize hAe : va_A [(h, .inr (4, [.int F, .int 0, .ref m0, .int 0, .int 0, .ref m1, .ref m2, .int 0, .ref m3, .ref m4, .ref m5, .ref m6, .ref m7, .ref m8, .ref m9, .ref m10, .ref m11, .ref m12, .ref m13, .ref m14, .ref m15, .ref m16, .ref m17, .int 0, .ref m18, .ref m19, .ref m20, .ref m21, .ref m22, .ref m23, .ref m24]))] s.heap.size = A at hD ⊢
  have hA : ∀ q : Nat, s.heap.size ≤ q → A q := fun q h => by rw [← hAe]; exact Or.inr h
  have hS : va_S A s.heap s.heap [] := va_S.rf
  have hP : va_P D xcl [(h, .inr (4, [.int F, .int 0, .ref m0, .int 0, .int 0, .ref m1, .ref m2, .int 0, .ref m3, .ref m4, .ref m5, .ref m6, .ref m7, .ref m8, .ref m9, .ref m10, .ref m11, .ref m12, .ref m13, .ref m14, .ref m15, .ref m16, .ref m17, .int 0, .ref m18, .ref m19, .ref m20, .ref m21, .ref m22, .ref m23, .ref m24]))] s.heap := hP
  have hl := lv_entry ([.ref h, .int n, .int k, .int n2, .int k2]) (n := 8) (Nat.le_of_ble_eq_true rfl)
  rw [lg_entry_eq]
  generalize (lg_sl ([.ref h, .int n, .int k, .int n2, .int k2]) ++ List.replicate (8 - (lg_sl ([.ref h, .int n, .int k, .int n2, .int k2])).length) Slot.unset).toArray = ls at hl ⊢
  have hl : lv_has ls 8 [(0, .ref h), (1, .int n), (2, .int k), (3, .int n2), (4, .int k2)] := hl
  refine lv_aload_n hx hb xd_Mo_peek_0 rfl (lv_at hl 0 rfl) ?_
  refine lv_iconst (v := 0) hx hb xd_Mo_peek_1 (by decide) ?_
  refine va_put (D := D) (ci := 4) (v := .int 0) (ty := .int) (C := xR_Mo) (T := xT_Mo) (N := 31) hx hb hT xi_Mo xt_Mo xt_Mo_ok xn_Mo hown hK.1 hP hD hS 0 rfl rfl 0 (by decide) (hT _ xk_115) (fun _ h9 => h9) rfl (by decide +kernel) rfl rfl (Nat.le_of_ble_eq_true rfl) xd_Mo_peek_2 (fun H locs hP hD hS => ?_)
  have hP : va_P D xcl [(h, .inr (4, [.int 0, .int 0, .ref m0, .int 0, .int 0, .ref m1, .ref m2, .int 0, .ref m3, .ref m4, .ref m5, .ref m6, .ref m7, .ref m8, .ref m9, .ref m10, .ref m11, .ref m12, .ref m13, .ref m14, .ref m15, .ref m16, .ref m17, .int 0, .ref m18, .ref m19, .ref m20, .ref m21, .ref m22, .ref m23, .ref m24]))] H := hP
  have hD : va_D A [(h, .inr (4, [.int 0, .int 0, .ref m0, .int 0, .int 0, .ref m1, .ref m2, .int 0, .ref m3, .ref m4, .ref m5, .ref m6, .ref m7, .ref m8, .ref m9, .ref m10, .ref m11, .ref m12, .ref m13, .ref m14, .ref m15, .ref m16, .ref m17, .int 0, .ref m18, .ref m19, .ref m20, .ref m21, .ref m22, .ref m23, .ref m24]))] := hD
  refine lv_aload_n hx hb xd_Mo_peek_5 rfl (lv_at hl 0 rfl) ?_
  have hPc := hP.sub (ws' := [(h, .inr (4, [.int 0, .int 0, .ref m0, .int 0, .int 0, .ref m1, .ref m2, .int 0, .ref m3, .ref m4, .ref m5, .ref m6, .ref m7, .ref m8, .ref m9, .ref m10, .ref m11, .ref m12, .ref m13, .ref m14, .ref m15, .ref m16, .ref m17, .int 0, .ref m18, .ref m19, .ref m20, .ref m21, .ref m22, .ref m23, .ref m24]))]) [0] rfl
  have hDc := hD.sub (ws' := [(h, .inr (4, [.int 0, .int 0, .ref m0, .int 0, .int 0, .ref m1, .ref m2, .int 0, .ref m3, .ref m4, .ref m5, .ref m6, .ref m7, .ref m8, .ref m9, .ref m10, .ref m11, .ref m12, .ref m13, .ref m14, .ref m15, .ref m16, .ref m17, .int 0, .ref m18, .ref m19, .ref m20, .ref m21, .ref m22, .ref m23, .ref m24]))]) [0] (by decide) rfl
  have hFc := va_free (wc := [(h, .inr (4, [.int 0, .int 0, .ref m0, .int 0, .int 0, .ref m1, .ref m2, .int 0, .ref m3, .ref m4, .ref m5, .ref m6, .ref m7, .ref m8, .ref m9, .ref m10, .ref m11, .ref m12, .ref m13, .ref m14, .ref m15, .ref m16, .ref m17, .int 0, .ref m18, .ref m19, .ref m20, .ref m21, .ref m22, .ref m23, .ref m24]))]) hD hS hA [0] rfl
  have hkc : 0 + 0 ≤ 0 := Nat.le_of_ble_eq_true rfl
  have hks : 0 + 0 ≤ 0 := Nat.le_of_ble_eq_true rfl
  refine va_calli (va_runV (As := []) (rest := []) ⟨hx, hb, hml, hown, hT⟩ (xc_Mo_oneName l D kA H.size h m0 m1 m2 m3 m4 m5 m6 m7 m8 m9 m10 m11 m12 m13 m14 m15 m16 m17 m18 m19 m20 m21 m22 m23 m24 0) (cwV 0 hT (wT_V xk_139 xk_140 xk_141 xk_122 xk_138) rfl rfl rfl (by decide +kernel) ⟨Nat.le_of_ble_eq_true rfl, Nat.le_of_ble_eq_true rfl⟩) (x_preV hK hPc hDc 0 rfl rfl) rfl rfl hl.1 rfl (lv_room (Nat.le_of_ble_eq_true rfl)) xd_Mo_peek_6 ⟨hkc, hks⟩) hS (fun q _ h => hFc q h) hFc (fun r u t H1 locs ht hvm hpost hB hz1 hk1 hS => ?_)
  have hpost : r = 0 := hpost
  subst hpost
  obtain ⟨hP1, hD1⟩ := hB
  rw [ht] at hP1
  obtain ⟨hP, hD⟩ := va_join (wr := []) (w1 := [(h, .inr (4, [.int 0, .int 0, .ref m0, .int 0, .int 0, .ref m1, .ref m2, .int 0, .ref m3, .ref m4, .ref m5, .ref m6, .ref m7, .ref m8, .ref m9, .ref m10, .ref m11, .ref m12, .ref m13, .ref m14, .ref m15, .ref m16, .ref m17, .int 0, .ref m18, .ref m19, .ref m20, .ref m21, .ref m22, .ref m23, .ref m24]))]) hP hD [0] [] rfl rfl (by decide) (by decide) hk1 hFc hP1 hD1
  generalize H1 = H at hP hS ⊢
  have hP : va_P D xcl [(h, .inr (4, [.int 0, .int 0, .ref m0, .int 0, .int 0, .ref m1, .ref m2, .int 0, .ref m3, .ref m4, .ref m5, .ref m6, .ref m7, .ref m8, .ref m9, .ref m10, .ref m11, .ref m12, .ref m13, .ref m14, .ref m15, .ref m16, .ref m17, .int 0, .ref m18, .ref m19, .ref m20, .ref m21, .ref m22, .ref m23, .ref m24]))] H := hP
  have hD : va_D A [(h, .inr (4, [.int 0, .int 0, .ref m0, .int 0, .int 0, .ref m1, .ref m2, .int 0, .ref m3, .ref m4, .ref m5, .ref m6, .ref m7, .ref m8, .ref m9, .ref m10, .ref m11, .ref m12, .ref m13, .ref m14, .ref m15, .ref m16, .ref m17, .int 0, .ref m18, .ref m19, .ref m20, .ref m21, .ref m22, .ref m23, .ref m24]))] := hD
  refine lv_istore hx hb xd_Mo_peek_9 hl (Nat.le_of_ble_eq_true rfl) rfl (fun ls hl => ?_)
  have hl : lv_has ls 8 [(5, .int 0), (0, .ref h), (1, .int n), (2, .int k), (3, .int n2), (4, .int k2)] := hl
  refine lv_aload_n hx hb xd_Mo_peek_11 rfl (lv_at hl 1 rfl) ?_
  refine lv_iload_n hx hb xd_Mo_peek_12 rfl (lv_at hl 2 rfl) ?_
  refine lv_iload_n hx hb xd_Mo_peek_13 rfl (lv_at hl 3 rfl) ?_
  have hPc := hP.sub (ws' := [(h, .inr (4, [.int 0, .int 0, .ref m0, .int 0, .int 0, .ref m1, .ref m2, .int 0, .ref m3, .ref m4, .ref m5, .ref m6, .ref m7, .ref m8, .ref m9, .ref m10, .ref m11, .ref m12, .ref m13, .ref m14, .ref m15, .ref m16, .ref m17, .int 0, .ref m18, .ref m19, .ref m20, .ref m21, .ref m22, .ref m23, .ref m24]))]) [0] rfl
  have hDc := hD.sub (ws' := [(h, .inr (4, [.int 0, .int 0, .ref m0, .int 0, .int 0, .ref m1, .ref m2, .int 0, .ref m3, .ref m4, .ref m5, .ref m6, .ref m7, .ref m8, .ref m9, .ref m10, .ref m11, .ref m12, .ref m13, .ref m14, .ref m15, .ref m16, .ref m17, .int 0, .ref m18, .ref m19, .ref m20, .ref m21, .ref m22, .ref m23, .ref m24]))]) [0] (by decide) rfl
  have hFc := va_free (wc := [(h, .inr (4, [.int 0, .int 0, .ref m0, .int 0, .int 0, .ref m1, .ref m2, .int 0, .ref m3, .ref m4, .ref m5, .ref m6, .ref m7, .ref m8, .ref m9, .ref m10, .ref m11, .ref m12, .ref m13, .ref m14, .ref m15, .ref m16, .ref m17, .int 0, .ref m18, .ref m19, .ref m20, .ref m21, .ref m22, .ref m23, .ref m24]))]) hD hS hA [0] rfl
  have hkc : 0 + 0 ≤ 0 := Nat.le_of_ble_eq_true rfl
  have hks : 0 + 0 ≤ 0 := Nat.le_of_ble_eq_true rfl
  refine va_calli (va_runV (As := [.int n, .int k]) (rest := []) ⟨hx, hb, hml, hown, hT⟩ (xc_Mo_moduleOf l D kA H.size h m0 m1 m2 m3 m4 m5 m6 m7 m8 m9 m10 m11 m12 m13 m14 m15 m16 m17 m18 m19 m20 m21 m22 m23 m24 0 n k) (cwV 2 hT (wT_V xk_135 xk_136 xk_137 xk_122 xk_134) rfl rfl rfl (by decide +kernel) ⟨Nat.le_of_ble_eq_true rfl, Nat.le_of_ble_eq_true rfl⟩) (x_preV hK hPc hDc 0 rfl rfl) rfl rfl hl.1 rfl (lv_room (Nat.le_of_ble_eq_true rfl)) xd_Mo_peek_14 ⟨hkc, hks⟩) hS (fun q _ h => hFc q h) hFc (fun r u t H1 locs ht hvm hpost hB hz1 hk1 hS => ?_)
  have hpost : r = (-1) := hpost
  subst hpost
  obtain ⟨hP1, hD1⟩ := hB
  rw [ht] at hP1
  obtain ⟨hP, hD⟩ := va_join (wr := []) (w1 := [(h, .inr (4, [.int 0, .int 0, .ref m0, .int 0, .int 0, .ref m1, .ref m2, .int 0, .ref m3, .ref m4, .ref m5, .ref m6, .ref m7, .ref m8, .ref m9, .ref m10, .ref m11, .ref m12, .ref m13, .ref m14, .ref m15, .ref m16, .ref m17, .int 0, .ref m18, .ref m19, .ref m20, .ref m21, .ref m22, .ref m23, .ref m24]))]) hP hD [0] [] rfl rfl (by decide) (by decide) hk1 hFc hP1 hD1
  generalize H1 = H at hP hS ⊢
  have hP : va_P D xcl [(h, .inr (4, [.int 0, .int 0, .ref m0, .int 0, .int 0, .ref m1, .ref m2, .int 0, .ref m3, .ref m4, .ref m5, .ref m6, .ref m7, .ref m8, .ref m9, .ref m10, .ref m11, .ref m12, .ref m13, .ref m14, .ref m15, .ref m16, .ref m17, .int 0, .ref m18, .ref m19, .ref m20, .ref m21, .ref m22, .ref m23, .ref m24]))] H := hP
  have hD : va_D A [(h, .inr (4, [.int 0, .int 0, .ref m0, .int 0, .int 0, .ref m1, .ref m2, .int 0, .ref m3, .ref m4, .ref m5, .ref m6, .ref m7, .ref m8, .ref m9, .ref m10, .ref m11, .ref m12, .ref m13, .ref m14, .ref m15, .ref m16, .ref m17, .int 0, .ref m18, .ref m19, .ref m20, .ref m21, .ref m22, .ref m23, .ref m24]))] := hD
  refine lv_istore hx hb xd_Mo_peek_17 hl (Nat.le_of_ble_eq_true rfl) rfl (fun ls hl => ?_)
  have hl : lv_has ls 8 [(6, .int (-1)), (5, .int 0), (0, .ref h), (1, .int n), (2, .int k), (3, .int n2), (4, .int k2)] := hl
  refine lv_iload hx hb xd_Mo_peek_19 (lv_at hl 1 rfl) ?_
  refine lv_if_eq (tgt := 39) hx hb xd_Mo_peek_21 (by decide) (fun _ => ?_) (fun hc => absurd (by decide) hc)
  refine lv_aload_n hx hb xd_Mo_peek_39 rfl (lv_at hl 2 rfl) ?_
  refine lv_iconst (v := 1) hx hb xd_Mo_peek_40 (by decide) ?_
  refine va_put (D := D) (ci := 4) (v := .int 1) (ty := .int) (C := xR_Mo) (T := xT_Mo) (N := 31) hx hb hT xi_Mo xt_Mo xt_Mo_ok xn_Mo hown hK.1 hP hD hS 0 rfl rfl 0 (by decide) (hT _ xk_115) (fun _ h9 => h9) rfl (by decide +kernel) rfl rfl (Nat.le_of_ble_eq_true rfl) xd_Mo_peek_41 (fun H locs hP hD hS => ?_)
  have hP : va_P D xcl [(h, .inr (4, [.int 1, .int 0, .ref m0, .int 0, .int 0, .ref m1, .ref m2, .int 0, .ref m3, .ref m4, .ref m5, .ref m6, .ref m7, .ref m8, .ref m9, .ref m10, .ref m11, .ref m12, .ref m13, .ref m14, .ref m15, .ref m16, .ref m17, .int 0, .ref m18, .ref m19, .ref m20, .ref m21, .ref m22, .ref m23, .ref m24]))] H := hP
  have hD : va_D A [(h, .inr (4, [.int 1, .int 0, .ref m0, .int 0, .int 0, .ref m1, .ref m2, .int 0, .ref m3, .ref m4, .ref m5, .ref m6, .ref m7, .ref m8, .ref m9, .ref m10, .ref m11, .ref m12, .ref m13, .ref m14, .ref m15, .ref m16, .ref m17, .int 0, .ref m18, .ref m19, .ref m20, .ref m21, .ref m22, .ref m23, .ref m24]))] := hD
  refine lv_iconst (v := 0) hx hb xd_Mo_peek_44 (by decide) ?_
  have hP9 := hP.sub (ws' := [(h, .inr (4, [.int 1, .int 0, .ref m0, .int 0, .int 0, .ref m1, .ref m2, .int 0, .ref m3, .ref m4, .ref m5, .ref m6, .ref m7, .ref m8, .ref m9, .ref m10, .ref m11, .ref m12, .ref m13, .ref m14, .ref m15, .ref m16, .ref m17, .int 0, .ref m18, .ref m19, .ref m20, .ref m21, .ref m22, .ref m23, .ref m24]))]) [0] rfl
  have hD9 := hD.sub (ws' := [(h, .inr (4, [.int 1, .int 0, .ref m0, .int 0, .int 0, .ref m1, .ref m2, .int 0, .ref m3, .ref m4, .ref m5, .ref m6, .ref m7, .ref m8, .ref m9, .ref m10, .ref m11, .ref m12, .ref m13, .ref m14, .ref m15, .ref m16, .ref m17, .int 0, .ref m18, .ref m19, .ref m20, .ref m21, .ref m22, .ref m23, .ref m24]))]) [0] (by decide) rfl
  refine W.widen (k := 0) (n := 0) (Nat.le_of_ble_eq_true rfl) (Nat.le_of_ble_eq_true rfl) ?_
  exact W.zret (v := 0) hx hb hr rfl (fun t ht hW => ⟨⟨0, (), rfl, rfl, by rw [ht]; exact hP9, hD9⟩, hS.F ht⟩) hS.2.2 xd_Mo_peek_45
set_option maxHeartbeats 4000000 in
set_option maxRecDepth 100000 in
theorem xc_Mo_provider (l : Launch) (D : va_G) (kA : Nat → ClassId) (sz : Nat) (h : Nat) (m0 : Nat) (m1 : Nat) (m2 : Nat) (m3 : Nat) (m4 : Nat) (m5 : Nat) (m6 : Nat) (m7 : Nat) (m8 : Nat) (m9 : Nat) (m10 : Nat) (m11 : Nat) (m12 : Nat) (m13 : Nat) (m14 : Nat) (m15 : Nat) (m16 : Nat) (m17 : Nat) (m18 : Nat) (m19 : Nat) (m20 : Nat) (m21 : Nat) (m22 : Nat) (m23 : Nat) (m24 : Nat) (F : Int32) (n : Int32) (k : Int32) : Met l xy_Mo_provider (.code xy_Mo_provider xb_Mo_provider 9 (some .int) :: wT) { frames := 2, cells := 0, slots := 0, locals := 41 } (va_Pc [.ref h, .int n, .int k] (xPre D kA sz [(h, .inr (4, [.int F, .int 0, .ref m0, .int 0, .int 0, .ref m1, .ref m2, .int 0, .ref m3, .ref m4, .ref m5, .ref m6, .ref m7, .ref m8, .ref m9, .ref m10, .ref m11, .ref m12, .ref m13, .ref m14, .ref m15, .ref m16, .ref m17, .int 0, .ref m18, .ref m19, .ref m20, .ref m21, .ref m22, .ref m23, .ref m24]))])) (va_Qi (fun (r : Int32) (u : Unit) => r = 0) (fun (u : Unit) t => va_P D xcl [(h, .inr (4, [.int 1, .int 0, .ref m0, .int 0, .int 0, .ref m1, .ref m2, .int 0, .ref m3, .ref m4, .ref m5, .ref m6, .ref m7, .ref m8, .ref m9, .ref m10, .ref m11, .ref m12, .ref m13, .ref m14, .ref m15, .ref m16, .ref m17, .int 0, .ref m18, .ref m19, .ref m20, .ref m21, .ref m22, .ref m23, .ref m24]))] t.heap ∧ va_D (va_A [(h, .inr (4, [.int F, .int 0, .ref m0, .int 0, .int 0, .ref m1, .ref m2, .int 0, .ref m3, .ref m4, .ref m5, .ref m6, .ref m7, .ref m8, .ref m9, .ref m10, .ref m11, .ref m12, .ref m13, .ref m14, .ref m15, .ref m16, .ref m17, .int 0, .ref m18, .ref m19, .ref m20, .ref m21, .ref m22, .ref m23, .ref m24]))] sz) [(h, .inr (4, [.int 1, .int 0, .ref m0, .int 0, .int 0, .ref m1, .ref m2, .int 0, .ref m3, .ref m4, .ref m5, .ref m6, .ref m7, .ref m8, .ref m9, .ref m10, .ref m11, .ref m12, .ref m13, .ref m14, .ref m15, .ref m16, .ref m17, .int 0, .ref m18, .ref m19, .ref m20, .ref m21, .ref m22, .ref m23, .ref m24]))]) (va_A [(h, .inr (4, [.int F, .int 0, .ref m0, .int 0, .int 0, .ref m1, .ref m2, .int 0, .ref m3, .ref m4, .ref m5, .ref m6, .ref m7, .ref m8, .ref m9, .ref m10, .ref m11, .ref m12, .ref m13, .ref m14, .ref m15, .ref m16, .ref m17, .int 0, .ref m18, .ref m19, .ref m20, .ref m21, .ref m22, .ref m23, .ref m24]))] sz)) 0 0 (va_A [(h, .inr (4, [.int F, .int 0, .ref m0, .int 0, .int 0, .ref m1, .ref m2, .int 0, .ref m3, .ref m4, .ref m5, .ref m6, .ref m7, .ref m8, .ref m9, .ref m10, .ref m11, .ref m12, .ref m13, .ref m14, .ref m15, .ref m16, .ref m17, .int 0, .ref m18, .ref m19, .ref m20, .ref m21, .ref m22, .ref m23, .ref m24]))] sz) := by
  refine Met.ofW (cc := xb_Mo_provider) (maxL := 9) (ret := (some .int)) (by decide) rfl ?_
  intro p e s m args below meth c s₁ B hml hv
  obtain ⟨rfl, hsz, hP, hK, hD0⟩ := hv
  have hx := B.exec
  have hb := B.bytes
  have hr := B.returns
  have hT := x_hT B.pre
  have hown : s.vm.findClass xR_Mo = some m.cls := findClass_of_methodNamed B.named
  have hlocks := B.notSynchronized
  subst hsz
  have hD := hD0.self (sz := s.heap.size)
  generalize hAe : va_A [(h, .inr (4, [.int F, .int 0, .ref m0, .int 0, .int 0, .ref m1, .ref m2, .int 0, .ref m3, .ref m4, .ref m5, .ref m6, .ref m7, .ref m8, .ref m9, .ref m10, .ref m11, .ref m12, .ref m13, .ref m14, .ref m15, .ref m16, .ref m17, .int 0, .ref m18, .ref m19, .ref m20, .ref m21, .ref m22, .ref m23, .ref m24]))] s.heap.size = A at hD ⊢
  have hA : ∀ q : Nat, s.heap.size ≤ q → A q := fun q h => by rw [← hAe]; exact Or.inr h
  have hS : va_S A s.heap s.heap [] := va_S.rf
  have hP : va_P D xcl [(h, .inr (4, [.int F, .int 0, .ref m0, .int 0, .int 0, .ref m1, .ref m2, .int 0, .ref m3, .ref m4, .ref m5, .ref m6, .ref m7, .ref m8, .ref m9, .ref m10, .ref m11, .ref m12, .ref m13, .ref m14, .ref m15, .ref m16, .ref m17, .int 0, .ref m18, .ref m19, .ref m20, .ref m21, .ref m22, .ref m23, .ref m24]))] s.heap := hP
  have hl := lv_entry ([.ref h, .int n, .int k]) (n := 9) (Nat.le_of_ble_eq_true rfl)
  rw [lg_entry_eq]
  generalize (lg_sl ([.ref h, .int n, .int k]) ++ List.replicate (9 - (lg_sl ([.ref h, .int n, .int k])).length) Slot.unset).toArray = ls at hl ⊢
  have hl : lv_has ls 9 [(0, .ref h), (1, .int n), (2, .int k)] := hl
  refine lv_aload_n hx hb xd_Mo_provider_0 rfl (lv_at hl 0 rfl) ?_
  refine lv_iconst (v := 0) hx hb xd_Mo_provider_1 (by decide) ?_
  refine va_put (D := D) (ci := 4) (v := .int 0) (ty := .int) (C := xR_Mo) (T := xT_Mo) (N := 31) hx hb hT xi_Mo xt_Mo xt_Mo_ok xn_Mo hown hK.1 hP hD hS 0 rfl rfl 0 (by decide) (hT _ xk_115) (fun _ h9 => h9) rfl (by decide +kernel) rfl rfl (Nat.le_of_ble_eq_true rfl) xd_Mo_provider_2 (fun H locs hP hD hS => ?_)
  have hP : va_P D xcl [(h, .inr (4, [.int 0, .int 0, .ref m0, .int 0, .int 0, .ref m1, .ref m2, .int 0, .ref m3, .ref m4, .ref m5, .ref m6, .ref m7, .ref m8, .ref m9, .ref m10, .ref m11, .ref m12, .ref m13, .ref m14, .ref m15, .ref m16, .ref m17, .int 0, .ref m18, .ref m19, .ref m20, .ref m21, .ref m22, .ref m23, .ref m24]))] H := hP
  have hD : va_D A [(h, .inr (4, [.int 0, .int 0, .ref m0, .int 0, .int 0, .ref m1, .ref m2, .int 0, .ref m3, .ref m4, .ref m5, .ref m6, .ref m7, .ref m8, .ref m9, .ref m10, .ref m11, .ref m12, .ref m13, .ref m14, .ref m15, .ref m16, .ref m17, .int 0, .ref m18, .ref m19, .ref m20, .ref m21, .ref m22, .ref m23, .ref m24]))] := hD
  refine lv_aload_n hx hb xd_Mo_provider_5 rfl (lv_at hl 0 rfl) ?_
  have hPc := hP.sub (ws' := [(h, .inr (4, [.int 0, .int 0, .ref m0, .int 0, .int 0, .ref m1, .ref m2, .int 0, .ref m3, .ref m4, .ref m5, .ref m6, .ref m7, .ref m8, .ref m9, .ref m10, .ref m11, .ref m12, .ref m13, .ref m14, .ref m15, .ref m16, .ref m17, .int 0, .ref m18, .ref m19, .ref m20, .ref m21, .ref m22, .ref m23, .ref m24]))]) [0] rfl
  have hDc := hD.sub (ws' := [(h, .inr (4, [.int 0, .int 0, .ref m0, .int 0, .int 0, .ref m1, .ref m2, .int 0, .ref m3, .ref m4, .ref m5, .ref m6, .ref m7, .ref m8, .ref m9, .ref m10, .ref m11, .ref m12, .ref m13, .ref m14, .ref m15, .ref m16, .ref m17, .int 0, .ref m18, .ref m19, .ref m20, .ref m21, .ref m22, .ref m23, .ref m24]))]) [0] (by decide) rfl
  have hFc := va_free (wc := [(h, .inr (4, [.int 0, .int 0, .ref m0, .int 0, .int 0, .ref m1, .ref m2, .int 0, .ref m3, .ref m4, .ref m5, .ref m6, .ref m7, .ref m8, .ref m9, .ref m10, .ref m11, .ref m12, .ref m13, .ref m14, .ref m15, .ref m16, .ref m17, .int 0, .ref m18, .ref m19, .ref m20, .ref m21, .ref m22, .ref m23, .ref m24]))]) hD hS hA [0] rfl
  have hkc : 0 + 0 ≤ 0 := Nat.le_of_ble_eq_true rfl
  have hks : 0 + 0 ≤ 0 := Nat.le_of_ble_eq_true rfl
  refine va_calli (va_runV (As := []) (rest := []) ⟨hx, hb, hml, hown, hT⟩ (xc_Mo_oneName l D kA H.size h m0 m1 m2 m3 m4 m5 m6 m7 m8 m9 m10 m11 m12 m13 m14 m15 m16 m17 m18 m19 m20 m21 m22 m23 m24 0) (cwV 0 hT (wT_V xk_139 xk_140 xk_141 xk_122 xk_138) rfl rfl rfl (by decide +kernel) ⟨Nat.le_of_ble_eq_true rfl, Nat.le_of_ble_eq_true rfl⟩) (x_preV hK hPc hDc 0 rfl rfl) rfl rfl hl.1 rfl (lv_room (Nat.le_of_ble_eq_true rfl)) xd_Mo_provider_6 ⟨hkc, hks⟩) hS (fun q _ h => hFc q h) hFc (fun r u t H1 locs ht hvm hpost hB hz1 hk1 hS => ?_)
  have hpost : r = 0 := hpost
  subst hpost
  obtain ⟨hP1, hD1⟩ := hB
  rw [ht] at hP1
  obtain ⟨hP, hD⟩ := va_join (wr := []) (w1 := [(h, .inr (4, [.int 0, .int 0, .ref m0, .int 0, .int 0, .ref m1, .ref m2, .int 0, .ref m3, .ref m4, .ref m5, .ref m6, .ref m7, .ref m8, .ref m9, .ref m10, .ref m11, .ref m12, .ref m13, .ref m14, .ref m15, .ref m16, .ref m17, .int 0, .ref m18, .ref m19, .ref m20, .ref m21, .ref m22, .ref m23, .ref m24]))]) hP hD [0] [] rfl rfl (by decide) (by decide) hk1 hFc hP1 hD1
  generalize H1 = H at hP hS ⊢
  have hP : va_P D xcl [(h, .inr (4, [.int 0, .int 0, .ref m0, .int 0, .int 0, .ref m1, .ref m2, .int 0, .ref m3, .ref m4, .ref m5, .ref m6, .ref m7, .ref m8, .ref m9, .ref m10, .ref m11, .ref m12, .ref m13, .ref m14, .ref m15, .ref m16, .ref m17, .int 0, .ref m18, .ref m19, .ref m20, .ref m21, .ref m22, .ref m23, .ref m24]))] H := hP
  have hD : va_D A [(h, .inr (4, [.int 0, .int 0, .ref m0, .int 0, .int 0, .ref m1, .ref m2, .int 0, .ref m3, .ref m4, .ref m5, .ref m6, .ref m7, .ref m8, .ref m9, .ref m10, .ref m11, .ref m12, .ref m13, .ref m14, .ref m15, .ref m16, .ref m17, .int 0, .ref m18, .ref m19, .ref m20, .ref m21, .ref m22, .ref m23, .ref m24]))] := hD
  refine lv_istore_n hx hb xd_Mo_provider_9 rfl hl (Nat.le_of_ble_eq_true rfl) rfl (fun ls hl => ?_)
  have hl : lv_has ls 9 [(3, .int 0), (0, .ref h), (1, .int n), (2, .int k)] := hl
  refine lv_iload_n hx hb xd_Mo_provider_10 rfl (lv_at hl 0 rfl) ?_
  refine lv_if_eq (tgt := 22) hx hb xd_Mo_provider_11 (by decide) (fun _ => ?_) (fun hc => absurd (by decide) hc)
  refine lv_aload_n hx hb xd_Mo_provider_22 rfl (lv_at hl 1 rfl) ?_
  refine lv_iconst (v := 1) hx hb xd_Mo_provider_23 (by decide) ?_
  have hPc := hP.sub (ws' := [(h, .inr (4, [.int 0, .int 0, .ref m0, .int 0, .int 0, .ref m1, .ref m2, .int 0, .ref m3, .ref m4, .ref m5, .ref m6, .ref m7, .ref m8, .ref m9, .ref m10, .ref m11, .ref m12, .ref m13, .ref m14, .ref m15, .ref m16, .ref m17, .int 0, .ref m18, .ref m19, .ref m20, .ref m21, .ref m22, .ref m23, .ref m24]))]) [0] rfl
  have hDc := hD.sub (ws' := [(h, .inr (4, [.int 0, .int 0, .ref m0, .int 0, .int 0, .ref m1, .ref m2, .int 0, .ref m3, .ref m4, .ref m5, .ref m6, .ref m7, .ref m8, .ref m9, .ref m10, .ref m11, .ref m12, .ref m13, .ref m14, .ref m15, .ref m16, .ref m17, .int 0, .ref m18, .ref m19, .ref m20, .ref m21, .ref m22, .ref m23, .ref m24]))]) [0] (by decide) rfl
  have hFc := va_free (wc := [(h, .inr (4, [.int 0, .int 0, .ref m0, .int 0, .int 0, .ref m1, .ref m2, .int 0, .ref m3, .ref m4, .ref m5, .ref m6, .ref m7, .ref m8, .ref m9, .ref m10, .ref m11, .ref m12, .ref m13, .ref m14, .ref m15, .ref m16, .ref m17, .int 0, .ref m18, .ref m19, .ref m20, .ref m21, .ref m22, .ref m23, .ref m24]))]) hD hS hA [0] rfl
  have hkc : 0 + 0 ≤ 0 := Nat.le_of_ble_eq_true rfl
  have hks : 0 + 0 ≤ 0 := Nat.le_of_ble_eq_true rfl
  refine va_calli (va_runV (As := [.int 1]) (rest := []) ⟨hx, hb, hml, hown, hT⟩ (xc_Mo_fails l D kA H.size h m0 m1 m2 m3 m4 m5 m6 m7 m8 m9 m10 m11 m12 m13 m14 m15 m16 m17 m18 m19 m20 m21 m22 m23 m24 0 1) (cwV 1 hT (wT_V xk_126 xk_127 xk_128 xk_122 xk_125) rfl rfl rfl (by decide +kernel) ⟨Nat.le_of_ble_eq_true rfl, Nat.le_of_ble_eq_true rfl⟩) (x_preV hK hPc hDc 0 rfl rfl) rfl rfl hl.1 rfl (lv_room (Nat.le_of_ble_eq_true rfl)) xd_Mo_provider_24 ⟨hkc, hks⟩) hS (fun q _ h => hFc q h) hFc (fun r u t H1 locs ht hvm hpost hB hz1 hk1 hS => ?_)
  have hpost : r = 0 := hpost
  subst hpost
  obtain ⟨hP1, hD1⟩ := hB
  rw [ht] at hP1
  obtain ⟨hP, hD⟩ := va_join (wr := []) (w1 := [(h, .inr (4, [.int 1, .int 0, .ref m0, .int 0, .int 0, .ref m1, .ref m2, .int 0, .ref m3, .ref m4, .ref m5, .ref m6, .ref m7, .ref m8, .ref m9, .ref m10, .ref m11, .ref m12, .ref m13, .ref m14, .ref m15, .ref m16, .ref m17, .int 0, .ref m18, .ref m19, .ref m20, .ref m21, .ref m22, .ref m23, .ref m24]))]) hP hD [0] [] rfl rfl (by decide) (by decide) hk1 hFc hP1 hD1
  generalize H1 = H at hP hS ⊢
  have hP : va_P D xcl [(h, .inr (4, [.int 1, .int 0, .ref m0, .int 0, .int 0, .ref m1, .ref m2, .int 0, .ref m3, .ref m4, .ref m5, .ref m6, .ref m7, .ref m8, .ref m9, .ref m10, .ref m11, .ref m12, .ref m13, .ref m14, .ref m15, .ref m16, .ref m17, .int 0, .ref m18, .ref m19, .ref m20, .ref m21, .ref m22, .ref m23, .ref m24]))] H := hP
  have hD : va_D A [(h, .inr (4, [.int 1, .int 0, .ref m0, .int 0, .int 0, .ref m1, .ref m2, .int 0, .ref m3, .ref m4, .ref m5, .ref m6, .ref m7, .ref m8, .ref m9, .ref m10, .ref m11, .ref m12, .ref m13, .ref m14, .ref m15, .ref m16, .ref m17, .int 0, .ref m18, .ref m19, .ref m20, .ref m21, .ref m22, .ref m23, .ref m24]))] := hD
  have hP9 := hP.sub (ws' := [(h, .inr (4, [.int 1, .int 0, .ref m0, .int 0, .int 0, .ref m1, .ref m2, .int 0, .ref m3, .ref m4, .ref m5, .ref m6, .ref m7, .ref m8, .ref m9, .ref m10, .ref m11, .ref m12, .ref m13, .ref m14, .ref m15, .ref m16, .ref m17, .int 0, .ref m18, .ref m19, .ref m20, .ref m21, .ref m22, .ref m23, .ref m24]))]) [0] rfl
  have hD9 := hD.sub (ws' := [(h, .inr (4, [.int 1, .int 0, .ref m0, .int 0, .int 0, .ref m1, .ref m2, .int 0, .ref m3, .ref m4, .ref m5, .ref m6, .ref m7, .ref m8, .ref m9, .ref m10, .ref m11, .ref m12, .ref m13, .ref m14, .ref m15, .ref m16, .ref m17, .int 0, .ref m18, .ref m19, .ref m20, .ref m21, .ref m22, .ref m23, .ref m24]))]) [0] (by decide) rfl
  refine W.widen (k := 0) (n := 0) (Nat.le_of_ble_eq_true rfl) (Nat.le_of_ble_eq_true rfl) ?_
  exact W.iret (v := 0) hx hb hr (fun t ht hW => ⟨⟨0, (), rfl, rfl, by rw [ht]; exact hP9, hD9⟩, hS.F ht⟩) hS.2.2 xd_Mo_provider_27
end
section
set_option maxHeartbeats 4000000 in
set_option maxRecDepth 100000 in
theorem xc_La_line (l : Launch) (D : va_G) (kA : Nat → ClassId) (sz : Nat) (x : Nat) (L : Nat) (S : Nat) (C : Nat) (P : Nat) (tx : Nat) (b1 : Nat) (b2 : Nat) (d1 : Nat) (o : Nat) (fo : Nat → Int64) : Met l xy_La_line (.codeWith xy_La_line xb_La_line 3 (some .int) [(0, 8, 11, 13), (0, 8, 14, 15)] :: wT) { frames := 2, cells := 0, slots := 0, locals := 43 } (va_Pc [.ref x, .ref o] (xPre D kA sz [(x, .inr (0, [.ref L, .ref S, .ref C, .ref P, .int 0, .int 0])), (L, .inr (1, [.ref tx, .ref b1, .ref b2, .int 0, .int 0])), (S, .inr (2, [.ref d1, .int 0])), (o, .inl (kA 3, 1, .inr (.inl fo)))])) (va_Qi (fun (r : Int32) (u : Unit) => r = 0) (fun (u : Unit) t => va_P D xcl [(x, .inr (0, [.ref L, .ref S, .ref C, .ref P, .int 0, .int 0])), (L, .inr (1, [.ref tx, .ref b1, .ref b2, .int 0, .int 0])), (S, .inr (2, [.ref d1, .int 0])), (o, .inl (kA 3, 1, .inr (.inl (vp_updL fo (0 : Int32).toNatClampNeg ((0 : Int32).toInt64)))))] t.heap ∧ va_D (va_A [(x, .inr (0, [.ref L, .ref S, .ref C, .ref P, .int 0, .int 0])), (L, .inr (1, [.ref tx, .ref b1, .ref b2, .int 0, .int 0])), (S, .inr (2, [.ref d1, .int 0])), (o, .inl (kA 3, 1, .inr (.inl fo)))] sz) [(x, .inr (0, [.ref L, .ref S, .ref C, .ref P, .int 0, .int 0])), (L, .inr (1, [.ref tx, .ref b1, .ref b2, .int 0, .int 0])), (S, .inr (2, [.ref d1, .int 0])), (o, .inl (kA 3, 1, .inr (.inl (vp_updL fo (0 : Int32).toNatClampNeg ((0 : Int32).toInt64)))))]) (va_A [(x, .inr (0, [.ref L, .ref S, .ref C, .ref P, .int 0, .int 0])), (L, .inr (1, [.ref tx, .ref b1, .ref b2, .int 0, .int 0])), (S, .inr (2, [.ref d1, .int 0])), (o, .inl (kA 3, 1, .inr (.inl fo)))] sz)) 0 0 (va_A [(x, .inr (0, [.ref L, .ref S, .ref C, .ref P, .int 0, .int 0])), (L, .inr (1, [.ref tx, .ref b1, .ref b2, .int 0, .int 0])), (S, .inr (2, [.ref d1, .int 0])), (o, .inl (kA 3, 1, .inr (.inl fo)))] sz) := by
  refine va_MetW (cc := xb_La_line) (maxL := 3) (ret := (some .int)) (by decide) rfl ?_
  intro p e s m args below meth c s₁ B hml hv
  obtain ⟨rfl, hsz, hP, hK, hD0⟩ := hv
  have hx := B.exec
  have hb := B.bytes
  have hr := B.returns
  have hT := x_hT B.pre
  have hown : s.vm.findClass xR_La = some m.cls := findClass_of_methodNamed B.named
  have hlocks := B.notSynchronized
  subst hsz
  have hD := hD0.self (sz := s.heap.size)
  generalize hAe : va_A [(x, .inr (0, [.ref L, .ref S, .ref C, .ref P, .int 0, .int 0])), (L, .inr (1, [.ref tx, .ref b1, .ref b2, .int 0, .int 0])), (S, .inr (2, [.ref d1, .int 0])), (o, .inl (kA 3, 1, .inr (.inl fo)))] s.heap.size = A at hD ⊢
  have hA : ∀ q : Nat, s.heap.size ≤ q → A q := fun q h => by rw [← hAe]; exact Or.inr h
  have hS : va_S A s.heap s.heap [] := va_S.rf
  have hP : va_P D xcl [(x, .inr (0, [.ref L, .ref S, .ref C, .ref P, .int 0, .int 0])), (L, .inr (1, [.ref tx, .ref b1, .ref b2, .int 0, .int 0])), (S, .inr (2, [.ref d1, .int 0])), (o, .inl (kA 3, 1, .inr (.inl fo)))] s.heap := hP
  have hl := lv_entry ([.ref x, .ref o]) (n := 3) (Nat.le_of_ble_eq_true rfl)
  rw [lg_entry_eq]
  generalize (lg_sl ([.ref x, .ref o]) ++ List.replicate (3 - (lg_sl ([.ref x, .ref o])).length) Slot.unset).toArray = ls at hl ⊢
  have hl : lv_has ls 3 [(0, .ref x), (1, .ref o)] := hl
  have hex := vx_table (x := xy_La_line) B (atoms_spec (ws := .codeWith xy_La_line xb_La_line 3 (some .int) [(0, 8, 11, 13), (0, 8, 14, 15)] :: wT) B.pre _ List.mem_cons_self)
  refine lv_aload_n hx hb xd_La_line_0 rfl (lv_at hl 1 rfl) ?_
  refine lv_iconst (v := 0) hx hb xd_La_line_1 (by decide) ?_
  refine lv_aload_n hx hb xd_La_line_2 rfl (lv_at hl 0 rfl) ?_
  have hPc := hP.sub (ws' := [(x, .inr (0, [.ref L, .ref S, .ref C, .ref P, .int 0, .int 0])), (L, .inr (1, [.ref tx, .ref b1, .ref b2, .int 0, .int 0])), (S, .inr (2, [.ref d1, .int 0]))]) [0, 1, 2] rfl
  have hDc := hD.sub (ws' := [(x, .inr (0, [.ref L, .ref S, .ref C, .ref P, .int 0, .int 0])), (L, .inr (1, [.ref tx, .ref b1, .ref b2, .int 0, .int 0])), (S, .inr (2, [.ref d1, .int 0]))]) [0, 1, 2] (by decide) rfl
  have hFc := va_free (wc := [(x, .inr (0, [.ref L, .ref S, .ref C, .ref P, .int 0, .int 0])), (L, .inr (1, [.ref tx, .ref b1, .ref b2, .int 0, .int 0])), (S, .inr (2, [.ref d1, .int 0]))]) hD hS hA [0, 1, 2] rfl
  have hkc : 0 + 0 ≤ 0 := Nat.le_of_ble_eq_true rfl
  have hks : 0 + 0 ≤ 0 := Nat.le_of_ble_eq_true rfl
  refine va_calli (va_runV (As := []) (rest := [.int 0, .ref o]) ⟨hx, hb, hml, hown, hT⟩ (xc_De_line l D kA s.heap.size x L S C P tx b1 b2 d1) (cwV 0 hT (wT_V xk_143 xk_144 xk_145 xk_90 xk_142) rfl rfl rfl (by decide +kernel) ⟨Nat.le_of_ble_eq_true rfl, Nat.le_of_ble_eq_true rfl⟩) (x_preV hK hPc hDc 0 rfl rfl) rfl rfl hl.1 rfl (lv_room (Nat.le_of_ble_eq_true rfl)) xd_La_line_3 ⟨hkc, hks⟩) hS (fun q _ h => hFc q h) hFc (fun r u t H1 locs ht hvm hpost hB hz1 hk1 hS => ?_)
  have hpost : r = 0 := hpost
  subst hpost
  obtain ⟨hP1, hD1⟩ := hB
  rw [ht] at hP1
  obtain ⟨hP, hD⟩ := va_join (wr := [(o, .inl (kA 3, 1, .inr (.inl fo)))]) (w1 := [(x, .inr (0, [.ref L, .ref S, .ref C, .ref P, .int 0, .int 0])), (L, .inr (1, [.ref tx, .ref b1, .ref b2, .int 0, .int 0])), (S, .inr (2, [.ref d1, .int 0]))]) hP hD [0, 1, 2] [3] rfl rfl (by decide) (by decide) hk1 hFc hP1 hD1
  generalize H1 = H at hP hS ⊢
  have hP : va_P D xcl [(o, .inl (kA 3, 1, .inr (.inl fo))), (x, .inr (0, [.ref L, .ref S, .ref C, .ref P, .int 0, .int 0])), (L, .inr (1, [.ref tx, .ref b1, .ref b2, .int 0, .int 0])), (S, .inr (2, [.ref d1, .int 0]))] H := hP
  have hD : va_D A [(o, .inl (kA 3, 1, .inr (.inl fo))), (x, .inr (0, [.ref L, .ref S, .ref C, .ref P, .int 0, .int 0])), (L, .inr (1, [.ref tx, .ref b1, .ref b2, .int 0, .int 0])), (S, .inr (2, [.ref d1, .int 0]))] := hD
  refine lv_i2l (v := ((0 : Int32).toInt64)) hx hb xd_La_line_6 rfl ?_
  refine va_last hx hb hK.1 hP hD hS 0 3 rfl rfl (show ¬ _ by decide) xd_La_line_7 (fun H locs hP hD hS => ?_)
  have hP : va_P D xcl [(o, .inl (kA 3, 1, .inr (.inl (vp_updL fo (0 : Int32).toNatClampNeg ((0 : Int32).toInt64))))), (x, .inr (0, [.ref L, .ref S, .ref C, .ref P, .int 0, .int 0])), (L, .inr (1, [.ref tx, .ref b1, .ref b2, .int 0, .int 0])), (S, .inr (2, [.ref d1, .int 0]))] H := hP
  have hD : va_D A [(o, .inl (kA 3, 1, .inr (.inl (vp_updL fo (0 : Int32).toNatClampNeg ((0 : Int32).toInt64))))), (x, .inr (0, [.ref L, .ref S, .ref C, .ref P, .int 0, .int 0])), (L, .inr (1, [.ref tx, .ref b1, .ref b2, .int 0, .int 0])), (S, .inr (2, [.ref d1, .int 0]))] := hD
  refine lv_goto (tgt := 17) hx hb xd_La_line_8 (by decide) ?_
  refine lv_iconst (v := 0) hx hb xd_La_line_17 (by decide) ?_
  have hP9 := hP.sub (ws' := [(x, .inr (0, [.ref L, .ref S, .ref C, .ref P, .int 0, .int 0])), (L, .inr (1, [.ref tx, .ref b1, .ref b2, .int 0, .int 0])), (S, .inr (2, [.ref d1, .int 0])), (o, .inl (kA 3, 1, .inr (.inl (vp_updL fo (0 : Int32).toNatClampNeg ((0 : Int32).toInt64)))))]) [1, 2, 3, 0] rfl
  have hD9 := hD.sub (ws' := [(x, .inr (0, [.ref L, .ref S, .ref C, .ref P, .int 0, .int 0])), (L, .inr (1, [.ref tx, .ref b1, .ref b2, .int 0, .int 0])), (S, .inr (2, [.ref d1, .int 0])), (o, .inl (kA 3, 1, .inr (.inl (vp_updL fo (0 : Int32).toNatClampNeg ((0 : Int32).toInt64)))))]) [1, 2, 3, 0] (by decide) rfl
  refine W.widen (k := 0) (n := 0) (Nat.le_of_ble_eq_true rfl) (Nat.le_of_ble_eq_true rfl) ?_
  exact W.iret (v := 0) hx hb hr (fun t ht hW => ⟨⟨0, (), rfl, rfl, by rw [ht]; exact hP9, hD9⟩, hS.F ht⟩) hS.2.2 xd_La_line_18
set_option maxHeartbeats 4000000 in
set_option maxRecDepth 100000 in
theorem xc_La_layer (l : Launch) (hlt : l.stackTraces = false) (D : va_G) (kA : Nat → ClassId) (sz sa : Nat) (x : Nat) (L : Nat) (S : Nat) (C : Nat) (P : Nat) (tx : Nat) (b1 : Nat) (b2 : Nat) (n : Int32) (k : Int32) (z : Int32) (o : Nat) (fo : Nat → Int64) : Met l xy_La_layer (.codeWith xy_La_layer xb_La_layer 6 (some .int) [(0, 12, 15, 13), (0, 12, 19, 21), (0, 12, 23, 15)] :: wT) { frames := 7, cells := 1, slots := 6, locals := 108 } (va_Pc [.ref x, .int n, .int k, .int z, .ref o] (xPreX D kA sz [(x, .inr (0, [.ref L, .ref S, .ref C, .ref P, .int 0, .int 0])), (L, .inr (1, [.ref tx, .ref b1, .ref b2, .int 0, .int 0])), (o, .inl (kA 3, 1, .inr (.inl fo)))] "LayerDesk" 80 "no roots, no such finder or no open parent" sa)) (va_Qi (fun (r : Int32) (u : Unit) => r = 1) (fun (u : Unit) t => va_P D xcl [(x, .inr (0, [.ref L, .ref S, .ref C, .ref P, .int 0, .int 0])), (L, .inr (1, [.ref tx, .ref b1, .ref b2, .int 0, .int 0])), (o, .inl (kA 3, 1, .inr (.inl fo)))] t.heap ∧ va_D (va_A [(x, .inr (0, [.ref L, .ref S, .ref C, .ref P, .int 0, .int 0])), (L, .inr (1, [.ref tx, .ref b1, .ref b2, .int 0, .int 0])), (o, .inl (kA 3, 1, .inr (.inl fo)))] sz) [(x, .inr (0, [.ref L, .ref S, .ref C, .ref P, .int 0, .int 0])), (L, .inr (1, [.ref tx, .ref b1, .ref b2, .int 0, .int 0])), (o, .inl (kA 3, 1, .inr (.inl fo)))]) (va_A [(x, .inr (0, [.ref L, .ref S, .ref C, .ref P, .int 0, .int 0])), (L, .inr (1, [.ref tx, .ref b1, .ref b2, .int 0, .int 0])), (o, .inl (kA 3, 1, .inr (.inl fo)))] sz)) 1 6 (va_A [(x, .inr (0, [.ref L, .ref S, .ref C, .ref P, .int 0, .int 0])), (L, .inr (1, [.ref tx, .ref b1, .ref b2, .int 0, .int 0])), (o, .inl (kA 3, 1, .inr (.inl fo)))] sz) := by
  refine va_MetW (cc := xb_La_layer) (maxL := 6) (ret := (some .int)) (by decide) rfl ?_
  intro p e s m args below meth c s₁ B hml hv
  obtain ⟨rfl, ⟨hsz, hP, hK, hD0⟩, hU, hstr⟩ := hv
  have hx := B.exec
  have hb := B.bytes
  have hr := B.returns
  have hT := x_hT B.pre
  have hown : s.vm.findClass xR_La = some m.cls := findClass_of_methodNamed B.named
  have hlocks := B.notSynchronized
  subst hsz
  have hD := hD0.self (sz := s.heap.size)
  generalize hAe : va_A [(x, .inr (0, [.ref L, .ref S, .ref C, .ref P, .int 0, .int 0])), (L, .inr (1, [.ref tx, .ref b1, .ref b2, .int 0, .int 0])), (o, .inl (kA 3, 1, .inr (.inl fo)))] s.heap.size = A at hD hU ⊢
  have hA : ∀ q : Nat, s.heap.size ≤ q → A q := fun q h => by rw [← hAe]; exact Or.inr h
  have hS : va_S A s.heap s.heap [] := va_S.rf
  have hP : va_P D xcl [(x, .inr (0, [.ref L, .ref S, .ref C, .ref P, .int 0, .int 0])), (L, .inr (1, [.ref tx, .ref b1, .ref b2, .int 0, .int 0])), (o, .inl (kA 3, 1, .inr (.inl fo)))] s.heap := hP
  have hl := lv_entry ([.ref x, .int n, .int k, .int z, .ref o]) (n := 6) (Nat.le_of_ble_eq_true rfl)
  rw [lg_entry_eq]
  generalize (lg_sl ([.ref x, .int n, .int k, .int z, .ref o]) ++ List.replicate (6 - (lg_sl ([.ref x, .int n, .int k, .int z, .ref o])).length) Slot.unset).toArray = ls at hl ⊢
  have hl : lv_has ls 6 [(0, .ref x), (1, .int n), (2, .int k), (3, .int z), (4, .ref o)] := hl
  have hex := vx_table (x := xy_La_layer) B (atoms_spec (ws := .codeWith xy_La_layer xb_La_layer 6 (some .int) [(0, 12, 15, 13), (0, 12, 19, 21), (0, 12, 23, 15)] :: wT) B.pre _ List.mem_cons_self)
  refine lv_aload hx hb xd_La_layer_0 (lv_at hl 4 rfl) ?_
  refine lv_iconst (v := 0) hx hb xd_La_layer_2 (by decide) ?_
  refine lv_aload_n hx hb xd_La_layer_3 rfl (lv_at hl 0 rfl) ?_
  refine lv_iload_n hx hb xd_La_layer_4 rfl (lv_at hl 1 rfl) ?_
  refine lv_iload_n hx hb xd_La_layer_5 rfl (lv_at hl 2 rfl) ?_
  refine lv_iload_n hx hb xd_La_layer_6 rfl (lv_at hl 3 rfl) ?_
  have hPc := hP.sub (ws' := [(x, .inr (0, [.ref L, .ref S, .ref C, .ref P, .int 0, .int 0])), (L, .inr (1, [.ref tx, .ref b1, .ref b2, .int 0, .int 0]))]) [0, 1] rfl
  have hDc := hD.sub (ws' := [(x, .inr (0, [.ref L, .ref S, .ref C, .ref P, .int 0, .int 0])), (L, .inr (1, [.ref tx, .ref b1, .ref b2, .int 0, .int 0]))]) [0, 1] (by decide) rfl
  have hFc := va_free (wc := [(x, .inr (0, [.ref L, .ref S, .ref C, .ref P, .int 0, .int 0])), (L, .inr (1, [.ref tx, .ref b1, .ref b2, .int 0, .int 0]))]) hD hS hA [0, 1] rfl
  have hkc : 0 + 1 ≤ 1 := Nat.le_of_ble_eq_true rfl
  have hks : 0 + 6 ≤ 6 := Nat.le_of_ble_eq_true rfl
  refine vx_calli (vx_runV (As := [.int n, .int k, .int z]) (rest := [.int 0, .ref o]) ⟨hx, hb, hml, hown, hT⟩ (xc_De_layer l hlt D kA s.heap.size sa x L S C P tx b1 b2 n k z) (cwV 3 hT (wT_V xk_147 xk_148 xk_149 xk_90 xk_146) rfl rfl rfl (by decide +kernel) ⟨Nat.le_of_ble_eq_true rfl, Nat.le_of_ble_eq_true rfl⟩) (x_preVX hK hPc hDc 0 rfl rfl hFc (xUS_kept hU hS) hstr) rfl rfl hl.1 rfl (lv_room (Nat.le_of_ble_eq_true rfl)) xd_La_layer_7 ⟨hkc, hks⟩) hS (fun q _ h => hFc q h) hFc (fun q _ h => hFc q h) (fun E ce q9 u t H1 locs ht hvm hpost hB hz1 hk1 hS hce hcv hcl => ?_) (fun r u t H1 locs ht hvm hpost hB hz1 hk1 hS => ?_)
  · obtain ⟨hE9, hP1, hD1⟩ := hB
    subst hE9
    rw [ht] at hP1
    obtain ⟨hP, hD⟩ := va_join (wr := [(o, .inl (kA 3, 1, .inr (.inl fo)))]) (w1 := [(x, .inr (0, [.ref L, .ref S, .ref C, .ref P, .int 0, .int 0])), (L, .inr (1, [.ref tx, .ref b1, .ref b2, .int 0, .int 0]))]) hP hD [0, 1] [2] rfl rfl (by decide) (by decide) hk1 hFc hP1 hD1
    generalize H1 = H at hP hS hce ⊢
    have hP : va_P D xcl [(o, .inl (kA 3, 1, .inr (.inl fo))), (x, .inr (0, [.ref L, .ref S, .ref C, .ref P, .int 0, .int 0])), (L, .inr (1, [.ref tx, .ref b1, .ref b2, .int 0, .int 0]))] H := hP
    have hD : va_D A [(o, .inl (kA 3, 1, .inr (.inl fo))), (x, .inr (0, [.ref L, .ref S, .ref C, .ref P, .int 0, .int 0])), (L, .inr (1, [.ref tx, .ref b1, .ref b2, .int 0, .int 0]))] := hD
    refine vx_catch (own := "LayerDeskLaw") (name := "java/lang/IllegalArgumentException") hown [] ⟨0, 12, 15, 13⟩ [⟨0, 12, 19, 21⟩, ⟨0, 12, 23, 15⟩] (by rw [hex]; rfl) (fun z hz => nomatch hz) rfl (by decide) (hT _ xk_150) (va_Nw.use rfl hK.2.2.2.2.2.1) hce hcv hcl ?_
    refine lv_astore hx hb xd_La_layer_15 hl (Nat.le_of_ble_eq_true rfl) rfl (fun ls hl => ?_)
    have hl : lv_has ls 6 [(5, .ref q9), (0, .ref x), (1, .int n), (2, .int k), (3, .int z), (4, .ref o)] := hl
    refine lv_iconst (v := 1) hx hb xd_La_layer_17 (by decide) ?_
    have hP9 := hP.sub (ws' := [(x, .inr (0, [.ref L, .ref S, .ref C, .ref P, .int 0, .int 0])), (L, .inr (1, [.ref tx, .ref b1, .ref b2, .int 0, .int 0])), (o, .inl (kA 3, 1, .inr (.inl fo)))]) [1, 2, 0] rfl
    have hD9 := hD.sub (ws' := [(x, .inr (0, [.ref L, .ref S, .ref C, .ref P, .int 0, .int 0])), (L, .inr (1, [.ref tx, .ref b1, .ref b2, .int 0, .int 0])), (o, .inl (kA 3, 1, .inr (.inl fo)))]) [1, 2, 0] (by decide) rfl
    refine W.widen (k := 1) (n := 6) (Nat.le_of_ble_eq_true rfl) (Nat.le_of_ble_eq_true rfl) ?_
    exact W.iret (v := 1) hx hb hr (fun t ht hW => ⟨⟨1, (), rfl, rfl, by rw [ht]; exact hP9, hD9⟩, hS.F ht⟩) hS.2.2 xd_La_layer_18
  · exact absurd hpost (by exact fun h => h)
set_option maxHeartbeats 4000000 in
set_option maxRecDepth 100000 in
theorem xc_La_load (l : Launch) (hlt : l.stackTraces = false) (D : va_G) (kA : Nat → ClassId) (sz sa : Nat) (x : Nat) (L : Nat) (S : Nat) (C : Nat) (P : Nat) (tx : Nat) (b1 : Nat) (b2 : Nat) (n : Int32) (k : Int32) (o : Nat) (fo : Nat → Int64) : Met l xy_La_load (.codeWith xy_La_load xb_La_load 5 (some .int) [(0, 10, 13, 13), (0, 10, 17, 21)] :: wT) { frames := 7, cells := 1, slots := 6, locals := 107 } (va_Pc [.ref x, .int n, .int k, .ref o] (xPreX D kA sz [(x, .inr (0, [.ref L, .ref S, .ref C, .ref P, .int 0, .int 0])), (L, .inr (1, [.ref tx, .ref b1, .ref b2, .int 0, .int 0])), (o, .inl (kA 3, 1, .inr (.inl fo)))] "LayerDesk" 161 "no such module, or no name" sa)) (va_Qi (fun (r : Int32) (u : Unit) => r = 1) (fun (u : Unit) t => va_P D xcl [(x, .inr (0, [.ref L, .ref S, .ref C, .ref P, .int 0, .int 0])), (L, .inr (1, [.ref tx, .ref b1, .ref b2, .int 0, .int 0])), (o, .inl (kA 3, 1, .inr (.inl fo)))] t.heap ∧ va_D (va_A [(x, .inr (0, [.ref L, .ref S, .ref C, .ref P, .int 0, .int 0])), (L, .inr (1, [.ref tx, .ref b1, .ref b2, .int 0, .int 0])), (o, .inl (kA 3, 1, .inr (.inl fo)))] sz) [(x, .inr (0, [.ref L, .ref S, .ref C, .ref P, .int 0, .int 0])), (L, .inr (1, [.ref tx, .ref b1, .ref b2, .int 0, .int 0])), (o, .inl (kA 3, 1, .inr (.inl fo)))]) (va_A [(x, .inr (0, [.ref L, .ref S, .ref C, .ref P, .int 0, .int 0])), (L, .inr (1, [.ref tx, .ref b1, .ref b2, .int 0, .int 0])), (o, .inl (kA 3, 1, .inr (.inl fo)))] sz)) 1 6 (va_A [(x, .inr (0, [.ref L, .ref S, .ref C, .ref P, .int 0, .int 0])), (L, .inr (1, [.ref tx, .ref b1, .ref b2, .int 0, .int 0])), (o, .inl (kA 3, 1, .inr (.inl fo)))] sz) := by
  refine va_MetW (cc := xb_La_load) (maxL := 5) (ret := (some .int)) (by decide) rfl ?_
  intro p e s m args below meth c s₁ B hml hv
  obtain ⟨rfl, ⟨hsz, hP, hK, hD0⟩, hU, hstr⟩ := hv
  have hx := B.exec
  have hb := B.bytes
  have hr := B.returns
  have hT := x_hT B.pre
  have hown : s.vm.findClass xR_La = some m.cls := findClass_of_methodNamed B.named
  have hlocks := B.notSynchronized
  subst hsz
  have hD := hD0.self (sz := s.heap.size)
  generalize hAe : va_A [(x, .inr (0, [.ref L, .ref S, .ref C, .ref P, .int 0, .int 0])), (L, .inr (1, [.ref tx, .ref b1, .ref b2, .int 0, .int 0])), (o, .inl (kA 3, 1, .inr (.inl fo)))] s.heap.size = A at hD hU ⊢
  have hA : ∀ q : Nat, s.heap.size ≤ q → A q := fun q h => by rw [← hAe]; exact Or.inr h
  have hS : va_S A s.heap s.heap [] := va_S.rf
  have hP : va_P D xcl [(x, .inr (0, [.ref L, .ref S, .ref C, .ref P, .int 0, .int 0])), (L, .inr (1, [.ref tx, .ref b1, .ref b2, .int 0, .int 0])), (o, .inl (kA 3, 1, .inr (.inl fo)))] s.heap := hP
  have hl := lv_entry ([.ref x, .int n, .int k, .ref o]) (n := 5) (Nat.le_of_ble_eq_true rfl)
  rw [lg_entry_eq]
  generalize (lg_sl ([.ref x, .int n, .int k, .ref o]) ++ List.replicate (5 - (lg_sl ([.ref x, .int n, .int k, .ref o])).length) Slot.unset).toArray = ls at hl ⊢
  have hl : lv_has ls 5 [(0, .ref x), (1, .int n), (2, .int k), (3, .ref o)] := hl
  have hex := vx_table (x := xy_La_load) B (atoms_spec (ws := .codeWith xy_La_load xb_La_load 5 (some .int) [(0, 10, 13, 13), (0, 10, 17, 21)] :: wT) B.pre _ List.mem_cons_self)
  refine lv_aload_n hx hb xd_La_load_0 rfl (lv_at hl 3 rfl) ?_
  refine lv_iconst (v := 0) hx hb xd_La_load_1 (by decide) ?_
  refine lv_aload_n hx hb xd_La_load_2 rfl (lv_at hl 0 rfl) ?_
  refine lv_iload_n hx hb xd_La_load_3 rfl (lv_at hl 1 rfl) ?_
  refine lv_iload_n hx hb xd_La_load_4 rfl (lv_at hl 2 rfl) ?_
  have hPc := hP.sub (ws' := [(x, .inr (0, [.ref L, .ref S, .ref C, .ref P, .int 0, .int 0])), (L, .inr (1, [.ref tx, .ref b1, .ref b2, .int 0, .int 0]))]) [0, 1] rfl
  have hDc := hD.sub (ws' := [(x, .inr (0, [.ref L, .ref S, .ref C, .ref P, .int 0, .int 0])), (L, .inr (1, [.ref tx, .ref b1, .ref b2, .int 0, .int 0]))]) [0, 1] (by decide) rfl
  have hFc := va_free (wc := [(x, .inr (0, [.ref L, .ref S, .ref C, .ref P, .int 0, .int 0])), (L, .inr (1, [.ref tx, .ref b1, .ref b2, .int 0, .int 0]))]) hD hS hA [0, 1] rfl
  have hkc : 0 + 1 ≤ 1 := Nat.le_of_ble_eq_true rfl
  have hks : 0 + 6 ≤ 6 := Nat.le_of_ble_eq_true rfl
  refine vx_calli (vx_runV (As := [.int n, .int k]) (rest := [.int 0, .ref o]) ⟨hx, hb, hml, hown, hT⟩ (xc_De_load l hlt D kA s.heap.size sa x L S C P tx b1 b2 n k) (cwV 2 hT (wT_V xk_152 xk_153 xk_154 xk_90 xk_151) rfl rfl rfl (by decide +kernel) ⟨Nat.le_of_ble_eq_true rfl, Nat.le_of_ble_eq_true rfl⟩) (x_preVX hK hPc hDc 0 rfl rfl hFc (xUS_kept hU hS) hstr) rfl rfl hl.1 rfl (lv_room (Nat.le_of_ble_eq_true rfl)) xd_La_load_5 ⟨hkc, hks⟩) hS (fun q _ h => hFc q h) hFc (fun q _ h => hFc q h) (fun E ce q9 u t H1 locs ht hvm hpost hB hz1 hk1 hS hce hcv hcl => ?_) (fun r u t H1 locs ht hvm hpost hB hz1 hk1 hS => ?_)
  · obtain ⟨hE9, hP1, hD1⟩ := hB
    subst hE9
    rw [ht] at hP1
    obtain ⟨hP, hD⟩ := va_join (wr := [(o, .inl (kA 3, 1, .inr (.inl fo)))]) (w1 := [(x, .inr (0, [.ref L, .ref S, .ref C, .ref P, .int 0, .int 0])), (L, .inr (1, [.ref tx, .ref b1, .ref b2, .int 0, .int 0]))]) hP hD [0, 1] [2] rfl rfl (by decide) (by decide) hk1 hFc hP1 hD1
    generalize H1 = H at hP hS hce ⊢
    have hP : va_P D xcl [(o, .inl (kA 3, 1, .inr (.inl fo))), (x, .inr (0, [.ref L, .ref S, .ref C, .ref P, .int 0, .int 0])), (L, .inr (1, [.ref tx, .ref b1, .ref b2, .int 0, .int 0]))] H := hP
    have hD : va_D A [(o, .inl (kA 3, 1, .inr (.inl fo))), (x, .inr (0, [.ref L, .ref S, .ref C, .ref P, .int 0, .int 0])), (L, .inr (1, [.ref tx, .ref b1, .ref b2, .int 0, .int 0]))] := hD
    refine vx_catch (own := "LayerDeskLaw") (name := "java/lang/IllegalArgumentException") hown [] ⟨0, 10, 13, 13⟩ [⟨0, 10, 17, 21⟩] (by rw [hex]; rfl) (fun z hz => nomatch hz) rfl (by decide) (hT _ xk_150) (va_Nw.use rfl hK.2.2.2.2.2.1) hce hcv hcl ?_
    refine lv_astore hx hb xd_La_load_13 hl (Nat.le_of_ble_eq_true rfl) rfl (fun ls hl => ?_)
    have hl : lv_has ls 5 [(4, .ref q9), (0, .ref x), (1, .int n), (2, .int k), (3, .ref o)] := hl
    refine lv_iconst (v := 1) hx hb xd_La_load_15 (by decide) ?_
    have hP9 := hP.sub (ws' := [(x, .inr (0, [.ref L, .ref S, .ref C, .ref P, .int 0, .int 0])), (L, .inr (1, [.ref tx, .ref b1, .ref b2, .int 0, .int 0])), (o, .inl (kA 3, 1, .inr (.inl fo)))]) [1, 2, 0] rfl
    have hD9 := hD.sub (ws' := [(x, .inr (0, [.ref L, .ref S, .ref C, .ref P, .int 0, .int 0])), (L, .inr (1, [.ref tx, .ref b1, .ref b2, .int 0, .int 0])), (o, .inl (kA 3, 1, .inr (.inl fo)))]) [1, 2, 0] (by decide) rfl
    refine W.widen (k := 1) (n := 6) (Nat.le_of_ble_eq_true rfl) (Nat.le_of_ble_eq_true rfl) ?_
    exact W.iret (v := 1) hx hb hr (fun t ht hW => ⟨⟨1, (), rfl, rfl, by rw [ht]; exact hP9, hD9⟩, hS.F ht⟩) hS.2.2 xd_La_load_16
  · exact absurd hpost (by exact fun h => h)
set_option maxHeartbeats 4000000 in
set_option maxRecDepth 100000 in
theorem xc_La_peek (l : Launch) (hlt : l.stackTraces = false) (D : va_G) (kA : Nat → ClassId) (sz sa : Nat) (x : Nat) (L : Nat) (S : Nat) (C : Nat) (P : Nat) (tx : Nat) (b1 : Nat) (b2 : Nat) (n : Int32) (k : Int32) (n2 : Int32) (k2 : Int32) (o : Nat) (fo : Nat → Int64) : Met l xy_La_peek (.codeWith xy_La_peek xb_La_peek 7 (some .int) [(0, 21, 24, 13), (0, 21, 28, 21)] :: wT) { frames := 7, cells := 1, slots := 6, locals := 109 } (va_Pc [.ref x, .int n, .int k, .int n2, .int k2, .ref o] (xPreX D kA sz [(x, .inr (0, [.ref L, .ref S, .ref C, .ref P, .int 0, .int 0])), (L, .inr (1, [.ref tx, .ref b1, .ref b2, .int 0, .int 0])), (o, .inl (kA 3, 1, .inr (.inl fo)))] "LayerDesk" 161 "no such module, or no name" sa)) (va_Qi (fun (r : Int32) (u : Unit) => r = 1) (fun (u : Unit) t => va_P D xcl [(x, .inr (0, [.ref L, .ref S, .ref C, .ref P, .int 0, .int 0])), (L, .inr (1, [.ref tx, .ref b1, .ref b2, .int 0, .int 0])), (o, .inl (kA 3, 1, .inr (.inl fo)))] t.heap ∧ va_D (va_A [(x, .inr (0, [.ref L, .ref S, .ref C, .ref P, .int 0, .int 0])), (L, .inr (1, [.ref tx, .ref b1, .ref b2, .int 0, .int 0])), (o, .inl (kA 3, 1, .inr (.inl fo)))] sz) [(x, .inr (0, [.ref L, .ref S, .ref C, .ref P, .int 0, .int 0])), (L, .inr (1, [.ref tx, .ref b1, .ref b2, .int 0, .int 0])), (o, .inl (kA 3, 1, .inr (.inl fo)))]) (va_A [(x, .inr (0, [.ref L, .ref S, .ref C, .ref P, .int 0, .int 0])), (L, .inr (1, [.ref tx, .ref b1, .ref b2, .int 0, .int 0])), (o, .inl (kA 3, 1, .inr (.inl fo)))] sz)) 1 6 (va_A [(x, .inr (0, [.ref L, .ref S, .ref C, .ref P, .int 0, .int 0])), (L, .inr (1, [.ref tx, .ref b1, .ref b2, .int 0, .int 0])), (o, .inl (kA 3, 1, .inr (.inl fo)))] sz) := by
  refine va_MetW (cc := xb_La_peek) (maxL := 7) (ret := (some .int)) (by decide) rfl ?_
  intro p e s m args below meth c s₁ B hml hv
  obtain ⟨rfl, ⟨hsz, hP, hK, hD0⟩, hU, hstr⟩ := hv
  have hx := B.exec
  have hb := B.bytes
  have hr := B.returns
  have hT := x_hT B.pre
  have hown : s.vm.findClass xR_La = some m.cls := findClass_of_methodNamed B.named
  have hlocks := B.notSynchronized
  subst hsz
  have hD := hD0.self (sz := s.heap.size)
  generalize hAe : va_A [(x, .inr (0, [.ref L, .ref S, .ref C, .ref P, .int 0, .int 0])), (L, .inr (1, [.ref tx, .ref b1, .ref b2, .int 0, .int 0])), (o, .inl (kA 3, 1, .inr (.inl fo)))] s.heap.size = A at hD hU ⊢
  have hA : ∀ q : Nat, s.heap.size ≤ q → A q := fun q h => by rw [← hAe]; exact Or.inr h
  have hS : va_S A s.heap s.heap [] := va_S.rf
  have hP : va_P D xcl [(x, .inr (0, [.ref L, .ref S, .ref C, .ref P, .int 0, .int 0])), (L, .inr (1, [.ref tx, .ref b1, .ref b2, .int 0, .int 0])), (o, .inl (kA 3, 1, .inr (.inl fo)))] s.heap := hP
  have hl := lv_entry ([.ref x, .int n, .int k, .int n2, .int k2, .ref o]) (n := 7) (Nat.le_of_ble_eq_true rfl)
  rw [lg_entry_eq]
  generalize (lg_sl ([.ref x, .int n, .int k, .int n2, .int k2, .ref o]) ++ List.replicate (7 - (lg_sl ([.ref x, .int n, .int k, .int n2, .int k2, .ref o])).length) Slot.unset).toArray = ls at hl ⊢
  have hl : lv_has ls 7 [(0, .ref x), (1, .int n), (2, .int k), (3, .int n2), (4, .int k2), (5, .ref o)] := hl
  have hex := vx_table (x := xy_La_peek) B (atoms_spec (ws := .codeWith xy_La_peek xb_La_peek 7 (some .int) [(0, 21, 24, 13), (0, 21, 28, 21)] :: wT) B.pre _ List.mem_cons_self)
  refine lv_aload hx hb xd_La_peek_0 (lv_at hl 5 rfl) ?_
  refine lv_iconst (v := 0) hx hb xd_La_peek_2 (by decide) ?_
  refine lv_aload_n hx hb xd_La_peek_3 rfl (lv_at hl 0 rfl) ?_
  refine lv_iload_n hx hb xd_La_peek_4 rfl (lv_at hl 1 rfl) ?_
  refine lv_iload_n hx hb xd_La_peek_5 rfl (lv_at hl 2 rfl) ?_
  refine lv_iload_n hx hb xd_La_peek_6 rfl (lv_at hl 3 rfl) ?_
  refine lv_iload hx hb xd_La_peek_7 (lv_at hl 4 rfl) ?_
  have hPc := hP.sub (ws' := [(x, .inr (0, [.ref L, .ref S, .ref C, .ref P, .int 0, .int 0])), (L, .inr (1, [.ref tx, .ref b1, .ref b2, .int 0, .int 0]))]) [0, 1] rfl
  have hDc := hD.sub (ws' := [(x, .inr (0, [.ref L, .ref S, .ref C, .ref P, .int 0, .int 0])), (L, .inr (1, [.ref tx, .ref b1, .ref b2, .int 0, .int 0]))]) [0, 1] (by decide) rfl
  have hFc := va_free (wc := [(x, .inr (0, [.ref L, .ref S, .ref C, .ref P, .int 0, .int 0])), (L, .inr (1, [.ref tx, .ref b1, .ref b2, .int 0, .int 0]))]) hD hS hA [0, 1] rfl
  have hkc : 0 + 1 ≤ 1 := Nat.le_of_ble_eq_true rfl
  have hks : 0 + 6 ≤ 6 := Nat.le_of_ble_eq_true rfl
  refine vx_calli (vx_runV (As := [.int n, .int k, .int n2, .int k2]) (rest := [.int 0, .ref o]) ⟨hx, hb, hml, hown, hT⟩ (xc_De_peek l hlt D kA s.heap.size sa x L S C P tx b1 b2 n k n2 k2) (cwV 4 hT (wT_V xk_156 xk_157 xk_158 xk_90 xk_155) rfl rfl rfl (by decide +kernel) ⟨Nat.le_of_ble_eq_true rfl, Nat.le_of_ble_eq_true rfl⟩) (x_preVX hK hPc hDc 0 rfl rfl hFc (xUS_kept hU hS) hstr) rfl rfl hl.1 rfl (lv_room (Nat.le_of_ble_eq_true rfl)) xd_La_peek_9 ⟨hkc, hks⟩) hS (fun q _ h => hFc q h) hFc (fun q _ h => hFc q h) (fun E ce q9 u t H1 locs ht hvm hpost hB hz1 hk1 hS hce hcv hcl => ?_) (fun r u t H1 locs ht hvm hpost hB hz1 hk1 hS => ?_)
  · obtain ⟨hE9, hP1, hD1⟩ := hB
    subst hE9
    rw [ht] at hP1
    obtain ⟨hP, hD⟩ := va_join (wr := [(o, .inl (kA 3, 1, .inr (.inl fo)))]) (w1 := [(x, .inr (0, [.ref L, .ref S, .ref C, .ref P, .int 0, .int 0])), (L, .inr (1, [.ref tx, .ref b1, .ref b2, .int 0, .int 0]))]) hP hD [0, 1] [2] rfl rfl (by decide) (by decide) hk1 hFc hP1 hD1
    generalize H1 = H at hP hS hce ⊢
    have hP : va_P D xcl [(o, .inl (kA 3, 1, .inr (.inl fo))), (x, .inr (0, [.ref L, .ref S, .ref C, .ref P, .int 0, .int 0])), (L, .inr (1, [.ref tx, .ref b1, .ref b2, .int 0, .int 0]))] H := hP
    have hD : va_D A [(o, .inl (kA 3, 1, .inr (.inl fo))), (x, .inr (0, [.ref L, .ref S, .ref C, .ref P, .int 0, .int 0])), (L, .inr (1, [.ref tx, .ref b1, .ref b2, .int 0, .int 0]))] := hD
    refine vx_catch (own := "LayerDeskLaw") (name := "java/lang/IllegalArgumentException") hown [] ⟨0, 21, 24, 13⟩ [⟨0, 21, 28, 21⟩] (by rw [hex]; rfl) (fun z hz => nomatch hz) rfl (by decide) (hT _ xk_150) (va_Nw.use rfl hK.2.2.2.2.2.1) hce hcv hcl ?_
    refine lv_astore hx hb xd_La_peek_24 hl (Nat.le_of_ble_eq_true rfl) rfl (fun ls hl => ?_)
    have hl : lv_has ls 7 [(6, .ref q9), (0, .ref x), (1, .int n), (2, .int k), (3, .int n2), (4, .int k2), (5, .ref o)] := hl
    refine lv_iconst (v := 1) hx hb xd_La_peek_26 (by decide) ?_
    have hP9 := hP.sub (ws' := [(x, .inr (0, [.ref L, .ref S, .ref C, .ref P, .int 0, .int 0])), (L, .inr (1, [.ref tx, .ref b1, .ref b2, .int 0, .int 0])), (o, .inl (kA 3, 1, .inr (.inl fo)))]) [1, 2, 0] rfl
    have hD9 := hD.sub (ws' := [(x, .inr (0, [.ref L, .ref S, .ref C, .ref P, .int 0, .int 0])), (L, .inr (1, [.ref tx, .ref b1, .ref b2, .int 0, .int 0])), (o, .inl (kA 3, 1, .inr (.inl fo)))]) [1, 2, 0] (by decide) rfl
    refine W.widen (k := 1) (n := 6) (Nat.le_of_ble_eq_true rfl) (Nat.le_of_ble_eq_true rfl) ?_
    exact W.iret (v := 1) hx hb hr (fun t ht hW => ⟨⟨1, (), rfl, rfl, by rw [ht]; exact hP9, hD9⟩, hS.F ht⟩) hS.2.2 xd_La_peek_27
  · exact absurd hpost (by exact fun h => h)
set_option maxHeartbeats 4000000 in
set_option maxRecDepth 100000 in
theorem xc_La_provider (l : Launch) (hlt : l.stackTraces = false) (D : va_G) (kA : Nat → ClassId) (sz sa : Nat) (x : Nat) (L : Nat) (S : Nat) (C : Nat) (P : Nat) (tx : Nat) (b1 : Nat) (b2 : Nat) (n : Int32) (k : Int32) (o : Nat) (fo : Nat → Int64) : Met l xy_La_provider (.codeWith xy_La_provider xb_La_provider 5 (some .int) [(0, 10, 13, 13)] :: wT) { frames := 7, cells := 1, slots := 6, locals := 107 } (va_Pc [.ref x, .int n, .int k, .ref o] (xPreX D kA sz [(x, .inr (0, [.ref L, .ref S, .ref C, .ref P, .int 0, .int 0])), (L, .inr (1, [.ref tx, .ref b1, .ref b2, .int 0, .int 0])), (o, .inl (kA 3, 1, .inr (.inl fo)))] "LayerDesk" 190 "the layer is not open, or no name" sa)) (va_Qi (fun (r : Int32) (u : Unit) => r = 1) (fun (u : Unit) t => va_P D xcl [(x, .inr (0, [.ref L, .ref S, .ref C, .ref P, .int 0, .int 0])), (L, .inr (1, [.ref tx, .ref b1, .ref b2, .int 0, .int 0])), (o, .inl (kA 3, 1, .inr (.inl fo)))] t.heap ∧ va_D (va_A [(x, .inr (0, [.ref L, .ref S, .ref C, .ref P, .int 0, .int 0])), (L, .inr (1, [.ref tx, .ref b1, .ref b2, .int 0, .int 0])), (o, .inl (kA 3, 1, .inr (.inl fo)))] sz) [(x, .inr (0, [.ref L, .ref S, .ref C, .ref P, .int 0, .int 0])), (L, .inr (1, [.ref tx, .ref b1, .ref b2, .int 0, .int 0])), (o, .inl (kA 3, 1, .inr (.inl fo)))]) (va_A [(x, .inr (0, [.ref L, .ref S, .ref C, .ref P, .int 0, .int 0])), (L, .inr (1, [.ref tx, .ref b1, .ref b2, .int 0, .int 0])), (o, .inl (kA 3, 1, .inr (.inl fo)))] sz)) 1 6 (va_A [(x, .inr (0, [.ref L, .ref S, .ref C, .ref P, .int 0, .int 0])), (L, .inr (1, [.ref tx, .ref b1, .ref b2, .int 0, .int 0])), (o, .inl (kA 3, 1, .inr (.inl fo)))] sz) := by
  refine va_MetW (cc := xb_La_provider) (maxL := 5) (ret := (some .int)) (by decide) rfl ?_
  intro p e s m args below meth c s₁ B hml hv
  obtain ⟨rfl, ⟨hsz, hP, hK, hD0⟩, hU, hstr⟩ := hv
  have hx := B.exec
  have hb := B.bytes
  have hr := B.returns
  have hT := x_hT B.pre
  have hown : s.vm.findClass xR_La = some m.cls := findClass_of_methodNamed B.named
  have hlocks := B.notSynchronized
  subst hsz
  have hD := hD0.self (sz := s.heap.size)
  generalize hAe : va_A [(x, .inr (0, [.ref L, .ref S, .ref C, .ref P, .int 0, .int 0])), (L, .inr (1, [.ref tx, .ref b1, .ref b2, .int 0, .int 0])), (o, .inl (kA 3, 1, .inr (.inl fo)))] s.heap.size = A at hD hU ⊢
  have hA : ∀ q : Nat, s.heap.size ≤ q → A q := fun q h => by rw [← hAe]; exact Or.inr h
  have hS : va_S A s.heap s.heap [] := va_S.rf
  have hP : va_P D xcl [(x, .inr (0, [.ref L, .ref S, .ref C, .ref P, .int 0, .int 0])), (L, .inr (1, [.ref tx, .ref b1, .ref b2, .int 0, .int 0])), (o, .inl (kA 3, 1, .inr (.inl fo)))] s.heap := hP
  have hl := lv_entry ([.ref x, .int n, .int k, .ref o]) (n := 5) (Nat.le_of_ble_eq_true rfl)
  rw [lg_entry_eq]
  generalize (lg_sl ([.ref x, .int n, .int k, .ref o]) ++ List.replicate (5 - (lg_sl ([.ref x, .int n, .int k, .ref o])).length) Slot.unset).toArray = ls at hl ⊢
  have hl : lv_has ls 5 [(0, .ref x), (1, .int n), (2, .int k), (3, .ref o)] := hl
  have hex := vx_table (x := xy_La_provider) B (atoms_spec (ws := .codeWith xy_La_provider xb_La_provider 5 (some .int) [(0, 10, 13, 13)] :: wT) B.pre _ List.mem_cons_self)
  refine lv_aload_n hx hb xd_La_provider_0 rfl (lv_at hl 3 rfl) ?_
  refine lv_iconst (v := 0) hx hb xd_La_provider_1 (by decide) ?_
  refine lv_aload_n hx hb xd_La_provider_2 rfl (lv_at hl 0 rfl) ?_
  refine lv_iload_n hx hb xd_La_provider_3 rfl (lv_at hl 1 rfl) ?_
  refine lv_iload_n hx hb xd_La_provider_4 rfl (lv_at hl 2 rfl) ?_
  have hPc := hP.sub (ws' := [(x, .inr (0, [.ref L, .ref S, .ref C, .ref P, .int 0, .int 0])), (L, .inr (1, [.ref tx, .ref b1, .ref b2, .int 0, .int 0]))]) [0, 1] rfl
  have hDc := hD.sub (ws' := [(x, .inr (0, [.ref L, .ref S, .ref C, .ref P, .int 0, .int 0])), (L, .inr (1, [.ref tx, .ref b1, .ref b2, .int 0, .int 0]))]) [0, 1] (by decide) rfl
  have hFc := va_free (wc := [(x, .inr (0, [.ref L, .ref S, .ref C, .ref P, .int 0, .int 0])), (L, .inr (1, [.ref tx, .ref b1, .ref b2, .int 0, .int 0]))]) hD hS hA [0, 1] rfl
  have hkc : 0 + 1 ≤ 1 := Nat.le_of_ble_eq_true rfl
  have hks : 0 + 6 ≤ 6 := Nat.le_of_ble_eq_true rfl
  refine vx_calli (vx_runV (As := [.int n, .int k]) (rest := [.int 0, .ref o]) ⟨hx, hb, hml, hown, hT⟩ (xc_De_provider l hlt D kA s.heap.size sa x L S C P tx b1 b2 n k) (cwV 2 hT (wT_V xk_160 xk_161 xk_162 xk_90 xk_159) rfl rfl rfl (by decide +kernel) ⟨Nat.le_of_ble_eq_true rfl, Nat.le_of_ble_eq_true rfl⟩) (x_preVX hK hPc hDc 0 rfl rfl hFc (xUS_kept hU hS) hstr) rfl rfl hl.1 rfl (lv_room (Nat.le_of_ble_eq_true rfl)) xd_La_provider_5 ⟨hkc, hks⟩) hS (fun q _ h => hFc q h) hFc (fun q _ h => hFc q h) (fun E ce q9 u t H1 locs ht hvm hpost hB hz1 hk1 hS hce hcv hcl => ?_) (fun r u t H1 locs ht hvm hpost hB hz1 hk1 hS => ?_)
  · obtain ⟨hE9, hP1, hD1⟩ := hB
    subst hE9
    rw [ht] at hP1
    obtain ⟨hP, hD⟩ := va_join (wr := [(o, .inl (kA 3, 1, .inr (.inl fo)))]) (w1 := [(x, .inr (0, [.ref L, .ref S, .ref C, .ref P, .int 0, .int 0])), (L, .inr (1, [.ref tx, .ref b1, .ref b2, .int 0, .int 0]))]) hP hD [0, 1] [2] rfl rfl (by decide) (by decide) hk1 hFc hP1 hD1
    generalize H1 = H at hP hS hce ⊢
    have hP : va_P D xcl [(o, .inl (kA 3, 1, .inr (.inl fo))), (x, .inr (0, [.ref L, .ref S, .ref C, .ref P, .int 0, .int 0])), (L, .inr (1, [.ref tx, .ref b1, .ref b2, .int 0, .int 0]))] H := hP
    have hD : va_D A [(o, .inl (kA 3, 1, .inr (.inl fo))), (x, .inr (0, [.ref L, .ref S, .ref C, .ref P, .int 0, .int 0])), (L, .inr (1, [.ref tx, .ref b1, .ref b2, .int 0, .int 0]))] := hD
    refine vx_catch (own := "LayerDeskLaw") (name := "java/lang/IllegalArgumentException") hown [] ⟨0, 10, 13, 13⟩ [] (by rw [hex]; rfl) (fun z hz => nomatch hz) rfl (by decide) (hT _ xk_150) (va_Nw.use rfl hK.2.2.2.2.2.1) hce hcv hcl ?_
    refine lv_astore hx hb xd_La_provider_13 hl (Nat.le_of_ble_eq_true rfl) rfl (fun ls hl => ?_)
    have hl : lv_has ls 5 [(4, .ref q9), (0, .ref x), (1, .int n), (2, .int k), (3, .ref o)] := hl
    refine lv_iconst (v := 1) hx hb xd_La_provider_15 (by decide) ?_
    have hP9 := hP.sub (ws' := [(x, .inr (0, [.ref L, .ref S, .ref C, .ref P, .int 0, .int 0])), (L, .inr (1, [.ref tx, .ref b1, .ref b2, .int 0, .int 0])), (o, .inl (kA 3, 1, .inr (.inl fo)))]) [1, 2, 0] rfl
    have hD9 := hD.sub (ws' := [(x, .inr (0, [.ref L, .ref S, .ref C, .ref P, .int 0, .int 0])), (L, .inr (1, [.ref tx, .ref b1, .ref b2, .int 0, .int 0])), (o, .inl (kA 3, 1, .inr (.inl fo)))]) [1, 2, 0] (by decide) rfl
    refine W.widen (k := 1) (n := 6) (Nat.le_of_ble_eq_true rfl) (Nat.le_of_ble_eq_true rfl) ?_
    exact W.iret (v := 1) hx hb hr (fun t ht hW => ⟨⟨1, (), rfl, rfl, by rw [ht]; exact hP9, hD9⟩, hS.F ht⟩) hS.2.2 xd_La_provider_16
  · exact absurd hpost (by exact fun h => h)
end
