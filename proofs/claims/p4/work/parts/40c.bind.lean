abbrev xb_Ch_addRoot : ByteArray := prog_2_method_3_code
def xy_Ch_addRoot : MethodName := ⟨"LayerDesk$Chooser", "addRoot", "(I)Z"⟩
abbrev xb_Ch_bindProvidersOf : ByteArray := prog_2_method_10_code
def xy_Ch_bindProvidersOf : MethodName := ⟨"LayerDesk$Chooser", "bindProvidersOf", "(I)V"⟩
abbrev xb_Ch_bindUsesOf : ByteArray := prog_2_method_9_code
def xy_Ch_bindUsesOf : MethodName := ⟨"LayerDesk$Chooser", "bindUsesOf", "(LLayerDesk$Descriptor;)V"⟩
abbrev xb_Ch_bindOnce : ByteArray := prog_2_method_8_code
def xy_Ch_bindOnce : MethodName := ⟨"LayerDesk$Chooser", "bindOnce", "()V"⟩
abbrev xb_Ch_bind : ByteArray := prog_2_method_4_code
def xy_Ch_bind : MethodName := ⟨"LayerDesk$Chooser", "bind", "()V"⟩
abbrev xb_De_addRoots : ByteArray := prog_1_method_18_code
def xy_De_addRoots : MethodName := ⟨"LayerDesk", "addRoots", "()Z"⟩
theorem xd_Ch_addRoot_0 : decode xb_Ch_addRoot 0 = .ok (.aload_n 0, 1) := by decide +kernel
theorem xd_Ch_addRoot_1 : decode xb_Ch_addRoot 1 = .ok (.iload_n 1, 1) := by decide +kernel
theorem xd_Ch_addRoot_2 : decode xb_Ch_addRoot 2 = .ok (.iconst 0, 1) := by decide +kernel
theorem xd_Ch_addRoot_3 : decode xb_Ch_addRoot 3 = .ok (.invokevirtual 32, 3) := by decide +kernel
theorem xd_Ch_addRoot_6 : decode xb_Ch_addRoot 6 = .ok (.ireturn, 1) := by decide +kernel
theorem xd_Ch_bind_0 : decode xb_Ch_bind 0 = .ok (.iconst 0, 1) := by decide +kernel
theorem xd_Ch_bind_1 : decode xb_Ch_bind 1 = .ok (.istore_n 1, 1) := by decide +kernel
theorem xd_Ch_bind_2 : decode xb_Ch_bind 2 = .ok (.iload_n 1, 1) := by decide +kernel
theorem xd_Ch_bind_3 : decode xb_Ch_bind 3 = .ok (.bipush 12, 2) := by decide +kernel
theorem xd_Ch_bind_5 : decode xb_Ch_bind 5 = .ok (.if_icmp .gt 27, 3) := by decide +kernel
theorem xd_Ch_bind_8 : decode xb_Ch_bind 8 = .ok (.aload_n 0, 1) := by decide +kernel
theorem xd_Ch_bind_9 : decode xb_Ch_bind 9 = .ok (.getfield 17, 3) := by decide +kernel
theorem xd_Ch_bind_12 : decode xb_Ch_bind 12 = .ok (.istore_n 2, 1) := by decide +kernel
theorem xd_Ch_bind_13 : decode xb_Ch_bind 13 = .ok (.aload_n 0, 1) := by decide +kernel
theorem xd_Ch_bind_14 : decode xb_Ch_bind 14 = .ok (.invokevirtual 36, 3) := by decide +kernel
theorem xd_Ch_bind_17 : decode xb_Ch_bind 17 = .ok (.aload_n 0, 1) := by decide +kernel
theorem xd_Ch_bind_18 : decode xb_Ch_bind 18 = .ok (.getfield 17, 3) := by decide +kernel
theorem xd_Ch_bind_21 : decode xb_Ch_bind 21 = .ok (.iload_n 2, 1) := by decide +kernel
theorem xd_Ch_bind_22 : decode xb_Ch_bind 22 = .ok (.if_icmp .ne 4, 3) := by decide +kernel
theorem xd_Ch_bind_25 : decode xb_Ch_bind 25 = .ok (.return_, 1) := by decide +kernel
theorem xd_Ch_bind_26 : decode xb_Ch_bind 26 = .ok (.iinc 1 1, 3) := by decide +kernel
theorem xd_Ch_bind_29 : decode xb_Ch_bind 29 = .ok (.goto (-27), 3) := by decide +kernel
theorem xd_Ch_bind_32 : decode xb_Ch_bind 32 = .ok (.return_, 1) := by decide +kernel
theorem xd_Ch_bindOnce_0 : decode xb_Ch_bindOnce 0 = .ok (.iconst 0, 1) := by decide +kernel
theorem xd_Ch_bindOnce_1 : decode xb_Ch_bindOnce 1 = .ok (.istore_n 1, 1) := by decide +kernel
theorem xd_Ch_bindOnce_2 : decode xb_Ch_bindOnce 2 = .ok (.iload_n 1, 1) := by decide +kernel
theorem xd_Ch_bindOnce_3 : decode xb_Ch_bindOnce 3 = .ok (.aload_n 0, 1) := by decide +kernel
theorem xd_Ch_bindOnce_4 : decode xb_Ch_bindOnce 4 = .ok (.getfield 17, 3) := by decide +kernel
theorem xd_Ch_bindOnce_7 : decode xb_Ch_bindOnce 7 = .ok (.if_icmp .ge 25, 3) := by decide +kernel
theorem xd_Ch_bindOnce_10 : decode xb_Ch_bindOnce 10 = .ok (.iload_n 1, 1) := by decide +kernel
theorem xd_Ch_bindOnce_11 : decode xb_Ch_bindOnce 11 = .ok (.bipush 12, 2) := by decide +kernel
theorem xd_Ch_bindOnce_13 : decode xb_Ch_bindOnce 13 = .ok (.if_icmp .ge 19, 3) := by decide +kernel
theorem xd_Ch_bindOnce_16 : decode xb_Ch_bindOnce 16 = .ok (.aload_n 0, 1) := by decide +kernel
theorem xd_Ch_bindOnce_17 : decode xb_Ch_bindOnce 17 = .ok (.aload_n 0, 1) := by decide +kernel
theorem xd_Ch_bindOnce_18 : decode xb_Ch_bindOnce 18 = .ok (.getfield 11, 3) := by decide +kernel
theorem xd_Ch_bindOnce_21 : decode xb_Ch_bindOnce 21 = .ok (.iload_n 1, 1) := by decide +kernel
theorem xd_Ch_bindOnce_22 : decode xb_Ch_bindOnce 22 = .ok (.aaload, 1) := by decide +kernel
theorem xd_Ch_bindOnce_23 : decode xb_Ch_bindOnce 23 = .ok (.invokevirtual 85, 3) := by decide +kernel
theorem xd_Ch_bindOnce_26 : decode xb_Ch_bindOnce 26 = .ok (.iinc 1 1, 3) := by decide +kernel
theorem xd_Ch_bindOnce_29 : decode xb_Ch_bindOnce 29 = .ok (.goto (-27), 3) := by decide +kernel
theorem xd_Ch_bindOnce_32 : decode xb_Ch_bindOnce 32 = .ok (.aload_n 0, 1) := by decide +kernel
theorem xd_Ch_bindOnce_33 : decode xb_Ch_bindOnce 33 = .ok (.getfield 24, 3) := by decide +kernel
theorem xd_Ch_bindOnce_36 : decode xb_Ch_bindOnce 36 = .ok (.astore_n 1, 1) := by decide +kernel
theorem xd_Ch_bindOnce_37 : decode xb_Ch_bindOnce 37 = .ok (.aload_n 1, 1) := by decide +kernel
theorem xd_Ch_bindOnce_38 : decode xb_Ch_bindOnce 38 = .ok (.ifnull 41, 3) := by decide +kernel
theorem xd_Ch_bindOnce_41 : decode xb_Ch_bindOnce 41 = .ok (.iconst 0, 1) := by decide +kernel
theorem xd_Ch_bindOnce_42 : decode xb_Ch_bindOnce 42 = .ok (.istore_n 2, 1) := by decide +kernel
theorem xd_Ch_bindOnce_43 : decode xb_Ch_bindOnce 43 = .ok (.iload_n 2, 1) := by decide +kernel
theorem xd_Ch_bindOnce_44 : decode xb_Ch_bindOnce 44 = .ok (.aload_n 1, 1) := by decide +kernel
theorem xd_Ch_bindOnce_45 : decode xb_Ch_bindOnce 45 = .ok (.getfield 44, 3) := by decide +kernel
theorem xd_Ch_bindOnce_48 : decode xb_Ch_bindOnce 48 = .ok (.arraylength, 1) := by decide +kernel
theorem xd_Ch_bindOnce_49 : decode xb_Ch_bindOnce 49 = .ok (.if_icmp .ge 22, 3) := by decide +kernel
theorem xd_Ch_bindOnce_52 : decode xb_Ch_bindOnce 52 = .ok (.aload_n 0, 1) := by decide +kernel
theorem xd_Ch_bindOnce_53 : decode xb_Ch_bindOnce 53 = .ok (.aload_n 1, 1) := by decide +kernel
theorem xd_Ch_bindOnce_54 : decode xb_Ch_bindOnce 54 = .ok (.getfield 44, 3) := by decide +kernel
theorem xd_Ch_bindOnce_57 : decode xb_Ch_bindOnce 57 = .ok (.iload_n 2, 1) := by decide +kernel
theorem xd_Ch_bindOnce_58 : decode xb_Ch_bindOnce 58 = .ok (.aaload, 1) := by decide +kernel
theorem xd_Ch_bindOnce_59 : decode xb_Ch_bindOnce 59 = .ok (.getfield 89, 3) := by decide +kernel
theorem xd_Ch_bindOnce_62 : decode xb_Ch_bindOnce 62 = .ok (.invokevirtual 85, 3) := by decide +kernel
theorem xd_Ch_bindOnce_65 : decode xb_Ch_bindOnce 65 = .ok (.iinc 2 1, 3) := by decide +kernel
theorem xd_Ch_bindOnce_68 : decode xb_Ch_bindOnce 68 = .ok (.goto (-25), 3) := by decide +kernel
theorem xd_Ch_bindOnce_71 : decode xb_Ch_bindOnce 71 = .ok (.aload_n 1, 1) := by decide +kernel
theorem xd_Ch_bindOnce_72 : decode xb_Ch_bindOnce 72 = .ok (.getfield 93, 3) := by decide +kernel
theorem xd_Ch_bindOnce_75 : decode xb_Ch_bindOnce 75 = .ok (.astore_n 1, 1) := by decide +kernel
theorem xd_Ch_bindOnce_76 : decode xb_Ch_bindOnce 76 = .ok (.goto (-39), 3) := by decide +kernel
theorem xd_Ch_bindOnce_79 : decode xb_Ch_bindOnce 79 = .ok (.return_, 1) := by decide +kernel
theorem xd_Ch_bindProvidersOf_0 : decode xb_Ch_bindProvidersOf 0 = .ok (.iconst 0, 1) := by decide +kernel
theorem xd_Ch_bindProvidersOf_1 : decode xb_Ch_bindProvidersOf 1 = .ok (.istore_n 2, 1) := by decide +kernel
theorem xd_Ch_bindProvidersOf_2 : decode xb_Ch_bindProvidersOf 2 = .ok (.iload_n 2, 1) := by decide +kernel
theorem xd_Ch_bindProvidersOf_3 : decode xb_Ch_bindProvidersOf 3 = .ok (.aload_n 0, 1) := by decide +kernel
theorem xd_Ch_bindProvidersOf_4 : decode xb_Ch_bindProvidersOf 4 = .ok (.getfield 28, 3) := by decide +kernel
theorem xd_Ch_bindProvidersOf_7 : decode xb_Ch_bindProvidersOf 7 = .ok (.getfield 101, 3) := by decide +kernel
theorem xd_Ch_bindProvidersOf_10 : decode xb_Ch_bindProvidersOf 10 = .ok (.if_icmp .ge 73, 3) := by decide +kernel
theorem xd_Ch_bindProvidersOf_13 : decode xb_Ch_bindProvidersOf 13 = .ok (.aload_n 0, 1) := by decide +kernel
theorem xd_Ch_bindProvidersOf_14 : decode xb_Ch_bindProvidersOf 14 = .ok (.getfield 28, 3) := by decide +kernel
theorem xd_Ch_bindProvidersOf_17 : decode xb_Ch_bindProvidersOf 17 = .ok (.getfield 102, 3) := by decide +kernel
theorem xd_Ch_bindProvidersOf_20 : decode xb_Ch_bindProvidersOf 20 = .ok (.iload_n 2, 1) := by decide +kernel
theorem xd_Ch_bindProvidersOf_21 : decode xb_Ch_bindProvidersOf 21 = .ok (.aaload, 1) := by decide +kernel
theorem xd_Ch_bindProvidersOf_22 : decode xb_Ch_bindProvidersOf 22 = .ok (.astore_n 3, 1) := by decide +kernel
theorem xd_Ch_bindProvidersOf_23 : decode xb_Ch_bindProvidersOf 23 = .ok (.aload_n 0, 1) := by decide +kernel
theorem xd_Ch_bindProvidersOf_24 : decode xb_Ch_bindProvidersOf 24 = .ok (.getfield 17, 3) := by decide +kernel
theorem xd_Ch_bindProvidersOf_27 : decode xb_Ch_bindProvidersOf 27 = .ok (.istore 4, 2) := by decide +kernel
theorem xd_Ch_bindProvidersOf_29 : decode xb_Ch_bindProvidersOf 29 = .ok (.aload_n 3, 1) := by decide +kernel
theorem xd_Ch_bindProvidersOf_30 : decode xb_Ch_bindProvidersOf 30 = .ok (.getfield 105, 3) := by decide +kernel
theorem xd_Ch_bindProvidersOf_33 : decode xb_Ch_bindProvidersOf 33 = .ok (.aload_n 0, 1) := by decide +kernel
theorem xd_Ch_bindProvidersOf_34 : decode xb_Ch_bindProvidersOf 34 = .ok (.getfield 21, 3) := by decide +kernel
theorem xd_Ch_bindProvidersOf_37 : decode xb_Ch_bindProvidersOf 37 = .ok (.if_icmp .ne 40, 3) := by decide +kernel
theorem xd_Ch_bindProvidersOf_40 : decode xb_Ch_bindProvidersOf 40 = .ok (.aload_n 3, 1) := by decide +kernel
theorem xd_Ch_bindProvidersOf_41 : decode xb_Ch_bindProvidersOf 41 = .ok (.getfield 106, 3) := by decide +kernel
theorem xd_Ch_bindProvidersOf_44 : decode xb_Ch_bindProvidersOf 44 = .ok (.iload_n 1, 1) := by decide +kernel
theorem xd_Ch_bindProvidersOf_45 : decode xb_Ch_bindProvidersOf 45 = .ok (.invokevirtual 109, 3) := by decide +kernel
theorem xd_Ch_bindProvidersOf_48 : decode xb_Ch_bindProvidersOf 48 = .ok (.ifCond .eq 29, 3) := by decide +kernel
theorem xd_Ch_bindProvidersOf_51 : decode xb_Ch_bindProvidersOf 51 = .ok (.aload_n 0, 1) := by decide +kernel
theorem xd_Ch_bindProvidersOf_52 : decode xb_Ch_bindProvidersOf 52 = .ok (.aload_n 3, 1) := by decide +kernel
theorem xd_Ch_bindProvidersOf_53 : decode xb_Ch_bindProvidersOf 53 = .ok (.invokevirtual 66, 3) := by decide +kernel
theorem xd_Ch_bindProvidersOf_56 : decode xb_Ch_bindProvidersOf 56 = .ok (.ifCond .ne 21, 3) := by decide +kernel
theorem xd_Ch_bindProvidersOf_59 : decode xb_Ch_bindProvidersOf 59 = .ok (.aload_n 0, 1) := by decide +kernel
theorem xd_Ch_bindProvidersOf_60 : decode xb_Ch_bindProvidersOf 60 = .ok (.aload_n 3, 1) := by decide +kernel
theorem xd_Ch_bindProvidersOf_61 : decode xb_Ch_bindProvidersOf 61 = .ok (.getfield 113, 3) := by decide +kernel
theorem xd_Ch_bindProvidersOf_64 : decode xb_Ch_bindProvidersOf 64 = .ok (.iconst 0, 1) := by decide +kernel
theorem xd_Ch_bindProvidersOf_65 : decode xb_Ch_bindProvidersOf 65 = .ok (.invokevirtual 32, 3) := by decide +kernel
theorem xd_Ch_bindProvidersOf_68 : decode xb_Ch_bindProvidersOf 68 = .ok (.ifCond .ne 9, 3) := by decide +kernel
theorem xd_Ch_bindProvidersOf_71 : decode xb_Ch_bindProvidersOf 71 = .ok (.aload_n 0, 1) := by decide +kernel
theorem xd_Ch_bindProvidersOf_72 : decode xb_Ch_bindProvidersOf 72 = .ok (.iload 4, 2) := by decide +kernel
theorem xd_Ch_bindProvidersOf_74 : decode xb_Ch_bindProvidersOf 74 = .ok (.putfield 17, 3) := by decide +kernel
theorem xd_Ch_bindProvidersOf_77 : decode xb_Ch_bindProvidersOf 77 = .ok (.iinc 2 1, 3) := by decide +kernel
theorem xd_Ch_bindProvidersOf_80 : decode xb_Ch_bindProvidersOf 80 = .ok (.goto (-78), 3) := by decide +kernel
theorem xd_Ch_bindProvidersOf_83 : decode xb_Ch_bindProvidersOf 83 = .ok (.return_, 1) := by decide +kernel
theorem xd_Ch_bindUsesOf_0 : decode xb_Ch_bindUsesOf 0 = .ok (.iconst 0, 1) := by decide +kernel
theorem xd_Ch_bindUsesOf_1 : decode xb_Ch_bindUsesOf 1 = .ok (.istore_n 2, 1) := by decide +kernel
theorem xd_Ch_bindUsesOf_2 : decode xb_Ch_bindUsesOf 2 = .ok (.iload_n 2, 1) := by decide +kernel
theorem xd_Ch_bindUsesOf_3 : decode xb_Ch_bindUsesOf 3 = .ok (.aload_n 1, 1) := by decide +kernel
theorem xd_Ch_bindUsesOf_4 : decode xb_Ch_bindUsesOf 4 = .ok (.getfield 94, 3) := by decide +kernel
theorem xd_Ch_bindUsesOf_7 : decode xb_Ch_bindUsesOf 7 = .ok (.getfield 74, 3) := by decide +kernel
theorem xd_Ch_bindUsesOf_10 : decode xb_Ch_bindUsesOf 10 = .ok (.if_icmp .ge 21, 3) := by decide +kernel
theorem xd_Ch_bindUsesOf_13 : decode xb_Ch_bindUsesOf 13 = .ok (.aload_n 0, 1) := by decide +kernel
theorem xd_Ch_bindUsesOf_14 : decode xb_Ch_bindUsesOf 14 = .ok (.aload_n 1, 1) := by decide +kernel
theorem xd_Ch_bindUsesOf_15 : decode xb_Ch_bindUsesOf 15 = .ok (.getfield 94, 3) := by decide +kernel
theorem xd_Ch_bindUsesOf_18 : decode xb_Ch_bindUsesOf 18 = .ok (.iload_n 2, 1) := by decide +kernel
theorem xd_Ch_bindUsesOf_19 : decode xb_Ch_bindUsesOf 19 = .ok (.invokevirtual 81, 3) := by decide +kernel
theorem xd_Ch_bindUsesOf_22 : decode xb_Ch_bindUsesOf 22 = .ok (.invokevirtual 97, 3) := by decide +kernel
theorem xd_Ch_bindUsesOf_25 : decode xb_Ch_bindUsesOf 25 = .ok (.iinc 2 1, 3) := by decide +kernel
theorem xd_Ch_bindUsesOf_28 : decode xb_Ch_bindUsesOf 28 = .ok (.goto (-26), 3) := by decide +kernel
theorem xd_Ch_bindUsesOf_31 : decode xb_Ch_bindUsesOf 31 = .ok (.return_, 1) := by decide +kernel
theorem xd_De_addRoots_0 : decode xb_De_addRoots 0 = .ok (.iconst 0, 1) := by decide +kernel
theorem xd_De_addRoots_1 : decode xb_De_addRoots 1 = .ok (.istore_n 1, 1) := by decide +kernel
theorem xd_De_addRoots_2 : decode xb_De_addRoots 2 = .ok (.iload_n 1, 1) := by decide +kernel
theorem xd_De_addRoots_3 : decode xb_De_addRoots 3 = .ok (.aload_n 0, 1) := by decide +kernel
theorem xd_De_addRoots_4 : decode xb_De_addRoots 4 = .ok (.getfield 10, 3) := by decide +kernel
theorem xd_De_addRoots_7 : decode xb_De_addRoots 7 = .ok (.getfield 198, 3) := by decide +kernel
theorem xd_De_addRoots_10 : decode xb_De_addRoots 10 = .ok (.if_icmp .ge 29, 3) := by decide +kernel
theorem xd_De_addRoots_13 : decode xb_De_addRoots 13 = .ok (.aload_n 0, 1) := by decide +kernel
theorem xd_De_addRoots_14 : decode xb_De_addRoots 14 = .ok (.getfield 28, 3) := by decide +kernel
theorem xd_De_addRoots_17 : decode xb_De_addRoots 17 = .ok (.aload_n 0, 1) := by decide +kernel
theorem xd_De_addRoots_18 : decode xb_De_addRoots 18 = .ok (.getfield 10, 3) := by decide +kernel
theorem xd_De_addRoots_21 : decode xb_De_addRoots 21 = .ok (.iload_n 1, 1) := by decide +kernel
theorem xd_De_addRoots_22 : decode xb_De_addRoots 22 = .ok (.invokevirtual 201, 3) := by decide +kernel
theorem xd_De_addRoots_25 : decode xb_De_addRoots 25 = .ok (.invokevirtual 205, 3) := by decide +kernel
theorem xd_De_addRoots_28 : decode xb_De_addRoots 28 = .ok (.ifCond .ne 5, 3) := by decide +kernel
theorem xd_De_addRoots_31 : decode xb_De_addRoots 31 = .ok (.iconst 0, 1) := by decide +kernel
theorem xd_De_addRoots_32 : decode xb_De_addRoots 32 = .ok (.ireturn, 1) := by decide +kernel
theorem xd_De_addRoots_33 : decode xb_De_addRoots 33 = .ok (.iinc 1 1, 3) := by decide +kernel
theorem xd_De_addRoots_36 : decode xb_De_addRoots 36 = .ok (.goto (-34), 3) := by decide +kernel
theorem xd_De_addRoots_39 : decode xb_De_addRoots 39 = .ok (.iconst 1, 1) := by decide +kernel
theorem xd_De_addRoots_40 : decode xb_De_addRoots 40 = .ok (.ireturn, 1) := by decide +kernel
theorem ys2_0 : (Cond.code xy_Ch_addName xb_Ch_addName 5 (some .boolean)) ∈ wT := wT_t (List.mem_append_right _ (List.mem_append_right _ (List.mem_append_left _ (List.mem_of_getElem? (i := 80) rfl)))) rfl
theorem ys2_1 : (Cond.methodLink "LayerDesk$Chooser" 32 xy_Ch_addName) ∈ wT := wT_t (List.mem_append_right _ (List.mem_append_right _ (List.mem_append_left _ (List.mem_of_getElem? (i := 77) rfl)))) rfl
theorem ys2_2 : (Cond.instanceMethod xy_Ch_addName) ∈ wT := wT_t (List.mem_append_right _ (List.mem_append_right _ (List.mem_append_left _ (List.mem_of_getElem? (i := 79) rfl)))) rfl
theorem ys2_3 : (Cond.selects "LayerDesk$Chooser" xy_Ch_addName xy_Ch_addName) ∈ wT := wT_s (q := (xy_Ch_addName, 5)) (by decide +kernel) rfl
theorem ys2_4 : (Cond.initialized "LayerDesk$Chooser") ∈ wT := wT_t (List.mem_append_left _ (List.mem_of_getElem? (i := 4) rfl)) rfl
theorem ys2_5 : (Cond.fieldLink "LayerDesk$Chooser" 28 "LayerDesk$Chooser" "shelf" "LLayerDesk$Shelf;") ∈ wT := wT_t (List.mem_append_left _ (List.mem_of_getElem? (i := 81) rfl)) rfl
theorem ys2_6 : (Cond.fieldLink "LayerDesk$Chooser" 101 "LayerDesk$Shelf" "size" "I") ∈ wT := wT_t (List.mem_append_left _ (List.mem_of_getElem? (i := 68) rfl)) rfl
theorem ys2_7 : (Cond.fieldLink "LayerDesk$Chooser" 102 "LayerDesk$Shelf" "descriptors" "[LLayerDesk$Descriptor;") ∈ wT := wT_t (List.mem_append_left _ (List.mem_of_getElem? (i := 65) rfl)) rfl
theorem ys2_8 : (Cond.fieldLink "LayerDesk$Chooser" 17 "LayerDesk$Chooser" "size" "I") ∈ wT := wT_t (List.mem_append_left _ (List.mem_of_getElem? (i := 83) rfl)) rfl
theorem ys2_9 : (Cond.fieldLink "LayerDesk$Chooser" 105 "LayerDesk$Descriptor" "finder" "I") ∈ wT := wT_t (List.mem_append_right _ (List.mem_append_left _ (List.mem_of_getElem? (i := 53) rfl))) rfl
theorem ys2_10 : (Cond.fieldLink "LayerDesk$Chooser" 21 "LayerDesk$Chooser" "finder" "I") ∈ wT := wT_t (List.mem_append_left _ (List.mem_of_getElem? (i := 84) rfl)) rfl
theorem ys2_11 : (Cond.fieldLink "LayerDesk$Chooser" 106 "LayerDesk$Descriptor" "provided" "LLayerDesk$Names;") ∈ wT := wT_t (List.mem_append_right _ (List.mem_append_left _ (List.mem_of_getElem? (i := 80) rfl))) rfl
theorem ys2_12 : (Cond.code xy_Na_holds xb_Na_holds 2 (some .boolean)) ∈ wT := wT_t (List.mem_append_right _ (List.mem_append_left _ (List.mem_of_getElem? (i := 123) rfl))) rfl
theorem ys2_13 : (Cond.methodLink "LayerDesk$Chooser" 109 xy_Na_holds) ∈ wT := wT_t (List.mem_append_right _ (List.mem_append_right _ (List.mem_append_left _ (List.mem_of_getElem? (i := 126) rfl)))) rfl
theorem ys2_14 : (Cond.instanceMethod xy_Na_holds) ∈ wT := wT_t (List.mem_append_right _ (List.mem_append_left _ (List.mem_of_getElem? (i := 121) rfl))) rfl
theorem ys2_15 : (Cond.selects "LayerDesk$Names" xy_Na_holds xy_Na_holds) ∈ wT := wT_t (List.mem_append_right _ (List.mem_append_left _ (List.mem_of_getElem? (i := 122) rfl))) rfl
theorem ys2_16 : (Cond.initialized "LayerDesk$Names") ∈ wT := wT_t (List.mem_append_left _ (List.mem_of_getElem? (i := 11) rfl)) rfl
theorem ys2_17 : (Cond.code xy_Ch_isChosen xb_Ch_isChosen 3 (some .boolean)) ∈ wT := wT_t (List.mem_append_right _ (List.mem_append_right _ (List.mem_append_left _ (List.mem_of_getElem? (i := 89) rfl)))) rfl
theorem ys2_18 : (Cond.methodLink "LayerDesk$Chooser" 66 xy_Ch_isChosen) ∈ wT := wT_t (List.mem_append_right _ (List.mem_append_right _ (List.mem_append_left _ (List.mem_of_getElem? (i := 86) rfl)))) rfl
theorem ys2_19 : (Cond.instanceMethod xy_Ch_isChosen) ∈ wT := wT_t (List.mem_append_right _ (List.mem_append_right _ (List.mem_append_left _ (List.mem_of_getElem? (i := 88) rfl)))) rfl
theorem ys2_20 : (Cond.selects "LayerDesk$Chooser" xy_Ch_isChosen xy_Ch_isChosen) ∈ wT := wT_s (q := (xy_Ch_isChosen, 5)) (by decide +kernel) rfl
theorem ys2_21 : (Cond.fieldLink "LayerDesk$Chooser" 113 "LayerDesk$Descriptor" "name" "I") ∈ wT := wT_t (List.mem_append_right _ (List.mem_append_left _ (List.mem_of_getElem? (i := 58) rfl))) rfl
theorem ys2_22 : (Cond.fieldLink "LayerDesk$Chooser" 94 "LayerDesk$Descriptor" "used" "LLayerDesk$Names;") ∈ wT := wT_t (List.mem_append_right _ (List.mem_append_left _ (List.mem_of_getElem? (i := 76) rfl))) rfl
theorem ys2_23 : (Cond.fieldLink "LayerDesk$Chooser" 74 "LayerDesk$Names" "size" "I") ∈ wT := wT_t (List.mem_append_right _ (List.mem_append_left _ (List.mem_of_getElem? (i := 37) rfl))) rfl
theorem ys2_24 : (Cond.code xy_Na_at xb_Na_at 2 (some .int)) ∈ wT := wT_t (List.mem_append_right _ (List.mem_append_right _ (List.mem_append_left _ (List.mem_of_getElem? (i := 93) rfl)))) rfl
theorem ys2_25 : (Cond.methodLink "LayerDesk$Chooser" 81 xy_Na_at) ∈ wT := wT_t (List.mem_append_right _ (List.mem_append_right _ (List.mem_append_left _ (List.mem_of_getElem? (i := 90) rfl)))) rfl
theorem ys2_26 : (Cond.instanceMethod xy_Na_at) ∈ wT := wT_t (List.mem_append_right _ (List.mem_append_right _ (List.mem_append_left _ (List.mem_of_getElem? (i := 91) rfl)))) rfl
theorem ys2_27 : (Cond.selects "LayerDesk$Names" xy_Na_at xy_Na_at) ∈ wT := wT_t (List.mem_append_right _ (List.mem_append_right _ (List.mem_append_left _ (List.mem_of_getElem? (i := 92) rfl)))) rfl
theorem ys2_28 : (Cond.code xy_Ch_bindProvidersOf xb_Ch_bindProvidersOf 5 none) ∈ wT := wT_t (List.mem_append_right _ (List.mem_append_right _ (List.mem_append_left _ (List.mem_of_getElem? (i := 125) rfl)))) rfl
theorem ys2_29 : (Cond.methodLink "LayerDesk$Chooser" 97 xy_Ch_bindProvidersOf) ∈ wT := wT_t (List.mem_append_right _ (List.mem_append_right _ (List.mem_append_left _ (List.mem_of_getElem? (i := 122) rfl)))) rfl
theorem ys2_30 : (Cond.instanceMethod xy_Ch_bindProvidersOf) ∈ wT := wT_t (List.mem_append_right _ (List.mem_append_right _ (List.mem_append_left _ (List.mem_of_getElem? (i := 124) rfl)))) rfl
theorem ys2_31 : (Cond.selects "LayerDesk$Chooser" xy_Ch_bindProvidersOf xy_Ch_bindProvidersOf) ∈ wT := wT_s (q := (xy_Ch_bindProvidersOf, 5)) (by decide +kernel) rfl
theorem ys2_32 : (Cond.fieldLink "LayerDesk$Chooser" 24 "LayerDesk$Chooser" "parent" "LLayerDesk$Layer;") ∈ wT := wT_t (List.mem_append_left _ (List.mem_of_getElem? (i := 85) rfl)) rfl
theorem ys2_33 : (Cond.fieldLink "LayerDesk$Chooser" 44 "LayerDesk$Layer" "members" "[LLayerDesk$Member;") ∈ wT := wT_t (List.mem_append_right _ (List.mem_append_right _ (List.mem_append_left _ (List.mem_of_getElem? (i := 149) rfl)))) rfl
theorem ys2_34 : (Cond.fieldLink "LayerDesk$Chooser" 93 "LayerDesk$Layer" "parent" "LLayerDesk$Layer;") ∈ wT := wT_t (List.mem_append_right _ (List.mem_append_right _ (List.mem_append_left _ (List.mem_of_getElem? (i := 145) rfl)))) rfl
theorem ys2_35 : (Cond.fieldLink "LayerDesk$Chooser" 89 "LayerDesk$Member" "descriptor" "LLayerDesk$Descriptor;") ∈ wT := wT_t (List.mem_append_right _ (List.mem_append_right _ (List.mem_append_left _ (List.mem_of_getElem? (i := 184) rfl)))) rfl
theorem ys2_36 : (Cond.code xy_Ch_bindUsesOf xb_Ch_bindUsesOf 3 none) ∈ wT := wT_t (List.mem_append_right _ (List.mem_append_right _ (List.mem_append_left _ (List.mem_of_getElem? (i := 121) rfl)))) rfl
theorem ys2_37 : (Cond.methodLink "LayerDesk$Chooser" 85 xy_Ch_bindUsesOf) ∈ wT := wT_t (List.mem_append_right _ (List.mem_append_right _ (List.mem_append_left _ (List.mem_of_getElem? (i := 118) rfl)))) rfl
theorem ys2_38 : (Cond.instanceMethod xy_Ch_bindUsesOf) ∈ wT := wT_t (List.mem_append_right _ (List.mem_append_right _ (List.mem_append_left _ (List.mem_of_getElem? (i := 120) rfl)))) rfl
theorem ys2_39 : (Cond.selects "LayerDesk$Chooser" xy_Ch_bindUsesOf xy_Ch_bindUsesOf) ∈ wT := wT_s (q := (xy_Ch_bindUsesOf, 5)) (by decide +kernel) rfl
theorem ys2_40 : (Cond.fieldLink "LayerDesk$Chooser" 11 "LayerDesk$Chooser" "chosen" "[LLayerDesk$Descriptor;") ∈ wT := wT_t (List.mem_append_left _ (List.mem_of_getElem? (i := 82) rfl)) rfl
theorem ys2_41 : (Cond.code xy_Ch_bindOnce xb_Ch_bindOnce 3 none) ∈ wT := wT_t (List.mem_append_right _ (List.mem_append_right _ (List.mem_append_left _ (List.mem_of_getElem? (i := 117) rfl)))) rfl
theorem ys2_42 : (Cond.methodLink "LayerDesk$Chooser" 36 xy_Ch_bindOnce) ∈ wT := wT_t (List.mem_append_right _ (List.mem_append_right _ (List.mem_append_left _ (List.mem_of_getElem? (i := 114) rfl)))) rfl
theorem ys2_43 : (Cond.instanceMethod xy_Ch_bindOnce) ∈ wT := wT_t (List.mem_append_right _ (List.mem_append_right _ (List.mem_append_left _ (List.mem_of_getElem? (i := 116) rfl)))) rfl
theorem ys2_44 : (Cond.selects "LayerDesk$Chooser" xy_Ch_bindOnce xy_Ch_bindOnce) ∈ wT := wT_s (q := (xy_Ch_bindOnce, 5)) (by decide +kernel) rfl
theorem ys2_45 : (Cond.fieldLink "LayerDesk" 10 "LayerDesk" "written" "LLayerDesk$Line;") ∈ wT := wT_t (List.mem_append_left _ (List.mem_of_getElem? (i := 99) rfl)) rfl
theorem ys2_46 : (Cond.fieldLink "LayerDesk" 198 "LayerDesk$Line" "words" "I") ∈ wT := wT_t (List.mem_append_left _ (List.mem_of_getElem? (i := 42) rfl)) rfl
theorem ys2_47 : (Cond.fieldLink "LayerDesk" 28 "LayerDesk" "chooser" "LLayerDesk$Chooser;") ∈ wT := wT_t (List.mem_append_left _ (List.mem_of_getElem? (i := 101) rfl)) rfl
theorem ys2_48 : (Cond.code xy_Li_nameAt xb_Li_nameAt 4 (some .int)) ∈ wT := wT_t (List.mem_append_right _ (List.mem_append_left _ (List.mem_of_getElem? (i := 17) rfl))) rfl
theorem ys2_49 : (Cond.methodLink "LayerDesk" 201 xy_Li_nameAt) ∈ wT := wT_t (List.mem_append_right _ (List.mem_append_right _ (List.mem_append_left _ (List.mem_of_getElem? (i := 60) rfl)))) rfl
theorem ys2_50 : (Cond.instanceMethod xy_Li_nameAt) ∈ wT := wT_t (List.mem_append_right _ (List.mem_append_left _ (List.mem_of_getElem? (i := 15) rfl))) rfl
theorem ys2_51 : (Cond.selects "LayerDesk$Line" xy_Li_nameAt xy_Li_nameAt) ∈ wT := wT_t (List.mem_append_right _ (List.mem_append_left _ (List.mem_of_getElem? (i := 16) rfl))) rfl
theorem ys2_52 : (Cond.initialized "LayerDesk$Line") ∈ wT := wT_t (List.mem_append_left _ (List.mem_of_getElem? (i := 2) rfl)) rfl
theorem ys2_53 : (Cond.code xy_Ch_addRoot xb_Ch_addRoot 2 (some .boolean)) ∈ wT := wT_t (List.mem_append_right _ (List.mem_append_right _ (List.mem_append_left _ (List.mem_of_getElem? (i := 76) rfl)))) rfl
theorem ys2_54 : (Cond.methodLink "LayerDesk" 205 xy_Ch_addRoot) ∈ wT := wT_t (List.mem_append_right _ (List.mem_append_right _ (List.mem_append_left _ (List.mem_of_getElem? (i := 73) rfl)))) rfl
theorem ys2_55 : (Cond.instanceMethod xy_Ch_addRoot) ∈ wT := wT_t (List.mem_append_right _ (List.mem_append_right _ (List.mem_append_left _ (List.mem_of_getElem? (i := 74) rfl)))) rfl
theorem ys2_56 : (Cond.selects "LayerDesk$Chooser" xy_Ch_addRoot xy_Ch_addRoot) ∈ wT := wT_t (List.mem_append_right _ (List.mem_append_right _ (List.mem_append_left _ (List.mem_of_getElem? (i := 75) rfl)))) rfl
set_option maxHeartbeats 4000000 in
set_option maxRecDepth 100000 in
theorem xc_Ch_addRoot (l : Launch) (D : va_G) (kA : Nat → ClassId) (sz : Nat) (ad : Nat → Nat → Nat) (E : Nat → Nat → va_E) (RL : List (Nat × Nat)) (ml : Nat) (nd : Nat) (len : Nat) (wn : Nat) (cs : Nat) (nm : Int32) (hCI : CI kA ad E RL ml nd len wn cs) : Met l xy_Ch_addRoot (.code xy_Ch_addRoot xb_Ch_addRoot 2 (some .boolean) :: wT) { frames := 19, cells := 0, slots := 0, locals := 1194 } (va_Pc [.ref (ad 0 7), .int nm] (xPre D kA sz (rp ad E RL))) (va_Qi (fun (r : Int32) (u : Nat → Nat → va_E) => (r = 0 ∨ r = 1) ∧ ∃ cs2, CI kA ad u RL ml nd len wn cs2) (fun (u : Nat → Nat → va_E) t => va_P D xcl (rp ad u RL) t.heap ∧ va_D (va_A (rp ad E RL) sz) (rp ad u RL)) (va_A (rp ad E RL) sz)) 0 0 (va_A (rp ad E RL) sz) := by
  refine Met.ofW (cc := xb_Ch_addRoot) (maxL := 2) (ret := (some .boolean)) (by decide) rfl ?_
  intro p e s m args below meth c s₁ B hml hv
  obtain ⟨rfl, hsz, hP, hK, hD0⟩ := hv
  have hx := B.exec
  have hb := B.bytes
  have hr := B.returns
  have hT := x_hT B.pre
  have hown : s.vm.findClass xR_Ch = some m.cls := findClass_of_methodNamed B.named
  have hlocks := B.notSynchronized
  subst hsz
  have hD := hD0.self (sz := s.heap.size)
  generalize hAe : va_A (rp ad E RL) s.heap.size = A at hD ⊢
  have hA : ∀ q : Nat, s.heap.size ≤ q → A q := fun q h => by rw [← hAe]; exact Or.inr h
  have hS : va_S A s.heap s.heap [] := va_S.rf
  have hl := lv_entry ([.ref (ad 0 7), .int nm]) (n := 2) (Nat.le_of_ble_eq_true rfl)
  rw [lg_entry_eq]
  generalize (lg_sl ([.ref (ad 0 7), .int nm]) ++ List.replicate (2 - (lg_sl ([.ref (ad 0 7), .int nm])).length) Slot.unset).toArray = ls at hl ⊢
  have hl : lv_has ls 2 [(0, .ref (ad 0 7)), (1, .int nm)] := hl
  have hP : va_P D xcl (rp ad E RL) s.heap := hP
  obtain ⟨hmB, hDk, hLi, hSh, hCh, hLa, hDIs, hLIs⟩ := id hCI
  obtain ⟨cf_1, pv_1, fc_1, hcs_1, hpv_1, q7_1, q8_1, hfc_1⟩ := id (hCh)
  have c_2 : E 0 7 = .inr (3, [.ref (ad 0 5), .ref (ad 0 8), .int (nI cs), .int cf_1, pv_1]) := q7_1
  have m_3 : (0, 7) ∈ RL := hmB 7 (by omega)
  have c_4 : E 0 8 = .inl (kA 4, 12, .inr (.inr (.inr (.inr fc_1)))) := q8_1
  have m_5 : (0, 8) ∈ RL := hmB 8 (by omega)
  refine lv_aload_n hx hb xd_Ch_addRoot_0 rfl (lv_at hl 0 rfl) ?_
  refine lv_iload_n hx hb xd_Ch_addRoot_1 rfl (lv_at hl 1 rfl) ?_
  refine lv_iconst (v := 0) hx hb xd_Ch_addRoot_2 (by decide) ?_
  have hFc := px_free hD hS hA
  refine va_calli (va_runV (As := [.int nm, .int 0]) (rest := []) ⟨hx, hb, hml, hown, hT⟩ (xc_Ch_addName l D kA s.heap.size ad E RL ml nd len wn cs nm (by first | assumption | omega)) (cwV 2 hT (wT_V ys2_1 ys2_2 ys2_3 ys2_4 ys2_0) rfl rfl rfl (by decide +kernel) ⟨Nat.le_of_ble_eq_true rfl, Nat.le_of_ble_eq_true rfl⟩) (px_preV hK hP hD m_3 c_2 rfl) rfl rfl hl.1 rfl (lv_room (Nat.le_of_ble_eq_true rfl)) xd_Ch_addRoot_3 ⟨(Nat.le_of_ble_eq_true rfl), (Nat.le_of_ble_eq_true rfl)⟩) hS (fun q _ h => hFc q h) hFc (fun r6 u7 t H1 locs ht hvm hp8 hB hz1 hk1 hS => ?_)
  obtain ⟨hP1, hD1⟩ := hB
  rw [ht] at hP1
  have hD1 := hD1.weaken (fun _ _ _ h => hFc _ h)
  generalize H1 = H at hP1 hS ⊢
  have hP := hP1
  have hD := hD1
  obtain ⟨E9, rfl⟩ : ∃ z, z = u7 := ⟨_, rfl⟩
  have hP : va_P D xcl (rp ad E9 RL) H := hP
  have hD : va_D A (rp ad E9 RL) := hD
  obtain ⟨hr11, cs10, hle11, hCI⟩ := hp8
  have hCI : CI kA ad E9 RL ml nd len wn cs10 := hCI
  obtain ⟨hmB, hDk, hLi, hSh, hCh, hLa, hDIs, hLIs⟩ := id hCI
  exact W.zret (v := r6) hx hb hr (by rcases hr11 with h | h <;> rw [h] <;> rfl) (fun t ht hW => ⟨⟨r6, E9, rfl, ⟨hr11, cs10, hCI⟩, by rw [ht]; exact hP, hD⟩, hS.F ht⟩) hS.2.2 xd_Ch_addRoot_6
set_option maxHeartbeats 4000000 in
set_option maxRecDepth 100000 in
theorem xc_Ch_bindProvidersOf (l : Launch) (D : va_G) (kA : Nat → ClassId) (sz : Nat) (ad : Nat → Nat → Nat) (E : Nat → Nat → va_E) (RL : List (Nat × Nat)) (ml : Nat) (nd : Nat) (len : Nat) (wn : Nat) (cs : Nat) (sv : Int32) (hCI : CI kA ad E RL ml nd len wn cs) : Met l xy_Ch_bindProvidersOf (.code xy_Ch_bindProvidersOf xb_Ch_bindProvidersOf 5 none :: wT) { frames := 19, cells := 0, slots := 0, locals := 1194 } (va_Pc [.ref (ad 0 7), .int sv] (xPre D kA sz (rp ad E RL))) (va_Qv (fun (u : Nat → Nat → va_E) => ∃ cs2, CI kA ad u RL ml nd len wn cs2) (fun (u : Nat → Nat → va_E) t => va_P D xcl (rp ad u RL) t.heap ∧ va_D (va_A (rp ad E RL) sz) (rp ad u RL)) (va_A (rp ad E RL) sz)) 0 0 (va_A (rp ad E RL) sz) := by
  refine Met.ofW (cc := xb_Ch_bindProvidersOf) (maxL := 5) (ret := none) (by decide) rfl ?_
  intro p e s m args below meth c s₁ B hml hv
  obtain ⟨rfl, hsz, hP, hK, hD0⟩ := hv
  have hx := B.exec
  have hb := B.bytes
  have hr := B.returns
  have hT := x_hT B.pre
  have hown : s.vm.findClass xR_Ch = some m.cls := findClass_of_methodNamed B.named
  have hlocks := B.notSynchronized
  subst hsz
  have hD := hD0.self (sz := s.heap.size)
  generalize hAe : va_A (rp ad E RL) s.heap.size = A at hD ⊢
  have hA : ∀ q : Nat, s.heap.size ≤ q → A q := fun q h => by rw [← hAe]; exact Or.inr h
  have hS : va_S A s.heap s.heap [] := va_S.rf
  have hl := lv_entry ([.ref (ad 0 7), .int sv]) (n := 5) (Nat.le_of_ble_eq_true rfl)
  rw [lg_entry_eq]
  generalize (lg_sl ([.ref (ad 0 7), .int sv]) ++ List.replicate (5 - (lg_sl ([.ref (ad 0 7), .int sv])).length) Slot.unset).toArray = ls at hl ⊢
  have hl : lv_has ls 5 [(0, .ref (ad 0 7)), (1, .int sv)] := hl
  have hP : va_P D xcl (rp ad E RL) s.heap := hP
  obtain ⟨hmB, hDk, hLi, hSh, hCh, hLa, hDIs, hLIs⟩ := id hCI
  refine lv_iconst (v := 0) hx hb xd_Ch_bindProvidersOf_0 (by decide) ?_
  refine lv_istore_n hx hb xd_Ch_bindProvidersOf_1 rfl hl (Nat.le_of_ble_eq_true rfl) rfl (fun ls hl => ?_)
  have hl : lv_has ls 5 [(2, .int 0), (0, .ref (ad 0 7)), (1, .int sv)] := hl
  refine xlab (σ := Nat × (Nat → Nat → va_E) × Nat) (ml := 5) 2 (fun (i, E1, cs1) => [(2, .int (nI i)), (1, .int sv), (0, .ref (ad 0 7))]) (fun (i, E1, cs1) => []) (fun (i, E1, cs1) => rp ad E1 RL) (fun (i, E1, cs1) => (i ≤ 12) ∧ (CI kA ad E1 RL ml nd len wn cs1)) (fun (i, E1, cs1) => 12 - i) ?_ (0, E, cs) _ _ _ (lv_sub hl [0, 2, 1] rfl) hP hD hS ⟨(show 0 ≤ 12 from by first | assumption | omega), (show CI kA ad E RL ml nd len wn cs from hCI)⟩
  intro n9 ih1 a9 ls H locs hμ hl hP hD hS hI
  subst hμ
  obtain ⟨i, E1, cs1⟩ := a9
  obtain ⟨hi, hCI⟩ := hI
  have hi : i ≤ 12 := hi
  have hCI : CI kA ad E1 RL ml nd len wn cs1 := hCI
  have hl : lv_has ls 5 [(2, .int (nI i)), (1, .int sv), (0, .ref (ad 0 7))] := hl
  have hP : va_P D xcl (rp ad E1 RL) H := hP
  have hD : va_D A (rp ad E1 RL) := hD
  obtain ⟨hmB, hDk, hLi, hSh, hCh, hLa, hDIs, hLIs⟩ := id hCI
  obtain ⟨fd_2, hnd_2, q5_2, q6_2, hds_2⟩ := id (hSh)
  have c_3 : E1 0 5 = .inr (2, [.ref (ad 0 6), .int (nI nd)]) := q5_2
  have m_4 : (0, 5) ∈ RL := hmB 5 (by omega)
  have c_5 : E1 0 6 = .inl (kA 4, 12, .inr (.inr (.inr (.inr fd_2)))) := q6_2
  have m_6 : (0, 6) ∈ RL := hmB 6 (by omega)
  obtain ⟨cf_7, pv_7, fc_7, hcs_7, hpv_7, q7_7, q8_7, hfc_7⟩ := id (hCh)
  have c_8 : E1 0 7 = .inr (3, [.ref (ad 0 5), .ref (ad 0 8), .int (nI cs1), .int cf_7, pv_7]) := q7_7
  have m_9 : (0, 7) ∈ RL := hmB 7 (by omega)
  have c_10 : E1 0 8 = .inl (kA 4, 12, .inr (.inr (.inr (.inr fc_7)))) := q8_7
  have m_11 : (0, 8) ∈ RL := hmB 8 (by omega)
  refine lv_iload_n hx hb xd_Ch_bindProvidersOf_2 rfl (lv_at hl 0 rfl) ?_
  refine lv_aload_n hx hb xd_Ch_bindProvidersOf_3 rfl (lv_at hl 2 rfl) ?_
  refine px_get (D := D) (ci := 3) (v := .ref (ad 0 5)) (C := xR_Ch) (T := xT_Ch) (N := 5) hx hb hT xi_Ch hown hK.1 hP m_9 c_8 rfl 0 (by decide) (hT _ ys2_5) (fun _ h9 => h9) rfl xd_Ch_bindProvidersOf_4 ?_
  refine px_get (D := D) (ci := 2) (v := .int (nI nd)) (C := xR_Sh) (T := xT_Sh) (N := 2) hx hb hT xi_Sh hown hK.1 hP m_4 c_3 rfl 1 (by decide) (hT _ ys2_6) (fun _ h9 => h9) rfl xd_Ch_bindProvidersOf_7 ?_
  refine xn_ge (a := i) (b := nd) (tgt := 83) hx hb xd_Ch_bindProvidersOf_10 (by decide) (by omega) (by omega) (fun hc12 => ?_) (fun hc12 => ?_)
  · exact W.vret hx hb hr (fun t ht hW => ⟨⟨E1, rfl, ⟨cs1, hCI⟩, by rw [ht]; exact hP, hD⟩, hS.F ht⟩) hS.2.2 xd_Ch_bindProvidersOf_83
  · refine lv_aload_n hx hb xd_Ch_bindProvidersOf_13 rfl (lv_at hl 2 rfl) ?_
    refine px_get (D := D) (ci := 3) (v := .ref (ad 0 5)) (C := xR_Ch) (T := xT_Ch) (N := 5) hx hb hT xi_Ch hown hK.1 hP m_9 c_8 rfl 0 (by decide) (hT _ ys2_5) (fun _ h9 => h9) rfl xd_Ch_bindProvidersOf_14 ?_
    refine px_get (D := D) (ci := 2) (v := .ref (ad 0 6)) (C := xR_Sh) (T := xT_Sh) (N := 2) hx hb hT xi_Sh hown hK.1 hP m_4 c_3 rfl 0 (by decide) (hT _ ys2_7) (fun _ h9 => h9) rfl xd_Ch_bindProvidersOf_17 ?_
    refine lv_iload_n hx hb xd_Ch_bindProvidersOf_20 rfl (lv_at hl 0 rfl) ?_
    refine px_aald (i := i) (x := (some (ad (1 + i) 0))) hx hb hK.1 hP m_6 c_5 4 rfl (hds_2 i (by omega)) (by omega) (by decide) xd_Ch_bindProvidersOf_21 ?_
    refine lv_astore_n hx hb xd_Ch_bindProvidersOf_22 rfl hl (Nat.le_of_ble_eq_true rfl) rfl (fun ls hl => ?_)
    have hl : lv_has ls 5 [(3, .ref (ad (1 + i) 0)), (2, .int (nI i)), (1, .int sv), (0, .ref (ad 0 7))] := hl
    refine lv_aload_n hx hb xd_Ch_bindProvidersOf_23 rfl (lv_at hl 3 rfl) ?_
    refine px_get (D := D) (ci := 3) (v := .int (nI cs1)) (C := xR_Ch) (T := xT_Ch) (N := 5) hx hb hT xi_Ch hown hK.1 hP m_9 c_8 rfl 2 (by decide) (hT _ ys2_8) (fun _ h9 => h9) rfl xd_Ch_bindProvidersOf_24 ?_
    refine lv_istore hx hb xd_Ch_bindProvidersOf_27 hl (Nat.le_of_ble_eq_true rfl) rfl (fun ls hl => ?_)
    have hl : lv_has ls 5 [(4, .int (nI cs1)), (3, .ref (ad (1 + i) 0)), (2, .int (nI i)), (1, .int sv), (0, .ref (ad 0 7))] := hl
    refine lv_aload_n hx hb xd_Ch_bindProvidersOf_29 rfl (lv_at hl 1 rfl) ?_
    obtain ⟨hm_13, fd_13, nm_13, sd_13, k0_13, k1_13, k2_13, k3_13, f0_13, f1_13, f2_13, f3_13, fe_13, fo_13, tr_13, op_13, hk0_13, hk1_13, hk2_13, hk3_13, q0_13, q1_13, q2_13, q3_13, q4_13, q5_13, q6_13, q7_13, q8_13, q9_13, q10_13, q11_13, q12_13, hg_13⟩ := id (hDIs i (by omega))
    have c_14 : E1 (1 + i) 0 = .inr (7, [.int (nI i), .int fd_13, .int nm_13, .ref (ad (1 + i) 1), .ref (ad (1 + i) 9), .ref (ad (1 + i) 10), .ref (ad (1 + i) 2), .ref (ad (1 + i) 11), .ref (ad (1 + i) 12), .ref (ad (1 + i) 3), .ref (ad (1 + i) 4), .int sd_13]) := q0_13
    have m_15 : (1 + i, 0) ∈ RL := hm_13 0 (by omega)
    have c_16 : E1 (1 + i) 1 = .inr (8, [.ref (ad (1 + i) 5), .int (nI k0_13)]) := q1_13
    have m_17 : (1 + i, 1) ∈ RL := hm_13 1 (by omega)
    have c_18 : E1 (1 + i) 2 = .inr (8, [.ref (ad (1 + i) 6), .int (nI k1_13)]) := q2_13
    have m_19 : (1 + i, 2) ∈ RL := hm_13 2 (by omega)
    have c_20 : E1 (1 + i) 3 = .inr (8, [.ref (ad (1 + i) 7), .int (nI k2_13)]) := q3_13
    have m_21 : (1 + i, 3) ∈ RL := hm_13 3 (by omega)
    have c_22 : E1 (1 + i) 4 = .inr (8, [.ref (ad (1 + i) 8), .int (nI k3_13)]) := q4_13
    have m_23 : (1 + i, 4) ∈ RL := hm_13 4 (by omega)
    have c_24 : E1 (1 + i) 5 = .inl (kA 0, 6, .inl f0_13) := q5_13
    have m_25 : (1 + i, 5) ∈ RL := hm_13 5 (by omega)
    have c_26 : E1 (1 + i) 6 = .inl (kA 0, 5, .inl f1_13) := q6_13
    have m_27 : (1 + i, 6) ∈ RL := hm_13 6 (by omega)
    have c_28 : E1 (1 + i) 7 = .inl (kA 0, 3, .inl f2_13) := q7_13
    have m_29 : (1 + i, 7) ∈ RL := hm_13 7 (by omega)
    have c_30 : E1 (1 + i) 8 = .inl (kA 0, 3, .inl f3_13) := q8_13
    have m_31 : (1 + i, 8) ∈ RL := hm_13 8 (by omega)
    have c_32 : E1 (1 + i) 9 = .inl (kA 8, 6, .inr (.inr (.inr (.inr fe_13)))) := q9_13
    have m_33 : (1 + i, 9) ∈ RL := hm_13 9 (by omega)
    have c_34 : E1 (1 + i) 10 = .inl (kA 8, 6, .inr (.inr (.inr (.inr fo_13)))) := q10_13
    have m_35 : (1 + i, 10) ∈ RL := hm_13 10 (by omega)
    have c_36 : E1 (1 + i) 11 = .inl (kA 2, 5, .inl tr_13) := q11_13
    have m_37 : (1 + i, 11) ∈ RL := hm_13 11 (by omega)
    have c_38 : E1 (1 + i) 12 = .inl (kA 2, 5, .inl op_13) := q12_13
    have m_39 : (1 + i, 12) ∈ RL := hm_13 12 (by omega)
    have hg_13 : ∀ w9, w9 < k0_13 → fe_13 w9 = some (ad (1 + i) (20 + 3 * w9)) ∧ fo_13 w9 = some (ad (1 + i) (38 + 3 * w9)) ∧ GI kA (ad (1 + i)) (E1 (1 + i)) (fun o => (1 + i, o) ∈ RL) (20 + 3 * w9) (21 + 3 * w9) (22 + 3 * w9) ∧ GI kA (ad (1 + i)) (E1 (1 + i)) (fun o => (1 + i, o) ∈ RL) (38 + 3 * w9) (39 + 3 * w9) (40 + 3 * w9) := hg_13
    refine px_get (D := D) (ci := 7) (v := .int fd_13) (C := xR_Ds) (T := xT_Ds) (N := 12) hx hb hT xi_Ds hown hK.1 hP m_15 c_14 rfl 1 (by decide) (hT _ ys2_9) (fun _ h9 => h9) rfl xd_Ch_bindProvidersOf_30 ?_
    refine lv_aload_n hx hb xd_Ch_bindProvidersOf_33 rfl (lv_at hl 4 rfl) ?_
    refine px_get (D := D) (ci := 3) (v := .int cf_7) (C := xR_Ch) (T := xT_Ch) (N := 5) hx hb hT xi_Ch hown hK.1 hP m_9 c_8 rfl 3 (by decide) (hT _ ys2_10) (fun _ h9 => h9) rfl xd_Ch_bindProvidersOf_34 ?_
    refine lv_icmp_ne (tgt := 77) hx hb xd_Ch_bindProvidersOf_37 (by decide) (fun hc40 => ?_) (fun hc40 => ?_)
    · refine lv_iinc (k := 2) (x := (nI i)) (v := (nI (i + 1))) hx hb xd_Ch_bindProvidersOf_77 hl rfl (xb_inc i 1) (Nat.le_of_ble_eq_true rfl) rfl (fun ls hl => ?_)
      have hl : lv_has ls 5 [(2, .int (nI (i + 1))), (4, .int (nI cs1)), (3, .ref (ad (1 + i) 0)), (1, .int sv), (0, .ref (ad 0 7))] := hl
      refine lv_goto (tgt := 2) hx hb xd_Ch_bindProvidersOf_80 (by decide) ?_
      exact ih1 (i + 1, E1, cs1) _ _ _ (show 12 - (i + 1) < 12 - i by omega) (lv_sub hl [0, 3, 4] rfl) hP hD hS ⟨(show (i + 1) ≤ 12 from by first | assumption | omega), (show CI kA ad E1 RL ml nd len wn cs1 from hCI)⟩
    · refine lv_aload_n hx hb xd_Ch_bindProvidersOf_40 rfl (lv_at hl 1 rfl) ?_
      refine px_get (D := D) (ci := 7) (v := .ref (ad (1 + i) 4)) (C := xR_Ds) (T := xT_Ds) (N := 12) hx hb hT xi_Ds hown hK.1 hP m_15 c_14 rfl 10 (by decide) (hT _ ys2_11) (fun _ h9 => h9) rfl xd_Ch_bindProvidersOf_41 ?_
      refine lv_iload_n hx hb xd_Ch_bindProvidersOf_44 rfl (lv_at hl 3 rfl) ?_
      have hFc := px_free hD hS hA
      refine va_calli (va_runV (As := [.int sv]) (rest := []) ⟨hx, hb, hml, hown, hT⟩ (xc_Na_holds l D kA H.size ad E1 RL (1 + i) 4 8 3 k3_13 f3_13 sv m_23 c_22 m_31 c_30 (by first | assumption | omega) (by first | assumption | omega)) (cwV 1 hT (wT_V ys2_13 ys2_14 ys2_15 ys2_16 ys2_12) rfl rfl rfl (by decide +kernel) ⟨Nat.le_of_ble_eq_true rfl, Nat.le_of_ble_eq_true rfl⟩) (px_preV hK hP hD m_23 c_22 rfl) rfl rfl hl.1 rfl (lv_room (Nat.le_of_ble_eq_true rfl)) xd_Ch_bindProvidersOf_45 ⟨(Nat.le_of_ble_eq_true rfl), (Nat.le_of_ble_eq_true rfl)⟩) hS (fun q _ h => hFc q h) hFc (fun r41 u42 t H1 locs ht hvm hp43 hB hz1 hk1 hS => ?_)
      obtain ⟨hP1, hD1⟩ := hB
      rw [ht] at hP1
      have hD1 := hD1.weaken (fun _ _ _ h => hFc _ h)
      generalize H1 = H at hP1 hS ⊢
      have hP := hP1
      have hD := hD1
      have hP : va_P D xcl (rp ad E1 RL) H := hP
      have hD : va_D A (rp ad E1 RL) := hD
      rcases hp43 with ⟨rfl, z44, z45, z46⟩ | ⟨rfl, z47⟩
      · refine W.eq (g2 := F0 m 48 ls [.int 1]) rfl ?_
        refine lv_if_eq (tgt := 77) hx hb xd_Ch_bindProvidersOf_48 (by decide) (fun hc48 => absurd hc48 (by decide)) (fun _ => ?_)
        refine lv_aload_n hx hb xd_Ch_bindProvidersOf_51 rfl (lv_at hl 4 rfl) ?_
        refine lv_aload_n hx hb xd_Ch_bindProvidersOf_52 rfl (lv_at hl 1 rfl) ?_
        have hFc := px_free hD hS hA
        refine va_calli (va_runV (As := [.ref (ad (1 + i) 0)]) (rest := []) ⟨hx, hb, hml, hown, hT⟩ (xc_Ch_isChosen l D kA H.size ad E1 RL ml nd len wn cs1 i (by first | assumption | omega)) (cwV 1 hT (wT_V ys2_18 ys2_19 ys2_20 ys2_4 ys2_17) rfl rfl rfl (by decide +kernel) ⟨Nat.le_of_ble_eq_true rfl, Nat.le_of_ble_eq_true rfl⟩) (px_preV hK hP hD m_9 c_8 rfl) rfl rfl hl.1 rfl (lv_room (Nat.le_of_ble_eq_true rfl)) xd_Ch_bindProvidersOf_53 ⟨(Nat.le_of_ble_eq_true rfl), (Nat.le_of_ble_eq_true rfl)⟩) hS (fun q _ h => hFc q h) hFc (fun r49 u50 t H1 locs ht hvm hp51 hB hz1 hk1 hS => ?_)
        obtain ⟨hP1, hD1⟩ := hB
        rw [ht] at hP1
        have hD1 := hD1.weaken (fun _ _ _ h => hFc _ h)
        generalize H1 = H at hP1 hS ⊢
        have hP := hP1
        have hD := hD1
        have hP : va_P D xcl (rp ad E1 RL) H := hP
        have hD : va_D A (rp ad E1 RL) := hD
        rcases hp51 with rfl | rfl
        · refine W.eq (g2 := F0 m 56 ls [.int 0]) rfl ?_
          refine lv_if_ne (tgt := 77) hx hb xd_Ch_bindProvidersOf_56 (by decide) (fun hc52 => absurd (by decide) hc52) (fun _ => ?_)
          refine lv_aload_n hx hb xd_Ch_bindProvidersOf_59 rfl (lv_at hl 4 rfl) ?_
          refine lv_aload_n hx hb xd_Ch_bindProvidersOf_60 rfl (lv_at hl 1 rfl) ?_
          refine px_get (D := D) (ci := 7) (v := .int nm_13) (C := xR_Ds) (T := xT_Ds) (N := 12) hx hb hT xi_Ds hown hK.1 hP m_15 c_14 rfl 2 (by decide) (hT _ ys2_21) (fun _ h9 => h9) rfl xd_Ch_bindProvidersOf_61 ?_
          refine lv_iconst (v := 0) hx hb xd_Ch_bindProvidersOf_64 (by decide) ?_
          have hFc := px_free hD hS hA
          refine va_calli (va_runV (As := [.int nm_13, .int 0]) (rest := []) ⟨hx, hb, hml, hown, hT⟩ (xc_Ch_addName l D kA H.size ad E1 RL ml nd len wn cs1 nm_13 (by first | assumption | omega)) (cwV 2 hT (wT_V ys2_1 ys2_2 ys2_3 ys2_4 ys2_0) rfl rfl rfl (by decide +kernel) ⟨Nat.le_of_ble_eq_true rfl, Nat.le_of_ble_eq_true rfl⟩) (px_preV hK hP hD m_9 c_8 rfl) rfl rfl hl.1 rfl (lv_room (Nat.le_of_ble_eq_true rfl)) xd_Ch_bindProvidersOf_65 ⟨(Nat.le_of_ble_eq_true rfl), (Nat.le_of_ble_eq_true rfl)⟩) hS (fun q _ h => hFc q h) hFc (fun r53 u54 t H1 locs ht hvm hp55 hB hz1 hk1 hS => ?_)
          obtain ⟨hP1, hD1⟩ := hB
          rw [ht] at hP1
          have hD1 := hD1.weaken (fun _ _ _ h => hFc _ h)
          generalize H1 = H at hP1 hS ⊢
          have hP := hP1
          have hD := hD1
          obtain ⟨E56, rfl⟩ : ∃ z, z = u54 := ⟨_, rfl⟩
          have hP : va_P D xcl (rp ad E56 RL) H := hP
          have hD : va_D A (rp ad E56 RL) := hD
          obtain ⟨hr58, cs57, hle58, hCI⟩ := hp55
          have hCI : CI kA ad E56 RL ml nd len wn cs57 := hCI
          obtain ⟨hmB, hDk, hLi, hSh, hCh, hLa, hDIs, hLIs⟩ := id hCI
          obtain ⟨lf_59, q_59⟩ := id (hDk)
          have c_60 : E56 0 0 = .inr (0, [.ref (ad 0 1), .ref (ad 0 5), .ref (ad 0 7), .ref (ad 0 9), .int (nI ml), .int lf_59]) := q_59
          have m_61 : (0, 0) ∈ RL := hmB 0 (by omega)
          obtain ⟨tx_62, fb_62, fe_62, hl1_62, hw2_62, q1_62, q2_62, q3_62, q4_62, hws_62⟩ := id (hLi)
          have c_63 : E56 0 1 = .inr (1, [.ref (ad 0 2), .ref (ad 0 3), .ref (ad 0 4), .int (nI len), .int (nI wn)]) := q1_62
          have m_64 : (0, 1) ∈ RL := hmB 1 (by omega)
          have c_65 : E56 0 2 = .inl (kA 1, 40, .inl tx_62) := q2_62
          have m_66 : (0, 2) ∈ RL := hmB 2 (by omega)
          have c_67 : E56 0 3 = .inl (kA 0, 20, .inl fb_62) := q3_62
          have m_68 : (0, 3) ∈ RL := hmB 3 (by omega)
          have c_69 : E56 0 4 = .inl (kA 0, 20, .inl fe_62) := q4_62
          have m_70 : (0, 4) ∈ RL := hmB 4 (by omega)
          obtain ⟨fd_71, hnd_71, q5_71, q6_71, hds_71⟩ := id (hSh)
          have c_72 : E56 0 5 = .inr (2, [.ref (ad 0 6), .int (nI nd)]) := q5_71
          have m_73 : (0, 5) ∈ RL := hmB 5 (by omega)
          have c_74 : E56 0 6 = .inl (kA 4, 12, .inr (.inr (.inr (.inr fd_71)))) := q6_71
          have m_75 : (0, 6) ∈ RL := hmB 6 (by omega)
          obtain ⟨cf_76, pv_76, fc_76, hcs_76, hpv_76, q7_76, q8_76, hfc_76⟩ := id (hCh)
          have c_77 : E56 0 7 = .inr (3, [.ref (ad 0 5), .ref (ad 0 8), .int (nI cs57), .int cf_76, pv_76]) := q7_76
          have m_78 : (0, 7) ∈ RL := hmB 7 (by omega)
          have c_79 : E56 0 8 = .inl (kA 4, 12, .inr (.inr (.inr (.inr fc_76)))) := q8_76
          have m_80 : (0, 8) ∈ RL := hmB 8 (by omega)
          obtain ⟨fl_81, hml_81, q9_81, hla_81⟩ := id (hLa)
          have c_82 : E56 0 9 = .inl (kA 5, 5, .inr (.inr (.inr (.inr fl_81)))) := q9_81
          have m_83 : (0, 9) ∈ RL := hmB 9 (by omega)
          refine lv_if_ne (tgt := 77) hx hb xd_Ch_bindProvidersOf_68 (by decide) (fun hc84 => ?_) (fun hc84 => ?_)
          · refine lv_iinc (k := 2) (x := (nI i)) (v := (nI (i + 1))) hx hb xd_Ch_bindProvidersOf_77 hl rfl (xb_inc i 1) (Nat.le_of_ble_eq_true rfl) rfl (fun ls hl => ?_)
            have hl : lv_has ls 5 [(2, .int (nI (i + 1))), (4, .int (nI cs1)), (3, .ref (ad (1 + i) 0)), (1, .int sv), (0, .ref (ad 0 7))] := hl
            refine lv_goto (tgt := 2) hx hb xd_Ch_bindProvidersOf_80 (by decide) ?_
            exact ih1 (i + 1, E56, cs57) _ _ _ (show 12 - (i + 1) < 12 - i by omega) (lv_sub hl [0, 3, 4] rfl) hP hD hS ⟨(show (i + 1) ≤ 12 from by first | assumption | omega), (show CI kA ad E56 RL ml nd len wn cs57 from hCI)⟩
          · refine lv_aload_n hx hb xd_Ch_bindProvidersOf_71 rfl (lv_at hl 4 rfl) ?_
            refine lv_iload hx hb xd_Ch_bindProvidersOf_72 (lv_at hl 0 rfl) ?_
            refine px_put (D := D) (ci := 3) (v := .int (nI cs1)) (ty := .int) (C := xR_Ch) (T := xT_Ch) (N := 5) hx hb hT xi_Ch xt_Ch xt_Ch_ok xn_Ch hown hK.1 hP hD hS m_78 c_77 rfl 2 (by decide) (hT _ ys2_8) (fun _ h9 => h9) rfl (by decide +kernel) rfl rfl (Nat.le_of_ble_eq_true rfl) xd_Ch_bindProvidersOf_74 (fun H locs hP hD hS => ?_)
            have hP : va_P D xcl (rp ad (up2 E56 0 7 (.inr (3, [.ref (ad 0 5), .ref (ad 0 8), .int (nI cs1), .int cf_76, pv_76]))) RL) H := hP
            have hD : va_D A (rp ad (up2 E56 0 7 (.inr (3, [.ref (ad 0 5), .ref (ad 0 8), .int (nI cs1), .int cf_76, pv_76]))) RL) := hD
            generalize hE86 : up2 E56 0 7 (.inr (3, [.ref (ad 0 5), .ref (ad 0 8), .int (nI cs1), .int cf_76, pv_76])) = E85 at hP hD
            have fE87 : ∀ b2 o2, ¬ (b2 = 0 ∧ o2 = 7) → E85 b2 o2 = E56 b2 o2 := fun b2 o2 h9 => by rw [← hE86]; exact up2_ne (by omega)
            have c_88 : E85 0 7 = .inr (3, [.ref (ad 0 5), .ref (ad 0 8), .int (nI cs1), .int cf_76, pv_76]) := by rw [← hE86]; exact up2_eq
            have c_89 : E85 0 0 = .inr (0, [.ref (ad 0 1), .ref (ad 0 5), .ref (ad 0 7), .ref (ad 0 9), .int (nI ml), .int lf_59]) := (fE87 0 0 (by omega)).trans c_60
            have c_90 : E85 0 1 = .inr (1, [.ref (ad 0 2), .ref (ad 0 3), .ref (ad 0 4), .int (nI len), .int (nI wn)]) := (fE87 0 1 (by omega)).trans c_63
            have c_91 : E85 0 2 = .inl (kA 1, 40, .inl tx_62) := (fE87 0 2 (by omega)).trans c_65
            have c_92 : E85 0 3 = .inl (kA 0, 20, .inl fb_62) := (fE87 0 3 (by omega)).trans c_67
            have c_93 : E85 0 4 = .inl (kA 0, 20, .inl fe_62) := (fE87 0 4 (by omega)).trans c_69
            have c_94 : E85 0 5 = .inr (2, [.ref (ad 0 6), .int (nI nd)]) := (fE87 0 5 (by omega)).trans c_72
            have c_95 : E85 0 6 = .inl (kA 4, 12, .inr (.inr (.inr (.inr fd_71)))) := (fE87 0 6 (by omega)).trans c_74
            have c_96 : E85 0 8 = .inl (kA 4, 12, .inr (.inr (.inr (.inr fc_76)))) := (fE87 0 8 (by omega)).trans c_79
            have c_97 : E85 0 9 = .inl (kA 5, 5, .inr (.inr (.inr (.inr fl_81)))) := (fE87 0 9 (by omega)).trans c_82
            have hCI : CI kA ad E85 RL ml nd len wn cs1 := ⟨hmB, ⟨lf_59, c_89⟩, ⟨tx_62, fb_62, fe_62, (by omega), (by omega), c_90, c_91, c_92, c_93, hws_62⟩, ⟨fd_71, (by omega), c_94, c_95, hds_71⟩, ⟨cf_76, pv_76, fc_76, (by omega), hpv_76, c_88, c_96, (FC_le hfc_76 (by omega))⟩, ⟨fl_81, (by omega), c_97, hla_81⟩, (DIs_same (fun d9 hd9 => fun2 fun o9 => by show E85 (1 + d9) o9 = _; rw [fE87 (1 + d9) o9 (by omega)]) (fun _ _ => rfl) (fun _ h9 => h9) hDIs), (LIs_same (Nat.le_refl _) (fun n9 hn9 => fun2 fun o9 => by show E85 (20 + n9) o9 = _; rw [fE87 (20 + n9) o9 (by omega)]) (fun _ _ => rfl) (fun _ _ => rfl) (fun _ h9 => h9) hLIs)⟩
            obtain ⟨hmB, hDk, hLi, hSh, hCh, hLa, hDIs, hLIs⟩ := id hCI
            refine lv_iinc (k := 2) (x := (nI i)) (v := (nI (i + 1))) hx hb xd_Ch_bindProvidersOf_77 hl rfl (xb_inc i 1) (Nat.le_of_ble_eq_true rfl) rfl (fun ls hl => ?_)
            have hl : lv_has ls 5 [(2, .int (nI (i + 1))), (4, .int (nI cs1)), (3, .ref (ad (1 + i) 0)), (1, .int sv), (0, .ref (ad 0 7))] := hl
            refine lv_goto (tgt := 2) hx hb xd_Ch_bindProvidersOf_80 (by decide) ?_
            exact ih1 (i + 1, E85, cs1) _ _ _ (show 12 - (i + 1) < 12 - i by omega) (lv_sub hl [0, 3, 4] rfl) hP hD hS ⟨(show (i + 1) ≤ 12 from by first | assumption | omega), (show CI kA ad E85 RL ml nd len wn cs1 from hCI)⟩
        · refine W.eq (g2 := F0 m 56 ls [.int 1]) rfl ?_
          refine lv_if_ne (tgt := 77) hx hb xd_Ch_bindProvidersOf_56 (by decide) (fun _ => ?_) (fun hc98 => absurd hc98 (by decide))
          refine lv_iinc (k := 2) (x := (nI i)) (v := (nI (i + 1))) hx hb xd_Ch_bindProvidersOf_77 hl rfl (xb_inc i 1) (Nat.le_of_ble_eq_true rfl) rfl (fun ls hl => ?_)
          have hl : lv_has ls 5 [(2, .int (nI (i + 1))), (4, .int (nI cs1)), (3, .ref (ad (1 + i) 0)), (1, .int sv), (0, .ref (ad 0 7))] := hl
          refine lv_goto (tgt := 2) hx hb xd_Ch_bindProvidersOf_80 (by decide) ?_
          exact ih1 (i + 1, E1, cs1) _ _ _ (show 12 - (i + 1) < 12 - i by omega) (lv_sub hl [0, 3, 4] rfl) hP hD hS ⟨(show (i + 1) ≤ 12 from by first | assumption | omega), (show CI kA ad E1 RL ml nd len wn cs1 from hCI)⟩
      · refine W.eq (g2 := F0 m 48 ls [.int 0]) rfl ?_
        refine lv_if_eq (tgt := 77) hx hb xd_Ch_bindProvidersOf_48 (by decide) (fun _ => ?_) (fun hc99 => absurd (by decide) hc99)
        refine lv_iinc (k := 2) (x := (nI i)) (v := (nI (i + 1))) hx hb xd_Ch_bindProvidersOf_77 hl rfl (xb_inc i 1) (Nat.le_of_ble_eq_true rfl) rfl (fun ls hl => ?_)
        have hl : lv_has ls 5 [(2, .int (nI (i + 1))), (4, .int (nI cs1)), (3, .ref (ad (1 + i) 0)), (1, .int sv), (0, .ref (ad 0 7))] := hl
        refine lv_goto (tgt := 2) hx hb xd_Ch_bindProvidersOf_80 (by decide) ?_
        exact ih1 (i + 1, E1, cs1) _ _ _ (show 12 - (i + 1) < 12 - i by omega) (lv_sub hl [0, 3, 4] rfl) hP hD hS ⟨(show (i + 1) ≤ 12 from by first | assumption | omega), (show CI kA ad E1 RL ml nd len wn cs1 from hCI)⟩
set_option maxHeartbeats 4000000 in
set_option maxRecDepth 100000 in
theorem xc_Ch_bindUsesOf (l : Launch) (D : va_G) (kA : Nat → ClassId) (sz : Nat) (ad : Nat → Nat → Nat) (E : Nat → Nat → va_E) (RL : List (Nat × Nat)) (ml : Nat) (nd : Nat) (len : Nat) (wn : Nat) (cs : Nat) (d : Nat) (hCI : CI kA ad E RL ml nd len wn cs) (hd : d < nd) : Met l xy_Ch_bindUsesOf (.code xy_Ch_bindUsesOf xb_Ch_bindUsesOf 3 none :: wT) { frames := 20, cells := 0, slots := 0, locals := 1218 } (va_Pc [.ref (ad 0 7), .ref (ad (1 + d) 0)] (xPre D kA sz (rp ad E RL))) (va_Qv (fun (u : Nat → Nat → va_E) => ∃ cs2, CI kA ad u RL ml nd len wn cs2) (fun (u : Nat → Nat → va_E) t => va_P D xcl (rp ad u RL) t.heap ∧ va_D (va_A (rp ad E RL) sz) (rp ad u RL)) (va_A (rp ad E RL) sz)) 0 0 (va_A (rp ad E RL) sz) := by
  refine Met.ofW (cc := xb_Ch_bindUsesOf) (maxL := 3) (ret := none) (by decide) rfl ?_
  intro p e s m args below meth c s₁ B hml hv
  obtain ⟨rfl, hsz, hP, hK, hD0⟩ := hv
  have hx := B.exec
  have hb := B.bytes
  have hr := B.returns
  have hT := x_hT B.pre
  have hown : s.vm.findClass xR_Ch = some m.cls := findClass_of_methodNamed B.named
  have hlocks := B.notSynchronized
  subst hsz
  have hD := hD0.self (sz := s.heap.size)
  generalize hAe : va_A (rp ad E RL) s.heap.size = A at hD ⊢
  have hA : ∀ q : Nat, s.heap.size ≤ q → A q := fun q h => by rw [← hAe]; exact Or.inr h
  have hS : va_S A s.heap s.heap [] := va_S.rf
  have hl := lv_entry ([.ref (ad 0 7), .ref (ad (1 + d) 0)]) (n := 3) (Nat.le_of_ble_eq_true rfl)
  rw [lg_entry_eq]
  generalize (lg_sl ([.ref (ad 0 7), .ref (ad (1 + d) 0)]) ++ List.replicate (3 - (lg_sl ([.ref (ad 0 7), .ref (ad (1 + d) 0)])).length) Slot.unset).toArray = ls at hl ⊢
  have hl : lv_has ls 3 [(0, .ref (ad 0 7)), (1, .ref (ad (1 + d) 0))] := hl
  have hP : va_P D xcl (rp ad E RL) s.heap := hP
  obtain ⟨hmB, hDk, hLi, hSh, hCh, hLa, hDIs, hLIs⟩ := id hCI
  refine lv_iconst (v := 0) hx hb xd_Ch_bindUsesOf_0 (by decide) ?_
  refine lv_istore_n hx hb xd_Ch_bindUsesOf_1 rfl hl (Nat.le_of_ble_eq_true rfl) rfl (fun ls hl => ?_)
  have hl : lv_has ls 3 [(2, .int 0), (0, .ref (ad 0 7)), (1, .ref (ad (1 + d) 0))] := hl
  refine xlab (σ := Nat × (Nat → Nat → va_E) × Nat) (ml := 3) 2 (fun (i, E1, cs1) => [(2, .int (nI i)), (1, .ref (ad (1 + d) 0)), (0, .ref (ad 0 7))]) (fun (i, E1, cs1) => []) (fun (i, E1, cs1) => rp ad E1 RL) (fun (i, E1, cs1) => (i ≤ 3) ∧ (CI kA ad E1 RL ml nd len wn cs1)) (fun (i, E1, cs1) => 3 - i) ?_ (0, E, cs) _ _ _ (lv_sub hl [0, 2, 1] rfl) hP hD hS ⟨(show 0 ≤ 3 from by first | assumption | omega), (show CI kA ad E RL ml nd len wn cs from hCI)⟩
  intro n9 ih1 a9 ls H locs hμ hl hP hD hS hI
  subst hμ
  obtain ⟨i, E1, cs1⟩ := a9
  obtain ⟨hi, hCI⟩ := hI
  have hi : i ≤ 3 := hi
  have hCI : CI kA ad E1 RL ml nd len wn cs1 := hCI
  have hl : lv_has ls 3 [(2, .int (nI i)), (1, .ref (ad (1 + d) 0)), (0, .ref (ad 0 7))] := hl
  have hP : va_P D xcl (rp ad E1 RL) H := hP
  have hD : va_D A (rp ad E1 RL) := hD
  obtain ⟨hmB, hDk, hLi, hSh, hCh, hLa, hDIs, hLIs⟩ := id hCI
  obtain ⟨fd_2, hnd_2, q5_2, q6_2, hds_2⟩ := id (hSh)
  have c_3 : E1 0 5 = .inr (2, [.ref (ad 0 6), .int (nI nd)]) := q5_2
  have m_4 : (0, 5) ∈ RL := hmB 5 (by omega)
  have c_5 : E1 0 6 = .inl (kA 4, 12, .inr (.inr (.inr (.inr fd_2)))) := q6_2
  have m_6 : (0, 6) ∈ RL := hmB 6 (by omega)
  refine lv_iload_n hx hb xd_Ch_bindUsesOf_2 rfl (lv_at hl 0 rfl) ?_
  refine lv_aload_n hx hb xd_Ch_bindUsesOf_3 rfl (lv_at hl 1 rfl) ?_
  obtain ⟨hm_7, fd_7, nm_7, sd_7, k0_7, k1_7, k2_7, k3_7, f0_7, f1_7, f2_7, f3_7, fe_7, fo_7, tr_7, op_7, hk0_7, hk1_7, hk2_7, hk3_7, q0_7, q1_7, q2_7, q3_7, q4_7, q5_7, q6_7, q7_7, q8_7, q9_7, q10_7, q11_7, q12_7, hg_7⟩ := id (hDIs d (by omega))
  have c_8 : E1 (1 + d) 0 = .inr (7, [.int (nI d), .int fd_7, .int nm_7, .ref (ad (1 + d) 1), .ref (ad (1 + d) 9), .ref (ad (1 + d) 10), .ref (ad (1 + d) 2), .ref (ad (1 + d) 11), .ref (ad (1 + d) 12), .ref (ad (1 + d) 3), .ref (ad (1 + d) 4), .int sd_7]) := q0_7
  have m_9 : (1 + d, 0) ∈ RL := hm_7 0 (by omega)
  have c_10 : E1 (1 + d) 1 = .inr (8, [.ref (ad (1 + d) 5), .int (nI k0_7)]) := q1_7
  have m_11 : (1 + d, 1) ∈ RL := hm_7 1 (by omega)
  have c_12 : E1 (1 + d) 2 = .inr (8, [.ref (ad (1 + d) 6), .int (nI k1_7)]) := q2_7
  have m_13 : (1 + d, 2) ∈ RL := hm_7 2 (by omega)
  have c_14 : E1 (1 + d) 3 = .inr (8, [.ref (ad (1 + d) 7), .int (nI k2_7)]) := q3_7
  have m_15 : (1 + d, 3) ∈ RL := hm_7 3 (by omega)
  have c_16 : E1 (1 + d) 4 = .inr (8, [.ref (ad (1 + d) 8), .int (nI k3_7)]) := q4_7
  have m_17 : (1 + d, 4) ∈ RL := hm_7 4 (by omega)
  have c_18 : E1 (1 + d) 5 = .inl (kA 0, 6, .inl f0_7) := q5_7
  have m_19 : (1 + d, 5) ∈ RL := hm_7 5 (by omega)
  have c_20 : E1 (1 + d) 6 = .inl (kA 0, 5, .inl f1_7) := q6_7
  have m_21 : (1 + d, 6) ∈ RL := hm_7 6 (by omega)
  have c_22 : E1 (1 + d) 7 = .inl (kA 0, 3, .inl f2_7) := q7_7
  have m_23 : (1 + d, 7) ∈ RL := hm_7 7 (by omega)
  have c_24 : E1 (1 + d) 8 = .inl (kA 0, 3, .inl f3_7) := q8_7
  have m_25 : (1 + d, 8) ∈ RL := hm_7 8 (by omega)
  have c_26 : E1 (1 + d) 9 = .inl (kA 8, 6, .inr (.inr (.inr (.inr fe_7)))) := q9_7
  have m_27 : (1 + d, 9) ∈ RL := hm_7 9 (by omega)
  have c_28 : E1 (1 + d) 10 = .inl (kA 8, 6, .inr (.inr (.inr (.inr fo_7)))) := q10_7
  have m_29 : (1 + d, 10) ∈ RL := hm_7 10 (by omega)
  have c_30 : E1 (1 + d) 11 = .inl (kA 2, 5, .inl tr_7) := q11_7
  have m_31 : (1 + d, 11) ∈ RL := hm_7 11 (by omega)
  have c_32 : E1 (1 + d) 12 = .inl (kA 2, 5, .inl op_7) := q12_7
  have m_33 : (1 + d, 12) ∈ RL := hm_7 12 (by omega)
  have hg_7 : ∀ w9, w9 < k0_7 → fe_7 w9 = some (ad (1 + d) (20 + 3 * w9)) ∧ fo_7 w9 = some (ad (1 + d) (38 + 3 * w9)) ∧ GI kA (ad (1 + d)) (E1 (1 + d)) (fun o => (1 + d, o) ∈ RL) (20 + 3 * w9) (21 + 3 * w9) (22 + 3 * w9) ∧ GI kA (ad (1 + d)) (E1 (1 + d)) (fun o => (1 + d, o) ∈ RL) (38 + 3 * w9) (39 + 3 * w9) (40 + 3 * w9) := hg_7
  refine px_get (D := D) (ci := 7) (v := .ref (ad (1 + d) 3)) (C := xR_Ds) (T := xT_Ds) (N := 12) hx hb hT xi_Ds hown hK.1 hP m_9 c_8 rfl 9 (by decide) (hT _ ys2_22) (fun _ h9 => h9) rfl xd_Ch_bindUsesOf_4 ?_
  refine px_get (D := D) (ci := 8) (v := .int (nI k2_7)) (C := xR_Na) (T := xT_Na) (N := 2) hx hb hT xi_Na hown hK.1 hP m_15 c_14 rfl 1 (by decide) (hT _ ys2_23) (fun _ h9 => h9) rfl xd_Ch_bindUsesOf_7 ?_
  refine xn_ge (a := i) (b := k2_7) (tgt := 31) hx hb xd_Ch_bindUsesOf_10 (by decide) (by omega) (by omega) (fun hc34 => ?_) (fun hc34 => ?_)
  · exact W.vret hx hb hr (fun t ht hW => ⟨⟨E1, rfl, ⟨cs1, hCI⟩, by rw [ht]; exact hP, hD⟩, hS.F ht⟩) hS.2.2 xd_Ch_bindUsesOf_31
  · refine lv_aload_n hx hb xd_Ch_bindUsesOf_13 rfl (lv_at hl 2 rfl) ?_
    refine lv_aload_n hx hb xd_Ch_bindUsesOf_14 rfl (lv_at hl 1 rfl) ?_
    refine px_get (D := D) (ci := 7) (v := .ref (ad (1 + d) 3)) (C := xR_Ds) (T := xT_Ds) (N := 12) hx hb hT xi_Ds hown hK.1 hP m_9 c_8 rfl 9 (by decide) (hT _ ys2_22) (fun _ h9 => h9) rfl xd_Ch_bindUsesOf_15 ?_
    refine lv_iload_n hx hb xd_Ch_bindUsesOf_18 rfl (lv_at hl 0 rfl) ?_
    have hFc := px_free hD hS hA
    refine va_calli (va_runV (As := [.int (nI i)]) (rest := [.ref (ad 0 7)]) ⟨hx, hb, hml, hown, hT⟩ (xc_Na_at l D kA H.size ad E1 RL (1 + d) 3 7 3 k2_7 f2_7 i m_15 c_14 m_23 c_22 (by first | assumption | omega) (by first | assumption | omega) (by first | assumption | omega)) (cwV 1 hT (wT_V ys2_25 ys2_26 ys2_27 ys2_16 ys2_24) rfl rfl rfl (by decide +kernel) ⟨Nat.le_of_ble_eq_true rfl, Nat.le_of_ble_eq_true rfl⟩) (px_preV hK hP hD m_15 c_14 rfl) rfl rfl hl.1 rfl (lv_room (Nat.le_of_ble_eq_true rfl)) xd_Ch_bindUsesOf_19 ⟨(Nat.le_of_ble_eq_true rfl), (Nat.le_of_ble_eq_true rfl)⟩) hS (fun q _ h => hFc q h) hFc (fun r35 u36 t H1 locs ht hvm hp37 hB hz1 hk1 hS => ?_)
    obtain ⟨hP1, hD1⟩ := hB
    rw [ht] at hP1
    have hD1 := hD1.weaken (fun _ _ _ h => hFc _ h)
    generalize H1 = H at hP1 hS ⊢
    have hP := hP1
    have hD := hD1
    have hP : va_P D xcl (rp ad E1 RL) H := hP
    have hD : va_D A (rp ad E1 RL) := hD
    have hFc := px_free hD hS hA
    obtain ⟨cf_38, pv_38, fc_38, hcs_38, hpv_38, q7_38, q8_38, hfc_38⟩ := id (hCh)
    have c_39 : E1 0 7 = .inr (3, [.ref (ad 0 5), .ref (ad 0 8), .int (nI cs1), .int cf_38, pv_38]) := q7_38
    have m_40 : (0, 7) ∈ RL := hmB 7 (by omega)
    have c_41 : E1 0 8 = .inl (kA 4, 12, .inr (.inr (.inr (.inr fc_38)))) := q8_38
    have m_42 : (0, 8) ∈ RL := hmB 8 (by omega)
    refine va_callv (va_runV (As := [.int r35]) (rest := []) ⟨hx, hb, hml, hown, hT⟩ (xc_Ch_bindProvidersOf l D kA H.size ad E1 RL ml nd len wn cs1 r35 (by first | assumption | omega)) (cwV 1 hT (wT_V ys2_29 ys2_30 ys2_31 ys2_4 ys2_28) rfl rfl rfl (by decide +kernel) ⟨Nat.le_of_ble_eq_true rfl, Nat.le_of_ble_eq_true rfl⟩) (px_preV hK hP hD m_40 c_39 rfl) rfl rfl hl.1 rfl (lv_room (Nat.le_of_ble_eq_true rfl)) xd_Ch_bindUsesOf_22 ⟨(Nat.le_of_ble_eq_true rfl), (Nat.le_of_ble_eq_true rfl)⟩) hS (fun q _ h => hFc q h) hFc (fun u44 t H1 locs ht hvm hp45 hB hz1 hk1 hS => ?_)
    obtain ⟨hP1, hD1⟩ := hB
    rw [ht] at hP1
    have hD1 := hD1.weaken (fun _ _ _ h => hFc _ h)
    generalize H1 = H at hP1 hS ⊢
    have hP := hP1
    have hD := hD1
    obtain ⟨E46, rfl⟩ : ∃ z, z = u44 := ⟨_, rfl⟩
    have hP : va_P D xcl (rp ad E46 RL) H := hP
    have hD : va_D A (rp ad E46 RL) := hD
    obtain ⟨cs47, hCI⟩ := hp45
    have hCI : CI kA ad E46 RL ml nd len wn cs47 := hCI
    obtain ⟨hmB, hDk, hLi, hSh, hCh, hLa, hDIs, hLIs⟩ := id hCI
    refine lv_iinc (k := 0) (x := (nI i)) (v := (nI (i + 1))) hx hb xd_Ch_bindUsesOf_25 hl rfl (xb_inc i 1) (Nat.le_of_ble_eq_true rfl) rfl (fun ls hl => ?_)
    have hl : lv_has ls 3 [(2, .int (nI (i + 1))), (1, .ref (ad (1 + d) 0)), (0, .ref (ad 0 7))] := hl
    refine lv_goto (tgt := 2) hx hb xd_Ch_bindUsesOf_28 (by decide) ?_
    exact ih1 (i + 1, E46, cs47) _ _ _ (show 3 - (i + 1) < 3 - i by omega) (lv_sub hl [0, 1, 2] rfl) hP hD hS ⟨(show (i + 1) ≤ 3 from by first | assumption | omega), (show CI kA ad E46 RL ml nd len wn cs47 from hCI)⟩
set_option maxHeartbeats 4000000 in
set_option maxRecDepth 100000 in
theorem xc_Ch_bindOnce (l : Launch) (D : va_G) (kA : Nat → ClassId) (sz : Nat) (ad : Nat → Nat → Nat) (E : Nat → Nat → va_E) (RL : List (Nat × Nat)) (ml : Nat) (nd : Nat) (len : Nat) (wn : Nat) (cs : Nat) (hCI : CI kA ad E RL ml nd len wn cs) : Met l xy_Ch_bindOnce (.code xy_Ch_bindOnce xb_Ch_bindOnce 3 none :: wT) { frames := 21, cells := 0, slots := 0, locals := 1240 } (va_Pc [.ref (ad 0 7)] (xPre D kA sz (rp ad E RL))) (va_Qv (fun (u : Nat → Nat → va_E) => ∃ cs2, CI kA ad u RL ml nd len wn cs2) (fun (u : Nat → Nat → va_E) t => va_P D xcl (rp ad u RL) t.heap ∧ va_D (va_A (rp ad E RL) sz) (rp ad u RL)) (va_A (rp ad E RL) sz)) 0 0 (va_A (rp ad E RL) sz) := by
  refine Met.ofW (cc := xb_Ch_bindOnce) (maxL := 3) (ret := none) (by decide) rfl ?_
  intro p e s m args below meth c s₁ B hml hv
  obtain ⟨rfl, hsz, hP, hK, hD0⟩ := hv
  have hx := B.exec
  have hb := B.bytes
  have hr := B.returns
  have hT := x_hT B.pre
  have hown : s.vm.findClass xR_Ch = some m.cls := findClass_of_methodNamed B.named
  have hlocks := B.notSynchronized
  subst hsz
  have hD := hD0.self (sz := s.heap.size)
  generalize hAe : va_A (rp ad E RL) s.heap.size = A at hD ⊢
  have hA : ∀ q : Nat, s.heap.size ≤ q → A q := fun q h => by rw [← hAe]; exact Or.inr h
  have hS : va_S A s.heap s.heap [] := va_S.rf
  have hl := lv_entry ([.ref (ad 0 7)]) (n := 3) (Nat.le_of_ble_eq_true rfl)
  rw [lg_entry_eq]
  generalize (lg_sl ([.ref (ad 0 7)]) ++ List.replicate (3 - (lg_sl ([.ref (ad 0 7)])).length) Slot.unset).toArray = ls at hl ⊢
  have hl : lv_has ls 3 [(0, .ref (ad 0 7))] := hl
  have hP : va_P D xcl (rp ad E RL) s.heap := hP
  obtain ⟨hmB, hDk, hLi, hSh, hCh, hLa, hDIs, hLIs⟩ := id hCI
  refine lv_iconst (v := 0) hx hb xd_Ch_bindOnce_0 (by decide) ?_
  refine lv_istore_n hx hb xd_Ch_bindOnce_1 rfl hl (Nat.le_of_ble_eq_true rfl) rfl (fun ls hl => ?_)
  have hl : lv_has ls 3 [(1, .int 0), (0, .ref (ad 0 7))] := hl
  refine xlab (σ := Nat × (Nat → Nat → va_E) × Nat) (ml := 3) 2 (fun (i, E1, cs1) => [(1, .int (nI i)), (0, .ref (ad 0 7))]) (fun (i, E1, cs1) => []) (fun (i, E1, cs1) => rp ad E1 RL) (fun (i, E1, cs1) => (i ≤ 12) ∧ (CI kA ad E1 RL ml nd len wn cs1)) (fun (i, E1, cs1) => 12 - i) ?_ (0, E, cs) _ _ _ (lv_sub hl [0, 1] rfl) hP hD hS ⟨(show 0 ≤ 12 from by first | assumption | omega), (show CI kA ad E RL ml nd len wn cs from hCI)⟩
  intro n9 ih1 a9 ls H locs hμ hl hP hD hS hI
  subst hμ
  obtain ⟨i, E1, cs1⟩ := a9
  obtain ⟨hi, hCI⟩ := hI
  have hi : i ≤ 12 := hi
  have hCI : CI kA ad E1 RL ml nd len wn cs1 := hCI
  have hl : lv_has ls 3 [(1, .int (nI i)), (0, .ref (ad 0 7))] := hl
  have hP : va_P D xcl (rp ad E1 RL) H := hP
  have hD : va_D A (rp ad E1 RL) := hD
  obtain ⟨hmB, hDk, hLi, hSh, hCh, hLa, hDIs, hLIs⟩ := id hCI
  obtain ⟨fd_2, hnd_2, q5_2, q6_2, hds_2⟩ := id (hSh)
  have c_3 : E1 0 5 = .inr (2, [.ref (ad 0 6), .int (nI nd)]) := q5_2
  have m_4 : (0, 5) ∈ RL := hmB 5 (by omega)
  have c_5 : E1 0 6 = .inl (kA 4, 12, .inr (.inr (.inr (.inr fd_2)))) := q6_2
  have m_6 : (0, 6) ∈ RL := hmB 6 (by omega)
  obtain ⟨cf_7, pv_7, fc_7, hcs_7, hpv_7, q7_7, q8_7, hfc_7⟩ := id (hCh)
  have c_8 : E1 0 7 = .inr (3, [.ref (ad 0 5), .ref (ad 0 8), .int (nI cs1), .int cf_7, pv_7]) := q7_7
  have m_9 : (0, 7) ∈ RL := hmB 7 (by omega)
  have c_10 : E1 0 8 = .inl (kA 4, 12, .inr (.inr (.inr (.inr fc_7)))) := q8_7
  have m_11 : (0, 8) ∈ RL := hmB 8 (by omega)
  refine lv_iload_n hx hb xd_Ch_bindOnce_2 rfl (lv_at hl 0 rfl) ?_
  refine lv_aload_n hx hb xd_Ch_bindOnce_3 rfl (lv_at hl 1 rfl) ?_
  refine px_get (D := D) (ci := 3) (v := .int (nI cs1)) (C := xR_Ch) (T := xT_Ch) (N := 5) hx hb hT xi_Ch hown hK.1 hP m_9 c_8 rfl 2 (by decide) (hT _ ys2_8) (fun _ h9 => h9) rfl xd_Ch_bindOnce_4 ?_
  refine xn_ge (a := i) (b := cs1) (tgt := 32) hx hb xd_Ch_bindOnce_7 (by decide) (by omega) (by omega) (fun hc12 => ?_) (fun hc12 => ?_)
  · refine lv_aload_n hx hb xd_Ch_bindOnce_32 rfl (lv_at hl 1 rfl) ?_
    refine px_get (D := D) (ci := 3) (v := pv_7) (C := xR_Ch) (T := xT_Ch) (N := 5) hx hb hT xi_Ch hown hK.1 hP m_9 c_8 rfl 4 (by decide) (hT _ ys2_32) (fun _ h9 => h9) rfl xd_Ch_bindOnce_33 ?_
    rcases hpv_7 with rfl | ⟨x13, hx14, rfl⟩
    · refine W.eq (g2 := F0 m 36 ls [.null]) rfl ?_
      refine lv_astore_nN hx hb xd_Ch_bindOnce_36 rfl hl (Nat.le_of_ble_eq_true rfl) rfl (fun ls hl => ?_)
      have hl : lv_has ls 3 [(1, .null), (0, .ref (ad 0 7))] := hl
      refine xlab (σ := Nat × (Nat → Nat → va_E) × Nat) (ml := 3) 37 (fun (y, E3, cs3) => [(1, (lyv ad y)), (0, .ref (ad 0 7))]) (fun (y, E3, cs3) => []) (fun (y, E3, cs3) => rp ad E3 RL) (fun (y, E3, cs3) => (y ≤ ml) ∧ (CI kA ad E3 RL ml nd len wn cs3)) (fun (y, E3, cs3) => y) ?_ (0, E1, cs1) _ _ _ (lv_sub hl [0, 1] rfl) hP hD hS ⟨(show 0 ≤ ml from by first | assumption | omega), (show CI kA ad E1 RL ml nd len wn cs1 from hCI)⟩
      intro n9 ih15 a9 ls H locs hμ hl hP hD hS hI
      subst hμ
      obtain ⟨y, E3, cs3⟩ := a9
      obtain ⟨hy, hCI⟩ := hI
      have hy : y ≤ ml := hy
      have hCI : CI kA ad E3 RL ml nd len wn cs3 := hCI
      have hl : lv_has ls 3 [(1, (lyv ad y)), (0, .ref (ad 0 7))] := hl
      have hP : va_P D xcl (rp ad E3 RL) H := hP
      have hD : va_D A (rp ad E3 RL) := hD
      obtain ⟨hmB, hDk, hLi, hSh, hCh, hLa, hDIs, hLIs⟩ := id hCI
      obtain ⟨fd_16, hnd_16, q5_16, q6_16, hds_16⟩ := id (hSh)
      have c_17 : E3 0 5 = .inr (2, [.ref (ad 0 6), .int (nI nd)]) := q5_16
      have m_18 : (0, 5) ∈ RL := hmB 5 (by omega)
      have c_19 : E3 0 6 = .inl (kA 4, 12, .inr (.inr (.inr (.inr fd_16)))) := q6_16
      have m_20 : (0, 6) ∈ RL := hmB 6 (by omega)
      obtain ⟨fl_21, hml_21, q9_21, hla_21⟩ := id (hLa)
      have c_22 : E3 0 9 = .inl (kA 5, 5, .inr (.inr (.inr (.inr fl_21)))) := q9_21
      have m_23 : (0, 9) ∈ RL := hmB 9 (by omega)
      rcases y with _ | y
      · have hl : lv_has ls 3 [(1, .null), (0, .ref (ad 0 7))] := hl
        refine lv_aload_nN hx hb xd_Ch_bindOnce_37 rfl (lv_at hl 0 rfl) ?_
        refine lv_ifnullN (tgt := 79) hx hb xd_Ch_bindOnce_38 (by decide) ?_
        exact W.vret hx hb hr (fun t ht hW => ⟨⟨E3, rfl, ⟨cs3, hCI⟩, by rw [ht]; exact hP, hD⟩, hS.F ht⟩) hS.2.2 xd_Ch_bindOnce_79
      · have hl : lv_has ls 3 [(1, .ref (ad (20 + y) 0)), (0, .ref (ad 0 7))] := hl
        refine lv_aload_n hx hb xd_Ch_bindOnce_37 rfl (lv_at hl 0 rfl) ?_
        refine lv_ifnull hx hb xd_Ch_bindOnce_38 ?_
        refine lv_iconst (v := 0) hx hb xd_Ch_bindOnce_41 (by decide) ?_
        refine lv_istore_n hx hb xd_Ch_bindOnce_42 rfl hl (Nat.le_of_ble_eq_true rfl) rfl (fun ls hl => ?_)
        have hl : lv_has ls 3 [(2, .int 0), (1, .ref (ad (20 + y) 0)), (0, .ref (ad 0 7))] := hl
        refine xlab (σ := Nat × (Nat → Nat → va_E) × Nat) (ml := 3) 43 (fun (k, E4, cs4) => [(2, .int (nI k)), (1, .ref (ad (20 + y) 0)), (0, .ref (ad 0 7))]) (fun (k, E4, cs4) => []) (fun (k, E4, cs4) => rp ad E4 RL) (fun (k, E4, cs4) => (k ≤ 12) ∧ (CI kA ad E4 RL ml nd len wn cs4)) (fun (k, E4, cs4) => 12 - k) ?_ (0, E3, cs3) _ _ _ (lv_sub hl [0, 1, 2] rfl) hP hD hS ⟨(show 0 ≤ 12 from by first | assumption | omega), (show CI kA ad E3 RL ml nd len wn cs3 from hCI)⟩
        intro n9 ih24 a9 ls H locs hμ hl hP hD hS hI
        subst hμ
        obtain ⟨k, E4, cs4⟩ := a9
        obtain ⟨hk9, hCI⟩ := hI
        have hk9 : k ≤ 12 := hk9
        have hCI : CI kA ad E4 RL ml nd len wn cs4 := hCI
        have hl : lv_has ls 3 [(2, .int (nI k)), (1, .ref (ad (20 + y) 0)), (0, .ref (ad 0 7))] := hl
        have hP : va_P D xcl (rp ad E4 RL) H := hP
        have hD : va_D A (rp ad E4 RL) := hD
        obtain ⟨hmB, hDk, hLi, hSh, hCh, hLa, hDIs, hLIs⟩ := id hCI
        obtain ⟨fd_25, hnd_25, q5_25, q6_25, hds_25⟩ := id (hSh)
        have c_26 : E4 0 5 = .inr (2, [.ref (ad 0 6), .int (nI nd)]) := q5_25
        have m_27 : (0, 5) ∈ RL := hmB 5 (by omega)
        have c_28 : E4 0 6 = .inl (kA 4, 12, .inr (.inr (.inr (.inr fd_25)))) := q6_25
        have m_29 : (0, 6) ∈ RL := hmB 6 (by omega)
        obtain ⟨fl_30, hml_30, q9_30, hla_30⟩ := id (hLa)
        have c_31 : E4 0 9 = .inl (kA 5, 5, .inr (.inr (.inr (.inr fl_30)))) := q9_30
        have m_32 : (0, 9) ∈ RL := hmB 9 (by omega)
        refine lv_iload_n hx hb xd_Ch_bindOnce_43 rfl (lv_at hl 0 rfl) ?_
        refine lv_aload_n hx hb xd_Ch_bindOnce_44 rfl (lv_at hl 1 rfl) ?_
        obtain ⟨m0_33, m1_33, pv_33, op_33, mk_33, fm_33, hmk_33, hpv_33, q0_33, q1_33, hk_33⟩ := id (hLIs y (by omega))
        have c_34 : E4 (20 + y) 0 = .inr (5, [.int (nI y), pv_33, .ref (ad (20 + y) 1), .int op_33]) := q0_33
        have m_35 : (20 + y, 0) ∈ RL := m0_33
        have c_36 : E4 (20 + y) 1 = .inl (kA 6, mk_33, .inr (.inr (.inr (.inr fm_33)))) := q1_33
        have m_37 : (20 + y, 1) ∈ RL := m1_33
        refine px_get (D := D) (ci := 5) (v := .ref (ad (20 + y) 1)) (C := xR_Ly) (T := xT_Ly) (N := 4) hx hb hT xi_Ly hown hK.1 hP m_35 c_34 rfl 2 (by decide) (hT _ ys2_33) (fun _ h9 => h9) rfl xd_Ch_bindOnce_45 ?_
        refine px_alen hx hb hK.1 hP m_37 c_36 6 rfl xd_Ch_bindOnce_48 ?_
        refine W.eq (g2 := F0 m 49 ls [.int (nI mk_33), .int (nI k)]) rfl ?_
        refine xn_ge (a := k) (b := mk_33) (tgt := 71) hx hb xd_Ch_bindOnce_49 (by decide) (by omega) (by omega) (fun hc38 => ?_) (fun hc38 => ?_)
        · refine lv_aload_n hx hb xd_Ch_bindOnce_71 rfl (lv_at hl 1 rfl) ?_
          refine px_get (D := D) (ci := 5) (v := pv_33) (C := xR_Ly) (T := xT_Ly) (N := 4) hx hb hT xi_Ly hown hK.1 hP m_35 c_34 rfl 1 (by decide) (hT _ ys2_34) (fun _ h9 => h9) rfl xd_Ch_bindOnce_72 ?_
          rcases hpv_33 with rfl | ⟨x39, hx40, rfl⟩
          · refine W.eq (g2 := F0 m 75 ls [.null]) rfl ?_
            refine lv_astore_nN hx hb xd_Ch_bindOnce_75 rfl hl (Nat.le_of_ble_eq_true rfl) rfl (fun ls hl => ?_)
            have hl : lv_has ls 3 [(1, .null), (2, .int (nI k)), (0, .ref (ad 0 7))] := hl
            refine lv_goto (tgt := 37) hx hb xd_Ch_bindOnce_76 (by decide) ?_
            exact ih15 (0, E4, cs4) _ _ _ (show 0 < y + 1 by omega) (lv_sub hl [0, 2] rfl) hP hD hS ⟨(show 0 ≤ ml from by first | assumption | omega), (show CI kA ad E4 RL ml nd len wn cs4 from hCI)⟩
          · refine W.eq (g2 := F0 m 75 ls [.ref (ad (20 + x39) 0)]) rfl ?_
            refine lv_astore_n hx hb xd_Ch_bindOnce_75 rfl hl (Nat.le_of_ble_eq_true rfl) rfl (fun ls hl => ?_)
            have hl : lv_has ls 3 [(1, .ref (ad (20 + x39) 0)), (2, .int (nI k)), (0, .ref (ad 0 7))] := hl
            refine lv_goto (tgt := 37) hx hb xd_Ch_bindOnce_76 (by decide) ?_
            exact ih15 (x39 + 1, E4, cs4) _ _ _ (show (x39 + 1) < y + 1 by omega) (lv_sub hl [0, 2] rfl) hP hD hS ⟨(show (x39 + 1) ≤ ml from by first | assumption | omega), (show CI kA ad E4 RL ml nd len wn cs4 from hCI)⟩
        · refine lv_aload_n hx hb xd_Ch_bindOnce_52 rfl (lv_at hl 2 rfl) ?_
          refine lv_aload_n hx hb xd_Ch_bindOnce_53 rfl (lv_at hl 1 rfl) ?_
          refine px_get (D := D) (ci := 5) (v := .ref (ad (20 + y) 1)) (C := xR_Ly) (T := xT_Ly) (N := 4) hx hb hT xi_Ly hown hK.1 hP m_35 c_34 rfl 2 (by decide) (hT _ ys2_33) (fun _ h9 => h9) rfl xd_Ch_bindOnce_54 ?_
          refine lv_iload_n hx hb xd_Ch_bindOnce_57 rfl (lv_at hl 0 rfl) ?_
          refine px_aald (i := k) (x := (some (ad (20 + y) (10 + 10 * k)))) hx hb hK.1 hP m_37 c_36 6 rfl ((hk_33 k (by omega)).1) (by omega) (by omega) xd_Ch_bindOnce_58 ?_
          obtain ⟨hm_41, d_41, rs_41, fr_41, g2_41, g3_41, g4_41, hd_41, hrs_41, q0_41, q1_41, q2_41, q3_41, q4_41, q5_41, q6_41, q7_41⟩ := (hk_33 k (by omega)).2
          have c_42 : E4 (20 + y) (10 + 10 * k) = .inr (6, [.ref (ad (20 + y) 0), .ref (ad (1 + d_41) 0), .ref (ad (20 + y) (11 + 10 * k)), .ref (ad (20 + y) (12 + 10 * k)), .ref (ad (20 + y) (13 + 10 * k)), .ref (ad (20 + y) (14 + 10 * k))]) := q0_41
          have m_43 : (20 + y, 10 + 10 * k) ∈ RL := hm_41 0 (by omega)
          have c_44 : E4 (20 + y) (11 + 10 * k) = .inl (kA 6, rs_41, .inr (.inr (.inr (.inr fr_41)))) := q1_41
          have m_45 : (20 + y, 11 + 10 * k) ∈ RL := hm_41 1 (by omega)
          have c_46 : E4 (20 + y) (12 + 10 * k) = .inr (10, [.ref (ad (20 + y) (15 + 10 * k))]) := q2_41
          have m_47 : (20 + y, 12 + 10 * k) ∈ RL := hm_41 2 (by omega)
          have c_48 : E4 (20 + y) (13 + 10 * k) = .inr (10, [.ref (ad (20 + y) (16 + 10 * k))]) := q3_41
          have m_49 : (20 + y, 13 + 10 * k) ∈ RL := hm_41 3 (by omega)
          have c_50 : E4 (20 + y) (14 + 10 * k) = .inr (10, [.ref (ad (20 + y) (17 + 10 * k))]) := q4_41
          have m_51 : (20 + y, 14 + 10 * k) ∈ RL := hm_41 4 (by omega)
          have c_52 : E4 (20 + y) (15 + 10 * k) = .inl (kA 0, 6, .inl g2_41) := q5_41
          have m_53 : (20 + y, 15 + 10 * k) ∈ RL := hm_41 5 (by omega)
          have c_54 : E4 (20 + y) (16 + 10 * k) = .inl (kA 0, 6, .inl g3_41) := q6_41
          have m_55 : (20 + y, 16 + 10 * k) ∈ RL := hm_41 6 (by omega)
          have c_56 : E4 (20 + y) (17 + 10 * k) = .inl (kA 0, 6, .inl g4_41) := q7_41
          have m_57 : (20 + y, 17 + 10 * k) ∈ RL := hm_41 7 (by omega)
          refine px_get (D := D) (ci := 6) (v := .ref (ad (1 + d_41) 0)) (C := xR_Me) (T := xT_Me) (N := 6) hx hb hT xi_Me hown hK.1 hP m_43 c_42 rfl 1 (by decide) (hT _ ys2_35) (fun _ h9 => h9) rfl xd_Ch_bindOnce_59 ?_
          have hFc := px_free hD hS hA
          obtain ⟨cf_58, pv_58, fc_58, hcs_58, hpv_58, q7_58, q8_58, hfc_58⟩ := id (hCh)
          have c_59 : E4 0 7 = .inr (3, [.ref (ad 0 5), .ref (ad 0 8), .int (nI cs4), .int cf_58, pv_58]) := q7_58
          have m_60 : (0, 7) ∈ RL := hmB 7 (by omega)
          have c_61 : E4 0 8 = .inl (kA 4, 12, .inr (.inr (.inr (.inr fc_58)))) := q8_58
          have m_62 : (0, 8) ∈ RL := hmB 8 (by omega)
          refine va_callv (va_runV (As := [.ref (ad (1 + d_41) 0)]) (rest := []) ⟨hx, hb, hml, hown, hT⟩ (xc_Ch_bindUsesOf l D kA H.size ad E4 RL ml nd len wn cs4 d_41 (by first | assumption | omega) (by first | assumption | omega)) (cwV 1 hT (wT_V ys2_37 ys2_38 ys2_39 ys2_4 ys2_36) rfl rfl rfl (by decide +kernel) ⟨Nat.le_of_ble_eq_true rfl, Nat.le_of_ble_eq_true rfl⟩) (px_preV hK hP hD m_60 c_59 rfl) rfl rfl hl.1 rfl (lv_room (Nat.le_of_ble_eq_true rfl)) xd_Ch_bindOnce_62 ⟨(Nat.le_of_ble_eq_true rfl), (Nat.le_of_ble_eq_true rfl)⟩) hS (fun q _ h => hFc q h) hFc (fun u64 t H1 locs ht hvm hp65 hB hz1 hk1 hS => ?_)
          obtain ⟨hP1, hD1⟩ := hB
          rw [ht] at hP1
          have hD1 := hD1.weaken (fun _ _ _ h => hFc _ h)
          generalize H1 = H at hP1 hS ⊢
          have hP := hP1
          have hD := hD1
          obtain ⟨E66, rfl⟩ : ∃ z, z = u64 := ⟨_, rfl⟩
          have hP : va_P D xcl (rp ad E66 RL) H := hP
          have hD : va_D A (rp ad E66 RL) := hD
          obtain ⟨cs67, hCI⟩ := hp65
          have hCI : CI kA ad E66 RL ml nd len wn cs67 := hCI
          obtain ⟨hmB, hDk, hLi, hSh, hCh, hLa, hDIs, hLIs⟩ := id hCI
          refine lv_iinc (k := 0) (x := (nI k)) (v := (nI (k + 1))) hx hb xd_Ch_bindOnce_65 hl rfl (xb_inc k 1) (Nat.le_of_ble_eq_true rfl) rfl (fun ls hl => ?_)
          have hl : lv_has ls 3 [(2, .int (nI (k + 1))), (1, .ref (ad (20 + y) 0)), (0, .ref (ad 0 7))] := hl
          refine lv_goto (tgt := 43) hx hb xd_Ch_bindOnce_68 (by decide) ?_
          exact ih24 (k + 1, E66, cs67) _ _ _ (show 12 - (k + 1) < 12 - k by omega) (lv_sub hl [0, 1, 2] rfl) hP hD hS ⟨(show (k + 1) ≤ 12 from by first | assumption | omega), (show CI kA ad E66 RL ml nd len wn cs67 from hCI)⟩
    · refine W.eq (g2 := F0 m 36 ls [.ref (ad (20 + x13) 0)]) rfl ?_
      refine lv_astore_n hx hb xd_Ch_bindOnce_36 rfl hl (Nat.le_of_ble_eq_true rfl) rfl (fun ls hl => ?_)
      have hl : lv_has ls 3 [(1, .ref (ad (20 + x13) 0)), (0, .ref (ad 0 7))] := hl
      refine xlab (σ := Nat × (Nat → Nat → va_E) × Nat) (ml := 3) 37 (fun (y, E3, cs3) => [(1, (lyv ad y)), (0, .ref (ad 0 7))]) (fun (y, E3, cs3) => []) (fun (y, E3, cs3) => rp ad E3 RL) (fun (y, E3, cs3) => (y ≤ ml) ∧ (CI kA ad E3 RL ml nd len wn cs3)) (fun (y, E3, cs3) => y) ?_ (x13 + 1, E1, cs1) _ _ _ (lv_sub hl [0, 1] rfl) hP hD hS ⟨(show (x13 + 1) ≤ ml from by first | assumption | omega), (show CI kA ad E1 RL ml nd len wn cs1 from hCI)⟩
      intro n9 ih69 a9 ls H locs hμ hl hP hD hS hI
      subst hμ
      obtain ⟨y, E3, cs3⟩ := a9
      obtain ⟨hy, hCI⟩ := hI
      have hy : y ≤ ml := hy
      have hCI : CI kA ad E3 RL ml nd len wn cs3 := hCI
      have hl : lv_has ls 3 [(1, (lyv ad y)), (0, .ref (ad 0 7))] := hl
      have hP : va_P D xcl (rp ad E3 RL) H := hP
      have hD : va_D A (rp ad E3 RL) := hD
      obtain ⟨hmB, hDk, hLi, hSh, hCh, hLa, hDIs, hLIs⟩ := id hCI
      obtain ⟨fd_70, hnd_70, q5_70, q6_70, hds_70⟩ := id (hSh)
      have c_71 : E3 0 5 = .inr (2, [.ref (ad 0 6), .int (nI nd)]) := q5_70
      have m_72 : (0, 5) ∈ RL := hmB 5 (by omega)
      have c_73 : E3 0 6 = .inl (kA 4, 12, .inr (.inr (.inr (.inr fd_70)))) := q6_70
      have m_74 : (0, 6) ∈ RL := hmB 6 (by omega)
      obtain ⟨fl_75, hml_75, q9_75, hla_75⟩ := id (hLa)
      have c_76 : E3 0 9 = .inl (kA 5, 5, .inr (.inr (.inr (.inr fl_75)))) := q9_75
      have m_77 : (0, 9) ∈ RL := hmB 9 (by omega)
      rcases y with _ | y
      · have hl : lv_has ls 3 [(1, .null), (0, .ref (ad 0 7))] := hl
        refine lv_aload_nN hx hb xd_Ch_bindOnce_37 rfl (lv_at hl 0 rfl) ?_
        refine lv_ifnullN (tgt := 79) hx hb xd_Ch_bindOnce_38 (by decide) ?_
        exact W.vret hx hb hr (fun t ht hW => ⟨⟨E3, rfl, ⟨cs3, hCI⟩, by rw [ht]; exact hP, hD⟩, hS.F ht⟩) hS.2.2 xd_Ch_bindOnce_79
      · have hl : lv_has ls 3 [(1, .ref (ad (20 + y) 0)), (0, .ref (ad 0 7))] := hl
        refine lv_aload_n hx hb xd_Ch_bindOnce_37 rfl (lv_at hl 0 rfl) ?_
        refine lv_ifnull hx hb xd_Ch_bindOnce_38 ?_
        refine lv_iconst (v := 0) hx hb xd_Ch_bindOnce_41 (by decide) ?_
        refine lv_istore_n hx hb xd_Ch_bindOnce_42 rfl hl (Nat.le_of_ble_eq_true rfl) rfl (fun ls hl => ?_)
        have hl : lv_has ls 3 [(2, .int 0), (1, .ref (ad (20 + y) 0)), (0, .ref (ad 0 7))] := hl
        refine xlab (σ := Nat × (Nat → Nat → va_E) × Nat) (ml := 3) 43 (fun (k, E4, cs4) => [(2, .int (nI k)), (1, .ref (ad (20 + y) 0)), (0, .ref (ad 0 7))]) (fun (k, E4, cs4) => []) (fun (k, E4, cs4) => rp ad E4 RL) (fun (k, E4, cs4) => (k ≤ 12) ∧ (CI kA ad E4 RL ml nd len wn cs4)) (fun (k, E4, cs4) => 12 - k) ?_ (0, E3, cs3) _ _ _ (lv_sub hl [0, 1, 2] rfl) hP hD hS ⟨(show 0 ≤ 12 from by first | assumption | omega), (show CI kA ad E3 RL ml nd len wn cs3 from hCI)⟩
        intro n9 ih78 a9 ls H locs hμ hl hP hD hS hI
        subst hμ
        obtain ⟨k, E4, cs4⟩ := a9
        obtain ⟨hk9, hCI⟩ := hI
        have hk9 : k ≤ 12 := hk9
        have hCI : CI kA ad E4 RL ml nd len wn cs4 := hCI
        have hl : lv_has ls 3 [(2, .int (nI k)), (1, .ref (ad (20 + y) 0)), (0, .ref (ad 0 7))] := hl
        have hP : va_P D xcl (rp ad E4 RL) H := hP
        have hD : va_D A (rp ad E4 RL) := hD
        obtain ⟨hmB, hDk, hLi, hSh, hCh, hLa, hDIs, hLIs⟩ := id hCI
        obtain ⟨fd_79, hnd_79, q5_79, q6_79, hds_79⟩ := id (hSh)
        have c_80 : E4 0 5 = .inr (2, [.ref (ad 0 6), .int (nI nd)]) := q5_79
        have m_81 : (0, 5) ∈ RL := hmB 5 (by omega)
        have c_82 : E4 0 6 = .inl (kA 4, 12, .inr (.inr (.inr (.inr fd_79)))) := q6_79
        have m_83 : (0, 6) ∈ RL := hmB 6 (by omega)
        obtain ⟨fl_84, hml_84, q9_84, hla_84⟩ := id (hLa)
        have c_85 : E4 0 9 = .inl (kA 5, 5, .inr (.inr (.inr (.inr fl_84)))) := q9_84
        have m_86 : (0, 9) ∈ RL := hmB 9 (by omega)
        refine lv_iload_n hx hb xd_Ch_bindOnce_43 rfl (lv_at hl 0 rfl) ?_
        refine lv_aload_n hx hb xd_Ch_bindOnce_44 rfl (lv_at hl 1 rfl) ?_
        obtain ⟨m0_87, m1_87, pv_87, op_87, mk_87, fm_87, hmk_87, hpv_87, q0_87, q1_87, hk_87⟩ := id (hLIs y (by omega))
        have c_88 : E4 (20 + y) 0 = .inr (5, [.int (nI y), pv_87, .ref (ad (20 + y) 1), .int op_87]) := q0_87
        have m_89 : (20 + y, 0) ∈ RL := m0_87
        have c_90 : E4 (20 + y) 1 = .inl (kA 6, mk_87, .inr (.inr (.inr (.inr fm_87)))) := q1_87
        have m_91 : (20 + y, 1) ∈ RL := m1_87
        refine px_get (D := D) (ci := 5) (v := .ref (ad (20 + y) 1)) (C := xR_Ly) (T := xT_Ly) (N := 4) hx hb hT xi_Ly hown hK.1 hP m_89 c_88 rfl 2 (by decide) (hT _ ys2_33) (fun _ h9 => h9) rfl xd_Ch_bindOnce_45 ?_
        refine px_alen hx hb hK.1 hP m_91 c_90 6 rfl xd_Ch_bindOnce_48 ?_
        refine W.eq (g2 := F0 m 49 ls [.int (nI mk_87), .int (nI k)]) rfl ?_
        refine xn_ge (a := k) (b := mk_87) (tgt := 71) hx hb xd_Ch_bindOnce_49 (by decide) (by omega) (by omega) (fun hc92 => ?_) (fun hc92 => ?_)
        · refine lv_aload_n hx hb xd_Ch_bindOnce_71 rfl (lv_at hl 1 rfl) ?_
          refine px_get (D := D) (ci := 5) (v := pv_87) (C := xR_Ly) (T := xT_Ly) (N := 4) hx hb hT xi_Ly hown hK.1 hP m_89 c_88 rfl 1 (by decide) (hT _ ys2_34) (fun _ h9 => h9) rfl xd_Ch_bindOnce_72 ?_
          rcases hpv_87 with rfl | ⟨x93, hx94, rfl⟩
          · refine W.eq (g2 := F0 m 75 ls [.null]) rfl ?_
            refine lv_astore_nN hx hb xd_Ch_bindOnce_75 rfl hl (Nat.le_of_ble_eq_true rfl) rfl (fun ls hl => ?_)
            have hl : lv_has ls 3 [(1, .null), (2, .int (nI k)), (0, .ref (ad 0 7))] := hl
            refine lv_goto (tgt := 37) hx hb xd_Ch_bindOnce_76 (by decide) ?_
            exact ih69 (0, E4, cs4) _ _ _ (show 0 < y + 1 by omega) (lv_sub hl [0, 2] rfl) hP hD hS ⟨(show 0 ≤ ml from by first | assumption | omega), (show CI kA ad E4 RL ml nd len wn cs4 from hCI)⟩
          · refine W.eq (g2 := F0 m 75 ls [.ref (ad (20 + x93) 0)]) rfl ?_
            refine lv_astore_n hx hb xd_Ch_bindOnce_75 rfl hl (Nat.le_of_ble_eq_true rfl) rfl (fun ls hl => ?_)
            have hl : lv_has ls 3 [(1, .ref (ad (20 + x93) 0)), (2, .int (nI k)), (0, .ref (ad 0 7))] := hl
            refine lv_goto (tgt := 37) hx hb xd_Ch_bindOnce_76 (by decide) ?_
            exact ih69 (x93 + 1, E4, cs4) _ _ _ (show (x93 + 1) < y + 1 by omega) (lv_sub hl [0, 2] rfl) hP hD hS ⟨(show (x93 + 1) ≤ ml from by first | assumption | omega), (show CI kA ad E4 RL ml nd len wn cs4 from hCI)⟩
        · refine lv_aload_n hx hb xd_Ch_bindOnce_52 rfl (lv_at hl 2 rfl) ?_
          refine lv_aload_n hx hb xd_Ch_bindOnce_53 rfl (lv_at hl 1 rfl) ?_
          refine px_get (D := D) (ci := 5) (v := .ref (ad (20 + y) 1)) (C := xR_Ly) (T := xT_Ly) (N := 4) hx hb hT xi_Ly hown hK.1 hP m_89 c_88 rfl 2 (by decide) (hT _ ys2_33) (fun _ h9 => h9) rfl xd_Ch_bindOnce_54 ?_
          refine lv_iload_n hx hb xd_Ch_bindOnce_57 rfl (lv_at hl 0 rfl) ?_
          refine px_aald (i := k) (x := (some (ad (20 + y) (10 + 10 * k)))) hx hb hK.1 hP m_91 c_90 6 rfl ((hk_87 k (by omega)).1) (by omega) (by omega) xd_Ch_bindOnce_58 ?_
          obtain ⟨hm_95, d_95, rs_95, fr_95, g2_95, g3_95, g4_95, hd_95, hrs_95, q0_95, q1_95, q2_95, q3_95, q4_95, q5_95, q6_95, q7_95⟩ := (hk_87 k (by omega)).2
          have c_96 : E4 (20 + y) (10 + 10 * k) = .inr (6, [.ref (ad (20 + y) 0), .ref (ad (1 + d_95) 0), .ref (ad (20 + y) (11 + 10 * k)), .ref (ad (20 + y) (12 + 10 * k)), .ref (ad (20 + y) (13 + 10 * k)), .ref (ad (20 + y) (14 + 10 * k))]) := q0_95
          have m_97 : (20 + y, 10 + 10 * k) ∈ RL := hm_95 0 (by omega)
          have c_98 : E4 (20 + y) (11 + 10 * k) = .inl (kA 6, rs_95, .inr (.inr (.inr (.inr fr_95)))) := q1_95
          have m_99 : (20 + y, 11 + 10 * k) ∈ RL := hm_95 1 (by omega)
          have c_100 : E4 (20 + y) (12 + 10 * k) = .inr (10, [.ref (ad (20 + y) (15 + 10 * k))]) := q2_95
          have m_101 : (20 + y, 12 + 10 * k) ∈ RL := hm_95 2 (by omega)
          have c_102 : E4 (20 + y) (13 + 10 * k) = .inr (10, [.ref (ad (20 + y) (16 + 10 * k))]) := q3_95
          have m_103 : (20 + y, 13 + 10 * k) ∈ RL := hm_95 3 (by omega)
          have c_104 : E4 (20 + y) (14 + 10 * k) = .inr (10, [.ref (ad (20 + y) (17 + 10 * k))]) := q4_95
          have m_105 : (20 + y, 14 + 10 * k) ∈ RL := hm_95 4 (by omega)
          have c_106 : E4 (20 + y) (15 + 10 * k) = .inl (kA 0, 6, .inl g2_95) := q5_95
          have m_107 : (20 + y, 15 + 10 * k) ∈ RL := hm_95 5 (by omega)
          have c_108 : E4 (20 + y) (16 + 10 * k) = .inl (kA 0, 6, .inl g3_95) := q6_95
          have m_109 : (20 + y, 16 + 10 * k) ∈ RL := hm_95 6 (by omega)
          have c_110 : E4 (20 + y) (17 + 10 * k) = .inl (kA 0, 6, .inl g4_95) := q7_95
          have m_111 : (20 + y, 17 + 10 * k) ∈ RL := hm_95 7 (by omega)
          refine px_get (D := D) (ci := 6) (v := .ref (ad (1 + d_95) 0)) (C := xR_Me) (T := xT_Me) (N := 6) hx hb hT xi_Me hown hK.1 hP m_97 c_96 rfl 1 (by decide) (hT _ ys2_35) (fun _ h9 => h9) rfl xd_Ch_bindOnce_59 ?_
          have hFc := px_free hD hS hA
          obtain ⟨cf_112, pv_112, fc_112, hcs_112, hpv_112, q7_112, q8_112, hfc_112⟩ := id (hCh)
          have c_113 : E4 0 7 = .inr (3, [.ref (ad 0 5), .ref (ad 0 8), .int (nI cs4), .int cf_112, pv_112]) := q7_112
          have m_114 : (0, 7) ∈ RL := hmB 7 (by omega)
          have c_115 : E4 0 8 = .inl (kA 4, 12, .inr (.inr (.inr (.inr fc_112)))) := q8_112
          have m_116 : (0, 8) ∈ RL := hmB 8 (by omega)
          refine va_callv (va_runV (As := [.ref (ad (1 + d_95) 0)]) (rest := []) ⟨hx, hb, hml, hown, hT⟩ (xc_Ch_bindUsesOf l D kA H.size ad E4 RL ml nd len wn cs4 d_95 (by first | assumption | omega) (by first | assumption | omega)) (cwV 1 hT (wT_V ys2_37 ys2_38 ys2_39 ys2_4 ys2_36) rfl rfl rfl (by decide +kernel) ⟨Nat.le_of_ble_eq_true rfl, Nat.le_of_ble_eq_true rfl⟩) (px_preV hK hP hD m_114 c_113 rfl) rfl rfl hl.1 rfl (lv_room (Nat.le_of_ble_eq_true rfl)) xd_Ch_bindOnce_62 ⟨(Nat.le_of_ble_eq_true rfl), (Nat.le_of_ble_eq_true rfl)⟩) hS (fun q _ h => hFc q h) hFc (fun u118 t H1 locs ht hvm hp119 hB hz1 hk1 hS => ?_)
          obtain ⟨hP1, hD1⟩ := hB
          rw [ht] at hP1
          have hD1 := hD1.weaken (fun _ _ _ h => hFc _ h)
          generalize H1 = H at hP1 hS ⊢
          have hP := hP1
          have hD := hD1
          obtain ⟨E120, rfl⟩ : ∃ z, z = u118 := ⟨_, rfl⟩
          have hP : va_P D xcl (rp ad E120 RL) H := hP
          have hD : va_D A (rp ad E120 RL) := hD
          obtain ⟨cs121, hCI⟩ := hp119
          have hCI : CI kA ad E120 RL ml nd len wn cs121 := hCI
          obtain ⟨hmB, hDk, hLi, hSh, hCh, hLa, hDIs, hLIs⟩ := id hCI
          refine lv_iinc (k := 0) (x := (nI k)) (v := (nI (k + 1))) hx hb xd_Ch_bindOnce_65 hl rfl (xb_inc k 1) (Nat.le_of_ble_eq_true rfl) rfl (fun ls hl => ?_)
          have hl : lv_has ls 3 [(2, .int (nI (k + 1))), (1, .ref (ad (20 + y) 0)), (0, .ref (ad 0 7))] := hl
          refine lv_goto (tgt := 43) hx hb xd_Ch_bindOnce_68 (by decide) ?_
          exact ih78 (k + 1, E120, cs121) _ _ _ (show 12 - (k + 1) < 12 - k by omega) (lv_sub hl [0, 1, 2] rfl) hP hD hS ⟨(show (k + 1) ≤ 12 from by first | assumption | omega), (show CI kA ad E120 RL ml nd len wn cs121 from hCI)⟩
  · refine lv_iload_n hx hb xd_Ch_bindOnce_10 rfl (lv_at hl 0 rfl) ?_
    refine lv_bipush (v := 12) hx hb xd_Ch_bindOnce_11 (by decide) ?_
    refine xn_ge (a := i) (b := 12) (tgt := 32) hx hb xd_Ch_bindOnce_13 (by decide) (by omega) (by omega) (fun hc123 => ?_) (fun hc123 => ?_)
    · refine lv_aload_n hx hb xd_Ch_bindOnce_32 rfl (lv_at hl 1 rfl) ?_
      refine px_get (D := D) (ci := 3) (v := pv_7) (C := xR_Ch) (T := xT_Ch) (N := 5) hx hb hT xi_Ch hown hK.1 hP m_9 c_8 rfl 4 (by decide) (hT _ ys2_32) (fun _ h9 => h9) rfl xd_Ch_bindOnce_33 ?_
      rcases hpv_7 with rfl | ⟨x124, hx125, rfl⟩
      · refine W.eq (g2 := F0 m 36 ls [.null]) rfl ?_
        refine lv_astore_nN hx hb xd_Ch_bindOnce_36 rfl hl (Nat.le_of_ble_eq_true rfl) rfl (fun ls hl => ?_)
        have hl : lv_has ls 3 [(1, .null), (0, .ref (ad 0 7))] := hl
        refine xlab (σ := Nat × (Nat → Nat → va_E) × Nat) (ml := 3) 37 (fun (y, E3, cs3) => [(1, (lyv ad y)), (0, .ref (ad 0 7))]) (fun (y, E3, cs3) => []) (fun (y, E3, cs3) => rp ad E3 RL) (fun (y, E3, cs3) => (y ≤ ml) ∧ (CI kA ad E3 RL ml nd len wn cs3)) (fun (y, E3, cs3) => y) ?_ (0, E1, cs1) _ _ _ (lv_sub hl [0, 1] rfl) hP hD hS ⟨(show 0 ≤ ml from by first | assumption | omega), (show CI kA ad E1 RL ml nd len wn cs1 from hCI)⟩
        intro n9 ih126 a9 ls H locs hμ hl hP hD hS hI
        subst hμ
        obtain ⟨y, E3, cs3⟩ := a9
        obtain ⟨hy, hCI⟩ := hI
        have hy : y ≤ ml := hy
        have hCI : CI kA ad E3 RL ml nd len wn cs3 := hCI
        have hl : lv_has ls 3 [(1, (lyv ad y)), (0, .ref (ad 0 7))] := hl
        have hP : va_P D xcl (rp ad E3 RL) H := hP
        have hD : va_D A (rp ad E3 RL) := hD
        obtain ⟨hmB, hDk, hLi, hSh, hCh, hLa, hDIs, hLIs⟩ := id hCI
        obtain ⟨fd_127, hnd_127, q5_127, q6_127, hds_127⟩ := id (hSh)
        have c_128 : E3 0 5 = .inr (2, [.ref (ad 0 6), .int (nI nd)]) := q5_127
        have m_129 : (0, 5) ∈ RL := hmB 5 (by omega)
        have c_130 : E3 0 6 = .inl (kA 4, 12, .inr (.inr (.inr (.inr fd_127)))) := q6_127
        have m_131 : (0, 6) ∈ RL := hmB 6 (by omega)
        obtain ⟨fl_132, hml_132, q9_132, hla_132⟩ := id (hLa)
        have c_133 : E3 0 9 = .inl (kA 5, 5, .inr (.inr (.inr (.inr fl_132)))) := q9_132
        have m_134 : (0, 9) ∈ RL := hmB 9 (by omega)
        rcases y with _ | y
        · have hl : lv_has ls 3 [(1, .null), (0, .ref (ad 0 7))] := hl
          refine lv_aload_nN hx hb xd_Ch_bindOnce_37 rfl (lv_at hl 0 rfl) ?_
          refine lv_ifnullN (tgt := 79) hx hb xd_Ch_bindOnce_38 (by decide) ?_
          exact W.vret hx hb hr (fun t ht hW => ⟨⟨E3, rfl, ⟨cs3, hCI⟩, by rw [ht]; exact hP, hD⟩, hS.F ht⟩) hS.2.2 xd_Ch_bindOnce_79
        · have hl : lv_has ls 3 [(1, .ref (ad (20 + y) 0)), (0, .ref (ad 0 7))] := hl
          refine lv_aload_n hx hb xd_Ch_bindOnce_37 rfl (lv_at hl 0 rfl) ?_
          refine lv_ifnull hx hb xd_Ch_bindOnce_38 ?_
          refine lv_iconst (v := 0) hx hb xd_Ch_bindOnce_41 (by decide) ?_
          refine lv_istore_n hx hb xd_Ch_bindOnce_42 rfl hl (Nat.le_of_ble_eq_true rfl) rfl (fun ls hl => ?_)
          have hl : lv_has ls 3 [(2, .int 0), (1, .ref (ad (20 + y) 0)), (0, .ref (ad 0 7))] := hl
          refine xlab (σ := Nat × (Nat → Nat → va_E) × Nat) (ml := 3) 43 (fun (k, E4, cs4) => [(2, .int (nI k)), (1, .ref (ad (20 + y) 0)), (0, .ref (ad 0 7))]) (fun (k, E4, cs4) => []) (fun (k, E4, cs4) => rp ad E4 RL) (fun (k, E4, cs4) => (k ≤ 12) ∧ (CI kA ad E4 RL ml nd len wn cs4)) (fun (k, E4, cs4) => 12 - k) ?_ (0, E3, cs3) _ _ _ (lv_sub hl [0, 1, 2] rfl) hP hD hS ⟨(show 0 ≤ 12 from by first | assumption | omega), (show CI kA ad E3 RL ml nd len wn cs3 from hCI)⟩
          intro n9 ih135 a9 ls H locs hμ hl hP hD hS hI
          subst hμ
          obtain ⟨k, E4, cs4⟩ := a9
          obtain ⟨hk9, hCI⟩ := hI
          have hk9 : k ≤ 12 := hk9
          have hCI : CI kA ad E4 RL ml nd len wn cs4 := hCI
          have hl : lv_has ls 3 [(2, .int (nI k)), (1, .ref (ad (20 + y) 0)), (0, .ref (ad 0 7))] := hl
          have hP : va_P D xcl (rp ad E4 RL) H := hP
          have hD : va_D A (rp ad E4 RL) := hD
          obtain ⟨hmB, hDk, hLi, hSh, hCh, hLa, hDIs, hLIs⟩ := id hCI
          obtain ⟨fd_136, hnd_136, q5_136, q6_136, hds_136⟩ := id (hSh)
          have c_137 : E4 0 5 = .inr (2, [.ref (ad 0 6), .int (nI nd)]) := q5_136
          have m_138 : (0, 5) ∈ RL := hmB 5 (by omega)
          have c_139 : E4 0 6 = .inl (kA 4, 12, .inr (.inr (.inr (.inr fd_136)))) := q6_136
          have m_140 : (0, 6) ∈ RL := hmB 6 (by omega)
          obtain ⟨fl_141, hml_141, q9_141, hla_141⟩ := id (hLa)
          have c_142 : E4 0 9 = .inl (kA 5, 5, .inr (.inr (.inr (.inr fl_141)))) := q9_141
          have m_143 : (0, 9) ∈ RL := hmB 9 (by omega)
          refine lv_iload_n hx hb xd_Ch_bindOnce_43 rfl (lv_at hl 0 rfl) ?_
          refine lv_aload_n hx hb xd_Ch_bindOnce_44 rfl (lv_at hl 1 rfl) ?_
          obtain ⟨m0_144, m1_144, pv_144, op_144, mk_144, fm_144, hmk_144, hpv_144, q0_144, q1_144, hk_144⟩ := id (hLIs y (by omega))
          have c_145 : E4 (20 + y) 0 = .inr (5, [.int (nI y), pv_144, .ref (ad (20 + y) 1), .int op_144]) := q0_144
          have m_146 : (20 + y, 0) ∈ RL := m0_144
          have c_147 : E4 (20 + y) 1 = .inl (kA 6, mk_144, .inr (.inr (.inr (.inr fm_144)))) := q1_144
          have m_148 : (20 + y, 1) ∈ RL := m1_144
          refine px_get (D := D) (ci := 5) (v := .ref (ad (20 + y) 1)) (C := xR_Ly) (T := xT_Ly) (N := 4) hx hb hT xi_Ly hown hK.1 hP m_146 c_145 rfl 2 (by decide) (hT _ ys2_33) (fun _ h9 => h9) rfl xd_Ch_bindOnce_45 ?_
          refine px_alen hx hb hK.1 hP m_148 c_147 6 rfl xd_Ch_bindOnce_48 ?_
          refine W.eq (g2 := F0 m 49 ls [.int (nI mk_144), .int (nI k)]) rfl ?_
          refine xn_ge (a := k) (b := mk_144) (tgt := 71) hx hb xd_Ch_bindOnce_49 (by decide) (by omega) (by omega) (fun hc149 => ?_) (fun hc149 => ?_)
          · refine lv_aload_n hx hb xd_Ch_bindOnce_71 rfl (lv_at hl 1 rfl) ?_
            refine px_get (D := D) (ci := 5) (v := pv_144) (C := xR_Ly) (T := xT_Ly) (N := 4) hx hb hT xi_Ly hown hK.1 hP m_146 c_145 rfl 1 (by decide) (hT _ ys2_34) (fun _ h9 => h9) rfl xd_Ch_bindOnce_72 ?_
            rcases hpv_144 with rfl | ⟨x150, hx151, rfl⟩
            · refine W.eq (g2 := F0 m 75 ls [.null]) rfl ?_
              refine lv_astore_nN hx hb xd_Ch_bindOnce_75 rfl hl (Nat.le_of_ble_eq_true rfl) rfl (fun ls hl => ?_)
              have hl : lv_has ls 3 [(1, .null), (2, .int (nI k)), (0, .ref (ad 0 7))] := hl
              refine lv_goto (tgt := 37) hx hb xd_Ch_bindOnce_76 (by decide) ?_
              exact ih126 (0, E4, cs4) _ _ _ (show 0 < y + 1 by omega) (lv_sub hl [0, 2] rfl) hP hD hS ⟨(show 0 ≤ ml from by first | assumption | omega), (show CI kA ad E4 RL ml nd len wn cs4 from hCI)⟩
            · refine W.eq (g2 := F0 m 75 ls [.ref (ad (20 + x150) 0)]) rfl ?_
              refine lv_astore_n hx hb xd_Ch_bindOnce_75 rfl hl (Nat.le_of_ble_eq_true rfl) rfl (fun ls hl => ?_)
              have hl : lv_has ls 3 [(1, .ref (ad (20 + x150) 0)), (2, .int (nI k)), (0, .ref (ad 0 7))] := hl
              refine lv_goto (tgt := 37) hx hb xd_Ch_bindOnce_76 (by decide) ?_
              exact ih126 (x150 + 1, E4, cs4) _ _ _ (show (x150 + 1) < y + 1 by omega) (lv_sub hl [0, 2] rfl) hP hD hS ⟨(show (x150 + 1) ≤ ml from by first | assumption | omega), (show CI kA ad E4 RL ml nd len wn cs4 from hCI)⟩
          · refine lv_aload_n hx hb xd_Ch_bindOnce_52 rfl (lv_at hl 2 rfl) ?_
            refine lv_aload_n hx hb xd_Ch_bindOnce_53 rfl (lv_at hl 1 rfl) ?_
            refine px_get (D := D) (ci := 5) (v := .ref (ad (20 + y) 1)) (C := xR_Ly) (T := xT_Ly) (N := 4) hx hb hT xi_Ly hown hK.1 hP m_146 c_145 rfl 2 (by decide) (hT _ ys2_33) (fun _ h9 => h9) rfl xd_Ch_bindOnce_54 ?_
            refine lv_iload_n hx hb xd_Ch_bindOnce_57 rfl (lv_at hl 0 rfl) ?_
            refine px_aald (i := k) (x := (some (ad (20 + y) (10 + 10 * k)))) hx hb hK.1 hP m_148 c_147 6 rfl ((hk_144 k (by omega)).1) (by omega) (by omega) xd_Ch_bindOnce_58 ?_
            obtain ⟨hm_152, d_152, rs_152, fr_152, g2_152, g3_152, g4_152, hd_152, hrs_152, q0_152, q1_152, q2_152, q3_152, q4_152, q5_152, q6_152, q7_152⟩ := (hk_144 k (by omega)).2
            have c_153 : E4 (20 + y) (10 + 10 * k) = .inr (6, [.ref (ad (20 + y) 0), .ref (ad (1 + d_152) 0), .ref (ad (20 + y) (11 + 10 * k)), .ref (ad (20 + y) (12 + 10 * k)), .ref (ad (20 + y) (13 + 10 * k)), .ref (ad (20 + y) (14 + 10 * k))]) := q0_152
            have m_154 : (20 + y, 10 + 10 * k) ∈ RL := hm_152 0 (by omega)
            have c_155 : E4 (20 + y) (11 + 10 * k) = .inl (kA 6, rs_152, .inr (.inr (.inr (.inr fr_152)))) := q1_152
            have m_156 : (20 + y, 11 + 10 * k) ∈ RL := hm_152 1 (by omega)
            have c_157 : E4 (20 + y) (12 + 10 * k) = .inr (10, [.ref (ad (20 + y) (15 + 10 * k))]) := q2_152
            have m_158 : (20 + y, 12 + 10 * k) ∈ RL := hm_152 2 (by omega)
            have c_159 : E4 (20 + y) (13 + 10 * k) = .inr (10, [.ref (ad (20 + y) (16 + 10 * k))]) := q3_152
            have m_160 : (20 + y, 13 + 10 * k) ∈ RL := hm_152 3 (by omega)
            have c_161 : E4 (20 + y) (14 + 10 * k) = .inr (10, [.ref (ad (20 + y) (17 + 10 * k))]) := q4_152
            have m_162 : (20 + y, 14 + 10 * k) ∈ RL := hm_152 4 (by omega)
            have c_163 : E4 (20 + y) (15 + 10 * k) = .inl (kA 0, 6, .inl g2_152) := q5_152
            have m_164 : (20 + y, 15 + 10 * k) ∈ RL := hm_152 5 (by omega)
            have c_165 : E4 (20 + y) (16 + 10 * k) = .inl (kA 0, 6, .inl g3_152) := q6_152
            have m_166 : (20 + y, 16 + 10 * k) ∈ RL := hm_152 6 (by omega)
            have c_167 : E4 (20 + y) (17 + 10 * k) = .inl (kA 0, 6, .inl g4_152) := q7_152
            have m_168 : (20 + y, 17 + 10 * k) ∈ RL := hm_152 7 (by omega)
            refine px_get (D := D) (ci := 6) (v := .ref (ad (1 + d_152) 0)) (C := xR_Me) (T := xT_Me) (N := 6) hx hb hT xi_Me hown hK.1 hP m_154 c_153 rfl 1 (by decide) (hT _ ys2_35) (fun _ h9 => h9) rfl xd_Ch_bindOnce_59 ?_
            have hFc := px_free hD hS hA
            obtain ⟨cf_169, pv_169, fc_169, hcs_169, hpv_169, q7_169, q8_169, hfc_169⟩ := id (hCh)
            have c_170 : E4 0 7 = .inr (3, [.ref (ad 0 5), .ref (ad 0 8), .int (nI cs4), .int cf_169, pv_169]) := q7_169
            have m_171 : (0, 7) ∈ RL := hmB 7 (by omega)
            have c_172 : E4 0 8 = .inl (kA 4, 12, .inr (.inr (.inr (.inr fc_169)))) := q8_169
            have m_173 : (0, 8) ∈ RL := hmB 8 (by omega)
            refine va_callv (va_runV (As := [.ref (ad (1 + d_152) 0)]) (rest := []) ⟨hx, hb, hml, hown, hT⟩ (xc_Ch_bindUsesOf l D kA H.size ad E4 RL ml nd len wn cs4 d_152 (by first | assumption | omega) (by first | assumption | omega)) (cwV 1 hT (wT_V ys2_37 ys2_38 ys2_39 ys2_4 ys2_36) rfl rfl rfl (by decide +kernel) ⟨Nat.le_of_ble_eq_true rfl, Nat.le_of_ble_eq_true rfl⟩) (px_preV hK hP hD m_171 c_170 rfl) rfl rfl hl.1 rfl (lv_room (Nat.le_of_ble_eq_true rfl)) xd_Ch_bindOnce_62 ⟨(Nat.le_of_ble_eq_true rfl), (Nat.le_of_ble_eq_true rfl)⟩) hS (fun q _ h => hFc q h) hFc (fun u175 t H1 locs ht hvm hp176 hB hz1 hk1 hS => ?_)
            obtain ⟨hP1, hD1⟩ := hB
            rw [ht] at hP1
            have hD1 := hD1.weaken (fun _ _ _ h => hFc _ h)
            generalize H1 = H at hP1 hS ⊢
            have hP := hP1
            have hD := hD1
            obtain ⟨E177, rfl⟩ : ∃ z, z = u175 := ⟨_, rfl⟩
            have hP : va_P D xcl (rp ad E177 RL) H := hP
            have hD : va_D A (rp ad E177 RL) := hD
            obtain ⟨cs178, hCI⟩ := hp176
            have hCI : CI kA ad E177 RL ml nd len wn cs178 := hCI
            obtain ⟨hmB, hDk, hLi, hSh, hCh, hLa, hDIs, hLIs⟩ := id hCI
            refine lv_iinc (k := 0) (x := (nI k)) (v := (nI (k + 1))) hx hb xd_Ch_bindOnce_65 hl rfl (xb_inc k 1) (Nat.le_of_ble_eq_true rfl) rfl (fun ls hl => ?_)
            have hl : lv_has ls 3 [(2, .int (nI (k + 1))), (1, .ref (ad (20 + y) 0)), (0, .ref (ad 0 7))] := hl
            refine lv_goto (tgt := 43) hx hb xd_Ch_bindOnce_68 (by decide) ?_
            exact ih135 (k + 1, E177, cs178) _ _ _ (show 12 - (k + 1) < 12 - k by omega) (lv_sub hl [0, 1, 2] rfl) hP hD hS ⟨(show (k + 1) ≤ 12 from by first | assumption | omega), (show CI kA ad E177 RL ml nd len wn cs178 from hCI)⟩
      · refine W.eq (g2 := F0 m 36 ls [.ref (ad (20 + x124) 0)]) rfl ?_
        refine lv_astore_n hx hb xd_Ch_bindOnce_36 rfl hl (Nat.le_of_ble_eq_true rfl) rfl (fun ls hl => ?_)
        have hl : lv_has ls 3 [(1, .ref (ad (20 + x124) 0)), (0, .ref (ad 0 7))] := hl
        refine xlab (σ := Nat × (Nat → Nat → va_E) × Nat) (ml := 3) 37 (fun (y, E3, cs3) => [(1, (lyv ad y)), (0, .ref (ad 0 7))]) (fun (y, E3, cs3) => []) (fun (y, E3, cs3) => rp ad E3 RL) (fun (y, E3, cs3) => (y ≤ ml) ∧ (CI kA ad E3 RL ml nd len wn cs3)) (fun (y, E3, cs3) => y) ?_ (x124 + 1, E1, cs1) _ _ _ (lv_sub hl [0, 1] rfl) hP hD hS ⟨(show (x124 + 1) ≤ ml from by first | assumption | omega), (show CI kA ad E1 RL ml nd len wn cs1 from hCI)⟩
        intro n9 ih180 a9 ls H locs hμ hl hP hD hS hI
        subst hμ
        obtain ⟨y, E3, cs3⟩ := a9
        obtain ⟨hy, hCI⟩ := hI
        have hy : y ≤ ml := hy
        have hCI : CI kA ad E3 RL ml nd len wn cs3 := hCI
        have hl : lv_has ls 3 [(1, (lyv ad y)), (0, .ref (ad 0 7))] := hl
        have hP : va_P D xcl (rp ad E3 RL) H := hP
        have hD : va_D A (rp ad E3 RL) := hD
        obtain ⟨hmB, hDk, hLi, hSh, hCh, hLa, hDIs, hLIs⟩ := id hCI
        obtain ⟨fd_181, hnd_181, q5_181, q6_181, hds_181⟩ := id (hSh)
        have c_182 : E3 0 5 = .inr (2, [.ref (ad 0 6), .int (nI nd)]) := q5_181
        have m_183 : (0, 5) ∈ RL := hmB 5 (by omega)
        have c_184 : E3 0 6 = .inl (kA 4, 12, .inr (.inr (.inr (.inr fd_181)))) := q6_181
        have m_185 : (0, 6) ∈ RL := hmB 6 (by omega)
        obtain ⟨fl_186, hml_186, q9_186, hla_186⟩ := id (hLa)
        have c_187 : E3 0 9 = .inl (kA 5, 5, .inr (.inr (.inr (.inr fl_186)))) := q9_186
        have m_188 : (0, 9) ∈ RL := hmB 9 (by omega)
        rcases y with _ | y
        · have hl : lv_has ls 3 [(1, .null), (0, .ref (ad 0 7))] := hl
          refine lv_aload_nN hx hb xd_Ch_bindOnce_37 rfl (lv_at hl 0 rfl) ?_
          refine lv_ifnullN (tgt := 79) hx hb xd_Ch_bindOnce_38 (by decide) ?_
          exact W.vret hx hb hr (fun t ht hW => ⟨⟨E3, rfl, ⟨cs3, hCI⟩, by rw [ht]; exact hP, hD⟩, hS.F ht⟩) hS.2.2 xd_Ch_bindOnce_79
        · have hl : lv_has ls 3 [(1, .ref (ad (20 + y) 0)), (0, .ref (ad 0 7))] := hl
          refine lv_aload_n hx hb xd_Ch_bindOnce_37 rfl (lv_at hl 0 rfl) ?_
          refine lv_ifnull hx hb xd_Ch_bindOnce_38 ?_
          refine lv_iconst (v := 0) hx hb xd_Ch_bindOnce_41 (by decide) ?_
          refine lv_istore_n hx hb xd_Ch_bindOnce_42 rfl hl (Nat.le_of_ble_eq_true rfl) rfl (fun ls hl => ?_)
          have hl : lv_has ls 3 [(2, .int 0), (1, .ref (ad (20 + y) 0)), (0, .ref (ad 0 7))] := hl
          refine xlab (σ := Nat × (Nat → Nat → va_E) × Nat) (ml := 3) 43 (fun (k, E4, cs4) => [(2, .int (nI k)), (1, .ref (ad (20 + y) 0)), (0, .ref (ad 0 7))]) (fun (k, E4, cs4) => []) (fun (k, E4, cs4) => rp ad E4 RL) (fun (k, E4, cs4) => (k ≤ 12) ∧ (CI kA ad E4 RL ml nd len wn cs4)) (fun (k, E4, cs4) => 12 - k) ?_ (0, E3, cs3) _ _ _ (lv_sub hl [0, 1, 2] rfl) hP hD hS ⟨(show 0 ≤ 12 from by first | assumption | omega), (show CI kA ad E3 RL ml nd len wn cs3 from hCI)⟩
          intro n9 ih189 a9 ls H locs hμ hl hP hD hS hI
          subst hμ
          obtain ⟨k, E4, cs4⟩ := a9
          obtain ⟨hk9, hCI⟩ := hI
          have hk9 : k ≤ 12 := hk9
          have hCI : CI kA ad E4 RL ml nd len wn cs4 := hCI
          have hl : lv_has ls 3 [(2, .int (nI k)), (1, .ref (ad (20 + y) 0)), (0, .ref (ad 0 7))] := hl
          have hP : va_P D xcl (rp ad E4 RL) H := hP
          have hD : va_D A (rp ad E4 RL) := hD
          obtain ⟨hmB, hDk, hLi, hSh, hCh, hLa, hDIs, hLIs⟩ := id hCI
          obtain ⟨fd_190, hnd_190, q5_190, q6_190, hds_190⟩ := id (hSh)
          have c_191 : E4 0 5 = .inr (2, [.ref (ad 0 6), .int (nI nd)]) := q5_190
          have m_192 : (0, 5) ∈ RL := hmB 5 (by omega)
          have c_193 : E4 0 6 = .inl (kA 4, 12, .inr (.inr (.inr (.inr fd_190)))) := q6_190
          have m_194 : (0, 6) ∈ RL := hmB 6 (by omega)
          obtain ⟨fl_195, hml_195, q9_195, hla_195⟩ := id (hLa)
          have c_196 : E4 0 9 = .inl (kA 5, 5, .inr (.inr (.inr (.inr fl_195)))) := q9_195
          have m_197 : (0, 9) ∈ RL := hmB 9 (by omega)
          refine lv_iload_n hx hb xd_Ch_bindOnce_43 rfl (lv_at hl 0 rfl) ?_
          refine lv_aload_n hx hb xd_Ch_bindOnce_44 rfl (lv_at hl 1 rfl) ?_
          obtain ⟨m0_198, m1_198, pv_198, op_198, mk_198, fm_198, hmk_198, hpv_198, q0_198, q1_198, hk_198⟩ := id (hLIs y (by omega))
          have c_199 : E4 (20 + y) 0 = .inr (5, [.int (nI y), pv_198, .ref (ad (20 + y) 1), .int op_198]) := q0_198
          have m_200 : (20 + y, 0) ∈ RL := m0_198
          have c_201 : E4 (20 + y) 1 = .inl (kA 6, mk_198, .inr (.inr (.inr (.inr fm_198)))) := q1_198
          have m_202 : (20 + y, 1) ∈ RL := m1_198
          refine px_get (D := D) (ci := 5) (v := .ref (ad (20 + y) 1)) (C := xR_Ly) (T := xT_Ly) (N := 4) hx hb hT xi_Ly hown hK.1 hP m_200 c_199 rfl 2 (by decide) (hT _ ys2_33) (fun _ h9 => h9) rfl xd_Ch_bindOnce_45 ?_
          refine px_alen hx hb hK.1 hP m_202 c_201 6 rfl xd_Ch_bindOnce_48 ?_
          refine W.eq (g2 := F0 m 49 ls [.int (nI mk_198), .int (nI k)]) rfl ?_
          refine xn_ge (a := k) (b := mk_198) (tgt := 71) hx hb xd_Ch_bindOnce_49 (by decide) (by omega) (by omega) (fun hc203 => ?_) (fun hc203 => ?_)
          · refine lv_aload_n hx hb xd_Ch_bindOnce_71 rfl (lv_at hl 1 rfl) ?_
            refine px_get (D := D) (ci := 5) (v := pv_198) (C := xR_Ly) (T := xT_Ly) (N := 4) hx hb hT xi_Ly hown hK.1 hP m_200 c_199 rfl 1 (by decide) (hT _ ys2_34) (fun _ h9 => h9) rfl xd_Ch_bindOnce_72 ?_
            rcases hpv_198 with rfl | ⟨x204, hx205, rfl⟩
            · refine W.eq (g2 := F0 m 75 ls [.null]) rfl ?_
              refine lv_astore_nN hx hb xd_Ch_bindOnce_75 rfl hl (Nat.le_of_ble_eq_true rfl) rfl (fun ls hl => ?_)
              have hl : lv_has ls 3 [(1, .null), (2, .int (nI k)), (0, .ref (ad 0 7))] := hl
              refine lv_goto (tgt := 37) hx hb xd_Ch_bindOnce_76 (by decide) ?_
              exact ih180 (0, E4, cs4) _ _ _ (show 0 < y + 1 by omega) (lv_sub hl [0, 2] rfl) hP hD hS ⟨(show 0 ≤ ml from by first | assumption | omega), (show CI kA ad E4 RL ml nd len wn cs4 from hCI)⟩
            · refine W.eq (g2 := F0 m 75 ls [.ref (ad (20 + x204) 0)]) rfl ?_
              refine lv_astore_n hx hb xd_Ch_bindOnce_75 rfl hl (Nat.le_of_ble_eq_true rfl) rfl (fun ls hl => ?_)
              have hl : lv_has ls 3 [(1, .ref (ad (20 + x204) 0)), (2, .int (nI k)), (0, .ref (ad 0 7))] := hl
              refine lv_goto (tgt := 37) hx hb xd_Ch_bindOnce_76 (by decide) ?_
              exact ih180 (x204 + 1, E4, cs4) _ _ _ (show (x204 + 1) < y + 1 by omega) (lv_sub hl [0, 2] rfl) hP hD hS ⟨(show (x204 + 1) ≤ ml from by first | assumption | omega), (show CI kA ad E4 RL ml nd len wn cs4 from hCI)⟩
          · refine lv_aload_n hx hb xd_Ch_bindOnce_52 rfl (lv_at hl 2 rfl) ?_
            refine lv_aload_n hx hb xd_Ch_bindOnce_53 rfl (lv_at hl 1 rfl) ?_
            refine px_get (D := D) (ci := 5) (v := .ref (ad (20 + y) 1)) (C := xR_Ly) (T := xT_Ly) (N := 4) hx hb hT xi_Ly hown hK.1 hP m_200 c_199 rfl 2 (by decide) (hT _ ys2_33) (fun _ h9 => h9) rfl xd_Ch_bindOnce_54 ?_
            refine lv_iload_n hx hb xd_Ch_bindOnce_57 rfl (lv_at hl 0 rfl) ?_
            refine px_aald (i := k) (x := (some (ad (20 + y) (10 + 10 * k)))) hx hb hK.1 hP m_202 c_201 6 rfl ((hk_198 k (by omega)).1) (by omega) (by omega) xd_Ch_bindOnce_58 ?_
            obtain ⟨hm_206, d_206, rs_206, fr_206, g2_206, g3_206, g4_206, hd_206, hrs_206, q0_206, q1_206, q2_206, q3_206, q4_206, q5_206, q6_206, q7_206⟩ := (hk_198 k (by omega)).2
            have c_207 : E4 (20 + y) (10 + 10 * k) = .inr (6, [.ref (ad (20 + y) 0), .ref (ad (1 + d_206) 0), .ref (ad (20 + y) (11 + 10 * k)), .ref (ad (20 + y) (12 + 10 * k)), .ref (ad (20 + y) (13 + 10 * k)), .ref (ad (20 + y) (14 + 10 * k))]) := q0_206
            have m_208 : (20 + y, 10 + 10 * k) ∈ RL := hm_206 0 (by omega)
            have c_209 : E4 (20 + y) (11 + 10 * k) = .inl (kA 6, rs_206, .inr (.inr (.inr (.inr fr_206)))) := q1_206
            have m_210 : (20 + y, 11 + 10 * k) ∈ RL := hm_206 1 (by omega)
            have c_211 : E4 (20 + y) (12 + 10 * k) = .inr (10, [.ref (ad (20 + y) (15 + 10 * k))]) := q2_206
            have m_212 : (20 + y, 12 + 10 * k) ∈ RL := hm_206 2 (by omega)
            have c_213 : E4 (20 + y) (13 + 10 * k) = .inr (10, [.ref (ad (20 + y) (16 + 10 * k))]) := q3_206
            have m_214 : (20 + y, 13 + 10 * k) ∈ RL := hm_206 3 (by omega)
            have c_215 : E4 (20 + y) (14 + 10 * k) = .inr (10, [.ref (ad (20 + y) (17 + 10 * k))]) := q4_206
            have m_216 : (20 + y, 14 + 10 * k) ∈ RL := hm_206 4 (by omega)
            have c_217 : E4 (20 + y) (15 + 10 * k) = .inl (kA 0, 6, .inl g2_206) := q5_206
            have m_218 : (20 + y, 15 + 10 * k) ∈ RL := hm_206 5 (by omega)
            have c_219 : E4 (20 + y) (16 + 10 * k) = .inl (kA 0, 6, .inl g3_206) := q6_206
            have m_220 : (20 + y, 16 + 10 * k) ∈ RL := hm_206 6 (by omega)
            have c_221 : E4 (20 + y) (17 + 10 * k) = .inl (kA 0, 6, .inl g4_206) := q7_206
            have m_222 : (20 + y, 17 + 10 * k) ∈ RL := hm_206 7 (by omega)
            refine px_get (D := D) (ci := 6) (v := .ref (ad (1 + d_206) 0)) (C := xR_Me) (T := xT_Me) (N := 6) hx hb hT xi_Me hown hK.1 hP m_208 c_207 rfl 1 (by decide) (hT _ ys2_35) (fun _ h9 => h9) rfl xd_Ch_bindOnce_59 ?_
            have hFc := px_free hD hS hA
            obtain ⟨cf_223, pv_223, fc_223, hcs_223, hpv_223, q7_223, q8_223, hfc_223⟩ := id (hCh)
            have c_224 : E4 0 7 = .inr (3, [.ref (ad 0 5), .ref (ad 0 8), .int (nI cs4), .int cf_223, pv_223]) := q7_223
            have m_225 : (0, 7) ∈ RL := hmB 7 (by omega)
            have c_226 : E4 0 8 = .inl (kA 4, 12, .inr (.inr (.inr (.inr fc_223)))) := q8_223
            have m_227 : (0, 8) ∈ RL := hmB 8 (by omega)
            refine va_callv (va_runV (As := [.ref (ad (1 + d_206) 0)]) (rest := []) ⟨hx, hb, hml, hown, hT⟩ (xc_Ch_bindUsesOf l D kA H.size ad E4 RL ml nd len wn cs4 d_206 (by first | assumption | omega) (by first | assumption | omega)) (cwV 1 hT (wT_V ys2_37 ys2_38 ys2_39 ys2_4 ys2_36) rfl rfl rfl (by decide +kernel) ⟨Nat.le_of_ble_eq_true rfl, Nat.le_of_ble_eq_true rfl⟩) (px_preV hK hP hD m_225 c_224 rfl) rfl rfl hl.1 rfl (lv_room (Nat.le_of_ble_eq_true rfl)) xd_Ch_bindOnce_62 ⟨(Nat.le_of_ble_eq_true rfl), (Nat.le_of_ble_eq_true rfl)⟩) hS (fun q _ h => hFc q h) hFc (fun u229 t H1 locs ht hvm hp230 hB hz1 hk1 hS => ?_)
            obtain ⟨hP1, hD1⟩ := hB
            rw [ht] at hP1
            have hD1 := hD1.weaken (fun _ _ _ h => hFc _ h)
            generalize H1 = H at hP1 hS ⊢
            have hP := hP1
            have hD := hD1
            obtain ⟨E231, rfl⟩ : ∃ z, z = u229 := ⟨_, rfl⟩
            have hP : va_P D xcl (rp ad E231 RL) H := hP
            have hD : va_D A (rp ad E231 RL) := hD
            obtain ⟨cs232, hCI⟩ := hp230
            have hCI : CI kA ad E231 RL ml nd len wn cs232 := hCI
            obtain ⟨hmB, hDk, hLi, hSh, hCh, hLa, hDIs, hLIs⟩ := id hCI
            refine lv_iinc (k := 0) (x := (nI k)) (v := (nI (k + 1))) hx hb xd_Ch_bindOnce_65 hl rfl (xb_inc k 1) (Nat.le_of_ble_eq_true rfl) rfl (fun ls hl => ?_)
            have hl : lv_has ls 3 [(2, .int (nI (k + 1))), (1, .ref (ad (20 + y) 0)), (0, .ref (ad 0 7))] := hl
            refine lv_goto (tgt := 43) hx hb xd_Ch_bindOnce_68 (by decide) ?_
            exact ih189 (k + 1, E231, cs232) _ _ _ (show 12 - (k + 1) < 12 - k by omega) (lv_sub hl [0, 1, 2] rfl) hP hD hS ⟨(show (k + 1) ≤ 12 from by first | assumption | omega), (show CI kA ad E231 RL ml nd len wn cs232 from hCI)⟩
    · refine lv_aload_n hx hb xd_Ch_bindOnce_16 rfl (lv_at hl 1 rfl) ?_
      refine lv_aload_n hx hb xd_Ch_bindOnce_17 rfl (lv_at hl 1 rfl) ?_
      refine px_get (D := D) (ci := 3) (v := .ref (ad 0 8)) (C := xR_Ch) (T := xT_Ch) (N := 5) hx hb hT xi_Ch hown hK.1 hP m_9 c_8 rfl 1 (by decide) (hT _ ys2_40) (fun _ h9 => h9) rfl xd_Ch_bindOnce_18 ?_
      refine lv_iload_n hx hb xd_Ch_bindOnce_21 rfl (lv_at hl 0 rfl) ?_
      obtain ⟨d_234, hd_234, hf_234⟩ := hfc_7 i (by omega)
      refine px_aald (i := i) (x := (some (ad (1 + d_234) 0))) hx hb hK.1 hP m_11 c_10 4 rfl (hf_234) (by omega) (by decide) xd_Ch_bindOnce_22 ?_
      have hFc := px_free hD hS hA
      refine va_callv (va_runV (As := [.ref (ad (1 + d_234) 0)]) (rest := []) ⟨hx, hb, hml, hown, hT⟩ (xc_Ch_bindUsesOf l D kA H.size ad E1 RL ml nd len wn cs1 d_234 (by first | assumption | omega) (by first | assumption | omega)) (cwV 1 hT (wT_V ys2_37 ys2_38 ys2_39 ys2_4 ys2_36) rfl rfl rfl (by decide +kernel) ⟨Nat.le_of_ble_eq_true rfl, Nat.le_of_ble_eq_true rfl⟩) (px_preV hK hP hD m_9 c_8 rfl) rfl rfl hl.1 rfl (lv_room (Nat.le_of_ble_eq_true rfl)) xd_Ch_bindOnce_23 ⟨(Nat.le_of_ble_eq_true rfl), (Nat.le_of_ble_eq_true rfl)⟩) hS (fun q _ h => hFc q h) hFc (fun u236 t H1 locs ht hvm hp237 hB hz1 hk1 hS => ?_)
      obtain ⟨hP1, hD1⟩ := hB
      rw [ht] at hP1
      have hD1 := hD1.weaken (fun _ _ _ h => hFc _ h)
      generalize H1 = H at hP1 hS ⊢
      have hP := hP1
      have hD := hD1
      obtain ⟨E238, rfl⟩ : ∃ z, z = u236 := ⟨_, rfl⟩
      have hP : va_P D xcl (rp ad E238 RL) H := hP
      have hD : va_D A (rp ad E238 RL) := hD
      obtain ⟨cs239, hCI⟩ := hp237
      have hCI : CI kA ad E238 RL ml nd len wn cs239 := hCI
      obtain ⟨hmB, hDk, hLi, hSh, hCh, hLa, hDIs, hLIs⟩ := id hCI
      refine lv_iinc (k := 0) (x := (nI i)) (v := (nI (i + 1))) hx hb xd_Ch_bindOnce_26 hl rfl (xb_inc i 1) (Nat.le_of_ble_eq_true rfl) rfl (fun ls hl => ?_)
      have hl : lv_has ls 3 [(1, .int (nI (i + 1))), (0, .ref (ad 0 7))] := hl
      refine lv_goto (tgt := 2) hx hb xd_Ch_bindOnce_29 (by decide) ?_
      exact ih1 (i + 1, E238, cs239) _ _ _ (show 12 - (i + 1) < 12 - i by omega) (lv_sub hl [0, 1] rfl) hP hD hS ⟨(show (i + 1) ≤ 12 from by first | assumption | omega), (show CI kA ad E238 RL ml nd len wn cs239 from hCI)⟩
set_option maxHeartbeats 4000000 in
set_option maxRecDepth 100000 in
theorem xc_Ch_bind (l : Launch) (D : va_G) (kA : Nat → ClassId) (sz : Nat) (ad : Nat → Nat → Nat) (E : Nat → Nat → va_E) (RL : List (Nat × Nat)) (ml : Nat) (nd : Nat) (len : Nat) (wn : Nat) (cs : Nat) (hCI : CI kA ad E RL ml nd len wn cs) : Met l xy_Ch_bind (.code xy_Ch_bind xb_Ch_bind 3 none :: wT) { frames := 22, cells := 0, slots := 0, locals := 1262 } (va_Pc [.ref (ad 0 7)] (xPre D kA sz (rp ad E RL))) (va_Qv (fun (u : Nat → Nat → va_E) => ∃ cs2, CI kA ad u RL ml nd len wn cs2) (fun (u : Nat → Nat → va_E) t => va_P D xcl (rp ad u RL) t.heap ∧ va_D (va_A (rp ad E RL) sz) (rp ad u RL)) (va_A (rp ad E RL) sz)) 0 0 (va_A (rp ad E RL) sz) := by
  refine Met.ofW (cc := xb_Ch_bind) (maxL := 3) (ret := none) (by decide) rfl ?_
  intro p e s m args below meth c s₁ B hml hv
  obtain ⟨rfl, hsz, hP, hK, hD0⟩ := hv
  have hx := B.exec
  have hb := B.bytes
  have hr := B.returns
  have hT := x_hT B.pre
  have hown : s.vm.findClass xR_Ch = some m.cls := findClass_of_methodNamed B.named
  have hlocks := B.notSynchronized
  subst hsz
  have hD := hD0.self (sz := s.heap.size)
  generalize hAe : va_A (rp ad E RL) s.heap.size = A at hD ⊢
  have hA : ∀ q : Nat, s.heap.size ≤ q → A q := fun q h => by rw [← hAe]; exact Or.inr h
  have hS : va_S A s.heap s.heap [] := va_S.rf
  have hl := lv_entry ([.ref (ad 0 7)]) (n := 3) (Nat.le_of_ble_eq_true rfl)
  rw [lg_entry_eq]
  generalize (lg_sl ([.ref (ad 0 7)]) ++ List.replicate (3 - (lg_sl ([.ref (ad 0 7)])).length) Slot.unset).toArray = ls at hl ⊢
  have hl : lv_has ls 3 [(0, .ref (ad 0 7))] := hl
  have hP : va_P D xcl (rp ad E RL) s.heap := hP
  obtain ⟨hmB, hDk, hLi, hSh, hCh, hLa, hDIs, hLIs⟩ := id hCI
  refine lv_iconst (v := 0) hx hb xd_Ch_bind_0 (by decide) ?_
  refine lv_istore_n hx hb xd_Ch_bind_1 rfl hl (Nat.le_of_ble_eq_true rfl) rfl (fun ls hl => ?_)
  have hl : lv_has ls 3 [(1, .int 0), (0, .ref (ad 0 7))] := hl
  refine xlab (σ := Nat × (Nat → Nat → va_E) × Nat) (ml := 3) 2 (fun (i, E1, cs1) => [(1, .int (nI i)), (0, .ref (ad 0 7))]) (fun (i, E1, cs1) => []) (fun (i, E1, cs1) => rp ad E1 RL) (fun (i, E1, cs1) => (i ≤ 13) ∧ (CI kA ad E1 RL ml nd len wn cs1)) (fun (i, E1, cs1) => 13 - i) ?_ (0, E, cs) _ _ _ (lv_sub hl [0, 1] rfl) hP hD hS ⟨(show 0 ≤ 13 from by first | assumption | omega), (show CI kA ad E RL ml nd len wn cs from hCI)⟩
  intro n9 ih1 a9 ls H locs hμ hl hP hD hS hI
  subst hμ
  obtain ⟨i, E1, cs1⟩ := a9
  obtain ⟨hi, hCI⟩ := hI
  have hi : i ≤ 13 := hi
  have hCI : CI kA ad E1 RL ml nd len wn cs1 := hCI
  have hl : lv_has ls 3 [(1, .int (nI i)), (0, .ref (ad 0 7))] := hl
  have hP : va_P D xcl (rp ad E1 RL) H := hP
  have hD : va_D A (rp ad E1 RL) := hD
  obtain ⟨hmB, hDk, hLi, hSh, hCh, hLa, hDIs, hLIs⟩ := id hCI
  obtain ⟨cf_2, pv_2, fc_2, hcs_2, hpv_2, q7_2, q8_2, hfc_2⟩ := id (hCh)
  have c_3 : E1 0 7 = .inr (3, [.ref (ad 0 5), .ref (ad 0 8), .int (nI cs1), .int cf_2, pv_2]) := q7_2
  have m_4 : (0, 7) ∈ RL := hmB 7 (by omega)
  have c_5 : E1 0 8 = .inl (kA 4, 12, .inr (.inr (.inr (.inr fc_2)))) := q8_2
  have m_6 : (0, 8) ∈ RL := hmB 8 (by omega)
  refine lv_iload_n hx hb xd_Ch_bind_2 rfl (lv_at hl 0 rfl) ?_
  refine lv_bipush (v := 12) hx hb xd_Ch_bind_3 (by decide) ?_
  refine xn_gt (a := i) (b := 12) (tgt := 32) hx hb xd_Ch_bind_5 (by decide) (by omega) (by omega) (fun hc7 => ?_) (fun hc7 => ?_)
  · exact W.vret hx hb hr (fun t ht hW => ⟨⟨E1, rfl, ⟨cs1, hCI⟩, by rw [ht]; exact hP, hD⟩, hS.F ht⟩) hS.2.2 xd_Ch_bind_32
  · refine lv_aload_n hx hb xd_Ch_bind_8 rfl (lv_at hl 1 rfl) ?_
    refine px_get (D := D) (ci := 3) (v := .int (nI cs1)) (C := xR_Ch) (T := xT_Ch) (N := 5) hx hb hT xi_Ch hown hK.1 hP m_4 c_3 rfl 2 (by decide) (hT _ ys2_8) (fun _ h9 => h9) rfl xd_Ch_bind_9 ?_
    refine lv_istore_n hx hb xd_Ch_bind_12 rfl hl (Nat.le_of_ble_eq_true rfl) rfl (fun ls hl => ?_)
    have hl : lv_has ls 3 [(2, .int (nI cs1)), (1, .int (nI i)), (0, .ref (ad 0 7))] := hl
    refine lv_aload_n hx hb xd_Ch_bind_13 rfl (lv_at hl 2 rfl) ?_
    have hFc := px_free hD hS hA
    refine va_callv (va_runV (As := []) (rest := []) ⟨hx, hb, hml, hown, hT⟩ (xc_Ch_bindOnce l D kA H.size ad E1 RL ml nd len wn cs1 (by first | assumption | omega)) (cwV 0 hT (wT_V ys2_42 ys2_43 ys2_44 ys2_4 ys2_41) rfl rfl rfl (by decide +kernel) ⟨Nat.le_of_ble_eq_true rfl, Nat.le_of_ble_eq_true rfl⟩) (px_preV hK hP hD m_4 c_3 rfl) rfl rfl hl.1 rfl (lv_room (Nat.le_of_ble_eq_true rfl)) xd_Ch_bind_14 ⟨(Nat.le_of_ble_eq_true rfl), (Nat.le_of_ble_eq_true rfl)⟩) hS (fun q _ h => hFc q h) hFc (fun u9 t H1 locs ht hvm hp10 hB hz1 hk1 hS => ?_)
    obtain ⟨hP1, hD1⟩ := hB
    rw [ht] at hP1
    have hD1 := hD1.weaken (fun _ _ _ h => hFc _ h)
    generalize H1 = H at hP1 hS ⊢
    have hP := hP1
    have hD := hD1
    obtain ⟨E11, rfl⟩ : ∃ z, z = u9 := ⟨_, rfl⟩
    have hP : va_P D xcl (rp ad E11 RL) H := hP
    have hD : va_D A (rp ad E11 RL) := hD
    obtain ⟨cs12, hCI⟩ := hp10
    have hCI : CI kA ad E11 RL ml nd len wn cs12 := hCI
    obtain ⟨hmB, hDk, hLi, hSh, hCh, hLa, hDIs, hLIs⟩ := id hCI
    obtain ⟨cf_14, pv_14, fc_14, hcs_14, hpv_14, q7_14, q8_14, hfc_14⟩ := id (hCh)
    have c_15 : E11 0 7 = .inr (3, [.ref (ad 0 5), .ref (ad 0 8), .int (nI cs12), .int cf_14, pv_14]) := q7_14
    have m_16 : (0, 7) ∈ RL := hmB 7 (by omega)
    have c_17 : E11 0 8 = .inl (kA 4, 12, .inr (.inr (.inr (.inr fc_14)))) := q8_14
    have m_18 : (0, 8) ∈ RL := hmB 8 (by omega)
    refine lv_aload_n hx hb xd_Ch_bind_17 rfl (lv_at hl 2 rfl) ?_
    refine px_get (D := D) (ci := 3) (v := .int (nI cs12)) (C := xR_Ch) (T := xT_Ch) (N := 5) hx hb hT xi_Ch hown hK.1 hP m_16 c_15 rfl 2 (by decide) (hT _ ys2_8) (fun _ h9 => h9) rfl xd_Ch_bind_18 ?_
    refine lv_iload_n hx hb xd_Ch_bind_21 rfl (lv_at hl 0 rfl) ?_
    refine xn_ne (a := cs12) (b := cs1) (tgt := 26) hx hb xd_Ch_bind_22 (by decide) (by omega) (by omega) (fun hc19 => ?_) (fun hc19 => ?_)
    · refine lv_iinc (k := 1) (x := (nI i)) (v := (nI (i + 1))) hx hb xd_Ch_bind_26 hl rfl (xb_inc i 1) (Nat.le_of_ble_eq_true rfl) rfl (fun ls hl => ?_)
      have hl : lv_has ls 3 [(1, .int (nI (i + 1))), (2, .int (nI cs1)), (0, .ref (ad 0 7))] := hl
      refine lv_goto (tgt := 2) hx hb xd_Ch_bind_29 (by decide) ?_
      exact ih1 (i + 1, E11, cs12) _ _ _ (show 13 - (i + 1) < 13 - i by omega) (lv_sub hl [0, 2] rfl) hP hD hS ⟨(show (i + 1) ≤ 13 from by first | assumption | omega), (show CI kA ad E11 RL ml nd len wn cs12 from hCI)⟩
    · exact W.vret hx hb hr (fun t ht hW => ⟨⟨E11, rfl, ⟨cs12, hCI⟩, by rw [ht]; exact hP, hD⟩, hS.F ht⟩) hS.2.2 xd_Ch_bind_25
set_option maxHeartbeats 4000000 in
set_option maxRecDepth 100000 in
theorem xc_De_addRoots (l : Launch) (D : va_G) (kA : Nat → ClassId) (sz : Nat) (ad : Nat → Nat → Nat) (E : Nat → Nat → va_E) (RL : List (Nat × Nat)) (ml : Nat) (nd : Nat) (len : Nat) (wn : Nat) (cs : Nat) (hCI : CI kA ad E RL ml nd len wn cs) : Met l xy_De_addRoots (.code xy_De_addRoots xb_De_addRoots 2 (some .boolean) :: wT) { frames := 20, cells := 0, slots := 0, locals := 1215 } (va_Pc [.ref (ad 0 0)] (xPre D kA sz (rp ad E RL))) (va_Qi (fun (r : Int32) (u : Nat → Nat → va_E) => (r = 0 ∨ r = 1) ∧ ∃ cs2, CI kA ad u RL ml nd len wn cs2) (fun (u : Nat → Nat → va_E) t => va_P D xcl (rp ad u RL) t.heap ∧ va_D (va_A (rp ad E RL) sz) (rp ad u RL)) (va_A (rp ad E RL) sz)) 0 0 (va_A (rp ad E RL) sz) := by
  refine Met.ofW (cc := xb_De_addRoots) (maxL := 2) (ret := (some .boolean)) (by decide) rfl ?_
  intro p e s m args below meth c s₁ B hml hv
  obtain ⟨rfl, hsz, hP, hK, hD0⟩ := hv
  have hx := B.exec
  have hb := B.bytes
  have hr := B.returns
  have hT := x_hT B.pre
  have hown : s.vm.findClass xR_De = some m.cls := findClass_of_methodNamed B.named
  have hlocks := B.notSynchronized
  subst hsz
  have hD := hD0.self (sz := s.heap.size)
  generalize hAe : va_A (rp ad E RL) s.heap.size = A at hD ⊢
  have hA : ∀ q : Nat, s.heap.size ≤ q → A q := fun q h => by rw [← hAe]; exact Or.inr h
  have hS : va_S A s.heap s.heap [] := va_S.rf
  have hl := lv_entry ([.ref (ad 0 0)]) (n := 2) (Nat.le_of_ble_eq_true rfl)
  rw [lg_entry_eq]
  generalize (lg_sl ([.ref (ad 0 0)]) ++ List.replicate (2 - (lg_sl ([.ref (ad 0 0)])).length) Slot.unset).toArray = ls at hl ⊢
  have hl : lv_has ls 2 [(0, .ref (ad 0 0))] := hl
  have hP : va_P D xcl (rp ad E RL) s.heap := hP
  obtain ⟨hmB, hDk, hLi, hSh, hCh, hLa, hDIs, hLIs⟩ := id hCI
  refine lv_iconst (v := 0) hx hb xd_De_addRoots_0 (by decide) ?_
  refine lv_istore_n hx hb xd_De_addRoots_1 rfl hl (Nat.le_of_ble_eq_true rfl) rfl (fun ls hl => ?_)
  have hl : lv_has ls 2 [(1, .int 0), (0, .ref (ad 0 0))] := hl
  refine xlab (σ := Nat × (Nat → Nat → va_E) × Nat) (ml := 2) 2 (fun (i, E1, cs1) => [(1, .int (nI i)), (0, .ref (ad 0 0))]) (fun (i, E1, cs1) => []) (fun (i, E1, cs1) => rp ad E1 RL) (fun (i, E1, cs1) => (i ≤ 20) ∧ (CI kA ad E1 RL ml nd len wn cs1)) (fun (i, E1, cs1) => 20 - i) ?_ (0, E, cs) _ _ _ (lv_sub hl [0, 1] rfl) hP hD hS ⟨(show 0 ≤ 20 from by first | assumption | omega), (show CI kA ad E RL ml nd len wn cs from hCI)⟩
  intro n9 ih1 a9 ls H locs hμ hl hP hD hS hI
  subst hμ
  obtain ⟨i, E1, cs1⟩ := a9
  obtain ⟨hi, hCI⟩ := hI
  have hi : i ≤ 20 := hi
  have hCI : CI kA ad E1 RL ml nd len wn cs1 := hCI
  have hl : lv_has ls 2 [(1, .int (nI i)), (0, .ref (ad 0 0))] := hl
  have hP : va_P D xcl (rp ad E1 RL) H := hP
  have hD : va_D A (rp ad E1 RL) := hD
  obtain ⟨hmB, hDk, hLi, hSh, hCh, hLa, hDIs, hLIs⟩ := id hCI
  obtain ⟨lf_2, q_2⟩ := id (hDk)
  have c_3 : E1 0 0 = .inr (0, [.ref (ad 0 1), .ref (ad 0 5), .ref (ad 0 7), .ref (ad 0 9), .int (nI ml), .int lf_2]) := q_2
  have m_4 : (0, 0) ∈ RL := hmB 0 (by omega)
  obtain ⟨tx_5, fb_5, fe_5, hl1_5, hw2_5, q1_5, q2_5, q3_5, q4_5, hws_5⟩ := id (hLi)
  have c_6 : E1 0 1 = .inr (1, [.ref (ad 0 2), .ref (ad 0 3), .ref (ad 0 4), .int (nI len), .int (nI wn)]) := q1_5
  have m_7 : (0, 1) ∈ RL := hmB 1 (by omega)
  have c_8 : E1 0 2 = .inl (kA 1, 40, .inl tx_5) := q2_5
  have m_9 : (0, 2) ∈ RL := hmB 2 (by omega)
  have c_10 : E1 0 3 = .inl (kA 0, 20, .inl fb_5) := q3_5
  have m_11 : (0, 3) ∈ RL := hmB 3 (by omega)
  have c_12 : E1 0 4 = .inl (kA 0, 20, .inl fe_5) := q4_5
  have m_13 : (0, 4) ∈ RL := hmB 4 (by omega)
  obtain ⟨cf_14, pv_14, fc_14, hcs_14, hpv_14, q7_14, q8_14, hfc_14⟩ := id (hCh)
  have c_15 : E1 0 7 = .inr (3, [.ref (ad 0 5), .ref (ad 0 8), .int (nI cs1), .int cf_14, pv_14]) := q7_14
  have m_16 : (0, 7) ∈ RL := hmB 7 (by omega)
  have c_17 : E1 0 8 = .inl (kA 4, 12, .inr (.inr (.inr (.inr fc_14)))) := q8_14
  have m_18 : (0, 8) ∈ RL := hmB 8 (by omega)
  refine lv_iload_n hx hb xd_De_addRoots_2 rfl (lv_at hl 0 rfl) ?_
  refine lv_aload_n hx hb xd_De_addRoots_3 rfl (lv_at hl 1 rfl) ?_
  refine px_get (D := D) (ci := 0) (v := .ref (ad 0 1)) (C := xR_De) (T := xT_De) (N := 6) hx hb hT xi_De hown hK.1 hP m_4 c_3 rfl 0 (by decide) (hT _ ys2_45) (fun _ h9 => h9) rfl xd_De_addRoots_4 ?_
  refine px_get (D := D) (ci := 1) (v := .int (nI wn)) (C := xR_Li) (T := xT_Li) (N := 5) hx hb hT xi_Li hown hK.1 hP m_7 c_6 rfl 4 (by decide) (hT _ ys2_46) (fun _ h9 => h9) rfl xd_De_addRoots_7 ?_
  refine xn_ge (a := i) (b := wn) (tgt := 39) hx hb xd_De_addRoots_10 (by decide) (by omega) (by omega) (fun hc19 => ?_) (fun hc19 => ?_)
  · refine lv_iconst (v := 1) hx hb xd_De_addRoots_39 (by decide) ?_
    exact W.zret (v := 1) hx hb hr rfl (fun t ht hW => ⟨⟨1, E1, rfl, ⟨Or.inr rfl, cs1, hCI⟩, by rw [ht]; exact hP, hD⟩, hS.F ht⟩) hS.2.2 xd_De_addRoots_40
  · refine lv_aload_n hx hb xd_De_addRoots_13 rfl (lv_at hl 1 rfl) ?_
    refine px_get (D := D) (ci := 0) (v := .ref (ad 0 7)) (C := xR_De) (T := xT_De) (N := 6) hx hb hT xi_De hown hK.1 hP m_4 c_3 rfl 2 (by decide) (hT _ ys2_47) (fun _ h9 => h9) rfl xd_De_addRoots_14 ?_
    refine lv_aload_n hx hb xd_De_addRoots_17 rfl (lv_at hl 1 rfl) ?_
    refine px_get (D := D) (ci := 0) (v := .ref (ad 0 1)) (C := xR_De) (T := xT_De) (N := 6) hx hb hT xi_De hown hK.1 hP m_4 c_3 rfl 0 (by decide) (hT _ ys2_45) (fun _ h9 => h9) rfl xd_De_addRoots_18 ?_
    refine lv_iload_n hx hb xd_De_addRoots_21 rfl (lv_at hl 0 rfl) ?_
    have hFc := px_free hD hS hA
    refine va_calli (va_runV (As := [.int (nI i)]) (rest := [.ref (ad 0 7)]) ⟨hx, hb, hml, hown, hT⟩ (xc_Li_nameAt l D kA H.size ad E1 RL ml nd len wn cs1 (nI i) (by first | assumption | omega)) (cwV 1 hT (wT_V ys2_49 ys2_50 ys2_51 ys2_52 ys2_48) rfl rfl rfl (by decide +kernel) ⟨Nat.le_of_ble_eq_true rfl, Nat.le_of_ble_eq_true rfl⟩) (px_preV hK hP hD m_7 c_6 rfl) rfl rfl hl.1 rfl (lv_room (Nat.le_of_ble_eq_true rfl)) xd_De_addRoots_22 ⟨(Nat.le_of_ble_eq_true rfl), (Nat.le_of_ble_eq_true rfl)⟩) hS (fun q _ h => hFc q h) hFc (fun r20 u21 t H1 locs ht hvm hp22 hB hz1 hk1 hS => ?_)
    obtain ⟨hP1, hD1⟩ := hB
    rw [ht] at hP1
    have hD1 := hD1.weaken (fun _ _ _ h => hFc _ h)
    generalize H1 = H at hP1 hS ⊢
    have hP := hP1
    have hD := hD1
    have hP : va_P D xcl (rp ad E1 RL) H := hP
    have hD : va_D A (rp ad E1 RL) := hD
    have hFc := px_free hD hS hA
    refine va_calli (va_runV (As := [.int r20]) (rest := []) ⟨hx, hb, hml, hown, hT⟩ (xc_Ch_addRoot l D kA H.size ad E1 RL ml nd len wn cs1 r20 (by first | assumption | omega)) (cwV 1 hT (wT_V ys2_54 ys2_55 ys2_56 ys2_4 ys2_53) rfl rfl rfl (by decide +kernel) ⟨Nat.le_of_ble_eq_true rfl, Nat.le_of_ble_eq_true rfl⟩) (px_preV hK hP hD m_16 c_15 rfl) rfl rfl hl.1 rfl (lv_room (Nat.le_of_ble_eq_true rfl)) xd_De_addRoots_25 ⟨(Nat.le_of_ble_eq_true rfl), (Nat.le_of_ble_eq_true rfl)⟩) hS (fun q _ h => hFc q h) hFc (fun r23 u24 t H1 locs ht hvm hp25 hB hz1 hk1 hS => ?_)
    obtain ⟨hP1, hD1⟩ := hB
    rw [ht] at hP1
    have hD1 := hD1.weaken (fun _ _ _ h => hFc _ h)
    generalize H1 = H at hP1 hS ⊢
    have hP := hP1
    have hD := hD1
    obtain ⟨E26, rfl⟩ : ∃ z, z = u24 := ⟨_, rfl⟩
    have hP : va_P D xcl (rp ad E26 RL) H := hP
    have hD : va_D A (rp ad E26 RL) := hD
    obtain ⟨hr28, cs27, hCI⟩ := hp25
    have hCI : CI kA ad E26 RL ml nd len wn cs27 := hCI
    obtain ⟨hmB, hDk, hLi, hSh, hCh, hLa, hDIs, hLIs⟩ := id hCI
    refine lv_if_ne (tgt := 33) hx hb xd_De_addRoots_28 (by decide) (fun hc29 => ?_) (fun hc29 => ?_)
    · refine lv_iinc (k := 0) (x := (nI i)) (v := (nI (i + 1))) hx hb xd_De_addRoots_33 hl rfl (xb_inc i 1) (Nat.le_of_ble_eq_true rfl) rfl (fun ls hl => ?_)
      have hl : lv_has ls 2 [(1, .int (nI (i + 1))), (0, .ref (ad 0 0))] := hl
      refine lv_goto (tgt := 2) hx hb xd_De_addRoots_36 (by decide) ?_
      exact ih1 (i + 1, E26, cs27) _ _ _ (show 20 - (i + 1) < 20 - i by omega) (lv_sub hl [0, 1] rfl) hP hD hS ⟨(show (i + 1) ≤ 20 from by first | assumption | omega), (show CI kA ad E26 RL ml nd len wn cs27 from hCI)⟩
    · refine lv_iconst (v := 0) hx hb xd_De_addRoots_31 (by decide) ?_
      exact W.zret (v := 0) hx hb hr rfl (fun t ht hW => ⟨⟨0, E26, rfl, ⟨Or.inl rfl, cs27, hCI⟩, by rw [ht]; exact hP, hD⟩, hS.F ht⟩) hS.2.2 xd_De_addRoots_32
