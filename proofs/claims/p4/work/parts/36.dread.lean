abbrev xb_De_openLayer : ByteArray := prog_1_method_14_code
def xy_De_openLayer : MethodName := ⟨"LayerDesk", "openLayer", "(I)LLayerDesk$Layer;"⟩
abbrev xb_De_memberAt : ByteArray := prog_1_method_15_code
def xy_De_memberAt : MethodName := ⟨"LayerDesk", "memberAt", "(II)LLayerDesk$Member;"⟩
abbrev xb_De_memberOf : ByteArray := prog_1_method_16_code
def xy_De_memberOf : MethodName := ⟨"LayerDesk", "memberOf", "(II)LLayerDesk$Member;"⟩
abbrev xb_De_isParentOfOpen : ByteArray := prog_1_method_21_code
def xy_De_isParentOfOpen : MethodName := ⟨"LayerDesk", "isParentOfOpen", "(LLayerDesk$Layer;)Z"⟩
abbrev xb_De_countOpen : ByteArray := prog_1_method_22_code
def xy_De_countOpen : MethodName := ⟨"LayerDesk", "countOpen", "()I"⟩
abbrev xb_De_count : ByteArray := prog_1_method_7_code
def xy_De_count : MethodName := ⟨"LayerDesk", "count", "(I)I"⟩
abbrev xb_De_modules : ByteArray := prog_1_method_8_code
def xy_De_modules : MethodName := ⟨"LayerDesk", "modules", "(I)I"⟩
abbrev xb_De_module : ByteArray := prog_1_method_9_code
def xy_De_module : MethodName := ⟨"LayerDesk", "module", "(II)I"⟩
abbrev xb_De_reads : ByteArray := prog_1_method_10_code
def xy_De_reads : MethodName := ⟨"LayerDesk", "reads", "(IIII)Z"⟩
abbrev xb_De_fault : ByteArray := prog_1_method_5_code
def xy_De_fault : MethodName := ⟨"LayerDesk", "fault", "()I"⟩
abbrev xb_Sh_find : ByteArray := prog_10_method_3_code
def xy_Sh_find : MethodName := ⟨"LayerDesk$Shelf", "find", "(II)LLayerDesk$Descriptor;"⟩
abbrev xb_Sh_latest : ByteArray := prog_10_method_5_code
def xy_Sh_latest : MethodName := ⟨"LayerDesk$Shelf", "latest", "()LLayerDesk$Descriptor;"⟩
abbrev xb_Sh_isFinder : ByteArray := prog_10_method_2_code
def xy_Sh_isFinder : MethodName := ⟨"LayerDesk$Shelf", "isFinder", "(I)Z"⟩
abbrev xb_Ch_isChosen : ByteArray := prog_2_method_7_code
def xy_Ch_isChosen : MethodName := ⟨"LayerDesk$Chooser", "isChosen", "(LLayerDesk$Descriptor;)Z"⟩
abbrev xb_Li_nameAt : ByteArray := prog_6_method_6_code
def xy_Li_nameAt : MethodName := ⟨"LayerDesk$Line", "nameAt", "(I)I"⟩
abbrev xb_De_rootsAreNames : ByteArray := prog_1_method_17_code
def xy_De_rootsAreNames : MethodName := ⟨"LayerDesk", "rootsAreNames", "()Z"⟩
theorem xd_Ch_isChosen_0 : decode xb_Ch_isChosen 0 = .ok (.iconst 0, 1) := by decide +kernel
theorem xd_Ch_isChosen_1 : decode xb_Ch_isChosen 1 = .ok (.istore_n 2, 1) := by decide +kernel
theorem xd_Ch_isChosen_2 : decode xb_Ch_isChosen 2 = .ok (.iload_n 2, 1) := by decide +kernel
theorem xd_Ch_isChosen_3 : decode xb_Ch_isChosen 3 = .ok (.aload_n 0, 1) := by decide +kernel
theorem xd_Ch_isChosen_4 : decode xb_Ch_isChosen 4 = .ok (.getfield 17, 3) := by decide +kernel
theorem xd_Ch_isChosen_7 : decode xb_Ch_isChosen 7 = .ok (.if_icmp .ge 21, 3) := by decide +kernel
theorem xd_Ch_isChosen_10 : decode xb_Ch_isChosen 10 = .ok (.aload_n 0, 1) := by decide +kernel
theorem xd_Ch_isChosen_11 : decode xb_Ch_isChosen 11 = .ok (.getfield 11, 3) := by decide +kernel
theorem xd_Ch_isChosen_14 : decode xb_Ch_isChosen 14 = .ok (.iload_n 2, 1) := by decide +kernel
theorem xd_Ch_isChosen_15 : decode xb_Ch_isChosen 15 = .ok (.aaload, 1) := by decide +kernel
theorem xd_Ch_isChosen_16 : decode xb_Ch_isChosen 16 = .ok (.aload_n 1, 1) := by decide +kernel
theorem xd_Ch_isChosen_17 : decode xb_Ch_isChosen 17 = .ok (.if_acmp .ne 5, 3) := by decide +kernel
theorem xd_Ch_isChosen_20 : decode xb_Ch_isChosen 20 = .ok (.iconst 1, 1) := by decide +kernel
theorem xd_Ch_isChosen_21 : decode xb_Ch_isChosen 21 = .ok (.ireturn, 1) := by decide +kernel
theorem xd_Ch_isChosen_22 : decode xb_Ch_isChosen 22 = .ok (.iinc 2 1, 3) := by decide +kernel
theorem xd_Ch_isChosen_25 : decode xb_Ch_isChosen 25 = .ok (.goto (-23), 3) := by decide +kernel
theorem xd_Ch_isChosen_28 : decode xb_Ch_isChosen 28 = .ok (.iconst 0, 1) := by decide +kernel
theorem xd_Ch_isChosen_29 : decode xb_Ch_isChosen 29 = .ok (.ireturn, 1) := by decide +kernel
theorem xd_De_count_0 : decode xb_De_count 0 = .ok (.iload_n 1, 1) := by decide +kernel
theorem xd_De_count_1 : decode xb_De_count 1 = .ok (.tableswitch 45 0 2 #[27, 35, 40], 27) := by decide +kernel
theorem xd_De_count_28 : decode xb_De_count 28 = .ok (.aload_n 0, 1) := by decide +kernel
theorem xd_De_count_29 : decode xb_De_count 29 = .ok (.getfield 19, 3) := by decide +kernel
theorem xd_De_count_32 : decode xb_De_count 32 = .ok (.getfield 121, 3) := by decide +kernel
theorem xd_De_count_35 : decode xb_De_count 35 = .ok (.ireturn, 1) := by decide +kernel
theorem xd_De_count_36 : decode xb_De_count 36 = .ok (.aload_n 0, 1) := by decide +kernel
theorem xd_De_count_37 : decode xb_De_count 37 = .ok (.getfield 38, 3) := by decide +kernel
theorem xd_De_count_40 : decode xb_De_count 40 = .ok (.ireturn, 1) := by decide +kernel
theorem xd_De_count_41 : decode xb_De_count 41 = .ok (.aload_n 0, 1) := by decide +kernel
theorem xd_De_count_42 : decode xb_De_count 42 = .ok (.invokevirtual 124, 3) := by decide +kernel
theorem xd_De_count_45 : decode xb_De_count 45 = .ok (.ireturn, 1) := by decide +kernel
theorem xd_De_count_46 : decode xb_De_count 46 = .ok (.iconst (-1), 1) := by decide +kernel
theorem xd_De_count_47 : decode xb_De_count 47 = .ok (.ireturn, 1) := by decide +kernel
theorem xd_De_countOpen_0 : decode xb_De_countOpen 0 = .ok (.iconst 0, 1) := by decide +kernel
theorem xd_De_countOpen_1 : decode xb_De_countOpen 1 = .ok (.istore_n 1, 1) := by decide +kernel
theorem xd_De_countOpen_2 : decode xb_De_countOpen 2 = .ok (.iconst 0, 1) := by decide +kernel
theorem xd_De_countOpen_3 : decode xb_De_countOpen 3 = .ok (.istore_n 2, 1) := by decide +kernel
theorem xd_De_countOpen_4 : decode xb_De_countOpen 4 = .ok (.iload_n 2, 1) := by decide +kernel
theorem xd_De_countOpen_5 : decode xb_De_countOpen 5 = .ok (.aload_n 0, 1) := by decide +kernel
theorem xd_De_countOpen_6 : decode xb_De_countOpen 6 = .ok (.getfield 38, 3) := by decide +kernel
theorem xd_De_countOpen_9 : decode xb_De_countOpen 9 = .ok (.if_icmp .ge 20, 3) := by decide +kernel
theorem xd_De_countOpen_12 : decode xb_De_countOpen 12 = .ok (.aload_n 0, 1) := by decide +kernel
theorem xd_De_countOpen_13 : decode xb_De_countOpen 13 = .ok (.iload_n 2, 1) := by decide +kernel
theorem xd_De_countOpen_14 : decode xb_De_countOpen 14 = .ok (.invokevirtual 68, 3) := by decide +kernel
theorem xd_De_countOpen_17 : decode xb_De_countOpen 17 = .ok (.ifnull 6, 3) := by decide +kernel
theorem xd_De_countOpen_20 : decode xb_De_countOpen 20 = .ok (.iinc 1 1, 3) := by decide +kernel
theorem xd_De_countOpen_23 : decode xb_De_countOpen 23 = .ok (.iinc 2 1, 3) := by decide +kernel
theorem xd_De_countOpen_26 : decode xb_De_countOpen 26 = .ok (.goto (-22), 3) := by decide +kernel
theorem xd_De_countOpen_29 : decode xb_De_countOpen 29 = .ok (.iload_n 1, 1) := by decide +kernel
theorem xd_De_countOpen_30 : decode xb_De_countOpen 30 = .ok (.ireturn, 1) := by decide +kernel
theorem xd_De_fault_0 : decode xb_De_fault 0 = .ok (.aload_n 0, 1) := by decide +kernel
theorem xd_De_fault_1 : decode xb_De_fault 1 = .ok (.getfield 42, 3) := by decide +kernel
theorem xd_De_fault_4 : decode xb_De_fault 4 = .ok (.ireturn, 1) := by decide +kernel
theorem xd_De_isParentOfOpen_0 : decode xb_De_isParentOfOpen 0 = .ok (.iconst 0, 1) := by decide +kernel
theorem xd_De_isParentOfOpen_1 : decode xb_De_isParentOfOpen 1 = .ok (.istore_n 2, 1) := by decide +kernel
theorem xd_De_isParentOfOpen_2 : decode xb_De_isParentOfOpen 2 = .ok (.iload_n 2, 1) := by decide +kernel
theorem xd_De_isParentOfOpen_3 : decode xb_De_isParentOfOpen 3 = .ok (.aload_n 0, 1) := by decide +kernel
theorem xd_De_isParentOfOpen_4 : decode xb_De_isParentOfOpen 4 = .ok (.getfield 38, 3) := by decide +kernel
theorem xd_De_isParentOfOpen_7 : decode xb_De_isParentOfOpen 7 = .ok (.if_icmp .ge 29, 3) := by decide +kernel
theorem xd_De_isParentOfOpen_10 : decode xb_De_isParentOfOpen 10 = .ok (.aload_n 0, 1) := by decide +kernel
theorem xd_De_isParentOfOpen_11 : decode xb_De_isParentOfOpen 11 = .ok (.iload_n 2, 1) := by decide +kernel
theorem xd_De_isParentOfOpen_12 : decode xb_De_isParentOfOpen 12 = .ok (.invokevirtual 68, 3) := by decide +kernel
theorem xd_De_isParentOfOpen_15 : decode xb_De_isParentOfOpen 15 = .ok (.astore_n 3, 1) := by decide +kernel
theorem xd_De_isParentOfOpen_16 : decode xb_De_isParentOfOpen 16 = .ok (.aload_n 3, 1) := by decide +kernel
theorem xd_De_isParentOfOpen_17 : decode xb_De_isParentOfOpen 17 = .ok (.ifnull 13, 3) := by decide +kernel
theorem xd_De_isParentOfOpen_20 : decode xb_De_isParentOfOpen 20 = .ok (.aload_n 3, 1) := by decide +kernel
theorem xd_De_isParentOfOpen_21 : decode xb_De_isParentOfOpen 21 = .ok (.getfield 217, 3) := by decide +kernel
theorem xd_De_isParentOfOpen_24 : decode xb_De_isParentOfOpen 24 = .ok (.aload_n 1, 1) := by decide +kernel
theorem xd_De_isParentOfOpen_25 : decode xb_De_isParentOfOpen 25 = .ok (.if_acmp .ne 5, 3) := by decide +kernel
theorem xd_De_isParentOfOpen_28 : decode xb_De_isParentOfOpen 28 = .ok (.iconst 1, 1) := by decide +kernel
theorem xd_De_isParentOfOpen_29 : decode xb_De_isParentOfOpen 29 = .ok (.ireturn, 1) := by decide +kernel
theorem xd_De_isParentOfOpen_30 : decode xb_De_isParentOfOpen 30 = .ok (.iinc 2 1, 3) := by decide +kernel
theorem xd_De_isParentOfOpen_33 : decode xb_De_isParentOfOpen 33 = .ok (.goto (-31), 3) := by decide +kernel
theorem xd_De_isParentOfOpen_36 : decode xb_De_isParentOfOpen 36 = .ok (.iconst 0, 1) := by decide +kernel
theorem xd_De_isParentOfOpen_37 : decode xb_De_isParentOfOpen 37 = .ok (.ireturn, 1) := by decide +kernel
theorem xd_De_memberAt_0 : decode xb_De_memberAt 0 = .ok (.aload_n 0, 1) := by decide +kernel
theorem xd_De_memberAt_1 : decode xb_De_memberAt 1 = .ok (.iload_n 1, 1) := by decide +kernel
theorem xd_De_memberAt_2 : decode xb_De_memberAt 2 = .ok (.invokevirtual 68, 3) := by decide +kernel
theorem xd_De_memberAt_5 : decode xb_De_memberAt 5 = .ok (.astore_n 3, 1) := by decide +kernel
theorem xd_De_memberAt_6 : decode xb_De_memberAt 6 = .ok (.aload_n 3, 1) := by decide +kernel
theorem xd_De_memberAt_7 : decode xb_De_memberAt 7 = .ok (.ifnull 16, 3) := by decide +kernel
theorem xd_De_memberAt_10 : decode xb_De_memberAt 10 = .ok (.iload_n 2, 1) := by decide +kernel
theorem xd_De_memberAt_11 : decode xb_De_memberAt 11 = .ok (.ifCond .lt 12, 3) := by decide +kernel
theorem xd_De_memberAt_14 : decode xb_De_memberAt 14 = .ok (.iload_n 2, 1) := by decide +kernel
theorem xd_De_memberAt_15 : decode xb_De_memberAt 15 = .ok (.aload_n 3, 1) := by decide +kernel
theorem xd_De_memberAt_16 : decode xb_De_memberAt 16 = .ok (.getfield 128, 3) := by decide +kernel
theorem xd_De_memberAt_19 : decode xb_De_memberAt 19 = .ok (.arraylength, 1) := by decide +kernel
theorem xd_De_memberAt_20 : decode xb_De_memberAt 20 = .ok (.if_icmp .lt 7, 3) := by decide +kernel
theorem xd_De_memberAt_23 : decode xb_De_memberAt 23 = .ok (.aconst_null, 1) := by decide +kernel
theorem xd_De_memberAt_24 : decode xb_De_memberAt 24 = .ok (.goto 9, 3) := by decide +kernel
theorem xd_De_memberAt_27 : decode xb_De_memberAt 27 = .ok (.aload_n 3, 1) := by decide +kernel
theorem xd_De_memberAt_28 : decode xb_De_memberAt 28 = .ok (.getfield 128, 3) := by decide +kernel
theorem xd_De_memberAt_31 : decode xb_De_memberAt 31 = .ok (.iload_n 2, 1) := by decide +kernel
theorem xd_De_memberAt_32 : decode xb_De_memberAt 32 = .ok (.aaload, 1) := by decide +kernel
theorem xd_De_memberAt_33 : decode xb_De_memberAt 33 = .ok (.areturn, 1) := by decide +kernel
theorem xd_De_memberOf_0 : decode xb_De_memberOf 0 = .ok (.aload_n 0, 1) := by decide +kernel
theorem xd_De_memberOf_1 : decode xb_De_memberOf 1 = .ok (.iload_n 1, 1) := by decide +kernel
theorem xd_De_memberOf_2 : decode xb_De_memberOf 2 = .ok (.invokevirtual 68, 3) := by decide +kernel
theorem xd_De_memberOf_5 : decode xb_De_memberOf 5 = .ok (.astore_n 3, 1) := by decide +kernel
theorem xd_De_memberOf_6 : decode xb_De_memberOf 6 = .ok (.aload_n 3, 1) := by decide +kernel
theorem xd_De_memberOf_7 : decode xb_De_memberOf 7 = .ok (.ifnonnull 7, 3) := by decide +kernel
theorem xd_De_memberOf_10 : decode xb_De_memberOf 10 = .ok (.aconst_null, 1) := by decide +kernel
theorem xd_De_memberOf_11 : decode xb_De_memberOf 11 = .ok (.goto 8, 3) := by decide +kernel
theorem xd_De_memberOf_14 : decode xb_De_memberOf 14 = .ok (.aload_n 3, 1) := by decide +kernel
theorem xd_De_memberOf_15 : decode xb_De_memberOf 15 = .ok (.iload_n 2, 1) := by decide +kernel
theorem xd_De_memberOf_16 : decode xb_De_memberOf 16 = .ok (.invokevirtual 195, 3) := by decide +kernel
theorem xd_De_memberOf_19 : decode xb_De_memberOf 19 = .ok (.areturn, 1) := by decide +kernel
theorem xd_De_module_0 : decode xb_De_module 0 = .ok (.aload_n 0, 1) := by decide +kernel
theorem xd_De_module_1 : decode xb_De_module 1 = .ok (.iload_n 1, 1) := by decide +kernel
theorem xd_De_module_2 : decode xb_De_module 2 = .ok (.iload_n 2, 1) := by decide +kernel
theorem xd_De_module_3 : decode xb_De_module 3 = .ok (.invokevirtual 132, 3) := by decide +kernel
theorem xd_De_module_6 : decode xb_De_module 6 = .ok (.astore_n 3, 1) := by decide +kernel
theorem xd_De_module_7 : decode xb_De_module 7 = .ok (.aload_n 3, 1) := by decide +kernel
theorem xd_De_module_8 : decode xb_De_module 8 = .ok (.ifnonnull 7, 3) := by decide +kernel
theorem xd_De_module_11 : decode xb_De_module 11 = .ok (.iconst (-1), 1) := by decide +kernel
theorem xd_De_module_12 : decode xb_De_module 12 = .ok (.goto 10, 3) := by decide +kernel
theorem xd_De_module_15 : decode xb_De_module 15 = .ok (.aload_n 3, 1) := by decide +kernel
theorem xd_De_module_16 : decode xb_De_module 16 = .ok (.getfield 136, 3) := by decide +kernel
theorem xd_De_module_19 : decode xb_De_module 19 = .ok (.getfield 142, 3) := by decide +kernel
theorem xd_De_module_22 : decode xb_De_module 22 = .ok (.ireturn, 1) := by decide +kernel
theorem xd_De_modules_0 : decode xb_De_modules 0 = .ok (.aload_n 0, 1) := by decide +kernel
theorem xd_De_modules_1 : decode xb_De_modules 1 = .ok (.iload_n 1, 1) := by decide +kernel
theorem xd_De_modules_2 : decode xb_De_modules 2 = .ok (.invokevirtual 68, 3) := by decide +kernel
theorem xd_De_modules_5 : decode xb_De_modules 5 = .ok (.astore_n 2, 1) := by decide +kernel
theorem xd_De_modules_6 : decode xb_De_modules 6 = .ok (.aload_n 2, 1) := by decide +kernel
theorem xd_De_modules_7 : decode xb_De_modules 7 = .ok (.ifnonnull 7, 3) := by decide +kernel
theorem xd_De_modules_10 : decode xb_De_modules 10 = .ok (.iconst (-1), 1) := by decide +kernel
theorem xd_De_modules_11 : decode xb_De_modules 11 = .ok (.goto 8, 3) := by decide +kernel
theorem xd_De_modules_14 : decode xb_De_modules 14 = .ok (.aload_n 2, 1) := by decide +kernel
theorem xd_De_modules_15 : decode xb_De_modules 15 = .ok (.getfield 128, 3) := by decide +kernel
theorem xd_De_modules_18 : decode xb_De_modules 18 = .ok (.arraylength, 1) := by decide +kernel
theorem xd_De_modules_19 : decode xb_De_modules 19 = .ok (.ireturn, 1) := by decide +kernel
theorem xd_De_openLayer_0 : decode xb_De_openLayer 0 = .ok (.iload_n 1, 1) := by decide +kernel
theorem xd_De_openLayer_1 : decode xb_De_openLayer 1 = .ok (.ifCond .lt 11, 3) := by decide +kernel
theorem xd_De_openLayer_4 : decode xb_De_openLayer 4 = .ok (.iload_n 1, 1) := by decide +kernel
theorem xd_De_openLayer_5 : decode xb_De_openLayer 5 = .ok (.aload_n 0, 1) := by decide +kernel
theorem xd_De_openLayer_6 : decode xb_De_openLayer 6 = .ok (.getfield 38, 3) := by decide +kernel
theorem xd_De_openLayer_9 : decode xb_De_openLayer 9 = .ok (.if_icmp .lt 5, 3) := by decide +kernel
theorem xd_De_openLayer_12 : decode xb_De_openLayer 12 = .ok (.aconst_null, 1) := by decide +kernel
theorem xd_De_openLayer_13 : decode xb_De_openLayer 13 = .ok (.areturn, 1) := by decide +kernel
theorem xd_De_openLayer_14 : decode xb_De_openLayer 14 = .ok (.aload_n 0, 1) := by decide +kernel
theorem xd_De_openLayer_15 : decode xb_De_openLayer 15 = .ok (.getfield 34, 3) := by decide +kernel
theorem xd_De_openLayer_18 : decode xb_De_openLayer 18 = .ok (.iload_n 1, 1) := by decide +kernel
theorem xd_De_openLayer_19 : decode xb_De_openLayer 19 = .ok (.aaload, 1) := by decide +kernel
theorem xd_De_openLayer_20 : decode xb_De_openLayer 20 = .ok (.astore_n 2, 1) := by decide +kernel
theorem xd_De_openLayer_21 : decode xb_De_openLayer 21 = .ok (.aload_n 2, 1) := by decide +kernel
theorem xd_De_openLayer_22 : decode xb_De_openLayer 22 = .ok (.ifnull 14, 3) := by decide +kernel
theorem xd_De_openLayer_25 : decode xb_De_openLayer 25 = .ok (.aload_n 2, 1) := by decide +kernel
theorem xd_De_openLayer_26 : decode xb_De_openLayer 26 = .ok (.getfield 117, 3) := by decide +kernel
theorem xd_De_openLayer_29 : decode xb_De_openLayer 29 = .ok (.ifCond .eq 7, 3) := by decide +kernel
theorem xd_De_openLayer_32 : decode xb_De_openLayer 32 = .ok (.aload_n 2, 1) := by decide +kernel
theorem xd_De_openLayer_33 : decode xb_De_openLayer 33 = .ok (.goto 4, 3) := by decide +kernel
theorem xd_De_openLayer_36 : decode xb_De_openLayer 36 = .ok (.aconst_null, 1) := by decide +kernel
theorem xd_De_openLayer_37 : decode xb_De_openLayer 37 = .ok (.areturn, 1) := by decide +kernel
theorem xd_De_reads_0 : decode xb_De_reads 0 = .ok (.aload_n 0, 1) := by decide +kernel
theorem xd_De_reads_1 : decode xb_De_reads 1 = .ok (.iload_n 1, 1) := by decide +kernel
theorem xd_De_reads_2 : decode xb_De_reads 2 = .ok (.iload_n 2, 1) := by decide +kernel
theorem xd_De_reads_3 : decode xb_De_reads 3 = .ok (.invokevirtual 132, 3) := by decide +kernel
theorem xd_De_reads_6 : decode xb_De_reads 6 = .ok (.astore 5, 2) := by decide +kernel
theorem xd_De_reads_8 : decode xb_De_reads 8 = .ok (.aload_n 0, 1) := by decide +kernel
theorem xd_De_reads_9 : decode xb_De_reads 9 = .ok (.iload_n 3, 1) := by decide +kernel
theorem xd_De_reads_10 : decode xb_De_reads 10 = .ok (.iload 4, 2) := by decide +kernel
theorem xd_De_reads_12 : decode xb_De_reads 12 = .ok (.invokevirtual 145, 3) := by decide +kernel
theorem xd_De_reads_15 : decode xb_De_reads 15 = .ok (.astore 6, 2) := by decide +kernel
theorem xd_De_reads_17 : decode xb_De_reads 17 = .ok (.aload 5, 2) := by decide +kernel
theorem xd_De_reads_19 : decode xb_De_reads 19 = .ok (.ifnull 25, 3) := by decide +kernel
theorem xd_De_reads_22 : decode xb_De_reads 22 = .ok (.aload 6, 2) := by decide +kernel
theorem xd_De_reads_24 : decode xb_De_reads 24 = .ok (.ifnull 20, 3) := by decide +kernel
theorem xd_De_reads_27 : decode xb_De_reads 27 = .ok (.aload 5, 2) := by decide +kernel
theorem xd_De_reads_29 : decode xb_De_reads 29 = .ok (.getfield 148, 3) := by decide +kernel
theorem xd_De_reads_32 : decode xb_De_reads 32 = .ok (.aload 6, 2) := by decide +kernel
theorem xd_De_reads_34 : decode xb_De_reads 34 = .ok (.invokevirtual 152, 3) := by decide +kernel
theorem xd_De_reads_37 : decode xb_De_reads 37 = .ok (.ifCond .eq 7, 3) := by decide +kernel
theorem xd_De_reads_40 : decode xb_De_reads 40 = .ok (.iconst 1, 1) := by decide +kernel
theorem xd_De_reads_41 : decode xb_De_reads 41 = .ok (.goto 4, 3) := by decide +kernel
theorem xd_De_reads_44 : decode xb_De_reads 44 = .ok (.iconst 0, 1) := by decide +kernel
theorem xd_De_reads_45 : decode xb_De_reads 45 = .ok (.ireturn, 1) := by decide +kernel
theorem xd_De_rootsAreNames_0 : decode xb_De_rootsAreNames 0 = .ok (.aload_n 0, 1) := by decide +kernel
theorem xd_De_rootsAreNames_1 : decode xb_De_rootsAreNames 1 = .ok (.getfield 10, 3) := by decide +kernel
theorem xd_De_rootsAreNames_4 : decode xb_De_rootsAreNames 4 = .ok (.getfield 198, 3) := by decide +kernel
theorem xd_De_rootsAreNames_7 : decode xb_De_rootsAreNames 7 = .ok (.iconst 1, 1) := by decide +kernel
theorem xd_De_rootsAreNames_8 : decode xb_De_rootsAreNames 8 = .ok (.if_icmp .lt 14, 3) := by decide +kernel
theorem xd_De_rootsAreNames_11 : decode xb_De_rootsAreNames 11 = .ok (.aload_n 0, 1) := by decide +kernel
theorem xd_De_rootsAreNames_12 : decode xb_De_rootsAreNames 12 = .ok (.getfield 10, 3) := by decide +kernel
theorem xd_De_rootsAreNames_15 : decode xb_De_rootsAreNames 15 = .ok (.getfield 198, 3) := by decide +kernel
theorem xd_De_rootsAreNames_18 : decode xb_De_rootsAreNames 18 = .ok (.iconst 3, 1) := by decide +kernel
theorem xd_De_rootsAreNames_19 : decode xb_De_rootsAreNames 19 = .ok (.if_icmp .le 5, 3) := by decide +kernel
theorem xd_De_rootsAreNames_22 : decode xb_De_rootsAreNames 22 = .ok (.iconst 0, 1) := by decide +kernel
theorem xd_De_rootsAreNames_23 : decode xb_De_rootsAreNames 23 = .ok (.ireturn, 1) := by decide +kernel
theorem xd_De_rootsAreNames_24 : decode xb_De_rootsAreNames 24 = .ok (.iconst 0, 1) := by decide +kernel
theorem xd_De_rootsAreNames_25 : decode xb_De_rootsAreNames 25 = .ok (.istore_n 1, 1) := by decide +kernel
theorem xd_De_rootsAreNames_26 : decode xb_De_rootsAreNames 26 = .ok (.iload_n 1, 1) := by decide +kernel
theorem xd_De_rootsAreNames_27 : decode xb_De_rootsAreNames 27 = .ok (.aload_n 0, 1) := by decide +kernel
theorem xd_De_rootsAreNames_28 : decode xb_De_rootsAreNames 28 = .ok (.getfield 10, 3) := by decide +kernel
theorem xd_De_rootsAreNames_31 : decode xb_De_rootsAreNames 31 = .ok (.getfield 198, 3) := by decide +kernel
theorem xd_De_rootsAreNames_34 : decode xb_De_rootsAreNames 34 = .ok (.if_icmp .ge 22, 3) := by decide +kernel
theorem xd_De_rootsAreNames_37 : decode xb_De_rootsAreNames 37 = .ok (.aload_n 0, 1) := by decide +kernel
theorem xd_De_rootsAreNames_38 : decode xb_De_rootsAreNames 38 = .ok (.getfield 10, 3) := by decide +kernel
theorem xd_De_rootsAreNames_41 : decode xb_De_rootsAreNames 41 = .ok (.iload_n 1, 1) := by decide +kernel
theorem xd_De_rootsAreNames_42 : decode xb_De_rootsAreNames 42 = .ok (.invokevirtual 201, 3) := by decide +kernel
theorem xd_De_rootsAreNames_45 : decode xb_De_rootsAreNames 45 = .ok (.ifCond .ne 5, 3) := by decide +kernel
theorem xd_De_rootsAreNames_48 : decode xb_De_rootsAreNames 48 = .ok (.iconst 0, 1) := by decide +kernel
theorem xd_De_rootsAreNames_49 : decode xb_De_rootsAreNames 49 = .ok (.ireturn, 1) := by decide +kernel
theorem xd_De_rootsAreNames_50 : decode xb_De_rootsAreNames 50 = .ok (.iinc 1 1, 3) := by decide +kernel
theorem xd_De_rootsAreNames_53 : decode xb_De_rootsAreNames 53 = .ok (.goto (-27), 3) := by decide +kernel
theorem xd_De_rootsAreNames_56 : decode xb_De_rootsAreNames 56 = .ok (.iconst 1, 1) := by decide +kernel
theorem xd_De_rootsAreNames_57 : decode xb_De_rootsAreNames 57 = .ok (.ireturn, 1) := by decide +kernel
theorem xd_Li_nameAt_0 : decode xb_Li_nameAt 0 = .ok (.iload_n 1, 1) := by decide +kernel
theorem xd_Li_nameAt_1 : decode xb_Li_nameAt 1 = .ok (.ifCond .lt 28, 3) := by decide +kernel
theorem xd_Li_nameAt_4 : decode xb_Li_nameAt 4 = .ok (.iload_n 1, 1) := by decide +kernel
theorem xd_Li_nameAt_5 : decode xb_Li_nameAt 5 = .ok (.aload_n 0, 1) := by decide +kernel
theorem xd_Li_nameAt_6 : decode xb_Li_nameAt 6 = .ok (.getfield 24, 3) := by decide +kernel
theorem xd_Li_nameAt_9 : decode xb_Li_nameAt 9 = .ok (.if_icmp .ge 20, 3) := by decide +kernel
theorem xd_Li_nameAt_12 : decode xb_Li_nameAt 12 = .ok (.aload_n 0, 1) := by decide +kernel
theorem xd_Li_nameAt_13 : decode xb_Li_nameAt 13 = .ok (.getfield 17, 3) := by decide +kernel
theorem xd_Li_nameAt_16 : decode xb_Li_nameAt 16 = .ok (.iload_n 1, 1) := by decide +kernel
theorem xd_Li_nameAt_17 : decode xb_Li_nameAt 17 = .ok (.iaload, 1) := by decide +kernel
theorem xd_Li_nameAt_18 : decode xb_Li_nameAt 18 = .ok (.aload_n 0, 1) := by decide +kernel
theorem xd_Li_nameAt_19 : decode xb_Li_nameAt 19 = .ok (.getfield 13, 3) := by decide +kernel
theorem xd_Li_nameAt_22 : decode xb_Li_nameAt 22 = .ok (.iload_n 1, 1) := by decide +kernel
theorem xd_Li_nameAt_23 : decode xb_Li_nameAt 23 = .ok (.iaload, 1) := by decide +kernel
theorem xd_Li_nameAt_24 : decode xb_Li_nameAt 24 = .ok (.isub, 1) := by decide +kernel
theorem xd_Li_nameAt_25 : decode xb_Li_nameAt 25 = .ok (.iconst 4, 1) := by decide +kernel
theorem xd_Li_nameAt_26 : decode xb_Li_nameAt 26 = .ok (.if_icmp .le 5, 3) := by decide +kernel
theorem xd_Li_nameAt_29 : decode xb_Li_nameAt 29 = .ok (.iconst 0, 1) := by decide +kernel
theorem xd_Li_nameAt_30 : decode xb_Li_nameAt 30 = .ok (.ireturn, 1) := by decide +kernel
theorem xd_Li_nameAt_31 : decode xb_Li_nameAt 31 = .ok (.iconst 0, 1) := by decide +kernel
theorem xd_Li_nameAt_32 : decode xb_Li_nameAt 32 = .ok (.istore_n 2, 1) := by decide +kernel
theorem xd_Li_nameAt_33 : decode xb_Li_nameAt 33 = .ok (.aload_n 0, 1) := by decide +kernel
theorem xd_Li_nameAt_34 : decode xb_Li_nameAt 34 = .ok (.getfield 13, 3) := by decide +kernel
theorem xd_Li_nameAt_37 : decode xb_Li_nameAt 37 = .ok (.iload_n 1, 1) := by decide +kernel
theorem xd_Li_nameAt_38 : decode xb_Li_nameAt 38 = .ok (.iaload, 1) := by decide +kernel
theorem xd_Li_nameAt_39 : decode xb_Li_nameAt 39 = .ok (.istore_n 3, 1) := by decide +kernel
theorem xd_Li_nameAt_40 : decode xb_Li_nameAt 40 = .ok (.iload_n 3, 1) := by decide +kernel
theorem xd_Li_nameAt_41 : decode xb_Li_nameAt 41 = .ok (.aload_n 0, 1) := by decide +kernel
theorem xd_Li_nameAt_42 : decode xb_Li_nameAt 42 = .ok (.getfield 17, 3) := by decide +kernel
theorem xd_Li_nameAt_45 : decode xb_Li_nameAt 45 = .ok (.iload_n 1, 1) := by decide +kernel
theorem xd_Li_nameAt_46 : decode xb_Li_nameAt 46 = .ok (.iaload, 1) := by decide +kernel
theorem xd_Li_nameAt_47 : decode xb_Li_nameAt 47 = .ok (.if_icmp .ge 50, 3) := by decide +kernel
theorem xd_Li_nameAt_50 : decode xb_Li_nameAt 50 = .ok (.aload_n 0, 1) := by decide +kernel
theorem xd_Li_nameAt_51 : decode xb_Li_nameAt 51 = .ok (.getfield 9, 3) := by decide +kernel
theorem xd_Li_nameAt_54 : decode xb_Li_nameAt 54 = .ok (.iload_n 3, 1) := by decide +kernel
theorem xd_Li_nameAt_55 : decode xb_Li_nameAt 55 = .ok (.caload, 1) := by decide +kernel
theorem xd_Li_nameAt_56 : decode xb_Li_nameAt 56 = .ok (.bipush 97, 2) := by decide +kernel
theorem xd_Li_nameAt_58 : decode xb_Li_nameAt 58 = .ok (.if_icmp .lt 14, 3) := by decide +kernel
theorem xd_Li_nameAt_61 : decode xb_Li_nameAt 61 = .ok (.aload_n 0, 1) := by decide +kernel
theorem xd_Li_nameAt_62 : decode xb_Li_nameAt 62 = .ok (.getfield 9, 3) := by decide +kernel
theorem xd_Li_nameAt_65 : decode xb_Li_nameAt 65 = .ok (.iload_n 3, 1) := by decide +kernel
theorem xd_Li_nameAt_66 : decode xb_Li_nameAt 66 = .ok (.caload, 1) := by decide +kernel
theorem xd_Li_nameAt_67 : decode xb_Li_nameAt 67 = .ok (.bipush 122, 2) := by decide +kernel
theorem xd_Li_nameAt_69 : decode xb_Li_nameAt 69 = .ok (.if_icmp .le 5, 3) := by decide +kernel
theorem xd_Li_nameAt_72 : decode xb_Li_nameAt 72 = .ok (.iconst 0, 1) := by decide +kernel
theorem xd_Li_nameAt_73 : decode xb_Li_nameAt 73 = .ok (.ireturn, 1) := by decide +kernel
theorem xd_Li_nameAt_74 : decode xb_Li_nameAt 74 = .ok (.iload_n 2, 1) := by decide +kernel
theorem xd_Li_nameAt_75 : decode xb_Li_nameAt 75 = .ok (.bipush 27, 2) := by decide +kernel
theorem xd_Li_nameAt_77 : decode xb_Li_nameAt 77 = .ok (.imul, 1) := by decide +kernel
theorem xd_Li_nameAt_78 : decode xb_Li_nameAt 78 = .ok (.aload_n 0, 1) := by decide +kernel
theorem xd_Li_nameAt_79 : decode xb_Li_nameAt 79 = .ok (.getfield 9, 3) := by decide +kernel
theorem xd_Li_nameAt_82 : decode xb_Li_nameAt 82 = .ok (.iload_n 3, 1) := by decide +kernel
theorem xd_Li_nameAt_83 : decode xb_Li_nameAt 83 = .ok (.caload, 1) := by decide +kernel
theorem xd_Li_nameAt_84 : decode xb_Li_nameAt 84 = .ok (.bipush 97, 2) := by decide +kernel
theorem xd_Li_nameAt_86 : decode xb_Li_nameAt 86 = .ok (.isub, 1) := by decide +kernel
theorem xd_Li_nameAt_87 : decode xb_Li_nameAt 87 = .ok (.iconst 1, 1) := by decide +kernel
theorem xd_Li_nameAt_88 : decode xb_Li_nameAt 88 = .ok (.iadd, 1) := by decide +kernel
theorem xd_Li_nameAt_89 : decode xb_Li_nameAt 89 = .ok (.iadd, 1) := by decide +kernel
theorem xd_Li_nameAt_90 : decode xb_Li_nameAt 90 = .ok (.istore_n 2, 1) := by decide +kernel
theorem xd_Li_nameAt_91 : decode xb_Li_nameAt 91 = .ok (.iinc 3 1, 3) := by decide +kernel
theorem xd_Li_nameAt_94 : decode xb_Li_nameAt 94 = .ok (.goto (-54), 3) := by decide +kernel
theorem xd_Li_nameAt_97 : decode xb_Li_nameAt 97 = .ok (.iload_n 2, 1) := by decide +kernel
theorem xd_Li_nameAt_98 : decode xb_Li_nameAt 98 = .ok (.ireturn, 1) := by decide +kernel
theorem xd_Sh_find_0 : decode xb_Sh_find 0 = .ok (.iconst 0, 1) := by decide +kernel
theorem xd_Sh_find_1 : decode xb_Sh_find 1 = .ok (.istore_n 3, 1) := by decide +kernel
theorem xd_Sh_find_2 : decode xb_Sh_find 2 = .ok (.iload_n 3, 1) := by decide +kernel
theorem xd_Sh_find_3 : decode xb_Sh_find 3 = .ok (.aload_n 0, 1) := by decide +kernel
theorem xd_Sh_find_4 : decode xb_Sh_find 4 = .ok (.getfield 17, 3) := by decide +kernel
theorem xd_Sh_find_7 : decode xb_Sh_find 7 = .ok (.if_icmp .ge 42, 3) := by decide +kernel
theorem xd_Sh_find_10 : decode xb_Sh_find 10 = .ok (.aload_n 0, 1) := by decide +kernel
theorem xd_Sh_find_11 : decode xb_Sh_find 11 = .ok (.getfield 11, 3) := by decide +kernel
theorem xd_Sh_find_14 : decode xb_Sh_find 14 = .ok (.iload_n 3, 1) := by decide +kernel
theorem xd_Sh_find_15 : decode xb_Sh_find 15 = .ok (.aaload, 1) := by decide +kernel
theorem xd_Sh_find_16 : decode xb_Sh_find 16 = .ok (.getfield 21, 3) := by decide +kernel
theorem xd_Sh_find_19 : decode xb_Sh_find 19 = .ok (.iload_n 1, 1) := by decide +kernel
theorem xd_Sh_find_20 : decode xb_Sh_find 20 = .ok (.if_icmp .ne 23, 3) := by decide +kernel
theorem xd_Sh_find_23 : decode xb_Sh_find 23 = .ok (.aload_n 0, 1) := by decide +kernel
theorem xd_Sh_find_24 : decode xb_Sh_find 24 = .ok (.getfield 11, 3) := by decide +kernel
theorem xd_Sh_find_27 : decode xb_Sh_find 27 = .ok (.iload_n 3, 1) := by decide +kernel
theorem xd_Sh_find_28 : decode xb_Sh_find 28 = .ok (.aaload, 1) := by decide +kernel
theorem xd_Sh_find_29 : decode xb_Sh_find 29 = .ok (.getfield 24, 3) := by decide +kernel
theorem xd_Sh_find_32 : decode xb_Sh_find 32 = .ok (.iload_n 2, 1) := by decide +kernel
theorem xd_Sh_find_33 : decode xb_Sh_find 33 = .ok (.if_icmp .ne 10, 3) := by decide +kernel
theorem xd_Sh_find_36 : decode xb_Sh_find 36 = .ok (.aload_n 0, 1) := by decide +kernel
theorem xd_Sh_find_37 : decode xb_Sh_find 37 = .ok (.getfield 11, 3) := by decide +kernel
theorem xd_Sh_find_40 : decode xb_Sh_find 40 = .ok (.iload_n 3, 1) := by decide +kernel
theorem xd_Sh_find_41 : decode xb_Sh_find 41 = .ok (.aaload, 1) := by decide +kernel
theorem xd_Sh_find_42 : decode xb_Sh_find 42 = .ok (.areturn, 1) := by decide +kernel
theorem xd_Sh_find_43 : decode xb_Sh_find 43 = .ok (.iinc 3 1, 3) := by decide +kernel
theorem xd_Sh_find_46 : decode xb_Sh_find 46 = .ok (.goto (-44), 3) := by decide +kernel
theorem xd_Sh_find_49 : decode xb_Sh_find 49 = .ok (.aconst_null, 1) := by decide +kernel
theorem xd_Sh_find_50 : decode xb_Sh_find 50 = .ok (.areturn, 1) := by decide +kernel
theorem xd_Sh_isFinder_0 : decode xb_Sh_isFinder 0 = .ok (.iload_n 0, 1) := by decide +kernel
theorem xd_Sh_isFinder_1 : decode xb_Sh_isFinder 1 = .ok (.ifCond .eq 8, 3) := by decide +kernel
theorem xd_Sh_isFinder_4 : decode xb_Sh_isFinder 4 = .ok (.iload_n 0, 1) := by decide +kernel
theorem xd_Sh_isFinder_5 : decode xb_Sh_isFinder 5 = .ok (.iconst 1, 1) := by decide +kernel
theorem xd_Sh_isFinder_6 : decode xb_Sh_isFinder 6 = .ok (.if_icmp .ne 7, 3) := by decide +kernel
theorem xd_Sh_isFinder_9 : decode xb_Sh_isFinder 9 = .ok (.iconst 1, 1) := by decide +kernel
theorem xd_Sh_isFinder_10 : decode xb_Sh_isFinder 10 = .ok (.goto 4, 3) := by decide +kernel
theorem xd_Sh_isFinder_13 : decode xb_Sh_isFinder 13 = .ok (.iconst 0, 1) := by decide +kernel
theorem xd_Sh_isFinder_14 : decode xb_Sh_isFinder 14 = .ok (.ireturn, 1) := by decide +kernel
theorem xd_Sh_latest_0 : decode xb_Sh_latest 0 = .ok (.aload_n 0, 1) := by decide +kernel
theorem xd_Sh_latest_1 : decode xb_Sh_latest 1 = .ok (.getfield 17, 3) := by decide +kernel
theorem xd_Sh_latest_4 : decode xb_Sh_latest 4 = .ok (.ifCond .ne 7, 3) := by decide +kernel
theorem xd_Sh_latest_7 : decode xb_Sh_latest 7 = .ok (.aconst_null, 1) := by decide +kernel
theorem xd_Sh_latest_8 : decode xb_Sh_latest 8 = .ok (.goto 14, 3) := by decide +kernel
theorem xd_Sh_latest_11 : decode xb_Sh_latest 11 = .ok (.aload_n 0, 1) := by decide +kernel
theorem xd_Sh_latest_12 : decode xb_Sh_latest 12 = .ok (.getfield 11, 3) := by decide +kernel
theorem xd_Sh_latest_15 : decode xb_Sh_latest 15 = .ok (.aload_n 0, 1) := by decide +kernel
theorem xd_Sh_latest_16 : decode xb_Sh_latest 16 = .ok (.getfield 17, 3) := by decide +kernel
theorem xd_Sh_latest_19 : decode xb_Sh_latest 19 = .ok (.iconst 1, 1) := by decide +kernel
theorem xd_Sh_latest_20 : decode xb_Sh_latest 20 = .ok (.isub, 1) := by decide +kernel
theorem xd_Sh_latest_21 : decode xb_Sh_latest 21 = .ok (.aaload, 1) := by decide +kernel
theorem xd_Sh_latest_22 : decode xb_Sh_latest 22 = .ok (.areturn, 1) := by decide +kernel
theorem yo_0 : (Cond.fieldLink "LayerDesk" 38 "LayerDesk" "made" "I") ∈ wT := wT_t (List.mem_append_left _ (List.mem_of_getElem? (i := 103) rfl)) rfl
theorem yo_1 : (Cond.fieldLink "LayerDesk" 34 "LayerDesk" "layers" "[LLayerDesk$Layer;") ∈ wT := wT_t (List.mem_append_left _ (List.mem_of_getElem? (i := 102) rfl)) rfl
theorem yo_2 : (Cond.fieldLink "LayerDesk" 117 "LayerDesk$Layer" "open" "Z") ∈ wT := wT_t (List.mem_append_right _ (List.mem_append_right _ (List.mem_append_left _ (List.mem_of_getElem? (i := 152) rfl)))) rfl
theorem yo_3 : (Cond.code xy_De_openLayer xb_De_openLayer 3 (some (.object "LayerDesk$Layer"))) ∈ wT := wT_t (List.mem_append_left _ (List.mem_of_getElem? (i := 137) rfl)) rfl
theorem yo_4 : (Cond.methodLink "LayerDesk" 68 xy_De_openLayer) ∈ wT := wT_t (List.mem_append_left _ (List.mem_of_getElem? (i := 134) rfl)) rfl
theorem yo_5 : (Cond.instanceMethod xy_De_openLayer) ∈ wT := wT_t (List.mem_append_left _ (List.mem_of_getElem? (i := 136) rfl)) rfl
theorem yo_6 : (Cond.selects "LayerDesk" xy_De_openLayer xy_De_openLayer) ∈ wT := wT_s (q := (xy_De_openLayer, 6)) (by decide +kernel) rfl
theorem yo_7 : (Cond.initialized "LayerDesk") ∈ wT := wT_t (List.mem_append_left _ (List.mem_of_getElem? (i := 1) rfl)) rfl
theorem yo_8 : (Cond.fieldLink "LayerDesk" 128 "LayerDesk$Layer" "members" "[LLayerDesk$Member;") ∈ wT := wT_t (List.mem_append_right _ (List.mem_append_right _ (List.mem_append_left _ (List.mem_of_getElem? (i := 150) rfl)))) rfl
theorem yo_9 : (Cond.code xy_Ly_withDescriptor xb_Ly_withDescriptor 3 (some (.object "LayerDesk$Member"))) ∈ wT := wT_t (List.mem_append_left _ (List.mem_of_getElem? (i := 173) rfl)) rfl
theorem yo_10 : (Cond.methodLink "LayerDesk" 195 xy_Ly_withDescriptor) ∈ wT := wT_t (List.mem_append_left _ (List.mem_of_getElem? (i := 170) rfl)) rfl
theorem yo_11 : (Cond.instanceMethod xy_Ly_withDescriptor) ∈ wT := wT_t (List.mem_append_left _ (List.mem_of_getElem? (i := 171) rfl)) rfl
theorem yo_12 : (Cond.selects "LayerDesk$Layer" xy_Ly_withDescriptor xy_Ly_withDescriptor) ∈ wT := wT_t (List.mem_append_left _ (List.mem_of_getElem? (i := 172) rfl)) rfl
theorem yo_13 : (Cond.initialized "LayerDesk$Layer") ∈ wT := wT_t (List.mem_append_left _ (List.mem_of_getElem? (i := 19) rfl)) rfl
theorem yo_14 : (Cond.fieldLink "LayerDesk" 217 "LayerDesk$Layer" "parent" "LLayerDesk$Layer;") ∈ wT := wT_t (List.mem_append_right _ (List.mem_append_right _ (List.mem_append_left _ (List.mem_of_getElem? (i := 146) rfl)))) rfl
theorem yo_15 : (Cond.fieldLink "LayerDesk" 19 "LayerDesk" "shelf" "LLayerDesk$Shelf;") ∈ wT := wT_t (List.mem_append_left _ (List.mem_of_getElem? (i := 100) rfl)) rfl
theorem yo_16 : (Cond.fieldLink "LayerDesk" 121 "LayerDesk$Shelf" "size" "I") ∈ wT := wT_t (List.mem_append_left _ (List.mem_of_getElem? (i := 67) rfl)) rfl
theorem yo_17 : (Cond.code xy_De_countOpen xb_De_countOpen 3 (some .int)) ∈ wT := wT_t (List.mem_append_left _ (List.mem_of_getElem? (i := 149) rfl)) rfl
theorem yo_18 : (Cond.methodLink "LayerDesk" 124 xy_De_countOpen) ∈ wT := wT_t (List.mem_append_left _ (List.mem_of_getElem? (i := 146) rfl)) rfl
theorem yo_19 : (Cond.instanceMethod xy_De_countOpen) ∈ wT := wT_t (List.mem_append_left _ (List.mem_of_getElem? (i := 148) rfl)) rfl
theorem yo_20 : (Cond.selects "LayerDesk" xy_De_countOpen xy_De_countOpen) ∈ wT := wT_s (q := (xy_De_countOpen, 6)) (by decide +kernel) rfl
theorem yo_21 : (Cond.code xy_De_memberAt xb_De_memberAt 4 (some (.object "LayerDesk$Member"))) ∈ wT := wT_t (List.mem_append_left _ (List.mem_of_getElem? (i := 161) rfl)) rfl
theorem yo_22 : (Cond.methodLink "LayerDesk" 132 xy_De_memberAt) ∈ wT := wT_t (List.mem_append_left _ (List.mem_of_getElem? (i := 158) rfl)) rfl
theorem yo_23 : (Cond.instanceMethod xy_De_memberAt) ∈ wT := wT_t (List.mem_append_left _ (List.mem_of_getElem? (i := 160) rfl)) rfl
theorem yo_24 : (Cond.selects "LayerDesk" xy_De_memberAt xy_De_memberAt) ∈ wT := wT_s (q := (xy_De_memberAt, 6)) (by decide +kernel) rfl
theorem yo_25 : (Cond.fieldLink "LayerDesk" 136 "LayerDesk$Member" "descriptor" "LLayerDesk$Descriptor;") ∈ wT := wT_t (List.mem_append_right _ (List.mem_append_right _ (List.mem_append_left _ (List.mem_of_getElem? (i := 185) rfl)))) rfl
theorem yo_26 : (Cond.fieldLink "LayerDesk" 142 "LayerDesk$Descriptor" "number" "I") ∈ wT := wT_t (List.mem_append_right _ (List.mem_append_left _ (List.mem_of_getElem? (i := 50) rfl))) rfl
theorem yo_27 : (Cond.code xy_De_memberOf xb_De_memberOf 4 (some (.object "LayerDesk$Member"))) ∈ wT := wT_t (List.mem_append_left _ (List.mem_of_getElem? (i := 169) rfl)) rfl
theorem yo_28 : (Cond.methodLink "LayerDesk" 145 xy_De_memberOf) ∈ wT := wT_t (List.mem_append_left _ (List.mem_of_getElem? (i := 166) rfl)) rfl
theorem yo_29 : (Cond.instanceMethod xy_De_memberOf) ∈ wT := wT_t (List.mem_append_left _ (List.mem_of_getElem? (i := 168) rfl)) rfl
theorem yo_30 : (Cond.selects "LayerDesk" xy_De_memberOf xy_De_memberOf) ∈ wT := wT_s (q := (xy_De_memberOf, 6)) (by decide +kernel) rfl
theorem yo_31 : (Cond.fieldLink "LayerDesk" 148 "LayerDesk$Member" "reading" "LLayerDesk$Reach;") ∈ wT := wT_t (List.mem_append_right _ (List.mem_append_right _ (List.mem_append_left _ (List.mem_of_getElem? (i := 192) rfl)))) rfl
theorem yo_32 : (Cond.code xy_Re_marks xb_Re_marks 2 (some .boolean)) ∈ wT := wT_t (List.mem_append_left _ (List.mem_of_getElem? (i := 177) rfl)) rfl
theorem yo_33 : (Cond.methodLink "LayerDesk" 152 xy_Re_marks) ∈ wT := wT_t (List.mem_append_left _ (List.mem_of_getElem? (i := 174) rfl)) rfl
theorem yo_34 : (Cond.instanceMethod xy_Re_marks) ∈ wT := wT_t (List.mem_append_left _ (List.mem_of_getElem? (i := 175) rfl)) rfl
theorem yo_35 : (Cond.selects "LayerDesk$Reach" xy_Re_marks xy_Re_marks) ∈ wT := wT_t (List.mem_append_left _ (List.mem_of_getElem? (i := 176) rfl)) rfl
theorem yo_36 : (Cond.initialized "LayerDesk$Reach") ∈ wT := wT_t (List.mem_append_left _ (List.mem_of_getElem? (i := 21) rfl)) rfl
theorem yo_37 : (Cond.fieldLink "LayerDesk" 42 "LayerDesk" "latestFault" "I") ∈ wT := wT_t (List.mem_append_left _ (List.mem_of_getElem? (i := 104) rfl)) rfl
theorem yo_38 : (Cond.fieldLink "LayerDesk$Shelf" 17 "LayerDesk$Shelf" "size" "I") ∈ wT := wT_t (List.mem_append_left _ (List.mem_of_getElem? (i := 66) rfl)) rfl
theorem yo_39 : (Cond.fieldLink "LayerDesk$Shelf" 11 "LayerDesk$Shelf" "descriptors" "[LLayerDesk$Descriptor;") ∈ wT := wT_t (List.mem_append_left _ (List.mem_of_getElem? (i := 64) rfl)) rfl
theorem yo_40 : (Cond.fieldLink "LayerDesk$Shelf" 21 "LayerDesk$Descriptor" "finder" "I") ∈ wT := wT_t (List.mem_append_right _ (List.mem_append_left _ (List.mem_of_getElem? (i := 52) rfl))) rfl
theorem yo_41 : (Cond.fieldLink "LayerDesk$Shelf" 24 "LayerDesk$Descriptor" "name" "I") ∈ wT := wT_t (List.mem_append_right _ (List.mem_append_left _ (List.mem_of_getElem? (i := 56) rfl))) rfl
theorem yo_42 : (Cond.fieldLink "LayerDesk$Chooser" 17 "LayerDesk$Chooser" "size" "I") ∈ wT := wT_t (List.mem_append_left _ (List.mem_of_getElem? (i := 83) rfl)) rfl
theorem yo_43 : (Cond.fieldLink "LayerDesk$Chooser" 11 "LayerDesk$Chooser" "chosen" "[LLayerDesk$Descriptor;") ∈ wT := wT_t (List.mem_append_left _ (List.mem_of_getElem? (i := 82) rfl)) rfl
theorem yo_44 : (Cond.fieldLink "LayerDesk$Line" 24 "LayerDesk$Line" "words" "I") ∈ wT := wT_t (List.mem_append_left _ (List.mem_of_getElem? (i := 40) rfl)) rfl
theorem yo_45 : (Cond.fieldLink "LayerDesk$Line" 17 "LayerDesk$Line" "ends" "[I") ∈ wT := wT_t (List.mem_append_left _ (List.mem_of_getElem? (i := 38) rfl)) rfl
theorem yo_46 : (Cond.fieldLink "LayerDesk$Line" 13 "LayerDesk$Line" "starts" "[I") ∈ wT := wT_t (List.mem_append_left _ (List.mem_of_getElem? (i := 37) rfl)) rfl
theorem yo_47 : (Cond.fieldLink "LayerDesk$Line" 9 "LayerDesk$Line" "text" "[C") ∈ wT := wT_t (List.mem_append_left _ (List.mem_of_getElem? (i := 36) rfl)) rfl
theorem yo_48 : (Cond.fieldLink "LayerDesk" 10 "LayerDesk" "written" "LLayerDesk$Line;") ∈ wT := wT_t (List.mem_append_left _ (List.mem_of_getElem? (i := 99) rfl)) rfl
theorem yo_49 : (Cond.fieldLink "LayerDesk" 198 "LayerDesk$Line" "words" "I") ∈ wT := wT_t (List.mem_append_left _ (List.mem_of_getElem? (i := 42) rfl)) rfl
theorem yo_50 : (Cond.code xy_Li_nameAt xb_Li_nameAt 4 (some .int)) ∈ wT := wT_t (List.mem_append_right _ (List.mem_append_left _ (List.mem_of_getElem? (i := 17) rfl))) rfl
theorem yo_51 : (Cond.methodLink "LayerDesk" 201 xy_Li_nameAt) ∈ wT := wT_t (List.mem_append_right _ (List.mem_append_right _ (List.mem_append_left _ (List.mem_of_getElem? (i := 60) rfl)))) rfl
theorem yo_52 : (Cond.instanceMethod xy_Li_nameAt) ∈ wT := wT_t (List.mem_append_right _ (List.mem_append_left _ (List.mem_of_getElem? (i := 15) rfl))) rfl
theorem yo_53 : (Cond.selects "LayerDesk$Line" xy_Li_nameAt xy_Li_nameAt) ∈ wT := wT_t (List.mem_append_right _ (List.mem_append_left _ (List.mem_of_getElem? (i := 16) rfl))) rfl
theorem yo_54 : (Cond.initialized "LayerDesk$Line") ∈ wT := wT_t (List.mem_append_left _ (List.mem_of_getElem? (i := 2) rfl)) rfl
set_option maxHeartbeats 4000000 in
set_option maxRecDepth 100000 in
theorem xc_De_openLayer (l : Launch) (D : va_G) (kA : Nat → ClassId) (sz : Nat) (ad : Nat → Nat → Nat) (E : Nat → Nat → va_E) (RL : List (Nat × Nat)) (ml : Nat) (nd : Nat) (len : Nat) (wn : Nat) (cs : Nat) (ix : Int32) (hCI : CI kA ad E RL ml nd len wn cs) : Met l xy_De_openLayer (.code xy_De_openLayer xb_De_openLayer 3 (some (.object "LayerDesk$Layer")) :: wT) { frames := 0, cells := 0, slots := 0, locals := 0 } (va_Pc [.ref (ad 0 0), .int ix] (xPre D kA sz (rp ad E RL))) (va_Qq (fun (r : Option Nat) (u : Unit) => r = none ∨ ∃ x, x < ml ∧ ix = nI x ∧ r = some (ad (20 + x) 0)) (fun (u : Unit) t => va_P D xcl (rp ad E RL) t.heap ∧ va_D (va_A (rp ad E RL) sz) (rp ad E RL)) (va_A (rp ad E RL) sz)) 0 0 (va_A (rp ad E RL) sz) := by
  refine Met.ofW (cc := xb_De_openLayer) (maxL := 3) (ret := (some (.object "LayerDesk$Layer"))) (by decide) rfl ?_
  intro p e s m args below meth c s₁ B hml hv
  obtain ⟨rfl, hsz, hP, hK, hD0⟩ := hv
  have hx := B.exec
  have hb := B.bytes
  have hr := B.returns
  have hT := x_hT B.pre
  have hown : s.vm.findClass xR_De = some m.cls := findClass_of_methodNamed B.named
  have hlocks := B.notSynchronized
  subst hsz
  have hD := hD0.self (sz := s.heap.size)
  generalize hAe : va_A (rp ad E RL) s.heap.size = A at hD ⊢
  have hA : ∀ q : Nat, s.heap.size ≤ q → A q := fun q h => by rw [← hAe]; exact Or.inr h
  have hS : va_S A s.heap s.heap [] := va_S.rf
  have hl := lv_entry ([.ref (ad 0 0), .int ix]) (n := 3) (Nat.le_of_ble_eq_true rfl)
  rw [lg_entry_eq]
  generalize (lg_sl ([.ref (ad 0 0), .int ix]) ++ List.replicate (3 - (lg_sl ([.ref (ad 0 0), .int ix])).length) Slot.unset).toArray = ls at hl ⊢
  have hl : lv_has ls 3 [(0, .ref (ad 0 0)), (1, .int ix)] := hl
  have hP : va_P D xcl (rp ad E RL) s.heap := hP
  obtain ⟨hmB, hDk, hLi, hSh, hCh, hLa, hDIs, hLIs⟩ := id hCI
  obtain ⟨lf_1, q_1⟩ := id (hDk)
  have c_2 : E 0 0 = .inr (0, [.ref (ad 0 1), .ref (ad 0 5), .ref (ad 0 7), .ref (ad 0 9), .int (nI ml), .int lf_1]) := q_1
  have m_3 : (0, 0) ∈ RL := hmB 0 (by omega)
  obtain ⟨fl_4, hml_4, q9_4, hla_4⟩ := id (hLa)
  have c_5 : E 0 9 = .inl (kA 5, 5, .inr (.inr (.inr (.inr fl_4)))) := q9_4
  have m_6 : (0, 9) ∈ RL := hmB 9 (by omega)
  refine lv_iload_n hx hb xd_De_openLayer_0 rfl (lv_at hl 1 rfl) ?_
  refine lv_if_lt (tgt := 12) hx hb xd_De_openLayer_1 (by decide) (fun hc7 => ?_) (fun hc7 => ?_)
  · refine lv_null hx hb xd_De_openLayer_12 ?_
    exact W.aret (v := .null) hx hb hr (Or.inl ⟨_, rfl⟩) (Or.inl rfl) (fun t ht hW => ⟨⟨none, (), rfl, Or.inl rfl, by rw [ht]; exact hP, hD⟩, hS.F ht⟩) hS.2.2 xd_De_openLayer_13
  · obtain ⟨x, hx31, hix⟩ := nI_of hc7
    rw [xb_31] at hx31
    rw [hix] at hl
    refine lv_iload_n hx hb xd_De_openLayer_4 rfl (lv_at hl 1 rfl) ?_
    refine lv_aload_n hx hb xd_De_openLayer_5 rfl (lv_at hl 0 rfl) ?_
    refine px_get (D := D) (ci := 0) (v := .int (nI ml)) (C := xR_De) (T := xT_De) (N := 6) hx hb hT xi_De hown hK.1 hP m_3 c_2 rfl 4 (by decide) (hT _ yo_0) (fun _ h9 => h9) rfl xd_De_openLayer_6 ?_
    refine xn_lt (a := x) (b := ml) (tgt := 14) hx hb xd_De_openLayer_9 (by decide) (by omega) (by omega) (fun hc8 => ?_) (fun hc8 => ?_)
    · refine lv_aload_n hx hb xd_De_openLayer_14 rfl (lv_at hl 0 rfl) ?_
      refine px_get (D := D) (ci := 0) (v := .ref (ad 0 9)) (C := xR_De) (T := xT_De) (N := 6) hx hb hT xi_De hown hK.1 hP m_3 c_2 rfl 3 (by decide) (hT _ yo_1) (fun _ h9 => h9) rfl xd_De_openLayer_15 ?_
      refine lv_iload_n hx hb xd_De_openLayer_18 rfl (lv_at hl 1 rfl) ?_
      refine px_aald (i := x) (x := (some (ad (20 + x) 0))) hx hb hK.1 hP m_6 c_5 5 rfl (hla_4 x (by omega)) (by omega) (by decide) xd_De_openLayer_19 ?_
      refine lv_astore_n hx hb xd_De_openLayer_20 rfl hl (Nat.le_of_ble_eq_true rfl) rfl (fun ls hl => ?_)
      have hl : lv_has ls 3 [(2, .ref (ad (20 + x) 0)), (0, .ref (ad 0 0)), (1, .int (nI x))] := hl
      refine lv_aload_n hx hb xd_De_openLayer_21 rfl (lv_at hl 0 rfl) ?_
      refine lv_ifnull hx hb xd_De_openLayer_22 ?_
      refine lv_aload_n hx hb xd_De_openLayer_25 rfl (lv_at hl 0 rfl) ?_
      obtain ⟨m0_9, m1_9, pv_9, op_9, mk_9, fm_9, hmk_9, hpv_9, q0_9, q1_9, hk_9⟩ := id (hLIs x (by omega))
      have c_10 : E (20 + x) 0 = .inr (5, [.int (nI x), pv_9, .ref (ad (20 + x) 1), .int op_9]) := q0_9
      have m_11 : (20 + x, 0) ∈ RL := m0_9
      have c_12 : E (20 + x) 1 = .inl (kA 6, mk_9, .inr (.inr (.inr (.inr fm_9)))) := q1_9
      have m_13 : (20 + x, 1) ∈ RL := m1_9
      refine px_get (D := D) (ci := 5) (v := .int op_9) (C := xR_Ly) (T := xT_Ly) (N := 4) hx hb hT xi_Ly hown hK.1 hP m_11 c_10 rfl 3 (by decide) (hT _ yo_2) (fun _ h9 => h9) rfl xd_De_openLayer_26 ?_
      refine lv_if_eq (tgt := 36) hx hb xd_De_openLayer_29 (by decide) (fun hc14 => ?_) (fun hc14 => ?_)
      · refine lv_null hx hb xd_De_openLayer_36 ?_
        exact W.aret (v := .null) hx hb hr (Or.inl ⟨_, rfl⟩) (Or.inl rfl) (fun t ht hW => ⟨⟨none, (), rfl, Or.inl rfl, by rw [ht]; exact hP, hD⟩, hS.F ht⟩) hS.2.2 xd_De_openLayer_37
      · refine lv_aload_n hx hb xd_De_openLayer_32 rfl (lv_at hl 0 rfl) ?_
        refine lv_goto (tgt := 37) hx hb xd_De_openLayer_33 (by decide) ?_
        exact W.aret (v := .ref (ad (20 + x) 0)) hx hb hr (Or.inl ⟨_, rfl⟩) (Or.inr ⟨_, rfl⟩) (fun t ht hW => ⟨⟨(some (ad (20 + x) 0)), (), rfl, Or.inr ⟨x, by omega, hix, rfl⟩, by rw [ht]; exact hP, hD⟩, hS.F ht⟩) hS.2.2 xd_De_openLayer_37
    · refine lv_null hx hb xd_De_openLayer_12 ?_
      exact W.aret (v := .null) hx hb hr (Or.inl ⟨_, rfl⟩) (Or.inl rfl) (fun t ht hW => ⟨⟨none, (), rfl, Or.inl rfl, by rw [ht]; exact hP, hD⟩, hS.F ht⟩) hS.2.2 xd_De_openLayer_13
set_option maxHeartbeats 4000000 in
set_option maxRecDepth 100000 in
theorem xc_De_memberAt (l : Launch) (D : va_G) (kA : Nat → ClassId) (sz : Nat) (ad : Nat → Nat → Nat) (E : Nat → Nat → va_E) (RL : List (Nat × Nat)) (ml : Nat) (nd : Nat) (len : Nat) (wn : Nat) (cs : Nat) (ix : Int32) (kx : Int32) (hCI : CI kA ad E RL ml nd len wn cs) : Met l xy_De_memberAt (.code xy_De_memberAt xb_De_memberAt 4 (some (.object "LayerDesk$Member")) :: wT) { frames := 1, cells := 0, slots := 0, locals := 22 } (va_Pc [.ref (ad 0 0), .int ix, .int kx] (xPre D kA sz (rp ad E RL))) (va_Qq (fun (r : Option Nat) (u : Unit) => r = none ∨ ∃ x k, x < ml ∧ r = some (ad (20 + x) (10 + 10 * k)) ∧ MEI kA ad E RL nd x k) (fun (u : Unit) t => va_P D xcl (rp ad E RL) t.heap ∧ va_D (va_A (rp ad E RL) sz) (rp ad E RL)) (va_A (rp ad E RL) sz)) 0 0 (va_A (rp ad E RL) sz) := by
  refine Met.ofW (cc := xb_De_memberAt) (maxL := 4) (ret := (some (.object "LayerDesk$Member"))) (by decide) rfl ?_
  intro p e s m args below meth c s₁ B hml hv
  obtain ⟨rfl, hsz, hP, hK, hD0⟩ := hv
  have hx := B.exec
  have hb := B.bytes
  have hr := B.returns
  have hT := x_hT B.pre
  have hown : s.vm.findClass xR_De = some m.cls := findClass_of_methodNamed B.named
  have hlocks := B.notSynchronized
  subst hsz
  have hD := hD0.self (sz := s.heap.size)
  generalize hAe : va_A (rp ad E RL) s.heap.size = A at hD ⊢
  have hA : ∀ q : Nat, s.heap.size ≤ q → A q := fun q h => by rw [← hAe]; exact Or.inr h
  have hS : va_S A s.heap s.heap [] := va_S.rf
  have hl := lv_entry ([.ref (ad 0 0), .int ix, .int kx]) (n := 4) (Nat.le_of_ble_eq_true rfl)
  rw [lg_entry_eq]
  generalize (lg_sl ([.ref (ad 0 0), .int ix, .int kx]) ++ List.replicate (4 - (lg_sl ([.ref (ad 0 0), .int ix, .int kx])).length) Slot.unset).toArray = ls at hl ⊢
  have hl : lv_has ls 4 [(0, .ref (ad 0 0)), (1, .int ix), (2, .int kx)] := hl
  have hP : va_P D xcl (rp ad E RL) s.heap := hP
  obtain ⟨hmB, hDk, hLi, hSh, hCh, hLa, hDIs, hLIs⟩ := id hCI
  obtain ⟨fl_1, hml_1, q9_1, hla_1⟩ := id (hLa)
  have c_2 : E 0 9 = .inl (kA 5, 5, .inr (.inr (.inr (.inr fl_1)))) := q9_1
  have m_3 : (0, 9) ∈ RL := hmB 9 (by omega)
  refine lv_aload_n hx hb xd_De_memberAt_0 rfl (lv_at hl 0 rfl) ?_
  refine lv_iload_n hx hb xd_De_memberAt_1 rfl (lv_at hl 1 rfl) ?_
  have hFc := px_free hD hS hA
  obtain ⟨lf_4, q_4⟩ := id (hDk)
  have c_5 : E 0 0 = .inr (0, [.ref (ad 0 1), .ref (ad 0 5), .ref (ad 0 7), .ref (ad 0 9), .int (nI ml), .int lf_4]) := q_4
  have m_6 : (0, 0) ∈ RL := hmB 0 (by omega)
  refine va_callq (va_runV (As := [.int ix]) (rest := []) ⟨hx, hb, hml, hown, hT⟩ (xc_De_openLayer l D kA s.heap.size ad E RL ml nd len wn cs ix (by first | assumption | omega)) (cwV 1 hT (wT_V yo_4 yo_5 yo_6 yo_7 yo_3) rfl rfl rfl (by decide +kernel) ⟨Nat.le_of_ble_eq_true rfl, Nat.le_of_ble_eq_true rfl⟩) (px_preV hK hP hD m_6 c_5 rfl) rfl rfl hl.1 rfl (lv_room (Nat.le_of_ble_eq_true rfl)) xd_De_memberAt_2 ⟨(Nat.le_of_ble_eq_true rfl), (Nat.le_of_ble_eq_true rfl)⟩) hS (fun q _ h => hFc q h) hFc (fun r7 u8 t H1 locs ht hvm hp9 hB hz1 hk1 hS => ?_)
  obtain ⟨hP1, hD1⟩ := hB
  rw [ht] at hP1
  have hD1 := hD1.weaken (fun _ _ _ h => hFc _ h)
  generalize H1 = H at hP1 hS ⊢
  have hP := hP1
  have hD := hD1
  have hP : va_P D xcl (rp ad E RL) H := hP
  have hD : va_D A (rp ad E RL) := hD
  rcases hp9 with rfl | ⟨z10, z11, z12, rfl⟩
  · refine W.eq (g2 := F0 m 5 ls [.null]) rfl ?_
    refine lv_astore_nN hx hb xd_De_memberAt_5 rfl hl (Nat.le_of_ble_eq_true rfl) rfl (fun ls hl => ?_)
    have hl : lv_has ls 4 [(3, .null), (0, .ref (ad 0 0)), (1, .int ix), (2, .int kx)] := hl
    refine lv_aload_nN hx hb xd_De_memberAt_6 rfl (lv_at hl 0 rfl) ?_
    refine lv_ifnullN (tgt := 23) hx hb xd_De_memberAt_7 (by decide) ?_
    refine lv_null hx hb xd_De_memberAt_23 ?_
    refine lv_goto (tgt := 33) hx hb xd_De_memberAt_24 (by decide) ?_
    exact W.aret (v := .null) hx hb hr (Or.inl ⟨_, rfl⟩) (Or.inl rfl) (fun t ht hW => ⟨⟨none, (), rfl, Or.inl rfl, by rw [ht]; exact hP, hD⟩, hS.F ht⟩) hS.2.2 xd_De_memberAt_33
  · refine W.eq (g2 := F0 m 5 ls [.ref (ad (20 + z10) 0)]) rfl ?_
    refine lv_astore_n hx hb xd_De_memberAt_5 rfl hl (Nat.le_of_ble_eq_true rfl) rfl (fun ls hl => ?_)
    have hl : lv_has ls 4 [(3, .ref (ad (20 + z10) 0)), (0, .ref (ad 0 0)), (1, .int ix), (2, .int kx)] := hl
    refine lv_aload_n hx hb xd_De_memberAt_6 rfl (lv_at hl 0 rfl) ?_
    refine lv_ifnull hx hb xd_De_memberAt_7 ?_
    refine lv_iload_n hx hb xd_De_memberAt_10 rfl (lv_at hl 3 rfl) ?_
    refine lv_if_lt (tgt := 23) hx hb xd_De_memberAt_11 (by decide) (fun hc13 => ?_) (fun hc13 => ?_)
    · refine lv_null hx hb xd_De_memberAt_23 ?_
      refine lv_goto (tgt := 33) hx hb xd_De_memberAt_24 (by decide) ?_
      exact W.aret (v := .null) hx hb hr (Or.inl ⟨_, rfl⟩) (Or.inl rfl) (fun t ht hW => ⟨⟨none, (), rfl, Or.inl rfl, by rw [ht]; exact hP, hD⟩, hS.F ht⟩) hS.2.2 xd_De_memberAt_33
    · obtain ⟨kn, hkn31, hkn⟩ := nI_of hc13
      rw [xb_31] at hkn31
      rw [hkn] at hl
      refine lv_iload_n hx hb xd_De_memberAt_14 rfl (lv_at hl 3 rfl) ?_
      refine lv_aload_n hx hb xd_De_memberAt_15 rfl (lv_at hl 0 rfl) ?_
      obtain ⟨m0_14, m1_14, pv_14, op_14, mk_14, fm_14, hmk_14, hpv_14, q0_14, q1_14, hk_14⟩ := id (hLIs z10 (by omega))
      have c_15 : E (20 + z10) 0 = .inr (5, [.int (nI z10), pv_14, .ref (ad (20 + z10) 1), .int op_14]) := q0_14
      have m_16 : (20 + z10, 0) ∈ RL := m0_14
      have c_17 : E (20 + z10) 1 = .inl (kA 6, mk_14, .inr (.inr (.inr (.inr fm_14)))) := q1_14
      have m_18 : (20 + z10, 1) ∈ RL := m1_14
      refine px_get (D := D) (ci := 5) (v := .ref (ad (20 + z10) 1)) (C := xR_Ly) (T := xT_Ly) (N := 4) hx hb hT xi_Ly hown hK.1 hP m_16 c_15 rfl 2 (by decide) (hT _ yo_8) (fun _ h9 => h9) rfl xd_De_memberAt_16 ?_
      refine px_alen hx hb hK.1 hP m_18 c_17 6 rfl xd_De_memberAt_19 ?_
      refine W.eq (g2 := F0 m 20 ls [.int (nI mk_14), .int (nI kn)]) rfl ?_
      refine xn_lt (a := kn) (b := mk_14) (tgt := 27) hx hb xd_De_memberAt_20 (by decide) (by omega) (by omega) (fun hc19 => ?_) (fun hc19 => ?_)
      · refine lv_aload_n hx hb xd_De_memberAt_27 rfl (lv_at hl 0 rfl) ?_
        refine px_get (D := D) (ci := 5) (v := .ref (ad (20 + z10) 1)) (C := xR_Ly) (T := xT_Ly) (N := 4) hx hb hT xi_Ly hown hK.1 hP m_16 c_15 rfl 2 (by decide) (hT _ yo_8) (fun _ h9 => h9) rfl xd_De_memberAt_28 ?_
        refine lv_iload_n hx hb xd_De_memberAt_31 rfl (lv_at hl 3 rfl) ?_
        refine px_aald (i := kn) (x := (some (ad (20 + z10) (10 + 10 * kn)))) hx hb hK.1 hP m_18 c_17 6 rfl ((hk_14 kn (by omega)).1) (by omega) (by omega) xd_De_memberAt_32 ?_
        exact W.aret (v := .ref (ad (20 + z10) (10 + 10 * kn))) hx hb hr (Or.inl ⟨_, rfl⟩) (Or.inr ⟨_, rfl⟩) (fun t ht hW => ⟨⟨(some (ad (20 + z10) (10 + 10 * kn))), (), rfl, Or.inr ⟨z10, kn, by omega, rfl, (hk_14 kn (by omega)).2⟩, by rw [ht]; exact hP, hD⟩, hS.F ht⟩) hS.2.2 xd_De_memberAt_33
      · refine lv_null hx hb xd_De_memberAt_23 ?_
        refine lv_goto (tgt := 33) hx hb xd_De_memberAt_24 (by decide) ?_
        exact W.aret (v := .null) hx hb hr (Or.inl ⟨_, rfl⟩) (Or.inl rfl) (fun t ht hW => ⟨⟨none, (), rfl, Or.inl rfl, by rw [ht]; exact hP, hD⟩, hS.F ht⟩) hS.2.2 xd_De_memberAt_33
set_option maxHeartbeats 4000000 in
set_option maxRecDepth 100000 in
theorem xc_De_memberOf (l : Launch) (D : va_G) (kA : Nat → ClassId) (sz : Nat) (ad : Nat → Nat → Nat) (E : Nat → Nat → va_E) (RL : List (Nat × Nat)) (ml : Nat) (nd : Nat) (len : Nat) (wn : Nat) (cs : Nat) (ix : Int32) (dx : Int32) (hCI : CI kA ad E RL ml nd len wn cs) : Met l xy_De_memberOf (.code xy_De_memberOf xb_De_memberOf 4 (some (.object "LayerDesk$Member")) :: wT) { frames := 1, cells := 0, slots := 0, locals := 22 } (va_Pc [.ref (ad 0 0), .int ix, .int dx] (xPre D kA sz (rp ad E RL))) (va_Qq (fun (r : Option Nat) (u : Unit) => r = none ∨ ∃ x k, x < ml ∧ r = some (ad (20 + x) (10 + 10 * k)) ∧ MEI kA ad E RL nd x k) (fun (u : Unit) t => va_P D xcl (rp ad E RL) t.heap ∧ va_D (va_A (rp ad E RL) sz) (rp ad E RL)) (va_A (rp ad E RL) sz)) 0 0 (va_A (rp ad E RL) sz) := by
  refine Met.ofW (cc := xb_De_memberOf) (maxL := 4) (ret := (some (.object "LayerDesk$Member"))) (by decide) rfl ?_
  intro p e s m args below meth c s₁ B hml hv
  obtain ⟨rfl, hsz, hP, hK, hD0⟩ := hv
  have hx := B.exec
  have hb := B.bytes
  have hr := B.returns
  have hT := x_hT B.pre
  have hown : s.vm.findClass xR_De = some m.cls := findClass_of_methodNamed B.named
  have hlocks := B.notSynchronized
  subst hsz
  have hD := hD0.self (sz := s.heap.size)
  generalize hAe : va_A (rp ad E RL) s.heap.size = A at hD ⊢
  have hA : ∀ q : Nat, s.heap.size ≤ q → A q := fun q h => by rw [← hAe]; exact Or.inr h
  have hS : va_S A s.heap s.heap [] := va_S.rf
  have hl := lv_entry ([.ref (ad 0 0), .int ix, .int dx]) (n := 4) (Nat.le_of_ble_eq_true rfl)
  rw [lg_entry_eq]
  generalize (lg_sl ([.ref (ad 0 0), .int ix, .int dx]) ++ List.replicate (4 - (lg_sl ([.ref (ad 0 0), .int ix, .int dx])).length) Slot.unset).toArray = ls at hl ⊢
  have hl : lv_has ls 4 [(0, .ref (ad 0 0)), (1, .int ix), (2, .int dx)] := hl
  have hP : va_P D xcl (rp ad E RL) s.heap := hP
  obtain ⟨hmB, hDk, hLi, hSh, hCh, hLa, hDIs, hLIs⟩ := id hCI
  obtain ⟨fl_1, hml_1, q9_1, hla_1⟩ := id (hLa)
  have c_2 : E 0 9 = .inl (kA 5, 5, .inr (.inr (.inr (.inr fl_1)))) := q9_1
  have m_3 : (0, 9) ∈ RL := hmB 9 (by omega)
  refine lv_aload_n hx hb xd_De_memberOf_0 rfl (lv_at hl 0 rfl) ?_
  refine lv_iload_n hx hb xd_De_memberOf_1 rfl (lv_at hl 1 rfl) ?_
  have hFc := px_free hD hS hA
  obtain ⟨lf_4, q_4⟩ := id (hDk)
  have c_5 : E 0 0 = .inr (0, [.ref (ad 0 1), .ref (ad 0 5), .ref (ad 0 7), .ref (ad 0 9), .int (nI ml), .int lf_4]) := q_4
  have m_6 : (0, 0) ∈ RL := hmB 0 (by omega)
  refine va_callq (va_runV (As := [.int ix]) (rest := []) ⟨hx, hb, hml, hown, hT⟩ (xc_De_openLayer l D kA s.heap.size ad E RL ml nd len wn cs ix (by first | assumption | omega)) (cwV 1 hT (wT_V yo_4 yo_5 yo_6 yo_7 yo_3) rfl rfl rfl (by decide +kernel) ⟨Nat.le_of_ble_eq_true rfl, Nat.le_of_ble_eq_true rfl⟩) (px_preV hK hP hD m_6 c_5 rfl) rfl rfl hl.1 rfl (lv_room (Nat.le_of_ble_eq_true rfl)) xd_De_memberOf_2 ⟨(Nat.le_of_ble_eq_true rfl), (Nat.le_of_ble_eq_true rfl)⟩) hS (fun q _ h => hFc q h) hFc (fun r7 u8 t H1 locs ht hvm hp9 hB hz1 hk1 hS => ?_)
  obtain ⟨hP1, hD1⟩ := hB
  rw [ht] at hP1
  have hD1 := hD1.weaken (fun _ _ _ h => hFc _ h)
  generalize H1 = H at hP1 hS ⊢
  have hP := hP1
  have hD := hD1
  have hP : va_P D xcl (rp ad E RL) H := hP
  have hD : va_D A (rp ad E RL) := hD
  rcases hp9 with rfl | ⟨z10, z11, z12, rfl⟩
  · refine W.eq (g2 := F0 m 5 ls [.null]) rfl ?_
    refine lv_astore_nN hx hb xd_De_memberOf_5 rfl hl (Nat.le_of_ble_eq_true rfl) rfl (fun ls hl => ?_)
    have hl : lv_has ls 4 [(3, .null), (0, .ref (ad 0 0)), (1, .int ix), (2, .int dx)] := hl
    refine lv_aload_nN hx hb xd_De_memberOf_6 rfl (lv_at hl 0 rfl) ?_
    refine lv_ifnonnullN hx hb xd_De_memberOf_7 ?_
    refine lv_null hx hb xd_De_memberOf_10 ?_
    refine lv_goto (tgt := 19) hx hb xd_De_memberOf_11 (by decide) ?_
    exact W.aret (v := .null) hx hb hr (Or.inl ⟨_, rfl⟩) (Or.inl rfl) (fun t ht hW => ⟨⟨none, (), rfl, Or.inl rfl, by rw [ht]; exact hP, hD⟩, hS.F ht⟩) hS.2.2 xd_De_memberOf_19
  · refine W.eq (g2 := F0 m 5 ls [.ref (ad (20 + z10) 0)]) rfl ?_
    refine lv_astore_n hx hb xd_De_memberOf_5 rfl hl (Nat.le_of_ble_eq_true rfl) rfl (fun ls hl => ?_)
    have hl : lv_has ls 4 [(3, .ref (ad (20 + z10) 0)), (0, .ref (ad 0 0)), (1, .int ix), (2, .int dx)] := hl
    refine lv_aload_n hx hb xd_De_memberOf_6 rfl (lv_at hl 0 rfl) ?_
    refine lv_ifnonnull (tgt := 14) hx hb xd_De_memberOf_7 (by decide) ?_
    refine lv_aload_n hx hb xd_De_memberOf_14 rfl (lv_at hl 0 rfl) ?_
    refine lv_iload_n hx hb xd_De_memberOf_15 rfl (lv_at hl 3 rfl) ?_
    have hFc := px_free hD hS hA
    obtain ⟨m0_13, m1_13, pv_13, op_13, mk_13, fm_13, hmk_13, hpv_13, q0_13, q1_13, hk_13⟩ := id (hLIs z10 (by omega))
    have c_14 : E (20 + z10) 0 = .inr (5, [.int (nI z10), pv_13, .ref (ad (20 + z10) 1), .int op_13]) := q0_13
    have m_15 : (20 + z10, 0) ∈ RL := m0_13
    have c_16 : E (20 + z10) 1 = .inl (kA 6, mk_13, .inr (.inr (.inr (.inr fm_13)))) := q1_13
    have m_17 : (20 + z10, 1) ∈ RL := m1_13
    refine va_callq (va_runV (As := [.int dx]) (rest := []) ⟨hx, hb, hml, hown, hT⟩ (xc_Ly_withDescriptor l D kA H.size ad E RL nd ml z10 dx (by first | assumption | omega) (by first | assumption | omega) (by first | assumption | omega) (by first | assumption | omega)) (cwV 1 hT (wT_V yo_10 yo_11 yo_12 yo_13 yo_9) rfl rfl rfl (by decide +kernel) ⟨Nat.le_of_ble_eq_true rfl, Nat.le_of_ble_eq_true rfl⟩) (px_preV hK hP hD m_15 c_14 rfl) rfl rfl hl.1 rfl (lv_room (Nat.le_of_ble_eq_true rfl)) xd_De_memberOf_16 ⟨(Nat.le_of_ble_eq_true rfl), (Nat.le_of_ble_eq_true rfl)⟩) hS (fun q _ h => hFc q h) hFc (fun r18 u19 t H1 locs ht hvm hp20 hB hz1 hk1 hS => ?_)
    obtain ⟨hP1, hD1⟩ := hB
    rw [ht] at hP1
    have hD1 := hD1.weaken (fun _ _ _ h => hFc _ h)
    generalize H1 = H at hP1 hS ⊢
    have hP := hP1
    have hD := hD1
    have hP : va_P D xcl (rp ad E RL) H := hP
    have hD : va_D A (rp ad E RL) := hD
    rcases hp20 with rfl | ⟨z21, z22, z23, rfl, z24⟩
    · refine W.eq (g2 := F0 m 19 ls [.null]) rfl ?_
      exact W.aret (v := .null) hx hb hr (Or.inl ⟨_, rfl⟩) (Or.inl rfl) (fun t ht hW => ⟨⟨none, (), rfl, Or.inl rfl, by rw [ht]; exact hP, hD⟩, hS.F ht⟩) hS.2.2 xd_De_memberOf_19
    · refine W.eq (g2 := F0 m 19 ls [.ref (ad (20 + z21) (10 + 10 * z22))]) rfl ?_
      exact W.aret (v := .ref (ad (20 + z21) (10 + 10 * z22))) hx hb hr (Or.inl ⟨_, rfl⟩) (Or.inr ⟨_, rfl⟩) (fun t ht hW => ⟨⟨(some (ad (20 + z21) (10 + 10 * z22))), (), rfl, Or.inr ⟨z21, z22, by omega, rfl, z24⟩, by rw [ht]; exact hP, hD⟩, hS.F ht⟩) hS.2.2 xd_De_memberOf_19
set_option maxHeartbeats 4000000 in
set_option maxRecDepth 100000 in
theorem xc_De_isParentOfOpen (l : Launch) (D : va_G) (kA : Nat → ClassId) (sz : Nat) (ad : Nat → Nat → Nat) (E : Nat → Nat → va_E) (RL : List (Nat × Nat)) (ml : Nat) (nd : Nat) (len : Nat) (wn : Nat) (cs : Nat) (n : Nat) (hCI : CI kA ad E RL ml nd len wn cs) : Met l xy_De_isParentOfOpen (.code xy_De_isParentOfOpen xb_De_isParentOfOpen 4 (some .boolean) :: wT) { frames := 1, cells := 0, slots := 0, locals := 22 } (va_Pc [.ref (ad 0 0), .ref (ad (20 + n) 0)] (xPre D kA sz (rp ad E RL))) (va_Qi (fun (r : Int32) (u : Unit) => r = 0 ∨ r = 1) (fun (u : Unit) t => va_P D xcl (rp ad E RL) t.heap ∧ va_D (va_A (rp ad E RL) sz) (rp ad E RL)) (va_A (rp ad E RL) sz)) 0 0 (va_A (rp ad E RL) sz) := by
  refine Met.ofW (cc := xb_De_isParentOfOpen) (maxL := 4) (ret := (some .boolean)) (by decide) rfl ?_
  intro p e s m args below meth c s₁ B hml hv
  obtain ⟨rfl, hsz, hP, hK, hD0⟩ := hv
  have hx := B.exec
  have hb := B.bytes
  have hr := B.returns
  have hT := x_hT B.pre
  have hown : s.vm.findClass xR_De = some m.cls := findClass_of_methodNamed B.named
  have hlocks := B.notSynchronized
  subst hsz
  have hD := hD0.self (sz := s.heap.size)
  generalize hAe : va_A (rp ad E RL) s.heap.size = A at hD ⊢
  have hA : ∀ q : Nat, s.heap.size ≤ q → A q := fun q h => by rw [← hAe]; exact Or.inr h
  have hS : va_S A s.heap s.heap [] := va_S.rf
  have hl := lv_entry ([.ref (ad 0 0), .ref (ad (20 + n) 0)]) (n := 4) (Nat.le_of_ble_eq_true rfl)
  rw [lg_entry_eq]
  generalize (lg_sl ([.ref (ad 0 0), .ref (ad (20 + n) 0)]) ++ List.replicate (4 - (lg_sl ([.ref (ad 0 0), .ref (ad (20 + n) 0)])).length) Slot.unset).toArray = ls at hl ⊢
  have hl : lv_has ls 4 [(0, .ref (ad 0 0)), (1, .ref (ad (20 + n) 0))] := hl
  have hP : va_P D xcl (rp ad E RL) s.heap := hP
  obtain ⟨hmB, hDk, hLi, hSh, hCh, hLa, hDIs, hLIs⟩ := id hCI
  obtain ⟨lf_1, q_1⟩ := id (hDk)
  have c_2 : E 0 0 = .inr (0, [.ref (ad 0 1), .ref (ad 0 5), .ref (ad 0 7), .ref (ad 0 9), .int (nI ml), .int lf_1]) := q_1
  have m_3 : (0, 0) ∈ RL := hmB 0 (by omega)
  obtain ⟨fl_4, hml_4, q9_4, hla_4⟩ := id (hLa)
  have c_5 : E 0 9 = .inl (kA 5, 5, .inr (.inr (.inr (.inr fl_4)))) := q9_4
  have m_6 : (0, 9) ∈ RL := hmB 9 (by omega)
  refine lv_iconst (v := 0) hx hb xd_De_isParentOfOpen_0 (by decide) ?_
  refine lv_istore_n hx hb xd_De_isParentOfOpen_1 rfl hl (Nat.le_of_ble_eq_true rfl) rfl (fun ls hl => ?_)
  have hl : lv_has ls 4 [(2, .int 0), (0, .ref (ad 0 0)), (1, .ref (ad (20 + n) 0))] := hl
  refine xlab (σ := Nat) (ml := 4) 2 (fun (i : Nat) => [(2, .int (nI i)), (0, .ref (ad 0 0)), (1, .ref (ad (20 + n) 0))]) (fun (i : Nat) => []) (fun (i : Nat) => rp ad E RL) (fun (i : Nat) => (i ≤ ml)) (fun (i : Nat) => ml - i) ?_ 0 _ _ _ (lv_sub hl [0, 1, 2] rfl) hP hD hS (show 0 ≤ ml from by first | assumption | omega)
  intro n9 ih7 a9 ls H locs hμ hl hP hD hS hI
  subst hμ
  obtain ⟨i, rfl⟩ : ∃ z, z = a9 := ⟨_, rfl⟩
  have hi : i ≤ ml := hI
  have hl : lv_has ls 4 [(2, .int (nI i)), (0, .ref (ad 0 0)), (1, .ref (ad (20 + n) 0))] := hl
  have hP : va_P D xcl (rp ad E RL) H := hP
  have hD : va_D A (rp ad E RL) := hD
  refine lv_iload_n hx hb xd_De_isParentOfOpen_2 rfl (lv_at hl 0 rfl) ?_
  refine lv_aload_n hx hb xd_De_isParentOfOpen_3 rfl (lv_at hl 1 rfl) ?_
  refine px_get (D := D) (ci := 0) (v := .int (nI ml)) (C := xR_De) (T := xT_De) (N := 6) hx hb hT xi_De hown hK.1 hP m_3 c_2 rfl 4 (by decide) (hT _ yo_0) (fun _ h9 => h9) rfl xd_De_isParentOfOpen_4 ?_
  refine xn_ge (a := i) (b := ml) (tgt := 36) hx hb xd_De_isParentOfOpen_7 (by decide) (by omega) (by omega) (fun hc8 => ?_) (fun hc8 => ?_)
  · refine lv_iconst (v := 0) hx hb xd_De_isParentOfOpen_36 (by decide) ?_
    exact W.zret (v := 0) hx hb hr rfl (fun t ht hW => ⟨⟨0, (), rfl, Or.inl rfl, by rw [ht]; exact hP, hD⟩, hS.F ht⟩) hS.2.2 xd_De_isParentOfOpen_37
  · refine lv_aload_n hx hb xd_De_isParentOfOpen_10 rfl (lv_at hl 1 rfl) ?_
    refine lv_iload_n hx hb xd_De_isParentOfOpen_11 rfl (lv_at hl 0 rfl) ?_
    have hFc := px_free hD hS hA
    refine va_callq (va_runV (As := [.int (nI i)]) (rest := []) ⟨hx, hb, hml, hown, hT⟩ (xc_De_openLayer l D kA H.size ad E RL ml nd len wn cs (nI i) (by first | assumption | omega)) (cwV 1 hT (wT_V yo_4 yo_5 yo_6 yo_7 yo_3) rfl rfl rfl (by decide +kernel) ⟨Nat.le_of_ble_eq_true rfl, Nat.le_of_ble_eq_true rfl⟩) (px_preV hK hP hD m_3 c_2 rfl) rfl rfl hl.1 rfl (lv_room (Nat.le_of_ble_eq_true rfl)) xd_De_isParentOfOpen_12 ⟨(Nat.le_of_ble_eq_true rfl), (Nat.le_of_ble_eq_true rfl)⟩) hS (fun q _ h => hFc q h) hFc (fun r9 u10 t H1 locs ht hvm hp11 hB hz1 hk1 hS => ?_)
    obtain ⟨hP1, hD1⟩ := hB
    rw [ht] at hP1
    have hD1 := hD1.weaken (fun _ _ _ h => hFc _ h)
    generalize H1 = H at hP1 hS ⊢
    have hP := hP1
    have hD := hD1
    have hP : va_P D xcl (rp ad E RL) H := hP
    have hD : va_D A (rp ad E RL) := hD
    rcases hp11 with rfl | ⟨z12, z13, z14, rfl⟩
    · refine W.eq (g2 := F0 m 15 ls [.null]) rfl ?_
      refine lv_astore_nN hx hb xd_De_isParentOfOpen_15 rfl hl (Nat.le_of_ble_eq_true rfl) rfl (fun ls hl => ?_)
      have hl : lv_has ls 4 [(3, .null), (2, .int (nI i)), (0, .ref (ad 0 0)), (1, .ref (ad (20 + n) 0))] := hl
      refine lv_aload_nN hx hb xd_De_isParentOfOpen_16 rfl (lv_at hl 0 rfl) ?_
      refine lv_ifnullN (tgt := 30) hx hb xd_De_isParentOfOpen_17 (by decide) ?_
      refine lv_iinc (k := 1) (x := (nI i)) (v := (nI (i + 1))) hx hb xd_De_isParentOfOpen_30 hl rfl (xb_inc i 1) (Nat.le_of_ble_eq_true rfl) rfl (fun ls hl => ?_)
      have hl : lv_has ls 4 [(2, .int (nI (i + 1))), (3, .null), (0, .ref (ad 0 0)), (1, .ref (ad (20 + n) 0))] := hl
      refine lv_goto (tgt := 2) hx hb xd_De_isParentOfOpen_33 (by decide) ?_
      exact ih7 (i + 1) _ _ _ (show ml - (i + 1) < ml - i by omega) (lv_sub hl [0, 2, 3] rfl) hP hD hS (show (i + 1) ≤ ml from by first | assumption | omega)
    · refine W.eq (g2 := F0 m 15 ls [.ref (ad (20 + z12) 0)]) rfl ?_
      refine lv_astore_n hx hb xd_De_isParentOfOpen_15 rfl hl (Nat.le_of_ble_eq_true rfl) rfl (fun ls hl => ?_)
      have hl : lv_has ls 4 [(3, .ref (ad (20 + z12) 0)), (2, .int (nI i)), (0, .ref (ad 0 0)), (1, .ref (ad (20 + n) 0))] := hl
      refine lv_aload_n hx hb xd_De_isParentOfOpen_16 rfl (lv_at hl 0 rfl) ?_
      refine lv_ifnull hx hb xd_De_isParentOfOpen_17 ?_
      refine lv_aload_n hx hb xd_De_isParentOfOpen_20 rfl (lv_at hl 0 rfl) ?_
      obtain ⟨m0_15, m1_15, pv_15, op_15, mk_15, fm_15, hmk_15, hpv_15, q0_15, q1_15, hk_15⟩ := id (hLIs z12 (by omega))
      have c_16 : E (20 + z12) 0 = .inr (5, [.int (nI z12), pv_15, .ref (ad (20 + z12) 1), .int op_15]) := q0_15
      have m_17 : (20 + z12, 0) ∈ RL := m0_15
      have c_18 : E (20 + z12) 1 = .inl (kA 6, mk_15, .inr (.inr (.inr (.inr fm_15)))) := q1_15
      have m_19 : (20 + z12, 1) ∈ RL := m1_15
      refine px_get (D := D) (ci := 5) (v := pv_15) (C := xR_Ly) (T := xT_Ly) (N := 4) hx hb hT xi_Ly hown hK.1 hP m_17 c_16 rfl 1 (by decide) (hT _ yo_14) (fun _ h9 => h9) rfl xd_De_isParentOfOpen_21 ?_
      rcases hpv_15 with rfl | ⟨x20, hx21, rfl⟩
      · refine W.eq (g2 := F0 m 24 ls [.null]) rfl ?_
        refine lv_aload_n hx hb xd_De_isParentOfOpen_24 rfl (lv_at hl 3 rfl) ?_
        refine lv_acmp_ne (rx := none) (ry := (some (ad (20 + n) 0))) (tgt := 30) hx hb xd_De_isParentOfOpen_25 (by decide) (fun hc22 => ?_) (fun hc22 => ?_)
        · refine lv_iinc (k := 1) (x := (nI i)) (v := (nI (i + 1))) hx hb xd_De_isParentOfOpen_30 hl rfl (xb_inc i 1) (Nat.le_of_ble_eq_true rfl) rfl (fun ls hl => ?_)
          have hl : lv_has ls 4 [(2, .int (nI (i + 1))), (3, .ref (ad (20 + z12) 0)), (0, .ref (ad 0 0)), (1, .ref (ad (20 + n) 0))] := hl
          refine lv_goto (tgt := 2) hx hb xd_De_isParentOfOpen_33 (by decide) ?_
          exact ih7 (i + 1) _ _ _ (show ml - (i + 1) < ml - i by omega) (lv_sub hl [0, 2, 3] rfl) hP hD hS (show (i + 1) ≤ ml from by first | assumption | omega)
        · refine lv_iconst (v := 1) hx hb xd_De_isParentOfOpen_28 (by decide) ?_
          exact W.zret (v := 1) hx hb hr rfl (fun t ht hW => ⟨⟨1, (), rfl, Or.inr rfl, by rw [ht]; exact hP, hD⟩, hS.F ht⟩) hS.2.2 xd_De_isParentOfOpen_29
      · refine W.eq (g2 := F0 m 24 ls [.ref (ad (20 + x20) 0)]) rfl ?_
        refine lv_aload_n hx hb xd_De_isParentOfOpen_24 rfl (lv_at hl 3 rfl) ?_
        refine lv_acmp_ne (rx := (some (ad (20 + x20) 0))) (ry := (some (ad (20 + n) 0))) (tgt := 30) hx hb xd_De_isParentOfOpen_25 (by decide) (fun hc23 => ?_) (fun hc23 => ?_)
        · refine lv_iinc (k := 1) (x := (nI i)) (v := (nI (i + 1))) hx hb xd_De_isParentOfOpen_30 hl rfl (xb_inc i 1) (Nat.le_of_ble_eq_true rfl) rfl (fun ls hl => ?_)
          have hl : lv_has ls 4 [(2, .int (nI (i + 1))), (3, .ref (ad (20 + z12) 0)), (0, .ref (ad 0 0)), (1, .ref (ad (20 + n) 0))] := hl
          refine lv_goto (tgt := 2) hx hb xd_De_isParentOfOpen_33 (by decide) ?_
          exact ih7 (i + 1) _ _ _ (show ml - (i + 1) < ml - i by omega) (lv_sub hl [0, 2, 3] rfl) hP hD hS (show (i + 1) ≤ ml from by first | assumption | omega)
        · refine lv_iconst (v := 1) hx hb xd_De_isParentOfOpen_28 (by decide) ?_
          exact W.zret (v := 1) hx hb hr rfl (fun t ht hW => ⟨⟨1, (), rfl, Or.inr rfl, by rw [ht]; exact hP, hD⟩, hS.F ht⟩) hS.2.2 xd_De_isParentOfOpen_29
set_option maxHeartbeats 4000000 in
set_option maxRecDepth 100000 in
theorem xc_De_countOpen (l : Launch) (D : va_G) (kA : Nat → ClassId) (sz : Nat) (ad : Nat → Nat → Nat) (E : Nat → Nat → va_E) (RL : List (Nat × Nat)) (ml : Nat) (nd : Nat) (len : Nat) (wn : Nat) (cs : Nat) (hCI : CI kA ad E RL ml nd len wn cs) : Met l xy_De_countOpen (.code xy_De_countOpen xb_De_countOpen 3 (some .int) :: wT) { frames := 1, cells := 0, slots := 0, locals := 22 } (va_Pc [.ref (ad 0 0)] (xPre D kA sz (rp ad E RL))) (va_Qi (fun (r : Int32) (u : Unit) => True) (fun (u : Unit) t => va_P D xcl (rp ad E RL) t.heap ∧ va_D (va_A (rp ad E RL) sz) (rp ad E RL)) (va_A (rp ad E RL) sz)) 0 0 (va_A (rp ad E RL) sz) := by
  refine Met.ofW (cc := xb_De_countOpen) (maxL := 3) (ret := (some .int)) (by decide) rfl ?_
  intro p e s m args below meth c s₁ B hml hv
  obtain ⟨rfl, hsz, hP, hK, hD0⟩ := hv
  have hx := B.exec
  have hb := B.bytes
  have hr := B.returns
  have hT := x_hT B.pre
  have hown : s.vm.findClass xR_De = some m.cls := findClass_of_methodNamed B.named
  have hlocks := B.notSynchronized
  subst hsz
  have hD := hD0.self (sz := s.heap.size)
  generalize hAe : va_A (rp ad E RL) s.heap.size = A at hD ⊢
  have hA : ∀ q : Nat, s.heap.size ≤ q → A q := fun q h => by rw [← hAe]; exact Or.inr h
  have hS : va_S A s.heap s.heap [] := va_S.rf
  have hl := lv_entry ([.ref (ad 0 0)]) (n := 3) (Nat.le_of_ble_eq_true rfl)
  rw [lg_entry_eq]
  generalize (lg_sl ([.ref (ad 0 0)]) ++ List.replicate (3 - (lg_sl ([.ref (ad 0 0)])).length) Slot.unset).toArray = ls at hl ⊢
  have hl : lv_has ls 3 [(0, .ref (ad 0 0))] := hl
  have hP : va_P D xcl (rp ad E RL) s.heap := hP
  obtain ⟨hmB, hDk, hLi, hSh, hCh, hLa, hDIs, hLIs⟩ := id hCI
  obtain ⟨lf_1, q_1⟩ := id (hDk)
  have c_2 : E 0 0 = .inr (0, [.ref (ad 0 1), .ref (ad 0 5), .ref (ad 0 7), .ref (ad 0 9), .int (nI ml), .int lf_1]) := q_1
  have m_3 : (0, 0) ∈ RL := hmB 0 (by omega)
  obtain ⟨fl_4, hml_4, q9_4, hla_4⟩ := id (hLa)
  have c_5 : E 0 9 = .inl (kA 5, 5, .inr (.inr (.inr (.inr fl_4)))) := q9_4
  have m_6 : (0, 9) ∈ RL := hmB 9 (by omega)
  refine lv_iconst (v := 0) hx hb xd_De_countOpen_0 (by decide) ?_
  refine lv_istore_n hx hb xd_De_countOpen_1 rfl hl (Nat.le_of_ble_eq_true rfl) rfl (fun ls hl => ?_)
  have hl : lv_has ls 3 [(1, .int 0), (0, .ref (ad 0 0))] := hl
  refine lv_iconst (v := 0) hx hb xd_De_countOpen_2 (by decide) ?_
  refine lv_istore_n hx hb xd_De_countOpen_3 rfl hl (Nat.le_of_ble_eq_true rfl) rfl (fun ls hl => ?_)
  have hl : lv_has ls 3 [(2, .int 0), (1, .int 0), (0, .ref (ad 0 0))] := hl
  refine xlab (σ := Nat × Int32) (ml := 3) 4 (fun (i, cn9) => [(2, .int (nI i)), (1, .int cn9), (0, .ref (ad 0 0))]) (fun (i, cn9) => []) (fun (i, cn9) => rp ad E RL) (fun (i, cn9) => (i ≤ ml)) (fun (i, cn9) => ml - i) ?_ (0, 0) _ _ _ (lv_sub hl [0, 1, 2] rfl) hP hD hS (show 0 ≤ ml from by first | assumption | omega)
  intro n9 ih7 a9 ls H locs hμ hl hP hD hS hI
  subst hμ
  obtain ⟨i, cn9⟩ := a9
  have hi : i ≤ ml := hI
  have hl : lv_has ls 3 [(2, .int (nI i)), (1, .int cn9), (0, .ref (ad 0 0))] := hl
  have hP : va_P D xcl (rp ad E RL) H := hP
  have hD : va_D A (rp ad E RL) := hD
  refine lv_iload_n hx hb xd_De_countOpen_4 rfl (lv_at hl 0 rfl) ?_
  refine lv_aload_n hx hb xd_De_countOpen_5 rfl (lv_at hl 2 rfl) ?_
  refine px_get (D := D) (ci := 0) (v := .int (nI ml)) (C := xR_De) (T := xT_De) (N := 6) hx hb hT xi_De hown hK.1 hP m_3 c_2 rfl 4 (by decide) (hT _ yo_0) (fun _ h9 => h9) rfl xd_De_countOpen_6 ?_
  refine xn_ge (a := i) (b := ml) (tgt := 29) hx hb xd_De_countOpen_9 (by decide) (by omega) (by omega) (fun hc8 => ?_) (fun hc8 => ?_)
  · refine lv_iload_n hx hb xd_De_countOpen_29 rfl (lv_at hl 1 rfl) ?_
    exact W.iret (v := cn9) hx hb hr (fun t ht hW => ⟨⟨cn9, (), rfl, trivial, by rw [ht]; exact hP, hD⟩, hS.F ht⟩) hS.2.2 xd_De_countOpen_30
  · refine lv_aload_n hx hb xd_De_countOpen_12 rfl (lv_at hl 2 rfl) ?_
    refine lv_iload_n hx hb xd_De_countOpen_13 rfl (lv_at hl 0 rfl) ?_
    have hFc := px_free hD hS hA
    refine va_callq (va_runV (As := [.int (nI i)]) (rest := []) ⟨hx, hb, hml, hown, hT⟩ (xc_De_openLayer l D kA H.size ad E RL ml nd len wn cs (nI i) (by first | assumption | omega)) (cwV 1 hT (wT_V yo_4 yo_5 yo_6 yo_7 yo_3) rfl rfl rfl (by decide +kernel) ⟨Nat.le_of_ble_eq_true rfl, Nat.le_of_ble_eq_true rfl⟩) (px_preV hK hP hD m_3 c_2 rfl) rfl rfl hl.1 rfl (lv_room (Nat.le_of_ble_eq_true rfl)) xd_De_countOpen_14 ⟨(Nat.le_of_ble_eq_true rfl), (Nat.le_of_ble_eq_true rfl)⟩) hS (fun q _ h => hFc q h) hFc (fun r9 u10 t H1 locs ht hvm hp11 hB hz1 hk1 hS => ?_)
    obtain ⟨hP1, hD1⟩ := hB
    rw [ht] at hP1
    have hD1 := hD1.weaken (fun _ _ _ h => hFc _ h)
    generalize H1 = H at hP1 hS ⊢
    have hP := hP1
    have hD := hD1
    have hP : va_P D xcl (rp ad E RL) H := hP
    have hD : va_D A (rp ad E RL) := hD
    rcases hp11 with rfl | ⟨z12, z13, z14, rfl⟩
    · refine W.eq (g2 := F0 m 17 ls [.null]) rfl ?_
      refine lv_ifnullN (tgt := 23) hx hb xd_De_countOpen_17 (by decide) ?_
      refine lv_iinc (k := 0) (x := (nI i)) (v := (nI (i + 1))) hx hb xd_De_countOpen_23 hl rfl (xb_inc i 1) (Nat.le_of_ble_eq_true rfl) rfl (fun ls hl => ?_)
      have hl : lv_has ls 3 [(2, .int (nI (i + 1))), (1, .int cn9), (0, .ref (ad 0 0))] := hl
      refine lv_goto (tgt := 4) hx hb xd_De_countOpen_26 (by decide) ?_
      exact ih7 (i + 1, cn9) _ _ _ (show ml - (i + 1) < ml - i by omega) (lv_sub hl [0, 1, 2] rfl) hP hD hS (show (i + 1) ≤ ml from by first | assumption | omega)
    · refine W.eq (g2 := F0 m 17 ls [.ref (ad (20 + z12) 0)]) rfl ?_
      refine lv_ifnull hx hb xd_De_countOpen_17 ?_
      refine lv_iinc (k := 1) (x := cn9) (v := (cn9 + Int32.ofInt 1)) hx hb xd_De_countOpen_20 hl rfl rfl (Nat.le_of_ble_eq_true rfl) rfl (fun ls hl => ?_)
      have hl : lv_has ls 3 [(1, .int (cn9 + Int32.ofInt 1)), (2, .int (nI i)), (0, .ref (ad 0 0))] := hl
      refine lv_iinc (k := 1) (x := (nI i)) (v := (nI (i + 1))) hx hb xd_De_countOpen_23 hl rfl (xb_inc i 1) (Nat.le_of_ble_eq_true rfl) rfl (fun ls hl => ?_)
      have hl : lv_has ls 3 [(2, .int (nI (i + 1))), (1, .int (cn9 + Int32.ofInt 1)), (0, .ref (ad 0 0))] := hl
      refine lv_goto (tgt := 4) hx hb xd_De_countOpen_26 (by decide) ?_
      exact ih7 (i + 1, (cn9 + Int32.ofInt 1)) _ _ _ (show ml - (i + 1) < ml - i by omega) (lv_sub hl [0, 1, 2] rfl) hP hD hS (show (i + 1) ≤ ml from by first | assumption | omega)
set_option maxHeartbeats 4000000 in
set_option maxRecDepth 100000 in
theorem xc_De_count (l : Launch) (D : va_G) (kA : Nat → ClassId) (sz : Nat) (ad : Nat → Nat → Nat) (E : Nat → Nat → va_E) (RL : List (Nat × Nat)) (ml : Nat) (nd : Nat) (len : Nat) (wn : Nat) (cs : Nat) (wh : Int32) (hCI : CI kA ad E RL ml nd len wn cs) : Met l xy_De_count (.code xy_De_count xb_De_count 2 (some .int) :: wT) { frames := 2, cells := 0, slots := 0, locals := 44 } (va_Pc [.ref (ad 0 0), .int wh] (xPre D kA sz (rp ad E RL))) (va_Qi (fun (r : Int32) (u : Unit) => True) (fun (u : Unit) t => va_P D xcl (rp ad E RL) t.heap ∧ va_D (va_A (rp ad E RL) sz) (rp ad E RL)) (va_A (rp ad E RL) sz)) 0 0 (va_A (rp ad E RL) sz) := by
  refine Met.ofW (cc := xb_De_count) (maxL := 2) (ret := (some .int)) (by decide) rfl ?_
  intro p e s m args below meth c s₁ B hml hv
  obtain ⟨rfl, hsz, hP, hK, hD0⟩ := hv
  have hx := B.exec
  have hb := B.bytes
  have hr := B.returns
  have hT := x_hT B.pre
  have hown : s.vm.findClass xR_De = some m.cls := findClass_of_methodNamed B.named
  have hlocks := B.notSynchronized
  subst hsz
  have hD := hD0.self (sz := s.heap.size)
  generalize hAe : va_A (rp ad E RL) s.heap.size = A at hD ⊢
  have hA : ∀ q : Nat, s.heap.size ≤ q → A q := fun q h => by rw [← hAe]; exact Or.inr h
  have hS : va_S A s.heap s.heap [] := va_S.rf
  have hl := lv_entry ([.ref (ad 0 0), .int wh]) (n := 2) (Nat.le_of_ble_eq_true rfl)
  rw [lg_entry_eq]
  generalize (lg_sl ([.ref (ad 0 0), .int wh]) ++ List.replicate (2 - (lg_sl ([.ref (ad 0 0), .int wh])).length) Slot.unset).toArray = ls at hl ⊢
  have hl : lv_has ls 2 [(0, .ref (ad 0 0)), (1, .int wh)] := hl
  have hP : va_P D xcl (rp ad E RL) s.heap := hP
  obtain ⟨hmB, hDk, hLi, hSh, hCh, hLa, hDIs, hLIs⟩ := id hCI
  obtain ⟨lf_1, q_1⟩ := id (hDk)
  have c_2 : E 0 0 = .inr (0, [.ref (ad 0 1), .ref (ad 0 5), .ref (ad 0 7), .ref (ad 0 9), .int (nI ml), .int lf_1]) := q_1
  have m_3 : (0, 0) ∈ RL := hmB 0 (by omega)
  refine lv_iload_n hx hb xd_De_count_0 rfl (lv_at hl 1 rfl) ?_
  by_cases hw4 : wh = 0
  · refine lv_tableIn (off := 27) (tgt := 28) hx hb xd_De_count_1 (by rw [hw4]; decide) (by rw [hw4]; decide) (by rw [hw4]; rfl) (by decide) ?_
    refine lv_aload_n hx hb xd_De_count_28 rfl (lv_at hl 0 rfl) ?_
    refine px_get (D := D) (ci := 0) (v := .ref (ad 0 5)) (C := xR_De) (T := xT_De) (N := 6) hx hb hT xi_De hown hK.1 hP m_3 c_2 rfl 1 (by decide) (hT _ yo_15) (fun _ h9 => h9) rfl xd_De_count_29 ?_
    obtain ⟨fd_5, hnd_5, q5_5, q6_5, hds_5⟩ := id (hSh)
    have c_6 : E 0 5 = .inr (2, [.ref (ad 0 6), .int (nI nd)]) := q5_5
    have m_7 : (0, 5) ∈ RL := hmB 5 (by omega)
    have c_8 : E 0 6 = .inl (kA 4, 12, .inr (.inr (.inr (.inr fd_5)))) := q6_5
    have m_9 : (0, 6) ∈ RL := hmB 6 (by omega)
    refine px_get (D := D) (ci := 2) (v := .int (nI nd)) (C := xR_Sh) (T := xT_Sh) (N := 2) hx hb hT xi_Sh hown hK.1 hP m_7 c_6 rfl 1 (by decide) (hT _ yo_16) (fun _ h9 => h9) rfl xd_De_count_32 ?_
    exact W.iret (v := (nI nd)) hx hb hr (fun t ht hW => ⟨⟨(nI nd), (), rfl, trivial, by rw [ht]; exact hP, hD⟩, hS.F ht⟩) hS.2.2 xd_De_count_35
  by_cases hw10 : wh = 1
  · refine lv_tableIn (off := 35) (tgt := 36) hx hb xd_De_count_1 (by rw [hw10]; decide) (by rw [hw10]; decide) (by rw [hw10]; rfl) (by decide) ?_
    refine lv_aload_n hx hb xd_De_count_36 rfl (lv_at hl 0 rfl) ?_
    refine px_get (D := D) (ci := 0) (v := .int (nI ml)) (C := xR_De) (T := xT_De) (N := 6) hx hb hT xi_De hown hK.1 hP m_3 c_2 rfl 4 (by decide) (hT _ yo_0) (fun _ h9 => h9) rfl xd_De_count_37 ?_
    exact W.iret (v := (nI ml)) hx hb hr (fun t ht hW => ⟨⟨(nI ml), (), rfl, trivial, by rw [ht]; exact hP, hD⟩, hS.F ht⟩) hS.2.2 xd_De_count_40
  by_cases hw11 : wh = 2
  · refine lv_tableIn (off := 40) (tgt := 41) hx hb xd_De_count_1 (by rw [hw11]; decide) (by rw [hw11]; decide) (by rw [hw11]; rfl) (by decide) ?_
    refine lv_aload_n hx hb xd_De_count_41 rfl (lv_at hl 0 rfl) ?_
    have hFc := px_free hD hS hA
    refine va_calli (va_runV (As := []) (rest := []) ⟨hx, hb, hml, hown, hT⟩ (xc_De_countOpen l D kA s.heap.size ad E RL ml nd len wn cs (by first | assumption | omega)) (cwV 0 hT (wT_V yo_18 yo_19 yo_20 yo_7 yo_17) rfl rfl rfl (by decide +kernel) ⟨Nat.le_of_ble_eq_true rfl, Nat.le_of_ble_eq_true rfl⟩) (px_preV hK hP hD m_3 c_2 rfl) rfl rfl hl.1 rfl (lv_room (Nat.le_of_ble_eq_true rfl)) xd_De_count_42 ⟨(Nat.le_of_ble_eq_true rfl), (Nat.le_of_ble_eq_true rfl)⟩) hS (fun q _ h => hFc q h) hFc (fun r12 u13 t H1 locs ht hvm hp14 hB hz1 hk1 hS => ?_)
    obtain ⟨hP1, hD1⟩ := hB
    rw [ht] at hP1
    have hD1 := hD1.weaken (fun _ _ _ h => hFc _ h)
    generalize H1 = H at hP1 hS ⊢
    have hP := hP1
    have hD := hD1
    have hP : va_P D xcl (rp ad E RL) H := hP
    have hD : va_D A (rp ad E RL) := hD
    exact W.iret (v := r12) hx hb hr (fun t ht hW => ⟨⟨r12, (), rfl, trivial, by rw [ht]; exact hP, hD⟩, hS.F ht⟩) hS.2.2 xd_De_count_45
  refine lv_tableOut (tgt := 46) hx hb xd_De_count_1 (by have a0 := lv_neT hw4 (show (0 : Int32).toInt = 0 by decide); have a1 := lv_neT hw10 (show (1 : Int32).toInt = 1 by decide); have a2 := lv_neT hw11 (show (2 : Int32).toInt = 2 by decide); omega) (by decide) ?_
  refine lv_iconst (v := (-1)) hx hb xd_De_count_46 (by decide) ?_
  exact W.iret (v := (-1)) hx hb hr (fun t ht hW => ⟨⟨(-1), (), rfl, trivial, by rw [ht]; exact hP, hD⟩, hS.F ht⟩) hS.2.2 xd_De_count_47
set_option maxHeartbeats 4000000 in
set_option maxRecDepth 100000 in
theorem xc_De_modules (l : Launch) (D : va_G) (kA : Nat → ClassId) (sz : Nat) (ad : Nat → Nat → Nat) (E : Nat → Nat → va_E) (RL : List (Nat × Nat)) (ml : Nat) (nd : Nat) (len : Nat) (wn : Nat) (cs : Nat) (ix : Int32) (hCI : CI kA ad E RL ml nd len wn cs) : Met l xy_De_modules (.code xy_De_modules xb_De_modules 3 (some .int) :: wT) { frames := 1, cells := 0, slots := 0, locals := 22 } (va_Pc [.ref (ad 0 0), .int ix] (xPre D kA sz (rp ad E RL))) (va_Qi (fun (r : Int32) (u : Unit) => True) (fun (u : Unit) t => va_P D xcl (rp ad E RL) t.heap ∧ va_D (va_A (rp ad E RL) sz) (rp ad E RL)) (va_A (rp ad E RL) sz)) 0 0 (va_A (rp ad E RL) sz) := by
  refine Met.ofW (cc := xb_De_modules) (maxL := 3) (ret := (some .int)) (by decide) rfl ?_
  intro p e s m args below meth c s₁ B hml hv
  obtain ⟨rfl, hsz, hP, hK, hD0⟩ := hv
  have hx := B.exec
  have hb := B.bytes
  have hr := B.returns
  have hT := x_hT B.pre
  have hown : s.vm.findClass xR_De = some m.cls := findClass_of_methodNamed B.named
  have hlocks := B.notSynchronized
  subst hsz
  have hD := hD0.self (sz := s.heap.size)
  generalize hAe : va_A (rp ad E RL) s.heap.size = A at hD ⊢
  have hA : ∀ q : Nat, s.heap.size ≤ q → A q := fun q h => by rw [← hAe]; exact Or.inr h
  have hS : va_S A s.heap s.heap [] := va_S.rf
  have hl := lv_entry ([.ref (ad 0 0), .int ix]) (n := 3) (Nat.le_of_ble_eq_true rfl)
  rw [lg_entry_eq]
  generalize (lg_sl ([.ref (ad 0 0), .int ix]) ++ List.replicate (3 - (lg_sl ([.ref (ad 0 0), .int ix])).length) Slot.unset).toArray = ls at hl ⊢
  have hl : lv_has ls 3 [(0, .ref (ad 0 0)), (1, .int ix)] := hl
  have hP : va_P D xcl (rp ad E RL) s.heap := hP
  obtain ⟨hmB, hDk, hLi, hSh, hCh, hLa, hDIs, hLIs⟩ := id hCI
  obtain ⟨fl_1, hml_1, q9_1, hla_1⟩ := id (hLa)
  have c_2 : E 0 9 = .inl (kA 5, 5, .inr (.inr (.inr (.inr fl_1)))) := q9_1
  have m_3 : (0, 9) ∈ RL := hmB 9 (by omega)
  refine lv_aload_n hx hb xd_De_modules_0 rfl (lv_at hl 0 rfl) ?_
  refine lv_iload_n hx hb xd_De_modules_1 rfl (lv_at hl 1 rfl) ?_
  have hFc := px_free hD hS hA
  obtain ⟨lf_4, q_4⟩ := id (hDk)
  have c_5 : E 0 0 = .inr (0, [.ref (ad 0 1), .ref (ad 0 5), .ref (ad 0 7), .ref (ad 0 9), .int (nI ml), .int lf_4]) := q_4
  have m_6 : (0, 0) ∈ RL := hmB 0 (by omega)
  refine va_callq (va_runV (As := [.int ix]) (rest := []) ⟨hx, hb, hml, hown, hT⟩ (xc_De_openLayer l D kA s.heap.size ad E RL ml nd len wn cs ix (by first | assumption | omega)) (cwV 1 hT (wT_V yo_4 yo_5 yo_6 yo_7 yo_3) rfl rfl rfl (by decide +kernel) ⟨Nat.le_of_ble_eq_true rfl, Nat.le_of_ble_eq_true rfl⟩) (px_preV hK hP hD m_6 c_5 rfl) rfl rfl hl.1 rfl (lv_room (Nat.le_of_ble_eq_true rfl)) xd_De_modules_2 ⟨(Nat.le_of_ble_eq_true rfl), (Nat.le_of_ble_eq_true rfl)⟩) hS (fun q _ h => hFc q h) hFc (fun r7 u8 t H1 locs ht hvm hp9 hB hz1 hk1 hS => ?_)
  obtain ⟨hP1, hD1⟩ := hB
  rw [ht] at hP1
  have hD1 := hD1.weaken (fun _ _ _ h => hFc _ h)
  generalize H1 = H at hP1 hS ⊢
  have hP := hP1
  have hD := hD1
  have hP : va_P D xcl (rp ad E RL) H := hP
  have hD : va_D A (rp ad E RL) := hD
  rcases hp9 with rfl | ⟨z10, z11, z12, rfl⟩
  · refine W.eq (g2 := F0 m 5 ls [.null]) rfl ?_
    refine lv_astore_nN hx hb xd_De_modules_5 rfl hl (Nat.le_of_ble_eq_true rfl) rfl (fun ls hl => ?_)
    have hl : lv_has ls 3 [(2, .null), (0, .ref (ad 0 0)), (1, .int ix)] := hl
    refine lv_aload_nN hx hb xd_De_modules_6 rfl (lv_at hl 0 rfl) ?_
    refine lv_ifnonnullN hx hb xd_De_modules_7 ?_
    refine lv_iconst (v := (-1)) hx hb xd_De_modules_10 (by decide) ?_
    refine lv_goto (tgt := 19) hx hb xd_De_modules_11 (by decide) ?_
    exact W.iret (v := (-1)) hx hb hr (fun t ht hW => ⟨⟨(-1), (), rfl, trivial, by rw [ht]; exact hP, hD⟩, hS.F ht⟩) hS.2.2 xd_De_modules_19
  · refine W.eq (g2 := F0 m 5 ls [.ref (ad (20 + z10) 0)]) rfl ?_
    refine lv_astore_n hx hb xd_De_modules_5 rfl hl (Nat.le_of_ble_eq_true rfl) rfl (fun ls hl => ?_)
    have hl : lv_has ls 3 [(2, .ref (ad (20 + z10) 0)), (0, .ref (ad 0 0)), (1, .int ix)] := hl
    refine lv_aload_n hx hb xd_De_modules_6 rfl (lv_at hl 0 rfl) ?_
    refine lv_ifnonnull (tgt := 14) hx hb xd_De_modules_7 (by decide) ?_
    refine lv_aload_n hx hb xd_De_modules_14 rfl (lv_at hl 0 rfl) ?_
    obtain ⟨m0_13, m1_13, pv_13, op_13, mk_13, fm_13, hmk_13, hpv_13, q0_13, q1_13, hk_13⟩ := id (hLIs z10 (by omega))
    have c_14 : E (20 + z10) 0 = .inr (5, [.int (nI z10), pv_13, .ref (ad (20 + z10) 1), .int op_13]) := q0_13
    have m_15 : (20 + z10, 0) ∈ RL := m0_13
    have c_16 : E (20 + z10) 1 = .inl (kA 6, mk_13, .inr (.inr (.inr (.inr fm_13)))) := q1_13
    have m_17 : (20 + z10, 1) ∈ RL := m1_13
    refine px_get (D := D) (ci := 5) (v := .ref (ad (20 + z10) 1)) (C := xR_Ly) (T := xT_Ly) (N := 4) hx hb hT xi_Ly hown hK.1 hP m_15 c_14 rfl 2 (by decide) (hT _ yo_8) (fun _ h9 => h9) rfl xd_De_modules_15 ?_
    refine px_alen hx hb hK.1 hP m_17 c_16 6 rfl xd_De_modules_18 ?_
    refine W.eq (g2 := F0 m 19 ls [.int (nI mk_13)]) rfl ?_
    exact W.iret (v := (nI mk_13)) hx hb hr (fun t ht hW => ⟨⟨(nI mk_13), (), rfl, trivial, by rw [ht]; exact hP, hD⟩, hS.F ht⟩) hS.2.2 xd_De_modules_19
set_option maxHeartbeats 4000000 in
set_option maxRecDepth 100000 in
theorem xc_De_module (l : Launch) (D : va_G) (kA : Nat → ClassId) (sz : Nat) (ad : Nat → Nat → Nat) (E : Nat → Nat → va_E) (RL : List (Nat × Nat)) (ml : Nat) (nd : Nat) (len : Nat) (wn : Nat) (cs : Nat) (ix : Int32) (kx : Int32) (hCI : CI kA ad E RL ml nd len wn cs) : Met l xy_De_module (.code xy_De_module xb_De_module 4 (some .int) :: wT) { frames := 2, cells := 0, slots := 0, locals := 45 } (va_Pc [.ref (ad 0 0), .int ix, .int kx] (xPre D kA sz (rp ad E RL))) (va_Qi (fun (r : Int32) (u : Unit) => True) (fun (u : Unit) t => va_P D xcl (rp ad E RL) t.heap ∧ va_D (va_A (rp ad E RL) sz) (rp ad E RL)) (va_A (rp ad E RL) sz)) 0 0 (va_A (rp ad E RL) sz) := by
  refine Met.ofW (cc := xb_De_module) (maxL := 4) (ret := (some .int)) (by decide) rfl ?_
  intro p e s m args below meth c s₁ B hml hv
  obtain ⟨rfl, hsz, hP, hK, hD0⟩ := hv
  have hx := B.exec
  have hb := B.bytes
  have hr := B.returns
  have hT := x_hT B.pre
  have hown : s.vm.findClass xR_De = some m.cls := findClass_of_methodNamed B.named
  have hlocks := B.notSynchronized
  subst hsz
  have hD := hD0.self (sz := s.heap.size)
  generalize hAe : va_A (rp ad E RL) s.heap.size = A at hD ⊢
  have hA : ∀ q : Nat, s.heap.size ≤ q → A q := fun q h => by rw [← hAe]; exact Or.inr h
  have hS : va_S A s.heap s.heap [] := va_S.rf
  have hl := lv_entry ([.ref (ad 0 0), .int ix, .int kx]) (n := 4) (Nat.le_of_ble_eq_true rfl)
  rw [lg_entry_eq]
  generalize (lg_sl ([.ref (ad 0 0), .int ix, .int kx]) ++ List.replicate (4 - (lg_sl ([.ref (ad 0 0), .int ix, .int kx])).length) Slot.unset).toArray = ls at hl ⊢
  have hl : lv_has ls 4 [(0, .ref (ad 0 0)), (1, .int ix), (2, .int kx)] := hl
  have hP : va_P D xcl (rp ad E RL) s.heap := hP
  obtain ⟨hmB, hDk, hLi, hSh, hCh, hLa, hDIs, hLIs⟩ := id hCI
  obtain ⟨fl_1, hml_1, q9_1, hla_1⟩ := id (hLa)
  have c_2 : E 0 9 = .inl (kA 5, 5, .inr (.inr (.inr (.inr fl_1)))) := q9_1
  have m_3 : (0, 9) ∈ RL := hmB 9 (by omega)
  refine lv_aload_n hx hb xd_De_module_0 rfl (lv_at hl 0 rfl) ?_
  refine lv_iload_n hx hb xd_De_module_1 rfl (lv_at hl 1 rfl) ?_
  refine lv_iload_n hx hb xd_De_module_2 rfl (lv_at hl 2 rfl) ?_
  have hFc := px_free hD hS hA
  obtain ⟨lf_4, q_4⟩ := id (hDk)
  have c_5 : E 0 0 = .inr (0, [.ref (ad 0 1), .ref (ad 0 5), .ref (ad 0 7), .ref (ad 0 9), .int (nI ml), .int lf_4]) := q_4
  have m_6 : (0, 0) ∈ RL := hmB 0 (by omega)
  refine va_callq (va_runV (As := [.int ix, .int kx]) (rest := []) ⟨hx, hb, hml, hown, hT⟩ (xc_De_memberAt l D kA s.heap.size ad E RL ml nd len wn cs ix kx (by first | assumption | omega)) (cwV 2 hT (wT_V yo_22 yo_23 yo_24 yo_7 yo_21) rfl rfl rfl (by decide +kernel) ⟨Nat.le_of_ble_eq_true rfl, Nat.le_of_ble_eq_true rfl⟩) (px_preV hK hP hD m_6 c_5 rfl) rfl rfl hl.1 rfl (lv_room (Nat.le_of_ble_eq_true rfl)) xd_De_module_3 ⟨(Nat.le_of_ble_eq_true rfl), (Nat.le_of_ble_eq_true rfl)⟩) hS (fun q _ h => hFc q h) hFc (fun r7 u8 t H1 locs ht hvm hp9 hB hz1 hk1 hS => ?_)
  obtain ⟨hP1, hD1⟩ := hB
  rw [ht] at hP1
  have hD1 := hD1.weaken (fun _ _ _ h => hFc _ h)
  generalize H1 = H at hP1 hS ⊢
  have hP := hP1
  have hD := hD1
  have hP : va_P D xcl (rp ad E RL) H := hP
  have hD : va_D A (rp ad E RL) := hD
  rcases hp9 with rfl | ⟨z10, z11, z12, rfl, z13⟩
  · refine W.eq (g2 := F0 m 6 ls [.null]) rfl ?_
    refine lv_astore_nN hx hb xd_De_module_6 rfl hl (Nat.le_of_ble_eq_true rfl) rfl (fun ls hl => ?_)
    have hl : lv_has ls 4 [(3, .null), (0, .ref (ad 0 0)), (1, .int ix), (2, .int kx)] := hl
    refine lv_aload_nN hx hb xd_De_module_7 rfl (lv_at hl 0 rfl) ?_
    refine lv_ifnonnullN hx hb xd_De_module_8 ?_
    refine lv_iconst (v := (-1)) hx hb xd_De_module_11 (by decide) ?_
    refine lv_goto (tgt := 22) hx hb xd_De_module_12 (by decide) ?_
    exact W.iret (v := (-1)) hx hb hr (fun t ht hW => ⟨⟨(-1), (), rfl, trivial, by rw [ht]; exact hP, hD⟩, hS.F ht⟩) hS.2.2 xd_De_module_22
  · refine W.eq (g2 := F0 m 6 ls [.ref (ad (20 + z10) (10 + 10 * z11))]) rfl ?_
    refine lv_astore_n hx hb xd_De_module_6 rfl hl (Nat.le_of_ble_eq_true rfl) rfl (fun ls hl => ?_)
    have hl : lv_has ls 4 [(3, .ref (ad (20 + z10) (10 + 10 * z11))), (0, .ref (ad 0 0)), (1, .int ix), (2, .int kx)] := hl
    refine lv_aload_n hx hb xd_De_module_7 rfl (lv_at hl 0 rfl) ?_
    refine lv_ifnonnull (tgt := 15) hx hb xd_De_module_8 (by decide) ?_
    refine lv_aload_n hx hb xd_De_module_15 rfl (lv_at hl 0 rfl) ?_
    obtain ⟨hm_14, d_14, rs_14, fr_14, g2_14, g3_14, g4_14, hd_14, hrs_14, q0_14, q1_14, q2_14, q3_14, q4_14, q5_14, q6_14, q7_14⟩ := id z13
    have c_15 : E (20 + z10) (10 + 10 * z11) = .inr (6, [.ref (ad (20 + z10) 0), .ref (ad (1 + d_14) 0), .ref (ad (20 + z10) (11 + 10 * z11)), .ref (ad (20 + z10) (12 + 10 * z11)), .ref (ad (20 + z10) (13 + 10 * z11)), .ref (ad (20 + z10) (14 + 10 * z11))]) := q0_14
    have m_16 : (20 + z10, 10 + 10 * z11) ∈ RL := hm_14 0 (by omega)
    have c_17 : E (20 + z10) (11 + 10 * z11) = .inl (kA 6, rs_14, .inr (.inr (.inr (.inr fr_14)))) := q1_14
    have m_18 : (20 + z10, 11 + 10 * z11) ∈ RL := hm_14 1 (by omega)
    have c_19 : E (20 + z10) (12 + 10 * z11) = .inr (10, [.ref (ad (20 + z10) (15 + 10 * z11))]) := q2_14
    have m_20 : (20 + z10, 12 + 10 * z11) ∈ RL := hm_14 2 (by omega)
    have c_21 : E (20 + z10) (13 + 10 * z11) = .inr (10, [.ref (ad (20 + z10) (16 + 10 * z11))]) := q3_14
    have m_22 : (20 + z10, 13 + 10 * z11) ∈ RL := hm_14 3 (by omega)
    have c_23 : E (20 + z10) (14 + 10 * z11) = .inr (10, [.ref (ad (20 + z10) (17 + 10 * z11))]) := q4_14
    have m_24 : (20 + z10, 14 + 10 * z11) ∈ RL := hm_14 4 (by omega)
    have c_25 : E (20 + z10) (15 + 10 * z11) = .inl (kA 0, 6, .inl g2_14) := q5_14
    have m_26 : (20 + z10, 15 + 10 * z11) ∈ RL := hm_14 5 (by omega)
    have c_27 : E (20 + z10) (16 + 10 * z11) = .inl (kA 0, 6, .inl g3_14) := q6_14
    have m_28 : (20 + z10, 16 + 10 * z11) ∈ RL := hm_14 6 (by omega)
    have c_29 : E (20 + z10) (17 + 10 * z11) = .inl (kA 0, 6, .inl g4_14) := q7_14
    have m_30 : (20 + z10, 17 + 10 * z11) ∈ RL := hm_14 7 (by omega)
    refine px_get (D := D) (ci := 6) (v := .ref (ad (1 + d_14) 0)) (C := xR_Me) (T := xT_Me) (N := 6) hx hb hT xi_Me hown hK.1 hP m_16 c_15 rfl 1 (by decide) (hT _ yo_25) (fun _ h9 => h9) rfl xd_De_module_16 ?_
    obtain ⟨hm_31, fd_31, nm_31, sd_31, k0_31, k1_31, k2_31, k3_31, f0_31, f1_31, f2_31, f3_31, fe_31, fo_31, tr_31, op_31, hk0_31, hk1_31, hk2_31, hk3_31, q0_31, q1_31, q2_31, q3_31, q4_31, q5_31, q6_31, q7_31, q8_31, q9_31, q10_31, q11_31, q12_31, hg_31⟩ := id (hDIs d_14 (by omega))
    have c_32 : E (1 + d_14) 0 = .inr (7, [.int (nI d_14), .int fd_31, .int nm_31, .ref (ad (1 + d_14) 1), .ref (ad (1 + d_14) 9), .ref (ad (1 + d_14) 10), .ref (ad (1 + d_14) 2), .ref (ad (1 + d_14) 11), .ref (ad (1 + d_14) 12), .ref (ad (1 + d_14) 3), .ref (ad (1 + d_14) 4), .int sd_31]) := q0_31
    have m_33 : (1 + d_14, 0) ∈ RL := hm_31 0 (by omega)
    have c_34 : E (1 + d_14) 1 = .inr (8, [.ref (ad (1 + d_14) 5), .int (nI k0_31)]) := q1_31
    have m_35 : (1 + d_14, 1) ∈ RL := hm_31 1 (by omega)
    have c_36 : E (1 + d_14) 2 = .inr (8, [.ref (ad (1 + d_14) 6), .int (nI k1_31)]) := q2_31
    have m_37 : (1 + d_14, 2) ∈ RL := hm_31 2 (by omega)
    have c_38 : E (1 + d_14) 3 = .inr (8, [.ref (ad (1 + d_14) 7), .int (nI k2_31)]) := q3_31
    have m_39 : (1 + d_14, 3) ∈ RL := hm_31 3 (by omega)
    have c_40 : E (1 + d_14) 4 = .inr (8, [.ref (ad (1 + d_14) 8), .int (nI k3_31)]) := q4_31
    have m_41 : (1 + d_14, 4) ∈ RL := hm_31 4 (by omega)
    have c_42 : E (1 + d_14) 5 = .inl (kA 0, 6, .inl f0_31) := q5_31
    have m_43 : (1 + d_14, 5) ∈ RL := hm_31 5 (by omega)
    have c_44 : E (1 + d_14) 6 = .inl (kA 0, 5, .inl f1_31) := q6_31
    have m_45 : (1 + d_14, 6) ∈ RL := hm_31 6 (by omega)
    have c_46 : E (1 + d_14) 7 = .inl (kA 0, 3, .inl f2_31) := q7_31
    have m_47 : (1 + d_14, 7) ∈ RL := hm_31 7 (by omega)
    have c_48 : E (1 + d_14) 8 = .inl (kA 0, 3, .inl f3_31) := q8_31
    have m_49 : (1 + d_14, 8) ∈ RL := hm_31 8 (by omega)
    have c_50 : E (1 + d_14) 9 = .inl (kA 8, 6, .inr (.inr (.inr (.inr fe_31)))) := q9_31
    have m_51 : (1 + d_14, 9) ∈ RL := hm_31 9 (by omega)
    have c_52 : E (1 + d_14) 10 = .inl (kA 8, 6, .inr (.inr (.inr (.inr fo_31)))) := q10_31
    have m_53 : (1 + d_14, 10) ∈ RL := hm_31 10 (by omega)
    have c_54 : E (1 + d_14) 11 = .inl (kA 2, 5, .inl tr_31) := q11_31
    have m_55 : (1 + d_14, 11) ∈ RL := hm_31 11 (by omega)
    have c_56 : E (1 + d_14) 12 = .inl (kA 2, 5, .inl op_31) := q12_31
    have m_57 : (1 + d_14, 12) ∈ RL := hm_31 12 (by omega)
    have hg_31 : ∀ w9, w9 < k0_31 → fe_31 w9 = some (ad (1 + d_14) (20 + 3 * w9)) ∧ fo_31 w9 = some (ad (1 + d_14) (38 + 3 * w9)) ∧ GI kA (ad (1 + d_14)) (E (1 + d_14)) (fun o => (1 + d_14, o) ∈ RL) (20 + 3 * w9) (21 + 3 * w9) (22 + 3 * w9) ∧ GI kA (ad (1 + d_14)) (E (1 + d_14)) (fun o => (1 + d_14, o) ∈ RL) (38 + 3 * w9) (39 + 3 * w9) (40 + 3 * w9) := hg_31
    refine px_get (D := D) (ci := 7) (v := .int (nI d_14)) (C := xR_Ds) (T := xT_Ds) (N := 12) hx hb hT xi_Ds hown hK.1 hP m_33 c_32 rfl 0 (by decide) (hT _ yo_26) (fun _ h9 => h9) rfl xd_De_module_19 ?_
    exact W.iret (v := (nI d_14)) hx hb hr (fun t ht hW => ⟨⟨(nI d_14), (), rfl, trivial, by rw [ht]; exact hP, hD⟩, hS.F ht⟩) hS.2.2 xd_De_module_22
set_option maxHeartbeats 4000000 in
set_option maxRecDepth 100000 in
theorem xc_De_reads (l : Launch) (D : va_G) (kA : Nat → ClassId) (sz : Nat) (ad : Nat → Nat → Nat) (E : Nat → Nat → va_E) (RL : List (Nat × Nat)) (ml : Nat) (nd : Nat) (len : Nat) (wn : Nat) (cs : Nat) (ix : Int32) (kx : Int32) (tx : Int32) (dx : Int32) (hCI : CI kA ad E RL ml nd len wn cs) : Met l xy_De_reads (.code xy_De_reads xb_De_reads 7 (some .boolean) :: wT) { frames := 2, cells := 0, slots := 0, locals := 45 } (va_Pc [.ref (ad 0 0), .int ix, .int kx, .int tx, .int dx] (xPre D kA sz (rp ad E RL))) (va_Qi (fun (r : Int32) (u : Unit) => r = 0 ∨ r = 1) (fun (u : Unit) t => va_P D xcl (rp ad E RL) t.heap ∧ va_D (va_A (rp ad E RL) sz) (rp ad E RL)) (va_A (rp ad E RL) sz)) 0 0 (va_A (rp ad E RL) sz) := by
  refine Met.ofW (cc := xb_De_reads) (maxL := 7) (ret := (some .boolean)) (by decide) rfl ?_
  intro p e s m args below meth c s₁ B hml hv
  obtain ⟨rfl, hsz, hP, hK, hD0⟩ := hv
  have hx := B.exec
  have hb := B.bytes
  have hr := B.returns
  have hT := x_hT B.pre
  have hown : s.vm.findClass xR_De = some m.cls := findClass_of_methodNamed B.named
  have hlocks := B.notSynchronized
  subst hsz
  have hD := hD0.self (sz := s.heap.size)
  generalize hAe : va_A (rp ad E RL) s.heap.size = A at hD ⊢
  have hA : ∀ q : Nat, s.heap.size ≤ q → A q := fun q h => by rw [← hAe]; exact Or.inr h
  have hS : va_S A s.heap s.heap [] := va_S.rf
  have hl := lv_entry ([.ref (ad 0 0), .int ix, .int kx, .int tx, .int dx]) (n := 7) (Nat.le_of_ble_eq_true rfl)
  rw [lg_entry_eq]
  generalize (lg_sl ([.ref (ad 0 0), .int ix, .int kx, .int tx, .int dx]) ++ List.replicate (7 - (lg_sl ([.ref (ad 0 0), .int ix, .int kx, .int tx, .int dx])).length) Slot.unset).toArray = ls at hl ⊢
  have hl : lv_has ls 7 [(0, .ref (ad 0 0)), (1, .int ix), (2, .int kx), (3, .int tx), (4, .int dx)] := hl
  have hP : va_P D xcl (rp ad E RL) s.heap := hP
  obtain ⟨hmB, hDk, hLi, hSh, hCh, hLa, hDIs, hLIs⟩ := id hCI
  obtain ⟨fl_1, hml_1, q9_1, hla_1⟩ := id (hLa)
  have c_2 : E 0 9 = .inl (kA 5, 5, .inr (.inr (.inr (.inr fl_1)))) := q9_1
  have m_3 : (0, 9) ∈ RL := hmB 9 (by omega)
  refine lv_aload_n hx hb xd_De_reads_0 rfl (lv_at hl 0 rfl) ?_
  refine lv_iload_n hx hb xd_De_reads_1 rfl (lv_at hl 1 rfl) ?_
  refine lv_iload_n hx hb xd_De_reads_2 rfl (lv_at hl 2 rfl) ?_
  have hFc := px_free hD hS hA
  obtain ⟨lf_4, q_4⟩ := id (hDk)
  have c_5 : E 0 0 = .inr (0, [.ref (ad 0 1), .ref (ad 0 5), .ref (ad 0 7), .ref (ad 0 9), .int (nI ml), .int lf_4]) := q_4
  have m_6 : (0, 0) ∈ RL := hmB 0 (by omega)
  refine va_callq (va_runV (As := [.int ix, .int kx]) (rest := []) ⟨hx, hb, hml, hown, hT⟩ (xc_De_memberAt l D kA s.heap.size ad E RL ml nd len wn cs ix kx (by first | assumption | omega)) (cwV 2 hT (wT_V yo_22 yo_23 yo_24 yo_7 yo_21) rfl rfl rfl (by decide +kernel) ⟨Nat.le_of_ble_eq_true rfl, Nat.le_of_ble_eq_true rfl⟩) (px_preV hK hP hD m_6 c_5 rfl) rfl rfl hl.1 rfl (lv_room (Nat.le_of_ble_eq_true rfl)) xd_De_reads_3 ⟨(Nat.le_of_ble_eq_true rfl), (Nat.le_of_ble_eq_true rfl)⟩) hS (fun q _ h => hFc q h) hFc (fun r7 u8 t H1 locs ht hvm hp9 hB hz1 hk1 hS => ?_)
  obtain ⟨hP1, hD1⟩ := hB
  rw [ht] at hP1
  have hD1 := hD1.weaken (fun _ _ _ h => hFc _ h)
  generalize H1 = H at hP1 hS ⊢
  have hP := hP1
  have hD := hD1
  have hP : va_P D xcl (rp ad E RL) H := hP
  have hD : va_D A (rp ad E RL) := hD
  rcases hp9 with rfl | ⟨z10, z11, z12, rfl, z13⟩
  · refine W.eq (g2 := F0 m 6 ls [.null]) rfl ?_
    refine lv_astoreN hx hb xd_De_reads_6 hl (Nat.le_of_ble_eq_true rfl) rfl (fun ls hl => ?_)
    have hl : lv_has ls 7 [(5, .null), (0, .ref (ad 0 0)), (1, .int ix), (2, .int kx), (3, .int tx), (4, .int dx)] := hl
    refine lv_aload_n hx hb xd_De_reads_8 rfl (lv_at hl 1 rfl) ?_
    refine lv_iload_n hx hb xd_De_reads_9 rfl (lv_at hl 4 rfl) ?_
    refine lv_iload hx hb xd_De_reads_10 (lv_at hl 5 rfl) ?_
    have hFc := px_free hD hS hA
    refine va_callq (va_runV (As := [.int tx, .int dx]) (rest := []) ⟨hx, hb, hml, hown, hT⟩ (xc_De_memberOf l D kA H.size ad E RL ml nd len wn cs tx dx (by first | assumption | omega)) (cwV 2 hT (wT_V yo_28 yo_29 yo_30 yo_7 yo_27) rfl rfl rfl (by decide +kernel) ⟨Nat.le_of_ble_eq_true rfl, Nat.le_of_ble_eq_true rfl⟩) (px_preV hK hP hD m_6 c_5 rfl) rfl rfl hl.1 rfl (lv_room (Nat.le_of_ble_eq_true rfl)) xd_De_reads_12 ⟨(Nat.le_of_ble_eq_true rfl), (Nat.le_of_ble_eq_true rfl)⟩) hS (fun q _ h => hFc q h) hFc (fun r14 u15 t H1 locs ht hvm hp16 hB hz1 hk1 hS => ?_)
    obtain ⟨hP1, hD1⟩ := hB
    rw [ht] at hP1
    have hD1 := hD1.weaken (fun _ _ _ h => hFc _ h)
    generalize H1 = H at hP1 hS ⊢
    have hP := hP1
    have hD := hD1
    have hP : va_P D xcl (rp ad E RL) H := hP
    have hD : va_D A (rp ad E RL) := hD
    rcases hp16 with rfl | ⟨z17, z18, z19, rfl, z20⟩
    · refine W.eq (g2 := F0 m 15 ls [.null]) rfl ?_
      refine lv_astoreN hx hb xd_De_reads_15 hl (Nat.le_of_ble_eq_true rfl) rfl (fun ls hl => ?_)
      have hl : lv_has ls 7 [(6, .null), (5, .null), (0, .ref (ad 0 0)), (1, .int ix), (2, .int kx), (3, .int tx), (4, .int dx)] := hl
      refine lv_aloadN hx hb xd_De_reads_17 (lv_at hl 1 rfl) ?_
      refine lv_ifnullN (tgt := 44) hx hb xd_De_reads_19 (by decide) ?_
      refine lv_iconst (v := 0) hx hb xd_De_reads_44 (by decide) ?_
      exact W.zret (v := 0) hx hb hr rfl (fun t ht hW => ⟨⟨0, (), rfl, Or.inl rfl, by rw [ht]; exact hP, hD⟩, hS.F ht⟩) hS.2.2 xd_De_reads_45
    · refine W.eq (g2 := F0 m 15 ls [.ref (ad (20 + z17) (10 + 10 * z18))]) rfl ?_
      refine lv_astore hx hb xd_De_reads_15 hl (Nat.le_of_ble_eq_true rfl) rfl (fun ls hl => ?_)
      have hl : lv_has ls 7 [(6, .ref (ad (20 + z17) (10 + 10 * z18))), (5, .null), (0, .ref (ad 0 0)), (1, .int ix), (2, .int kx), (3, .int tx), (4, .int dx)] := hl
      refine lv_aloadN hx hb xd_De_reads_17 (lv_at hl 1 rfl) ?_
      refine lv_ifnullN (tgt := 44) hx hb xd_De_reads_19 (by decide) ?_
      refine lv_iconst (v := 0) hx hb xd_De_reads_44 (by decide) ?_
      exact W.zret (v := 0) hx hb hr rfl (fun t ht hW => ⟨⟨0, (), rfl, Or.inl rfl, by rw [ht]; exact hP, hD⟩, hS.F ht⟩) hS.2.2 xd_De_reads_45
  · refine W.eq (g2 := F0 m 6 ls [.ref (ad (20 + z10) (10 + 10 * z11))]) rfl ?_
    refine lv_astore hx hb xd_De_reads_6 hl (Nat.le_of_ble_eq_true rfl) rfl (fun ls hl => ?_)
    have hl : lv_has ls 7 [(5, .ref (ad (20 + z10) (10 + 10 * z11))), (0, .ref (ad 0 0)), (1, .int ix), (2, .int kx), (3, .int tx), (4, .int dx)] := hl
    refine lv_aload_n hx hb xd_De_reads_8 rfl (lv_at hl 1 rfl) ?_
    refine lv_iload_n hx hb xd_De_reads_9 rfl (lv_at hl 4 rfl) ?_
    refine lv_iload hx hb xd_De_reads_10 (lv_at hl 5 rfl) ?_
    have hFc := px_free hD hS hA
    refine va_callq (va_runV (As := [.int tx, .int dx]) (rest := []) ⟨hx, hb, hml, hown, hT⟩ (xc_De_memberOf l D kA H.size ad E RL ml nd len wn cs tx dx (by first | assumption | omega)) (cwV 2 hT (wT_V yo_28 yo_29 yo_30 yo_7 yo_27) rfl rfl rfl (by decide +kernel) ⟨Nat.le_of_ble_eq_true rfl, Nat.le_of_ble_eq_true rfl⟩) (px_preV hK hP hD m_6 c_5 rfl) rfl rfl hl.1 rfl (lv_room (Nat.le_of_ble_eq_true rfl)) xd_De_reads_12 ⟨(Nat.le_of_ble_eq_true rfl), (Nat.le_of_ble_eq_true rfl)⟩) hS (fun q _ h => hFc q h) hFc (fun r21 u22 t H1 locs ht hvm hp23 hB hz1 hk1 hS => ?_)
    obtain ⟨hP1, hD1⟩ := hB
    rw [ht] at hP1
    have hD1 := hD1.weaken (fun _ _ _ h => hFc _ h)
    generalize H1 = H at hP1 hS ⊢
    have hP := hP1
    have hD := hD1
    have hP : va_P D xcl (rp ad E RL) H := hP
    have hD : va_D A (rp ad E RL) := hD
    rcases hp23 with rfl | ⟨z24, z25, z26, rfl, z27⟩
    · refine W.eq (g2 := F0 m 15 ls [.null]) rfl ?_
      refine lv_astoreN hx hb xd_De_reads_15 hl (Nat.le_of_ble_eq_true rfl) rfl (fun ls hl => ?_)
      have hl : lv_has ls 7 [(6, .null), (5, .ref (ad (20 + z10) (10 + 10 * z11))), (0, .ref (ad 0 0)), (1, .int ix), (2, .int kx), (3, .int tx), (4, .int dx)] := hl
      refine lv_aload hx hb xd_De_reads_17 (lv_at hl 1 rfl) ?_
      refine lv_ifnull hx hb xd_De_reads_19 ?_
      refine lv_aloadN hx hb xd_De_reads_22 (lv_at hl 0 rfl) ?_
      refine lv_ifnullN (tgt := 44) hx hb xd_De_reads_24 (by decide) ?_
      refine lv_iconst (v := 0) hx hb xd_De_reads_44 (by decide) ?_
      exact W.zret (v := 0) hx hb hr rfl (fun t ht hW => ⟨⟨0, (), rfl, Or.inl rfl, by rw [ht]; exact hP, hD⟩, hS.F ht⟩) hS.2.2 xd_De_reads_45
    · refine W.eq (g2 := F0 m 15 ls [.ref (ad (20 + z24) (10 + 10 * z25))]) rfl ?_
      refine lv_astore hx hb xd_De_reads_15 hl (Nat.le_of_ble_eq_true rfl) rfl (fun ls hl => ?_)
      have hl : lv_has ls 7 [(6, .ref (ad (20 + z24) (10 + 10 * z25))), (5, .ref (ad (20 + z10) (10 + 10 * z11))), (0, .ref (ad 0 0)), (1, .int ix), (2, .int kx), (3, .int tx), (4, .int dx)] := hl
      refine lv_aload hx hb xd_De_reads_17 (lv_at hl 1 rfl) ?_
      refine lv_ifnull hx hb xd_De_reads_19 ?_
      refine lv_aload hx hb xd_De_reads_22 (lv_at hl 0 rfl) ?_
      refine lv_ifnull hx hb xd_De_reads_24 ?_
      refine lv_aload hx hb xd_De_reads_27 (lv_at hl 1 rfl) ?_
      obtain ⟨hm_28, d_28, rs_28, fr_28, g2_28, g3_28, g4_28, hd_28, hrs_28, q0_28, q1_28, q2_28, q3_28, q4_28, q5_28, q6_28, q7_28⟩ := id z13
      have c_29 : E (20 + z10) (10 + 10 * z11) = .inr (6, [.ref (ad (20 + z10) 0), .ref (ad (1 + d_28) 0), .ref (ad (20 + z10) (11 + 10 * z11)), .ref (ad (20 + z10) (12 + 10 * z11)), .ref (ad (20 + z10) (13 + 10 * z11)), .ref (ad (20 + z10) (14 + 10 * z11))]) := q0_28
      have m_30 : (20 + z10, 10 + 10 * z11) ∈ RL := hm_28 0 (by omega)
      have c_31 : E (20 + z10) (11 + 10 * z11) = .inl (kA 6, rs_28, .inr (.inr (.inr (.inr fr_28)))) := q1_28
      have m_32 : (20 + z10, 11 + 10 * z11) ∈ RL := hm_28 1 (by omega)
      have c_33 : E (20 + z10) (12 + 10 * z11) = .inr (10, [.ref (ad (20 + z10) (15 + 10 * z11))]) := q2_28
      have m_34 : (20 + z10, 12 + 10 * z11) ∈ RL := hm_28 2 (by omega)
      have c_35 : E (20 + z10) (13 + 10 * z11) = .inr (10, [.ref (ad (20 + z10) (16 + 10 * z11))]) := q3_28
      have m_36 : (20 + z10, 13 + 10 * z11) ∈ RL := hm_28 3 (by omega)
      have c_37 : E (20 + z10) (14 + 10 * z11) = .inr (10, [.ref (ad (20 + z10) (17 + 10 * z11))]) := q4_28
      have m_38 : (20 + z10, 14 + 10 * z11) ∈ RL := hm_28 4 (by omega)
      have c_39 : E (20 + z10) (15 + 10 * z11) = .inl (kA 0, 6, .inl g2_28) := q5_28
      have m_40 : (20 + z10, 15 + 10 * z11) ∈ RL := hm_28 5 (by omega)
      have c_41 : E (20 + z10) (16 + 10 * z11) = .inl (kA 0, 6, .inl g3_28) := q6_28
      have m_42 : (20 + z10, 16 + 10 * z11) ∈ RL := hm_28 6 (by omega)
      have c_43 : E (20 + z10) (17 + 10 * z11) = .inl (kA 0, 6, .inl g4_28) := q7_28
      have m_44 : (20 + z10, 17 + 10 * z11) ∈ RL := hm_28 7 (by omega)
      refine px_get (D := D) (ci := 6) (v := .ref (ad (20 + z10) (14 + 10 * z11))) (C := xR_Me) (T := xT_Me) (N := 6) hx hb hT xi_Me hown hK.1 hP m_30 c_29 rfl 5 (by decide) (hT _ yo_31) (fun _ h9 => h9) rfl xd_De_reads_29 ?_
      refine lv_aload hx hb xd_De_reads_32 (lv_at hl 0 rfl) ?_
      obtain ⟨hm_45, d_45, rs_45, fr_45, g2_45, g3_45, g4_45, hd_45, hrs_45, q0_45, q1_45, q2_45, q3_45, q4_45, q5_45, q6_45, q7_45⟩ := id z27
      have c_46 : E (20 + z24) (10 + 10 * z25) = .inr (6, [.ref (ad (20 + z24) 0), .ref (ad (1 + d_45) 0), .ref (ad (20 + z24) (11 + 10 * z25)), .ref (ad (20 + z24) (12 + 10 * z25)), .ref (ad (20 + z24) (13 + 10 * z25)), .ref (ad (20 + z24) (14 + 10 * z25))]) := q0_45
      have m_47 : (20 + z24, 10 + 10 * z25) ∈ RL := hm_45 0 (by omega)
      have c_48 : E (20 + z24) (11 + 10 * z25) = .inl (kA 6, rs_45, .inr (.inr (.inr (.inr fr_45)))) := q1_45
      have m_49 : (20 + z24, 11 + 10 * z25) ∈ RL := hm_45 1 (by omega)
      have c_50 : E (20 + z24) (12 + 10 * z25) = .inr (10, [.ref (ad (20 + z24) (15 + 10 * z25))]) := q2_45
      have m_51 : (20 + z24, 12 + 10 * z25) ∈ RL := hm_45 2 (by omega)
      have c_52 : E (20 + z24) (13 + 10 * z25) = .inr (10, [.ref (ad (20 + z24) (16 + 10 * z25))]) := q3_45
      have m_53 : (20 + z24, 13 + 10 * z25) ∈ RL := hm_45 3 (by omega)
      have c_54 : E (20 + z24) (14 + 10 * z25) = .inr (10, [.ref (ad (20 + z24) (17 + 10 * z25))]) := q4_45
      have m_55 : (20 + z24, 14 + 10 * z25) ∈ RL := hm_45 4 (by omega)
      have c_56 : E (20 + z24) (15 + 10 * z25) = .inl (kA 0, 6, .inl g2_45) := q5_45
      have m_57 : (20 + z24, 15 + 10 * z25) ∈ RL := hm_45 5 (by omega)
      have c_58 : E (20 + z24) (16 + 10 * z25) = .inl (kA 0, 6, .inl g3_45) := q6_45
      have m_59 : (20 + z24, 16 + 10 * z25) ∈ RL := hm_45 6 (by omega)
      have c_60 : E (20 + z24) (17 + 10 * z25) = .inl (kA 0, 6, .inl g4_45) := q7_45
      have m_61 : (20 + z24, 17 + 10 * z25) ∈ RL := hm_45 7 (by omega)
      obtain ⟨m0_62, m1_62, pv_62, op_62, mk_62, fm_62, hmk_62, hpv_62, q0_62, q1_62, hk_62⟩ := id (hLIs z24 (by omega))
      have c_63 : E (20 + z24) 0 = .inr (5, [.int (nI z24), pv_62, .ref (ad (20 + z24) 1), .int op_62]) := q0_62
      have m_64 : (20 + z24, 0) ∈ RL := m0_62
      have c_65 : E (20 + z24) 1 = .inl (kA 6, mk_62, .inr (.inr (.inr (.inr fm_62)))) := q1_62
      have m_66 : (20 + z24, 1) ∈ RL := m1_62
      obtain ⟨hm_67, fd_67, nm_67, sd_67, k0_67, k1_67, k2_67, k3_67, f0_67, f1_67, f2_67, f3_67, fe_67, fo_67, tr_67, op_67, hk0_67, hk1_67, hk2_67, hk3_67, q0_67, q1_67, q2_67, q3_67, q4_67, q5_67, q6_67, q7_67, q8_67, q9_67, q10_67, q11_67, q12_67, hg_67⟩ := id (hDIs d_45 (by omega))
      have c_68 : E (1 + d_45) 0 = .inr (7, [.int (nI d_45), .int fd_67, .int nm_67, .ref (ad (1 + d_45) 1), .ref (ad (1 + d_45) 9), .ref (ad (1 + d_45) 10), .ref (ad (1 + d_45) 2), .ref (ad (1 + d_45) 11), .ref (ad (1 + d_45) 12), .ref (ad (1 + d_45) 3), .ref (ad (1 + d_45) 4), .int sd_67]) := q0_67
      have m_69 : (1 + d_45, 0) ∈ RL := hm_67 0 (by omega)
      have c_70 : E (1 + d_45) 1 = .inr (8, [.ref (ad (1 + d_45) 5), .int (nI k0_67)]) := q1_67
      have m_71 : (1 + d_45, 1) ∈ RL := hm_67 1 (by omega)
      have c_72 : E (1 + d_45) 2 = .inr (8, [.ref (ad (1 + d_45) 6), .int (nI k1_67)]) := q2_67
      have m_73 : (1 + d_45, 2) ∈ RL := hm_67 2 (by omega)
      have c_74 : E (1 + d_45) 3 = .inr (8, [.ref (ad (1 + d_45) 7), .int (nI k2_67)]) := q3_67
      have m_75 : (1 + d_45, 3) ∈ RL := hm_67 3 (by omega)
      have c_76 : E (1 + d_45) 4 = .inr (8, [.ref (ad (1 + d_45) 8), .int (nI k3_67)]) := q4_67
      have m_77 : (1 + d_45, 4) ∈ RL := hm_67 4 (by omega)
      have c_78 : E (1 + d_45) 5 = .inl (kA 0, 6, .inl f0_67) := q5_67
      have m_79 : (1 + d_45, 5) ∈ RL := hm_67 5 (by omega)
      have c_80 : E (1 + d_45) 6 = .inl (kA 0, 5, .inl f1_67) := q6_67
      have m_81 : (1 + d_45, 6) ∈ RL := hm_67 6 (by omega)
      have c_82 : E (1 + d_45) 7 = .inl (kA 0, 3, .inl f2_67) := q7_67
      have m_83 : (1 + d_45, 7) ∈ RL := hm_67 7 (by omega)
      have c_84 : E (1 + d_45) 8 = .inl (kA 0, 3, .inl f3_67) := q8_67
      have m_85 : (1 + d_45, 8) ∈ RL := hm_67 8 (by omega)
      have c_86 : E (1 + d_45) 9 = .inl (kA 8, 6, .inr (.inr (.inr (.inr fe_67)))) := q9_67
      have m_87 : (1 + d_45, 9) ∈ RL := hm_67 9 (by omega)
      have c_88 : E (1 + d_45) 10 = .inl (kA 8, 6, .inr (.inr (.inr (.inr fo_67)))) := q10_67
      have m_89 : (1 + d_45, 10) ∈ RL := hm_67 10 (by omega)
      have c_90 : E (1 + d_45) 11 = .inl (kA 2, 5, .inl tr_67) := q11_67
      have m_91 : (1 + d_45, 11) ∈ RL := hm_67 11 (by omega)
      have c_92 : E (1 + d_45) 12 = .inl (kA 2, 5, .inl op_67) := q12_67
      have m_93 : (1 + d_45, 12) ∈ RL := hm_67 12 (by omega)
      have hg_67 : ∀ w9, w9 < k0_67 → fe_67 w9 = some (ad (1 + d_45) (20 + 3 * w9)) ∧ fo_67 w9 = some (ad (1 + d_45) (38 + 3 * w9)) ∧ GI kA (ad (1 + d_45)) (E (1 + d_45)) (fun o => (1 + d_45, o) ∈ RL) (20 + 3 * w9) (21 + 3 * w9) (22 + 3 * w9) ∧ GI kA (ad (1 + d_45)) (E (1 + d_45)) (fun o => (1 + d_45, o) ∈ RL) (38 + 3 * w9) (39 + 3 * w9) (40 + 3 * w9) := hg_67
      have hFc := px_free hD hS hA
      refine va_calli (va_runV (As := [.ref (ad (20 + z24) (10 + 10 * z25))]) (rest := []) ⟨hx, hb, hml, hown, hT⟩ (xc_Re_marks l D kA H.size ad E RL (20 + z10) (14 + 10 * z11) (17 + 10 * z11) g4_28 z24 z25 d_45 pv_62 op_62 fd_67 nm_67 sd_67 m_38 c_37 m_44 c_43 m_47 c_46 m_64 c_63 m_69 c_68 (by first | assumption | omega)) (cwV 1 hT (wT_V yo_33 yo_34 yo_35 yo_36 yo_32) rfl rfl rfl (by decide +kernel) ⟨Nat.le_of_ble_eq_true rfl, Nat.le_of_ble_eq_true rfl⟩) (px_preV hK hP hD m_38 c_37 rfl) rfl rfl hl.1 rfl (lv_room (Nat.le_of_ble_eq_true rfl)) xd_De_reads_34 ⟨(Nat.le_of_ble_eq_true rfl), (Nat.le_of_ble_eq_true rfl)⟩) hS (fun q _ h => hFc q h) hFc (fun r94 u95 t H1 locs ht hvm hp96 hB hz1 hk1 hS => ?_)
      obtain ⟨hP1, hD1⟩ := hB
      rw [ht] at hP1
      have hD1 := hD1.weaken (fun _ _ _ h => hFc _ h)
      generalize H1 = H at hP1 hS ⊢
      have hP := hP1
      have hD := hD1
      have hP : va_P D xcl (rp ad E RL) H := hP
      have hD : va_D A (rp ad E RL) := hD
      rcases hp96 with ⟨rfl, z97⟩ | ⟨rfl, z98⟩
      · refine W.eq (g2 := F0 m 37 ls [.int 1]) rfl ?_
        refine lv_if_eq (tgt := 44) hx hb xd_De_reads_37 (by decide) (fun hc99 => absurd hc99 (by decide)) (fun _ => ?_)
        refine lv_iconst (v := 1) hx hb xd_De_reads_40 (by decide) ?_
        refine lv_goto (tgt := 45) hx hb xd_De_reads_41 (by decide) ?_
        exact W.zret (v := 1) hx hb hr rfl (fun t ht hW => ⟨⟨1, (), rfl, Or.inr rfl, by rw [ht]; exact hP, hD⟩, hS.F ht⟩) hS.2.2 xd_De_reads_45
      · refine W.eq (g2 := F0 m 37 ls [.int 0]) rfl ?_
        refine lv_if_eq (tgt := 44) hx hb xd_De_reads_37 (by decide) (fun _ => ?_) (fun hc100 => absurd (by decide) hc100)
        refine lv_iconst (v := 0) hx hb xd_De_reads_44 (by decide) ?_
        exact W.zret (v := 0) hx hb hr rfl (fun t ht hW => ⟨⟨0, (), rfl, Or.inl rfl, by rw [ht]; exact hP, hD⟩, hS.F ht⟩) hS.2.2 xd_De_reads_45
set_option maxHeartbeats 4000000 in
set_option maxRecDepth 100000 in
theorem xc_De_fault (l : Launch) (D : va_G) (kA : Nat → ClassId) (sz : Nat) (ad : Nat → Nat → Nat) (E : Nat → Nat → va_E) (RL : List (Nat × Nat)) (ml : Nat) (nd : Nat) (len : Nat) (wn : Nat) (cs : Nat) (hCI : CI kA ad E RL ml nd len wn cs) : Met l xy_De_fault (.code xy_De_fault xb_De_fault 1 (some .int) :: wT) { frames := 0, cells := 0, slots := 0, locals := 0 } (va_Pc [.ref (ad 0 0)] (xPre D kA sz (rp ad E RL))) (va_Qi (fun (r : Int32) (u : Unit) => True) (fun (u : Unit) t => va_P D xcl (rp ad E RL) t.heap ∧ va_D (va_A (rp ad E RL) sz) (rp ad E RL)) (va_A (rp ad E RL) sz)) 0 0 (va_A (rp ad E RL) sz) := by
  refine Met.ofW (cc := xb_De_fault) (maxL := 1) (ret := (some .int)) (by decide) rfl ?_
  intro p e s m args below meth c s₁ B hml hv
  obtain ⟨rfl, hsz, hP, hK, hD0⟩ := hv
  have hx := B.exec
  have hb := B.bytes
  have hr := B.returns
  have hT := x_hT B.pre
  have hown : s.vm.findClass xR_De = some m.cls := findClass_of_methodNamed B.named
  have hlocks := B.notSynchronized
  subst hsz
  have hD := hD0.self (sz := s.heap.size)
  generalize hAe : va_A (rp ad E RL) s.heap.size = A at hD ⊢
  have hA : ∀ q : Nat, s.heap.size ≤ q → A q := fun q h => by rw [← hAe]; exact Or.inr h
  have hS : va_S A s.heap s.heap [] := va_S.rf
  have hl := lv_entry ([.ref (ad 0 0)]) (n := 1) (Nat.le_of_ble_eq_true rfl)
  rw [lg_entry_eq]
  generalize (lg_sl ([.ref (ad 0 0)]) ++ List.replicate (1 - (lg_sl ([.ref (ad 0 0)])).length) Slot.unset).toArray = ls at hl ⊢
  have hl : lv_has ls 1 [(0, .ref (ad 0 0))] := hl
  have hP : va_P D xcl (rp ad E RL) s.heap := hP
  obtain ⟨hmB, hDk, hLi, hSh, hCh, hLa, hDIs, hLIs⟩ := id hCI
  obtain ⟨lf_1, q_1⟩ := id (hDk)
  have c_2 : E 0 0 = .inr (0, [.ref (ad 0 1), .ref (ad 0 5), .ref (ad 0 7), .ref (ad 0 9), .int (nI ml), .int lf_1]) := q_1
  have m_3 : (0, 0) ∈ RL := hmB 0 (by omega)
  refine lv_aload_n hx hb xd_De_fault_0 rfl (lv_at hl 0 rfl) ?_
  refine px_get (D := D) (ci := 0) (v := .int lf_1) (C := xR_De) (T := xT_De) (N := 6) hx hb hT xi_De hown hK.1 hP m_3 c_2 rfl 5 (by decide) (hT _ yo_37) (fun _ h9 => h9) rfl xd_De_fault_1 ?_
  exact W.iret (v := lf_1) hx hb hr (fun t ht hW => ⟨⟨lf_1, (), rfl, trivial, by rw [ht]; exact hP, hD⟩, hS.F ht⟩) hS.2.2 xd_De_fault_4
set_option maxHeartbeats 4000000 in
set_option maxRecDepth 100000 in
theorem xc_Sh_find (l : Launch) (D : va_G) (kA : Nat → ClassId) (sz : Nat) (ad : Nat → Nat → Nat) (E : Nat → Nat → va_E) (RL : List (Nat × Nat)) (ml : Nat) (nd : Nat) (len : Nat) (wn : Nat) (cs : Nat) (fi : Int32) (nm : Int32) (hCI : CI kA ad E RL ml nd len wn cs) : Met l xy_Sh_find (.code xy_Sh_find xb_Sh_find 4 (some (.object "LayerDesk$Descriptor")) :: wT) { frames := 0, cells := 0, slots := 0, locals := 0 } (va_Pc [.ref (ad 0 5), .int fi, .int nm] (xPre D kA sz (rp ad E RL))) (va_Qq (fun (r : Option Nat) (u : Unit) => r = none ∨ ∃ d, d < nd ∧ r = some (ad (1 + d) 0)) (fun (u : Unit) t => va_P D xcl (rp ad E RL) t.heap ∧ va_D (va_A (rp ad E RL) sz) (rp ad E RL)) (va_A (rp ad E RL) sz)) 0 0 (va_A (rp ad E RL) sz) := by
  refine Met.ofW (cc := xb_Sh_find) (maxL := 4) (ret := (some (.object "LayerDesk$Descriptor"))) (by decide) rfl ?_
  intro p e s m args below meth c s₁ B hml hv
  obtain ⟨rfl, hsz, hP, hK, hD0⟩ := hv
  have hx := B.exec
  have hb := B.bytes
  have hr := B.returns
  have hT := x_hT B.pre
  have hown : s.vm.findClass xR_Sh = some m.cls := findClass_of_methodNamed B.named
  have hlocks := B.notSynchronized
  subst hsz
  have hD := hD0.self (sz := s.heap.size)
  generalize hAe : va_A (rp ad E RL) s.heap.size = A at hD ⊢
  have hA : ∀ q : Nat, s.heap.size ≤ q → A q := fun q h => by rw [← hAe]; exact Or.inr h
  have hS : va_S A s.heap s.heap [] := va_S.rf
  have hl := lv_entry ([.ref (ad 0 5), .int fi, .int nm]) (n := 4) (Nat.le_of_ble_eq_true rfl)
  rw [lg_entry_eq]
  generalize (lg_sl ([.ref (ad 0 5), .int fi, .int nm]) ++ List.replicate (4 - (lg_sl ([.ref (ad 0 5), .int fi, .int nm])).length) Slot.unset).toArray = ls at hl ⊢
  have hl : lv_has ls 4 [(0, .ref (ad 0 5)), (1, .int fi), (2, .int nm)] := hl
  have hP : va_P D xcl (rp ad E RL) s.heap := hP
  obtain ⟨hmB, hDk, hLi, hSh, hCh, hLa, hDIs, hLIs⟩ := id hCI
  obtain ⟨fd_1, hnd_1, q5_1, q6_1, hds_1⟩ := id (hSh)
  have c_2 : E 0 5 = .inr (2, [.ref (ad 0 6), .int (nI nd)]) := q5_1
  have m_3 : (0, 5) ∈ RL := hmB 5 (by omega)
  have c_4 : E 0 6 = .inl (kA 4, 12, .inr (.inr (.inr (.inr fd_1)))) := q6_1
  have m_5 : (0, 6) ∈ RL := hmB 6 (by omega)
  refine lv_iconst (v := 0) hx hb xd_Sh_find_0 (by decide) ?_
  refine lv_istore_n hx hb xd_Sh_find_1 rfl hl (Nat.le_of_ble_eq_true rfl) rfl (fun ls hl => ?_)
  have hl : lv_has ls 4 [(3, .int 0), (0, .ref (ad 0 5)), (1, .int fi), (2, .int nm)] := hl
  refine xlab (σ := Nat) (ml := 4) 2 (fun (i : Nat) => [(3, .int (nI i)), (0, .ref (ad 0 5)), (1, .int fi), (2, .int nm)]) (fun (i : Nat) => []) (fun (i : Nat) => rp ad E RL) (fun (i : Nat) => (i ≤ nd)) (fun (i : Nat) => nd - i) ?_ 0 _ _ _ (lv_sub hl [0, 1, 2, 3] rfl) hP hD hS (show 0 ≤ nd from by first | assumption | omega)
  intro n9 ih6 a9 ls H locs hμ hl hP hD hS hI
  subst hμ
  obtain ⟨i, rfl⟩ : ∃ z, z = a9 := ⟨_, rfl⟩
  have hi : i ≤ nd := hI
  have hl : lv_has ls 4 [(3, .int (nI i)), (0, .ref (ad 0 5)), (1, .int fi), (2, .int nm)] := hl
  have hP : va_P D xcl (rp ad E RL) H := hP
  have hD : va_D A (rp ad E RL) := hD
  refine lv_iload_n hx hb xd_Sh_find_2 rfl (lv_at hl 0 rfl) ?_
  refine lv_aload_n hx hb xd_Sh_find_3 rfl (lv_at hl 1 rfl) ?_
  refine px_get (D := D) (ci := 2) (v := .int (nI nd)) (C := xR_Sh) (T := xT_Sh) (N := 2) hx hb hT xi_Sh hown hK.1 hP m_3 c_2 rfl 1 (by decide) (hT _ yo_38) (fun _ h9 => h9) rfl xd_Sh_find_4 ?_
  refine xn_ge (a := i) (b := nd) (tgt := 49) hx hb xd_Sh_find_7 (by decide) (by omega) (by omega) (fun hc7 => ?_) (fun hc7 => ?_)
  · refine lv_null hx hb xd_Sh_find_49 ?_
    exact W.aret (v := .null) hx hb hr (Or.inl ⟨_, rfl⟩) (Or.inl rfl) (fun t ht hW => ⟨⟨none, (), rfl, Or.inl rfl, by rw [ht]; exact hP, hD⟩, hS.F ht⟩) hS.2.2 xd_Sh_find_50
  · refine lv_aload_n hx hb xd_Sh_find_10 rfl (lv_at hl 1 rfl) ?_
    refine px_get (D := D) (ci := 2) (v := .ref (ad 0 6)) (C := xR_Sh) (T := xT_Sh) (N := 2) hx hb hT xi_Sh hown hK.1 hP m_3 c_2 rfl 0 (by decide) (hT _ yo_39) (fun _ h9 => h9) rfl xd_Sh_find_11 ?_
    refine lv_iload_n hx hb xd_Sh_find_14 rfl (lv_at hl 0 rfl) ?_
    refine px_aald (i := i) (x := (some (ad (1 + i) 0))) hx hb hK.1 hP m_5 c_4 4 rfl (hds_1 i (by omega)) (by omega) (by decide) xd_Sh_find_15 ?_
    obtain ⟨hm_8, fd_8, nm_8, sd_8, k0_8, k1_8, k2_8, k3_8, f0_8, f1_8, f2_8, f3_8, fe_8, fo_8, tr_8, op_8, hk0_8, hk1_8, hk2_8, hk3_8, q0_8, q1_8, q2_8, q3_8, q4_8, q5_8, q6_8, q7_8, q8_8, q9_8, q10_8, q11_8, q12_8, hg_8⟩ := id (hDIs i (by omega))
    have c_9 : E (1 + i) 0 = .inr (7, [.int (nI i), .int fd_8, .int nm_8, .ref (ad (1 + i) 1), .ref (ad (1 + i) 9), .ref (ad (1 + i) 10), .ref (ad (1 + i) 2), .ref (ad (1 + i) 11), .ref (ad (1 + i) 12), .ref (ad (1 + i) 3), .ref (ad (1 + i) 4), .int sd_8]) := q0_8
    have m_10 : (1 + i, 0) ∈ RL := hm_8 0 (by omega)
    have c_11 : E (1 + i) 1 = .inr (8, [.ref (ad (1 + i) 5), .int (nI k0_8)]) := q1_8
    have m_12 : (1 + i, 1) ∈ RL := hm_8 1 (by omega)
    have c_13 : E (1 + i) 2 = .inr (8, [.ref (ad (1 + i) 6), .int (nI k1_8)]) := q2_8
    have m_14 : (1 + i, 2) ∈ RL := hm_8 2 (by omega)
    have c_15 : E (1 + i) 3 = .inr (8, [.ref (ad (1 + i) 7), .int (nI k2_8)]) := q3_8
    have m_16 : (1 + i, 3) ∈ RL := hm_8 3 (by omega)
    have c_17 : E (1 + i) 4 = .inr (8, [.ref (ad (1 + i) 8), .int (nI k3_8)]) := q4_8
    have m_18 : (1 + i, 4) ∈ RL := hm_8 4 (by omega)
    have c_19 : E (1 + i) 5 = .inl (kA 0, 6, .inl f0_8) := q5_8
    have m_20 : (1 + i, 5) ∈ RL := hm_8 5 (by omega)
    have c_21 : E (1 + i) 6 = .inl (kA 0, 5, .inl f1_8) := q6_8
    have m_22 : (1 + i, 6) ∈ RL := hm_8 6 (by omega)
    have c_23 : E (1 + i) 7 = .inl (kA 0, 3, .inl f2_8) := q7_8
    have m_24 : (1 + i, 7) ∈ RL := hm_8 7 (by omega)
    have c_25 : E (1 + i) 8 = .inl (kA 0, 3, .inl f3_8) := q8_8
    have m_26 : (1 + i, 8) ∈ RL := hm_8 8 (by omega)
    have c_27 : E (1 + i) 9 = .inl (kA 8, 6, .inr (.inr (.inr (.inr fe_8)))) := q9_8
    have m_28 : (1 + i, 9) ∈ RL := hm_8 9 (by omega)
    have c_29 : E (1 + i) 10 = .inl (kA 8, 6, .inr (.inr (.inr (.inr fo_8)))) := q10_8
    have m_30 : (1 + i, 10) ∈ RL := hm_8 10 (by omega)
    have c_31 : E (1 + i) 11 = .inl (kA 2, 5, .inl tr_8) := q11_8
    have m_32 : (1 + i, 11) ∈ RL := hm_8 11 (by omega)
    have c_33 : E (1 + i) 12 = .inl (kA 2, 5, .inl op_8) := q12_8
    have m_34 : (1 + i, 12) ∈ RL := hm_8 12 (by omega)
    have hg_8 : ∀ w9, w9 < k0_8 → fe_8 w9 = some (ad (1 + i) (20 + 3 * w9)) ∧ fo_8 w9 = some (ad (1 + i) (38 + 3 * w9)) ∧ GI kA (ad (1 + i)) (E (1 + i)) (fun o => (1 + i, o) ∈ RL) (20 + 3 * w9) (21 + 3 * w9) (22 + 3 * w9) ∧ GI kA (ad (1 + i)) (E (1 + i)) (fun o => (1 + i, o) ∈ RL) (38 + 3 * w9) (39 + 3 * w9) (40 + 3 * w9) := hg_8
    refine px_get (D := D) (ci := 7) (v := .int fd_8) (C := xR_Ds) (T := xT_Ds) (N := 12) hx hb hT xi_Ds hown hK.1 hP m_10 c_9 rfl 1 (by decide) (hT _ yo_40) (fun _ h9 => h9) rfl xd_Sh_find_16 ?_
    refine lv_iload_n hx hb xd_Sh_find_19 rfl (lv_at hl 2 rfl) ?_
    refine lv_icmp_ne (tgt := 43) hx hb xd_Sh_find_20 (by decide) (fun hc35 => ?_) (fun hc35 => ?_)
    · refine lv_iinc (k := 0) (x := (nI i)) (v := (nI (i + 1))) hx hb xd_Sh_find_43 hl rfl (xb_inc i 1) (Nat.le_of_ble_eq_true rfl) rfl (fun ls hl => ?_)
      have hl : lv_has ls 4 [(3, .int (nI (i + 1))), (0, .ref (ad 0 5)), (1, .int fi), (2, .int nm)] := hl
      refine lv_goto (tgt := 2) hx hb xd_Sh_find_46 (by decide) ?_
      exact ih6 (i + 1) _ _ _ (show nd - (i + 1) < nd - i by omega) (lv_sub hl [0, 1, 2, 3] rfl) hP hD hS (show (i + 1) ≤ nd from by first | assumption | omega)
    · refine lv_aload_n hx hb xd_Sh_find_23 rfl (lv_at hl 1 rfl) ?_
      refine px_get (D := D) (ci := 2) (v := .ref (ad 0 6)) (C := xR_Sh) (T := xT_Sh) (N := 2) hx hb hT xi_Sh hown hK.1 hP m_3 c_2 rfl 0 (by decide) (hT _ yo_39) (fun _ h9 => h9) rfl xd_Sh_find_24 ?_
      refine lv_iload_n hx hb xd_Sh_find_27 rfl (lv_at hl 0 rfl) ?_
      refine px_aald (i := i) (x := (some (ad (1 + i) 0))) hx hb hK.1 hP m_5 c_4 4 rfl (hds_1 i (by omega)) (by omega) (by decide) xd_Sh_find_28 ?_
      refine px_get (D := D) (ci := 7) (v := .int nm_8) (C := xR_Ds) (T := xT_Ds) (N := 12) hx hb hT xi_Ds hown hK.1 hP m_10 c_9 rfl 2 (by decide) (hT _ yo_41) (fun _ h9 => h9) rfl xd_Sh_find_29 ?_
      refine lv_iload_n hx hb xd_Sh_find_32 rfl (lv_at hl 3 rfl) ?_
      refine lv_icmp_ne (tgt := 43) hx hb xd_Sh_find_33 (by decide) (fun hc36 => ?_) (fun hc36 => ?_)
      · refine lv_iinc (k := 0) (x := (nI i)) (v := (nI (i + 1))) hx hb xd_Sh_find_43 hl rfl (xb_inc i 1) (Nat.le_of_ble_eq_true rfl) rfl (fun ls hl => ?_)
        have hl : lv_has ls 4 [(3, .int (nI (i + 1))), (0, .ref (ad 0 5)), (1, .int fi), (2, .int nm)] := hl
        refine lv_goto (tgt := 2) hx hb xd_Sh_find_46 (by decide) ?_
        exact ih6 (i + 1) _ _ _ (show nd - (i + 1) < nd - i by omega) (lv_sub hl [0, 1, 2, 3] rfl) hP hD hS (show (i + 1) ≤ nd from by first | assumption | omega)
      · refine lv_aload_n hx hb xd_Sh_find_36 rfl (lv_at hl 1 rfl) ?_
        refine px_get (D := D) (ci := 2) (v := .ref (ad 0 6)) (C := xR_Sh) (T := xT_Sh) (N := 2) hx hb hT xi_Sh hown hK.1 hP m_3 c_2 rfl 0 (by decide) (hT _ yo_39) (fun _ h9 => h9) rfl xd_Sh_find_37 ?_
        refine lv_iload_n hx hb xd_Sh_find_40 rfl (lv_at hl 0 rfl) ?_
        refine px_aald (i := i) (x := (some (ad (1 + i) 0))) hx hb hK.1 hP m_5 c_4 4 rfl (hds_1 i (by omega)) (by omega) (by decide) xd_Sh_find_41 ?_
        exact W.aret (v := .ref (ad (1 + i) 0)) hx hb hr (Or.inl ⟨_, rfl⟩) (Or.inr ⟨_, rfl⟩) (fun t ht hW => ⟨⟨(some (ad (1 + i) 0)), (), rfl, Or.inr ⟨i, by omega, rfl⟩, by rw [ht]; exact hP, hD⟩, hS.F ht⟩) hS.2.2 xd_Sh_find_42
set_option maxHeartbeats 4000000 in
set_option maxRecDepth 100000 in
theorem xc_Sh_latest (l : Launch) (D : va_G) (kA : Nat → ClassId) (sz : Nat) (ad : Nat → Nat → Nat) (E : Nat → Nat → va_E) (RL : List (Nat × Nat)) (ml : Nat) (nd : Nat) (len : Nat) (wn : Nat) (cs : Nat) (hCI : CI kA ad E RL ml nd len wn cs) : Met l xy_Sh_latest (.code xy_Sh_latest xb_Sh_latest 1 (some (.object "LayerDesk$Descriptor")) :: wT) { frames := 0, cells := 0, slots := 0, locals := 0 } (va_Pc [.ref (ad 0 5)] (xPre D kA sz (rp ad E RL))) (va_Qq (fun (r : Option Nat) (u : Unit) => r = none ∨ ∃ d, d < nd ∧ r = some (ad (1 + d) 0)) (fun (u : Unit) t => va_P D xcl (rp ad E RL) t.heap ∧ va_D (va_A (rp ad E RL) sz) (rp ad E RL)) (va_A (rp ad E RL) sz)) 0 0 (va_A (rp ad E RL) sz) := by
  refine Met.ofW (cc := xb_Sh_latest) (maxL := 1) (ret := (some (.object "LayerDesk$Descriptor"))) (by decide) rfl ?_
  intro p e s m args below meth c s₁ B hml hv
  obtain ⟨rfl, hsz, hP, hK, hD0⟩ := hv
  have hx := B.exec
  have hb := B.bytes
  have hr := B.returns
  have hT := x_hT B.pre
  have hown : s.vm.findClass xR_Sh = some m.cls := findClass_of_methodNamed B.named
  have hlocks := B.notSynchronized
  subst hsz
  have hD := hD0.self (sz := s.heap.size)
  generalize hAe : va_A (rp ad E RL) s.heap.size = A at hD ⊢
  have hA : ∀ q : Nat, s.heap.size ≤ q → A q := fun q h => by rw [← hAe]; exact Or.inr h
  have hS : va_S A s.heap s.heap [] := va_S.rf
  have hl := lv_entry ([.ref (ad 0 5)]) (n := 1) (Nat.le_of_ble_eq_true rfl)
  rw [lg_entry_eq]
  generalize (lg_sl ([.ref (ad 0 5)]) ++ List.replicate (1 - (lg_sl ([.ref (ad 0 5)])).length) Slot.unset).toArray = ls at hl ⊢
  have hl : lv_has ls 1 [(0, .ref (ad 0 5))] := hl
  have hP : va_P D xcl (rp ad E RL) s.heap := hP
  obtain ⟨hmB, hDk, hLi, hSh, hCh, hLa, hDIs, hLIs⟩ := id hCI
  obtain ⟨fd_1, hnd_1, q5_1, q6_1, hds_1⟩ := id (hSh)
  have c_2 : E 0 5 = .inr (2, [.ref (ad 0 6), .int (nI nd)]) := q5_1
  have m_3 : (0, 5) ∈ RL := hmB 5 (by omega)
  have c_4 : E 0 6 = .inl (kA 4, 12, .inr (.inr (.inr (.inr fd_1)))) := q6_1
  have m_5 : (0, 6) ∈ RL := hmB 6 (by omega)
  refine lv_aload_n hx hb xd_Sh_latest_0 rfl (lv_at hl 0 rfl) ?_
  refine px_get (D := D) (ci := 2) (v := .int (nI nd)) (C := xR_Sh) (T := xT_Sh) (N := 2) hx hb hT xi_Sh hown hK.1 hP m_3 c_2 rfl 1 (by decide) (hT _ yo_38) (fun _ h9 => h9) rfl xd_Sh_latest_1 ?_
  refine xz_ne (a := nd) (tgt := 11) hx hb xd_Sh_latest_4 (by decide) (by omega) (fun hc6 => ?_) (fun hc6 => ?_)
  · refine lv_aload_n hx hb xd_Sh_latest_11 rfl (lv_at hl 0 rfl) ?_
    refine px_get (D := D) (ci := 2) (v := .ref (ad 0 6)) (C := xR_Sh) (T := xT_Sh) (N := 2) hx hb hT xi_Sh hown hK.1 hP m_3 c_2 rfl 0 (by decide) (hT _ yo_39) (fun _ h9 => h9) rfl xd_Sh_latest_12 ?_
    refine lv_aload_n hx hb xd_Sh_latest_15 rfl (lv_at hl 0 rfl) ?_
    refine px_get (D := D) (ci := 2) (v := .int (nI nd)) (C := xR_Sh) (T := xT_Sh) (N := 2) hx hb hT xi_Sh hown hK.1 hP m_3 c_2 rfl 1 (by decide) (hT _ yo_38) (fun _ h9 => h9) rfl xd_Sh_latest_16 ?_
    refine lv_iconst (v := 1) hx hb xd_Sh_latest_19 (by decide) ?_
    refine lv_isub hx hb xd_Sh_latest_20 ?_
    refine xn_top (y := nI (nd - 1)) (pk_sub (a := nd) (b := 1) (by omega)) ?_
    refine px_aald (i := nd - 1) (x := (some (ad (1 + (nd - 1)) 0))) hx hb hK.1 hP m_5 c_4 4 rfl (hds_1 (nd - 1) (by omega)) (by omega) (by decide) xd_Sh_latest_21 ?_
    exact W.aret (v := .ref (ad (1 + (nd - 1)) 0)) hx hb hr (Or.inl ⟨_, rfl⟩) (Or.inr ⟨_, rfl⟩) (fun t ht hW => ⟨⟨(some (ad (1 + (nd - 1)) 0)), (), rfl, Or.inr ⟨nd - 1, by omega, rfl⟩, by rw [ht]; exact hP, hD⟩, hS.F ht⟩) hS.2.2 xd_Sh_latest_22
  · refine lv_null hx hb xd_Sh_latest_7 ?_
    refine lv_goto (tgt := 22) hx hb xd_Sh_latest_8 (by decide) ?_
    exact W.aret (v := .null) hx hb hr (Or.inl ⟨_, rfl⟩) (Or.inl rfl) (fun t ht hW => ⟨⟨none, (), rfl, Or.inl rfl, by rw [ht]; exact hP, hD⟩, hS.F ht⟩) hS.2.2 xd_Sh_latest_22
set_option maxHeartbeats 4000000 in
set_option maxRecDepth 100000 in
theorem xc_Sh_isFinder (l : Launch) (D : va_G) (kA : Nat → ClassId) (sz : Nat) (ad : Nat → Nat → Nat) (E : Nat → Nat → va_E) (RL : List (Nat × Nat)) (fi : Int32) : Met l xy_Sh_isFinder (.code xy_Sh_isFinder xb_Sh_isFinder 1 (some .boolean) :: wT) { frames := 0, cells := 0, slots := 0, locals := 0 } (va_Pc [.int fi] (xPre D kA sz (rp ad E RL))) (va_Qi (fun (r : Int32) (u : Unit) => r = 0 ∨ r = 1) (fun (u : Unit) t => va_P D xcl (rp ad E RL) t.heap ∧ va_D (va_A (rp ad E RL) sz) (rp ad E RL)) (va_A (rp ad E RL) sz)) 0 0 (va_A (rp ad E RL) sz) := by
  refine Met.ofW (cc := xb_Sh_isFinder) (maxL := 1) (ret := (some .boolean)) (by decide) rfl ?_
  intro p e s m args below meth c s₁ B hml hv
  obtain ⟨rfl, hsz, hP, hK, hD0⟩ := hv
  have hx := B.exec
  have hb := B.bytes
  have hr := B.returns
  have hT := x_hT B.pre
  have hown : s.vm.findClass xR_Sh = some m.cls := findClass_of_methodNamed B.named
  have hlocks := B.notSynchronized
  subst hsz
  have hD := hD0.self (sz := s.heap.size)
  generalize hAe : va_A (rp ad E RL) s.heap.size = A at hD ⊢
  have hA : ∀ q : Nat, s.heap.size ≤ q → A q := fun q h => by rw [← hAe]; exact Or.inr h
  have hS : va_S A s.heap s.heap [] := va_S.rf
  have hl := lv_entry ([.int fi]) (n := 1) (Nat.le_of_ble_eq_true rfl)
  rw [lg_entry_eq]
  generalize (lg_sl ([.int fi]) ++ List.replicate (1 - (lg_sl ([.int fi])).length) Slot.unset).toArray = ls at hl ⊢
  have hl : lv_has ls 1 [(0, .int fi)] := hl
  have hP : va_P D xcl (rp ad E RL) s.heap := hP
  refine lv_iload_n hx hb xd_Sh_isFinder_0 rfl (lv_at hl 0 rfl) ?_
  refine lv_if_eq (tgt := 9) hx hb xd_Sh_isFinder_1 (by decide) (fun hc1 => ?_) (fun hc1 => ?_)
  · refine lv_iconst (v := 1) hx hb xd_Sh_isFinder_9 (by decide) ?_
    refine lv_goto (tgt := 14) hx hb xd_Sh_isFinder_10 (by decide) ?_
    exact W.zret (v := 1) hx hb hr rfl (fun t ht hW => ⟨⟨1, (), rfl, Or.inr rfl, by rw [ht]; exact hP, hD⟩, hS.F ht⟩) hS.2.2 xd_Sh_isFinder_14
  · refine lv_iload_n hx hb xd_Sh_isFinder_4 rfl (lv_at hl 0 rfl) ?_
    refine lv_iconst (v := 1) hx hb xd_Sh_isFinder_5 (by decide) ?_
    refine lv_icmp_ne (tgt := 13) hx hb xd_Sh_isFinder_6 (by decide) (fun hc2 => ?_) (fun hc2 => ?_)
    · refine lv_iconst (v := 0) hx hb xd_Sh_isFinder_13 (by decide) ?_
      exact W.zret (v := 0) hx hb hr rfl (fun t ht hW => ⟨⟨0, (), rfl, Or.inl rfl, by rw [ht]; exact hP, hD⟩, hS.F ht⟩) hS.2.2 xd_Sh_isFinder_14
    · refine lv_iconst (v := 1) hx hb xd_Sh_isFinder_9 (by decide) ?_
      refine lv_goto (tgt := 14) hx hb xd_Sh_isFinder_10 (by decide) ?_
      exact W.zret (v := 1) hx hb hr rfl (fun t ht hW => ⟨⟨1, (), rfl, Or.inr rfl, by rw [ht]; exact hP, hD⟩, hS.F ht⟩) hS.2.2 xd_Sh_isFinder_14
set_option maxHeartbeats 4000000 in
set_option maxRecDepth 100000 in
theorem xc_Ch_isChosen (l : Launch) (D : va_G) (kA : Nat → ClassId) (sz : Nat) (ad : Nat → Nat → Nat) (E : Nat → Nat → va_E) (RL : List (Nat × Nat)) (ml : Nat) (nd : Nat) (len : Nat) (wn : Nat) (cs : Nat) (d : Nat) (hCI : CI kA ad E RL ml nd len wn cs) : Met l xy_Ch_isChosen (.code xy_Ch_isChosen xb_Ch_isChosen 3 (some .boolean) :: wT) { frames := 0, cells := 0, slots := 0, locals := 0 } (va_Pc [.ref (ad 0 7), .ref (ad (1 + d) 0)] (xPre D kA sz (rp ad E RL))) (va_Qi (fun (r : Int32) (u : Unit) => r = 0 ∨ r = 1) (fun (u : Unit) t => va_P D xcl (rp ad E RL) t.heap ∧ va_D (va_A (rp ad E RL) sz) (rp ad E RL)) (va_A (rp ad E RL) sz)) 0 0 (va_A (rp ad E RL) sz) := by
  refine Met.ofW (cc := xb_Ch_isChosen) (maxL := 3) (ret := (some .boolean)) (by decide) rfl ?_
  intro p e s m args below meth c s₁ B hml hv
  obtain ⟨rfl, hsz, hP, hK, hD0⟩ := hv
  have hx := B.exec
  have hb := B.bytes
  have hr := B.returns
  have hT := x_hT B.pre
  have hown : s.vm.findClass xR_Ch = some m.cls := findClass_of_methodNamed B.named
  have hlocks := B.notSynchronized
  subst hsz
  have hD := hD0.self (sz := s.heap.size)
  generalize hAe : va_A (rp ad E RL) s.heap.size = A at hD ⊢
  have hA : ∀ q : Nat, s.heap.size ≤ q → A q := fun q h => by rw [← hAe]; exact Or.inr h
  have hS : va_S A s.heap s.heap [] := va_S.rf
  have hl := lv_entry ([.ref (ad 0 7), .ref (ad (1 + d) 0)]) (n := 3) (Nat.le_of_ble_eq_true rfl)
  rw [lg_entry_eq]
  generalize (lg_sl ([.ref (ad 0 7), .ref (ad (1 + d) 0)]) ++ List.replicate (3 - (lg_sl ([.ref (ad 0 7), .ref (ad (1 + d) 0)])).length) Slot.unset).toArray = ls at hl ⊢
  have hl : lv_has ls 3 [(0, .ref (ad 0 7)), (1, .ref (ad (1 + d) 0))] := hl
  have hP : va_P D xcl (rp ad E RL) s.heap := hP
  obtain ⟨hmB, hDk, hLi, hSh, hCh, hLa, hDIs, hLIs⟩ := id hCI
  obtain ⟨cf_1, pv_1, fc_1, hcs_1, hpv_1, q7_1, q8_1, hfc_1⟩ := id (hCh)
  have c_2 : E 0 7 = .inr (3, [.ref (ad 0 5), .ref (ad 0 8), .int (nI cs), .int cf_1, pv_1]) := q7_1
  have m_3 : (0, 7) ∈ RL := hmB 7 (by omega)
  have c_4 : E 0 8 = .inl (kA 4, 12, .inr (.inr (.inr (.inr fc_1)))) := q8_1
  have m_5 : (0, 8) ∈ RL := hmB 8 (by omega)
  refine lv_iconst (v := 0) hx hb xd_Ch_isChosen_0 (by decide) ?_
  refine lv_istore_n hx hb xd_Ch_isChosen_1 rfl hl (Nat.le_of_ble_eq_true rfl) rfl (fun ls hl => ?_)
  have hl : lv_has ls 3 [(2, .int 0), (0, .ref (ad 0 7)), (1, .ref (ad (1 + d) 0))] := hl
  refine xlab (σ := Nat) (ml := 3) 2 (fun (i : Nat) => [(2, .int (nI i)), (0, .ref (ad 0 7)), (1, .ref (ad (1 + d) 0))]) (fun (i : Nat) => []) (fun (i : Nat) => rp ad E RL) (fun (i : Nat) => (i ≤ cs)) (fun (i : Nat) => cs - i) ?_ 0 _ _ _ (lv_sub hl [0, 1, 2] rfl) hP hD hS (show 0 ≤ cs from by first | assumption | omega)
  intro n9 ih6 a9 ls H locs hμ hl hP hD hS hI
  subst hμ
  obtain ⟨i, rfl⟩ : ∃ z, z = a9 := ⟨_, rfl⟩
  have hi : i ≤ cs := hI
  have hl : lv_has ls 3 [(2, .int (nI i)), (0, .ref (ad 0 7)), (1, .ref (ad (1 + d) 0))] := hl
  have hP : va_P D xcl (rp ad E RL) H := hP
  have hD : va_D A (rp ad E RL) := hD
  refine lv_iload_n hx hb xd_Ch_isChosen_2 rfl (lv_at hl 0 rfl) ?_
  refine lv_aload_n hx hb xd_Ch_isChosen_3 rfl (lv_at hl 1 rfl) ?_
  refine px_get (D := D) (ci := 3) (v := .int (nI cs)) (C := xR_Ch) (T := xT_Ch) (N := 5) hx hb hT xi_Ch hown hK.1 hP m_3 c_2 rfl 2 (by decide) (hT _ yo_42) (fun _ h9 => h9) rfl xd_Ch_isChosen_4 ?_
  refine xn_ge (a := i) (b := cs) (tgt := 28) hx hb xd_Ch_isChosen_7 (by decide) (by omega) (by omega) (fun hc7 => ?_) (fun hc7 => ?_)
  · refine lv_iconst (v := 0) hx hb xd_Ch_isChosen_28 (by decide) ?_
    exact W.zret (v := 0) hx hb hr rfl (fun t ht hW => ⟨⟨0, (), rfl, Or.inl rfl, by rw [ht]; exact hP, hD⟩, hS.F ht⟩) hS.2.2 xd_Ch_isChosen_29
  · refine lv_aload_n hx hb xd_Ch_isChosen_10 rfl (lv_at hl 1 rfl) ?_
    refine px_get (D := D) (ci := 3) (v := .ref (ad 0 8)) (C := xR_Ch) (T := xT_Ch) (N := 5) hx hb hT xi_Ch hown hK.1 hP m_3 c_2 rfl 1 (by decide) (hT _ yo_43) (fun _ h9 => h9) rfl xd_Ch_isChosen_11 ?_
    refine lv_iload_n hx hb xd_Ch_isChosen_14 rfl (lv_at hl 0 rfl) ?_
    obtain ⟨d_8, hd_8, hf_8⟩ := hfc_1 i (by omega)
    refine px_aald (i := i) (x := (some (ad (1 + d_8) 0))) hx hb hK.1 hP m_5 c_4 4 rfl (hf_8) (by omega) (by decide) xd_Ch_isChosen_15 ?_
    refine lv_aload_n hx hb xd_Ch_isChosen_16 rfl (lv_at hl 2 rfl) ?_
    refine lv_acmp_ne (rx := (some (ad (1 + d_8) 0))) (ry := (some (ad (1 + d) 0))) (tgt := 22) hx hb xd_Ch_isChosen_17 (by decide) (fun hc9 => ?_) (fun hc9 => ?_)
    · refine lv_iinc (k := 0) (x := (nI i)) (v := (nI (i + 1))) hx hb xd_Ch_isChosen_22 hl rfl (xb_inc i 1) (Nat.le_of_ble_eq_true rfl) rfl (fun ls hl => ?_)
      have hl : lv_has ls 3 [(2, .int (nI (i + 1))), (0, .ref (ad 0 7)), (1, .ref (ad (1 + d) 0))] := hl
      refine lv_goto (tgt := 2) hx hb xd_Ch_isChosen_25 (by decide) ?_
      exact ih6 (i + 1) _ _ _ (show cs - (i + 1) < cs - i by omega) (lv_sub hl [0, 1, 2] rfl) hP hD hS (show (i + 1) ≤ cs from by first | assumption | omega)
    · refine lv_iconst (v := 1) hx hb xd_Ch_isChosen_20 (by decide) ?_
      exact W.zret (v := 1) hx hb hr rfl (fun t ht hW => ⟨⟨1, (), rfl, Or.inr rfl, by rw [ht]; exact hP, hD⟩, hS.F ht⟩) hS.2.2 xd_Ch_isChosen_21
set_option maxHeartbeats 4000000 in
set_option maxRecDepth 100000 in
theorem xc_Li_nameAt (l : Launch) (D : va_G) (kA : Nat → ClassId) (sz : Nat) (ad : Nat → Nat → Nat) (E : Nat → Nat → va_E) (RL : List (Nat × Nat)) (ml : Nat) (nd : Nat) (len : Nat) (wn : Nat) (cs : Nat) (ix : Int32) (hCI : CI kA ad E RL ml nd len wn cs) : Met l xy_Li_nameAt (.code xy_Li_nameAt xb_Li_nameAt 4 (some .int) :: wT) { frames := 0, cells := 0, slots := 0, locals := 0 } (va_Pc [.ref (ad 0 1), .int ix] (xPre D kA sz (rp ad E RL))) (va_Qi (fun (r : Int32) (u : Unit) => True) (fun (u : Unit) t => va_P D xcl (rp ad E RL) t.heap ∧ va_D (va_A (rp ad E RL) sz) (rp ad E RL)) (va_A (rp ad E RL) sz)) 0 0 (va_A (rp ad E RL) sz) := by
  refine Met.ofW (cc := xb_Li_nameAt) (maxL := 4) (ret := (some .int)) (by decide) rfl ?_
  intro p e s m args below meth c s₁ B hml hv
  obtain ⟨rfl, hsz, hP, hK, hD0⟩ := hv
  have hx := B.exec
  have hb := B.bytes
  have hr := B.returns
  have hT := x_hT B.pre
  have hown : s.vm.findClass xR_Li = some m.cls := findClass_of_methodNamed B.named
  have hlocks := B.notSynchronized
  subst hsz
  have hD := hD0.self (sz := s.heap.size)
  generalize hAe : va_A (rp ad E RL) s.heap.size = A at hD ⊢
  have hA : ∀ q : Nat, s.heap.size ≤ q → A q := fun q h => by rw [← hAe]; exact Or.inr h
  have hS : va_S A s.heap s.heap [] := va_S.rf
  have hl := lv_entry ([.ref (ad 0 1), .int ix]) (n := 4) (Nat.le_of_ble_eq_true rfl)
  rw [lg_entry_eq]
  generalize (lg_sl ([.ref (ad 0 1), .int ix]) ++ List.replicate (4 - (lg_sl ([.ref (ad 0 1), .int ix])).length) Slot.unset).toArray = ls at hl ⊢
  have hl : lv_has ls 4 [(0, .ref (ad 0 1)), (1, .int ix)] := hl
  have hP : va_P D xcl (rp ad E RL) s.heap := hP
  obtain ⟨hmB, hDk, hLi, hSh, hCh, hLa, hDIs, hLIs⟩ := id hCI
  obtain ⟨tx_1, fb_1, fe_1, hl1_1, hw2_1, q1_1, q2_1, q3_1, q4_1, hws_1⟩ := id (hLi)
  have c_2 : E 0 1 = .inr (1, [.ref (ad 0 2), .ref (ad 0 3), .ref (ad 0 4), .int (nI len), .int (nI wn)]) := q1_1
  have m_3 : (0, 1) ∈ RL := hmB 1 (by omega)
  have c_4 : E 0 2 = .inl (kA 1, 40, .inl tx_1) := q2_1
  have m_5 : (0, 2) ∈ RL := hmB 2 (by omega)
  have c_6 : E 0 3 = .inl (kA 0, 20, .inl fb_1) := q3_1
  have m_7 : (0, 3) ∈ RL := hmB 3 (by omega)
  have c_8 : E 0 4 = .inl (kA 0, 20, .inl fe_1) := q4_1
  have m_9 : (0, 4) ∈ RL := hmB 4 (by omega)
  refine lv_iload_n hx hb xd_Li_nameAt_0 rfl (lv_at hl 1 rfl) ?_
  refine lv_if_lt (tgt := 29) hx hb xd_Li_nameAt_1 (by decide) (fun hc10 => ?_) (fun hc10 => ?_)
  · refine lv_iconst (v := 0) hx hb xd_Li_nameAt_29 (by decide) ?_
    exact W.iret (v := 0) hx hb hr (fun t ht hW => ⟨⟨0, (), rfl, trivial, by rw [ht]; exact hP, hD⟩, hS.F ht⟩) hS.2.2 xd_Li_nameAt_30
  · obtain ⟨iw, hiw31, hiw⟩ := nI_of hc10
    rw [xb_31] at hiw31
    rw [hiw] at hl
    refine lv_iload_n hx hb xd_Li_nameAt_4 rfl (lv_at hl 1 rfl) ?_
    refine lv_aload_n hx hb xd_Li_nameAt_5 rfl (lv_at hl 0 rfl) ?_
    refine px_get (D := D) (ci := 1) (v := .int (nI wn)) (C := xR_Li) (T := xT_Li) (N := 5) hx hb hT xi_Li hown hK.1 hP m_3 c_2 rfl 4 (by decide) (hT _ yo_44) (fun _ h9 => h9) rfl xd_Li_nameAt_6 ?_
    refine xn_ge (a := iw) (b := wn) (tgt := 29) hx hb xd_Li_nameAt_9 (by decide) (by omega) (by omega) (fun hc11 => ?_) (fun hc11 => ?_)
    · refine lv_iconst (v := 0) hx hb xd_Li_nameAt_29 (by decide) ?_
      exact W.iret (v := 0) hx hb hr (fun t ht hW => ⟨⟨0, (), rfl, trivial, by rw [ht]; exact hP, hD⟩, hS.F ht⟩) hS.2.2 xd_Li_nameAt_30
    · obtain ⟨b9, e9, hbe9, he940, hfb9, hfe9⟩ := hws_1 iw (by omega)
      refine lv_aload_n hx hb xd_Li_nameAt_12 rfl (lv_at hl 0 rfl) ?_
      refine px_get (D := D) (ci := 1) (v := .ref (ad 0 4)) (C := xR_Li) (T := xT_Li) (N := 5) hx hb hT xi_Li hown hK.1 hP m_3 c_2 rfl 2 (by decide) (hT _ yo_45) (fun _ h9 => h9) rfl xd_Li_nameAt_13 ?_
      refine lv_iload_n hx hb xd_Li_nameAt_16 rfl (lv_at hl 1 rfl) ?_
      refine px_iald (i := iw) hx hb hK.1 hP m_9 c_8 0 rfl (by omega) (by decide) xd_Li_nameAt_17 ?_
      refine xn_top (x := (fe_1 iw)) (y := nI e9) hfe9 ?_
      refine lv_aload_n hx hb xd_Li_nameAt_18 rfl (lv_at hl 0 rfl) ?_
      refine px_get (D := D) (ci := 1) (v := .ref (ad 0 3)) (C := xR_Li) (T := xT_Li) (N := 5) hx hb hT xi_Li hown hK.1 hP m_3 c_2 rfl 1 (by decide) (hT _ yo_46) (fun _ h9 => h9) rfl xd_Li_nameAt_19 ?_
      refine lv_iload_n hx hb xd_Li_nameAt_22 rfl (lv_at hl 1 rfl) ?_
      refine px_iald (i := iw) hx hb hK.1 hP m_7 c_6 0 rfl (by omega) (by decide) xd_Li_nameAt_23 ?_
      refine xn_top (x := (fb_1 iw)) (y := nI b9) hfb9 ?_
      refine lv_isub hx hb xd_Li_nameAt_24 ?_
      refine xn_top (y := nI (e9 - b9)) (pk_sub (a := e9) (b := b9) (by omega)) ?_
      refine lv_iconst (v := 4) hx hb xd_Li_nameAt_25 (by decide) ?_
      refine xn_le (a := e9 - b9) (b := 4) (tgt := 31) hx hb xd_Li_nameAt_26 (by decide) (by omega) (by omega) (fun hc12 => ?_) (fun hc12 => ?_)
      · refine lv_iconst (v := 0) hx hb xd_Li_nameAt_31 (by decide) ?_
        refine lv_istore_n hx hb xd_Li_nameAt_32 rfl hl (Nat.le_of_ble_eq_true rfl) rfl (fun ls hl => ?_)
        have hl : lv_has ls 4 [(2, .int 0), (0, .ref (ad 0 1)), (1, .int (nI iw))] := hl
        refine lv_aload_n hx hb xd_Li_nameAt_33 rfl (lv_at hl 1 rfl) ?_
        refine px_get (D := D) (ci := 1) (v := .ref (ad 0 3)) (C := xR_Li) (T := xT_Li) (N := 5) hx hb hT xi_Li hown hK.1 hP m_3 c_2 rfl 1 (by decide) (hT _ yo_46) (fun _ h9 => h9) rfl xd_Li_nameAt_34 ?_
        refine lv_iload_n hx hb xd_Li_nameAt_37 rfl (lv_at hl 2 rfl) ?_
        refine px_iald (i := iw) hx hb hK.1 hP m_7 c_6 0 rfl (by omega) (by decide) xd_Li_nameAt_38 ?_
        refine xn_top (x := (fb_1 iw)) (y := nI b9) hfb9 ?_
        refine lv_istore_n hx hb xd_Li_nameAt_39 rfl hl (Nat.le_of_ble_eq_true rfl) rfl (fun ls hl => ?_)
        have hl : lv_has ls 4 [(3, .int (nI b9)), (2, .int 0), (0, .ref (ad 0 1)), (1, .int (nI iw))] := hl
        refine xlab (σ := Nat × Int32) (ml := 4) 40 (fun (pp9, nm9) => [(3, .int (nI pp9)), (2, .int nm9), (0, .ref (ad 0 1)), (1, .int (nI iw))]) (fun (pp9, nm9) => []) (fun (pp9, nm9) => rp ad E RL) (fun (pp9, nm9) => (b9 ≤ pp9) ∧ (pp9 ≤ e9)) (fun (pp9, nm9) => e9 - pp9) ?_ (b9, 0) _ _ _ (lv_sub hl [0, 1, 2, 3] rfl) hP hD hS ⟨(show b9 ≤ b9 from by first | assumption | omega), (show b9 ≤ e9 from by first | assumption | omega)⟩
        intro n9 ih13 a9 ls H locs hμ hl hP hD hS hI
        subst hμ
        obtain ⟨pp9, nm9⟩ := a9
        obtain ⟨hp1, hp2⟩ := hI
        have hp1 : b9 ≤ pp9 := hp1
        have hp2 : pp9 ≤ e9 := hp2
        have hl : lv_has ls 4 [(3, .int (nI pp9)), (2, .int nm9), (0, .ref (ad 0 1)), (1, .int (nI iw))] := hl
        have hP : va_P D xcl (rp ad E RL) H := hP
        have hD : va_D A (rp ad E RL) := hD
        refine lv_iload_n hx hb xd_Li_nameAt_40 rfl (lv_at hl 0 rfl) ?_
        refine lv_aload_n hx hb xd_Li_nameAt_41 rfl (lv_at hl 2 rfl) ?_
        refine px_get (D := D) (ci := 1) (v := .ref (ad 0 4)) (C := xR_Li) (T := xT_Li) (N := 5) hx hb hT xi_Li hown hK.1 hP m_3 c_2 rfl 2 (by decide) (hT _ yo_45) (fun _ h9 => h9) rfl xd_Li_nameAt_42 ?_
        refine lv_iload_n hx hb xd_Li_nameAt_45 rfl (lv_at hl 3 rfl) ?_
        refine px_iald (i := iw) hx hb hK.1 hP m_9 c_8 0 rfl (by omega) (by decide) xd_Li_nameAt_46 ?_
        refine xn_top (x := (fe_1 iw)) (y := nI e9) hfe9 ?_
        refine xn_ge (a := pp9) (b := e9) (tgt := 97) hx hb xd_Li_nameAt_47 (by decide) (by omega) (by omega) (fun hc14 => ?_) (fun hc14 => ?_)
        · refine lv_iload_n hx hb xd_Li_nameAt_97 rfl (lv_at hl 1 rfl) ?_
          exact W.iret (v := nm9) hx hb hr (fun t ht hW => ⟨⟨nm9, (), rfl, trivial, by rw [ht]; exact hP, hD⟩, hS.F ht⟩) hS.2.2 xd_Li_nameAt_98
        · refine lv_aload_n hx hb xd_Li_nameAt_50 rfl (lv_at hl 2 rfl) ?_
          refine px_get (D := D) (ci := 1) (v := .ref (ad 0 2)) (C := xR_Li) (T := xT_Li) (N := 5) hx hb hT xi_Li hown hK.1 hP m_3 c_2 rfl 0 (by decide) (hT _ yo_47) (fun _ h9 => h9) rfl xd_Li_nameAt_51 ?_
          refine lv_iload_n hx hb xd_Li_nameAt_54 rfl (lv_at hl 0 rfl) ?_
          refine px_cald (i := pp9) hx hb hK.1 hP m_5 c_4 1 rfl (by omega) (by decide) xd_Li_nameAt_55 ?_
          refine lv_bipush (v := 97) hx hb xd_Li_nameAt_56 (by decide) ?_
          refine lv_icmp_lt (tgt := 72) hx hb xd_Li_nameAt_58 (by decide) (fun hc15 => ?_) (fun hc15 => ?_)
          · refine lv_iconst (v := 0) hx hb xd_Li_nameAt_72 (by decide) ?_
            exact W.iret (v := 0) hx hb hr (fun t ht hW => ⟨⟨0, (), rfl, trivial, by rw [ht]; exact hP, hD⟩, hS.F ht⟩) hS.2.2 xd_Li_nameAt_73
          · refine lv_aload_n hx hb xd_Li_nameAt_61 rfl (lv_at hl 2 rfl) ?_
            refine px_get (D := D) (ci := 1) (v := .ref (ad 0 2)) (C := xR_Li) (T := xT_Li) (N := 5) hx hb hT xi_Li hown hK.1 hP m_3 c_2 rfl 0 (by decide) (hT _ yo_47) (fun _ h9 => h9) rfl xd_Li_nameAt_62 ?_
            refine lv_iload_n hx hb xd_Li_nameAt_65 rfl (lv_at hl 0 rfl) ?_
            refine px_cald (i := pp9) hx hb hK.1 hP m_5 c_4 1 rfl (by omega) (by decide) xd_Li_nameAt_66 ?_
            refine lv_bipush (v := 122) hx hb xd_Li_nameAt_67 (by decide) ?_
            refine lv_icmp_le (tgt := 74) hx hb xd_Li_nameAt_69 (by decide) (fun hc16 => ?_) (fun hc16 => ?_)
            · refine lv_iload_n hx hb xd_Li_nameAt_74 rfl (lv_at hl 1 rfl) ?_
              refine lv_bipush (v := 27) hx hb xd_Li_nameAt_75 (by decide) ?_
              refine lv_imul hx hb xd_Li_nameAt_77 ?_
              refine lv_aload_n hx hb xd_Li_nameAt_78 rfl (lv_at hl 2 rfl) ?_
              refine px_get (D := D) (ci := 1) (v := .ref (ad 0 2)) (C := xR_Li) (T := xT_Li) (N := 5) hx hb hT xi_Li hown hK.1 hP m_3 c_2 rfl 0 (by decide) (hT _ yo_47) (fun _ h9 => h9) rfl xd_Li_nameAt_79 ?_
              refine lv_iload_n hx hb xd_Li_nameAt_82 rfl (lv_at hl 0 rfl) ?_
              refine px_cald (i := pp9) hx hb hK.1 hP m_5 c_4 1 rfl (by omega) (by decide) xd_Li_nameAt_83 ?_
              refine lv_bipush (v := 97) hx hb xd_Li_nameAt_84 (by decide) ?_
              refine lv_isub hx hb xd_Li_nameAt_86 ?_
              refine lv_iconst (v := 1) hx hb xd_Li_nameAt_87 (by decide) ?_
              refine lv_iadd hx hb xd_Li_nameAt_88 ?_
              refine lv_iadd hx hb xd_Li_nameAt_89 ?_
              refine lv_istore_n hx hb xd_Li_nameAt_90 rfl hl (Nat.le_of_ble_eq_true rfl) rfl (fun ls hl => ?_)
              have hl : lv_has ls 4 [(2, .int ((nm9 * 27) + (((tx_1 pp9) - 97) + 1))), (3, .int (nI pp9)), (0, .ref (ad 0 1)), (1, .int (nI iw))] := hl
              refine lv_iinc (k := 1) (x := (nI pp9)) (v := (nI (pp9 + 1))) hx hb xd_Li_nameAt_91 hl rfl (xb_inc pp9 1) (Nat.le_of_ble_eq_true rfl) rfl (fun ls hl => ?_)
              have hl : lv_has ls 4 [(3, .int (nI (pp9 + 1))), (2, .int ((nm9 * 27) + (((tx_1 pp9) - 97) + 1))), (0, .ref (ad 0 1)), (1, .int (nI iw))] := hl
              refine lv_goto (tgt := 40) hx hb xd_Li_nameAt_94 (by decide) ?_
              exact ih13 (pp9 + 1, ((nm9 * 27) + (((tx_1 pp9) - 97) + 1))) _ _ _ (show e9 - (pp9 + 1) < e9 - pp9 by omega) (lv_sub hl [0, 1, 2, 3] rfl) hP hD hS ⟨(show b9 ≤ (pp9 + 1) from by first | assumption | omega), (show (pp9 + 1) ≤ e9 from by first | assumption | omega)⟩
            · refine lv_iconst (v := 0) hx hb xd_Li_nameAt_72 (by decide) ?_
              exact W.iret (v := 0) hx hb hr (fun t ht hW => ⟨⟨0, (), rfl, trivial, by rw [ht]; exact hP, hD⟩, hS.F ht⟩) hS.2.2 xd_Li_nameAt_73
      · refine lv_iconst (v := 0) hx hb xd_Li_nameAt_29 (by decide) ?_
        exact W.iret (v := 0) hx hb hr (fun t ht hW => ⟨⟨0, (), rfl, trivial, by rw [ht]; exact hP, hD⟩, hS.F ht⟩) hS.2.2 xd_Li_nameAt_30
set_option maxHeartbeats 4000000 in
set_option maxRecDepth 100000 in
theorem xc_De_rootsAreNames (l : Launch) (D : va_G) (kA : Nat → ClassId) (sz : Nat) (ad : Nat → Nat → Nat) (E : Nat → Nat → va_E) (RL : List (Nat × Nat)) (ml : Nat) (nd : Nat) (len : Nat) (wn : Nat) (cs : Nat) (hCI : CI kA ad E RL ml nd len wn cs) : Met l xy_De_rootsAreNames (.code xy_De_rootsAreNames xb_De_rootsAreNames 2 (some .boolean) :: wT) { frames := 1, cells := 0, slots := 0, locals := 23 } (va_Pc [.ref (ad 0 0)] (xPre D kA sz (rp ad E RL))) (va_Qi (fun (r : Int32) (u : Unit) => r = 0 ∨ r = 1) (fun (u : Unit) t => va_P D xcl (rp ad E RL) t.heap ∧ va_D (va_A (rp ad E RL) sz) (rp ad E RL)) (va_A (rp ad E RL) sz)) 0 0 (va_A (rp ad E RL) sz) := by
  refine Met.ofW (cc := xb_De_rootsAreNames) (maxL := 2) (ret := (some .boolean)) (by decide) rfl ?_
  intro p e s m args below meth c s₁ B hml hv
  obtain ⟨rfl, hsz, hP, hK, hD0⟩ := hv
  have hx := B.exec
  have hb := B.bytes
  have hr := B.returns
  have hT := x_hT B.pre
  have hown : s.vm.findClass xR_De = some m.cls := findClass_of_methodNamed B.named
  have hlocks := B.notSynchronized
  subst hsz
  have hD := hD0.self (sz := s.heap.size)
  generalize hAe : va_A (rp ad E RL) s.heap.size = A at hD ⊢
  have hA : ∀ q : Nat, s.heap.size ≤ q → A q := fun q h => by rw [← hAe]; exact Or.inr h
  have hS : va_S A s.heap s.heap [] := va_S.rf
  have hl := lv_entry ([.ref (ad 0 0)]) (n := 2) (Nat.le_of_ble_eq_true rfl)
  rw [lg_entry_eq]
  generalize (lg_sl ([.ref (ad 0 0)]) ++ List.replicate (2 - (lg_sl ([.ref (ad 0 0)])).length) Slot.unset).toArray = ls at hl ⊢
  have hl : lv_has ls 2 [(0, .ref (ad 0 0))] := hl
  have hP : va_P D xcl (rp ad E RL) s.heap := hP
  obtain ⟨hmB, hDk, hLi, hSh, hCh, hLa, hDIs, hLIs⟩ := id hCI
  obtain ⟨lf_1, q_1⟩ := id (hDk)
  have c_2 : E 0 0 = .inr (0, [.ref (ad 0 1), .ref (ad 0 5), .ref (ad 0 7), .ref (ad 0 9), .int (nI ml), .int lf_1]) := q_1
  have m_3 : (0, 0) ∈ RL := hmB 0 (by omega)
  obtain ⟨tx_4, fb_4, fe_4, hl1_4, hw2_4, q1_4, q2_4, q3_4, q4_4, hws_4⟩ := id (hLi)
  have c_5 : E 0 1 = .inr (1, [.ref (ad 0 2), .ref (ad 0 3), .ref (ad 0 4), .int (nI len), .int (nI wn)]) := q1_4
  have m_6 : (0, 1) ∈ RL := hmB 1 (by omega)
  have c_7 : E 0 2 = .inl (kA 1, 40, .inl tx_4) := q2_4
  have m_8 : (0, 2) ∈ RL := hmB 2 (by omega)
  have c_9 : E 0 3 = .inl (kA 0, 20, .inl fb_4) := q3_4
  have m_10 : (0, 3) ∈ RL := hmB 3 (by omega)
  have c_11 : E 0 4 = .inl (kA 0, 20, .inl fe_4) := q4_4
  have m_12 : (0, 4) ∈ RL := hmB 4 (by omega)
  refine lv_aload_n hx hb xd_De_rootsAreNames_0 rfl (lv_at hl 0 rfl) ?_
  refine px_get (D := D) (ci := 0) (v := .ref (ad 0 1)) (C := xR_De) (T := xT_De) (N := 6) hx hb hT xi_De hown hK.1 hP m_3 c_2 rfl 0 (by decide) (hT _ yo_48) (fun _ h9 => h9) rfl xd_De_rootsAreNames_1 ?_
  refine px_get (D := D) (ci := 1) (v := .int (nI wn)) (C := xR_Li) (T := xT_Li) (N := 5) hx hb hT xi_Li hown hK.1 hP m_6 c_5 rfl 4 (by decide) (hT _ yo_49) (fun _ h9 => h9) rfl xd_De_rootsAreNames_4 ?_
  refine lv_iconst (v := 1) hx hb xd_De_rootsAreNames_7 (by decide) ?_
  refine xn_lt (a := wn) (b := 1) (tgt := 22) hx hb xd_De_rootsAreNames_8 (by decide) (by omega) (by omega) (fun hc13 => ?_) (fun hc13 => ?_)
  · refine lv_iconst (v := 0) hx hb xd_De_rootsAreNames_22 (by decide) ?_
    exact W.zret (v := 0) hx hb hr rfl (fun t ht hW => ⟨⟨0, (), rfl, Or.inl rfl, by rw [ht]; exact hP, hD⟩, hS.F ht⟩) hS.2.2 xd_De_rootsAreNames_23
  · refine lv_aload_n hx hb xd_De_rootsAreNames_11 rfl (lv_at hl 0 rfl) ?_
    refine px_get (D := D) (ci := 0) (v := .ref (ad 0 1)) (C := xR_De) (T := xT_De) (N := 6) hx hb hT xi_De hown hK.1 hP m_3 c_2 rfl 0 (by decide) (hT _ yo_48) (fun _ h9 => h9) rfl xd_De_rootsAreNames_12 ?_
    refine px_get (D := D) (ci := 1) (v := .int (nI wn)) (C := xR_Li) (T := xT_Li) (N := 5) hx hb hT xi_Li hown hK.1 hP m_6 c_5 rfl 4 (by decide) (hT _ yo_49) (fun _ h9 => h9) rfl xd_De_rootsAreNames_15 ?_
    refine lv_iconst (v := 3) hx hb xd_De_rootsAreNames_18 (by decide) ?_
    refine xn_le (a := wn) (b := 3) (tgt := 24) hx hb xd_De_rootsAreNames_19 (by decide) (by omega) (by omega) (fun hc14 => ?_) (fun hc14 => ?_)
    · refine lv_iconst (v := 0) hx hb xd_De_rootsAreNames_24 (by decide) ?_
      refine lv_istore_n hx hb xd_De_rootsAreNames_25 rfl hl (Nat.le_of_ble_eq_true rfl) rfl (fun ls hl => ?_)
      have hl : lv_has ls 2 [(1, .int 0), (0, .ref (ad 0 0))] := hl
      refine xlab (σ := Nat) (ml := 2) 26 (fun (i : Nat) => [(1, .int (nI i)), (0, .ref (ad 0 0))]) (fun (i : Nat) => []) (fun (i : Nat) => rp ad E RL) (fun (i : Nat) => (i ≤ wn)) (fun (i : Nat) => wn - i) ?_ 0 _ _ _ (lv_sub hl [0, 1] rfl) hP hD hS (show 0 ≤ wn from by first | assumption | omega)
      intro n9 ih15 a9 ls H locs hμ hl hP hD hS hI
      subst hμ
      obtain ⟨i, rfl⟩ : ∃ z, z = a9 := ⟨_, rfl⟩
      have hi : i ≤ wn := hI
      have hl : lv_has ls 2 [(1, .int (nI i)), (0, .ref (ad 0 0))] := hl
      have hP : va_P D xcl (rp ad E RL) H := hP
      have hD : va_D A (rp ad E RL) := hD
      refine lv_iload_n hx hb xd_De_rootsAreNames_26 rfl (lv_at hl 0 rfl) ?_
      refine lv_aload_n hx hb xd_De_rootsAreNames_27 rfl (lv_at hl 1 rfl) ?_
      refine px_get (D := D) (ci := 0) (v := .ref (ad 0 1)) (C := xR_De) (T := xT_De) (N := 6) hx hb hT xi_De hown hK.1 hP m_3 c_2 rfl 0 (by decide) (hT _ yo_48) (fun _ h9 => h9) rfl xd_De_rootsAreNames_28 ?_
      refine px_get (D := D) (ci := 1) (v := .int (nI wn)) (C := xR_Li) (T := xT_Li) (N := 5) hx hb hT xi_Li hown hK.1 hP m_6 c_5 rfl 4 (by decide) (hT _ yo_49) (fun _ h9 => h9) rfl xd_De_rootsAreNames_31 ?_
      refine xn_ge (a := i) (b := wn) (tgt := 56) hx hb xd_De_rootsAreNames_34 (by decide) (by omega) (by omega) (fun hc16 => ?_) (fun hc16 => ?_)
      · refine lv_iconst (v := 1) hx hb xd_De_rootsAreNames_56 (by decide) ?_
        exact W.zret (v := 1) hx hb hr rfl (fun t ht hW => ⟨⟨1, (), rfl, Or.inr rfl, by rw [ht]; exact hP, hD⟩, hS.F ht⟩) hS.2.2 xd_De_rootsAreNames_57
      · refine lv_aload_n hx hb xd_De_rootsAreNames_37 rfl (lv_at hl 1 rfl) ?_
        refine px_get (D := D) (ci := 0) (v := .ref (ad 0 1)) (C := xR_De) (T := xT_De) (N := 6) hx hb hT xi_De hown hK.1 hP m_3 c_2 rfl 0 (by decide) (hT _ yo_48) (fun _ h9 => h9) rfl xd_De_rootsAreNames_38 ?_
        refine lv_iload_n hx hb xd_De_rootsAreNames_41 rfl (lv_at hl 0 rfl) ?_
        have hFc := px_free hD hS hA
        refine va_calli (va_runV (As := [.int (nI i)]) (rest := []) ⟨hx, hb, hml, hown, hT⟩ (xc_Li_nameAt l D kA H.size ad E RL ml nd len wn cs (nI i) (by first | assumption | omega)) (cwV 1 hT (wT_V yo_51 yo_52 yo_53 yo_54 yo_50) rfl rfl rfl (by decide +kernel) ⟨Nat.le_of_ble_eq_true rfl, Nat.le_of_ble_eq_true rfl⟩) (px_preV hK hP hD m_6 c_5 rfl) rfl rfl hl.1 rfl (lv_room (Nat.le_of_ble_eq_true rfl)) xd_De_rootsAreNames_42 ⟨(Nat.le_of_ble_eq_true rfl), (Nat.le_of_ble_eq_true rfl)⟩) hS (fun q _ h => hFc q h) hFc (fun r17 u18 t H1 locs ht hvm hp19 hB hz1 hk1 hS => ?_)
        obtain ⟨hP1, hD1⟩ := hB
        rw [ht] at hP1
        have hD1 := hD1.weaken (fun _ _ _ h => hFc _ h)
        generalize H1 = H at hP1 hS ⊢
        have hP := hP1
        have hD := hD1
        have hP : va_P D xcl (rp ad E RL) H := hP
        have hD : va_D A (rp ad E RL) := hD
        refine lv_if_ne (tgt := 50) hx hb xd_De_rootsAreNames_45 (by decide) (fun hc20 => ?_) (fun hc20 => ?_)
        · refine lv_iinc (k := 0) (x := (nI i)) (v := (nI (i + 1))) hx hb xd_De_rootsAreNames_50 hl rfl (xb_inc i 1) (Nat.le_of_ble_eq_true rfl) rfl (fun ls hl => ?_)
          have hl : lv_has ls 2 [(1, .int (nI (i + 1))), (0, .ref (ad 0 0))] := hl
          refine lv_goto (tgt := 26) hx hb xd_De_rootsAreNames_53 (by decide) ?_
          exact ih15 (i + 1) _ _ _ (show wn - (i + 1) < wn - i by omega) (lv_sub hl [0, 1] rfl) hP hD hS (show (i + 1) ≤ wn from by first | assumption | omega)
        · refine lv_iconst (v := 0) hx hb xd_De_rootsAreNames_48 (by decide) ?_
          exact W.zret (v := 0) hx hb hr rfl (fun t ht hW => ⟨⟨0, (), rfl, Or.inl rfl, by rw [ht]; exact hP, hD⟩, hS.F ht⟩) hS.2.2 xd_De_rootsAreNames_49
    · refine lv_iconst (v := 0) hx hb xd_De_rootsAreNames_22 (by decide) ?_
      exact W.zret (v := 0) hx hb hr rfl (fun t ht hW => ⟨⟨0, (), rfl, Or.inl rfl, by rw [ht]; exact hP, hD⟩, hS.F ht⟩) hS.2.2 xd_De_rootsAreNames_23
