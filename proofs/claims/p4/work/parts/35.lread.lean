abbrev xb_Ly_lookUp : ByteArray := prog_5_method_2_code
def xy_Ly_lookUp : MethodName := ⟨"LayerDesk$Layer", "lookUp", "(I)LLayerDesk$Member;"⟩
abbrev xb_Ly_withDescriptor : ByteArray := prog_5_method_3_code
def xy_Ly_withDescriptor : MethodName := ⟨"LayerDesk$Layer", "withDescriptor", "(I)LLayerDesk$Member;"⟩
abbrev xb_Ly_providerOf : ByteArray := prog_5_method_4_code
def xy_Ly_providerOf : MethodName := ⟨"LayerDesk$Layer", "providerOf", "(II)LLayerDesk$Member;"⟩
abbrev xb_Me_code : ByteArray := prog_7_method_6_code
def xy_Me_code : MethodName := ⟨"LayerDesk$Member", "code", "()I"⟩
abbrev xb_Me_sourceOf : ByteArray := prog_7_method_4_code
def xy_Me_sourceOf : MethodName := ⟨"LayerDesk$Member", "sourceOf", "(I)LLayerDesk$Member;"⟩
abbrev xb_Me_isSplitBy : ByteArray := prog_7_method_5_code
def xy_Me_isSplitBy : MethodName := ⟨"LayerDesk$Member", "isSplitBy", "(LLayerDesk$Member;)Z"⟩
abbrev xb_Ly_hasCycle : ByteArray := prog_5_method_6_code
def xy_Ly_hasCycle : MethodName := ⟨"LayerDesk$Layer", "hasCycle", "()Z"⟩
abbrev xb_Ly_hasSplit : ByteArray := prog_5_method_7_code
def xy_Ly_hasSplit : MethodName := ⟨"LayerDesk$Layer", "hasSplit", "()Z"⟩
theorem xd_Ly_hasCycle_0 : decode xb_Ly_hasCycle 0 = .ok (.iconst 0, 1) := by decide +kernel
theorem xd_Ly_hasCycle_1 : decode xb_Ly_hasCycle 1 = .ok (.istore_n 1, 1) := by decide +kernel
theorem xd_Ly_hasCycle_2 : decode xb_Ly_hasCycle 2 = .ok (.iload_n 1, 1) := by decide +kernel
theorem xd_Ly_hasCycle_3 : decode xb_Ly_hasCycle 3 = .ok (.aload_n 0, 1) := by decide +kernel
theorem xd_Ly_hasCycle_4 : decode xb_Ly_hasCycle 4 = .ok (.getfield 19, 3) := by decide +kernel
theorem xd_Ly_hasCycle_7 : decode xb_Ly_hasCycle 7 = .ok (.arraylength, 1) := by decide +kernel
theorem xd_Ly_hasCycle_8 : decode xb_Ly_hasCycle 8 = .ok (.if_icmp .ge 32, 3) := by decide +kernel
theorem xd_Ly_hasCycle_11 : decode xb_Ly_hasCycle 11 = .ok (.aload_n 0, 1) := by decide +kernel
theorem xd_Ly_hasCycle_12 : decode xb_Ly_hasCycle 12 = .ok (.getfield 19, 3) := by decide +kernel
theorem xd_Ly_hasCycle_15 : decode xb_Ly_hasCycle 15 = .ok (.iload_n 1, 1) := by decide +kernel
theorem xd_Ly_hasCycle_16 : decode xb_Ly_hasCycle 16 = .ok (.aaload, 1) := by decide +kernel
theorem xd_Ly_hasCycle_17 : decode xb_Ly_hasCycle 17 = .ok (.getfield 52, 3) := by decide +kernel
theorem xd_Ly_hasCycle_20 : decode xb_Ly_hasCycle 20 = .ok (.aload_n 0, 1) := by decide +kernel
theorem xd_Ly_hasCycle_21 : decode xb_Ly_hasCycle 21 = .ok (.getfield 19, 3) := by decide +kernel
theorem xd_Ly_hasCycle_24 : decode xb_Ly_hasCycle 24 = .ok (.iload_n 1, 1) := by decide +kernel
theorem xd_Ly_hasCycle_25 : decode xb_Ly_hasCycle 25 = .ok (.aaload, 1) := by decide +kernel
theorem xd_Ly_hasCycle_26 : decode xb_Ly_hasCycle 26 = .ok (.invokevirtual 66, 3) := by decide +kernel
theorem xd_Ly_hasCycle_29 : decode xb_Ly_hasCycle 29 = .ok (.ifCond .eq 5, 3) := by decide +kernel
theorem xd_Ly_hasCycle_32 : decode xb_Ly_hasCycle 32 = .ok (.iconst 1, 1) := by decide +kernel
theorem xd_Ly_hasCycle_33 : decode xb_Ly_hasCycle 33 = .ok (.ireturn, 1) := by decide +kernel
theorem xd_Ly_hasCycle_34 : decode xb_Ly_hasCycle 34 = .ok (.iinc 1 1, 3) := by decide +kernel
theorem xd_Ly_hasCycle_37 : decode xb_Ly_hasCycle 37 = .ok (.goto (-35), 3) := by decide +kernel
theorem xd_Ly_hasCycle_40 : decode xb_Ly_hasCycle 40 = .ok (.iconst 0, 1) := by decide +kernel
theorem xd_Ly_hasCycle_41 : decode xb_Ly_hasCycle 41 = .ok (.ireturn, 1) := by decide +kernel
theorem xd_Ly_hasSplit_0 : decode xb_Ly_hasSplit 0 = .ok (.iconst 0, 1) := by decide +kernel
theorem xd_Ly_hasSplit_1 : decode xb_Ly_hasSplit 1 = .ok (.istore_n 1, 1) := by decide +kernel
theorem xd_Ly_hasSplit_2 : decode xb_Ly_hasSplit 2 = .ok (.iload_n 1, 1) := by decide +kernel
theorem xd_Ly_hasSplit_3 : decode xb_Ly_hasSplit 3 = .ok (.aload_n 0, 1) := by decide +kernel
theorem xd_Ly_hasSplit_4 : decode xb_Ly_hasSplit 4 = .ok (.getfield 19, 3) := by decide +kernel
theorem xd_Ly_hasSplit_7 : decode xb_Ly_hasSplit 7 = .ok (.arraylength, 1) := by decide +kernel
theorem xd_Ly_hasSplit_8 : decode xb_Ly_hasSplit 8 = .ok (.if_icmp .ge 60, 3) := by decide +kernel
theorem xd_Ly_hasSplit_11 : decode xb_Ly_hasSplit 11 = .ok (.aload_n 0, 1) := by decide +kernel
theorem xd_Ly_hasSplit_12 : decode xb_Ly_hasSplit 12 = .ok (.astore_n 2, 1) := by decide +kernel
theorem xd_Ly_hasSplit_13 : decode xb_Ly_hasSplit 13 = .ok (.aload_n 2, 1) := by decide +kernel
theorem xd_Ly_hasSplit_14 : decode xb_Ly_hasSplit 14 = .ok (.ifnull 48, 3) := by decide +kernel
theorem xd_Ly_hasSplit_17 : decode xb_Ly_hasSplit 17 = .ok (.iconst 0, 1) := by decide +kernel
theorem xd_Ly_hasSplit_18 : decode xb_Ly_hasSplit 18 = .ok (.istore_n 3, 1) := by decide +kernel
theorem xd_Ly_hasSplit_19 : decode xb_Ly_hasSplit 19 = .ok (.iload_n 3, 1) := by decide +kernel
theorem xd_Ly_hasSplit_20 : decode xb_Ly_hasSplit 20 = .ok (.aload_n 2, 1) := by decide +kernel
theorem xd_Ly_hasSplit_21 : decode xb_Ly_hasSplit 21 = .ok (.getfield 19, 3) := by decide +kernel
theorem xd_Ly_hasSplit_24 : decode xb_Ly_hasSplit 24 = .ok (.arraylength, 1) := by decide +kernel
theorem xd_Ly_hasSplit_25 : decode xb_Ly_hasSplit 25 = .ok (.if_icmp .ge 29, 3) := by decide +kernel
theorem xd_Ly_hasSplit_28 : decode xb_Ly_hasSplit 28 = .ok (.aload_n 0, 1) := by decide +kernel
theorem xd_Ly_hasSplit_29 : decode xb_Ly_hasSplit 29 = .ok (.getfield 19, 3) := by decide +kernel
theorem xd_Ly_hasSplit_32 : decode xb_Ly_hasSplit 32 = .ok (.iload_n 1, 1) := by decide +kernel
theorem xd_Ly_hasSplit_33 : decode xb_Ly_hasSplit 33 = .ok (.aaload, 1) := by decide +kernel
theorem xd_Ly_hasSplit_34 : decode xb_Ly_hasSplit 34 = .ok (.aload_n 2, 1) := by decide +kernel
theorem xd_Ly_hasSplit_35 : decode xb_Ly_hasSplit 35 = .ok (.getfield 19, 3) := by decide +kernel
theorem xd_Ly_hasSplit_38 : decode xb_Ly_hasSplit 38 = .ok (.iload_n 3, 1) := by decide +kernel
theorem xd_Ly_hasSplit_39 : decode xb_Ly_hasSplit 39 = .ok (.aaload, 1) := by decide +kernel
theorem xd_Ly_hasSplit_40 : decode xb_Ly_hasSplit 40 = .ok (.invokevirtual 70, 3) := by decide +kernel
theorem xd_Ly_hasSplit_43 : decode xb_Ly_hasSplit 43 = .ok (.ifCond .eq 5, 3) := by decide +kernel
theorem xd_Ly_hasSplit_46 : decode xb_Ly_hasSplit 46 = .ok (.iconst 1, 1) := by decide +kernel
theorem xd_Ly_hasSplit_47 : decode xb_Ly_hasSplit 47 = .ok (.ireturn, 1) := by decide +kernel
theorem xd_Ly_hasSplit_48 : decode xb_Ly_hasSplit 48 = .ok (.iinc 3 1, 3) := by decide +kernel
theorem xd_Ly_hasSplit_51 : decode xb_Ly_hasSplit 51 = .ok (.goto (-32), 3) := by decide +kernel
theorem xd_Ly_hasSplit_54 : decode xb_Ly_hasSplit 54 = .ok (.aload_n 2, 1) := by decide +kernel
theorem xd_Ly_hasSplit_55 : decode xb_Ly_hasSplit 55 = .ok (.getfield 13, 3) := by decide +kernel
theorem xd_Ly_hasSplit_58 : decode xb_Ly_hasSplit 58 = .ok (.astore_n 2, 1) := by decide +kernel
theorem xd_Ly_hasSplit_59 : decode xb_Ly_hasSplit 59 = .ok (.goto (-46), 3) := by decide +kernel
theorem xd_Ly_hasSplit_62 : decode xb_Ly_hasSplit 62 = .ok (.iinc 1 1, 3) := by decide +kernel
theorem xd_Ly_hasSplit_65 : decode xb_Ly_hasSplit 65 = .ok (.goto (-63), 3) := by decide +kernel
theorem xd_Ly_hasSplit_68 : decode xb_Ly_hasSplit 68 = .ok (.iconst 0, 1) := by decide +kernel
theorem xd_Ly_hasSplit_69 : decode xb_Ly_hasSplit 69 = .ok (.ireturn, 1) := by decide +kernel
theorem xd_Ly_lookUp_0 : decode xb_Ly_lookUp 0 = .ok (.aload_n 0, 1) := by decide +kernel
theorem xd_Ly_lookUp_1 : decode xb_Ly_lookUp 1 = .ok (.astore_n 2, 1) := by decide +kernel
theorem xd_Ly_lookUp_2 : decode xb_Ly_lookUp 2 = .ok (.aload_n 2, 1) := by decide +kernel
theorem xd_Ly_lookUp_3 : decode xb_Ly_lookUp 3 = .ok (.ifnull 51, 3) := by decide +kernel
theorem xd_Ly_lookUp_6 : decode xb_Ly_lookUp 6 = .ok (.iconst 0, 1) := by decide +kernel
theorem xd_Ly_lookUp_7 : decode xb_Ly_lookUp 7 = .ok (.istore_n 3, 1) := by decide +kernel
theorem xd_Ly_lookUp_8 : decode xb_Ly_lookUp 8 = .ok (.iload_n 3, 1) := by decide +kernel
theorem xd_Ly_lookUp_9 : decode xb_Ly_lookUp 9 = .ok (.aload_n 2, 1) := by decide +kernel
theorem xd_Ly_lookUp_10 : decode xb_Ly_lookUp 10 = .ok (.getfield 19, 3) := by decide +kernel
theorem xd_Ly_lookUp_13 : decode xb_Ly_lookUp 13 = .ok (.arraylength, 1) := by decide +kernel
theorem xd_Ly_lookUp_14 : decode xb_Ly_lookUp 14 = .ok (.if_icmp .ge 32, 3) := by decide +kernel
theorem xd_Ly_lookUp_17 : decode xb_Ly_lookUp 17 = .ok (.aload_n 2, 1) := by decide +kernel
theorem xd_Ly_lookUp_18 : decode xb_Ly_lookUp 18 = .ok (.getfield 19, 3) := by decide +kernel
theorem xd_Ly_lookUp_21 : decode xb_Ly_lookUp 21 = .ok (.iload_n 3, 1) := by decide +kernel
theorem xd_Ly_lookUp_22 : decode xb_Ly_lookUp 22 = .ok (.aaload, 1) := by decide +kernel
theorem xd_Ly_lookUp_23 : decode xb_Ly_lookUp 23 = .ok (.getfield 27, 3) := by decide +kernel
theorem xd_Ly_lookUp_26 : decode xb_Ly_lookUp 26 = .ok (.getfield 31, 3) := by decide +kernel
theorem xd_Ly_lookUp_29 : decode xb_Ly_lookUp 29 = .ok (.iload_n 1, 1) := by decide +kernel
theorem xd_Ly_lookUp_30 : decode xb_Ly_lookUp 30 = .ok (.if_icmp .ne 10, 3) := by decide +kernel
theorem xd_Ly_lookUp_33 : decode xb_Ly_lookUp 33 = .ok (.aload_n 2, 1) := by decide +kernel
theorem xd_Ly_lookUp_34 : decode xb_Ly_lookUp 34 = .ok (.getfield 19, 3) := by decide +kernel
theorem xd_Ly_lookUp_37 : decode xb_Ly_lookUp 37 = .ok (.iload_n 3, 1) := by decide +kernel
theorem xd_Ly_lookUp_38 : decode xb_Ly_lookUp 38 = .ok (.aaload, 1) := by decide +kernel
theorem xd_Ly_lookUp_39 : decode xb_Ly_lookUp 39 = .ok (.areturn, 1) := by decide +kernel
theorem xd_Ly_lookUp_40 : decode xb_Ly_lookUp 40 = .ok (.iinc 3 1, 3) := by decide +kernel
theorem xd_Ly_lookUp_43 : decode xb_Ly_lookUp 43 = .ok (.goto (-35), 3) := by decide +kernel
theorem xd_Ly_lookUp_46 : decode xb_Ly_lookUp 46 = .ok (.aload_n 2, 1) := by decide +kernel
theorem xd_Ly_lookUp_47 : decode xb_Ly_lookUp 47 = .ok (.getfield 13, 3) := by decide +kernel
theorem xd_Ly_lookUp_50 : decode xb_Ly_lookUp 50 = .ok (.astore_n 2, 1) := by decide +kernel
theorem xd_Ly_lookUp_51 : decode xb_Ly_lookUp 51 = .ok (.goto (-49), 3) := by decide +kernel
theorem xd_Ly_lookUp_54 : decode xb_Ly_lookUp 54 = .ok (.aconst_null, 1) := by decide +kernel
theorem xd_Ly_lookUp_55 : decode xb_Ly_lookUp 55 = .ok (.areturn, 1) := by decide +kernel
theorem xd_Ly_providerOf_0 : decode xb_Ly_providerOf 0 = .ok (.iconst 0, 1) := by decide +kernel
theorem xd_Ly_providerOf_1 : decode xb_Ly_providerOf 1 = .ok (.istore_n 3, 1) := by decide +kernel
theorem xd_Ly_providerOf_2 : decode xb_Ly_providerOf 2 = .ok (.aload_n 0, 1) := by decide +kernel
theorem xd_Ly_providerOf_3 : decode xb_Ly_providerOf 3 = .ok (.astore 4, 2) := by decide +kernel
theorem xd_Ly_providerOf_5 : decode xb_Ly_providerOf 5 = .ok (.aload 4, 2) := by decide +kernel
theorem xd_Ly_providerOf_7 : decode xb_Ly_providerOf 7 = .ok (.ifnull 71, 3) := by decide +kernel
theorem xd_Ly_providerOf_10 : decode xb_Ly_providerOf 10 = .ok (.iconst 0, 1) := by decide +kernel
theorem xd_Ly_providerOf_11 : decode xb_Ly_providerOf 11 = .ok (.istore 5, 2) := by decide +kernel
theorem xd_Ly_providerOf_13 : decode xb_Ly_providerOf 13 = .ok (.iload 5, 2) := by decide +kernel
theorem xd_Ly_providerOf_15 : decode xb_Ly_providerOf 15 = .ok (.aload 4, 2) := by decide +kernel
theorem xd_Ly_providerOf_17 : decode xb_Ly_providerOf 17 = .ok (.getfield 19, 3) := by decide +kernel
theorem xd_Ly_providerOf_20 : decode xb_Ly_providerOf 20 = .ok (.arraylength, 1) := by decide +kernel
theorem xd_Ly_providerOf_21 : decode xb_Ly_providerOf 21 = .ok (.if_icmp .ge 47, 3) := by decide +kernel
theorem xd_Ly_providerOf_24 : decode xb_Ly_providerOf 24 = .ok (.aload 4, 2) := by decide +kernel
theorem xd_Ly_providerOf_26 : decode xb_Ly_providerOf 26 = .ok (.getfield 19, 3) := by decide +kernel
theorem xd_Ly_providerOf_29 : decode xb_Ly_providerOf 29 = .ok (.iload 5, 2) := by decide +kernel
theorem xd_Ly_providerOf_31 : decode xb_Ly_providerOf 31 = .ok (.aaload, 1) := by decide +kernel
theorem xd_Ly_providerOf_32 : decode xb_Ly_providerOf 32 = .ok (.getfield 27, 3) := by decide +kernel
theorem xd_Ly_providerOf_35 : decode xb_Ly_providerOf 35 = .ok (.getfield 37, 3) := by decide +kernel
theorem xd_Ly_providerOf_38 : decode xb_Ly_providerOf 38 = .ok (.iload_n 1, 1) := by decide +kernel
theorem xd_Ly_providerOf_39 : decode xb_Ly_providerOf 39 = .ok (.invokevirtual 41, 3) := by decide +kernel
theorem xd_Ly_providerOf_42 : decode xb_Ly_providerOf 42 = .ok (.ifCond .eq 20, 3) := by decide +kernel
theorem xd_Ly_providerOf_45 : decode xb_Ly_providerOf 45 = .ok (.iload_n 3, 1) := by decide +kernel
theorem xd_Ly_providerOf_46 : decode xb_Ly_providerOf 46 = .ok (.iload_n 2, 1) := by decide +kernel
theorem xd_Ly_providerOf_47 : decode xb_Ly_providerOf 47 = .ok (.if_icmp .ne 12, 3) := by decide +kernel
theorem xd_Ly_providerOf_50 : decode xb_Ly_providerOf 50 = .ok (.aload 4, 2) := by decide +kernel
theorem xd_Ly_providerOf_52 : decode xb_Ly_providerOf 52 = .ok (.getfield 19, 3) := by decide +kernel
theorem xd_Ly_providerOf_55 : decode xb_Ly_providerOf 55 = .ok (.iload 5, 2) := by decide +kernel
theorem xd_Ly_providerOf_57 : decode xb_Ly_providerOf 57 = .ok (.aaload, 1) := by decide +kernel
theorem xd_Ly_providerOf_58 : decode xb_Ly_providerOf 58 = .ok (.areturn, 1) := by decide +kernel
theorem xd_Ly_providerOf_59 : decode xb_Ly_providerOf 59 = .ok (.iinc 3 1, 3) := by decide +kernel
theorem xd_Ly_providerOf_62 : decode xb_Ly_providerOf 62 = .ok (.iinc 5 1, 3) := by decide +kernel
theorem xd_Ly_providerOf_65 : decode xb_Ly_providerOf 65 = .ok (.goto (-52), 3) := by decide +kernel
theorem xd_Ly_providerOf_68 : decode xb_Ly_providerOf 68 = .ok (.aload 4, 2) := by decide +kernel
theorem xd_Ly_providerOf_70 : decode xb_Ly_providerOf 70 = .ok (.getfield 13, 3) := by decide +kernel
theorem xd_Ly_providerOf_73 : decode xb_Ly_providerOf 73 = .ok (.astore 4, 2) := by decide +kernel
theorem xd_Ly_providerOf_75 : decode xb_Ly_providerOf 75 = .ok (.goto (-70), 3) := by decide +kernel
theorem xd_Ly_providerOf_78 : decode xb_Ly_providerOf 78 = .ok (.aconst_null, 1) := by decide +kernel
theorem xd_Ly_providerOf_79 : decode xb_Ly_providerOf 79 = .ok (.areturn, 1) := by decide +kernel
theorem xd_Ly_withDescriptor_0 : decode xb_Ly_withDescriptor 0 = .ok (.iconst 0, 1) := by decide +kernel
theorem xd_Ly_withDescriptor_1 : decode xb_Ly_withDescriptor 1 = .ok (.istore_n 2, 1) := by decide +kernel
theorem xd_Ly_withDescriptor_2 : decode xb_Ly_withDescriptor 2 = .ok (.iload_n 2, 1) := by decide +kernel
theorem xd_Ly_withDescriptor_3 : decode xb_Ly_withDescriptor 3 = .ok (.aload_n 0, 1) := by decide +kernel
theorem xd_Ly_withDescriptor_4 : decode xb_Ly_withDescriptor 4 = .ok (.getfield 19, 3) := by decide +kernel
theorem xd_Ly_withDescriptor_7 : decode xb_Ly_withDescriptor 7 = .ok (.arraylength, 1) := by decide +kernel
theorem xd_Ly_withDescriptor_8 : decode xb_Ly_withDescriptor 8 = .ok (.if_icmp .ge 32, 3) := by decide +kernel
theorem xd_Ly_withDescriptor_11 : decode xb_Ly_withDescriptor 11 = .ok (.aload_n 0, 1) := by decide +kernel
theorem xd_Ly_withDescriptor_12 : decode xb_Ly_withDescriptor 12 = .ok (.getfield 19, 3) := by decide +kernel
theorem xd_Ly_withDescriptor_15 : decode xb_Ly_withDescriptor 15 = .ok (.iload_n 2, 1) := by decide +kernel
theorem xd_Ly_withDescriptor_16 : decode xb_Ly_withDescriptor 16 = .ok (.aaload, 1) := by decide +kernel
theorem xd_Ly_withDescriptor_17 : decode xb_Ly_withDescriptor 17 = .ok (.getfield 27, 3) := by decide +kernel
theorem xd_Ly_withDescriptor_20 : decode xb_Ly_withDescriptor 20 = .ok (.getfield 36, 3) := by decide +kernel
theorem xd_Ly_withDescriptor_23 : decode xb_Ly_withDescriptor 23 = .ok (.iload_n 1, 1) := by decide +kernel
theorem xd_Ly_withDescriptor_24 : decode xb_Ly_withDescriptor 24 = .ok (.if_icmp .ne 10, 3) := by decide +kernel
theorem xd_Ly_withDescriptor_27 : decode xb_Ly_withDescriptor 27 = .ok (.aload_n 0, 1) := by decide +kernel
theorem xd_Ly_withDescriptor_28 : decode xb_Ly_withDescriptor 28 = .ok (.getfield 19, 3) := by decide +kernel
theorem xd_Ly_withDescriptor_31 : decode xb_Ly_withDescriptor 31 = .ok (.iload_n 2, 1) := by decide +kernel
theorem xd_Ly_withDescriptor_32 : decode xb_Ly_withDescriptor 32 = .ok (.aaload, 1) := by decide +kernel
theorem xd_Ly_withDescriptor_33 : decode xb_Ly_withDescriptor 33 = .ok (.areturn, 1) := by decide +kernel
theorem xd_Ly_withDescriptor_34 : decode xb_Ly_withDescriptor 34 = .ok (.iinc 2 1, 3) := by decide +kernel
theorem xd_Ly_withDescriptor_37 : decode xb_Ly_withDescriptor 37 = .ok (.goto (-35), 3) := by decide +kernel
theorem xd_Ly_withDescriptor_40 : decode xb_Ly_withDescriptor 40 = .ok (.aconst_null, 1) := by decide +kernel
theorem xd_Ly_withDescriptor_41 : decode xb_Ly_withDescriptor 41 = .ok (.areturn, 1) := by decide +kernel
theorem xd_Me_code_0 : decode xb_Me_code 0 = .ok (.bipush 16, 2) := by decide +kernel
theorem xd_Me_code_2 : decode xb_Me_code 2 = .ok (.aload_n 0, 1) := by decide +kernel
theorem xd_Me_code_3 : decode xb_Me_code 3 = .ok (.getfield 24, 3) := by decide +kernel
theorem xd_Me_code_6 : decode xb_Me_code 6 = .ok (.getfield 102, 3) := by decide +kernel
theorem xd_Me_code_9 : decode xb_Me_code 9 = .ok (.imul, 1) := by decide +kernel
theorem xd_Me_code_10 : decode xb_Me_code 10 = .ok (.aload_n 0, 1) := by decide +kernel
theorem xd_Me_code_11 : decode xb_Me_code 11 = .ok (.getfield 28, 3) := by decide +kernel
theorem xd_Me_code_14 : decode xb_Me_code 14 = .ok (.getfield 105, 3) := by decide +kernel
theorem xd_Me_code_17 : decode xb_Me_code 17 = .ok (.iadd, 1) := by decide +kernel
theorem xd_Me_code_18 : decode xb_Me_code 18 = .ok (.ireturn, 1) := by decide +kernel
theorem xd_Me_isSplitBy_0 : decode xb_Me_isSplitBy 0 = .ok (.aload_n 0, 1) := by decide +kernel
theorem xd_Me_isSplitBy_1 : decode xb_Me_isSplitBy 1 = .ok (.getfield 21, 3) := by decide +kernel
theorem xd_Me_isSplitBy_4 : decode xb_Me_isSplitBy 4 = .ok (.aload_n 1, 1) := by decide +kernel
theorem xd_Me_isSplitBy_5 : decode xb_Me_isSplitBy 5 = .ok (.invokevirtual 78, 3) := by decide +kernel
theorem xd_Me_isSplitBy_8 : decode xb_Me_isSplitBy 8 = .ok (.ifCond .ne 5, 3) := by decide +kernel
theorem xd_Me_isSplitBy_11 : decode xb_Me_isSplitBy 11 = .ok (.iconst 0, 1) := by decide +kernel
theorem xd_Me_isSplitBy_12 : decode xb_Me_isSplitBy 12 = .ok (.ireturn, 1) := by decide +kernel
theorem xd_Me_isSplitBy_13 : decode xb_Me_isSplitBy 13 = .ok (.aload_n 1, 1) := by decide +kernel
theorem xd_Me_isSplitBy_14 : decode xb_Me_isSplitBy 14 = .ok (.getfield 28, 3) := by decide +kernel
theorem xd_Me_isSplitBy_17 : decode xb_Me_isSplitBy 17 = .ok (.getfield 92, 3) := by decide +kernel
theorem xd_Me_isSplitBy_20 : decode xb_Me_isSplitBy 20 = .ok (.astore_n 2, 1) := by decide +kernel
theorem xd_Me_isSplitBy_21 : decode xb_Me_isSplitBy 21 = .ok (.iconst 0, 1) := by decide +kernel
theorem xd_Me_isSplitBy_22 : decode xb_Me_isSplitBy 22 = .ok (.istore_n 3, 1) := by decide +kernel
theorem xd_Me_isSplitBy_23 : decode xb_Me_isSplitBy 23 = .ok (.iload_n 3, 1) := by decide +kernel
theorem xd_Me_isSplitBy_24 : decode xb_Me_isSplitBy 24 = .ok (.aload_n 2, 1) := by decide +kernel
theorem xd_Me_isSplitBy_25 : decode xb_Me_isSplitBy 25 = .ok (.getfield 38, 3) := by decide +kernel
theorem xd_Me_isSplitBy_28 : decode xb_Me_isSplitBy 28 = .ok (.if_icmp .ge 62, 3) := by decide +kernel
theorem xd_Me_isSplitBy_31 : decode xb_Me_isSplitBy 31 = .ok (.aload_n 2, 1) := by decide +kernel
theorem xd_Me_isSplitBy_32 : decode xb_Me_isSplitBy 32 = .ok (.iload_n 3, 1) := by decide +kernel
theorem xd_Me_isSplitBy_33 : decode xb_Me_isSplitBy 33 = .ok (.invokevirtual 47, 3) := by decide +kernel
theorem xd_Me_isSplitBy_36 : decode xb_Me_isSplitBy 36 = .ok (.istore 4, 2) := by decide +kernel
theorem xd_Me_isSplitBy_38 : decode xb_Me_isSplitBy 38 = .ok (.aload_n 1, 1) := by decide +kernel
theorem xd_Me_isSplitBy_39 : decode xb_Me_isSplitBy 39 = .ok (.getfield 28, 3) := by decide +kernel
theorem xd_Me_isSplitBy_42 : decode xb_Me_isSplitBy 42 = .ok (.iload 4, 2) := by decide +kernel
theorem xd_Me_isSplitBy_44 : decode xb_Me_isSplitBy 44 = .ok (.aload_n 0, 1) := by decide +kernel
theorem xd_Me_isSplitBy_45 : decode xb_Me_isSplitBy 45 = .ok (.getfield 28, 3) := by decide +kernel
theorem xd_Me_isSplitBy_48 : decode xb_Me_isSplitBy 48 = .ok (.getfield 82, 3) := by decide +kernel
theorem xd_Me_isSplitBy_51 : decode xb_Me_isSplitBy 51 = .ok (.invokevirtual 85, 3) := by decide +kernel
theorem xd_Me_isSplitBy_54 : decode xb_Me_isSplitBy 54 = .ok (.ifCond .eq 30, 3) := by decide +kernel
theorem xd_Me_isSplitBy_57 : decode xb_Me_isSplitBy 57 = .ok (.aload_n 0, 1) := by decide +kernel
theorem xd_Me_isSplitBy_58 : decode xb_Me_isSplitBy 58 = .ok (.getfield 28, 3) := by decide +kernel
theorem xd_Me_isSplitBy_61 : decode xb_Me_isSplitBy 61 = .ok (.getfield 92, 3) := by decide +kernel
theorem xd_Me_isSplitBy_64 : decode xb_Me_isSplitBy 64 = .ok (.iload 4, 2) := by decide +kernel
theorem xd_Me_isSplitBy_66 : decode xb_Me_isSplitBy 66 = .ok (.invokevirtual 95, 3) := by decide +kernel
theorem xd_Me_isSplitBy_69 : decode xb_Me_isSplitBy 69 = .ok (.ifCond .ne 13, 3) := by decide +kernel
theorem xd_Me_isSplitBy_72 : decode xb_Me_isSplitBy 72 = .ok (.aload_n 0, 1) := by decide +kernel
theorem xd_Me_isSplitBy_73 : decode xb_Me_isSplitBy 73 = .ok (.iload 4, 2) := by decide +kernel
theorem xd_Me_isSplitBy_75 : decode xb_Me_isSplitBy 75 = .ok (.invokevirtual 99, 3) := by decide +kernel
theorem xd_Me_isSplitBy_78 : decode xb_Me_isSplitBy 78 = .ok (.aload_n 1, 1) := by decide +kernel
theorem xd_Me_isSplitBy_79 : decode xb_Me_isSplitBy 79 = .ok (.if_acmp .eq 5, 3) := by decide +kernel
theorem xd_Me_isSplitBy_82 : decode xb_Me_isSplitBy 82 = .ok (.iconst 1, 1) := by decide +kernel
theorem xd_Me_isSplitBy_83 : decode xb_Me_isSplitBy 83 = .ok (.ireturn, 1) := by decide +kernel
theorem xd_Me_isSplitBy_84 : decode xb_Me_isSplitBy 84 = .ok (.iinc 3 1, 3) := by decide +kernel
theorem xd_Me_isSplitBy_87 : decode xb_Me_isSplitBy 87 = .ok (.goto (-64), 3) := by decide +kernel
theorem xd_Me_isSplitBy_90 : decode xb_Me_isSplitBy 90 = .ok (.iconst 0, 1) := by decide +kernel
theorem xd_Me_isSplitBy_91 : decode xb_Me_isSplitBy 91 = .ok (.ireturn, 1) := by decide +kernel
theorem xd_Me_sourceOf_0 : decode xb_Me_sourceOf 0 = .ok (.aload_n 0, 1) := by decide +kernel
theorem xd_Me_sourceOf_1 : decode xb_Me_sourceOf 1 = .ok (.getfield 24, 3) := by decide +kernel
theorem xd_Me_sourceOf_4 : decode xb_Me_sourceOf 4 = .ok (.astore_n 2, 1) := by decide +kernel
theorem xd_Me_sourceOf_5 : decode xb_Me_sourceOf 5 = .ok (.aload_n 2, 1) := by decide +kernel
theorem xd_Me_sourceOf_6 : decode xb_Me_sourceOf 6 = .ok (.ifnull 70, 3) := by decide +kernel
theorem xd_Me_sourceOf_9 : decode xb_Me_sourceOf 9 = .ok (.iconst 0, 1) := by decide +kernel
theorem xd_Me_sourceOf_10 : decode xb_Me_sourceOf 10 = .ok (.istore_n 3, 1) := by decide +kernel
theorem xd_Me_sourceOf_11 : decode xb_Me_sourceOf 11 = .ok (.iload_n 3, 1) := by decide +kernel
theorem xd_Me_sourceOf_12 : decode xb_Me_sourceOf 12 = .ok (.aload_n 2, 1) := by decide +kernel
theorem xd_Me_sourceOf_13 : decode xb_Me_sourceOf 13 = .ok (.getfield 75, 3) := by decide +kernel
theorem xd_Me_sourceOf_16 : decode xb_Me_sourceOf 16 = .ok (.arraylength, 1) := by decide +kernel
theorem xd_Me_sourceOf_17 : decode xb_Me_sourceOf 17 = .ok (.if_icmp .ge 51, 3) := by decide +kernel
theorem xd_Me_sourceOf_20 : decode xb_Me_sourceOf 20 = .ok (.aload_n 2, 1) := by decide +kernel
theorem xd_Me_sourceOf_21 : decode xb_Me_sourceOf 21 = .ok (.getfield 75, 3) := by decide +kernel
theorem xd_Me_sourceOf_24 : decode xb_Me_sourceOf 24 = .ok (.iload_n 3, 1) := by decide +kernel
theorem xd_Me_sourceOf_25 : decode xb_Me_sourceOf 25 = .ok (.aaload, 1) := by decide +kernel
theorem xd_Me_sourceOf_26 : decode xb_Me_sourceOf 26 = .ok (.astore 4, 2) := by decide +kernel
theorem xd_Me_sourceOf_28 : decode xb_Me_sourceOf 28 = .ok (.aload_n 0, 1) := by decide +kernel
theorem xd_Me_sourceOf_29 : decode xb_Me_sourceOf 29 = .ok (.getfield 21, 3) := by decide +kernel
theorem xd_Me_sourceOf_32 : decode xb_Me_sourceOf 32 = .ok (.aload 4, 2) := by decide +kernel
theorem xd_Me_sourceOf_34 : decode xb_Me_sourceOf 34 = .ok (.invokevirtual 78, 3) := by decide +kernel
theorem xd_Me_sourceOf_37 : decode xb_Me_sourceOf 37 = .ok (.ifCond .eq 25, 3) := by decide +kernel
theorem xd_Me_sourceOf_40 : decode xb_Me_sourceOf 40 = .ok (.aload 4, 2) := by decide +kernel
theorem xd_Me_sourceOf_42 : decode xb_Me_sourceOf 42 = .ok (.getfield 28, 3) := by decide +kernel
theorem xd_Me_sourceOf_45 : decode xb_Me_sourceOf 45 = .ok (.iload_n 1, 1) := by decide +kernel
theorem xd_Me_sourceOf_46 : decode xb_Me_sourceOf 46 = .ok (.aload_n 0, 1) := by decide +kernel
theorem xd_Me_sourceOf_47 : decode xb_Me_sourceOf 47 = .ok (.getfield 28, 3) := by decide +kernel
theorem xd_Me_sourceOf_50 : decode xb_Me_sourceOf 50 = .ok (.getfield 82, 3) := by decide +kernel
theorem xd_Me_sourceOf_53 : decode xb_Me_sourceOf 53 = .ok (.invokevirtual 85, 3) := by decide +kernel
theorem xd_Me_sourceOf_56 : decode xb_Me_sourceOf 56 = .ok (.ifCond .eq 6, 3) := by decide +kernel
theorem xd_Me_sourceOf_59 : decode xb_Me_sourceOf 59 = .ok (.aload 4, 2) := by decide +kernel
theorem xd_Me_sourceOf_61 : decode xb_Me_sourceOf 61 = .ok (.areturn, 1) := by decide +kernel
theorem xd_Me_sourceOf_62 : decode xb_Me_sourceOf 62 = .ok (.iinc 3 1, 3) := by decide +kernel
theorem xd_Me_sourceOf_65 : decode xb_Me_sourceOf 65 = .ok (.goto (-54), 3) := by decide +kernel
theorem xd_Me_sourceOf_68 : decode xb_Me_sourceOf 68 = .ok (.aload_n 2, 1) := by decide +kernel
theorem xd_Me_sourceOf_69 : decode xb_Me_sourceOf 69 = .ok (.getfield 89, 3) := by decide +kernel
theorem xd_Me_sourceOf_72 : decode xb_Me_sourceOf 72 = .ok (.astore_n 2, 1) := by decide +kernel
theorem xd_Me_sourceOf_73 : decode xb_Me_sourceOf 73 = .ok (.goto (-68), 3) := by decide +kernel
theorem xd_Me_sourceOf_76 : decode xb_Me_sourceOf 76 = .ok (.aconst_null, 1) := by decide +kernel
theorem xd_Me_sourceOf_77 : decode xb_Me_sourceOf 77 = .ok (.areturn, 1) := by decide +kernel
theorem yn_0 : (Cond.fieldLink "LayerDesk$Layer" 19 "LayerDesk$Layer" "members" "[LLayerDesk$Member;") ∈ wT := wT_t (List.mem_append_right _ (List.mem_append_right _ (List.mem_append_left _ (List.mem_of_getElem? (i := 147) rfl)))) rfl
theorem yn_1 : (Cond.fieldLink "LayerDesk$Layer" 13 "LayerDesk$Layer" "parent" "LLayerDesk$Layer;") ∈ wT := wT_t (List.mem_append_right _ (List.mem_append_right _ (List.mem_append_left _ (List.mem_of_getElem? (i := 143) rfl)))) rfl
theorem yn_2 : (Cond.fieldLink "LayerDesk$Layer" 27 "LayerDesk$Member" "descriptor" "LLayerDesk$Descriptor;") ∈ wT := wT_t (List.mem_append_right _ (List.mem_append_right _ (List.mem_append_left _ (List.mem_of_getElem? (i := 183) rfl)))) rfl
theorem yn_3 : (Cond.fieldLink "LayerDesk$Layer" 31 "LayerDesk$Descriptor" "name" "I") ∈ wT := wT_t (List.mem_append_right _ (List.mem_append_left _ (List.mem_of_getElem? (i := 55) rfl))) rfl
theorem yn_4 : (Cond.fieldLink "LayerDesk$Layer" 36 "LayerDesk$Descriptor" "number" "I") ∈ wT := wT_t (List.mem_append_right _ (List.mem_append_left _ (List.mem_of_getElem? (i := 48) rfl))) rfl
theorem yn_5 : (Cond.fieldLink "LayerDesk$Layer" 37 "LayerDesk$Descriptor" "provided" "LLayerDesk$Names;") ∈ wT := wT_t (List.mem_append_right _ (List.mem_append_left _ (List.mem_of_getElem? (i := 79) rfl))) rfl
theorem yn_6 : (Cond.code xy_Na_holds xb_Na_holds 2 (some .boolean)) ∈ wT := wT_t (List.mem_append_right _ (List.mem_append_left _ (List.mem_of_getElem? (i := 123) rfl))) rfl
theorem yn_7 : (Cond.methodLink "LayerDesk$Layer" 41 xy_Na_holds) ∈ wT := wT_t (List.mem_append_right _ (List.mem_append_right _ (List.mem_append_right _ (List.mem_append_left _ (List.mem_of_getElem? (i := 77) rfl))))) rfl
theorem yn_8 : (Cond.instanceMethod xy_Na_holds) ∈ wT := wT_t (List.mem_append_right _ (List.mem_append_left _ (List.mem_of_getElem? (i := 121) rfl))) rfl
theorem yn_9 : (Cond.selects "LayerDesk$Names" xy_Na_holds xy_Na_holds) ∈ wT := wT_t (List.mem_append_right _ (List.mem_append_left _ (List.mem_of_getElem? (i := 122) rfl))) rfl
theorem yn_10 : (Cond.initialized "LayerDesk$Names") ∈ wT := wT_t (List.mem_append_left _ (List.mem_of_getElem? (i := 11) rfl)) rfl
theorem yn_11 : (Cond.fieldLink "LayerDesk$Member" 24 "LayerDesk$Member" "home" "LLayerDesk$Layer;") ∈ wT := wT_t (List.mem_append_right _ (List.mem_append_right _ (List.mem_append_left _ (List.mem_of_getElem? (i := 179) rfl)))) rfl
theorem yn_12 : (Cond.fieldLink "LayerDesk$Member" 102 "LayerDesk$Layer" "number" "I") ∈ wT := wT_t (List.mem_append_right _ (List.mem_append_right _ (List.mem_append_left _ (List.mem_of_getElem? (i := 142) rfl)))) rfl
theorem yn_13 : (Cond.fieldLink "LayerDesk$Member" 28 "LayerDesk$Member" "descriptor" "LLayerDesk$Descriptor;") ∈ wT := wT_t (List.mem_append_right _ (List.mem_append_right _ (List.mem_append_left _ (List.mem_of_getElem? (i := 181) rfl)))) rfl
theorem yn_14 : (Cond.fieldLink "LayerDesk$Member" 105 "LayerDesk$Descriptor" "number" "I") ∈ wT := wT_t (List.mem_append_right _ (List.mem_append_left _ (List.mem_of_getElem? (i := 49) rfl))) rfl
theorem yn_15 : (Cond.fieldLink "LayerDesk$Member" 75 "LayerDesk$Layer" "members" "[LLayerDesk$Member;") ∈ wT := wT_t (List.mem_append_right _ (List.mem_append_right _ (List.mem_append_left _ (List.mem_of_getElem? (i := 148) rfl)))) rfl
theorem yn_16 : (Cond.fieldLink "LayerDesk$Member" 89 "LayerDesk$Layer" "parent" "LLayerDesk$Layer;") ∈ wT := wT_t (List.mem_append_right _ (List.mem_append_right _ (List.mem_append_left _ (List.mem_of_getElem? (i := 144) rfl)))) rfl
theorem yn_17 : (Cond.fieldLink "LayerDesk$Member" 21 "LayerDesk$Member" "reading" "LLayerDesk$Reach;") ∈ wT := wT_t (List.mem_append_right _ (List.mem_append_right _ (List.mem_append_left _ (List.mem_of_getElem? (i := 191) rfl)))) rfl
theorem yn_18 : (Cond.code xy_Re_marks xb_Re_marks 2 (some .boolean)) ∈ wT := wT_t (List.mem_append_left _ (List.mem_of_getElem? (i := 177) rfl)) rfl
theorem yn_19 : (Cond.methodLink "LayerDesk$Member" 78 xy_Re_marks) ∈ wT := wT_t (List.mem_append_right _ (List.mem_append_right _ (List.mem_append_right _ (List.mem_append_left _ (List.mem_of_getElem? (i := 16) rfl))))) rfl
theorem yn_20 : (Cond.instanceMethod xy_Re_marks) ∈ wT := wT_t (List.mem_append_left _ (List.mem_of_getElem? (i := 175) rfl)) rfl
theorem yn_21 : (Cond.selects "LayerDesk$Reach" xy_Re_marks xy_Re_marks) ∈ wT := wT_t (List.mem_append_left _ (List.mem_of_getElem? (i := 176) rfl)) rfl
theorem yn_22 : (Cond.initialized "LayerDesk$Reach") ∈ wT := wT_t (List.mem_append_left _ (List.mem_of_getElem? (i := 21) rfl)) rfl
theorem yn_23 : (Cond.fieldLink "LayerDesk$Member" 82 "LayerDesk$Descriptor" "name" "I") ∈ wT := wT_t (List.mem_append_right _ (List.mem_append_left _ (List.mem_of_getElem? (i := 57) rfl))) rfl
theorem yn_24 : (Cond.code xy_Ds_exportsTo xb_Ds_exportsTo 4 (some .boolean)) ∈ wT := wT_t (List.mem_append_right _ (List.mem_append_right _ (List.mem_append_right _ (List.mem_append_left _ (List.mem_of_getElem? (i := 20) rfl))))) rfl
theorem yn_25 : (Cond.methodLink "LayerDesk$Member" 85 xy_Ds_exportsTo) ∈ wT := wT_t (List.mem_append_right _ (List.mem_append_right _ (List.mem_append_right _ (List.mem_append_left _ (List.mem_of_getElem? (i := 17) rfl))))) rfl
theorem yn_26 : (Cond.instanceMethod xy_Ds_exportsTo) ∈ wT := wT_t (List.mem_append_right _ (List.mem_append_right _ (List.mem_append_right _ (List.mem_append_left _ (List.mem_of_getElem? (i := 18) rfl))))) rfl
theorem yn_27 : (Cond.selects "LayerDesk$Descriptor" xy_Ds_exportsTo xy_Ds_exportsTo) ∈ wT := wT_t (List.mem_append_right _ (List.mem_append_right _ (List.mem_append_right _ (List.mem_append_left _ (List.mem_of_getElem? (i := 19) rfl))))) rfl
theorem yn_28 : (Cond.initialized "LayerDesk$Descriptor") ∈ wT := wT_t (List.mem_append_left _ (List.mem_of_getElem? (i := 10) rfl)) rfl
theorem yn_29 : (Cond.fieldLink "LayerDesk$Member" 92 "LayerDesk$Descriptor" "packages" "LLayerDesk$Names;") ∈ wT := wT_t (List.mem_append_right _ (List.mem_append_left _ (List.mem_of_getElem? (i := 61) rfl))) rfl
theorem yn_30 : (Cond.fieldLink "LayerDesk$Member" 38 "LayerDesk$Names" "size" "I") ∈ wT := wT_t (List.mem_append_right _ (List.mem_append_left _ (List.mem_of_getElem? (i := 35) rfl))) rfl
theorem yn_31 : (Cond.code xy_Na_at xb_Na_at 2 (some .int)) ∈ wT := wT_t (List.mem_append_right _ (List.mem_append_right _ (List.mem_append_left _ (List.mem_of_getElem? (i := 93) rfl)))) rfl
theorem yn_32 : (Cond.methodLink "LayerDesk$Member" 47 xy_Na_at) ∈ wT := wT_t (List.mem_append_right _ (List.mem_append_right _ (List.mem_append_left _ (List.mem_of_getElem? (i := 216) rfl)))) rfl
theorem yn_33 : (Cond.instanceMethod xy_Na_at) ∈ wT := wT_t (List.mem_append_right _ (List.mem_append_right _ (List.mem_append_left _ (List.mem_of_getElem? (i := 91) rfl)))) rfl
theorem yn_34 : (Cond.selects "LayerDesk$Names" xy_Na_at xy_Na_at) ∈ wT := wT_t (List.mem_append_right _ (List.mem_append_right _ (List.mem_append_left _ (List.mem_of_getElem? (i := 92) rfl)))) rfl
theorem yn_35 : (Cond.methodLink "LayerDesk$Member" 95 xy_Na_holds) ∈ wT := wT_t (List.mem_append_right _ (List.mem_append_right _ (List.mem_append_right _ (List.mem_append_left _ (List.mem_of_getElem? (i := 22) rfl))))) rfl
theorem yn_36 : (Cond.code xy_Me_sourceOf xb_Me_sourceOf 5 (some (.object "LayerDesk$Member"))) ∈ wT := wT_t (List.mem_append_right _ (List.mem_append_right _ (List.mem_append_right _ (List.mem_append_left _ (List.mem_of_getElem? (i := 26) rfl))))) rfl
theorem yn_37 : (Cond.methodLink "LayerDesk$Member" 99 xy_Me_sourceOf) ∈ wT := wT_t (List.mem_append_right _ (List.mem_append_right _ (List.mem_append_right _ (List.mem_append_left _ (List.mem_of_getElem? (i := 23) rfl))))) rfl
theorem yn_38 : (Cond.instanceMethod xy_Me_sourceOf) ∈ wT := wT_t (List.mem_append_right _ (List.mem_append_right _ (List.mem_append_right _ (List.mem_append_left _ (List.mem_of_getElem? (i := 24) rfl))))) rfl
theorem yn_39 : (Cond.selects "LayerDesk$Member" xy_Me_sourceOf xy_Me_sourceOf) ∈ wT := wT_t (List.mem_append_right _ (List.mem_append_right _ (List.mem_append_right _ (List.mem_append_left _ (List.mem_of_getElem? (i := 25) rfl))))) rfl
theorem yn_40 : (Cond.initialized "LayerDesk$Member") ∈ wT := wT_t (List.mem_append_left _ (List.mem_of_getElem? (i := 20) rfl)) rfl
theorem yn_41 : (Cond.fieldLink "LayerDesk$Layer" 52 "LayerDesk$Member" "leading" "LLayerDesk$Reach;") ∈ wT := wT_t (List.mem_append_right _ (List.mem_append_right _ (List.mem_append_left _ (List.mem_of_getElem? (i := 188) rfl)))) rfl
theorem yn_42 : (Cond.methodLink "LayerDesk$Layer" 66 xy_Re_marks) ∈ wT := wT_t (List.mem_append_right _ (List.mem_append_right _ (List.mem_append_left _ (List.mem_of_getElem? (i := 230) rfl)))) rfl
theorem yn_43 : (Cond.code xy_Me_isSplitBy xb_Me_isSplitBy 5 (some .boolean)) ∈ wT := wT_t (List.mem_append_right _ (List.mem_append_right _ (List.mem_append_right _ (List.mem_append_left _ (List.mem_of_getElem? (i := 15) rfl))))) rfl
theorem yn_44 : (Cond.methodLink "LayerDesk$Layer" 70 xy_Me_isSplitBy) ∈ wT := wT_t (List.mem_append_right _ (List.mem_append_right _ (List.mem_append_right _ (List.mem_append_left _ (List.mem_of_getElem? (i := 12) rfl))))) rfl
theorem yn_45 : (Cond.instanceMethod xy_Me_isSplitBy) ∈ wT := wT_t (List.mem_append_right _ (List.mem_append_right _ (List.mem_append_right _ (List.mem_append_left _ (List.mem_of_getElem? (i := 13) rfl))))) rfl
theorem yn_46 : (Cond.selects "LayerDesk$Member" xy_Me_isSplitBy xy_Me_isSplitBy) ∈ wT := wT_t (List.mem_append_right _ (List.mem_append_right _ (List.mem_append_right _ (List.mem_append_left _ (List.mem_of_getElem? (i := 14) rfl))))) rfl
set_option maxHeartbeats 4000000 in
set_option maxRecDepth 100000 in
theorem xc_Ly_lookUp (l : Launch) (D : va_G) (kA : Nat → ClassId) (sz : Nat) (ad : Nat → Nat → Nat) (E : Nat → Nat → va_E) (RL : List (Nat × Nat)) (nd : Nat) (nL : Nat) (n : Nat) (nm : Int32) (hDIs : DIs kA ad E RL nd) (hLIs : LIs kA ad E RL nd nL) (hnL : nL ≤ 6) (hn : n < nL) : Met l xy_Ly_lookUp (.code xy_Ly_lookUp xb_Ly_lookUp 4 (some (.object "LayerDesk$Member")) :: wT) { frames := 0, cells := 0, slots := 0, locals := 0 } (va_Pc [.ref (ad (20 + n) 0), .int nm] (xPre D kA sz (rp ad E RL))) (va_Qq (fun (r : Option Nat) (u : Unit) => r = none ∨ ∃ x k, x ≤ n ∧ r = some (ad (20 + x) (10 + 10 * k)) ∧ MEI kA ad E RL nd x k) (fun (u : Unit) t => va_P D xcl (rp ad E RL) t.heap ∧ va_D (va_A (rp ad E RL) sz) (rp ad E RL)) (va_A (rp ad E RL) sz)) 0 0 (va_A (rp ad E RL) sz) := by
  refine Met.ofW (cc := xb_Ly_lookUp) (maxL := 4) (ret := (some (.object "LayerDesk$Member"))) (by decide) rfl ?_
  intro p e s m args below meth c s₁ B hml hv
  obtain ⟨rfl, hsz, hP, hK, hD0⟩ := hv
  have hx := B.exec
  have hb := B.bytes
  have hr := B.returns
  have hT := x_hT B.pre
  have hown : s.vm.findClass xR_Ly = some m.cls := findClass_of_methodNamed B.named
  have hlocks := B.notSynchronized
  subst hsz
  have hD := hD0.self (sz := s.heap.size)
  generalize hAe : va_A (rp ad E RL) s.heap.size = A at hD ⊢
  have hA : ∀ q : Nat, s.heap.size ≤ q → A q := fun q h => by rw [← hAe]; exact Or.inr h
  have hS : va_S A s.heap s.heap [] := va_S.rf
  have hl := lv_entry ([.ref (ad (20 + n) 0), .int nm]) (n := 4) (Nat.le_of_ble_eq_true rfl)
  rw [lg_entry_eq]
  generalize (lg_sl ([.ref (ad (20 + n) 0), .int nm]) ++ List.replicate (4 - (lg_sl ([.ref (ad (20 + n) 0), .int nm])).length) Slot.unset).toArray = ls at hl ⊢
  have hl : lv_has ls 4 [(0, .ref (ad (20 + n) 0)), (1, .int nm)] := hl
  have hP : va_P D xcl (rp ad E RL) s.heap := hP
  refine lv_aload_n hx hb xd_Ly_lookUp_0 rfl (lv_at hl 0 rfl) ?_
  refine lv_astore_n hx hb xd_Ly_lookUp_1 rfl hl (Nat.le_of_ble_eq_true rfl) rfl (fun ls hl => ?_)
  have hl : lv_has ls 4 [(2, .ref (ad (20 + n) 0)), (0, .ref (ad (20 + n) 0)), (1, .int nm)] := hl
  refine xlab (σ := Nat) (ml := 4) 2 (fun (y : Nat) => [(2, (lyv ad y)), (0, .ref (ad (20 + n) 0)), (1, .int nm)]) (fun (y : Nat) => []) (fun (y : Nat) => rp ad E RL) (fun (y : Nat) => (y ≤ n + 1)) (fun (y : Nat) => y) ?_ (n + 1) _ _ _ (lv_sub hl [0, 1, 2] rfl) hP hD hS (show (n + 1) ≤ n + 1 from by first | assumption | omega)
  intro n9 ih1 a9 ls H locs hμ hl hP hD hS hI
  subst hμ
  obtain ⟨y, rfl⟩ : ∃ z, z = a9 := ⟨_, rfl⟩
  have hy : y ≤ n + 1 := hI
  have hl : lv_has ls 4 [(2, (lyv ad y)), (0, .ref (ad (20 + n) 0)), (1, .int nm)] := hl
  have hP : va_P D xcl (rp ad E RL) H := hP
  have hD : va_D A (rp ad E RL) := hD
  rcases y with _ | y
  · have hl : lv_has ls 4 [(2, .null), (0, .ref (ad (20 + n) 0)), (1, .int nm)] := hl
    refine lv_aload_nN hx hb xd_Ly_lookUp_2 rfl (lv_at hl 0 rfl) ?_
    refine lv_ifnullN (tgt := 54) hx hb xd_Ly_lookUp_3 (by decide) ?_
    refine lv_null hx hb xd_Ly_lookUp_54 ?_
    exact W.aret (v := .null) hx hb hr (Or.inl ⟨_, rfl⟩) (Or.inl rfl) (fun t ht hW => ⟨⟨none, (), rfl, Or.inl rfl, by rw [ht]; exact hP, hD⟩, hS.F ht⟩) hS.2.2 xd_Ly_lookUp_55
  · have hl : lv_has ls 4 [(2, .ref (ad (20 + y) 0)), (0, .ref (ad (20 + n) 0)), (1, .int nm)] := hl
    refine lv_aload_n hx hb xd_Ly_lookUp_2 rfl (lv_at hl 0 rfl) ?_
    refine lv_ifnull hx hb xd_Ly_lookUp_3 ?_
    refine lv_iconst (v := 0) hx hb xd_Ly_lookUp_6 (by decide) ?_
    refine lv_istore_n hx hb xd_Ly_lookUp_7 rfl hl (Nat.le_of_ble_eq_true rfl) rfl (fun ls hl => ?_)
    have hl : lv_has ls 4 [(3, .int 0), (2, .ref (ad (20 + y) 0)), (0, .ref (ad (20 + n) 0)), (1, .int nm)] := hl
    obtain ⟨m0_2, m1_2, pv_2, op_2, mk_2, fm_2, hmk_2, hpv_2, q0_2, q1_2, hk_2⟩ := id (hLIs y (by omega))
    have c_3 : E (20 + y) 0 = .inr (5, [.int (nI y), pv_2, .ref (ad (20 + y) 1), .int op_2]) := q0_2
    have m_4 : (20 + y, 0) ∈ RL := m0_2
    have c_5 : E (20 + y) 1 = .inl (kA 6, mk_2, .inr (.inr (.inr (.inr fm_2)))) := q1_2
    have m_6 : (20 + y, 1) ∈ RL := m1_2
    refine xlab (σ := Nat) (ml := 4) 8 (fun (k : Nat) => [(3, .int (nI k)), (2, .ref (ad (20 + y) 0)), (0, .ref (ad (20 + n) 0)), (1, .int nm)]) (fun (k : Nat) => []) (fun (k : Nat) => rp ad E RL) (fun (k : Nat) => (k ≤ mk_2)) (fun (k : Nat) => mk_2 - k) ?_ 0 _ _ _ (lv_sub hl [0, 1, 2, 3] rfl) hP hD hS (show 0 ≤ mk_2 from by first | assumption | omega)
    intro n9 ih7 a9 ls H locs hμ hl hP hD hS hI
    subst hμ
    obtain ⟨k, rfl⟩ : ∃ z, z = a9 := ⟨_, rfl⟩
    have hk : k ≤ mk_2 := hI
    have hl : lv_has ls 4 [(3, .int (nI k)), (2, .ref (ad (20 + y) 0)), (0, .ref (ad (20 + n) 0)), (1, .int nm)] := hl
    have hP : va_P D xcl (rp ad E RL) H := hP
    have hD : va_D A (rp ad E RL) := hD
    refine lv_iload_n hx hb xd_Ly_lookUp_8 rfl (lv_at hl 0 rfl) ?_
    refine lv_aload_n hx hb xd_Ly_lookUp_9 rfl (lv_at hl 1 rfl) ?_
    refine px_get (D := D) (ci := 5) (v := .ref (ad (20 + y) 1)) (C := xR_Ly) (T := xT_Ly) (N := 4) hx hb hT xi_Ly hown hK.1 hP m_4 c_3 rfl 2 (by decide) (hT _ yn_0) (fun _ h9 => h9) rfl xd_Ly_lookUp_10 ?_
    refine px_alen hx hb hK.1 hP m_6 c_5 6 rfl xd_Ly_lookUp_13 ?_
    refine W.eq (g2 := F0 m 14 ls [.int (nI mk_2), .int (nI k)]) rfl ?_
    refine xn_ge (a := k) (b := mk_2) (tgt := 46) hx hb xd_Ly_lookUp_14 (by decide) (by omega) (by omega) (fun hc8 => ?_) (fun hc8 => ?_)
    · refine lv_aload_n hx hb xd_Ly_lookUp_46 rfl (lv_at hl 1 rfl) ?_
      refine px_get (D := D) (ci := 5) (v := pv_2) (C := xR_Ly) (T := xT_Ly) (N := 4) hx hb hT xi_Ly hown hK.1 hP m_4 c_3 rfl 1 (by decide) (hT _ yn_1) (fun _ h9 => h9) rfl xd_Ly_lookUp_47 ?_
      rcases hpv_2 with rfl | ⟨x9, hx10, rfl⟩
      · refine W.eq (g2 := F0 m 50 ls [.null]) rfl ?_
        refine lv_astore_nN hx hb xd_Ly_lookUp_50 rfl hl (Nat.le_of_ble_eq_true rfl) rfl (fun ls hl => ?_)
        have hl : lv_has ls 4 [(2, .null), (3, .int (nI k)), (0, .ref (ad (20 + n) 0)), (1, .int nm)] := hl
        refine lv_goto (tgt := 2) hx hb xd_Ly_lookUp_51 (by decide) ?_
        exact ih1 0 _ _ _ (show 0 < y + 1 by omega) (lv_sub hl [0, 2, 3] rfl) hP hD hS (show 0 ≤ n + 1 from by first | assumption | omega)
      · refine W.eq (g2 := F0 m 50 ls [.ref (ad (20 + x9) 0)]) rfl ?_
        refine lv_astore_n hx hb xd_Ly_lookUp_50 rfl hl (Nat.le_of_ble_eq_true rfl) rfl (fun ls hl => ?_)
        have hl : lv_has ls 4 [(2, .ref (ad (20 + x9) 0)), (3, .int (nI k)), (0, .ref (ad (20 + n) 0)), (1, .int nm)] := hl
        refine lv_goto (tgt := 2) hx hb xd_Ly_lookUp_51 (by decide) ?_
        exact ih1 (x9 + 1) _ _ _ (show (x9 + 1) < y + 1 by omega) (lv_sub hl [0, 2, 3] rfl) hP hD hS (show (x9 + 1) ≤ n + 1 from by first | assumption | omega)
    · refine lv_aload_n hx hb xd_Ly_lookUp_17 rfl (lv_at hl 1 rfl) ?_
      refine px_get (D := D) (ci := 5) (v := .ref (ad (20 + y) 1)) (C := xR_Ly) (T := xT_Ly) (N := 4) hx hb hT xi_Ly hown hK.1 hP m_4 c_3 rfl 2 (by decide) (hT _ yn_0) (fun _ h9 => h9) rfl xd_Ly_lookUp_18 ?_
      refine lv_iload_n hx hb xd_Ly_lookUp_21 rfl (lv_at hl 0 rfl) ?_
      refine px_aald (i := k) (x := (some (ad (20 + y) (10 + 10 * k)))) hx hb hK.1 hP m_6 c_5 6 rfl ((hk_2 k (by omega)).1) (by omega) (by omega) xd_Ly_lookUp_22 ?_
      obtain ⟨hm_11, d_11, rs_11, fr_11, g2_11, g3_11, g4_11, hd_11, hrs_11, q0_11, q1_11, q2_11, q3_11, q4_11, q5_11, q6_11, q7_11⟩ := (hk_2 k (by omega)).2
      have c_12 : E (20 + y) (10 + 10 * k) = .inr (6, [.ref (ad (20 + y) 0), .ref (ad (1 + d_11) 0), .ref (ad (20 + y) (11 + 10 * k)), .ref (ad (20 + y) (12 + 10 * k)), .ref (ad (20 + y) (13 + 10 * k)), .ref (ad (20 + y) (14 + 10 * k))]) := q0_11
      have m_13 : (20 + y, 10 + 10 * k) ∈ RL := hm_11 0 (by omega)
      have c_14 : E (20 + y) (11 + 10 * k) = .inl (kA 6, rs_11, .inr (.inr (.inr (.inr fr_11)))) := q1_11
      have m_15 : (20 + y, 11 + 10 * k) ∈ RL := hm_11 1 (by omega)
      have c_16 : E (20 + y) (12 + 10 * k) = .inr (10, [.ref (ad (20 + y) (15 + 10 * k))]) := q2_11
      have m_17 : (20 + y, 12 + 10 * k) ∈ RL := hm_11 2 (by omega)
      have c_18 : E (20 + y) (13 + 10 * k) = .inr (10, [.ref (ad (20 + y) (16 + 10 * k))]) := q3_11
      have m_19 : (20 + y, 13 + 10 * k) ∈ RL := hm_11 3 (by omega)
      have c_20 : E (20 + y) (14 + 10 * k) = .inr (10, [.ref (ad (20 + y) (17 + 10 * k))]) := q4_11
      have m_21 : (20 + y, 14 + 10 * k) ∈ RL := hm_11 4 (by omega)
      have c_22 : E (20 + y) (15 + 10 * k) = .inl (kA 0, 6, .inl g2_11) := q5_11
      have m_23 : (20 + y, 15 + 10 * k) ∈ RL := hm_11 5 (by omega)
      have c_24 : E (20 + y) (16 + 10 * k) = .inl (kA 0, 6, .inl g3_11) := q6_11
      have m_25 : (20 + y, 16 + 10 * k) ∈ RL := hm_11 6 (by omega)
      have c_26 : E (20 + y) (17 + 10 * k) = .inl (kA 0, 6, .inl g4_11) := q7_11
      have m_27 : (20 + y, 17 + 10 * k) ∈ RL := hm_11 7 (by omega)
      refine px_get (D := D) (ci := 6) (v := .ref (ad (1 + d_11) 0)) (C := xR_Me) (T := xT_Me) (N := 6) hx hb hT xi_Me hown hK.1 hP m_13 c_12 rfl 1 (by decide) (hT _ yn_2) (fun _ h9 => h9) rfl xd_Ly_lookUp_23 ?_
      obtain ⟨hm_28, fd_28, nm_28, sd_28, k0_28, k1_28, k2_28, k3_28, f0_28, f1_28, f2_28, f3_28, fe_28, fo_28, tr_28, op_28, hk0_28, hk1_28, hk2_28, hk3_28, q0_28, q1_28, q2_28, q3_28, q4_28, q5_28, q6_28, q7_28, q8_28, q9_28, q10_28, q11_28, q12_28, hg_28⟩ := id (hDIs d_11 (by omega))
      have c_29 : E (1 + d_11) 0 = .inr (7, [.int (nI d_11), .int fd_28, .int nm_28, .ref (ad (1 + d_11) 1), .ref (ad (1 + d_11) 9), .ref (ad (1 + d_11) 10), .ref (ad (1 + d_11) 2), .ref (ad (1 + d_11) 11), .ref (ad (1 + d_11) 12), .ref (ad (1 + d_11) 3), .ref (ad (1 + d_11) 4), .int sd_28]) := q0_28
      have m_30 : (1 + d_11, 0) ∈ RL := hm_28 0 (by omega)
      have c_31 : E (1 + d_11) 1 = .inr (8, [.ref (ad (1 + d_11) 5), .int (nI k0_28)]) := q1_28
      have m_32 : (1 + d_11, 1) ∈ RL := hm_28 1 (by omega)
      have c_33 : E (1 + d_11) 2 = .inr (8, [.ref (ad (1 + d_11) 6), .int (nI k1_28)]) := q2_28
      have m_34 : (1 + d_11, 2) ∈ RL := hm_28 2 (by omega)
      have c_35 : E (1 + d_11) 3 = .inr (8, [.ref (ad (1 + d_11) 7), .int (nI k2_28)]) := q3_28
      have m_36 : (1 + d_11, 3) ∈ RL := hm_28 3 (by omega)
      have c_37 : E (1 + d_11) 4 = .inr (8, [.ref (ad (1 + d_11) 8), .int (nI k3_28)]) := q4_28
      have m_38 : (1 + d_11, 4) ∈ RL := hm_28 4 (by omega)
      have c_39 : E (1 + d_11) 5 = .inl (kA 0, 6, .inl f0_28) := q5_28
      have m_40 : (1 + d_11, 5) ∈ RL := hm_28 5 (by omega)
      have c_41 : E (1 + d_11) 6 = .inl (kA 0, 5, .inl f1_28) := q6_28
      have m_42 : (1 + d_11, 6) ∈ RL := hm_28 6 (by omega)
      have c_43 : E (1 + d_11) 7 = .inl (kA 0, 3, .inl f2_28) := q7_28
      have m_44 : (1 + d_11, 7) ∈ RL := hm_28 7 (by omega)
      have c_45 : E (1 + d_11) 8 = .inl (kA 0, 3, .inl f3_28) := q8_28
      have m_46 : (1 + d_11, 8) ∈ RL := hm_28 8 (by omega)
      have c_47 : E (1 + d_11) 9 = .inl (kA 8, 6, .inr (.inr (.inr (.inr fe_28)))) := q9_28
      have m_48 : (1 + d_11, 9) ∈ RL := hm_28 9 (by omega)
      have c_49 : E (1 + d_11) 10 = .inl (kA 8, 6, .inr (.inr (.inr (.inr fo_28)))) := q10_28
      have m_50 : (1 + d_11, 10) ∈ RL := hm_28 10 (by omega)
      have c_51 : E (1 + d_11) 11 = .inl (kA 2, 5, .inl tr_28) := q11_28
      have m_52 : (1 + d_11, 11) ∈ RL := hm_28 11 (by omega)
      have c_53 : E (1 + d_11) 12 = .inl (kA 2, 5, .inl op_28) := q12_28
      have m_54 : (1 + d_11, 12) ∈ RL := hm_28 12 (by omega)
      have hg_28 : ∀ w9, w9 < k0_28 → fe_28 w9 = some (ad (1 + d_11) (20 + 3 * w9)) ∧ fo_28 w9 = some (ad (1 + d_11) (38 + 3 * w9)) ∧ GI kA (ad (1 + d_11)) (E (1 + d_11)) (fun o => (1 + d_11, o) ∈ RL) (20 + 3 * w9) (21 + 3 * w9) (22 + 3 * w9) ∧ GI kA (ad (1 + d_11)) (E (1 + d_11)) (fun o => (1 + d_11, o) ∈ RL) (38 + 3 * w9) (39 + 3 * w9) (40 + 3 * w9) := hg_28
      refine px_get (D := D) (ci := 7) (v := .int nm_28) (C := xR_Ds) (T := xT_Ds) (N := 12) hx hb hT xi_Ds hown hK.1 hP m_30 c_29 rfl 2 (by decide) (hT _ yn_3) (fun _ h9 => h9) rfl xd_Ly_lookUp_26 ?_
      refine lv_iload_n hx hb xd_Ly_lookUp_29 rfl (lv_at hl 3 rfl) ?_
      refine lv_icmp_ne (tgt := 40) hx hb xd_Ly_lookUp_30 (by decide) (fun hc55 => ?_) (fun hc55 => ?_)
      · refine lv_iinc (k := 0) (x := (nI k)) (v := (nI (k + 1))) hx hb xd_Ly_lookUp_40 hl rfl (xb_inc k 1) (Nat.le_of_ble_eq_true rfl) rfl (fun ls hl => ?_)
        have hl : lv_has ls 4 [(3, .int (nI (k + 1))), (2, .ref (ad (20 + y) 0)), (0, .ref (ad (20 + n) 0)), (1, .int nm)] := hl
        refine lv_goto (tgt := 8) hx hb xd_Ly_lookUp_43 (by decide) ?_
        exact ih7 (k + 1) _ _ _ (show mk_2 - (k + 1) < mk_2 - k by omega) (lv_sub hl [0, 1, 2, 3] rfl) hP hD hS (show (k + 1) ≤ mk_2 from by first | assumption | omega)
      · refine lv_aload_n hx hb xd_Ly_lookUp_33 rfl (lv_at hl 1 rfl) ?_
        refine px_get (D := D) (ci := 5) (v := .ref (ad (20 + y) 1)) (C := xR_Ly) (T := xT_Ly) (N := 4) hx hb hT xi_Ly hown hK.1 hP m_4 c_3 rfl 2 (by decide) (hT _ yn_0) (fun _ h9 => h9) rfl xd_Ly_lookUp_34 ?_
        refine lv_iload_n hx hb xd_Ly_lookUp_37 rfl (lv_at hl 0 rfl) ?_
        refine px_aald (i := k) (x := (some (ad (20 + y) (10 + 10 * k)))) hx hb hK.1 hP m_6 c_5 6 rfl ((hk_2 k (by omega)).1) (by omega) (by omega) xd_Ly_lookUp_38 ?_
        exact W.aret (v := .ref (ad (20 + y) (10 + 10 * k))) hx hb hr (Or.inl ⟨_, rfl⟩) (Or.inr ⟨_, rfl⟩) (fun t ht hW => ⟨⟨(some (ad (20 + y) (10 + 10 * k))), (), rfl, Or.inr ⟨y, k, by omega, rfl, (hk_2 k (by omega)).2⟩, by rw [ht]; exact hP, hD⟩, hS.F ht⟩) hS.2.2 xd_Ly_lookUp_39
set_option maxHeartbeats 4000000 in
set_option maxRecDepth 100000 in
theorem xc_Ly_withDescriptor (l : Launch) (D : va_G) (kA : Nat → ClassId) (sz : Nat) (ad : Nat → Nat → Nat) (E : Nat → Nat → va_E) (RL : List (Nat × Nat)) (nd : Nat) (nL : Nat) (n : Nat) (dx : Int32) (hDIs : DIs kA ad E RL nd) (hLIs : LIs kA ad E RL nd nL) (hnL : nL ≤ 6) (hn : n < nL) : Met l xy_Ly_withDescriptor (.code xy_Ly_withDescriptor xb_Ly_withDescriptor 3 (some (.object "LayerDesk$Member")) :: wT) { frames := 0, cells := 0, slots := 0, locals := 0 } (va_Pc [.ref (ad (20 + n) 0), .int dx] (xPre D kA sz (rp ad E RL))) (va_Qq (fun (r : Option Nat) (u : Unit) => r = none ∨ ∃ x k, x = n ∧ r = some (ad (20 + x) (10 + 10 * k)) ∧ MEI kA ad E RL nd x k) (fun (u : Unit) t => va_P D xcl (rp ad E RL) t.heap ∧ va_D (va_A (rp ad E RL) sz) (rp ad E RL)) (va_A (rp ad E RL) sz)) 0 0 (va_A (rp ad E RL) sz) := by
  refine Met.ofW (cc := xb_Ly_withDescriptor) (maxL := 3) (ret := (some (.object "LayerDesk$Member"))) (by decide) rfl ?_
  intro p e s m args below meth c s₁ B hml hv
  obtain ⟨rfl, hsz, hP, hK, hD0⟩ := hv
  have hx := B.exec
  have hb := B.bytes
  have hr := B.returns
  have hT := x_hT B.pre
  have hown : s.vm.findClass xR_Ly = some m.cls := findClass_of_methodNamed B.named
  have hlocks := B.notSynchronized
  subst hsz
  have hD := hD0.self (sz := s.heap.size)
  generalize hAe : va_A (rp ad E RL) s.heap.size = A at hD ⊢
  have hA : ∀ q : Nat, s.heap.size ≤ q → A q := fun q h => by rw [← hAe]; exact Or.inr h
  have hS : va_S A s.heap s.heap [] := va_S.rf
  have hl := lv_entry ([.ref (ad (20 + n) 0), .int dx]) (n := 3) (Nat.le_of_ble_eq_true rfl)
  rw [lg_entry_eq]
  generalize (lg_sl ([.ref (ad (20 + n) 0), .int dx]) ++ List.replicate (3 - (lg_sl ([.ref (ad (20 + n) 0), .int dx])).length) Slot.unset).toArray = ls at hl ⊢
  have hl : lv_has ls 3 [(0, .ref (ad (20 + n) 0)), (1, .int dx)] := hl
  have hP : va_P D xcl (rp ad E RL) s.heap := hP
  refine lv_iconst (v := 0) hx hb xd_Ly_withDescriptor_0 (by decide) ?_
  refine lv_istore_n hx hb xd_Ly_withDescriptor_1 rfl hl (Nat.le_of_ble_eq_true rfl) rfl (fun ls hl => ?_)
  have hl : lv_has ls 3 [(2, .int 0), (0, .ref (ad (20 + n) 0)), (1, .int dx)] := hl
  obtain ⟨m0_1, m1_1, pv_1, op_1, mk_1, fm_1, hmk_1, hpv_1, q0_1, q1_1, hk_1⟩ := id (hLIs n (by omega))
  have c_2 : E (20 + n) 0 = .inr (5, [.int (nI n), pv_1, .ref (ad (20 + n) 1), .int op_1]) := q0_1
  have m_3 : (20 + n, 0) ∈ RL := m0_1
  have c_4 : E (20 + n) 1 = .inl (kA 6, mk_1, .inr (.inr (.inr (.inr fm_1)))) := q1_1
  have m_5 : (20 + n, 1) ∈ RL := m1_1
  refine xlab (σ := Nat) (ml := 3) 2 (fun (k : Nat) => [(2, .int (nI k)), (0, .ref (ad (20 + n) 0)), (1, .int dx)]) (fun (k : Nat) => []) (fun (k : Nat) => rp ad E RL) (fun (k : Nat) => (k ≤ mk_1)) (fun (k : Nat) => mk_1 - k) ?_ 0 _ _ _ (lv_sub hl [0, 1, 2] rfl) hP hD hS (show 0 ≤ mk_1 from by first | assumption | omega)
  intro n9 ih6 a9 ls H locs hμ hl hP hD hS hI
  subst hμ
  obtain ⟨k, rfl⟩ : ∃ z, z = a9 := ⟨_, rfl⟩
  have hk : k ≤ mk_1 := hI
  have hl : lv_has ls 3 [(2, .int (nI k)), (0, .ref (ad (20 + n) 0)), (1, .int dx)] := hl
  have hP : va_P D xcl (rp ad E RL) H := hP
  have hD : va_D A (rp ad E RL) := hD
  refine lv_iload_n hx hb xd_Ly_withDescriptor_2 rfl (lv_at hl 0 rfl) ?_
  refine lv_aload_n hx hb xd_Ly_withDescriptor_3 rfl (lv_at hl 1 rfl) ?_
  refine px_get (D := D) (ci := 5) (v := .ref (ad (20 + n) 1)) (C := xR_Ly) (T := xT_Ly) (N := 4) hx hb hT xi_Ly hown hK.1 hP m_3 c_2 rfl 2 (by decide) (hT _ yn_0) (fun _ h9 => h9) rfl xd_Ly_withDescriptor_4 ?_
  refine px_alen hx hb hK.1 hP m_5 c_4 6 rfl xd_Ly_withDescriptor_7 ?_
  refine W.eq (g2 := F0 m 8 ls [.int (nI mk_1), .int (nI k)]) rfl ?_
  refine xn_ge (a := k) (b := mk_1) (tgt := 40) hx hb xd_Ly_withDescriptor_8 (by decide) (by omega) (by omega) (fun hc7 => ?_) (fun hc7 => ?_)
  · refine lv_null hx hb xd_Ly_withDescriptor_40 ?_
    exact W.aret (v := .null) hx hb hr (Or.inl ⟨_, rfl⟩) (Or.inl rfl) (fun t ht hW => ⟨⟨none, (), rfl, Or.inl rfl, by rw [ht]; exact hP, hD⟩, hS.F ht⟩) hS.2.2 xd_Ly_withDescriptor_41
  · refine lv_aload_n hx hb xd_Ly_withDescriptor_11 rfl (lv_at hl 1 rfl) ?_
    refine px_get (D := D) (ci := 5) (v := .ref (ad (20 + n) 1)) (C := xR_Ly) (T := xT_Ly) (N := 4) hx hb hT xi_Ly hown hK.1 hP m_3 c_2 rfl 2 (by decide) (hT _ yn_0) (fun _ h9 => h9) rfl xd_Ly_withDescriptor_12 ?_
    refine lv_iload_n hx hb xd_Ly_withDescriptor_15 rfl (lv_at hl 0 rfl) ?_
    refine px_aald (i := k) (x := (some (ad (20 + n) (10 + 10 * k)))) hx hb hK.1 hP m_5 c_4 6 rfl ((hk_1 k (by omega)).1) (by omega) (by omega) xd_Ly_withDescriptor_16 ?_
    obtain ⟨hm_8, d_8, rs_8, fr_8, g2_8, g3_8, g4_8, hd_8, hrs_8, q0_8, q1_8, q2_8, q3_8, q4_8, q5_8, q6_8, q7_8⟩ := (hk_1 k (by omega)).2
    have c_9 : E (20 + n) (10 + 10 * k) = .inr (6, [.ref (ad (20 + n) 0), .ref (ad (1 + d_8) 0), .ref (ad (20 + n) (11 + 10 * k)), .ref (ad (20 + n) (12 + 10 * k)), .ref (ad (20 + n) (13 + 10 * k)), .ref (ad (20 + n) (14 + 10 * k))]) := q0_8
    have m_10 : (20 + n, 10 + 10 * k) ∈ RL := hm_8 0 (by omega)
    have c_11 : E (20 + n) (11 + 10 * k) = .inl (kA 6, rs_8, .inr (.inr (.inr (.inr fr_8)))) := q1_8
    have m_12 : (20 + n, 11 + 10 * k) ∈ RL := hm_8 1 (by omega)
    have c_13 : E (20 + n) (12 + 10 * k) = .inr (10, [.ref (ad (20 + n) (15 + 10 * k))]) := q2_8
    have m_14 : (20 + n, 12 + 10 * k) ∈ RL := hm_8 2 (by omega)
    have c_15 : E (20 + n) (13 + 10 * k) = .inr (10, [.ref (ad (20 + n) (16 + 10 * k))]) := q3_8
    have m_16 : (20 + n, 13 + 10 * k) ∈ RL := hm_8 3 (by omega)
    have c_17 : E (20 + n) (14 + 10 * k) = .inr (10, [.ref (ad (20 + n) (17 + 10 * k))]) := q4_8
    have m_18 : (20 + n, 14 + 10 * k) ∈ RL := hm_8 4 (by omega)
    have c_19 : E (20 + n) (15 + 10 * k) = .inl (kA 0, 6, .inl g2_8) := q5_8
    have m_20 : (20 + n, 15 + 10 * k) ∈ RL := hm_8 5 (by omega)
    have c_21 : E (20 + n) (16 + 10 * k) = .inl (kA 0, 6, .inl g3_8) := q6_8
    have m_22 : (20 + n, 16 + 10 * k) ∈ RL := hm_8 6 (by omega)
    have c_23 : E (20 + n) (17 + 10 * k) = .inl (kA 0, 6, .inl g4_8) := q7_8
    have m_24 : (20 + n, 17 + 10 * k) ∈ RL := hm_8 7 (by omega)
    refine px_get (D := D) (ci := 6) (v := .ref (ad (1 + d_8) 0)) (C := xR_Me) (T := xT_Me) (N := 6) hx hb hT xi_Me hown hK.1 hP m_10 c_9 rfl 1 (by decide) (hT _ yn_2) (fun _ h9 => h9) rfl xd_Ly_withDescriptor_17 ?_
    obtain ⟨hm_25, fd_25, nm_25, sd_25, k0_25, k1_25, k2_25, k3_25, f0_25, f1_25, f2_25, f3_25, fe_25, fo_25, tr_25, op_25, hk0_25, hk1_25, hk2_25, hk3_25, q0_25, q1_25, q2_25, q3_25, q4_25, q5_25, q6_25, q7_25, q8_25, q9_25, q10_25, q11_25, q12_25, hg_25⟩ := id (hDIs d_8 (by omega))
    have c_26 : E (1 + d_8) 0 = .inr (7, [.int (nI d_8), .int fd_25, .int nm_25, .ref (ad (1 + d_8) 1), .ref (ad (1 + d_8) 9), .ref (ad (1 + d_8) 10), .ref (ad (1 + d_8) 2), .ref (ad (1 + d_8) 11), .ref (ad (1 + d_8) 12), .ref (ad (1 + d_8) 3), .ref (ad (1 + d_8) 4), .int sd_25]) := q0_25
    have m_27 : (1 + d_8, 0) ∈ RL := hm_25 0 (by omega)
    have c_28 : E (1 + d_8) 1 = .inr (8, [.ref (ad (1 + d_8) 5), .int (nI k0_25)]) := q1_25
    have m_29 : (1 + d_8, 1) ∈ RL := hm_25 1 (by omega)
    have c_30 : E (1 + d_8) 2 = .inr (8, [.ref (ad (1 + d_8) 6), .int (nI k1_25)]) := q2_25
    have m_31 : (1 + d_8, 2) ∈ RL := hm_25 2 (by omega)
    have c_32 : E (1 + d_8) 3 = .inr (8, [.ref (ad (1 + d_8) 7), .int (nI k2_25)]) := q3_25
    have m_33 : (1 + d_8, 3) ∈ RL := hm_25 3 (by omega)
    have c_34 : E (1 + d_8) 4 = .inr (8, [.ref (ad (1 + d_8) 8), .int (nI k3_25)]) := q4_25
    have m_35 : (1 + d_8, 4) ∈ RL := hm_25 4 (by omega)
    have c_36 : E (1 + d_8) 5 = .inl (kA 0, 6, .inl f0_25) := q5_25
    have m_37 : (1 + d_8, 5) ∈ RL := hm_25 5 (by omega)
    have c_38 : E (1 + d_8) 6 = .inl (kA 0, 5, .inl f1_25) := q6_25
    have m_39 : (1 + d_8, 6) ∈ RL := hm_25 6 (by omega)
    have c_40 : E (1 + d_8) 7 = .inl (kA 0, 3, .inl f2_25) := q7_25
    have m_41 : (1 + d_8, 7) ∈ RL := hm_25 7 (by omega)
    have c_42 : E (1 + d_8) 8 = .inl (kA 0, 3, .inl f3_25) := q8_25
    have m_43 : (1 + d_8, 8) ∈ RL := hm_25 8 (by omega)
    have c_44 : E (1 + d_8) 9 = .inl (kA 8, 6, .inr (.inr (.inr (.inr fe_25)))) := q9_25
    have m_45 : (1 + d_8, 9) ∈ RL := hm_25 9 (by omega)
    have c_46 : E (1 + d_8) 10 = .inl (kA 8, 6, .inr (.inr (.inr (.inr fo_25)))) := q10_25
    have m_47 : (1 + d_8, 10) ∈ RL := hm_25 10 (by omega)
    have c_48 : E (1 + d_8) 11 = .inl (kA 2, 5, .inl tr_25) := q11_25
    have m_49 : (1 + d_8, 11) ∈ RL := hm_25 11 (by omega)
    have c_50 : E (1 + d_8) 12 = .inl (kA 2, 5, .inl op_25) := q12_25
    have m_51 : (1 + d_8, 12) ∈ RL := hm_25 12 (by omega)
    have hg_25 : ∀ w9, w9 < k0_25 → fe_25 w9 = some (ad (1 + d_8) (20 + 3 * w9)) ∧ fo_25 w9 = some (ad (1 + d_8) (38 + 3 * w9)) ∧ GI kA (ad (1 + d_8)) (E (1 + d_8)) (fun o => (1 + d_8, o) ∈ RL) (20 + 3 * w9) (21 + 3 * w9) (22 + 3 * w9) ∧ GI kA (ad (1 + d_8)) (E (1 + d_8)) (fun o => (1 + d_8, o) ∈ RL) (38 + 3 * w9) (39 + 3 * w9) (40 + 3 * w9) := hg_25
    refine px_get (D := D) (ci := 7) (v := .int (nI d_8)) (C := xR_Ds) (T := xT_Ds) (N := 12) hx hb hT xi_Ds hown hK.1 hP m_27 c_26 rfl 0 (by decide) (hT _ yn_4) (fun _ h9 => h9) rfl xd_Ly_withDescriptor_20 ?_
    refine lv_iload_n hx hb xd_Ly_withDescriptor_23 rfl (lv_at hl 2 rfl) ?_
    refine lv_icmp_ne (tgt := 34) hx hb xd_Ly_withDescriptor_24 (by decide) (fun hc52 => ?_) (fun hc52 => ?_)
    · refine lv_iinc (k := 0) (x := (nI k)) (v := (nI (k + 1))) hx hb xd_Ly_withDescriptor_34 hl rfl (xb_inc k 1) (Nat.le_of_ble_eq_true rfl) rfl (fun ls hl => ?_)
      have hl : lv_has ls 3 [(2, .int (nI (k + 1))), (0, .ref (ad (20 + n) 0)), (1, .int dx)] := hl
      refine lv_goto (tgt := 2) hx hb xd_Ly_withDescriptor_37 (by decide) ?_
      exact ih6 (k + 1) _ _ _ (show mk_1 - (k + 1) < mk_1 - k by omega) (lv_sub hl [0, 1, 2] rfl) hP hD hS (show (k + 1) ≤ mk_1 from by first | assumption | omega)
    · refine lv_aload_n hx hb xd_Ly_withDescriptor_27 rfl (lv_at hl 1 rfl) ?_
      refine px_get (D := D) (ci := 5) (v := .ref (ad (20 + n) 1)) (C := xR_Ly) (T := xT_Ly) (N := 4) hx hb hT xi_Ly hown hK.1 hP m_3 c_2 rfl 2 (by decide) (hT _ yn_0) (fun _ h9 => h9) rfl xd_Ly_withDescriptor_28 ?_
      refine lv_iload_n hx hb xd_Ly_withDescriptor_31 rfl (lv_at hl 0 rfl) ?_
      refine px_aald (i := k) (x := (some (ad (20 + n) (10 + 10 * k)))) hx hb hK.1 hP m_5 c_4 6 rfl ((hk_1 k (by omega)).1) (by omega) (by omega) xd_Ly_withDescriptor_32 ?_
      exact W.aret (v := .ref (ad (20 + n) (10 + 10 * k))) hx hb hr (Or.inl ⟨_, rfl⟩) (Or.inr ⟨_, rfl⟩) (fun t ht hW => ⟨⟨(some (ad (20 + n) (10 + 10 * k))), (), rfl, Or.inr ⟨n, k, rfl, rfl, (hk_1 k (by omega)).2⟩, by rw [ht]; exact hP, hD⟩, hS.F ht⟩) hS.2.2 xd_Ly_withDescriptor_33
set_option maxHeartbeats 4000000 in
set_option maxRecDepth 100000 in
theorem xc_Ly_providerOf (l : Launch) (D : va_G) (kA : Nat → ClassId) (sz : Nat) (ad : Nat → Nat → Nat) (E : Nat → Nat → va_E) (RL : List (Nat × Nat)) (nd : Nat) (nL : Nat) (n : Nat) (sv : Int32) (ix : Int32) (hDIs : DIs kA ad E RL nd) (hLIs : LIs kA ad E RL nd nL) (hnL : nL ≤ 6) (hn : n < nL) : Met l xy_Ly_providerOf (.code xy_Ly_providerOf xb_Ly_providerOf 6 (some (.object "LayerDesk$Member")) :: wT) { frames := 2, cells := 0, slots := 0, locals := 43 } (va_Pc [.ref (ad (20 + n) 0), .int sv, .int ix] (xPre D kA sz (rp ad E RL))) (va_Qq (fun (r : Option Nat) (u : Unit) => r = none ∨ ∃ x k, x ≤ n ∧ r = some (ad (20 + x) (10 + 10 * k)) ∧ MEI kA ad E RL nd x k) (fun (u : Unit) t => va_P D xcl (rp ad E RL) t.heap ∧ va_D (va_A (rp ad E RL) sz) (rp ad E RL)) (va_A (rp ad E RL) sz)) 0 0 (va_A (rp ad E RL) sz) := by
  refine Met.ofW (cc := xb_Ly_providerOf) (maxL := 6) (ret := (some (.object "LayerDesk$Member"))) (by decide) rfl ?_
  intro p e s m args below meth c s₁ B hml hv
  obtain ⟨rfl, hsz, hP, hK, hD0⟩ := hv
  have hx := B.exec
  have hb := B.bytes
  have hr := B.returns
  have hT := x_hT B.pre
  have hown : s.vm.findClass xR_Ly = some m.cls := findClass_of_methodNamed B.named
  have hlocks := B.notSynchronized
  subst hsz
  have hD := hD0.self (sz := s.heap.size)
  generalize hAe : va_A (rp ad E RL) s.heap.size = A at hD ⊢
  have hA : ∀ q : Nat, s.heap.size ≤ q → A q := fun q h => by rw [← hAe]; exact Or.inr h
  have hS : va_S A s.heap s.heap [] := va_S.rf
  have hl := lv_entry ([.ref (ad (20 + n) 0), .int sv, .int ix]) (n := 6) (Nat.le_of_ble_eq_true rfl)
  rw [lg_entry_eq]
  generalize (lg_sl ([.ref (ad (20 + n) 0), .int sv, .int ix]) ++ List.replicate (6 - (lg_sl ([.ref (ad (20 + n) 0), .int sv, .int ix])).length) Slot.unset).toArray = ls at hl ⊢
  have hl : lv_has ls 6 [(0, .ref (ad (20 + n) 0)), (1, .int sv), (2, .int ix)] := hl
  have hP : va_P D xcl (rp ad E RL) s.heap := hP
  refine lv_iconst (v := 0) hx hb xd_Ly_providerOf_0 (by decide) ?_
  refine lv_istore_n hx hb xd_Ly_providerOf_1 rfl hl (Nat.le_of_ble_eq_true rfl) rfl (fun ls hl => ?_)
  have hl : lv_has ls 6 [(3, .int 0), (0, .ref (ad (20 + n) 0)), (1, .int sv), (2, .int ix)] := hl
  refine lv_aload_n hx hb xd_Ly_providerOf_2 rfl (lv_at hl 1 rfl) ?_
  refine lv_astore hx hb xd_Ly_providerOf_3 hl (Nat.le_of_ble_eq_true rfl) rfl (fun ls hl => ?_)
  have hl : lv_has ls 6 [(4, .ref (ad (20 + n) 0)), (3, .int 0), (0, .ref (ad (20 + n) 0)), (1, .int sv), (2, .int ix)] := hl
  refine xlab (σ := Nat × Int32) (ml := 6) 5 (fun (y, ps) => [(4, (lyv ad y)), (3, .int ps), (0, .ref (ad (20 + n) 0)), (1, .int sv), (2, .int ix)]) (fun (y, ps) => []) (fun (y, ps) => rp ad E RL) (fun (y, ps) => (y ≤ n + 1)) (fun (y, ps) => y) ?_ (n + 1, 0) _ _ _ (lv_sub hl [0, 1, 2, 3, 4] rfl) hP hD hS (show (n + 1) ≤ n + 1 from by first | assumption | omega)
  intro n9 ih1 a9 ls H locs hμ hl hP hD hS hI
  subst hμ
  obtain ⟨y, ps⟩ := a9
  have hy : y ≤ n + 1 := hI
  have hl : lv_has ls 6 [(4, (lyv ad y)), (3, .int ps), (0, .ref (ad (20 + n) 0)), (1, .int sv), (2, .int ix)] := hl
  have hP : va_P D xcl (rp ad E RL) H := hP
  have hD : va_D A (rp ad E RL) := hD
  rcases y with _ | y
  · have hl : lv_has ls 6 [(4, .null), (3, .int ps), (0, .ref (ad (20 + n) 0)), (1, .int sv), (2, .int ix)] := hl
    refine lv_aloadN hx hb xd_Ly_providerOf_5 (lv_at hl 0 rfl) ?_
    refine lv_ifnullN (tgt := 78) hx hb xd_Ly_providerOf_7 (by decide) ?_
    refine lv_null hx hb xd_Ly_providerOf_78 ?_
    exact W.aret (v := .null) hx hb hr (Or.inl ⟨_, rfl⟩) (Or.inl rfl) (fun t ht hW => ⟨⟨none, (), rfl, Or.inl rfl, by rw [ht]; exact hP, hD⟩, hS.F ht⟩) hS.2.2 xd_Ly_providerOf_79
  · have hl : lv_has ls 6 [(4, .ref (ad (20 + y) 0)), (3, .int ps), (0, .ref (ad (20 + n) 0)), (1, .int sv), (2, .int ix)] := hl
    refine lv_aload hx hb xd_Ly_providerOf_5 (lv_at hl 0 rfl) ?_
    refine lv_ifnull hx hb xd_Ly_providerOf_7 ?_
    refine lv_iconst (v := 0) hx hb xd_Ly_providerOf_10 (by decide) ?_
    refine lv_istore hx hb xd_Ly_providerOf_11 hl (Nat.le_of_ble_eq_true rfl) rfl (fun ls hl => ?_)
    have hl : lv_has ls 6 [(5, .int 0), (4, .ref (ad (20 + y) 0)), (3, .int ps), (0, .ref (ad (20 + n) 0)), (1, .int sv), (2, .int ix)] := hl
    obtain ⟨m0_2, m1_2, pv_2, op_2, mk_2, fm_2, hmk_2, hpv_2, q0_2, q1_2, hk_2⟩ := id (hLIs y (by omega))
    have c_3 : E (20 + y) 0 = .inr (5, [.int (nI y), pv_2, .ref (ad (20 + y) 1), .int op_2]) := q0_2
    have m_4 : (20 + y, 0) ∈ RL := m0_2
    have c_5 : E (20 + y) 1 = .inl (kA 6, mk_2, .inr (.inr (.inr (.inr fm_2)))) := q1_2
    have m_6 : (20 + y, 1) ∈ RL := m1_2
    refine xlab (σ := Nat × Int32) (ml := 6) 13 (fun (k, pt) => [(5, .int (nI k)), (4, .ref (ad (20 + y) 0)), (3, .int pt), (0, .ref (ad (20 + n) 0)), (1, .int sv), (2, .int ix)]) (fun (k, pt) => []) (fun (k, pt) => rp ad E RL) (fun (k, pt) => (k ≤ mk_2)) (fun (k, pt) => mk_2 - k) ?_ (0, ps) _ _ _ (lv_sub hl [0, 1, 2, 3, 4, 5] rfl) hP hD hS (show 0 ≤ mk_2 from by first | assumption | omega)
    intro n9 ih7 a9 ls H locs hμ hl hP hD hS hI
    subst hμ
    obtain ⟨k, pt⟩ := a9
    have hk : k ≤ mk_2 := hI
    have hl : lv_has ls 6 [(5, .int (nI k)), (4, .ref (ad (20 + y) 0)), (3, .int pt), (0, .ref (ad (20 + n) 0)), (1, .int sv), (2, .int ix)] := hl
    have hP : va_P D xcl (rp ad E RL) H := hP
    have hD : va_D A (rp ad E RL) := hD
    refine lv_iload hx hb xd_Ly_providerOf_13 (lv_at hl 0 rfl) ?_
    refine lv_aload hx hb xd_Ly_providerOf_15 (lv_at hl 1 rfl) ?_
    refine px_get (D := D) (ci := 5) (v := .ref (ad (20 + y) 1)) (C := xR_Ly) (T := xT_Ly) (N := 4) hx hb hT xi_Ly hown hK.1 hP m_4 c_3 rfl 2 (by decide) (hT _ yn_0) (fun _ h9 => h9) rfl xd_Ly_providerOf_17 ?_
    refine px_alen hx hb hK.1 hP m_6 c_5 6 rfl xd_Ly_providerOf_20 ?_
    refine W.eq (g2 := F0 m 21 ls [.int (nI mk_2), .int (nI k)]) rfl ?_
    refine xn_ge (a := k) (b := mk_2) (tgt := 68) hx hb xd_Ly_providerOf_21 (by decide) (by omega) (by omega) (fun hc8 => ?_) (fun hc8 => ?_)
    · refine lv_aload hx hb xd_Ly_providerOf_68 (lv_at hl 1 rfl) ?_
      refine px_get (D := D) (ci := 5) (v := pv_2) (C := xR_Ly) (T := xT_Ly) (N := 4) hx hb hT xi_Ly hown hK.1 hP m_4 c_3 rfl 1 (by decide) (hT _ yn_1) (fun _ h9 => h9) rfl xd_Ly_providerOf_70 ?_
      rcases hpv_2 with rfl | ⟨x9, hx10, rfl⟩
      · refine W.eq (g2 := F0 m 73 ls [.null]) rfl ?_
        refine lv_astoreN hx hb xd_Ly_providerOf_73 hl (Nat.le_of_ble_eq_true rfl) rfl (fun ls hl => ?_)
        have hl : lv_has ls 6 [(4, .null), (5, .int (nI k)), (3, .int pt), (0, .ref (ad (20 + n) 0)), (1, .int sv), (2, .int ix)] := hl
        refine lv_goto (tgt := 5) hx hb xd_Ly_providerOf_75 (by decide) ?_
        exact ih1 (0, pt) _ _ _ (show 0 < y + 1 by omega) (lv_sub hl [0, 2, 3, 4, 5] rfl) hP hD hS (show 0 ≤ n + 1 from by first | assumption | omega)
      · refine W.eq (g2 := F0 m 73 ls [.ref (ad (20 + x9) 0)]) rfl ?_
        refine lv_astore hx hb xd_Ly_providerOf_73 hl (Nat.le_of_ble_eq_true rfl) rfl (fun ls hl => ?_)
        have hl : lv_has ls 6 [(4, .ref (ad (20 + x9) 0)), (5, .int (nI k)), (3, .int pt), (0, .ref (ad (20 + n) 0)), (1, .int sv), (2, .int ix)] := hl
        refine lv_goto (tgt := 5) hx hb xd_Ly_providerOf_75 (by decide) ?_
        exact ih1 (x9 + 1, pt) _ _ _ (show (x9 + 1) < y + 1 by omega) (lv_sub hl [0, 2, 3, 4, 5] rfl) hP hD hS (show (x9 + 1) ≤ n + 1 from by first | assumption | omega)
    · refine lv_aload hx hb xd_Ly_providerOf_24 (lv_at hl 1 rfl) ?_
      refine px_get (D := D) (ci := 5) (v := .ref (ad (20 + y) 1)) (C := xR_Ly) (T := xT_Ly) (N := 4) hx hb hT xi_Ly hown hK.1 hP m_4 c_3 rfl 2 (by decide) (hT _ yn_0) (fun _ h9 => h9) rfl xd_Ly_providerOf_26 ?_
      refine lv_iload hx hb xd_Ly_providerOf_29 (lv_at hl 0 rfl) ?_
      refine px_aald (i := k) (x := (some (ad (20 + y) (10 + 10 * k)))) hx hb hK.1 hP m_6 c_5 6 rfl ((hk_2 k (by omega)).1) (by omega) (by omega) xd_Ly_providerOf_31 ?_
      obtain ⟨hm_11, d_11, rs_11, fr_11, g2_11, g3_11, g4_11, hd_11, hrs_11, q0_11, q1_11, q2_11, q3_11, q4_11, q5_11, q6_11, q7_11⟩ := (hk_2 k (by omega)).2
      have c_12 : E (20 + y) (10 + 10 * k) = .inr (6, [.ref (ad (20 + y) 0), .ref (ad (1 + d_11) 0), .ref (ad (20 + y) (11 + 10 * k)), .ref (ad (20 + y) (12 + 10 * k)), .ref (ad (20 + y) (13 + 10 * k)), .ref (ad (20 + y) (14 + 10 * k))]) := q0_11
      have m_13 : (20 + y, 10 + 10 * k) ∈ RL := hm_11 0 (by omega)
      have c_14 : E (20 + y) (11 + 10 * k) = .inl (kA 6, rs_11, .inr (.inr (.inr (.inr fr_11)))) := q1_11
      have m_15 : (20 + y, 11 + 10 * k) ∈ RL := hm_11 1 (by omega)
      have c_16 : E (20 + y) (12 + 10 * k) = .inr (10, [.ref (ad (20 + y) (15 + 10 * k))]) := q2_11
      have m_17 : (20 + y, 12 + 10 * k) ∈ RL := hm_11 2 (by omega)
      have c_18 : E (20 + y) (13 + 10 * k) = .inr (10, [.ref (ad (20 + y) (16 + 10 * k))]) := q3_11
      have m_19 : (20 + y, 13 + 10 * k) ∈ RL := hm_11 3 (by omega)
      have c_20 : E (20 + y) (14 + 10 * k) = .inr (10, [.ref (ad (20 + y) (17 + 10 * k))]) := q4_11
      have m_21 : (20 + y, 14 + 10 * k) ∈ RL := hm_11 4 (by omega)
      have c_22 : E (20 + y) (15 + 10 * k) = .inl (kA 0, 6, .inl g2_11) := q5_11
      have m_23 : (20 + y, 15 + 10 * k) ∈ RL := hm_11 5 (by omega)
      have c_24 : E (20 + y) (16 + 10 * k) = .inl (kA 0, 6, .inl g3_11) := q6_11
      have m_25 : (20 + y, 16 + 10 * k) ∈ RL := hm_11 6 (by omega)
      have c_26 : E (20 + y) (17 + 10 * k) = .inl (kA 0, 6, .inl g4_11) := q7_11
      have m_27 : (20 + y, 17 + 10 * k) ∈ RL := hm_11 7 (by omega)
      refine px_get (D := D) (ci := 6) (v := .ref (ad (1 + d_11) 0)) (C := xR_Me) (T := xT_Me) (N := 6) hx hb hT xi_Me hown hK.1 hP m_13 c_12 rfl 1 (by decide) (hT _ yn_2) (fun _ h9 => h9) rfl xd_Ly_providerOf_32 ?_
      obtain ⟨hm_28, fd_28, nm_28, sd_28, k0_28, k1_28, k2_28, k3_28, f0_28, f1_28, f2_28, f3_28, fe_28, fo_28, tr_28, op_28, hk0_28, hk1_28, hk2_28, hk3_28, q0_28, q1_28, q2_28, q3_28, q4_28, q5_28, q6_28, q7_28, q8_28, q9_28, q10_28, q11_28, q12_28, hg_28⟩ := id (hDIs d_11 (by omega))
      have c_29 : E (1 + d_11) 0 = .inr (7, [.int (nI d_11), .int fd_28, .int nm_28, .ref (ad (1 + d_11) 1), .ref (ad (1 + d_11) 9), .ref (ad (1 + d_11) 10), .ref (ad (1 + d_11) 2), .ref (ad (1 + d_11) 11), .ref (ad (1 + d_11) 12), .ref (ad (1 + d_11) 3), .ref (ad (1 + d_11) 4), .int sd_28]) := q0_28
      have m_30 : (1 + d_11, 0) ∈ RL := hm_28 0 (by omega)
      have c_31 : E (1 + d_11) 1 = .inr (8, [.ref (ad (1 + d_11) 5), .int (nI k0_28)]) := q1_28
      have m_32 : (1 + d_11, 1) ∈ RL := hm_28 1 (by omega)
      have c_33 : E (1 + d_11) 2 = .inr (8, [.ref (ad (1 + d_11) 6), .int (nI k1_28)]) := q2_28
      have m_34 : (1 + d_11, 2) ∈ RL := hm_28 2 (by omega)
      have c_35 : E (1 + d_11) 3 = .inr (8, [.ref (ad (1 + d_11) 7), .int (nI k2_28)]) := q3_28
      have m_36 : (1 + d_11, 3) ∈ RL := hm_28 3 (by omega)
      have c_37 : E (1 + d_11) 4 = .inr (8, [.ref (ad (1 + d_11) 8), .int (nI k3_28)]) := q4_28
      have m_38 : (1 + d_11, 4) ∈ RL := hm_28 4 (by omega)
      have c_39 : E (1 + d_11) 5 = .inl (kA 0, 6, .inl f0_28) := q5_28
      have m_40 : (1 + d_11, 5) ∈ RL := hm_28 5 (by omega)
      have c_41 : E (1 + d_11) 6 = .inl (kA 0, 5, .inl f1_28) := q6_28
      have m_42 : (1 + d_11, 6) ∈ RL := hm_28 6 (by omega)
      have c_43 : E (1 + d_11) 7 = .inl (kA 0, 3, .inl f2_28) := q7_28
      have m_44 : (1 + d_11, 7) ∈ RL := hm_28 7 (by omega)
      have c_45 : E (1 + d_11) 8 = .inl (kA 0, 3, .inl f3_28) := q8_28
      have m_46 : (1 + d_11, 8) ∈ RL := hm_28 8 (by omega)
      have c_47 : E (1 + d_11) 9 = .inl (kA 8, 6, .inr (.inr (.inr (.inr fe_28)))) := q9_28
      have m_48 : (1 + d_11, 9) ∈ RL := hm_28 9 (by omega)
      have c_49 : E (1 + d_11) 10 = .inl (kA 8, 6, .inr (.inr (.inr (.inr fo_28)))) := q10_28
      have m_50 : (1 + d_11, 10) ∈ RL := hm_28 10 (by omega)
      have c_51 : E (1 + d_11) 11 = .inl (kA 2, 5, .inl tr_28) := q11_28
      have m_52 : (1 + d_11, 11) ∈ RL := hm_28 11 (by omega)
      have c_53 : E (1 + d_11) 12 = .inl (kA 2, 5, .inl op_28) := q12_28
      have m_54 : (1 + d_11, 12) ∈ RL := hm_28 12 (by omega)
      have hg_28 : ∀ w9, w9 < k0_28 → fe_28 w9 = some (ad (1 + d_11) (20 + 3 * w9)) ∧ fo_28 w9 = some (ad (1 + d_11) (38 + 3 * w9)) ∧ GI kA (ad (1 + d_11)) (E (1 + d_11)) (fun o => (1 + d_11, o) ∈ RL) (20 + 3 * w9) (21 + 3 * w9) (22 + 3 * w9) ∧ GI kA (ad (1 + d_11)) (E (1 + d_11)) (fun o => (1 + d_11, o) ∈ RL) (38 + 3 * w9) (39 + 3 * w9) (40 + 3 * w9) := hg_28
      refine px_get (D := D) (ci := 7) (v := .ref (ad (1 + d_11) 4)) (C := xR_Ds) (T := xT_Ds) (N := 12) hx hb hT xi_Ds hown hK.1 hP m_30 c_29 rfl 10 (by decide) (hT _ yn_5) (fun _ h9 => h9) rfl xd_Ly_providerOf_35 ?_
      refine lv_iload_n hx hb xd_Ly_providerOf_38 rfl (lv_at hl 4 rfl) ?_
      have hFc := px_free hD hS hA
      refine va_calli (va_runV (As := [.int sv]) (rest := []) ⟨hx, hb, hml, hown, hT⟩ (xc_Na_holds l D kA H.size ad E RL (1 + d_11) 4 8 3 k3_28 f3_28 sv m_38 c_37 m_46 c_45 (by first | assumption | omega) (by first | assumption | omega)) (cwV 1 hT (wT_V yn_7 yn_8 yn_9 yn_10 yn_6) rfl rfl rfl (by decide +kernel) ⟨Nat.le_of_ble_eq_true rfl, Nat.le_of_ble_eq_true rfl⟩) (px_preV hK hP hD m_38 c_37 rfl) rfl rfl hl.1 rfl (lv_room (Nat.le_of_ble_eq_true rfl)) xd_Ly_providerOf_39 ⟨(Nat.le_of_ble_eq_true rfl), (Nat.le_of_ble_eq_true rfl)⟩) hS (fun q _ h => hFc q h) hFc (fun r55 u56 t H1 locs ht hvm hp57 hB hz1 hk1 hS => ?_)
      obtain ⟨hP1, hD1⟩ := hB
      rw [ht] at hP1
      have hD1 := hD1.weaken (fun _ _ _ h => hFc _ h)
      generalize H1 = H at hP1 hS ⊢
      have hP := hP1
      have hD := hD1
      have hP : va_P D xcl (rp ad E RL) H := hP
      have hD : va_D A (rp ad E RL) := hD
      rcases hp57 with ⟨rfl, z58, z59, z60⟩ | ⟨rfl, z61⟩
      · refine W.eq (g2 := F0 m 42 ls [.int 1]) rfl ?_
        refine lv_if_eq (tgt := 62) hx hb xd_Ly_providerOf_42 (by decide) (fun hc62 => absurd hc62 (by decide)) (fun _ => ?_)
        refine lv_iload_n hx hb xd_Ly_providerOf_45 rfl (lv_at hl 2 rfl) ?_
        refine lv_iload_n hx hb xd_Ly_providerOf_46 rfl (lv_at hl 5 rfl) ?_
        refine lv_icmp_ne (tgt := 59) hx hb xd_Ly_providerOf_47 (by decide) (fun hc63 => ?_) (fun hc63 => ?_)
        · refine lv_iinc (k := 2) (x := pt) (v := (pt + Int32.ofInt 1)) hx hb xd_Ly_providerOf_59 hl rfl rfl (Nat.le_of_ble_eq_true rfl) rfl (fun ls hl => ?_)
          have hl : lv_has ls 6 [(3, .int (pt + Int32.ofInt 1)), (5, .int (nI k)), (4, .ref (ad (20 + y) 0)), (0, .ref (ad (20 + n) 0)), (1, .int sv), (2, .int ix)] := hl
          refine lv_iinc (k := 1) (x := (nI k)) (v := (nI (k + 1))) hx hb xd_Ly_providerOf_62 hl rfl (xb_inc k 1) (Nat.le_of_ble_eq_true rfl) rfl (fun ls hl => ?_)
          have hl : lv_has ls 6 [(5, .int (nI (k + 1))), (3, .int (pt + Int32.ofInt 1)), (4, .ref (ad (20 + y) 0)), (0, .ref (ad (20 + n) 0)), (1, .int sv), (2, .int ix)] := hl
          refine lv_goto (tgt := 13) hx hb xd_Ly_providerOf_65 (by decide) ?_
          exact ih7 (k + 1, (pt + Int32.ofInt 1)) _ _ _ (show mk_2 - (k + 1) < mk_2 - k by omega) (lv_sub hl [0, 2, 1, 3, 4, 5] rfl) hP hD hS (show (k + 1) ≤ mk_2 from by first | assumption | omega)
        · refine lv_aload hx hb xd_Ly_providerOf_50 (lv_at hl 1 rfl) ?_
          refine px_get (D := D) (ci := 5) (v := .ref (ad (20 + y) 1)) (C := xR_Ly) (T := xT_Ly) (N := 4) hx hb hT xi_Ly hown hK.1 hP m_4 c_3 rfl 2 (by decide) (hT _ yn_0) (fun _ h9 => h9) rfl xd_Ly_providerOf_52 ?_
          refine lv_iload hx hb xd_Ly_providerOf_55 (lv_at hl 0 rfl) ?_
          refine px_aald (i := k) (x := (some (ad (20 + y) (10 + 10 * k)))) hx hb hK.1 hP m_6 c_5 6 rfl ((hk_2 k (by omega)).1) (by omega) (by omega) xd_Ly_providerOf_57 ?_
          exact W.aret (v := .ref (ad (20 + y) (10 + 10 * k))) hx hb hr (Or.inl ⟨_, rfl⟩) (Or.inr ⟨_, rfl⟩) (fun t ht hW => ⟨⟨(some (ad (20 + y) (10 + 10 * k))), (), rfl, Or.inr ⟨y, k, by omega, rfl, (hk_2 k (by omega)).2⟩, by rw [ht]; exact hP, hD⟩, hS.F ht⟩) hS.2.2 xd_Ly_providerOf_58
      · refine W.eq (g2 := F0 m 42 ls [.int 0]) rfl ?_
        refine lv_if_eq (tgt := 62) hx hb xd_Ly_providerOf_42 (by decide) (fun _ => ?_) (fun hc64 => absurd (by decide) hc64)
        refine lv_iinc (k := 0) (x := (nI k)) (v := (nI (k + 1))) hx hb xd_Ly_providerOf_62 hl rfl (xb_inc k 1) (Nat.le_of_ble_eq_true rfl) rfl (fun ls hl => ?_)
        have hl : lv_has ls 6 [(5, .int (nI (k + 1))), (4, .ref (ad (20 + y) 0)), (3, .int pt), (0, .ref (ad (20 + n) 0)), (1, .int sv), (2, .int ix)] := hl
        refine lv_goto (tgt := 13) hx hb xd_Ly_providerOf_65 (by decide) ?_
        exact ih7 (k + 1, pt) _ _ _ (show mk_2 - (k + 1) < mk_2 - k by omega) (lv_sub hl [0, 1, 2, 3, 4, 5] rfl) hP hD hS (show (k + 1) ≤ mk_2 from by first | assumption | omega)
set_option maxHeartbeats 4000000 in
set_option maxRecDepth 100000 in
theorem xc_Me_code (l : Launch) (D : va_G) (kA : Nat → ClassId) (sz : Nat) (ad : Nat → Nat → Nat) (E : Nat → Nat → va_E) (RL : List (Nat × Nat)) (nd : Nat) (nL : Nat) (n : Nat) (k : Nat) (hDIs : DIs kA ad E RL nd) (hLIs : LIs kA ad E RL nd nL) (hnL : nL ≤ 6) (hn : n < nL) (hME : MEI kA ad E RL nd n k) : Met l xy_Me_code (.code xy_Me_code xb_Me_code 1 (some .int) :: wT) { frames := 0, cells := 0, slots := 0, locals := 0 } (va_Pc [.ref (ad (20 + n) (10 + 10 * k))] (xPre D kA sz (rp ad E RL))) (va_Qi (fun (r : Int32) (u : Unit) => True) (fun (u : Unit) t => va_P D xcl (rp ad E RL) t.heap ∧ va_D (va_A (rp ad E RL) sz) (rp ad E RL)) (va_A (rp ad E RL) sz)) 0 0 (va_A (rp ad E RL) sz) := by
  refine Met.ofW (cc := xb_Me_code) (maxL := 1) (ret := (some .int)) (by decide) rfl ?_
  intro p e s m args below meth c s₁ B hml hv
  obtain ⟨rfl, hsz, hP, hK, hD0⟩ := hv
  have hx := B.exec
  have hb := B.bytes
  have hr := B.returns
  have hT := x_hT B.pre
  have hown : s.vm.findClass xR_Me = some m.cls := findClass_of_methodNamed B.named
  have hlocks := B.notSynchronized
  subst hsz
  have hD := hD0.self (sz := s.heap.size)
  generalize hAe : va_A (rp ad E RL) s.heap.size = A at hD ⊢
  have hA : ∀ q : Nat, s.heap.size ≤ q → A q := fun q h => by rw [← hAe]; exact Or.inr h
  have hS : va_S A s.heap s.heap [] := va_S.rf
  have hl := lv_entry ([.ref (ad (20 + n) (10 + 10 * k))]) (n := 1) (Nat.le_of_ble_eq_true rfl)
  rw [lg_entry_eq]
  generalize (lg_sl ([.ref (ad (20 + n) (10 + 10 * k))]) ++ List.replicate (1 - (lg_sl ([.ref (ad (20 + n) (10 + 10 * k))])).length) Slot.unset).toArray = ls at hl ⊢
  have hl : lv_has ls 1 [(0, .ref (ad (20 + n) (10 + 10 * k)))] := hl
  have hP : va_P D xcl (rp ad E RL) s.heap := hP
  refine lv_bipush (v := 16) hx hb xd_Me_code_0 (by decide) ?_
  refine lv_aload_n hx hb xd_Me_code_2 rfl (lv_at hl 0 rfl) ?_
  obtain ⟨hm_1, d_1, rs_1, fr_1, g2_1, g3_1, g4_1, hd_1, hrs_1, q0_1, q1_1, q2_1, q3_1, q4_1, q5_1, q6_1, q7_1⟩ := id hME
  have c_2 : E (20 + n) (10 + 10 * k) = .inr (6, [.ref (ad (20 + n) 0), .ref (ad (1 + d_1) 0), .ref (ad (20 + n) (11 + 10 * k)), .ref (ad (20 + n) (12 + 10 * k)), .ref (ad (20 + n) (13 + 10 * k)), .ref (ad (20 + n) (14 + 10 * k))]) := q0_1
  have m_3 : (20 + n, 10 + 10 * k) ∈ RL := hm_1 0 (by omega)
  have c_4 : E (20 + n) (11 + 10 * k) = .inl (kA 6, rs_1, .inr (.inr (.inr (.inr fr_1)))) := q1_1
  have m_5 : (20 + n, 11 + 10 * k) ∈ RL := hm_1 1 (by omega)
  have c_6 : E (20 + n) (12 + 10 * k) = .inr (10, [.ref (ad (20 + n) (15 + 10 * k))]) := q2_1
  have m_7 : (20 + n, 12 + 10 * k) ∈ RL := hm_1 2 (by omega)
  have c_8 : E (20 + n) (13 + 10 * k) = .inr (10, [.ref (ad (20 + n) (16 + 10 * k))]) := q3_1
  have m_9 : (20 + n, 13 + 10 * k) ∈ RL := hm_1 3 (by omega)
  have c_10 : E (20 + n) (14 + 10 * k) = .inr (10, [.ref (ad (20 + n) (17 + 10 * k))]) := q4_1
  have m_11 : (20 + n, 14 + 10 * k) ∈ RL := hm_1 4 (by omega)
  have c_12 : E (20 + n) (15 + 10 * k) = .inl (kA 0, 6, .inl g2_1) := q5_1
  have m_13 : (20 + n, 15 + 10 * k) ∈ RL := hm_1 5 (by omega)
  have c_14 : E (20 + n) (16 + 10 * k) = .inl (kA 0, 6, .inl g3_1) := q6_1
  have m_15 : (20 + n, 16 + 10 * k) ∈ RL := hm_1 6 (by omega)
  have c_16 : E (20 + n) (17 + 10 * k) = .inl (kA 0, 6, .inl g4_1) := q7_1
  have m_17 : (20 + n, 17 + 10 * k) ∈ RL := hm_1 7 (by omega)
  refine px_get (D := D) (ci := 6) (v := .ref (ad (20 + n) 0)) (C := xR_Me) (T := xT_Me) (N := 6) hx hb hT xi_Me hown hK.1 hP m_3 c_2 rfl 0 (by decide) (hT _ yn_11) (fun _ h9 => h9) rfl xd_Me_code_3 ?_
  obtain ⟨m0_18, m1_18, pv_18, op_18, mk_18, fm_18, hmk_18, hpv_18, q0_18, q1_18, hk_18⟩ := id (hLIs n (by omega))
  have c_19 : E (20 + n) 0 = .inr (5, [.int (nI n), pv_18, .ref (ad (20 + n) 1), .int op_18]) := q0_18
  have m_20 : (20 + n, 0) ∈ RL := m0_18
  have c_21 : E (20 + n) 1 = .inl (kA 6, mk_18, .inr (.inr (.inr (.inr fm_18)))) := q1_18
  have m_22 : (20 + n, 1) ∈ RL := m1_18
  refine px_get (D := D) (ci := 5) (v := .int (nI n)) (C := xR_Ly) (T := xT_Ly) (N := 4) hx hb hT xi_Ly hown hK.1 hP m_20 c_19 rfl 0 (by decide) (hT _ yn_12) (fun _ h9 => h9) rfl xd_Me_code_6 ?_
  refine lv_imul hx hb xd_Me_code_9 ?_
  refine xn_top (y := nI (16 * n)) (pk_mul 16 n) ?_
  refine lv_aload_n hx hb xd_Me_code_10 rfl (lv_at hl 0 rfl) ?_
  refine px_get (D := D) (ci := 6) (v := .ref (ad (1 + d_1) 0)) (C := xR_Me) (T := xT_Me) (N := 6) hx hb hT xi_Me hown hK.1 hP m_3 c_2 rfl 1 (by decide) (hT _ yn_13) (fun _ h9 => h9) rfl xd_Me_code_11 ?_
  obtain ⟨hm_23, fd_23, nm_23, sd_23, k0_23, k1_23, k2_23, k3_23, f0_23, f1_23, f2_23, f3_23, fe_23, fo_23, tr_23, op_23, hk0_23, hk1_23, hk2_23, hk3_23, q0_23, q1_23, q2_23, q3_23, q4_23, q5_23, q6_23, q7_23, q8_23, q9_23, q10_23, q11_23, q12_23, hg_23⟩ := id (hDIs d_1 (by omega))
  have c_24 : E (1 + d_1) 0 = .inr (7, [.int (nI d_1), .int fd_23, .int nm_23, .ref (ad (1 + d_1) 1), .ref (ad (1 + d_1) 9), .ref (ad (1 + d_1) 10), .ref (ad (1 + d_1) 2), .ref (ad (1 + d_1) 11), .ref (ad (1 + d_1) 12), .ref (ad (1 + d_1) 3), .ref (ad (1 + d_1) 4), .int sd_23]) := q0_23
  have m_25 : (1 + d_1, 0) ∈ RL := hm_23 0 (by omega)
  have c_26 : E (1 + d_1) 1 = .inr (8, [.ref (ad (1 + d_1) 5), .int (nI k0_23)]) := q1_23
  have m_27 : (1 + d_1, 1) ∈ RL := hm_23 1 (by omega)
  have c_28 : E (1 + d_1) 2 = .inr (8, [.ref (ad (1 + d_1) 6), .int (nI k1_23)]) := q2_23
  have m_29 : (1 + d_1, 2) ∈ RL := hm_23 2 (by omega)
  have c_30 : E (1 + d_1) 3 = .inr (8, [.ref (ad (1 + d_1) 7), .int (nI k2_23)]) := q3_23
  have m_31 : (1 + d_1, 3) ∈ RL := hm_23 3 (by omega)
  have c_32 : E (1 + d_1) 4 = .inr (8, [.ref (ad (1 + d_1) 8), .int (nI k3_23)]) := q4_23
  have m_33 : (1 + d_1, 4) ∈ RL := hm_23 4 (by omega)
  have c_34 : E (1 + d_1) 5 = .inl (kA 0, 6, .inl f0_23) := q5_23
  have m_35 : (1 + d_1, 5) ∈ RL := hm_23 5 (by omega)
  have c_36 : E (1 + d_1) 6 = .inl (kA 0, 5, .inl f1_23) := q6_23
  have m_37 : (1 + d_1, 6) ∈ RL := hm_23 6 (by omega)
  have c_38 : E (1 + d_1) 7 = .inl (kA 0, 3, .inl f2_23) := q7_23
  have m_39 : (1 + d_1, 7) ∈ RL := hm_23 7 (by omega)
  have c_40 : E (1 + d_1) 8 = .inl (kA 0, 3, .inl f3_23) := q8_23
  have m_41 : (1 + d_1, 8) ∈ RL := hm_23 8 (by omega)
  have c_42 : E (1 + d_1) 9 = .inl (kA 8, 6, .inr (.inr (.inr (.inr fe_23)))) := q9_23
  have m_43 : (1 + d_1, 9) ∈ RL := hm_23 9 (by omega)
  have c_44 : E (1 + d_1) 10 = .inl (kA 8, 6, .inr (.inr (.inr (.inr fo_23)))) := q10_23
  have m_45 : (1 + d_1, 10) ∈ RL := hm_23 10 (by omega)
  have c_46 : E (1 + d_1) 11 = .inl (kA 2, 5, .inl tr_23) := q11_23
  have m_47 : (1 + d_1, 11) ∈ RL := hm_23 11 (by omega)
  have c_48 : E (1 + d_1) 12 = .inl (kA 2, 5, .inl op_23) := q12_23
  have m_49 : (1 + d_1, 12) ∈ RL := hm_23 12 (by omega)
  have hg_23 : ∀ w9, w9 < k0_23 → fe_23 w9 = some (ad (1 + d_1) (20 + 3 * w9)) ∧ fo_23 w9 = some (ad (1 + d_1) (38 + 3 * w9)) ∧ GI kA (ad (1 + d_1)) (E (1 + d_1)) (fun o => (1 + d_1, o) ∈ RL) (20 + 3 * w9) (21 + 3 * w9) (22 + 3 * w9) ∧ GI kA (ad (1 + d_1)) (E (1 + d_1)) (fun o => (1 + d_1, o) ∈ RL) (38 + 3 * w9) (39 + 3 * w9) (40 + 3 * w9) := hg_23
  refine px_get (D := D) (ci := 7) (v := .int (nI d_1)) (C := xR_Ds) (T := xT_Ds) (N := 12) hx hb hT xi_Ds hown hK.1 hP m_25 c_24 rfl 0 (by decide) (hT _ yn_14) (fun _ h9 => h9) rfl xd_Me_code_14 ?_
  refine lv_iadd hx hb xd_Me_code_17 ?_
  refine xn_top (y := nI ((16 * n) + d_1)) (nI_add (16 * n) d_1) ?_
  exact W.iret (v := (nI ((16 * n) + d_1))) hx hb hr (fun t ht hW => ⟨⟨(nI ((16 * n) + d_1)), (), rfl, trivial, by rw [ht]; exact hP, hD⟩, hS.F ht⟩) hS.2.2 xd_Me_code_18
set_option maxHeartbeats 4000000 in
set_option maxRecDepth 100000 in
theorem xc_Me_sourceOf (l : Launch) (D : va_G) (kA : Nat → ClassId) (sz : Nat) (ad : Nat → Nat → Nat) (E : Nat → Nat → va_E) (RL : List (Nat × Nat)) (nd : Nat) (nL : Nat) (n : Nat) (k : Nat) (pn : Int32) (hDIs : DIs kA ad E RL nd) (hLIs : LIs kA ad E RL nd nL) (hnL : nL ≤ 6) (hn : n < nL) (hME : MEI kA ad E RL nd n k) : Met l xy_Me_sourceOf (.code xy_Me_sourceOf xb_Me_sourceOf 5 (some (.object "LayerDesk$Member")) :: wT) { frames := 3, cells := 0, slots := 0, locals := 66 } (va_Pc [.ref (ad (20 + n) (10 + 10 * k)), .int pn] (xPre D kA sz (rp ad E RL))) (va_Qq (fun (r : Option Nat) (u : Unit) => r = none ∨ ∃ x kk, x ≤ n ∧ r = some (ad (20 + x) (10 + 10 * kk)) ∧ MEI kA ad E RL nd x kk) (fun (u : Unit) t => va_P D xcl (rp ad E RL) t.heap ∧ va_D (va_A (rp ad E RL) sz) (rp ad E RL)) (va_A (rp ad E RL) sz)) 0 0 (va_A (rp ad E RL) sz) := by
  refine Met.ofW (cc := xb_Me_sourceOf) (maxL := 5) (ret := (some (.object "LayerDesk$Member"))) (by decide) rfl ?_
  intro p e s m args below meth c s₁ B hml hv
  obtain ⟨rfl, hsz, hP, hK, hD0⟩ := hv
  have hx := B.exec
  have hb := B.bytes
  have hr := B.returns
  have hT := x_hT B.pre
  have hown : s.vm.findClass xR_Me = some m.cls := findClass_of_methodNamed B.named
  have hlocks := B.notSynchronized
  subst hsz
  have hD := hD0.self (sz := s.heap.size)
  generalize hAe : va_A (rp ad E RL) s.heap.size = A at hD ⊢
  have hA : ∀ q : Nat, s.heap.size ≤ q → A q := fun q h => by rw [← hAe]; exact Or.inr h
  have hS : va_S A s.heap s.heap [] := va_S.rf
  have hl := lv_entry ([.ref (ad (20 + n) (10 + 10 * k)), .int pn]) (n := 5) (Nat.le_of_ble_eq_true rfl)
  rw [lg_entry_eq]
  generalize (lg_sl ([.ref (ad (20 + n) (10 + 10 * k)), .int pn]) ++ List.replicate (5 - (lg_sl ([.ref (ad (20 + n) (10 + 10 * k)), .int pn])).length) Slot.unset).toArray = ls at hl ⊢
  have hl : lv_has ls 5 [(0, .ref (ad (20 + n) (10 + 10 * k))), (1, .int pn)] := hl
  have hP : va_P D xcl (rp ad E RL) s.heap := hP
  obtain ⟨hm_1, d_1, rs_1, fr_1, g2_1, g3_1, g4_1, hd_1, hrs_1, q0_1, q1_1, q2_1, q3_1, q4_1, q5_1, q6_1, q7_1⟩ := id hME
  have c_2 : E (20 + n) (10 + 10 * k) = .inr (6, [.ref (ad (20 + n) 0), .ref (ad (1 + d_1) 0), .ref (ad (20 + n) (11 + 10 * k)), .ref (ad (20 + n) (12 + 10 * k)), .ref (ad (20 + n) (13 + 10 * k)), .ref (ad (20 + n) (14 + 10 * k))]) := q0_1
  have m_3 : (20 + n, 10 + 10 * k) ∈ RL := hm_1 0 (by omega)
  have c_4 : E (20 + n) (11 + 10 * k) = .inl (kA 6, rs_1, .inr (.inr (.inr (.inr fr_1)))) := q1_1
  have m_5 : (20 + n, 11 + 10 * k) ∈ RL := hm_1 1 (by omega)
  have c_6 : E (20 + n) (12 + 10 * k) = .inr (10, [.ref (ad (20 + n) (15 + 10 * k))]) := q2_1
  have m_7 : (20 + n, 12 + 10 * k) ∈ RL := hm_1 2 (by omega)
  have c_8 : E (20 + n) (13 + 10 * k) = .inr (10, [.ref (ad (20 + n) (16 + 10 * k))]) := q3_1
  have m_9 : (20 + n, 13 + 10 * k) ∈ RL := hm_1 3 (by omega)
  have c_10 : E (20 + n) (14 + 10 * k) = .inr (10, [.ref (ad (20 + n) (17 + 10 * k))]) := q4_1
  have m_11 : (20 + n, 14 + 10 * k) ∈ RL := hm_1 4 (by omega)
  have c_12 : E (20 + n) (15 + 10 * k) = .inl (kA 0, 6, .inl g2_1) := q5_1
  have m_13 : (20 + n, 15 + 10 * k) ∈ RL := hm_1 5 (by omega)
  have c_14 : E (20 + n) (16 + 10 * k) = .inl (kA 0, 6, .inl g3_1) := q6_1
  have m_15 : (20 + n, 16 + 10 * k) ∈ RL := hm_1 6 (by omega)
  have c_16 : E (20 + n) (17 + 10 * k) = .inl (kA 0, 6, .inl g4_1) := q7_1
  have m_17 : (20 + n, 17 + 10 * k) ∈ RL := hm_1 7 (by omega)
  refine lv_aload_n hx hb xd_Me_sourceOf_0 rfl (lv_at hl 0 rfl) ?_
  refine px_get (D := D) (ci := 6) (v := .ref (ad (20 + n) 0)) (C := xR_Me) (T := xT_Me) (N := 6) hx hb hT xi_Me hown hK.1 hP m_3 c_2 rfl 0 (by decide) (hT _ yn_11) (fun _ h9 => h9) rfl xd_Me_sourceOf_1 ?_
  refine lv_astore_n hx hb xd_Me_sourceOf_4 rfl hl (Nat.le_of_ble_eq_true rfl) rfl (fun ls hl => ?_)
  have hl : lv_has ls 5 [(2, .ref (ad (20 + n) 0)), (0, .ref (ad (20 + n) (10 + 10 * k))), (1, .int pn)] := hl
  refine xlab (σ := Nat) (ml := 5) 5 (fun (y : Nat) => [(2, (lyv ad y)), (0, .ref (ad (20 + n) (10 + 10 * k))), (1, .int pn)]) (fun (y : Nat) => []) (fun (y : Nat) => rp ad E RL) (fun (y : Nat) => (y ≤ n + 1)) (fun (y : Nat) => y) ?_ (n + 1) _ _ _ (lv_sub hl [0, 1, 2] rfl) hP hD hS (show (n + 1) ≤ n + 1 from by first | assumption | omega)
  intro n9 ih18 a9 ls H locs hμ hl hP hD hS hI
  subst hμ
  obtain ⟨y, rfl⟩ : ∃ z, z = a9 := ⟨_, rfl⟩
  have hy : y ≤ n + 1 := hI
  have hl : lv_has ls 5 [(2, (lyv ad y)), (0, .ref (ad (20 + n) (10 + 10 * k))), (1, .int pn)] := hl
  have hP : va_P D xcl (rp ad E RL) H := hP
  have hD : va_D A (rp ad E RL) := hD
  rcases y with _ | y
  · have hl : lv_has ls 5 [(2, .null), (0, .ref (ad (20 + n) (10 + 10 * k))), (1, .int pn)] := hl
    refine lv_aload_nN hx hb xd_Me_sourceOf_5 rfl (lv_at hl 0 rfl) ?_
    refine lv_ifnullN (tgt := 76) hx hb xd_Me_sourceOf_6 (by decide) ?_
    refine lv_null hx hb xd_Me_sourceOf_76 ?_
    exact W.aret (v := .null) hx hb hr (Or.inl ⟨_, rfl⟩) (Or.inl rfl) (fun t ht hW => ⟨⟨none, (), rfl, Or.inl rfl, by rw [ht]; exact hP, hD⟩, hS.F ht⟩) hS.2.2 xd_Me_sourceOf_77
  · have hl : lv_has ls 5 [(2, .ref (ad (20 + y) 0)), (0, .ref (ad (20 + n) (10 + 10 * k))), (1, .int pn)] := hl
    refine lv_aload_n hx hb xd_Me_sourceOf_5 rfl (lv_at hl 0 rfl) ?_
    refine lv_ifnull hx hb xd_Me_sourceOf_6 ?_
    refine lv_iconst (v := 0) hx hb xd_Me_sourceOf_9 (by decide) ?_
    refine lv_istore_n hx hb xd_Me_sourceOf_10 rfl hl (Nat.le_of_ble_eq_true rfl) rfl (fun ls hl => ?_)
    have hl : lv_has ls 5 [(3, .int 0), (2, .ref (ad (20 + y) 0)), (0, .ref (ad (20 + n) (10 + 10 * k))), (1, .int pn)] := hl
    obtain ⟨m0_19, m1_19, pv_19, op_19, mk_19, fm_19, hmk_19, hpv_19, q0_19, q1_19, hk_19⟩ := id (hLIs y (by omega))
    have c_20 : E (20 + y) 0 = .inr (5, [.int (nI y), pv_19, .ref (ad (20 + y) 1), .int op_19]) := q0_19
    have m_21 : (20 + y, 0) ∈ RL := m0_19
    have c_22 : E (20 + y) 1 = .inl (kA 6, mk_19, .inr (.inr (.inr (.inr fm_19)))) := q1_19
    have m_23 : (20 + y, 1) ∈ RL := m1_19
    refine xlab (σ := Nat) (ml := 5) 11 (fun (k2 : Nat) => [(3, .int (nI k2)), (2, .ref (ad (20 + y) 0)), (0, .ref (ad (20 + n) (10 + 10 * k))), (1, .int pn)]) (fun (k2 : Nat) => []) (fun (k2 : Nat) => rp ad E RL) (fun (k2 : Nat) => (k2 ≤ mk_19)) (fun (k2 : Nat) => mk_19 - k2) ?_ 0 _ _ _ (lv_sub hl [0, 1, 2, 3] rfl) hP hD hS (show 0 ≤ mk_19 from by first | assumption | omega)
    intro n9 ih24 a9 ls H locs hμ hl hP hD hS hI
    subst hμ
    obtain ⟨k2, rfl⟩ : ∃ z, z = a9 := ⟨_, rfl⟩
    have hk2 : k2 ≤ mk_19 := hI
    have hl : lv_has ls 5 [(3, .int (nI k2)), (2, .ref (ad (20 + y) 0)), (0, .ref (ad (20 + n) (10 + 10 * k))), (1, .int pn)] := hl
    have hP : va_P D xcl (rp ad E RL) H := hP
    have hD : va_D A (rp ad E RL) := hD
    refine lv_iload_n hx hb xd_Me_sourceOf_11 rfl (lv_at hl 0 rfl) ?_
    refine lv_aload_n hx hb xd_Me_sourceOf_12 rfl (lv_at hl 1 rfl) ?_
    refine px_get (D := D) (ci := 5) (v := .ref (ad (20 + y) 1)) (C := xR_Ly) (T := xT_Ly) (N := 4) hx hb hT xi_Ly hown hK.1 hP m_21 c_20 rfl 2 (by decide) (hT _ yn_15) (fun _ h9 => h9) rfl xd_Me_sourceOf_13 ?_
    refine px_alen hx hb hK.1 hP m_23 c_22 6 rfl xd_Me_sourceOf_16 ?_
    refine W.eq (g2 := F0 m 17 ls [.int (nI mk_19), .int (nI k2)]) rfl ?_
    refine xn_ge (a := k2) (b := mk_19) (tgt := 68) hx hb xd_Me_sourceOf_17 (by decide) (by omega) (by omega) (fun hc25 => ?_) (fun hc25 => ?_)
    · refine lv_aload_n hx hb xd_Me_sourceOf_68 rfl (lv_at hl 1 rfl) ?_
      refine px_get (D := D) (ci := 5) (v := pv_19) (C := xR_Ly) (T := xT_Ly) (N := 4) hx hb hT xi_Ly hown hK.1 hP m_21 c_20 rfl 1 (by decide) (hT _ yn_16) (fun _ h9 => h9) rfl xd_Me_sourceOf_69 ?_
      rcases hpv_19 with rfl | ⟨x26, hx27, rfl⟩
      · refine W.eq (g2 := F0 m 72 ls [.null]) rfl ?_
        refine lv_astore_nN hx hb xd_Me_sourceOf_72 rfl hl (Nat.le_of_ble_eq_true rfl) rfl (fun ls hl => ?_)
        have hl : lv_has ls 5 [(2, .null), (3, .int (nI k2)), (0, .ref (ad (20 + n) (10 + 10 * k))), (1, .int pn)] := hl
        refine lv_goto (tgt := 5) hx hb xd_Me_sourceOf_73 (by decide) ?_
        exact ih18 0 _ _ _ (show 0 < y + 1 by omega) (lv_sub hl [0, 2, 3] rfl) hP hD hS (show 0 ≤ n + 1 from by first | assumption | omega)
      · refine W.eq (g2 := F0 m 72 ls [.ref (ad (20 + x26) 0)]) rfl ?_
        refine lv_astore_n hx hb xd_Me_sourceOf_72 rfl hl (Nat.le_of_ble_eq_true rfl) rfl (fun ls hl => ?_)
        have hl : lv_has ls 5 [(2, .ref (ad (20 + x26) 0)), (3, .int (nI k2)), (0, .ref (ad (20 + n) (10 + 10 * k))), (1, .int pn)] := hl
        refine lv_goto (tgt := 5) hx hb xd_Me_sourceOf_73 (by decide) ?_
        exact ih18 (x26 + 1) _ _ _ (show (x26 + 1) < y + 1 by omega) (lv_sub hl [0, 2, 3] rfl) hP hD hS (show (x26 + 1) ≤ n + 1 from by first | assumption | omega)
    · refine lv_aload_n hx hb xd_Me_sourceOf_20 rfl (lv_at hl 1 rfl) ?_
      refine px_get (D := D) (ci := 5) (v := .ref (ad (20 + y) 1)) (C := xR_Ly) (T := xT_Ly) (N := 4) hx hb hT xi_Ly hown hK.1 hP m_21 c_20 rfl 2 (by decide) (hT _ yn_15) (fun _ h9 => h9) rfl xd_Me_sourceOf_21 ?_
      refine lv_iload_n hx hb xd_Me_sourceOf_24 rfl (lv_at hl 0 rfl) ?_
      refine px_aald (i := k2) (x := (some (ad (20 + y) (10 + 10 * k2)))) hx hb hK.1 hP m_23 c_22 6 rfl ((hk_19 k2 (by omega)).1) (by omega) (by omega) xd_Me_sourceOf_25 ?_
      refine lv_astore hx hb xd_Me_sourceOf_26 hl (Nat.le_of_ble_eq_true rfl) rfl (fun ls hl => ?_)
      have hl : lv_has ls 5 [(4, .ref (ad (20 + y) (10 + 10 * k2))), (3, .int (nI k2)), (2, .ref (ad (20 + y) 0)), (0, .ref (ad (20 + n) (10 + 10 * k))), (1, .int pn)] := hl
      refine lv_aload_n hx hb xd_Me_sourceOf_28 rfl (lv_at hl 3 rfl) ?_
      refine px_get (D := D) (ci := 6) (v := .ref (ad (20 + n) (14 + 10 * k))) (C := xR_Me) (T := xT_Me) (N := 6) hx hb hT xi_Me hown hK.1 hP m_3 c_2 rfl 5 (by decide) (hT _ yn_17) (fun _ h9 => h9) rfl xd_Me_sourceOf_29 ?_
      refine lv_aload hx hb xd_Me_sourceOf_32 (lv_at hl 0 rfl) ?_
      obtain ⟨hm_28, d_28, rs_28, fr_28, g2_28, g3_28, g4_28, hd_28, hrs_28, q0_28, q1_28, q2_28, q3_28, q4_28, q5_28, q6_28, q7_28⟩ := (hk_19 k2 (by omega)).2
      have c_29 : E (20 + y) (10 + 10 * k2) = .inr (6, [.ref (ad (20 + y) 0), .ref (ad (1 + d_28) 0), .ref (ad (20 + y) (11 + 10 * k2)), .ref (ad (20 + y) (12 + 10 * k2)), .ref (ad (20 + y) (13 + 10 * k2)), .ref (ad (20 + y) (14 + 10 * k2))]) := q0_28
      have m_30 : (20 + y, 10 + 10 * k2) ∈ RL := hm_28 0 (by omega)
      have c_31 : E (20 + y) (11 + 10 * k2) = .inl (kA 6, rs_28, .inr (.inr (.inr (.inr fr_28)))) := q1_28
      have m_32 : (20 + y, 11 + 10 * k2) ∈ RL := hm_28 1 (by omega)
      have c_33 : E (20 + y) (12 + 10 * k2) = .inr (10, [.ref (ad (20 + y) (15 + 10 * k2))]) := q2_28
      have m_34 : (20 + y, 12 + 10 * k2) ∈ RL := hm_28 2 (by omega)
      have c_35 : E (20 + y) (13 + 10 * k2) = .inr (10, [.ref (ad (20 + y) (16 + 10 * k2))]) := q3_28
      have m_36 : (20 + y, 13 + 10 * k2) ∈ RL := hm_28 3 (by omega)
      have c_37 : E (20 + y) (14 + 10 * k2) = .inr (10, [.ref (ad (20 + y) (17 + 10 * k2))]) := q4_28
      have m_38 : (20 + y, 14 + 10 * k2) ∈ RL := hm_28 4 (by omega)
      have c_39 : E (20 + y) (15 + 10 * k2) = .inl (kA 0, 6, .inl g2_28) := q5_28
      have m_40 : (20 + y, 15 + 10 * k2) ∈ RL := hm_28 5 (by omega)
      have c_41 : E (20 + y) (16 + 10 * k2) = .inl (kA 0, 6, .inl g3_28) := q6_28
      have m_42 : (20 + y, 16 + 10 * k2) ∈ RL := hm_28 6 (by omega)
      have c_43 : E (20 + y) (17 + 10 * k2) = .inl (kA 0, 6, .inl g4_28) := q7_28
      have m_44 : (20 + y, 17 + 10 * k2) ∈ RL := hm_28 7 (by omega)
      obtain ⟨hm_45, fd_45, nm_45, sd_45, k0_45, k1_45, k2_45, k3_45, f0_45, f1_45, f2_45, f3_45, fe_45, fo_45, tr_45, op_45, hk0_45, hk1_45, hk2_45, hk3_45, q0_45, q1_45, q2_45, q3_45, q4_45, q5_45, q6_45, q7_45, q8_45, q9_45, q10_45, q11_45, q12_45, hg_45⟩ := id (hDIs d_28 (by omega))
      have c_46 : E (1 + d_28) 0 = .inr (7, [.int (nI d_28), .int fd_45, .int nm_45, .ref (ad (1 + d_28) 1), .ref (ad (1 + d_28) 9), .ref (ad (1 + d_28) 10), .ref (ad (1 + d_28) 2), .ref (ad (1 + d_28) 11), .ref (ad (1 + d_28) 12), .ref (ad (1 + d_28) 3), .ref (ad (1 + d_28) 4), .int sd_45]) := q0_45
      have m_47 : (1 + d_28, 0) ∈ RL := hm_45 0 (by omega)
      have c_48 : E (1 + d_28) 1 = .inr (8, [.ref (ad (1 + d_28) 5), .int (nI k0_45)]) := q1_45
      have m_49 : (1 + d_28, 1) ∈ RL := hm_45 1 (by omega)
      have c_50 : E (1 + d_28) 2 = .inr (8, [.ref (ad (1 + d_28) 6), .int (nI k1_45)]) := q2_45
      have m_51 : (1 + d_28, 2) ∈ RL := hm_45 2 (by omega)
      have c_52 : E (1 + d_28) 3 = .inr (8, [.ref (ad (1 + d_28) 7), .int (nI k2_45)]) := q3_45
      have m_53 : (1 + d_28, 3) ∈ RL := hm_45 3 (by omega)
      have c_54 : E (1 + d_28) 4 = .inr (8, [.ref (ad (1 + d_28) 8), .int (nI k3_45)]) := q4_45
      have m_55 : (1 + d_28, 4) ∈ RL := hm_45 4 (by omega)
      have c_56 : E (1 + d_28) 5 = .inl (kA 0, 6, .inl f0_45) := q5_45
      have m_57 : (1 + d_28, 5) ∈ RL := hm_45 5 (by omega)
      have c_58 : E (1 + d_28) 6 = .inl (kA 0, 5, .inl f1_45) := q6_45
      have m_59 : (1 + d_28, 6) ∈ RL := hm_45 6 (by omega)
      have c_60 : E (1 + d_28) 7 = .inl (kA 0, 3, .inl f2_45) := q7_45
      have m_61 : (1 + d_28, 7) ∈ RL := hm_45 7 (by omega)
      have c_62 : E (1 + d_28) 8 = .inl (kA 0, 3, .inl f3_45) := q8_45
      have m_63 : (1 + d_28, 8) ∈ RL := hm_45 8 (by omega)
      have c_64 : E (1 + d_28) 9 = .inl (kA 8, 6, .inr (.inr (.inr (.inr fe_45)))) := q9_45
      have m_65 : (1 + d_28, 9) ∈ RL := hm_45 9 (by omega)
      have c_66 : E (1 + d_28) 10 = .inl (kA 8, 6, .inr (.inr (.inr (.inr fo_45)))) := q10_45
      have m_67 : (1 + d_28, 10) ∈ RL := hm_45 10 (by omega)
      have c_68 : E (1 + d_28) 11 = .inl (kA 2, 5, .inl tr_45) := q11_45
      have m_69 : (1 + d_28, 11) ∈ RL := hm_45 11 (by omega)
      have c_70 : E (1 + d_28) 12 = .inl (kA 2, 5, .inl op_45) := q12_45
      have m_71 : (1 + d_28, 12) ∈ RL := hm_45 12 (by omega)
      have hg_45 : ∀ w9, w9 < k0_45 → fe_45 w9 = some (ad (1 + d_28) (20 + 3 * w9)) ∧ fo_45 w9 = some (ad (1 + d_28) (38 + 3 * w9)) ∧ GI kA (ad (1 + d_28)) (E (1 + d_28)) (fun o => (1 + d_28, o) ∈ RL) (20 + 3 * w9) (21 + 3 * w9) (22 + 3 * w9) ∧ GI kA (ad (1 + d_28)) (E (1 + d_28)) (fun o => (1 + d_28, o) ∈ RL) (38 + 3 * w9) (39 + 3 * w9) (40 + 3 * w9) := hg_45
      have hFc := px_free hD hS hA
      refine va_calli (va_runV (As := [.ref (ad (20 + y) (10 + 10 * k2))]) (rest := []) ⟨hx, hb, hml, hown, hT⟩ (xc_Re_marks l D kA H.size ad E RL (20 + n) (14 + 10 * k) (17 + 10 * k) g4_1 y k2 d_28 pv_19 op_19 fd_45 nm_45 sd_45 m_11 c_10 m_17 c_16 m_30 c_29 m_21 c_20 m_47 c_46 (by first | assumption | omega)) (cwV 1 hT (wT_V yn_19 yn_20 yn_21 yn_22 yn_18) rfl rfl rfl (by decide +kernel) ⟨Nat.le_of_ble_eq_true rfl, Nat.le_of_ble_eq_true rfl⟩) (px_preV hK hP hD m_11 c_10 rfl) rfl rfl hl.1 rfl (lv_room (Nat.le_of_ble_eq_true rfl)) xd_Me_sourceOf_34 ⟨(Nat.le_of_ble_eq_true rfl), (Nat.le_of_ble_eq_true rfl)⟩) hS (fun q _ h => hFc q h) hFc (fun r72 u73 t H1 locs ht hvm hp74 hB hz1 hk1 hS => ?_)
      obtain ⟨hP1, hD1⟩ := hB
      rw [ht] at hP1
      have hD1 := hD1.weaken (fun _ _ _ h => hFc _ h)
      generalize H1 = H at hP1 hS ⊢
      have hP := hP1
      have hD := hD1
      have hP : va_P D xcl (rp ad E RL) H := hP
      have hD : va_D A (rp ad E RL) := hD
      rcases hp74 with ⟨rfl, z75⟩ | ⟨rfl, z76⟩
      · refine W.eq (g2 := F0 m 37 ls [.int 1]) rfl ?_
        refine lv_if_eq (tgt := 62) hx hb xd_Me_sourceOf_37 (by decide) (fun hc77 => absurd hc77 (by decide)) (fun _ => ?_)
        refine lv_aload hx hb xd_Me_sourceOf_40 (lv_at hl 0 rfl) ?_
        refine px_get (D := D) (ci := 6) (v := .ref (ad (1 + d_28) 0)) (C := xR_Me) (T := xT_Me) (N := 6) hx hb hT xi_Me hown hK.1 hP m_30 c_29 rfl 1 (by decide) (hT _ yn_13) (fun _ h9 => h9) rfl xd_Me_sourceOf_42 ?_
        refine lv_iload_n hx hb xd_Me_sourceOf_45 rfl (lv_at hl 4 rfl) ?_
        refine lv_aload_n hx hb xd_Me_sourceOf_46 rfl (lv_at hl 3 rfl) ?_
        refine px_get (D := D) (ci := 6) (v := .ref (ad (1 + d_1) 0)) (C := xR_Me) (T := xT_Me) (N := 6) hx hb hT xi_Me hown hK.1 hP m_3 c_2 rfl 1 (by decide) (hT _ yn_13) (fun _ h9 => h9) rfl xd_Me_sourceOf_47 ?_
        obtain ⟨hm_78, fd_78, nm_78, sd_78, k0_78, k1_78, k2_78, k3_78, f0_78, f1_78, f2_78, f3_78, fe_78, fo_78, tr_78, op_78, hk0_78, hk1_78, hk2_78, hk3_78, q0_78, q1_78, q2_78, q3_78, q4_78, q5_78, q6_78, q7_78, q8_78, q9_78, q10_78, q11_78, q12_78, hg_78⟩ := id (hDIs d_1 (by omega))
        have c_79 : E (1 + d_1) 0 = .inr (7, [.int (nI d_1), .int fd_78, .int nm_78, .ref (ad (1 + d_1) 1), .ref (ad (1 + d_1) 9), .ref (ad (1 + d_1) 10), .ref (ad (1 + d_1) 2), .ref (ad (1 + d_1) 11), .ref (ad (1 + d_1) 12), .ref (ad (1 + d_1) 3), .ref (ad (1 + d_1) 4), .int sd_78]) := q0_78
        have m_80 : (1 + d_1, 0) ∈ RL := hm_78 0 (by omega)
        have c_81 : E (1 + d_1) 1 = .inr (8, [.ref (ad (1 + d_1) 5), .int (nI k0_78)]) := q1_78
        have m_82 : (1 + d_1, 1) ∈ RL := hm_78 1 (by omega)
        have c_83 : E (1 + d_1) 2 = .inr (8, [.ref (ad (1 + d_1) 6), .int (nI k1_78)]) := q2_78
        have m_84 : (1 + d_1, 2) ∈ RL := hm_78 2 (by omega)
        have c_85 : E (1 + d_1) 3 = .inr (8, [.ref (ad (1 + d_1) 7), .int (nI k2_78)]) := q3_78
        have m_86 : (1 + d_1, 3) ∈ RL := hm_78 3 (by omega)
        have c_87 : E (1 + d_1) 4 = .inr (8, [.ref (ad (1 + d_1) 8), .int (nI k3_78)]) := q4_78
        have m_88 : (1 + d_1, 4) ∈ RL := hm_78 4 (by omega)
        have c_89 : E (1 + d_1) 5 = .inl (kA 0, 6, .inl f0_78) := q5_78
        have m_90 : (1 + d_1, 5) ∈ RL := hm_78 5 (by omega)
        have c_91 : E (1 + d_1) 6 = .inl (kA 0, 5, .inl f1_78) := q6_78
        have m_92 : (1 + d_1, 6) ∈ RL := hm_78 6 (by omega)
        have c_93 : E (1 + d_1) 7 = .inl (kA 0, 3, .inl f2_78) := q7_78
        have m_94 : (1 + d_1, 7) ∈ RL := hm_78 7 (by omega)
        have c_95 : E (1 + d_1) 8 = .inl (kA 0, 3, .inl f3_78) := q8_78
        have m_96 : (1 + d_1, 8) ∈ RL := hm_78 8 (by omega)
        have c_97 : E (1 + d_1) 9 = .inl (kA 8, 6, .inr (.inr (.inr (.inr fe_78)))) := q9_78
        have m_98 : (1 + d_1, 9) ∈ RL := hm_78 9 (by omega)
        have c_99 : E (1 + d_1) 10 = .inl (kA 8, 6, .inr (.inr (.inr (.inr fo_78)))) := q10_78
        have m_100 : (1 + d_1, 10) ∈ RL := hm_78 10 (by omega)
        have c_101 : E (1 + d_1) 11 = .inl (kA 2, 5, .inl tr_78) := q11_78
        have m_102 : (1 + d_1, 11) ∈ RL := hm_78 11 (by omega)
        have c_103 : E (1 + d_1) 12 = .inl (kA 2, 5, .inl op_78) := q12_78
        have m_104 : (1 + d_1, 12) ∈ RL := hm_78 12 (by omega)
        have hg_78 : ∀ w9, w9 < k0_78 → fe_78 w9 = some (ad (1 + d_1) (20 + 3 * w9)) ∧ fo_78 w9 = some (ad (1 + d_1) (38 + 3 * w9)) ∧ GI kA (ad (1 + d_1)) (E (1 + d_1)) (fun o => (1 + d_1, o) ∈ RL) (20 + 3 * w9) (21 + 3 * w9) (22 + 3 * w9) ∧ GI kA (ad (1 + d_1)) (E (1 + d_1)) (fun o => (1 + d_1, o) ∈ RL) (38 + 3 * w9) (39 + 3 * w9) (40 + 3 * w9) := hg_78
        refine px_get (D := D) (ci := 7) (v := .int nm_78) (C := xR_Ds) (T := xT_Ds) (N := 12) hx hb hT xi_Ds hown hK.1 hP m_80 c_79 rfl 2 (by decide) (hT _ yn_23) (fun _ h9 => h9) rfl xd_Me_sourceOf_50 ?_
        have hFc := px_free hD hS hA
        refine va_calli (va_runV (As := [.int pn, .int nm_78]) (rest := []) ⟨hx, hb, hml, hown, hT⟩ (xc_Ds_exportsTo l D kA H.size ad E RL nd d_28 pn nm_78 (by first | assumption | omega) (by first | assumption | omega)) (cwV 2 hT (wT_V yn_25 yn_26 yn_27 yn_28 yn_24) rfl rfl rfl (by decide +kernel) ⟨Nat.le_of_ble_eq_true rfl, Nat.le_of_ble_eq_true rfl⟩) (px_preV hK hP hD m_47 c_46 rfl) rfl rfl hl.1 rfl (lv_room (Nat.le_of_ble_eq_true rfl)) xd_Me_sourceOf_53 ⟨(Nat.le_of_ble_eq_true rfl), (Nat.le_of_ble_eq_true rfl)⟩) hS (fun q _ h => hFc q h) hFc (fun r105 u106 t H1 locs ht hvm hp107 hB hz1 hk1 hS => ?_)
        obtain ⟨hP1, hD1⟩ := hB
        rw [ht] at hP1
        have hD1 := hD1.weaken (fun _ _ _ h => hFc _ h)
        generalize H1 = H at hP1 hS ⊢
        have hP := hP1
        have hD := hD1
        have hP : va_P D xcl (rp ad E RL) H := hP
        have hD : va_D A (rp ad E RL) := hD
        rcases hp107 with rfl | rfl
        · refine W.eq (g2 := F0 m 56 ls [.int 0]) rfl ?_
          refine lv_if_eq (tgt := 62) hx hb xd_Me_sourceOf_56 (by decide) (fun _ => ?_) (fun hc108 => absurd (by decide) hc108)
          refine lv_iinc (k := 1) (x := (nI k2)) (v := (nI (k2 + 1))) hx hb xd_Me_sourceOf_62 hl rfl (xb_inc k2 1) (Nat.le_of_ble_eq_true rfl) rfl (fun ls hl => ?_)
          have hl : lv_has ls 5 [(3, .int (nI (k2 + 1))), (4, .ref (ad (20 + y) (10 + 10 * k2))), (2, .ref (ad (20 + y) 0)), (0, .ref (ad (20 + n) (10 + 10 * k))), (1, .int pn)] := hl
          refine lv_goto (tgt := 11) hx hb xd_Me_sourceOf_65 (by decide) ?_
          exact ih24 (k2 + 1) _ _ _ (show mk_19 - (k2 + 1) < mk_19 - k2 by omega) (lv_sub hl [0, 2, 3, 4] rfl) hP hD hS (show (k2 + 1) ≤ mk_19 from by first | assumption | omega)
        · refine W.eq (g2 := F0 m 56 ls [.int 1]) rfl ?_
          refine lv_if_eq (tgt := 62) hx hb xd_Me_sourceOf_56 (by decide) (fun hc109 => absurd hc109 (by decide)) (fun _ => ?_)
          refine lv_aload hx hb xd_Me_sourceOf_59 (lv_at hl 0 rfl) ?_
          exact W.aret (v := .ref (ad (20 + y) (10 + 10 * k2))) hx hb hr (Or.inl ⟨_, rfl⟩) (Or.inr ⟨_, rfl⟩) (fun t ht hW => ⟨⟨(some (ad (20 + y) (10 + 10 * k2))), (), rfl, Or.inr ⟨y, k2, by omega, rfl, (hk_19 k2 (by omega)).2⟩, by rw [ht]; exact hP, hD⟩, hS.F ht⟩) hS.2.2 xd_Me_sourceOf_61
      · refine W.eq (g2 := F0 m 37 ls [.int 0]) rfl ?_
        refine lv_if_eq (tgt := 62) hx hb xd_Me_sourceOf_37 (by decide) (fun _ => ?_) (fun hc110 => absurd (by decide) hc110)
        refine lv_iinc (k := 1) (x := (nI k2)) (v := (nI (k2 + 1))) hx hb xd_Me_sourceOf_62 hl rfl (xb_inc k2 1) (Nat.le_of_ble_eq_true rfl) rfl (fun ls hl => ?_)
        have hl : lv_has ls 5 [(3, .int (nI (k2 + 1))), (4, .ref (ad (20 + y) (10 + 10 * k2))), (2, .ref (ad (20 + y) 0)), (0, .ref (ad (20 + n) (10 + 10 * k))), (1, .int pn)] := hl
        refine lv_goto (tgt := 11) hx hb xd_Me_sourceOf_65 (by decide) ?_
        exact ih24 (k2 + 1) _ _ _ (show mk_19 - (k2 + 1) < mk_19 - k2 by omega) (lv_sub hl [0, 2, 3, 4] rfl) hP hD hS (show (k2 + 1) ≤ mk_19 from by first | assumption | omega)
set_option maxHeartbeats 4000000 in
set_option maxRecDepth 100000 in
theorem xc_Me_isSplitBy (l : Launch) (D : va_G) (kA : Nat → ClassId) (sz : Nat) (ad : Nat → Nat → Nat) (E : Nat → Nat → va_E) (RL : List (Nat × Nat)) (nd : Nat) (nL : Nat) (n : Nat) (k : Nat) (n2 : Nat) (k2 : Nat) (hDIs : DIs kA ad E RL nd) (hLIs : LIs kA ad E RL nd nL) (hnL : nL ≤ 6) (hn : n < nL) (hME : MEI kA ad E RL nd n k) (hn2 : n2 < nL) (hME2 : MEI kA ad E RL nd n2 k2) : Met l xy_Me_isSplitBy (.code xy_Me_isSplitBy xb_Me_isSplitBy 5 (some .boolean) :: wT) { frames := 4, cells := 0, slots := 0, locals := 90 } (va_Pc [.ref (ad (20 + n) (10 + 10 * k)), .ref (ad (20 + n2) (10 + 10 * k2))] (xPre D kA sz (rp ad E RL))) (va_Qi (fun (r : Int32) (u : Unit) => r = 0 ∨ r = 1) (fun (u : Unit) t => va_P D xcl (rp ad E RL) t.heap ∧ va_D (va_A (rp ad E RL) sz) (rp ad E RL)) (va_A (rp ad E RL) sz)) 0 0 (va_A (rp ad E RL) sz) := by
  refine Met.ofW (cc := xb_Me_isSplitBy) (maxL := 5) (ret := (some .boolean)) (by decide) rfl ?_
  intro p e s m args below meth c s₁ B hml hv
  obtain ⟨rfl, hsz, hP, hK, hD0⟩ := hv
  have hx := B.exec
  have hb := B.bytes
  have hr := B.returns
  have hT := x_hT B.pre
  have hown : s.vm.findClass xR_Me = some m.cls := findClass_of_methodNamed B.named
  have hlocks := B.notSynchronized
  subst hsz
  have hD := hD0.self (sz := s.heap.size)
  generalize hAe : va_A (rp ad E RL) s.heap.size = A at hD ⊢
  have hA : ∀ q : Nat, s.heap.size ≤ q → A q := fun q h => by rw [← hAe]; exact Or.inr h
  have hS : va_S A s.heap s.heap [] := va_S.rf
  have hl := lv_entry ([.ref (ad (20 + n) (10 + 10 * k)), .ref (ad (20 + n2) (10 + 10 * k2))]) (n := 5) (Nat.le_of_ble_eq_true rfl)
  rw [lg_entry_eq]
  generalize (lg_sl ([.ref (ad (20 + n) (10 + 10 * k)), .ref (ad (20 + n2) (10 + 10 * k2))]) ++ List.replicate (5 - (lg_sl ([.ref (ad (20 + n) (10 + 10 * k)), .ref (ad (20 + n2) (10 + 10 * k2))])).length) Slot.unset).toArray = ls at hl ⊢
  have hl : lv_has ls 5 [(0, .ref (ad (20 + n) (10 + 10 * k))), (1, .ref (ad (20 + n2) (10 + 10 * k2)))] := hl
  have hP : va_P D xcl (rp ad E RL) s.heap := hP
  refine lv_aload_n hx hb xd_Me_isSplitBy_0 rfl (lv_at hl 0 rfl) ?_
  obtain ⟨hm_1, d_1, rs_1, fr_1, g2_1, g3_1, g4_1, hd_1, hrs_1, q0_1, q1_1, q2_1, q3_1, q4_1, q5_1, q6_1, q7_1⟩ := id hME
  have c_2 : E (20 + n) (10 + 10 * k) = .inr (6, [.ref (ad (20 + n) 0), .ref (ad (1 + d_1) 0), .ref (ad (20 + n) (11 + 10 * k)), .ref (ad (20 + n) (12 + 10 * k)), .ref (ad (20 + n) (13 + 10 * k)), .ref (ad (20 + n) (14 + 10 * k))]) := q0_1
  have m_3 : (20 + n, 10 + 10 * k) ∈ RL := hm_1 0 (by omega)
  have c_4 : E (20 + n) (11 + 10 * k) = .inl (kA 6, rs_1, .inr (.inr (.inr (.inr fr_1)))) := q1_1
  have m_5 : (20 + n, 11 + 10 * k) ∈ RL := hm_1 1 (by omega)
  have c_6 : E (20 + n) (12 + 10 * k) = .inr (10, [.ref (ad (20 + n) (15 + 10 * k))]) := q2_1
  have m_7 : (20 + n, 12 + 10 * k) ∈ RL := hm_1 2 (by omega)
  have c_8 : E (20 + n) (13 + 10 * k) = .inr (10, [.ref (ad (20 + n) (16 + 10 * k))]) := q3_1
  have m_9 : (20 + n, 13 + 10 * k) ∈ RL := hm_1 3 (by omega)
  have c_10 : E (20 + n) (14 + 10 * k) = .inr (10, [.ref (ad (20 + n) (17 + 10 * k))]) := q4_1
  have m_11 : (20 + n, 14 + 10 * k) ∈ RL := hm_1 4 (by omega)
  have c_12 : E (20 + n) (15 + 10 * k) = .inl (kA 0, 6, .inl g2_1) := q5_1
  have m_13 : (20 + n, 15 + 10 * k) ∈ RL := hm_1 5 (by omega)
  have c_14 : E (20 + n) (16 + 10 * k) = .inl (kA 0, 6, .inl g3_1) := q6_1
  have m_15 : (20 + n, 16 + 10 * k) ∈ RL := hm_1 6 (by omega)
  have c_16 : E (20 + n) (17 + 10 * k) = .inl (kA 0, 6, .inl g4_1) := q7_1
  have m_17 : (20 + n, 17 + 10 * k) ∈ RL := hm_1 7 (by omega)
  refine px_get (D := D) (ci := 6) (v := .ref (ad (20 + n) (14 + 10 * k))) (C := xR_Me) (T := xT_Me) (N := 6) hx hb hT xi_Me hown hK.1 hP m_3 c_2 rfl 5 (by decide) (hT _ yn_17) (fun _ h9 => h9) rfl xd_Me_isSplitBy_1 ?_
  refine lv_aload_n hx hb xd_Me_isSplitBy_4 rfl (lv_at hl 1 rfl) ?_
  obtain ⟨hm_18, d_18, rs_18, fr_18, g2_18, g3_18, g4_18, hd_18, hrs_18, q0_18, q1_18, q2_18, q3_18, q4_18, q5_18, q6_18, q7_18⟩ := id hME2
  have c_19 : E (20 + n2) (10 + 10 * k2) = .inr (6, [.ref (ad (20 + n2) 0), .ref (ad (1 + d_18) 0), .ref (ad (20 + n2) (11 + 10 * k2)), .ref (ad (20 + n2) (12 + 10 * k2)), .ref (ad (20 + n2) (13 + 10 * k2)), .ref (ad (20 + n2) (14 + 10 * k2))]) := q0_18
  have m_20 : (20 + n2, 10 + 10 * k2) ∈ RL := hm_18 0 (by omega)
  have c_21 : E (20 + n2) (11 + 10 * k2) = .inl (kA 6, rs_18, .inr (.inr (.inr (.inr fr_18)))) := q1_18
  have m_22 : (20 + n2, 11 + 10 * k2) ∈ RL := hm_18 1 (by omega)
  have c_23 : E (20 + n2) (12 + 10 * k2) = .inr (10, [.ref (ad (20 + n2) (15 + 10 * k2))]) := q2_18
  have m_24 : (20 + n2, 12 + 10 * k2) ∈ RL := hm_18 2 (by omega)
  have c_25 : E (20 + n2) (13 + 10 * k2) = .inr (10, [.ref (ad (20 + n2) (16 + 10 * k2))]) := q3_18
  have m_26 : (20 + n2, 13 + 10 * k2) ∈ RL := hm_18 3 (by omega)
  have c_27 : E (20 + n2) (14 + 10 * k2) = .inr (10, [.ref (ad (20 + n2) (17 + 10 * k2))]) := q4_18
  have m_28 : (20 + n2, 14 + 10 * k2) ∈ RL := hm_18 4 (by omega)
  have c_29 : E (20 + n2) (15 + 10 * k2) = .inl (kA 0, 6, .inl g2_18) := q5_18
  have m_30 : (20 + n2, 15 + 10 * k2) ∈ RL := hm_18 5 (by omega)
  have c_31 : E (20 + n2) (16 + 10 * k2) = .inl (kA 0, 6, .inl g3_18) := q6_18
  have m_32 : (20 + n2, 16 + 10 * k2) ∈ RL := hm_18 6 (by omega)
  have c_33 : E (20 + n2) (17 + 10 * k2) = .inl (kA 0, 6, .inl g4_18) := q7_18
  have m_34 : (20 + n2, 17 + 10 * k2) ∈ RL := hm_18 7 (by omega)
  obtain ⟨m0_35, m1_35, pv_35, op_35, mk_35, fm_35, hmk_35, hpv_35, q0_35, q1_35, hk_35⟩ := id (hLIs n2 (by omega))
  have c_36 : E (20 + n2) 0 = .inr (5, [.int (nI n2), pv_35, .ref (ad (20 + n2) 1), .int op_35]) := q0_35
  have m_37 : (20 + n2, 0) ∈ RL := m0_35
  have c_38 : E (20 + n2) 1 = .inl (kA 6, mk_35, .inr (.inr (.inr (.inr fm_35)))) := q1_35
  have m_39 : (20 + n2, 1) ∈ RL := m1_35
  obtain ⟨hm_40, fd_40, nm_40, sd_40, k0_40, k1_40, k2_40, k3_40, f0_40, f1_40, f2_40, f3_40, fe_40, fo_40, tr_40, op_40, hk0_40, hk1_40, hk2_40, hk3_40, q0_40, q1_40, q2_40, q3_40, q4_40, q5_40, q6_40, q7_40, q8_40, q9_40, q10_40, q11_40, q12_40, hg_40⟩ := id (hDIs d_18 (by omega))
  have c_41 : E (1 + d_18) 0 = .inr (7, [.int (nI d_18), .int fd_40, .int nm_40, .ref (ad (1 + d_18) 1), .ref (ad (1 + d_18) 9), .ref (ad (1 + d_18) 10), .ref (ad (1 + d_18) 2), .ref (ad (1 + d_18) 11), .ref (ad (1 + d_18) 12), .ref (ad (1 + d_18) 3), .ref (ad (1 + d_18) 4), .int sd_40]) := q0_40
  have m_42 : (1 + d_18, 0) ∈ RL := hm_40 0 (by omega)
  have c_43 : E (1 + d_18) 1 = .inr (8, [.ref (ad (1 + d_18) 5), .int (nI k0_40)]) := q1_40
  have m_44 : (1 + d_18, 1) ∈ RL := hm_40 1 (by omega)
  have c_45 : E (1 + d_18) 2 = .inr (8, [.ref (ad (1 + d_18) 6), .int (nI k1_40)]) := q2_40
  have m_46 : (1 + d_18, 2) ∈ RL := hm_40 2 (by omega)
  have c_47 : E (1 + d_18) 3 = .inr (8, [.ref (ad (1 + d_18) 7), .int (nI k2_40)]) := q3_40
  have m_48 : (1 + d_18, 3) ∈ RL := hm_40 3 (by omega)
  have c_49 : E (1 + d_18) 4 = .inr (8, [.ref (ad (1 + d_18) 8), .int (nI k3_40)]) := q4_40
  have m_50 : (1 + d_18, 4) ∈ RL := hm_40 4 (by omega)
  have c_51 : E (1 + d_18) 5 = .inl (kA 0, 6, .inl f0_40) := q5_40
  have m_52 : (1 + d_18, 5) ∈ RL := hm_40 5 (by omega)
  have c_53 : E (1 + d_18) 6 = .inl (kA 0, 5, .inl f1_40) := q6_40
  have m_54 : (1 + d_18, 6) ∈ RL := hm_40 6 (by omega)
  have c_55 : E (1 + d_18) 7 = .inl (kA 0, 3, .inl f2_40) := q7_40
  have m_56 : (1 + d_18, 7) ∈ RL := hm_40 7 (by omega)
  have c_57 : E (1 + d_18) 8 = .inl (kA 0, 3, .inl f3_40) := q8_40
  have m_58 : (1 + d_18, 8) ∈ RL := hm_40 8 (by omega)
  have c_59 : E (1 + d_18) 9 = .inl (kA 8, 6, .inr (.inr (.inr (.inr fe_40)))) := q9_40
  have m_60 : (1 + d_18, 9) ∈ RL := hm_40 9 (by omega)
  have c_61 : E (1 + d_18) 10 = .inl (kA 8, 6, .inr (.inr (.inr (.inr fo_40)))) := q10_40
  have m_62 : (1 + d_18, 10) ∈ RL := hm_40 10 (by omega)
  have c_63 : E (1 + d_18) 11 = .inl (kA 2, 5, .inl tr_40) := q11_40
  have m_64 : (1 + d_18, 11) ∈ RL := hm_40 11 (by omega)
  have c_65 : E (1 + d_18) 12 = .inl (kA 2, 5, .inl op_40) := q12_40
  have m_66 : (1 + d_18, 12) ∈ RL := hm_40 12 (by omega)
  have hg_40 : ∀ w9, w9 < k0_40 → fe_40 w9 = some (ad (1 + d_18) (20 + 3 * w9)) ∧ fo_40 w9 = some (ad (1 + d_18) (38 + 3 * w9)) ∧ GI kA (ad (1 + d_18)) (E (1 + d_18)) (fun o => (1 + d_18, o) ∈ RL) (20 + 3 * w9) (21 + 3 * w9) (22 + 3 * w9) ∧ GI kA (ad (1 + d_18)) (E (1 + d_18)) (fun o => (1 + d_18, o) ∈ RL) (38 + 3 * w9) (39 + 3 * w9) (40 + 3 * w9) := hg_40
  have hFc := px_free hD hS hA
  refine va_calli (va_runV (As := [.ref (ad (20 + n2) (10 + 10 * k2))]) (rest := []) ⟨hx, hb, hml, hown, hT⟩ (xc_Re_marks l D kA s.heap.size ad E RL (20 + n) (14 + 10 * k) (17 + 10 * k) g4_1 n2 k2 d_18 pv_35 op_35 fd_40 nm_40 sd_40 m_11 c_10 m_17 c_16 m_20 c_19 m_37 c_36 m_42 c_41 (by first | assumption | omega)) (cwV 1 hT (wT_V yn_19 yn_20 yn_21 yn_22 yn_18) rfl rfl rfl (by decide +kernel) ⟨Nat.le_of_ble_eq_true rfl, Nat.le_of_ble_eq_true rfl⟩) (px_preV hK hP hD m_11 c_10 rfl) rfl rfl hl.1 rfl (lv_room (Nat.le_of_ble_eq_true rfl)) xd_Me_isSplitBy_5 ⟨(Nat.le_of_ble_eq_true rfl), (Nat.le_of_ble_eq_true rfl)⟩) hS (fun q _ h => hFc q h) hFc (fun r67 u68 t H1 locs ht hvm hp69 hB hz1 hk1 hS => ?_)
  obtain ⟨hP1, hD1⟩ := hB
  rw [ht] at hP1
  have hD1 := hD1.weaken (fun _ _ _ h => hFc _ h)
  generalize H1 = H at hP1 hS ⊢
  have hP := hP1
  have hD := hD1
  have hP : va_P D xcl (rp ad E RL) H := hP
  have hD : va_D A (rp ad E RL) := hD
  rcases hp69 with ⟨rfl, z70⟩ | ⟨rfl, z71⟩
  · refine W.eq (g2 := F0 m 8 ls [.int 1]) rfl ?_
    refine lv_if_ne (tgt := 13) hx hb xd_Me_isSplitBy_8 (by decide) (fun _ => ?_) (fun hc72 => absurd hc72 (by decide))
    refine lv_aload_n hx hb xd_Me_isSplitBy_13 rfl (lv_at hl 1 rfl) ?_
    refine px_get (D := D) (ci := 6) (v := .ref (ad (1 + d_18) 0)) (C := xR_Me) (T := xT_Me) (N := 6) hx hb hT xi_Me hown hK.1 hP m_20 c_19 rfl 1 (by decide) (hT _ yn_13) (fun _ h9 => h9) rfl xd_Me_isSplitBy_14 ?_
    refine px_get (D := D) (ci := 7) (v := .ref (ad (1 + d_18) 1)) (C := xR_Ds) (T := xT_Ds) (N := 12) hx hb hT xi_Ds hown hK.1 hP m_42 c_41 rfl 3 (by decide) (hT _ yn_29) (fun _ h9 => h9) rfl xd_Me_isSplitBy_17 ?_
    refine lv_astore_n hx hb xd_Me_isSplitBy_20 rfl hl (Nat.le_of_ble_eq_true rfl) rfl (fun ls hl => ?_)
    have hl : lv_has ls 5 [(2, .ref (ad (1 + d_18) 1)), (0, .ref (ad (20 + n) (10 + 10 * k))), (1, .ref (ad (20 + n2) (10 + 10 * k2)))] := hl
    refine lv_iconst (v := 0) hx hb xd_Me_isSplitBy_21 (by decide) ?_
    refine lv_istore_n hx hb xd_Me_isSplitBy_22 rfl hl (Nat.le_of_ble_eq_true rfl) rfl (fun ls hl => ?_)
    have hl : lv_has ls 5 [(3, .int 0), (2, .ref (ad (1 + d_18) 1)), (0, .ref (ad (20 + n) (10 + 10 * k))), (1, .ref (ad (20 + n2) (10 + 10 * k2)))] := hl
    refine xlab (σ := Nat) (ml := 5) 23 (fun (i : Nat) => [(3, .int (nI i)), (2, .ref (ad (1 + d_18) 1)), (1, .ref (ad (20 + n2) (10 + 10 * k2))), (0, .ref (ad (20 + n) (10 + 10 * k)))]) (fun (i : Nat) => []) (fun (i : Nat) => rp ad E RL) (fun (i : Nat) => (i ≤ k0_40)) (fun (i : Nat) => k0_40 - i) ?_ 0 _ _ _ (lv_sub hl [0, 1, 3, 2] rfl) hP hD hS (show 0 ≤ k0_40 from by first | assumption | omega)
    intro n9 ih73 a9 ls H locs hμ hl hP hD hS hI
    subst hμ
    obtain ⟨i, rfl⟩ : ∃ z, z = a9 := ⟨_, rfl⟩
    have hi : i ≤ k0_40 := hI
    have hl : lv_has ls 5 [(3, .int (nI i)), (2, .ref (ad (1 + d_18) 1)), (1, .ref (ad (20 + n2) (10 + 10 * k2))), (0, .ref (ad (20 + n) (10 + 10 * k)))] := hl
    have hP : va_P D xcl (rp ad E RL) H := hP
    have hD : va_D A (rp ad E RL) := hD
    refine lv_iload_n hx hb xd_Me_isSplitBy_23 rfl (lv_at hl 0 rfl) ?_
    refine lv_aload_n hx hb xd_Me_isSplitBy_24 rfl (lv_at hl 1 rfl) ?_
    refine px_get (D := D) (ci := 8) (v := .int (nI k0_40)) (C := xR_Na) (T := xT_Na) (N := 2) hx hb hT xi_Na hown hK.1 hP m_44 c_43 rfl 1 (by decide) (hT _ yn_30) (fun _ h9 => h9) rfl xd_Me_isSplitBy_25 ?_
    refine xn_ge (a := i) (b := k0_40) (tgt := 90) hx hb xd_Me_isSplitBy_28 (by decide) (by omega) (by omega) (fun hc74 => ?_) (fun hc74 => ?_)
    · refine lv_iconst (v := 0) hx hb xd_Me_isSplitBy_90 (by decide) ?_
      exact W.zret (v := 0) hx hb hr rfl (fun t ht hW => ⟨⟨0, (), rfl, Or.inl rfl, by rw [ht]; exact hP, hD⟩, hS.F ht⟩) hS.2.2 xd_Me_isSplitBy_91
    · refine lv_aload_n hx hb xd_Me_isSplitBy_31 rfl (lv_at hl 1 rfl) ?_
      refine lv_iload_n hx hb xd_Me_isSplitBy_32 rfl (lv_at hl 0 rfl) ?_
      have hFc := px_free hD hS hA
      refine va_calli (va_runV (As := [.int (nI i)]) (rest := []) ⟨hx, hb, hml, hown, hT⟩ (xc_Na_at l D kA H.size ad E RL (1 + d_18) 1 5 6 k0_40 f0_40 i m_44 c_43 m_52 c_51 (by first | assumption | omega) (by first | assumption | omega) (by first | assumption | omega)) (cwV 1 hT (wT_V yn_32 yn_33 yn_34 yn_10 yn_31) rfl rfl rfl (by decide +kernel) ⟨Nat.le_of_ble_eq_true rfl, Nat.le_of_ble_eq_true rfl⟩) (px_preV hK hP hD m_44 c_43 rfl) rfl rfl hl.1 rfl (lv_room (Nat.le_of_ble_eq_true rfl)) xd_Me_isSplitBy_33 ⟨(Nat.le_of_ble_eq_true rfl), (Nat.le_of_ble_eq_true rfl)⟩) hS (fun q _ h => hFc q h) hFc (fun r75 u76 t H1 locs ht hvm hp77 hB hz1 hk1 hS => ?_)
      obtain ⟨hP1, hD1⟩ := hB
      rw [ht] at hP1
      have hD1 := hD1.weaken (fun _ _ _ h => hFc _ h)
      generalize H1 = H at hP1 hS ⊢
      have hP := hP1
      have hD := hD1
      have hP : va_P D xcl (rp ad E RL) H := hP
      have hD : va_D A (rp ad E RL) := hD
      refine lv_istore hx hb xd_Me_isSplitBy_36 hl (Nat.le_of_ble_eq_true rfl) rfl (fun ls hl => ?_)
      have hl : lv_has ls 5 [(4, .int r75), (3, .int (nI i)), (2, .ref (ad (1 + d_18) 1)), (1, .ref (ad (20 + n2) (10 + 10 * k2))), (0, .ref (ad (20 + n) (10 + 10 * k)))] := hl
      refine lv_aload_n hx hb xd_Me_isSplitBy_38 rfl (lv_at hl 3 rfl) ?_
      refine px_get (D := D) (ci := 6) (v := .ref (ad (1 + d_18) 0)) (C := xR_Me) (T := xT_Me) (N := 6) hx hb hT xi_Me hown hK.1 hP m_20 c_19 rfl 1 (by decide) (hT _ yn_13) (fun _ h9 => h9) rfl xd_Me_isSplitBy_39 ?_
      refine lv_iload hx hb xd_Me_isSplitBy_42 (lv_at hl 0 rfl) ?_
      refine lv_aload_n hx hb xd_Me_isSplitBy_44 rfl (lv_at hl 4 rfl) ?_
      refine px_get (D := D) (ci := 6) (v := .ref (ad (1 + d_1) 0)) (C := xR_Me) (T := xT_Me) (N := 6) hx hb hT xi_Me hown hK.1 hP m_3 c_2 rfl 1 (by decide) (hT _ yn_13) (fun _ h9 => h9) rfl xd_Me_isSplitBy_45 ?_
      obtain ⟨hm_78, fd_78, nm_78, sd_78, k0_78, k1_78, k2_78, k3_78, f0_78, f1_78, f2_78, f3_78, fe_78, fo_78, tr_78, op_78, hk0_78, hk1_78, hk2_78, hk3_78, q0_78, q1_78, q2_78, q3_78, q4_78, q5_78, q6_78, q7_78, q8_78, q9_78, q10_78, q11_78, q12_78, hg_78⟩ := id (hDIs d_1 (by omega))
      have c_79 : E (1 + d_1) 0 = .inr (7, [.int (nI d_1), .int fd_78, .int nm_78, .ref (ad (1 + d_1) 1), .ref (ad (1 + d_1) 9), .ref (ad (1 + d_1) 10), .ref (ad (1 + d_1) 2), .ref (ad (1 + d_1) 11), .ref (ad (1 + d_1) 12), .ref (ad (1 + d_1) 3), .ref (ad (1 + d_1) 4), .int sd_78]) := q0_78
      have m_80 : (1 + d_1, 0) ∈ RL := hm_78 0 (by omega)
      have c_81 : E (1 + d_1) 1 = .inr (8, [.ref (ad (1 + d_1) 5), .int (nI k0_78)]) := q1_78
      have m_82 : (1 + d_1, 1) ∈ RL := hm_78 1 (by omega)
      have c_83 : E (1 + d_1) 2 = .inr (8, [.ref (ad (1 + d_1) 6), .int (nI k1_78)]) := q2_78
      have m_84 : (1 + d_1, 2) ∈ RL := hm_78 2 (by omega)
      have c_85 : E (1 + d_1) 3 = .inr (8, [.ref (ad (1 + d_1) 7), .int (nI k2_78)]) := q3_78
      have m_86 : (1 + d_1, 3) ∈ RL := hm_78 3 (by omega)
      have c_87 : E (1 + d_1) 4 = .inr (8, [.ref (ad (1 + d_1) 8), .int (nI k3_78)]) := q4_78
      have m_88 : (1 + d_1, 4) ∈ RL := hm_78 4 (by omega)
      have c_89 : E (1 + d_1) 5 = .inl (kA 0, 6, .inl f0_78) := q5_78
      have m_90 : (1 + d_1, 5) ∈ RL := hm_78 5 (by omega)
      have c_91 : E (1 + d_1) 6 = .inl (kA 0, 5, .inl f1_78) := q6_78
      have m_92 : (1 + d_1, 6) ∈ RL := hm_78 6 (by omega)
      have c_93 : E (1 + d_1) 7 = .inl (kA 0, 3, .inl f2_78) := q7_78
      have m_94 : (1 + d_1, 7) ∈ RL := hm_78 7 (by omega)
      have c_95 : E (1 + d_1) 8 = .inl (kA 0, 3, .inl f3_78) := q8_78
      have m_96 : (1 + d_1, 8) ∈ RL := hm_78 8 (by omega)
      have c_97 : E (1 + d_1) 9 = .inl (kA 8, 6, .inr (.inr (.inr (.inr fe_78)))) := q9_78
      have m_98 : (1 + d_1, 9) ∈ RL := hm_78 9 (by omega)
      have c_99 : E (1 + d_1) 10 = .inl (kA 8, 6, .inr (.inr (.inr (.inr fo_78)))) := q10_78
      have m_100 : (1 + d_1, 10) ∈ RL := hm_78 10 (by omega)
      have c_101 : E (1 + d_1) 11 = .inl (kA 2, 5, .inl tr_78) := q11_78
      have m_102 : (1 + d_1, 11) ∈ RL := hm_78 11 (by omega)
      have c_103 : E (1 + d_1) 12 = .inl (kA 2, 5, .inl op_78) := q12_78
      have m_104 : (1 + d_1, 12) ∈ RL := hm_78 12 (by omega)
      have hg_78 : ∀ w9, w9 < k0_78 → fe_78 w9 = some (ad (1 + d_1) (20 + 3 * w9)) ∧ fo_78 w9 = some (ad (1 + d_1) (38 + 3 * w9)) ∧ GI kA (ad (1 + d_1)) (E (1 + d_1)) (fun o => (1 + d_1, o) ∈ RL) (20 + 3 * w9) (21 + 3 * w9) (22 + 3 * w9) ∧ GI kA (ad (1 + d_1)) (E (1 + d_1)) (fun o => (1 + d_1, o) ∈ RL) (38 + 3 * w9) (39 + 3 * w9) (40 + 3 * w9) := hg_78
      refine px_get (D := D) (ci := 7) (v := .int nm_78) (C := xR_Ds) (T := xT_Ds) (N := 12) hx hb hT xi_Ds hown hK.1 hP m_80 c_79 rfl 2 (by decide) (hT _ yn_23) (fun _ h9 => h9) rfl xd_Me_isSplitBy_48 ?_
      have hFc := px_free hD hS hA
      refine va_calli (va_runV (As := [.int r75, .int nm_78]) (rest := []) ⟨hx, hb, hml, hown, hT⟩ (xc_Ds_exportsTo l D kA H.size ad E RL nd d_18 r75 nm_78 (by first | assumption | omega) (by first | assumption | omega)) (cwV 2 hT (wT_V yn_25 yn_26 yn_27 yn_28 yn_24) rfl rfl rfl (by decide +kernel) ⟨Nat.le_of_ble_eq_true rfl, Nat.le_of_ble_eq_true rfl⟩) (px_preV hK hP hD m_42 c_41 rfl) rfl rfl hl.1 rfl (lv_room (Nat.le_of_ble_eq_true rfl)) xd_Me_isSplitBy_51 ⟨(Nat.le_of_ble_eq_true rfl), (Nat.le_of_ble_eq_true rfl)⟩) hS (fun q _ h => hFc q h) hFc (fun r105 u106 t H1 locs ht hvm hp107 hB hz1 hk1 hS => ?_)
      obtain ⟨hP1, hD1⟩ := hB
      rw [ht] at hP1
      have hD1 := hD1.weaken (fun _ _ _ h => hFc _ h)
      generalize H1 = H at hP1 hS ⊢
      have hP := hP1
      have hD := hD1
      have hP : va_P D xcl (rp ad E RL) H := hP
      have hD : va_D A (rp ad E RL) := hD
      rcases hp107 with rfl | rfl
      · refine W.eq (g2 := F0 m 54 ls [.int 0]) rfl ?_
        refine lv_if_eq (tgt := 84) hx hb xd_Me_isSplitBy_54 (by decide) (fun _ => ?_) (fun hc108 => absurd (by decide) hc108)
        refine lv_iinc (k := 1) (x := (nI i)) (v := (nI (i + 1))) hx hb xd_Me_isSplitBy_84 hl rfl (xb_inc i 1) (Nat.le_of_ble_eq_true rfl) rfl (fun ls hl => ?_)
        have hl : lv_has ls 5 [(3, .int (nI (i + 1))), (4, .int r75), (2, .ref (ad (1 + d_18) 1)), (1, .ref (ad (20 + n2) (10 + 10 * k2))), (0, .ref (ad (20 + n) (10 + 10 * k)))] := hl
        refine lv_goto (tgt := 23) hx hb xd_Me_isSplitBy_87 (by decide) ?_
        exact ih73 (i + 1) _ _ _ (show k0_40 - (i + 1) < k0_40 - i by omega) (lv_sub hl [0, 2, 3, 4] rfl) hP hD hS (show (i + 1) ≤ k0_40 from by first | assumption | omega)
      · refine W.eq (g2 := F0 m 54 ls [.int 1]) rfl ?_
        refine lv_if_eq (tgt := 84) hx hb xd_Me_isSplitBy_54 (by decide) (fun hc109 => absurd hc109 (by decide)) (fun _ => ?_)
        refine lv_aload_n hx hb xd_Me_isSplitBy_57 rfl (lv_at hl 4 rfl) ?_
        refine px_get (D := D) (ci := 6) (v := .ref (ad (1 + d_1) 0)) (C := xR_Me) (T := xT_Me) (N := 6) hx hb hT xi_Me hown hK.1 hP m_3 c_2 rfl 1 (by decide) (hT _ yn_13) (fun _ h9 => h9) rfl xd_Me_isSplitBy_58 ?_
        refine px_get (D := D) (ci := 7) (v := .ref (ad (1 + d_1) 1)) (C := xR_Ds) (T := xT_Ds) (N := 12) hx hb hT xi_Ds hown hK.1 hP m_80 c_79 rfl 3 (by decide) (hT _ yn_29) (fun _ h9 => h9) rfl xd_Me_isSplitBy_61 ?_
        refine lv_iload hx hb xd_Me_isSplitBy_64 (lv_at hl 0 rfl) ?_
        have hFc := px_free hD hS hA
        refine va_calli (va_runV (As := [.int r75]) (rest := []) ⟨hx, hb, hml, hown, hT⟩ (xc_Na_holds l D kA H.size ad E RL (1 + d_1) 1 5 6 k0_78 f0_78 r75 m_82 c_81 m_90 c_89 (by first | assumption | omega) (by first | assumption | omega)) (cwV 1 hT (wT_V yn_35 yn_8 yn_9 yn_10 yn_6) rfl rfl rfl (by decide +kernel) ⟨Nat.le_of_ble_eq_true rfl, Nat.le_of_ble_eq_true rfl⟩) (px_preV hK hP hD m_82 c_81 rfl) rfl rfl hl.1 rfl (lv_room (Nat.le_of_ble_eq_true rfl)) xd_Me_isSplitBy_66 ⟨(Nat.le_of_ble_eq_true rfl), (Nat.le_of_ble_eq_true rfl)⟩) hS (fun q _ h => hFc q h) hFc (fun r110 u111 t H1 locs ht hvm hp112 hB hz1 hk1 hS => ?_)
        obtain ⟨hP1, hD1⟩ := hB
        rw [ht] at hP1
        have hD1 := hD1.weaken (fun _ _ _ h => hFc _ h)
        generalize H1 = H at hP1 hS ⊢
        have hP := hP1
        have hD := hD1
        have hP : va_P D xcl (rp ad E RL) H := hP
        have hD : va_D A (rp ad E RL) := hD
        rcases hp112 with ⟨rfl, z113, z114, z115⟩ | ⟨rfl, z116⟩
        · refine W.eq (g2 := F0 m 69 ls [.int 1]) rfl ?_
          refine lv_if_ne (tgt := 82) hx hb xd_Me_isSplitBy_69 (by decide) (fun _ => ?_) (fun hc117 => absurd hc117 (by decide))
          refine lv_iconst (v := 1) hx hb xd_Me_isSplitBy_82 (by decide) ?_
          exact W.zret (v := 1) hx hb hr rfl (fun t ht hW => ⟨⟨1, (), rfl, Or.inr rfl, by rw [ht]; exact hP, hD⟩, hS.F ht⟩) hS.2.2 xd_Me_isSplitBy_83
        · refine W.eq (g2 := F0 m 69 ls [.int 0]) rfl ?_
          refine lv_if_ne (tgt := 82) hx hb xd_Me_isSplitBy_69 (by decide) (fun hc118 => absurd (by decide) hc118) (fun _ => ?_)
          refine lv_aload_n hx hb xd_Me_isSplitBy_72 rfl (lv_at hl 4 rfl) ?_
          refine lv_iload hx hb xd_Me_isSplitBy_73 (lv_at hl 0 rfl) ?_
          have hFc := px_free hD hS hA
          refine va_callq (va_runV (As := [.int r75]) (rest := []) ⟨hx, hb, hml, hown, hT⟩ (xc_Me_sourceOf l D kA H.size ad E RL nd nL n k r75 (by first | assumption | omega) (by first | assumption | omega) (by first | assumption | omega) (by first | assumption | omega) (by first | assumption | omega)) (cwV 1 hT (wT_V yn_37 yn_38 yn_39 yn_40 yn_36) rfl rfl rfl (by decide +kernel) ⟨Nat.le_of_ble_eq_true rfl, Nat.le_of_ble_eq_true rfl⟩) (px_preV hK hP hD m_3 c_2 rfl) rfl rfl hl.1 rfl (lv_room (Nat.le_of_ble_eq_true rfl)) xd_Me_isSplitBy_75 ⟨(Nat.le_of_ble_eq_true rfl), (Nat.le_of_ble_eq_true rfl)⟩) hS (fun q _ h => hFc q h) hFc (fun r119 u120 t H1 locs ht hvm hp121 hB hz1 hk1 hS => ?_)
          obtain ⟨hP1, hD1⟩ := hB
          rw [ht] at hP1
          have hD1 := hD1.weaken (fun _ _ _ h => hFc _ h)
          generalize H1 = H at hP1 hS ⊢
          have hP := hP1
          have hD := hD1
          have hP : va_P D xcl (rp ad E RL) H := hP
          have hD : va_D A (rp ad E RL) := hD
          refine lv_aload_n hx hb xd_Me_isSplitBy_78 rfl (lv_at hl 3 rfl) ?_
          refine lv_acmp_eq (rx := r119) (ry := (some (ad (20 + n2) (10 + 10 * k2)))) (tgt := 84) hx hb xd_Me_isSplitBy_79 (by decide) (fun hc122 => ?_) (fun hc122 => ?_)
          · refine lv_iinc (k := 1) (x := (nI i)) (v := (nI (i + 1))) hx hb xd_Me_isSplitBy_84 hl rfl (xb_inc i 1) (Nat.le_of_ble_eq_true rfl) rfl (fun ls hl => ?_)
            have hl : lv_has ls 5 [(3, .int (nI (i + 1))), (4, .int r75), (2, .ref (ad (1 + d_18) 1)), (1, .ref (ad (20 + n2) (10 + 10 * k2))), (0, .ref (ad (20 + n) (10 + 10 * k)))] := hl
            refine lv_goto (tgt := 23) hx hb xd_Me_isSplitBy_87 (by decide) ?_
            exact ih73 (i + 1) _ _ _ (show k0_40 - (i + 1) < k0_40 - i by omega) (lv_sub hl [0, 2, 3, 4] rfl) hP hD hS (show (i + 1) ≤ k0_40 from by first | assumption | omega)
          · refine lv_iconst (v := 1) hx hb xd_Me_isSplitBy_82 (by decide) ?_
            exact W.zret (v := 1) hx hb hr rfl (fun t ht hW => ⟨⟨1, (), rfl, Or.inr rfl, by rw [ht]; exact hP, hD⟩, hS.F ht⟩) hS.2.2 xd_Me_isSplitBy_83
  · refine W.eq (g2 := F0 m 8 ls [.int 0]) rfl ?_
    refine lv_if_ne (tgt := 13) hx hb xd_Me_isSplitBy_8 (by decide) (fun hc123 => absurd (by decide) hc123) (fun _ => ?_)
    refine lv_iconst (v := 0) hx hb xd_Me_isSplitBy_11 (by decide) ?_
    exact W.zret (v := 0) hx hb hr rfl (fun t ht hW => ⟨⟨0, (), rfl, Or.inl rfl, by rw [ht]; exact hP, hD⟩, hS.F ht⟩) hS.2.2 xd_Me_isSplitBy_12
set_option maxHeartbeats 4000000 in
set_option maxRecDepth 100000 in
theorem xc_Ly_hasCycle (l : Launch) (D : va_G) (kA : Nat → ClassId) (sz : Nat) (ad : Nat → Nat → Nat) (E : Nat → Nat → va_E) (RL : List (Nat × Nat)) (nd : Nat) (nL : Nat) (n : Nat) (hDIs : DIs kA ad E RL nd) (hLIs : LIs kA ad E RL nd nL) (hnL : nL ≤ 6) (hn : n < nL) : Met l xy_Ly_hasCycle (.code xy_Ly_hasCycle xb_Ly_hasCycle 2 (some .boolean) :: wT) { frames := 1, cells := 0, slots := 0, locals := 21 } (va_Pc [.ref (ad (20 + n) 0)] (xPre D kA sz (rp ad E RL))) (va_Qi (fun (r : Int32) (u : Unit) => r = 0 ∨ r = 1) (fun (u : Unit) t => va_P D xcl (rp ad E RL) t.heap ∧ va_D (va_A (rp ad E RL) sz) (rp ad E RL)) (va_A (rp ad E RL) sz)) 0 0 (va_A (rp ad E RL) sz) := by
  refine Met.ofW (cc := xb_Ly_hasCycle) (maxL := 2) (ret := (some .boolean)) (by decide) rfl ?_
  intro p e s m args below meth c s₁ B hml hv
  obtain ⟨rfl, hsz, hP, hK, hD0⟩ := hv
  have hx := B.exec
  have hb := B.bytes
  have hr := B.returns
  have hT := x_hT B.pre
  have hown : s.vm.findClass xR_Ly = some m.cls := findClass_of_methodNamed B.named
  have hlocks := B.notSynchronized
  subst hsz
  have hD := hD0.self (sz := s.heap.size)
  generalize hAe : va_A (rp ad E RL) s.heap.size = A at hD ⊢
  have hA : ∀ q : Nat, s.heap.size ≤ q → A q := fun q h => by rw [← hAe]; exact Or.inr h
  have hS : va_S A s.heap s.heap [] := va_S.rf
  have hl := lv_entry ([.ref (ad (20 + n) 0)]) (n := 2) (Nat.le_of_ble_eq_true rfl)
  rw [lg_entry_eq]
  generalize (lg_sl ([.ref (ad (20 + n) 0)]) ++ List.replicate (2 - (lg_sl ([.ref (ad (20 + n) 0)])).length) Slot.unset).toArray = ls at hl ⊢
  have hl : lv_has ls 2 [(0, .ref (ad (20 + n) 0))] := hl
  have hP : va_P D xcl (rp ad E RL) s.heap := hP
  refine lv_iconst (v := 0) hx hb xd_Ly_hasCycle_0 (by decide) ?_
  refine lv_istore_n hx hb xd_Ly_hasCycle_1 rfl hl (Nat.le_of_ble_eq_true rfl) rfl (fun ls hl => ?_)
  have hl : lv_has ls 2 [(1, .int 0), (0, .ref (ad (20 + n) 0))] := hl
  obtain ⟨m0_1, m1_1, pv_1, op_1, mk_1, fm_1, hmk_1, hpv_1, q0_1, q1_1, hk_1⟩ := id (hLIs n (by omega))
  have c_2 : E (20 + n) 0 = .inr (5, [.int (nI n), pv_1, .ref (ad (20 + n) 1), .int op_1]) := q0_1
  have m_3 : (20 + n, 0) ∈ RL := m0_1
  have c_4 : E (20 + n) 1 = .inl (kA 6, mk_1, .inr (.inr (.inr (.inr fm_1)))) := q1_1
  have m_5 : (20 + n, 1) ∈ RL := m1_1
  refine xlab (σ := Nat) (ml := 2) 2 (fun (k : Nat) => [(1, .int (nI k)), (0, .ref (ad (20 + n) 0))]) (fun (k : Nat) => []) (fun (k : Nat) => rp ad E RL) (fun (k : Nat) => (k ≤ mk_1)) (fun (k : Nat) => mk_1 - k) ?_ 0 _ _ _ (lv_sub hl [0, 1] rfl) hP hD hS (show 0 ≤ mk_1 from by first | assumption | omega)
  intro n9 ih6 a9 ls H locs hμ hl hP hD hS hI
  subst hμ
  obtain ⟨k, rfl⟩ : ∃ z, z = a9 := ⟨_, rfl⟩
  have hk : k ≤ mk_1 := hI
  have hl : lv_has ls 2 [(1, .int (nI k)), (0, .ref (ad (20 + n) 0))] := hl
  have hP : va_P D xcl (rp ad E RL) H := hP
  have hD : va_D A (rp ad E RL) := hD
  refine lv_iload_n hx hb xd_Ly_hasCycle_2 rfl (lv_at hl 0 rfl) ?_
  refine lv_aload_n hx hb xd_Ly_hasCycle_3 rfl (lv_at hl 1 rfl) ?_
  refine px_get (D := D) (ci := 5) (v := .ref (ad (20 + n) 1)) (C := xR_Ly) (T := xT_Ly) (N := 4) hx hb hT xi_Ly hown hK.1 hP m_3 c_2 rfl 2 (by decide) (hT _ yn_0) (fun _ h9 => h9) rfl xd_Ly_hasCycle_4 ?_
  refine px_alen hx hb hK.1 hP m_5 c_4 6 rfl xd_Ly_hasCycle_7 ?_
  refine W.eq (g2 := F0 m 8 ls [.int (nI mk_1), .int (nI k)]) rfl ?_
  refine xn_ge (a := k) (b := mk_1) (tgt := 40) hx hb xd_Ly_hasCycle_8 (by decide) (by omega) (by omega) (fun hc7 => ?_) (fun hc7 => ?_)
  · refine lv_iconst (v := 0) hx hb xd_Ly_hasCycle_40 (by decide) ?_
    exact W.zret (v := 0) hx hb hr rfl (fun t ht hW => ⟨⟨0, (), rfl, Or.inl rfl, by rw [ht]; exact hP, hD⟩, hS.F ht⟩) hS.2.2 xd_Ly_hasCycle_41
  · refine lv_aload_n hx hb xd_Ly_hasCycle_11 rfl (lv_at hl 1 rfl) ?_
    refine px_get (D := D) (ci := 5) (v := .ref (ad (20 + n) 1)) (C := xR_Ly) (T := xT_Ly) (N := 4) hx hb hT xi_Ly hown hK.1 hP m_3 c_2 rfl 2 (by decide) (hT _ yn_0) (fun _ h9 => h9) rfl xd_Ly_hasCycle_12 ?_
    refine lv_iload_n hx hb xd_Ly_hasCycle_15 rfl (lv_at hl 0 rfl) ?_
    refine px_aald (i := k) (x := (some (ad (20 + n) (10 + 10 * k)))) hx hb hK.1 hP m_5 c_4 6 rfl ((hk_1 k (by omega)).1) (by omega) (by omega) xd_Ly_hasCycle_16 ?_
    obtain ⟨hm_8, d_8, rs_8, fr_8, g2_8, g3_8, g4_8, hd_8, hrs_8, q0_8, q1_8, q2_8, q3_8, q4_8, q5_8, q6_8, q7_8⟩ := (hk_1 k (by omega)).2
    have c_9 : E (20 + n) (10 + 10 * k) = .inr (6, [.ref (ad (20 + n) 0), .ref (ad (1 + d_8) 0), .ref (ad (20 + n) (11 + 10 * k)), .ref (ad (20 + n) (12 + 10 * k)), .ref (ad (20 + n) (13 + 10 * k)), .ref (ad (20 + n) (14 + 10 * k))]) := q0_8
    have m_10 : (20 + n, 10 + 10 * k) ∈ RL := hm_8 0 (by omega)
    have c_11 : E (20 + n) (11 + 10 * k) = .inl (kA 6, rs_8, .inr (.inr (.inr (.inr fr_8)))) := q1_8
    have m_12 : (20 + n, 11 + 10 * k) ∈ RL := hm_8 1 (by omega)
    have c_13 : E (20 + n) (12 + 10 * k) = .inr (10, [.ref (ad (20 + n) (15 + 10 * k))]) := q2_8
    have m_14 : (20 + n, 12 + 10 * k) ∈ RL := hm_8 2 (by omega)
    have c_15 : E (20 + n) (13 + 10 * k) = .inr (10, [.ref (ad (20 + n) (16 + 10 * k))]) := q3_8
    have m_16 : (20 + n, 13 + 10 * k) ∈ RL := hm_8 3 (by omega)
    have c_17 : E (20 + n) (14 + 10 * k) = .inr (10, [.ref (ad (20 + n) (17 + 10 * k))]) := q4_8
    have m_18 : (20 + n, 14 + 10 * k) ∈ RL := hm_8 4 (by omega)
    have c_19 : E (20 + n) (15 + 10 * k) = .inl (kA 0, 6, .inl g2_8) := q5_8
    have m_20 : (20 + n, 15 + 10 * k) ∈ RL := hm_8 5 (by omega)
    have c_21 : E (20 + n) (16 + 10 * k) = .inl (kA 0, 6, .inl g3_8) := q6_8
    have m_22 : (20 + n, 16 + 10 * k) ∈ RL := hm_8 6 (by omega)
    have c_23 : E (20 + n) (17 + 10 * k) = .inl (kA 0, 6, .inl g4_8) := q7_8
    have m_24 : (20 + n, 17 + 10 * k) ∈ RL := hm_8 7 (by omega)
    refine px_get (D := D) (ci := 6) (v := .ref (ad (20 + n) (12 + 10 * k))) (C := xR_Me) (T := xT_Me) (N := 6) hx hb hT xi_Me hown hK.1 hP m_10 c_9 rfl 3 (by decide) (hT _ yn_41) (fun _ h9 => h9) rfl xd_Ly_hasCycle_17 ?_
    refine lv_aload_n hx hb xd_Ly_hasCycle_20 rfl (lv_at hl 1 rfl) ?_
    refine px_get (D := D) (ci := 5) (v := .ref (ad (20 + n) 1)) (C := xR_Ly) (T := xT_Ly) (N := 4) hx hb hT xi_Ly hown hK.1 hP m_3 c_2 rfl 2 (by decide) (hT _ yn_0) (fun _ h9 => h9) rfl xd_Ly_hasCycle_21 ?_
    refine lv_iload_n hx hb xd_Ly_hasCycle_24 rfl (lv_at hl 0 rfl) ?_
    refine px_aald (i := k) (x := (some (ad (20 + n) (10 + 10 * k)))) hx hb hK.1 hP m_5 c_4 6 rfl ((hk_1 k (by omega)).1) (by omega) (by omega) xd_Ly_hasCycle_25 ?_
    obtain ⟨hm_25, fd_25, nm_25, sd_25, k0_25, k1_25, k2_25, k3_25, f0_25, f1_25, f2_25, f3_25, fe_25, fo_25, tr_25, op_25, hk0_25, hk1_25, hk2_25, hk3_25, q0_25, q1_25, q2_25, q3_25, q4_25, q5_25, q6_25, q7_25, q8_25, q9_25, q10_25, q11_25, q12_25, hg_25⟩ := id (hDIs d_8 (by omega))
    have c_26 : E (1 + d_8) 0 = .inr (7, [.int (nI d_8), .int fd_25, .int nm_25, .ref (ad (1 + d_8) 1), .ref (ad (1 + d_8) 9), .ref (ad (1 + d_8) 10), .ref (ad (1 + d_8) 2), .ref (ad (1 + d_8) 11), .ref (ad (1 + d_8) 12), .ref (ad (1 + d_8) 3), .ref (ad (1 + d_8) 4), .int sd_25]) := q0_25
    have m_27 : (1 + d_8, 0) ∈ RL := hm_25 0 (by omega)
    have c_28 : E (1 + d_8) 1 = .inr (8, [.ref (ad (1 + d_8) 5), .int (nI k0_25)]) := q1_25
    have m_29 : (1 + d_8, 1) ∈ RL := hm_25 1 (by omega)
    have c_30 : E (1 + d_8) 2 = .inr (8, [.ref (ad (1 + d_8) 6), .int (nI k1_25)]) := q2_25
    have m_31 : (1 + d_8, 2) ∈ RL := hm_25 2 (by omega)
    have c_32 : E (1 + d_8) 3 = .inr (8, [.ref (ad (1 + d_8) 7), .int (nI k2_25)]) := q3_25
    have m_33 : (1 + d_8, 3) ∈ RL := hm_25 3 (by omega)
    have c_34 : E (1 + d_8) 4 = .inr (8, [.ref (ad (1 + d_8) 8), .int (nI k3_25)]) := q4_25
    have m_35 : (1 + d_8, 4) ∈ RL := hm_25 4 (by omega)
    have c_36 : E (1 + d_8) 5 = .inl (kA 0, 6, .inl f0_25) := q5_25
    have m_37 : (1 + d_8, 5) ∈ RL := hm_25 5 (by omega)
    have c_38 : E (1 + d_8) 6 = .inl (kA 0, 5, .inl f1_25) := q6_25
    have m_39 : (1 + d_8, 6) ∈ RL := hm_25 6 (by omega)
    have c_40 : E (1 + d_8) 7 = .inl (kA 0, 3, .inl f2_25) := q7_25
    have m_41 : (1 + d_8, 7) ∈ RL := hm_25 7 (by omega)
    have c_42 : E (1 + d_8) 8 = .inl (kA 0, 3, .inl f3_25) := q8_25
    have m_43 : (1 + d_8, 8) ∈ RL := hm_25 8 (by omega)
    have c_44 : E (1 + d_8) 9 = .inl (kA 8, 6, .inr (.inr (.inr (.inr fe_25)))) := q9_25
    have m_45 : (1 + d_8, 9) ∈ RL := hm_25 9 (by omega)
    have c_46 : E (1 + d_8) 10 = .inl (kA 8, 6, .inr (.inr (.inr (.inr fo_25)))) := q10_25
    have m_47 : (1 + d_8, 10) ∈ RL := hm_25 10 (by omega)
    have c_48 : E (1 + d_8) 11 = .inl (kA 2, 5, .inl tr_25) := q11_25
    have m_49 : (1 + d_8, 11) ∈ RL := hm_25 11 (by omega)
    have c_50 : E (1 + d_8) 12 = .inl (kA 2, 5, .inl op_25) := q12_25
    have m_51 : (1 + d_8, 12) ∈ RL := hm_25 12 (by omega)
    have hg_25 : ∀ w9, w9 < k0_25 → fe_25 w9 = some (ad (1 + d_8) (20 + 3 * w9)) ∧ fo_25 w9 = some (ad (1 + d_8) (38 + 3 * w9)) ∧ GI kA (ad (1 + d_8)) (E (1 + d_8)) (fun o => (1 + d_8, o) ∈ RL) (20 + 3 * w9) (21 + 3 * w9) (22 + 3 * w9) ∧ GI kA (ad (1 + d_8)) (E (1 + d_8)) (fun o => (1 + d_8, o) ∈ RL) (38 + 3 * w9) (39 + 3 * w9) (40 + 3 * w9) := hg_25
    have hFc := px_free hD hS hA
    refine va_calli (va_runV (As := [.ref (ad (20 + n) (10 + 10 * k))]) (rest := []) ⟨hx, hb, hml, hown, hT⟩ (xc_Re_marks l D kA H.size ad E RL (20 + n) (12 + 10 * k) (15 + 10 * k) g2_8 n k d_8 pv_1 op_1 fd_25 nm_25 sd_25 m_14 c_13 m_20 c_19 m_10 c_9 m_3 c_2 m_27 c_26 (by first | assumption | omega)) (cwV 1 hT (wT_V yn_42 yn_20 yn_21 yn_22 yn_18) rfl rfl rfl (by decide +kernel) ⟨Nat.le_of_ble_eq_true rfl, Nat.le_of_ble_eq_true rfl⟩) (px_preV hK hP hD m_14 c_13 rfl) rfl rfl hl.1 rfl (lv_room (Nat.le_of_ble_eq_true rfl)) xd_Ly_hasCycle_26 ⟨(Nat.le_of_ble_eq_true rfl), (Nat.le_of_ble_eq_true rfl)⟩) hS (fun q _ h => hFc q h) hFc (fun r52 u53 t H1 locs ht hvm hp54 hB hz1 hk1 hS => ?_)
    obtain ⟨hP1, hD1⟩ := hB
    rw [ht] at hP1
    have hD1 := hD1.weaken (fun _ _ _ h => hFc _ h)
    generalize H1 = H at hP1 hS ⊢
    have hP := hP1
    have hD := hD1
    have hP : va_P D xcl (rp ad E RL) H := hP
    have hD : va_D A (rp ad E RL) := hD
    rcases hp54 with ⟨rfl, z55⟩ | ⟨rfl, z56⟩
    · refine W.eq (g2 := F0 m 29 ls [.int 1]) rfl ?_
      refine lv_if_eq (tgt := 34) hx hb xd_Ly_hasCycle_29 (by decide) (fun hc57 => absurd hc57 (by decide)) (fun _ => ?_)
      refine lv_iconst (v := 1) hx hb xd_Ly_hasCycle_32 (by decide) ?_
      exact W.zret (v := 1) hx hb hr rfl (fun t ht hW => ⟨⟨1, (), rfl, Or.inr rfl, by rw [ht]; exact hP, hD⟩, hS.F ht⟩) hS.2.2 xd_Ly_hasCycle_33
    · refine W.eq (g2 := F0 m 29 ls [.int 0]) rfl ?_
      refine lv_if_eq (tgt := 34) hx hb xd_Ly_hasCycle_29 (by decide) (fun _ => ?_) (fun hc58 => absurd (by decide) hc58)
      refine lv_iinc (k := 0) (x := (nI k)) (v := (nI (k + 1))) hx hb xd_Ly_hasCycle_34 hl rfl (xb_inc k 1) (Nat.le_of_ble_eq_true rfl) rfl (fun ls hl => ?_)
      have hl : lv_has ls 2 [(1, .int (nI (k + 1))), (0, .ref (ad (20 + n) 0))] := hl
      refine lv_goto (tgt := 2) hx hb xd_Ly_hasCycle_37 (by decide) ?_
      exact ih6 (k + 1) _ _ _ (show mk_1 - (k + 1) < mk_1 - k by omega) (lv_sub hl [0, 1] rfl) hP hD hS (show (k + 1) ≤ mk_1 from by first | assumption | omega)
set_option maxHeartbeats 4000000 in
set_option maxRecDepth 100000 in
theorem xc_Ly_hasSplit (l : Launch) (D : va_G) (kA : Nat → ClassId) (sz : Nat) (ad : Nat → Nat → Nat) (E : Nat → Nat → va_E) (RL : List (Nat × Nat)) (nd : Nat) (nL : Nat) (n : Nat) (hDIs : DIs kA ad E RL nd) (hLIs : LIs kA ad E RL nd nL) (hnL : nL ≤ 6) (hn : n < nL) : Met l xy_Ly_hasSplit (.code xy_Ly_hasSplit xb_Ly_hasSplit 4 (some .boolean) :: wT) { frames := 5, cells := 0, slots := 0, locals := 114 } (va_Pc [.ref (ad (20 + n) 0)] (xPre D kA sz (rp ad E RL))) (va_Qi (fun (r : Int32) (u : Unit) => r = 0 ∨ r = 1) (fun (u : Unit) t => va_P D xcl (rp ad E RL) t.heap ∧ va_D (va_A (rp ad E RL) sz) (rp ad E RL)) (va_A (rp ad E RL) sz)) 0 0 (va_A (rp ad E RL) sz) := by
  refine Met.ofW (cc := xb_Ly_hasSplit) (maxL := 4) (ret := (some .boolean)) (by decide) rfl ?_
  intro p e s m args below meth c s₁ B hml hv
  obtain ⟨rfl, hsz, hP, hK, hD0⟩ := hv
  have hx := B.exec
  have hb := B.bytes
  have hr := B.returns
  have hT := x_hT B.pre
  have hown : s.vm.findClass xR_Ly = some m.cls := findClass_of_methodNamed B.named
  have hlocks := B.notSynchronized
  subst hsz
  have hD := hD0.self (sz := s.heap.size)
  generalize hAe : va_A (rp ad E RL) s.heap.size = A at hD ⊢
  have hA : ∀ q : Nat, s.heap.size ≤ q → A q := fun q h => by rw [← hAe]; exact Or.inr h
  have hS : va_S A s.heap s.heap [] := va_S.rf
  have hl := lv_entry ([.ref (ad (20 + n) 0)]) (n := 4) (Nat.le_of_ble_eq_true rfl)
  rw [lg_entry_eq]
  generalize (lg_sl ([.ref (ad (20 + n) 0)]) ++ List.replicate (4 - (lg_sl ([.ref (ad (20 + n) 0)])).length) Slot.unset).toArray = ls at hl ⊢
  have hl : lv_has ls 4 [(0, .ref (ad (20 + n) 0))] := hl
  have hP : va_P D xcl (rp ad E RL) s.heap := hP
  refine lv_iconst (v := 0) hx hb xd_Ly_hasSplit_0 (by decide) ?_
  refine lv_istore_n hx hb xd_Ly_hasSplit_1 rfl hl (Nat.le_of_ble_eq_true rfl) rfl (fun ls hl => ?_)
  have hl : lv_has ls 4 [(1, .int 0), (0, .ref (ad (20 + n) 0))] := hl
  obtain ⟨m0_1, m1_1, pv_1, op_1, mk_1, fm_1, hmk_1, hpv_1, q0_1, q1_1, hk_1⟩ := id (hLIs n (by omega))
  have c_2 : E (20 + n) 0 = .inr (5, [.int (nI n), pv_1, .ref (ad (20 + n) 1), .int op_1]) := q0_1
  have m_3 : (20 + n, 0) ∈ RL := m0_1
  have c_4 : E (20 + n) 1 = .inl (kA 6, mk_1, .inr (.inr (.inr (.inr fm_1)))) := q1_1
  have m_5 : (20 + n, 1) ∈ RL := m1_1
  refine xlab (σ := Nat) (ml := 4) 2 (fun (k : Nat) => [(1, .int (nI k)), (0, .ref (ad (20 + n) 0))]) (fun (k : Nat) => []) (fun (k : Nat) => rp ad E RL) (fun (k : Nat) => (k ≤ mk_1)) (fun (k : Nat) => mk_1 - k) ?_ 0 _ _ _ (lv_sub hl [0, 1] rfl) hP hD hS (show 0 ≤ mk_1 from by first | assumption | omega)
  intro n9 ih6 a9 ls H locs hμ hl hP hD hS hI
  subst hμ
  obtain ⟨k, rfl⟩ : ∃ z, z = a9 := ⟨_, rfl⟩
  have hk : k ≤ mk_1 := hI
  have hl : lv_has ls 4 [(1, .int (nI k)), (0, .ref (ad (20 + n) 0))] := hl
  have hP : va_P D xcl (rp ad E RL) H := hP
  have hD : va_D A (rp ad E RL) := hD
  refine lv_iload_n hx hb xd_Ly_hasSplit_2 rfl (lv_at hl 0 rfl) ?_
  refine lv_aload_n hx hb xd_Ly_hasSplit_3 rfl (lv_at hl 1 rfl) ?_
  refine px_get (D := D) (ci := 5) (v := .ref (ad (20 + n) 1)) (C := xR_Ly) (T := xT_Ly) (N := 4) hx hb hT xi_Ly hown hK.1 hP m_3 c_2 rfl 2 (by decide) (hT _ yn_0) (fun _ h9 => h9) rfl xd_Ly_hasSplit_4 ?_
  refine px_alen hx hb hK.1 hP m_5 c_4 6 rfl xd_Ly_hasSplit_7 ?_
  refine W.eq (g2 := F0 m 8 ls [.int (nI mk_1), .int (nI k)]) rfl ?_
  refine xn_ge (a := k) (b := mk_1) (tgt := 68) hx hb xd_Ly_hasSplit_8 (by decide) (by omega) (by omega) (fun hc7 => ?_) (fun hc7 => ?_)
  · refine lv_iconst (v := 0) hx hb xd_Ly_hasSplit_68 (by decide) ?_
    exact W.zret (v := 0) hx hb hr rfl (fun t ht hW => ⟨⟨0, (), rfl, Or.inl rfl, by rw [ht]; exact hP, hD⟩, hS.F ht⟩) hS.2.2 xd_Ly_hasSplit_69
  · refine lv_aload_n hx hb xd_Ly_hasSplit_11 rfl (lv_at hl 1 rfl) ?_
    refine lv_astore_n hx hb xd_Ly_hasSplit_12 rfl hl (Nat.le_of_ble_eq_true rfl) rfl (fun ls hl => ?_)
    have hl : lv_has ls 4 [(2, .ref (ad (20 + n) 0)), (1, .int (nI k)), (0, .ref (ad (20 + n) 0))] := hl
    refine xlab (σ := Nat) (ml := 4) 13 (fun (y : Nat) => [(2, (lyv ad y)), (1, .int (nI k)), (0, .ref (ad (20 + n) 0))]) (fun (y : Nat) => []) (fun (y : Nat) => rp ad E RL) (fun (y : Nat) => (y ≤ n + 1)) (fun (y : Nat) => y) ?_ (n + 1) _ _ _ (lv_sub hl [0, 1, 2] rfl) hP hD hS (show (n + 1) ≤ n + 1 from by first | assumption | omega)
    intro n9 ih8 a9 ls H locs hμ hl hP hD hS hI
    subst hμ
    obtain ⟨y, rfl⟩ : ∃ z, z = a9 := ⟨_, rfl⟩
    have hy : y ≤ n + 1 := hI
    have hl : lv_has ls 4 [(2, (lyv ad y)), (1, .int (nI k)), (0, .ref (ad (20 + n) 0))] := hl
    have hP : va_P D xcl (rp ad E RL) H := hP
    have hD : va_D A (rp ad E RL) := hD
    rcases y with _ | y
    · have hl : lv_has ls 4 [(2, .null), (1, .int (nI k)), (0, .ref (ad (20 + n) 0))] := hl
      refine lv_aload_nN hx hb xd_Ly_hasSplit_13 rfl (lv_at hl 0 rfl) ?_
      refine lv_ifnullN (tgt := 62) hx hb xd_Ly_hasSplit_14 (by decide) ?_
      refine lv_iinc (k := 1) (x := (nI k)) (v := (nI (k + 1))) hx hb xd_Ly_hasSplit_62 hl rfl (xb_inc k 1) (Nat.le_of_ble_eq_true rfl) rfl (fun ls hl => ?_)
      have hl : lv_has ls 4 [(1, .int (nI (k + 1))), (2, .null), (0, .ref (ad (20 + n) 0))] := hl
      refine lv_goto (tgt := 2) hx hb xd_Ly_hasSplit_65 (by decide) ?_
      exact ih6 (k + 1) _ _ _ (show mk_1 - (k + 1) < mk_1 - k by omega) (lv_sub hl [0, 2] rfl) hP hD hS (show (k + 1) ≤ mk_1 from by first | assumption | omega)
    · have hl : lv_has ls 4 [(2, .ref (ad (20 + y) 0)), (1, .int (nI k)), (0, .ref (ad (20 + n) 0))] := hl
      refine lv_aload_n hx hb xd_Ly_hasSplit_13 rfl (lv_at hl 0 rfl) ?_
      refine lv_ifnull hx hb xd_Ly_hasSplit_14 ?_
      refine lv_iconst (v := 0) hx hb xd_Ly_hasSplit_17 (by decide) ?_
      refine lv_istore_n hx hb xd_Ly_hasSplit_18 rfl hl (Nat.le_of_ble_eq_true rfl) rfl (fun ls hl => ?_)
      have hl : lv_has ls 4 [(3, .int 0), (2, .ref (ad (20 + y) 0)), (1, .int (nI k)), (0, .ref (ad (20 + n) 0))] := hl
      obtain ⟨m0_9, m1_9, pv_9, op_9, mk_9, fm_9, hmk_9, hpv_9, q0_9, q1_9, hk_9⟩ := id (hLIs y (by omega))
      have c_10 : E (20 + y) 0 = .inr (5, [.int (nI y), pv_9, .ref (ad (20 + y) 1), .int op_9]) := q0_9
      have m_11 : (20 + y, 0) ∈ RL := m0_9
      have c_12 : E (20 + y) 1 = .inl (kA 6, mk_9, .inr (.inr (.inr (.inr fm_9)))) := q1_9
      have m_13 : (20 + y, 1) ∈ RL := m1_9
      refine xlab (σ := Nat) (ml := 4) 19 (fun (k3 : Nat) => [(3, .int (nI k3)), (2, .ref (ad (20 + y) 0)), (1, .int (nI k)), (0, .ref (ad (20 + n) 0))]) (fun (k3 : Nat) => []) (fun (k3 : Nat) => rp ad E RL) (fun (k3 : Nat) => (k3 ≤ mk_9)) (fun (k3 : Nat) => mk_9 - k3) ?_ 0 _ _ _ (lv_sub hl [0, 1, 2, 3] rfl) hP hD hS (show 0 ≤ mk_9 from by first | assumption | omega)
      intro n9 ih14 a9 ls H locs hμ hl hP hD hS hI
      subst hμ
      obtain ⟨k3, rfl⟩ : ∃ z, z = a9 := ⟨_, rfl⟩
      have hk3 : k3 ≤ mk_9 := hI
      have hl : lv_has ls 4 [(3, .int (nI k3)), (2, .ref (ad (20 + y) 0)), (1, .int (nI k)), (0, .ref (ad (20 + n) 0))] := hl
      have hP : va_P D xcl (rp ad E RL) H := hP
      have hD : va_D A (rp ad E RL) := hD
      refine lv_iload_n hx hb xd_Ly_hasSplit_19 rfl (lv_at hl 0 rfl) ?_
      refine lv_aload_n hx hb xd_Ly_hasSplit_20 rfl (lv_at hl 1 rfl) ?_
      refine px_get (D := D) (ci := 5) (v := .ref (ad (20 + y) 1)) (C := xR_Ly) (T := xT_Ly) (N := 4) hx hb hT xi_Ly hown hK.1 hP m_11 c_10 rfl 2 (by decide) (hT _ yn_0) (fun _ h9 => h9) rfl xd_Ly_hasSplit_21 ?_
      refine px_alen hx hb hK.1 hP m_13 c_12 6 rfl xd_Ly_hasSplit_24 ?_
      refine W.eq (g2 := F0 m 25 ls [.int (nI mk_9), .int (nI k3)]) rfl ?_
      refine xn_ge (a := k3) (b := mk_9) (tgt := 54) hx hb xd_Ly_hasSplit_25 (by decide) (by omega) (by omega) (fun hc15 => ?_) (fun hc15 => ?_)
      · refine lv_aload_n hx hb xd_Ly_hasSplit_54 rfl (lv_at hl 1 rfl) ?_
        refine px_get (D := D) (ci := 5) (v := pv_9) (C := xR_Ly) (T := xT_Ly) (N := 4) hx hb hT xi_Ly hown hK.1 hP m_11 c_10 rfl 1 (by decide) (hT _ yn_1) (fun _ h9 => h9) rfl xd_Ly_hasSplit_55 ?_
        rcases hpv_9 with rfl | ⟨x16, hx17, rfl⟩
        · refine W.eq (g2 := F0 m 58 ls [.null]) rfl ?_
          refine lv_astore_nN hx hb xd_Ly_hasSplit_58 rfl hl (Nat.le_of_ble_eq_true rfl) rfl (fun ls hl => ?_)
          have hl : lv_has ls 4 [(2, .null), (3, .int (nI k3)), (1, .int (nI k)), (0, .ref (ad (20 + n) 0))] := hl
          refine lv_goto (tgt := 13) hx hb xd_Ly_hasSplit_59 (by decide) ?_
          exact ih8 0 _ _ _ (show 0 < y + 1 by omega) (lv_sub hl [0, 2, 3] rfl) hP hD hS (show 0 ≤ n + 1 from by first | assumption | omega)
        · refine W.eq (g2 := F0 m 58 ls [.ref (ad (20 + x16) 0)]) rfl ?_
          refine lv_astore_n hx hb xd_Ly_hasSplit_58 rfl hl (Nat.le_of_ble_eq_true rfl) rfl (fun ls hl => ?_)
          have hl : lv_has ls 4 [(2, .ref (ad (20 + x16) 0)), (3, .int (nI k3)), (1, .int (nI k)), (0, .ref (ad (20 + n) 0))] := hl
          refine lv_goto (tgt := 13) hx hb xd_Ly_hasSplit_59 (by decide) ?_
          exact ih8 (x16 + 1) _ _ _ (show (x16 + 1) < y + 1 by omega) (lv_sub hl [0, 2, 3] rfl) hP hD hS (show (x16 + 1) ≤ n + 1 from by first | assumption | omega)
      · refine lv_aload_n hx hb xd_Ly_hasSplit_28 rfl (lv_at hl 3 rfl) ?_
        refine px_get (D := D) (ci := 5) (v := .ref (ad (20 + n) 1)) (C := xR_Ly) (T := xT_Ly) (N := 4) hx hb hT xi_Ly hown hK.1 hP m_3 c_2 rfl 2 (by decide) (hT _ yn_0) (fun _ h9 => h9) rfl xd_Ly_hasSplit_29 ?_
        refine lv_iload_n hx hb xd_Ly_hasSplit_32 rfl (lv_at hl 2 rfl) ?_
        refine px_aald (i := k) (x := (some (ad (20 + n) (10 + 10 * k)))) hx hb hK.1 hP m_5 c_4 6 rfl ((hk_1 k (by omega)).1) (by omega) (by omega) xd_Ly_hasSplit_33 ?_
        refine lv_aload_n hx hb xd_Ly_hasSplit_34 rfl (lv_at hl 1 rfl) ?_
        refine px_get (D := D) (ci := 5) (v := .ref (ad (20 + y) 1)) (C := xR_Ly) (T := xT_Ly) (N := 4) hx hb hT xi_Ly hown hK.1 hP m_11 c_10 rfl 2 (by decide) (hT _ yn_0) (fun _ h9 => h9) rfl xd_Ly_hasSplit_35 ?_
        refine lv_iload_n hx hb xd_Ly_hasSplit_38 rfl (lv_at hl 0 rfl) ?_
        refine px_aald (i := k3) (x := (some (ad (20 + y) (10 + 10 * k3)))) hx hb hK.1 hP m_13 c_12 6 rfl ((hk_9 k3 (by omega)).1) (by omega) (by omega) xd_Ly_hasSplit_39 ?_
        have hFc := px_free hD hS hA
        obtain ⟨hm_18, d_18, rs_18, fr_18, g2_18, g3_18, g4_18, hd_18, hrs_18, q0_18, q1_18, q2_18, q3_18, q4_18, q5_18, q6_18, q7_18⟩ := (hk_1 k (by omega)).2
        have c_19 : E (20 + n) (10 + 10 * k) = .inr (6, [.ref (ad (20 + n) 0), .ref (ad (1 + d_18) 0), .ref (ad (20 + n) (11 + 10 * k)), .ref (ad (20 + n) (12 + 10 * k)), .ref (ad (20 + n) (13 + 10 * k)), .ref (ad (20 + n) (14 + 10 * k))]) := q0_18
        have m_20 : (20 + n, 10 + 10 * k) ∈ RL := hm_18 0 (by omega)
        have c_21 : E (20 + n) (11 + 10 * k) = .inl (kA 6, rs_18, .inr (.inr (.inr (.inr fr_18)))) := q1_18
        have m_22 : (20 + n, 11 + 10 * k) ∈ RL := hm_18 1 (by omega)
        have c_23 : E (20 + n) (12 + 10 * k) = .inr (10, [.ref (ad (20 + n) (15 + 10 * k))]) := q2_18
        have m_24 : (20 + n, 12 + 10 * k) ∈ RL := hm_18 2 (by omega)
        have c_25 : E (20 + n) (13 + 10 * k) = .inr (10, [.ref (ad (20 + n) (16 + 10 * k))]) := q3_18
        have m_26 : (20 + n, 13 + 10 * k) ∈ RL := hm_18 3 (by omega)
        have c_27 : E (20 + n) (14 + 10 * k) = .inr (10, [.ref (ad (20 + n) (17 + 10 * k))]) := q4_18
        have m_28 : (20 + n, 14 + 10 * k) ∈ RL := hm_18 4 (by omega)
        have c_29 : E (20 + n) (15 + 10 * k) = .inl (kA 0, 6, .inl g2_18) := q5_18
        have m_30 : (20 + n, 15 + 10 * k) ∈ RL := hm_18 5 (by omega)
        have c_31 : E (20 + n) (16 + 10 * k) = .inl (kA 0, 6, .inl g3_18) := q6_18
        have m_32 : (20 + n, 16 + 10 * k) ∈ RL := hm_18 6 (by omega)
        have c_33 : E (20 + n) (17 + 10 * k) = .inl (kA 0, 6, .inl g4_18) := q7_18
        have m_34 : (20 + n, 17 + 10 * k) ∈ RL := hm_18 7 (by omega)
        refine va_calli (va_runV (As := [.ref (ad (20 + y) (10 + 10 * k3))]) (rest := []) ⟨hx, hb, hml, hown, hT⟩ (xc_Me_isSplitBy l D kA H.size ad E RL nd nL n k y k3 (by first | assumption | omega) (by first | assumption | omega) (by first | assumption | omega) (by first | assumption | omega) ((hk_1 k (by omega)).2) (by first | assumption | omega) ((hk_9 k3 (by omega)).2)) (cwV 1 hT (wT_V yn_44 yn_45 yn_46 yn_40 yn_43) rfl rfl rfl (by decide +kernel) ⟨Nat.le_of_ble_eq_true rfl, Nat.le_of_ble_eq_true rfl⟩) (px_preV hK hP hD m_20 c_19 rfl) rfl rfl hl.1 rfl (lv_room (Nat.le_of_ble_eq_true rfl)) xd_Ly_hasSplit_40 ⟨(Nat.le_of_ble_eq_true rfl), (Nat.le_of_ble_eq_true rfl)⟩) hS (fun q _ h => hFc q h) hFc (fun r35 u36 t H1 locs ht hvm hp37 hB hz1 hk1 hS => ?_)
        obtain ⟨hP1, hD1⟩ := hB
        rw [ht] at hP1
        have hD1 := hD1.weaken (fun _ _ _ h => hFc _ h)
        generalize H1 = H at hP1 hS ⊢
        have hP := hP1
        have hD := hD1
        have hP : va_P D xcl (rp ad E RL) H := hP
        have hD : va_D A (rp ad E RL) := hD
        rcases hp37 with rfl | rfl
        · refine W.eq (g2 := F0 m 43 ls [.int 0]) rfl ?_
          refine lv_if_eq (tgt := 48) hx hb xd_Ly_hasSplit_43 (by decide) (fun _ => ?_) (fun hc38 => absurd (by decide) hc38)
          refine lv_iinc (k := 0) (x := (nI k3)) (v := (nI (k3 + 1))) hx hb xd_Ly_hasSplit_48 hl rfl (xb_inc k3 1) (Nat.le_of_ble_eq_true rfl) rfl (fun ls hl => ?_)
          have hl : lv_has ls 4 [(3, .int (nI (k3 + 1))), (2, .ref (ad (20 + y) 0)), (1, .int (nI k)), (0, .ref (ad (20 + n) 0))] := hl
          refine lv_goto (tgt := 19) hx hb xd_Ly_hasSplit_51 (by decide) ?_
          exact ih14 (k3 + 1) _ _ _ (show mk_9 - (k3 + 1) < mk_9 - k3 by omega) (lv_sub hl [0, 1, 2, 3] rfl) hP hD hS (show (k3 + 1) ≤ mk_9 from by first | assumption | omega)
        · refine W.eq (g2 := F0 m 43 ls [.int 1]) rfl ?_
          refine lv_if_eq (tgt := 48) hx hb xd_Ly_hasSplit_43 (by decide) (fun hc39 => absurd hc39 (by decide)) (fun _ => ?_)
          refine lv_iconst (v := 1) hx hb xd_Ly_hasSplit_46 (by decide) ?_
          exact W.zret (v := 1) hx hb hr rfl (fun t ht hW => ⟨⟨1, (), rfl, Or.inr rfl, by rw [ht]; exact hP, hD⟩, hS.F ht⟩) hS.2.2 xd_Ly_hasSplit_47
