abbrev xb_Ch_begin : ByteArray := prog_2_method_2_code
def xy_Ch_begin : MethodName := ⟨"LayerDesk$Chooser", "begin", "(ILLayerDesk$Layer;)V"⟩
abbrev xb_Ch_addName : ByteArray := prog_2_method_6_code
def xy_Ch_addName : MethodName := ⟨"LayerDesk$Chooser", "addName", "(II)Z"⟩
abbrev xb_Ch_addRoot : ByteArray := prog_2_method_3_code
def xy_Ch_addRoot : MethodName := ⟨"LayerDesk$Chooser", "addRoot", "(I)Z"⟩
abbrev xb_Ch_bindProvidersOf : ByteArray := prog_2_method_10_code
def xy_Ch_bindProvidersOf : MethodName := ⟨"LayerDesk$Chooser", "bindProvidersOf", "(I)V"⟩
abbrev xb_Ch_bindUsesOf : ByteArray := prog_2_method_9_code
def xy_Ch_bindUsesOf : MethodName := ⟨"LayerDesk$Chooser", "bindUsesOf", "(LLayerDesk$Descriptor;)V"⟩
abbrev xb_Ch_bindOnce : ByteArray := prog_2_method_8_code
def xy_Ch_bindOnce : MethodName := ⟨"LayerDesk$Chooser", "bindOnce", "()V"⟩
abbrev xb_Ch_bind : ByteArray := prog_2_method_4_code
def xy_Ch_bind : MethodName := ⟨"LayerDesk$Chooser", "bind", "()V"⟩
abbrev xb_De_addRoots : ByteArray := prog_1_method_18_code
def xy_De_addRoots : MethodName := ⟨"LayerDesk", "addRoots", "()Z"⟩
theorem xd_Ch_addName_0 : decode xb_Ch_addName 0 = .ok (.aload_n 0, 1) := by decide +kernel
theorem xd_Ch_addName_1 : decode xb_Ch_addName 1 = .ok (.getfield 28, 3) := by decide +kernel
theorem xd_Ch_addName_4 : decode xb_Ch_addName 4 = .ok (.aload_n 0, 1) := by decide +kernel
theorem xd_Ch_addName_5 : decode xb_Ch_addName 5 = .ok (.getfield 21, 3) := by decide +kernel
theorem xd_Ch_addName_8 : decode xb_Ch_addName 8 = .ok (.iload_n 1, 1) := by decide +kernel
theorem xd_Ch_addName_9 : decode xb_Ch_addName 9 = .ok (.invokevirtual 56, 3) := by decide +kernel
theorem xd_Ch_addName_12 : decode xb_Ch_addName 12 = .ok (.astore_n 3, 1) := by decide +kernel
theorem xd_Ch_addName_13 : decode xb_Ch_addName 13 = .ok (.aload_n 3, 1) := by decide +kernel
theorem xd_Ch_addName_14 : decode xb_Ch_addName 14 = .ok (.ifnonnull 27, 3) := by decide +kernel
theorem xd_Ch_addName_17 : decode xb_Ch_addName 17 = .ok (.aload_n 0, 1) := by decide +kernel
theorem xd_Ch_addName_18 : decode xb_Ch_addName 18 = .ok (.getfield 24, 3) := by decide +kernel
theorem xd_Ch_addName_21 : decode xb_Ch_addName 21 = .ok (.ifnull 18, 3) := by decide +kernel
theorem xd_Ch_addName_24 : decode xb_Ch_addName 24 = .ok (.aload_n 0, 1) := by decide +kernel
theorem xd_Ch_addName_25 : decode xb_Ch_addName 25 = .ok (.getfield 24, 3) := by decide +kernel
theorem xd_Ch_addName_28 : decode xb_Ch_addName 28 = .ok (.iload_n 1, 1) := by decide +kernel
theorem xd_Ch_addName_29 : decode xb_Ch_addName 29 = .ok (.invokevirtual 62, 3) := by decide +kernel
theorem xd_Ch_addName_32 : decode xb_Ch_addName 32 = .ok (.ifnull 7, 3) := by decide +kernel
theorem xd_Ch_addName_35 : decode xb_Ch_addName 35 = .ok (.iconst 1, 1) := by decide +kernel
theorem xd_Ch_addName_36 : decode xb_Ch_addName 36 = .ok (.goto 4, 3) := by decide +kernel
theorem xd_Ch_addName_39 : decode xb_Ch_addName 39 = .ok (.iconst 0, 1) := by decide +kernel
theorem xd_Ch_addName_40 : decode xb_Ch_addName 40 = .ok (.ireturn, 1) := by decide +kernel
theorem xd_Ch_addName_41 : decode xb_Ch_addName 41 = .ok (.aload_n 0, 1) := by decide +kernel
theorem xd_Ch_addName_42 : decode xb_Ch_addName 42 = .ok (.aload_n 3, 1) := by decide +kernel
theorem xd_Ch_addName_43 : decode xb_Ch_addName 43 = .ok (.invokevirtual 66, 3) := by decide +kernel
theorem xd_Ch_addName_46 : decode xb_Ch_addName 46 = .ok (.ifCond .eq 5, 3) := by decide +kernel
theorem xd_Ch_addName_49 : decode xb_Ch_addName 49 = .ok (.iconst 1, 1) := by decide +kernel
theorem xd_Ch_addName_50 : decode xb_Ch_addName 50 = .ok (.ireturn, 1) := by decide +kernel
theorem xd_Ch_addName_51 : decode xb_Ch_addName 51 = .ok (.aload_n 0, 1) := by decide +kernel
theorem xd_Ch_addName_52 : decode xb_Ch_addName 52 = .ok (.getfield 17, 3) := by decide +kernel
theorem xd_Ch_addName_55 : decode xb_Ch_addName 55 = .ok (.bipush 12, 2) := by decide +kernel
theorem xd_Ch_addName_57 : decode xb_Ch_addName 57 = .ok (.if_icmp .ge 9, 3) := by decide +kernel
theorem xd_Ch_addName_60 : decode xb_Ch_addName 60 = .ok (.iload_n 2, 1) := by decide +kernel
theorem xd_Ch_addName_61 : decode xb_Ch_addName 61 = .ok (.bipush 12, 2) := by decide +kernel
theorem xd_Ch_addName_63 : decode xb_Ch_addName 63 = .ok (.if_icmp .lt 5, 3) := by decide +kernel
theorem xd_Ch_addName_66 : decode xb_Ch_addName 66 = .ok (.iconst 0, 1) := by decide +kernel
theorem xd_Ch_addName_67 : decode xb_Ch_addName 67 = .ok (.ireturn, 1) := by decide +kernel
theorem xd_Ch_addName_68 : decode xb_Ch_addName 68 = .ok (.aload_n 0, 1) := by decide +kernel
theorem xd_Ch_addName_69 : decode xb_Ch_addName 69 = .ok (.getfield 11, 3) := by decide +kernel
theorem xd_Ch_addName_72 : decode xb_Ch_addName 72 = .ok (.aload_n 0, 1) := by decide +kernel
theorem xd_Ch_addName_73 : decode xb_Ch_addName 73 = .ok (.getfield 17, 3) := by decide +kernel
theorem xd_Ch_addName_76 : decode xb_Ch_addName 76 = .ok (.aload_n 3, 1) := by decide +kernel
theorem xd_Ch_addName_77 : decode xb_Ch_addName 77 = .ok (.aastore, 1) := by decide +kernel
theorem xd_Ch_addName_78 : decode xb_Ch_addName 78 = .ok (.aload_n 0, 1) := by decide +kernel
theorem xd_Ch_addName_79 : decode xb_Ch_addName 79 = .ok (.dup, 1) := by decide +kernel
theorem xd_Ch_addName_80 : decode xb_Ch_addName 80 = .ok (.getfield 17, 3) := by decide +kernel
theorem xd_Ch_addName_83 : decode xb_Ch_addName 83 = .ok (.iconst 1, 1) := by decide +kernel
theorem xd_Ch_addName_84 : decode xb_Ch_addName 84 = .ok (.iadd, 1) := by decide +kernel
theorem xd_Ch_addName_85 : decode xb_Ch_addName 85 = .ok (.putfield 17, 3) := by decide +kernel
theorem xd_Ch_addName_88 : decode xb_Ch_addName 88 = .ok (.iconst 0, 1) := by decide +kernel
theorem xd_Ch_addName_89 : decode xb_Ch_addName 89 = .ok (.istore 4, 2) := by decide +kernel
theorem xd_Ch_addName_91 : decode xb_Ch_addName 91 = .ok (.iload 4, 2) := by decide +kernel
theorem xd_Ch_addName_93 : decode xb_Ch_addName 93 = .ok (.aload_n 3, 1) := by decide +kernel
theorem xd_Ch_addName_94 : decode xb_Ch_addName 94 = .ok (.getfield 70, 3) := by decide +kernel
theorem xd_Ch_addName_97 : decode xb_Ch_addName 97 = .ok (.getfield 74, 3) := by decide +kernel
theorem xd_Ch_addName_100 : decode xb_Ch_addName 100 = .ok (.if_icmp .ge 40, 3) := by decide +kernel
theorem xd_Ch_addName_103 : decode xb_Ch_addName 103 = .ok (.aload_n 3, 1) := by decide +kernel
theorem xd_Ch_addName_104 : decode xb_Ch_addName 104 = .ok (.getfield 77, 3) := by decide +kernel
theorem xd_Ch_addName_107 : decode xb_Ch_addName 107 = .ok (.iload 4, 2) := by decide +kernel
theorem xd_Ch_addName_109 : decode xb_Ch_addName 109 = .ok (.baload, 1) := by decide +kernel
theorem xd_Ch_addName_110 : decode xb_Ch_addName 110 = .ok (.ifCond .ne 24, 3) := by decide +kernel
theorem xd_Ch_addName_113 : decode xb_Ch_addName 113 = .ok (.aload_n 0, 1) := by decide +kernel
theorem xd_Ch_addName_114 : decode xb_Ch_addName 114 = .ok (.aload_n 3, 1) := by decide +kernel
theorem xd_Ch_addName_115 : decode xb_Ch_addName 115 = .ok (.getfield 70, 3) := by decide +kernel
theorem xd_Ch_addName_118 : decode xb_Ch_addName 118 = .ok (.iload 4, 2) := by decide +kernel
theorem xd_Ch_addName_120 : decode xb_Ch_addName 120 = .ok (.invokevirtual 81, 3) := by decide +kernel
theorem xd_Ch_addName_123 : decode xb_Ch_addName 123 = .ok (.iload_n 2, 1) := by decide +kernel
theorem xd_Ch_addName_124 : decode xb_Ch_addName 124 = .ok (.iconst 1, 1) := by decide +kernel
theorem xd_Ch_addName_125 : decode xb_Ch_addName 125 = .ok (.iadd, 1) := by decide +kernel
theorem xd_Ch_addName_126 : decode xb_Ch_addName 126 = .ok (.invokevirtual 32, 3) := by decide +kernel
theorem xd_Ch_addName_129 : decode xb_Ch_addName 129 = .ok (.ifCond .ne 5, 3) := by decide +kernel
theorem xd_Ch_addName_132 : decode xb_Ch_addName 132 = .ok (.iconst 0, 1) := by decide +kernel
theorem xd_Ch_addName_133 : decode xb_Ch_addName 133 = .ok (.ireturn, 1) := by decide +kernel
theorem xd_Ch_addName_134 : decode xb_Ch_addName 134 = .ok (.iinc 4 1, 3) := by decide +kernel
theorem xd_Ch_addName_137 : decode xb_Ch_addName 137 = .ok (.goto (-46), 3) := by decide +kernel
theorem xd_Ch_addName_140 : decode xb_Ch_addName 140 = .ok (.iconst 1, 1) := by decide +kernel
theorem xd_Ch_addName_141 : decode xb_Ch_addName 141 = .ok (.ireturn, 1) := by decide +kernel
theorem xd_Ch_addRoot_0 : decode xb_Ch_addRoot 0 = .ok (.aload_n 0, 1) := by decide +kernel
theorem xd_Ch_addRoot_1 : decode xb_Ch_addRoot 1 = .ok (.iload_n 1, 1) := by decide +kernel
theorem xd_Ch_addRoot_2 : decode xb_Ch_addRoot 2 = .ok (.iconst 0, 1) := by decide +kernel
theorem xd_Ch_addRoot_3 : decode xb_Ch_addRoot 3 = .ok (.invokevirtual 32, 3) := by decide +kernel
theorem xd_Ch_addRoot_6 : decode xb_Ch_addRoot 6 = .ok (.ireturn, 1) := by decide +kernel
theorem xd_Ch_begin_0 : decode xb_Ch_begin 0 = .ok (.aload_n 0, 1) := by decide +kernel
theorem xd_Ch_begin_1 : decode xb_Ch_begin 1 = .ok (.iload_n 1, 1) := by decide +kernel
theorem xd_Ch_begin_2 : decode xb_Ch_begin 2 = .ok (.putfield 21, 3) := by decide +kernel
theorem xd_Ch_begin_5 : decode xb_Ch_begin 5 = .ok (.aload_n 0, 1) := by decide +kernel
theorem xd_Ch_begin_6 : decode xb_Ch_begin 6 = .ok (.aload_n 2, 1) := by decide +kernel
theorem xd_Ch_begin_7 : decode xb_Ch_begin 7 = .ok (.putfield 24, 3) := by decide +kernel
theorem xd_Ch_begin_10 : decode xb_Ch_begin 10 = .ok (.aload_n 0, 1) := by decide +kernel
theorem xd_Ch_begin_11 : decode xb_Ch_begin 11 = .ok (.iconst 0, 1) := by decide +kernel
theorem xd_Ch_begin_12 : decode xb_Ch_begin 12 = .ok (.putfield 17, 3) := by decide +kernel
theorem xd_Ch_begin_15 : decode xb_Ch_begin 15 = .ok (.return_, 1) := by decide +kernel
theorem xd_Ch_bind_0 : decode xb_Ch_bind 0 = .ok (.iconst 0, 1) := by decide +kernel
theorem xd_Ch_bind_1 : decode xb_Ch_bind 1 = .ok (.istore_n 1, 1) := by decide +kernel
theorem xd_Ch_bind_2 : decode xb_Ch_bind 2 = .ok (.iload_n 1, 1) := by decide +kernel
theorem xd_Ch_bind_3 : decode xb_Ch_bind 3 = .ok (.bipush 12, 2) := by decide +kernel
theorem xd_Ch_bind_5 : decode xb_Ch_bind 5 = .ok (.if_icmp .gt 27, 3) := by decide +kernel
theorem xd_Ch_bind_8 : decode xb_Ch_bind 8 = .ok (.aload_n 0, 1) := by decide +kernel
theorem xd_Ch_bind_9 : decode xb_Ch_bind 9 = .ok (.getfield 17, 3) := by decide +kernel
theorem xd_Ch_bind_12 : decode xb_Ch_bind 12 = .ok (.istore_n 2, 1) := by decide +kernel
theorem xd_Ch_bind_13 : decode xb_Ch_bind 13 = .ok (.aload_n 0, 1) := by decide +kernel
theorem xd_Ch_bind_14 : decode xb_Ch_bind 14 = .ok (.invokevirtual 36, 3) := by decide +kernel
theorem xd_Ch_bind_17 : decode xb_Ch_bind 17 = .ok (.aload_n 0, 1) := by decide +kernel
theorem xd_Ch_bind_18 : decode xb_Ch_bind 18 = .ok (.getfield 17, 3) := by decide +kernel
theorem xd_Ch_bind_21 : decode xb_Ch_bind 21 = .ok (.iload_n 2, 1) := by decide +kernel
theorem xd_Ch_bind_22 : decode xb_Ch_bind 22 = .ok (.if_icmp .ne 4, 3) := by decide +kernel
theorem xd_Ch_bind_25 : decode xb_Ch_bind 25 = .ok (.return_, 1) := by decide +kernel
theorem xd_Ch_bind_26 : decode xb_Ch_bind 26 = .ok (.iinc 1 1, 3) := by decide +kernel
theorem xd_Ch_bind_29 : decode xb_Ch_bind 29 = .ok (.goto (-27), 3) := by decide +kernel
theorem xd_Ch_bind_32 : decode xb_Ch_bind 32 = .ok (.return_, 1) := by decide +kernel
theorem xd_Ch_bindOnce_0 : decode xb_Ch_bindOnce 0 = .ok (.iconst 0, 1) := by decide +kernel
theorem xd_Ch_bindOnce_1 : decode xb_Ch_bindOnce 1 = .ok (.istore_n 1, 1) := by decide +kernel
theorem xd_Ch_bindOnce_2 : decode xb_Ch_bindOnce 2 = .ok (.iload_n 1, 1) := by decide +kernel
theorem xd_Ch_bindOnce_3 : decode xb_Ch_bindOnce 3 = .ok (.aload_n 0, 1) := by decide +kernel
theorem xd_Ch_bindOnce_4 : decode xb_Ch_bindOnce 4 = .ok (.getfield 17, 3) := by decide +kernel
theorem xd_Ch_bindOnce_7 : decode xb_Ch_bindOnce 7 = .ok (.if_icmp .ge 25, 3) := by decide +kernel
theorem xd_Ch_bindOnce_10 : decode xb_Ch_bindOnce 10 = .ok (.iload_n 1, 1) := by decide +kernel
theorem xd_Ch_bindOnce_11 : decode xb_Ch_bindOnce 11 = .ok (.bipush 12, 2) := by decide +kernel
theorem xd_Ch_bindOnce_13 : decode xb_Ch_bindOnce 13 = .ok (.if_icmp .ge 19, 3) := by decide +kernel
theorem xd_Ch_bindOnce_16 : decode xb_Ch_bindOnce 16 = .ok (.aload_n 0, 1) := by decide +kernel
theorem xd_Ch_bindOnce_17 : decode xb_Ch_bindOnce 17 = .ok (.aload_n 0, 1) := by decide +kernel
theorem xd_Ch_bindOnce_18 : decode xb_Ch_bindOnce 18 = .ok (.getfield 11, 3) := by decide +kernel
theorem xd_Ch_bindOnce_21 : decode xb_Ch_bindOnce 21 = .ok (.iload_n 1, 1) := by decide +kernel
theorem xd_Ch_bindOnce_22 : decode xb_Ch_bindOnce 22 = .ok (.aaload, 1) := by decide +kernel
theorem xd_Ch_bindOnce_23 : decode xb_Ch_bindOnce 23 = .ok (.invokevirtual 85, 3) := by decide +kernel
theorem xd_Ch_bindOnce_26 : decode xb_Ch_bindOnce 26 = .ok (.iinc 1 1, 3) := by decide +kernel
theorem xd_Ch_bindOnce_29 : decode xb_Ch_bindOnce 29 = .ok (.goto (-27), 3) := by decide +kernel
theorem xd_Ch_bindOnce_32 : decode xb_Ch_bindOnce 32 = .ok (.aload_n 0, 1) := by decide +kernel
theorem xd_Ch_bindOnce_33 : decode xb_Ch_bindOnce 33 = .ok (.getfield 24, 3) := by decide +kernel
theorem xd_Ch_bindOnce_36 : decode xb_Ch_bindOnce 36 = .ok (.astore_n 1, 1) := by decide +kernel
theorem xd_Ch_bindOnce_37 : decode xb_Ch_bindOnce 37 = .ok (.aload_n 1, 1) := by decide +kernel
theorem xd_Ch_bindOnce_38 : decode xb_Ch_bindOnce 38 = .ok (.ifnull 41, 3) := by decide +kernel
theorem xd_Ch_bindOnce_41 : decode xb_Ch_bindOnce 41 = .ok (.iconst 0, 1) := by decide +kernel
theorem xd_Ch_bindOnce_42 : decode xb_Ch_bindOnce 42 = .ok (.istore_n 2, 1) := by decide +kernel
theorem xd_Ch_bindOnce_43 : decode xb_Ch_bindOnce 43 = .ok (.iload_n 2, 1) := by decide +kernel
theorem xd_Ch_bindOnce_44 : decode xb_Ch_bindOnce 44 = .ok (.aload_n 1, 1) := by decide +kernel
theorem xd_Ch_bindOnce_45 : decode xb_Ch_bindOnce 45 = .ok (.getfield 44, 3) := by decide +kernel
theorem xd_Ch_bindOnce_48 : decode xb_Ch_bindOnce 48 = .ok (.arraylength, 1) := by decide +kernel
theorem xd_Ch_bindOnce_49 : decode xb_Ch_bindOnce 49 = .ok (.if_icmp .ge 22, 3) := by decide +kernel
theorem xd_Ch_bindOnce_52 : decode xb_Ch_bindOnce 52 = .ok (.aload_n 0, 1) := by decide +kernel
theorem xd_Ch_bindOnce_53 : decode xb_Ch_bindOnce 53 = .ok (.aload_n 1, 1) := by decide +kernel
theorem xd_Ch_bindOnce_54 : decode xb_Ch_bindOnce 54 = .ok (.getfield 44, 3) := by decide +kernel
theorem xd_Ch_bindOnce_57 : decode xb_Ch_bindOnce 57 = .ok (.iload_n 2, 1) := by decide +kernel
theorem xd_Ch_bindOnce_58 : decode xb_Ch_bindOnce 58 = .ok (.aaload, 1) := by decide +kernel
theorem xd_Ch_bindOnce_59 : decode xb_Ch_bindOnce 59 = .ok (.getfield 89, 3) := by decide +kernel
theorem xd_Ch_bindOnce_62 : decode xb_Ch_bindOnce 62 = .ok (.invokevirtual 85, 3) := by decide +kernel
theorem xd_Ch_bindOnce_65 : decode xb_Ch_bindOnce 65 = .ok (.iinc 2 1, 3) := by decide +kernel
theorem xd_Ch_bindOnce_68 : decode xb_Ch_bindOnce 68 = .ok (.goto (-25), 3) := by decide +kernel
theorem xd_Ch_bindOnce_71 : decode xb_Ch_bindOnce 71 = .ok (.aload_n 1, 1) := by decide +kernel
theorem xd_Ch_bindOnce_72 : decode xb_Ch_bindOnce 72 = .ok (.getfield 93, 3) := by decide +kernel
theorem xd_Ch_bindOnce_75 : decode xb_Ch_bindOnce 75 = .ok (.astore_n 1, 1) := by decide +kernel
theorem xd_Ch_bindOnce_76 : decode xb_Ch_bindOnce 76 = .ok (.goto (-39), 3) := by decide +kernel
theorem xd_Ch_bindOnce_79 : decode xb_Ch_bindOnce 79 = .ok (.return_, 1) := by decide +kernel
theorem xd_Ch_bindProvidersOf_0 : decode xb_Ch_bindProvidersOf 0 = .ok (.iconst 0, 1) := by decide +kernel
theorem xd_Ch_bindProvidersOf_1 : decode xb_Ch_bindProvidersOf 1 = .ok (.istore_n 2, 1) := by decide +kernel
theorem xd_Ch_bindProvidersOf_2 : decode xb_Ch_bindProvidersOf 2 = .ok (.iload_n 2, 1) := by decide +kernel
theorem xd_Ch_bindProvidersOf_3 : decode xb_Ch_bindProvidersOf 3 = .ok (.aload_n 0, 1) := by decide +kernel
theorem xd_Ch_bindProvidersOf_4 : decode xb_Ch_bindProvidersOf 4 = .ok (.getfield 28, 3) := by decide +kernel
theorem xd_Ch_bindProvidersOf_7 : decode xb_Ch_bindProvidersOf 7 = .ok (.getfield 101, 3) := by decide +kernel
theorem xd_Ch_bindProvidersOf_10 : decode xb_Ch_bindProvidersOf 10 = .ok (.if_icmp .ge 73, 3) := by decide +kernel
theorem xd_Ch_bindProvidersOf_13 : decode xb_Ch_bindProvidersOf 13 = .ok (.aload_n 0, 1) := by decide +kernel
theorem xd_Ch_bindProvidersOf_14 : decode xb_Ch_bindProvidersOf 14 = .ok (.getfield 28, 3) := by decide +kernel
theorem xd_Ch_bindProvidersOf_17 : decode xb_Ch_bindProvidersOf 17 = .ok (.getfield 102, 3) := by decide +kernel
theorem xd_Ch_bindProvidersOf_20 : decode xb_Ch_bindProvidersOf 20 = .ok (.iload_n 2, 1) := by decide +kernel
theorem xd_Ch_bindProvidersOf_21 : decode xb_Ch_bindProvidersOf 21 = .ok (.aaload, 1) := by decide +kernel
theorem xd_Ch_bindProvidersOf_22 : decode xb_Ch_bindProvidersOf 22 = .ok (.astore_n 3, 1) := by decide +kernel
theorem xd_Ch_bindProvidersOf_23 : decode xb_Ch_bindProvidersOf 23 = .ok (.aload_n 0, 1) := by decide +kernel
theorem xd_Ch_bindProvidersOf_24 : decode xb_Ch_bindProvidersOf 24 = .ok (.getfield 17, 3) := by decide +kernel
theorem xd_Ch_bindProvidersOf_27 : decode xb_Ch_bindProvidersOf 27 = .ok (.istore 4, 2) := by decide +kernel
theorem xd_Ch_bindProvidersOf_29 : decode xb_Ch_bindProvidersOf 29 = .ok (.aload_n 3, 1) := by decide +kernel
theorem xd_Ch_bindProvidersOf_30 : decode xb_Ch_bindProvidersOf 30 = .ok (.getfield 105, 3) := by decide +kernel
theorem xd_Ch_bindProvidersOf_33 : decode xb_Ch_bindProvidersOf 33 = .ok (.aload_n 0, 1) := by decide +kernel
theorem xd_Ch_bindProvidersOf_34 : decode xb_Ch_bindProvidersOf 34 = .ok (.getfield 21, 3) := by decide +kernel
theorem xd_Ch_bindProvidersOf_37 : decode xb_Ch_bindProvidersOf 37 = .ok (.if_icmp .ne 40, 3) := by decide +kernel
theorem xd_Ch_bindProvidersOf_40 : decode xb_Ch_bindProvidersOf 40 = .ok (.aload_n 3, 1) := by decide +kernel
theorem xd_Ch_bindProvidersOf_41 : decode xb_Ch_bindProvidersOf 41 = .ok (.getfield 106, 3) := by decide +kernel
theorem xd_Ch_bindProvidersOf_44 : decode xb_Ch_bindProvidersOf 44 = .ok (.iload_n 1, 1) := by decide +kernel
theorem xd_Ch_bindProvidersOf_45 : decode xb_Ch_bindProvidersOf 45 = .ok (.invokevirtual 109, 3) := by decide +kernel
theorem xd_Ch_bindProvidersOf_48 : decode xb_Ch_bindProvidersOf 48 = .ok (.ifCond .eq 29, 3) := by decide +kernel
theorem xd_Ch_bindProvidersOf_51 : decode xb_Ch_bindProvidersOf 51 = .ok (.aload_n 0, 1) := by decide +kernel
theorem xd_Ch_bindProvidersOf_52 : decode xb_Ch_bindProvidersOf 52 = .ok (.aload_n 3, 1) := by decide +kernel
theorem xd_Ch_bindProvidersOf_53 : decode xb_Ch_bindProvidersOf 53 = .ok (.invokevirtual 66, 3) := by decide +kernel
theorem xd_Ch_bindProvidersOf_56 : decode xb_Ch_bindProvidersOf 56 = .ok (.ifCond .ne 21, 3) := by decide +kernel
theorem xd_Ch_bindProvidersOf_59 : decode xb_Ch_bindProvidersOf 59 = .ok (.aload_n 0, 1) := by decide +kernel
theorem xd_Ch_bindProvidersOf_60 : decode xb_Ch_bindProvidersOf 60 = .ok (.aload_n 3, 1) := by decide +kernel
theorem xd_Ch_bindProvidersOf_61 : decode xb_Ch_bindProvidersOf 61 = .ok (.getfield 113, 3) := by decide +kernel
theorem xd_Ch_bindProvidersOf_64 : decode xb_Ch_bindProvidersOf 64 = .ok (.iconst 0, 1) := by decide +kernel
theorem xd_Ch_bindProvidersOf_65 : decode xb_Ch_bindProvidersOf 65 = .ok (.invokevirtual 32, 3) := by decide +kernel
theorem xd_Ch_bindProvidersOf_68 : decode xb_Ch_bindProvidersOf 68 = .ok (.ifCond .ne 9, 3) := by decide +kernel
theorem xd_Ch_bindProvidersOf_71 : decode xb_Ch_bindProvidersOf 71 = .ok (.aload_n 0, 1) := by decide +kernel
theorem xd_Ch_bindProvidersOf_72 : decode xb_Ch_bindProvidersOf 72 = .ok (.iload 4, 2) := by decide +kernel
theorem xd_Ch_bindProvidersOf_74 : decode xb_Ch_bindProvidersOf 74 = .ok (.putfield 17, 3) := by decide +kernel
theorem xd_Ch_bindProvidersOf_77 : decode xb_Ch_bindProvidersOf 77 = .ok (.iinc 2 1, 3) := by decide +kernel
theorem xd_Ch_bindProvidersOf_80 : decode xb_Ch_bindProvidersOf 80 = .ok (.goto (-78), 3) := by decide +kernel
theorem xd_Ch_bindProvidersOf_83 : decode xb_Ch_bindProvidersOf 83 = .ok (.return_, 1) := by decide +kernel
theorem xd_Ch_bindUsesOf_0 : decode xb_Ch_bindUsesOf 0 = .ok (.iconst 0, 1) := by decide +kernel
theorem xd_Ch_bindUsesOf_1 : decode xb_Ch_bindUsesOf 1 = .ok (.istore_n 2, 1) := by decide +kernel
theorem xd_Ch_bindUsesOf_2 : decode xb_Ch_bindUsesOf 2 = .ok (.iload_n 2, 1) := by decide +kernel
theorem xd_Ch_bindUsesOf_3 : decode xb_Ch_bindUsesOf 3 = .ok (.aload_n 1, 1) := by decide +kernel
theorem xd_Ch_bindUsesOf_4 : decode xb_Ch_bindUsesOf 4 = .ok (.getfield 94, 3) := by decide +kernel
theorem xd_Ch_bindUsesOf_7 : decode xb_Ch_bindUsesOf 7 = .ok (.getfield 74, 3) := by decide +kernel
theorem xd_Ch_bindUsesOf_10 : decode xb_Ch_bindUsesOf 10 = .ok (.if_icmp .ge 21, 3) := by decide +kernel
theorem xd_Ch_bindUsesOf_13 : decode xb_Ch_bindUsesOf 13 = .ok (.aload_n 0, 1) := by decide +kernel
theorem xd_Ch_bindUsesOf_14 : decode xb_Ch_bindUsesOf 14 = .ok (.aload_n 1, 1) := by decide +kernel
theorem xd_Ch_bindUsesOf_15 : decode xb_Ch_bindUsesOf 15 = .ok (.getfield 94, 3) := by decide +kernel
theorem xd_Ch_bindUsesOf_18 : decode xb_Ch_bindUsesOf 18 = .ok (.iload_n 2, 1) := by decide +kernel
theorem xd_Ch_bindUsesOf_19 : decode xb_Ch_bindUsesOf 19 = .ok (.invokevirtual 81, 3) := by decide +kernel
theorem xd_Ch_bindUsesOf_22 : decode xb_Ch_bindUsesOf 22 = .ok (.invokevirtual 97, 3) := by decide +kernel
theorem xd_Ch_bindUsesOf_25 : decode xb_Ch_bindUsesOf 25 = .ok (.iinc 2 1, 3) := by decide +kernel
theorem xd_Ch_bindUsesOf_28 : decode xb_Ch_bindUsesOf 28 = .ok (.goto (-26), 3) := by decide +kernel
theorem xd_Ch_bindUsesOf_31 : decode xb_Ch_bindUsesOf 31 = .ok (.return_, 1) := by decide +kernel
theorem xd_De_addRoots_0 : decode xb_De_addRoots 0 = .ok (.iconst 0, 1) := by decide +kernel
theorem xd_De_addRoots_1 : decode xb_De_addRoots 1 = .ok (.istore_n 1, 1) := by decide +kernel
theorem xd_De_addRoots_2 : decode xb_De_addRoots 2 = .ok (.iload_n 1, 1) := by decide +kernel
theorem xd_De_addRoots_3 : decode xb_De_addRoots 3 = .ok (.aload_n 0, 1) := by decide +kernel
theorem xd_De_addRoots_4 : decode xb_De_addRoots 4 = .ok (.getfield 10, 3) := by decide +kernel
theorem xd_De_addRoots_7 : decode xb_De_addRoots 7 = .ok (.getfield 198, 3) := by decide +kernel
theorem xd_De_addRoots_10 : decode xb_De_addRoots 10 = .ok (.if_icmp .ge 29, 3) := by decide +kernel
theorem xd_De_addRoots_13 : decode xb_De_addRoots 13 = .ok (.aload_n 0, 1) := by decide +kernel
theorem xd_De_addRoots_14 : decode xb_De_addRoots 14 = .ok (.getfield 28, 3) := by decide +kernel
theorem xd_De_addRoots_17 : decode xb_De_addRoots 17 = .ok (.aload_n 0, 1) := by decide +kernel
theorem xd_De_addRoots_18 : decode xb_De_addRoots 18 = .ok (.getfield 10, 3) := by decide +kernel
theorem xd_De_addRoots_21 : decode xb_De_addRoots 21 = .ok (.iload_n 1, 1) := by decide +kernel
theorem xd_De_addRoots_22 : decode xb_De_addRoots 22 = .ok (.invokevirtual 201, 3) := by decide +kernel
theorem xd_De_addRoots_25 : decode xb_De_addRoots 25 = .ok (.invokevirtual 205, 3) := by decide +kernel
theorem xd_De_addRoots_28 : decode xb_De_addRoots 28 = .ok (.ifCond .ne 5, 3) := by decide +kernel
theorem xd_De_addRoots_31 : decode xb_De_addRoots 31 = .ok (.iconst 0, 1) := by decide +kernel
theorem xd_De_addRoots_32 : decode xb_De_addRoots 32 = .ok (.ireturn, 1) := by decide +kernel
theorem xd_De_addRoots_33 : decode xb_De_addRoots 33 = .ok (.iinc 1 1, 3) := by decide +kernel
theorem xd_De_addRoots_36 : decode xb_De_addRoots 36 = .ok (.goto (-34), 3) := by decide +kernel
theorem xd_De_addRoots_39 : decode xb_De_addRoots 39 = .ok (.iconst 1, 1) := by decide +kernel
theorem xd_De_addRoots_40 : decode xb_De_addRoots 40 = .ok (.ireturn, 1) := by decide +kernel
theorem yr_0 : (Cond.fieldLink "LayerDesk$Chooser" 21 "LayerDesk$Chooser" "finder" "I") ∈ wT := wT_t (List.mem_append_left _ (List.mem_of_getElem? (i := 84) rfl)) rfl
theorem yr_1 : (Cond.fieldLink "LayerDesk$Chooser" 24 "LayerDesk$Chooser" "parent" "LLayerDesk$Layer;") ∈ wT := wT_t (List.mem_append_left _ (List.mem_of_getElem? (i := 85) rfl)) rfl
theorem yr_2 : (Cond.fieldLink "LayerDesk$Chooser" 17 "LayerDesk$Chooser" "size" "I") ∈ wT := wT_t (List.mem_append_left _ (List.mem_of_getElem? (i := 83) rfl)) rfl
theorem yr_3 : (Cond.fieldLink "LayerDesk$Chooser" 28 "LayerDesk$Chooser" "shelf" "LLayerDesk$Shelf;") ∈ wT := wT_t (List.mem_append_left _ (List.mem_of_getElem? (i := 81) rfl)) rfl
theorem yr_4 : (Cond.code xy_Sh_find xb_Sh_find 4 (some (.object "LayerDesk$Descriptor"))) ∈ wT := wT_t (List.mem_append_right _ (List.mem_append_left _ (List.mem_of_getElem? (i := 21) rfl))) rfl
theorem yr_5 : (Cond.methodLink "LayerDesk$Chooser" 56 xy_Sh_find) ∈ wT := wT_t (List.mem_append_right _ (List.mem_append_right _ (List.mem_append_left _ (List.mem_of_getElem? (i := 81) rfl)))) rfl
theorem yr_6 : (Cond.instanceMethod xy_Sh_find) ∈ wT := wT_t (List.mem_append_right _ (List.mem_append_left _ (List.mem_of_getElem? (i := 19) rfl))) rfl
theorem yr_7 : (Cond.selects "LayerDesk$Shelf" xy_Sh_find xy_Sh_find) ∈ wT := wT_t (List.mem_append_right _ (List.mem_append_left _ (List.mem_of_getElem? (i := 20) rfl))) rfl
theorem yr_8 : (Cond.initialized "LayerDesk$Shelf") ∈ wT := wT_t (List.mem_append_left _ (List.mem_of_getElem? (i := 3) rfl)) rfl
theorem yr_9 : (Cond.code xy_Ly_lookUp xb_Ly_lookUp 4 (some (.object "LayerDesk$Member"))) ∈ wT := wT_t (List.mem_append_right _ (List.mem_append_right _ (List.mem_append_left _ (List.mem_of_getElem? (i := 85) rfl)))) rfl
theorem yr_10 : (Cond.methodLink "LayerDesk$Chooser" 62 xy_Ly_lookUp) ∈ wT := wT_t (List.mem_append_right _ (List.mem_append_right _ (List.mem_append_left _ (List.mem_of_getElem? (i := 82) rfl)))) rfl
theorem yr_11 : (Cond.instanceMethod xy_Ly_lookUp) ∈ wT := wT_t (List.mem_append_right _ (List.mem_append_right _ (List.mem_append_left _ (List.mem_of_getElem? (i := 83) rfl)))) rfl
theorem yr_12 : (Cond.selects "LayerDesk$Layer" xy_Ly_lookUp xy_Ly_lookUp) ∈ wT := wT_t (List.mem_append_right _ (List.mem_append_right _ (List.mem_append_left _ (List.mem_of_getElem? (i := 84) rfl)))) rfl
theorem yr_13 : (Cond.initialized "LayerDesk$Layer") ∈ wT := wT_t (List.mem_append_left _ (List.mem_of_getElem? (i := 19) rfl)) rfl
theorem yr_14 : (Cond.code xy_Ch_isChosen xb_Ch_isChosen 3 (some .boolean)) ∈ wT := wT_t (List.mem_append_right _ (List.mem_append_right _ (List.mem_append_left _ (List.mem_of_getElem? (i := 89) rfl)))) rfl
theorem yr_15 : (Cond.methodLink "LayerDesk$Chooser" 66 xy_Ch_isChosen) ∈ wT := wT_t (List.mem_append_right _ (List.mem_append_right _ (List.mem_append_left _ (List.mem_of_getElem? (i := 86) rfl)))) rfl
theorem yr_16 : (Cond.instanceMethod xy_Ch_isChosen) ∈ wT := wT_t (List.mem_append_right _ (List.mem_append_right _ (List.mem_append_left _ (List.mem_of_getElem? (i := 88) rfl)))) rfl
theorem yr_17 : (Cond.selects "LayerDesk$Chooser" xy_Ch_isChosen xy_Ch_isChosen) ∈ wT := wT_s (q := (xy_Ch_isChosen, 5)) (by decide +kernel) rfl
theorem yr_18 : (Cond.initialized "LayerDesk$Chooser") ∈ wT := wT_t (List.mem_append_left _ (List.mem_of_getElem? (i := 4) rfl)) rfl
theorem yr_19 : (Cond.fieldLink "LayerDesk$Chooser" 11 "LayerDesk$Chooser" "chosen" "[LLayerDesk$Descriptor;") ∈ wT := wT_t (List.mem_append_left _ (List.mem_of_getElem? (i := 82) rfl)) rfl
theorem yr_20 : (Cond.fieldLink "LayerDesk$Chooser" 70 "LayerDesk$Descriptor" "required" "LLayerDesk$Names;") ∈ wT := wT_t (List.mem_append_right _ (List.mem_append_left _ (List.mem_of_getElem? (i := 68) rfl))) rfl
theorem yr_21 : (Cond.fieldLink "LayerDesk$Chooser" 74 "LayerDesk$Names" "size" "I") ∈ wT := wT_t (List.mem_append_right _ (List.mem_append_left _ (List.mem_of_getElem? (i := 37) rfl))) rfl
theorem yr_22 : (Cond.fieldLink "LayerDesk$Chooser" 77 "LayerDesk$Descriptor" "optional" "[Z") ∈ wT := wT_t (List.mem_append_right _ (List.mem_append_left _ (List.mem_of_getElem? (i := 74) rfl))) rfl
theorem yr_23 : (Cond.code xy_Na_at xb_Na_at 2 (some .int)) ∈ wT := wT_t (List.mem_append_right _ (List.mem_append_right _ (List.mem_append_left _ (List.mem_of_getElem? (i := 93) rfl)))) rfl
theorem yr_24 : (Cond.methodLink "LayerDesk$Chooser" 81 xy_Na_at) ∈ wT := wT_t (List.mem_append_right _ (List.mem_append_right _ (List.mem_append_left _ (List.mem_of_getElem? (i := 90) rfl)))) rfl
theorem yr_25 : (Cond.instanceMethod xy_Na_at) ∈ wT := wT_t (List.mem_append_right _ (List.mem_append_right _ (List.mem_append_left _ (List.mem_of_getElem? (i := 91) rfl)))) rfl
theorem yr_26 : (Cond.selects "LayerDesk$Names" xy_Na_at xy_Na_at) ∈ wT := wT_t (List.mem_append_right _ (List.mem_append_right _ (List.mem_append_left _ (List.mem_of_getElem? (i := 92) rfl)))) rfl
theorem yr_27 : (Cond.initialized "LayerDesk$Names") ∈ wT := wT_t (List.mem_append_left _ (List.mem_of_getElem? (i := 11) rfl)) rfl
theorem yr_28 : (Cond.code xy_Ch_addName xb_Ch_addName 5 (some .boolean)) ∈ wT := wT_t (List.mem_append_right _ (List.mem_append_right _ (List.mem_append_left _ (List.mem_of_getElem? (i := 80) rfl)))) rfl
theorem yr_29 : (Cond.methodLink "LayerDesk$Chooser" 32 xy_Ch_addName) ∈ wT := wT_t (List.mem_append_right _ (List.mem_append_right _ (List.mem_append_left _ (List.mem_of_getElem? (i := 77) rfl)))) rfl
theorem yr_30 : (Cond.instanceMethod xy_Ch_addName) ∈ wT := wT_t (List.mem_append_right _ (List.mem_append_right _ (List.mem_append_left _ (List.mem_of_getElem? (i := 79) rfl)))) rfl
theorem yr_31 : (Cond.selects "LayerDesk$Chooser" xy_Ch_addName xy_Ch_addName) ∈ wT := wT_s (q := (xy_Ch_addName, 5)) (by decide +kernel) rfl
theorem yr_32 : (Cond.fieldLink "LayerDesk$Chooser" 101 "LayerDesk$Shelf" "size" "I") ∈ wT := wT_t (List.mem_append_left _ (List.mem_of_getElem? (i := 68) rfl)) rfl
theorem yr_33 : (Cond.fieldLink "LayerDesk$Chooser" 102 "LayerDesk$Shelf" "descriptors" "[LLayerDesk$Descriptor;") ∈ wT := wT_t (List.mem_append_left _ (List.mem_of_getElem? (i := 65) rfl)) rfl
theorem yr_34 : (Cond.fieldLink "LayerDesk$Chooser" 105 "LayerDesk$Descriptor" "finder" "I") ∈ wT := wT_t (List.mem_append_right _ (List.mem_append_left _ (List.mem_of_getElem? (i := 53) rfl))) rfl
theorem yr_35 : (Cond.fieldLink "LayerDesk$Chooser" 106 "LayerDesk$Descriptor" "provided" "LLayerDesk$Names;") ∈ wT := wT_t (List.mem_append_right _ (List.mem_append_left _ (List.mem_of_getElem? (i := 80) rfl))) rfl
theorem yr_36 : (Cond.code xy_Na_holds xb_Na_holds 2 (some .boolean)) ∈ wT := wT_t (List.mem_append_right _ (List.mem_append_left _ (List.mem_of_getElem? (i := 123) rfl))) rfl
theorem yr_37 : (Cond.methodLink "LayerDesk$Chooser" 109 xy_Na_holds) ∈ wT := wT_t (List.mem_append_right _ (List.mem_append_right _ (List.mem_append_left _ (List.mem_of_getElem? (i := 126) rfl)))) rfl
theorem yr_38 : (Cond.instanceMethod xy_Na_holds) ∈ wT := wT_t (List.mem_append_right _ (List.mem_append_left _ (List.mem_of_getElem? (i := 121) rfl))) rfl
theorem yr_39 : (Cond.selects "LayerDesk$Names" xy_Na_holds xy_Na_holds) ∈ wT := wT_t (List.mem_append_right _ (List.mem_append_left _ (List.mem_of_getElem? (i := 122) rfl))) rfl
theorem yr_40 : (Cond.fieldLink "LayerDesk$Chooser" 113 "LayerDesk$Descriptor" "name" "I") ∈ wT := wT_t (List.mem_append_right _ (List.mem_append_left _ (List.mem_of_getElem? (i := 58) rfl))) rfl
theorem yr_41 : (Cond.fieldLink "LayerDesk$Chooser" 94 "LayerDesk$Descriptor" "used" "LLayerDesk$Names;") ∈ wT := wT_t (List.mem_append_right _ (List.mem_append_left _ (List.mem_of_getElem? (i := 76) rfl))) rfl
theorem yr_42 : (Cond.code xy_Ch_bindProvidersOf xb_Ch_bindProvidersOf 5 none) ∈ wT := wT_t (List.mem_append_right _ (List.mem_append_right _ (List.mem_append_left _ (List.mem_of_getElem? (i := 125) rfl)))) rfl
theorem yr_43 : (Cond.methodLink "LayerDesk$Chooser" 97 xy_Ch_bindProvidersOf) ∈ wT := wT_t (List.mem_append_right _ (List.mem_append_right _ (List.mem_append_left _ (List.mem_of_getElem? (i := 122) rfl)))) rfl
theorem yr_44 : (Cond.instanceMethod xy_Ch_bindProvidersOf) ∈ wT := wT_t (List.mem_append_right _ (List.mem_append_right _ (List.mem_append_left _ (List.mem_of_getElem? (i := 124) rfl)))) rfl
theorem yr_45 : (Cond.selects "LayerDesk$Chooser" xy_Ch_bindProvidersOf xy_Ch_bindProvidersOf) ∈ wT := wT_s (q := (xy_Ch_bindProvidersOf, 5)) (by decide +kernel) rfl
theorem yr_46 : (Cond.fieldLink "LayerDesk$Chooser" 44 "LayerDesk$Layer" "members" "[LLayerDesk$Member;") ∈ wT := wT_t (List.mem_append_right _ (List.mem_append_right _ (List.mem_append_left _ (List.mem_of_getElem? (i := 149) rfl)))) rfl
theorem yr_47 : (Cond.fieldLink "LayerDesk$Chooser" 93 "LayerDesk$Layer" "parent" "LLayerDesk$Layer;") ∈ wT := wT_t (List.mem_append_right _ (List.mem_append_right _ (List.mem_append_left _ (List.mem_of_getElem? (i := 145) rfl)))) rfl
theorem yr_48 : (Cond.fieldLink "LayerDesk$Chooser" 89 "LayerDesk$Member" "descriptor" "LLayerDesk$Descriptor;") ∈ wT := wT_t (List.mem_append_right _ (List.mem_append_right _ (List.mem_append_left _ (List.mem_of_getElem? (i := 184) rfl)))) rfl
theorem yr_49 : (Cond.code xy_Ch_bindUsesOf xb_Ch_bindUsesOf 3 none) ∈ wT := wT_t (List.mem_append_right _ (List.mem_append_right _ (List.mem_append_left _ (List.mem_of_getElem? (i := 121) rfl)))) rfl
theorem yr_50 : (Cond.methodLink "LayerDesk$Chooser" 85 xy_Ch_bindUsesOf) ∈ wT := wT_t (List.mem_append_right _ (List.mem_append_right _ (List.mem_append_left _ (List.mem_of_getElem? (i := 118) rfl)))) rfl
theorem yr_51 : (Cond.instanceMethod xy_Ch_bindUsesOf) ∈ wT := wT_t (List.mem_append_right _ (List.mem_append_right _ (List.mem_append_left _ (List.mem_of_getElem? (i := 120) rfl)))) rfl
theorem yr_52 : (Cond.selects "LayerDesk$Chooser" xy_Ch_bindUsesOf xy_Ch_bindUsesOf) ∈ wT := wT_s (q := (xy_Ch_bindUsesOf, 5)) (by decide +kernel) rfl
theorem yr_53 : (Cond.code xy_Ch_bindOnce xb_Ch_bindOnce 3 none) ∈ wT := wT_t (List.mem_append_right _ (List.mem_append_right _ (List.mem_append_left _ (List.mem_of_getElem? (i := 117) rfl)))) rfl
theorem yr_54 : (Cond.methodLink "LayerDesk$Chooser" 36 xy_Ch_bindOnce) ∈ wT := wT_t (List.mem_append_right _ (List.mem_append_right _ (List.mem_append_left _ (List.mem_of_getElem? (i := 114) rfl)))) rfl
theorem yr_55 : (Cond.instanceMethod xy_Ch_bindOnce) ∈ wT := wT_t (List.mem_append_right _ (List.mem_append_right _ (List.mem_append_left _ (List.mem_of_getElem? (i := 116) rfl)))) rfl
theorem yr_56 : (Cond.selects "LayerDesk$Chooser" xy_Ch_bindOnce xy_Ch_bindOnce) ∈ wT := wT_s (q := (xy_Ch_bindOnce, 5)) (by decide +kernel) rfl
theorem yr_57 : (Cond.fieldLink "LayerDesk" 10 "LayerDesk" "written" "LLayerDesk$Line;") ∈ wT := wT_t (List.mem_append_left _ (List.mem_of_getElem? (i := 99) rfl)) rfl
theorem yr_58 : (Cond.fieldLink "LayerDesk" 198 "LayerDesk$Line" "words" "I") ∈ wT := wT_t (List.mem_append_left _ (List.mem_of_getElem? (i := 42) rfl)) rfl
theorem yr_59 : (Cond.fieldLink "LayerDesk" 28 "LayerDesk" "chooser" "LLayerDesk$Chooser;") ∈ wT := wT_t (List.mem_append_left _ (List.mem_of_getElem? (i := 101) rfl)) rfl
theorem yr_60 : (Cond.code xy_Li_nameAt xb_Li_nameAt 4 (some .int)) ∈ wT := wT_t (List.mem_append_right _ (List.mem_append_left _ (List.mem_of_getElem? (i := 17) rfl))) rfl
theorem yr_61 : (Cond.methodLink "LayerDesk" 201 xy_Li_nameAt) ∈ wT := wT_t (List.mem_append_right _ (List.mem_append_right _ (List.mem_append_left _ (List.mem_of_getElem? (i := 60) rfl)))) rfl
theorem yr_62 : (Cond.instanceMethod xy_Li_nameAt) ∈ wT := wT_t (List.mem_append_right _ (List.mem_append_left _ (List.mem_of_getElem? (i := 15) rfl))) rfl
theorem yr_63 : (Cond.selects "LayerDesk$Line" xy_Li_nameAt xy_Li_nameAt) ∈ wT := wT_t (List.mem_append_right _ (List.mem_append_left _ (List.mem_of_getElem? (i := 16) rfl))) rfl
theorem yr_64 : (Cond.initialized "LayerDesk$Line") ∈ wT := wT_t (List.mem_append_left _ (List.mem_of_getElem? (i := 2) rfl)) rfl
theorem yr_65 : (Cond.code xy_Ch_addRoot xb_Ch_addRoot 2 (some .boolean)) ∈ wT := wT_t (List.mem_append_right _ (List.mem_append_right _ (List.mem_append_left _ (List.mem_of_getElem? (i := 76) rfl)))) rfl
theorem yr_66 : (Cond.methodLink "LayerDesk" 205 xy_Ch_addRoot) ∈ wT := wT_t (List.mem_append_right _ (List.mem_append_right _ (List.mem_append_left _ (List.mem_of_getElem? (i := 73) rfl)))) rfl
theorem yr_67 : (Cond.instanceMethod xy_Ch_addRoot) ∈ wT := wT_t (List.mem_append_right _ (List.mem_append_right _ (List.mem_append_left _ (List.mem_of_getElem? (i := 74) rfl)))) rfl
theorem yr_68 : (Cond.selects "LayerDesk$Chooser" xy_Ch_addRoot xy_Ch_addRoot) ∈ wT := wT_t (List.mem_append_right _ (List.mem_append_right _ (List.mem_append_left _ (List.mem_of_getElem? (i := 75) rfl)))) rfl
set_option maxHeartbeats 4000000 in
set_option maxRecDepth 100000 in
theorem xc_Ch_beginN (l : Launch) (D : va_G) (kA : Nat → ClassId) (sz : Nat) (ad : Nat → Nat → Nat) (E : Nat → Nat → va_E) (RL : List (Nat × Nat)) (cs : Nat) (cf : Int32) (pv : Value) (fi : Int32) (ym0 : (0, 7) ∈ RL) (yc0 : E 0 7 = .inr (3, [.ref (ad 0 5), .ref (ad 0 8), .int (nI cs), .int cf, pv])) : Met l xy_Ch_begin (.code xy_Ch_begin xb_Ch_begin 3 none :: wT) { frames := 0, cells := 0, slots := 0, locals := 0 } (va_Pc [.ref (ad 0 7), .int fi, .null] (xPre D kA sz (rp ad E RL))) (va_Qv (fun (u : Nat → Nat → va_E) => (True) ∧ (u 0 7 = .inr (3, [.ref (ad 0 5), .ref (ad 0 8), .int 0, .int fi, .null])) ∧ ((∀ b2 o2, ¬ (b2 = 0 ∧ o2 = 7) → u b2 o2 = E b2 o2))) (fun (u : Nat → Nat → va_E) t => va_P D xcl (rp ad u RL) t.heap ∧ va_D (va_A (rp ad E RL) sz) (rp ad u RL)) (va_A (rp ad E RL) sz)) 0 0 (va_A (rp ad E RL) sz) := by
  refine Met.ofW (cc := xb_Ch_begin) (maxL := 3) (ret := none) (by decide) rfl ?_
  intro p e s m args below meth c s₁ B hml hv
  obtain ⟨rfl, hsz, hP, hK, hD0⟩ := hv
  have hx := B.exec
  have hb := B.bytes
  have hr := B.returns
  have hT := x_hT B.pre
  have hown : s.vm.findClass xR_Ch = some m.cls := findClass_of_methodNamed B.named
  have hlocks := B.notSynchronized
  subst hsz
  have hD := hD0.self (sz := s.heap.size)
  generalize hAe : va_A (rp ad E RL) s.heap.size = A at hD ⊢
  have hA : ∀ q : Nat, s.heap.size ≤ q → A q := fun q h => by rw [← hAe]; exact Or.inr h
  have hS : va_S A s.heap s.heap [] := va_S.rf
  have hl := lv_entry ([.ref (ad 0 7), .int fi, .null]) (n := 3) (Nat.le_of_ble_eq_true rfl)
  rw [lg_entry_eq]
  generalize (lg_sl ([.ref (ad 0 7), .int fi, .null]) ++ List.replicate (3 - (lg_sl ([.ref (ad 0 7), .int fi, .null])).length) Slot.unset).toArray = ls at hl ⊢
  have hl : lv_has ls 3 [(0, .ref (ad 0 7)), (1, .int fi), (2, .null)] := hl
  have hP : va_P D xcl (rp ad E RL) s.heap := hP
  refine lv_aload_n hx hb xd_Ch_begin_0 rfl (lv_at hl 0 rfl) ?_
  refine lv_iload_n hx hb xd_Ch_begin_1 rfl (lv_at hl 1 rfl) ?_
  refine px_put (D := D) (ci := 3) (v := .int fi) (ty := .int) (C := xR_Ch) (T := xT_Ch) (N := 5) hx hb hT xi_Ch xt_Ch xt_Ch_ok xn_Ch hown hK.1 hP hD hS ym0 yc0 rfl 3 (by decide) (hT _ yr_0) (fun _ h9 => h9) rfl (by decide +kernel) rfl rfl (Nat.le_of_ble_eq_true rfl) xd_Ch_begin_2 (fun H locs hP hD hS => ?_)
  have hP : va_P D xcl (rp ad (up2 E 0 7 (.inr (3, [.ref (ad 0 5), .ref (ad 0 8), .int (nI cs), .int fi, pv]))) RL) H := hP
  have hD : va_D A (rp ad (up2 E 0 7 (.inr (3, [.ref (ad 0 5), .ref (ad 0 8), .int (nI cs), .int fi, pv]))) RL) := hD
  generalize hE2 : up2 E 0 7 (.inr (3, [.ref (ad 0 5), .ref (ad 0 8), .int (nI cs), .int fi, pv])) = E1 at hP hD
  have fE3 : ∀ b2 o2, ¬ (b2 = 0 ∧ o2 = 7) → E1 b2 o2 = E b2 o2 := fun b2 o2 h9 => by rw [← hE2]; exact up2_ne (by omega)
  have c_4 : E1 0 7 = .inr (3, [.ref (ad 0 5), .ref (ad 0 8), .int (nI cs), .int fi, pv]) := by rw [← hE2]; exact up2_eq
  refine lv_aload_n hx hb xd_Ch_begin_5 rfl (lv_at hl 0 rfl) ?_
  refine lv_aload_nN hx hb xd_Ch_begin_6 rfl (lv_at hl 2 rfl) ?_
  refine px_put (D := D) (ci := 3) (v := .null) (ty := .object "LayerDesk$Layer") (C := xR_Ch) (T := xT_Ch) (N := 5) hx hb hT xi_Ch xt_Ch xt_Ch_ok xn_Ch hown hK.1 hP hD hS ym0 c_4 rfl 4 (by decide) (hT _ yr_1) (fun _ h9 => h9) rfl (by decide +kernel) rfl rfl (Nat.le_of_ble_eq_true rfl) xd_Ch_begin_7 (fun H locs hP hD hS => ?_)
  have hP : va_P D xcl (rp ad (up2 E1 0 7 (.inr (3, [.ref (ad 0 5), .ref (ad 0 8), .int (nI cs), .int fi, .null]))) RL) H := hP
  have hD : va_D A (rp ad (up2 E1 0 7 (.inr (3, [.ref (ad 0 5), .ref (ad 0 8), .int (nI cs), .int fi, .null]))) RL) := hD
  generalize hE6 : up2 E1 0 7 (.inr (3, [.ref (ad 0 5), .ref (ad 0 8), .int (nI cs), .int fi, .null])) = E5 at hP hD
  have fE7 : ∀ b2 o2, ¬ (b2 = 0 ∧ o2 = 7) → E5 b2 o2 = E1 b2 o2 := fun b2 o2 h9 => by rw [← hE6]; exact up2_ne (by omega)
  have c_8 : E5 0 7 = .inr (3, [.ref (ad 0 5), .ref (ad 0 8), .int (nI cs), .int fi, .null]) := by rw [← hE6]; exact up2_eq
  refine lv_aload_n hx hb xd_Ch_begin_10 rfl (lv_at hl 0 rfl) ?_
  refine lv_iconst (v := 0) hx hb xd_Ch_begin_11 (by decide) ?_
  refine px_put (D := D) (ci := 3) (v := .int 0) (ty := .int) (C := xR_Ch) (T := xT_Ch) (N := 5) hx hb hT xi_Ch xt_Ch xt_Ch_ok xn_Ch hown hK.1 hP hD hS ym0 c_8 rfl 2 (by decide) (hT _ yr_2) (fun _ h9 => h9) rfl (by decide +kernel) rfl rfl (Nat.le_of_ble_eq_true rfl) xd_Ch_begin_12 (fun H locs hP hD hS => ?_)
  have hP : va_P D xcl (rp ad (up2 E5 0 7 (.inr (3, [.ref (ad 0 5), .ref (ad 0 8), .int 0, .int fi, .null]))) RL) H := hP
  have hD : va_D A (rp ad (up2 E5 0 7 (.inr (3, [.ref (ad 0 5), .ref (ad 0 8), .int 0, .int fi, .null]))) RL) := hD
  generalize hE10 : up2 E5 0 7 (.inr (3, [.ref (ad 0 5), .ref (ad 0 8), .int 0, .int fi, .null])) = E9 at hP hD
  have fE11 : ∀ b2 o2, ¬ (b2 = 0 ∧ o2 = 7) → E9 b2 o2 = E5 b2 o2 := fun b2 o2 h9 => by rw [← hE10]; exact up2_ne (by omega)
  have c_12 : E9 0 7 = .inr (3, [.ref (ad 0 5), .ref (ad 0 8), .int 0, .int fi, .null]) := by rw [← hE10]; exact up2_eq
  exact W.vret hx hb hr (fun t ht hW => ⟨⟨E9, rfl, ⟨trivial, c_12, (fun b2 o2 h09 => by show E9 b2 o2 = _; rw [fE11 b2 o2 (by omega), fE7 b2 o2 (by omega), fE3 b2 o2 (by omega)])⟩, by rw [ht]; exact hP, hD⟩, hS.F ht⟩) hS.2.2 xd_Ch_begin_15
set_option maxHeartbeats 4000000 in
set_option maxRecDepth 100000 in
theorem xc_Ch_beginR (l : Launch) (D : va_G) (kA : Nat → ClassId) (sz : Nat) (ad : Nat → Nat → Nat) (E : Nat → Nat → va_E) (RL : List (Nat × Nat)) (cs : Nat) (cf : Int32) (pv : Value) (fi : Int32) (pa : Nat) (ym0 : (0, 7) ∈ RL) (yc0 : E 0 7 = .inr (3, [.ref (ad 0 5), .ref (ad 0 8), .int (nI cs), .int cf, pv])) : Met l xy_Ch_begin (.code xy_Ch_begin xb_Ch_begin 3 none :: wT) { frames := 0, cells := 0, slots := 0, locals := 0 } (va_Pc [.ref (ad 0 7), .int fi, .ref pa] (xPre D kA sz (rp ad E RL))) (va_Qv (fun (u : Nat → Nat → va_E) => (True) ∧ (u 0 7 = .inr (3, [.ref (ad 0 5), .ref (ad 0 8), .int 0, .int fi, .ref pa])) ∧ ((∀ b2 o2, ¬ (b2 = 0 ∧ o2 = 7) → u b2 o2 = E b2 o2))) (fun (u : Nat → Nat → va_E) t => va_P D xcl (rp ad u RL) t.heap ∧ va_D (va_A (rp ad E RL) sz) (rp ad u RL)) (va_A (rp ad E RL) sz)) 0 0 (va_A (rp ad E RL) sz) := by
  refine Met.ofW (cc := xb_Ch_begin) (maxL := 3) (ret := none) (by decide) rfl ?_
  intro p e s m args below meth c s₁ B hml hv
  obtain ⟨rfl, hsz, hP, hK, hD0⟩ := hv
  have hx := B.exec
  have hb := B.bytes
  have hr := B.returns
  have hT := x_hT B.pre
  have hown : s.vm.findClass xR_Ch = some m.cls := findClass_of_methodNamed B.named
  have hlocks := B.notSynchronized
  subst hsz
  have hD := hD0.self (sz := s.heap.size)
  generalize hAe : va_A (rp ad E RL) s.heap.size = A at hD ⊢
  have hA : ∀ q : Nat, s.heap.size ≤ q → A q := fun q h => by rw [← hAe]; exact Or.inr h
  have hS : va_S A s.heap s.heap [] := va_S.rf
  have hl := lv_entry ([.ref (ad 0 7), .int fi, .ref pa]) (n := 3) (Nat.le_of_ble_eq_true rfl)
  rw [lg_entry_eq]
  generalize (lg_sl ([.ref (ad 0 7), .int fi, .ref pa]) ++ List.replicate (3 - (lg_sl ([.ref (ad 0 7), .int fi, .ref pa])).length) Slot.unset).toArray = ls at hl ⊢
  have hl : lv_has ls 3 [(0, .ref (ad 0 7)), (1, .int fi), (2, .ref pa)] := hl
  have hP : va_P D xcl (rp ad E RL) s.heap := hP
  refine lv_aload_n hx hb xd_Ch_begin_0 rfl (lv_at hl 0 rfl) ?_
  refine lv_iload_n hx hb xd_Ch_begin_1 rfl (lv_at hl 1 rfl) ?_
  refine px_put (D := D) (ci := 3) (v := .int fi) (ty := .int) (C := xR_Ch) (T := xT_Ch) (N := 5) hx hb hT xi_Ch xt_Ch xt_Ch_ok xn_Ch hown hK.1 hP hD hS ym0 yc0 rfl 3 (by decide) (hT _ yr_0) (fun _ h9 => h9) rfl (by decide +kernel) rfl rfl (Nat.le_of_ble_eq_true rfl) xd_Ch_begin_2 (fun H locs hP hD hS => ?_)
  have hP : va_P D xcl (rp ad (up2 E 0 7 (.inr (3, [.ref (ad 0 5), .ref (ad 0 8), .int (nI cs), .int fi, pv]))) RL) H := hP
  have hD : va_D A (rp ad (up2 E 0 7 (.inr (3, [.ref (ad 0 5), .ref (ad 0 8), .int (nI cs), .int fi, pv]))) RL) := hD
  generalize hE2 : up2 E 0 7 (.inr (3, [.ref (ad 0 5), .ref (ad 0 8), .int (nI cs), .int fi, pv])) = E1 at hP hD
  have fE3 : ∀ b2 o2, ¬ (b2 = 0 ∧ o2 = 7) → E1 b2 o2 = E b2 o2 := fun b2 o2 h9 => by rw [← hE2]; exact up2_ne (by omega)
  have c_4 : E1 0 7 = .inr (3, [.ref (ad 0 5), .ref (ad 0 8), .int (nI cs), .int fi, pv]) := by rw [← hE2]; exact up2_eq
  refine lv_aload_n hx hb xd_Ch_begin_5 rfl (lv_at hl 0 rfl) ?_
  refine lv_aload_n hx hb xd_Ch_begin_6 rfl (lv_at hl 2 rfl) ?_
  refine px_put (D := D) (ci := 3) (v := .ref pa) (ty := .object "LayerDesk$Layer") (C := xR_Ch) (T := xT_Ch) (N := 5) hx hb hT xi_Ch xt_Ch xt_Ch_ok xn_Ch hown hK.1 hP hD hS ym0 c_4 rfl 4 (by decide) (hT _ yr_1) (fun _ h9 => h9) rfl (by decide +kernel) rfl rfl (Nat.le_of_ble_eq_true rfl) xd_Ch_begin_7 (fun H locs hP hD hS => ?_)
  have hP : va_P D xcl (rp ad (up2 E1 0 7 (.inr (3, [.ref (ad 0 5), .ref (ad 0 8), .int (nI cs), .int fi, .ref pa]))) RL) H := hP
  have hD : va_D A (rp ad (up2 E1 0 7 (.inr (3, [.ref (ad 0 5), .ref (ad 0 8), .int (nI cs), .int fi, .ref pa]))) RL) := hD
  generalize hE6 : up2 E1 0 7 (.inr (3, [.ref (ad 0 5), .ref (ad 0 8), .int (nI cs), .int fi, .ref pa])) = E5 at hP hD
  have fE7 : ∀ b2 o2, ¬ (b2 = 0 ∧ o2 = 7) → E5 b2 o2 = E1 b2 o2 := fun b2 o2 h9 => by rw [← hE6]; exact up2_ne (by omega)
  have c_8 : E5 0 7 = .inr (3, [.ref (ad 0 5), .ref (ad 0 8), .int (nI cs), .int fi, .ref pa]) := by rw [← hE6]; exact up2_eq
  refine lv_aload_n hx hb xd_Ch_begin_10 rfl (lv_at hl 0 rfl) ?_
  refine lv_iconst (v := 0) hx hb xd_Ch_begin_11 (by decide) ?_
  refine px_put (D := D) (ci := 3) (v := .int 0) (ty := .int) (C := xR_Ch) (T := xT_Ch) (N := 5) hx hb hT xi_Ch xt_Ch xt_Ch_ok xn_Ch hown hK.1 hP hD hS ym0 c_8 rfl 2 (by decide) (hT _ yr_2) (fun _ h9 => h9) rfl (by decide +kernel) rfl rfl (Nat.le_of_ble_eq_true rfl) xd_Ch_begin_12 (fun H locs hP hD hS => ?_)
  have hP : va_P D xcl (rp ad (up2 E5 0 7 (.inr (3, [.ref (ad 0 5), .ref (ad 0 8), .int 0, .int fi, .ref pa]))) RL) H := hP
  have hD : va_D A (rp ad (up2 E5 0 7 (.inr (3, [.ref (ad 0 5), .ref (ad 0 8), .int 0, .int fi, .ref pa]))) RL) := hD
  generalize hE10 : up2 E5 0 7 (.inr (3, [.ref (ad 0 5), .ref (ad 0 8), .int 0, .int fi, .ref pa])) = E9 at hP hD
  have fE11 : ∀ b2 o2, ¬ (b2 = 0 ∧ o2 = 7) → E9 b2 o2 = E5 b2 o2 := fun b2 o2 h9 => by rw [← hE10]; exact up2_ne (by omega)
  have c_12 : E9 0 7 = .inr (3, [.ref (ad 0 5), .ref (ad 0 8), .int 0, .int fi, .ref pa]) := by rw [← hE10]; exact up2_eq
  exact W.vret hx hb hr (fun t ht hW => ⟨⟨E9, rfl, ⟨trivial, c_12, (fun b2 o2 h09 => by show E9 b2 o2 = _; rw [fE11 b2 o2 (by omega), fE7 b2 o2 (by omega), fE3 b2 o2 (by omega)])⟩, by rw [ht]; exact hP, hD⟩, hS.F ht⟩) hS.2.2 xd_Ch_begin_15
set_option maxHeartbeats 4000000 in
set_option maxRecDepth 100000 in
theorem xc_Ch_addNameR (f : Nat) : ∀ (l : Launch) (D : va_G) (kA : Nat → ClassId) (sz : Nat) (ad : Nat → Nat → Nat) (E : Nat → Nat → va_E) (RL : List (Nat × Nat)) (ml : Nat) (nd : Nat) (len : Nat) (wn : Nat) (cs : Nat) (nm : Int32) (dp : Nat) (hCI : CI kA ad E RL ml nd len wn cs) (hdp : dp + f = 12), Met l xy_Ch_addName (.code xy_Ch_addName xb_Ch_addName 5 (some .boolean) :: wT) { frames := 6 + f, cells := 0, slots := 0, locals := 90 + 90 * f } (va_Pc [.ref (ad 0 7), .int nm, .int (nI dp)] (xPre D kA sz (rp ad E RL))) (va_Qi (fun (r : Int32) (u : Nat → Nat → va_E) => (r = 0 ∨ r = 1) ∧ ∃ cs2, cs ≤ cs2 ∧ CI kA ad u RL ml nd len wn cs2) (fun (u : Nat → Nat → va_E) t => va_P D xcl (rp ad u RL) t.heap ∧ va_D (va_A (rp ad E RL) sz) (rp ad u RL)) (va_A (rp ad E RL) sz)) 0 0 (va_A (rp ad E RL) sz) := by
  induction f using Nat.strongRecOn
  rename_i f ih
  intro l D kA sz ad E RL ml nd len wn cs nm dp hCI hdp
  refine Met.ofW (cc := xb_Ch_addName) (maxL := 5) (ret := (some .boolean)) (by decide) rfl ?_
  intro p e s m args below meth c s₁ B hml hv
  obtain ⟨rfl, hsz, hP, hK, hD0⟩ := hv
  have hx := B.exec
  have hb := B.bytes
  have hr := B.returns
  have hT := x_hT B.pre
  have hown : s.vm.findClass xR_Ch = some m.cls := findClass_of_methodNamed B.named
  have hlocks := B.notSynchronized
  subst hsz
  have hD := hD0.self (sz := s.heap.size)
  generalize hAe : va_A (rp ad E RL) s.heap.size = A at hD ⊢
  have hA : ∀ q : Nat, s.heap.size ≤ q → A q := fun q h => by rw [← hAe]; exact Or.inr h
  have hS : va_S A s.heap s.heap [] := va_S.rf
  have hl := lv_entry ([.ref (ad 0 7), .int nm, .int (nI dp)]) (n := 5) (Nat.le_of_ble_eq_true rfl)
  rw [lg_entry_eq]
  generalize (lg_sl ([.ref (ad 0 7), .int nm, .int (nI dp)]) ++ List.replicate (5 - (lg_sl ([.ref (ad 0 7), .int nm, .int (nI dp)])).length) Slot.unset).toArray = ls at hl ⊢
  have hl : lv_has ls 5 [(0, .ref (ad 0 7)), (1, .int nm), (2, .int (nI dp))] := hl
  have hP : va_P D xcl (rp ad E RL) s.heap := hP
  obtain ⟨hmB, hDk, hLi, hSh, hCh, hLa, hDIs, hLIs⟩ := id hCI
  obtain ⟨lf_1, q_1⟩ := id (hDk)
  have c_2 : E 0 0 = .inr (0, [.ref (ad 0 1), .ref (ad 0 5), .ref (ad 0 7), .ref (ad 0 9), .int (nI ml), .int lf_1]) := q_1
  have m_3 : (0, 0) ∈ RL := hmB 0 (by omega)
  obtain ⟨tx_4, fb_4, fe_4, hl1_4, hw2_4, q1_4, q2_4, q3_4, q4_4, hws_4⟩ := id (hLi)
  have c_5 : E 0 1 = .inr (1, [.ref (ad 0 2), .ref (ad 0 3), .ref (ad 0 4), .int (nI len), .int (nI wn)]) := q1_4
  have m_6 : (0, 1) ∈ RL := hmB 1 (by omega)
  have c_7 : E 0 2 = .inl (kA 1, 40, .inl tx_4) := q2_4
  have m_8 : (0, 2) ∈ RL := hmB 2 (by omega)
  have c_9 : E 0 3 = .inl (kA 0, 20, .inl fb_4) := q3_4
  have m_10 : (0, 3) ∈ RL := hmB 3 (by omega)
  have c_11 : E 0 4 = .inl (kA 0, 20, .inl fe_4) := q4_4
  have m_12 : (0, 4) ∈ RL := hmB 4 (by omega)
  obtain ⟨fd_13, hnd_13, q5_13, q6_13, hds_13⟩ := id (hSh)
  have c_14 : E 0 5 = .inr (2, [.ref (ad 0 6), .int (nI nd)]) := q5_13
  have m_15 : (0, 5) ∈ RL := hmB 5 (by omega)
  have c_16 : E 0 6 = .inl (kA 4, 12, .inr (.inr (.inr (.inr fd_13)))) := q6_13
  have m_17 : (0, 6) ∈ RL := hmB 6 (by omega)
  obtain ⟨cf_18, pv_18, fc_18, hcs_18, hpv_18, q7_18, q8_18, hfc_18⟩ := id (hCh)
  have c_19 : E 0 7 = .inr (3, [.ref (ad 0 5), .ref (ad 0 8), .int (nI cs), .int cf_18, pv_18]) := q7_18
  have m_20 : (0, 7) ∈ RL := hmB 7 (by omega)
  have c_21 : E 0 8 = .inl (kA 4, 12, .inr (.inr (.inr (.inr fc_18)))) := q8_18
  have m_22 : (0, 8) ∈ RL := hmB 8 (by omega)
  obtain ⟨fl_23, hml_23, q9_23, hla_23⟩ := id (hLa)
  have c_24 : E 0 9 = .inl (kA 5, 5, .inr (.inr (.inr (.inr fl_23)))) := q9_23
  have m_25 : (0, 9) ∈ RL := hmB 9 (by omega)
  refine lv_aload_n hx hb xd_Ch_addName_0 rfl (lv_at hl 0 rfl) ?_
  refine px_get (D := D) (ci := 3) (v := .ref (ad 0 5)) (C := xR_Ch) (T := xT_Ch) (N := 5) hx hb hT xi_Ch hown hK.1 hP m_20 c_19 rfl 0 (by decide) (hT _ yr_3) (fun _ h9 => h9) rfl xd_Ch_addName_1 ?_
  refine lv_aload_n hx hb xd_Ch_addName_4 rfl (lv_at hl 0 rfl) ?_
  refine px_get (D := D) (ci := 3) (v := .int cf_18) (C := xR_Ch) (T := xT_Ch) (N := 5) hx hb hT xi_Ch hown hK.1 hP m_20 c_19 rfl 3 (by decide) (hT _ yr_0) (fun _ h9 => h9) rfl xd_Ch_addName_5 ?_
  refine lv_iload_n hx hb xd_Ch_addName_8 rfl (lv_at hl 1 rfl) ?_
  have hFc := px_free hD hS hA
  refine va_callq (va_runV (As := [.int cf_18, .int nm]) (rest := []) ⟨hx, hb, hml, hown, hT⟩ (xc_Sh_find l D kA s.heap.size ad E RL ml nd len wn cs cf_18 nm (by first | assumption | omega)) (cwV 2 hT (wT_V yr_5 yr_6 yr_7 yr_8 yr_4) rfl rfl rfl (by decide +kernel) ⟨(by dsimp only; omega), (by dsimp only; omega)⟩) (px_preV hK hP hD m_15 c_14 rfl) rfl rfl hl.1 rfl (lv_room (Nat.le_of_ble_eq_true rfl)) xd_Ch_addName_9 ⟨(Nat.le_of_ble_eq_true rfl), (Nat.le_of_ble_eq_true rfl)⟩) hS (fun q _ h => hFc q h) hFc (fun r26 u27 t H1 locs ht hvm hp28 hB hz1 hk1 hS => ?_)
  obtain ⟨hP1, hD1⟩ := hB
  rw [ht] at hP1
  have hD1 := hD1.weaken (fun _ _ _ h => hFc _ h)
  generalize H1 = H at hP1 hS ⊢
  have hP := hP1
  have hD := hD1
  have hP : va_P D xcl (rp ad E RL) H := hP
  have hD : va_D A (rp ad E RL) := hD
  rcases hp28 with rfl | ⟨z29, z30, rfl⟩
  · refine W.eq (g2 := F0 m 12 ls [.null]) rfl ?_
    refine lv_astore_nN hx hb xd_Ch_addName_12 rfl hl (Nat.le_of_ble_eq_true rfl) rfl (fun ls hl => ?_)
    have hl : lv_has ls 5 [(3, .null), (0, .ref (ad 0 7)), (1, .int nm), (2, .int (nI dp))] := hl
    refine lv_aload_nN hx hb xd_Ch_addName_13 rfl (lv_at hl 0 rfl) ?_
    refine lv_ifnonnullN hx hb xd_Ch_addName_14 ?_
    refine lv_aload_n hx hb xd_Ch_addName_17 rfl (lv_at hl 1 rfl) ?_
    refine px_get (D := D) (ci := 3) (v := pv_18) (C := xR_Ch) (T := xT_Ch) (N := 5) hx hb hT xi_Ch hown hK.1 hP m_20 c_19 rfl 4 (by decide) (hT _ yr_1) (fun _ h9 => h9) rfl xd_Ch_addName_18 ?_
    rcases hpv_18 with rfl | ⟨x31, hx32, rfl⟩
    · refine W.eq (g2 := F0 m 21 ls [.null]) rfl ?_
      refine lv_ifnullN (tgt := 39) hx hb xd_Ch_addName_21 (by decide) ?_
      refine lv_iconst (v := 0) hx hb xd_Ch_addName_39 (by decide) ?_
      refine W.widen (k := 0) (n := 0) (Nat.le_of_ble_eq_true rfl) (Nat.le_of_ble_eq_true rfl) ?_
      exact W.zret (v := 0) hx hb hr rfl (fun t ht hW => ⟨⟨0, E, rfl, ⟨Or.inl rfl, cs, by omega, hCI⟩, by rw [ht]; exact hP, hD⟩, hS.F ht⟩) hS.2.2 xd_Ch_addName_40
    · refine W.eq (g2 := F0 m 21 ls [.ref (ad (20 + x31) 0)]) rfl ?_
      refine lv_ifnull hx hb xd_Ch_addName_21 ?_
      refine lv_aload_n hx hb xd_Ch_addName_24 rfl (lv_at hl 1 rfl) ?_
      refine px_get (D := D) (ci := 3) (v := .ref (ad (20 + x31) 0)) (C := xR_Ch) (T := xT_Ch) (N := 5) hx hb hT xi_Ch hown hK.1 hP m_20 c_19 rfl 4 (by decide) (hT _ yr_1) (fun _ h9 => h9) rfl xd_Ch_addName_25 ?_
      refine lv_iload_n hx hb xd_Ch_addName_28 rfl (lv_at hl 2 rfl) ?_
      have hFc := px_free hD hS hA
      obtain ⟨m0_33, m1_33, pv_33, op_33, mk_33, fm_33, hmk_33, hpv_33, q0_33, q1_33, hk_33⟩ := id (hLIs x31 (by omega))
      have c_34 : E (20 + x31) 0 = .inr (5, [.int (nI x31), pv_33, .ref (ad (20 + x31) 1), .int op_33]) := q0_33
      have m_35 : (20 + x31, 0) ∈ RL := m0_33
      have c_36 : E (20 + x31) 1 = .inl (kA 6, mk_33, .inr (.inr (.inr (.inr fm_33)))) := q1_33
      have m_37 : (20 + x31, 1) ∈ RL := m1_33
      refine va_callq (va_runV (As := [.int nm]) (rest := []) ⟨hx, hb, hml, hown, hT⟩ (xc_Ly_lookUp l D kA H.size ad E RL nd ml x31 nm (by first | assumption | omega) (by first | assumption | omega) (by first | assumption | omega) (by first | assumption | omega)) (cwV 1 hT (wT_V yr_10 yr_11 yr_12 yr_13 yr_9) rfl rfl rfl (by decide +kernel) ⟨(by dsimp only; omega), (by dsimp only; omega)⟩) (px_preV hK hP hD m_35 c_34 rfl) rfl rfl hl.1 rfl (lv_room (Nat.le_of_ble_eq_true rfl)) xd_Ch_addName_29 ⟨(Nat.le_of_ble_eq_true rfl), (Nat.le_of_ble_eq_true rfl)⟩) hS (fun q _ h => hFc q h) hFc (fun r38 u39 t H1 locs ht hvm hp40 hB hz1 hk1 hS => ?_)
      obtain ⟨hP1, hD1⟩ := hB
      rw [ht] at hP1
      have hD1 := hD1.weaken (fun _ _ _ h => hFc _ h)
      generalize H1 = H at hP1 hS ⊢
      have hP := hP1
      have hD := hD1
      have hP : va_P D xcl (rp ad E RL) H := hP
      have hD : va_D A (rp ad E RL) := hD
      rcases hp40 with rfl | ⟨z41, z42, z43, rfl, z44⟩
      · refine W.eq (g2 := F0 m 32 ls [.null]) rfl ?_
        refine lv_ifnullN (tgt := 39) hx hb xd_Ch_addName_32 (by decide) ?_
        refine lv_iconst (v := 0) hx hb xd_Ch_addName_39 (by decide) ?_
        refine W.widen (k := 0) (n := 0) (Nat.le_of_ble_eq_true rfl) (Nat.le_of_ble_eq_true rfl) ?_
        exact W.zret (v := 0) hx hb hr rfl (fun t ht hW => ⟨⟨0, E, rfl, ⟨Or.inl rfl, cs, by omega, hCI⟩, by rw [ht]; exact hP, hD⟩, hS.F ht⟩) hS.2.2 xd_Ch_addName_40
      · refine W.eq (g2 := F0 m 32 ls [.ref (ad (20 + z41) (10 + 10 * z42))]) rfl ?_
        refine lv_ifnull hx hb xd_Ch_addName_32 ?_
        refine lv_iconst (v := 1) hx hb xd_Ch_addName_35 (by decide) ?_
        refine lv_goto (tgt := 40) hx hb xd_Ch_addName_36 (by decide) ?_
        refine W.widen (k := 0) (n := 0) (Nat.le_of_ble_eq_true rfl) (Nat.le_of_ble_eq_true rfl) ?_
        exact W.zret (v := 1) hx hb hr rfl (fun t ht hW => ⟨⟨1, E, rfl, ⟨Or.inr rfl, cs, by omega, hCI⟩, by rw [ht]; exact hP, hD⟩, hS.F ht⟩) hS.2.2 xd_Ch_addName_40
  · refine W.eq (g2 := F0 m 12 ls [.ref (ad (1 + z29) 0)]) rfl ?_
    refine lv_astore_n hx hb xd_Ch_addName_12 rfl hl (Nat.le_of_ble_eq_true rfl) rfl (fun ls hl => ?_)
    have hl : lv_has ls 5 [(3, .ref (ad (1 + z29) 0)), (0, .ref (ad 0 7)), (1, .int nm), (2, .int (nI dp))] := hl
    refine lv_aload_n hx hb xd_Ch_addName_13 rfl (lv_at hl 0 rfl) ?_
    refine lv_ifnonnull (tgt := 41) hx hb xd_Ch_addName_14 (by decide) ?_
    refine lv_aload_n hx hb xd_Ch_addName_41 rfl (lv_at hl 1 rfl) ?_
    refine lv_aload_n hx hb xd_Ch_addName_42 rfl (lv_at hl 0 rfl) ?_
    have hFc := px_free hD hS hA
    refine va_calli (va_runV (As := [.ref (ad (1 + z29) 0)]) (rest := []) ⟨hx, hb, hml, hown, hT⟩ (xc_Ch_isChosen l D kA H.size ad E RL ml nd len wn cs z29 (by first | assumption | omega)) (cwV 1 hT (wT_V yr_15 yr_16 yr_17 yr_18 yr_14) rfl rfl rfl (by decide +kernel) ⟨(by dsimp only; omega), (by dsimp only; omega)⟩) (px_preV hK hP hD m_20 c_19 rfl) rfl rfl hl.1 rfl (lv_room (Nat.le_of_ble_eq_true rfl)) xd_Ch_addName_43 ⟨(Nat.le_of_ble_eq_true rfl), (Nat.le_of_ble_eq_true rfl)⟩) hS (fun q _ h => hFc q h) hFc (fun r45 u46 t H1 locs ht hvm hp47 hB hz1 hk1 hS => ?_)
    obtain ⟨hP1, hD1⟩ := hB
    rw [ht] at hP1
    have hD1 := hD1.weaken (fun _ _ _ h => hFc _ h)
    generalize H1 = H at hP1 hS ⊢
    have hP := hP1
    have hD := hD1
    have hP : va_P D xcl (rp ad E RL) H := hP
    have hD : va_D A (rp ad E RL) := hD
    rcases hp47 with rfl | rfl
    · refine W.eq (g2 := F0 m 46 ls [.int 0]) rfl ?_
      refine lv_if_eq (tgt := 51) hx hb xd_Ch_addName_46 (by decide) (fun _ => ?_) (fun hc48 => absurd (by decide) hc48)
      refine lv_aload_n hx hb xd_Ch_addName_51 rfl (lv_at hl 1 rfl) ?_
      refine px_get (D := D) (ci := 3) (v := .int (nI cs)) (C := xR_Ch) (T := xT_Ch) (N := 5) hx hb hT xi_Ch hown hK.1 hP m_20 c_19 rfl 2 (by decide) (hT _ yr_2) (fun _ h9 => h9) rfl xd_Ch_addName_52 ?_
      refine lv_bipush (v := 12) hx hb xd_Ch_addName_55 (by decide) ?_
      refine xn_ge (a := cs) (b := 12) (tgt := 66) hx hb xd_Ch_addName_57 (by decide) (by omega) (by omega) (fun hc49 => ?_) (fun hc49 => ?_)
      · refine lv_iconst (v := 0) hx hb xd_Ch_addName_66 (by decide) ?_
        refine W.widen (k := 0) (n := 0) (Nat.le_of_ble_eq_true rfl) (Nat.le_of_ble_eq_true rfl) ?_
        exact W.zret (v := 0) hx hb hr rfl (fun t ht hW => ⟨⟨0, E, rfl, ⟨Or.inl rfl, cs, by omega, hCI⟩, by rw [ht]; exact hP, hD⟩, hS.F ht⟩) hS.2.2 xd_Ch_addName_67
      · refine lv_iload_n hx hb xd_Ch_addName_60 rfl (lv_at hl 3 rfl) ?_
        refine lv_bipush (v := 12) hx hb xd_Ch_addName_61 (by decide) ?_
        refine xn_lt (a := dp) (b := 12) (tgt := 68) hx hb xd_Ch_addName_63 (by decide) (by omega) (by omega) (fun hc50 => ?_) (fun hc50 => ?_)
        · refine lv_aload_n hx hb xd_Ch_addName_68 rfl (lv_at hl 1 rfl) ?_
          refine px_get (D := D) (ci := 3) (v := .ref (ad 0 8)) (C := xR_Ch) (T := xT_Ch) (N := 5) hx hb hT xi_Ch hown hK.1 hP m_20 c_19 rfl 1 (by decide) (hT _ yr_19) (fun _ h9 => h9) rfl xd_Ch_addName_69 ?_
          refine lv_aload_n hx hb xd_Ch_addName_72 rfl (lv_at hl 1 rfl) ?_
          refine px_get (D := D) (ci := 3) (v := .int (nI cs)) (C := xR_Ch) (T := xT_Ch) (N := 5) hx hb hT xi_Ch hown hK.1 hP m_20 c_19 rfl 2 (by decide) (hT _ yr_2) (fun _ h9 => h9) rfl xd_Ch_addName_73 ?_
          refine lv_aload_n hx hb xd_Ch_addName_76 rfl (lv_at hl 0 rfl) ?_
          obtain ⟨hm_51, fd_51, nm_51, sd_51, k0_51, k1_51, k2_51, k3_51, f0_51, f1_51, f2_51, f3_51, fe_51, fo_51, tr_51, op_51, hk0_51, hk1_51, hk2_51, hk3_51, q0_51, q1_51, q2_51, q3_51, q4_51, q5_51, q6_51, q7_51, q8_51, q9_51, q10_51, q11_51, q12_51, hg_51⟩ := id (hDIs z29 (by omega))
          have c_52 : E (1 + z29) 0 = .inr (7, [.int (nI z29), .int fd_51, .int nm_51, .ref (ad (1 + z29) 1), .ref (ad (1 + z29) 9), .ref (ad (1 + z29) 10), .ref (ad (1 + z29) 2), .ref (ad (1 + z29) 11), .ref (ad (1 + z29) 12), .ref (ad (1 + z29) 3), .ref (ad (1 + z29) 4), .int sd_51]) := q0_51
          have m_53 : (1 + z29, 0) ∈ RL := hm_51 0 (by omega)
          have c_54 : E (1 + z29) 1 = .inr (8, [.ref (ad (1 + z29) 5), .int (nI k0_51)]) := q1_51
          have m_55 : (1 + z29, 1) ∈ RL := hm_51 1 (by omega)
          have c_56 : E (1 + z29) 2 = .inr (8, [.ref (ad (1 + z29) 6), .int (nI k1_51)]) := q2_51
          have m_57 : (1 + z29, 2) ∈ RL := hm_51 2 (by omega)
          have c_58 : E (1 + z29) 3 = .inr (8, [.ref (ad (1 + z29) 7), .int (nI k2_51)]) := q3_51
          have m_59 : (1 + z29, 3) ∈ RL := hm_51 3 (by omega)
          have c_60 : E (1 + z29) 4 = .inr (8, [.ref (ad (1 + z29) 8), .int (nI k3_51)]) := q4_51
          have m_61 : (1 + z29, 4) ∈ RL := hm_51 4 (by omega)
          have c_62 : E (1 + z29) 5 = .inl (kA 0, 6, .inl f0_51) := q5_51
          have m_63 : (1 + z29, 5) ∈ RL := hm_51 5 (by omega)
          have c_64 : E (1 + z29) 6 = .inl (kA 0, 5, .inl f1_51) := q6_51
          have m_65 : (1 + z29, 6) ∈ RL := hm_51 6 (by omega)
          have c_66 : E (1 + z29) 7 = .inl (kA 0, 3, .inl f2_51) := q7_51
          have m_67 : (1 + z29, 7) ∈ RL := hm_51 7 (by omega)
          have c_68 : E (1 + z29) 8 = .inl (kA 0, 3, .inl f3_51) := q8_51
          have m_69 : (1 + z29, 8) ∈ RL := hm_51 8 (by omega)
          have c_70 : E (1 + z29) 9 = .inl (kA 8, 6, .inr (.inr (.inr (.inr fe_51)))) := q9_51
          have m_71 : (1 + z29, 9) ∈ RL := hm_51 9 (by omega)
          have c_72 : E (1 + z29) 10 = .inl (kA 8, 6, .inr (.inr (.inr (.inr fo_51)))) := q10_51
          have m_73 : (1 + z29, 10) ∈ RL := hm_51 10 (by omega)
          have c_74 : E (1 + z29) 11 = .inl (kA 2, 5, .inl tr_51) := q11_51
          have m_75 : (1 + z29, 11) ∈ RL := hm_51 11 (by omega)
          have c_76 : E (1 + z29) 12 = .inl (kA 2, 5, .inl op_51) := q12_51
          have m_77 : (1 + z29, 12) ∈ RL := hm_51 12 (by omega)
          have hg_51 : ∀ w9, w9 < k0_51 → fe_51 w9 = some (ad (1 + z29) (20 + 3 * w9)) ∧ fo_51 w9 = some (ad (1 + z29) (38 + 3 * w9)) ∧ GI kA (ad (1 + z29)) (E (1 + z29)) (fun o => (1 + z29, o) ∈ RL) (20 + 3 * w9) (21 + 3 * w9) (22 + 3 * w9) ∧ GI kA (ad (1 + z29)) (E (1 + z29)) (fun o => (1 + z29, o) ∈ RL) (38 + 3 * w9) (39 + 3 * w9) (40 + 3 * w9) := hg_51
          refine px_aast (i := cs) (r := (xR_Ds, xT_Ds, 12)) hx hb hK.1 hP hD hS m_22 c_21 4 rfl m_53 c_52 rfl (by omega) (by decide) xd_Ch_addName_77 (fun H locs hP hD hS => ?_)
          have hP : va_P D xcl (rp ad (up2 E 0 8 (.inl (kA 4, 12, .inr (.inr (.inr (.inr (va_up fc_18 cs (some (ad (1 + z29) 0))))))))) RL) H := hP
          have hD : va_D A (rp ad (up2 E 0 8 (.inl (kA 4, 12, .inr (.inr (.inr (.inr (va_up fc_18 cs (some (ad (1 + z29) 0))))))))) RL) := hD
          generalize hE79 : up2 E 0 8 (.inl (kA 4, 12, .inr (.inr (.inr (.inr (va_up fc_18 cs (some (ad (1 + z29) 0)))))))) = E78 at hP hD
          have fE80 : ∀ b2 o2, ¬ (b2 = 0 ∧ o2 = 8) → E78 b2 o2 = E b2 o2 := fun b2 o2 h9 => by rw [← hE79]; exact up2_ne (by omega)
          have c_81 : E78 0 8 = .inl (kA 4, 12, .inr (.inr (.inr (.inr (va_up fc_18 cs (some (ad (1 + z29) 0))))))) := by rw [← hE79]; exact up2_eq
          have c_82 : E78 0 0 = .inr (0, [.ref (ad 0 1), .ref (ad 0 5), .ref (ad 0 7), .ref (ad 0 9), .int (nI ml), .int lf_1]) := (fE80 0 0 (by omega)).trans c_2
          have c_83 : E78 0 1 = .inr (1, [.ref (ad 0 2), .ref (ad 0 3), .ref (ad 0 4), .int (nI len), .int (nI wn)]) := (fE80 0 1 (by omega)).trans c_5
          have c_84 : E78 0 2 = .inl (kA 1, 40, .inl tx_4) := (fE80 0 2 (by omega)).trans c_7
          have c_85 : E78 0 3 = .inl (kA 0, 20, .inl fb_4) := (fE80 0 3 (by omega)).trans c_9
          have c_86 : E78 0 4 = .inl (kA 0, 20, .inl fe_4) := (fE80 0 4 (by omega)).trans c_11
          have c_87 : E78 0 5 = .inr (2, [.ref (ad 0 6), .int (nI nd)]) := (fE80 0 5 (by omega)).trans c_14
          have c_88 : E78 0 6 = .inl (kA 4, 12, .inr (.inr (.inr (.inr fd_13)))) := (fE80 0 6 (by omega)).trans c_16
          have c_89 : E78 0 7 = .inr (3, [.ref (ad 0 5), .ref (ad 0 8), .int (nI cs), .int cf_18, pv_18]) := (fE80 0 7 (by omega)).trans c_19
          have c_90 : E78 0 9 = .inl (kA 5, 5, .inr (.inr (.inr (.inr fl_23)))) := (fE80 0 9 (by omega)).trans c_24
          have c_91 : E78 (1 + z29) 0 = .inr (7, [.int (nI z29), .int fd_51, .int nm_51, .ref (ad (1 + z29) 1), .ref (ad (1 + z29) 9), .ref (ad (1 + z29) 10), .ref (ad (1 + z29) 2), .ref (ad (1 + z29) 11), .ref (ad (1 + z29) 12), .ref (ad (1 + z29) 3), .ref (ad (1 + z29) 4), .int sd_51]) := (fE80 (1 + z29) 0 (by omega)).trans c_52
          have c_92 : E78 (1 + z29) 1 = .inr (8, [.ref (ad (1 + z29) 5), .int (nI k0_51)]) := (fE80 (1 + z29) 1 (by omega)).trans c_54
          have c_93 : E78 (1 + z29) 2 = .inr (8, [.ref (ad (1 + z29) 6), .int (nI k1_51)]) := (fE80 (1 + z29) 2 (by omega)).trans c_56
          have c_94 : E78 (1 + z29) 3 = .inr (8, [.ref (ad (1 + z29) 7), .int (nI k2_51)]) := (fE80 (1 + z29) 3 (by omega)).trans c_58
          have c_95 : E78 (1 + z29) 4 = .inr (8, [.ref (ad (1 + z29) 8), .int (nI k3_51)]) := (fE80 (1 + z29) 4 (by omega)).trans c_60
          have c_96 : E78 (1 + z29) 5 = .inl (kA 0, 6, .inl f0_51) := (fE80 (1 + z29) 5 (by omega)).trans c_62
          have c_97 : E78 (1 + z29) 6 = .inl (kA 0, 5, .inl f1_51) := (fE80 (1 + z29) 6 (by omega)).trans c_64
          have c_98 : E78 (1 + z29) 7 = .inl (kA 0, 3, .inl f2_51) := (fE80 (1 + z29) 7 (by omega)).trans c_66
          have c_99 : E78 (1 + z29) 8 = .inl (kA 0, 3, .inl f3_51) := (fE80 (1 + z29) 8 (by omega)).trans c_68
          have c_100 : E78 (1 + z29) 9 = .inl (kA 8, 6, .inr (.inr (.inr (.inr fe_51)))) := (fE80 (1 + z29) 9 (by omega)).trans c_70
          have c_101 : E78 (1 + z29) 10 = .inl (kA 8, 6, .inr (.inr (.inr (.inr fo_51)))) := (fE80 (1 + z29) 10 (by omega)).trans c_72
          have c_102 : E78 (1 + z29) 11 = .inl (kA 2, 5, .inl tr_51) := (fE80 (1 + z29) 11 (by omega)).trans c_74
          have c_103 : E78 (1 + z29) 12 = .inl (kA 2, 5, .inl op_51) := (fE80 (1 + z29) 12 (by omega)).trans c_76
          refine lv_aload_n hx hb xd_Ch_addName_78 rfl (lv_at hl 1 rfl) ?_
          refine lv_dup hx hb xd_Ch_addName_79 rfl ?_
          refine px_get (D := D) (ci := 3) (v := .int (nI cs)) (C := xR_Ch) (T := xT_Ch) (N := 5) hx hb hT xi_Ch hown hK.1 hP m_20 c_89 rfl 2 (by decide) (hT _ yr_2) (fun _ h9 => h9) rfl xd_Ch_addName_80 ?_
          refine lv_iconst (v := 1) hx hb xd_Ch_addName_83 (by decide) ?_
          refine lv_iadd hx hb xd_Ch_addName_84 ?_
          refine xn_top (y := nI (cs + 1)) (nI_add cs 1) ?_
          refine px_put (D := D) (ci := 3) (v := .int (nI (cs + 1))) (ty := .int) (C := xR_Ch) (T := xT_Ch) (N := 5) hx hb hT xi_Ch xt_Ch xt_Ch_ok xn_Ch hown hK.1 hP hD hS m_20 c_89 rfl 2 (by decide) (hT _ yr_2) (fun _ h9 => h9) rfl (by decide +kernel) rfl rfl (Nat.le_of_ble_eq_true rfl) xd_Ch_addName_85 (fun H locs hP hD hS => ?_)
          have hP : va_P D xcl (rp ad (up2 E78 0 7 (.inr (3, [.ref (ad 0 5), .ref (ad 0 8), .int (nI (cs + 1)), .int cf_18, pv_18]))) RL) H := hP
          have hD : va_D A (rp ad (up2 E78 0 7 (.inr (3, [.ref (ad 0 5), .ref (ad 0 8), .int (nI (cs + 1)), .int cf_18, pv_18]))) RL) := hD
          generalize hE105 : up2 E78 0 7 (.inr (3, [.ref (ad 0 5), .ref (ad 0 8), .int (nI (cs + 1)), .int cf_18, pv_18])) = E104 at hP hD
          have fE106 : ∀ b2 o2, ¬ (b2 = 0 ∧ o2 = 7) → E104 b2 o2 = E78 b2 o2 := fun b2 o2 h9 => by rw [← hE105]; exact up2_ne (by omega)
          have c_107 : E104 0 7 = .inr (3, [.ref (ad 0 5), .ref (ad 0 8), .int (nI (cs + 1)), .int cf_18, pv_18]) := by rw [← hE105]; exact up2_eq
          have c_108 : E104 0 8 = .inl (kA 4, 12, .inr (.inr (.inr (.inr (va_up fc_18 cs (some (ad (1 + z29) 0))))))) := (fE106 0 8 (by omega)).trans c_81
          have c_109 : E104 0 0 = .inr (0, [.ref (ad 0 1), .ref (ad 0 5), .ref (ad 0 7), .ref (ad 0 9), .int (nI ml), .int lf_1]) := (fE106 0 0 (by omega)).trans c_82
          have c_110 : E104 0 1 = .inr (1, [.ref (ad 0 2), .ref (ad 0 3), .ref (ad 0 4), .int (nI len), .int (nI wn)]) := (fE106 0 1 (by omega)).trans c_83
          have c_111 : E104 0 2 = .inl (kA 1, 40, .inl tx_4) := (fE106 0 2 (by omega)).trans c_84
          have c_112 : E104 0 3 = .inl (kA 0, 20, .inl fb_4) := (fE106 0 3 (by omega)).trans c_85
          have c_113 : E104 0 4 = .inl (kA 0, 20, .inl fe_4) := (fE106 0 4 (by omega)).trans c_86
          have c_114 : E104 0 5 = .inr (2, [.ref (ad 0 6), .int (nI nd)]) := (fE106 0 5 (by omega)).trans c_87
          have c_115 : E104 0 6 = .inl (kA 4, 12, .inr (.inr (.inr (.inr fd_13)))) := (fE106 0 6 (by omega)).trans c_88
          have c_116 : E104 0 9 = .inl (kA 5, 5, .inr (.inr (.inr (.inr fl_23)))) := (fE106 0 9 (by omega)).trans c_90
          have c_117 : E104 (1 + z29) 0 = .inr (7, [.int (nI z29), .int fd_51, .int nm_51, .ref (ad (1 + z29) 1), .ref (ad (1 + z29) 9), .ref (ad (1 + z29) 10), .ref (ad (1 + z29) 2), .ref (ad (1 + z29) 11), .ref (ad (1 + z29) 12), .ref (ad (1 + z29) 3), .ref (ad (1 + z29) 4), .int sd_51]) := (fE106 (1 + z29) 0 (by omega)).trans c_91
          have c_118 : E104 (1 + z29) 1 = .inr (8, [.ref (ad (1 + z29) 5), .int (nI k0_51)]) := (fE106 (1 + z29) 1 (by omega)).trans c_92
          have c_119 : E104 (1 + z29) 2 = .inr (8, [.ref (ad (1 + z29) 6), .int (nI k1_51)]) := (fE106 (1 + z29) 2 (by omega)).trans c_93
          have c_120 : E104 (1 + z29) 3 = .inr (8, [.ref (ad (1 + z29) 7), .int (nI k2_51)]) := (fE106 (1 + z29) 3 (by omega)).trans c_94
          have c_121 : E104 (1 + z29) 4 = .inr (8, [.ref (ad (1 + z29) 8), .int (nI k3_51)]) := (fE106 (1 + z29) 4 (by omega)).trans c_95
          have c_122 : E104 (1 + z29) 5 = .inl (kA 0, 6, .inl f0_51) := (fE106 (1 + z29) 5 (by omega)).trans c_96
          have c_123 : E104 (1 + z29) 6 = .inl (kA 0, 5, .inl f1_51) := (fE106 (1 + z29) 6 (by omega)).trans c_97
          have c_124 : E104 (1 + z29) 7 = .inl (kA 0, 3, .inl f2_51) := (fE106 (1 + z29) 7 (by omega)).trans c_98
          have c_125 : E104 (1 + z29) 8 = .inl (kA 0, 3, .inl f3_51) := (fE106 (1 + z29) 8 (by omega)).trans c_99
          have c_126 : E104 (1 + z29) 9 = .inl (kA 8, 6, .inr (.inr (.inr (.inr fe_51)))) := (fE106 (1 + z29) 9 (by omega)).trans c_100
          have c_127 : E104 (1 + z29) 10 = .inl (kA 8, 6, .inr (.inr (.inr (.inr fo_51)))) := (fE106 (1 + z29) 10 (by omega)).trans c_101
          have c_128 : E104 (1 + z29) 11 = .inl (kA 2, 5, .inl tr_51) := (fE106 (1 + z29) 11 (by omega)).trans c_102
          have c_129 : E104 (1 + z29) 12 = .inl (kA 2, 5, .inl op_51) := (fE106 (1 + z29) 12 (by omega)).trans c_103
          have hCI : CI kA ad E104 RL ml nd len wn (cs + 1) := ⟨hmB, ⟨lf_1, c_109⟩, ⟨tx_4, fb_4, fe_4, (by omega), (by omega), c_110, c_111, c_112, c_113, hws_4⟩, ⟨fd_13, (by omega), c_114, c_115, hds_13⟩, ⟨cf_18, pv_18, (va_up fc_18 cs (some (ad (1 + z29) 0))), (by omega), hpv_18, c_107, c_108, (FC_add hfc_18 (d := z29) (by omega))⟩, ⟨fl_23, (by omega), c_116, hla_23⟩, (DIs_same (fun d9 hd9 => fun2 fun o9 => by show E104 (1 + d9) o9 = _; rw [fE106 (1 + d9) o9 (by omega), fE80 (1 + d9) o9 (by omega)]) (fun _ _ => rfl) (fun _ h9 => h9) hDIs), (LIs_same (Nat.le_refl _) (fun n9 hn9 => fun2 fun o9 => by show E104 (20 + n9) o9 = _; rw [fE106 (20 + n9) o9 (by omega), fE80 (20 + n9) o9 (by omega)]) (fun _ _ => rfl) (fun _ _ => rfl) (fun _ h9 => h9) hLIs)⟩
          obtain ⟨hmB, hDk, hLi, hSh, hCh, hLa, hDIs, hLIs⟩ := id hCI
          refine lv_iconst (v := 0) hx hb xd_Ch_addName_88 (by decide) ?_
          refine lv_istore hx hb xd_Ch_addName_89 hl (Nat.le_of_ble_eq_true rfl) rfl (fun ls hl => ?_)
          have hl : lv_has ls 5 [(4, .int 0), (3, .ref (ad (1 + z29) 0)), (0, .ref (ad 0 7)), (1, .int nm), (2, .int (nI dp))] := hl
          refine xlab (σ := Nat × (Nat → Nat → va_E) × Nat) (ml := 5) 91 (fun (i, E1, cs1) => [(4, .int (nI i)), (3, .ref (ad (1 + z29) 0)), (2, .int (nI dp)), (1, .int nm), (0, .ref (ad 0 7))]) (fun (i, E1, cs1) => []) (fun (i, E1, cs1) => rp ad E1 RL) (fun (i, E1, cs1) => (i ≤ 5) ∧ (CI kA ad E1 RL ml nd len wn cs1) ∧ (cs ≤ cs1)) (fun (i, E1, cs1) => 5 - i) ?_ (0, E104, cs + 1) _ _ _ (lv_sub hl [0, 1, 4, 3, 2] rfl) hP hD hS ⟨(show 0 ≤ 5 from by first | assumption | omega), (show CI kA ad E104 RL ml nd len wn (cs + 1) from hCI), (show cs ≤ (cs + 1) from by first | assumption | omega)⟩
          intro n9 ih130 a9 ls H locs hμ hl hP hD hS hI
          subst hμ
          obtain ⟨i, E1, cs1⟩ := a9
          obtain ⟨hi, hCI, hcs⟩ := hI
          have hi : i ≤ 5 := hi
          have hCI : CI kA ad E1 RL ml nd len wn cs1 := hCI
          have hcs : cs ≤ cs1 := hcs
          have hl : lv_has ls 5 [(4, .int (nI i)), (3, .ref (ad (1 + z29) 0)), (2, .int (nI dp)), (1, .int nm), (0, .ref (ad 0 7))] := hl
          have hP : va_P D xcl (rp ad E1 RL) H := hP
          have hD : va_D A (rp ad E1 RL) := hD
          obtain ⟨hmB, hDk, hLi, hSh, hCh, hLa, hDIs, hLIs⟩ := id hCI
          obtain ⟨lf_131, q_131⟩ := id (hDk)
          have c_132 : E1 0 0 = .inr (0, [.ref (ad 0 1), .ref (ad 0 5), .ref (ad 0 7), .ref (ad 0 9), .int (nI ml), .int lf_131]) := q_131
          have m_133 : (0, 0) ∈ RL := hmB 0 (by omega)
          obtain ⟨tx_134, fb_134, fe_134, hl1_134, hw2_134, q1_134, q2_134, q3_134, q4_134, hws_134⟩ := id (hLi)
          have c_135 : E1 0 1 = .inr (1, [.ref (ad 0 2), .ref (ad 0 3), .ref (ad 0 4), .int (nI len), .int (nI wn)]) := q1_134
          have m_136 : (0, 1) ∈ RL := hmB 1 (by omega)
          have c_137 : E1 0 2 = .inl (kA 1, 40, .inl tx_134) := q2_134
          have m_138 : (0, 2) ∈ RL := hmB 2 (by omega)
          have c_139 : E1 0 3 = .inl (kA 0, 20, .inl fb_134) := q3_134
          have m_140 : (0, 3) ∈ RL := hmB 3 (by omega)
          have c_141 : E1 0 4 = .inl (kA 0, 20, .inl fe_134) := q4_134
          have m_142 : (0, 4) ∈ RL := hmB 4 (by omega)
          obtain ⟨fd_143, hnd_143, q5_143, q6_143, hds_143⟩ := id (hSh)
          have c_144 : E1 0 5 = .inr (2, [.ref (ad 0 6), .int (nI nd)]) := q5_143
          have m_145 : (0, 5) ∈ RL := hmB 5 (by omega)
          have c_146 : E1 0 6 = .inl (kA 4, 12, .inr (.inr (.inr (.inr fd_143)))) := q6_143
          have m_147 : (0, 6) ∈ RL := hmB 6 (by omega)
          obtain ⟨cf_148, pv_148, fc_148, hcs_148, hpv_148, q7_148, q8_148, hfc_148⟩ := id (hCh)
          have c_149 : E1 0 7 = .inr (3, [.ref (ad 0 5), .ref (ad 0 8), .int (nI cs1), .int cf_148, pv_148]) := q7_148
          have m_150 : (0, 7) ∈ RL := hmB 7 (by omega)
          have c_151 : E1 0 8 = .inl (kA 4, 12, .inr (.inr (.inr (.inr fc_148)))) := q8_148
          have m_152 : (0, 8) ∈ RL := hmB 8 (by omega)
          obtain ⟨fl_153, hml_153, q9_153, hla_153⟩ := id (hLa)
          have c_154 : E1 0 9 = .inl (kA 5, 5, .inr (.inr (.inr (.inr fl_153)))) := q9_153
          have m_155 : (0, 9) ∈ RL := hmB 9 (by omega)
          refine lv_iload hx hb xd_Ch_addName_91 (lv_at hl 0 rfl) ?_
          refine lv_aload_n hx hb xd_Ch_addName_93 rfl (lv_at hl 1 rfl) ?_
          obtain ⟨hm_156, fd_156, nm_156, sd_156, k0_156, k1_156, k2_156, k3_156, f0_156, f1_156, f2_156, f3_156, fe_156, fo_156, tr_156, op_156, hk0_156, hk1_156, hk2_156, hk3_156, q0_156, q1_156, q2_156, q3_156, q4_156, q5_156, q6_156, q7_156, q8_156, q9_156, q10_156, q11_156, q12_156, hg_156⟩ := id (hDIs z29 (by omega))
          have c_157 : E1 (1 + z29) 0 = .inr (7, [.int (nI z29), .int fd_156, .int nm_156, .ref (ad (1 + z29) 1), .ref (ad (1 + z29) 9), .ref (ad (1 + z29) 10), .ref (ad (1 + z29) 2), .ref (ad (1 + z29) 11), .ref (ad (1 + z29) 12), .ref (ad (1 + z29) 3), .ref (ad (1 + z29) 4), .int sd_156]) := q0_156
          have m_158 : (1 + z29, 0) ∈ RL := hm_156 0 (by omega)
          have c_159 : E1 (1 + z29) 1 = .inr (8, [.ref (ad (1 + z29) 5), .int (nI k0_156)]) := q1_156
          have m_160 : (1 + z29, 1) ∈ RL := hm_156 1 (by omega)
          have c_161 : E1 (1 + z29) 2 = .inr (8, [.ref (ad (1 + z29) 6), .int (nI k1_156)]) := q2_156
          have m_162 : (1 + z29, 2) ∈ RL := hm_156 2 (by omega)
          have c_163 : E1 (1 + z29) 3 = .inr (8, [.ref (ad (1 + z29) 7), .int (nI k2_156)]) := q3_156
          have m_164 : (1 + z29, 3) ∈ RL := hm_156 3 (by omega)
          have c_165 : E1 (1 + z29) 4 = .inr (8, [.ref (ad (1 + z29) 8), .int (nI k3_156)]) := q4_156
          have m_166 : (1 + z29, 4) ∈ RL := hm_156 4 (by omega)
          have c_167 : E1 (1 + z29) 5 = .inl (kA 0, 6, .inl f0_156) := q5_156
          have m_168 : (1 + z29, 5) ∈ RL := hm_156 5 (by omega)
          have c_169 : E1 (1 + z29) 6 = .inl (kA 0, 5, .inl f1_156) := q6_156
          have m_170 : (1 + z29, 6) ∈ RL := hm_156 6 (by omega)
          have c_171 : E1 (1 + z29) 7 = .inl (kA 0, 3, .inl f2_156) := q7_156
          have m_172 : (1 + z29, 7) ∈ RL := hm_156 7 (by omega)
          have c_173 : E1 (1 + z29) 8 = .inl (kA 0, 3, .inl f3_156) := q8_156
          have m_174 : (1 + z29, 8) ∈ RL := hm_156 8 (by omega)
          have c_175 : E1 (1 + z29) 9 = .inl (kA 8, 6, .inr (.inr (.inr (.inr fe_156)))) := q9_156
          have m_176 : (1 + z29, 9) ∈ RL := hm_156 9 (by omega)
          have c_177 : E1 (1 + z29) 10 = .inl (kA 8, 6, .inr (.inr (.inr (.inr fo_156)))) := q10_156
          have m_178 : (1 + z29, 10) ∈ RL := hm_156 10 (by omega)
          have c_179 : E1 (1 + z29) 11 = .inl (kA 2, 5, .inl tr_156) := q11_156
          have m_180 : (1 + z29, 11) ∈ RL := hm_156 11 (by omega)
          have c_181 : E1 (1 + z29) 12 = .inl (kA 2, 5, .inl op_156) := q12_156
          have m_182 : (1 + z29, 12) ∈ RL := hm_156 12 (by omega)
          have hg_156 : ∀ w9, w9 < k0_156 → fe_156 w9 = some (ad (1 + z29) (20 + 3 * w9)) ∧ fo_156 w9 = some (ad (1 + z29) (38 + 3 * w9)) ∧ GI kA (ad (1 + z29)) (E1 (1 + z29)) (fun o => (1 + z29, o) ∈ RL) (20 + 3 * w9) (21 + 3 * w9) (22 + 3 * w9) ∧ GI kA (ad (1 + z29)) (E1 (1 + z29)) (fun o => (1 + z29, o) ∈ RL) (38 + 3 * w9) (39 + 3 * w9) (40 + 3 * w9) := hg_156
          refine px_get (D := D) (ci := 7) (v := .ref (ad (1 + z29) 2)) (C := xR_Ds) (T := xT_Ds) (N := 12) hx hb hT xi_Ds hown hK.1 hP m_158 c_157 rfl 6 (by decide) (hT _ yr_20) (fun _ h9 => h9) rfl xd_Ch_addName_94 ?_
          refine px_get (D := D) (ci := 8) (v := .int (nI k1_156)) (C := xR_Na) (T := xT_Na) (N := 2) hx hb hT xi_Na hown hK.1 hP m_162 c_161 rfl 1 (by decide) (hT _ yr_21) (fun _ h9 => h9) rfl xd_Ch_addName_97 ?_
          refine xn_ge (a := i) (b := k1_156) (tgt := 140) hx hb xd_Ch_addName_100 (by decide) (by omega) (by omega) (fun hc183 => ?_) (fun hc183 => ?_)
          · refine lv_iconst (v := 1) hx hb xd_Ch_addName_140 (by decide) ?_
            refine W.widen (k := 0) (n := 0) (Nat.le_of_ble_eq_true rfl) (Nat.le_of_ble_eq_true rfl) ?_
            exact W.zret (v := 1) hx hb hr rfl (fun t ht hW => ⟨⟨1, E1, rfl, ⟨Or.inr rfl, cs1, by omega, hCI⟩, by rw [ht]; exact hP, hD⟩, hS.F ht⟩) hS.2.2 xd_Ch_addName_141
          · refine lv_aload_n hx hb xd_Ch_addName_103 rfl (lv_at hl 1 rfl) ?_
            refine px_get (D := D) (ci := 7) (v := .ref (ad (1 + z29) 12)) (C := xR_Ds) (T := xT_Ds) (N := 12) hx hb hT xi_Ds hown hK.1 hP m_158 c_157 rfl 8 (by decide) (hT _ yr_22) (fun _ h9 => h9) rfl xd_Ch_addName_104 ?_
            refine lv_iload hx hb xd_Ch_addName_107 (lv_at hl 0 rfl) ?_
            refine px_zald (i := i) hx hb hK.1 hP m_182 c_181 2 rfl (by omega) (by decide) xd_Ch_addName_109 ?_
            refine lv_if_ne (tgt := 134) hx hb xd_Ch_addName_110 (by decide) (fun hc184 => ?_) (fun hc184 => ?_)
            · refine lv_iinc (k := 0) (x := (nI i)) (v := (nI (i + 1))) hx hb xd_Ch_addName_134 hl rfl (xb_inc i 1) (Nat.le_of_ble_eq_true rfl) rfl (fun ls hl => ?_)
              have hl : lv_has ls 5 [(4, .int (nI (i + 1))), (3, .ref (ad (1 + z29) 0)), (2, .int (nI dp)), (1, .int nm), (0, .ref (ad 0 7))] := hl
              refine lv_goto (tgt := 91) hx hb xd_Ch_addName_137 (by decide) ?_
              exact ih130 (i + 1, E1, cs1) _ _ _ (show 5 - (i + 1) < 5 - i by omega) (lv_sub hl [0, 1, 2, 3, 4] rfl) hP hD hS ⟨(show (i + 1) ≤ 5 from by first | assumption | omega), (show CI kA ad E1 RL ml nd len wn cs1 from hCI), (show cs ≤ cs1 from by first | assumption | omega)⟩
            · refine lv_aload_n hx hb xd_Ch_addName_113 rfl (lv_at hl 4 rfl) ?_
              refine lv_aload_n hx hb xd_Ch_addName_114 rfl (lv_at hl 1 rfl) ?_
              refine px_get (D := D) (ci := 7) (v := .ref (ad (1 + z29) 2)) (C := xR_Ds) (T := xT_Ds) (N := 12) hx hb hT xi_Ds hown hK.1 hP m_158 c_157 rfl 6 (by decide) (hT _ yr_20) (fun _ h9 => h9) rfl xd_Ch_addName_115 ?_
              refine lv_iload hx hb xd_Ch_addName_118 (lv_at hl 0 rfl) ?_
              have hFc := px_free hD hS hA
              refine va_calli (va_runV (As := [.int (nI i)]) (rest := [.ref (ad 0 7)]) ⟨hx, hb, hml, hown, hT⟩ (xc_Na_at l D kA H.size ad E1 RL (1 + z29) 2 6 5 k1_156 f1_156 i m_162 c_161 m_170 c_169 (by first | assumption | omega) (by first | assumption | omega) (by first | assumption | omega)) (cwV 1 hT (wT_V yr_24 yr_25 yr_26 yr_27 yr_23) rfl rfl rfl (by decide +kernel) ⟨(by dsimp only; omega), (by dsimp only; omega)⟩) (px_preV hK hP hD m_162 c_161 rfl) rfl rfl hl.1 rfl (lv_room (Nat.le_of_ble_eq_true rfl)) xd_Ch_addName_120 ⟨(Nat.le_of_ble_eq_true rfl), (Nat.le_of_ble_eq_true rfl)⟩) hS (fun q _ h => hFc q h) hFc (fun r185 u186 t H1 locs ht hvm hp187 hB hz1 hk1 hS => ?_)
              obtain ⟨hP1, hD1⟩ := hB
              rw [ht] at hP1
              have hD1 := hD1.weaken (fun _ _ _ h => hFc _ h)
              generalize H1 = H at hP1 hS ⊢
              have hP := hP1
              have hD := hD1
              have hP : va_P D xcl (rp ad E1 RL) H := hP
              have hD : va_D A (rp ad E1 RL) := hD
              refine lv_iload_n hx hb xd_Ch_addName_123 rfl (lv_at hl 2 rfl) ?_
              refine lv_iconst (v := 1) hx hb xd_Ch_addName_124 (by decide) ?_
              refine lv_iadd hx hb xd_Ch_addName_125 ?_
              refine xn_top (y := nI (dp + 1)) (nI_add dp 1) ?_
              have hFc := px_free hD hS hA
              refine va_calli (va_runV (As := [.int r185, .int (nI (dp + 1))]) (rest := []) ⟨hx, hb, hml, hown, hT⟩ (ih (f - 1) (by omega) l D kA H.size ad E1 RL ml nd len wn cs1 r185 (dp + 1) (by first | assumption | omega) (by first | assumption | omega)) (cwV 2 hT (wT_V yr_29 yr_30 yr_31 yr_18 yr_28) rfl rfl rfl (by decide +kernel) ⟨(by dsimp only; omega), (by dsimp only; omega)⟩) (px_preV hK hP hD m_150 c_149 rfl) rfl rfl hl.1 rfl (lv_room (Nat.le_of_ble_eq_true rfl)) xd_Ch_addName_126 ⟨(Nat.le_of_ble_eq_true rfl), (Nat.le_of_ble_eq_true rfl)⟩) hS (fun q _ h => hFc q h) hFc (fun r188 u189 t H1 locs ht hvm hp190 hB hz1 hk1 hS => ?_)
              obtain ⟨hP1, hD1⟩ := hB
              rw [ht] at hP1
              have hD1 := hD1.weaken (fun _ _ _ h => hFc _ h)
              generalize H1 = H at hP1 hS ⊢
              have hP := hP1
              have hD := hD1
              obtain ⟨E191, rfl⟩ : ∃ z, z = u189 := ⟨_, rfl⟩
              have hP : va_P D xcl (rp ad E191 RL) H := hP
              have hD : va_D A (rp ad E191 RL) := hD
              obtain ⟨hr193, cs192, hle193, hCI⟩ := hp190
              have hCI : CI kA ad E191 RL ml nd len wn cs192 := hCI
              obtain ⟨hmB, hDk, hLi, hSh, hCh, hLa, hDIs, hLIs⟩ := id hCI
              refine lv_if_ne (tgt := 134) hx hb xd_Ch_addName_129 (by decide) (fun hc194 => ?_) (fun hc194 => ?_)
              · refine lv_iinc (k := 0) (x := (nI i)) (v := (nI (i + 1))) hx hb xd_Ch_addName_134 hl rfl (xb_inc i 1) (Nat.le_of_ble_eq_true rfl) rfl (fun ls hl => ?_)
                have hl : lv_has ls 5 [(4, .int (nI (i + 1))), (3, .ref (ad (1 + z29) 0)), (2, .int (nI dp)), (1, .int nm), (0, .ref (ad 0 7))] := hl
                refine lv_goto (tgt := 91) hx hb xd_Ch_addName_137 (by decide) ?_
                exact ih130 (i + 1, E191, cs192) _ _ _ (show 5 - (i + 1) < 5 - i by omega) (lv_sub hl [0, 1, 2, 3, 4] rfl) hP hD hS ⟨(show (i + 1) ≤ 5 from by first | assumption | omega), (show CI kA ad E191 RL ml nd len wn cs192 from hCI), (show cs ≤ cs192 from by first | assumption | omega)⟩
              · refine lv_iconst (v := 0) hx hb xd_Ch_addName_132 (by decide) ?_
                refine W.widen (k := 0) (n := 0) (Nat.le_of_ble_eq_true rfl) (Nat.le_of_ble_eq_true rfl) ?_
                exact W.zret (v := 0) hx hb hr rfl (fun t ht hW => ⟨⟨0, E191, rfl, ⟨Or.inl rfl, cs192, by omega, hCI⟩, by rw [ht]; exact hP, hD⟩, hS.F ht⟩) hS.2.2 xd_Ch_addName_133
        · refine lv_iconst (v := 0) hx hb xd_Ch_addName_66 (by decide) ?_
          refine W.widen (k := 0) (n := 0) (Nat.le_of_ble_eq_true rfl) (Nat.le_of_ble_eq_true rfl) ?_
          exact W.zret (v := 0) hx hb hr rfl (fun t ht hW => ⟨⟨0, E, rfl, ⟨Or.inl rfl, cs, by omega, hCI⟩, by rw [ht]; exact hP, hD⟩, hS.F ht⟩) hS.2.2 xd_Ch_addName_67
    · refine W.eq (g2 := F0 m 46 ls [.int 1]) rfl ?_
      refine lv_if_eq (tgt := 51) hx hb xd_Ch_addName_46 (by decide) (fun hc195 => absurd hc195 (by decide)) (fun _ => ?_)
      refine lv_iconst (v := 1) hx hb xd_Ch_addName_49 (by decide) ?_
      refine W.widen (k := 0) (n := 0) (Nat.le_of_ble_eq_true rfl) (Nat.le_of_ble_eq_true rfl) ?_
      exact W.zret (v := 1) hx hb hr rfl (fun t ht hW => ⟨⟨1, E, rfl, ⟨Or.inr rfl, cs, by omega, hCI⟩, by rw [ht]; exact hP, hD⟩, hS.F ht⟩) hS.2.2 xd_Ch_addName_50
theorem xc_Ch_addName (l : Launch) (D : va_G) (kA : Nat → ClassId) (sz : Nat) (ad : Nat → Nat → Nat) (E : Nat → Nat → va_E) (RL : List (Nat × Nat)) (ml : Nat) (nd : Nat) (len : Nat) (wn : Nat) (cs : Nat) (nm : Int32) (hCI : CI kA ad E RL ml nd len wn cs) : Met l xy_Ch_addName (.code xy_Ch_addName xb_Ch_addName 5 (some .boolean) :: wT) { frames := 18, cells := 0, slots := 0, locals := 1170 } (va_Pc [.ref (ad 0 7), .int nm, .int 0] (xPre D kA sz (rp ad E RL))) (va_Qi (fun (r : Int32) (u : Nat → Nat → va_E) => (r = 0 ∨ r = 1) ∧ ∃ cs2, cs ≤ cs2 ∧ CI kA ad u RL ml nd len wn cs2) (fun (u : Nat → Nat → va_E) t => va_P D xcl (rp ad u RL) t.heap ∧ va_D (va_A (rp ad E RL) sz) (rp ad u RL)) (va_A (rp ad E RL) sz)) 0 0 (va_A (rp ad E RL) sz) := xc_Ch_addNameR 12 l D kA sz ad E RL ml nd len wn cs nm 0 hCI rfl
set_option maxHeartbeats 4000000 in
set_option maxRecDepth 100000 in
theorem xc_Ch_addRoot (l : Launch) (D : va_G) (kA : Nat → ClassId) (sz : Nat) (ad : Nat → Nat → Nat) (E : Nat → Nat → va_E) (RL : List (Nat × Nat)) (ml : Nat) (nd : Nat) (len : Nat) (wn : Nat) (cs : Nat) (nm : Int32) (hCI : CI kA ad E RL ml nd len wn cs) : Met l xy_Ch_addRoot (.code xy_Ch_addRoot xb_Ch_addRoot 2 (some .boolean) :: wT) { frames := 19, cells := 0, slots := 0, locals := 1194 } (va_Pc [.ref (ad 0 7), .int nm] (xPre D kA sz (rp ad E RL))) (va_Qi (fun (r : Int32) (u : Nat → Nat → va_E) => (r = 0 ∨ r = 1) ∧ ∃ cs2, CI kA ad u RL ml nd len wn cs2) (fun (u : Nat → Nat → va_E) t => va_P D xcl (rp ad u RL) t.heap ∧ va_D (va_A (rp ad E RL) sz) (rp ad u RL)) (va_A (rp ad E RL) sz)) 0 0 (va_A (rp ad E RL) sz) := by
  refine Met.ofW (cc := xb_Ch_addRoot) (maxL := 2) (ret := (some .boolean)) (by decide) rfl ?_
  intro p e s m args below meth c s₁ B hml hv
  obtain ⟨rfl, hsz, hP, hK, hD0⟩ := hv
  have hx := B.exec
  have hb := B.bytes
  have hr := B.returns
  have hT := x_hT B.pre
  have hown : s.vm.findClass xR_Ch = some m.cls := findClass_of_methodNamed B.named
  have hlocks := B.notSynchronized
  subst hsz
  have hD := hD0.self (sz := s.heap.size)
  generalize hAe : va_A (rp ad E RL) s.heap.size = A at hD ⊢
  have hA : ∀ q : Nat, s.heap.size ≤ q → A q := fun q h => by rw [← hAe]; exact Or.inr h
  have hS : va_S A s.heap s.heap [] := va_S.rf
  have hl := lv_entry ([.ref (ad 0 7), .int nm]) (n := 2) (Nat.le_of_ble_eq_true rfl)
  rw [lg_entry_eq]
  generalize (lg_sl ([.ref (ad 0 7), .int nm]) ++ List.replicate (2 - (lg_sl ([.ref (ad 0 7), .int nm])).length) Slot.unset).toArray = ls at hl ⊢
  have hl : lv_has ls 2 [(0, .ref (ad 0 7)), (1, .int nm)] := hl
  have hP : va_P D xcl (rp ad E RL) s.heap := hP
  obtain ⟨hmB, hDk, hLi, hSh, hCh, hLa, hDIs, hLIs⟩ := id hCI
  obtain ⟨cf_1, pv_1, fc_1, hcs_1, hpv_1, q7_1, q8_1, hfc_1⟩ := id (hCh)
  have c_2 : E 0 7 = .inr (3, [.ref (ad 0 5), .ref (ad 0 8), .int (nI cs), .int cf_1, pv_1]) := q7_1
  have m_3 : (0, 7) ∈ RL := hmB 7 (by omega)
  have c_4 : E 0 8 = .inl (kA 4, 12, .inr (.inr (.inr (.inr fc_1)))) := q8_1
  have m_5 : (0, 8) ∈ RL := hmB 8 (by omega)
  refine lv_aload_n hx hb xd_Ch_addRoot_0 rfl (lv_at hl 0 rfl) ?_
  refine lv_iload_n hx hb xd_Ch_addRoot_1 rfl (lv_at hl 1 rfl) ?_
  refine lv_iconst (v := 0) hx hb xd_Ch_addRoot_2 (by decide) ?_
  have hFc := px_free hD hS hA
  refine va_calli (va_runV (As := [.int nm, .int 0]) (rest := []) ⟨hx, hb, hml, hown, hT⟩ (xc_Ch_addName l D kA s.heap.size ad E RL ml nd len wn cs nm (by first | assumption | omega)) (cwV 2 hT (wT_V yr_29 yr_30 yr_31 yr_18 yr_28) rfl rfl rfl (by decide +kernel) ⟨Nat.le_of_ble_eq_true rfl, Nat.le_of_ble_eq_true rfl⟩) (px_preV hK hP hD m_3 c_2 rfl) rfl rfl hl.1 rfl (lv_room (Nat.le_of_ble_eq_true rfl)) xd_Ch_addRoot_3 ⟨(Nat.le_of_ble_eq_true rfl), (Nat.le_of_ble_eq_true rfl)⟩) hS (fun q _ h => hFc q h) hFc (fun r6 u7 t H1 locs ht hvm hp8 hB hz1 hk1 hS => ?_)
  obtain ⟨hP1, hD1⟩ := hB
  rw [ht] at hP1
  have hD1 := hD1.weaken (fun _ _ _ h => hFc _ h)
  generalize H1 = H at hP1 hS ⊢
  have hP := hP1
  have hD := hD1
  obtain ⟨E9, rfl⟩ : ∃ z, z = u7 := ⟨_, rfl⟩
  have hP : va_P D xcl (rp ad E9 RL) H := hP
  have hD : va_D A (rp ad E9 RL) := hD
  obtain ⟨hr11, cs10, hle11, hCI⟩ := hp8
  have hCI : CI kA ad E9 RL ml nd len wn cs10 := hCI
  obtain ⟨hmB, hDk, hLi, hSh, hCh, hLa, hDIs, hLIs⟩ := id hCI
  exact W.zret (v := r6) hx hb hr (by rcases hr11 with h | h <;> rw [h] <;> rfl) (fun t ht hW => ⟨⟨r6, E9, rfl, ⟨hr11, cs10, hCI⟩, by rw [ht]; exact hP, hD⟩, hS.F ht⟩) hS.2.2 xd_Ch_addRoot_6
set_option maxHeartbeats 4000000 in
set_option maxRecDepth 100000 in
theorem xc_Ch_bindProvidersOf (l : Launch) (D : va_G) (kA : Nat → ClassId) (sz : Nat) (ad : Nat → Nat → Nat) (E : Nat → Nat → va_E) (RL : List (Nat × Nat)) (ml : Nat) (nd : Nat) (len : Nat) (wn : Nat) (cs : Nat) (sv : Int32) (hCI : CI kA ad E RL ml nd len wn cs) : Met l xy_Ch_bindProvidersOf (.code xy_Ch_bindProvidersOf xb_Ch_bindProvidersOf 5 none :: wT) { frames := 19, cells := 0, slots := 0, locals := 1194 } (va_Pc [.ref (ad 0 7), .int sv] (xPre D kA sz (rp ad E RL))) (va_Qv (fun (u : Nat → Nat → va_E) => ∃ cs2, CI kA ad u RL ml nd len wn cs2) (fun (u : Nat → Nat → va_E) t => va_P D xcl (rp ad u RL) t.heap ∧ va_D (va_A (rp ad E RL) sz) (rp ad u RL)) (va_A (rp ad E RL) sz)) 0 0 (va_A (rp ad E RL) sz) := by
  refine Met.ofW (cc := xb_Ch_bindProvidersOf) (maxL := 5) (ret := none) (by decide) rfl ?_
  intro p e s m args below meth c s₁ B hml hv
  obtain ⟨rfl, hsz, hP, hK, hD0⟩ := hv
  have hx := B.exec
  have hb := B.bytes
  have hr := B.returns
  have hT := x_hT B.pre
  have hown : s.vm.findClass xR_Ch = some m.cls := findClass_of_methodNamed B.named
  have hlocks := B.notSynchronized
  subst hsz
  have hD := hD0.self (sz := s.heap.size)
  generalize hAe : va_A (rp ad E RL) s.heap.size = A at hD ⊢
  have hA : ∀ q : Nat, s.heap.size ≤ q → A q := fun q h => by rw [← hAe]; exact Or.inr h
  have hS : va_S A s.heap s.heap [] := va_S.rf
  have hl := lv_entry ([.ref (ad 0 7), .int sv]) (n := 5) (Nat.le_of_ble_eq_true rfl)
  rw [lg_entry_eq]
  generalize (lg_sl ([.ref (ad 0 7), .int sv]) ++ List.replicate (5 - (lg_sl ([.ref (ad 0 7), .int sv])).length) Slot.unset).toArray = ls at hl ⊢
  have hl : lv_has ls 5 [(0, .ref (ad 0 7)), (1, .int sv)] := hl
  have hP : va_P D xcl (rp ad E RL) s.heap := hP
  obtain ⟨hmB, hDk, hLi, hSh, hCh, hLa, hDIs, hLIs⟩ := id hCI
  refine lv_iconst (v := 0) hx hb xd_Ch_bindProvidersOf_0 (by decide) ?_
  refine lv_istore_n hx hb xd_Ch_bindProvidersOf_1 rfl hl (Nat.le_of_ble_eq_true rfl) rfl (fun ls hl => ?_)
  have hl : lv_has ls 5 [(2, .int 0), (0, .ref (ad 0 7)), (1, .int sv)] := hl
  refine xlab (σ := Nat × (Nat → Nat → va_E) × Nat) (ml := 5) 2 (fun (i, E1, cs1) => [(2, .int (nI i)), (1, .int sv), (0, .ref (ad 0 7))]) (fun (i, E1, cs1) => []) (fun (i, E1, cs1) => rp ad E1 RL) (fun (i, E1, cs1) => (i ≤ 12) ∧ (CI kA ad E1 RL ml nd len wn cs1)) (fun (i, E1, cs1) => 12 - i) ?_ (0, E, cs) _ _ _ (lv_sub hl [0, 2, 1] rfl) hP hD hS ⟨(show 0 ≤ 12 from by first | assumption | omega), (show CI kA ad E RL ml nd len wn cs from hCI)⟩
  intro n9 ih1 a9 ls H locs hμ hl hP hD hS hI
  subst hμ
  obtain ⟨i, E1, cs1⟩ := a9
  obtain ⟨hi, hCI⟩ := hI
  have hi : i ≤ 12 := hi
  have hCI : CI kA ad E1 RL ml nd len wn cs1 := hCI
  have hl : lv_has ls 5 [(2, .int (nI i)), (1, .int sv), (0, .ref (ad 0 7))] := hl
  have hP : va_P D xcl (rp ad E1 RL) H := hP
  have hD : va_D A (rp ad E1 RL) := hD
  obtain ⟨hmB, hDk, hLi, hSh, hCh, hLa, hDIs, hLIs⟩ := id hCI
  obtain ⟨fd_2, hnd_2, q5_2, q6_2, hds_2⟩ := id (hSh)
  have c_3 : E1 0 5 = .inr (2, [.ref (ad 0 6), .int (nI nd)]) := q5_2
  have m_4 : (0, 5) ∈ RL := hmB 5 (by omega)
  have c_5 : E1 0 6 = .inl (kA 4, 12, .inr (.inr (.inr (.inr fd_2)))) := q6_2
  have m_6 : (0, 6) ∈ RL := hmB 6 (by omega)
  obtain ⟨cf_7, pv_7, fc_7, hcs_7, hpv_7, q7_7, q8_7, hfc_7⟩ := id (hCh)
  have c_8 : E1 0 7 = .inr (3, [.ref (ad 0 5), .ref (ad 0 8), .int (nI cs1), .int cf_7, pv_7]) := q7_7
  have m_9 : (0, 7) ∈ RL := hmB 7 (by omega)
  have c_10 : E1 0 8 = .inl (kA 4, 12, .inr (.inr (.inr (.inr fc_7)))) := q8_7
  have m_11 : (0, 8) ∈ RL := hmB 8 (by omega)
  refine lv_iload_n hx hb xd_Ch_bindProvidersOf_2 rfl (lv_at hl 0 rfl) ?_
  refine lv_aload_n hx hb xd_Ch_bindProvidersOf_3 rfl (lv_at hl 2 rfl) ?_
  refine px_get (D := D) (ci := 3) (v := .ref (ad 0 5)) (C := xR_Ch) (T := xT_Ch) (N := 5) hx hb hT xi_Ch hown hK.1 hP m_9 c_8 rfl 0 (by decide) (hT _ yr_3) (fun _ h9 => h9) rfl xd_Ch_bindProvidersOf_4 ?_
  refine px_get (D := D) (ci := 2) (v := .int (nI nd)) (C := xR_Sh) (T := xT_Sh) (N := 2) hx hb hT xi_Sh hown hK.1 hP m_4 c_3 rfl 1 (by decide) (hT _ yr_32) (fun _ h9 => h9) rfl xd_Ch_bindProvidersOf_7 ?_
  refine xn_ge (a := i) (b := nd) (tgt := 83) hx hb xd_Ch_bindProvidersOf_10 (by decide) (by omega) (by omega) (fun hc12 => ?_) (fun hc12 => ?_)
  · exact W.vret hx hb hr (fun t ht hW => ⟨⟨E1, rfl, ⟨cs1, hCI⟩, by rw [ht]; exact hP, hD⟩, hS.F ht⟩) hS.2.2 xd_Ch_bindProvidersOf_83
  · refine lv_aload_n hx hb xd_Ch_bindProvidersOf_13 rfl (lv_at hl 2 rfl) ?_
    refine px_get (D := D) (ci := 3) (v := .ref (ad 0 5)) (C := xR_Ch) (T := xT_Ch) (N := 5) hx hb hT xi_Ch hown hK.1 hP m_9 c_8 rfl 0 (by decide) (hT _ yr_3) (fun _ h9 => h9) rfl xd_Ch_bindProvidersOf_14 ?_
    refine px_get (D := D) (ci := 2) (v := .ref (ad 0 6)) (C := xR_Sh) (T := xT_Sh) (N := 2) hx hb hT xi_Sh hown hK.1 hP m_4 c_3 rfl 0 (by decide) (hT _ yr_33) (fun _ h9 => h9) rfl xd_Ch_bindProvidersOf_17 ?_
    refine lv_iload_n hx hb xd_Ch_bindProvidersOf_20 rfl (lv_at hl 0 rfl) ?_
    refine px_aald (i := i) (x := (some (ad (1 + i) 0))) hx hb hK.1 hP m_6 c_5 4 rfl (hds_2 i (by omega)) (by omega) (by decide) xd_Ch_bindProvidersOf_21 ?_
    refine lv_astore_n hx hb xd_Ch_bindProvidersOf_22 rfl hl (Nat.le_of_ble_eq_true rfl) rfl (fun ls hl => ?_)
    have hl : lv_has ls 5 [(3, .ref (ad (1 + i) 0)), (2, .int (nI i)), (1, .int sv), (0, .ref (ad 0 7))] := hl
    refine lv_aload_n hx hb xd_Ch_bindProvidersOf_23 rfl (lv_at hl 3 rfl) ?_
    refine px_get (D := D) (ci := 3) (v := .int (nI cs1)) (C := xR_Ch) (T := xT_Ch) (N := 5) hx hb hT xi_Ch hown hK.1 hP m_9 c_8 rfl 2 (by decide) (hT _ yr_2) (fun _ h9 => h9) rfl xd_Ch_bindProvidersOf_24 ?_
    refine lv_istore hx hb xd_Ch_bindProvidersOf_27 hl (Nat.le_of_ble_eq_true rfl) rfl (fun ls hl => ?_)
    have hl : lv_has ls 5 [(4, .int (nI cs1)), (3, .ref (ad (1 + i) 0)), (2, .int (nI i)), (1, .int sv), (0, .ref (ad 0 7))] := hl
    refine lv_aload_n hx hb xd_Ch_bindProvidersOf_29 rfl (lv_at hl 1 rfl) ?_
    obtain ⟨hm_13, fd_13, nm_13, sd_13, k0_13, k1_13, k2_13, k3_13, f0_13, f1_13, f2_13, f3_13, fe_13, fo_13, tr_13, op_13, hk0_13, hk1_13, hk2_13, hk3_13, q0_13, q1_13, q2_13, q3_13, q4_13, q5_13, q6_13, q7_13, q8_13, q9_13, q10_13, q11_13, q12_13, hg_13⟩ := id (hDIs i (by omega))
    have c_14 : E1 (1 + i) 0 = .inr (7, [.int (nI i), .int fd_13, .int nm_13, .ref (ad (1 + i) 1), .ref (ad (1 + i) 9), .ref (ad (1 + i) 10), .ref (ad (1 + i) 2), .ref (ad (1 + i) 11), .ref (ad (1 + i) 12), .ref (ad (1 + i) 3), .ref (ad (1 + i) 4), .int sd_13]) := q0_13
    have m_15 : (1 + i, 0) ∈ RL := hm_13 0 (by omega)
    have c_16 : E1 (1 + i) 1 = .inr (8, [.ref (ad (1 + i) 5), .int (nI k0_13)]) := q1_13
    have m_17 : (1 + i, 1) ∈ RL := hm_13 1 (by omega)
    have c_18 : E1 (1 + i) 2 = .inr (8, [.ref (ad (1 + i) 6), .int (nI k1_13)]) := q2_13
    have m_19 : (1 + i, 2) ∈ RL := hm_13 2 (by omega)
    have c_20 : E1 (1 + i) 3 = .inr (8, [.ref (ad (1 + i) 7), .int (nI k2_13)]) := q3_13
    have m_21 : (1 + i, 3) ∈ RL := hm_13 3 (by omega)
    have c_22 : E1 (1 + i) 4 = .inr (8, [.ref (ad (1 + i) 8), .int (nI k3_13)]) := q4_13
    have m_23 : (1 + i, 4) ∈ RL := hm_13 4 (by omega)
    have c_24 : E1 (1 + i) 5 = .inl (kA 0, 6, .inl f0_13) := q5_13
    have m_25 : (1 + i, 5) ∈ RL := hm_13 5 (by omega)
    have c_26 : E1 (1 + i) 6 = .inl (kA 0, 5, .inl f1_13) := q6_13
    have m_27 : (1 + i, 6) ∈ RL := hm_13 6 (by omega)
    have c_28 : E1 (1 + i) 7 = .inl (kA 0, 3, .inl f2_13) := q7_13
    have m_29 : (1 + i, 7) ∈ RL := hm_13 7 (by omega)
    have c_30 : E1 (1 + i) 8 = .inl (kA 0, 3, .inl f3_13) := q8_13
    have m_31 : (1 + i, 8) ∈ RL := hm_13 8 (by omega)
    have c_32 : E1 (1 + i) 9 = .inl (kA 8, 6, .inr (.inr (.inr (.inr fe_13)))) := q9_13
    have m_33 : (1 + i, 9) ∈ RL := hm_13 9 (by omega)
    have c_34 : E1 (1 + i) 10 = .inl (kA 8, 6, .inr (.inr (.inr (.inr fo_13)))) := q10_13
    have m_35 : (1 + i, 10) ∈ RL := hm_13 10 (by omega)
    have c_36 : E1 (1 + i) 11 = .inl (kA 2, 5, .inl tr_13) := q11_13
    have m_37 : (1 + i, 11) ∈ RL := hm_13 11 (by omega)
    have c_38 : E1 (1 + i) 12 = .inl (kA 2, 5, .inl op_13) := q12_13
    have m_39 : (1 + i, 12) ∈ RL := hm_13 12 (by omega)
    have hg_13 : ∀ w9, w9 < k0_13 → fe_13 w9 = some (ad (1 + i) (20 + 3 * w9)) ∧ fo_13 w9 = some (ad (1 + i) (38 + 3 * w9)) ∧ GI kA (ad (1 + i)) (E1 (1 + i)) (fun o => (1 + i, o) ∈ RL) (20 + 3 * w9) (21 + 3 * w9) (22 + 3 * w9) ∧ GI kA (ad (1 + i)) (E1 (1 + i)) (fun o => (1 + i, o) ∈ RL) (38 + 3 * w9) (39 + 3 * w9) (40 + 3 * w9) := hg_13
    refine px_get (D := D) (ci := 7) (v := .int fd_13) (C := xR_Ds) (T := xT_Ds) (N := 12) hx hb hT xi_Ds hown hK.1 hP m_15 c_14 rfl 1 (by decide) (hT _ yr_34) (fun _ h9 => h9) rfl xd_Ch_bindProvidersOf_30 ?_
    refine lv_aload_n hx hb xd_Ch_bindProvidersOf_33 rfl (lv_at hl 4 rfl) ?_
    refine px_get (D := D) (ci := 3) (v := .int cf_7) (C := xR_Ch) (T := xT_Ch) (N := 5) hx hb hT xi_Ch hown hK.1 hP m_9 c_8 rfl 3 (by decide) (hT _ yr_0) (fun _ h9 => h9) rfl xd_Ch_bindProvidersOf_34 ?_
    refine lv_icmp_ne (tgt := 77) hx hb xd_Ch_bindProvidersOf_37 (by decide) (fun hc40 => ?_) (fun hc40 => ?_)
    · refine lv_iinc (k := 2) (x := (nI i)) (v := (nI (i + 1))) hx hb xd_Ch_bindProvidersOf_77 hl rfl (xb_inc i 1) (Nat.le_of_ble_eq_true rfl) rfl (fun ls hl => ?_)
      have hl : lv_has ls 5 [(2, .int (nI (i + 1))), (4, .int (nI cs1)), (3, .ref (ad (1 + i) 0)), (1, .int sv), (0, .ref (ad 0 7))] := hl
      refine lv_goto (tgt := 2) hx hb xd_Ch_bindProvidersOf_80 (by decide) ?_
      exact ih1 (i + 1, E1, cs1) _ _ _ (show 12 - (i + 1) < 12 - i by omega) (lv_sub hl [0, 3, 4] rfl) hP hD hS ⟨(show (i + 1) ≤ 12 from by first | assumption | omega), (show CI kA ad E1 RL ml nd len wn cs1 from hCI)⟩
    · refine lv_aload_n hx hb xd_Ch_bindProvidersOf_40 rfl (lv_at hl 1 rfl) ?_
      refine px_get (D := D) (ci := 7) (v := .ref (ad (1 + i) 4)) (C := xR_Ds) (T := xT_Ds) (N := 12) hx hb hT xi_Ds hown hK.1 hP m_15 c_14 rfl 10 (by decide) (hT _ yr_35) (fun _ h9 => h9) rfl xd_Ch_bindProvidersOf_41 ?_
      refine lv_iload_n hx hb xd_Ch_bindProvidersOf_44 rfl (lv_at hl 3 rfl) ?_
      have hFc := px_free hD hS hA
      refine va_calli (va_runV (As := [.int sv]) (rest := []) ⟨hx, hb, hml, hown, hT⟩ (xc_Na_holds l D kA H.size ad E1 RL (1 + i) 4 8 3 k3_13 f3_13 sv m_23 c_22 m_31 c_30 (by first | assumption | omega) (by first | assumption | omega)) (cwV 1 hT (wT_V yr_37 yr_38 yr_39 yr_27 yr_36) rfl rfl rfl (by decide +kernel) ⟨Nat.le_of_ble_eq_true rfl, Nat.le_of_ble_eq_true rfl⟩) (px_preV hK hP hD m_23 c_22 rfl) rfl rfl hl.1 rfl (lv_room (Nat.le_of_ble_eq_true rfl)) xd_Ch_bindProvidersOf_45 ⟨(Nat.le_of_ble_eq_true rfl), (Nat.le_of_ble_eq_true rfl)⟩) hS (fun q _ h => hFc q h) hFc (fun r41 u42 t H1 locs ht hvm hp43 hB hz1 hk1 hS => ?_)
      obtain ⟨hP1, hD1⟩ := hB
      rw [ht] at hP1
      have hD1 := hD1.weaken (fun _ _ _ h => hFc _ h)
      generalize H1 = H at hP1 hS ⊢
      have hP := hP1
      have hD := hD1
      have hP : va_P D xcl (rp ad E1 RL) H := hP
      have hD : va_D A (rp ad E1 RL) := hD
      rcases hp43 with ⟨rfl, z44, z45, z46⟩ | ⟨rfl, z47⟩
      · refine W.eq (g2 := F0 m 48 ls [.int 1]) rfl ?_
        refine lv_if_eq (tgt := 77) hx hb xd_Ch_bindProvidersOf_48 (by decide) (fun hc48 => absurd hc48 (by decide)) (fun _ => ?_)
        refine lv_aload_n hx hb xd_Ch_bindProvidersOf_51 rfl (lv_at hl 4 rfl) ?_
        refine lv_aload_n hx hb xd_Ch_bindProvidersOf_52 rfl (lv_at hl 1 rfl) ?_
        have hFc := px_free hD hS hA
        refine va_calli (va_runV (As := [.ref (ad (1 + i) 0)]) (rest := []) ⟨hx, hb, hml, hown, hT⟩ (xc_Ch_isChosen l D kA H.size ad E1 RL ml nd len wn cs1 i (by first | assumption | omega)) (cwV 1 hT (wT_V yr_15 yr_16 yr_17 yr_18 yr_14) rfl rfl rfl (by decide +kernel) ⟨Nat.le_of_ble_eq_true rfl, Nat.le_of_ble_eq_true rfl⟩) (px_preV hK hP hD m_9 c_8 rfl) rfl rfl hl.1 rfl (lv_room (Nat.le_of_ble_eq_true rfl)) xd_Ch_bindProvidersOf_53 ⟨(Nat.le_of_ble_eq_true rfl), (Nat.le_of_ble_eq_true rfl)⟩) hS (fun q _ h => hFc q h) hFc (fun r49 u50 t H1 locs ht hvm hp51 hB hz1 hk1 hS => ?_)
        obtain ⟨hP1, hD1⟩ := hB
        rw [ht] at hP1
        have hD1 := hD1.weaken (fun _ _ _ h => hFc _ h)
        generalize H1 = H at hP1 hS ⊢
        have hP := hP1
        have hD := hD1
        have hP : va_P D xcl (rp ad E1 RL) H := hP
        have hD : va_D A (rp ad E1 RL) := hD
        rcases hp51 with rfl | rfl
        · refine W.eq (g2 := F0 m 56 ls [.int 0]) rfl ?_
          refine lv_if_ne (tgt := 77) hx hb xd_Ch_bindProvidersOf_56 (by decide) (fun hc52 => absurd (by decide) hc52) (fun _ => ?_)
          refine lv_aload_n hx hb xd_Ch_bindProvidersOf_59 rfl (lv_at hl 4 rfl) ?_
          refine lv_aload_n hx hb xd_Ch_bindProvidersOf_60 rfl (lv_at hl 1 rfl) ?_
          refine px_get (D := D) (ci := 7) (v := .int nm_13) (C := xR_Ds) (T := xT_Ds) (N := 12) hx hb hT xi_Ds hown hK.1 hP m_15 c_14 rfl 2 (by decide) (hT _ yr_40) (fun _ h9 => h9) rfl xd_Ch_bindProvidersOf_61 ?_
          refine lv_iconst (v := 0) hx hb xd_Ch_bindProvidersOf_64 (by decide) ?_
          have hFc := px_free hD hS hA
          refine va_calli (va_runV (As := [.int nm_13, .int 0]) (rest := []) ⟨hx, hb, hml, hown, hT⟩ (xc_Ch_addName l D kA H.size ad E1 RL ml nd len wn cs1 nm_13 (by first | assumption | omega)) (cwV 2 hT (wT_V yr_29 yr_30 yr_31 yr_18 yr_28) rfl rfl rfl (by decide +kernel) ⟨Nat.le_of_ble_eq_true rfl, Nat.le_of_ble_eq_true rfl⟩) (px_preV hK hP hD m_9 c_8 rfl) rfl rfl hl.1 rfl (lv_room (Nat.le_of_ble_eq_true rfl)) xd_Ch_bindProvidersOf_65 ⟨(Nat.le_of_ble_eq_true rfl), (Nat.le_of_ble_eq_true rfl)⟩) hS (fun q _ h => hFc q h) hFc (fun r53 u54 t H1 locs ht hvm hp55 hB hz1 hk1 hS => ?_)
          obtain ⟨hP1, hD1⟩ := hB
          rw [ht] at hP1
          have hD1 := hD1.weaken (fun _ _ _ h => hFc _ h)
          generalize H1 = H at hP1 hS ⊢
          have hP := hP1
          have hD := hD1
          obtain ⟨E56, rfl⟩ : ∃ z, z = u54 := ⟨_, rfl⟩
          have hP : va_P D xcl (rp ad E56 RL) H := hP
          have hD : va_D A (rp ad E56 RL) := hD
          obtain ⟨hr58, cs57, hle58, hCI⟩ := hp55
          have hCI : CI kA ad E56 RL ml nd len wn cs57 := hCI
          obtain ⟨hmB, hDk, hLi, hSh, hCh, hLa, hDIs, hLIs⟩ := id hCI
          obtain ⟨lf_59, q_59⟩ := id (hDk)
          have c_60 : E56 0 0 = .inr (0, [.ref (ad 0 1), .ref (ad 0 5), .ref (ad 0 7), .ref (ad 0 9), .int (nI ml), .int lf_59]) := q_59
          have m_61 : (0, 0) ∈ RL := hmB 0 (by omega)
          obtain ⟨tx_62, fb_62, fe_62, hl1_62, hw2_62, q1_62, q2_62, q3_62, q4_62, hws_62⟩ := id (hLi)
          have c_63 : E56 0 1 = .inr (1, [.ref (ad 0 2), .ref (ad 0 3), .ref (ad 0 4), .int (nI len), .int (nI wn)]) := q1_62
          have m_64 : (0, 1) ∈ RL := hmB 1 (by omega)
          have c_65 : E56 0 2 = .inl (kA 1, 40, .inl tx_62) := q2_62
          have m_66 : (0, 2) ∈ RL := hmB 2 (by omega)
          have c_67 : E56 0 3 = .inl (kA 0, 20, .inl fb_62) := q3_62
          have m_68 : (0, 3) ∈ RL := hmB 3 (by omega)
          have c_69 : E56 0 4 = .inl (kA 0, 20, .inl fe_62) := q4_62
          have m_70 : (0, 4) ∈ RL := hmB 4 (by omega)
          obtain ⟨fd_71, hnd_71, q5_71, q6_71, hds_71⟩ := id (hSh)
          have c_72 : E56 0 5 = .inr (2, [.ref (ad 0 6), .int (nI nd)]) := q5_71
          have m_73 : (0, 5) ∈ RL := hmB 5 (by omega)
          have c_74 : E56 0 6 = .inl (kA 4, 12, .inr (.inr (.inr (.inr fd_71)))) := q6_71
          have m_75 : (0, 6) ∈ RL := hmB 6 (by omega)
          obtain ⟨cf_76, pv_76, fc_76, hcs_76, hpv_76, q7_76, q8_76, hfc_76⟩ := id (hCh)
          have c_77 : E56 0 7 = .inr (3, [.ref (ad 0 5), .ref (ad 0 8), .int (nI cs57), .int cf_76, pv_76]) := q7_76
          have m_78 : (0, 7) ∈ RL := hmB 7 (by omega)
          have c_79 : E56 0 8 = .inl (kA 4, 12, .inr (.inr (.inr (.inr fc_76)))) := q8_76
          have m_80 : (0, 8) ∈ RL := hmB 8 (by omega)
          obtain ⟨fl_81, hml_81, q9_81, hla_81⟩ := id (hLa)
          have c_82 : E56 0 9 = .inl (kA 5, 5, .inr (.inr (.inr (.inr fl_81)))) := q9_81
          have m_83 : (0, 9) ∈ RL := hmB 9 (by omega)
          refine lv_if_ne (tgt := 77) hx hb xd_Ch_bindProvidersOf_68 (by decide) (fun hc84 => ?_) (fun hc84 => ?_)
          · refine lv_iinc (k := 2) (x := (nI i)) (v := (nI (i + 1))) hx hb xd_Ch_bindProvidersOf_77 hl rfl (xb_inc i 1) (Nat.le_of_ble_eq_true rfl) rfl (fun ls hl => ?_)
            have hl : lv_has ls 5 [(2, .int (nI (i + 1))), (4, .int (nI cs1)), (3, .ref (ad (1 + i) 0)), (1, .int sv), (0, .ref (ad 0 7))] := hl
            refine lv_goto (tgt := 2) hx hb xd_Ch_bindProvidersOf_80 (by decide) ?_
            exact ih1 (i + 1, E56, cs57) _ _ _ (show 12 - (i + 1) < 12 - i by omega) (lv_sub hl [0, 3, 4] rfl) hP hD hS ⟨(show (i + 1) ≤ 12 from by first | assumption | omega), (show CI kA ad E56 RL ml nd len wn cs57 from hCI)⟩
          · refine lv_aload_n hx hb xd_Ch_bindProvidersOf_71 rfl (lv_at hl 4 rfl) ?_
            refine lv_iload hx hb xd_Ch_bindProvidersOf_72 (lv_at hl 0 rfl) ?_
            refine px_put (D := D) (ci := 3) (v := .int (nI cs1)) (ty := .int) (C := xR_Ch) (T := xT_Ch) (N := 5) hx hb hT xi_Ch xt_Ch xt_Ch_ok xn_Ch hown hK.1 hP hD hS m_78 c_77 rfl 2 (by decide) (hT _ yr_2) (fun _ h9 => h9) rfl (by decide +kernel) rfl rfl (Nat.le_of_ble_eq_true rfl) xd_Ch_bindProvidersOf_74 (fun H locs hP hD hS => ?_)
            have hP : va_P D xcl (rp ad (up2 E56 0 7 (.inr (3, [.ref (ad 0 5), .ref (ad 0 8), .int (nI cs1), .int cf_76, pv_76]))) RL) H := hP
            have hD : va_D A (rp ad (up2 E56 0 7 (.inr (3, [.ref (ad 0 5), .ref (ad 0 8), .int (nI cs1), .int cf_76, pv_76]))) RL) := hD
            generalize hE86 : up2 E56 0 7 (.inr (3, [.ref (ad 0 5), .ref (ad 0 8), .int (nI cs1), .int cf_76, pv_76])) = E85 at hP hD
            have fE87 : ∀ b2 o2, ¬ (b2 = 0 ∧ o2 = 7) → E85 b2 o2 = E56 b2 o2 := fun b2 o2 h9 => by rw [← hE86]; exact up2_ne (by omega)
            have c_88 : E85 0 7 = .inr (3, [.ref (ad 0 5), .ref (ad 0 8), .int (nI cs1), .int cf_76, pv_76]) := by rw [← hE86]; exact up2_eq
            have c_89 : E85 0 0 = .inr (0, [.ref (ad 0 1), .ref (ad 0 5), .ref (ad 0 7), .ref (ad 0 9), .int (nI ml), .int lf_59]) := (fE87 0 0 (by omega)).trans c_60
            have c_90 : E85 0 1 = .inr (1, [.ref (ad 0 2), .ref (ad 0 3), .ref (ad 0 4), .int (nI len), .int (nI wn)]) := (fE87 0 1 (by omega)).trans c_63
            have c_91 : E85 0 2 = .inl (kA 1, 40, .inl tx_62) := (fE87 0 2 (by omega)).trans c_65
            have c_92 : E85 0 3 = .inl (kA 0, 20, .inl fb_62) := (fE87 0 3 (by omega)).trans c_67
            have c_93 : E85 0 4 = .inl (kA 0, 20, .inl fe_62) := (fE87 0 4 (by omega)).trans c_69
            have c_94 : E85 0 5 = .inr (2, [.ref (ad 0 6), .int (nI nd)]) := (fE87 0 5 (by omega)).trans c_72
            have c_95 : E85 0 6 = .inl (kA 4, 12, .inr (.inr (.inr (.inr fd_71)))) := (fE87 0 6 (by omega)).trans c_74
            have c_96 : E85 0 8 = .inl (kA 4, 12, .inr (.inr (.inr (.inr fc_76)))) := (fE87 0 8 (by omega)).trans c_79
            have c_97 : E85 0 9 = .inl (kA 5, 5, .inr (.inr (.inr (.inr fl_81)))) := (fE87 0 9 (by omega)).trans c_82
            have hCI : CI kA ad E85 RL ml nd len wn cs1 := ⟨hmB, ⟨lf_59, c_89⟩, ⟨tx_62, fb_62, fe_62, (by omega), (by omega), c_90, c_91, c_92, c_93, hws_62⟩, ⟨fd_71, (by omega), c_94, c_95, hds_71⟩, ⟨cf_76, pv_76, fc_76, (by omega), hpv_76, c_88, c_96, (FC_le hfc_76 (by omega))⟩, ⟨fl_81, (by omega), c_97, hla_81⟩, (DIs_same (fun d9 hd9 => fun2 fun o9 => by show E85 (1 + d9) o9 = _; rw [fE87 (1 + d9) o9 (by omega)]) (fun _ _ => rfl) (fun _ h9 => h9) hDIs), (LIs_same (Nat.le_refl _) (fun n9 hn9 => fun2 fun o9 => by show E85 (20 + n9) o9 = _; rw [fE87 (20 + n9) o9 (by omega)]) (fun _ _ => rfl) (fun _ _ => rfl) (fun _ h9 => h9) hLIs)⟩
            obtain ⟨hmB, hDk, hLi, hSh, hCh, hLa, hDIs, hLIs⟩ := id hCI
            refine lv_iinc (k := 2) (x := (nI i)) (v := (nI (i + 1))) hx hb xd_Ch_bindProvidersOf_77 hl rfl (xb_inc i 1) (Nat.le_of_ble_eq_true rfl) rfl (fun ls hl => ?_)
            have hl : lv_has ls 5 [(2, .int (nI (i + 1))), (4, .int (nI cs1)), (3, .ref (ad (1 + i) 0)), (1, .int sv), (0, .ref (ad 0 7))] := hl
            refine lv_goto (tgt := 2) hx hb xd_Ch_bindProvidersOf_80 (by decide) ?_
            exact ih1 (i + 1, E85, cs1) _ _ _ (show 12 - (i + 1) < 12 - i by omega) (lv_sub hl [0, 3, 4] rfl) hP hD hS ⟨(show (i + 1) ≤ 12 from by first | assumption | omega), (show CI kA ad E85 RL ml nd len wn cs1 from hCI)⟩
        · refine W.eq (g2 := F0 m 56 ls [.int 1]) rfl ?_
          refine lv_if_ne (tgt := 77) hx hb xd_Ch_bindProvidersOf_56 (by decide) (fun _ => ?_) (fun hc98 => absurd hc98 (by decide))
          refine lv_iinc (k := 2) (x := (nI i)) (v := (nI (i + 1))) hx hb xd_Ch_bindProvidersOf_77 hl rfl (xb_inc i 1) (Nat.le_of_ble_eq_true rfl) rfl (fun ls hl => ?_)
          have hl : lv_has ls 5 [(2, .int (nI (i + 1))), (4, .int (nI cs1)), (3, .ref (ad (1 + i) 0)), (1, .int sv), (0, .ref (ad 0 7))] := hl
          refine lv_goto (tgt := 2) hx hb xd_Ch_bindProvidersOf_80 (by decide) ?_
          exact ih1 (i + 1, E1, cs1) _ _ _ (show 12 - (i + 1) < 12 - i by omega) (lv_sub hl [0, 3, 4] rfl) hP hD hS ⟨(show (i + 1) ≤ 12 from by first | assumption | omega), (show CI kA ad E1 RL ml nd len wn cs1 from hCI)⟩
      · refine W.eq (g2 := F0 m 48 ls [.int 0]) rfl ?_
        refine lv_if_eq (tgt := 77) hx hb xd_Ch_bindProvidersOf_48 (by decide) (fun _ => ?_) (fun hc99 => absurd (by decide) hc99)
        refine lv_iinc (k := 2) (x := (nI i)) (v := (nI (i + 1))) hx hb xd_Ch_bindProvidersOf_77 hl rfl (xb_inc i 1) (Nat.le_of_ble_eq_true rfl) rfl (fun ls hl => ?_)
        have hl : lv_has ls 5 [(2, .int (nI (i + 1))), (4, .int (nI cs1)), (3, .ref (ad (1 + i) 0)), (1, .int sv), (0, .ref (ad 0 7))] := hl
        refine lv_goto (tgt := 2) hx hb xd_Ch_bindProvidersOf_80 (by decide) ?_
        exact ih1 (i + 1, E1, cs1) _ _ _ (show 12 - (i + 1) < 12 - i by omega) (lv_sub hl [0, 3, 4] rfl) hP hD hS ⟨(show (i + 1) ≤ 12 from by first | assumption | omega), (show CI kA ad E1 RL ml nd len wn cs1 from hCI)⟩
set_option maxHeartbeats 4000000 in
set_option maxRecDepth 100000 in
theorem xc_Ch_bindUsesOf (l : Launch) (D : va_G) (kA : Nat → ClassId) (sz : Nat) (ad : Nat → Nat → Nat) (E : Nat → Nat → va_E) (RL : List (Nat × Nat)) (ml : Nat) (nd : Nat) (len : Nat) (wn : Nat) (cs : Nat) (d : Nat) (hCI : CI kA ad E RL ml nd len wn cs) (hd : d < nd) : Met l xy_Ch_bindUsesOf (.code xy_Ch_bindUsesOf xb_Ch_bindUsesOf 3 none :: wT) { frames := 20, cells := 0, slots := 0, locals := 1218 } (va_Pc [.ref (ad 0 7), .ref (ad (1 + d) 0)] (xPre D kA sz (rp ad E RL))) (va_Qv (fun (u : Nat → Nat → va_E) => ∃ cs2, CI kA ad u RL ml nd len wn cs2) (fun (u : Nat → Nat → va_E) t => va_P D xcl (rp ad u RL) t.heap ∧ va_D (va_A (rp ad E RL) sz) (rp ad u RL)) (va_A (rp ad E RL) sz)) 0 0 (va_A (rp ad E RL) sz) := by
  refine Met.ofW (cc := xb_Ch_bindUsesOf) (maxL := 3) (ret := none) (by decide) rfl ?_
  intro p e s m args below meth c s₁ B hml hv
  obtain ⟨rfl, hsz, hP, hK, hD0⟩ := hv
  have hx := B.exec
  have hb := B.bytes
  have hr := B.returns
  have hT := x_hT B.pre
  have hown : s.vm.findClass xR_Ch = some m.cls := findClass_of_methodNamed B.named
  have hlocks := B.notSynchronized
  subst hsz
  have hD := hD0.self (sz := s.heap.size)
  generalize hAe : va_A (rp ad E RL) s.heap.size = A at hD ⊢
  have hA : ∀ q : Nat, s.heap.size ≤ q → A q := fun q h => by rw [← hAe]; exact Or.inr h
  have hS : va_S A s.heap s.heap [] := va_S.rf
  have hl := lv_entry ([.ref (ad 0 7), .ref (ad (1 + d) 0)]) (n := 3) (Nat.le_of_ble_eq_true rfl)
  rw [lg_entry_eq]
  generalize (lg_sl ([.ref (ad 0 7), .ref (ad (1 + d) 0)]) ++ List.replicate (3 - (lg_sl ([.ref (ad 0 7), .ref (ad (1 + d) 0)])).length) Slot.unset).toArray = ls at hl ⊢
  have hl : lv_has ls 3 [(0, .ref (ad 0 7)), (1, .ref (ad (1 + d) 0))] := hl
  have hP : va_P D xcl (rp ad E RL) s.heap := hP
  obtain ⟨hmB, hDk, hLi, hSh, hCh, hLa, hDIs, hLIs⟩ := id hCI
  refine lv_iconst (v := 0) hx hb xd_Ch_bindUsesOf_0 (by decide) ?_
  refine lv_istore_n hx hb xd_Ch_bindUsesOf_1 rfl hl (Nat.le_of_ble_eq_true rfl) rfl (fun ls hl => ?_)
  have hl : lv_has ls 3 [(2, .int 0), (0, .ref (ad 0 7)), (1, .ref (ad (1 + d) 0))] := hl
  refine xlab (σ := Nat × (Nat → Nat → va_E) × Nat) (ml := 3) 2 (fun (i, E1, cs1) => [(2, .int (nI i)), (1, .ref (ad (1 + d) 0)), (0, .ref (ad 0 7))]) (fun (i, E1, cs1) => []) (fun (i, E1, cs1) => rp ad E1 RL) (fun (i, E1, cs1) => (i ≤ 3) ∧ (CI kA ad E1 RL ml nd len wn cs1)) (fun (i, E1, cs1) => 3 - i) ?_ (0, E, cs) _ _ _ (lv_sub hl [0, 2, 1] rfl) hP hD hS ⟨(show 0 ≤ 3 from by first | assumption | omega), (show CI kA ad E RL ml nd len wn cs from hCI)⟩
  intro n9 ih1 a9 ls H locs hμ hl hP hD hS hI
  subst hμ
  obtain ⟨i, E1, cs1⟩ := a9
  obtain ⟨hi, hCI⟩ := hI
  have hi : i ≤ 3 := hi
  have hCI : CI kA ad E1 RL ml nd len wn cs1 := hCI
  have hl : lv_has ls 3 [(2, .int (nI i)), (1, .ref (ad (1 + d) 0)), (0, .ref (ad 0 7))] := hl
  have hP : va_P D xcl (rp ad E1 RL) H := hP
  have hD : va_D A (rp ad E1 RL) := hD
  obtain ⟨hmB, hDk, hLi, hSh, hCh, hLa, hDIs, hLIs⟩ := id hCI
  obtain ⟨fd_2, hnd_2, q5_2, q6_2, hds_2⟩ := id (hSh)
  have c_3 : E1 0 5 = .inr (2, [.ref (ad 0 6), .int (nI nd)]) := q5_2
  have m_4 : (0, 5) ∈ RL := hmB 5 (by omega)
  have c_5 : E1 0 6 = .inl (kA 4, 12, .inr (.inr (.inr (.inr fd_2)))) := q6_2
  have m_6 : (0, 6) ∈ RL := hmB 6 (by omega)
  refine lv_iload_n hx hb xd_Ch_bindUsesOf_2 rfl (lv_at hl 0 rfl) ?_
  refine lv_aload_n hx hb xd_Ch_bindUsesOf_3 rfl (lv_at hl 1 rfl) ?_
  obtain ⟨hm_7, fd_7, nm_7, sd_7, k0_7, k1_7, k2_7, k3_7, f0_7, f1_7, f2_7, f3_7, fe_7, fo_7, tr_7, op_7, hk0_7, hk1_7, hk2_7, hk3_7, q0_7, q1_7, q2_7, q3_7, q4_7, q5_7, q6_7, q7_7, q8_7, q9_7, q10_7, q11_7, q12_7, hg_7⟩ := id (hDIs d (by omega))
  have c_8 : E1 (1 + d) 0 = .inr (7, [.int (nI d), .int fd_7, .int nm_7, .ref (ad (1 + d) 1), .ref (ad (1 + d) 9), .ref (ad (1 + d) 10), .ref (ad (1 + d) 2), .ref (ad (1 + d) 11), .ref (ad (1 + d) 12), .ref (ad (1 + d) 3), .ref (ad (1 + d) 4), .int sd_7]) := q0_7
  have m_9 : (1 + d, 0) ∈ RL := hm_7 0 (by omega)
  have c_10 : E1 (1 + d) 1 = .inr (8, [.ref (ad (1 + d) 5), .int (nI k0_7)]) := q1_7
  have m_11 : (1 + d, 1) ∈ RL := hm_7 1 (by omega)
  have c_12 : E1 (1 + d) 2 = .inr (8, [.ref (ad (1 + d) 6), .int (nI k1_7)]) := q2_7
  have m_13 : (1 + d, 2) ∈ RL := hm_7 2 (by omega)
  have c_14 : E1 (1 + d) 3 = .inr (8, [.ref (ad (1 + d) 7), .int (nI k2_7)]) := q3_7
  have m_15 : (1 + d, 3) ∈ RL := hm_7 3 (by omega)
  have c_16 : E1 (1 + d) 4 = .inr (8, [.ref (ad (1 + d) 8), .int (nI k3_7)]) := q4_7
  have m_17 : (1 + d, 4) ∈ RL := hm_7 4 (by omega)
  have c_18 : E1 (1 + d) 5 = .inl (kA 0, 6, .inl f0_7) := q5_7
  have m_19 : (1 + d, 5) ∈ RL := hm_7 5 (by omega)
  have c_20 : E1 (1 + d) 6 = .inl (kA 0, 5, .inl f1_7) := q6_7
  have m_21 : (1 + d, 6) ∈ RL := hm_7 6 (by omega)
  have c_22 : E1 (1 + d) 7 = .inl (kA 0, 3, .inl f2_7) := q7_7
  have m_23 : (1 + d, 7) ∈ RL := hm_7 7 (by omega)
  have c_24 : E1 (1 + d) 8 = .inl (kA 0, 3, .inl f3_7) := q8_7
  have m_25 : (1 + d, 8) ∈ RL := hm_7 8 (by omega)
  have c_26 : E1 (1 + d) 9 = .inl (kA 8, 6, .inr (.inr (.inr (.inr fe_7)))) := q9_7
  have m_27 : (1 + d, 9) ∈ RL := hm_7 9 (by omega)
  have c_28 : E1 (1 + d) 10 = .inl (kA 8, 6, .inr (.inr (.inr (.inr fo_7)))) := q10_7
  have m_29 : (1 + d, 10) ∈ RL := hm_7 10 (by omega)
  have c_30 : E1 (1 + d) 11 = .inl (kA 2, 5, .inl tr_7) := q11_7
  have m_31 : (1 + d, 11) ∈ RL := hm_7 11 (by omega)
  have c_32 : E1 (1 + d) 12 = .inl (kA 2, 5, .inl op_7) := q12_7
  have m_33 : (1 + d, 12) ∈ RL := hm_7 12 (by omega)
  have hg_7 : ∀ w9, w9 < k0_7 → fe_7 w9 = some (ad (1 + d) (20 + 3 * w9)) ∧ fo_7 w9 = some (ad (1 + d) (38 + 3 * w9)) ∧ GI kA (ad (1 + d)) (E1 (1 + d)) (fun o => (1 + d, o) ∈ RL) (20 + 3 * w9) (21 + 3 * w9) (22 + 3 * w9) ∧ GI kA (ad (1 + d)) (E1 (1 + d)) (fun o => (1 + d, o) ∈ RL) (38 + 3 * w9) (39 + 3 * w9) (40 + 3 * w9) := hg_7
  refine px_get (D := D) (ci := 7) (v := .ref (ad (1 + d) 3)) (C := xR_Ds) (T := xT_Ds) (N := 12) hx hb hT xi_Ds hown hK.1 hP m_9 c_8 rfl 9 (by decide) (hT _ yr_41) (fun _ h9 => h9) rfl xd_Ch_bindUsesOf_4 ?_
  refine px_get (D := D) (ci := 8) (v := .int (nI k2_7)) (C := xR_Na) (T := xT_Na) (N := 2) hx hb hT xi_Na hown hK.1 hP m_15 c_14 rfl 1 (by decide) (hT _ yr_21) (fun _ h9 => h9) rfl xd_Ch_bindUsesOf_7 ?_
  refine xn_ge (a := i) (b := k2_7) (tgt := 31) hx hb xd_Ch_bindUsesOf_10 (by decide) (by omega) (by omega) (fun hc34 => ?_) (fun hc34 => ?_)
  · exact W.vret hx hb hr (fun t ht hW => ⟨⟨E1, rfl, ⟨cs1, hCI⟩, by rw [ht]; exact hP, hD⟩, hS.F ht⟩) hS.2.2 xd_Ch_bindUsesOf_31
  · refine lv_aload_n hx hb xd_Ch_bindUsesOf_13 rfl (lv_at hl 2 rfl) ?_
    refine lv_aload_n hx hb xd_Ch_bindUsesOf_14 rfl (lv_at hl 1 rfl) ?_
    refine px_get (D := D) (ci := 7) (v := .ref (ad (1 + d) 3)) (C := xR_Ds) (T := xT_Ds) (N := 12) hx hb hT xi_Ds hown hK.1 hP m_9 c_8 rfl 9 (by decide) (hT _ yr_41) (fun _ h9 => h9) rfl xd_Ch_bindUsesOf_15 ?_
    refine lv_iload_n hx hb xd_Ch_bindUsesOf_18 rfl (lv_at hl 0 rfl) ?_
    have hFc := px_free hD hS hA
    refine va_calli (va_runV (As := [.int (nI i)]) (rest := [.ref (ad 0 7)]) ⟨hx, hb, hml, hown, hT⟩ (xc_Na_at l D kA H.size ad E1 RL (1 + d) 3 7 3 k2_7 f2_7 i m_15 c_14 m_23 c_22 (by first | assumption | omega) (by first | assumption | omega) (by first | assumption | omega)) (cwV 1 hT (wT_V yr_24 yr_25 yr_26 yr_27 yr_23) rfl rfl rfl (by decide +kernel) ⟨Nat.le_of_ble_eq_true rfl, Nat.le_of_ble_eq_true rfl⟩) (px_preV hK hP hD m_15 c_14 rfl) rfl rfl hl.1 rfl (lv_room (Nat.le_of_ble_eq_true rfl)) xd_Ch_bindUsesOf_19 ⟨(Nat.le_of_ble_eq_true rfl), (Nat.le_of_ble_eq_true rfl)⟩) hS (fun q _ h => hFc q h) hFc (fun r35 u36 t H1 locs ht hvm hp37 hB hz1 hk1 hS => ?_)
    obtain ⟨hP1, hD1⟩ := hB
    rw [ht] at hP1
    have hD1 := hD1.weaken (fun _ _ _ h => hFc _ h)
    generalize H1 = H at hP1 hS ⊢
    have hP := hP1
    have hD := hD1
    have hP : va_P D xcl (rp ad E1 RL) H := hP
    have hD : va_D A (rp ad E1 RL) := hD
    have hFc := px_free hD hS hA
    obtain ⟨cf_38, pv_38, fc_38, hcs_38, hpv_38, q7_38, q8_38, hfc_38⟩ := id (hCh)
    have c_39 : E1 0 7 = .inr (3, [.ref (ad 0 5), .ref (ad 0 8), .int (nI cs1), .int cf_38, pv_38]) := q7_38
    have m_40 : (0, 7) ∈ RL := hmB 7 (by omega)
    have c_41 : E1 0 8 = .inl (kA 4, 12, .inr (.inr (.inr (.inr fc_38)))) := q8_38
    have m_42 : (0, 8) ∈ RL := hmB 8 (by omega)
    refine va_callv (va_runV (As := [.int r35]) (rest := []) ⟨hx, hb, hml, hown, hT⟩ (xc_Ch_bindProvidersOf l D kA H.size ad E1 RL ml nd len wn cs1 r35 (by first | assumption | omega)) (cwV 1 hT (wT_V yr_43 yr_44 yr_45 yr_18 yr_42) rfl rfl rfl (by decide +kernel) ⟨Nat.le_of_ble_eq_true rfl, Nat.le_of_ble_eq_true rfl⟩) (px_preV hK hP hD m_40 c_39 rfl) rfl rfl hl.1 rfl (lv_room (Nat.le_of_ble_eq_true rfl)) xd_Ch_bindUsesOf_22 ⟨(Nat.le_of_ble_eq_true rfl), (Nat.le_of_ble_eq_true rfl)⟩) hS (fun q _ h => hFc q h) hFc (fun u44 t H1 locs ht hvm hp45 hB hz1 hk1 hS => ?_)
    obtain ⟨hP1, hD1⟩ := hB
    rw [ht] at hP1
    have hD1 := hD1.weaken (fun _ _ _ h => hFc _ h)
    generalize H1 = H at hP1 hS ⊢
    have hP := hP1
    have hD := hD1
    obtain ⟨E46, rfl⟩ : ∃ z, z = u44 := ⟨_, rfl⟩
    have hP : va_P D xcl (rp ad E46 RL) H := hP
    have hD : va_D A (rp ad E46 RL) := hD
    obtain ⟨cs47, hCI⟩ := hp45
    have hCI : CI kA ad E46 RL ml nd len wn cs47 := hCI
    obtain ⟨hmB, hDk, hLi, hSh, hCh, hLa, hDIs, hLIs⟩ := id hCI
    refine lv_iinc (k := 0) (x := (nI i)) (v := (nI (i + 1))) hx hb xd_Ch_bindUsesOf_25 hl rfl (xb_inc i 1) (Nat.le_of_ble_eq_true rfl) rfl (fun ls hl => ?_)
    have hl : lv_has ls 3 [(2, .int (nI (i + 1))), (1, .ref (ad (1 + d) 0)), (0, .ref (ad 0 7))] := hl
    refine lv_goto (tgt := 2) hx hb xd_Ch_bindUsesOf_28 (by decide) ?_
    exact ih1 (i + 1, E46, cs47) _ _ _ (show 3 - (i + 1) < 3 - i by omega) (lv_sub hl [0, 1, 2] rfl) hP hD hS ⟨(show (i + 1) ≤ 3 from by first | assumption | omega), (show CI kA ad E46 RL ml nd len wn cs47 from hCI)⟩
set_option maxHeartbeats 4000000 in
set_option maxRecDepth 100000 in
theorem xc_Ch_bindOnce (l : Launch) (D : va_G) (kA : Nat → ClassId) (sz : Nat) (ad : Nat → Nat → Nat) (E : Nat → Nat → va_E) (RL : List (Nat × Nat)) (ml : Nat) (nd : Nat) (len : Nat) (wn : Nat) (cs : Nat) (hCI : CI kA ad E RL ml nd len wn cs) : Met l xy_Ch_bindOnce (.code xy_Ch_bindOnce xb_Ch_bindOnce 3 none :: wT) { frames := 21, cells := 0, slots := 0, locals := 1240 } (va_Pc [.ref (ad 0 7)] (xPre D kA sz (rp ad E RL))) (va_Qv (fun (u : Nat → Nat → va_E) => ∃ cs2, CI kA ad u RL ml nd len wn cs2) (fun (u : Nat → Nat → va_E) t => va_P D xcl (rp ad u RL) t.heap ∧ va_D (va_A (rp ad E RL) sz) (rp ad u RL)) (va_A (rp ad E RL) sz)) 0 0 (va_A (rp ad E RL) sz) := by
  refine Met.ofW (cc := xb_Ch_bindOnce) (maxL := 3) (ret := none) (by decide) rfl ?_
  intro p e s m args below meth c s₁ B hml hv
  obtain ⟨rfl, hsz, hP, hK, hD0⟩ := hv
  have hx := B.exec
  have hb := B.bytes
  have hr := B.returns
  have hT := x_hT B.pre
  have hown : s.vm.findClass xR_Ch = some m.cls := findClass_of_methodNamed B.named
  have hlocks := B.notSynchronized
  subst hsz
  have hD := hD0.self (sz := s.heap.size)
  generalize hAe : va_A (rp ad E RL) s.heap.size = A at hD ⊢
  have hA : ∀ q : Nat, s.heap.size ≤ q → A q := fun q h => by rw [← hAe]; exact Or.inr h
  have hS : va_S A s.heap s.heap [] := va_S.rf
  have hl := lv_entry ([.ref (ad 0 7)]) (n := 3) (Nat.le_of_ble_eq_true rfl)
  rw [lg_entry_eq]
  generalize (lg_sl ([.ref (ad 0 7)]) ++ List.replicate (3 - (lg_sl ([.ref (ad 0 7)])).length) Slot.unset).toArray = ls at hl ⊢
  have hl : lv_has ls 3 [(0, .ref (ad 0 7))] := hl
  have hP : va_P D xcl (rp ad E RL) s.heap := hP
  obtain ⟨hmB, hDk, hLi, hSh, hCh, hLa, hDIs, hLIs⟩ := id hCI
  refine lv_iconst (v := 0) hx hb xd_Ch_bindOnce_0 (by decide) ?_
  refine lv_istore_n hx hb xd_Ch_bindOnce_1 rfl hl (Nat.le_of_ble_eq_true rfl) rfl (fun ls hl => ?_)
  have hl : lv_has ls 3 [(1, .int 0), (0, .ref (ad 0 7))] := hl
  refine xlab (σ := Nat × (Nat → Nat → va_E) × Nat) (ml := 3) 2 (fun (i, E1, cs1) => [(1, .int (nI i)), (0, .ref (ad 0 7))]) (fun (i, E1, cs1) => []) (fun (i, E1, cs1) => rp ad E1 RL) (fun (i, E1, cs1) => (i ≤ 12) ∧ (CI kA ad E1 RL ml nd len wn cs1)) (fun (i, E1, cs1) => 12 - i) ?_ (0, E, cs) _ _ _ (lv_sub hl [0, 1] rfl) hP hD hS ⟨(show 0 ≤ 12 from by first | assumption | omega), (show CI kA ad E RL ml nd len wn cs from hCI)⟩
  intro n9 ih1 a9 ls H locs hμ hl hP hD hS hI
  subst hμ
  obtain ⟨i, E1, cs1⟩ := a9
  obtain ⟨hi, hCI⟩ := hI
  have hi : i ≤ 12 := hi
  have hCI : CI kA ad E1 RL ml nd len wn cs1 := hCI
  have hl : lv_has ls 3 [(1, .int (nI i)), (0, .ref (ad 0 7))] := hl
  have hP : va_P D xcl (rp ad E1 RL) H := hP
  have hD : va_D A (rp ad E1 RL) := hD
  obtain ⟨hmB, hDk, hLi, hSh, hCh, hLa, hDIs, hLIs⟩ := id hCI
  obtain ⟨fd_2, hnd_2, q5_2, q6_2, hds_2⟩ := id (hSh)
  have c_3 : E1 0 5 = .inr (2, [.ref (ad 0 6), .int (nI nd)]) := q5_2
  have m_4 : (0, 5) ∈ RL := hmB 5 (by omega)
  have c_5 : E1 0 6 = .inl (kA 4, 12, .inr (.inr (.inr (.inr fd_2)))) := q6_2
  have m_6 : (0, 6) ∈ RL := hmB 6 (by omega)
  obtain ⟨cf_7, pv_7, fc_7, hcs_7, hpv_7, q7_7, q8_7, hfc_7⟩ := id (hCh)
  have c_8 : E1 0 7 = .inr (3, [.ref (ad 0 5), .ref (ad 0 8), .int (nI cs1), .int cf_7, pv_7]) := q7_7
  have m_9 : (0, 7) ∈ RL := hmB 7 (by omega)
  have c_10 : E1 0 8 = .inl (kA 4, 12, .inr (.inr (.inr (.inr fc_7)))) := q8_7
  have m_11 : (0, 8) ∈ RL := hmB 8 (by omega)
  refine lv_iload_n hx hb xd_Ch_bindOnce_2 rfl (lv_at hl 0 rfl) ?_
  refine lv_aload_n hx hb xd_Ch_bindOnce_3 rfl (lv_at hl 1 rfl) ?_
  refine px_get (D := D) (ci := 3) (v := .int (nI cs1)) (C := xR_Ch) (T := xT_Ch) (N := 5) hx hb hT xi_Ch hown hK.1 hP m_9 c_8 rfl 2 (by decide) (hT _ yr_2) (fun _ h9 => h9) rfl xd_Ch_bindOnce_4 ?_
  refine xn_ge (a := i) (b := cs1) (tgt := 32) hx hb xd_Ch_bindOnce_7 (by decide) (by omega) (by omega) (fun hc12 => ?_) (fun hc12 => ?_)
  · refine lv_aload_n hx hb xd_Ch_bindOnce_32 rfl (lv_at hl 1 rfl) ?_
    refine px_get (D := D) (ci := 3) (v := pv_7) (C := xR_Ch) (T := xT_Ch) (N := 5) hx hb hT xi_Ch hown hK.1 hP m_9 c_8 rfl 4 (by decide) (hT _ yr_1) (fun _ h9 => h9) rfl xd_Ch_bindOnce_33 ?_
    rcases hpv_7 with rfl | ⟨x13, hx14, rfl⟩
    · refine W.eq (g2 := F0 m 36 ls [.null]) rfl ?_
      refine lv_astore_nN hx hb xd_Ch_bindOnce_36 rfl hl (Nat.le_of_ble_eq_true rfl) rfl (fun ls hl => ?_)
      have hl : lv_has ls 3 [(1, .null), (0, .ref (ad 0 7))] := hl
      refine xlab (σ := Nat × (Nat → Nat → va_E) × Nat) (ml := 3) 37 (fun (y, E3, cs3) => [(1, (lyv ad y)), (0, .ref (ad 0 7))]) (fun (y, E3, cs3) => []) (fun (y, E3, cs3) => rp ad E3 RL) (fun (y, E3, cs3) => (y ≤ ml) ∧ (CI kA ad E3 RL ml nd len wn cs3)) (fun (y, E3, cs3) => y) ?_ (0, E1, cs1) _ _ _ (lv_sub hl [0, 1] rfl) hP hD hS ⟨(show 0 ≤ ml from by first | assumption | omega), (show CI kA ad E1 RL ml nd len wn cs1 from hCI)⟩
      intro n9 ih15 a9 ls H locs hμ hl hP hD hS hI
      subst hμ
      obtain ⟨y, E3, cs3⟩ := a9
      obtain ⟨hy, hCI⟩ := hI
      have hy : y ≤ ml := hy
      have hCI : CI kA ad E3 RL ml nd len wn cs3 := hCI
      have hl : lv_has ls 3 [(1, (lyv ad y)), (0, .ref (ad 0 7))] := hl
      have hP : va_P D xcl (rp ad E3 RL) H := hP
      have hD : va_D A (rp ad E3 RL) := hD
      obtain ⟨hmB, hDk, hLi, hSh, hCh, hLa, hDIs, hLIs⟩ := id hCI
      obtain ⟨fd_16, hnd_16, q5_16, q6_16, hds_16⟩ := id (hSh)
      have c_17 : E3 0 5 = .inr (2, [.ref (ad 0 6), .int (nI nd)]) := q5_16
      have m_18 : (0, 5) ∈ RL := hmB 5 (by omega)
      have c_19 : E3 0 6 = .inl (kA 4, 12, .inr (.inr (.inr (.inr fd_16)))) := q6_16
      have m_20 : (0, 6) ∈ RL := hmB 6 (by omega)
      obtain ⟨fl_21, hml_21, q9_21, hla_21⟩ := id (hLa)
      have c_22 : E3 0 9 = .inl (kA 5, 5, .inr (.inr (.inr (.inr fl_21)))) := q9_21
      have m_23 : (0, 9) ∈ RL := hmB 9 (by omega)
      rcases y with _ | y
      · have hl : lv_has ls 3 [(1, .null), (0, .ref (ad 0 7))] := hl
        refine lv_aload_nN hx hb xd_Ch_bindOnce_37 rfl (lv_at hl 0 rfl) ?_
        refine lv_ifnullN (tgt := 79) hx hb xd_Ch_bindOnce_38 (by decide) ?_
        exact W.vret hx hb hr (fun t ht hW => ⟨⟨E3, rfl, ⟨cs3, hCI⟩, by rw [ht]; exact hP, hD⟩, hS.F ht⟩) hS.2.2 xd_Ch_bindOnce_79
      · have hl : lv_has ls 3 [(1, .ref (ad (20 + y) 0)), (0, .ref (ad 0 7))] := hl
        refine lv_aload_n hx hb xd_Ch_bindOnce_37 rfl (lv_at hl 0 rfl) ?_
        refine lv_ifnull hx hb xd_Ch_bindOnce_38 ?_
        refine lv_iconst (v := 0) hx hb xd_Ch_bindOnce_41 (by decide) ?_
        refine lv_istore_n hx hb xd_Ch_bindOnce_42 rfl hl (Nat.le_of_ble_eq_true rfl) rfl (fun ls hl => ?_)
        have hl : lv_has ls 3 [(2, .int 0), (1, .ref (ad (20 + y) 0)), (0, .ref (ad 0 7))] := hl
        refine xlab (σ := Nat × (Nat → Nat → va_E) × Nat) (ml := 3) 43 (fun (k, E4, cs4) => [(2, .int (nI k)), (1, .ref (ad (20 + y) 0)), (0, .ref (ad 0 7))]) (fun (k, E4, cs4) => []) (fun (k, E4, cs4) => rp ad E4 RL) (fun (k, E4, cs4) => (k ≤ 12) ∧ (CI kA ad E4 RL ml nd len wn cs4)) (fun (k, E4, cs4) => 12 - k) ?_ (0, E3, cs3) _ _ _ (lv_sub hl [0, 1, 2] rfl) hP hD hS ⟨(show 0 ≤ 12 from by first | assumption | omega), (show CI kA ad E3 RL ml nd len wn cs3 from hCI)⟩
        intro n9 ih24 a9 ls H locs hμ hl hP hD hS hI
        subst hμ
        obtain ⟨k, E4, cs4⟩ := a9
        obtain ⟨hk9, hCI⟩ := hI
        have hk9 : k ≤ 12 := hk9
        have hCI : CI kA ad E4 RL ml nd len wn cs4 := hCI
        have hl : lv_has ls 3 [(2, .int (nI k)), (1, .ref (ad (20 + y) 0)), (0, .ref (ad 0 7))] := hl
        have hP : va_P D xcl (rp ad E4 RL) H := hP
        have hD : va_D A (rp ad E4 RL) := hD
        obtain ⟨hmB, hDk, hLi, hSh, hCh, hLa, hDIs, hLIs⟩ := id hCI
        obtain ⟨fd_25, hnd_25, q5_25, q6_25, hds_25⟩ := id (hSh)
        have c_26 : E4 0 5 = .inr (2, [.ref (ad 0 6), .int (nI nd)]) := q5_25
        have m_27 : (0, 5) ∈ RL := hmB 5 (by omega)
        have c_28 : E4 0 6 = .inl (kA 4, 12, .inr (.inr (.inr (.inr fd_25)))) := q6_25
        have m_29 : (0, 6) ∈ RL := hmB 6 (by omega)
        obtain ⟨fl_30, hml_30, q9_30, hla_30⟩ := id (hLa)
        have c_31 : E4 0 9 = .inl (kA 5, 5, .inr (.inr (.inr (.inr fl_30)))) := q9_30
        have m_32 : (0, 9) ∈ RL := hmB 9 (by omega)
        refine lv_iload_n hx hb xd_Ch_bindOnce_43 rfl (lv_at hl 0 rfl) ?_
        refine lv_aload_n hx hb xd_Ch_bindOnce_44 rfl (lv_at hl 1 rfl) ?_
        obtain ⟨m0_33, m1_33, pv_33, op_33, mk_33, fm_33, hmk_33, hpv_33, q0_33, q1_33, hk_33⟩ := id (hLIs y (by omega))
        have c_34 : E4 (20 + y) 0 = .inr (5, [.int (nI y), pv_33, .ref (ad (20 + y) 1), .int op_33]) := q0_33
        have m_35 : (20 + y, 0) ∈ RL := m0_33
        have c_36 : E4 (20 + y) 1 = .inl (kA 6, mk_33, .inr (.inr (.inr (.inr fm_33)))) := q1_33
        have m_37 : (20 + y, 1) ∈ RL := m1_33
        refine px_get (D := D) (ci := 5) (v := .ref (ad (20 + y) 1)) (C := xR_Ly) (T := xT_Ly) (N := 4) hx hb hT xi_Ly hown hK.1 hP m_35 c_34 rfl 2 (by decide) (hT _ yr_46) (fun _ h9 => h9) rfl xd_Ch_bindOnce_45 ?_
        refine px_alen hx hb hK.1 hP m_37 c_36 6 rfl xd_Ch_bindOnce_48 ?_
        refine W.eq (g2 := F0 m 49 ls [.int (nI mk_33), .int (nI k)]) rfl ?_
        refine xn_ge (a := k) (b := mk_33) (tgt := 71) hx hb xd_Ch_bindOnce_49 (by decide) (by omega) (by omega) (fun hc38 => ?_) (fun hc38 => ?_)
        · refine lv_aload_n hx hb xd_Ch_bindOnce_71 rfl (lv_at hl 1 rfl) ?_
          refine px_get (D := D) (ci := 5) (v := pv_33) (C := xR_Ly) (T := xT_Ly) (N := 4) hx hb hT xi_Ly hown hK.1 hP m_35 c_34 rfl 1 (by decide) (hT _ yr_47) (fun _ h9 => h9) rfl xd_Ch_bindOnce_72 ?_
          rcases hpv_33 with rfl | ⟨x39, hx40, rfl⟩
          · refine W.eq (g2 := F0 m 75 ls [.null]) rfl ?_
            refine lv_astore_nN hx hb xd_Ch_bindOnce_75 rfl hl (Nat.le_of_ble_eq_true rfl) rfl (fun ls hl => ?_)
            have hl : lv_has ls 3 [(1, .null), (2, .int (nI k)), (0, .ref (ad 0 7))] := hl
            refine lv_goto (tgt := 37) hx hb xd_Ch_bindOnce_76 (by decide) ?_
            exact ih15 (0, E4, cs4) _ _ _ (show 0 < y + 1 by omega) (lv_sub hl [0, 2] rfl) hP hD hS ⟨(show 0 ≤ ml from by first | assumption | omega), (show CI kA ad E4 RL ml nd len wn cs4 from hCI)⟩
          · refine W.eq (g2 := F0 m 75 ls [.ref (ad (20 + x39) 0)]) rfl ?_
            refine lv_astore_n hx hb xd_Ch_bindOnce_75 rfl hl (Nat.le_of_ble_eq_true rfl) rfl (fun ls hl => ?_)
            have hl : lv_has ls 3 [(1, .ref (ad (20 + x39) 0)), (2, .int (nI k)), (0, .ref (ad 0 7))] := hl
            refine lv_goto (tgt := 37) hx hb xd_Ch_bindOnce_76 (by decide) ?_
            exact ih15 (x39 + 1, E4, cs4) _ _ _ (show (x39 + 1) < y + 1 by omega) (lv_sub hl [0, 2] rfl) hP hD hS ⟨(show (x39 + 1) ≤ ml from by first | assumption | omega), (show CI kA ad E4 RL ml nd len wn cs4 from hCI)⟩
        · refine lv_aload_n hx hb xd_Ch_bindOnce_52 rfl (lv_at hl 2 rfl) ?_
          refine lv_aload_n hx hb xd_Ch_bindOnce_53 rfl (lv_at hl 1 rfl) ?_
          refine px_get (D := D) (ci := 5) (v := .ref (ad (20 + y) 1)) (C := xR_Ly) (T := xT_Ly) (N := 4) hx hb hT xi_Ly hown hK.1 hP m_35 c_34 rfl 2 (by decide) (hT _ yr_46) (fun _ h9 => h9) rfl xd_Ch_bindOnce_54 ?_
          refine lv_iload_n hx hb xd_Ch_bindOnce_57 rfl (lv_at hl 0 rfl) ?_
          refine px_aald (i := k) (x := (some (ad (20 + y) (10 + 10 * k)))) hx hb hK.1 hP m_37 c_36 6 rfl ((hk_33 k (by omega)).1) (by omega) (by omega) xd_Ch_bindOnce_58 ?_
          obtain ⟨hm_41, d_41, rs_41, fr_41, g2_41, g3_41, g4_41, hd_41, hrs_41, q0_41, q1_41, q2_41, q3_41, q4_41, q5_41, q6_41, q7_41⟩ := (hk_33 k (by omega)).2
          have c_42 : E4 (20 + y) (10 + 10 * k) = .inr (6, [.ref (ad (20 + y) 0), .ref (ad (1 + d_41) 0), .ref (ad (20 + y) (11 + 10 * k)), .ref (ad (20 + y) (12 + 10 * k)), .ref (ad (20 + y) (13 + 10 * k)), .ref (ad (20 + y) (14 + 10 * k))]) := q0_41
          have m_43 : (20 + y, 10 + 10 * k) ∈ RL := hm_41 0 (by omega)
          have c_44 : E4 (20 + y) (11 + 10 * k) = .inl (kA 6, rs_41, .inr (.inr (.inr (.inr fr_41)))) := q1_41
          have m_45 : (20 + y, 11 + 10 * k) ∈ RL := hm_41 1 (by omega)
          have c_46 : E4 (20 + y) (12 + 10 * k) = .inr (10, [.ref (ad (20 + y) (15 + 10 * k))]) := q2_41
          have m_47 : (20 + y, 12 + 10 * k) ∈ RL := hm_41 2 (by omega)
          have c_48 : E4 (20 + y) (13 + 10 * k) = .inr (10, [.ref (ad (20 + y) (16 + 10 * k))]) := q3_41
          have m_49 : (20 + y, 13 + 10 * k) ∈ RL := hm_41 3 (by omega)
          have c_50 : E4 (20 + y) (14 + 10 * k) = .inr (10, [.ref (ad (20 + y) (17 + 10 * k))]) := q4_41
          have m_51 : (20 + y, 14 + 10 * k) ∈ RL := hm_41 4 (by omega)
          have c_52 : E4 (20 + y) (15 + 10 * k) = .inl (kA 0, 6, .inl g2_41) := q5_41
          have m_53 : (20 + y, 15 + 10 * k) ∈ RL := hm_41 5 (by omega)
          have c_54 : E4 (20 + y) (16 + 10 * k) = .inl (kA 0, 6, .inl g3_41) := q6_41
          have m_55 : (20 + y, 16 + 10 * k) ∈ RL := hm_41 6 (by omega)
          have c_56 : E4 (20 + y) (17 + 10 * k) = .inl (kA 0, 6, .inl g4_41) := q7_41
          have m_57 : (20 + y, 17 + 10 * k) ∈ RL := hm_41 7 (by omega)
          refine px_get (D := D) (ci := 6) (v := .ref (ad (1 + d_41) 0)) (C := xR_Me) (T := xT_Me) (N := 6) hx hb hT xi_Me hown hK.1 hP m_43 c_42 rfl 1 (by decide) (hT _ yr_48) (fun _ h9 => h9) rfl xd_Ch_bindOnce_59 ?_
          have hFc := px_free hD hS hA
          obtain ⟨cf_58, pv_58, fc_58, hcs_58, hpv_58, q7_58, q8_58, hfc_58⟩ := id (hCh)
          have c_59 : E4 0 7 = .inr (3, [.ref (ad 0 5), .ref (ad 0 8), .int (nI cs4), .int cf_58, pv_58]) := q7_58
          have m_60 : (0, 7) ∈ RL := hmB 7 (by omega)
          have c_61 : E4 0 8 = .inl (kA 4, 12, .inr (.inr (.inr (.inr fc_58)))) := q8_58
          have m_62 : (0, 8) ∈ RL := hmB 8 (by omega)
          refine va_callv (va_runV (As := [.ref (ad (1 + d_41) 0)]) (rest := []) ⟨hx, hb, hml, hown, hT⟩ (xc_Ch_bindUsesOf l D kA H.size ad E4 RL ml nd len wn cs4 d_41 (by first | assumption | omega) (by first | assumption | omega)) (cwV 1 hT (wT_V yr_50 yr_51 yr_52 yr_18 yr_49) rfl rfl rfl (by decide +kernel) ⟨Nat.le_of_ble_eq_true rfl, Nat.le_of_ble_eq_true rfl⟩) (px_preV hK hP hD m_60 c_59 rfl) rfl rfl hl.1 rfl (lv_room (Nat.le_of_ble_eq_true rfl)) xd_Ch_bindOnce_62 ⟨(Nat.le_of_ble_eq_true rfl), (Nat.le_of_ble_eq_true rfl)⟩) hS (fun q _ h => hFc q h) hFc (fun u64 t H1 locs ht hvm hp65 hB hz1 hk1 hS => ?_)
          obtain ⟨hP1, hD1⟩ := hB
          rw [ht] at hP1
          have hD1 := hD1.weaken (fun _ _ _ h => hFc _ h)
          generalize H1 = H at hP1 hS ⊢
          have hP := hP1
          have hD := hD1
          obtain ⟨E66, rfl⟩ : ∃ z, z = u64 := ⟨_, rfl⟩
          have hP : va_P D xcl (rp ad E66 RL) H := hP
          have hD : va_D A (rp ad E66 RL) := hD
          obtain ⟨cs67, hCI⟩ := hp65
          have hCI : CI kA ad E66 RL ml nd len wn cs67 := hCI
          obtain ⟨hmB, hDk, hLi, hSh, hCh, hLa, hDIs, hLIs⟩ := id hCI
          refine lv_iinc (k := 0) (x := (nI k)) (v := (nI (k + 1))) hx hb xd_Ch_bindOnce_65 hl rfl (xb_inc k 1) (Nat.le_of_ble_eq_true rfl) rfl (fun ls hl => ?_)
          have hl : lv_has ls 3 [(2, .int (nI (k + 1))), (1, .ref (ad (20 + y) 0)), (0, .ref (ad 0 7))] := hl
          refine lv_goto (tgt := 43) hx hb xd_Ch_bindOnce_68 (by decide) ?_
          exact ih24 (k + 1, E66, cs67) _ _ _ (show 12 - (k + 1) < 12 - k by omega) (lv_sub hl [0, 1, 2] rfl) hP hD hS ⟨(show (k + 1) ≤ 12 from by first | assumption | omega), (show CI kA ad E66 RL ml nd len wn cs67 from hCI)⟩
    · refine W.eq (g2 := F0 m 36 ls [.ref (ad (20 + x13) 0)]) rfl ?_
      refine lv_astore_n hx hb xd_Ch_bindOnce_36 rfl hl (Nat.le_of_ble_eq_true rfl) rfl (fun ls hl => ?_)
      have hl : lv_has ls 3 [(1, .ref (ad (20 + x13) 0)), (0, .ref (ad 0 7))] := hl
      refine xlab (σ := Nat × (Nat → Nat → va_E) × Nat) (ml := 3) 37 (fun (y, E3, cs3) => [(1, (lyv ad y)), (0, .ref (ad 0 7))]) (fun (y, E3, cs3) => []) (fun (y, E3, cs3) => rp ad E3 RL) (fun (y, E3, cs3) => (y ≤ ml) ∧ (CI kA ad E3 RL ml nd len wn cs3)) (fun (y, E3, cs3) => y) ?_ (x13 + 1, E1, cs1) _ _ _ (lv_sub hl [0, 1] rfl) hP hD hS ⟨(show (x13 + 1) ≤ ml from by first | assumption | omega), (show CI kA ad E1 RL ml nd len wn cs1 from hCI)⟩
      intro n9 ih69 a9 ls H locs hμ hl hP hD hS hI
      subst hμ
      obtain ⟨y, E3, cs3⟩ := a9
      obtain ⟨hy, hCI⟩ := hI
      have hy : y ≤ ml := hy
      have hCI : CI kA ad E3 RL ml nd len wn cs3 := hCI
      have hl : lv_has ls 3 [(1, (lyv ad y)), (0, .ref (ad 0 7))] := hl
      have hP : va_P D xcl (rp ad E3 RL) H := hP
      have hD : va_D A (rp ad E3 RL) := hD
      obtain ⟨hmB, hDk, hLi, hSh, hCh, hLa, hDIs, hLIs⟩ := id hCI
      obtain ⟨fd_70, hnd_70, q5_70, q6_70, hds_70⟩ := id (hSh)
      have c_71 : E3 0 5 = .inr (2, [.ref (ad 0 6), .int (nI nd)]) := q5_70
      have m_72 : (0, 5) ∈ RL := hmB 5 (by omega)
      have c_73 : E3 0 6 = .inl (kA 4, 12, .inr (.inr (.inr (.inr fd_70)))) := q6_70
      have m_74 : (0, 6) ∈ RL := hmB 6 (by omega)
      obtain ⟨fl_75, hml_75, q9_75, hla_75⟩ := id (hLa)
      have c_76 : E3 0 9 = .inl (kA 5, 5, .inr (.inr (.inr (.inr fl_75)))) := q9_75
      have m_77 : (0, 9) ∈ RL := hmB 9 (by omega)
      rcases y with _ | y
      · have hl : lv_has ls 3 [(1, .null), (0, .ref (ad 0 7))] := hl
        refine lv_aload_nN hx hb xd_Ch_bindOnce_37 rfl (lv_at hl 0 rfl) ?_
        refine lv_ifnullN (tgt := 79) hx hb xd_Ch_bindOnce_38 (by decide) ?_
        exact W.vret hx hb hr (fun t ht hW => ⟨⟨E3, rfl, ⟨cs3, hCI⟩, by rw [ht]; exact hP, hD⟩, hS.F ht⟩) hS.2.2 xd_Ch_bindOnce_79
      · have hl : lv_has ls 3 [(1, .ref (ad (20 + y) 0)), (0, .ref (ad 0 7))] := hl
        refine lv_aload_n hx hb xd_Ch_bindOnce_37 rfl (lv_at hl 0 rfl) ?_
        refine lv_ifnull hx hb xd_Ch_bindOnce_38 ?_
        refine lv_iconst (v := 0) hx hb xd_Ch_bindOnce_41 (by decide) ?_
        refine lv_istore_n hx hb xd_Ch_bindOnce_42 rfl hl (Nat.le_of_ble_eq_true rfl) rfl (fun ls hl => ?_)
        have hl : lv_has ls 3 [(2, .int 0), (1, .ref (ad (20 + y) 0)), (0, .ref (ad 0 7))] := hl
        refine xlab (σ := Nat × (Nat → Nat → va_E) × Nat) (ml := 3) 43 (fun (k, E4, cs4) => [(2, .int (nI k)), (1, .ref (ad (20 + y) 0)), (0, .ref (ad 0 7))]) (fun (k, E4, cs4) => []) (fun (k, E4, cs4) => rp ad E4 RL) (fun (k, E4, cs4) => (k ≤ 12) ∧ (CI kA ad E4 RL ml nd len wn cs4)) (fun (k, E4, cs4) => 12 - k) ?_ (0, E3, cs3) _ _ _ (lv_sub hl [0, 1, 2] rfl) hP hD hS ⟨(show 0 ≤ 12 from by first | assumption | omega), (show CI kA ad E3 RL ml nd len wn cs3 from hCI)⟩
        intro n9 ih78 a9 ls H locs hμ hl hP hD hS hI
        subst hμ
        obtain ⟨k, E4, cs4⟩ := a9
        obtain ⟨hk9, hCI⟩ := hI
        have hk9 : k ≤ 12 := hk9
        have hCI : CI kA ad E4 RL ml nd len wn cs4 := hCI
        have hl : lv_has ls 3 [(2, .int (nI k)), (1, .ref (ad (20 + y) 0)), (0, .ref (ad 0 7))] := hl
        have hP : va_P D xcl (rp ad E4 RL) H := hP
        have hD : va_D A (rp ad E4 RL) := hD
        obtain ⟨hmB, hDk, hLi, hSh, hCh, hLa, hDIs, hLIs⟩ := id hCI
        obtain ⟨fd_79, hnd_79, q5_79, q6_79, hds_79⟩ := id (hSh)
        have c_80 : E4 0 5 = .inr (2, [.ref (ad 0 6), .int (nI nd)]) := q5_79
        have m_81 : (0, 5) ∈ RL := hmB 5 (by omega)
        have c_82 : E4 0 6 = .inl (kA 4, 12, .inr (.inr (.inr (.inr fd_79)))) := q6_79
        have m_83 : (0, 6) ∈ RL := hmB 6 (by omega)
        obtain ⟨fl_84, hml_84, q9_84, hla_84⟩ := id (hLa)
        have c_85 : E4 0 9 = .inl (kA 5, 5, .inr (.inr (.inr (.inr fl_84)))) := q9_84
        have m_86 : (0, 9) ∈ RL := hmB 9 (by omega)
        refine lv_iload_n hx hb xd_Ch_bindOnce_43 rfl (lv_at hl 0 rfl) ?_
        refine lv_aload_n hx hb xd_Ch_bindOnce_44 rfl (lv_at hl 1 rfl) ?_
        obtain ⟨m0_87, m1_87, pv_87, op_87, mk_87, fm_87, hmk_87, hpv_87, q0_87, q1_87, hk_87⟩ := id (hLIs y (by omega))
        have c_88 : E4 (20 + y) 0 = .inr (5, [.int (nI y), pv_87, .ref (ad (20 + y) 1), .int op_87]) := q0_87
        have m_89 : (20 + y, 0) ∈ RL := m0_87
        have c_90 : E4 (20 + y) 1 = .inl (kA 6, mk_87, .inr (.inr (.inr (.inr fm_87)))) := q1_87
        have m_91 : (20 + y, 1) ∈ RL := m1_87
        refine px_get (D := D) (ci := 5) (v := .ref (ad (20 + y) 1)) (C := xR_Ly) (T := xT_Ly) (N := 4) hx hb hT xi_Ly hown hK.1 hP m_89 c_88 rfl 2 (by decide) (hT _ yr_46) (fun _ h9 => h9) rfl xd_Ch_bindOnce_45 ?_
        refine px_alen hx hb hK.1 hP m_91 c_90 6 rfl xd_Ch_bindOnce_48 ?_
        refine W.eq (g2 := F0 m 49 ls [.int (nI mk_87), .int (nI k)]) rfl ?_
        refine xn_ge (a := k) (b := mk_87) (tgt := 71) hx hb xd_Ch_bindOnce_49 (by decide) (by omega) (by omega) (fun hc92 => ?_) (fun hc92 => ?_)
        · refine lv_aload_n hx hb xd_Ch_bindOnce_71 rfl (lv_at hl 1 rfl) ?_
          refine px_get (D := D) (ci := 5) (v := pv_87) (C := xR_Ly) (T := xT_Ly) (N := 4) hx hb hT xi_Ly hown hK.1 hP m_89 c_88 rfl 1 (by decide) (hT _ yr_47) (fun _ h9 => h9) rfl xd_Ch_bindOnce_72 ?_
          rcases hpv_87 with rfl | ⟨x93, hx94, rfl⟩
          · refine W.eq (g2 := F0 m 75 ls [.null]) rfl ?_
            refine lv_astore_nN hx hb xd_Ch_bindOnce_75 rfl hl (Nat.le_of_ble_eq_true rfl) rfl (fun ls hl => ?_)
            have hl : lv_has ls 3 [(1, .null), (2, .int (nI k)), (0, .ref (ad 0 7))] := hl
            refine lv_goto (tgt := 37) hx hb xd_Ch_bindOnce_76 (by decide) ?_
            exact ih69 (0, E4, cs4) _ _ _ (show 0 < y + 1 by omega) (lv_sub hl [0, 2] rfl) hP hD hS ⟨(show 0 ≤ ml from by first | assumption | omega), (show CI kA ad E4 RL ml nd len wn cs4 from hCI)⟩
          · refine W.eq (g2 := F0 m 75 ls [.ref (ad (20 + x93) 0)]) rfl ?_
            refine lv_astore_n hx hb xd_Ch_bindOnce_75 rfl hl (Nat.le_of_ble_eq_true rfl) rfl (fun ls hl => ?_)
            have hl : lv_has ls 3 [(1, .ref (ad (20 + x93) 0)), (2, .int (nI k)), (0, .ref (ad 0 7))] := hl
            refine lv_goto (tgt := 37) hx hb xd_Ch_bindOnce_76 (by decide) ?_
            exact ih69 (x93 + 1, E4, cs4) _ _ _ (show (x93 + 1) < y + 1 by omega) (lv_sub hl [0, 2] rfl) hP hD hS ⟨(show (x93 + 1) ≤ ml from by first | assumption | omega), (show CI kA ad E4 RL ml nd len wn cs4 from hCI)⟩
        · refine lv_aload_n hx hb xd_Ch_bindOnce_52 rfl (lv_at hl 2 rfl) ?_
          refine lv_aload_n hx hb xd_Ch_bindOnce_53 rfl (lv_at hl 1 rfl) ?_
          refine px_get (D := D) (ci := 5) (v := .ref (ad (20 + y) 1)) (C := xR_Ly) (T := xT_Ly) (N := 4) hx hb hT xi_Ly hown hK.1 hP m_89 c_88 rfl 2 (by decide) (hT _ yr_46) (fun _ h9 => h9) rfl xd_Ch_bindOnce_54 ?_
          refine lv_iload_n hx hb xd_Ch_bindOnce_57 rfl (lv_at hl 0 rfl) ?_
          refine px_aald (i := k) (x := (some (ad (20 + y) (10 + 10 * k)))) hx hb hK.1 hP m_91 c_90 6 rfl ((hk_87 k (by omega)).1) (by omega) (by omega) xd_Ch_bindOnce_58 ?_
          obtain ⟨hm_95, d_95, rs_95, fr_95, g2_95, g3_95, g4_95, hd_95, hrs_95, q0_95, q1_95, q2_95, q3_95, q4_95, q5_95, q6_95, q7_95⟩ := (hk_87 k (by omega)).2
          have c_96 : E4 (20 + y) (10 + 10 * k) = .inr (6, [.ref (ad (20 + y) 0), .ref (ad (1 + d_95) 0), .ref (ad (20 + y) (11 + 10 * k)), .ref (ad (20 + y) (12 + 10 * k)), .ref (ad (20 + y) (13 + 10 * k)), .ref (ad (20 + y) (14 + 10 * k))]) := q0_95
          have m_97 : (20 + y, 10 + 10 * k) ∈ RL := hm_95 0 (by omega)
          have c_98 : E4 (20 + y) (11 + 10 * k) = .inl (kA 6, rs_95, .inr (.inr (.inr (.inr fr_95)))) := q1_95
          have m_99 : (20 + y, 11 + 10 * k) ∈ RL := hm_95 1 (by omega)
          have c_100 : E4 (20 + y) (12 + 10 * k) = .inr (10, [.ref (ad (20 + y) (15 + 10 * k))]) := q2_95
          have m_101 : (20 + y, 12 + 10 * k) ∈ RL := hm_95 2 (by omega)
          have c_102 : E4 (20 + y) (13 + 10 * k) = .inr (10, [.ref (ad (20 + y) (16 + 10 * k))]) := q3_95
          have m_103 : (20 + y, 13 + 10 * k) ∈ RL := hm_95 3 (by omega)
          have c_104 : E4 (20 + y) (14 + 10 * k) = .inr (10, [.ref (ad (20 + y) (17 + 10 * k))]) := q4_95
          have m_105 : (20 + y, 14 + 10 * k) ∈ RL := hm_95 4 (by omega)
          have c_106 : E4 (20 + y) (15 + 10 * k) = .inl (kA 0, 6, .inl g2_95) := q5_95
          have m_107 : (20 + y, 15 + 10 * k) ∈ RL := hm_95 5 (by omega)
          have c_108 : E4 (20 + y) (16 + 10 * k) = .inl (kA 0, 6, .inl g3_95) := q6_95
          have m_109 : (20 + y, 16 + 10 * k) ∈ RL := hm_95 6 (by omega)
          have c_110 : E4 (20 + y) (17 + 10 * k) = .inl (kA 0, 6, .inl g4_95) := q7_95
          have m_111 : (20 + y, 17 + 10 * k) ∈ RL := hm_95 7 (by omega)
          refine px_get (D := D) (ci := 6) (v := .ref (ad (1 + d_95) 0)) (C := xR_Me) (T := xT_Me) (N := 6) hx hb hT xi_Me hown hK.1 hP m_97 c_96 rfl 1 (by decide) (hT _ yr_48) (fun _ h9 => h9) rfl xd_Ch_bindOnce_59 ?_
          have hFc := px_free hD hS hA
          obtain ⟨cf_112, pv_112, fc_112, hcs_112, hpv_112, q7_112, q8_112, hfc_112⟩ := id (hCh)
          have c_113 : E4 0 7 = .inr (3, [.ref (ad 0 5), .ref (ad 0 8), .int (nI cs4), .int cf_112, pv_112]) := q7_112
          have m_114 : (0, 7) ∈ RL := hmB 7 (by omega)
          have c_115 : E4 0 8 = .inl (kA 4, 12, .inr (.inr (.inr (.inr fc_112)))) := q8_112
          have m_116 : (0, 8) ∈ RL := hmB 8 (by omega)
          refine va_callv (va_runV (As := [.ref (ad (1 + d_95) 0)]) (rest := []) ⟨hx, hb, hml, hown, hT⟩ (xc_Ch_bindUsesOf l D kA H.size ad E4 RL ml nd len wn cs4 d_95 (by first | assumption | omega) (by first | assumption | omega)) (cwV 1 hT (wT_V yr_50 yr_51 yr_52 yr_18 yr_49) rfl rfl rfl (by decide +kernel) ⟨Nat.le_of_ble_eq_true rfl, Nat.le_of_ble_eq_true rfl⟩) (px_preV hK hP hD m_114 c_113 rfl) rfl rfl hl.1 rfl (lv_room (Nat.le_of_ble_eq_true rfl)) xd_Ch_bindOnce_62 ⟨(Nat.le_of_ble_eq_true rfl), (Nat.le_of_ble_eq_true rfl)⟩) hS (fun q _ h => hFc q h) hFc (fun u118 t H1 locs ht hvm hp119 hB hz1 hk1 hS => ?_)
          obtain ⟨hP1, hD1⟩ := hB
          rw [ht] at hP1
          have hD1 := hD1.weaken (fun _ _ _ h => hFc _ h)
          generalize H1 = H at hP1 hS ⊢
          have hP := hP1
          have hD := hD1
          obtain ⟨E120, rfl⟩ : ∃ z, z = u118 := ⟨_, rfl⟩
          have hP : va_P D xcl (rp ad E120 RL) H := hP
          have hD : va_D A (rp ad E120 RL) := hD
          obtain ⟨cs121, hCI⟩ := hp119
          have hCI : CI kA ad E120 RL ml nd len wn cs121 := hCI
          obtain ⟨hmB, hDk, hLi, hSh, hCh, hLa, hDIs, hLIs⟩ := id hCI
          refine lv_iinc (k := 0) (x := (nI k)) (v := (nI (k + 1))) hx hb xd_Ch_bindOnce_65 hl rfl (xb_inc k 1) (Nat.le_of_ble_eq_true rfl) rfl (fun ls hl => ?_)
          have hl : lv_has ls 3 [(2, .int (nI (k + 1))), (1, .ref (ad (20 + y) 0)), (0, .ref (ad 0 7))] := hl
          refine lv_goto (tgt := 43) hx hb xd_Ch_bindOnce_68 (by decide) ?_
          exact ih78 (k + 1, E120, cs121) _ _ _ (show 12 - (k + 1) < 12 - k by omega) (lv_sub hl [0, 1, 2] rfl) hP hD hS ⟨(show (k + 1) ≤ 12 from by first | assumption | omega), (show CI kA ad E120 RL ml nd len wn cs121 from hCI)⟩
  · refine lv_iload_n hx hb xd_Ch_bindOnce_10 rfl (lv_at hl 0 rfl) ?_
    refine lv_bipush (v := 12) hx hb xd_Ch_bindOnce_11 (by decide) ?_
    refine xn_ge (a := i) (b := 12) (tgt := 32) hx hb xd_Ch_bindOnce_13 (by decide) (by omega) (by omega) (fun hc123 => ?_) (fun hc123 => ?_)
    · refine lv_aload_n hx hb xd_Ch_bindOnce_32 rfl (lv_at hl 1 rfl) ?_
      refine px_get (D := D) (ci := 3) (v := pv_7) (C := xR_Ch) (T := xT_Ch) (N := 5) hx hb hT xi_Ch hown hK.1 hP m_9 c_8 rfl 4 (by decide) (hT _ yr_1) (fun _ h9 => h9) rfl xd_Ch_bindOnce_33 ?_
      rcases hpv_7 with rfl | ⟨x124, hx125, rfl⟩
      · refine W.eq (g2 := F0 m 36 ls [.null]) rfl ?_
        refine lv_astore_nN hx hb xd_Ch_bindOnce_36 rfl hl (Nat.le_of_ble_eq_true rfl) rfl (fun ls hl => ?_)
        have hl : lv_has ls 3 [(1, .null), (0, .ref (ad 0 7))] := hl
        refine xlab (σ := Nat × (Nat → Nat → va_E) × Nat) (ml := 3) 37 (fun (y, E3, cs3) => [(1, (lyv ad y)), (0, .ref (ad 0 7))]) (fun (y, E3, cs3) => []) (fun (y, E3, cs3) => rp ad E3 RL) (fun (y, E3, cs3) => (y ≤ ml) ∧ (CI kA ad E3 RL ml nd len wn cs3)) (fun (y, E3, cs3) => y) ?_ (0, E1, cs1) _ _ _ (lv_sub hl [0, 1] rfl) hP hD hS ⟨(show 0 ≤ ml from by first | assumption | omega), (show CI kA ad E1 RL ml nd len wn cs1 from hCI)⟩
        intro n9 ih126 a9 ls H locs hμ hl hP hD hS hI
        subst hμ
        obtain ⟨y, E3, cs3⟩ := a9
        obtain ⟨hy, hCI⟩ := hI
        have hy : y ≤ ml := hy
        have hCI : CI kA ad E3 RL ml nd len wn cs3 := hCI
        have hl : lv_has ls 3 [(1, (lyv ad y)), (0, .ref (ad 0 7))] := hl
        have hP : va_P D xcl (rp ad E3 RL) H := hP
        have hD : va_D A (rp ad E3 RL) := hD
        obtain ⟨hmB, hDk, hLi, hSh, hCh, hLa, hDIs, hLIs⟩ := id hCI
        obtain ⟨fd_127, hnd_127, q5_127, q6_127, hds_127⟩ := id (hSh)
        have c_128 : E3 0 5 = .inr (2, [.ref (ad 0 6), .int (nI nd)]) := q5_127
        have m_129 : (0, 5) ∈ RL := hmB 5 (by omega)
        have c_130 : E3 0 6 = .inl (kA 4, 12, .inr (.inr (.inr (.inr fd_127)))) := q6_127
        have m_131 : (0, 6) ∈ RL := hmB 6 (by omega)
        obtain ⟨fl_132, hml_132, q9_132, hla_132⟩ := id (hLa)
        have c_133 : E3 0 9 = .inl (kA 5, 5, .inr (.inr (.inr (.inr fl_132)))) := q9_132
        have m_134 : (0, 9) ∈ RL := hmB 9 (by omega)
        rcases y with _ | y
        · have hl : lv_has ls 3 [(1, .null), (0, .ref (ad 0 7))] := hl
          refine lv_aload_nN hx hb xd_Ch_bindOnce_37 rfl (lv_at hl 0 rfl) ?_
          refine lv_ifnullN (tgt := 79) hx hb xd_Ch_bindOnce_38 (by decide) ?_
          exact W.vret hx hb hr (fun t ht hW => ⟨⟨E3, rfl, ⟨cs3, hCI⟩, by rw [ht]; exact hP, hD⟩, hS.F ht⟩) hS.2.2 xd_Ch_bindOnce_79
        · have hl : lv_has ls 3 [(1, .ref (ad (20 + y) 0)), (0, .ref (ad 0 7))] := hl
          refine lv_aload_n hx hb xd_Ch_bindOnce_37 rfl (lv_at hl 0 rfl) ?_
          refine lv_ifnull hx hb xd_Ch_bindOnce_38 ?_
          refine lv_iconst (v := 0) hx hb xd_Ch_bindOnce_41 (by decide) ?_
          refine lv_istore_n hx hb xd_Ch_bindOnce_42 rfl hl (Nat.le_of_ble_eq_true rfl) rfl (fun ls hl => ?_)
          have hl : lv_has ls 3 [(2, .int 0), (1, .ref (ad (20 + y) 0)), (0, .ref (ad 0 7))] := hl
          refine xlab (σ := Nat × (Nat → Nat → va_E) × Nat) (ml := 3) 43 (fun (k, E4, cs4) => [(2, .int (nI k)), (1, .ref (ad (20 + y) 0)), (0, .ref (ad 0 7))]) (fun (k, E4, cs4) => []) (fun (k, E4, cs4) => rp ad E4 RL) (fun (k, E4, cs4) => (k ≤ 12) ∧ (CI kA ad E4 RL ml nd len wn cs4)) (fun (k, E4, cs4) => 12 - k) ?_ (0, E3, cs3) _ _ _ (lv_sub hl [0, 1, 2] rfl) hP hD hS ⟨(show 0 ≤ 12 from by first | assumption | omega), (show CI kA ad E3 RL ml nd len wn cs3 from hCI)⟩
          intro n9 ih135 a9 ls H locs hμ hl hP hD hS hI
          subst hμ
          obtain ⟨k, E4, cs4⟩ := a9
          obtain ⟨hk9, hCI⟩ := hI
          have hk9 : k ≤ 12 := hk9
          have hCI : CI kA ad E4 RL ml nd len wn cs4 := hCI
          have hl : lv_has ls 3 [(2, .int (nI k)), (1, .ref (ad (20 + y) 0)), (0, .ref (ad 0 7))] := hl
          have hP : va_P D xcl (rp ad E4 RL) H := hP
          have hD : va_D A (rp ad E4 RL) := hD
          obtain ⟨hmB, hDk, hLi, hSh, hCh, hLa, hDIs, hLIs⟩ := id hCI
          obtain ⟨fd_136, hnd_136, q5_136, q6_136, hds_136⟩ := id (hSh)
          have c_137 : E4 0 5 = .inr (2, [.ref (ad 0 6), .int (nI nd)]) := q5_136
          have m_138 : (0, 5) ∈ RL := hmB 5 (by omega)
          have c_139 : E4 0 6 = .inl (kA 4, 12, .inr (.inr (.inr (.inr fd_136)))) := q6_136
          have m_140 : (0, 6) ∈ RL := hmB 6 (by omega)
          obtain ⟨fl_141, hml_141, q9_141, hla_141⟩ := id (hLa)
          have c_142 : E4 0 9 = .inl (kA 5, 5, .inr (.inr (.inr (.inr fl_141)))) := q9_141
          have m_143 : (0, 9) ∈ RL := hmB 9 (by omega)
          refine lv_iload_n hx hb xd_Ch_bindOnce_43 rfl (lv_at hl 0 rfl) ?_
          refine lv_aload_n hx hb xd_Ch_bindOnce_44 rfl (lv_at hl 1 rfl) ?_
          obtain ⟨m0_144, m1_144, pv_144, op_144, mk_144, fm_144, hmk_144, hpv_144, q0_144, q1_144, hk_144⟩ := id (hLIs y (by omega))
          have c_145 : E4 (20 + y) 0 = .inr (5, [.int (nI y), pv_144, .ref (ad (20 + y) 1), .int op_144]) := q0_144
          have m_146 : (20 + y, 0) ∈ RL := m0_144
          have c_147 : E4 (20 + y) 1 = .inl (kA 6, mk_144, .inr (.inr (.inr (.inr fm_144)))) := q1_144
          have m_148 : (20 + y, 1) ∈ RL := m1_144
          refine px_get (D := D) (ci := 5) (v := .ref (ad (20 + y) 1)) (C := xR_Ly) (T := xT_Ly) (N := 4) hx hb hT xi_Ly hown hK.1 hP m_146 c_145 rfl 2 (by decide) (hT _ yr_46) (fun _ h9 => h9) rfl xd_Ch_bindOnce_45 ?_
          refine px_alen hx hb hK.1 hP m_148 c_147 6 rfl xd_Ch_bindOnce_48 ?_
          refine W.eq (g2 := F0 m 49 ls [.int (nI mk_144), .int (nI k)]) rfl ?_
          refine xn_ge (a := k) (b := mk_144) (tgt := 71) hx hb xd_Ch_bindOnce_49 (by decide) (by omega) (by omega) (fun hc149 => ?_) (fun hc149 => ?_)
          · refine lv_aload_n hx hb xd_Ch_bindOnce_71 rfl (lv_at hl 1 rfl) ?_
            refine px_get (D := D) (ci := 5) (v := pv_144) (C := xR_Ly) (T := xT_Ly) (N := 4) hx hb hT xi_Ly hown hK.1 hP m_146 c_145 rfl 1 (by decide) (hT _ yr_47) (fun _ h9 => h9) rfl xd_Ch_bindOnce_72 ?_
            rcases hpv_144 with rfl | ⟨x150, hx151, rfl⟩
            · refine W.eq (g2 := F0 m 75 ls [.null]) rfl ?_
              refine lv_astore_nN hx hb xd_Ch_bindOnce_75 rfl hl (Nat.le_of_ble_eq_true rfl) rfl (fun ls hl => ?_)
              have hl : lv_has ls 3 [(1, .null), (2, .int (nI k)), (0, .ref (ad 0 7))] := hl
              refine lv_goto (tgt := 37) hx hb xd_Ch_bindOnce_76 (by decide) ?_
              exact ih126 (0, E4, cs4) _ _ _ (show 0 < y + 1 by omega) (lv_sub hl [0, 2] rfl) hP hD hS ⟨(show 0 ≤ ml from by first | assumption | omega), (show CI kA ad E4 RL ml nd len wn cs4 from hCI)⟩
            · refine W.eq (g2 := F0 m 75 ls [.ref (ad (20 + x150) 0)]) rfl ?_
              refine lv_astore_n hx hb xd_Ch_bindOnce_75 rfl hl (Nat.le_of_ble_eq_true rfl) rfl (fun ls hl => ?_)
              have hl : lv_has ls 3 [(1, .ref (ad (20 + x150) 0)), (2, .int (nI k)), (0, .ref (ad 0 7))] := hl
              refine lv_goto (tgt := 37) hx hb xd_Ch_bindOnce_76 (by decide) ?_
              exact ih126 (x150 + 1, E4, cs4) _ _ _ (show (x150 + 1) < y + 1 by omega) (lv_sub hl [0, 2] rfl) hP hD hS ⟨(show (x150 + 1) ≤ ml from by first | assumption | omega), (show CI kA ad E4 RL ml nd len wn cs4 from hCI)⟩
          · refine lv_aload_n hx hb xd_Ch_bindOnce_52 rfl (lv_at hl 2 rfl) ?_
            refine lv_aload_n hx hb xd_Ch_bindOnce_53 rfl (lv_at hl 1 rfl) ?_
            refine px_get (D := D) (ci := 5) (v := .ref (ad (20 + y) 1)) (C := xR_Ly) (T := xT_Ly) (N := 4) hx hb hT xi_Ly hown hK.1 hP m_146 c_145 rfl 2 (by decide) (hT _ yr_46) (fun _ h9 => h9) rfl xd_Ch_bindOnce_54 ?_
            refine lv_iload_n hx hb xd_Ch_bindOnce_57 rfl (lv_at hl 0 rfl) ?_
            refine px_aald (i := k) (x := (some (ad (20 + y) (10 + 10 * k)))) hx hb hK.1 hP m_148 c_147 6 rfl ((hk_144 k (by omega)).1) (by omega) (by omega) xd_Ch_bindOnce_58 ?_
            obtain ⟨hm_152, d_152, rs_152, fr_152, g2_152, g3_152, g4_152, hd_152, hrs_152, q0_152, q1_152, q2_152, q3_152, q4_152, q5_152, q6_152, q7_152⟩ := (hk_144 k (by omega)).2
            have c_153 : E4 (20 + y) (10 + 10 * k) = .inr (6, [.ref (ad (20 + y) 0), .ref (ad (1 + d_152) 0), .ref (ad (20 + y) (11 + 10 * k)), .ref (ad (20 + y) (12 + 10 * k)), .ref (ad (20 + y) (13 + 10 * k)), .ref (ad (20 + y) (14 + 10 * k))]) := q0_152
            have m_154 : (20 + y, 10 + 10 * k) ∈ RL := hm_152 0 (by omega)
            have c_155 : E4 (20 + y) (11 + 10 * k) = .inl (kA 6, rs_152, .inr (.inr (.inr (.inr fr_152)))) := q1_152
            have m_156 : (20 + y, 11 + 10 * k) ∈ RL := hm_152 1 (by omega)
            have c_157 : E4 (20 + y) (12 + 10 * k) = .inr (10, [.ref (ad (20 + y) (15 + 10 * k))]) := q2_152
            have m_158 : (20 + y, 12 + 10 * k) ∈ RL := hm_152 2 (by omega)
            have c_159 : E4 (20 + y) (13 + 10 * k) = .inr (10, [.ref (ad (20 + y) (16 + 10 * k))]) := q3_152
            have m_160 : (20 + y, 13 + 10 * k) ∈ RL := hm_152 3 (by omega)
            have c_161 : E4 (20 + y) (14 + 10 * k) = .inr (10, [.ref (ad (20 + y) (17 + 10 * k))]) := q4_152
            have m_162 : (20 + y, 14 + 10 * k) ∈ RL := hm_152 4 (by omega)
            have c_163 : E4 (20 + y) (15 + 10 * k) = .inl (kA 0, 6, .inl g2_152) := q5_152
            have m_164 : (20 + y, 15 + 10 * k) ∈ RL := hm_152 5 (by omega)
            have c_165 : E4 (20 + y) (16 + 10 * k) = .inl (kA 0, 6, .inl g3_152) := q6_152
            have m_166 : (20 + y, 16 + 10 * k) ∈ RL := hm_152 6 (by omega)
            have c_167 : E4 (20 + y) (17 + 10 * k) = .inl (kA 0, 6, .inl g4_152) := q7_152
            have m_168 : (20 + y, 17 + 10 * k) ∈ RL := hm_152 7 (by omega)
            refine px_get (D := D) (ci := 6) (v := .ref (ad (1 + d_152) 0)) (C := xR_Me) (T := xT_Me) (N := 6) hx hb hT xi_Me hown hK.1 hP m_154 c_153 rfl 1 (by decide) (hT _ yr_48) (fun _ h9 => h9) rfl xd_Ch_bindOnce_59 ?_
            have hFc := px_free hD hS hA
            obtain ⟨cf_169, pv_169, fc_169, hcs_169, hpv_169, q7_169, q8_169, hfc_169⟩ := id (hCh)
            have c_170 : E4 0 7 = .inr (3, [.ref (ad 0 5), .ref (ad 0 8), .int (nI cs4), .int cf_169, pv_169]) := q7_169
            have m_171 : (0, 7) ∈ RL := hmB 7 (by omega)
            have c_172 : E4 0 8 = .inl (kA 4, 12, .inr (.inr (.inr (.inr fc_169)))) := q8_169
            have m_173 : (0, 8) ∈ RL := hmB 8 (by omega)
            refine va_callv (va_runV (As := [.ref (ad (1 + d_152) 0)]) (rest := []) ⟨hx, hb, hml, hown, hT⟩ (xc_Ch_bindUsesOf l D kA H.size ad E4 RL ml nd len wn cs4 d_152 (by first | assumption | omega) (by first | assumption | omega)) (cwV 1 hT (wT_V yr_50 yr_51 yr_52 yr_18 yr_49) rfl rfl rfl (by decide +kernel) ⟨Nat.le_of_ble_eq_true rfl, Nat.le_of_ble_eq_true rfl⟩) (px_preV hK hP hD m_171 c_170 rfl) rfl rfl hl.1 rfl (lv_room (Nat.le_of_ble_eq_true rfl)) xd_Ch_bindOnce_62 ⟨(Nat.le_of_ble_eq_true rfl), (Nat.le_of_ble_eq_true rfl)⟩) hS (fun q _ h => hFc q h) hFc (fun u175 t H1 locs ht hvm hp176 hB hz1 hk1 hS => ?_)
            obtain ⟨hP1, hD1⟩ := hB
            rw [ht] at hP1
            have hD1 := hD1.weaken (fun _ _ _ h => hFc _ h)
            generalize H1 = H at hP1 hS ⊢
            have hP := hP1
            have hD := hD1
            obtain ⟨E177, rfl⟩ : ∃ z, z = u175 := ⟨_, rfl⟩
            have hP : va_P D xcl (rp ad E177 RL) H := hP
            have hD : va_D A (rp ad E177 RL) := hD
            obtain ⟨cs178, hCI⟩ := hp176
            have hCI : CI kA ad E177 RL ml nd len wn cs178 := hCI
            obtain ⟨hmB, hDk, hLi, hSh, hCh, hLa, hDIs, hLIs⟩ := id hCI
            refine lv_iinc (k := 0) (x := (nI k)) (v := (nI (k + 1))) hx hb xd_Ch_bindOnce_65 hl rfl (xb_inc k 1) (Nat.le_of_ble_eq_true rfl) rfl (fun ls hl => ?_)
            have hl : lv_has ls 3 [(2, .int (nI (k + 1))), (1, .ref (ad (20 + y) 0)), (0, .ref (ad 0 7))] := hl
            refine lv_goto (tgt := 43) hx hb xd_Ch_bindOnce_68 (by decide) ?_
            exact ih135 (k + 1, E177, cs178) _ _ _ (show 12 - (k + 1) < 12 - k by omega) (lv_sub hl [0, 1, 2] rfl) hP hD hS ⟨(show (k + 1) ≤ 12 from by first | assumption | omega), (show CI kA ad E177 RL ml nd len wn cs178 from hCI)⟩
      · refine W.eq (g2 := F0 m 36 ls [.ref (ad (20 + x124) 0)]) rfl ?_
        refine lv_astore_n hx hb xd_Ch_bindOnce_36 rfl hl (Nat.le_of_ble_eq_true rfl) rfl (fun ls hl => ?_)
        have hl : lv_has ls 3 [(1, .ref (ad (20 + x124) 0)), (0, .ref (ad 0 7))] := hl
        refine xlab (σ := Nat × (Nat → Nat → va_E) × Nat) (ml := 3) 37 (fun (y, E3, cs3) => [(1, (lyv ad y)), (0, .ref (ad 0 7))]) (fun (y, E3, cs3) => []) (fun (y, E3, cs3) => rp ad E3 RL) (fun (y, E3, cs3) => (y ≤ ml) ∧ (CI kA ad E3 RL ml nd len wn cs3)) (fun (y, E3, cs3) => y) ?_ (x124 + 1, E1, cs1) _ _ _ (lv_sub hl [0, 1] rfl) hP hD hS ⟨(show (x124 + 1) ≤ ml from by first | assumption | omega), (show CI kA ad E1 RL ml nd len wn cs1 from hCI)⟩
        intro n9 ih180 a9 ls H locs hμ hl hP hD hS hI
        subst hμ
        obtain ⟨y, E3, cs3⟩ := a9
        obtain ⟨hy, hCI⟩ := hI
        have hy : y ≤ ml := hy
        have hCI : CI kA ad E3 RL ml nd len wn cs3 := hCI
        have hl : lv_has ls 3 [(1, (lyv ad y)), (0, .ref (ad 0 7))] := hl
        have hP : va_P D xcl (rp ad E3 RL) H := hP
        have hD : va_D A (rp ad E3 RL) := hD
        obtain ⟨hmB, hDk, hLi, hSh, hCh, hLa, hDIs, hLIs⟩ := id hCI
        obtain ⟨fd_181, hnd_181, q5_181, q6_181, hds_181⟩ := id (hSh)
        have c_182 : E3 0 5 = .inr (2, [.ref (ad 0 6), .int (nI nd)]) := q5_181
        have m_183 : (0, 5) ∈ RL := hmB 5 (by omega)
        have c_184 : E3 0 6 = .inl (kA 4, 12, .inr (.inr (.inr (.inr fd_181)))) := q6_181
        have m_185 : (0, 6) ∈ RL := hmB 6 (by omega)
        obtain ⟨fl_186, hml_186, q9_186, hla_186⟩ := id (hLa)
        have c_187 : E3 0 9 = .inl (kA 5, 5, .inr (.inr (.inr (.inr fl_186)))) := q9_186
        have m_188 : (0, 9) ∈ RL := hmB 9 (by omega)
        rcases y with _ | y
        · have hl : lv_has ls 3 [(1, .null), (0, .ref (ad 0 7))] := hl
          refine lv_aload_nN hx hb xd_Ch_bindOnce_37 rfl (lv_at hl 0 rfl) ?_
          refine lv_ifnullN (tgt := 79) hx hb xd_Ch_bindOnce_38 (by decide) ?_
          exact W.vret hx hb hr (fun t ht hW => ⟨⟨E3, rfl, ⟨cs3, hCI⟩, by rw [ht]; exact hP, hD⟩, hS.F ht⟩) hS.2.2 xd_Ch_bindOnce_79
        · have hl : lv_has ls 3 [(1, .ref (ad (20 + y) 0)), (0, .ref (ad 0 7))] := hl
          refine lv_aload_n hx hb xd_Ch_bindOnce_37 rfl (lv_at hl 0 rfl) ?_
          refine lv_ifnull hx hb xd_Ch_bindOnce_38 ?_
          refine lv_iconst (v := 0) hx hb xd_Ch_bindOnce_41 (by decide) ?_
          refine lv_istore_n hx hb xd_Ch_bindOnce_42 rfl hl (Nat.le_of_ble_eq_true rfl) rfl (fun ls hl => ?_)
          have hl : lv_has ls 3 [(2, .int 0), (1, .ref (ad (20 + y) 0)), (0, .ref (ad 0 7))] := hl
          refine xlab (σ := Nat × (Nat → Nat → va_E) × Nat) (ml := 3) 43 (fun (k, E4, cs4) => [(2, .int (nI k)), (1, .ref (ad (20 + y) 0)), (0, .ref (ad 0 7))]) (fun (k, E4, cs4) => []) (fun (k, E4, cs4) => rp ad E4 RL) (fun (k, E4, cs4) => (k ≤ 12) ∧ (CI kA ad E4 RL ml nd len wn cs4)) (fun (k, E4, cs4) => 12 - k) ?_ (0, E3, cs3) _ _ _ (lv_sub hl [0, 1, 2] rfl) hP hD hS ⟨(show 0 ≤ 12 from by first | assumption | omega), (show CI kA ad E3 RL ml nd len wn cs3 from hCI)⟩
          intro n9 ih189 a9 ls H locs hμ hl hP hD hS hI
          subst hμ
          obtain ⟨k, E4, cs4⟩ := a9
          obtain ⟨hk9, hCI⟩ := hI
          have hk9 : k ≤ 12 := hk9
          have hCI : CI kA ad E4 RL ml nd len wn cs4 := hCI
          have hl : lv_has ls 3 [(2, .int (nI k)), (1, .ref (ad (20 + y) 0)), (0, .ref (ad 0 7))] := hl
          have hP : va_P D xcl (rp ad E4 RL) H := hP
          have hD : va_D A (rp ad E4 RL) := hD
          obtain ⟨hmB, hDk, hLi, hSh, hCh, hLa, hDIs, hLIs⟩ := id hCI
          obtain ⟨fd_190, hnd_190, q5_190, q6_190, hds_190⟩ := id (hSh)
          have c_191 : E4 0 5 = .inr (2, [.ref (ad 0 6), .int (nI nd)]) := q5_190
          have m_192 : (0, 5) ∈ RL := hmB 5 (by omega)
          have c_193 : E4 0 6 = .inl (kA 4, 12, .inr (.inr (.inr (.inr fd_190)))) := q6_190
          have m_194 : (0, 6) ∈ RL := hmB 6 (by omega)
          obtain ⟨fl_195, hml_195, q9_195, hla_195⟩ := id (hLa)
          have c_196 : E4 0 9 = .inl (kA 5, 5, .inr (.inr (.inr (.inr fl_195)))) := q9_195
          have m_197 : (0, 9) ∈ RL := hmB 9 (by omega)
          refine lv_iload_n hx hb xd_Ch_bindOnce_43 rfl (lv_at hl 0 rfl) ?_
          refine lv_aload_n hx hb xd_Ch_bindOnce_44 rfl (lv_at hl 1 rfl) ?_
          obtain ⟨m0_198, m1_198, pv_198, op_198, mk_198, fm_198, hmk_198, hpv_198, q0_198, q1_198, hk_198⟩ := id (hLIs y (by omega))
          have c_199 : E4 (20 + y) 0 = .inr (5, [.int (nI y), pv_198, .ref (ad (20 + y) 1), .int op_198]) := q0_198
          have m_200 : (20 + y, 0) ∈ RL := m0_198
          have c_201 : E4 (20 + y) 1 = .inl (kA 6, mk_198, .inr (.inr (.inr (.inr fm_198)))) := q1_198
          have m_202 : (20 + y, 1) ∈ RL := m1_198
          refine px_get (D := D) (ci := 5) (v := .ref (ad (20 + y) 1)) (C := xR_Ly) (T := xT_Ly) (N := 4) hx hb hT xi_Ly hown hK.1 hP m_200 c_199 rfl 2 (by decide) (hT _ yr_46) (fun _ h9 => h9) rfl xd_Ch_bindOnce_45 ?_
          refine px_alen hx hb hK.1 hP m_202 c_201 6 rfl xd_Ch_bindOnce_48 ?_
          refine W.eq (g2 := F0 m 49 ls [.int (nI mk_198), .int (nI k)]) rfl ?_
          refine xn_ge (a := k) (b := mk_198) (tgt := 71) hx hb xd_Ch_bindOnce_49 (by decide) (by omega) (by omega) (fun hc203 => ?_) (fun hc203 => ?_)
          · refine lv_aload_n hx hb xd_Ch_bindOnce_71 rfl (lv_at hl 1 rfl) ?_
            refine px_get (D := D) (ci := 5) (v := pv_198) (C := xR_Ly) (T := xT_Ly) (N := 4) hx hb hT xi_Ly hown hK.1 hP m_200 c_199 rfl 1 (by decide) (hT _ yr_47) (fun _ h9 => h9) rfl xd_Ch_bindOnce_72 ?_
            rcases hpv_198 with rfl | ⟨x204, hx205, rfl⟩
            · refine W.eq (g2 := F0 m 75 ls [.null]) rfl ?_
              refine lv_astore_nN hx hb xd_Ch_bindOnce_75 rfl hl (Nat.le_of_ble_eq_true rfl) rfl (fun ls hl => ?_)
              have hl : lv_has ls 3 [(1, .null), (2, .int (nI k)), (0, .ref (ad 0 7))] := hl
              refine lv_goto (tgt := 37) hx hb xd_Ch_bindOnce_76 (by decide) ?_
              exact ih180 (0, E4, cs4) _ _ _ (show 0 < y + 1 by omega) (lv_sub hl [0, 2] rfl) hP hD hS ⟨(show 0 ≤ ml from by first | assumption | omega), (show CI kA ad E4 RL ml nd len wn cs4 from hCI)⟩
            · refine W.eq (g2 := F0 m 75 ls [.ref (ad (20 + x204) 0)]) rfl ?_
              refine lv_astore_n hx hb xd_Ch_bindOnce_75 rfl hl (Nat.le_of_ble_eq_true rfl) rfl (fun ls hl => ?_)
              have hl : lv_has ls 3 [(1, .ref (ad (20 + x204) 0)), (2, .int (nI k)), (0, .ref (ad 0 7))] := hl
              refine lv_goto (tgt := 37) hx hb xd_Ch_bindOnce_76 (by decide) ?_
              exact ih180 (x204 + 1, E4, cs4) _ _ _ (show (x204 + 1) < y + 1 by omega) (lv_sub hl [0, 2] rfl) hP hD hS ⟨(show (x204 + 1) ≤ ml from by first | assumption | omega), (show CI kA ad E4 RL ml nd len wn cs4 from hCI)⟩
          · refine lv_aload_n hx hb xd_Ch_bindOnce_52 rfl (lv_at hl 2 rfl) ?_
            refine lv_aload_n hx hb xd_Ch_bindOnce_53 rfl (lv_at hl 1 rfl) ?_
            refine px_get (D := D) (ci := 5) (v := .ref (ad (20 + y) 1)) (C := xR_Ly) (T := xT_Ly) (N := 4) hx hb hT xi_Ly hown hK.1 hP m_200 c_199 rfl 2 (by decide) (hT _ yr_46) (fun _ h9 => h9) rfl xd_Ch_bindOnce_54 ?_
            refine lv_iload_n hx hb xd_Ch_bindOnce_57 rfl (lv_at hl 0 rfl) ?_
            refine px_aald (i := k) (x := (some (ad (20 + y) (10 + 10 * k)))) hx hb hK.1 hP m_202 c_201 6 rfl ((hk_198 k (by omega)).1) (by omega) (by omega) xd_Ch_bindOnce_58 ?_
            obtain ⟨hm_206, d_206, rs_206, fr_206, g2_206, g3_206, g4_206, hd_206, hrs_206, q0_206, q1_206, q2_206, q3_206, q4_206, q5_206, q6_206, q7_206⟩ := (hk_198 k (by omega)).2
            have c_207 : E4 (20 + y) (10 + 10 * k) = .inr (6, [.ref (ad (20 + y) 0), .ref (ad (1 + d_206) 0), .ref (ad (20 + y) (11 + 10 * k)), .ref (ad (20 + y) (12 + 10 * k)), .ref (ad (20 + y) (13 + 10 * k)), .ref (ad (20 + y) (14 + 10 * k))]) := q0_206
            have m_208 : (20 + y, 10 + 10 * k) ∈ RL := hm_206 0 (by omega)
            have c_209 : E4 (20 + y) (11 + 10 * k) = .inl (kA 6, rs_206, .inr (.inr (.inr (.inr fr_206)))) := q1_206
            have m_210 : (20 + y, 11 + 10 * k) ∈ RL := hm_206 1 (by omega)
            have c_211 : E4 (20 + y) (12 + 10 * k) = .inr (10, [.ref (ad (20 + y) (15 + 10 * k))]) := q2_206
            have m_212 : (20 + y, 12 + 10 * k) ∈ RL := hm_206 2 (by omega)
            have c_213 : E4 (20 + y) (13 + 10 * k) = .inr (10, [.ref (ad (20 + y) (16 + 10 * k))]) := q3_206
            have m_214 : (20 + y, 13 + 10 * k) ∈ RL := hm_206 3 (by omega)
            have c_215 : E4 (20 + y) (14 + 10 * k) = .inr (10, [.ref (ad (20 + y) (17 + 10 * k))]) := q4_206
            have m_216 : (20 + y, 14 + 10 * k) ∈ RL := hm_206 4 (by omega)
            have c_217 : E4 (20 + y) (15 + 10 * k) = .inl (kA 0, 6, .inl g2_206) := q5_206
            have m_218 : (20 + y, 15 + 10 * k) ∈ RL := hm_206 5 (by omega)
            have c_219 : E4 (20 + y) (16 + 10 * k) = .inl (kA 0, 6, .inl g3_206) := q6_206
            have m_220 : (20 + y, 16 + 10 * k) ∈ RL := hm_206 6 (by omega)
            have c_221 : E4 (20 + y) (17 + 10 * k) = .inl (kA 0, 6, .inl g4_206) := q7_206
            have m_222 : (20 + y, 17 + 10 * k) ∈ RL := hm_206 7 (by omega)
            refine px_get (D := D) (ci := 6) (v := .ref (ad (1 + d_206) 0)) (C := xR_Me) (T := xT_Me) (N := 6) hx hb hT xi_Me hown hK.1 hP m_208 c_207 rfl 1 (by decide) (hT _ yr_48) (fun _ h9 => h9) rfl xd_Ch_bindOnce_59 ?_
            have hFc := px_free hD hS hA
            obtain ⟨cf_223, pv_223, fc_223, hcs_223, hpv_223, q7_223, q8_223, hfc_223⟩ := id (hCh)
            have c_224 : E4 0 7 = .inr (3, [.ref (ad 0 5), .ref (ad 0 8), .int (nI cs4), .int cf_223, pv_223]) := q7_223
            have m_225 : (0, 7) ∈ RL := hmB 7 (by omega)
            have c_226 : E4 0 8 = .inl (kA 4, 12, .inr (.inr (.inr (.inr fc_223)))) := q8_223
            have m_227 : (0, 8) ∈ RL := hmB 8 (by omega)
            refine va_callv (va_runV (As := [.ref (ad (1 + d_206) 0)]) (rest := []) ⟨hx, hb, hml, hown, hT⟩ (xc_Ch_bindUsesOf l D kA H.size ad E4 RL ml nd len wn cs4 d_206 (by first | assumption | omega) (by first | assumption | omega)) (cwV 1 hT (wT_V yr_50 yr_51 yr_52 yr_18 yr_49) rfl rfl rfl (by decide +kernel) ⟨Nat.le_of_ble_eq_true rfl, Nat.le_of_ble_eq_true rfl⟩) (px_preV hK hP hD m_225 c_224 rfl) rfl rfl hl.1 rfl (lv_room (Nat.le_of_ble_eq_true rfl)) xd_Ch_bindOnce_62 ⟨(Nat.le_of_ble_eq_true rfl), (Nat.le_of_ble_eq_true rfl)⟩) hS (fun q _ h => hFc q h) hFc (fun u229 t H1 locs ht hvm hp230 hB hz1 hk1 hS => ?_)
            obtain ⟨hP1, hD1⟩ := hB
            rw [ht] at hP1
            have hD1 := hD1.weaken (fun _ _ _ h => hFc _ h)
            generalize H1 = H at hP1 hS ⊢
            have hP := hP1
            have hD := hD1
            obtain ⟨E231, rfl⟩ : ∃ z, z = u229 := ⟨_, rfl⟩
            have hP : va_P D xcl (rp ad E231 RL) H := hP
            have hD : va_D A (rp ad E231 RL) := hD
            obtain ⟨cs232, hCI⟩ := hp230
            have hCI : CI kA ad E231 RL ml nd len wn cs232 := hCI
            obtain ⟨hmB, hDk, hLi, hSh, hCh, hLa, hDIs, hLIs⟩ := id hCI
            refine lv_iinc (k := 0) (x := (nI k)) (v := (nI (k + 1))) hx hb xd_Ch_bindOnce_65 hl rfl (xb_inc k 1) (Nat.le_of_ble_eq_true rfl) rfl (fun ls hl => ?_)
            have hl : lv_has ls 3 [(2, .int (nI (k + 1))), (1, .ref (ad (20 + y) 0)), (0, .ref (ad 0 7))] := hl
            refine lv_goto (tgt := 43) hx hb xd_Ch_bindOnce_68 (by decide) ?_
            exact ih189 (k + 1, E231, cs232) _ _ _ (show 12 - (k + 1) < 12 - k by omega) (lv_sub hl [0, 1, 2] rfl) hP hD hS ⟨(show (k + 1) ≤ 12 from by first | assumption | omega), (show CI kA ad E231 RL ml nd len wn cs232 from hCI)⟩
    · refine lv_aload_n hx hb xd_Ch_bindOnce_16 rfl (lv_at hl 1 rfl) ?_
      refine lv_aload_n hx hb xd_Ch_bindOnce_17 rfl (lv_at hl 1 rfl) ?_
      refine px_get (D := D) (ci := 3) (v := .ref (ad 0 8)) (C := xR_Ch) (T := xT_Ch) (N := 5) hx hb hT xi_Ch hown hK.1 hP m_9 c_8 rfl 1 (by decide) (hT _ yr_19) (fun _ h9 => h9) rfl xd_Ch_bindOnce_18 ?_
      refine lv_iload_n hx hb xd_Ch_bindOnce_21 rfl (lv_at hl 0 rfl) ?_
      obtain ⟨d_234, hd_234, hf_234⟩ := hfc_7 i (by omega)
      refine px_aald (i := i) (x := (some (ad (1 + d_234) 0))) hx hb hK.1 hP m_11 c_10 4 rfl (hf_234) (by omega) (by decide) xd_Ch_bindOnce_22 ?_
      have hFc := px_free hD hS hA
      refine va_callv (va_runV (As := [.ref (ad (1 + d_234) 0)]) (rest := []) ⟨hx, hb, hml, hown, hT⟩ (xc_Ch_bindUsesOf l D kA H.size ad E1 RL ml nd len wn cs1 d_234 (by first | assumption | omega) (by first | assumption | omega)) (cwV 1 hT (wT_V yr_50 yr_51 yr_52 yr_18 yr_49) rfl rfl rfl (by decide +kernel) ⟨Nat.le_of_ble_eq_true rfl, Nat.le_of_ble_eq_true rfl⟩) (px_preV hK hP hD m_9 c_8 rfl) rfl rfl hl.1 rfl (lv_room (Nat.le_of_ble_eq_true rfl)) xd_Ch_bindOnce_23 ⟨(Nat.le_of_ble_eq_true rfl), (Nat.le_of_ble_eq_true rfl)⟩) hS (fun q _ h => hFc q h) hFc (fun u236 t H1 locs ht hvm hp237 hB hz1 hk1 hS => ?_)
      obtain ⟨hP1, hD1⟩ := hB
      rw [ht] at hP1
      have hD1 := hD1.weaken (fun _ _ _ h => hFc _ h)
      generalize H1 = H at hP1 hS ⊢
      have hP := hP1
      have hD := hD1
      obtain ⟨E238, rfl⟩ : ∃ z, z = u236 := ⟨_, rfl⟩
      have hP : va_P D xcl (rp ad E238 RL) H := hP
      have hD : va_D A (rp ad E238 RL) := hD
      obtain ⟨cs239, hCI⟩ := hp237
      have hCI : CI kA ad E238 RL ml nd len wn cs239 := hCI
      obtain ⟨hmB, hDk, hLi, hSh, hCh, hLa, hDIs, hLIs⟩ := id hCI
      refine lv_iinc (k := 0) (x := (nI i)) (v := (nI (i + 1))) hx hb xd_Ch_bindOnce_26 hl rfl (xb_inc i 1) (Nat.le_of_ble_eq_true rfl) rfl (fun ls hl => ?_)
      have hl : lv_has ls 3 [(1, .int (nI (i + 1))), (0, .ref (ad 0 7))] := hl
      refine lv_goto (tgt := 2) hx hb xd_Ch_bindOnce_29 (by decide) ?_
      exact ih1 (i + 1, E238, cs239) _ _ _ (show 12 - (i + 1) < 12 - i by omega) (lv_sub hl [0, 1] rfl) hP hD hS ⟨(show (i + 1) ≤ 12 from by first | assumption | omega), (show CI kA ad E238 RL ml nd len wn cs239 from hCI)⟩
set_option maxHeartbeats 4000000 in
set_option maxRecDepth 100000 in
theorem xc_Ch_bind (l : Launch) (D : va_G) (kA : Nat → ClassId) (sz : Nat) (ad : Nat → Nat → Nat) (E : Nat → Nat → va_E) (RL : List (Nat × Nat)) (ml : Nat) (nd : Nat) (len : Nat) (wn : Nat) (cs : Nat) (hCI : CI kA ad E RL ml nd len wn cs) : Met l xy_Ch_bind (.code xy_Ch_bind xb_Ch_bind 3 none :: wT) { frames := 22, cells := 0, slots := 0, locals := 1262 } (va_Pc [.ref (ad 0 7)] (xPre D kA sz (rp ad E RL))) (va_Qv (fun (u : Nat → Nat → va_E) => ∃ cs2, CI kA ad u RL ml nd len wn cs2) (fun (u : Nat → Nat → va_E) t => va_P D xcl (rp ad u RL) t.heap ∧ va_D (va_A (rp ad E RL) sz) (rp ad u RL)) (va_A (rp ad E RL) sz)) 0 0 (va_A (rp ad E RL) sz) := by
  refine Met.ofW (cc := xb_Ch_bind) (maxL := 3) (ret := none) (by decide) rfl ?_
  intro p e s m args below meth c s₁ B hml hv
  obtain ⟨rfl, hsz, hP, hK, hD0⟩ := hv
  have hx := B.exec
  have hb := B.bytes
  have hr := B.returns
  have hT := x_hT B.pre
  have hown : s.vm.findClass xR_Ch = some m.cls := findClass_of_methodNamed B.named
  have hlocks := B.notSynchronized
  subst hsz
  have hD := hD0.self (sz := s.heap.size)
  generalize hAe : va_A (rp ad E RL) s.heap.size = A at hD ⊢
  have hA : ∀ q : Nat, s.heap.size ≤ q → A q := fun q h => by rw [← hAe]; exact Or.inr h
  have hS : va_S A s.heap s.heap [] := va_S.rf
  have hl := lv_entry ([.ref (ad 0 7)]) (n := 3) (Nat.le_of_ble_eq_true rfl)
  rw [lg_entry_eq]
  generalize (lg_sl ([.ref (ad 0 7)]) ++ List.replicate (3 - (lg_sl ([.ref (ad 0 7)])).length) Slot.unset).toArray = ls at hl ⊢
  have hl : lv_has ls 3 [(0, .ref (ad 0 7))] := hl
  have hP : va_P D xcl (rp ad E RL) s.heap := hP
  obtain ⟨hmB, hDk, hLi, hSh, hCh, hLa, hDIs, hLIs⟩ := id hCI
  refine lv_iconst (v := 0) hx hb xd_Ch_bind_0 (by decide) ?_
  refine lv_istore_n hx hb xd_Ch_bind_1 rfl hl (Nat.le_of_ble_eq_true rfl) rfl (fun ls hl => ?_)
  have hl : lv_has ls 3 [(1, .int 0), (0, .ref (ad 0 7))] := hl
  refine xlab (σ := Nat × (Nat → Nat → va_E) × Nat) (ml := 3) 2 (fun (i, E1, cs1) => [(1, .int (nI i)), (0, .ref (ad 0 7))]) (fun (i, E1, cs1) => []) (fun (i, E1, cs1) => rp ad E1 RL) (fun (i, E1, cs1) => (i ≤ 13) ∧ (CI kA ad E1 RL ml nd len wn cs1)) (fun (i, E1, cs1) => 13 - i) ?_ (0, E, cs) _ _ _ (lv_sub hl [0, 1] rfl) hP hD hS ⟨(show 0 ≤ 13 from by first | assumption | omega), (show CI kA ad E RL ml nd len wn cs from hCI)⟩
  intro n9 ih1 a9 ls H locs hμ hl hP hD hS hI
  subst hμ
  obtain ⟨i, E1, cs1⟩ := a9
  obtain ⟨hi, hCI⟩ := hI
  have hi : i ≤ 13 := hi
  have hCI : CI kA ad E1 RL ml nd len wn cs1 := hCI
  have hl : lv_has ls 3 [(1, .int (nI i)), (0, .ref (ad 0 7))] := hl
  have hP : va_P D xcl (rp ad E1 RL) H := hP
  have hD : va_D A (rp ad E1 RL) := hD
  obtain ⟨hmB, hDk, hLi, hSh, hCh, hLa, hDIs, hLIs⟩ := id hCI
  obtain ⟨cf_2, pv_2, fc_2, hcs_2, hpv_2, q7_2, q8_2, hfc_2⟩ := id (hCh)
  have c_3 : E1 0 7 = .inr (3, [.ref (ad 0 5), .ref (ad 0 8), .int (nI cs1), .int cf_2, pv_2]) := q7_2
  have m_4 : (0, 7) ∈ RL := hmB 7 (by omega)
  have c_5 : E1 0 8 = .inl (kA 4, 12, .inr (.inr (.inr (.inr fc_2)))) := q8_2
  have m_6 : (0, 8) ∈ RL := hmB 8 (by omega)
  refine lv_iload_n hx hb xd_Ch_bind_2 rfl (lv_at hl 0 rfl) ?_
  refine lv_bipush (v := 12) hx hb xd_Ch_bind_3 (by decide) ?_
  refine xn_gt (a := i) (b := 12) (tgt := 32) hx hb xd_Ch_bind_5 (by decide) (by omega) (by omega) (fun hc7 => ?_) (fun hc7 => ?_)
  · exact W.vret hx hb hr (fun t ht hW => ⟨⟨E1, rfl, ⟨cs1, hCI⟩, by rw [ht]; exact hP, hD⟩, hS.F ht⟩) hS.2.2 xd_Ch_bind_32
  · refine lv_aload_n hx hb xd_Ch_bind_8 rfl (lv_at hl 1 rfl) ?_
    refine px_get (D := D) (ci := 3) (v := .int (nI cs1)) (C := xR_Ch) (T := xT_Ch) (N := 5) hx hb hT xi_Ch hown hK.1 hP m_4 c_3 rfl 2 (by decide) (hT _ yr_2) (fun _ h9 => h9) rfl xd_Ch_bind_9 ?_
    refine lv_istore_n hx hb xd_Ch_bind_12 rfl hl (Nat.le_of_ble_eq_true rfl) rfl (fun ls hl => ?_)
    have hl : lv_has ls 3 [(2, .int (nI cs1)), (1, .int (nI i)), (0, .ref (ad 0 7))] := hl
    refine lv_aload_n hx hb xd_Ch_bind_13 rfl (lv_at hl 2 rfl) ?_
    have hFc := px_free hD hS hA
    refine va_callv (va_runV (As := []) (rest := []) ⟨hx, hb, hml, hown, hT⟩ (xc_Ch_bindOnce l D kA H.size ad E1 RL ml nd len wn cs1 (by first | assumption | omega)) (cwV 0 hT (wT_V yr_54 yr_55 yr_56 yr_18 yr_53) rfl rfl rfl (by decide +kernel) ⟨Nat.le_of_ble_eq_true rfl, Nat.le_of_ble_eq_true rfl⟩) (px_preV hK hP hD m_4 c_3 rfl) rfl rfl hl.1 rfl (lv_room (Nat.le_of_ble_eq_true rfl)) xd_Ch_bind_14 ⟨(Nat.le_of_ble_eq_true rfl), (Nat.le_of_ble_eq_true rfl)⟩) hS (fun q _ h => hFc q h) hFc (fun u9 t H1 locs ht hvm hp10 hB hz1 hk1 hS => ?_)
    obtain ⟨hP1, hD1⟩ := hB
    rw [ht] at hP1
    have hD1 := hD1.weaken (fun _ _ _ h => hFc _ h)
    generalize H1 = H at hP1 hS ⊢
    have hP := hP1
    have hD := hD1
    obtain ⟨E11, rfl⟩ : ∃ z, z = u9 := ⟨_, rfl⟩
    have hP : va_P D xcl (rp ad E11 RL) H := hP
    have hD : va_D A (rp ad E11 RL) := hD
    obtain ⟨cs12, hCI⟩ := hp10
    have hCI : CI kA ad E11 RL ml nd len wn cs12 := hCI
    obtain ⟨hmB, hDk, hLi, hSh, hCh, hLa, hDIs, hLIs⟩ := id hCI
    obtain ⟨cf_14, pv_14, fc_14, hcs_14, hpv_14, q7_14, q8_14, hfc_14⟩ := id (hCh)
    have c_15 : E11 0 7 = .inr (3, [.ref (ad 0 5), .ref (ad 0 8), .int (nI cs12), .int cf_14, pv_14]) := q7_14
    have m_16 : (0, 7) ∈ RL := hmB 7 (by omega)
    have c_17 : E11 0 8 = .inl (kA 4, 12, .inr (.inr (.inr (.inr fc_14)))) := q8_14
    have m_18 : (0, 8) ∈ RL := hmB 8 (by omega)
    refine lv_aload_n hx hb xd_Ch_bind_17 rfl (lv_at hl 2 rfl) ?_
    refine px_get (D := D) (ci := 3) (v := .int (nI cs12)) (C := xR_Ch) (T := xT_Ch) (N := 5) hx hb hT xi_Ch hown hK.1 hP m_16 c_15 rfl 2 (by decide) (hT _ yr_2) (fun _ h9 => h9) rfl xd_Ch_bind_18 ?_
    refine lv_iload_n hx hb xd_Ch_bind_21 rfl (lv_at hl 0 rfl) ?_
    refine xn_ne (a := cs12) (b := cs1) (tgt := 26) hx hb xd_Ch_bind_22 (by decide) (by omega) (by omega) (fun hc19 => ?_) (fun hc19 => ?_)
    · refine lv_iinc (k := 1) (x := (nI i)) (v := (nI (i + 1))) hx hb xd_Ch_bind_26 hl rfl (xb_inc i 1) (Nat.le_of_ble_eq_true rfl) rfl (fun ls hl => ?_)
      have hl : lv_has ls 3 [(1, .int (nI (i + 1))), (2, .int (nI cs1)), (0, .ref (ad 0 7))] := hl
      refine lv_goto (tgt := 2) hx hb xd_Ch_bind_29 (by decide) ?_
      exact ih1 (i + 1, E11, cs12) _ _ _ (show 13 - (i + 1) < 13 - i by omega) (lv_sub hl [0, 2] rfl) hP hD hS ⟨(show (i + 1) ≤ 13 from by first | assumption | omega), (show CI kA ad E11 RL ml nd len wn cs12 from hCI)⟩
    · exact W.vret hx hb hr (fun t ht hW => ⟨⟨E11, rfl, ⟨cs12, hCI⟩, by rw [ht]; exact hP, hD⟩, hS.F ht⟩) hS.2.2 xd_Ch_bind_25
set_option maxHeartbeats 4000000 in
set_option maxRecDepth 100000 in
theorem xc_De_addRoots (l : Launch) (D : va_G) (kA : Nat → ClassId) (sz : Nat) (ad : Nat → Nat → Nat) (E : Nat → Nat → va_E) (RL : List (Nat × Nat)) (ml : Nat) (nd : Nat) (len : Nat) (wn : Nat) (cs : Nat) (hCI : CI kA ad E RL ml nd len wn cs) : Met l xy_De_addRoots (.code xy_De_addRoots xb_De_addRoots 2 (some .boolean) :: wT) { frames := 20, cells := 0, slots := 0, locals := 1215 } (va_Pc [.ref (ad 0 0)] (xPre D kA sz (rp ad E RL))) (va_Qi (fun (r : Int32) (u : Nat → Nat → va_E) => (r = 0 ∨ r = 1) ∧ ∃ cs2, CI kA ad u RL ml nd len wn cs2) (fun (u : Nat → Nat → va_E) t => va_P D xcl (rp ad u RL) t.heap ∧ va_D (va_A (rp ad E RL) sz) (rp ad u RL)) (va_A (rp ad E RL) sz)) 0 0 (va_A (rp ad E RL) sz) := by
  refine Met.ofW (cc := xb_De_addRoots) (maxL := 2) (ret := (some .boolean)) (by decide) rfl ?_
  intro p e s m args below meth c s₁ B hml hv
  obtain ⟨rfl, hsz, hP, hK, hD0⟩ := hv
  have hx := B.exec
  have hb := B.bytes
  have hr := B.returns
  have hT := x_hT B.pre
  have hown : s.vm.findClass xR_De = some m.cls := findClass_of_methodNamed B.named
  have hlocks := B.notSynchronized
  subst hsz
  have hD := hD0.self (sz := s.heap.size)
  generalize hAe : va_A (rp ad E RL) s.heap.size = A at hD ⊢
  have hA : ∀ q : Nat, s.heap.size ≤ q → A q := fun q h => by rw [← hAe]; exact Or.inr h
  have hS : va_S A s.heap s.heap [] := va_S.rf
  have hl := lv_entry ([.ref (ad 0 0)]) (n := 2) (Nat.le_of_ble_eq_true rfl)
  rw [lg_entry_eq]
  generalize (lg_sl ([.ref (ad 0 0)]) ++ List.replicate (2 - (lg_sl ([.ref (ad 0 0)])).length) Slot.unset).toArray = ls at hl ⊢
  have hl : lv_has ls 2 [(0, .ref (ad 0 0))] := hl
  have hP : va_P D xcl (rp ad E RL) s.heap := hP
  obtain ⟨hmB, hDk, hLi, hSh, hCh, hLa, hDIs, hLIs⟩ := id hCI
  refine lv_iconst (v := 0) hx hb xd_De_addRoots_0 (by decide) ?_
  refine lv_istore_n hx hb xd_De_addRoots_1 rfl hl (Nat.le_of_ble_eq_true rfl) rfl (fun ls hl => ?_)
  have hl : lv_has ls 2 [(1, .int 0), (0, .ref (ad 0 0))] := hl
  refine xlab (σ := Nat × (Nat → Nat → va_E) × Nat) (ml := 2) 2 (fun (i, E1, cs1) => [(1, .int (nI i)), (0, .ref (ad 0 0))]) (fun (i, E1, cs1) => []) (fun (i, E1, cs1) => rp ad E1 RL) (fun (i, E1, cs1) => (i ≤ 20) ∧ (CI kA ad E1 RL ml nd len wn cs1)) (fun (i, E1, cs1) => 20 - i) ?_ (0, E, cs) _ _ _ (lv_sub hl [0, 1] rfl) hP hD hS ⟨(show 0 ≤ 20 from by first | assumption | omega), (show CI kA ad E RL ml nd len wn cs from hCI)⟩
  intro n9 ih1 a9 ls H locs hμ hl hP hD hS hI
  subst hμ
  obtain ⟨i, E1, cs1⟩ := a9
  obtain ⟨hi, hCI⟩ := hI
  have hi : i ≤ 20 := hi
  have hCI : CI kA ad E1 RL ml nd len wn cs1 := hCI
  have hl : lv_has ls 2 [(1, .int (nI i)), (0, .ref (ad 0 0))] := hl
  have hP : va_P D xcl (rp ad E1 RL) H := hP
  have hD : va_D A (rp ad E1 RL) := hD
  obtain ⟨hmB, hDk, hLi, hSh, hCh, hLa, hDIs, hLIs⟩ := id hCI
  obtain ⟨lf_2, q_2⟩ := id (hDk)
  have c_3 : E1 0 0 = .inr (0, [.ref (ad 0 1), .ref (ad 0 5), .ref (ad 0 7), .ref (ad 0 9), .int (nI ml), .int lf_2]) := q_2
  have m_4 : (0, 0) ∈ RL := hmB 0 (by omega)
  obtain ⟨tx_5, fb_5, fe_5, hl1_5, hw2_5, q1_5, q2_5, q3_5, q4_5, hws_5⟩ := id (hLi)
  have c_6 : E1 0 1 = .inr (1, [.ref (ad 0 2), .ref (ad 0 3), .ref (ad 0 4), .int (nI len), .int (nI wn)]) := q1_5
  have m_7 : (0, 1) ∈ RL := hmB 1 (by omega)
  have c_8 : E1 0 2 = .inl (kA 1, 40, .inl tx_5) := q2_5
  have m_9 : (0, 2) ∈ RL := hmB 2 (by omega)
  have c_10 : E1 0 3 = .inl (kA 0, 20, .inl fb_5) := q3_5
  have m_11 : (0, 3) ∈ RL := hmB 3 (by omega)
  have c_12 : E1 0 4 = .inl (kA 0, 20, .inl fe_5) := q4_5
  have m_13 : (0, 4) ∈ RL := hmB 4 (by omega)
  obtain ⟨cf_14, pv_14, fc_14, hcs_14, hpv_14, q7_14, q8_14, hfc_14⟩ := id (hCh)
  have c_15 : E1 0 7 = .inr (3, [.ref (ad 0 5), .ref (ad 0 8), .int (nI cs1), .int cf_14, pv_14]) := q7_14
  have m_16 : (0, 7) ∈ RL := hmB 7 (by omega)
  have c_17 : E1 0 8 = .inl (kA 4, 12, .inr (.inr (.inr (.inr fc_14)))) := q8_14
  have m_18 : (0, 8) ∈ RL := hmB 8 (by omega)
  refine lv_iload_n hx hb xd_De_addRoots_2 rfl (lv_at hl 0 rfl) ?_
  refine lv_aload_n hx hb xd_De_addRoots_3 rfl (lv_at hl 1 rfl) ?_
  refine px_get (D := D) (ci := 0) (v := .ref (ad 0 1)) (C := xR_De) (T := xT_De) (N := 6) hx hb hT xi_De hown hK.1 hP m_4 c_3 rfl 0 (by decide) (hT _ yr_57) (fun _ h9 => h9) rfl xd_De_addRoots_4 ?_
  refine px_get (D := D) (ci := 1) (v := .int (nI wn)) (C := xR_Li) (T := xT_Li) (N := 5) hx hb hT xi_Li hown hK.1 hP m_7 c_6 rfl 4 (by decide) (hT _ yr_58) (fun _ h9 => h9) rfl xd_De_addRoots_7 ?_
  refine xn_ge (a := i) (b := wn) (tgt := 39) hx hb xd_De_addRoots_10 (by decide) (by omega) (by omega) (fun hc19 => ?_) (fun hc19 => ?_)
  · refine lv_iconst (v := 1) hx hb xd_De_addRoots_39 (by decide) ?_
    exact W.zret (v := 1) hx hb hr rfl (fun t ht hW => ⟨⟨1, E1, rfl, ⟨Or.inr rfl, cs1, hCI⟩, by rw [ht]; exact hP, hD⟩, hS.F ht⟩) hS.2.2 xd_De_addRoots_40
  · refine lv_aload_n hx hb xd_De_addRoots_13 rfl (lv_at hl 1 rfl) ?_
    refine px_get (D := D) (ci := 0) (v := .ref (ad 0 7)) (C := xR_De) (T := xT_De) (N := 6) hx hb hT xi_De hown hK.1 hP m_4 c_3 rfl 2 (by decide) (hT _ yr_59) (fun _ h9 => h9) rfl xd_De_addRoots_14 ?_
    refine lv_aload_n hx hb xd_De_addRoots_17 rfl (lv_at hl 1 rfl) ?_
    refine px_get (D := D) (ci := 0) (v := .ref (ad 0 1)) (C := xR_De) (T := xT_De) (N := 6) hx hb hT xi_De hown hK.1 hP m_4 c_3 rfl 0 (by decide) (hT _ yr_57) (fun _ h9 => h9) rfl xd_De_addRoots_18 ?_
    refine lv_iload_n hx hb xd_De_addRoots_21 rfl (lv_at hl 0 rfl) ?_
    have hFc := px_free hD hS hA
    refine va_calli (va_runV (As := [.int (nI i)]) (rest := [.ref (ad 0 7)]) ⟨hx, hb, hml, hown, hT⟩ (xc_Li_nameAt l D kA H.size ad E1 RL ml nd len wn cs1 (nI i) (by first | assumption | omega)) (cwV 1 hT (wT_V yr_61 yr_62 yr_63 yr_64 yr_60) rfl rfl rfl (by decide +kernel) ⟨Nat.le_of_ble_eq_true rfl, Nat.le_of_ble_eq_true rfl⟩) (px_preV hK hP hD m_7 c_6 rfl) rfl rfl hl.1 rfl (lv_room (Nat.le_of_ble_eq_true rfl)) xd_De_addRoots_22 ⟨(Nat.le_of_ble_eq_true rfl), (Nat.le_of_ble_eq_true rfl)⟩) hS (fun q _ h => hFc q h) hFc (fun r20 u21 t H1 locs ht hvm hp22 hB hz1 hk1 hS => ?_)
    obtain ⟨hP1, hD1⟩ := hB
    rw [ht] at hP1
    have hD1 := hD1.weaken (fun _ _ _ h => hFc _ h)
    generalize H1 = H at hP1 hS ⊢
    have hP := hP1
    have hD := hD1
    have hP : va_P D xcl (rp ad E1 RL) H := hP
    have hD : va_D A (rp ad E1 RL) := hD
    have hFc := px_free hD hS hA
    refine va_calli (va_runV (As := [.int r20]) (rest := []) ⟨hx, hb, hml, hown, hT⟩ (xc_Ch_addRoot l D kA H.size ad E1 RL ml nd len wn cs1 r20 (by first | assumption | omega)) (cwV 1 hT (wT_V yr_66 yr_67 yr_68 yr_18 yr_65) rfl rfl rfl (by decide +kernel) ⟨Nat.le_of_ble_eq_true rfl, Nat.le_of_ble_eq_true rfl⟩) (px_preV hK hP hD m_16 c_15 rfl) rfl rfl hl.1 rfl (lv_room (Nat.le_of_ble_eq_true rfl)) xd_De_addRoots_25 ⟨(Nat.le_of_ble_eq_true rfl), (Nat.le_of_ble_eq_true rfl)⟩) hS (fun q _ h => hFc q h) hFc (fun r23 u24 t H1 locs ht hvm hp25 hB hz1 hk1 hS => ?_)
    obtain ⟨hP1, hD1⟩ := hB
    rw [ht] at hP1
    have hD1 := hD1.weaken (fun _ _ _ h => hFc _ h)
    generalize H1 = H at hP1 hS ⊢
    have hP := hP1
    have hD := hD1
    obtain ⟨E26, rfl⟩ : ∃ z, z = u24 := ⟨_, rfl⟩
    have hP : va_P D xcl (rp ad E26 RL) H := hP
    have hD : va_D A (rp ad E26 RL) := hD
    obtain ⟨hr28, cs27, hCI⟩ := hp25
    have hCI : CI kA ad E26 RL ml nd len wn cs27 := hCI
    obtain ⟨hmB, hDk, hLi, hSh, hCh, hLa, hDIs, hLIs⟩ := id hCI
    refine lv_if_ne (tgt := 33) hx hb xd_De_addRoots_28 (by decide) (fun hc29 => ?_) (fun hc29 => ?_)
    · refine lv_iinc (k := 0) (x := (nI i)) (v := (nI (i + 1))) hx hb xd_De_addRoots_33 hl rfl (xb_inc i 1) (Nat.le_of_ble_eq_true rfl) rfl (fun ls hl => ?_)
      have hl : lv_has ls 2 [(1, .int (nI (i + 1))), (0, .ref (ad 0 0))] := hl
      refine lv_goto (tgt := 2) hx hb xd_De_addRoots_36 (by decide) ?_
      exact ih1 (i + 1, E26, cs27) _ _ _ (show 20 - (i + 1) < 20 - i by omega) (lv_sub hl [0, 1] rfl) hP hD hS ⟨(show (i + 1) ≤ 20 from by first | assumption | omega), (show CI kA ad E26 RL ml nd len wn cs27 from hCI)⟩
    · refine lv_iconst (v := 0) hx hb xd_De_addRoots_31 (by decide) ?_
      exact W.zret (v := 0) hx hb hr rfl (fun t ht hW => ⟨⟨0, E26, rfl, ⟨Or.inl rfl, cs27, hCI⟩, by rw [ht]; exact hP, hD⟩, hS.F ht⟩) hS.2.2 xd_De_addRoots_32
