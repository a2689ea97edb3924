abbrev xb_De_line : ByteArray := prog_1_method_3_code
def xy_De_line : MethodName := ⟨"LayerDesk", "line", "()I"⟩
abbrev xb_De_load : ByteArray := prog_1_method_11_code
def xy_De_load : MethodName := ⟨"LayerDesk", "load", "(II)I"⟩
abbrev xb_De_peek : ByteArray := prog_1_method_12_code
def xy_De_peek : MethodName := ⟨"LayerDesk", "peek", "(IIII)Z"⟩
abbrev xb_De_provider : ByteArray := prog_1_method_13_code
def xy_De_provider : MethodName := ⟨"LayerDesk", "provider", "(II)I"⟩
abbrev xb_De_layer : ByteArray := prog_1_method_4_code
def xy_De_layer : MethodName := ⟨"LayerDesk", "layer", "(IIZ)I"⟩
theorem xd_De_layer_0 : decode xb_De_layer 0 = .ok (.aload_n 0, 1) := by decide +kernel
theorem xd_De_layer_1 : decode xb_De_layer 1 = .ok (.iconst 0, 1) := by decide +kernel
theorem xd_De_layer_2 : decode xb_De_layer 2 = .ok (.putfield 42, 3) := by decide +kernel
theorem xd_De_layer_5 : decode xb_De_layer 5 = .ok (.aload_n 0, 1) := by decide +kernel
theorem xd_De_layer_6 : decode xb_De_layer 6 = .ok (.getfield 10, 3) := by decide +kernel
theorem xd_De_layer_9 : decode xb_De_layer 9 = .ok (.invokevirtual 49, 3) := by decide +kernel
theorem xd_De_layer_12 : decode xb_De_layer 12 = .ok (.aload_n 0, 1) := by decide +kernel
theorem xd_De_layer_13 : decode xb_De_layer 13 = .ok (.iload_n 2, 1) := by decide +kernel
theorem xd_De_layer_14 : decode xb_De_layer 14 = .ok (.invokevirtual 68, 3) := by decide +kernel
theorem xd_De_layer_17 : decode xb_De_layer 17 = .ok (.astore 4, 2) := by decide +kernel
theorem xd_De_layer_19 : decode xb_De_layer 19 = .ok (.iload_n 2, 1) := by decide +kernel
theorem xd_De_layer_20 : decode xb_De_layer 20 = .ok (.iconst (-1), 1) := by decide +kernel
theorem xd_De_layer_21 : decode xb_De_layer 21 = .ok (.if_icmp .eq 8, 3) := by decide +kernel
theorem xd_De_layer_24 : decode xb_De_layer 24 = .ok (.aload 4, 2) := by decide +kernel
theorem xd_De_layer_26 : decode xb_De_layer 26 = .ok (.ifnull 7, 3) := by decide +kernel
theorem xd_De_layer_29 : decode xb_De_layer 29 = .ok (.iconst 1, 1) := by decide +kernel
theorem xd_De_layer_30 : decode xb_De_layer 30 = .ok (.goto 4, 3) := by decide +kernel
theorem xd_De_layer_33 : decode xb_De_layer 33 = .ok (.iconst 0, 1) := by decide +kernel
theorem xd_De_layer_34 : decode xb_De_layer 34 = .ok (.istore 5, 2) := by decide +kernel
theorem xd_De_layer_36 : decode xb_De_layer 36 = .ok (.aload_n 0, 1) := by decide +kernel
theorem xd_De_layer_37 : decode xb_De_layer 37 = .ok (.invokevirtual 72, 3) := by decide +kernel
theorem xd_De_layer_40 : decode xb_De_layer 40 = .ok (.ifCond .eq 15, 3) := by decide +kernel
theorem xd_De_layer_43 : decode xb_De_layer 43 = .ok (.iload_n 1, 1) := by decide +kernel
theorem xd_De_layer_44 : decode xb_De_layer 44 = .ok (.invokestatic 76, 3) := by decide +kernel
theorem xd_De_layer_47 : decode xb_De_layer 47 = .ok (.ifCond .eq 8, 3) := by decide +kernel
theorem xd_De_layer_50 : decode xb_De_layer 50 = .ok (.iload 5, 2) := by decide +kernel
theorem xd_De_layer_52 : decode xb_De_layer 52 = .ok (.ifCond .ne 13, 3) := by decide +kernel
theorem xd_De_layer_55 : decode xb_De_layer 55 = .ok (.new 56, 3) := by decide +kernel
theorem xd_De_layer_58 : decode xb_De_layer 58 = .ok (.dup, 1) := by decide +kernel
theorem xd_De_layer_59 : decode xb_De_layer 59 = .ok (.ldc 80, 2) := by decide +kernel
theorem xd_De_layer_61 : decode xb_De_layer 61 = .ok (.invokespecial 60, 3) := by decide +kernel
theorem xd_De_layer_64 : decode xb_De_layer 64 = .ok (.athrow, 1) := by decide +kernel
theorem xd_De_layer_65 : decode xb_De_layer 65 = .ok (.aload_n 0, 1) := by decide +kernel
theorem xd_De_layer_66 : decode xb_De_layer 66 = .ok (.getfield 28, 3) := by decide +kernel
theorem xd_De_layer_69 : decode xb_De_layer 69 = .ok (.iload_n 1, 1) := by decide +kernel
theorem xd_De_layer_70 : decode xb_De_layer 70 = .ok (.aload 4, 2) := by decide +kernel
theorem xd_De_layer_72 : decode xb_De_layer 72 = .ok (.invokevirtual 82, 3) := by decide +kernel
theorem xd_De_layer_75 : decode xb_De_layer 75 = .ok (.aload_n 0, 1) := by decide +kernel
theorem xd_De_layer_76 : decode xb_De_layer 76 = .ok (.invokevirtual 86, 3) := by decide +kernel
theorem xd_De_layer_79 : decode xb_De_layer 79 = .ok (.ifCond .ne 13, 3) := by decide +kernel
theorem xd_De_layer_82 : decode xb_De_layer 82 = .ok (.new 89, 3) := by decide +kernel
theorem xd_De_layer_85 : decode xb_De_layer 85 = .ok (.dup, 1) := by decide +kernel
theorem xd_De_layer_86 : decode xb_De_layer 86 = .ok (.ldc 91, 2) := by decide +kernel
theorem xd_De_layer_88 : decode xb_De_layer 88 = .ok (.invokespecial 93, 3) := by decide +kernel
theorem xd_De_layer_91 : decode xb_De_layer 91 = .ok (.athrow, 1) := by decide +kernel
theorem xd_De_layer_92 : decode xb_De_layer 92 = .ok (.iload_n 3, 1) := by decide +kernel
theorem xd_De_layer_93 : decode xb_De_layer 93 = .ok (.ifCond .eq 10, 3) := by decide +kernel
theorem xd_De_layer_96 : decode xb_De_layer 96 = .ok (.aload_n 0, 1) := by decide +kernel
theorem xd_De_layer_97 : decode xb_De_layer 97 = .ok (.getfield 28, 3) := by decide +kernel
theorem xd_De_layer_100 : decode xb_De_layer 100 = .ok (.invokevirtual 94, 3) := by decide +kernel
theorem xd_De_layer_103 : decode xb_De_layer 103 = .ok (.aload_n 0, 1) := by decide +kernel
theorem xd_De_layer_104 : decode xb_De_layer 104 = .ok (.getfield 28, 3) := by decide +kernel
theorem xd_De_layer_107 : decode xb_De_layer 107 = .ok (.aload_n 0, 1) := by decide +kernel
theorem xd_De_layer_108 : decode xb_De_layer 108 = .ok (.getfield 38, 3) := by decide +kernel
theorem xd_De_layer_111 : decode xb_De_layer 111 = .ok (.invokevirtual 97, 3) := by decide +kernel
theorem xd_De_layer_114 : decode xb_De_layer 114 = .ok (.astore 6, 2) := by decide +kernel
theorem xd_De_layer_116 : decode xb_De_layer 116 = .ok (.aload_n 0, 1) := by decide +kernel
theorem xd_De_layer_117 : decode xb_De_layer 117 = .ok (.aload_n 0, 1) := by decide +kernel
theorem xd_De_layer_118 : decode xb_De_layer 118 = .ok (.aload 6, 2) := by decide +kernel
theorem xd_De_layer_120 : decode xb_De_layer 120 = .ok (.invokevirtual 100, 3) := by decide +kernel
theorem xd_De_layer_123 : decode xb_De_layer 123 = .ok (.putfield 42, 3) := by decide +kernel
theorem xd_De_layer_126 : decode xb_De_layer 126 = .ok (.aload_n 0, 1) := by decide +kernel
theorem xd_De_layer_127 : decode xb_De_layer 127 = .ok (.getfield 42, 3) := by decide +kernel
theorem xd_De_layer_130 : decode xb_De_layer 130 = .ok (.ifCond .eq 13, 3) := by decide +kernel
theorem xd_De_layer_133 : decode xb_De_layer 133 = .ok (.new 63, 3) := by decide +kernel
theorem xd_De_layer_136 : decode xb_De_layer 136 = .ok (.dup, 1) := by decide +kernel
theorem xd_De_layer_137 : decode xb_De_layer 137 = .ok (.ldc 104, 2) := by decide +kernel
theorem xd_De_layer_139 : decode xb_De_layer 139 = .ok (.invokespecial 67, 3) := by decide +kernel
theorem xd_De_layer_142 : decode xb_De_layer 142 = .ok (.athrow, 1) := by decide +kernel
theorem xd_De_layer_143 : decode xb_De_layer 143 = .ok (.aload_n 0, 1) := by decide +kernel
theorem xd_De_layer_144 : decode xb_De_layer 144 = .ok (.aload 6, 2) := by decide +kernel
theorem xd_De_layer_146 : decode xb_De_layer 146 = .ok (.invokevirtual 106, 3) := by decide +kernel
theorem xd_De_layer_149 : decode xb_De_layer 149 = .ok (.aload 6, 2) := by decide +kernel
theorem xd_De_layer_151 : decode xb_De_layer 151 = .ok (.getfield 110, 3) := by decide +kernel
theorem xd_De_layer_154 : decode xb_De_layer 154 = .ok (.ireturn, 1) := by decide +kernel
theorem xd_De_line_0 : decode xb_De_line 0 = .ok (.aload_n 0, 1) := by decide +kernel
theorem xd_De_line_1 : decode xb_De_line 1 = .ok (.getfield 10, 3) := by decide +kernel
theorem xd_De_line_4 : decode xb_De_line 4 = .ok (.invokevirtual 49, 3) := by decide +kernel
theorem xd_De_line_7 : decode xb_De_line 7 = .ok (.aload_n 0, 1) := by decide +kernel
theorem xd_De_line_8 : decode xb_De_line 8 = .ok (.getfield 19, 3) := by decide +kernel
theorem xd_De_line_11 : decode xb_De_line 11 = .ok (.aload_n 0, 1) := by decide +kernel
theorem xd_De_line_12 : decode xb_De_line 12 = .ok (.getfield 10, 3) := by decide +kernel
theorem xd_De_line_15 : decode xb_De_line 15 = .ok (.invokevirtual 52, 3) := by decide +kernel
theorem xd_De_line_18 : decode xb_De_line 18 = .ok (.istore_n 1, 1) := by decide +kernel
theorem xd_De_line_19 : decode xb_De_line 19 = .ok (.iload_n 1, 1) := by decide +kernel
theorem xd_De_line_20 : decode xb_De_line 20 = .ok (.iconst (-1), 1) := by decide +kernel
theorem xd_De_line_21 : decode xb_De_line 21 = .ok (.if_icmp .ne 13, 3) := by decide +kernel
theorem xd_De_line_24 : decode xb_De_line 24 = .ok (.new 56, 3) := by decide +kernel
theorem xd_De_line_27 : decode xb_De_line 27 = .ok (.dup, 1) := by decide +kernel
theorem xd_De_line_28 : decode xb_De_line 28 = .ok (.ldc 58, 2) := by decide +kernel
theorem xd_De_line_30 : decode xb_De_line 30 = .ok (.invokespecial 60, 3) := by decide +kernel
theorem xd_De_line_33 : decode xb_De_line 33 = .ok (.athrow, 1) := by decide +kernel
theorem xd_De_line_34 : decode xb_De_line 34 = .ok (.iload_n 1, 1) := by decide +kernel
theorem xd_De_line_35 : decode xb_De_line 35 = .ok (.bipush (-2), 2) := by decide +kernel
theorem xd_De_line_37 : decode xb_De_line 37 = .ok (.if_icmp .ne 13, 3) := by decide +kernel
theorem xd_De_line_40 : decode xb_De_line 40 = .ok (.new 63, 3) := by decide +kernel
theorem xd_De_line_43 : decode xb_De_line 43 = .ok (.dup, 1) := by decide +kernel
theorem xd_De_line_44 : decode xb_De_line 44 = .ok (.ldc 65, 2) := by decide +kernel
theorem xd_De_line_46 : decode xb_De_line 46 = .ok (.invokespecial 67, 3) := by decide +kernel
theorem xd_De_line_49 : decode xb_De_line 49 = .ok (.athrow, 1) := by decide +kernel
theorem xd_De_line_50 : decode xb_De_line 50 = .ok (.iload_n 1, 1) := by decide +kernel
theorem xd_De_line_51 : decode xb_De_line 51 = .ok (.ireturn, 1) := by decide +kernel
theorem xd_De_load_0 : decode xb_De_load 0 = .ok (.aload_n 0, 1) := by decide +kernel
theorem xd_De_load_1 : decode xb_De_load 1 = .ok (.getfield 10, 3) := by decide +kernel
theorem xd_De_load_4 : decode xb_De_load 4 = .ok (.invokevirtual 158, 3) := by decide +kernel
theorem xd_De_load_7 : decode xb_De_load 7 = .ok (.istore_n 3, 1) := by decide +kernel
theorem xd_De_load_8 : decode xb_De_load 8 = .ok (.aload_n 0, 1) := by decide +kernel
theorem xd_De_load_9 : decode xb_De_load 9 = .ok (.iload_n 1, 1) := by decide +kernel
theorem xd_De_load_10 : decode xb_De_load 10 = .ok (.iload_n 2, 1) := by decide +kernel
theorem xd_De_load_11 : decode xb_De_load 11 = .ok (.invokevirtual 132, 3) := by decide +kernel
theorem xd_De_load_14 : decode xb_De_load 14 = .ok (.astore 4, 2) := by decide +kernel
theorem xd_De_load_16 : decode xb_De_load 16 = .ok (.aload 4, 2) := by decide +kernel
theorem xd_De_load_18 : decode xb_De_load 18 = .ok (.ifnull 7, 3) := by decide +kernel
theorem xd_De_load_21 : decode xb_De_load 21 = .ok (.iload_n 3, 1) := by decide +kernel
theorem xd_De_load_22 : decode xb_De_load 22 = .ok (.ifCond .ne 13, 3) := by decide +kernel
theorem xd_De_load_25 : decode xb_De_load 25 = .ok (.new 56, 3) := by decide +kernel
theorem xd_De_load_28 : decode xb_De_load 28 = .ok (.dup, 1) := by decide +kernel
theorem xd_De_load_29 : decode xb_De_load 29 = .ok (.ldc 161, 2) := by decide +kernel
theorem xd_De_load_31 : decode xb_De_load 31 = .ok (.invokespecial 60, 3) := by decide +kernel
theorem xd_De_load_34 : decode xb_De_load 34 = .ok (.athrow, 1) := by decide +kernel
theorem xd_De_load_35 : decode xb_De_load 35 = .ok (.aload 4, 2) := by decide +kernel
theorem xd_De_load_37 : decode xb_De_load 37 = .ok (.getfield 136, 3) := by decide +kernel
theorem xd_De_load_40 : decode xb_De_load 40 = .ok (.getfield 163, 3) := by decide +kernel
theorem xd_De_load_43 : decode xb_De_load 43 = .ok (.iload_n 3, 1) := by decide +kernel
theorem xd_De_load_44 : decode xb_De_load 44 = .ok (.invokevirtual 167, 3) := by decide +kernel
theorem xd_De_load_47 : decode xb_De_load 47 = .ok (.ifCond .eq 8, 3) := by decide +kernel
theorem xd_De_load_50 : decode xb_De_load 50 = .ok (.aload 4, 2) := by decide +kernel
theorem xd_De_load_52 : decode xb_De_load 52 = .ok (.goto 9, 3) := by decide +kernel
theorem xd_De_load_55 : decode xb_De_load 55 = .ok (.aload 4, 2) := by decide +kernel
theorem xd_De_load_57 : decode xb_De_load 57 = .ok (.iload_n 3, 1) := by decide +kernel
theorem xd_De_load_58 : decode xb_De_load 58 = .ok (.invokevirtual 172, 3) := by decide +kernel
theorem xd_De_load_61 : decode xb_De_load 61 = .ok (.astore 5, 2) := by decide +kernel
theorem xd_De_load_63 : decode xb_De_load 63 = .ok (.aload 5, 2) := by decide +kernel
theorem xd_De_load_65 : decode xb_De_load 65 = .ok (.ifnonnull 13, 3) := by decide +kernel
theorem xd_De_load_68 : decode xb_De_load 68 = .ok (.new 89, 3) := by decide +kernel
theorem xd_De_load_71 : decode xb_De_load 71 = .ok (.dup, 1) := by decide +kernel
theorem xd_De_load_72 : decode xb_De_load 72 = .ok (.ldc 176, 2) := by decide +kernel
theorem xd_De_load_74 : decode xb_De_load 74 = .ok (.invokespecial 93, 3) := by decide +kernel
theorem xd_De_load_77 : decode xb_De_load 77 = .ok (.athrow, 1) := by decide +kernel
theorem xd_De_load_78 : decode xb_De_load 78 = .ok (.aload 5, 2) := by decide +kernel
theorem xd_De_load_80 : decode xb_De_load 80 = .ok (.invokevirtual 178, 3) := by decide +kernel
theorem xd_De_load_83 : decode xb_De_load 83 = .ok (.ireturn, 1) := by decide +kernel
theorem xd_De_peek_0 : decode xb_De_peek 0 = .ok (.aload_n 0, 1) := by decide +kernel
theorem xd_De_peek_1 : decode xb_De_peek 1 = .ok (.getfield 10, 3) := by decide +kernel
theorem xd_De_peek_4 : decode xb_De_peek 4 = .ok (.invokevirtual 158, 3) := by decide +kernel
theorem xd_De_peek_7 : decode xb_De_peek 7 = .ok (.istore 5, 2) := by decide +kernel
theorem xd_De_peek_9 : decode xb_De_peek 9 = .ok (.aload_n 0, 1) := by decide +kernel
theorem xd_De_peek_10 : decode xb_De_peek 10 = .ok (.iload_n 1, 1) := by decide +kernel
theorem xd_De_peek_11 : decode xb_De_peek 11 = .ok (.iload_n 2, 1) := by decide +kernel
theorem xd_De_peek_12 : decode xb_De_peek 12 = .ok (.invokevirtual 132, 3) := by decide +kernel
theorem xd_De_peek_15 : decode xb_De_peek 15 = .ok (.astore 6, 2) := by decide +kernel
theorem xd_De_peek_17 : decode xb_De_peek 17 = .ok (.aload_n 0, 1) := by decide +kernel
theorem xd_De_peek_18 : decode xb_De_peek 18 = .ok (.iload_n 3, 1) := by decide +kernel
theorem xd_De_peek_19 : decode xb_De_peek 19 = .ok (.iload 4, 2) := by decide +kernel
theorem xd_De_peek_21 : decode xb_De_peek 21 = .ok (.invokevirtual 145, 3) := by decide +kernel
theorem xd_De_peek_24 : decode xb_De_peek 24 = .ok (.astore 7, 2) := by decide +kernel
theorem xd_De_peek_26 : decode xb_De_peek 26 = .ok (.aload 6, 2) := by decide +kernel
theorem xd_De_peek_28 : decode xb_De_peek 28 = .ok (.ifnull 13, 3) := by decide +kernel
theorem xd_De_peek_31 : decode xb_De_peek 31 = .ok (.aload 7, 2) := by decide +kernel
theorem xd_De_peek_33 : decode xb_De_peek 33 = .ok (.ifnull 8, 3) := by decide +kernel
theorem xd_De_peek_36 : decode xb_De_peek 36 = .ok (.iload 5, 2) := by decide +kernel
theorem xd_De_peek_38 : decode xb_De_peek 38 = .ok (.ifCond .ne 13, 3) := by decide +kernel
theorem xd_De_peek_41 : decode xb_De_peek 41 = .ok (.new 56, 3) := by decide +kernel
theorem xd_De_peek_44 : decode xb_De_peek 44 = .ok (.dup, 1) := by decide +kernel
theorem xd_De_peek_45 : decode xb_De_peek 45 = .ok (.ldc 161, 2) := by decide +kernel
theorem xd_De_peek_47 : decode xb_De_peek 47 = .ok (.invokespecial 60, 3) := by decide +kernel
theorem xd_De_peek_50 : decode xb_De_peek 50 = .ok (.athrow, 1) := by decide +kernel
theorem xd_De_peek_51 : decode xb_De_peek 51 = .ok (.aload 7, 2) := by decide +kernel
theorem xd_De_peek_53 : decode xb_De_peek 53 = .ok (.getfield 136, 3) := by decide +kernel
theorem xd_De_peek_56 : decode xb_De_peek 56 = .ok (.getfield 163, 3) := by decide +kernel
theorem xd_De_peek_59 : decode xb_De_peek 59 = .ok (.iload 5, 2) := by decide +kernel
theorem xd_De_peek_61 : decode xb_De_peek 61 = .ok (.invokevirtual 167, 3) := by decide +kernel
theorem xd_De_peek_64 : decode xb_De_peek 64 = .ok (.ifCond .ne 13, 3) := by decide +kernel
theorem xd_De_peek_67 : decode xb_De_peek 67 = .ok (.new 89, 3) := by decide +kernel
theorem xd_De_peek_70 : decode xb_De_peek 70 = .ok (.dup, 1) := by decide +kernel
theorem xd_De_peek_71 : decode xb_De_peek 71 = .ok (.ldc 181, 2) := by decide +kernel
theorem xd_De_peek_73 : decode xb_De_peek 73 = .ok (.invokespecial 93, 3) := by decide +kernel
theorem xd_De_peek_76 : decode xb_De_peek 76 = .ok (.athrow, 1) := by decide +kernel
theorem xd_De_peek_77 : decode xb_De_peek 77 = .ok (.aload 6, 2) := by decide +kernel
theorem xd_De_peek_79 : decode xb_De_peek 79 = .ok (.aload 7, 2) := by decide +kernel
theorem xd_De_peek_81 : decode xb_De_peek 81 = .ok (.if_acmp .eq 37, 3) := by decide +kernel
theorem xd_De_peek_84 : decode xb_De_peek 84 = .ok (.aload 6, 2) := by decide +kernel
theorem xd_De_peek_86 : decode xb_De_peek 86 = .ok (.getfield 148, 3) := by decide +kernel
theorem xd_De_peek_89 : decode xb_De_peek 89 = .ok (.aload 7, 2) := by decide +kernel
theorem xd_De_peek_91 : decode xb_De_peek 91 = .ok (.invokevirtual 152, 3) := by decide +kernel
theorem xd_De_peek_94 : decode xb_De_peek 94 = .ok (.ifCond .eq 28, 3) := by decide +kernel
theorem xd_De_peek_97 : decode xb_De_peek 97 = .ok (.aload 7, 2) := by decide +kernel
theorem xd_De_peek_99 : decode xb_De_peek 99 = .ok (.getfield 136, 3) := by decide +kernel
theorem xd_De_peek_102 : decode xb_De_peek 102 = .ok (.iload 5, 2) := by decide +kernel
theorem xd_De_peek_104 : decode xb_De_peek 104 = .ok (.aload 6, 2) := by decide +kernel
theorem xd_De_peek_106 : decode xb_De_peek 106 = .ok (.getfield 136, 3) := by decide +kernel
theorem xd_De_peek_109 : decode xb_De_peek 109 = .ok (.getfield 183, 3) := by decide +kernel
theorem xd_De_peek_112 : decode xb_De_peek 112 = .ok (.invokevirtual 186, 3) := by decide +kernel
theorem xd_De_peek_115 : decode xb_De_peek 115 = .ok (.ifCond .eq 7, 3) := by decide +kernel
theorem xd_De_peek_118 : decode xb_De_peek 118 = .ok (.iconst 1, 1) := by decide +kernel
theorem xd_De_peek_119 : decode xb_De_peek 119 = .ok (.goto 4, 3) := by decide +kernel
theorem xd_De_peek_122 : decode xb_De_peek 122 = .ok (.iconst 0, 1) := by decide +kernel
theorem xd_De_peek_123 : decode xb_De_peek 123 = .ok (.ireturn, 1) := by decide +kernel
theorem xd_De_provider_0 : decode xb_De_provider 0 = .ok (.aload_n 0, 1) := by decide +kernel
theorem xd_De_provider_1 : decode xb_De_provider 1 = .ok (.getfield 10, 3) := by decide +kernel
theorem xd_De_provider_4 : decode xb_De_provider 4 = .ok (.invokevirtual 158, 3) := by decide +kernel
theorem xd_De_provider_7 : decode xb_De_provider 7 = .ok (.istore_n 3, 1) := by decide +kernel
theorem xd_De_provider_8 : decode xb_De_provider 8 = .ok (.aload_n 0, 1) := by decide +kernel
theorem xd_De_provider_9 : decode xb_De_provider 9 = .ok (.iload_n 1, 1) := by decide +kernel
theorem xd_De_provider_10 : decode xb_De_provider 10 = .ok (.invokevirtual 68, 3) := by decide +kernel
theorem xd_De_provider_13 : decode xb_De_provider 13 = .ok (.astore 4, 2) := by decide +kernel
theorem xd_De_provider_15 : decode xb_De_provider 15 = .ok (.aload 4, 2) := by decide +kernel
theorem xd_De_provider_17 : decode xb_De_provider 17 = .ok (.ifnull 7, 3) := by decide +kernel
theorem xd_De_provider_20 : decode xb_De_provider 20 = .ok (.iload_n 3, 1) := by decide +kernel
theorem xd_De_provider_21 : decode xb_De_provider 21 = .ok (.ifCond .ne 13, 3) := by decide +kernel
theorem xd_De_provider_24 : decode xb_De_provider 24 = .ok (.new 56, 3) := by decide +kernel
theorem xd_De_provider_27 : decode xb_De_provider 27 = .ok (.dup, 1) := by decide +kernel
theorem xd_De_provider_28 : decode xb_De_provider 28 = .ok (.ldc 190, 2) := by decide +kernel
theorem xd_De_provider_30 : decode xb_De_provider 30 = .ok (.invokespecial 60, 3) := by decide +kernel
theorem xd_De_provider_33 : decode xb_De_provider 33 = .ok (.athrow, 1) := by decide +kernel
theorem xd_De_provider_34 : decode xb_De_provider 34 = .ok (.aload 4, 2) := by decide +kernel
theorem xd_De_provider_36 : decode xb_De_provider 36 = .ok (.iload_n 3, 1) := by decide +kernel
theorem xd_De_provider_37 : decode xb_De_provider 37 = .ok (.iload_n 2, 1) := by decide +kernel
theorem xd_De_provider_38 : decode xb_De_provider 38 = .ok (.invokevirtual 192, 3) := by decide +kernel
theorem xd_De_provider_41 : decode xb_De_provider 41 = .ok (.astore 5, 2) := by decide +kernel
theorem xd_De_provider_43 : decode xb_De_provider 43 = .ok (.aload 5, 2) := by decide +kernel
theorem xd_De_provider_45 : decode xb_De_provider 45 = .ok (.ifnonnull 7, 3) := by decide +kernel
theorem xd_De_provider_48 : decode xb_De_provider 48 = .ok (.iconst (-1), 1) := by decide +kernel
theorem xd_De_provider_49 : decode xb_De_provider 49 = .ok (.goto 8, 3) := by decide +kernel
theorem xd_De_provider_52 : decode xb_De_provider 52 = .ok (.aload 5, 2) := by decide +kernel
theorem xd_De_provider_54 : decode xb_De_provider 54 = .ok (.invokevirtual 178, 3) := by decide +kernel
theorem xd_De_provider_57 : decode xb_De_provider 57 = .ok (.ireturn, 1) := by decide +kernel
theorem yx_0 : (Cond.fieldLink "LayerDesk" 10 "LayerDesk" "written" "LLayerDesk$Line;") ∈ wT := wT_t (List.mem_append_left _ (List.mem_of_getElem? (i := 99) rfl)) rfl
theorem yx_1 : (Cond.code xy_Li_take xb_Li_take 3 none) ∈ wT := wT_t (List.mem_append_left _ (List.mem_of_getElem? (i := 190) rfl)) rfl
theorem yx_2 : (Cond.methodLink "LayerDesk" 49 xy_Li_take) ∈ wT := wT_t (List.mem_append_left _ (List.mem_of_getElem? (i := 187) rfl)) rfl
theorem yx_3 : (Cond.instanceMethod xy_Li_take) ∈ wT := wT_t (List.mem_append_left _ (List.mem_of_getElem? (i := 188) rfl)) rfl
theorem yx_4 : (Cond.selects "LayerDesk$Line" xy_Li_take xy_Li_take) ∈ wT := wT_t (List.mem_append_left _ (List.mem_of_getElem? (i := 189) rfl)) rfl
theorem yx_5 : (Cond.initialized "LayerDesk$Line") ∈ wT := wT_t (List.mem_append_left _ (List.mem_of_getElem? (i := 2) rfl)) rfl
theorem yx_6 : (Cond.fieldLink "LayerDesk" 19 "LayerDesk" "shelf" "LLayerDesk$Shelf;") ∈ wT := wT_t (List.mem_append_left _ (List.mem_of_getElem? (i := 100) rfl)) rfl
theorem yx_7 : (Cond.code xy_Sh_accept xb_Sh_accept 2 (some .int)) ∈ wT := wT_t (List.mem_append_left _ (List.mem_of_getElem? (i := 194) rfl)) rfl
theorem yx_8 : (Cond.methodLink "LayerDesk" 52 xy_Sh_accept) ∈ wT := wT_t (List.mem_append_left _ (List.mem_of_getElem? (i := 191) rfl)) rfl
theorem yx_9 : (Cond.instanceMethod xy_Sh_accept) ∈ wT := wT_t (List.mem_append_left _ (List.mem_of_getElem? (i := 192) rfl)) rfl
theorem yx_10 : (Cond.selects "LayerDesk$Shelf" xy_Sh_accept xy_Sh_accept) ∈ wT := wT_t (List.mem_append_left _ (List.mem_of_getElem? (i := 193) rfl)) rfl
theorem yx_11 : (Cond.initialized "LayerDesk$Shelf") ∈ wT := wT_t (List.mem_append_left _ (List.mem_of_getElem? (i := 3) rfl)) rfl
theorem yx_12 : (Cond.classLink "LayerDesk" 63 "java/lang/IllegalStateException") ∈ wT := wT_t (List.mem_append_right _ (List.mem_append_right _ (List.mem_append_left _ (List.mem_of_getElem? (i := 32) rfl)))) rfl
theorem yx_13 : (Cond.initialized "java/lang/IllegalStateException") ∈ wT := wT_t (List.mem_append_left _ (List.mem_of_getElem? (i := 17) rfl)) rfl
theorem yx_14 : (Cond.classLink "LayerDesk" 56 "java/lang/IllegalArgumentException") ∈ wT := wT_t (List.mem_append_right _ (List.mem_append_left _ (List.mem_of_getElem? (i := 205) rfl))) rfl
theorem yx_15 : (Cond.initialized "java/lang/IllegalArgumentException") ∈ wT := wT_t (List.mem_append_left _ (List.mem_of_getElem? (i := 16) rfl)) rfl
theorem yx_16 : (Cond.code xy_Li_takeName xb_Li_takeName 1 (some .int)) ∈ wT := wT_t (List.mem_append_right _ (List.mem_append_right _ (List.mem_append_right _ (List.mem_append_left _ (List.mem_of_getElem? (i := 42) rfl))))) rfl
theorem yx_17 : (Cond.methodLink "LayerDesk" 158 xy_Li_takeName) ∈ wT := wT_t (List.mem_append_right _ (List.mem_append_right _ (List.mem_append_right _ (List.mem_append_left _ (List.mem_of_getElem? (i := 39) rfl))))) rfl
theorem yx_18 : (Cond.instanceMethod xy_Li_takeName) ∈ wT := wT_t (List.mem_append_right _ (List.mem_append_right _ (List.mem_append_right _ (List.mem_append_left _ (List.mem_of_getElem? (i := 40) rfl))))) rfl
theorem yx_19 : (Cond.selects "LayerDesk$Line" xy_Li_takeName xy_Li_takeName) ∈ wT := wT_t (List.mem_append_right _ (List.mem_append_right _ (List.mem_append_right _ (List.mem_append_left _ (List.mem_of_getElem? (i := 41) rfl))))) rfl
theorem yx_20 : (Cond.code xy_De_memberAt xb_De_memberAt 4 (some (.object "LayerDesk$Member"))) ∈ wT := wT_t (List.mem_append_left _ (List.mem_of_getElem? (i := 161) rfl)) rfl
theorem yx_21 : (Cond.methodLink "LayerDesk" 132 xy_De_memberAt) ∈ wT := wT_t (List.mem_append_left _ (List.mem_of_getElem? (i := 158) rfl)) rfl
theorem yx_22 : (Cond.instanceMethod xy_De_memberAt) ∈ wT := wT_t (List.mem_append_left _ (List.mem_of_getElem? (i := 160) rfl)) rfl
theorem yx_23 : (Cond.selects "LayerDesk" xy_De_memberAt xy_De_memberAt) ∈ wT := wT_s (q := (xy_De_memberAt, 6)) (by decide +kernel) rfl
theorem yx_24 : (Cond.initialized "LayerDesk") ∈ wT := wT_t (List.mem_append_left _ (List.mem_of_getElem? (i := 1) rfl)) rfl
theorem yx_25 : (Cond.fieldLink "LayerDesk" 136 "LayerDesk$Member" "descriptor" "LLayerDesk$Descriptor;") ∈ wT := wT_t (List.mem_append_right _ (List.mem_append_right _ (List.mem_append_left _ (List.mem_of_getElem? (i := 185) rfl)))) rfl
theorem yx_26 : (Cond.fieldLink "LayerDesk" 163 "LayerDesk$Descriptor" "packages" "LLayerDesk$Names;") ∈ wT := wT_t (List.mem_append_right _ (List.mem_append_left _ (List.mem_of_getElem? (i := 63) rfl))) rfl
theorem yx_27 : (Cond.code xy_Na_holds xb_Na_holds 2 (some .boolean)) ∈ wT := wT_t (List.mem_append_right _ (List.mem_append_left _ (List.mem_of_getElem? (i := 123) rfl))) rfl
theorem yx_28 : (Cond.methodLink "LayerDesk" 167 xy_Na_holds) ∈ wT := wT_t (List.mem_append_right _ (List.mem_append_right _ (List.mem_append_right _ (List.mem_append_left _ (List.mem_of_getElem? (i := 46) rfl))))) rfl
theorem yx_29 : (Cond.instanceMethod xy_Na_holds) ∈ wT := wT_t (List.mem_append_right _ (List.mem_append_left _ (List.mem_of_getElem? (i := 121) rfl))) rfl
theorem yx_30 : (Cond.selects "LayerDesk$Names" xy_Na_holds xy_Na_holds) ∈ wT := wT_t (List.mem_append_right _ (List.mem_append_left _ (List.mem_of_getElem? (i := 122) rfl))) rfl
theorem yx_31 : (Cond.initialized "LayerDesk$Names") ∈ wT := wT_t (List.mem_append_left _ (List.mem_of_getElem? (i := 11) rfl)) rfl
theorem yx_32 : (Cond.code xy_Me_code xb_Me_code 1 (some .int)) ∈ wT := wT_t (List.mem_append_right _ (List.mem_append_right _ (List.mem_append_right _ (List.mem_append_left _ (List.mem_of_getElem? (i := 52) rfl))))) rfl
theorem yx_33 : (Cond.methodLink "LayerDesk" 178 xy_Me_code) ∈ wT := wT_t (List.mem_append_right _ (List.mem_append_right _ (List.mem_append_right _ (List.mem_append_left _ (List.mem_of_getElem? (i := 49) rfl))))) rfl
theorem yx_34 : (Cond.instanceMethod xy_Me_code) ∈ wT := wT_t (List.mem_append_right _ (List.mem_append_right _ (List.mem_append_right _ (List.mem_append_left _ (List.mem_of_getElem? (i := 50) rfl))))) rfl
theorem yx_35 : (Cond.selects "LayerDesk$Member" xy_Me_code xy_Me_code) ∈ wT := wT_t (List.mem_append_right _ (List.mem_append_right _ (List.mem_append_right _ (List.mem_append_left _ (List.mem_of_getElem? (i := 51) rfl))))) rfl
theorem yx_36 : (Cond.initialized "LayerDesk$Member") ∈ wT := wT_t (List.mem_append_left _ (List.mem_of_getElem? (i := 20) rfl)) rfl
theorem yx_37 : (Cond.code xy_Me_sourceOf xb_Me_sourceOf 5 (some (.object "LayerDesk$Member"))) ∈ wT := wT_t (List.mem_append_right _ (List.mem_append_right _ (List.mem_append_right _ (List.mem_append_left _ (List.mem_of_getElem? (i := 26) rfl))))) rfl
theorem yx_38 : (Cond.methodLink "LayerDesk" 172 xy_Me_sourceOf) ∈ wT := wT_t (List.mem_append_right _ (List.mem_append_right _ (List.mem_append_right _ (List.mem_append_left _ (List.mem_of_getElem? (i := 47) rfl))))) rfl
theorem yx_39 : (Cond.instanceMethod xy_Me_sourceOf) ∈ wT := wT_t (List.mem_append_right _ (List.mem_append_right _ (List.mem_append_right _ (List.mem_append_left _ (List.mem_of_getElem? (i := 24) rfl))))) rfl
theorem yx_40 : (Cond.selects "LayerDesk$Member" xy_Me_sourceOf xy_Me_sourceOf) ∈ wT := wT_t (List.mem_append_right _ (List.mem_append_right _ (List.mem_append_right _ (List.mem_append_left _ (List.mem_of_getElem? (i := 25) rfl))))) rfl
theorem yx_41 : (Cond.classLink "LayerDesk" 89 "java/util/NoSuchElementException") ∈ wT := wT_t (List.mem_append_right _ (List.mem_append_right _ (List.mem_append_left _ (List.mem_of_getElem? (i := 94) rfl)))) rfl
theorem yx_42 : (Cond.initialized "java/util/NoSuchElementException") ∈ wT := wT_t (List.mem_append_left _ (List.mem_of_getElem? (i := 18) rfl)) rfl
theorem yx_43 : (Cond.code xy_De_memberOf xb_De_memberOf 4 (some (.object "LayerDesk$Member"))) ∈ wT := wT_t (List.mem_append_left _ (List.mem_of_getElem? (i := 169) rfl)) rfl
theorem yx_44 : (Cond.methodLink "LayerDesk" 145 xy_De_memberOf) ∈ wT := wT_t (List.mem_append_left _ (List.mem_of_getElem? (i := 166) rfl)) rfl
theorem yx_45 : (Cond.instanceMethod xy_De_memberOf) ∈ wT := wT_t (List.mem_append_left _ (List.mem_of_getElem? (i := 168) rfl)) rfl
theorem yx_46 : (Cond.selects "LayerDesk" xy_De_memberOf xy_De_memberOf) ∈ wT := wT_s (q := (xy_De_memberOf, 6)) (by decide +kernel) rfl
theorem yx_47 : (Cond.fieldLink "LayerDesk" 148 "LayerDesk$Member" "reading" "LLayerDesk$Reach;") ∈ wT := wT_t (List.mem_append_right _ (List.mem_append_right _ (List.mem_append_left _ (List.mem_of_getElem? (i := 192) rfl)))) rfl
theorem yx_48 : (Cond.code xy_Re_marks xb_Re_marks 2 (some .boolean)) ∈ wT := wT_t (List.mem_append_left _ (List.mem_of_getElem? (i := 177) rfl)) rfl
theorem yx_49 : (Cond.methodLink "LayerDesk" 152 xy_Re_marks) ∈ wT := wT_t (List.mem_append_left _ (List.mem_of_getElem? (i := 174) rfl)) rfl
theorem yx_50 : (Cond.instanceMethod xy_Re_marks) ∈ wT := wT_t (List.mem_append_left _ (List.mem_of_getElem? (i := 175) rfl)) rfl
theorem yx_51 : (Cond.selects "LayerDesk$Reach" xy_Re_marks xy_Re_marks) ∈ wT := wT_t (List.mem_append_left _ (List.mem_of_getElem? (i := 176) rfl)) rfl
theorem yx_52 : (Cond.initialized "LayerDesk$Reach") ∈ wT := wT_t (List.mem_append_left _ (List.mem_of_getElem? (i := 21) rfl)) rfl
theorem yx_53 : (Cond.fieldLink "LayerDesk" 183 "LayerDesk$Descriptor" "name" "I") ∈ wT := wT_t (List.mem_append_right _ (List.mem_append_left _ (List.mem_of_getElem? (i := 59) rfl))) rfl
theorem yx_54 : (Cond.code xy_Ds_opensTo xb_Ds_opensTo 4 (some .boolean)) ∈ wT := wT_t (List.mem_append_right _ (List.mem_append_right _ (List.mem_append_right _ (List.mem_append_left _ (List.mem_of_getElem? (i := 64) rfl))))) rfl
theorem yx_55 : (Cond.methodLink "LayerDesk" 186 xy_Ds_opensTo) ∈ wT := wT_t (List.mem_append_right _ (List.mem_append_right _ (List.mem_append_right _ (List.mem_append_left _ (List.mem_of_getElem? (i := 61) rfl))))) rfl
theorem yx_56 : (Cond.instanceMethod xy_Ds_opensTo) ∈ wT := wT_t (List.mem_append_right _ (List.mem_append_right _ (List.mem_append_right _ (List.mem_append_left _ (List.mem_of_getElem? (i := 62) rfl))))) rfl
theorem yx_57 : (Cond.selects "LayerDesk$Descriptor" xy_Ds_opensTo xy_Ds_opensTo) ∈ wT := wT_t (List.mem_append_right _ (List.mem_append_right _ (List.mem_append_right _ (List.mem_append_left _ (List.mem_of_getElem? (i := 63) rfl))))) rfl
theorem yx_58 : (Cond.initialized "LayerDesk$Descriptor") ∈ wT := wT_t (List.mem_append_left _ (List.mem_of_getElem? (i := 10) rfl)) rfl
theorem yx_59 : (Cond.code xy_De_openLayer xb_De_openLayer 3 (some (.object "LayerDesk$Layer"))) ∈ wT := wT_t (List.mem_append_left _ (List.mem_of_getElem? (i := 137) rfl)) rfl
theorem yx_60 : (Cond.methodLink "LayerDesk" 68 xy_De_openLayer) ∈ wT := wT_t (List.mem_append_left _ (List.mem_of_getElem? (i := 134) rfl)) rfl
theorem yx_61 : (Cond.instanceMethod xy_De_openLayer) ∈ wT := wT_t (List.mem_append_left _ (List.mem_of_getElem? (i := 136) rfl)) rfl
theorem yx_62 : (Cond.selects "LayerDesk" xy_De_openLayer xy_De_openLayer) ∈ wT := wT_s (q := (xy_De_openLayer, 6)) (by decide +kernel) rfl
theorem yx_63 : (Cond.code xy_Ly_providerOf xb_Ly_providerOf 6 (some (.object "LayerDesk$Member"))) ∈ wT := wT_t (List.mem_append_right _ (List.mem_append_right _ (List.mem_append_right _ (List.mem_append_left _ (List.mem_of_getElem? (i := 76) rfl))))) rfl
theorem yx_64 : (Cond.methodLink "LayerDesk" 192 xy_Ly_providerOf) ∈ wT := wT_t (List.mem_append_right _ (List.mem_append_right _ (List.mem_append_right _ (List.mem_append_left _ (List.mem_of_getElem? (i := 73) rfl))))) rfl
theorem yx_65 : (Cond.instanceMethod xy_Ly_providerOf) ∈ wT := wT_t (List.mem_append_right _ (List.mem_append_right _ (List.mem_append_right _ (List.mem_append_left _ (List.mem_of_getElem? (i := 74) rfl))))) rfl
theorem yx_66 : (Cond.selects "LayerDesk$Layer" xy_Ly_providerOf xy_Ly_providerOf) ∈ wT := wT_t (List.mem_append_right _ (List.mem_append_right _ (List.mem_append_right _ (List.mem_append_left _ (List.mem_of_getElem? (i := 75) rfl))))) rfl
theorem yx_67 : (Cond.initialized "LayerDesk$Layer") ∈ wT := wT_t (List.mem_append_left _ (List.mem_of_getElem? (i := 19) rfl)) rfl
theorem yx_68 : (Cond.fieldLink "LayerDesk" 42 "LayerDesk" "latestFault" "I") ∈ wT := wT_t (List.mem_append_left _ (List.mem_of_getElem? (i := 104) rfl)) rfl
theorem yx_69 : (Cond.fieldLink "LayerDesk" 28 "LayerDesk" "chooser" "LLayerDesk$Chooser;") ∈ wT := wT_t (List.mem_append_left _ (List.mem_of_getElem? (i := 101) rfl)) rfl
theorem yx_70 : (Cond.fieldLink "LayerDesk" 38 "LayerDesk" "made" "I") ∈ wT := wT_t (List.mem_append_left _ (List.mem_of_getElem? (i := 103) rfl)) rfl
theorem yx_71 : (Cond.code xy_Ch_draft xb_Ch_draft 4 (some (.object "LayerDesk$Layer"))) ∈ wT := wT_t (List.mem_append_right _ (List.mem_append_right _ (List.mem_append_left _ (List.mem_of_getElem? (i := 130) rfl)))) rfl
theorem yx_72 : (Cond.methodLink "LayerDesk" 97 xy_Ch_draft) ∈ wT := wT_t (List.mem_append_right _ (List.mem_append_right _ (List.mem_append_left _ (List.mem_of_getElem? (i := 127) rfl)))) rfl
theorem yx_73 : (Cond.instanceMethod xy_Ch_draft) ∈ wT := wT_t (List.mem_append_right _ (List.mem_append_right _ (List.mem_append_left _ (List.mem_of_getElem? (i := 128) rfl)))) rfl
theorem yx_74 : (Cond.selects "LayerDesk$Chooser" xy_Ch_draft xy_Ch_draft) ∈ wT := wT_t (List.mem_append_right _ (List.mem_append_right _ (List.mem_append_left _ (List.mem_of_getElem? (i := 129) rfl)))) rfl
theorem yx_75 : (Cond.initialized "LayerDesk$Chooser") ∈ wT := wT_t (List.mem_append_left _ (List.mem_of_getElem? (i := 4) rfl)) rfl
theorem yx_76 : (Cond.code xy_De_faultOf xb_De_faultOf 2 (some .int)) ∈ wT := wT_t (List.mem_append_right _ (List.mem_append_right _ (List.mem_append_right _ (List.mem_append_left _ (List.mem_of_getElem? (i := 3) rfl))))) rfl
theorem yx_77 : (Cond.methodLink "LayerDesk" 100 xy_De_faultOf) ∈ wT := wT_t (List.mem_append_right _ (List.mem_append_right _ (List.mem_append_right _ (List.mem_append_left _ (List.mem_of_getElem? (i := 0) rfl))))) rfl
theorem yx_78 : (Cond.instanceMethod xy_De_faultOf) ∈ wT := wT_t (List.mem_append_right _ (List.mem_append_right _ (List.mem_append_right _ (List.mem_append_left _ (List.mem_of_getElem? (i := 2) rfl))))) rfl
theorem yx_79 : (Cond.selects "LayerDesk" xy_De_faultOf xy_De_faultOf) ∈ wT := wT_s (q := (xy_De_faultOf, 6)) (by decide +kernel) rfl
theorem yx_80 : (Cond.code xy_De_keep xb_De_keep 3 none) ∈ wT := wT_t (List.mem_append_right _ (List.mem_append_right _ (List.mem_append_right _ (List.mem_append_left _ (List.mem_of_getElem? (i := 31) rfl))))) rfl
theorem yx_81 : (Cond.methodLink "LayerDesk" 106 xy_De_keep) ∈ wT := wT_t (List.mem_append_right _ (List.mem_append_right _ (List.mem_append_right _ (List.mem_append_left _ (List.mem_of_getElem? (i := 28) rfl))))) rfl
theorem yx_82 : (Cond.instanceMethod xy_De_keep) ∈ wT := wT_t (List.mem_append_right _ (List.mem_append_right _ (List.mem_append_right _ (List.mem_append_left _ (List.mem_of_getElem? (i := 30) rfl))))) rfl
theorem yx_83 : (Cond.selects "LayerDesk" xy_De_keep xy_De_keep) ∈ wT := wT_s (q := (xy_De_keep, 6)) (by decide +kernel) rfl
theorem yx_84 : (Cond.fieldLink "LayerDesk" 110 "LayerDesk$Layer" "number" "I") ∈ wT := wT_t (List.mem_append_right _ (List.mem_append_right _ (List.mem_append_left _ (List.mem_of_getElem? (i := 141) rfl)))) rfl
theorem yx_85 : (Cond.code xy_Ch_begin xb_Ch_begin 3 none) ∈ wT := wT_t (List.mem_append_right _ (List.mem_append_right _ (List.mem_append_left _ (List.mem_of_getElem? (i := 68) rfl)))) rfl
theorem yx_86 : (Cond.methodLink "LayerDesk" 82 xy_Ch_begin) ∈ wT := wT_t (List.mem_append_right _ (List.mem_append_right _ (List.mem_append_left _ (List.mem_of_getElem? (i := 65) rfl)))) rfl
theorem yx_87 : (Cond.instanceMethod xy_Ch_begin) ∈ wT := wT_t (List.mem_append_right _ (List.mem_append_right _ (List.mem_append_left _ (List.mem_of_getElem? (i := 66) rfl)))) rfl
theorem yx_88 : (Cond.selects "LayerDesk$Chooser" xy_Ch_begin xy_Ch_begin) ∈ wT := wT_t (List.mem_append_right _ (List.mem_append_right _ (List.mem_append_left _ (List.mem_of_getElem? (i := 67) rfl)))) rfl
theorem yx_89 : (Cond.code xy_De_addRoots xb_De_addRoots 2 (some .boolean)) ∈ wT := wT_t (List.mem_append_right _ (List.mem_append_right _ (List.mem_append_left _ (List.mem_of_getElem? (i := 72) rfl)))) rfl
theorem yx_90 : (Cond.methodLink "LayerDesk" 86 xy_De_addRoots) ∈ wT := wT_t (List.mem_append_right _ (List.mem_append_right _ (List.mem_append_left _ (List.mem_of_getElem? (i := 69) rfl)))) rfl
theorem yx_91 : (Cond.instanceMethod xy_De_addRoots) ∈ wT := wT_t (List.mem_append_right _ (List.mem_append_right _ (List.mem_append_left _ (List.mem_of_getElem? (i := 71) rfl)))) rfl
theorem yx_92 : (Cond.selects "LayerDesk" xy_De_addRoots xy_De_addRoots) ∈ wT := wT_s (q := (xy_De_addRoots, 6)) (by decide +kernel) rfl
theorem yx_93 : (Cond.code xy_Ch_bind xb_Ch_bind 3 none) ∈ wT := wT_t (List.mem_append_right _ (List.mem_append_right _ (List.mem_append_left _ (List.mem_of_getElem? (i := 113) rfl)))) rfl
theorem yx_94 : (Cond.methodLink "LayerDesk" 94 xy_Ch_bind) ∈ wT := wT_t (List.mem_append_right _ (List.mem_append_right _ (List.mem_append_left _ (List.mem_of_getElem? (i := 110) rfl)))) rfl
theorem yx_95 : (Cond.instanceMethod xy_Ch_bind) ∈ wT := wT_t (List.mem_append_right _ (List.mem_append_right _ (List.mem_append_left _ (List.mem_of_getElem? (i := 111) rfl)))) rfl
theorem yx_96 : (Cond.selects "LayerDesk$Chooser" xy_Ch_bind xy_Ch_bind) ∈ wT := wT_t (List.mem_append_right _ (List.mem_append_right _ (List.mem_append_left _ (List.mem_of_getElem? (i := 112) rfl)))) rfl
theorem yx_97 : (Cond.code xy_De_rootsAreNames xb_De_rootsAreNames 2 (some .boolean)) ∈ wT := wT_t (List.mem_append_right _ (List.mem_append_right _ (List.mem_append_left _ (List.mem_of_getElem? (i := 59) rfl)))) rfl
theorem yx_98 : (Cond.methodLink "LayerDesk" 72 xy_De_rootsAreNames) ∈ wT := wT_t (List.mem_append_right _ (List.mem_append_right _ (List.mem_append_left _ (List.mem_of_getElem? (i := 56) rfl)))) rfl
theorem yx_99 : (Cond.instanceMethod xy_De_rootsAreNames) ∈ wT := wT_t (List.mem_append_right _ (List.mem_append_right _ (List.mem_append_left _ (List.mem_of_getElem? (i := 58) rfl)))) rfl
theorem yx_100 : (Cond.selects "LayerDesk" xy_De_rootsAreNames xy_De_rootsAreNames) ∈ wT := wT_s (q := (xy_De_rootsAreNames, 6)) (by decide +kernel) rfl
theorem yx_101 : (Cond.code xy_Sh_isFinder xb_Sh_isFinder 1 (some .boolean)) ∈ wT := wT_t (List.mem_append_right _ (List.mem_append_right _ (List.mem_append_left _ (List.mem_of_getElem? (i := 63) rfl)))) rfl
theorem yx_102 : (Cond.methodLink "LayerDesk" 76 xy_Sh_isFinder) ∈ wT := wT_t (List.mem_append_right _ (List.mem_append_right _ (List.mem_append_left _ (List.mem_of_getElem? (i := 61) rfl)))) rfl
theorem yx_103 : (Cond.static xy_Sh_isFinder) ∈ wT := wT_t (List.mem_append_right _ (List.mem_append_right _ (List.mem_append_left _ (List.mem_of_getElem? (i := 62) rfl)))) rfl
set_option maxHeartbeats 4000000 in
set_option maxRecDepth 100000 in
theorem xc_De_line (l : Launch) (hlt : l.stackTraces = false) (D : va_G) (kA : Nat → ClassId) (sz : Nat) (ad : Nat → Nat → Nat) (E : Nat → Nat → va_E) (RL : List (Nat × Nat)) (Z : zT) (ml : Nat) (nd : Nat) (len : Nat) (wn : Nat) (cs : Nat) (hCI : CI kA ad E RL ml nd len wn cs) : vx_Met l xy_De_line (.code xy_De_line xb_De_line 2 (some .int) :: wT) { frames := 7, cells := 14, slots := 72, locals := 155 } (va_Pc [.ref (ad 0 0)] (xPreZ D kA sz (rp ad E RL) Z)) (va_Qi (fun (r : Int32) (u : (Nat → Nat → Nat) × (Nat → Nat → va_E) × List (Nat × Nat)) => (∃ nd2 wn2, CI kA u.1 u.2.1 u.2.2 ml nd2 0 wn2 cs) ∧ u.1 0 0 = ad 0 0) (fun (u : (Nat → Nat → Nat) × (Nat → Nat → va_E) × List (Nat × Nat)) t => va_P D xcl (rp u.1 u.2.1 u.2.2) t.heap ∧ va_D (va_A (rp ad E RL) sz) (rp u.1 u.2.1 u.2.2)) (va_A (rp ad E RL) sz)) (vx_X (fun (u : (Nat → Nat → Nat) × (Nat → Nat → va_E) × List (Nat × Nat)) => (∃ nd2 wn2, CI kA u.1 u.2.1 u.2.2 ml nd2 0 wn2 cs) ∧ u.1 0 0 = ad 0 0) (fun E9 u t => (E9 = "java/lang/IllegalArgumentException" ∨ E9 = "java/lang/IllegalStateException") ∧ va_P D xcl (rp u.1 u.2.1 u.2.2) t.heap ∧ va_D (va_A (rp ad E RL) sz) (rp u.1 u.2.1 u.2.2)) (va_A (rp ad E RL) sz)) 14 72 (va_A (rp ad E RL) sz) := by
  refine vx_ofW (cc := xb_De_line) (maxL := 2) (ret := (some .int)) (by decide) rfl ?_
  intro p e s m args below meth c s₁ B hml htab hv
  obtain ⟨rfl, ⟨hsz, hP, hK, hD0⟩, hZ⟩ := hv
  have hx := B.exec
  have hb := B.bytes
  have hr := B.returns
  have hT := x_hT B.pre
  have hown : s.vm.findClass xR_De = some m.cls := findClass_of_methodNamed B.named
  have hlocks := B.notSynchronized
  subst hsz
  have hD := hD0.self (sz := s.heap.size)
  generalize hAe : va_A (rp ad E RL) s.heap.size = A at hD hZ ⊢
  have hA : ∀ q : Nat, s.heap.size ≤ q → A q := fun q h => by rw [← hAe]; exact Or.inr h
  have hS : va_S A s.heap s.heap [] := va_S.rf
  have hl := lv_entry ([.ref (ad 0 0)]) (n := 2) (Nat.le_of_ble_eq_true rfl)
  rw [lg_entry_eq]
  generalize (lg_sl ([.ref (ad 0 0)]) ++ List.replicate (2 - (lg_sl ([.ref (ad 0 0)])).length) Slot.unset).toArray = ls at hl ⊢
  have hl : lv_has ls 2 [(0, .ref (ad 0 0))] := hl
  have hP : va_P D xcl (rp ad E RL) s.heap := hP
  obtain ⟨hmB, hDk, hLi, hSh, hCh, hLa, hDIs, hLIs⟩ := id hCI
  obtain ⟨lf_1, q_1⟩ := id (hDk)
  have c_2 : E 0 0 = .inr (0, [.ref (ad 0 1), .ref (ad 0 5), .ref (ad 0 7), .ref (ad 0 9), .int (nI ml), .int lf_1]) := q_1
  have m_3 : (0, 0) ∈ RL := hmB 0 (by omega)
  obtain ⟨tx_4, fb_4, fe_4, hl1_4, hw2_4, q1_4, q2_4, q3_4, q4_4, hws_4⟩ := id (hLi)
  have c_5 : E 0 1 = .inr (1, [.ref (ad 0 2), .ref (ad 0 3), .ref (ad 0 4), .int (nI len), .int (nI wn)]) := q1_4
  have m_6 : (0, 1) ∈ RL := hmB 1 (by omega)
  have c_7 : E 0 2 = .inl (kA 1, 40, .inl tx_4) := q2_4
  have m_8 : (0, 2) ∈ RL := hmB 2 (by omega)
  have c_9 : E 0 3 = .inl (kA 0, 20, .inl fb_4) := q3_4
  have m_10 : (0, 3) ∈ RL := hmB 3 (by omega)
  have c_11 : E 0 4 = .inl (kA 0, 20, .inl fe_4) := q4_4
  have m_12 : (0, 4) ∈ RL := hmB 4 (by omega)
  obtain ⟨fd_13, hnd_13, q5_13, q6_13, hds_13⟩ := id (hSh)
  have c_14 : E 0 5 = .inr (2, [.ref (ad 0 6), .int (nI nd)]) := q5_13
  have m_15 : (0, 5) ∈ RL := hmB 5 (by omega)
  have c_16 : E 0 6 = .inl (kA 4, 12, .inr (.inr (.inr (.inr fd_13)))) := q6_13
  have m_17 : (0, 6) ∈ RL := hmB 6 (by omega)
  obtain ⟨cf_18, pv_18, fc_18, hcs_18, hpv_18, q7_18, q8_18, hfc_18⟩ := id (hCh)
  have c_19 : E 0 7 = .inr (3, [.ref (ad 0 5), .ref (ad 0 8), .int (nI cs), .int cf_18, pv_18]) := q7_18
  have m_20 : (0, 7) ∈ RL := hmB 7 (by omega)
  have c_21 : E 0 8 = .inl (kA 4, 12, .inr (.inr (.inr (.inr fc_18)))) := q8_18
  have m_22 : (0, 8) ∈ RL := hmB 8 (by omega)
  obtain ⟨fl_23, hml_23, q9_23, hla_23⟩ := id (hLa)
  have c_24 : E 0 9 = .inl (kA 5, 5, .inr (.inr (.inr (.inr fl_23)))) := q9_23
  have m_25 : (0, 9) ∈ RL := hmB 9 (by omega)
  refine lv_aload_n hx hb xd_De_line_0 rfl (lv_at hl 0 rfl) ?_
  refine px_get (D := D) (ci := 0) (v := .ref (ad 0 1)) (C := xR_De) (T := xT_De) (N := 6) hx hb hT xi_De hown hK.1 hP m_3 c_2 rfl 0 (by decide) (hT _ yx_0) (fun _ h9 => h9) rfl xd_De_line_1 ?_
  have hFc := px_free hD hS hA
  refine va_callv (va_runV (As := []) (rest := []) ⟨hx, hb, hml, hown, hT⟩ (xc_Li_take l D kA s.heap.size ad E RL len wn tx_4 fb_4 fe_4 m_6 c_5 m_8 c_7 m_10 c_9 m_12 c_11 (by first | assumption | omega)) (cwV 0 hT (wT_V yx_2 yx_3 yx_4 yx_5 yx_1) rfl rfl rfl (by decide +kernel) ⟨Nat.le_of_ble_eq_true rfl, Nat.le_of_ble_eq_true rfl⟩) (px_preV hK hP hD m_6 c_5 rfl) rfl rfl hl.1 rfl (lv_room (Nat.le_of_ble_eq_true rfl)) xd_De_line_4 ⟨(Nat.le_of_ble_eq_true rfl), (Nat.le_of_ble_eq_true rfl)⟩) hS (fun q _ h => hFc q h) hFc (fun u27 t H1 locs ht hvm hp28 hB hz1 hk1 hS => ?_)
  obtain ⟨hP1, hD1⟩ := hB
  rw [ht] at hP1
  have hD1 := hD1.weaken (fun _ _ _ h => hFc _ h)
  generalize H1 = H at hP1 hS ⊢
  have hP := hP1
  have hD := hD1
  obtain ⟨E29, rfl⟩ : ∃ z, z = u27 := ⟨_, rfl⟩
  obtain ⟨w30, w31, w32, hp37, p_33, p_34, p_35, p_36⟩ := hp28
  have p_33 : E29 0 1 = .inr (1, [.ref (ad 0 2), .ref (ad 0 3), .ref (ad 0 4), .int 0, .int (nI w30)]) := p_33
  have p_34 : E29 0 3 = .inl (kA 0, 20, .inl w31) := p_34
  have p_35 : E29 0 4 = .inl (kA 0, 20, .inl w32) := p_35
  have p_36 : (∀ b2 o2, ¬ (b2 = 0 ∧ o2 = 1) → ¬ (b2 = 0 ∧ o2 = 3) → ¬ (b2 = 0 ∧ o2 = 4) → E29 b2 o2 = E b2 o2) := p_36
  have c_38 : E29 0 0 = .inr (0, [.ref (ad 0 1), .ref (ad 0 5), .ref (ad 0 7), .ref (ad 0 9), .int (nI ml), .int lf_1]) := (p_36 0 0 (by omega) (by omega) (by omega)).trans c_2
  have c_39 : E29 0 2 = .inl (kA 1, 40, .inl tx_4) := (p_36 0 2 (by omega) (by omega) (by omega)).trans c_7
  have c_40 : E29 0 5 = .inr (2, [.ref (ad 0 6), .int (nI nd)]) := (p_36 0 5 (by omega) (by omega) (by omega)).trans c_14
  have c_41 : E29 0 6 = .inl (kA 4, 12, .inr (.inr (.inr (.inr fd_13)))) := (p_36 0 6 (by omega) (by omega) (by omega)).trans c_16
  have c_42 : E29 0 7 = .inr (3, [.ref (ad 0 5), .ref (ad 0 8), .int (nI cs), .int cf_18, pv_18]) := (p_36 0 7 (by omega) (by omega) (by omega)).trans c_19
  have c_43 : E29 0 8 = .inl (kA 4, 12, .inr (.inr (.inr (.inr fc_18)))) := (p_36 0 8 (by omega) (by omega) (by omega)).trans c_21
  have c_44 : E29 0 9 = .inl (kA 5, 5, .inr (.inr (.inr (.inr fl_23)))) := (p_36 0 9 (by omega) (by omega) (by omega)).trans c_24
  have hP : va_P D xcl (rp ad E29 RL) H := hP
  have hD : va_D A (rp ad E29 RL) := hD
  obtain ⟨hw20, hWP⟩ := hp37
  have hCI : CI kA ad E29 RL ml nd 0 w30 cs := ⟨hmB, ⟨lf_1, c_38⟩, ⟨tx_4, w31, w32, (by omega), (by omega), p_33, c_39, p_34, p_35, hWP⟩, ⟨fd_13, (by omega), c_40, c_41, hds_13⟩, ⟨cf_18, pv_18, fc_18, (by omega), hpv_18, c_42, c_43, hfc_18⟩, ⟨fl_23, (by omega), c_44, hla_23⟩, (DIs_same (fun d9 hd9 => fun2 fun o9 => by show E29 (1 + d9) o9 = _; rw [p_36 (1 + d9) o9 (by omega) (by omega) (by omega)]) (fun _ _ => rfl) (fun _ h9 => h9) hDIs), (LIs_same (Nat.le_refl _) (fun n9 hn9 => fun2 fun o9 => by show E29 (20 + n9) o9 = _; rw [p_36 (20 + n9) o9 (by omega) (by omega) (by omega)]) (fun _ _ => rfl) (fun _ _ => rfl) (fun _ h9 => h9) hLIs)⟩
  obtain ⟨hmB, hDk, hLi, hSh, hCh, hLa, hDIs, hLIs⟩ := id hCI
  obtain ⟨lf_45, q_45⟩ := id (hDk)
  have c_46 : E29 0 0 = .inr (0, [.ref (ad 0 1), .ref (ad 0 5), .ref (ad 0 7), .ref (ad 0 9), .int (nI ml), .int lf_45]) := q_45
  have m_47 : (0, 0) ∈ RL := hmB 0 (by omega)
  obtain ⟨tx_48, fb_48, fe_48, hl1_48, hw2_48, q1_48, q2_48, q3_48, q4_48, hws_48⟩ := id (hLi)
  have c_49 : E29 0 1 = .inr (1, [.ref (ad 0 2), .ref (ad 0 3), .ref (ad 0 4), .int (nI 0), .int (nI w30)]) := q1_48
  have m_50 : (0, 1) ∈ RL := hmB 1 (by omega)
  have c_51 : E29 0 2 = .inl (kA 1, 40, .inl tx_48) := q2_48
  have m_52 : (0, 2) ∈ RL := hmB 2 (by omega)
  have c_53 : E29 0 3 = .inl (kA 0, 20, .inl fb_48) := q3_48
  have m_54 : (0, 3) ∈ RL := hmB 3 (by omega)
  have c_55 : E29 0 4 = .inl (kA 0, 20, .inl fe_48) := q4_48
  have m_56 : (0, 4) ∈ RL := hmB 4 (by omega)
  obtain ⟨fd_57, hnd_57, q5_57, q6_57, hds_57⟩ := id (hSh)
  have c_58 : E29 0 5 = .inr (2, [.ref (ad 0 6), .int (nI nd)]) := q5_57
  have m_59 : (0, 5) ∈ RL := hmB 5 (by omega)
  have c_60 : E29 0 6 = .inl (kA 4, 12, .inr (.inr (.inr (.inr fd_57)))) := q6_57
  have m_61 : (0, 6) ∈ RL := hmB 6 (by omega)
  refine lv_aload_n hx hb xd_De_line_7 rfl (lv_at hl 0 rfl) ?_
  refine px_get (D := D) (ci := 0) (v := .ref (ad 0 5)) (C := xR_De) (T := xT_De) (N := 6) hx hb hT xi_De hown hK.1 hP m_47 c_46 rfl 1 (by decide) (hT _ yx_6) (fun _ h9 => h9) rfl xd_De_line_8 ?_
  refine lv_aload_n hx hb xd_De_line_11 rfl (lv_at hl 0 rfl) ?_
  refine px_get (D := D) (ci := 0) (v := .ref (ad 0 1)) (C := xR_De) (T := xT_De) (N := 6) hx hb hT xi_De hown hK.1 hP m_47 c_46 rfl 0 (by decide) (hT _ yx_0) (fun _ h9 => h9) rfl xd_De_line_12 ?_
  have hFc := px_free hD hS hA
  refine va_calli (va_runV (As := [.ref (ad 0 1)]) (rest := []) ⟨hx, hb, hml, hown, hT⟩ (xc_Sh_accept l D kA H.size ad E29 RL Z ml nd 0 w30 cs (by first | assumption | omega)) (cwV 1 hT (wT_V yx_8 yx_9 yx_10 yx_11 yx_7) rfl rfl rfl (by decide +kernel) ⟨Nat.le_of_ble_eq_true rfl, Nat.le_of_ble_eq_true rfl⟩) (px_preVZ hK hP hD m_59 c_58 rfl hFc (hZ.kept hS)) rfl rfl hl.1 rfl (lv_room (Nat.le_of_ble_eq_true rfl)) xd_De_line_15 ⟨(Nat.le_of_ble_eq_true rfl), (Nat.le_of_ble_eq_true rfl)⟩) hS (fun q _ h => hFc q h) hFc (fun r62 u63 t H1 locs ht hvm hp64 hB hz1 hk1 hS => ?_)
  obtain ⟨hP1, hD1⟩ := hB
  rw [ht] at hP1
  have hD1 := hD1.weaken (fun _ _ _ h => hFc _ h)
  generalize H1 = H at hP1 hS ⊢
  have hP := hP1
  have hD := hD1
  obtain ⟨ad65, E66, RL67⟩ := u63
  have hl := lv_sub hl [] rfl
  have hl : lv_has ls 2 [] := hl
  have hP : va_P D xcl (rp ad65 E66 RL67) H := hP
  have hD : va_D A (rp ad65 E66 RL67) := hD
  obtain ⟨⟨nd68, hCI⟩, hA00⟩ := hp64
  refine lv_istore_n hx hb xd_De_line_18 rfl hl (Nat.le_of_ble_eq_true rfl) rfl (fun ls hl => ?_)
  have hl : lv_has ls 2 [(1, .int r62)] := hl
  refine lv_iload_n hx hb xd_De_line_19 rfl (lv_at hl 0 rfl) ?_
  refine lv_iconst (v := (-1)) hx hb xd_De_line_20 (by decide) ?_
  refine lv_icmp_ne (tgt := 34) hx hb xd_De_line_21 (by decide) (fun hc69 => ?_) (fun hc69 => ?_)
  · refine lv_iload_n hx hb xd_De_line_34 rfl (lv_at hl 0 rfl) ?_
    refine lv_bipush (v := (-2)) hx hb xd_De_line_35 (by decide) ?_
    refine lv_icmp_ne (tgt := 50) hx hb xd_De_line_37 (by decide) (fun hc70 => ?_) (fun hc70 => ?_)
    · refine lv_iload_n hx hb xd_De_line_50 rfl (lv_at hl 0 rfl) ?_
      refine W.widen (k := 14) (n := 72) (Nat.le_of_ble_eq_true rfl) (Nat.le_of_ble_eq_true rfl) ?_
      refine vx_ret ?_
      exact W.iret (v := r62) hx hb hr (fun t ht hW => ⟨⟨r62, (ad65, E66, RL67), rfl, ⟨⟨nd68, w30, hCI⟩, hA00⟩, by rw [ht]; exact hP, hD⟩, hS.F ht⟩) hS.2.2 xd_De_line_51
    · exact y_throwB (ik := 63) (is := 65) (wf := fun (u : (Nat → Nat → Nat) × (Nat → Nat → va_E) × List (Nat × Nat)) => rp u.1 u.2.1 u.2.2) (ad65, E66, RL67) (⟨⟨nd68, w30, hCI⟩, hA00⟩) (Or.inr rfl) hx hb hlt hown hT hK yx_12 yx_13 hZ.2.2.2.1.2.2.2.2.2.2.2.2.2.2.2.2.2.1 hZ.1 hS hP hD (hl.1.trans hml.symm) xd_De_line_40 xd_De_line_43 xd_De_line_44 xd_De_line_46 xd_De_line_49 htab (Nat.le_of_ble_eq_true rfl) (Nat.le_of_ble_eq_true rfl) (Nat.le_of_ble_eq_true rfl) (Nat.le_of_ble_eq_true rfl) hlocks (Nat.le_of_ble_eq_true rfl) (Nat.le_of_ble_eq_true rfl)
  · exact y_throwA (ik := 56) (is := 58) (wf := fun (u : (Nat → Nat → Nat) × (Nat → Nat → va_E) × List (Nat × Nat)) => rp u.1 u.2.1 u.2.2) (ad65, E66, RL67) (⟨⟨nd68, w30, hCI⟩, hA00⟩) (Or.inl rfl) hx hb hlt hown hT hK yx_14 yx_15 hZ.2.2.2.1.2.2.2.2.2.2.2.2.2.2.2.2.1 hZ.1 hS hP hD (hl.1.trans hml.symm) xd_De_line_24 xd_De_line_27 xd_De_line_28 xd_De_line_30 xd_De_line_33 htab (Nat.le_of_ble_eq_true rfl) (Nat.le_of_ble_eq_true rfl) (Nat.le_of_ble_eq_true rfl) (Nat.le_of_ble_eq_true rfl) hlocks (Nat.le_of_ble_eq_true rfl) (Nat.le_of_ble_eq_true rfl)
set_option maxHeartbeats 4000000 in
set_option maxRecDepth 100000 in
theorem xc_De_load (l : Launch) (hlt : l.stackTraces = false) (D : va_G) (kA : Nat → ClassId) (sz : Nat) (ad : Nat → Nat → Nat) (E : Nat → Nat → va_E) (RL : List (Nat × Nat)) (Z : zT) (ml : Nat) (nd : Nat) (len : Nat) (wn : Nat) (cs : Nat) (ix : Int32) (kx : Int32) (hCI : CI kA ad E RL ml nd len wn cs) : vx_Met l xy_De_load (.code xy_De_load xb_De_load 6 (some .int) :: wT) { frames := 6, cells := 1, slots := 6, locals := 90 } (va_Pc [.ref (ad 0 0), .int ix, .int kx] (xPreZ D kA sz (rp ad E RL) Z)) (va_Qi (fun (r : Int32) (u : Nat → Nat → va_E) => ∃ wn2, CI kA ad u RL ml nd 0 wn2 cs) (fun (u : Nat → Nat → va_E) t => va_P D xcl (rp ad u RL) t.heap ∧ va_D (va_A (rp ad E RL) sz) (rp ad u RL)) (va_A (rp ad E RL) sz)) (vx_X (fun (u : Nat → Nat → va_E) => ∃ wn2, CI kA ad u RL ml nd 0 wn2 cs) (fun E9 u t => (E9 = "java/lang/IllegalArgumentException" ∨ E9 = "java/util/NoSuchElementException") ∧ va_P D xcl (rp ad u RL) t.heap ∧ va_D (va_A (rp ad E RL) sz) (rp ad u RL)) (va_A (rp ad E RL) sz)) 1 6 (va_A (rp ad E RL) sz) := by
  refine vx_ofW (cc := xb_De_load) (maxL := 6) (ret := (some .int)) (by decide) rfl ?_
  intro p e s m args below meth c s₁ B hml htab hv
  obtain ⟨rfl, ⟨hsz, hP, hK, hD0⟩, hZ⟩ := hv
  have hx := B.exec
  have hb := B.bytes
  have hr := B.returns
  have hT := x_hT B.pre
  have hown : s.vm.findClass xR_De = some m.cls := findClass_of_methodNamed B.named
  have hlocks := B.notSynchronized
  subst hsz
  have hD := hD0.self (sz := s.heap.size)
  generalize hAe : va_A (rp ad E RL) s.heap.size = A at hD hZ ⊢
  have hA : ∀ q : Nat, s.heap.size ≤ q → A q := fun q h => by rw [← hAe]; exact Or.inr h
  have hS : va_S A s.heap s.heap [] := va_S.rf
  have hl := lv_entry ([.ref (ad 0 0), .int ix, .int kx]) (n := 6) (Nat.le_of_ble_eq_true rfl)
  rw [lg_entry_eq]
  generalize (lg_sl ([.ref (ad 0 0), .int ix, .int kx]) ++ List.replicate (6 - (lg_sl ([.ref (ad 0 0), .int ix, .int kx])).length) Slot.unset).toArray = ls at hl ⊢
  have hl : lv_has ls 6 [(0, .ref (ad 0 0)), (1, .int ix), (2, .int kx)] := hl
  have hP : va_P D xcl (rp ad E RL) s.heap := hP
  obtain ⟨hmB, hDk, hLi, hSh, hCh, hLa, hDIs, hLIs⟩ := id hCI
  obtain ⟨lf_1, q_1⟩ := id (hDk)
  have c_2 : E 0 0 = .inr (0, [.ref (ad 0 1), .ref (ad 0 5), .ref (ad 0 7), .ref (ad 0 9), .int (nI ml), .int lf_1]) := q_1
  have m_3 : (0, 0) ∈ RL := hmB 0 (by omega)
  refine lv_aload_n hx hb xd_De_load_0 rfl (lv_at hl 0 rfl) ?_
  refine px_get (D := D) (ci := 0) (v := .ref (ad 0 1)) (C := xR_De) (T := xT_De) (N := 6) hx hb hT xi_De hown hK.1 hP m_3 c_2 rfl 0 (by decide) (hT _ yx_0) (fun _ h9 => h9) rfl xd_De_load_1 ?_
  have hFc := px_free hD hS hA
  obtain ⟨tx_4, fb_4, fe_4, hl1_4, hw2_4, q1_4, q2_4, q3_4, q4_4, hws_4⟩ := id (hLi)
  have c_5 : E 0 1 = .inr (1, [.ref (ad 0 2), .ref (ad 0 3), .ref (ad 0 4), .int (nI len), .int (nI wn)]) := q1_4
  have m_6 : (0, 1) ∈ RL := hmB 1 (by omega)
  have c_7 : E 0 2 = .inl (kA 1, 40, .inl tx_4) := q2_4
  have m_8 : (0, 2) ∈ RL := hmB 2 (by omega)
  have c_9 : E 0 3 = .inl (kA 0, 20, .inl fb_4) := q3_4
  have m_10 : (0, 3) ∈ RL := hmB 3 (by omega)
  have c_11 : E 0 4 = .inl (kA 0, 20, .inl fe_4) := q4_4
  have m_12 : (0, 4) ∈ RL := hmB 4 (by omega)
  refine va_calli (va_runV (As := []) (rest := []) ⟨hx, hb, hml, hown, hT⟩ (xc_Li_takeName l D kA s.heap.size ad E RL ml nd len wn cs (by first | assumption | omega)) (cwV 0 hT (wT_V yx_17 yx_18 yx_19 yx_5 yx_16) rfl rfl rfl (by decide +kernel) ⟨Nat.le_of_ble_eq_true rfl, Nat.le_of_ble_eq_true rfl⟩) (px_preV hK hP hD m_6 c_5 rfl) rfl rfl hl.1 rfl (lv_room (Nat.le_of_ble_eq_true rfl)) xd_De_load_4 ⟨(Nat.le_of_ble_eq_true rfl), (Nat.le_of_ble_eq_true rfl)⟩) hS (fun q _ h => hFc q h) hFc (fun r13 u14 t H1 locs ht hvm hp15 hB hz1 hk1 hS => ?_)
  obtain ⟨hP1, hD1⟩ := hB
  rw [ht] at hP1
  have hD1 := hD1.weaken (fun _ _ _ h => hFc _ h)
  generalize H1 = H at hP1 hS ⊢
  have hP := hP1
  have hD := hD1
  obtain ⟨E16, rfl⟩ : ∃ z, z = u14 := ⟨_, rfl⟩
  have hP : va_P D xcl (rp ad E16 RL) H := hP
  have hD : va_D A (rp ad E16 RL) := hD
  obtain ⟨wn217, hCI⟩ := hp15
  have hCI : CI kA ad E16 RL ml nd 0 wn217 cs := hCI
  obtain ⟨hmB, hDk, hLi, hSh, hCh, hLa, hDIs, hLIs⟩ := id hCI
  obtain ⟨lf_18, q_18⟩ := id (hDk)
  have c_19 : E16 0 0 = .inr (0, [.ref (ad 0 1), .ref (ad 0 5), .ref (ad 0 7), .ref (ad 0 9), .int (nI ml), .int lf_18]) := q_18
  have m_20 : (0, 0) ∈ RL := hmB 0 (by omega)
  obtain ⟨fd_21, hnd_21, q5_21, q6_21, hds_21⟩ := id (hSh)
  have c_22 : E16 0 5 = .inr (2, [.ref (ad 0 6), .int (nI nd)]) := q5_21
  have m_23 : (0, 5) ∈ RL := hmB 5 (by omega)
  have c_24 : E16 0 6 = .inl (kA 4, 12, .inr (.inr (.inr (.inr fd_21)))) := q6_21
  have m_25 : (0, 6) ∈ RL := hmB 6 (by omega)
  obtain ⟨fl_26, hml_26, q9_26, hla_26⟩ := id (hLa)
  have c_27 : E16 0 9 = .inl (kA 5, 5, .inr (.inr (.inr (.inr fl_26)))) := q9_26
  have m_28 : (0, 9) ∈ RL := hmB 9 (by omega)
  refine lv_istore_n hx hb xd_De_load_7 rfl hl (Nat.le_of_ble_eq_true rfl) rfl (fun ls hl => ?_)
  have hl : lv_has ls 6 [(3, .int r13), (0, .ref (ad 0 0)), (1, .int ix), (2, .int kx)] := hl
  refine lv_aload_n hx hb xd_De_load_8 rfl (lv_at hl 1 rfl) ?_
  refine lv_iload_n hx hb xd_De_load_9 rfl (lv_at hl 2 rfl) ?_
  refine lv_iload_n hx hb xd_De_load_10 rfl (lv_at hl 3 rfl) ?_
  have hFc := px_free hD hS hA
  refine va_callq (va_runV (As := [.int ix, .int kx]) (rest := []) ⟨hx, hb, hml, hown, hT⟩ (xc_De_memberAt l D kA H.size ad E16 RL ml nd 0 wn217 cs ix kx (by first | assumption | omega)) (cwV 2 hT (wT_V yx_21 yx_22 yx_23 yx_24 yx_20) rfl rfl rfl (by decide +kernel) ⟨Nat.le_of_ble_eq_true rfl, Nat.le_of_ble_eq_true rfl⟩) (px_preV hK hP hD m_20 c_19 rfl) rfl rfl hl.1 rfl (lv_room (Nat.le_of_ble_eq_true rfl)) xd_De_load_11 ⟨(Nat.le_of_ble_eq_true rfl), (Nat.le_of_ble_eq_true rfl)⟩) hS (fun q _ h => hFc q h) hFc (fun r29 u30 t H1 locs ht hvm hp31 hB hz1 hk1 hS => ?_)
  obtain ⟨hP1, hD1⟩ := hB
  rw [ht] at hP1
  have hD1 := hD1.weaken (fun _ _ _ h => hFc _ h)
  generalize H1 = H at hP1 hS ⊢
  have hP := hP1
  have hD := hD1
  have hP : va_P D xcl (rp ad E16 RL) H := hP
  have hD : va_D A (rp ad E16 RL) := hD
  rcases hp31 with rfl | ⟨z32, z33, z34, rfl, z35⟩
  · refine W.eq (g2 := F0 m 14 ls [.null]) rfl ?_
    refine lv_astoreN hx hb xd_De_load_14 hl (Nat.le_of_ble_eq_true rfl) rfl (fun ls hl => ?_)
    have hl : lv_has ls 6 [(4, .null), (3, .int r13), (0, .ref (ad 0 0)), (1, .int ix), (2, .int kx)] := hl
    refine lv_aloadN hx hb xd_De_load_16 (lv_at hl 0 rfl) ?_
    refine lv_ifnullN (tgt := 25) hx hb xd_De_load_18 (by decide) ?_
    exact y_throwA (ik := 56) (is := 161) (wf := fun (u : Nat → Nat → va_E) => rp ad u RL) E16 (⟨wn217, hCI⟩) (Or.inl rfl) hx hb hlt hown hT hK yx_14 yx_15 hZ.2.2.2.1.2.2.2.2.2.2.2.2.2.2.2.2.2.2.2.2.2.1 hZ.1 hS hP hD (hl.1.trans hml.symm) xd_De_load_25 xd_De_load_28 xd_De_load_29 xd_De_load_31 xd_De_load_34 htab (Nat.le_of_ble_eq_true rfl) (Nat.le_of_ble_eq_true rfl) (Nat.le_of_ble_eq_true rfl) (Nat.le_of_ble_eq_true rfl) hlocks (Nat.le_of_ble_eq_true rfl) (Nat.le_of_ble_eq_true rfl)
  · refine W.eq (g2 := F0 m 14 ls [.ref (ad (20 + z32) (10 + 10 * z33))]) rfl ?_
    refine lv_astore hx hb xd_De_load_14 hl (Nat.le_of_ble_eq_true rfl) rfl (fun ls hl => ?_)
    have hl : lv_has ls 6 [(4, .ref (ad (20 + z32) (10 + 10 * z33))), (3, .int r13), (0, .ref (ad 0 0)), (1, .int ix), (2, .int kx)] := hl
    refine lv_aload hx hb xd_De_load_16 (lv_at hl 0 rfl) ?_
    refine lv_ifnull hx hb xd_De_load_18 ?_
    refine lv_iload_n hx hb xd_De_load_21 rfl (lv_at hl 1 rfl) ?_
    refine lv_if_ne (tgt := 35) hx hb xd_De_load_22 (by decide) (fun hc36 => ?_) (fun hc36 => ?_)
    · refine lv_aload hx hb xd_De_load_35 (lv_at hl 0 rfl) ?_
      obtain ⟨hm_37, d_37, rs_37, fr_37, g2_37, g3_37, g4_37, hd_37, hrs_37, q0_37, q1_37, q2_37, q3_37, q4_37, q5_37, q6_37, q7_37⟩ := id z35
      have c_38 : E16 (20 + z32) (10 + 10 * z33) = .inr (6, [.ref (ad (20 + z32) 0), .ref (ad (1 + d_37) 0), .ref (ad (20 + z32) (11 + 10 * z33)), .ref (ad (20 + z32) (12 + 10 * z33)), .ref (ad (20 + z32) (13 + 10 * z33)), .ref (ad (20 + z32) (14 + 10 * z33))]) := q0_37
      have m_39 : (20 + z32, 10 + 10 * z33) ∈ RL := hm_37 0 (by omega)
      have c_40 : E16 (20 + z32) (11 + 10 * z33) = .inl (kA 6, rs_37, .inr (.inr (.inr (.inr fr_37)))) := q1_37
      have m_41 : (20 + z32, 11 + 10 * z33) ∈ RL := hm_37 1 (by omega)
      have c_42 : E16 (20 + z32) (12 + 10 * z33) = .inr (10, [.ref (ad (20 + z32) (15 + 10 * z33))]) := q2_37
      have m_43 : (20 + z32, 12 + 10 * z33) ∈ RL := hm_37 2 (by omega)
      have c_44 : E16 (20 + z32) (13 + 10 * z33) = .inr (10, [.ref (ad (20 + z32) (16 + 10 * z33))]) := q3_37
      have m_45 : (20 + z32, 13 + 10 * z33) ∈ RL := hm_37 3 (by omega)
      have c_46 : E16 (20 + z32) (14 + 10 * z33) = .inr (10, [.ref (ad (20 + z32) (17 + 10 * z33))]) := q4_37
      have m_47 : (20 + z32, 14 + 10 * z33) ∈ RL := hm_37 4 (by omega)
      have c_48 : E16 (20 + z32) (15 + 10 * z33) = .inl (kA 0, 6, .inl g2_37) := q5_37
      have m_49 : (20 + z32, 15 + 10 * z33) ∈ RL := hm_37 5 (by omega)
      have c_50 : E16 (20 + z32) (16 + 10 * z33) = .inl (kA 0, 6, .inl g3_37) := q6_37
      have m_51 : (20 + z32, 16 + 10 * z33) ∈ RL := hm_37 6 (by omega)
      have c_52 : E16 (20 + z32) (17 + 10 * z33) = .inl (kA 0, 6, .inl g4_37) := q7_37
      have m_53 : (20 + z32, 17 + 10 * z33) ∈ RL := hm_37 7 (by omega)
      refine px_get (D := D) (ci := 6) (v := .ref (ad (1 + d_37) 0)) (C := xR_Me) (T := xT_Me) (N := 6) hx hb hT xi_Me hown hK.1 hP m_39 c_38 rfl 1 (by decide) (hT _ yx_25) (fun _ h9 => h9) rfl xd_De_load_37 ?_
      obtain ⟨hm_54, fd_54, nm_54, sd_54, k0_54, k1_54, k2_54, k3_54, f0_54, f1_54, f2_54, f3_54, fe_54, fo_54, tr_54, op_54, hk0_54, hk1_54, hk2_54, hk3_54, q0_54, q1_54, q2_54, q3_54, q4_54, q5_54, q6_54, q7_54, q8_54, q9_54, q10_54, q11_54, q12_54, hg_54⟩ := id (hDIs d_37 (by omega))
      have c_55 : E16 (1 + d_37) 0 = .inr (7, [.int (nI d_37), .int fd_54, .int nm_54, .ref (ad (1 + d_37) 1), .ref (ad (1 + d_37) 9), .ref (ad (1 + d_37) 10), .ref (ad (1 + d_37) 2), .ref (ad (1 + d_37) 11), .ref (ad (1 + d_37) 12), .ref (ad (1 + d_37) 3), .ref (ad (1 + d_37) 4), .int sd_54]) := q0_54
      have m_56 : (1 + d_37, 0) ∈ RL := hm_54 0 (by omega)
      have c_57 : E16 (1 + d_37) 1 = .inr (8, [.ref (ad (1 + d_37) 5), .int (nI k0_54)]) := q1_54
      have m_58 : (1 + d_37, 1) ∈ RL := hm_54 1 (by omega)
      have c_59 : E16 (1 + d_37) 2 = .inr (8, [.ref (ad (1 + d_37) 6), .int (nI k1_54)]) := q2_54
      have m_60 : (1 + d_37, 2) ∈ RL := hm_54 2 (by omega)
      have c_61 : E16 (1 + d_37) 3 = .inr (8, [.ref (ad (1 + d_37) 7), .int (nI k2_54)]) := q3_54
      have m_62 : (1 + d_37, 3) ∈ RL := hm_54 3 (by omega)
      have c_63 : E16 (1 + d_37) 4 = .inr (8, [.ref (ad (1 + d_37) 8), .int (nI k3_54)]) := q4_54
      have m_64 : (1 + d_37, 4) ∈ RL := hm_54 4 (by omega)
      have c_65 : E16 (1 + d_37) 5 = .inl (kA 0, 6, .inl f0_54) := q5_54
      have m_66 : (1 + d_37, 5) ∈ RL := hm_54 5 (by omega)
      have c_67 : E16 (1 + d_37) 6 = .inl (kA 0, 5, .inl f1_54) := q6_54
      have m_68 : (1 + d_37, 6) ∈ RL := hm_54 6 (by omega)
      have c_69 : E16 (1 + d_37) 7 = .inl (kA 0, 3, .inl f2_54) := q7_54
      have m_70 : (1 + d_37, 7) ∈ RL := hm_54 7 (by omega)
      have c_71 : E16 (1 + d_37) 8 = .inl (kA 0, 3, .inl f3_54) := q8_54
      have m_72 : (1 + d_37, 8) ∈ RL := hm_54 8 (by omega)
      have c_73 : E16 (1 + d_37) 9 = .inl (kA 8, 6, .inr (.inr (.inr (.inr fe_54)))) := q9_54
      have m_74 : (1 + d_37, 9) ∈ RL := hm_54 9 (by omega)
      have c_75 : E16 (1 + d_37) 10 = .inl (kA 8, 6, .inr (.inr (.inr (.inr fo_54)))) := q10_54
      have m_76 : (1 + d_37, 10) ∈ RL := hm_54 10 (by omega)
      have c_77 : E16 (1 + d_37) 11 = .inl (kA 2, 5, .inl tr_54) := q11_54
      have m_78 : (1 + d_37, 11) ∈ RL := hm_54 11 (by omega)
      have c_79 : E16 (1 + d_37) 12 = .inl (kA 2, 5, .inl op_54) := q12_54
      have m_80 : (1 + d_37, 12) ∈ RL := hm_54 12 (by omega)
      have hg_54 : ∀ w9, w9 < k0_54 → fe_54 w9 = some (ad (1 + d_37) (20 + 3 * w9)) ∧ fo_54 w9 = some (ad (1 + d_37) (38 + 3 * w9)) ∧ GI kA (ad (1 + d_37)) (E16 (1 + d_37)) (fun o => (1 + d_37, o) ∈ RL) (20 + 3 * w9) (21 + 3 * w9) (22 + 3 * w9) ∧ GI kA (ad (1 + d_37)) (E16 (1 + d_37)) (fun o => (1 + d_37, o) ∈ RL) (38 + 3 * w9) (39 + 3 * w9) (40 + 3 * w9) := hg_54
      refine px_get (D := D) (ci := 7) (v := .ref (ad (1 + d_37) 1)) (C := xR_Ds) (T := xT_Ds) (N := 12) hx hb hT xi_Ds hown hK.1 hP m_56 c_55 rfl 3 (by decide) (hT _ yx_26) (fun _ h9 => h9) rfl xd_De_load_40 ?_
      refine lv_iload_n hx hb xd_De_load_43 rfl (lv_at hl 1 rfl) ?_
      have hFc := px_free hD hS hA
      refine va_calli (va_runV (As := [.int r13]) (rest := []) ⟨hx, hb, hml, hown, hT⟩ (xc_Na_holds l D kA H.size ad E16 RL (1 + d_37) 1 5 6 k0_54 f0_54 r13 m_58 c_57 m_66 c_65 (by first | assumption | omega) (by first | assumption | omega)) (cwV 1 hT (wT_V yx_28 yx_29 yx_30 yx_31 yx_27) rfl rfl rfl (by decide +kernel) ⟨Nat.le_of_ble_eq_true rfl, Nat.le_of_ble_eq_true rfl⟩) (px_preV hK hP hD m_58 c_57 rfl) rfl rfl hl.1 rfl (lv_room (Nat.le_of_ble_eq_true rfl)) xd_De_load_44 ⟨(Nat.le_of_ble_eq_true rfl), (Nat.le_of_ble_eq_true rfl)⟩) hS (fun q _ h => hFc q h) hFc (fun r81 u82 t H1 locs ht hvm hp83 hB hz1 hk1 hS => ?_)
      obtain ⟨hP1, hD1⟩ := hB
      rw [ht] at hP1
      have hD1 := hD1.weaken (fun _ _ _ h => hFc _ h)
      generalize H1 = H at hP1 hS ⊢
      have hP := hP1
      have hD := hD1
      have hP : va_P D xcl (rp ad E16 RL) H := hP
      have hD : va_D A (rp ad E16 RL) := hD
      rcases hp83 with ⟨rfl, z84, z85, z86⟩ | ⟨rfl, z87⟩
      · refine W.eq (g2 := F0 m 47 ls [.int 1]) rfl ?_
        refine lv_if_eq (tgt := 55) hx hb xd_De_load_47 (by decide) (fun hc88 => absurd hc88 (by decide)) (fun _ => ?_)
        refine lv_aload hx hb xd_De_load_50 (lv_at hl 0 rfl) ?_
        refine lv_goto (tgt := 61) hx hb xd_De_load_52 (by decide) ?_
        refine lv_astore hx hb xd_De_load_61 hl (Nat.le_of_ble_eq_true rfl) rfl (fun ls hl => ?_)
        have hl : lv_has ls 6 [(5, .ref (ad (20 + z32) (10 + 10 * z33))), (4, .ref (ad (20 + z32) (10 + 10 * z33))), (3, .int r13), (0, .ref (ad 0 0)), (1, .int ix), (2, .int kx)] := hl
        refine lv_aload hx hb xd_De_load_63 (lv_at hl 0 rfl) ?_
        refine lv_ifnonnull (tgt := 78) hx hb xd_De_load_65 (by decide) ?_
        refine lv_aload hx hb xd_De_load_78 (lv_at hl 0 rfl) ?_
        have hFc := px_free hD hS hA
        refine va_calli (va_runV (As := []) (rest := []) ⟨hx, hb, hml, hown, hT⟩ (xc_Me_code l D kA H.size ad E16 RL nd ml z32 z33 (by first | assumption | omega) (by first | assumption | omega) (by first | assumption | omega) (by first | assumption | omega) (by first | assumption | omega)) (cwV 0 hT (wT_V yx_33 yx_34 yx_35 yx_36 yx_32) rfl rfl rfl (by decide +kernel) ⟨Nat.le_of_ble_eq_true rfl, Nat.le_of_ble_eq_true rfl⟩) (px_preV hK hP hD m_39 c_38 rfl) rfl rfl hl.1 rfl (lv_room (Nat.le_of_ble_eq_true rfl)) xd_De_load_80 ⟨(Nat.le_of_ble_eq_true rfl), (Nat.le_of_ble_eq_true rfl)⟩) hS (fun q _ h => hFc q h) hFc (fun r89 u90 t H1 locs ht hvm hp91 hB hz1 hk1 hS => ?_)
        obtain ⟨hP1, hD1⟩ := hB
        rw [ht] at hP1
        have hD1 := hD1.weaken (fun _ _ _ h => hFc _ h)
        generalize H1 = H at hP1 hS ⊢
        have hP := hP1
        have hD := hD1
        have hP : va_P D xcl (rp ad E16 RL) H := hP
        have hD : va_D A (rp ad E16 RL) := hD
        refine W.widen (k := 1) (n := 6) (Nat.le_of_ble_eq_true rfl) (Nat.le_of_ble_eq_true rfl) ?_
        refine vx_ret ?_
        exact W.iret (v := r89) hx hb hr (fun t ht hW => ⟨⟨r89, E16, rfl, ⟨wn217, hCI⟩, by rw [ht]; exact hP, hD⟩, hS.F ht⟩) hS.2.2 xd_De_load_83
      · refine W.eq (g2 := F0 m 47 ls [.int 0]) rfl ?_
        refine lv_if_eq (tgt := 55) hx hb xd_De_load_47 (by decide) (fun _ => ?_) (fun hc92 => absurd (by decide) hc92)
        refine lv_aload hx hb xd_De_load_55 (lv_at hl 0 rfl) ?_
        refine lv_iload_n hx hb xd_De_load_57 rfl (lv_at hl 1 rfl) ?_
        have hFc := px_free hD hS hA
        refine va_callq (va_runV (As := [.int r13]) (rest := []) ⟨hx, hb, hml, hown, hT⟩ (xc_Me_sourceOf l D kA H.size ad E16 RL nd ml z32 z33 r13 (by first | assumption | omega) (by first | assumption | omega) (by first | assumption | omega) (by first | assumption | omega) (by first | assumption | omega)) (cwV 1 hT (wT_V yx_38 yx_39 yx_40 yx_36 yx_37) rfl rfl rfl (by decide +kernel) ⟨Nat.le_of_ble_eq_true rfl, Nat.le_of_ble_eq_true rfl⟩) (px_preV hK hP hD m_39 c_38 rfl) rfl rfl hl.1 rfl (lv_room (Nat.le_of_ble_eq_true rfl)) xd_De_load_58 ⟨(Nat.le_of_ble_eq_true rfl), (Nat.le_of_ble_eq_true rfl)⟩) hS (fun q _ h => hFc q h) hFc (fun r93 u94 t H1 locs ht hvm hp95 hB hz1 hk1 hS => ?_)
        obtain ⟨hP1, hD1⟩ := hB
        rw [ht] at hP1
        have hD1 := hD1.weaken (fun _ _ _ h => hFc _ h)
        generalize H1 = H at hP1 hS ⊢
        have hP := hP1
        have hD := hD1
        have hP : va_P D xcl (rp ad E16 RL) H := hP
        have hD : va_D A (rp ad E16 RL) := hD
        rcases hp95 with rfl | ⟨z96, z97, z98, rfl, z99⟩
        · refine W.eq (g2 := F0 m 61 ls [.null]) rfl ?_
          refine lv_astoreN hx hb xd_De_load_61 hl (Nat.le_of_ble_eq_true rfl) rfl (fun ls hl => ?_)
          have hl : lv_has ls 6 [(5, .null), (4, .ref (ad (20 + z32) (10 + 10 * z33))), (3, .int r13), (0, .ref (ad 0 0)), (1, .int ix), (2, .int kx)] := hl
          refine lv_aloadN hx hb xd_De_load_63 (lv_at hl 0 rfl) ?_
          refine lv_ifnonnullN hx hb xd_De_load_65 ?_
          exact y_throwC (ik := 89) (is := 176) (wf := fun (u : Nat → Nat → va_E) => rp ad u RL) E16 (⟨wn217, hCI⟩) (Or.inr rfl) hx hb hlt hown hT hK yx_41 yx_42 hZ.2.2.2.1.2.2.2.2.2.2.2.2.2.2.2.2.2.2.2.2.2.2.1 hZ.1 hS hP hD (hl.1.trans hml.symm) xd_De_load_68 xd_De_load_71 xd_De_load_72 xd_De_load_74 xd_De_load_77 htab (Nat.le_of_ble_eq_true rfl) (Nat.le_of_ble_eq_true rfl) (Nat.le_of_ble_eq_true rfl) (Nat.le_of_ble_eq_true rfl) hlocks (Nat.le_of_ble_eq_true rfl) (Nat.le_of_ble_eq_true rfl)
        · refine W.eq (g2 := F0 m 61 ls [.ref (ad (20 + z96) (10 + 10 * z97))]) rfl ?_
          refine lv_astore hx hb xd_De_load_61 hl (Nat.le_of_ble_eq_true rfl) rfl (fun ls hl => ?_)
          have hl : lv_has ls 6 [(5, .ref (ad (20 + z96) (10 + 10 * z97))), (4, .ref (ad (20 + z32) (10 + 10 * z33))), (3, .int r13), (0, .ref (ad 0 0)), (1, .int ix), (2, .int kx)] := hl
          refine lv_aload hx hb xd_De_load_63 (lv_at hl 0 rfl) ?_
          refine lv_ifnonnull (tgt := 78) hx hb xd_De_load_65 (by decide) ?_
          refine lv_aload hx hb xd_De_load_78 (lv_at hl 0 rfl) ?_
          have hFc := px_free hD hS hA
          obtain ⟨hm_100, d_100, rs_100, fr_100, g2_100, g3_100, g4_100, hd_100, hrs_100, q0_100, q1_100, q2_100, q3_100, q4_100, q5_100, q6_100, q7_100⟩ := id z99
          have c_101 : E16 (20 + z96) (10 + 10 * z97) = .inr (6, [.ref (ad (20 + z96) 0), .ref (ad (1 + d_100) 0), .ref (ad (20 + z96) (11 + 10 * z97)), .ref (ad (20 + z96) (12 + 10 * z97)), .ref (ad (20 + z96) (13 + 10 * z97)), .ref (ad (20 + z96) (14 + 10 * z97))]) := q0_100
          have m_102 : (20 + z96, 10 + 10 * z97) ∈ RL := hm_100 0 (by omega)
          have c_103 : E16 (20 + z96) (11 + 10 * z97) = .inl (kA 6, rs_100, .inr (.inr (.inr (.inr fr_100)))) := q1_100
          have m_104 : (20 + z96, 11 + 10 * z97) ∈ RL := hm_100 1 (by omega)
          have c_105 : E16 (20 + z96) (12 + 10 * z97) = .inr (10, [.ref (ad (20 + z96) (15 + 10 * z97))]) := q2_100
          have m_106 : (20 + z96, 12 + 10 * z97) ∈ RL := hm_100 2 (by omega)
          have c_107 : E16 (20 + z96) (13 + 10 * z97) = .inr (10, [.ref (ad (20 + z96) (16 + 10 * z97))]) := q3_100
          have m_108 : (20 + z96, 13 + 10 * z97) ∈ RL := hm_100 3 (by omega)
          have c_109 : E16 (20 + z96) (14 + 10 * z97) = .inr (10, [.ref (ad (20 + z96) (17 + 10 * z97))]) := q4_100
          have m_110 : (20 + z96, 14 + 10 * z97) ∈ RL := hm_100 4 (by omega)
          have c_111 : E16 (20 + z96) (15 + 10 * z97) = .inl (kA 0, 6, .inl g2_100) := q5_100
          have m_112 : (20 + z96, 15 + 10 * z97) ∈ RL := hm_100 5 (by omega)
          have c_113 : E16 (20 + z96) (16 + 10 * z97) = .inl (kA 0, 6, .inl g3_100) := q6_100
          have m_114 : (20 + z96, 16 + 10 * z97) ∈ RL := hm_100 6 (by omega)
          have c_115 : E16 (20 + z96) (17 + 10 * z97) = .inl (kA 0, 6, .inl g4_100) := q7_100
          have m_116 : (20 + z96, 17 + 10 * z97) ∈ RL := hm_100 7 (by omega)
          refine va_calli (va_runV (As := []) (rest := []) ⟨hx, hb, hml, hown, hT⟩ (xc_Me_code l D kA H.size ad E16 RL nd ml z96 z97 (by first | assumption | omega) (by first | assumption | omega) (by first | assumption | omega) (by first | assumption | omega) (by first | assumption | omega)) (cwV 0 hT (wT_V yx_33 yx_34 yx_35 yx_36 yx_32) rfl rfl rfl (by decide +kernel) ⟨Nat.le_of_ble_eq_true rfl, Nat.le_of_ble_eq_true rfl⟩) (px_preV hK hP hD m_102 c_101 rfl) rfl rfl hl.1 rfl (lv_room (Nat.le_of_ble_eq_true rfl)) xd_De_load_80 ⟨(Nat.le_of_ble_eq_true rfl), (Nat.le_of_ble_eq_true rfl)⟩) hS (fun q _ h => hFc q h) hFc (fun r117 u118 t H1 locs ht hvm hp119 hB hz1 hk1 hS => ?_)
          obtain ⟨hP1, hD1⟩ := hB
          rw [ht] at hP1
          have hD1 := hD1.weaken (fun _ _ _ h => hFc _ h)
          generalize H1 = H at hP1 hS ⊢
          have hP := hP1
          have hD := hD1
          have hP : va_P D xcl (rp ad E16 RL) H := hP
          have hD : va_D A (rp ad E16 RL) := hD
          refine W.widen (k := 1) (n := 6) (Nat.le_of_ble_eq_true rfl) (Nat.le_of_ble_eq_true rfl) ?_
          refine vx_ret ?_
          exact W.iret (v := r117) hx hb hr (fun t ht hW => ⟨⟨r117, E16, rfl, ⟨wn217, hCI⟩, by rw [ht]; exact hP, hD⟩, hS.F ht⟩) hS.2.2 xd_De_load_83
    · exact y_throwA (ik := 56) (is := 161) (wf := fun (u : Nat → Nat → va_E) => rp ad u RL) E16 (⟨wn217, hCI⟩) (Or.inl rfl) hx hb hlt hown hT hK yx_14 yx_15 hZ.2.2.2.1.2.2.2.2.2.2.2.2.2.2.2.2.2.2.2.2.2.1 hZ.1 hS hP hD (hl.1.trans hml.symm) xd_De_load_25 xd_De_load_28 xd_De_load_29 xd_De_load_31 xd_De_load_34 htab (Nat.le_of_ble_eq_true rfl) (Nat.le_of_ble_eq_true rfl) (Nat.le_of_ble_eq_true rfl) (Nat.le_of_ble_eq_true rfl) hlocks (Nat.le_of_ble_eq_true rfl) (Nat.le_of_ble_eq_true rfl)
set_option maxHeartbeats 4000000 in
set_option maxRecDepth 100000 in
theorem xc_De_peek (l : Launch) (hlt : l.stackTraces = false) (D : va_G) (kA : Nat → ClassId) (sz : Nat) (ad : Nat → Nat → Nat) (E : Nat → Nat → va_E) (RL : List (Nat × Nat)) (Z : zT) (ml : Nat) (nd : Nat) (len : Nat) (wn : Nat) (cs : Nat) (ix : Int32) (kx : Int32) (tx : Int32) (dx : Int32) (hCI : CI kA ad E RL ml nd len wn cs) : vx_Met l xy_De_peek (.code xy_De_peek xb_De_peek 8 (some .boolean) :: wT) { frames := 6, cells := 1, slots := 6, locals := 82 } (va_Pc [.ref (ad 0 0), .int ix, .int kx, .int tx, .int dx] (xPreZ D kA sz (rp ad E RL) Z)) (va_Qi (fun (r : Int32) (u : Nat → Nat → va_E) => ∃ wn2, CI kA ad u RL ml nd 0 wn2 cs) (fun (u : Nat → Nat → va_E) t => va_P D xcl (rp ad u RL) t.heap ∧ va_D (va_A (rp ad E RL) sz) (rp ad u RL)) (va_A (rp ad E RL) sz)) (vx_X (fun (u : Nat → Nat → va_E) => ∃ wn2, CI kA ad u RL ml nd 0 wn2 cs) (fun E9 u t => (E9 = "java/lang/IllegalArgumentException" ∨ E9 = "java/util/NoSuchElementException") ∧ va_P D xcl (rp ad u RL) t.heap ∧ va_D (va_A (rp ad E RL) sz) (rp ad u RL)) (va_A (rp ad E RL) sz)) 1 6 (va_A (rp ad E RL) sz) := by
  refine vx_ofW (cc := xb_De_peek) (maxL := 8) (ret := (some .boolean)) (by decide) rfl ?_
  intro p e s m args below meth c s₁ B hml htab hv
  obtain ⟨rfl, ⟨hsz, hP, hK, hD0⟩, hZ⟩ := hv
  have hx := B.exec
  have hb := B.bytes
  have hr := B.returns
  have hT := x_hT B.pre
  have hown : s.vm.findClass xR_De = some m.cls := findClass_of_methodNamed B.named
  have hlocks := B.notSynchronized
  subst hsz
  have hD := hD0.self (sz := s.heap.size)
  generalize hAe : va_A (rp ad E RL) s.heap.size = A at hD hZ ⊢
  have hA : ∀ q : Nat, s.heap.size ≤ q → A q := fun q h => by rw [← hAe]; exact Or.inr h
  have hS : va_S A s.heap s.heap [] := va_S.rf
  have hl := lv_entry ([.ref (ad 0 0), .int ix, .int kx, .int tx, .int dx]) (n := 8) (Nat.le_of_ble_eq_true rfl)
  rw [lg_entry_eq]
  generalize (lg_sl ([.ref (ad 0 0), .int ix, .int kx, .int tx, .int dx]) ++ List.replicate (8 - (lg_sl ([.ref (ad 0 0), .int ix, .int kx, .int tx, .int dx])).length) Slot.unset).toArray = ls at hl ⊢
  have hl : lv_has ls 8 [(0, .ref (ad 0 0)), (1, .int ix), (2, .int kx), (3, .int tx), (4, .int dx)] := hl
  have hP : va_P D xcl (rp ad E RL) s.heap := hP
  obtain ⟨hmB, hDk, hLi, hSh, hCh, hLa, hDIs, hLIs⟩ := id hCI
  obtain ⟨lf_1, q_1⟩ := id (hDk)
  have c_2 : E 0 0 = .inr (0, [.ref (ad 0 1), .ref (ad 0 5), .ref (ad 0 7), .ref (ad 0 9), .int (nI ml), .int lf_1]) := q_1
  have m_3 : (0, 0) ∈ RL := hmB 0 (by omega)
  refine lv_aload_n hx hb xd_De_peek_0 rfl (lv_at hl 0 rfl) ?_
  refine px_get (D := D) (ci := 0) (v := .ref (ad 0 1)) (C := xR_De) (T := xT_De) (N := 6) hx hb hT xi_De hown hK.1 hP m_3 c_2 rfl 0 (by decide) (hT _ yx_0) (fun _ h9 => h9) rfl xd_De_peek_1 ?_
  have hFc := px_free hD hS hA
  obtain ⟨tx_4, fb_4, fe_4, hl1_4, hw2_4, q1_4, q2_4, q3_4, q4_4, hws_4⟩ := id (hLi)
  have c_5 : E 0 1 = .inr (1, [.ref (ad 0 2), .ref (ad 0 3), .ref (ad 0 4), .int (nI len), .int (nI wn)]) := q1_4
  have m_6 : (0, 1) ∈ RL := hmB 1 (by omega)
  have c_7 : E 0 2 = .inl (kA 1, 40, .inl tx_4) := q2_4
  have m_8 : (0, 2) ∈ RL := hmB 2 (by omega)
  have c_9 : E 0 3 = .inl (kA 0, 20, .inl fb_4) := q3_4
  have m_10 : (0, 3) ∈ RL := hmB 3 (by omega)
  have c_11 : E 0 4 = .inl (kA 0, 20, .inl fe_4) := q4_4
  have m_12 : (0, 4) ∈ RL := hmB 4 (by omega)
  refine va_calli (va_runV (As := []) (rest := []) ⟨hx, hb, hml, hown, hT⟩ (xc_Li_takeName l D kA s.heap.size ad E RL ml nd len wn cs (by first | assumption | omega)) (cwV 0 hT (wT_V yx_17 yx_18 yx_19 yx_5 yx_16) rfl rfl rfl (by decide +kernel) ⟨Nat.le_of_ble_eq_true rfl, Nat.le_of_ble_eq_true rfl⟩) (px_preV hK hP hD m_6 c_5 rfl) rfl rfl hl.1 rfl (lv_room (Nat.le_of_ble_eq_true rfl)) xd_De_peek_4 ⟨(Nat.le_of_ble_eq_true rfl), (Nat.le_of_ble_eq_true rfl)⟩) hS (fun q _ h => hFc q h) hFc (fun r13 u14 t H1 locs ht hvm hp15 hB hz1 hk1 hS => ?_)
  obtain ⟨hP1, hD1⟩ := hB
  rw [ht] at hP1
  have hD1 := hD1.weaken (fun _ _ _ h => hFc _ h)
  generalize H1 = H at hP1 hS ⊢
  have hP := hP1
  have hD := hD1
  obtain ⟨E16, rfl⟩ : ∃ z, z = u14 := ⟨_, rfl⟩
  have hP : va_P D xcl (rp ad E16 RL) H := hP
  have hD : va_D A (rp ad E16 RL) := hD
  obtain ⟨wn217, hCI⟩ := hp15
  have hCI : CI kA ad E16 RL ml nd 0 wn217 cs := hCI
  obtain ⟨hmB, hDk, hLi, hSh, hCh, hLa, hDIs, hLIs⟩ := id hCI
  obtain ⟨lf_18, q_18⟩ := id (hDk)
  have c_19 : E16 0 0 = .inr (0, [.ref (ad 0 1), .ref (ad 0 5), .ref (ad 0 7), .ref (ad 0 9), .int (nI ml), .int lf_18]) := q_18
  have m_20 : (0, 0) ∈ RL := hmB 0 (by omega)
  obtain ⟨fd_21, hnd_21, q5_21, q6_21, hds_21⟩ := id (hSh)
  have c_22 : E16 0 5 = .inr (2, [.ref (ad 0 6), .int (nI nd)]) := q5_21
  have m_23 : (0, 5) ∈ RL := hmB 5 (by omega)
  have c_24 : E16 0 6 = .inl (kA 4, 12, .inr (.inr (.inr (.inr fd_21)))) := q6_21
  have m_25 : (0, 6) ∈ RL := hmB 6 (by omega)
  obtain ⟨fl_26, hml_26, q9_26, hla_26⟩ := id (hLa)
  have c_27 : E16 0 9 = .inl (kA 5, 5, .inr (.inr (.inr (.inr fl_26)))) := q9_26
  have m_28 : (0, 9) ∈ RL := hmB 9 (by omega)
  refine lv_istore hx hb xd_De_peek_7 hl (Nat.le_of_ble_eq_true rfl) rfl (fun ls hl => ?_)
  have hl : lv_has ls 8 [(5, .int r13), (0, .ref (ad 0 0)), (1, .int ix), (2, .int kx), (3, .int tx), (4, .int dx)] := hl
  refine lv_aload_n hx hb xd_De_peek_9 rfl (lv_at hl 1 rfl) ?_
  refine lv_iload_n hx hb xd_De_peek_10 rfl (lv_at hl 2 rfl) ?_
  refine lv_iload_n hx hb xd_De_peek_11 rfl (lv_at hl 3 rfl) ?_
  have hFc := px_free hD hS hA
  refine va_callq (va_runV (As := [.int ix, .int kx]) (rest := []) ⟨hx, hb, hml, hown, hT⟩ (xc_De_memberAt l D kA H.size ad E16 RL ml nd 0 wn217 cs ix kx (by first | assumption | omega)) (cwV 2 hT (wT_V yx_21 yx_22 yx_23 yx_24 yx_20) rfl rfl rfl (by decide +kernel) ⟨Nat.le_of_ble_eq_true rfl, Nat.le_of_ble_eq_true rfl⟩) (px_preV hK hP hD m_20 c_19 rfl) rfl rfl hl.1 rfl (lv_room (Nat.le_of_ble_eq_true rfl)) xd_De_peek_12 ⟨(Nat.le_of_ble_eq_true rfl), (Nat.le_of_ble_eq_true rfl)⟩) hS (fun q _ h => hFc q h) hFc (fun r29 u30 t H1 locs ht hvm hp31 hB hz1 hk1 hS => ?_)
  obtain ⟨hP1, hD1⟩ := hB
  rw [ht] at hP1
  have hD1 := hD1.weaken (fun _ _ _ h => hFc _ h)
  generalize H1 = H at hP1 hS ⊢
  have hP := hP1
  have hD := hD1
  have hP : va_P D xcl (rp ad E16 RL) H := hP
  have hD : va_D A (rp ad E16 RL) := hD
  rcases hp31 with rfl | ⟨z32, z33, z34, rfl, z35⟩
  · refine W.eq (g2 := F0 m 15 ls [.null]) rfl ?_
    refine lv_astoreN hx hb xd_De_peek_15 hl (Nat.le_of_ble_eq_true rfl) rfl (fun ls hl => ?_)
    have hl : lv_has ls 8 [(6, .null), (5, .int r13), (0, .ref (ad 0 0)), (1, .int ix), (2, .int kx), (3, .int tx), (4, .int dx)] := hl
    refine lv_aload_n hx hb xd_De_peek_17 rfl (lv_at hl 2 rfl) ?_
    refine lv_iload_n hx hb xd_De_peek_18 rfl (lv_at hl 5 rfl) ?_
    refine lv_iload hx hb xd_De_peek_19 (lv_at hl 6 rfl) ?_
    have hFc := px_free hD hS hA
    refine va_callq (va_runV (As := [.int tx, .int dx]) (rest := []) ⟨hx, hb, hml, hown, hT⟩ (xc_De_memberOf l D kA H.size ad E16 RL ml nd 0 wn217 cs tx dx (by first | assumption | omega)) (cwV 2 hT (wT_V yx_44 yx_45 yx_46 yx_24 yx_43) rfl rfl rfl (by decide +kernel) ⟨Nat.le_of_ble_eq_true rfl, Nat.le_of_ble_eq_true rfl⟩) (px_preV hK hP hD m_20 c_19 rfl) rfl rfl hl.1 rfl (lv_room (Nat.le_of_ble_eq_true rfl)) xd_De_peek_21 ⟨(Nat.le_of_ble_eq_true rfl), (Nat.le_of_ble_eq_true rfl)⟩) hS (fun q _ h => hFc q h) hFc (fun r36 u37 t H1 locs ht hvm hp38 hB hz1 hk1 hS => ?_)
    obtain ⟨hP1, hD1⟩ := hB
    rw [ht] at hP1
    have hD1 := hD1.weaken (fun _ _ _ h => hFc _ h)
    generalize H1 = H at hP1 hS ⊢
    have hP := hP1
    have hD := hD1
    have hP : va_P D xcl (rp ad E16 RL) H := hP
    have hD : va_D A (rp ad E16 RL) := hD
    rcases hp38 with rfl | ⟨z39, z40, z41, rfl, z42⟩
    · refine W.eq (g2 := F0 m 24 ls [.null]) rfl ?_
      refine lv_astoreN hx hb xd_De_peek_24 hl (Nat.le_of_ble_eq_true rfl) rfl (fun ls hl => ?_)
      have hl : lv_has ls 8 [(7, .null), (6, .null), (5, .int r13), (0, .ref (ad 0 0)), (1, .int ix), (2, .int kx), (3, .int tx), (4, .int dx)] := hl
      refine lv_aloadN hx hb xd_De_peek_26 (lv_at hl 1 rfl) ?_
      refine lv_ifnullN (tgt := 41) hx hb xd_De_peek_28 (by decide) ?_
      exact y_throwA (ik := 56) (is := 161) (wf := fun (u : Nat → Nat → va_E) => rp ad u RL) E16 (⟨wn217, hCI⟩) (Or.inl rfl) hx hb hlt hown hT hK yx_14 yx_15 hZ.2.2.2.1.2.2.2.2.2.2.2.2.2.2.2.2.2.2.2.2.2.1 hZ.1 hS hP hD (hl.1.trans hml.symm) xd_De_peek_41 xd_De_peek_44 xd_De_peek_45 xd_De_peek_47 xd_De_peek_50 htab (Nat.le_of_ble_eq_true rfl) (Nat.le_of_ble_eq_true rfl) (Nat.le_of_ble_eq_true rfl) (Nat.le_of_ble_eq_true rfl) hlocks (Nat.le_of_ble_eq_true rfl) (Nat.le_of_ble_eq_true rfl)
    · refine W.eq (g2 := F0 m 24 ls [.ref (ad (20 + z39) (10 + 10 * z40))]) rfl ?_
      refine lv_astore hx hb xd_De_peek_24 hl (Nat.le_of_ble_eq_true rfl) rfl (fun ls hl => ?_)
      have hl : lv_has ls 8 [(7, .ref (ad (20 + z39) (10 + 10 * z40))), (6, .null), (5, .int r13), (0, .ref (ad 0 0)), (1, .int ix), (2, .int kx), (3, .int tx), (4, .int dx)] := hl
      refine lv_aloadN hx hb xd_De_peek_26 (lv_at hl 1 rfl) ?_
      refine lv_ifnullN (tgt := 41) hx hb xd_De_peek_28 (by decide) ?_
      exact y_throwA (ik := 56) (is := 161) (wf := fun (u : Nat → Nat → va_E) => rp ad u RL) E16 (⟨wn217, hCI⟩) (Or.inl rfl) hx hb hlt hown hT hK yx_14 yx_15 hZ.2.2.2.1.2.2.2.2.2.2.2.2.2.2.2.2.2.2.2.2.2.1 hZ.1 hS hP hD (hl.1.trans hml.symm) xd_De_peek_41 xd_De_peek_44 xd_De_peek_45 xd_De_peek_47 xd_De_peek_50 htab (Nat.le_of_ble_eq_true rfl) (Nat.le_of_ble_eq_true rfl) (Nat.le_of_ble_eq_true rfl) (Nat.le_of_ble_eq_true rfl) hlocks (Nat.le_of_ble_eq_true rfl) (Nat.le_of_ble_eq_true rfl)
  · refine W.eq (g2 := F0 m 15 ls [.ref (ad (20 + z32) (10 + 10 * z33))]) rfl ?_
    refine lv_astore hx hb xd_De_peek_15 hl (Nat.le_of_ble_eq_true rfl) rfl (fun ls hl => ?_)
    have hl : lv_has ls 8 [(6, .ref (ad (20 + z32) (10 + 10 * z33))), (5, .int r13), (0, .ref (ad 0 0)), (1, .int ix), (2, .int kx), (3, .int tx), (4, .int dx)] := hl
    refine lv_aload_n hx hb xd_De_peek_17 rfl (lv_at hl 2 rfl) ?_
    refine lv_iload_n hx hb xd_De_peek_18 rfl (lv_at hl 5 rfl) ?_
    refine lv_iload hx hb xd_De_peek_19 (lv_at hl 6 rfl) ?_
    have hFc := px_free hD hS hA
    refine va_callq (va_runV (As := [.int tx, .int dx]) (rest := []) ⟨hx, hb, hml, hown, hT⟩ (xc_De_memberOf l D kA H.size ad E16 RL ml nd 0 wn217 cs tx dx (by first | assumption | omega)) (cwV 2 hT (wT_V yx_44 yx_45 yx_46 yx_24 yx_43) rfl rfl rfl (by decide +kernel) ⟨Nat.le_of_ble_eq_true rfl, Nat.le_of_ble_eq_true rfl⟩) (px_preV hK hP hD m_20 c_19 rfl) rfl rfl hl.1 rfl (lv_room (Nat.le_of_ble_eq_true rfl)) xd_De_peek_21 ⟨(Nat.le_of_ble_eq_true rfl), (Nat.le_of_ble_eq_true rfl)⟩) hS (fun q _ h => hFc q h) hFc (fun r43 u44 t H1 locs ht hvm hp45 hB hz1 hk1 hS => ?_)
    obtain ⟨hP1, hD1⟩ := hB
    rw [ht] at hP1
    have hD1 := hD1.weaken (fun _ _ _ h => hFc _ h)
    generalize H1 = H at hP1 hS ⊢
    have hP := hP1
    have hD := hD1
    have hP : va_P D xcl (rp ad E16 RL) H := hP
    have hD : va_D A (rp ad E16 RL) := hD
    rcases hp45 with rfl | ⟨z46, z47, z48, rfl, z49⟩
    · refine W.eq (g2 := F0 m 24 ls [.null]) rfl ?_
      refine lv_astoreN hx hb xd_De_peek_24 hl (Nat.le_of_ble_eq_true rfl) rfl (fun ls hl => ?_)
      have hl : lv_has ls 8 [(7, .null), (6, .ref (ad (20 + z32) (10 + 10 * z33))), (5, .int r13), (0, .ref (ad 0 0)), (1, .int ix), (2, .int kx), (3, .int tx), (4, .int dx)] := hl
      refine lv_aload hx hb xd_De_peek_26 (lv_at hl 1 rfl) ?_
      refine lv_ifnull hx hb xd_De_peek_28 ?_
      refine lv_aloadN hx hb xd_De_peek_31 (lv_at hl 0 rfl) ?_
      refine lv_ifnullN (tgt := 41) hx hb xd_De_peek_33 (by decide) ?_
      exact y_throwA (ik := 56) (is := 161) (wf := fun (u : Nat → Nat → va_E) => rp ad u RL) E16 (⟨wn217, hCI⟩) (Or.inl rfl) hx hb hlt hown hT hK yx_14 yx_15 hZ.2.2.2.1.2.2.2.2.2.2.2.2.2.2.2.2.2.2.2.2.2.1 hZ.1 hS hP hD (hl.1.trans hml.symm) xd_De_peek_41 xd_De_peek_44 xd_De_peek_45 xd_De_peek_47 xd_De_peek_50 htab (Nat.le_of_ble_eq_true rfl) (Nat.le_of_ble_eq_true rfl) (Nat.le_of_ble_eq_true rfl) (Nat.le_of_ble_eq_true rfl) hlocks (Nat.le_of_ble_eq_true rfl) (Nat.le_of_ble_eq_true rfl)
    · refine W.eq (g2 := F0 m 24 ls [.ref (ad (20 + z46) (10 + 10 * z47))]) rfl ?_
      refine lv_astore hx hb xd_De_peek_24 hl (Nat.le_of_ble_eq_true rfl) rfl (fun ls hl => ?_)
      have hl : lv_has ls 8 [(7, .ref (ad (20 + z46) (10 + 10 * z47))), (6, .ref (ad (20 + z32) (10 + 10 * z33))), (5, .int r13), (0, .ref (ad 0 0)), (1, .int ix), (2, .int kx), (3, .int tx), (4, .int dx)] := hl
      refine lv_aload hx hb xd_De_peek_26 (lv_at hl 1 rfl) ?_
      refine lv_ifnull hx hb xd_De_peek_28 ?_
      refine lv_aload hx hb xd_De_peek_31 (lv_at hl 0 rfl) ?_
      refine lv_ifnull hx hb xd_De_peek_33 ?_
      refine lv_iload hx hb xd_De_peek_36 (lv_at hl 2 rfl) ?_
      refine lv_if_ne (tgt := 51) hx hb xd_De_peek_38 (by decide) (fun hc50 => ?_) (fun hc50 => ?_)
      · refine lv_aload hx hb xd_De_peek_51 (lv_at hl 0 rfl) ?_
        obtain ⟨hm_51, d_51, rs_51, fr_51, g2_51, g3_51, g4_51, hd_51, hrs_51, q0_51, q1_51, q2_51, q3_51, q4_51, q5_51, q6_51, q7_51⟩ := id z49
        have c_52 : E16 (20 + z46) (10 + 10 * z47) = .inr (6, [.ref (ad (20 + z46) 0), .ref (ad (1 + d_51) 0), .ref (ad (20 + z46) (11 + 10 * z47)), .ref (ad (20 + z46) (12 + 10 * z47)), .ref (ad (20 + z46) (13 + 10 * z47)), .ref (ad (20 + z46) (14 + 10 * z47))]) := q0_51
        have m_53 : (20 + z46, 10 + 10 * z47) ∈ RL := hm_51 0 (by omega)
        have c_54 : E16 (20 + z46) (11 + 10 * z47) = .inl (kA 6, rs_51, .inr (.inr (.inr (.inr fr_51)))) := q1_51
        have m_55 : (20 + z46, 11 + 10 * z47) ∈ RL := hm_51 1 (by omega)
        have c_56 : E16 (20 + z46) (12 + 10 * z47) = .inr (10, [.ref (ad (20 + z46) (15 + 10 * z47))]) := q2_51
        have m_57 : (20 + z46, 12 + 10 * z47) ∈ RL := hm_51 2 (by omega)
        have c_58 : E16 (20 + z46) (13 + 10 * z47) = .inr (10, [.ref (ad (20 + z46) (16 + 10 * z47))]) := q3_51
        have m_59 : (20 + z46, 13 + 10 * z47) ∈ RL := hm_51 3 (by omega)
        have c_60 : E16 (20 + z46) (14 + 10 * z47) = .inr (10, [.ref (ad (20 + z46) (17 + 10 * z47))]) := q4_51
        have m_61 : (20 + z46, 14 + 10 * z47) ∈ RL := hm_51 4 (by omega)
        have c_62 : E16 (20 + z46) (15 + 10 * z47) = .inl (kA 0, 6, .inl g2_51) := q5_51
        have m_63 : (20 + z46, 15 + 10 * z47) ∈ RL := hm_51 5 (by omega)
        have c_64 : E16 (20 + z46) (16 + 10 * z47) = .inl (kA 0, 6, .inl g3_51) := q6_51
        have m_65 : (20 + z46, 16 + 10 * z47) ∈ RL := hm_51 6 (by omega)
        have c_66 : E16 (20 + z46) (17 + 10 * z47) = .inl (kA 0, 6, .inl g4_51) := q7_51
        have m_67 : (20 + z46, 17 + 10 * z47) ∈ RL := hm_51 7 (by omega)
        refine px_get (D := D) (ci := 6) (v := .ref (ad (1 + d_51) 0)) (C := xR_Me) (T := xT_Me) (N := 6) hx hb hT xi_Me hown hK.1 hP m_53 c_52 rfl 1 (by decide) (hT _ yx_25) (fun _ h9 => h9) rfl xd_De_peek_53 ?_
        obtain ⟨hm_68, fd_68, nm_68, sd_68, k0_68, k1_68, k2_68, k3_68, f0_68, f1_68, f2_68, f3_68, fe_68, fo_68, tr_68, op_68, hk0_68, hk1_68, hk2_68, hk3_68, q0_68, q1_68, q2_68, q3_68, q4_68, q5_68, q6_68, q7_68, q8_68, q9_68, q10_68, q11_68, q12_68, hg_68⟩ := id (hDIs d_51 (by omega))
        have c_69 : E16 (1 + d_51) 0 = .inr (7, [.int (nI d_51), .int fd_68, .int nm_68, .ref (ad (1 + d_51) 1), .ref (ad (1 + d_51) 9), .ref (ad (1 + d_51) 10), .ref (ad (1 + d_51) 2), .ref (ad (1 + d_51) 11), .ref (ad (1 + d_51) 12), .ref (ad (1 + d_51) 3), .ref (ad (1 + d_51) 4), .int sd_68]) := q0_68
        have m_70 : (1 + d_51, 0) ∈ RL := hm_68 0 (by omega)
        have c_71 : E16 (1 + d_51) 1 = .inr (8, [.ref (ad (1 + d_51) 5), .int (nI k0_68)]) := q1_68
        have m_72 : (1 + d_51, 1) ∈ RL := hm_68 1 (by omega)
        have c_73 : E16 (1 + d_51) 2 = .inr (8, [.ref (ad (1 + d_51) 6), .int (nI k1_68)]) := q2_68
        have m_74 : (1 + d_51, 2) ∈ RL := hm_68 2 (by omega)
        have c_75 : E16 (1 + d_51) 3 = .inr (8, [.ref (ad (1 + d_51) 7), .int (nI k2_68)]) := q3_68
        have m_76 : (1 + d_51, 3) ∈ RL := hm_68 3 (by omega)
        have c_77 : E16 (1 + d_51) 4 = .inr (8, [.ref (ad (1 + d_51) 8), .int (nI k3_68)]) := q4_68
        have m_78 : (1 + d_51, 4) ∈ RL := hm_68 4 (by omega)
        have c_79 : E16 (1 + d_51) 5 = .inl (kA 0, 6, .inl f0_68) := q5_68
        have m_80 : (1 + d_51, 5) ∈ RL := hm_68 5 (by omega)
        have c_81 : E16 (1 + d_51) 6 = .inl (kA 0, 5, .inl f1_68) := q6_68
        have m_82 : (1 + d_51, 6) ∈ RL := hm_68 6 (by omega)
        have c_83 : E16 (1 + d_51) 7 = .inl (kA 0, 3, .inl f2_68) := q7_68
        have m_84 : (1 + d_51, 7) ∈ RL := hm_68 7 (by omega)
        have c_85 : E16 (1 + d_51) 8 = .inl (kA 0, 3, .inl f3_68) := q8_68
        have m_86 : (1 + d_51, 8) ∈ RL := hm_68 8 (by omega)
        have c_87 : E16 (1 + d_51) 9 = .inl (kA 8, 6, .inr (.inr (.inr (.inr fe_68)))) := q9_68
        have m_88 : (1 + d_51, 9) ∈ RL := hm_68 9 (by omega)
        have c_89 : E16 (1 + d_51) 10 = .inl (kA 8, 6, .inr (.inr (.inr (.inr fo_68)))) := q10_68
        have m_90 : (1 + d_51, 10) ∈ RL := hm_68 10 (by omega)
        have c_91 : E16 (1 + d_51) 11 = .inl (kA 2, 5, .inl tr_68) := q11_68
        have m_92 : (1 + d_51, 11) ∈ RL := hm_68 11 (by omega)
        have c_93 : E16 (1 + d_51) 12 = .inl (kA 2, 5, .inl op_68) := q12_68
        have m_94 : (1 + d_51, 12) ∈ RL := hm_68 12 (by omega)
        have hg_68 : ∀ w9, w9 < k0_68 → fe_68 w9 = some (ad (1 + d_51) (20 + 3 * w9)) ∧ fo_68 w9 = some (ad (1 + d_51) (38 + 3 * w9)) ∧ GI kA (ad (1 + d_51)) (E16 (1 + d_51)) (fun o => (1 + d_51, o) ∈ RL) (20 + 3 * w9) (21 + 3 * w9) (22 + 3 * w9) ∧ GI kA (ad (1 + d_51)) (E16 (1 + d_51)) (fun o => (1 + d_51, o) ∈ RL) (38 + 3 * w9) (39 + 3 * w9) (40 + 3 * w9) := hg_68
        refine px_get (D := D) (ci := 7) (v := .ref (ad (1 + d_51) 1)) (C := xR_Ds) (T := xT_Ds) (N := 12) hx hb hT xi_Ds hown hK.1 hP m_70 c_69 rfl 3 (by decide) (hT _ yx_26) (fun _ h9 => h9) rfl xd_De_peek_56 ?_
        refine lv_iload hx hb xd_De_peek_59 (lv_at hl 2 rfl) ?_
        have hFc := px_free hD hS hA
        refine va_calli (va_runV (As := [.int r13]) (rest := []) ⟨hx, hb, hml, hown, hT⟩ (xc_Na_holds l D kA H.size ad E16 RL (1 + d_51) 1 5 6 k0_68 f0_68 r13 m_72 c_71 m_80 c_79 (by first | assumption | omega) (by first | assumption | omega)) (cwV 1 hT (wT_V yx_28 yx_29 yx_30 yx_31 yx_27) rfl rfl rfl (by decide +kernel) ⟨Nat.le_of_ble_eq_true rfl, Nat.le_of_ble_eq_true rfl⟩) (px_preV hK hP hD m_72 c_71 rfl) rfl rfl hl.1 rfl (lv_room (Nat.le_of_ble_eq_true rfl)) xd_De_peek_61 ⟨(Nat.le_of_ble_eq_true rfl), (Nat.le_of_ble_eq_true rfl)⟩) hS (fun q _ h => hFc q h) hFc (fun r95 u96 t H1 locs ht hvm hp97 hB hz1 hk1 hS => ?_)
        obtain ⟨hP1, hD1⟩ := hB
        rw [ht] at hP1
        have hD1 := hD1.weaken (fun _ _ _ h => hFc _ h)
        generalize H1 = H at hP1 hS ⊢
        have hP := hP1
        have hD := hD1
        have hP : va_P D xcl (rp ad E16 RL) H := hP
        have hD : va_D A (rp ad E16 RL) := hD
        rcases hp97 with ⟨rfl, z98, z99, z100⟩ | ⟨rfl, z101⟩
        · refine W.eq (g2 := F0 m 64 ls [.int 1]) rfl ?_
          refine lv_if_ne (tgt := 77) hx hb xd_De_peek_64 (by decide) (fun _ => ?_) (fun hc102 => absurd hc102 (by decide))
          refine lv_aload hx hb xd_De_peek_77 (lv_at hl 1 rfl) ?_
          refine lv_aload hx hb xd_De_peek_79 (lv_at hl 0 rfl) ?_
          refine lv_acmp_eq (rx := (some (ad (20 + z32) (10 + 10 * z33)))) (ry := (some (ad (20 + z46) (10 + 10 * z47)))) (tgt := 118) hx hb xd_De_peek_81 (by decide) (fun hc103 => ?_) (fun hc103 => ?_)
          · refine lv_iconst (v := 1) hx hb xd_De_peek_118 (by decide) ?_
            refine lv_goto (tgt := 123) hx hb xd_De_peek_119 (by decide) ?_
            refine W.widen (k := 1) (n := 6) (Nat.le_of_ble_eq_true rfl) (Nat.le_of_ble_eq_true rfl) ?_
            refine vx_ret ?_
            exact W.zret (v := 1) hx hb hr rfl (fun t ht hW => ⟨⟨1, E16, rfl, ⟨wn217, hCI⟩, by rw [ht]; exact hP, hD⟩, hS.F ht⟩) hS.2.2 xd_De_peek_123
          · refine lv_aload hx hb xd_De_peek_84 (lv_at hl 1 rfl) ?_
            obtain ⟨hm_104, d_104, rs_104, fr_104, g2_104, g3_104, g4_104, hd_104, hrs_104, q0_104, q1_104, q2_104, q3_104, q4_104, q5_104, q6_104, q7_104⟩ := id z35
            have c_105 : E16 (20 + z32) (10 + 10 * z33) = .inr (6, [.ref (ad (20 + z32) 0), .ref (ad (1 + d_104) 0), .ref (ad (20 + z32) (11 + 10 * z33)), .ref (ad (20 + z32) (12 + 10 * z33)), .ref (ad (20 + z32) (13 + 10 * z33)), .ref (ad (20 + z32) (14 + 10 * z33))]) := q0_104
            have m_106 : (20 + z32, 10 + 10 * z33) ∈ RL := hm_104 0 (by omega)
            have c_107 : E16 (20 + z32) (11 + 10 * z33) = .inl (kA 6, rs_104, .inr (.inr (.inr (.inr fr_104)))) := q1_104
            have m_108 : (20 + z32, 11 + 10 * z33) ∈ RL := hm_104 1 (by omega)
            have c_109 : E16 (20 + z32) (12 + 10 * z33) = .inr (10, [.ref (ad (20 + z32) (15 + 10 * z33))]) := q2_104
            have m_110 : (20 + z32, 12 + 10 * z33) ∈ RL := hm_104 2 (by omega)
            have c_111 : E16 (20 + z32) (13 + 10 * z33) = .inr (10, [.ref (ad (20 + z32) (16 + 10 * z33))]) := q3_104
            have m_112 : (20 + z32, 13 + 10 * z33) ∈ RL := hm_104 3 (by omega)
            have c_113 : E16 (20 + z32) (14 + 10 * z33) = .inr (10, [.ref (ad (20 + z32) (17 + 10 * z33))]) := q4_104
            have m_114 : (20 + z32, 14 + 10 * z33) ∈ RL := hm_104 4 (by omega)
            have c_115 : E16 (20 + z32) (15 + 10 * z33) = .inl (kA 0, 6, .inl g2_104) := q5_104
            have m_116 : (20 + z32, 15 + 10 * z33) ∈ RL := hm_104 5 (by omega)
            have c_117 : E16 (20 + z32) (16 + 10 * z33) = .inl (kA 0, 6, .inl g3_104) := q6_104
            have m_118 : (20 + z32, 16 + 10 * z33) ∈ RL := hm_104 6 (by omega)
            have c_119 : E16 (20 + z32) (17 + 10 * z33) = .inl (kA 0, 6, .inl g4_104) := q7_104
            have m_120 : (20 + z32, 17 + 10 * z33) ∈ RL := hm_104 7 (by omega)
            refine px_get (D := D) (ci := 6) (v := .ref (ad (20 + z32) (14 + 10 * z33))) (C := xR_Me) (T := xT_Me) (N := 6) hx hb hT xi_Me hown hK.1 hP m_106 c_105 rfl 5 (by decide) (hT _ yx_47) (fun _ h9 => h9) rfl xd_De_peek_86 ?_
            refine lv_aload hx hb xd_De_peek_89 (lv_at hl 0 rfl) ?_
            obtain ⟨m0_121, m1_121, pv_121, op_121, mk_121, fm_121, hmk_121, hpv_121, q0_121, q1_121, hk_121⟩ := id (hLIs z46 (by omega))
            have c_122 : E16 (20 + z46) 0 = .inr (5, [.int (nI z46), pv_121, .ref (ad (20 + z46) 1), .int op_121]) := q0_121
            have m_123 : (20 + z46, 0) ∈ RL := m0_121
            have c_124 : E16 (20 + z46) 1 = .inl (kA 6, mk_121, .inr (.inr (.inr (.inr fm_121)))) := q1_121
            have m_125 : (20 + z46, 1) ∈ RL := m1_121
            have hFc := px_free hD hS hA
            refine va_calli (va_runV (As := [.ref (ad (20 + z46) (10 + 10 * z47))]) (rest := []) ⟨hx, hb, hml, hown, hT⟩ (xc_Re_marks l D kA H.size ad E16 RL (20 + z32) (14 + 10 * z33) (17 + 10 * z33) g4_104 z46 z47 d_51 pv_121 op_121 fd_68 nm_68 sd_68 m_114 c_113 m_120 c_119 m_53 c_52 m_123 c_122 m_70 c_69 (by first | assumption | omega)) (cwV 1 hT (wT_V yx_49 yx_50 yx_51 yx_52 yx_48) rfl rfl rfl (by decide +kernel) ⟨Nat.le_of_ble_eq_true rfl, Nat.le_of_ble_eq_true rfl⟩) (px_preV hK hP hD m_114 c_113 rfl) rfl rfl hl.1 rfl (lv_room (Nat.le_of_ble_eq_true rfl)) xd_De_peek_91 ⟨(Nat.le_of_ble_eq_true rfl), (Nat.le_of_ble_eq_true rfl)⟩) hS (fun q _ h => hFc q h) hFc (fun r126 u127 t H1 locs ht hvm hp128 hB hz1 hk1 hS => ?_)
            obtain ⟨hP1, hD1⟩ := hB
            rw [ht] at hP1
            have hD1 := hD1.weaken (fun _ _ _ h => hFc _ h)
            generalize H1 = H at hP1 hS ⊢
            have hP := hP1
            have hD := hD1
            have hP : va_P D xcl (rp ad E16 RL) H := hP
            have hD : va_D A (rp ad E16 RL) := hD
            rcases hp128 with ⟨rfl, z129⟩ | ⟨rfl, z130⟩
            · refine W.eq (g2 := F0 m 94 ls [.int 1]) rfl ?_
              refine lv_if_eq (tgt := 122) hx hb xd_De_peek_94 (by decide) (fun hc131 => absurd hc131 (by decide)) (fun _ => ?_)
              refine lv_aload hx hb xd_De_peek_97 (lv_at hl 0 rfl) ?_
              refine px_get (D := D) (ci := 6) (v := .ref (ad (1 + d_51) 0)) (C := xR_Me) (T := xT_Me) (N := 6) hx hb hT xi_Me hown hK.1 hP m_53 c_52 rfl 1 (by decide) (hT _ yx_25) (fun _ h9 => h9) rfl xd_De_peek_99 ?_
              refine lv_iload hx hb xd_De_peek_102 (lv_at hl 2 rfl) ?_
              refine lv_aload hx hb xd_De_peek_104 (lv_at hl 1 rfl) ?_
              refine px_get (D := D) (ci := 6) (v := .ref (ad (1 + d_104) 0)) (C := xR_Me) (T := xT_Me) (N := 6) hx hb hT xi_Me hown hK.1 hP m_106 c_105 rfl 1 (by decide) (hT _ yx_25) (fun _ h9 => h9) rfl xd_De_peek_106 ?_
              obtain ⟨hm_132, fd_132, nm_132, sd_132, k0_132, k1_132, k2_132, k3_132, f0_132, f1_132, f2_132, f3_132, fe_132, fo_132, tr_132, op_132, hk0_132, hk1_132, hk2_132, hk3_132, q0_132, q1_132, q2_132, q3_132, q4_132, q5_132, q6_132, q7_132, q8_132, q9_132, q10_132, q11_132, q12_132, hg_132⟩ := id (hDIs d_104 (by omega))
              have c_133 : E16 (1 + d_104) 0 = .inr (7, [.int (nI d_104), .int fd_132, .int nm_132, .ref (ad (1 + d_104) 1), .ref (ad (1 + d_104) 9), .ref (ad (1 + d_104) 10), .ref (ad (1 + d_104) 2), .ref (ad (1 + d_104) 11), .ref (ad (1 + d_104) 12), .ref (ad (1 + d_104) 3), .ref (ad (1 + d_104) 4), .int sd_132]) := q0_132
              have m_134 : (1 + d_104, 0) ∈ RL := hm_132 0 (by omega)
              have c_135 : E16 (1 + d_104) 1 = .inr (8, [.ref (ad (1 + d_104) 5), .int (nI k0_132)]) := q1_132
              have m_136 : (1 + d_104, 1) ∈ RL := hm_132 1 (by omega)
              have c_137 : E16 (1 + d_104) 2 = .inr (8, [.ref (ad (1 + d_104) 6), .int (nI k1_132)]) := q2_132
              have m_138 : (1 + d_104, 2) ∈ RL := hm_132 2 (by omega)
              have c_139 : E16 (1 + d_104) 3 = .inr (8, [.ref (ad (1 + d_104) 7), .int (nI k2_132)]) := q3_132
              have m_140 : (1 + d_104, 3) ∈ RL := hm_132 3 (by omega)
              have c_141 : E16 (1 + d_104) 4 = .inr (8, [.ref (ad (1 + d_104) 8), .int (nI k3_132)]) := q4_132
              have m_142 : (1 + d_104, 4) ∈ RL := hm_132 4 (by omega)
              have c_143 : E16 (1 + d_104) 5 = .inl (kA 0, 6, .inl f0_132) := q5_132
              have m_144 : (1 + d_104, 5) ∈ RL := hm_132 5 (by omega)
              have c_145 : E16 (1 + d_104) 6 = .inl (kA 0, 5, .inl f1_132) := q6_132
              have m_146 : (1 + d_104, 6) ∈ RL := hm_132 6 (by omega)
              have c_147 : E16 (1 + d_104) 7 = .inl (kA 0, 3, .inl f2_132) := q7_132
              have m_148 : (1 + d_104, 7) ∈ RL := hm_132 7 (by omega)
              have c_149 : E16 (1 + d_104) 8 = .inl (kA 0, 3, .inl f3_132) := q8_132
              have m_150 : (1 + d_104, 8) ∈ RL := hm_132 8 (by omega)
              have c_151 : E16 (1 + d_104) 9 = .inl (kA 8, 6, .inr (.inr (.inr (.inr fe_132)))) := q9_132
              have m_152 : (1 + d_104, 9) ∈ RL := hm_132 9 (by omega)
              have c_153 : E16 (1 + d_104) 10 = .inl (kA 8, 6, .inr (.inr (.inr (.inr fo_132)))) := q10_132
              have m_154 : (1 + d_104, 10) ∈ RL := hm_132 10 (by omega)
              have c_155 : E16 (1 + d_104) 11 = .inl (kA 2, 5, .inl tr_132) := q11_132
              have m_156 : (1 + d_104, 11) ∈ RL := hm_132 11 (by omega)
              have c_157 : E16 (1 + d_104) 12 = .inl (kA 2, 5, .inl op_132) := q12_132
              have m_158 : (1 + d_104, 12) ∈ RL := hm_132 12 (by omega)
              have hg_132 : ∀ w9, w9 < k0_132 → fe_132 w9 = some (ad (1 + d_104) (20 + 3 * w9)) ∧ fo_132 w9 = some (ad (1 + d_104) (38 + 3 * w9)) ∧ GI kA (ad (1 + d_104)) (E16 (1 + d_104)) (fun o => (1 + d_104, o) ∈ RL) (20 + 3 * w9) (21 + 3 * w9) (22 + 3 * w9) ∧ GI kA (ad (1 + d_104)) (E16 (1 + d_104)) (fun o => (1 + d_104, o) ∈ RL) (38 + 3 * w9) (39 + 3 * w9) (40 + 3 * w9) := hg_132
              refine px_get (D := D) (ci := 7) (v := .int nm_132) (C := xR_Ds) (T := xT_Ds) (N := 12) hx hb hT xi_Ds hown hK.1 hP m_134 c_133 rfl 2 (by decide) (hT _ yx_53) (fun _ h9 => h9) rfl xd_De_peek_109 ?_
              have hFc := px_free hD hS hA
              refine va_calli (va_runV (As := [.int r13, .int nm_132]) (rest := []) ⟨hx, hb, hml, hown, hT⟩ (xc_Ds_opensTo l D kA H.size ad E16 RL nd d_51 r13 nm_132 (by first | assumption | omega) (by first | assumption | omega)) (cwV 2 hT (wT_V yx_55 yx_56 yx_57 yx_58 yx_54) rfl rfl rfl (by decide +kernel) ⟨Nat.le_of_ble_eq_true rfl, Nat.le_of_ble_eq_true rfl⟩) (px_preV hK hP hD m_70 c_69 rfl) rfl rfl hl.1 rfl (lv_room (Nat.le_of_ble_eq_true rfl)) xd_De_peek_112 ⟨(Nat.le_of_ble_eq_true rfl), (Nat.le_of_ble_eq_true rfl)⟩) hS (fun q _ h => hFc q h) hFc (fun r159 u160 t H1 locs ht hvm hp161 hB hz1 hk1 hS => ?_)
              obtain ⟨hP1, hD1⟩ := hB
              rw [ht] at hP1
              have hD1 := hD1.weaken (fun _ _ _ h => hFc _ h)
              generalize H1 = H at hP1 hS ⊢
              have hP := hP1
              have hD := hD1
              have hP : va_P D xcl (rp ad E16 RL) H := hP
              have hD : va_D A (rp ad E16 RL) := hD
              rcases hp161 with rfl | rfl
              · refine W.eq (g2 := F0 m 115 ls [.int 0]) rfl ?_
                refine lv_if_eq (tgt := 122) hx hb xd_De_peek_115 (by decide) (fun _ => ?_) (fun hc162 => absurd (by decide) hc162)
                refine lv_iconst (v := 0) hx hb xd_De_peek_122 (by decide) ?_
                refine W.widen (k := 1) (n := 6) (Nat.le_of_ble_eq_true rfl) (Nat.le_of_ble_eq_true rfl) ?_
                refine vx_ret ?_
                exact W.zret (v := 0) hx hb hr rfl (fun t ht hW => ⟨⟨0, E16, rfl, ⟨wn217, hCI⟩, by rw [ht]; exact hP, hD⟩, hS.F ht⟩) hS.2.2 xd_De_peek_123
              · refine W.eq (g2 := F0 m 115 ls [.int 1]) rfl ?_
                refine lv_if_eq (tgt := 122) hx hb xd_De_peek_115 (by decide) (fun hc163 => absurd hc163 (by decide)) (fun _ => ?_)
                refine lv_iconst (v := 1) hx hb xd_De_peek_118 (by decide) ?_
                refine lv_goto (tgt := 123) hx hb xd_De_peek_119 (by decide) ?_
                refine W.widen (k := 1) (n := 6) (Nat.le_of_ble_eq_true rfl) (Nat.le_of_ble_eq_true rfl) ?_
                refine vx_ret ?_
                exact W.zret (v := 1) hx hb hr rfl (fun t ht hW => ⟨⟨1, E16, rfl, ⟨wn217, hCI⟩, by rw [ht]; exact hP, hD⟩, hS.F ht⟩) hS.2.2 xd_De_peek_123
            · refine W.eq (g2 := F0 m 94 ls [.int 0]) rfl ?_
              refine lv_if_eq (tgt := 122) hx hb xd_De_peek_94 (by decide) (fun _ => ?_) (fun hc164 => absurd (by decide) hc164)
              refine lv_iconst (v := 0) hx hb xd_De_peek_122 (by decide) ?_
              refine W.widen (k := 1) (n := 6) (Nat.le_of_ble_eq_true rfl) (Nat.le_of_ble_eq_true rfl) ?_
              refine vx_ret ?_
              exact W.zret (v := 0) hx hb hr rfl (fun t ht hW => ⟨⟨0, E16, rfl, ⟨wn217, hCI⟩, by rw [ht]; exact hP, hD⟩, hS.F ht⟩) hS.2.2 xd_De_peek_123
        · refine W.eq (g2 := F0 m 64 ls [.int 0]) rfl ?_
          refine lv_if_ne (tgt := 77) hx hb xd_De_peek_64 (by decide) (fun hc165 => absurd (by decide) hc165) (fun _ => ?_)
          exact y_throwC (ik := 89) (is := 181) (wf := fun (u : Nat → Nat → va_E) => rp ad u RL) E16 (⟨wn217, hCI⟩) (Or.inr rfl) hx hb hlt hown hT hK yx_41 yx_42 hZ.2.2.2.1.2.2.2.2.2.2.2.2.2.2.2.2.2.2.2.2.2.2.2.1 hZ.1 hS hP hD (hl.1.trans hml.symm) xd_De_peek_67 xd_De_peek_70 xd_De_peek_71 xd_De_peek_73 xd_De_peek_76 htab (Nat.le_of_ble_eq_true rfl) (Nat.le_of_ble_eq_true rfl) (Nat.le_of_ble_eq_true rfl) (Nat.le_of_ble_eq_true rfl) hlocks (Nat.le_of_ble_eq_true rfl) (Nat.le_of_ble_eq_true rfl)
      · exact y_throwA (ik := 56) (is := 161) (wf := fun (u : Nat → Nat → va_E) => rp ad u RL) E16 (⟨wn217, hCI⟩) (Or.inl rfl) hx hb hlt hown hT hK yx_14 yx_15 hZ.2.2.2.1.2.2.2.2.2.2.2.2.2.2.2.2.2.2.2.2.2.1 hZ.1 hS hP hD (hl.1.trans hml.symm) xd_De_peek_41 xd_De_peek_44 xd_De_peek_45 xd_De_peek_47 xd_De_peek_50 htab (Nat.le_of_ble_eq_true rfl) (Nat.le_of_ble_eq_true rfl) (Nat.le_of_ble_eq_true rfl) (Nat.le_of_ble_eq_true rfl) hlocks (Nat.le_of_ble_eq_true rfl) (Nat.le_of_ble_eq_true rfl)
set_option maxHeartbeats 4000000 in
set_option maxRecDepth 100000 in
theorem xc_De_provider (l : Launch) (hlt : l.stackTraces = false) (D : va_G) (kA : Nat → ClassId) (sz : Nat) (ad : Nat → Nat → Nat) (E : Nat → Nat → va_E) (RL : List (Nat × Nat)) (Z : zT) (ml : Nat) (nd : Nat) (len : Nat) (wn : Nat) (cs : Nat) (ix : Int32) (kx : Int32) (hCI : CI kA ad E RL ml nd len wn cs) : vx_Met l xy_De_provider (.code xy_De_provider xb_De_provider 6 (some .int) :: wT) { frames := 6, cells := 1, slots := 6, locals := 82 } (va_Pc [.ref (ad 0 0), .int ix, .int kx] (xPreZ D kA sz (rp ad E RL) Z)) (va_Qi (fun (r : Int32) (u : Nat → Nat → va_E) => ∃ wn2, CI kA ad u RL ml nd 0 wn2 cs) (fun (u : Nat → Nat → va_E) t => va_P D xcl (rp ad u RL) t.heap ∧ va_D (va_A (rp ad E RL) sz) (rp ad u RL)) (va_A (rp ad E RL) sz)) (vx_X (fun (u : Nat → Nat → va_E) => ∃ wn2, CI kA ad u RL ml nd 0 wn2 cs) (fun E9 u t => (E9 = "java/lang/IllegalArgumentException") ∧ va_P D xcl (rp ad u RL) t.heap ∧ va_D (va_A (rp ad E RL) sz) (rp ad u RL)) (va_A (rp ad E RL) sz)) 1 6 (va_A (rp ad E RL) sz) := by
  refine vx_ofW (cc := xb_De_provider) (maxL := 6) (ret := (some .int)) (by decide) rfl ?_
  intro p e s m args below meth c s₁ B hml htab hv
  obtain ⟨rfl, ⟨hsz, hP, hK, hD0⟩, hZ⟩ := hv
  have hx := B.exec
  have hb := B.bytes
  have hr := B.returns
  have hT := x_hT B.pre
  have hown : s.vm.findClass xR_De = some m.cls := findClass_of_methodNamed B.named
  have hlocks := B.notSynchronized
  subst hsz
  have hD := hD0.self (sz := s.heap.size)
  generalize hAe : va_A (rp ad E RL) s.heap.size = A at hD hZ ⊢
  have hA : ∀ q : Nat, s.heap.size ≤ q → A q := fun q h => by rw [← hAe]; exact Or.inr h
  have hS : va_S A s.heap s.heap [] := va_S.rf
  have hl := lv_entry ([.ref (ad 0 0), .int ix, .int kx]) (n := 6) (Nat.le_of_ble_eq_true rfl)
  rw [lg_entry_eq]
  generalize (lg_sl ([.ref (ad 0 0), .int ix, .int kx]) ++ List.replicate (6 - (lg_sl ([.ref (ad 0 0), .int ix, .int kx])).length) Slot.unset).toArray = ls at hl ⊢
  have hl : lv_has ls 6 [(0, .ref (ad 0 0)), (1, .int ix), (2, .int kx)] := hl
  have hP : va_P D xcl (rp ad E RL) s.heap := hP
  obtain ⟨hmB, hDk, hLi, hSh, hCh, hLa, hDIs, hLIs⟩ := id hCI
  obtain ⟨lf_1, q_1⟩ := id (hDk)
  have c_2 : E 0 0 = .inr (0, [.ref (ad 0 1), .ref (ad 0 5), .ref (ad 0 7), .ref (ad 0 9), .int (nI ml), .int lf_1]) := q_1
  have m_3 : (0, 0) ∈ RL := hmB 0 (by omega)
  refine lv_aload_n hx hb xd_De_provider_0 rfl (lv_at hl 0 rfl) ?_
  refine px_get (D := D) (ci := 0) (v := .ref (ad 0 1)) (C := xR_De) (T := xT_De) (N := 6) hx hb hT xi_De hown hK.1 hP m_3 c_2 rfl 0 (by decide) (hT _ yx_0) (fun _ h9 => h9) rfl xd_De_provider_1 ?_
  have hFc := px_free hD hS hA
  obtain ⟨tx_4, fb_4, fe_4, hl1_4, hw2_4, q1_4, q2_4, q3_4, q4_4, hws_4⟩ := id (hLi)
  have c_5 : E 0 1 = .inr (1, [.ref (ad 0 2), .ref (ad 0 3), .ref (ad 0 4), .int (nI len), .int (nI wn)]) := q1_4
  have m_6 : (0, 1) ∈ RL := hmB 1 (by omega)
  have c_7 : E 0 2 = .inl (kA 1, 40, .inl tx_4) := q2_4
  have m_8 : (0, 2) ∈ RL := hmB 2 (by omega)
  have c_9 : E 0 3 = .inl (kA 0, 20, .inl fb_4) := q3_4
  have m_10 : (0, 3) ∈ RL := hmB 3 (by omega)
  have c_11 : E 0 4 = .inl (kA 0, 20, .inl fe_4) := q4_4
  have m_12 : (0, 4) ∈ RL := hmB 4 (by omega)
  refine va_calli (va_runV (As := []) (rest := []) ⟨hx, hb, hml, hown, hT⟩ (xc_Li_takeName l D kA s.heap.size ad E RL ml nd len wn cs (by first | assumption | omega)) (cwV 0 hT (wT_V yx_17 yx_18 yx_19 yx_5 yx_16) rfl rfl rfl (by decide +kernel) ⟨Nat.le_of_ble_eq_true rfl, Nat.le_of_ble_eq_true rfl⟩) (px_preV hK hP hD m_6 c_5 rfl) rfl rfl hl.1 rfl (lv_room (Nat.le_of_ble_eq_true rfl)) xd_De_provider_4 ⟨(Nat.le_of_ble_eq_true rfl), (Nat.le_of_ble_eq_true rfl)⟩) hS (fun q _ h => hFc q h) hFc (fun r13 u14 t H1 locs ht hvm hp15 hB hz1 hk1 hS => ?_)
  obtain ⟨hP1, hD1⟩ := hB
  rw [ht] at hP1
  have hD1 := hD1.weaken (fun _ _ _ h => hFc _ h)
  generalize H1 = H at hP1 hS ⊢
  have hP := hP1
  have hD := hD1
  obtain ⟨E16, rfl⟩ : ∃ z, z = u14 := ⟨_, rfl⟩
  have hP : va_P D xcl (rp ad E16 RL) H := hP
  have hD : va_D A (rp ad E16 RL) := hD
  obtain ⟨wn217, hCI⟩ := hp15
  have hCI : CI kA ad E16 RL ml nd 0 wn217 cs := hCI
  obtain ⟨hmB, hDk, hLi, hSh, hCh, hLa, hDIs, hLIs⟩ := id hCI
  obtain ⟨lf_18, q_18⟩ := id (hDk)
  have c_19 : E16 0 0 = .inr (0, [.ref (ad 0 1), .ref (ad 0 5), .ref (ad 0 7), .ref (ad 0 9), .int (nI ml), .int lf_18]) := q_18
  have m_20 : (0, 0) ∈ RL := hmB 0 (by omega)
  obtain ⟨fd_21, hnd_21, q5_21, q6_21, hds_21⟩ := id (hSh)
  have c_22 : E16 0 5 = .inr (2, [.ref (ad 0 6), .int (nI nd)]) := q5_21
  have m_23 : (0, 5) ∈ RL := hmB 5 (by omega)
  have c_24 : E16 0 6 = .inl (kA 4, 12, .inr (.inr (.inr (.inr fd_21)))) := q6_21
  have m_25 : (0, 6) ∈ RL := hmB 6 (by omega)
  obtain ⟨fl_26, hml_26, q9_26, hla_26⟩ := id (hLa)
  have c_27 : E16 0 9 = .inl (kA 5, 5, .inr (.inr (.inr (.inr fl_26)))) := q9_26
  have m_28 : (0, 9) ∈ RL := hmB 9 (by omega)
  refine lv_istore_n hx hb xd_De_provider_7 rfl hl (Nat.le_of_ble_eq_true rfl) rfl (fun ls hl => ?_)
  have hl : lv_has ls 6 [(3, .int r13), (0, .ref (ad 0 0)), (1, .int ix), (2, .int kx)] := hl
  refine lv_aload_n hx hb xd_De_provider_8 rfl (lv_at hl 1 rfl) ?_
  refine lv_iload_n hx hb xd_De_provider_9 rfl (lv_at hl 2 rfl) ?_
  have hFc := px_free hD hS hA
  refine va_callq (va_runV (As := [.int ix]) (rest := []) ⟨hx, hb, hml, hown, hT⟩ (xc_De_openLayer l D kA H.size ad E16 RL ml nd 0 wn217 cs ix (by first | assumption | omega)) (cwV 1 hT (wT_V yx_60 yx_61 yx_62 yx_24 yx_59) rfl rfl rfl (by decide +kernel) ⟨Nat.le_of_ble_eq_true rfl, Nat.le_of_ble_eq_true rfl⟩) (px_preV hK hP hD m_20 c_19 rfl) rfl rfl hl.1 rfl (lv_room (Nat.le_of_ble_eq_true rfl)) xd_De_provider_10 ⟨(Nat.le_of_ble_eq_true rfl), (Nat.le_of_ble_eq_true rfl)⟩) hS (fun q _ h => hFc q h) hFc (fun r29 u30 t H1 locs ht hvm hp31 hB hz1 hk1 hS => ?_)
  obtain ⟨hP1, hD1⟩ := hB
  rw [ht] at hP1
  have hD1 := hD1.weaken (fun _ _ _ h => hFc _ h)
  generalize H1 = H at hP1 hS ⊢
  have hP := hP1
  have hD := hD1
  have hP : va_P D xcl (rp ad E16 RL) H := hP
  have hD : va_D A (rp ad E16 RL) := hD
  rcases hp31 with rfl | ⟨z32, z33, z34, rfl⟩
  · refine W.eq (g2 := F0 m 13 ls [.null]) rfl ?_
    refine lv_astoreN hx hb xd_De_provider_13 hl (Nat.le_of_ble_eq_true rfl) rfl (fun ls hl => ?_)
    have hl : lv_has ls 6 [(4, .null), (3, .int r13), (0, .ref (ad 0 0)), (1, .int ix), (2, .int kx)] := hl
    refine lv_aloadN hx hb xd_De_provider_15 (lv_at hl 0 rfl) ?_
    refine lv_ifnullN (tgt := 24) hx hb xd_De_provider_17 (by decide) ?_
    exact y_throwA (ik := 56) (is := 190) (wf := fun (u : Nat → Nat → va_E) => rp ad u RL) E16 (⟨wn217, hCI⟩) rfl hx hb hlt hown hT hK yx_14 yx_15 hZ.2.2.2.1.2.2.2.2.2.2.2.2.2.2.2.2.2.2.2.2.2.2.2.2 hZ.1 hS hP hD (hl.1.trans hml.symm) xd_De_provider_24 xd_De_provider_27 xd_De_provider_28 xd_De_provider_30 xd_De_provider_33 htab (Nat.le_of_ble_eq_true rfl) (Nat.le_of_ble_eq_true rfl) (Nat.le_of_ble_eq_true rfl) (Nat.le_of_ble_eq_true rfl) hlocks (Nat.le_of_ble_eq_true rfl) (Nat.le_of_ble_eq_true rfl)
  · refine W.eq (g2 := F0 m 13 ls [.ref (ad (20 + z32) 0)]) rfl ?_
    refine lv_astore hx hb xd_De_provider_13 hl (Nat.le_of_ble_eq_true rfl) rfl (fun ls hl => ?_)
    have hl : lv_has ls 6 [(4, .ref (ad (20 + z32) 0)), (3, .int r13), (0, .ref (ad 0 0)), (1, .int ix), (2, .int kx)] := hl
    refine lv_aload hx hb xd_De_provider_15 (lv_at hl 0 rfl) ?_
    refine lv_ifnull hx hb xd_De_provider_17 ?_
    refine lv_iload_n hx hb xd_De_provider_20 rfl (lv_at hl 1 rfl) ?_
    refine lv_if_ne (tgt := 34) hx hb xd_De_provider_21 (by decide) (fun hc35 => ?_) (fun hc35 => ?_)
    · refine lv_aload hx hb xd_De_provider_34 (lv_at hl 0 rfl) ?_
      refine lv_iload_n hx hb xd_De_provider_36 rfl (lv_at hl 1 rfl) ?_
      refine lv_iload_n hx hb xd_De_provider_37 rfl (lv_at hl 4 rfl) ?_
      have hFc := px_free hD hS hA
      obtain ⟨m0_36, m1_36, pv_36, op_36, mk_36, fm_36, hmk_36, hpv_36, q0_36, q1_36, hk_36⟩ := id (hLIs z32 (by omega))
      have c_37 : E16 (20 + z32) 0 = .inr (5, [.int (nI z32), pv_36, .ref (ad (20 + z32) 1), .int op_36]) := q0_36
      have m_38 : (20 + z32, 0) ∈ RL := m0_36
      have c_39 : E16 (20 + z32) 1 = .inl (kA 6, mk_36, .inr (.inr (.inr (.inr fm_36)))) := q1_36
      have m_40 : (20 + z32, 1) ∈ RL := m1_36
      refine va_callq (va_runV (As := [.int r13, .int kx]) (rest := []) ⟨hx, hb, hml, hown, hT⟩ (xc_Ly_providerOf l D kA H.size ad E16 RL nd ml z32 r13 kx (by first | assumption | omega) (by first | assumption | omega) (by first | assumption | omega) (by first | assumption | omega)) (cwV 2 hT (wT_V yx_64 yx_65 yx_66 yx_67 yx_63) rfl rfl rfl (by decide +kernel) ⟨Nat.le_of_ble_eq_true rfl, Nat.le_of_ble_eq_true rfl⟩) (px_preV hK hP hD m_38 c_37 rfl) rfl rfl hl.1 rfl (lv_room (Nat.le_of_ble_eq_true rfl)) xd_De_provider_38 ⟨(Nat.le_of_ble_eq_true rfl), (Nat.le_of_ble_eq_true rfl)⟩) hS (fun q _ h => hFc q h) hFc (fun r41 u42 t H1 locs ht hvm hp43 hB hz1 hk1 hS => ?_)
      obtain ⟨hP1, hD1⟩ := hB
      rw [ht] at hP1
      have hD1 := hD1.weaken (fun _ _ _ h => hFc _ h)
      generalize H1 = H at hP1 hS ⊢
      have hP := hP1
      have hD := hD1
      have hP : va_P D xcl (rp ad E16 RL) H := hP
      have hD : va_D A (rp ad E16 RL) := hD
      rcases hp43 with rfl | ⟨z44, z45, z46, rfl, z47⟩
      · refine W.eq (g2 := F0 m 41 ls [.null]) rfl ?_
        refine lv_astoreN hx hb xd_De_provider_41 hl (Nat.le_of_ble_eq_true rfl) rfl (fun ls hl => ?_)
        have hl : lv_has ls 6 [(5, .null), (4, .ref (ad (20 + z32) 0)), (3, .int r13), (0, .ref (ad 0 0)), (1, .int ix), (2, .int kx)] := hl
        refine lv_aloadN hx hb xd_De_provider_43 (lv_at hl 0 rfl) ?_
        refine lv_ifnonnullN hx hb xd_De_provider_45 ?_
        refine lv_iconst (v := (-1)) hx hb xd_De_provider_48 (by decide) ?_
        refine lv_goto (tgt := 57) hx hb xd_De_provider_49 (by decide) ?_
        refine W.widen (k := 1) (n := 6) (Nat.le_of_ble_eq_true rfl) (Nat.le_of_ble_eq_true rfl) ?_
        refine vx_ret ?_
        exact W.iret (v := (-1)) hx hb hr (fun t ht hW => ⟨⟨(-1), E16, rfl, ⟨wn217, hCI⟩, by rw [ht]; exact hP, hD⟩, hS.F ht⟩) hS.2.2 xd_De_provider_57
      · refine W.eq (g2 := F0 m 41 ls [.ref (ad (20 + z44) (10 + 10 * z45))]) rfl ?_
        refine lv_astore hx hb xd_De_provider_41 hl (Nat.le_of_ble_eq_true rfl) rfl (fun ls hl => ?_)
        have hl : lv_has ls 6 [(5, .ref (ad (20 + z44) (10 + 10 * z45))), (4, .ref (ad (20 + z32) 0)), (3, .int r13), (0, .ref (ad 0 0)), (1, .int ix), (2, .int kx)] := hl
        refine lv_aload hx hb xd_De_provider_43 (lv_at hl 0 rfl) ?_
        refine lv_ifnonnull (tgt := 52) hx hb xd_De_provider_45 (by decide) ?_
        refine lv_aload hx hb xd_De_provider_52 (lv_at hl 0 rfl) ?_
        have hFc := px_free hD hS hA
        obtain ⟨hm_48, d_48, rs_48, fr_48, g2_48, g3_48, g4_48, hd_48, hrs_48, q0_48, q1_48, q2_48, q3_48, q4_48, q5_48, q6_48, q7_48⟩ := id z47
        have c_49 : E16 (20 + z44) (10 + 10 * z45) = .inr (6, [.ref (ad (20 + z44) 0), .ref (ad (1 + d_48) 0), .ref (ad (20 + z44) (11 + 10 * z45)), .ref (ad (20 + z44) (12 + 10 * z45)), .ref (ad (20 + z44) (13 + 10 * z45)), .ref (ad (20 + z44) (14 + 10 * z45))]) := q0_48
        have m_50 : (20 + z44, 10 + 10 * z45) ∈ RL := hm_48 0 (by omega)
        have c_51 : E16 (20 + z44) (11 + 10 * z45) = .inl (kA 6, rs_48, .inr (.inr (.inr (.inr fr_48)))) := q1_48
        have m_52 : (20 + z44, 11 + 10 * z45) ∈ RL := hm_48 1 (by omega)
        have c_53 : E16 (20 + z44) (12 + 10 * z45) = .inr (10, [.ref (ad (20 + z44) (15 + 10 * z45))]) := q2_48
        have m_54 : (20 + z44, 12 + 10 * z45) ∈ RL := hm_48 2 (by omega)
        have c_55 : E16 (20 + z44) (13 + 10 * z45) = .inr (10, [.ref (ad (20 + z44) (16 + 10 * z45))]) := q3_48
        have m_56 : (20 + z44, 13 + 10 * z45) ∈ RL := hm_48 3 (by omega)
        have c_57 : E16 (20 + z44) (14 + 10 * z45) = .inr (10, [.ref (ad (20 + z44) (17 + 10 * z45))]) := q4_48
        have m_58 : (20 + z44, 14 + 10 * z45) ∈ RL := hm_48 4 (by omega)
        have c_59 : E16 (20 + z44) (15 + 10 * z45) = .inl (kA 0, 6, .inl g2_48) := q5_48
        have m_60 : (20 + z44, 15 + 10 * z45) ∈ RL := hm_48 5 (by omega)
        have c_61 : E16 (20 + z44) (16 + 10 * z45) = .inl (kA 0, 6, .inl g3_48) := q6_48
        have m_62 : (20 + z44, 16 + 10 * z45) ∈ RL := hm_48 6 (by omega)
        have c_63 : E16 (20 + z44) (17 + 10 * z45) = .inl (kA 0, 6, .inl g4_48) := q7_48
        have m_64 : (20 + z44, 17 + 10 * z45) ∈ RL := hm_48 7 (by omega)
        refine va_calli (va_runV (As := []) (rest := []) ⟨hx, hb, hml, hown, hT⟩ (xc_Me_code l D kA H.size ad E16 RL nd ml z44 z45 (by first | assumption | omega) (by first | assumption | omega) (by first | assumption | omega) (by first | assumption | omega) (by first | assumption | omega)) (cwV 0 hT (wT_V yx_33 yx_34 yx_35 yx_36 yx_32) rfl rfl rfl (by decide +kernel) ⟨Nat.le_of_ble_eq_true rfl, Nat.le_of_ble_eq_true rfl⟩) (px_preV hK hP hD m_50 c_49 rfl) rfl rfl hl.1 rfl (lv_room (Nat.le_of_ble_eq_true rfl)) xd_De_provider_54 ⟨(Nat.le_of_ble_eq_true rfl), (Nat.le_of_ble_eq_true rfl)⟩) hS (fun q _ h => hFc q h) hFc (fun r65 u66 t H1 locs ht hvm hp67 hB hz1 hk1 hS => ?_)
        obtain ⟨hP1, hD1⟩ := hB
        rw [ht] at hP1
        have hD1 := hD1.weaken (fun _ _ _ h => hFc _ h)
        generalize H1 = H at hP1 hS ⊢
        have hP := hP1
        have hD := hD1
        have hP : va_P D xcl (rp ad E16 RL) H := hP
        have hD : va_D A (rp ad E16 RL) := hD
        refine W.widen (k := 1) (n := 6) (Nat.le_of_ble_eq_true rfl) (Nat.le_of_ble_eq_true rfl) ?_
        refine vx_ret ?_
        exact W.iret (v := r65) hx hb hr (fun t ht hW => ⟨⟨r65, E16, rfl, ⟨wn217, hCI⟩, by rw [ht]; exact hP, hD⟩, hS.F ht⟩) hS.2.2 xd_De_provider_57
    · exact y_throwA (ik := 56) (is := 190) (wf := fun (u : Nat → Nat → va_E) => rp ad u RL) E16 (⟨wn217, hCI⟩) rfl hx hb hlt hown hT hK yx_14 yx_15 hZ.2.2.2.1.2.2.2.2.2.2.2.2.2.2.2.2.2.2.2.2.2.2.2.2 hZ.1 hS hP hD (hl.1.trans hml.symm) xd_De_provider_24 xd_De_provider_27 xd_De_provider_28 xd_De_provider_30 xd_De_provider_33 htab (Nat.le_of_ble_eq_true rfl) (Nat.le_of_ble_eq_true rfl) (Nat.le_of_ble_eq_true rfl) (Nat.le_of_ble_eq_true rfl) hlocks (Nat.le_of_ble_eq_true rfl) (Nat.le_of_ble_eq_true rfl)
set_option maxHeartbeats 4000000 in
set_option maxRecDepth 100000 in
theorem xc_De_layer (l : Launch) (hlt : l.stackTraces = false) (D : va_G) (kA : Nat → ClassId) (sz : Nat) (ad : Nat → Nat → Nat) (E : Nat → Nat → va_E) (RL : List (Nat × Nat)) (Z : zT) (ml : Nat) (nd : Nat) (len : Nat) (wn : Nat) (cs : Nat) (fi : Int32) (px : Int32) (bi : Int32) (hCI : CI kA ad E RL ml nd len wn cs) : vx_Met l xy_De_layer (.code xy_De_layer xb_De_layer 7 (some .int) :: wT) { frames := 23, cells := 101, slots := 430, locals := 1284 } (va_Pc [.ref (ad 0 0), .int fi, .int px, .int bi] (xPreZ D kA sz (rp ad E RL) Z)) (va_Qi (fun (r : Int32) (u : (Nat → Nat → Nat) × (Nat → Nat → va_E) × List (Nat × Nat)) => (∃ ml2 wn2 cs2, CI kA u.1 u.2.1 u.2.2 ml2 nd 0 wn2 cs2) ∧ u.1 0 0 = ad 0 0) (fun (u : (Nat → Nat → Nat) × (Nat → Nat → va_E) × List (Nat × Nat)) t => va_P D xcl (rp u.1 u.2.1 u.2.2) t.heap ∧ va_D (va_A (rp ad E RL) sz) (rp u.1 u.2.1 u.2.2)) (va_A (rp ad E RL) sz)) (vx_X (fun (u : (Nat → Nat → Nat) × (Nat → Nat → va_E) × List (Nat × Nat)) => (∃ ml2 wn2 cs2, CI kA u.1 u.2.1 u.2.2 ml2 nd 0 wn2 cs2) ∧ u.1 0 0 = ad 0 0) (fun E9 u t => (E9 = "java/lang/IllegalArgumentException" ∨ E9 = "java/util/NoSuchElementException" ∨ E9 = "java/lang/IllegalStateException") ∧ va_P D xcl (rp u.1 u.2.1 u.2.2) t.heap ∧ va_D (va_A (rp ad E RL) sz) (rp u.1 u.2.1 u.2.2)) (va_A (rp ad E RL) sz)) 101 430 (va_A (rp ad E RL) sz) := by
  refine vx_ofW (cc := xb_De_layer) (maxL := 7) (ret := (some .int)) (by decide) rfl ?_
  intro p e s m args below meth c s₁ B hml htab hv
  obtain ⟨rfl, ⟨hsz, hP, hK, hD0⟩, hZ⟩ := hv
  have hx := B.exec
  have hb := B.bytes
  have hr := B.returns
  have hT := x_hT B.pre
  have hown : s.vm.findClass xR_De = some m.cls := findClass_of_methodNamed B.named
  have hlocks := B.notSynchronized
  subst hsz
  have hD := hD0.self (sz := s.heap.size)
  generalize hAe : va_A (rp ad E RL) s.heap.size = A at hD hZ ⊢
  have hA : ∀ q : Nat, s.heap.size ≤ q → A q := fun q h => by rw [← hAe]; exact Or.inr h
  have hS : va_S A s.heap s.heap [] := va_S.rf
  have hl := lv_entry ([.ref (ad 0 0), .int fi, .int px, .int bi]) (n := 7) (Nat.le_of_ble_eq_true rfl)
  rw [lg_entry_eq]
  generalize (lg_sl ([.ref (ad 0 0), .int fi, .int px, .int bi]) ++ List.replicate (7 - (lg_sl ([.ref (ad 0 0), .int fi, .int px, .int bi])).length) Slot.unset).toArray = ls at hl ⊢
  have hl : lv_has ls 7 [(0, .ref (ad 0 0)), (1, .int fi), (2, .int px), (3, .int bi)] := hl
  have hP : va_P D xcl (rp ad E RL) s.heap := hP
  obtain ⟨hmB, hDk, hLi, hSh, hCh, hLa, hDIs, hLIs⟩ := id hCI
  obtain ⟨lf_1, q_1⟩ := id (hDk)
  have c_2 : E 0 0 = .inr (0, [.ref (ad 0 1), .ref (ad 0 5), .ref (ad 0 7), .ref (ad 0 9), .int (nI ml), .int lf_1]) := q_1
  have m_3 : (0, 0) ∈ RL := hmB 0 (by omega)
  obtain ⟨tx_4, fb_4, fe_4, hl1_4, hw2_4, q1_4, q2_4, q3_4, q4_4, hws_4⟩ := id (hLi)
  have c_5 : E 0 1 = .inr (1, [.ref (ad 0 2), .ref (ad 0 3), .ref (ad 0 4), .int (nI len), .int (nI wn)]) := q1_4
  have m_6 : (0, 1) ∈ RL := hmB 1 (by omega)
  have c_7 : E 0 2 = .inl (kA 1, 40, .inl tx_4) := q2_4
  have m_8 : (0, 2) ∈ RL := hmB 2 (by omega)
  have c_9 : E 0 3 = .inl (kA 0, 20, .inl fb_4) := q3_4
  have m_10 : (0, 3) ∈ RL := hmB 3 (by omega)
  have c_11 : E 0 4 = .inl (kA 0, 20, .inl fe_4) := q4_4
  have m_12 : (0, 4) ∈ RL := hmB 4 (by omega)
  obtain ⟨fd_13, hnd_13, q5_13, q6_13, hds_13⟩ := id (hSh)
  have c_14 : E 0 5 = .inr (2, [.ref (ad 0 6), .int (nI nd)]) := q5_13
  have m_15 : (0, 5) ∈ RL := hmB 5 (by omega)
  have c_16 : E 0 6 = .inl (kA 4, 12, .inr (.inr (.inr (.inr fd_13)))) := q6_13
  have m_17 : (0, 6) ∈ RL := hmB 6 (by omega)
  obtain ⟨cf_18, pv_18, fc_18, hcs_18, hpv_18, q7_18, q8_18, hfc_18⟩ := id (hCh)
  have c_19 : E 0 7 = .inr (3, [.ref (ad 0 5), .ref (ad 0 8), .int (nI cs), .int cf_18, pv_18]) := q7_18
  have m_20 : (0, 7) ∈ RL := hmB 7 (by omega)
  have c_21 : E 0 8 = .inl (kA 4, 12, .inr (.inr (.inr (.inr fc_18)))) := q8_18
  have m_22 : (0, 8) ∈ RL := hmB 8 (by omega)
  obtain ⟨fl_23, hml_23, q9_23, hla_23⟩ := id (hLa)
  have c_24 : E 0 9 = .inl (kA 5, 5, .inr (.inr (.inr (.inr fl_23)))) := q9_23
  have m_25 : (0, 9) ∈ RL := hmB 9 (by omega)
  refine lv_aload_n hx hb xd_De_layer_0 rfl (lv_at hl 0 rfl) ?_
  refine lv_iconst (v := 0) hx hb xd_De_layer_1 (by decide) ?_
  refine px_put (D := D) (ci := 0) (v := .int 0) (ty := .int) (C := xR_De) (T := xT_De) (N := 6) hx hb hT xi_De xt_De xt_De_ok xn_De hown hK.1 hP hD hS m_3 c_2 rfl 5 (by decide) (hT _ yx_68) (fun _ h9 => h9) rfl (by decide +kernel) rfl rfl (Nat.le_of_ble_eq_true rfl) xd_De_layer_2 (fun H locs hP hD hS => ?_)
  have hP : va_P D xcl (rp ad (up2 E 0 0 (.inr (0, [.ref (ad 0 1), .ref (ad 0 5), .ref (ad 0 7), .ref (ad 0 9), .int (nI ml), .int 0]))) RL) H := hP
  have hD : va_D A (rp ad (up2 E 0 0 (.inr (0, [.ref (ad 0 1), .ref (ad 0 5), .ref (ad 0 7), .ref (ad 0 9), .int (nI ml), .int 0]))) RL) := hD
  generalize hE27 : up2 E 0 0 (.inr (0, [.ref (ad 0 1), .ref (ad 0 5), .ref (ad 0 7), .ref (ad 0 9), .int (nI ml), .int 0])) = E26 at hP hD
  have fE28 : ∀ b2 o2, ¬ (b2 = 0 ∧ o2 = 0) → E26 b2 o2 = E b2 o2 := fun b2 o2 h9 => by rw [← hE27]; exact up2_ne (by omega)
  have c_29 : E26 0 0 = .inr (0, [.ref (ad 0 1), .ref (ad 0 5), .ref (ad 0 7), .ref (ad 0 9), .int (nI ml), .int 0]) := by rw [← hE27]; exact up2_eq
  have c_30 : E26 0 1 = .inr (1, [.ref (ad 0 2), .ref (ad 0 3), .ref (ad 0 4), .int (nI len), .int (nI wn)]) := (fE28 0 1 (by omega)).trans c_5
  have c_31 : E26 0 2 = .inl (kA 1, 40, .inl tx_4) := (fE28 0 2 (by omega)).trans c_7
  have c_32 : E26 0 3 = .inl (kA 0, 20, .inl fb_4) := (fE28 0 3 (by omega)).trans c_9
  have c_33 : E26 0 4 = .inl (kA 0, 20, .inl fe_4) := (fE28 0 4 (by omega)).trans c_11
  have c_34 : E26 0 5 = .inr (2, [.ref (ad 0 6), .int (nI nd)]) := (fE28 0 5 (by omega)).trans c_14
  have c_35 : E26 0 6 = .inl (kA 4, 12, .inr (.inr (.inr (.inr fd_13)))) := (fE28 0 6 (by omega)).trans c_16
  have c_36 : E26 0 7 = .inr (3, [.ref (ad 0 5), .ref (ad 0 8), .int (nI cs), .int cf_18, pv_18]) := (fE28 0 7 (by omega)).trans c_19
  have c_37 : E26 0 8 = .inl (kA 4, 12, .inr (.inr (.inr (.inr fc_18)))) := (fE28 0 8 (by omega)).trans c_21
  have c_38 : E26 0 9 = .inl (kA 5, 5, .inr (.inr (.inr (.inr fl_23)))) := (fE28 0 9 (by omega)).trans c_24
  refine lv_aload_n hx hb xd_De_layer_5 rfl (lv_at hl 0 rfl) ?_
  refine px_get (D := D) (ci := 0) (v := .ref (ad 0 1)) (C := xR_De) (T := xT_De) (N := 6) hx hb hT xi_De hown hK.1 hP m_3 c_29 rfl 0 (by decide) (hT _ yx_0) (fun _ h9 => h9) rfl xd_De_layer_6 ?_
  have hFc := px_free hD hS hA
  refine va_callv (va_runV (As := []) (rest := []) ⟨hx, hb, hml, hown, hT⟩ (xc_Li_take l D kA H.size ad E26 RL len wn tx_4 fb_4 fe_4 m_6 c_30 m_8 c_31 m_10 c_32 m_12 c_33 (by first | assumption | omega)) (cwV 0 hT (wT_V yx_2 yx_3 yx_4 yx_5 yx_1) rfl rfl rfl (by decide +kernel) ⟨Nat.le_of_ble_eq_true rfl, Nat.le_of_ble_eq_true rfl⟩) (px_preV hK hP hD m_6 c_30 rfl) rfl rfl hl.1 rfl (lv_room (Nat.le_of_ble_eq_true rfl)) xd_De_layer_9 ⟨(Nat.le_of_ble_eq_true rfl), (Nat.le_of_ble_eq_true rfl)⟩) hS (fun q _ h => hFc q h) hFc (fun u40 t H1 locs ht hvm hp41 hB hz1 hk1 hS => ?_)
  obtain ⟨hP1, hD1⟩ := hB
  rw [ht] at hP1
  have hD1 := hD1.weaken (fun _ _ _ h => hFc _ h)
  generalize H1 = H at hP1 hS ⊢
  have hP := hP1
  have hD := hD1
  obtain ⟨E42, rfl⟩ : ∃ z, z = u40 := ⟨_, rfl⟩
  obtain ⟨w43, w44, w45, hp50, p_46, p_47, p_48, p_49⟩ := hp41
  have p_46 : E42 0 1 = .inr (1, [.ref (ad 0 2), .ref (ad 0 3), .ref (ad 0 4), .int 0, .int (nI w43)]) := p_46
  have p_47 : E42 0 3 = .inl (kA 0, 20, .inl w44) := p_47
  have p_48 : E42 0 4 = .inl (kA 0, 20, .inl w45) := p_48
  have p_49 : (∀ b2 o2, ¬ (b2 = 0 ∧ o2 = 1) → ¬ (b2 = 0 ∧ o2 = 3) → ¬ (b2 = 0 ∧ o2 = 4) → E42 b2 o2 = E26 b2 o2) := p_49
  have c_51 : E42 0 0 = .inr (0, [.ref (ad 0 1), .ref (ad 0 5), .ref (ad 0 7), .ref (ad 0 9), .int (nI ml), .int 0]) := (p_49 0 0 (by omega) (by omega) (by omega)).trans c_29
  have c_52 : E42 0 2 = .inl (kA 1, 40, .inl tx_4) := (p_49 0 2 (by omega) (by omega) (by omega)).trans c_31
  have c_53 : E42 0 5 = .inr (2, [.ref (ad 0 6), .int (nI nd)]) := (p_49 0 5 (by omega) (by omega) (by omega)).trans c_34
  have c_54 : E42 0 6 = .inl (kA 4, 12, .inr (.inr (.inr (.inr fd_13)))) := (p_49 0 6 (by omega) (by omega) (by omega)).trans c_35
  have c_55 : E42 0 7 = .inr (3, [.ref (ad 0 5), .ref (ad 0 8), .int (nI cs), .int cf_18, pv_18]) := (p_49 0 7 (by omega) (by omega) (by omega)).trans c_36
  have c_56 : E42 0 8 = .inl (kA 4, 12, .inr (.inr (.inr (.inr fc_18)))) := (p_49 0 8 (by omega) (by omega) (by omega)).trans c_37
  have c_57 : E42 0 9 = .inl (kA 5, 5, .inr (.inr (.inr (.inr fl_23)))) := (p_49 0 9 (by omega) (by omega) (by omega)).trans c_38
  have hP : va_P D xcl (rp ad E42 RL) H := hP
  have hD : va_D A (rp ad E42 RL) := hD
  obtain ⟨hw20, hWP⟩ := hp50
  have hCI : CI kA ad E42 RL ml nd 0 w43 cs := ⟨hmB, ⟨0, c_51⟩, ⟨tx_4, w44, w45, (by omega), (by omega), p_46, c_52, p_47, p_48, hWP⟩, ⟨fd_13, (by omega), c_53, c_54, hds_13⟩, ⟨cf_18, pv_18, fc_18, (by omega), hpv_18, c_55, c_56, hfc_18⟩, ⟨fl_23, (by omega), c_57, hla_23⟩, (DIs_same (fun d9 hd9 => fun2 fun o9 => by show E42 (1 + d9) o9 = _; rw [p_49 (1 + d9) o9 (by omega) (by omega) (by omega), fE28 (1 + d9) o9 (by omega)]) (fun _ _ => rfl) (fun _ h9 => h9) hDIs), (LIs_same (Nat.le_refl _) (fun n9 hn9 => fun2 fun o9 => by show E42 (20 + n9) o9 = _; rw [p_49 (20 + n9) o9 (by omega) (by omega) (by omega), fE28 (20 + n9) o9 (by omega)]) (fun _ _ => rfl) (fun _ _ => rfl) (fun _ h9 => h9) hLIs)⟩
  obtain ⟨hmB, hDk, hLi, hSh, hCh, hLa, hDIs, hLIs⟩ := id hCI
  obtain ⟨lf_58, q_58⟩ := id (hDk)
  have c_59 : E42 0 0 = .inr (0, [.ref (ad 0 1), .ref (ad 0 5), .ref (ad 0 7), .ref (ad 0 9), .int (nI ml), .int lf_58]) := q_58
  have m_60 : (0, 0) ∈ RL := hmB 0 (by omega)
  obtain ⟨tx_61, fb_61, fe_61, hl1_61, hw2_61, q1_61, q2_61, q3_61, q4_61, hws_61⟩ := id (hLi)
  have c_62 : E42 0 1 = .inr (1, [.ref (ad 0 2), .ref (ad 0 3), .ref (ad 0 4), .int (nI 0), .int (nI w43)]) := q1_61
  have m_63 : (0, 1) ∈ RL := hmB 1 (by omega)
  have c_64 : E42 0 2 = .inl (kA 1, 40, .inl tx_61) := q2_61
  have m_65 : (0, 2) ∈ RL := hmB 2 (by omega)
  have c_66 : E42 0 3 = .inl (kA 0, 20, .inl fb_61) := q3_61
  have m_67 : (0, 3) ∈ RL := hmB 3 (by omega)
  have c_68 : E42 0 4 = .inl (kA 0, 20, .inl fe_61) := q4_61
  have m_69 : (0, 4) ∈ RL := hmB 4 (by omega)
  obtain ⟨fd_70, hnd_70, q5_70, q6_70, hds_70⟩ := id (hSh)
  have c_71 : E42 0 5 = .inr (2, [.ref (ad 0 6), .int (nI nd)]) := q5_70
  have m_72 : (0, 5) ∈ RL := hmB 5 (by omega)
  have c_73 : E42 0 6 = .inl (kA 4, 12, .inr (.inr (.inr (.inr fd_70)))) := q6_70
  have m_74 : (0, 6) ∈ RL := hmB 6 (by omega)
  obtain ⟨cf_75, pv_75, fc_75, hcs_75, hpv_75, q7_75, q8_75, hfc_75⟩ := id (hCh)
  have c_76 : E42 0 7 = .inr (3, [.ref (ad 0 5), .ref (ad 0 8), .int (nI cs), .int cf_75, pv_75]) := q7_75
  have m_77 : (0, 7) ∈ RL := hmB 7 (by omega)
  have c_78 : E42 0 8 = .inl (kA 4, 12, .inr (.inr (.inr (.inr fc_75)))) := q8_75
  have m_79 : (0, 8) ∈ RL := hmB 8 (by omega)
  obtain ⟨fl_80, hml_80, q9_80, hla_80⟩ := id (hLa)
  have c_81 : E42 0 9 = .inl (kA 5, 5, .inr (.inr (.inr (.inr fl_80)))) := q9_80
  have m_82 : (0, 9) ∈ RL := hmB 9 (by omega)
  refine lv_aload_n hx hb xd_De_layer_12 rfl (lv_at hl 0 rfl) ?_
  refine lv_iload_n hx hb xd_De_layer_13 rfl (lv_at hl 2 rfl) ?_
  have hFc := px_free hD hS hA
  refine va_callq (va_runV (As := [.int px]) (rest := []) ⟨hx, hb, hml, hown, hT⟩ (xc_De_openLayer l D kA H.size ad E42 RL ml nd 0 w43 cs px (by first | assumption | omega)) (cwV 1 hT (wT_V yx_60 yx_61 yx_62 yx_24 yx_59) rfl rfl rfl (by decide +kernel) ⟨Nat.le_of_ble_eq_true rfl, Nat.le_of_ble_eq_true rfl⟩) (px_preV hK hP hD m_60 c_59 rfl) rfl rfl hl.1 rfl (lv_room (Nat.le_of_ble_eq_true rfl)) xd_De_layer_14 ⟨(Nat.le_of_ble_eq_true rfl), (Nat.le_of_ble_eq_true rfl)⟩) hS (fun q _ h => hFc q h) hFc (fun r83 u84 t H1 locs ht hvm hp85 hB hz1 hk1 hS => ?_)
  obtain ⟨hP1, hD1⟩ := hB
  rw [ht] at hP1
  have hD1 := hD1.weaken (fun _ _ _ h => hFc _ h)
  generalize H1 = H at hP1 hS ⊢
  have hP := hP1
  have hD := hD1
  have hP : va_P D xcl (rp ad E42 RL) H := hP
  have hD : va_D A (rp ad E42 RL) := hD
  rcases hp85 with rfl | ⟨z86, z87, z88, rfl⟩
  · refine W.eq (g2 := F0 m 17 ls [.null]) rfl ?_
    refine lv_astoreN hx hb xd_De_layer_17 hl (Nat.le_of_ble_eq_true rfl) rfl (fun ls hl => ?_)
    have hl : lv_has ls 7 [(4, .null), (0, .ref (ad 0 0)), (1, .int fi), (2, .int px), (3, .int bi)] := hl
    refine xjoin (D := D) (cl := xcl) (A := A) (H0 := s.heap) (σ := Nat) (ml := 7) 65 (fun (y : Nat) => [(4, (lyv ad y)), (3, .int bi), (2, .int px), (1, .int fi), (0, .ref (ad 0 0))]) (fun (y : Nat) => []) (fun (y : Nat) => rp ad E42 RL) (fun (y : Nat) => (y ≤ ml)) ?_ (fun jn89 => ?_)
    · intro a9 ls H locs hl hP hD hS hI
      obtain ⟨y, rfl⟩ : ∃ z, z = a9 := ⟨_, rfl⟩
      have hy : y ≤ ml := hI
      have hl : lv_has ls 7 [(4, (lyv ad y)), (3, .int bi), (2, .int px), (1, .int fi), (0, .ref (ad 0 0))] := hl
      have hP : va_P D xcl (rp ad E42 RL) H := hP
      have hD : va_D A (rp ad E42 RL) := hD
      refine xjoin (D := D) (cl := xcl) (A := A) (H0 := s.heap) (σ := (Nat → Nat → va_E) × Nat) (ml := 7) 103 (fun (E7, cs7) => [(0, .ref (ad 0 0))]) (fun (E7, cs7) => []) (fun (E7, cs7) => rp ad E7 RL) (fun (E7, cs7) => (CI kA ad E7 RL ml nd 0 w43 cs7)) ?_ (fun jn90 => ?_)
      · intro a9 ls H locs hl hP hD hS hI
        obtain ⟨E7, cs7⟩ := a9
        have hCI : CI kA ad E7 RL ml nd 0 w43 cs7 := hI
        have hl : lv_has ls 7 [(0, .ref (ad 0 0))] := hl
        have hP : va_P D xcl (rp ad E7 RL) H := hP
        have hD : va_D A (rp ad E7 RL) := hD
        obtain ⟨hmB, hDk, hLi, hSh, hCh, hLa, hDIs, hLIs⟩ := id hCI
        obtain ⟨lf_91, q_91⟩ := id (hDk)
        have c_92 : E7 0 0 = .inr (0, [.ref (ad 0 1), .ref (ad 0 5), .ref (ad 0 7), .ref (ad 0 9), .int (nI ml), .int lf_91]) := q_91
        have m_93 : (0, 0) ∈ RL := hmB 0 (by omega)
        obtain ⟨cf_94, pv_94, fc_94, hcs_94, hpv_94, q7_94, q8_94, hfc_94⟩ := id (hCh)
        have c_95 : E7 0 7 = .inr (3, [.ref (ad 0 5), .ref (ad 0 8), .int (nI cs7), .int cf_94, pv_94]) := q7_94
        have m_96 : (0, 7) ∈ RL := hmB 7 (by omega)
        have c_97 : E7 0 8 = .inl (kA 4, 12, .inr (.inr (.inr (.inr fc_94)))) := q8_94
        have m_98 : (0, 8) ∈ RL := hmB 8 (by omega)
        refine lv_aload_n hx hb xd_De_layer_103 rfl (lv_at hl 0 rfl) ?_
        refine px_get (D := D) (ci := 0) (v := .ref (ad 0 7)) (C := xR_De) (T := xT_De) (N := 6) hx hb hT xi_De hown hK.1 hP m_93 c_92 rfl 2 (by decide) (hT _ yx_69) (fun _ h9 => h9) rfl xd_De_layer_104 ?_
        refine lv_aload_n hx hb xd_De_layer_107 rfl (lv_at hl 0 rfl) ?_
        refine px_get (D := D) (ci := 0) (v := .int (nI ml)) (C := xR_De) (T := xT_De) (N := 6) hx hb hT xi_De hown hK.1 hP m_93 c_92 rfl 4 (by decide) (hT _ yx_70) (fun _ h9 => h9) rfl xd_De_layer_108 ?_
        have hFc := px_free hD hS hA
        refine va_callq (va_runV (As := [.int (nI ml)]) (rest := []) ⟨hx, hb, hml, hown, hT⟩ (xc_Ch_draft l D kA H.size ad E7 RL ml nd 0 w43 cs7 (by first | assumption | omega)) (cwV 1 hT (wT_V yx_72 yx_73 yx_74 yx_75 yx_71) rfl rfl rfl (by decide +kernel) ⟨Nat.le_of_ble_eq_true rfl, Nat.le_of_ble_eq_true rfl⟩) (px_preV hK hP hD m_96 c_95 rfl) rfl rfl hl.1 rfl (lv_room (Nat.le_of_ble_eq_true rfl)) xd_De_layer_111 ⟨(Nat.le_of_ble_eq_true rfl), (Nat.le_of_ble_eq_true rfl)⟩) hS (fun q _ h => hFc q h) hFc (fun r99 u100 t H1 locs ht hvm hp101 hB hz1 hk1 hS => ?_)
        obtain ⟨hP1, hD1⟩ := hB
        rw [ht] at hP1
        have hD1 := hD1.weaken (fun _ _ _ h => hFc _ h)
        generalize H1 = H at hP1 hS ⊢
        have hP := hP1
        have hD := hD1
        obtain ⟨ad102, E103, RL104⟩ := u100
        obtain ⟨hp108, p_105, p_106, p_107⟩ := hp101
        have p_105 : (∀ b2 o2, ¬ (b2 = 20 + ml) → E103 b2 o2 = E7 b2 o2) := p_105
        have p_106 : (∀ b2 o2, ¬ (b2 = 20 + ml) → ad102 b2 o2 = ad b2 o2) := p_106
        have p_107 : (∀ x ∈ RL, x ∈ RL104) := p_107
        have hl : lv_has ls 7 [(0, .ref (ad102 0 0))] := by
          rw [p_106 0 0 (by omega)]; exact hl
        have m_109 : (0, 0) ∈ RL104 := p_107 _ m_93
        have m_110 : (0, 7) ∈ RL104 := p_107 _ m_96
        have m_111 : (0, 8) ∈ RL104 := p_107 _ m_98
        have c_112 : E103 0 0 = .inr (0, [.ref (ad102 0 1), .ref (ad102 0 5), .ref (ad102 0 7), .ref (ad102 0 9), .int (nI ml), .int lf_91]) := by rw [p_105 0 0 (by omega), p_106 0 1 (by omega), p_106 0 5 (by omega), p_106 0 7 (by omega), p_106 0 9 (by omega)]; exact c_92
        have c_113 : E103 0 7 = .inr (3, [.ref (ad102 0 5), .ref (ad102 0 8), .int (nI cs7), .int cf_94, pv_94]) := by rw [p_105 0 7 (by omega), p_106 0 5 (by omega), p_106 0 8 (by omega)]; exact c_95
        have c_114 : E103 0 8 = .inl (kA 4, 12, .inr (.inr (.inr (.inr fc_94)))) := by rw [p_105 0 8 (by omega)]; exact c_97
        have hP : va_P D xcl (rp ad102 E103 RL104) H := hP
        have hD : va_D A (rp ad102 E103 RL104) := hD
        rcases hp108 with ⟨rfl, z115, z116⟩
        · refine W.eq (g2 := F0 m 114 ls [.ref (ad102 (20 + ml) 0)]) rfl ?_
          have hA00 : ad102 0 0 = ad 0 0 := by show ad102 0 0 = _; rw [p_106 0 0 (by omega)]
          have hCI : CI kA ad102 E103 RL104 ml nd 0 w43 cs7 := z115
          have hLI : LI kA ad102 E103 RL104 nd ml := z116
          obtain ⟨hmB, hDk, hLi, hSh, hCh, hLa, hDIs, hLIs⟩ := id hCI
          obtain ⟨lf_117, q_117⟩ := id (hDk)
          have c_118 : E103 0 0 = .inr (0, [.ref (ad102 0 1), .ref (ad102 0 5), .ref (ad102 0 7), .ref (ad102 0 9), .int (nI ml), .int lf_117]) := q_117
          have m_119 : (0, 0) ∈ RL104 := hmB 0 (by omega)
          obtain ⟨tx_120, fb_120, fe_120, hl1_120, hw2_120, q1_120, q2_120, q3_120, q4_120, hws_120⟩ := id (hLi)
          have c_121 : E103 0 1 = .inr (1, [.ref (ad102 0 2), .ref (ad102 0 3), .ref (ad102 0 4), .int (nI 0), .int (nI w43)]) := q1_120
          have m_122 : (0, 1) ∈ RL104 := hmB 1 (by omega)
          have c_123 : E103 0 2 = .inl (kA 1, 40, .inl tx_120) := q2_120
          have m_124 : (0, 2) ∈ RL104 := hmB 2 (by omega)
          have c_125 : E103 0 3 = .inl (kA 0, 20, .inl fb_120) := q3_120
          have m_126 : (0, 3) ∈ RL104 := hmB 3 (by omega)
          have c_127 : E103 0 4 = .inl (kA 0, 20, .inl fe_120) := q4_120
          have m_128 : (0, 4) ∈ RL104 := hmB 4 (by omega)
          obtain ⟨fd_129, hnd_129, q5_129, q6_129, hds_129⟩ := id (hSh)
          have c_130 : E103 0 5 = .inr (2, [.ref (ad102 0 6), .int (nI nd)]) := q5_129
          have m_131 : (0, 5) ∈ RL104 := hmB 5 (by omega)
          have c_132 : E103 0 6 = .inl (kA 4, 12, .inr (.inr (.inr (.inr fd_129)))) := q6_129
          have m_133 : (0, 6) ∈ RL104 := hmB 6 (by omega)
          obtain ⟨cf_134, pv_134, fc_134, hcs_134, hpv_134, q7_134, q8_134, hfc_134⟩ := id (hCh)
          have c_135 : E103 0 7 = .inr (3, [.ref (ad102 0 5), .ref (ad102 0 8), .int (nI cs7), .int cf_134, pv_134]) := q7_134
          have m_136 : (0, 7) ∈ RL104 := hmB 7 (by omega)
          have c_137 : E103 0 8 = .inl (kA 4, 12, .inr (.inr (.inr (.inr fc_134)))) := q8_134
          have m_138 : (0, 8) ∈ RL104 := hmB 8 (by omega)
          obtain ⟨fl_139, hml_139, q9_139, hla_139⟩ := id (hLa)
          have c_140 : E103 0 9 = .inl (kA 5, 5, .inr (.inr (.inr (.inr fl_139)))) := q9_139
          have m_141 : (0, 9) ∈ RL104 := hmB 9 (by omega)
          refine lv_astore hx hb xd_De_layer_114 hl (Nat.le_of_ble_eq_true rfl) rfl (fun ls hl => ?_)
          have hl : lv_has ls 7 [(6, .ref (ad102 (20 + ml) 0)), (0, .ref (ad102 0 0))] := hl
          refine lv_aload_n hx hb xd_De_layer_116 rfl (lv_at hl 1 rfl) ?_
          refine lv_aload_n hx hb xd_De_layer_117 rfl (lv_at hl 1 rfl) ?_
          refine lv_aload hx hb xd_De_layer_118 (lv_at hl 0 rfl) ?_
          have hFc := px_free hD hS hA
          refine va_calli (va_runV (As := [.ref (ad102 (20 + ml) 0)]) (rest := [.ref (ad102 0 0)]) ⟨hx, hb, hml, hown, hT⟩ (xc_De_faultOf l D kA H.size ad102 E103 RL104 ml nd 0 w43 cs7 (by first | assumption | omega) (by first | assumption | omega)) (cwV 1 hT (wT_V yx_77 yx_78 yx_79 yx_24 yx_76) rfl rfl rfl (by decide +kernel) ⟨Nat.le_of_ble_eq_true rfl, Nat.le_of_ble_eq_true rfl⟩) (px_preV hK hP hD m_119 c_118 rfl) rfl rfl hl.1 rfl (lv_room (Nat.le_of_ble_eq_true rfl)) xd_De_layer_120 ⟨(Nat.le_of_ble_eq_true rfl), (Nat.le_of_ble_eq_true rfl)⟩) hS (fun q _ h => hFc q h) hFc (fun r142 u143 t H1 locs ht hvm hp144 hB hz1 hk1 hS => ?_)
          obtain ⟨hP1, hD1⟩ := hB
          rw [ht] at hP1
          have hD1 := hD1.weaken (fun _ _ _ h => hFc _ h)
          generalize H1 = H at hP1 hS ⊢
          have hP := hP1
          have hD := hD1
          have hP : va_P D xcl (rp ad102 E103 RL104) H := hP
          have hD : va_D A (rp ad102 E103 RL104) := hD
          have hfo := hp144
          refine px_put (D := D) (ci := 0) (v := .int r142) (ty := .int) (C := xR_De) (T := xT_De) (N := 6) hx hb hT xi_De xt_De xt_De_ok xn_De hown hK.1 hP hD hS m_119 c_118 rfl 5 (by decide) (hT _ yx_68) (fun _ h9 => h9) rfl (by decide +kernel) rfl rfl (Nat.le_of_ble_eq_true rfl) xd_De_layer_123 (fun H locs hP hD hS => ?_)
          have hP : va_P D xcl (rp ad102 (up2 E103 0 0 (.inr (0, [.ref (ad102 0 1), .ref (ad102 0 5), .ref (ad102 0 7), .ref (ad102 0 9), .int (nI ml), .int r142]))) RL104) H := hP
          have hD : va_D A (rp ad102 (up2 E103 0 0 (.inr (0, [.ref (ad102 0 1), .ref (ad102 0 5), .ref (ad102 0 7), .ref (ad102 0 9), .int (nI ml), .int r142]))) RL104) := hD
          generalize hE146 : up2 E103 0 0 (.inr (0, [.ref (ad102 0 1), .ref (ad102 0 5), .ref (ad102 0 7), .ref (ad102 0 9), .int (nI ml), .int r142])) = E145 at hP hD
          have fE147 : ∀ b2 o2, ¬ (b2 = 0 ∧ o2 = 0) → E145 b2 o2 = E103 b2 o2 := fun b2 o2 h9 => by rw [← hE146]; exact up2_ne (by omega)
          have c_148 : E145 0 0 = .inr (0, [.ref (ad102 0 1), .ref (ad102 0 5), .ref (ad102 0 7), .ref (ad102 0 9), .int (nI ml), .int r142]) := by rw [← hE146]; exact up2_eq
          have c_149 : E145 0 1 = .inr (1, [.ref (ad102 0 2), .ref (ad102 0 3), .ref (ad102 0 4), .int (nI 0), .int (nI w43)]) := (fE147 0 1 (by omega)).trans c_121
          have c_150 : E145 0 2 = .inl (kA 1, 40, .inl tx_120) := (fE147 0 2 (by omega)).trans c_123
          have c_151 : E145 0 3 = .inl (kA 0, 20, .inl fb_120) := (fE147 0 3 (by omega)).trans c_125
          have c_152 : E145 0 4 = .inl (kA 0, 20, .inl fe_120) := (fE147 0 4 (by omega)).trans c_127
          have c_153 : E145 0 5 = .inr (2, [.ref (ad102 0 6), .int (nI nd)]) := (fE147 0 5 (by omega)).trans c_130
          have c_154 : E145 0 6 = .inl (kA 4, 12, .inr (.inr (.inr (.inr fd_129)))) := (fE147 0 6 (by omega)).trans c_132
          have c_155 : E145 0 7 = .inr (3, [.ref (ad102 0 5), .ref (ad102 0 8), .int (nI cs7), .int cf_134, pv_134]) := (fE147 0 7 (by omega)).trans c_135
          have c_156 : E145 0 8 = .inl (kA 4, 12, .inr (.inr (.inr (.inr fc_134)))) := (fE147 0 8 (by omega)).trans c_137
          have c_157 : E145 0 9 = .inl (kA 5, 5, .inr (.inr (.inr (.inr fl_139)))) := (fE147 0 9 (by omega)).trans c_140
          have hLI : LI kA ad102 E145 RL104 nd ml := LI_same (Nat.le_refl _) (fun2 fun o9 => by show E145 (20 + ml) o9 = _; rw [fE147 (20 + ml) o9 (by omega)]) rfl (fun _ _ => rfl) (fun _ _ => rfl) (fun _ h => h) hLI
          have hCI : CI kA ad102 E145 RL104 ml nd 0 w43 cs7 := ⟨hmB, ⟨r142, c_148⟩, ⟨tx_120, fb_120, fe_120, (by omega), (by omega), c_149, c_150, c_151, c_152, hws_120⟩, ⟨fd_129, (by omega), c_153, c_154, hds_129⟩, ⟨cf_134, pv_134, fc_134, (by omega), hpv_134, c_155, c_156, hfc_134⟩, ⟨fl_139, (by omega), c_157, hla_139⟩, (DIs_same (fun d9 hd9 => fun2 fun o9 => by show E145 (1 + d9) o9 = _; rw [fE147 (1 + d9) o9 (by omega)]) (fun _ _ => rfl) (fun _ h9 => h9) hDIs), (LIs_same (Nat.le_refl _) (fun n9 hn9 => fun2 fun o9 => by show E145 (20 + n9) o9 = _; rw [fE147 (20 + n9) o9 (by omega)]) (fun _ _ => rfl) (fun _ _ => rfl) (fun _ h9 => h9) hLIs)⟩
          obtain ⟨hmB, hDk, hLi, hSh, hCh, hLa, hDIs, hLIs⟩ := id hCI
          have m_00 : (0, 0) ∈ RL104 := hmB 0 (by omega)
          refine lv_aload_n hx hb xd_De_layer_126 rfl (lv_at hl 1 rfl) ?_
          refine px_get (D := D) (ci := 0) (v := .int r142) (C := xR_De) (T := xT_De) (N := 6) hx hb hT xi_De hown hK.1 hP m_00 c_148 rfl 5 (by decide) (hT _ yx_68) (fun _ h9 => h9) rfl xd_De_layer_127 ?_
          refine lv_if_eq (tgt := 143) hx hb xd_De_layer_130 (by decide) (fun hc158 => ?_) (fun hc158 => ?_)
          · refine lv_aload_n hx hb xd_De_layer_143 rfl (lv_at hl 1 rfl) ?_
            refine lv_aload hx hb xd_De_layer_144 (lv_at hl 0 rfl) ?_
            have hFc := px_free hD hS hA
            refine va_callv (va_runV (As := [.ref (ad102 (20 + ml) 0)]) (rest := []) ⟨hx, hb, hml, hown, hT⟩ (xc_De_keep l D kA H.size ad102 E145 RL104 ml nd 0 w43 cs7 (by first | assumption | omega) (by first | assumption | omega) (by rcases hfo with h | h; exact h.2; exact absurd hc158 h)) (cwV 1 hT (wT_V yx_81 yx_82 yx_83 yx_24 yx_80) rfl rfl rfl (by decide +kernel) ⟨Nat.le_of_ble_eq_true rfl, Nat.le_of_ble_eq_true rfl⟩) (px_preV hK hP hD m_00 c_148 rfl) rfl rfl hl.1 rfl (lv_room (Nat.le_of_ble_eq_true rfl)) xd_De_layer_146 ⟨(Nat.le_of_ble_eq_true rfl), (Nat.le_of_ble_eq_true rfl)⟩) hS (fun q _ h => hFc q h) hFc (fun u160 t H1 locs ht hvm hp161 hB hz1 hk1 hS => ?_)
            obtain ⟨hP1, hD1⟩ := hB
            rw [ht] at hP1
            have hD1 := hD1.weaken (fun _ _ _ h => hFc _ h)
            generalize H1 = H at hP1 hS ⊢
            have hP := hP1
            have hD := hD1
            obtain ⟨E162, rfl⟩ : ∃ z, z = u160 := ⟨_, rfl⟩
            have hP : va_P D xcl (rp ad102 E162 RL104) H := hP
            have hD : va_D A (rp ad102 E162 RL104) := hD
            have hCI : CI kA ad102 E162 RL104 (ml + 1) nd 0 w43 cs7 := hp161
            obtain ⟨hmB, hDk, hLi, hSh, hCh, hLa, hDIs, hLIs⟩ := id hCI
            obtain ⟨fd_163, hnd_163, q5_163, q6_163, hds_163⟩ := id (hSh)
            have c_164 : E162 0 5 = .inr (2, [.ref (ad102 0 6), .int (nI nd)]) := q5_163
            have m_165 : (0, 5) ∈ RL104 := hmB 5 (by omega)
            have c_166 : E162 0 6 = .inl (kA 4, 12, .inr (.inr (.inr (.inr fd_163)))) := q6_163
            have m_167 : (0, 6) ∈ RL104 := hmB 6 (by omega)
            obtain ⟨fl_168, hml_168, q9_168, hla_168⟩ := id (hLa)
            have c_169 : E162 0 9 = .inl (kA 5, 5, .inr (.inr (.inr (.inr fl_168)))) := q9_168
            have m_170 : (0, 9) ∈ RL104 := hmB 9 (by omega)
            refine lv_aload hx hb xd_De_layer_149 (lv_at hl 0 rfl) ?_
            obtain ⟨m0_171, m1_171, pv_171, op_171, mk_171, fm_171, hmk_171, hpv_171, q0_171, q1_171, hk_171⟩ := id (hLIs ml (by omega))
            have c_172 : E162 (20 + ml) 0 = .inr (5, [.int (nI ml), pv_171, .ref (ad102 (20 + ml) 1), .int op_171]) := q0_171
            have m_173 : (20 + ml, 0) ∈ RL104 := m0_171
            have c_174 : E162 (20 + ml) 1 = .inl (kA 6, mk_171, .inr (.inr (.inr (.inr fm_171)))) := q1_171
            have m_175 : (20 + ml, 1) ∈ RL104 := m1_171
            refine px_get (D := D) (ci := 5) (v := .int (nI ml)) (C := xR_Ly) (T := xT_Ly) (N := 4) hx hb hT xi_Ly hown hK.1 hP m_173 c_172 rfl 0 (by decide) (hT _ yx_84) (fun _ h9 => h9) rfl xd_De_layer_151 ?_
            refine W.widen (k := 101) (n := 430) (Nat.le_of_ble_eq_true rfl) (Nat.le_of_ble_eq_true rfl) ?_
            refine vx_ret ?_
            exact W.iret (v := (nI ml)) hx hb hr (fun t ht hW => ⟨⟨(nI ml), (ad102, E162, RL104), rfl, ⟨⟨ml + 1, w43, cs7, hCI⟩, hA00⟩, by rw [ht]; exact hP, hD⟩, hS.F ht⟩) hS.2.2 xd_De_layer_154
          · exact y_throwB (ik := 63) (is := 104) (wf := fun (u : (Nat → Nat → Nat) × (Nat → Nat → va_E) × List (Nat × Nat)) => rp u.1 u.2.1 u.2.2) (ad102, E145, RL104) (⟨⟨ml, w43, cs7, hCI⟩, hA00⟩) (Or.inr (Or.inr rfl)) hx hb hlt hown hT hK yx_12 yx_13 hZ.2.2.2.1.2.2.2.2.2.2.2.2.2.2.2.2.2.2.2.2.1 hZ.1 hS hP hD (hl.1.trans hml.symm) xd_De_layer_133 xd_De_layer_136 xd_De_layer_137 xd_De_layer_139 xd_De_layer_142 htab (Nat.le_of_ble_eq_true rfl) (Nat.le_of_ble_eq_true rfl) (Nat.le_of_ble_eq_true rfl) (Nat.le_of_ble_eq_true rfl) hlocks (Nat.le_of_ble_eq_true rfl) (Nat.le_of_ble_eq_true rfl)
      rcases y with _ | y
      · have hl : lv_has ls 7 [(4, .null), (3, .int bi), (2, .int px), (1, .int fi), (0, .ref (ad 0 0))] := hl
        refine lv_aload_n hx hb xd_De_layer_65 rfl (lv_at hl 4 rfl) ?_
        refine px_get (D := D) (ci := 0) (v := .ref (ad 0 7)) (C := xR_De) (T := xT_De) (N := 6) hx hb hT xi_De hown hK.1 hP m_60 c_59 rfl 2 (by decide) (hT _ yx_69) (fun _ h9 => h9) rfl xd_De_layer_66 ?_
        refine lv_iload_n hx hb xd_De_layer_69 rfl (lv_at hl 3 rfl) ?_
        refine lv_aloadN hx hb xd_De_layer_70 (lv_at hl 0 rfl) ?_
        have hFc := px_free hD hS hA
        refine va_callv (va_runV (As := [.int fi, .null]) (rest := []) ⟨hx, hb, hml, hown, hT⟩ (xc_Ch_beginN l D kA H.size ad E42 RL cs cf_75 pv_75 fi m_77 c_76) (cwV 2 hT (wT_V yx_86 yx_87 yx_88 yx_75 yx_85) rfl rfl rfl (by decide +kernel) ⟨Nat.le_of_ble_eq_true rfl, Nat.le_of_ble_eq_true rfl⟩) (px_preV hK hP hD m_77 c_76 rfl) rfl rfl hl.1 rfl (lv_room (Nat.le_of_ble_eq_true rfl)) xd_De_layer_72 ⟨(Nat.le_of_ble_eq_true rfl), (Nat.le_of_ble_eq_true rfl)⟩) hS (fun q _ h => hFc q h) hFc (fun u177 t H1 locs ht hvm hp178 hB hz1 hk1 hS => ?_)
        obtain ⟨hP1, hD1⟩ := hB
        rw [ht] at hP1
        have hD1 := hD1.weaken (fun _ _ _ h => hFc _ h)
        generalize H1 = H at hP1 hS ⊢
        have hP := hP1
        have hD := hD1
        obtain ⟨E179, rfl⟩ : ∃ z, z = u177 := ⟨_, rfl⟩
        obtain ⟨hp182, p_180, p_181⟩ := hp178
        have p_180 : E179 0 7 = .inr (3, [.ref (ad 0 5), .ref (ad 0 8), .int 0, .int fi, .null]) := p_180
        have p_181 : (∀ b2 o2, ¬ (b2 = 0 ∧ o2 = 7) → E179 b2 o2 = E42 b2 o2) := p_181
        have c_183 : E179 0 0 = .inr (0, [.ref (ad 0 1), .ref (ad 0 5), .ref (ad 0 7), .ref (ad 0 9), .int (nI ml), .int lf_58]) := (p_181 0 0 (by omega)).trans c_59
        have c_184 : E179 0 1 = .inr (1, [.ref (ad 0 2), .ref (ad 0 3), .ref (ad 0 4), .int (nI 0), .int (nI w43)]) := (p_181 0 1 (by omega)).trans c_62
        have c_185 : E179 0 2 = .inl (kA 1, 40, .inl tx_61) := (p_181 0 2 (by omega)).trans c_64
        have c_186 : E179 0 3 = .inl (kA 0, 20, .inl fb_61) := (p_181 0 3 (by omega)).trans c_66
        have c_187 : E179 0 4 = .inl (kA 0, 20, .inl fe_61) := (p_181 0 4 (by omega)).trans c_68
        have c_188 : E179 0 5 = .inr (2, [.ref (ad 0 6), .int (nI nd)]) := (p_181 0 5 (by omega)).trans c_71
        have c_189 : E179 0 6 = .inl (kA 4, 12, .inr (.inr (.inr (.inr fd_70)))) := (p_181 0 6 (by omega)).trans c_73
        have c_190 : E179 0 8 = .inl (kA 4, 12, .inr (.inr (.inr (.inr fc_75)))) := (p_181 0 8 (by omega)).trans c_78
        have c_191 : E179 0 9 = .inl (kA 5, 5, .inr (.inr (.inr (.inr fl_80)))) := (p_181 0 9 (by omega)).trans c_81
        have hP : va_P D xcl (rp ad E179 RL) H := hP
        have hD : va_D A (rp ad E179 RL) := hD
        have hCI : CI kA ad E179 RL ml nd 0 w43 0 := ⟨hmB, ⟨lf_58, c_183⟩, ⟨tx_61, fb_61, fe_61, (by omega), (by omega), c_184, c_185, c_186, c_187, hws_61⟩, ⟨fd_70, (by omega), c_188, c_189, hds_70⟩, ⟨fi, .null, fc_75, (by omega), (Or.inl rfl), p_180, c_190, (fun k9 hk9 => absurd hk9 (by omega))⟩, ⟨fl_80, (by omega), c_191, hla_80⟩, (DIs_same (fun d9 hd9 => fun2 fun o9 => by show E179 (1 + d9) o9 = _; rw [p_181 (1 + d9) o9 (by omega)]) (fun _ _ => rfl) (fun _ h9 => h9) hDIs), (LIs_same (Nat.le_refl _) (fun n9 hn9 => fun2 fun o9 => by show E179 (20 + n9) o9 = _; rw [p_181 (20 + n9) o9 (by omega)]) (fun _ _ => rfl) (fun _ _ => rfl) (fun _ h9 => h9) hLIs)⟩
        obtain ⟨hmB, hDk, hLi, hSh, hCh, hLa, hDIs, hLIs⟩ := id hCI
        refine lv_aload_n hx hb xd_De_layer_75 rfl (lv_at hl 4 rfl) ?_
        have hFc := px_free hD hS hA
        obtain ⟨lf_192, q_192⟩ := id (hDk)
        have c_193 : E179 0 0 = .inr (0, [.ref (ad 0 1), .ref (ad 0 5), .ref (ad 0 7), .ref (ad 0 9), .int (nI ml), .int lf_192]) := q_192
        have m_194 : (0, 0) ∈ RL := hmB 0 (by omega)
        refine va_calli (va_runV (As := []) (rest := []) ⟨hx, hb, hml, hown, hT⟩ (xc_De_addRoots l D kA H.size ad E179 RL ml nd 0 w43 0 (by first | assumption | omega)) (cwV 0 hT (wT_V yx_90 yx_91 yx_92 yx_24 yx_89) rfl rfl rfl (by decide +kernel) ⟨Nat.le_of_ble_eq_true rfl, Nat.le_of_ble_eq_true rfl⟩) (px_preV hK hP hD m_194 c_193 rfl) rfl rfl hl.1 rfl (lv_room (Nat.le_of_ble_eq_true rfl)) xd_De_layer_76 ⟨(Nat.le_of_ble_eq_true rfl), (Nat.le_of_ble_eq_true rfl)⟩) hS (fun q _ h => hFc q h) hFc (fun r195 u196 t H1 locs ht hvm hp197 hB hz1 hk1 hS => ?_)
        obtain ⟨hP1, hD1⟩ := hB
        rw [ht] at hP1
        have hD1 := hD1.weaken (fun _ _ _ h => hFc _ h)
        generalize H1 = H at hP1 hS ⊢
        have hP := hP1
        have hD := hD1
        obtain ⟨E198, rfl⟩ : ∃ z, z = u196 := ⟨_, rfl⟩
        have hP : va_P D xcl (rp ad E198 RL) H := hP
        have hD : va_D A (rp ad E198 RL) := hD
        obtain ⟨hr200, cs199, hCI⟩ := hp197
        have hCI : CI kA ad E198 RL ml nd 0 w43 cs199 := hCI
        obtain ⟨hmB, hDk, hLi, hSh, hCh, hLa, hDIs, hLIs⟩ := id hCI
        refine lv_if_ne (tgt := 92) hx hb xd_De_layer_79 (by decide) (fun hc201 => ?_) (fun hc201 => ?_)
        · refine lv_iload_n hx hb xd_De_layer_92 rfl (lv_at hl 1 rfl) ?_
          refine lv_if_eq (tgt := 103) hx hb xd_De_layer_93 (by decide) (fun hc202 => ?_) (fun hc202 => ?_)
          · exact jn90 (E198, cs199) _ _ _ (lv_sub hl [4] rfl) hP hD hS (show CI kA ad E198 RL ml nd 0 w43 cs199 from hCI)
          · refine lv_aload_n hx hb xd_De_layer_96 rfl (lv_at hl 4 rfl) ?_
            obtain ⟨lf_203, q_203⟩ := id (hDk)
            have c_204 : E198 0 0 = .inr (0, [.ref (ad 0 1), .ref (ad 0 5), .ref (ad 0 7), .ref (ad 0 9), .int (nI ml), .int lf_203]) := q_203
            have m_205 : (0, 0) ∈ RL := hmB 0 (by omega)
            refine px_get (D := D) (ci := 0) (v := .ref (ad 0 7)) (C := xR_De) (T := xT_De) (N := 6) hx hb hT xi_De hown hK.1 hP m_205 c_204 rfl 2 (by decide) (hT _ yx_69) (fun _ h9 => h9) rfl xd_De_layer_97 ?_
            have hFc := px_free hD hS hA
            obtain ⟨cf_206, pv_206, fc_206, hcs_206, hpv_206, q7_206, q8_206, hfc_206⟩ := id (hCh)
            have c_207 : E198 0 7 = .inr (3, [.ref (ad 0 5), .ref (ad 0 8), .int (nI cs199), .int cf_206, pv_206]) := q7_206
            have m_208 : (0, 7) ∈ RL := hmB 7 (by omega)
            have c_209 : E198 0 8 = .inl (kA 4, 12, .inr (.inr (.inr (.inr fc_206)))) := q8_206
            have m_210 : (0, 8) ∈ RL := hmB 8 (by omega)
            refine va_callv (va_runV (As := []) (rest := []) ⟨hx, hb, hml, hown, hT⟩ (xc_Ch_bind l D kA H.size ad E198 RL ml nd 0 w43 cs199 (by first | assumption | omega)) (cwV 0 hT (wT_V yx_94 yx_95 yx_96 yx_75 yx_93) rfl rfl rfl (by decide +kernel) ⟨Nat.le_of_ble_eq_true rfl, Nat.le_of_ble_eq_true rfl⟩) (px_preV hK hP hD m_208 c_207 rfl) rfl rfl hl.1 rfl (lv_room (Nat.le_of_ble_eq_true rfl)) xd_De_layer_100 ⟨(Nat.le_of_ble_eq_true rfl), (Nat.le_of_ble_eq_true rfl)⟩) hS (fun q _ h => hFc q h) hFc (fun u212 t H1 locs ht hvm hp213 hB hz1 hk1 hS => ?_)
            obtain ⟨hP1, hD1⟩ := hB
            rw [ht] at hP1
            have hD1 := hD1.weaken (fun _ _ _ h => hFc _ h)
            generalize H1 = H at hP1 hS ⊢
            have hP := hP1
            have hD := hD1
            obtain ⟨E214, rfl⟩ : ∃ z, z = u212 := ⟨_, rfl⟩
            have hP : va_P D xcl (rp ad E214 RL) H := hP
            have hD : va_D A (rp ad E214 RL) := hD
            obtain ⟨cs215, hCI⟩ := hp213
            have hCI : CI kA ad E214 RL ml nd 0 w43 cs215 := hCI
            obtain ⟨hmB, hDk, hLi, hSh, hCh, hLa, hDIs, hLIs⟩ := id hCI
            exact jn90 (E214, cs215) _ _ _ (lv_sub hl [4] rfl) hP hD hS (show CI kA ad E214 RL ml nd 0 w43 cs215 from hCI)
        · exact y_throwC (ik := 89) (is := 91) (wf := fun (u : (Nat → Nat → Nat) × (Nat → Nat → va_E) × List (Nat × Nat)) => rp u.1 u.2.1 u.2.2) (ad, E198, RL) (⟨⟨ml, w43, cs199, hCI⟩, rfl⟩) (Or.inr (Or.inl rfl)) hx hb hlt hown hT hK yx_41 yx_42 hZ.2.2.2.1.2.2.2.2.2.2.2.2.2.2.2.2.2.2.2.1 hZ.1 hS hP hD (hl.1.trans hml.symm) xd_De_layer_82 xd_De_layer_85 xd_De_layer_86 xd_De_layer_88 xd_De_layer_91 htab (Nat.le_of_ble_eq_true rfl) (Nat.le_of_ble_eq_true rfl) (Nat.le_of_ble_eq_true rfl) (Nat.le_of_ble_eq_true rfl) hlocks (Nat.le_of_ble_eq_true rfl) (Nat.le_of_ble_eq_true rfl)
      · have hl : lv_has ls 7 [(4, .ref (ad (20 + y) 0)), (3, .int bi), (2, .int px), (1, .int fi), (0, .ref (ad 0 0))] := hl
        refine lv_aload_n hx hb xd_De_layer_65 rfl (lv_at hl 4 rfl) ?_
        refine px_get (D := D) (ci := 0) (v := .ref (ad 0 7)) (C := xR_De) (T := xT_De) (N := 6) hx hb hT xi_De hown hK.1 hP m_60 c_59 rfl 2 (by decide) (hT _ yx_69) (fun _ h9 => h9) rfl xd_De_layer_66 ?_
        refine lv_iload_n hx hb xd_De_layer_69 rfl (lv_at hl 3 rfl) ?_
        refine lv_aload hx hb xd_De_layer_70 (lv_at hl 0 rfl) ?_
        have hFc := px_free hD hS hA
        refine va_callv (va_runV (As := [.int fi, .ref (ad (20 + y) 0)]) (rest := []) ⟨hx, hb, hml, hown, hT⟩ (xc_Ch_beginR l D kA H.size ad E42 RL cs cf_75 pv_75 fi (ad (20 + y) 0) m_77 c_76) (cwV 2 hT (wT_V yx_86 yx_87 yx_88 yx_75 yx_85) rfl rfl rfl (by decide +kernel) ⟨Nat.le_of_ble_eq_true rfl, Nat.le_of_ble_eq_true rfl⟩) (px_preV hK hP hD m_77 c_76 rfl) rfl rfl hl.1 rfl (lv_room (Nat.le_of_ble_eq_true rfl)) xd_De_layer_72 ⟨(Nat.le_of_ble_eq_true rfl), (Nat.le_of_ble_eq_true rfl)⟩) hS (fun q _ h => hFc q h) hFc (fun u218 t H1 locs ht hvm hp219 hB hz1 hk1 hS => ?_)
        obtain ⟨hP1, hD1⟩ := hB
        rw [ht] at hP1
        have hD1 := hD1.weaken (fun _ _ _ h => hFc _ h)
        generalize H1 = H at hP1 hS ⊢
        have hP := hP1
        have hD := hD1
        obtain ⟨E220, rfl⟩ : ∃ z, z = u218 := ⟨_, rfl⟩
        obtain ⟨hp223, p_221, p_222⟩ := hp219
        have p_221 : E220 0 7 = .inr (3, [.ref (ad 0 5), .ref (ad 0 8), .int 0, .int fi, .ref (ad (20 + y) 0)]) := p_221
        have p_222 : (∀ b2 o2, ¬ (b2 = 0 ∧ o2 = 7) → E220 b2 o2 = E42 b2 o2) := p_222
        have c_224 : E220 0 0 = .inr (0, [.ref (ad 0 1), .ref (ad 0 5), .ref (ad 0 7), .ref (ad 0 9), .int (nI ml), .int lf_58]) := (p_222 0 0 (by omega)).trans c_59
        have c_225 : E220 0 1 = .inr (1, [.ref (ad 0 2), .ref (ad 0 3), .ref (ad 0 4), .int (nI 0), .int (nI w43)]) := (p_222 0 1 (by omega)).trans c_62
        have c_226 : E220 0 2 = .inl (kA 1, 40, .inl tx_61) := (p_222 0 2 (by omega)).trans c_64
        have c_227 : E220 0 3 = .inl (kA 0, 20, .inl fb_61) := (p_222 0 3 (by omega)).trans c_66
        have c_228 : E220 0 4 = .inl (kA 0, 20, .inl fe_61) := (p_222 0 4 (by omega)).trans c_68
        have c_229 : E220 0 5 = .inr (2, [.ref (ad 0 6), .int (nI nd)]) := (p_222 0 5 (by omega)).trans c_71
        have c_230 : E220 0 6 = .inl (kA 4, 12, .inr (.inr (.inr (.inr fd_70)))) := (p_222 0 6 (by omega)).trans c_73
        have c_231 : E220 0 8 = .inl (kA 4, 12, .inr (.inr (.inr (.inr fc_75)))) := (p_222 0 8 (by omega)).trans c_78
        have c_232 : E220 0 9 = .inl (kA 5, 5, .inr (.inr (.inr (.inr fl_80)))) := (p_222 0 9 (by omega)).trans c_81
        have hP : va_P D xcl (rp ad E220 RL) H := hP
        have hD : va_D A (rp ad E220 RL) := hD
        have hCI : CI kA ad E220 RL ml nd 0 w43 0 := ⟨hmB, ⟨lf_58, c_224⟩, ⟨tx_61, fb_61, fe_61, (by omega), (by omega), c_225, c_226, c_227, c_228, hws_61⟩, ⟨fd_70, (by omega), c_229, c_230, hds_70⟩, ⟨fi, (.ref (ad (20 + y) 0)), fc_75, (by omega), (Or.inr ⟨y, by omega, rfl⟩), p_221, c_231, (fun k9 hk9 => absurd hk9 (by omega))⟩, ⟨fl_80, (by omega), c_232, hla_80⟩, (DIs_same (fun d9 hd9 => fun2 fun o9 => by show E220 (1 + d9) o9 = _; rw [p_222 (1 + d9) o9 (by omega)]) (fun _ _ => rfl) (fun _ h9 => h9) hDIs), (LIs_same (Nat.le_refl _) (fun n9 hn9 => fun2 fun o9 => by show E220 (20 + n9) o9 = _; rw [p_222 (20 + n9) o9 (by omega)]) (fun _ _ => rfl) (fun _ _ => rfl) (fun _ h9 => h9) hLIs)⟩
        obtain ⟨hmB, hDk, hLi, hSh, hCh, hLa, hDIs, hLIs⟩ := id hCI
        refine lv_aload_n hx hb xd_De_layer_75 rfl (lv_at hl 4 rfl) ?_
        have hFc := px_free hD hS hA
        obtain ⟨lf_233, q_233⟩ := id (hDk)
        have c_234 : E220 0 0 = .inr (0, [.ref (ad 0 1), .ref (ad 0 5), .ref (ad 0 7), .ref (ad 0 9), .int (nI ml), .int lf_233]) := q_233
        have m_235 : (0, 0) ∈ RL := hmB 0 (by omega)
        refine va_calli (va_runV (As := []) (rest := []) ⟨hx, hb, hml, hown, hT⟩ (xc_De_addRoots l D kA H.size ad E220 RL ml nd 0 w43 0 (by first | assumption | omega)) (cwV 0 hT (wT_V yx_90 yx_91 yx_92 yx_24 yx_89) rfl rfl rfl (by decide +kernel) ⟨Nat.le_of_ble_eq_true rfl, Nat.le_of_ble_eq_true rfl⟩) (px_preV hK hP hD m_235 c_234 rfl) rfl rfl hl.1 rfl (lv_room (Nat.le_of_ble_eq_true rfl)) xd_De_layer_76 ⟨(Nat.le_of_ble_eq_true rfl), (Nat.le_of_ble_eq_true rfl)⟩) hS (fun q _ h => hFc q h) hFc (fun r236 u237 t H1 locs ht hvm hp238 hB hz1 hk1 hS => ?_)
        obtain ⟨hP1, hD1⟩ := hB
        rw [ht] at hP1
        have hD1 := hD1.weaken (fun _ _ _ h => hFc _ h)
        generalize H1 = H at hP1 hS ⊢
        have hP := hP1
        have hD := hD1
        obtain ⟨E239, rfl⟩ : ∃ z, z = u237 := ⟨_, rfl⟩
        have hP : va_P D xcl (rp ad E239 RL) H := hP
        have hD : va_D A (rp ad E239 RL) := hD
        obtain ⟨hr241, cs240, hCI⟩ := hp238
        have hCI : CI kA ad E239 RL ml nd 0 w43 cs240 := hCI
        obtain ⟨hmB, hDk, hLi, hSh, hCh, hLa, hDIs, hLIs⟩ := id hCI
        refine lv_if_ne (tgt := 92) hx hb xd_De_layer_79 (by decide) (fun hc242 => ?_) (fun hc242 => ?_)
        · refine lv_iload_n hx hb xd_De_layer_92 rfl (lv_at hl 1 rfl) ?_
          refine lv_if_eq (tgt := 103) hx hb xd_De_layer_93 (by decide) (fun hc243 => ?_) (fun hc243 => ?_)
          · exact jn90 (E239, cs240) _ _ _ (lv_sub hl [4] rfl) hP hD hS (show CI kA ad E239 RL ml nd 0 w43 cs240 from hCI)
          · refine lv_aload_n hx hb xd_De_layer_96 rfl (lv_at hl 4 rfl) ?_
            obtain ⟨lf_244, q_244⟩ := id (hDk)
            have c_245 : E239 0 0 = .inr (0, [.ref (ad 0 1), .ref (ad 0 5), .ref (ad 0 7), .ref (ad 0 9), .int (nI ml), .int lf_244]) := q_244
            have m_246 : (0, 0) ∈ RL := hmB 0 (by omega)
            refine px_get (D := D) (ci := 0) (v := .ref (ad 0 7)) (C := xR_De) (T := xT_De) (N := 6) hx hb hT xi_De hown hK.1 hP m_246 c_245 rfl 2 (by decide) (hT _ yx_69) (fun _ h9 => h9) rfl xd_De_layer_97 ?_
            have hFc := px_free hD hS hA
            obtain ⟨cf_247, pv_247, fc_247, hcs_247, hpv_247, q7_247, q8_247, hfc_247⟩ := id (hCh)
            have c_248 : E239 0 7 = .inr (3, [.ref (ad 0 5), .ref (ad 0 8), .int (nI cs240), .int cf_247, pv_247]) := q7_247
            have m_249 : (0, 7) ∈ RL := hmB 7 (by omega)
            have c_250 : E239 0 8 = .inl (kA 4, 12, .inr (.inr (.inr (.inr fc_247)))) := q8_247
            have m_251 : (0, 8) ∈ RL := hmB 8 (by omega)
            refine va_callv (va_runV (As := []) (rest := []) ⟨hx, hb, hml, hown, hT⟩ (xc_Ch_bind l D kA H.size ad E239 RL ml nd 0 w43 cs240 (by first | assumption | omega)) (cwV 0 hT (wT_V yx_94 yx_95 yx_96 yx_75 yx_93) rfl rfl rfl (by decide +kernel) ⟨Nat.le_of_ble_eq_true rfl, Nat.le_of_ble_eq_true rfl⟩) (px_preV hK hP hD m_249 c_248 rfl) rfl rfl hl.1 rfl (lv_room (Nat.le_of_ble_eq_true rfl)) xd_De_layer_100 ⟨(Nat.le_of_ble_eq_true rfl), (Nat.le_of_ble_eq_true rfl)⟩) hS (fun q _ h => hFc q h) hFc (fun u253 t H1 locs ht hvm hp254 hB hz1 hk1 hS => ?_)
            obtain ⟨hP1, hD1⟩ := hB
            rw [ht] at hP1
            have hD1 := hD1.weaken (fun _ _ _ h => hFc _ h)
            generalize H1 = H at hP1 hS ⊢
            have hP := hP1
            have hD := hD1
            obtain ⟨E255, rfl⟩ : ∃ z, z = u253 := ⟨_, rfl⟩
            have hP : va_P D xcl (rp ad E255 RL) H := hP
            have hD : va_D A (rp ad E255 RL) := hD
            obtain ⟨cs256, hCI⟩ := hp254
            have hCI : CI kA ad E255 RL ml nd 0 w43 cs256 := hCI
            obtain ⟨hmB, hDk, hLi, hSh, hCh, hLa, hDIs, hLIs⟩ := id hCI
            exact jn90 (E255, cs256) _ _ _ (lv_sub hl [4] rfl) hP hD hS (show CI kA ad E255 RL ml nd 0 w43 cs256 from hCI)
        · exact y_throwC (ik := 89) (is := 91) (wf := fun (u : (Nat → Nat → Nat) × (Nat → Nat → va_E) × List (Nat × Nat)) => rp u.1 u.2.1 u.2.2) (ad, E239, RL) (⟨⟨ml, w43, cs240, hCI⟩, rfl⟩) (Or.inr (Or.inl rfl)) hx hb hlt hown hT hK yx_41 yx_42 hZ.2.2.2.1.2.2.2.2.2.2.2.2.2.2.2.2.2.2.2.1 hZ.1 hS hP hD (hl.1.trans hml.symm) xd_De_layer_82 xd_De_layer_85 xd_De_layer_86 xd_De_layer_88 xd_De_layer_91 htab (Nat.le_of_ble_eq_true rfl) (Nat.le_of_ble_eq_true rfl) (Nat.le_of_ble_eq_true rfl) (Nat.le_of_ble_eq_true rfl) hlocks (Nat.le_of_ble_eq_true rfl) (Nat.le_of_ble_eq_true rfl)
    refine lv_iload_n hx hb xd_De_layer_19 rfl (lv_at hl 3 rfl) ?_
    refine lv_iconst (v := (-1)) hx hb xd_De_layer_20 (by decide) ?_
    refine lv_icmp_eq (tgt := 29) hx hb xd_De_layer_21 (by decide) (fun hc258 => ?_) (fun hc258 => ?_)
    · refine lv_iconst (v := 1) hx hb xd_De_layer_29 (by decide) ?_
      refine lv_goto (tgt := 34) hx hb xd_De_layer_30 (by decide) ?_
      refine lv_istore hx hb xd_De_layer_34 hl (Nat.le_of_ble_eq_true rfl) rfl (fun ls hl => ?_)
      have hl : lv_has ls 7 [(5, .int 1), (4, .null), (0, .ref (ad 0 0)), (1, .int fi), (2, .int px), (3, .int bi)] := hl
      refine lv_aload_n hx hb xd_De_layer_36 rfl (lv_at hl 2 rfl) ?_
      have hFc := px_free hD hS hA
      refine va_calli (va_runV (As := []) (rest := []) ⟨hx, hb, hml, hown, hT⟩ (xc_De_rootsAreNames l D kA H.size ad E42 RL ml nd 0 w43 cs (by first | assumption | omega)) (cwV 0 hT (wT_V yx_98 yx_99 yx_100 yx_24 yx_97) rfl rfl rfl (by decide +kernel) ⟨Nat.le_of_ble_eq_true rfl, Nat.le_of_ble_eq_true rfl⟩) (px_preV hK hP hD m_60 c_59 rfl) rfl rfl hl.1 rfl (lv_room (Nat.le_of_ble_eq_true rfl)) xd_De_layer_37 ⟨(Nat.le_of_ble_eq_true rfl), (Nat.le_of_ble_eq_true rfl)⟩) hS (fun q _ h => hFc q h) hFc (fun r259 u260 t H1 locs ht hvm hp261 hB hz1 hk1 hS => ?_)
      obtain ⟨hP1, hD1⟩ := hB
      rw [ht] at hP1
      have hD1 := hD1.weaken (fun _ _ _ h => hFc _ h)
      generalize H1 = H at hP1 hS ⊢
      have hP := hP1
      have hD := hD1
      have hP : va_P D xcl (rp ad E42 RL) H := hP
      have hD : va_D A (rp ad E42 RL) := hD
      rcases hp261 with rfl | rfl
      · refine W.eq (g2 := F0 m 40 ls [.int 0]) rfl ?_
        refine lv_if_eq (tgt := 55) hx hb xd_De_layer_40 (by decide) (fun _ => ?_) (fun hc262 => absurd (by decide) hc262)
        exact y_throwA (ik := 56) (is := 80) (wf := fun (u : (Nat → Nat → Nat) × (Nat → Nat → va_E) × List (Nat × Nat)) => rp u.1 u.2.1 u.2.2) (ad, E42, RL) (⟨⟨ml, w43, cs, hCI⟩, rfl⟩) (Or.inl rfl) hx hb hlt hown hT hK yx_14 yx_15 hZ.2.2.2.1.2.2.2.2.2.2.2.2.2.2.2.2.2.2.1 hZ.1 hS hP hD (hl.1.trans hml.symm) xd_De_layer_55 xd_De_layer_58 xd_De_layer_59 xd_De_layer_61 xd_De_layer_64 htab (Nat.le_of_ble_eq_true rfl) (Nat.le_of_ble_eq_true rfl) (Nat.le_of_ble_eq_true rfl) (Nat.le_of_ble_eq_true rfl) hlocks (Nat.le_of_ble_eq_true rfl) (Nat.le_of_ble_eq_true rfl)
      · refine W.eq (g2 := F0 m 40 ls [.int 1]) rfl ?_
        refine lv_if_eq (tgt := 55) hx hb xd_De_layer_40 (by decide) (fun hc263 => absurd hc263 (by decide)) (fun _ => ?_)
        refine lv_iload_n hx hb xd_De_layer_43 rfl (lv_at hl 3 rfl) ?_
        have hFc := px_free hD hS hA
        refine va_calli (va_runS (As := [.int fi]) (rest := []) ⟨hx, hb, hml, hown, hT⟩ (xc_Sh_isFinder l D kA H.size ad E42 RL fi) (va_cwS 1 hT (wT_S yx_102 yx_103 yx_11 yx_101) rfl rfl rfl (by decide +kernel) ⟨Nat.le_of_ble_eq_true rfl, Nat.le_of_ble_eq_true rfl⟩) (x_preS hK hP hD) rfl rfl hl.1 rfl (lv_room (Nat.le_of_ble_eq_true rfl)) xd_De_layer_44 ⟨(Nat.le_of_ble_eq_true rfl), (Nat.le_of_ble_eq_true rfl)⟩) hS (fun q _ h => hFc q h) hFc (fun r264 u265 t H1 locs ht hvm hp266 hB hz1 hk1 hS => ?_)
        obtain ⟨hP1, hD1⟩ := hB
        rw [ht] at hP1
        have hD1 := hD1.weaken (fun _ _ _ h => hFc _ h)
        generalize H1 = H at hP1 hS ⊢
        have hP := hP1
        have hD := hD1
        have hP : va_P D xcl (rp ad E42 RL) H := hP
        have hD : va_D A (rp ad E42 RL) := hD
        rcases hp266 with rfl | rfl
        · refine W.eq (g2 := F0 m 47 ls [.int 0]) rfl ?_
          refine lv_if_eq (tgt := 55) hx hb xd_De_layer_47 (by decide) (fun _ => ?_) (fun hc267 => absurd (by decide) hc267)
          exact y_throwA (ik := 56) (is := 80) (wf := fun (u : (Nat → Nat → Nat) × (Nat → Nat → va_E) × List (Nat × Nat)) => rp u.1 u.2.1 u.2.2) (ad, E42, RL) (⟨⟨ml, w43, cs, hCI⟩, rfl⟩) (Or.inl rfl) hx hb hlt hown hT hK yx_14 yx_15 hZ.2.2.2.1.2.2.2.2.2.2.2.2.2.2.2.2.2.2.1 hZ.1 hS hP hD (hl.1.trans hml.symm) xd_De_layer_55 xd_De_layer_58 xd_De_layer_59 xd_De_layer_61 xd_De_layer_64 htab (Nat.le_of_ble_eq_true rfl) (Nat.le_of_ble_eq_true rfl) (Nat.le_of_ble_eq_true rfl) (Nat.le_of_ble_eq_true rfl) hlocks (Nat.le_of_ble_eq_true rfl) (Nat.le_of_ble_eq_true rfl)
        · refine W.eq (g2 := F0 m 47 ls [.int 1]) rfl ?_
          refine lv_if_eq (tgt := 55) hx hb xd_De_layer_47 (by decide) (fun hc268 => absurd hc268 (by decide)) (fun _ => ?_)
          refine lv_iload hx hb xd_De_layer_50 (lv_at hl 0 rfl) ?_
          refine lv_if_ne (tgt := 65) hx hb xd_De_layer_52 (by decide) (fun _ => ?_) (fun hc269 => absurd hc269 (by decide))
          exact jn89 0 _ _ _ (lv_sub hl [1, 5, 4, 3, 2] rfl) hP hD hS (show 0 ≤ ml from by first | assumption | omega)
    · refine lv_aloadN hx hb xd_De_layer_24 (lv_at hl 0 rfl) ?_
      refine lv_ifnullN (tgt := 33) hx hb xd_De_layer_26 (by decide) ?_
      refine lv_iconst (v := 0) hx hb xd_De_layer_33 (by decide) ?_
      refine lv_istore hx hb xd_De_layer_34 hl (Nat.le_of_ble_eq_true rfl) rfl (fun ls hl => ?_)
      have hl : lv_has ls 7 [(5, .int 0), (4, .null), (0, .ref (ad 0 0)), (1, .int fi), (2, .int px), (3, .int bi)] := hl
      refine lv_aload_n hx hb xd_De_layer_36 rfl (lv_at hl 2 rfl) ?_
      have hFc := px_free hD hS hA
      refine va_calli (va_runV (As := []) (rest := []) ⟨hx, hb, hml, hown, hT⟩ (xc_De_rootsAreNames l D kA H.size ad E42 RL ml nd 0 w43 cs (by first | assumption | omega)) (cwV 0 hT (wT_V yx_98 yx_99 yx_100 yx_24 yx_97) rfl rfl rfl (by decide +kernel) ⟨Nat.le_of_ble_eq_true rfl, Nat.le_of_ble_eq_true rfl⟩) (px_preV hK hP hD m_60 c_59 rfl) rfl rfl hl.1 rfl (lv_room (Nat.le_of_ble_eq_true rfl)) xd_De_layer_37 ⟨(Nat.le_of_ble_eq_true rfl), (Nat.le_of_ble_eq_true rfl)⟩) hS (fun q _ h => hFc q h) hFc (fun r270 u271 t H1 locs ht hvm hp272 hB hz1 hk1 hS => ?_)
      obtain ⟨hP1, hD1⟩ := hB
      rw [ht] at hP1
      have hD1 := hD1.weaken (fun _ _ _ h => hFc _ h)
      generalize H1 = H at hP1 hS ⊢
      have hP := hP1
      have hD := hD1
      have hP : va_P D xcl (rp ad E42 RL) H := hP
      have hD : va_D A (rp ad E42 RL) := hD
      rcases hp272 with rfl | rfl
      · refine W.eq (g2 := F0 m 40 ls [.int 0]) rfl ?_
        refine lv_if_eq (tgt := 55) hx hb xd_De_layer_40 (by decide) (fun _ => ?_) (fun hc273 => absurd (by decide) hc273)
        exact y_throwA (ik := 56) (is := 80) (wf := fun (u : (Nat → Nat → Nat) × (Nat → Nat → va_E) × List (Nat × Nat)) => rp u.1 u.2.1 u.2.2) (ad, E42, RL) (⟨⟨ml, w43, cs, hCI⟩, rfl⟩) (Or.inl rfl) hx hb hlt hown hT hK yx_14 yx_15 hZ.2.2.2.1.2.2.2.2.2.2.2.2.2.2.2.2.2.2.1 hZ.1 hS hP hD (hl.1.trans hml.symm) xd_De_layer_55 xd_De_layer_58 xd_De_layer_59 xd_De_layer_61 xd_De_layer_64 htab (Nat.le_of_ble_eq_true rfl) (Nat.le_of_ble_eq_true rfl) (Nat.le_of_ble_eq_true rfl) (Nat.le_of_ble_eq_true rfl) hlocks (Nat.le_of_ble_eq_true rfl) (Nat.le_of_ble_eq_true rfl)
      · refine W.eq (g2 := F0 m 40 ls [.int 1]) rfl ?_
        refine lv_if_eq (tgt := 55) hx hb xd_De_layer_40 (by decide) (fun hc274 => absurd hc274 (by decide)) (fun _ => ?_)
        refine lv_iload_n hx hb xd_De_layer_43 rfl (lv_at hl 3 rfl) ?_
        have hFc := px_free hD hS hA
        refine va_calli (va_runS (As := [.int fi]) (rest := []) ⟨hx, hb, hml, hown, hT⟩ (xc_Sh_isFinder l D kA H.size ad E42 RL fi) (va_cwS 1 hT (wT_S yx_102 yx_103 yx_11 yx_101) rfl rfl rfl (by decide +kernel) ⟨Nat.le_of_ble_eq_true rfl, Nat.le_of_ble_eq_true rfl⟩) (x_preS hK hP hD) rfl rfl hl.1 rfl (lv_room (Nat.le_of_ble_eq_true rfl)) xd_De_layer_44 ⟨(Nat.le_of_ble_eq_true rfl), (Nat.le_of_ble_eq_true rfl)⟩) hS (fun q _ h => hFc q h) hFc (fun r275 u276 t H1 locs ht hvm hp277 hB hz1 hk1 hS => ?_)
        obtain ⟨hP1, hD1⟩ := hB
        rw [ht] at hP1
        have hD1 := hD1.weaken (fun _ _ _ h => hFc _ h)
        generalize H1 = H at hP1 hS ⊢
        have hP := hP1
        have hD := hD1
        have hP : va_P D xcl (rp ad E42 RL) H := hP
        have hD : va_D A (rp ad E42 RL) := hD
        rcases hp277 with rfl | rfl
        · refine W.eq (g2 := F0 m 47 ls [.int 0]) rfl ?_
          refine lv_if_eq (tgt := 55) hx hb xd_De_layer_47 (by decide) (fun _ => ?_) (fun hc278 => absurd (by decide) hc278)
          exact y_throwA (ik := 56) (is := 80) (wf := fun (u : (Nat → Nat → Nat) × (Nat → Nat → va_E) × List (Nat × Nat)) => rp u.1 u.2.1 u.2.2) (ad, E42, RL) (⟨⟨ml, w43, cs, hCI⟩, rfl⟩) (Or.inl rfl) hx hb hlt hown hT hK yx_14 yx_15 hZ.2.2.2.1.2.2.2.2.2.2.2.2.2.2.2.2.2.2.1 hZ.1 hS hP hD (hl.1.trans hml.symm) xd_De_layer_55 xd_De_layer_58 xd_De_layer_59 xd_De_layer_61 xd_De_layer_64 htab (Nat.le_of_ble_eq_true rfl) (Nat.le_of_ble_eq_true rfl) (Nat.le_of_ble_eq_true rfl) (Nat.le_of_ble_eq_true rfl) hlocks (Nat.le_of_ble_eq_true rfl) (Nat.le_of_ble_eq_true rfl)
        · refine W.eq (g2 := F0 m 47 ls [.int 1]) rfl ?_
          refine lv_if_eq (tgt := 55) hx hb xd_De_layer_47 (by decide) (fun hc279 => absurd hc279 (by decide)) (fun _ => ?_)
          refine lv_iload hx hb xd_De_layer_50 (lv_at hl 0 rfl) ?_
          refine lv_if_ne (tgt := 65) hx hb xd_De_layer_52 (by decide) (fun hc280 => absurd (by decide) hc280) (fun _ => ?_)
          exact y_throwA (ik := 56) (is := 80) (wf := fun (u : (Nat → Nat → Nat) × (Nat → Nat → va_E) × List (Nat × Nat)) => rp u.1 u.2.1 u.2.2) (ad, E42, RL) (⟨⟨ml, w43, cs, hCI⟩, rfl⟩) (Or.inl rfl) hx hb hlt hown hT hK yx_14 yx_15 hZ.2.2.2.1.2.2.2.2.2.2.2.2.2.2.2.2.2.2.1 hZ.1 hS hP hD (hl.1.trans hml.symm) xd_De_layer_55 xd_De_layer_58 xd_De_layer_59 xd_De_layer_61 xd_De_layer_64 htab (Nat.le_of_ble_eq_true rfl) (Nat.le_of_ble_eq_true rfl) (Nat.le_of_ble_eq_true rfl) (Nat.le_of_ble_eq_true rfl) hlocks (Nat.le_of_ble_eq_true rfl) (Nat.le_of_ble_eq_true rfl)
  · refine W.eq (g2 := F0 m 17 ls [.ref (ad (20 + z86) 0)]) rfl ?_
    refine lv_astore hx hb xd_De_layer_17 hl (Nat.le_of_ble_eq_true rfl) rfl (fun ls hl => ?_)
    have hl : lv_has ls 7 [(4, .ref (ad (20 + z86) 0)), (0, .ref (ad 0 0)), (1, .int fi), (2, .int px), (3, .int bi)] := hl
    refine xjoin (D := D) (cl := xcl) (A := A) (H0 := s.heap) (σ := Nat) (ml := 7) 65 (fun (y : Nat) => [(4, (lyv ad y)), (3, .int bi), (2, .int px), (1, .int fi), (0, .ref (ad 0 0))]) (fun (y : Nat) => []) (fun (y : Nat) => rp ad E42 RL) (fun (y : Nat) => (y ≤ ml)) ?_ (fun jn281 => ?_)
    · intro a9 ls H locs hl hP hD hS hI
      obtain ⟨y, rfl⟩ : ∃ z, z = a9 := ⟨_, rfl⟩
      have hy : y ≤ ml := hI
      have hl : lv_has ls 7 [(4, (lyv ad y)), (3, .int bi), (2, .int px), (1, .int fi), (0, .ref (ad 0 0))] := hl
      have hP : va_P D xcl (rp ad E42 RL) H := hP
      have hD : va_D A (rp ad E42 RL) := hD
      refine xjoin (D := D) (cl := xcl) (A := A) (H0 := s.heap) (σ := (Nat → Nat → va_E) × Nat) (ml := 7) 103 (fun (E7, cs7) => [(0, .ref (ad 0 0))]) (fun (E7, cs7) => []) (fun (E7, cs7) => rp ad E7 RL) (fun (E7, cs7) => (CI kA ad E7 RL ml nd 0 w43 cs7)) ?_ (fun jn282 => ?_)
      · intro a9 ls H locs hl hP hD hS hI
        obtain ⟨E7, cs7⟩ := a9
        have hCI : CI kA ad E7 RL ml nd 0 w43 cs7 := hI
        have hl : lv_has ls 7 [(0, .ref (ad 0 0))] := hl
        have hP : va_P D xcl (rp ad E7 RL) H := hP
        have hD : va_D A (rp ad E7 RL) := hD
        obtain ⟨hmB, hDk, hLi, hSh, hCh, hLa, hDIs, hLIs⟩ := id hCI
        obtain ⟨lf_283, q_283⟩ := id (hDk)
        have c_284 : E7 0 0 = .inr (0, [.ref (ad 0 1), .ref (ad 0 5), .ref (ad 0 7), .ref (ad 0 9), .int (nI ml), .int lf_283]) := q_283
        have m_285 : (0, 0) ∈ RL := hmB 0 (by omega)
        obtain ⟨cf_286, pv_286, fc_286, hcs_286, hpv_286, q7_286, q8_286, hfc_286⟩ := id (hCh)
        have c_287 : E7 0 7 = .inr (3, [.ref (ad 0 5), .ref (ad 0 8), .int (nI cs7), .int cf_286, pv_286]) := q7_286
        have m_288 : (0, 7) ∈ RL := hmB 7 (by omega)
        have c_289 : E7 0 8 = .inl (kA 4, 12, .inr (.inr (.inr (.inr fc_286)))) := q8_286
        have m_290 : (0, 8) ∈ RL := hmB 8 (by omega)
        refine lv_aload_n hx hb xd_De_layer_103 rfl (lv_at hl 0 rfl) ?_
        refine px_get (D := D) (ci := 0) (v := .ref (ad 0 7)) (C := xR_De) (T := xT_De) (N := 6) hx hb hT xi_De hown hK.1 hP m_285 c_284 rfl 2 (by decide) (hT _ yx_69) (fun _ h9 => h9) rfl xd_De_layer_104 ?_
        refine lv_aload_n hx hb xd_De_layer_107 rfl (lv_at hl 0 rfl) ?_
        refine px_get (D := D) (ci := 0) (v := .int (nI ml)) (C := xR_De) (T := xT_De) (N := 6) hx hb hT xi_De hown hK.1 hP m_285 c_284 rfl 4 (by decide) (hT _ yx_70) (fun _ h9 => h9) rfl xd_De_layer_108 ?_
        have hFc := px_free hD hS hA
        refine va_callq (va_runV (As := [.int (nI ml)]) (rest := []) ⟨hx, hb, hml, hown, hT⟩ (xc_Ch_draft l D kA H.size ad E7 RL ml nd 0 w43 cs7 (by first | assumption | omega)) (cwV 1 hT (wT_V yx_72 yx_73 yx_74 yx_75 yx_71) rfl rfl rfl (by decide +kernel) ⟨Nat.le_of_ble_eq_true rfl, Nat.le_of_ble_eq_true rfl⟩) (px_preV hK hP hD m_288 c_287 rfl) rfl rfl hl.1 rfl (lv_room (Nat.le_of_ble_eq_true rfl)) xd_De_layer_111 ⟨(Nat.le_of_ble_eq_true rfl), (Nat.le_of_ble_eq_true rfl)⟩) hS (fun q _ h => hFc q h) hFc (fun r291 u292 t H1 locs ht hvm hp293 hB hz1 hk1 hS => ?_)
        obtain ⟨hP1, hD1⟩ := hB
        rw [ht] at hP1
        have hD1 := hD1.weaken (fun _ _ _ h => hFc _ h)
        generalize H1 = H at hP1 hS ⊢
        have hP := hP1
        have hD := hD1
        obtain ⟨ad294, E295, RL296⟩ := u292
        obtain ⟨hp300, p_297, p_298, p_299⟩ := hp293
        have p_297 : (∀ b2 o2, ¬ (b2 = 20 + ml) → E295 b2 o2 = E7 b2 o2) := p_297
        have p_298 : (∀ b2 o2, ¬ (b2 = 20 + ml) → ad294 b2 o2 = ad b2 o2) := p_298
        have p_299 : (∀ x ∈ RL, x ∈ RL296) := p_299
        have hl : lv_has ls 7 [(0, .ref (ad294 0 0))] := by
          rw [p_298 0 0 (by omega)]; exact hl
        have m_301 : (0, 0) ∈ RL296 := p_299 _ m_285
        have m_302 : (0, 7) ∈ RL296 := p_299 _ m_288
        have m_303 : (0, 8) ∈ RL296 := p_299 _ m_290
        have c_304 : E295 0 0 = .inr (0, [.ref (ad294 0 1), .ref (ad294 0 5), .ref (ad294 0 7), .ref (ad294 0 9), .int (nI ml), .int lf_283]) := by rw [p_297 0 0 (by omega), p_298 0 1 (by omega), p_298 0 5 (by omega), p_298 0 7 (by omega), p_298 0 9 (by omega)]; exact c_284
        have c_305 : E295 0 7 = .inr (3, [.ref (ad294 0 5), .ref (ad294 0 8), .int (nI cs7), .int cf_286, pv_286]) := by rw [p_297 0 7 (by omega), p_298 0 5 (by omega), p_298 0 8 (by omega)]; exact c_287
        have c_306 : E295 0 8 = .inl (kA 4, 12, .inr (.inr (.inr (.inr fc_286)))) := by rw [p_297 0 8 (by omega)]; exact c_289
        have hP : va_P D xcl (rp ad294 E295 RL296) H := hP
        have hD : va_D A (rp ad294 E295 RL296) := hD
        rcases hp300 with ⟨rfl, z307, z308⟩
        · refine W.eq (g2 := F0 m 114 ls [.ref (ad294 (20 + ml) 0)]) rfl ?_
          have hA00 : ad294 0 0 = ad 0 0 := by show ad294 0 0 = _; rw [p_298 0 0 (by omega)]
          have hCI : CI kA ad294 E295 RL296 ml nd 0 w43 cs7 := z307
          have hLI : LI kA ad294 E295 RL296 nd ml := z308
          obtain ⟨hmB, hDk, hLi, hSh, hCh, hLa, hDIs, hLIs⟩ := id hCI
          obtain ⟨lf_309, q_309⟩ := id (hDk)
          have c_310 : E295 0 0 = .inr (0, [.ref (ad294 0 1), .ref (ad294 0 5), .ref (ad294 0 7), .ref (ad294 0 9), .int (nI ml), .int lf_309]) := q_309
          have m_311 : (0, 0) ∈ RL296 := hmB 0 (by omega)
          obtain ⟨tx_312, fb_312, fe_312, hl1_312, hw2_312, q1_312, q2_312, q3_312, q4_312, hws_312⟩ := id (hLi)
          have c_313 : E295 0 1 = .inr (1, [.ref (ad294 0 2), .ref (ad294 0 3), .ref (ad294 0 4), .int (nI 0), .int (nI w43)]) := q1_312
          have m_314 : (0, 1) ∈ RL296 := hmB 1 (by omega)
          have c_315 : E295 0 2 = .inl (kA 1, 40, .inl tx_312) := q2_312
          have m_316 : (0, 2) ∈ RL296 := hmB 2 (by omega)
          have c_317 : E295 0 3 = .inl (kA 0, 20, .inl fb_312) := q3_312
          have m_318 : (0, 3) ∈ RL296 := hmB 3 (by omega)
          have c_319 : E295 0 4 = .inl (kA 0, 20, .inl fe_312) := q4_312
          have m_320 : (0, 4) ∈ RL296 := hmB 4 (by omega)
          obtain ⟨fd_321, hnd_321, q5_321, q6_321, hds_321⟩ := id (hSh)
          have c_322 : E295 0 5 = .inr (2, [.ref (ad294 0 6), .int (nI nd)]) := q5_321
          have m_323 : (0, 5) ∈ RL296 := hmB 5 (by omega)
          have c_324 : E295 0 6 = .inl (kA 4, 12, .inr (.inr (.inr (.inr fd_321)))) := q6_321
          have m_325 : (0, 6) ∈ RL296 := hmB 6 (by omega)
          obtain ⟨cf_326, pv_326, fc_326, hcs_326, hpv_326, q7_326, q8_326, hfc_326⟩ := id (hCh)
          have c_327 : E295 0 7 = .inr (3, [.ref (ad294 0 5), .ref (ad294 0 8), .int (nI cs7), .int cf_326, pv_326]) := q7_326
          have m_328 : (0, 7) ∈ RL296 := hmB 7 (by omega)
          have c_329 : E295 0 8 = .inl (kA 4, 12, .inr (.inr (.inr (.inr fc_326)))) := q8_326
          have m_330 : (0, 8) ∈ RL296 := hmB 8 (by omega)
          obtain ⟨fl_331, hml_331, q9_331, hla_331⟩ := id (hLa)
          have c_332 : E295 0 9 = .inl (kA 5, 5, .inr (.inr (.inr (.inr fl_331)))) := q9_331
          have m_333 : (0, 9) ∈ RL296 := hmB 9 (by omega)
          refine lv_astore hx hb xd_De_layer_114 hl (Nat.le_of_ble_eq_true rfl) rfl (fun ls hl => ?_)
          have hl : lv_has ls 7 [(6, .ref (ad294 (20 + ml) 0)), (0, .ref (ad294 0 0))] := hl
          refine lv_aload_n hx hb xd_De_layer_116 rfl (lv_at hl 1 rfl) ?_
          refine lv_aload_n hx hb xd_De_layer_117 rfl (lv_at hl 1 rfl) ?_
          refine lv_aload hx hb xd_De_layer_118 (lv_at hl 0 rfl) ?_
          have hFc := px_free hD hS hA
          refine va_calli (va_runV (As := [.ref (ad294 (20 + ml) 0)]) (rest := [.ref (ad294 0 0)]) ⟨hx, hb, hml, hown, hT⟩ (xc_De_faultOf l D kA H.size ad294 E295 RL296 ml nd 0 w43 cs7 (by first | assumption | omega) (by first | assumption | omega)) (cwV 1 hT (wT_V yx_77 yx_78 yx_79 yx_24 yx_76) rfl rfl rfl (by decide +kernel) ⟨Nat.le_of_ble_eq_true rfl, Nat.le_of_ble_eq_true rfl⟩) (px_preV hK hP hD m_311 c_310 rfl) rfl rfl hl.1 rfl (lv_room (Nat.le_of_ble_eq_true rfl)) xd_De_layer_120 ⟨(Nat.le_of_ble_eq_true rfl), (Nat.le_of_ble_eq_true rfl)⟩) hS (fun q _ h => hFc q h) hFc (fun r334 u335 t H1 locs ht hvm hp336 hB hz1 hk1 hS => ?_)
          obtain ⟨hP1, hD1⟩ := hB
          rw [ht] at hP1
          have hD1 := hD1.weaken (fun _ _ _ h => hFc _ h)
          generalize H1 = H at hP1 hS ⊢
          have hP := hP1
          have hD := hD1
          have hP : va_P D xcl (rp ad294 E295 RL296) H := hP
          have hD : va_D A (rp ad294 E295 RL296) := hD
          have hfo := hp336
          refine px_put (D := D) (ci := 0) (v := .int r334) (ty := .int) (C := xR_De) (T := xT_De) (N := 6) hx hb hT xi_De xt_De xt_De_ok xn_De hown hK.1 hP hD hS m_311 c_310 rfl 5 (by decide) (hT _ yx_68) (fun _ h9 => h9) rfl (by decide +kernel) rfl rfl (Nat.le_of_ble_eq_true rfl) xd_De_layer_123 (fun H locs hP hD hS => ?_)
          have hP : va_P D xcl (rp ad294 (up2 E295 0 0 (.inr (0, [.ref (ad294 0 1), .ref (ad294 0 5), .ref (ad294 0 7), .ref (ad294 0 9), .int (nI ml), .int r334]))) RL296) H := hP
          have hD : va_D A (rp ad294 (up2 E295 0 0 (.inr (0, [.ref (ad294 0 1), .ref (ad294 0 5), .ref (ad294 0 7), .ref (ad294 0 9), .int (nI ml), .int r334]))) RL296) := hD
          generalize hE338 : up2 E295 0 0 (.inr (0, [.ref (ad294 0 1), .ref (ad294 0 5), .ref (ad294 0 7), .ref (ad294 0 9), .int (nI ml), .int r334])) = E337 at hP hD
          have fE339 : ∀ b2 o2, ¬ (b2 = 0 ∧ o2 = 0) → E337 b2 o2 = E295 b2 o2 := fun b2 o2 h9 => by rw [← hE338]; exact up2_ne (by omega)
          have c_340 : E337 0 0 = .inr (0, [.ref (ad294 0 1), .ref (ad294 0 5), .ref (ad294 0 7), .ref (ad294 0 9), .int (nI ml), .int r334]) := by rw [← hE338]; exact up2_eq
          have c_341 : E337 0 1 = .inr (1, [.ref (ad294 0 2), .ref (ad294 0 3), .ref (ad294 0 4), .int (nI 0), .int (nI w43)]) := (fE339 0 1 (by omega)).trans c_313
          have c_342 : E337 0 2 = .inl (kA 1, 40, .inl tx_312) := (fE339 0 2 (by omega)).trans c_315
          have c_343 : E337 0 3 = .inl (kA 0, 20, .inl fb_312) := (fE339 0 3 (by omega)).trans c_317
          have c_344 : E337 0 4 = .inl (kA 0, 20, .inl fe_312) := (fE339 0 4 (by omega)).trans c_319
          have c_345 : E337 0 5 = .inr (2, [.ref (ad294 0 6), .int (nI nd)]) := (fE339 0 5 (by omega)).trans c_322
          have c_346 : E337 0 6 = .inl (kA 4, 12, .inr (.inr (.inr (.inr fd_321)))) := (fE339 0 6 (by omega)).trans c_324
          have c_347 : E337 0 7 = .inr (3, [.ref (ad294 0 5), .ref (ad294 0 8), .int (nI cs7), .int cf_326, pv_326]) := (fE339 0 7 (by omega)).trans c_327
          have c_348 : E337 0 8 = .inl (kA 4, 12, .inr (.inr (.inr (.inr fc_326)))) := (fE339 0 8 (by omega)).trans c_329
          have c_349 : E337 0 9 = .inl (kA 5, 5, .inr (.inr (.inr (.inr fl_331)))) := (fE339 0 9 (by omega)).trans c_332
          have hLI : LI kA ad294 E337 RL296 nd ml := LI_same (Nat.le_refl _) (fun2 fun o9 => by show E337 (20 + ml) o9 = _; rw [fE339 (20 + ml) o9 (by omega)]) rfl (fun _ _ => rfl) (fun _ _ => rfl) (fun _ h => h) hLI
          have hCI : CI kA ad294 E337 RL296 ml nd 0 w43 cs7 := ⟨hmB, ⟨r334, c_340⟩, ⟨tx_312, fb_312, fe_312, (by omega), (by omega), c_341, c_342, c_343, c_344, hws_312⟩, ⟨fd_321, (by omega), c_345, c_346, hds_321⟩, ⟨cf_326, pv_326, fc_326, (by omega), hpv_326, c_347, c_348, hfc_326⟩, ⟨fl_331, (by omega), c_349, hla_331⟩, (DIs_same (fun d9 hd9 => fun2 fun o9 => by show E337 (1 + d9) o9 = _; rw [fE339 (1 + d9) o9 (by omega)]) (fun _ _ => rfl) (fun _ h9 => h9) hDIs), (LIs_same (Nat.le_refl _) (fun n9 hn9 => fun2 fun o9 => by show E337 (20 + n9) o9 = _; rw [fE339 (20 + n9) o9 (by omega)]) (fun _ _ => rfl) (fun _ _ => rfl) (fun _ h9 => h9) hLIs)⟩
          obtain ⟨hmB, hDk, hLi, hSh, hCh, hLa, hDIs, hLIs⟩ := id hCI
          have m_00 : (0, 0) ∈ RL296 := hmB 0 (by omega)
          refine lv_aload_n hx hb xd_De_layer_126 rfl (lv_at hl 1 rfl) ?_
          refine px_get (D := D) (ci := 0) (v := .int r334) (C := xR_De) (T := xT_De) (N := 6) hx hb hT xi_De hown hK.1 hP m_00 c_340 rfl 5 (by decide) (hT _ yx_68) (fun _ h9 => h9) rfl xd_De_layer_127 ?_
          refine lv_if_eq (tgt := 143) hx hb xd_De_layer_130 (by decide) (fun hc350 => ?_) (fun hc350 => ?_)
          · refine lv_aload_n hx hb xd_De_layer_143 rfl (lv_at hl 1 rfl) ?_
            refine lv_aload hx hb xd_De_layer_144 (lv_at hl 0 rfl) ?_
            have hFc := px_free hD hS hA
            refine va_callv (va_runV (As := [.ref (ad294 (20 + ml) 0)]) (rest := []) ⟨hx, hb, hml, hown, hT⟩ (xc_De_keep l D kA H.size ad294 E337 RL296 ml nd 0 w43 cs7 (by first | assumption | omega) (by first | assumption | omega) (by rcases hfo with h | h; exact h.2; exact absurd hc350 h)) (cwV 1 hT (wT_V yx_81 yx_82 yx_83 yx_24 yx_80) rfl rfl rfl (by decide +kernel) ⟨Nat.le_of_ble_eq_true rfl, Nat.le_of_ble_eq_true rfl⟩) (px_preV hK hP hD m_00 c_340 rfl) rfl rfl hl.1 rfl (lv_room (Nat.le_of_ble_eq_true rfl)) xd_De_layer_146 ⟨(Nat.le_of_ble_eq_true rfl), (Nat.le_of_ble_eq_true rfl)⟩) hS (fun q _ h => hFc q h) hFc (fun u352 t H1 locs ht hvm hp353 hB hz1 hk1 hS => ?_)
            obtain ⟨hP1, hD1⟩ := hB
            rw [ht] at hP1
            have hD1 := hD1.weaken (fun _ _ _ h => hFc _ h)
            generalize H1 = H at hP1 hS ⊢
            have hP := hP1
            have hD := hD1
            obtain ⟨E354, rfl⟩ : ∃ z, z = u352 := ⟨_, rfl⟩
            have hP : va_P D xcl (rp ad294 E354 RL296) H := hP
            have hD : va_D A (rp ad294 E354 RL296) := hD
            have hCI : CI kA ad294 E354 RL296 (ml + 1) nd 0 w43 cs7 := hp353
            obtain ⟨hmB, hDk, hLi, hSh, hCh, hLa, hDIs, hLIs⟩ := id hCI
            obtain ⟨fd_355, hnd_355, q5_355, q6_355, hds_355⟩ := id (hSh)
            have c_356 : E354 0 5 = .inr (2, [.ref (ad294 0 6), .int (nI nd)]) := q5_355
            have m_357 : (0, 5) ∈ RL296 := hmB 5 (by omega)
            have c_358 : E354 0 6 = .inl (kA 4, 12, .inr (.inr (.inr (.inr fd_355)))) := q6_355
            have m_359 : (0, 6) ∈ RL296 := hmB 6 (by omega)
            obtain ⟨fl_360, hml_360, q9_360, hla_360⟩ := id (hLa)
            have c_361 : E354 0 9 = .inl (kA 5, 5, .inr (.inr (.inr (.inr fl_360)))) := q9_360
            have m_362 : (0, 9) ∈ RL296 := hmB 9 (by omega)
            refine lv_aload hx hb xd_De_layer_149 (lv_at hl 0 rfl) ?_
            obtain ⟨m0_363, m1_363, pv_363, op_363, mk_363, fm_363, hmk_363, hpv_363, q0_363, q1_363, hk_363⟩ := id (hLIs ml (by omega))
            have c_364 : E354 (20 + ml) 0 = .inr (5, [.int (nI ml), pv_363, .ref (ad294 (20 + ml) 1), .int op_363]) := q0_363
            have m_365 : (20 + ml, 0) ∈ RL296 := m0_363
            have c_366 : E354 (20 + ml) 1 = .inl (kA 6, mk_363, .inr (.inr (.inr (.inr fm_363)))) := q1_363
            have m_367 : (20 + ml, 1) ∈ RL296 := m1_363
            refine px_get (D := D) (ci := 5) (v := .int (nI ml)) (C := xR_Ly) (T := xT_Ly) (N := 4) hx hb hT xi_Ly hown hK.1 hP m_365 c_364 rfl 0 (by decide) (hT _ yx_84) (fun _ h9 => h9) rfl xd_De_layer_151 ?_
            refine W.widen (k := 101) (n := 430) (Nat.le_of_ble_eq_true rfl) (Nat.le_of_ble_eq_true rfl) ?_
            refine vx_ret ?_
            exact W.iret (v := (nI ml)) hx hb hr (fun t ht hW => ⟨⟨(nI ml), (ad294, E354, RL296), rfl, ⟨⟨ml + 1, w43, cs7, hCI⟩, hA00⟩, by rw [ht]; exact hP, hD⟩, hS.F ht⟩) hS.2.2 xd_De_layer_154
          · exact y_throwB (ik := 63) (is := 104) (wf := fun (u : (Nat → Nat → Nat) × (Nat → Nat → va_E) × List (Nat × Nat)) => rp u.1 u.2.1 u.2.2) (ad294, E337, RL296) (⟨⟨ml, w43, cs7, hCI⟩, hA00⟩) (Or.inr (Or.inr rfl)) hx hb hlt hown hT hK yx_12 yx_13 hZ.2.2.2.1.2.2.2.2.2.2.2.2.2.2.2.2.2.2.2.2.1 hZ.1 hS hP hD (hl.1.trans hml.symm) xd_De_layer_133 xd_De_layer_136 xd_De_layer_137 xd_De_layer_139 xd_De_layer_142 htab (Nat.le_of_ble_eq_true rfl) (Nat.le_of_ble_eq_true rfl) (Nat.le_of_ble_eq_true rfl) (Nat.le_of_ble_eq_true rfl) hlocks (Nat.le_of_ble_eq_true rfl) (Nat.le_of_ble_eq_true rfl)
      rcases y with _ | y
      · have hl : lv_has ls 7 [(4, .null), (3, .int bi), (2, .int px), (1, .int fi), (0, .ref (ad 0 0))] := hl
        refine lv_aload_n hx hb xd_De_layer_65 rfl (lv_at hl 4 rfl) ?_
        refine px_get (D := D) (ci := 0) (v := .ref (ad 0 7)) (C := xR_De) (T := xT_De) (N := 6) hx hb hT xi_De hown hK.1 hP m_60 c_59 rfl 2 (by decide) (hT _ yx_69) (fun _ h9 => h9) rfl xd_De_layer_66 ?_
        refine lv_iload_n hx hb xd_De_layer_69 rfl (lv_at hl 3 rfl) ?_
        refine lv_aloadN hx hb xd_De_layer_70 (lv_at hl 0 rfl) ?_
        have hFc := px_free hD hS hA
        refine va_callv (va_runV (As := [.int fi, .null]) (rest := []) ⟨hx, hb, hml, hown, hT⟩ (xc_Ch_beginN l D kA H.size ad E42 RL cs cf_75 pv_75 fi m_77 c_76) (cwV 2 hT (wT_V yx_86 yx_87 yx_88 yx_75 yx_85) rfl rfl rfl (by decide +kernel) ⟨Nat.le_of_ble_eq_true rfl, Nat.le_of_ble_eq_true rfl⟩) (px_preV hK hP hD m_77 c_76 rfl) rfl rfl hl.1 rfl (lv_room (Nat.le_of_ble_eq_true rfl)) xd_De_layer_72 ⟨(Nat.le_of_ble_eq_true rfl), (Nat.le_of_ble_eq_true rfl)⟩) hS (fun q _ h => hFc q h) hFc (fun u369 t H1 locs ht hvm hp370 hB hz1 hk1 hS => ?_)
        obtain ⟨hP1, hD1⟩ := hB
        rw [ht] at hP1
        have hD1 := hD1.weaken (fun _ _ _ h => hFc _ h)
        generalize H1 = H at hP1 hS ⊢
        have hP := hP1
        have hD := hD1
        obtain ⟨E371, rfl⟩ : ∃ z, z = u369 := ⟨_, rfl⟩
        obtain ⟨hp374, p_372, p_373⟩ := hp370
        have p_372 : E371 0 7 = .inr (3, [.ref (ad 0 5), .ref (ad 0 8), .int 0, .int fi, .null]) := p_372
        have p_373 : (∀ b2 o2, ¬ (b2 = 0 ∧ o2 = 7) → E371 b2 o2 = E42 b2 o2) := p_373
        have c_375 : E371 0 0 = .inr (0, [.ref (ad 0 1), .ref (ad 0 5), .ref (ad 0 7), .ref (ad 0 9), .int (nI ml), .int lf_58]) := (p_373 0 0 (by omega)).trans c_59
        have c_376 : E371 0 1 = .inr (1, [.ref (ad 0 2), .ref (ad 0 3), .ref (ad 0 4), .int (nI 0), .int (nI w43)]) := (p_373 0 1 (by omega)).trans c_62
        have c_377 : E371 0 2 = .inl (kA 1, 40, .inl tx_61) := (p_373 0 2 (by omega)).trans c_64
        have c_378 : E371 0 3 = .inl (kA 0, 20, .inl fb_61) := (p_373 0 3 (by omega)).trans c_66
        have c_379 : E371 0 4 = .inl (kA 0, 20, .inl fe_61) := (p_373 0 4 (by omega)).trans c_68
        have c_380 : E371 0 5 = .inr (2, [.ref (ad 0 6), .int (nI nd)]) := (p_373 0 5 (by omega)).trans c_71
        have c_381 : E371 0 6 = .inl (kA 4, 12, .inr (.inr (.inr (.inr fd_70)))) := (p_373 0 6 (by omega)).trans c_73
        have c_382 : E371 0 8 = .inl (kA 4, 12, .inr (.inr (.inr (.inr fc_75)))) := (p_373 0 8 (by omega)).trans c_78
        have c_383 : E371 0 9 = .inl (kA 5, 5, .inr (.inr (.inr (.inr fl_80)))) := (p_373 0 9 (by omega)).trans c_81
        have hP : va_P D xcl (rp ad E371 RL) H := hP
        have hD : va_D A (rp ad E371 RL) := hD
        have hCI : CI kA ad E371 RL ml nd 0 w43 0 := ⟨hmB, ⟨lf_58, c_375⟩, ⟨tx_61, fb_61, fe_61, (by omega), (by omega), c_376, c_377, c_378, c_379, hws_61⟩, ⟨fd_70, (by omega), c_380, c_381, hds_70⟩, ⟨fi, .null, fc_75, (by omega), (Or.inl rfl), p_372, c_382, (fun k9 hk9 => absurd hk9 (by omega))⟩, ⟨fl_80, (by omega), c_383, hla_80⟩, (DIs_same (fun d9 hd9 => fun2 fun o9 => by show E371 (1 + d9) o9 = _; rw [p_373 (1 + d9) o9 (by omega)]) (fun _ _ => rfl) (fun _ h9 => h9) hDIs), (LIs_same (Nat.le_refl _) (fun n9 hn9 => fun2 fun o9 => by show E371 (20 + n9) o9 = _; rw [p_373 (20 + n9) o9 (by omega)]) (fun _ _ => rfl) (fun _ _ => rfl) (fun _ h9 => h9) hLIs)⟩
        obtain ⟨hmB, hDk, hLi, hSh, hCh, hLa, hDIs, hLIs⟩ := id hCI
        refine lv_aload_n hx hb xd_De_layer_75 rfl (lv_at hl 4 rfl) ?_
        have hFc := px_free hD hS hA
        obtain ⟨lf_384, q_384⟩ := id (hDk)
        have c_385 : E371 0 0 = .inr (0, [.ref (ad 0 1), .ref (ad 0 5), .ref (ad 0 7), .ref (ad 0 9), .int (nI ml), .int lf_384]) := q_384
        have m_386 : (0, 0) ∈ RL := hmB 0 (by omega)
        refine va_calli (va_runV (As := []) (rest := []) ⟨hx, hb, hml, hown, hT⟩ (xc_De_addRoots l D kA H.size ad E371 RL ml nd 0 w43 0 (by first | assumption | omega)) (cwV 0 hT (wT_V yx_90 yx_91 yx_92 yx_24 yx_89) rfl rfl rfl (by decide +kernel) ⟨Nat.le_of_ble_eq_true rfl, Nat.le_of_ble_eq_true rfl⟩) (px_preV hK hP hD m_386 c_385 rfl) rfl rfl hl.1 rfl (lv_room (Nat.le_of_ble_eq_true rfl)) xd_De_layer_76 ⟨(Nat.le_of_ble_eq_true rfl), (Nat.le_of_ble_eq_true rfl)⟩) hS (fun q _ h => hFc q h) hFc (fun r387 u388 t H1 locs ht hvm hp389 hB hz1 hk1 hS => ?_)
        obtain ⟨hP1, hD1⟩ := hB
        rw [ht] at hP1
        have hD1 := hD1.weaken (fun _ _ _ h => hFc _ h)
        generalize H1 = H at hP1 hS ⊢
        have hP := hP1
        have hD := hD1
        obtain ⟨E390, rfl⟩ : ∃ z, z = u388 := ⟨_, rfl⟩
        have hP : va_P D xcl (rp ad E390 RL) H := hP
        have hD : va_D A (rp ad E390 RL) := hD
        obtain ⟨hr392, cs391, hCI⟩ := hp389
        have hCI : CI kA ad E390 RL ml nd 0 w43 cs391 := hCI
        obtain ⟨hmB, hDk, hLi, hSh, hCh, hLa, hDIs, hLIs⟩ := id hCI
        refine lv_if_ne (tgt := 92) hx hb xd_De_layer_79 (by decide) (fun hc393 => ?_) (fun hc393 => ?_)
        · refine lv_iload_n hx hb xd_De_layer_92 rfl (lv_at hl 1 rfl) ?_
          refine lv_if_eq (tgt := 103) hx hb xd_De_layer_93 (by decide) (fun hc394 => ?_) (fun hc394 => ?_)
          · exact jn282 (E390, cs391) _ _ _ (lv_sub hl [4] rfl) hP hD hS (show CI kA ad E390 RL ml nd 0 w43 cs391 from hCI)
          · refine lv_aload_n hx hb xd_De_layer_96 rfl (lv_at hl 4 rfl) ?_
            obtain ⟨lf_395, q_395⟩ := id (hDk)
            have c_396 : E390 0 0 = .inr (0, [.ref (ad 0 1), .ref (ad 0 5), .ref (ad 0 7), .ref (ad 0 9), .int (nI ml), .int lf_395]) := q_395
            have m_397 : (0, 0) ∈ RL := hmB 0 (by omega)
            refine px_get (D := D) (ci := 0) (v := .ref (ad 0 7)) (C := xR_De) (T := xT_De) (N := 6) hx hb hT xi_De hown hK.1 hP m_397 c_396 rfl 2 (by decide) (hT _ yx_69) (fun _ h9 => h9) rfl xd_De_layer_97 ?_
            have hFc := px_free hD hS hA
            obtain ⟨cf_398, pv_398, fc_398, hcs_398, hpv_398, q7_398, q8_398, hfc_398⟩ := id (hCh)
            have c_399 : E390 0 7 = .inr (3, [.ref (ad 0 5), .ref (ad 0 8), .int (nI cs391), .int cf_398, pv_398]) := q7_398
            have m_400 : (0, 7) ∈ RL := hmB 7 (by omega)
            have c_401 : E390 0 8 = .inl (kA 4, 12, .inr (.inr (.inr (.inr fc_398)))) := q8_398
            have m_402 : (0, 8) ∈ RL := hmB 8 (by omega)
            refine va_callv (va_runV (As := []) (rest := []) ⟨hx, hb, hml, hown, hT⟩ (xc_Ch_bind l D kA H.size ad E390 RL ml nd 0 w43 cs391 (by first | assumption | omega)) (cwV 0 hT (wT_V yx_94 yx_95 yx_96 yx_75 yx_93) rfl rfl rfl (by decide +kernel) ⟨Nat.le_of_ble_eq_true rfl, Nat.le_of_ble_eq_true rfl⟩) (px_preV hK hP hD m_400 c_399 rfl) rfl rfl hl.1 rfl (lv_room (Nat.le_of_ble_eq_true rfl)) xd_De_layer_100 ⟨(Nat.le_of_ble_eq_true rfl), (Nat.le_of_ble_eq_true rfl)⟩) hS (fun q _ h => hFc q h) hFc (fun u404 t H1 locs ht hvm hp405 hB hz1 hk1 hS => ?_)
            obtain ⟨hP1, hD1⟩ := hB
            rw [ht] at hP1
            have hD1 := hD1.weaken (fun _ _ _ h => hFc _ h)
            generalize H1 = H at hP1 hS ⊢
            have hP := hP1
            have hD := hD1
            obtain ⟨E406, rfl⟩ : ∃ z, z = u404 := ⟨_, rfl⟩
            have hP : va_P D xcl (rp ad E406 RL) H := hP
            have hD : va_D A (rp ad E406 RL) := hD
            obtain ⟨cs407, hCI⟩ := hp405
            have hCI : CI kA ad E406 RL ml nd 0 w43 cs407 := hCI
            obtain ⟨hmB, hDk, hLi, hSh, hCh, hLa, hDIs, hLIs⟩ := id hCI
            exact jn282 (E406, cs407) _ _ _ (lv_sub hl [4] rfl) hP hD hS (show CI kA ad E406 RL ml nd 0 w43 cs407 from hCI)
        · exact y_throwC (ik := 89) (is := 91) (wf := fun (u : (Nat → Nat → Nat) × (Nat → Nat → va_E) × List (Nat × Nat)) => rp u.1 u.2.1 u.2.2) (ad, E390, RL) (⟨⟨ml, w43, cs391, hCI⟩, rfl⟩) (Or.inr (Or.inl rfl)) hx hb hlt hown hT hK yx_41 yx_42 hZ.2.2.2.1.2.2.2.2.2.2.2.2.2.2.2.2.2.2.2.1 hZ.1 hS hP hD (hl.1.trans hml.symm) xd_De_layer_82 xd_De_layer_85 xd_De_layer_86 xd_De_layer_88 xd_De_layer_91 htab (Nat.le_of_ble_eq_true rfl) (Nat.le_of_ble_eq_true rfl) (Nat.le_of_ble_eq_true rfl) (Nat.le_of_ble_eq_true rfl) hlocks (Nat.le_of_ble_eq_true rfl) (Nat.le_of_ble_eq_true rfl)
      · have hl : lv_has ls 7 [(4, .ref (ad (20 + y) 0)), (3, .int bi), (2, .int px), (1, .int fi), (0, .ref (ad 0 0))] := hl
        refine lv_aload_n hx hb xd_De_layer_65 rfl (lv_at hl 4 rfl) ?_
        refine px_get (D := D) (ci := 0) (v := .ref (ad 0 7)) (C := xR_De) (T := xT_De) (N := 6) hx hb hT xi_De hown hK.1 hP m_60 c_59 rfl 2 (by decide) (hT _ yx_69) (fun _ h9 => h9) rfl xd_De_layer_66 ?_
        refine lv_iload_n hx hb xd_De_layer_69 rfl (lv_at hl 3 rfl) ?_
        refine lv_aload hx hb xd_De_layer_70 (lv_at hl 0 rfl) ?_
        have hFc := px_free hD hS hA
        refine va_callv (va_runV (As := [.int fi, .ref (ad (20 + y) 0)]) (rest := []) ⟨hx, hb, hml, hown, hT⟩ (xc_Ch_beginR l D kA H.size ad E42 RL cs cf_75 pv_75 fi (ad (20 + y) 0) m_77 c_76) (cwV 2 hT (wT_V yx_86 yx_87 yx_88 yx_75 yx_85) rfl rfl rfl (by decide +kernel) ⟨Nat.le_of_ble_eq_true rfl, Nat.le_of_ble_eq_true rfl⟩) (px_preV hK hP hD m_77 c_76 rfl) rfl rfl hl.1 rfl (lv_room (Nat.le_of_ble_eq_true rfl)) xd_De_layer_72 ⟨(Nat.le_of_ble_eq_true rfl), (Nat.le_of_ble_eq_true rfl)⟩) hS (fun q _ h => hFc q h) hFc (fun u410 t H1 locs ht hvm hp411 hB hz1 hk1 hS => ?_)
        obtain ⟨hP1, hD1⟩ := hB
        rw [ht] at hP1
        have hD1 := hD1.weaken (fun _ _ _ h => hFc _ h)
        generalize H1 = H at hP1 hS ⊢
        have hP := hP1
        have hD := hD1
        obtain ⟨E412, rfl⟩ : ∃ z, z = u410 := ⟨_, rfl⟩
        obtain ⟨hp415, p_413, p_414⟩ := hp411
        have p_413 : E412 0 7 = .inr (3, [.ref (ad 0 5), .ref (ad 0 8), .int 0, .int fi, .ref (ad (20 + y) 0)]) := p_413
        have p_414 : (∀ b2 o2, ¬ (b2 = 0 ∧ o2 = 7) → E412 b2 o2 = E42 b2 o2) := p_414
        have c_416 : E412 0 0 = .inr (0, [.ref (ad 0 1), .ref (ad 0 5), .ref (ad 0 7), .ref (ad 0 9), .int (nI ml), .int lf_58]) := (p_414 0 0 (by omega)).trans c_59
        have c_417 : E412 0 1 = .inr (1, [.ref (ad 0 2), .ref (ad 0 3), .ref (ad 0 4), .int (nI 0), .int (nI w43)]) := (p_414 0 1 (by omega)).trans c_62
        have c_418 : E412 0 2 = .inl (kA 1, 40, .inl tx_61) := (p_414 0 2 (by omega)).trans c_64
        have c_419 : E412 0 3 = .inl (kA 0, 20, .inl fb_61) := (p_414 0 3 (by omega)).trans c_66
        have c_420 : E412 0 4 = .inl (kA 0, 20, .inl fe_61) := (p_414 0 4 (by omega)).trans c_68
        have c_421 : E412 0 5 = .inr (2, [.ref (ad 0 6), .int (nI nd)]) := (p_414 0 5 (by omega)).trans c_71
        have c_422 : E412 0 6 = .inl (kA 4, 12, .inr (.inr (.inr (.inr fd_70)))) := (p_414 0 6 (by omega)).trans c_73
        have c_423 : E412 0 8 = .inl (kA 4, 12, .inr (.inr (.inr (.inr fc_75)))) := (p_414 0 8 (by omega)).trans c_78
        have c_424 : E412 0 9 = .inl (kA 5, 5, .inr (.inr (.inr (.inr fl_80)))) := (p_414 0 9 (by omega)).trans c_81
        have hP : va_P D xcl (rp ad E412 RL) H := hP
        have hD : va_D A (rp ad E412 RL) := hD
        have hCI : CI kA ad E412 RL ml nd 0 w43 0 := ⟨hmB, ⟨lf_58, c_416⟩, ⟨tx_61, fb_61, fe_61, (by omega), (by omega), c_417, c_418, c_419, c_420, hws_61⟩, ⟨fd_70, (by omega), c_421, c_422, hds_70⟩, ⟨fi, (.ref (ad (20 + y) 0)), fc_75, (by omega), (Or.inr ⟨y, by omega, rfl⟩), p_413, c_423, (fun k9 hk9 => absurd hk9 (by omega))⟩, ⟨fl_80, (by omega), c_424, hla_80⟩, (DIs_same (fun d9 hd9 => fun2 fun o9 => by show E412 (1 + d9) o9 = _; rw [p_414 (1 + d9) o9 (by omega)]) (fun _ _ => rfl) (fun _ h9 => h9) hDIs), (LIs_same (Nat.le_refl _) (fun n9 hn9 => fun2 fun o9 => by show E412 (20 + n9) o9 = _; rw [p_414 (20 + n9) o9 (by omega)]) (fun _ _ => rfl) (fun _ _ => rfl) (fun _ h9 => h9) hLIs)⟩
        obtain ⟨hmB, hDk, hLi, hSh, hCh, hLa, hDIs, hLIs⟩ := id hCI
        refine lv_aload_n hx hb xd_De_layer_75 rfl (lv_at hl 4 rfl) ?_
        have hFc := px_free hD hS hA
        obtain ⟨lf_425, q_425⟩ := id (hDk)
        have c_426 : E412 0 0 = .inr (0, [.ref (ad 0 1), .ref (ad 0 5), .ref (ad 0 7), .ref (ad 0 9), .int (nI ml), .int lf_425]) := q_425
        have m_427 : (0, 0) ∈ RL := hmB 0 (by omega)
        refine va_calli (va_runV (As := []) (rest := []) ⟨hx, hb, hml, hown, hT⟩ (xc_De_addRoots l D kA H.size ad E412 RL ml nd 0 w43 0 (by first | assumption | omega)) (cwV 0 hT (wT_V yx_90 yx_91 yx_92 yx_24 yx_89) rfl rfl rfl (by decide +kernel) ⟨Nat.le_of_ble_eq_true rfl, Nat.le_of_ble_eq_true rfl⟩) (px_preV hK hP hD m_427 c_426 rfl) rfl rfl hl.1 rfl (lv_room (Nat.le_of_ble_eq_true rfl)) xd_De_layer_76 ⟨(Nat.le_of_ble_eq_true rfl), (Nat.le_of_ble_eq_true rfl)⟩) hS (fun q _ h => hFc q h) hFc (fun r428 u429 t H1 locs ht hvm hp430 hB hz1 hk1 hS => ?_)
        obtain ⟨hP1, hD1⟩ := hB
        rw [ht] at hP1
        have hD1 := hD1.weaken (fun _ _ _ h => hFc _ h)
        generalize H1 = H at hP1 hS ⊢
        have hP := hP1
        have hD := hD1
        obtain ⟨E431, rfl⟩ : ∃ z, z = u429 := ⟨_, rfl⟩
        have hP : va_P D xcl (rp ad E431 RL) H := hP
        have hD : va_D A (rp ad E431 RL) := hD
        obtain ⟨hr433, cs432, hCI⟩ := hp430
        have hCI : CI kA ad E431 RL ml nd 0 w43 cs432 := hCI
        obtain ⟨hmB, hDk, hLi, hSh, hCh, hLa, hDIs, hLIs⟩ := id hCI
        refine lv_if_ne (tgt := 92) hx hb xd_De_layer_79 (by decide) (fun hc434 => ?_) (fun hc434 => ?_)
        · refine lv_iload_n hx hb xd_De_layer_92 rfl (lv_at hl 1 rfl) ?_
          refine lv_if_eq (tgt := 103) hx hb xd_De_layer_93 (by decide) (fun hc435 => ?_) (fun hc435 => ?_)
          · exact jn282 (E431, cs432) _ _ _ (lv_sub hl [4] rfl) hP hD hS (show CI kA ad E431 RL ml nd 0 w43 cs432 from hCI)
          · refine lv_aload_n hx hb xd_De_layer_96 rfl (lv_at hl 4 rfl) ?_
            obtain ⟨lf_436, q_436⟩ := id (hDk)
            have c_437 : E431 0 0 = .inr (0, [.ref (ad 0 1), .ref (ad 0 5), .ref (ad 0 7), .ref (ad 0 9), .int (nI ml), .int lf_436]) := q_436
            have m_438 : (0, 0) ∈ RL := hmB 0 (by omega)
            refine px_get (D := D) (ci := 0) (v := .ref (ad 0 7)) (C := xR_De) (T := xT_De) (N := 6) hx hb hT xi_De hown hK.1 hP m_438 c_437 rfl 2 (by decide) (hT _ yx_69) (fun _ h9 => h9) rfl xd_De_layer_97 ?_
            have hFc := px_free hD hS hA
            obtain ⟨cf_439, pv_439, fc_439, hcs_439, hpv_439, q7_439, q8_439, hfc_439⟩ := id (hCh)
            have c_440 : E431 0 7 = .inr (3, [.ref (ad 0 5), .ref (ad 0 8), .int (nI cs432), .int cf_439, pv_439]) := q7_439
            have m_441 : (0, 7) ∈ RL := hmB 7 (by omega)
            have c_442 : E431 0 8 = .inl (kA 4, 12, .inr (.inr (.inr (.inr fc_439)))) := q8_439
            have m_443 : (0, 8) ∈ RL := hmB 8 (by omega)
            refine va_callv (va_runV (As := []) (rest := []) ⟨hx, hb, hml, hown, hT⟩ (xc_Ch_bind l D kA H.size ad E431 RL ml nd 0 w43 cs432 (by first | assumption | omega)) (cwV 0 hT (wT_V yx_94 yx_95 yx_96 yx_75 yx_93) rfl rfl rfl (by decide +kernel) ⟨Nat.le_of_ble_eq_true rfl, Nat.le_of_ble_eq_true rfl⟩) (px_preV hK hP hD m_441 c_440 rfl) rfl rfl hl.1 rfl (lv_room (Nat.le_of_ble_eq_true rfl)) xd_De_layer_100 ⟨(Nat.le_of_ble_eq_true rfl), (Nat.le_of_ble_eq_true rfl)⟩) hS (fun q _ h => hFc q h) hFc (fun u445 t H1 locs ht hvm hp446 hB hz1 hk1 hS => ?_)
            obtain ⟨hP1, hD1⟩ := hB
            rw [ht] at hP1
            have hD1 := hD1.weaken (fun _ _ _ h => hFc _ h)
            generalize H1 = H at hP1 hS ⊢
            have hP := hP1
            have hD := hD1
            obtain ⟨E447, rfl⟩ : ∃ z, z = u445 := ⟨_, rfl⟩
            have hP : va_P D xcl (rp ad E447 RL) H := hP
            have hD : va_D A (rp ad E447 RL) := hD
            obtain ⟨cs448, hCI⟩ := hp446
            have hCI : CI kA ad E447 RL ml nd 0 w43 cs448 := hCI
            obtain ⟨hmB, hDk, hLi, hSh, hCh, hLa, hDIs, hLIs⟩ := id hCI
            exact jn282 (E447, cs448) _ _ _ (lv_sub hl [4] rfl) hP hD hS (show CI kA ad E447 RL ml nd 0 w43 cs448 from hCI)
        · exact y_throwC (ik := 89) (is := 91) (wf := fun (u : (Nat → Nat → Nat) × (Nat → Nat → va_E) × List (Nat × Nat)) => rp u.1 u.2.1 u.2.2) (ad, E431, RL) (⟨⟨ml, w43, cs432, hCI⟩, rfl⟩) (Or.inr (Or.inl rfl)) hx hb hlt hown hT hK yx_41 yx_42 hZ.2.2.2.1.2.2.2.2.2.2.2.2.2.2.2.2.2.2.2.1 hZ.1 hS hP hD (hl.1.trans hml.symm) xd_De_layer_82 xd_De_layer_85 xd_De_layer_86 xd_De_layer_88 xd_De_layer_91 htab (Nat.le_of_ble_eq_true rfl) (Nat.le_of_ble_eq_true rfl) (Nat.le_of_ble_eq_true rfl) (Nat.le_of_ble_eq_true rfl) hlocks (Nat.le_of_ble_eq_true rfl) (Nat.le_of_ble_eq_true rfl)
    refine lv_iload_n hx hb xd_De_layer_19 rfl (lv_at hl 3 rfl) ?_
    refine lv_iconst (v := (-1)) hx hb xd_De_layer_20 (by decide) ?_
    refine lv_icmp_eq (tgt := 29) hx hb xd_De_layer_21 (by decide) (fun hc450 => ?_) (fun hc450 => ?_)
    · refine lv_iconst (v := 1) hx hb xd_De_layer_29 (by decide) ?_
      refine lv_goto (tgt := 34) hx hb xd_De_layer_30 (by decide) ?_
      refine lv_istore hx hb xd_De_layer_34 hl (Nat.le_of_ble_eq_true rfl) rfl (fun ls hl => ?_)
      have hl : lv_has ls 7 [(5, .int 1), (4, .ref (ad (20 + z86) 0)), (0, .ref (ad 0 0)), (1, .int fi), (2, .int px), (3, .int bi)] := hl
      refine lv_aload_n hx hb xd_De_layer_36 rfl (lv_at hl 2 rfl) ?_
      have hFc := px_free hD hS hA
      refine va_calli (va_runV (As := []) (rest := []) ⟨hx, hb, hml, hown, hT⟩ (xc_De_rootsAreNames l D kA H.size ad E42 RL ml nd 0 w43 cs (by first | assumption | omega)) (cwV 0 hT (wT_V yx_98 yx_99 yx_100 yx_24 yx_97) rfl rfl rfl (by decide +kernel) ⟨Nat.le_of_ble_eq_true rfl, Nat.le_of_ble_eq_true rfl⟩) (px_preV hK hP hD m_60 c_59 rfl) rfl rfl hl.1 rfl (lv_room (Nat.le_of_ble_eq_true rfl)) xd_De_layer_37 ⟨(Nat.le_of_ble_eq_true rfl), (Nat.le_of_ble_eq_true rfl)⟩) hS (fun q _ h => hFc q h) hFc (fun r451 u452 t H1 locs ht hvm hp453 hB hz1 hk1 hS => ?_)
      obtain ⟨hP1, hD1⟩ := hB
      rw [ht] at hP1
      have hD1 := hD1.weaken (fun _ _ _ h => hFc _ h)
      generalize H1 = H at hP1 hS ⊢
      have hP := hP1
      have hD := hD1
      have hP : va_P D xcl (rp ad E42 RL) H := hP
      have hD : va_D A (rp ad E42 RL) := hD
      rcases hp453 with rfl | rfl
      · refine W.eq (g2 := F0 m 40 ls [.int 0]) rfl ?_
        refine lv_if_eq (tgt := 55) hx hb xd_De_layer_40 (by decide) (fun _ => ?_) (fun hc454 => absurd (by decide) hc454)
        exact y_throwA (ik := 56) (is := 80) (wf := fun (u : (Nat → Nat → Nat) × (Nat → Nat → va_E) × List (Nat × Nat)) => rp u.1 u.2.1 u.2.2) (ad, E42, RL) (⟨⟨ml, w43, cs, hCI⟩, rfl⟩) (Or.inl rfl) hx hb hlt hown hT hK yx_14 yx_15 hZ.2.2.2.1.2.2.2.2.2.2.2.2.2.2.2.2.2.2.1 hZ.1 hS hP hD (hl.1.trans hml.symm) xd_De_layer_55 xd_De_layer_58 xd_De_layer_59 xd_De_layer_61 xd_De_layer_64 htab (Nat.le_of_ble_eq_true rfl) (Nat.le_of_ble_eq_true rfl) (Nat.le_of_ble_eq_true rfl) (Nat.le_of_ble_eq_true rfl) hlocks (Nat.le_of_ble_eq_true rfl) (Nat.le_of_ble_eq_true rfl)
      · refine W.eq (g2 := F0 m 40 ls [.int 1]) rfl ?_
        refine lv_if_eq (tgt := 55) hx hb xd_De_layer_40 (by decide) (fun hc455 => absurd hc455 (by decide)) (fun _ => ?_)
        refine lv_iload_n hx hb xd_De_layer_43 rfl (lv_at hl 3 rfl) ?_
        have hFc := px_free hD hS hA
        refine va_calli (va_runS (As := [.int fi]) (rest := []) ⟨hx, hb, hml, hown, hT⟩ (xc_Sh_isFinder l D kA H.size ad E42 RL fi) (va_cwS 1 hT (wT_S yx_102 yx_103 yx_11 yx_101) rfl rfl rfl (by decide +kernel) ⟨Nat.le_of_ble_eq_true rfl, Nat.le_of_ble_eq_true rfl⟩) (x_preS hK hP hD) rfl rfl hl.1 rfl (lv_room (Nat.le_of_ble_eq_true rfl)) xd_De_layer_44 ⟨(Nat.le_of_ble_eq_true rfl), (Nat.le_of_ble_eq_true rfl)⟩) hS (fun q _ h => hFc q h) hFc (fun r456 u457 t H1 locs ht hvm hp458 hB hz1 hk1 hS => ?_)
        obtain ⟨hP1, hD1⟩ := hB
        rw [ht] at hP1
        have hD1 := hD1.weaken (fun _ _ _ h => hFc _ h)
        generalize H1 = H at hP1 hS ⊢
        have hP := hP1
        have hD := hD1
        have hP : va_P D xcl (rp ad E42 RL) H := hP
        have hD : va_D A (rp ad E42 RL) := hD
        rcases hp458 with rfl | rfl
        · refine W.eq (g2 := F0 m 47 ls [.int 0]) rfl ?_
          refine lv_if_eq (tgt := 55) hx hb xd_De_layer_47 (by decide) (fun _ => ?_) (fun hc459 => absurd (by decide) hc459)
          exact y_throwA (ik := 56) (is := 80) (wf := fun (u : (Nat → Nat → Nat) × (Nat → Nat → va_E) × List (Nat × Nat)) => rp u.1 u.2.1 u.2.2) (ad, E42, RL) (⟨⟨ml, w43, cs, hCI⟩, rfl⟩) (Or.inl rfl) hx hb hlt hown hT hK yx_14 yx_15 hZ.2.2.2.1.2.2.2.2.2.2.2.2.2.2.2.2.2.2.1 hZ.1 hS hP hD (hl.1.trans hml.symm) xd_De_layer_55 xd_De_layer_58 xd_De_layer_59 xd_De_layer_61 xd_De_layer_64 htab (Nat.le_of_ble_eq_true rfl) (Nat.le_of_ble_eq_true rfl) (Nat.le_of_ble_eq_true rfl) (Nat.le_of_ble_eq_true rfl) hlocks (Nat.le_of_ble_eq_true rfl) (Nat.le_of_ble_eq_true rfl)
        · refine W.eq (g2 := F0 m 47 ls [.int 1]) rfl ?_
          refine lv_if_eq (tgt := 55) hx hb xd_De_layer_47 (by decide) (fun hc460 => absurd hc460 (by decide)) (fun _ => ?_)
          refine lv_iload hx hb xd_De_layer_50 (lv_at hl 0 rfl) ?_
          refine lv_if_ne (tgt := 65) hx hb xd_De_layer_52 (by decide) (fun _ => ?_) (fun hc461 => absurd hc461 (by decide))
          exact jn281 (z86 + 1) _ _ _ (lv_sub hl [1, 5, 4, 3, 2] rfl) hP hD hS (show (z86 + 1) ≤ ml from by first | assumption | omega)
    · refine lv_aload hx hb xd_De_layer_24 (lv_at hl 0 rfl) ?_
      refine lv_ifnull hx hb xd_De_layer_26 ?_
      refine lv_iconst (v := 1) hx hb xd_De_layer_29 (by decide) ?_
      refine lv_goto (tgt := 34) hx hb xd_De_layer_30 (by decide) ?_
      refine lv_istore hx hb xd_De_layer_34 hl (Nat.le_of_ble_eq_true rfl) rfl (fun ls hl => ?_)
      have hl : lv_has ls 7 [(5, .int 1), (4, .ref (ad (20 + z86) 0)), (0, .ref (ad 0 0)), (1, .int fi), (2, .int px), (3, .int bi)] := hl
      refine lv_aload_n hx hb xd_De_layer_36 rfl (lv_at hl 2 rfl) ?_
      have hFc := px_free hD hS hA
      refine va_calli (va_runV (As := []) (rest := []) ⟨hx, hb, hml, hown, hT⟩ (xc_De_rootsAreNames l D kA H.size ad E42 RL ml nd 0 w43 cs (by first | assumption | omega)) (cwV 0 hT (wT_V yx_98 yx_99 yx_100 yx_24 yx_97) rfl rfl rfl (by decide +kernel) ⟨Nat.le_of_ble_eq_true rfl, Nat.le_of_ble_eq_true rfl⟩) (px_preV hK hP hD m_60 c_59 rfl) rfl rfl hl.1 rfl (lv_room (Nat.le_of_ble_eq_true rfl)) xd_De_layer_37 ⟨(Nat.le_of_ble_eq_true rfl), (Nat.le_of_ble_eq_true rfl)⟩) hS (fun q _ h => hFc q h) hFc (fun r462 u463 t H1 locs ht hvm hp464 hB hz1 hk1 hS => ?_)
      obtain ⟨hP1, hD1⟩ := hB
      rw [ht] at hP1
      have hD1 := hD1.weaken (fun _ _ _ h => hFc _ h)
      generalize H1 = H at hP1 hS ⊢
      have hP := hP1
      have hD := hD1
      have hP : va_P D xcl (rp ad E42 RL) H := hP
      have hD : va_D A (rp ad E42 RL) := hD
      rcases hp464 with rfl | rfl
      · refine W.eq (g2 := F0 m 40 ls [.int 0]) rfl ?_
        refine lv_if_eq (tgt := 55) hx hb xd_De_layer_40 (by decide) (fun _ => ?_) (fun hc465 => absurd (by decide) hc465)
        exact y_throwA (ik := 56) (is := 80) (wf := fun (u : (Nat → Nat → Nat) × (Nat → Nat → va_E) × List (Nat × Nat)) => rp u.1 u.2.1 u.2.2) (ad, E42, RL) (⟨⟨ml, w43, cs, hCI⟩, rfl⟩) (Or.inl rfl) hx hb hlt hown hT hK yx_14 yx_15 hZ.2.2.2.1.2.2.2.2.2.2.2.2.2.2.2.2.2.2.1 hZ.1 hS hP hD (hl.1.trans hml.symm) xd_De_layer_55 xd_De_layer_58 xd_De_layer_59 xd_De_layer_61 xd_De_layer_64 htab (Nat.le_of_ble_eq_true rfl) (Nat.le_of_ble_eq_true rfl) (Nat.le_of_ble_eq_true rfl) (Nat.le_of_ble_eq_true rfl) hlocks (Nat.le_of_ble_eq_true rfl) (Nat.le_of_ble_eq_true rfl)
      · refine W.eq (g2 := F0 m 40 ls [.int 1]) rfl ?_
        refine lv_if_eq (tgt := 55) hx hb xd_De_layer_40 (by decide) (fun hc466 => absurd hc466 (by decide)) (fun _ => ?_)
        refine lv_iload_n hx hb xd_De_layer_43 rfl (lv_at hl 3 rfl) ?_
        have hFc := px_free hD hS hA
        refine va_calli (va_runS (As := [.int fi]) (rest := []) ⟨hx, hb, hml, hown, hT⟩ (xc_Sh_isFinder l D kA H.size ad E42 RL fi) (va_cwS 1 hT (wT_S yx_102 yx_103 yx_11 yx_101) rfl rfl rfl (by decide +kernel) ⟨Nat.le_of_ble_eq_true rfl, Nat.le_of_ble_eq_true rfl⟩) (x_preS hK hP hD) rfl rfl hl.1 rfl (lv_room (Nat.le_of_ble_eq_true rfl)) xd_De_layer_44 ⟨(Nat.le_of_ble_eq_true rfl), (Nat.le_of_ble_eq_true rfl)⟩) hS (fun q _ h => hFc q h) hFc (fun r467 u468 t H1 locs ht hvm hp469 hB hz1 hk1 hS => ?_)
        obtain ⟨hP1, hD1⟩ := hB
        rw [ht] at hP1
        have hD1 := hD1.weaken (fun _ _ _ h => hFc _ h)
        generalize H1 = H at hP1 hS ⊢
        have hP := hP1
        have hD := hD1
        have hP : va_P D xcl (rp ad E42 RL) H := hP
        have hD : va_D A (rp ad E42 RL) := hD
        rcases hp469 with rfl | rfl
        · refine W.eq (g2 := F0 m 47 ls [.int 0]) rfl ?_
          refine lv_if_eq (tgt := 55) hx hb xd_De_layer_47 (by decide) (fun _ => ?_) (fun hc470 => absurd (by decide) hc470)
          exact y_throwA (ik := 56) (is := 80) (wf := fun (u : (Nat → Nat → Nat) × (Nat → Nat → va_E) × List (Nat × Nat)) => rp u.1 u.2.1 u.2.2) (ad, E42, RL) (⟨⟨ml, w43, cs, hCI⟩, rfl⟩) (Or.inl rfl) hx hb hlt hown hT hK yx_14 yx_15 hZ.2.2.2.1.2.2.2.2.2.2.2.2.2.2.2.2.2.2.1 hZ.1 hS hP hD (hl.1.trans hml.symm) xd_De_layer_55 xd_De_layer_58 xd_De_layer_59 xd_De_layer_61 xd_De_layer_64 htab (Nat.le_of_ble_eq_true rfl) (Nat.le_of_ble_eq_true rfl) (Nat.le_of_ble_eq_true rfl) (Nat.le_of_ble_eq_true rfl) hlocks (Nat.le_of_ble_eq_true rfl) (Nat.le_of_ble_eq_true rfl)
        · refine W.eq (g2 := F0 m 47 ls [.int 1]) rfl ?_
          refine lv_if_eq (tgt := 55) hx hb xd_De_layer_47 (by decide) (fun hc471 => absurd hc471 (by decide)) (fun _ => ?_)
          refine lv_iload hx hb xd_De_layer_50 (lv_at hl 0 rfl) ?_
          refine lv_if_ne (tgt := 65) hx hb xd_De_layer_52 (by decide) (fun _ => ?_) (fun hc472 => absurd hc472 (by decide))
          exact jn281 (z86 + 1) _ _ _ (lv_sub hl [1, 5, 4, 3, 2] rfl) hP hD hS (show (z86 + 1) ≤ ml from by first | assumption | omega)
