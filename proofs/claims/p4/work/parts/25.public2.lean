abbrev xb_Mo_oneName : ByteArray := prog_12_method_41_code
def xy_Mo_oneName : MethodName := ⟨"LayerDeskModel", "oneName", "()I"⟩
abbrev xb_Mo_load : ByteArray := prog_12_method_42_code
def xy_Mo_load : MethodName := ⟨"LayerDeskModel", "load", "(II)I"⟩
abbrev xb_Mo_peek : ByteArray := prog_12_method_43_code
def xy_Mo_peek : MethodName := ⟨"LayerDeskModel", "peek", "(IIII)Z"⟩
abbrev xb_Mo_provider : ByteArray := prog_12_method_44_code
def xy_Mo_provider : MethodName := ⟨"LayerDeskModel", "provider", "(II)I"⟩
theorem xd_Mo_load_0 : decode xb_Mo_load 0 = .ok (.aload_n 0, 1) := by decide +kernel
theorem xd_Mo_load_1 : decode xb_Mo_load 1 = .ok (.iconst 0, 1) := by decide +kernel
theorem xd_Mo_load_2 : decode xb_Mo_load 2 = .ok (.putfield 87, 3) := by decide +kernel
theorem xd_Mo_load_5 : decode xb_Mo_load 5 = .ok (.aload_n 0, 1) := by decide +kernel
theorem xd_Mo_load_6 : decode xb_Mo_load 6 = .ok (.invokevirtual 205, 3) := by decide +kernel
theorem xd_Mo_load_9 : decode xb_Mo_load 9 = .ok (.istore_n 3, 1) := by decide +kernel
theorem xd_Mo_load_10 : decode xb_Mo_load 10 = .ok (.aload_n 0, 1) := by decide +kernel
theorem xd_Mo_load_11 : decode xb_Mo_load 11 = .ok (.iload_n 1, 1) := by decide +kernel
theorem xd_Mo_load_12 : decode xb_Mo_load 12 = .ok (.iload_n 2, 1) := by decide +kernel
theorem xd_Mo_load_13 : decode xb_Mo_load 13 = .ok (.invokevirtual 199, 3) := by decide +kernel
theorem xd_Mo_load_16 : decode xb_Mo_load 16 = .ok (.istore 4, 2) := by decide +kernel
theorem xd_Mo_load_18 : decode xb_Mo_load 18 = .ok (.iload_n 3, 1) := by decide +kernel
theorem xd_Mo_load_19 : decode xb_Mo_load 19 = .ok (.ifCond .eq 8, 3) := by decide +kernel
theorem xd_Mo_load_22 : decode xb_Mo_load 22 = .ok (.iload 4, 2) := by decide +kernel
theorem xd_Mo_load_24 : decode xb_Mo_load 24 = .ok (.ifCond .ge 9, 3) := by decide +kernel
theorem xd_Mo_load_27 : decode xb_Mo_load 27 = .ok (.aload_n 0, 1) := by decide +kernel
theorem xd_Mo_load_28 : decode xb_Mo_load 28 = .ok (.iconst 1, 1) := by decide +kernel
theorem xd_Mo_load_29 : decode xb_Mo_load 29 = .ok (.invokevirtual 129, 3) := by decide +kernel
theorem xd_Mo_load_32 : decode xb_Mo_load 32 = .ok (.ireturn, 1) := by decide +kernel
theorem xd_Mo_load_33 : decode xb_Mo_load 33 = .ok (.aload_n 0, 1) := by decide +kernel
theorem xd_Mo_load_34 : decode xb_Mo_load 34 = .ok (.iload 4, 2) := by decide +kernel
theorem xd_Mo_load_36 : decode xb_Mo_load 36 = .ok (.iload_n 3, 1) := by decide +kernel
theorem xd_Mo_load_37 : decode xb_Mo_load 37 = .ok (.invokevirtual 143, 3) := by decide +kernel
theorem xd_Mo_load_40 : decode xb_Mo_load 40 = .ok (.ifCond .lt 11, 3) := by decide +kernel
theorem xd_Mo_load_43 : decode xb_Mo_load 43 = .ok (.bipush 16, 2) := by decide +kernel
theorem xd_Mo_load_45 : decode xb_Mo_load 45 = .ok (.iload_n 1, 1) := by decide +kernel
theorem xd_Mo_load_46 : decode xb_Mo_load 46 = .ok (.imul, 1) := by decide +kernel
theorem xd_Mo_load_47 : decode xb_Mo_load 47 = .ok (.iload 4, 2) := by decide +kernel
theorem xd_Mo_load_49 : decode xb_Mo_load 49 = .ok (.iadd, 1) := by decide +kernel
theorem xd_Mo_load_50 : decode xb_Mo_load 50 = .ok (.ireturn, 1) := by decide +kernel
theorem xd_Mo_load_51 : decode xb_Mo_load 51 = .ok (.aload_n 0, 1) := by decide +kernel
theorem xd_Mo_load_52 : decode xb_Mo_load 52 = .ok (.iload_n 1, 1) := by decide +kernel
theorem xd_Mo_load_53 : decode xb_Mo_load 53 = .ok (.iload 4, 2) := by decide +kernel
theorem xd_Mo_load_55 : decode xb_Mo_load 55 = .ok (.invokevirtual 171, 3) := by decide +kernel
theorem xd_Mo_load_58 : decode xb_Mo_load 58 = .ok (.iconst 0, 1) := by decide +kernel
theorem xd_Mo_load_59 : decode xb_Mo_load 59 = .ok (.istore 5, 2) := by decide +kernel
theorem xd_Mo_load_61 : decode xb_Mo_load 61 = .ok (.iload 5, 2) := by decide +kernel
theorem xd_Mo_load_63 : decode xb_Mo_load 63 = .ok (.bipush 72, 2) := by decide +kernel
theorem xd_Mo_load_65 : decode xb_Mo_load 65 = .ok (.if_icmp .ge 71, 3) := by decide +kernel
theorem xd_Mo_load_68 : decode xb_Mo_load 68 = .ok (.aload_n 0, 1) := by decide +kernel
theorem xd_Mo_load_69 : decode xb_Mo_load 69 = .ok (.getfield 84, 3) := by decide +kernel
theorem xd_Mo_load_72 : decode xb_Mo_load 72 = .ok (.iload 5, 2) := by decide +kernel
theorem xd_Mo_load_74 : decode xb_Mo_load 74 = .ok (.baload, 1) := by decide +kernel
theorem xd_Mo_load_75 : decode xb_Mo_load 75 = .ok (.ifCond .eq 16, 3) := by decide +kernel
theorem xd_Mo_load_78 : decode xb_Mo_load 78 = .ok (.aload_n 0, 1) := by decide +kernel
theorem xd_Mo_load_79 : decode xb_Mo_load 79 = .ok (.iload 5, 2) := by decide +kernel
theorem xd_Mo_load_81 : decode xb_Mo_load 81 = .ok (.bipush 12, 2) := by decide +kernel
theorem xd_Mo_load_83 : decode xb_Mo_load 83 = .ok (.irem, 1) := by decide +kernel
theorem xd_Mo_load_84 : decode xb_Mo_load 84 = .ok (.iload_n 3, 1) := by decide +kernel
theorem xd_Mo_load_85 : decode xb_Mo_load 85 = .ok (.invokevirtual 143, 3) := by decide +kernel
theorem xd_Mo_load_88 : decode xb_Mo_load 88 = .ok (.goto 4, 3) := by decide +kernel
theorem xd_Mo_load_91 : decode xb_Mo_load 91 = .ok (.iconst (-1), 1) := by decide +kernel
theorem xd_Mo_load_92 : decode xb_Mo_load 92 = .ok (.istore 6, 2) := by decide +kernel
theorem xd_Mo_load_94 : decode xb_Mo_load 94 = .ok (.iload 6, 2) := by decide +kernel
theorem xd_Mo_load_96 : decode xb_Mo_load 96 = .ok (.ifCond .lt 34, 3) := by decide +kernel
theorem xd_Mo_load_99 : decode xb_Mo_load 99 = .ok (.aload_n 0, 1) := by decide +kernel
theorem xd_Mo_load_100 : decode xb_Mo_load 100 = .ok (.iload 6, 2) := by decide +kernel
theorem xd_Mo_load_102 : decode xb_Mo_load 102 = .ok (.aload_n 0, 1) := by decide +kernel
theorem xd_Mo_load_103 : decode xb_Mo_load 103 = .ok (.getfield 23, 3) := by decide +kernel
theorem xd_Mo_load_106 : decode xb_Mo_load 106 = .ok (.iload 4, 2) := by decide +kernel
theorem xd_Mo_load_108 : decode xb_Mo_load 108 = .ok (.iaload, 1) := by decide +kernel
theorem xd_Mo_load_109 : decode xb_Mo_load 109 = .ok (.invokevirtual 175, 3) := by decide +kernel
theorem xd_Mo_load_112 : decode xb_Mo_load 112 = .ok (.ifCond .eq 18, 3) := by decide +kernel
theorem xd_Mo_load_115 : decode xb_Mo_load 115 = .ok (.bipush 16, 2) := by decide +kernel
theorem xd_Mo_load_117 : decode xb_Mo_load 117 = .ok (.iload 5, 2) := by decide +kernel
theorem xd_Mo_load_119 : decode xb_Mo_load 119 = .ok (.bipush 12, 2) := by decide +kernel
theorem xd_Mo_load_121 : decode xb_Mo_load 121 = .ok (.idiv, 1) := by decide +kernel
theorem xd_Mo_load_122 : decode xb_Mo_load 122 = .ok (.imul, 1) := by decide +kernel
theorem xd_Mo_load_123 : decode xb_Mo_load 123 = .ok (.iload 5, 2) := by decide +kernel
theorem xd_Mo_load_125 : decode xb_Mo_load 125 = .ok (.bipush 12, 2) := by decide +kernel
theorem xd_Mo_load_127 : decode xb_Mo_load 127 = .ok (.irem, 1) := by decide +kernel
theorem xd_Mo_load_128 : decode xb_Mo_load 128 = .ok (.iadd, 1) := by decide +kernel
theorem xd_Mo_load_129 : decode xb_Mo_load 129 = .ok (.ireturn, 1) := by decide +kernel
theorem xd_Mo_load_130 : decode xb_Mo_load 130 = .ok (.iinc 5 1, 3) := by decide +kernel
theorem xd_Mo_load_133 : decode xb_Mo_load 133 = .ok (.goto (-72), 3) := by decide +kernel
theorem xd_Mo_load_136 : decode xb_Mo_load 136 = .ok (.aload_n 0, 1) := by decide +kernel
theorem xd_Mo_load_137 : decode xb_Mo_load 137 = .ok (.iconst 2, 1) := by decide +kernel
theorem xd_Mo_load_138 : decode xb_Mo_load 138 = .ok (.invokevirtual 129, 3) := by decide +kernel
theorem xd_Mo_load_141 : decode xb_Mo_load 141 = .ok (.ireturn, 1) := by decide +kernel
theorem xd_Mo_oneName_0 : decode xb_Mo_oneName 0 = .ok (.aload_n 0, 1) := by decide +kernel
theorem xd_Mo_oneName_1 : decode xb_Mo_oneName 1 = .ok (.invokevirtual 101, 3) := by decide +kernel
theorem xd_Mo_oneName_4 : decode xb_Mo_oneName 4 = .ok (.aload_n 0, 1) := by decide +kernel
theorem xd_Mo_oneName_5 : decode xb_Mo_oneName 5 = .ok (.getfield 94, 3) := by decide +kernel
theorem xd_Mo_oneName_8 : decode xb_Mo_oneName 8 = .ok (.iconst 1, 1) := by decide +kernel
theorem xd_Mo_oneName_9 : decode xb_Mo_oneName 9 = .ok (.if_icmp .ne 11, 3) := by decide +kernel
theorem xd_Mo_oneName_12 : decode xb_Mo_oneName 12 = .ok (.aload_n 0, 1) := by decide +kernel
theorem xd_Mo_oneName_13 : decode xb_Mo_oneName 13 = .ok (.iconst 0, 1) := by decide +kernel
theorem xd_Mo_oneName_14 : decode xb_Mo_oneName 14 = .ok (.invokevirtual 133, 3) := by decide +kernel
theorem xd_Mo_oneName_17 : decode xb_Mo_oneName 17 = .ok (.goto 4, 3) := by decide +kernel
theorem xd_Mo_oneName_20 : decode xb_Mo_oneName 20 = .ok (.iconst 0, 1) := by decide +kernel
theorem xd_Mo_oneName_21 : decode xb_Mo_oneName 21 = .ok (.ireturn, 1) := by decide +kernel
theorem xd_Mo_peek_0 : decode xb_Mo_peek 0 = .ok (.aload_n 0, 1) := by decide +kernel
theorem xd_Mo_peek_1 : decode xb_Mo_peek 1 = .ok (.iconst 0, 1) := by decide +kernel
theorem xd_Mo_peek_2 : decode xb_Mo_peek 2 = .ok (.putfield 87, 3) := by decide +kernel
theorem xd_Mo_peek_5 : decode xb_Mo_peek 5 = .ok (.aload_n 0, 1) := by decide +kernel
theorem xd_Mo_peek_6 : decode xb_Mo_peek 6 = .ok (.invokevirtual 205, 3) := by decide +kernel
theorem xd_Mo_peek_9 : decode xb_Mo_peek 9 = .ok (.istore 5, 2) := by decide +kernel
theorem xd_Mo_peek_11 : decode xb_Mo_peek 11 = .ok (.aload_n 0, 1) := by decide +kernel
theorem xd_Mo_peek_12 : decode xb_Mo_peek 12 = .ok (.iload_n 1, 1) := by decide +kernel
theorem xd_Mo_peek_13 : decode xb_Mo_peek 13 = .ok (.iload_n 2, 1) := by decide +kernel
theorem xd_Mo_peek_14 : decode xb_Mo_peek 14 = .ok (.invokevirtual 199, 3) := by decide +kernel
theorem xd_Mo_peek_17 : decode xb_Mo_peek 17 = .ok (.istore 6, 2) := by decide +kernel
theorem xd_Mo_peek_19 : decode xb_Mo_peek 19 = .ok (.iload 5, 2) := by decide +kernel
theorem xd_Mo_peek_21 : decode xb_Mo_peek 21 = .ok (.ifCond .eq 18, 3) := by decide +kernel
theorem xd_Mo_peek_24 : decode xb_Mo_peek 24 = .ok (.iload 6, 2) := by decide +kernel
theorem xd_Mo_peek_26 : decode xb_Mo_peek 26 = .ok (.ifCond .lt 13, 3) := by decide +kernel
theorem xd_Mo_peek_29 : decode xb_Mo_peek 29 = .ok (.aload_n 0, 1) := by decide +kernel
theorem xd_Mo_peek_30 : decode xb_Mo_peek 30 = .ok (.iload_n 3, 1) := by decide +kernel
theorem xd_Mo_peek_31 : decode xb_Mo_peek 31 = .ok (.iload 4, 2) := by decide +kernel
theorem xd_Mo_peek_33 : decode xb_Mo_peek 33 = .ok (.invokevirtual 202, 3) := by decide +kernel
theorem xd_Mo_peek_36 : decode xb_Mo_peek 36 = .ok (.ifCond .ne 10, 3) := by decide +kernel
theorem xd_Mo_peek_39 : decode xb_Mo_peek 39 = .ok (.aload_n 0, 1) := by decide +kernel
theorem xd_Mo_peek_40 : decode xb_Mo_peek 40 = .ok (.iconst 1, 1) := by decide +kernel
theorem xd_Mo_peek_41 : decode xb_Mo_peek 41 = .ok (.putfield 87, 3) := by decide +kernel
theorem xd_Mo_peek_44 : decode xb_Mo_peek 44 = .ok (.iconst 0, 1) := by decide +kernel
theorem xd_Mo_peek_45 : decode xb_Mo_peek 45 = .ok (.ireturn, 1) := by decide +kernel
theorem xd_Mo_peek_46 : decode xb_Mo_peek 46 = .ok (.aload_n 0, 1) := by decide +kernel
theorem xd_Mo_peek_47 : decode xb_Mo_peek 47 = .ok (.iload 4, 2) := by decide +kernel
theorem xd_Mo_peek_49 : decode xb_Mo_peek 49 = .ok (.iload 5, 2) := by decide +kernel
theorem xd_Mo_peek_51 : decode xb_Mo_peek 51 = .ok (.invokevirtual 143, 3) := by decide +kernel
theorem xd_Mo_peek_54 : decode xb_Mo_peek 54 = .ok (.istore 7, 2) := by decide +kernel
theorem xd_Mo_peek_56 : decode xb_Mo_peek 56 = .ok (.aload_n 0, 1) := by decide +kernel
theorem xd_Mo_peek_57 : decode xb_Mo_peek 57 = .ok (.iload 7, 2) := by decide +kernel
theorem xd_Mo_peek_59 : decode xb_Mo_peek 59 = .ok (.ifCond .ge 7, 3) := by decide +kernel
theorem xd_Mo_peek_62 : decode xb_Mo_peek 62 = .ok (.iconst 2, 1) := by decide +kernel
theorem xd_Mo_peek_63 : decode xb_Mo_peek 63 = .ok (.goto 4, 3) := by decide +kernel
theorem xd_Mo_peek_66 : decode xb_Mo_peek 66 = .ok (.iconst 0, 1) := by decide +kernel
theorem xd_Mo_peek_67 : decode xb_Mo_peek 67 = .ok (.putfield 87, 3) := by decide +kernel
theorem xd_Mo_peek_70 : decode xb_Mo_peek 70 = .ok (.iload 7, 2) := by decide +kernel
theorem xd_Mo_peek_72 : decode xb_Mo_peek 72 = .ok (.ifCond .ge 5, 3) := by decide +kernel
theorem xd_Mo_peek_75 : decode xb_Mo_peek 75 = .ok (.iconst 0, 1) := by decide +kernel
theorem xd_Mo_peek_76 : decode xb_Mo_peek 76 = .ok (.ireturn, 1) := by decide +kernel
theorem xd_Mo_peek_77 : decode xb_Mo_peek 77 = .ok (.iload_n 1, 1) := by decide +kernel
theorem xd_Mo_peek_78 : decode xb_Mo_peek 78 = .ok (.iload_n 3, 1) := by decide +kernel
theorem xd_Mo_peek_79 : decode xb_Mo_peek 79 = .ok (.if_icmp .ne 12, 3) := by decide +kernel
theorem xd_Mo_peek_82 : decode xb_Mo_peek 82 = .ok (.iload 6, 2) := by decide +kernel
theorem xd_Mo_peek_84 : decode xb_Mo_peek 84 = .ok (.iload 4, 2) := by decide +kernel
theorem xd_Mo_peek_86 : decode xb_Mo_peek 86 = .ok (.if_icmp .ne 5, 3) := by decide +kernel
theorem xd_Mo_peek_89 : decode xb_Mo_peek 89 = .ok (.iconst 1, 1) := by decide +kernel
theorem xd_Mo_peek_90 : decode xb_Mo_peek 90 = .ok (.ireturn, 1) := by decide +kernel
theorem xd_Mo_peek_91 : decode xb_Mo_peek 91 = .ok (.aload_n 0, 1) := by decide +kernel
theorem xd_Mo_peek_92 : decode xb_Mo_peek 92 = .ok (.iload_n 1, 1) := by decide +kernel
theorem xd_Mo_peek_93 : decode xb_Mo_peek 93 = .ok (.iload 6, 2) := by decide +kernel
theorem xd_Mo_peek_95 : decode xb_Mo_peek 95 = .ok (.invokevirtual 171, 3) := by decide +kernel
theorem xd_Mo_peek_98 : decode xb_Mo_peek 98 = .ok (.aload_n 0, 1) := by decide +kernel
theorem xd_Mo_peek_99 : decode xb_Mo_peek 99 = .ok (.getfield 84, 3) := by decide +kernel
theorem xd_Mo_peek_102 : decode xb_Mo_peek 102 = .ok (.bipush 12, 2) := by decide +kernel
theorem xd_Mo_peek_104 : decode xb_Mo_peek 104 = .ok (.iload_n 3, 1) := by decide +kernel
theorem xd_Mo_peek_105 : decode xb_Mo_peek 105 = .ok (.imul, 1) := by decide +kernel
theorem xd_Mo_peek_106 : decode xb_Mo_peek 106 = .ok (.iload 4, 2) := by decide +kernel
theorem xd_Mo_peek_108 : decode xb_Mo_peek 108 = .ok (.iadd, 1) := by decide +kernel
theorem xd_Mo_peek_109 : decode xb_Mo_peek 109 = .ok (.baload, 1) := by decide +kernel
theorem xd_Mo_peek_110 : decode xb_Mo_peek 110 = .ok (.ifCond .eq 59, 3) := by decide +kernel
theorem xd_Mo_peek_113 : decode xb_Mo_peek 113 = .ok (.aload_n 0, 1) := by decide +kernel
theorem xd_Mo_peek_114 : decode xb_Mo_peek 114 = .ok (.aload_n 0, 1) := by decide +kernel
theorem xd_Mo_peek_115 : decode xb_Mo_peek 115 = .ok (.getfield 42, 3) := by decide +kernel
theorem xd_Mo_peek_118 : decode xb_Mo_peek 118 = .ok (.iload 7, 2) := by decide +kernel
theorem xd_Mo_peek_120 : decode xb_Mo_peek 120 = .ok (.baload, 1) := by decide +kernel
theorem xd_Mo_peek_121 : decode xb_Mo_peek 121 = .ok (.aload_n 0, 1) := by decide +kernel
theorem xd_Mo_peek_122 : decode xb_Mo_peek 122 = .ok (.getfield 35, 3) := by decide +kernel
theorem xd_Mo_peek_125 : decode xb_Mo_peek 125 = .ok (.iconst 3, 1) := by decide +kernel
theorem xd_Mo_peek_126 : decode xb_Mo_peek 126 = .ok (.iload 7, 2) := by decide +kernel
theorem xd_Mo_peek_128 : decode xb_Mo_peek 128 = .ok (.imul, 1) := by decide +kernel
theorem xd_Mo_peek_129 : decode xb_Mo_peek 129 = .ok (.iaload, 1) := by decide +kernel
theorem xd_Mo_peek_130 : decode xb_Mo_peek 130 = .ok (.aload_n 0, 1) := by decide +kernel
theorem xd_Mo_peek_131 : decode xb_Mo_peek 131 = .ok (.getfield 35, 3) := by decide +kernel
theorem xd_Mo_peek_134 : decode xb_Mo_peek 134 = .ok (.iconst 3, 1) := by decide +kernel
theorem xd_Mo_peek_135 : decode xb_Mo_peek 135 = .ok (.iload 7, 2) := by decide +kernel
theorem xd_Mo_peek_137 : decode xb_Mo_peek 137 = .ok (.imul, 1) := by decide +kernel
theorem xd_Mo_peek_138 : decode xb_Mo_peek 138 = .ok (.iconst 1, 1) := by decide +kernel
theorem xd_Mo_peek_139 : decode xb_Mo_peek 139 = .ok (.iadd, 1) := by decide +kernel
theorem xd_Mo_peek_140 : decode xb_Mo_peek 140 = .ok (.iaload, 1) := by decide +kernel
theorem xd_Mo_peek_141 : decode xb_Mo_peek 141 = .ok (.aload_n 0, 1) := by decide +kernel
theorem xd_Mo_peek_142 : decode xb_Mo_peek 142 = .ok (.getfield 35, 3) := by decide +kernel
theorem xd_Mo_peek_145 : decode xb_Mo_peek 145 = .ok (.iconst 3, 1) := by decide +kernel
theorem xd_Mo_peek_146 : decode xb_Mo_peek 146 = .ok (.iload 7, 2) := by decide +kernel
theorem xd_Mo_peek_148 : decode xb_Mo_peek 148 = .ok (.imul, 1) := by decide +kernel
theorem xd_Mo_peek_149 : decode xb_Mo_peek 149 = .ok (.iconst 2, 1) := by decide +kernel
theorem xd_Mo_peek_150 : decode xb_Mo_peek 150 = .ok (.iadd, 1) := by decide +kernel
theorem xd_Mo_peek_151 : decode xb_Mo_peek 151 = .ok (.iaload, 1) := by decide +kernel
theorem xd_Mo_peek_152 : decode xb_Mo_peek 152 = .ok (.aload_n 0, 1) := by decide +kernel
theorem xd_Mo_peek_153 : decode xb_Mo_peek 153 = .ok (.getfield 23, 3) := by decide +kernel
theorem xd_Mo_peek_156 : decode xb_Mo_peek 156 = .ok (.iload 6, 2) := by decide +kernel
theorem xd_Mo_peek_158 : decode xb_Mo_peek 158 = .ok (.iaload, 1) := by decide +kernel
theorem xd_Mo_peek_159 : decode xb_Mo_peek 159 = .ok (.invokevirtual 167, 3) := by decide +kernel
theorem xd_Mo_peek_162 : decode xb_Mo_peek 162 = .ok (.ifCond .eq 7, 3) := by decide +kernel
theorem xd_Mo_peek_165 : decode xb_Mo_peek 165 = .ok (.iconst 1, 1) := by decide +kernel
theorem xd_Mo_peek_166 : decode xb_Mo_peek 166 = .ok (.goto 4, 3) := by decide +kernel
theorem xd_Mo_peek_169 : decode xb_Mo_peek 169 = .ok (.iconst 0, 1) := by decide +kernel
theorem xd_Mo_peek_170 : decode xb_Mo_peek 170 = .ok (.ireturn, 1) := by decide +kernel
theorem xd_Mo_provider_0 : decode xb_Mo_provider 0 = .ok (.aload_n 0, 1) := by decide +kernel
theorem xd_Mo_provider_1 : decode xb_Mo_provider 1 = .ok (.iconst 0, 1) := by decide +kernel
theorem xd_Mo_provider_2 : decode xb_Mo_provider 2 = .ok (.putfield 87, 3) := by decide +kernel
theorem xd_Mo_provider_5 : decode xb_Mo_provider 5 = .ok (.aload_n 0, 1) := by decide +kernel
theorem xd_Mo_provider_6 : decode xb_Mo_provider 6 = .ok (.invokevirtual 205, 3) := by decide +kernel
theorem xd_Mo_provider_9 : decode xb_Mo_provider 9 = .ok (.istore_n 3, 1) := by decide +kernel
theorem xd_Mo_provider_10 : decode xb_Mo_provider 10 = .ok (.iload_n 3, 1) := by decide +kernel
theorem xd_Mo_provider_11 : decode xb_Mo_provider 11 = .ok (.ifCond .eq 11, 3) := by decide +kernel
theorem xd_Mo_provider_14 : decode xb_Mo_provider 14 = .ok (.aload_n 0, 1) := by decide +kernel
theorem xd_Mo_provider_15 : decode xb_Mo_provider 15 = .ok (.iload_n 1, 1) := by decide +kernel
theorem xd_Mo_provider_16 : decode xb_Mo_provider 16 = .ok (.invokevirtual 190, 3) := by decide +kernel
theorem xd_Mo_provider_19 : decode xb_Mo_provider 19 = .ok (.ifCond .ne 9, 3) := by decide +kernel
theorem xd_Mo_provider_22 : decode xb_Mo_provider 22 = .ok (.aload_n 0, 1) := by decide +kernel
theorem xd_Mo_provider_23 : decode xb_Mo_provider 23 = .ok (.iconst 1, 1) := by decide +kernel
theorem xd_Mo_provider_24 : decode xb_Mo_provider 24 = .ok (.invokevirtual 129, 3) := by decide +kernel
theorem xd_Mo_provider_27 : decode xb_Mo_provider 27 = .ok (.ireturn, 1) := by decide +kernel
theorem xd_Mo_provider_28 : decode xb_Mo_provider 28 = .ok (.iconst 0, 1) := by decide +kernel
theorem xd_Mo_provider_29 : decode xb_Mo_provider 29 = .ok (.istore 4, 2) := by decide +kernel
theorem xd_Mo_provider_31 : decode xb_Mo_provider 31 = .ok (.iload_n 1, 1) := by decide +kernel
theorem xd_Mo_provider_32 : decode xb_Mo_provider 32 = .ok (.istore 5, 2) := by decide +kernel
theorem xd_Mo_provider_34 : decode xb_Mo_provider 34 = .ok (.iload 5, 2) := by decide +kernel
theorem xd_Mo_provider_36 : decode xb_Mo_provider 36 = .ok (.ifCond .lt 141, 3) := by decide +kernel
theorem xd_Mo_provider_39 : decode xb_Mo_provider 39 = .ok (.bipush 12, 2) := by decide +kernel
theorem xd_Mo_provider_41 : decode xb_Mo_provider 41 = .ok (.iload 5, 2) := by decide +kernel
theorem xd_Mo_provider_43 : decode xb_Mo_provider 43 = .ok (.imul, 1) := by decide +kernel
theorem xd_Mo_provider_44 : decode xb_Mo_provider 44 = .ok (.istore 6, 2) := by decide +kernel
theorem xd_Mo_provider_46 : decode xb_Mo_provider 46 = .ok (.iload 6, 2) := by decide +kernel
theorem xd_Mo_provider_48 : decode xb_Mo_provider 48 = .ok (.bipush 12, 2) := by decide +kernel
theorem xd_Mo_provider_50 : decode xb_Mo_provider 50 = .ok (.iload 5, 2) := by decide +kernel
theorem xd_Mo_provider_52 : decode xb_Mo_provider 52 = .ok (.imul, 1) := by decide +kernel
theorem xd_Mo_provider_53 : decode xb_Mo_provider 53 = .ok (.aload_n 0, 1) := by decide +kernel
theorem xd_Mo_provider_54 : decode xb_Mo_provider 54 = .ok (.getfield 72, 3) := by decide +kernel
theorem xd_Mo_provider_57 : decode xb_Mo_provider 57 = .ok (.iload 5, 2) := by decide +kernel
theorem xd_Mo_provider_59 : decode xb_Mo_provider 59 = .ok (.iaload, 1) := by decide +kernel
theorem xd_Mo_provider_60 : decode xb_Mo_provider 60 = .ok (.iadd, 1) := by decide +kernel
theorem xd_Mo_provider_61 : decode xb_Mo_provider 61 = .ok (.if_icmp .ge 104, 3) := by decide +kernel
theorem xd_Mo_provider_64 : decode xb_Mo_provider 64 = .ok (.aload_n 0, 1) := by decide +kernel
theorem xd_Mo_provider_65 : decode xb_Mo_provider 65 = .ok (.getfield 75, 3) := by decide +kernel
theorem xd_Mo_provider_68 : decode xb_Mo_provider 68 = .ok (.iload 6, 2) := by decide +kernel
theorem xd_Mo_provider_70 : decode xb_Mo_provider 70 = .ok (.iaload, 1) := by decide +kernel
theorem xd_Mo_provider_71 : decode xb_Mo_provider 71 = .ok (.istore 7, 2) := by decide +kernel
theorem xd_Mo_provider_73 : decode xb_Mo_provider 73 = .ok (.aload_n 0, 1) := by decide +kernel
theorem xd_Mo_provider_74 : decode xb_Mo_provider 74 = .ok (.getfield 57, 3) := by decide +kernel
theorem xd_Mo_provider_77 : decode xb_Mo_provider 77 = .ok (.iconst 3, 1) := by decide +kernel
theorem xd_Mo_provider_78 : decode xb_Mo_provider 78 = .ok (.iload 7, 2) := by decide +kernel
theorem xd_Mo_provider_80 : decode xb_Mo_provider 80 = .ok (.imul, 1) := by decide +kernel
theorem xd_Mo_provider_81 : decode xb_Mo_provider 81 = .ok (.iaload, 1) := by decide +kernel
theorem xd_Mo_provider_82 : decode xb_Mo_provider 82 = .ok (.iload_n 3, 1) := by decide +kernel
theorem xd_Mo_provider_83 : decode xb_Mo_provider 83 = .ok (.if_icmp .eq 33, 3) := by decide +kernel
theorem xd_Mo_provider_86 : decode xb_Mo_provider 86 = .ok (.aload_n 0, 1) := by decide +kernel
theorem xd_Mo_provider_87 : decode xb_Mo_provider 87 = .ok (.getfield 57, 3) := by decide +kernel
theorem xd_Mo_provider_90 : decode xb_Mo_provider 90 = .ok (.iconst 3, 1) := by decide +kernel
theorem xd_Mo_provider_91 : decode xb_Mo_provider 91 = .ok (.iload 7, 2) := by decide +kernel
theorem xd_Mo_provider_93 : decode xb_Mo_provider 93 = .ok (.imul, 1) := by decide +kernel
theorem xd_Mo_provider_94 : decode xb_Mo_provider 94 = .ok (.iconst 1, 1) := by decide +kernel
theorem xd_Mo_provider_95 : decode xb_Mo_provider 95 = .ok (.iadd, 1) := by decide +kernel
theorem xd_Mo_provider_96 : decode xb_Mo_provider 96 = .ok (.iaload, 1) := by decide +kernel
theorem xd_Mo_provider_97 : decode xb_Mo_provider 97 = .ok (.iload_n 3, 1) := by decide +kernel
theorem xd_Mo_provider_98 : decode xb_Mo_provider 98 = .ok (.if_icmp .eq 18, 3) := by decide +kernel
theorem xd_Mo_provider_101 : decode xb_Mo_provider 101 = .ok (.aload_n 0, 1) := by decide +kernel
theorem xd_Mo_provider_102 : decode xb_Mo_provider 102 = .ok (.getfield 57, 3) := by decide +kernel
theorem xd_Mo_provider_105 : decode xb_Mo_provider 105 = .ok (.iconst 3, 1) := by decide +kernel
theorem xd_Mo_provider_106 : decode xb_Mo_provider 106 = .ok (.iload 7, 2) := by decide +kernel
theorem xd_Mo_provider_108 : decode xb_Mo_provider 108 = .ok (.imul, 1) := by decide +kernel
theorem xd_Mo_provider_109 : decode xb_Mo_provider 109 = .ok (.iconst 2, 1) := by decide +kernel
theorem xd_Mo_provider_110 : decode xb_Mo_provider 110 = .ok (.iadd, 1) := by decide +kernel
theorem xd_Mo_provider_111 : decode xb_Mo_provider 111 = .ok (.iaload, 1) := by decide +kernel
theorem xd_Mo_provider_112 : decode xb_Mo_provider 112 = .ok (.iload_n 3, 1) := by decide +kernel
theorem xd_Mo_provider_113 : decode xb_Mo_provider 113 = .ok (.if_icmp .ne 7, 3) := by decide +kernel
theorem xd_Mo_provider_116 : decode xb_Mo_provider 116 = .ok (.iconst 1, 1) := by decide +kernel
theorem xd_Mo_provider_117 : decode xb_Mo_provider 117 = .ok (.goto 4, 3) := by decide +kernel
theorem xd_Mo_provider_120 : decode xb_Mo_provider 120 = .ok (.iconst 0, 1) := by decide +kernel
theorem xd_Mo_provider_121 : decode xb_Mo_provider 121 = .ok (.istore 8, 2) := by decide +kernel
theorem xd_Mo_provider_123 : decode xb_Mo_provider 123 = .ok (.iload 8, 2) := by decide +kernel
theorem xd_Mo_provider_125 : decode xb_Mo_provider 125 = .ok (.ifCond .eq 18, 3) := by decide +kernel
theorem xd_Mo_provider_128 : decode xb_Mo_provider 128 = .ok (.iload 4, 2) := by decide +kernel
theorem xd_Mo_provider_130 : decode xb_Mo_provider 130 = .ok (.iload_n 2, 1) := by decide +kernel
theorem xd_Mo_provider_131 : decode xb_Mo_provider 131 = .ok (.if_icmp .ne 12, 3) := by decide +kernel
theorem xd_Mo_provider_134 : decode xb_Mo_provider 134 = .ok (.bipush 16, 2) := by decide +kernel
theorem xd_Mo_provider_136 : decode xb_Mo_provider 136 = .ok (.iload 5, 2) := by decide +kernel
theorem xd_Mo_provider_138 : decode xb_Mo_provider 138 = .ok (.imul, 1) := by decide +kernel
theorem xd_Mo_provider_139 : decode xb_Mo_provider 139 = .ok (.iload 7, 2) := by decide +kernel
theorem xd_Mo_provider_141 : decode xb_Mo_provider 141 = .ok (.iadd, 1) := by decide +kernel
theorem xd_Mo_provider_142 : decode xb_Mo_provider 142 = .ok (.ireturn, 1) := by decide +kernel
theorem xd_Mo_provider_143 : decode xb_Mo_provider 143 = .ok (.iload 8, 2) := by decide +kernel
theorem xd_Mo_provider_145 : decode xb_Mo_provider 145 = .ok (.ifCond .eq 10, 3) := by decide +kernel
theorem xd_Mo_provider_148 : decode xb_Mo_provider 148 = .ok (.iload 4, 2) := by decide +kernel
theorem xd_Mo_provider_150 : decode xb_Mo_provider 150 = .ok (.iconst 1, 1) := by decide +kernel
theorem xd_Mo_provider_151 : decode xb_Mo_provider 151 = .ok (.iadd, 1) := by decide +kernel
theorem xd_Mo_provider_152 : decode xb_Mo_provider 152 = .ok (.goto 5, 3) := by decide +kernel
theorem xd_Mo_provider_155 : decode xb_Mo_provider 155 = .ok (.iload 4, 2) := by decide +kernel
theorem xd_Mo_provider_157 : decode xb_Mo_provider 157 = .ok (.istore 4, 2) := by decide +kernel
theorem xd_Mo_provider_159 : decode xb_Mo_provider 159 = .ok (.iinc 6 1, 3) := by decide +kernel
theorem xd_Mo_provider_162 : decode xb_Mo_provider 162 = .ok (.goto (-116), 3) := by decide +kernel
theorem xd_Mo_provider_165 : decode xb_Mo_provider 165 = .ok (.aload_n 0, 1) := by decide +kernel
theorem xd_Mo_provider_166 : decode xb_Mo_provider 166 = .ok (.getfield 69, 3) := by decide +kernel
theorem xd_Mo_provider_169 : decode xb_Mo_provider 169 = .ok (.iload 5, 2) := by decide +kernel
theorem xd_Mo_provider_171 : decode xb_Mo_provider 171 = .ok (.iaload, 1) := by decide +kernel
theorem xd_Mo_provider_172 : decode xb_Mo_provider 172 = .ok (.istore 5, 2) := by decide +kernel
theorem xd_Mo_provider_174 : decode xb_Mo_provider 174 = .ok (.goto (-140), 3) := by decide +kernel
theorem xd_Mo_provider_177 : decode xb_Mo_provider 177 = .ok (.iconst (-1), 1) := by decide +kernel
theorem xd_Mo_provider_178 : decode xb_Mo_provider 178 = .ok (.ireturn, 1) := by decide +kernel
theorem xy4_0 : (Cond.code xy_Mo_split xb_Mo_split 2 none) ∈ wT := wT_t (List.mem_append_right _ (List.mem_append_right _ (List.mem_append_right _ (List.mem_append_left _ (List.mem_of_getElem? (i := 193) rfl))))) rfl
theorem xy4_1 : (Cond.methodLink "LayerDeskModel" 101 xy_Mo_split) ∈ wT := wT_t (List.mem_append_right _ (List.mem_append_right _ (List.mem_append_right _ (List.mem_append_left _ (List.mem_of_getElem? (i := 190) rfl))))) rfl
theorem xy4_2 : (Cond.instanceMethod xy_Mo_split) ∈ wT := wT_t (List.mem_append_right _ (List.mem_append_right _ (List.mem_append_right _ (List.mem_append_left _ (List.mem_of_getElem? (i := 192) rfl))))) rfl
theorem xy4_3 : (Cond.selects "LayerDeskModel" xy_Mo_split xy_Mo_split) ∈ wT := wT_s (q := (xy_Mo_split, 31)) (by decide +kernel) rfl
theorem xy4_4 : (Cond.initialized "LayerDeskModel") ∈ wT := wT_t (List.mem_append_left _ (List.mem_of_getElem? (i := 5) rfl)) rfl
theorem xy4_5 : (Cond.fieldLink "LayerDeskModel" 94 "LayerDeskModel" "words" "I") ∈ wT := wT_t (List.mem_append_right _ (List.mem_append_right _ (List.mem_append_right _ (List.mem_append_left _ (List.mem_of_getElem? (i := 88) rfl))))) rfl
theorem xy4_6 : (Cond.code xy_Mo_nameOf xb_Mo_nameOf 4 (some .int)) ∈ wT := wT_t (List.mem_append_right _ (List.mem_append_right _ (List.mem_append_right _ (List.mem_append_left _ (List.mem_of_getElem? (i := 212) rfl))))) rfl
theorem xy4_7 : (Cond.methodLink "LayerDeskModel" 133 xy_Mo_nameOf) ∈ wT := wT_t (List.mem_append_right _ (List.mem_append_right _ (List.mem_append_right _ (List.mem_append_left _ (List.mem_of_getElem? (i := 209) rfl))))) rfl
theorem xy4_8 : (Cond.instanceMethod xy_Mo_nameOf) ∈ wT := wT_t (List.mem_append_right _ (List.mem_append_right _ (List.mem_append_right _ (List.mem_append_left _ (List.mem_of_getElem? (i := 211) rfl))))) rfl
theorem xy4_9 : (Cond.selects "LayerDeskModel" xy_Mo_nameOf xy_Mo_nameOf) ∈ wT := wT_s (q := (xy_Mo_nameOf, 31)) (by decide +kernel) rfl
theorem xy4_10 : (Cond.fieldLink "LayerDeskModel" 87 "LayerDeskModel" "fault" "I") ∈ wT := wT_t (List.mem_append_right _ (List.mem_append_right _ (List.mem_append_right _ (List.mem_append_left _ (List.mem_of_getElem? (i := 84) rfl))))) rfl
theorem xy4_11 : (Cond.code xy_Mo_oneName xb_Mo_oneName 1 (some .int)) ∈ wT := wT_t (List.mem_append_right _ (List.mem_append_right _ (List.mem_append_right _ (List.mem_append_right _ (List.mem_of_getElem? (i := 100) rfl))))) rfl
theorem xy4_12 : (Cond.methodLink "LayerDeskModel" 205 xy_Mo_oneName) ∈ wT := wT_t (List.mem_append_right _ (List.mem_append_right _ (List.mem_append_right _ (List.mem_append_right _ (List.mem_of_getElem? (i := 97) rfl))))) rfl
theorem xy4_13 : (Cond.instanceMethod xy_Mo_oneName) ∈ wT := wT_t (List.mem_append_right _ (List.mem_append_right _ (List.mem_append_right _ (List.mem_append_right _ (List.mem_of_getElem? (i := 99) rfl))))) rfl
theorem xy4_14 : (Cond.selects "LayerDeskModel" xy_Mo_oneName xy_Mo_oneName) ∈ wT := wT_s (q := (xy_Mo_oneName, 31)) (by decide +kernel) rfl
theorem xy4_15 : (Cond.code xy_Mo_moduleOf xb_Mo_moduleOf 3 (some .int)) ∈ wT := wT_t (List.mem_append_right _ (List.mem_append_right _ (List.mem_append_right _ (List.mem_append_right _ (List.mem_of_getElem? (i := 84) rfl))))) rfl
theorem xy4_16 : (Cond.methodLink "LayerDeskModel" 199 xy_Mo_moduleOf) ∈ wT := wT_t (List.mem_append_right _ (List.mem_append_right _ (List.mem_append_right _ (List.mem_append_right _ (List.mem_of_getElem? (i := 81) rfl))))) rfl
theorem xy4_17 : (Cond.instanceMethod xy_Mo_moduleOf) ∈ wT := wT_t (List.mem_append_right _ (List.mem_append_right _ (List.mem_append_right _ (List.mem_append_right _ (List.mem_of_getElem? (i := 83) rfl))))) rfl
theorem xy4_18 : (Cond.selects "LayerDeskModel" xy_Mo_moduleOf xy_Mo_moduleOf) ∈ wT := wT_s (q := (xy_Mo_moduleOf, 31)) (by decide +kernel) rfl
theorem xy4_19 : (Cond.code xy_Mo_fails xb_Mo_fails 2 (some .int)) ∈ wT := wT_t (List.mem_append_right _ (List.mem_append_right _ (List.mem_append_right _ (List.mem_append_right _ (List.mem_of_getElem? (i := 4) rfl))))) rfl
theorem xy4_20 : (Cond.methodLink "LayerDeskModel" 129 xy_Mo_fails) ∈ wT := wT_t (List.mem_append_right _ (List.mem_append_right _ (List.mem_append_right _ (List.mem_append_right _ (List.mem_of_getElem? (i := 1) rfl))))) rfl
theorem xy4_21 : (Cond.instanceMethod xy_Mo_fails) ∈ wT := wT_t (List.mem_append_right _ (List.mem_append_right _ (List.mem_append_right _ (List.mem_append_right _ (List.mem_of_getElem? (i := 3) rfl))))) rfl
theorem xy4_22 : (Cond.selects "LayerDeskModel" xy_Mo_fails xy_Mo_fails) ∈ wT := wT_s (q := (xy_Mo_fails, 31)) (by decide +kernel) rfl
theorem xy4_23 : (Cond.code xy_Mo_packageOf xb_Mo_packageOf 4 (some .int)) ∈ wT := wT_t (List.mem_append_right _ (List.mem_append_right _ (List.mem_append_right _ (List.mem_append_left _ (List.mem_of_getElem? (i := 224) rfl))))) rfl
theorem xy4_24 : (Cond.methodLink "LayerDeskModel" 143 xy_Mo_packageOf) ∈ wT := wT_t (List.mem_append_right _ (List.mem_append_right _ (List.mem_append_right _ (List.mem_append_left _ (List.mem_of_getElem? (i := 221) rfl))))) rfl
theorem xy4_25 : (Cond.instanceMethod xy_Mo_packageOf) ∈ wT := wT_t (List.mem_append_right _ (List.mem_append_right _ (List.mem_append_right _ (List.mem_append_left _ (List.mem_of_getElem? (i := 223) rfl))))) rfl
theorem xy4_26 : (Cond.selects "LayerDeskModel" xy_Mo_packageOf xy_Mo_packageOf) ∈ wT := wT_s (q := (xy_Mo_packageOf, 31)) (by decide +kernel) rfl
theorem xy4_27 : (Cond.code xy_Mo_reading xb_Mo_reading 7 none) ∈ wT := wT_t (List.mem_append_right _ (List.mem_append_right _ (List.mem_append_right _ (List.mem_append_right _ (List.mem_of_getElem? (i := 48) rfl))))) rfl
theorem xy4_28 : (Cond.methodLink "LayerDeskModel" 171 xy_Mo_reading) ∈ wT := wT_t (List.mem_append_right _ (List.mem_append_right _ (List.mem_append_right _ (List.mem_append_right _ (List.mem_of_getElem? (i := 45) rfl))))) rfl
theorem xy4_29 : (Cond.instanceMethod xy_Mo_reading) ∈ wT := wT_t (List.mem_append_right _ (List.mem_append_right _ (List.mem_append_right _ (List.mem_append_right _ (List.mem_of_getElem? (i := 47) rfl))))) rfl
theorem xy4_30 : (Cond.selects "LayerDeskModel" xy_Mo_reading xy_Mo_reading) ∈ wT := wT_s (q := (xy_Mo_reading, 31)) (by decide +kernel) rfl
theorem xy4_31 : (Cond.fieldLink "LayerDeskModel" 84 "LayerDeskModel" "seen" "[Z") ∈ wT := wT_t (List.mem_append_right _ (List.mem_append_right _ (List.mem_append_right _ (List.mem_append_left _ (List.mem_of_getElem? (i := 114) rfl))))) rfl
theorem xy4_32 : (Cond.fieldLink "LayerDeskModel" 23 "LayerDeskModel" "name" "[I") ∈ wT := wT_t (List.mem_append_right _ (List.mem_append_right _ (List.mem_append_right _ (List.mem_append_left _ (List.mem_of_getElem? (i := 93) rfl))))) rfl
theorem xy4_33 : (Cond.code xy_Mo_exports xb_Mo_exports 3 (some .boolean)) ∈ wT := wT_t (List.mem_append_right _ (List.mem_append_right _ (List.mem_append_right _ (List.mem_append_right _ (List.mem_of_getElem? (i := 52) rfl))))) rfl
theorem xy4_34 : (Cond.methodLink "LayerDeskModel" 175 xy_Mo_exports) ∈ wT := wT_t (List.mem_append_right _ (List.mem_append_right _ (List.mem_append_right _ (List.mem_append_right _ (List.mem_of_getElem? (i := 49) rfl))))) rfl
theorem xy4_35 : (Cond.instanceMethod xy_Mo_exports) ∈ wT := wT_t (List.mem_append_right _ (List.mem_append_right _ (List.mem_append_right _ (List.mem_append_right _ (List.mem_of_getElem? (i := 51) rfl))))) rfl
theorem xy4_36 : (Cond.selects "LayerDeskModel" xy_Mo_exports xy_Mo_exports) ∈ wT := wT_s (q := (xy_Mo_exports, 31)) (by decide +kernel) rfl
theorem xy4_37 : (Cond.code xy_Mo_isThere xb_Mo_isThere 3 (some .boolean)) ∈ wT := wT_t (List.mem_append_right _ (List.mem_append_right _ (List.mem_append_right _ (List.mem_append_right _ (List.mem_of_getElem? (i := 92) rfl))))) rfl
theorem xy4_38 : (Cond.methodLink "LayerDeskModel" 202 xy_Mo_isThere) ∈ wT := wT_t (List.mem_append_right _ (List.mem_append_right _ (List.mem_append_right _ (List.mem_append_right _ (List.mem_of_getElem? (i := 89) rfl))))) rfl
theorem xy4_39 : (Cond.instanceMethod xy_Mo_isThere) ∈ wT := wT_t (List.mem_append_right _ (List.mem_append_right _ (List.mem_append_right _ (List.mem_append_right _ (List.mem_of_getElem? (i := 91) rfl))))) rfl
theorem xy4_40 : (Cond.selects "LayerDeskModel" xy_Mo_isThere xy_Mo_isThere) ∈ wT := wT_s (q := (xy_Mo_isThere, 31)) (by decide +kernel) rfl
theorem xy4_41 : (Cond.fieldLink "LayerDeskModel" 42 "LayerDeskModel" "openAll" "[Z") ∈ wT := wT_t (List.mem_append_right _ (List.mem_append_right _ (List.mem_append_right _ (List.mem_append_left _ (List.mem_of_getElem? (i := 99) rfl))))) rfl
theorem xy4_42 : (Cond.fieldLink "LayerDeskModel" 35 "LayerDeskModel" "openTo" "[I") ∈ wT := wT_t (List.mem_append_right _ (List.mem_append_right _ (List.mem_append_right _ (List.mem_append_left _ (List.mem_of_getElem? (i := 97) rfl))))) rfl
theorem xy4_43 : (Cond.code xy_Mo_isTo xb_Mo_isTo 6 (some .boolean)) ∈ wT := wT_t (List.mem_append_right _ (List.mem_append_right _ (List.mem_append_right _ (List.mem_append_right _ (List.mem_of_getElem? (i := 56) rfl))))) rfl
theorem xy4_44 : (Cond.methodLink "LayerDeskModel" 167 xy_Mo_isTo) ∈ wT := wT_t (List.mem_append_right _ (List.mem_append_right _ (List.mem_append_right _ (List.mem_append_right _ (List.mem_of_getElem? (i := 53) rfl))))) rfl
theorem xy4_45 : (Cond.instanceMethod xy_Mo_isTo) ∈ wT := wT_t (List.mem_append_right _ (List.mem_append_right _ (List.mem_append_right _ (List.mem_append_right _ (List.mem_of_getElem? (i := 55) rfl))))) rfl
theorem xy4_46 : (Cond.selects "LayerDeskModel" xy_Mo_isTo xy_Mo_isTo) ∈ wT := wT_s (q := (xy_Mo_isTo, 31)) (by decide +kernel) rfl
theorem xy4_47 : (Cond.code xy_Mo_isOpen xb_Mo_isOpen 2 (some .boolean)) ∈ wT := wT_t (List.mem_append_right _ (List.mem_append_right _ (List.mem_append_right _ (List.mem_append_right _ (List.mem_of_getElem? (i := 12) rfl))))) rfl
theorem xy4_48 : (Cond.methodLink "LayerDeskModel" 190 xy_Mo_isOpen) ∈ wT := wT_t (List.mem_append_right _ (List.mem_append_right _ (List.mem_append_right _ (List.mem_append_right _ (List.mem_of_getElem? (i := 9) rfl))))) rfl
theorem xy4_49 : (Cond.instanceMethod xy_Mo_isOpen) ∈ wT := wT_t (List.mem_append_right _ (List.mem_append_right _ (List.mem_append_right _ (List.mem_append_right _ (List.mem_of_getElem? (i := 11) rfl))))) rfl
theorem xy4_50 : (Cond.selects "LayerDeskModel" xy_Mo_isOpen xy_Mo_isOpen) ∈ wT := wT_s (q := (xy_Mo_isOpen, 31)) (by decide +kernel) rfl
theorem xy4_51 : (Cond.fieldLink "LayerDeskModel" 72 "LayerDeskModel" "modules" "[I") ∈ wT := wT_t (List.mem_append_right _ (List.mem_append_right _ (List.mem_append_right _ (List.mem_append_left _ (List.mem_of_getElem? (i := 110) rfl))))) rfl
theorem xy4_52 : (Cond.fieldLink "LayerDeskModel" 69 "LayerDeskModel" "parent" "[I") ∈ wT := wT_t (List.mem_append_right _ (List.mem_append_right _ (List.mem_append_right _ (List.mem_append_left _ (List.mem_of_getElem? (i := 109) rfl))))) rfl
theorem xy4_53 : (Cond.fieldLink "LayerDeskModel" 75 "LayerDeskModel" "module" "[I") ∈ wT := wT_t (List.mem_append_right _ (List.mem_append_right _ (List.mem_append_right _ (List.mem_append_left _ (List.mem_of_getElem? (i := 111) rfl))))) rfl
theorem xy4_54 : (Cond.fieldLink "LayerDeskModel" 57 "LayerDeskModel" "provide" "[I") ∈ wT := wT_t (List.mem_append_right _ (List.mem_append_right _ (List.mem_append_right _ (List.mem_append_left _ (List.mem_of_getElem? (i := 104) rfl))))) rfl
set_option maxHeartbeats 4000000 in
set_option maxRecDepth 100000 in
theorem xc_Mo_oneName (l : Launch) (D : va_G) (kA : Nat → ClassId) (sz h : Nat) (mm : Nat → Nat) (v : Nat → Int32) (g : Nat → Nat → Int32) (wr : Nat) (hwr : v 2 = nI wr) (hwr40 : wr ≤ 40) : Met l xy_Mo_oneName (.code xy_Mo_oneName xb_Mo_oneName 1 (some .int) :: wT) { frames := 1, cells := 0, slots := 0, locals := 23 } (va_Pc [.ref h] (xPre D kA sz (moW h mm kA v g))) (va_Qi (fun (r : Int32) (u : (Nat → Int32) × (Nat → Nat → Int32)) => ∃ wn, u.1 = va_up (va_up v 2 0) 3 (nI wn) ∧ ∀ j, j ≠ 1 → j ≠ 2 → u.2 j = g j) (fun (u : (Nat → Int32) × (Nat → Nat → Int32)) t => va_P D xcl (moW h mm kA u.1 u.2) t.heap ∧ va_D (va_A (moW h mm kA v g) sz) (moW h mm kA u.1 u.2)) (va_A (moW h mm kA v g) sz)) 0 0 (va_A (moW h mm kA v g) sz) := by
  refine Met.ofW (cc := xb_Mo_oneName) (maxL := 1) (ret := (some .int)) (by decide) rfl ?_
  intro p e s m args below meth c s₁ B hml hv
  obtain ⟨rfl, hsz, hP, hK, hD0⟩ := hv
  have hx := B.exec
  have hb := B.bytes
  have hr := B.returns
  have hT := x_hT B.pre
  have hown : s.vm.findClass xR_Mo = some m.cls := findClass_of_methodNamed B.named
  have hlocks := B.notSynchronized
  subst hsz
  have hD := hD0.self (sz := s.heap.size)
  generalize hAe : va_A (moW h mm kA v g) s.heap.size = A at hD ⊢
  have hA : ∀ q : Nat, s.heap.size ≤ q → A q := fun q h => by rw [← hAe]; exact Or.inr h
  have hS : va_S A s.heap s.heap [] := va_S.rf
  have hl := lv_entry ([.ref h]) (n := 1) (Nat.le_of_ble_eq_true rfl)
  rw [lg_entry_eq]
  generalize (lg_sl ([.ref h]) ++ List.replicate (1 - (lg_sl ([.ref h])).length) Slot.unset).toArray = ls at hl ⊢
  have hl : lv_has ls 1 [(0, .ref h)] := hl
  have hP : va_P D xcl (moW h mm kA v g) s.heap := hP
  refine lv_aload_n hx hb xd_Mo_oneName_0 rfl (lv_at hl 0 rfl) ?_
  have hFc := va_free (wc := (moW h mm kA v g)) hD hS hA [0, 1, 2, 3, 4, 5, 6, 7, 8, 9, 10, 11, 12, 13, 14, 15, 16, 17, 18, 19, 20, 21, 22, 23, 24, 25] rfl
  refine va_callv (va_runV (As := []) (rest := []) ⟨hx, hb, hml, hown, hT⟩ (xc_Mo_split l D kA s.heap.size h mm v g wr (by first | assumption | omega) (by first | assumption | omega)) (cwV 0 hT (wT_V xy4_1 xy4_2 xy4_3 xy4_4 xy4_0) rfl rfl rfl (by decide +kernel) ⟨Nat.le_of_ble_eq_true rfl, Nat.le_of_ble_eq_true rfl⟩) (x_preV hK hP hD 0 rfl rfl) rfl rfl hl.1 rfl (lv_room (Nat.le_of_ble_eq_true rfl)) xd_Mo_oneName_1 ⟨Nat.le_of_ble_eq_true rfl, Nat.le_of_ble_eq_true rfl⟩) hS (fun q _ h => hFc q h) hFc (fun u2 t H1 locs ht hvm hp3 hB hz1 hk1 hS => ?_)
  obtain ⟨hP1, hD1⟩ := hB
  rw [ht] at hP1
  have hD1 := hD1.weaken (fun _ _ _ h => hFc _ h)
  obtain ⟨v4, g5⟩ := u2
  generalize H1 = H at hP1 hS ⊢
  have hP := hP1
  have hD := hD1
  have hP : va_P D xcl (moW h mm kA v4 g5) H := hP
  have hD : va_D A (moW h mm kA v4 g5) := hD
  obtain ⟨wn, hwn20, hv9, hgk, hws⟩ := hp3
  have hv9 : v4 = (va_up (va_up v 2 0) 3 (nI wn)) := hv9
  subst hv9
  have hgk : ∀ j, j ≠ 1 → j ≠ 2 → g5 j = g j := hgk
  have hws : ∀ w9, w9 < wn → ∃ b9 e9, b9 < e9 ∧ e9 ≤ 40 ∧ g5 1 w9 = nI b9 ∧ g5 2 w9 = nI e9 := hws
  have hP : va_P D xcl (moW h mm kA (va_up (va_up v 2 0) 3 (nI wn)) g5) H := hP
  have hD : va_D A (moW h mm kA (va_up (va_up v 2 0) 3 (nI wn)) g5) := hD
  refine lv_aload_n hx hb xd_Mo_oneName_4 rfl (lv_at hl 0 rfl) ?_
  refine va_get (D := D) (ci := 4) (v := .int (nI wn)) (C := xR_Mo) (T := xT_Mo) (N := 31) hx hb hT xi_Mo hown hK.1 hP 0 rfl rfl 4 (by decide) (hT _ xy4_5) (fun _ h9 => h9) rfl xd_Mo_oneName_5 ?_
  refine lv_iconst (v := 1) hx hb xd_Mo_oneName_8 (by decide) ?_
  refine xn_ne (a := wn) (b := 1) (tgt := 20) hx hb xd_Mo_oneName_9 (by decide) (by omega) (by omega) (fun hc6 => ?_) (fun hc6 => ?_)
  · refine lv_iconst (v := 0) hx hb xd_Mo_oneName_20 (by decide) ?_
    exact W.iret (v := 0) hx hb hr (fun t ht hW => ⟨⟨0, ((va_up (va_up v 2 0) 3 (nI wn)), g5), rfl, ⟨wn, rfl, hgk⟩, by rw [ht]; exact hP, hD⟩, hS.F ht⟩) hS.2.2 xd_Mo_oneName_21
  · obtain ⟨b0, e0, hbe0, he0, eb0, ee0⟩ := hws 0 (by omega)
    refine lv_aload_n hx hb xd_Mo_oneName_12 rfl (lv_at hl 0 rfl) ?_
    refine lv_iconst (v := 0) hx hb xd_Mo_oneName_13 (by decide) ?_
    have hFc := va_free (wc := (moW h mm kA (va_up (va_up v 2 0) 3 (nI wn)) g5)) hD hS hA [0, 1, 2, 3, 4, 5, 6, 7, 8, 9, 10, 11, 12, 13, 14, 15, 16, 17, 18, 19, 20, 21, 22, 23, 24, 25] rfl
    refine va_calli (va_runV (As := [.int 0]) (rest := []) ⟨hx, hb, hml, hown, hT⟩ (xc_Mo_nameOf l D kA H.size h mm (va_up (va_up v 2 0) 3 (nI wn)) g5 0 b0 e0 (by first | assumption | omega) (by first | assumption | omega) (by first | assumption | omega) (by first | assumption | omega) (by first | assumption | omega)) (cwV 1 hT (wT_V xy4_7 xy4_8 xy4_9 xy4_4 xy4_6) rfl rfl rfl (by decide +kernel) ⟨Nat.le_of_ble_eq_true rfl, Nat.le_of_ble_eq_true rfl⟩) (x_preV hK hP hD 0 rfl rfl) rfl rfl hl.1 rfl (lv_room (Nat.le_of_ble_eq_true rfl)) xd_Mo_oneName_14 ⟨Nat.le_of_ble_eq_true rfl, Nat.le_of_ble_eq_true rfl⟩) hS (fun q _ h => hFc q h) hFc (fun r7 u8 t H1 locs ht hvm hp9 hB hz1 hk1 hS => ?_)
    obtain ⟨hP1, hD1⟩ := hB
    rw [ht] at hP1
    have hD1 := hD1.weaken (fun _ _ _ h => hFc _ h)
    generalize H1 = H at hP1 hS ⊢
    have hP := hP1
    have hD := hD1
    have hP : va_P D xcl (moW h mm kA (va_up (va_up v 2 0) 3 (nI wn)) g5) H := hP
    have hD : va_D A (moW h mm kA (va_up (va_up v 2 0) 3 (nI wn)) g5) := hD
    refine lv_goto (tgt := 21) hx hb xd_Mo_oneName_17 (by decide) ?_
    exact W.iret (v := r7) hx hb hr (fun t ht hW => ⟨⟨r7, ((va_up (va_up v 2 0) 3 (nI wn)), g5), rfl, ⟨wn, rfl, hgk⟩, by rw [ht]; exact hP, hD⟩, hS.F ht⟩) hS.2.2 xd_Mo_oneName_21
set_option maxHeartbeats 4000000 in
set_option maxRecDepth 100000 in
theorem xc_Mo_load (l : Launch) (D : va_G) (kA : Nat → ClassId) (sz h : Nat) (mm : Nat → Nat) (v : Nat → Int32) (g : Nat → Nat → Int32) (ly : Int32) (kx : Int32) (wr : Nat) (hMI : MI v g) (hwr : v 2 = nI wr) (hwr40 : wr ≤ 40) : Met l xy_Mo_load (.code xy_Mo_load xb_Mo_load 7 (some .int) :: wT) { frames := 2, cells := 0, slots := 0, locals := 50 } (va_Pc [.ref h, .int ly, .int kx] (xPre D kA sz (moW h mm kA v g))) (va_Qi (fun (r : Int32) (u : (Nat → Int32) × (Nat → Nat → Int32)) => MI u.1 u.2 ∧ u.1 2 = 0) (fun (u : (Nat → Int32) × (Nat → Nat → Int32)) t => va_P D xcl (moW h mm kA u.1 u.2) t.heap ∧ va_D (va_A (moW h mm kA v g) sz) (moW h mm kA u.1 u.2)) (va_A (moW h mm kA v g) sz)) 0 0 (va_A (moW h mm kA v g) sz) := by
  refine Met.ofW (cc := xb_Mo_load) (maxL := 7) (ret := (some .int)) (by decide) rfl ?_
  intro p e s m args below meth c s₁ B hml hv
  obtain ⟨rfl, hsz, hP, hK, hD0⟩ := hv
  have hx := B.exec
  have hb := B.bytes
  have hr := B.returns
  have hT := x_hT B.pre
  have hown : s.vm.findClass xR_Mo = some m.cls := findClass_of_methodNamed B.named
  have hlocks := B.notSynchronized
  subst hsz
  have hD := hD0.self (sz := s.heap.size)
  generalize hAe : va_A (moW h mm kA v g) s.heap.size = A at hD ⊢
  have hA : ∀ q : Nat, s.heap.size ≤ q → A q := fun q h => by rw [← hAe]; exact Or.inr h
  have hS : va_S A s.heap s.heap [] := va_S.rf
  have hl := lv_entry ([.ref h, .int ly, .int kx]) (n := 7) (Nat.le_of_ble_eq_true rfl)
  rw [lg_entry_eq]
  generalize (lg_sl ([.ref h, .int ly, .int kx]) ++ List.replicate (7 - (lg_sl ([.ref h, .int ly, .int kx])).length) Slot.unset).toArray = ls at hl ⊢
  have hl : lv_has ls 7 [(0, .ref h), (1, .int ly), (2, .int kx)] := hl
  have hP : va_P D xcl (moW h mm kA v g) s.heap := hP
  refine lv_aload_n hx hb xd_Mo_load_0 rfl (lv_at hl 0 rfl) ?_
  refine lv_iconst (v := 0) hx hb xd_Mo_load_1 (by decide) ?_
  refine va_put (D := D) (ci := 4) (v := .int 0) (ty := .int) (C := xR_Mo) (T := xT_Mo) (N := 31) hx hb hT xi_Mo xt_Mo xt_Mo_ok xn_Mo hown hK.1 hP hD hS 0 rfl rfl 0 (by decide) (hT _ xy4_10) (fun _ h9 => h9) rfl (by decide +kernel) rfl rfl (Nat.le_of_ble_eq_true rfl) xd_Mo_load_2 (fun H locs hP hD hS => ?_)
  have hP : va_P D xcl (moW h mm kA (va_up v 0 0) g) H := hP
  have hD : va_D A (moW h mm kA (va_up v 0 0) g) := hD
  refine lv_aload_n hx hb xd_Mo_load_5 rfl (lv_at hl 0 rfl) ?_
  have hFc := va_free (wc := (moW h mm kA (va_up v 0 0) g)) hD hS hA [0, 1, 2, 3, 4, 5, 6, 7, 8, 9, 10, 11, 12, 13, 14, 15, 16, 17, 18, 19, 20, 21, 22, 23, 24, 25] rfl
  refine va_calli (va_runV (As := []) (rest := []) ⟨hx, hb, hml, hown, hT⟩ (xc_Mo_oneName l D kA H.size h mm (va_up v 0 0) g wr (by first | assumption | omega) (by first | assumption | omega)) (cwV 0 hT (wT_V xy4_12 xy4_13 xy4_14 xy4_4 xy4_11) rfl rfl rfl (by decide +kernel) ⟨Nat.le_of_ble_eq_true rfl, Nat.le_of_ble_eq_true rfl⟩) (x_preV hK hP hD 0 rfl rfl) rfl rfl hl.1 rfl (lv_room (Nat.le_of_ble_eq_true rfl)) xd_Mo_load_6 ⟨Nat.le_of_ble_eq_true rfl, Nat.le_of_ble_eq_true rfl⟩) hS (fun q _ h => hFc q h) hFc (fun r1 u2 t H1 locs ht hvm hp3 hB hz1 hk1 hS => ?_)
  obtain ⟨hP1, hD1⟩ := hB
  rw [ht] at hP1
  have hD1 := hD1.weaken (fun _ _ _ h => hFc _ h)
  obtain ⟨v4, g5⟩ := u2
  generalize H1 = H at hP1 hS ⊢
  have hP := hP1
  have hD := hD1
  have hP : va_P D xcl (moW h mm kA v4 g5) H := hP
  have hD : va_D A (moW h mm kA v4 g5) := hD
  obtain ⟨wn, hv9, hgk⟩ := hp3
  have hv9 : v4 = (va_up (va_up (va_up v 0 0) 2 0) 3 (nI wn)) := hv9
  subst hv9
  have hgk : ∀ j, j ≠ 1 → j ≠ 2 → g5 j = g j := hgk
  have hM1 : MI (va_up (va_up (va_up v 0 0) 2 0) 3 (nI wn)) g5 := MI_g (hgk 0 (by decide) (by decide)) (hgk 3 (by decide) (by decide)) (hgk 4 (by decide) (by decide)) (hgk 5 (by decide) (by decide)) (hgk 12 (by decide) (by decide)) (hgk 19 (by decide) (by decide)) (hgk 20 (by decide) (by decide)) (hgk 21 (by decide) (by decide)) (MI_v rfl rfl hMI)
  obtain ⟨⟨nd, hnd12, hnd⟩, ⟨nl, hnl5, hnl, hpar⟩, hch, hpk, hrq, hmd, huq⟩ := id hM1
  have hP : va_P D xcl (moW h mm kA (va_up (va_up (va_up v 0 0) 2 0) 3 (nI wn)) g5) H := hP
  have hD : va_D A (moW h mm kA (va_up (va_up (va_up v 0 0) 2 0) 3 (nI wn)) g5) := hD
  refine lv_istore_n hx hb xd_Mo_load_9 rfl hl (Nat.le_of_ble_eq_true rfl) rfl (fun ls hl => ?_)
  have hl : lv_has ls 7 [(3, .int r1), (0, .ref h), (1, .int ly), (2, .int kx)] := hl
  refine lv_aload_n hx hb xd_Mo_load_10 rfl (lv_at hl 1 rfl) ?_
  refine lv_iload_n hx hb xd_Mo_load_11 rfl (lv_at hl 2 rfl) ?_
  refine lv_iload_n hx hb xd_Mo_load_12 rfl (lv_at hl 3 rfl) ?_
  have hFc := va_free (wc := (moW h mm kA (va_up (va_up (va_up v 0 0) 2 0) 3 (nI wn)) g5)) hD hS hA [0, 1, 2, 3, 4, 5, 6, 7, 8, 9, 10, 11, 12, 13, 14, 15, 16, 17, 18, 19, 20, 21, 22, 23, 24, 25] rfl
  refine va_calli (va_runV (As := [.int ly, .int kx]) (rest := []) ⟨hx, hb, hml, hown, hT⟩ (xc_Mo_moduleOf l D kA H.size h mm (va_up (va_up (va_up v 0 0) 2 0) 3 (nI wn)) g5 ly kx nl (by first | assumption | omega) (by first | assumption | omega) (by first | assumption | omega)) (cwV 2 hT (wT_V xy4_16 xy4_17 xy4_18 xy4_4 xy4_15) rfl rfl rfl (by decide +kernel) ⟨Nat.le_of_ble_eq_true rfl, Nat.le_of_ble_eq_true rfl⟩) (x_preV hK hP hD 0 rfl rfl) rfl rfl hl.1 rfl (lv_room (Nat.le_of_ble_eq_true rfl)) xd_Mo_load_13 ⟨Nat.le_of_ble_eq_true rfl, Nat.le_of_ble_eq_true rfl⟩) hS (fun q _ h => hFc q h) hFc (fun r6 u7 t H1 locs ht hvm hp8 hB hz1 hk1 hS => ?_)
  obtain ⟨hP1, hD1⟩ := hB
  rw [ht] at hP1
  have hD1 := hD1.weaken (fun _ _ _ h => hFc _ h)
  generalize H1 = H at hP1 hS ⊢
  have hP := hP1
  have hD := hD1
  have hP : va_P D xcl (moW h mm kA (va_up (va_up (va_up v 0 0) 2 0) 3 (nI wn)) g5) H := hP
  have hD : va_D A (moW h mm kA (va_up (va_up (va_up v 0 0) 2 0) 3 (nI wn)) g5) := hD
  rcases hp8 with rfl | ⟨z9, z10, z11, rfl, z12, rfl⟩
  · refine lv_istore hx hb xd_Mo_load_16 hl (Nat.le_of_ble_eq_true rfl) rfl (fun ls hl => ?_)
    have hl : lv_has ls 7 [(4, .int (-1)), (3, .int r1), (0, .ref h), (1, .int ly), (2, .int kx)] := hl
    refine lv_iload_n hx hb xd_Mo_load_18 rfl (lv_at hl 1 rfl) ?_
    refine lv_if_eq (tgt := 27) hx hb xd_Mo_load_19 (by decide) (fun hc13 => ?_) (fun hc13 => ?_)
    · refine lv_aload_n hx hb xd_Mo_load_27 rfl (lv_at hl 2 rfl) ?_
      refine lv_iconst (v := 1) hx hb xd_Mo_load_28 (by decide) ?_
      have hFc := va_free (wc := (moW h mm kA (va_up (va_up (va_up v 0 0) 2 0) 3 (nI wn)) g5)) hD hS hA [0, 1, 2, 3, 4, 5, 6, 7, 8, 9, 10, 11, 12, 13, 14, 15, 16, 17, 18, 19, 20, 21, 22, 23, 24, 25] rfl
      refine va_calli (va_runV (As := [.int 1]) (rest := []) ⟨hx, hb, hml, hown, hT⟩ (xc_Mo_fails l D kA H.size h mm (va_up (va_up (va_up v 0 0) 2 0) 3 (nI wn)) g5 1) (cwV 1 hT (wT_V xy4_20 xy4_21 xy4_22 xy4_4 xy4_19) rfl rfl rfl (by decide +kernel) ⟨Nat.le_of_ble_eq_true rfl, Nat.le_of_ble_eq_true rfl⟩) (x_preV hK hP hD 0 rfl rfl) rfl rfl hl.1 rfl (lv_room (Nat.le_of_ble_eq_true rfl)) xd_Mo_load_29 ⟨Nat.le_of_ble_eq_true rfl, Nat.le_of_ble_eq_true rfl⟩) hS (fun q _ h => hFc q h) hFc (fun r14 u15 t H1 locs ht hvm hp16 hB hz1 hk1 hS => ?_)
      obtain ⟨hP1, hD1⟩ := hB
      rw [ht] at hP1
      have hD1 := hD1.weaken (fun _ _ _ h => hFc _ h)
      obtain ⟨v17, g18⟩ := u15
      generalize H1 = H at hP1 hS ⊢
      have hP := hP1
      have hD := hD1
      have hP : va_P D xcl (moW h mm kA v17 g18) H := hP
      have hD : va_D A (moW h mm kA v17 g18) := hD
      obtain ⟨hr9, hu9⟩ := hp16
      subst hr9
      obtain ⟨hu1, hu2⟩ := Prod.mk.inj hu9
      subst hu1
      have hu2 := hu2.symm
      subst hu2
      have hP : va_P D xcl (moW h mm kA (va_up (va_up (va_up v 0 1) 2 0) 3 (nI wn)) g5) H := hP
      have hD : va_D A (moW h mm kA (va_up (va_up (va_up v 0 1) 2 0) 3 (nI wn)) g5) := hD
      exact W.iret (v := 0) hx hb hr (fun t ht hW => ⟨⟨0, ((va_up (va_up (va_up v 0 1) 2 0) 3 (nI wn)), g5), rfl, ⟨MI_v rfl rfl hM1, rfl⟩, by rw [ht]; exact hP, hD⟩, hS.F ht⟩) hS.2.2 xd_Mo_load_32
    · refine lv_iload hx hb xd_Mo_load_22 (lv_at hl 0 rfl) ?_
      refine lv_if_ge (tgt := 33) hx hb xd_Mo_load_24 (by decide) (fun hc19 => absurd hc19 (by decide)) (fun _ => ?_)
      refine lv_aload_n hx hb xd_Mo_load_27 rfl (lv_at hl 2 rfl) ?_
      refine lv_iconst (v := 1) hx hb xd_Mo_load_28 (by decide) ?_
      have hFc := va_free (wc := (moW h mm kA (va_up (va_up (va_up v 0 0) 2 0) 3 (nI wn)) g5)) hD hS hA [0, 1, 2, 3, 4, 5, 6, 7, 8, 9, 10, 11, 12, 13, 14, 15, 16, 17, 18, 19, 20, 21, 22, 23, 24, 25] rfl
      refine va_calli (va_runV (As := [.int 1]) (rest := []) ⟨hx, hb, hml, hown, hT⟩ (xc_Mo_fails l D kA H.size h mm (va_up (va_up (va_up v 0 0) 2 0) 3 (nI wn)) g5 1) (cwV 1 hT (wT_V xy4_20 xy4_21 xy4_22 xy4_4 xy4_19) rfl rfl rfl (by decide +kernel) ⟨Nat.le_of_ble_eq_true rfl, Nat.le_of_ble_eq_true rfl⟩) (x_preV hK hP hD 0 rfl rfl) rfl rfl hl.1 rfl (lv_room (Nat.le_of_ble_eq_true rfl)) xd_Mo_load_29 ⟨Nat.le_of_ble_eq_true rfl, Nat.le_of_ble_eq_true rfl⟩) hS (fun q _ h => hFc q h) hFc (fun r20 u21 t H1 locs ht hvm hp22 hB hz1 hk1 hS => ?_)
      obtain ⟨hP1, hD1⟩ := hB
      rw [ht] at hP1
      have hD1 := hD1.weaken (fun _ _ _ h => hFc _ h)
      obtain ⟨v23, g24⟩ := u21
      generalize H1 = H at hP1 hS ⊢
      have hP := hP1
      have hD := hD1
      have hP : va_P D xcl (moW h mm kA v23 g24) H := hP
      have hD : va_D A (moW h mm kA v23 g24) := hD
      obtain ⟨hr9, hu9⟩ := hp22
      subst hr9
      obtain ⟨hu1, hu2⟩ := Prod.mk.inj hu9
      subst hu1
      have hu2 := hu2.symm
      subst hu2
      have hP : va_P D xcl (moW h mm kA (va_up (va_up (va_up v 0 1) 2 0) 3 (nI wn)) g5) H := hP
      have hD : va_D A (moW h mm kA (va_up (va_up (va_up v 0 1) 2 0) 3 (nI wn)) g5) := hD
      exact W.iret (v := 0) hx hb hr (fun t ht hW => ⟨⟨0, ((va_up (va_up (va_up v 0 1) 2 0) 3 (nI wn)), g5), rfl, ⟨MI_v rfl rfl hM1, rfl⟩, by rw [ht]; exact hP, hD⟩, hS.F ht⟩) hS.2.2 xd_Mo_load_32
  · have hl : lv_has ls 7 [(3, .int r1), (0, .ref h), (1, .int (nI z9)), (2, .int kx)] := hl
    refine lv_istore hx hb xd_Mo_load_16 hl (Nat.le_of_ble_eq_true rfl) rfl (fun ls hl => ?_)
    have hl : lv_has ls 7 [(4, .int (nI z10)), (3, .int r1), (0, .ref h), (1, .int (nI z9)), (2, .int kx)] := hl
    refine lv_iload_n hx hb xd_Mo_load_18 rfl (lv_at hl 1 rfl) ?_
    refine lv_if_eq (tgt := 27) hx hb xd_Mo_load_19 (by decide) (fun hc25 => ?_) (fun hc25 => ?_)
    · refine lv_aload_n hx hb xd_Mo_load_27 rfl (lv_at hl 2 rfl) ?_
      refine lv_iconst (v := 1) hx hb xd_Mo_load_28 (by decide) ?_
      have hFc := va_free (wc := (moW h mm kA (va_up (va_up (va_up v 0 0) 2 0) 3 (nI wn)) g5)) hD hS hA [0, 1, 2, 3, 4, 5, 6, 7, 8, 9, 10, 11, 12, 13, 14, 15, 16, 17, 18, 19, 20, 21, 22, 23, 24, 25] rfl
      refine va_calli (va_runV (As := [.int 1]) (rest := []) ⟨hx, hb, hml, hown, hT⟩ (xc_Mo_fails l D kA H.size h mm (va_up (va_up (va_up v 0 0) 2 0) 3 (nI wn)) g5 1) (cwV 1 hT (wT_V xy4_20 xy4_21 xy4_22 xy4_4 xy4_19) rfl rfl rfl (by decide +kernel) ⟨Nat.le_of_ble_eq_true rfl, Nat.le_of_ble_eq_true rfl⟩) (x_preV hK hP hD 0 rfl rfl) rfl rfl hl.1 rfl (lv_room (Nat.le_of_ble_eq_true rfl)) xd_Mo_load_29 ⟨Nat.le_of_ble_eq_true rfl, Nat.le_of_ble_eq_true rfl⟩) hS (fun q _ h => hFc q h) hFc (fun r26 u27 t H1 locs ht hvm hp28 hB hz1 hk1 hS => ?_)
      obtain ⟨hP1, hD1⟩ := hB
      rw [ht] at hP1
      have hD1 := hD1.weaken (fun _ _ _ h => hFc _ h)
      obtain ⟨v29, g30⟩ := u27
      generalize H1 = H at hP1 hS ⊢
      have hP := hP1
      have hD := hD1
      have hP : va_P D xcl (moW h mm kA v29 g30) H := hP
      have hD : va_D A (moW h mm kA v29 g30) := hD
      obtain ⟨hr9, hu9⟩ := hp28
      subst hr9
      obtain ⟨hu1, hu2⟩ := Prod.mk.inj hu9
      subst hu1
      have hu2 := hu2.symm
      subst hu2
      have hP : va_P D xcl (moW h mm kA (va_up (va_up (va_up v 0 1) 2 0) 3 (nI wn)) g5) H := hP
      have hD : va_D A (moW h mm kA (va_up (va_up (va_up v 0 1) 2 0) 3 (nI wn)) g5) := hD
      exact W.iret (v := 0) hx hb hr (fun t ht hW => ⟨⟨0, ((va_up (va_up (va_up v 0 1) 2 0) 3 (nI wn)), g5), rfl, ⟨MI_v rfl rfl hM1, rfl⟩, by rw [ht]; exact hP, hD⟩, hS.F ht⟩) hS.2.2 xd_Mo_load_32
    · refine lv_iload hx hb xd_Mo_load_22 (lv_at hl 0 rfl) ?_
      refine xz_ge (a := z10) (tgt := 33) hx hb xd_Mo_load_24 (by decide) (by omega) ?_
      obtain ⟨pke, hpke, epke⟩ := hpk z10 (by omega)
      refine lv_aload_n hx hb xd_Mo_load_33 rfl (lv_at hl 2 rfl) ?_
      refine lv_iload hx hb xd_Mo_load_34 (lv_at hl 0 rfl) ?_
      refine lv_iload_n hx hb xd_Mo_load_36 rfl (lv_at hl 1 rfl) ?_
      have hFc := va_free (wc := (moW h mm kA (va_up (va_up (va_up v 0 0) 2 0) 3 (nI wn)) g5)) hD hS hA [0, 1, 2, 3, 4, 5, 6, 7, 8, 9, 10, 11, 12, 13, 14, 15, 16, 17, 18, 19, 20, 21, 22, 23, 24, 25] rfl
      refine va_calli (va_runV (As := [.int (nI z10), .int r1]) (rest := []) ⟨hx, hb, hml, hown, hT⟩ (xc_Mo_packageOf l D kA H.size h mm (va_up (va_up (va_up v 0 0) 2 0) 3 (nI wn)) g5 z10 r1 pke (by first | assumption | omega) (by first | assumption | omega) (by first | assumption | omega)) (cwV 2 hT (wT_V xy4_24 xy4_25 xy4_26 xy4_4 xy4_23) rfl rfl rfl (by decide +kernel) ⟨Nat.le_of_ble_eq_true rfl, Nat.le_of_ble_eq_true rfl⟩) (x_preV hK hP hD 0 rfl rfl) rfl rfl hl.1 rfl (lv_room (Nat.le_of_ble_eq_true rfl)) xd_Mo_load_37 ⟨Nat.le_of_ble_eq_true rfl, Nat.le_of_ble_eq_true rfl⟩) hS (fun q _ h => hFc q h) hFc (fun r32 u33 t H1 locs ht hvm hp34 hB hz1 hk1 hS => ?_)
      obtain ⟨hP1, hD1⟩ := hB
      rw [ht] at hP1
      have hD1 := hD1.weaken (fun _ _ _ h => hFc _ h)
      generalize H1 = H at hP1 hS ⊢
      have hP := hP1
      have hD := hD1
      have hP : va_P D xcl (moW h mm kA (va_up (va_up (va_up v 0 0) 2 0) 3 (nI wn)) g5) H := hP
      have hD : va_D A (moW h mm kA (va_up (va_up (va_up v 0 0) 2 0) 3 (nI wn)) g5) := hD
      rcases hp34 with ⟨z35, z36, z37, rfl, z38⟩ | ⟨rfl, z39⟩
      · refine xz_lt (a := z35) (tgt := 51) hx hb xd_Mo_load_40 (by decide) (by omega) ?_
        refine lv_bipush (v := 16) hx hb xd_Mo_load_43 (by decide) ?_
        refine lv_iload_n hx hb xd_Mo_load_45 rfl (lv_at hl 3 rfl) ?_
        refine lv_imul hx hb xd_Mo_load_46 ?_
        refine xn_top (y := nI (16 * z9)) (pk_mul 16 z9) ?_
        refine lv_iload hx hb xd_Mo_load_47 (lv_at hl 0 rfl) ?_
        refine lv_iadd hx hb xd_Mo_load_49 ?_
        refine xn_top (y := nI ((16 * z9) + z10)) (nI_add (16 * z9) z10) ?_
        exact W.iret (v := (nI ((16 * z9) + z10))) hx hb hr (fun t ht hW => ⟨⟨(nI ((16 * z9) + z10)), ((va_up (va_up (va_up v 0 0) 2 0) 3 (nI wn)), g5), rfl, ⟨MI_v rfl rfl hM1, rfl⟩, by rw [ht]; exact hP, hD⟩, hS.F ht⟩) hS.2.2 xd_Mo_load_50
      · refine lv_if_lt (tgt := 51) hx hb xd_Mo_load_40 (by decide) (fun _ => ?_) (fun hc41 => absurd hc41 (by decide))
        refine lv_aload_n hx hb xd_Mo_load_51 rfl (lv_at hl 2 rfl) ?_
        refine lv_iload_n hx hb xd_Mo_load_52 rfl (lv_at hl 3 rfl) ?_
        refine lv_iload hx hb xd_Mo_load_53 (lv_at hl 0 rfl) ?_
        have hFc := va_free (wc := (moW h mm kA (va_up (va_up (va_up v 0 0) 2 0) 3 (nI wn)) g5)) hD hS hA [0, 1, 2, 3, 4, 5, 6, 7, 8, 9, 10, 11, 12, 13, 14, 15, 16, 17, 18, 19, 20, 21, 22, 23, 24, 25] rfl
        refine va_callv (va_runV (As := [.int (nI z9), .int (nI z10)]) (rest := []) ⟨hx, hb, hml, hown, hT⟩ (xc_Mo_reading l D kA H.size h mm (va_up (va_up (va_up v 0 0) 2 0) 3 (nI wn)) g5 z9 z10 nl (MI_v rfl rfl hM1) (by first | assumption | omega) hpar (by first | assumption | omega) (by first | assumption | omega)) (cwV 2 hT (wT_V xy4_28 xy4_29 xy4_30 xy4_4 xy4_27) rfl rfl rfl (by decide +kernel) ⟨Nat.le_of_ble_eq_true rfl, Nat.le_of_ble_eq_true rfl⟩) (x_preV hK hP hD 0 rfl rfl) rfl rfl hl.1 rfl (lv_room (Nat.le_of_ble_eq_true rfl)) xd_Mo_load_55 ⟨Nat.le_of_ble_eq_true rfl, Nat.le_of_ble_eq_true rfl⟩) hS (fun q _ h => hFc q h) hFc (fun u43 t H1 locs ht hvm hp44 hB hz1 hk1 hS => ?_)
        obtain ⟨hP1, hD1⟩ := hB
        rw [ht] at hP1
        have hD1 := hD1.weaken (fun _ _ _ h => hFc _ h)
        obtain ⟨v45, g46⟩ := u43
        generalize H1 = H at hP1 hS ⊢
        have hP := hP1
        have hD := hD1
        have hP : va_P D xcl (moW h mm kA v45 g46) H := hP
        have hD : va_D A (moW h mm kA v45 g46) := hD
        obtain ⟨hu9, hfr9, hbz9, hsn9⟩ := hp44
        have hu9 : v45 = (va_up (va_up (va_up v 0 0) 2 0) 3 (nI wn)) := hu9
        subst hu9
        have hfr9 : ∀ j, j ≠ 24 → g46 j = g5 j := hfr9
        have hbz9 : bz (g46 24) := hbz9
        have hP : va_P D xcl (moW h mm kA (va_up (va_up (va_up v 0 0) 2 0) 3 (nI wn)) g46) H := hP
        have hD : va_D A (moW h mm kA (va_up (va_up (va_up v 0 0) 2 0) 3 (nI wn)) g46) := hD
        have hpk : ∀ d, d < 12 → ∃ k, k ≤ 6 ∧ g46 5 d = nI k := by rw [hfr9 5 (by decide)]; exact hpk
        refine lv_iconst (v := 0) hx hb xd_Mo_load_58 (by decide) ?_
        refine lv_istore hx hb xd_Mo_load_59 hl (Nat.le_of_ble_eq_true rfl) rfl (fun ls hl => ?_)
        have hl : lv_has ls 7 [(5, .int 0), (4, .int (nI z10)), (3, .int r1), (0, .ref h), (1, .int (nI z9)), (2, .int kx)] := hl
        refine xlab (σ := Nat) (ml := 7) 61 (fun (m5 : Nat) => [(5, .int (nI m5)), (0, .ref h), (3, .int r1), (4, .int (nI z10))]) (fun (m5 : Nat) => []) (fun (m5 : Nat) => moW h mm kA (va_up (va_up (va_up v 0 0) 2 0) 3 (nI wn)) g46) (fun (m5 : Nat) => (m5 ≤ 72)) (fun (m5 : Nat) => 72 - m5) ?_ 0 _ _ _ (lv_sub hl [0, 3, 2, 1] rfl) hP hD hS (show 0 ≤ 72 from by first | assumption | omega)
        intro n9 ih47 a9 ls H locs hμ hl hP hD hS hI
        subst hμ
        obtain ⟨m5, rfl⟩ : ∃ z, z = a9 := ⟨_, rfl⟩
        have hm5 : m5 ≤ 72 := hI
        have hl : lv_has ls 7 [(5, .int (nI m5)), (0, .ref h), (3, .int r1), (4, .int (nI z10))] := hl
        have hP : va_P D xcl (moW h mm kA (va_up (va_up (va_up v 0 0) 2 0) 3 (nI wn)) g46) H := hP
        have hD : va_D A (moW h mm kA (va_up (va_up (va_up v 0 0) 2 0) 3 (nI wn)) g46) := hD
        refine lv_iload hx hb xd_Mo_load_61 (lv_at hl 0 rfl) ?_
        refine lv_bipush (v := 72) hx hb xd_Mo_load_63 (by decide) ?_
        refine xn_ge (a := m5) (b := 72) (tgt := 136) hx hb xd_Mo_load_65 (by decide) (by omega) (by omega) (fun hc48 => ?_) (fun hc48 => ?_)
        · refine lv_aload_n hx hb xd_Mo_load_136 rfl (lv_at hl 1 rfl) ?_
          refine lv_iconst (v := 2) hx hb xd_Mo_load_137 (by decide) ?_
          have hFc := va_free (wc := (moW h mm kA (va_up (va_up (va_up v 0 0) 2 0) 3 (nI wn)) g46)) hD hS hA [0, 1, 2, 3, 4, 5, 6, 7, 8, 9, 10, 11, 12, 13, 14, 15, 16, 17, 18, 19, 20, 21, 22, 23, 24, 25] rfl
          refine va_calli (va_runV (As := [.int 2]) (rest := []) ⟨hx, hb, hml, hown, hT⟩ (xc_Mo_fails l D kA H.size h mm (va_up (va_up (va_up v 0 0) 2 0) 3 (nI wn)) g46 2) (cwV 1 hT (wT_V xy4_20 xy4_21 xy4_22 xy4_4 xy4_19) rfl rfl rfl (by decide +kernel) ⟨Nat.le_of_ble_eq_true rfl, Nat.le_of_ble_eq_true rfl⟩) (x_preV hK hP hD 0 rfl rfl) rfl rfl hl.1 rfl (lv_room (Nat.le_of_ble_eq_true rfl)) xd_Mo_load_138 ⟨Nat.le_of_ble_eq_true rfl, Nat.le_of_ble_eq_true rfl⟩) hS (fun q _ h => hFc q h) hFc (fun r49 u50 t H1 locs ht hvm hp51 hB hz1 hk1 hS => ?_)
          obtain ⟨hP1, hD1⟩ := hB
          rw [ht] at hP1
          have hD1 := hD1.weaken (fun _ _ _ h => hFc _ h)
          obtain ⟨v52, g53⟩ := u50
          generalize H1 = H at hP1 hS ⊢
          have hP := hP1
          have hD := hD1
          have hP : va_P D xcl (moW h mm kA v52 g53) H := hP
          have hD : va_D A (moW h mm kA v52 g53) := hD
          obtain ⟨hr9, hu9⟩ := hp51
          subst hr9
          obtain ⟨hu1, hu2⟩ := Prod.mk.inj hu9
          subst hu1
          have hu2 := hu2.symm
          subst hu2
          have hP : va_P D xcl (moW h mm kA (va_up (va_up (va_up v 0 2) 2 0) 3 (nI wn)) g46) H := hP
          have hD : va_D A (moW h mm kA (va_up (va_up (va_up v 0 2) 2 0) 3 (nI wn)) g46) := hD
          exact W.iret (v := 0) hx hb hr (fun t ht hW => ⟨⟨0, ((va_up (va_up (va_up v 0 2) 2 0) 3 (nI wn)), g46), rfl, ⟨MI_g (hfr9 0 (by decide)) (hfr9 3 (by decide)) (hfr9 4 (by decide)) (hfr9 5 (by decide)) (hfr9 12 (by decide)) (hfr9 19 (by decide)) (hfr9 20 (by decide)) (hfr9 21 (by decide)) (MI_v rfl rfl hM1), rfl⟩, by rw [ht]; exact hP, hD⟩, hS.F ht⟩) hS.2.2 xd_Mo_load_141
        · refine lv_aload_n hx hb xd_Mo_load_68 rfl (lv_at hl 1 rfl) ?_
          refine va_get (D := D) (ci := 4) (v := .ref (mm 24)) (C := xR_Mo) (T := xT_Mo) (N := 31) hx hb hT xi_Mo hown hK.1 hP 0 rfl rfl 30 (by decide) (hT _ xy4_31) (fun _ h9 => h9) rfl xd_Mo_load_69 ?_
          refine lv_iload hx hb xd_Mo_load_72 (lv_at hl 0 rfl) ?_
          refine xn_zald (i := m5) hx hb hK.1 hP 25 2 rfl rfl (by omega) (by decide) xd_Mo_load_74 ?_
          refine lv_if_eq (tgt := 91) hx hb xd_Mo_load_75 (by decide) (fun hc54 => ?_) (fun hc54 => ?_)
          · refine lv_iconst (v := (-1)) hx hb xd_Mo_load_91 (by decide) ?_
            refine lv_istore hx hb xd_Mo_load_92 hl (Nat.le_of_ble_eq_true rfl) rfl (fun ls hl => ?_)
            have hl : lv_has ls 7 [(6, .int (-1)), (5, .int (nI m5)), (0, .ref h), (3, .int r1), (4, .int (nI z10))] := hl
            refine lv_iload hx hb xd_Mo_load_94 (lv_at hl 0 rfl) ?_
            refine lv_if_lt (tgt := 130) hx hb xd_Mo_load_96 (by decide) (fun _ => ?_) (fun hc55 => absurd hc55 (by decide))
            refine lv_iinc (k := 1) (x := (nI m5)) (v := (nI (m5 + 1))) hx hb xd_Mo_load_130 hl rfl (xb_inc m5 1) (Nat.le_of_ble_eq_true rfl) rfl (fun ls hl => ?_)
            have hl : lv_has ls 7 [(5, .int (nI (m5 + 1))), (6, .int (-1)), (0, .ref h), (3, .int r1), (4, .int (nI z10))] := hl
            refine lv_goto (tgt := 61) hx hb xd_Mo_load_133 (by decide) ?_
            exact ih47 (m5 + 1) _ _ _ (show 72 - (m5 + 1) < 72 - m5 by omega) (lv_sub hl [0, 2, 3, 4] rfl) hP hD hS (show (m5 + 1) ≤ 72 from by first | assumption | omega)
          · obtain ⟨pkf, hpkf, epkf⟩ := hpk (m5 % 12) (by omega)
            refine lv_aload_n hx hb xd_Mo_load_78 rfl (lv_at hl 1 rfl) ?_
            refine lv_iload hx hb xd_Mo_load_79 (lv_at hl 0 rfl) ?_
            refine lv_bipush (v := 12) hx hb xd_Mo_load_81 (by decide) ?_
            refine lv_irem hx hb xd_Mo_load_83 (by decide) ?_
            refine xn_top (y := nI (m5 % 12)) (pk_rem (a := m5) (d := 12) (by omega) (by decide) (by decide)) ?_
            refine lv_iload_n hx hb xd_Mo_load_84 rfl (lv_at hl 2 rfl) ?_
            have hFc := va_free (wc := (moW h mm kA (va_up (va_up (va_up v 0 0) 2 0) 3 (nI wn)) g46)) hD hS hA [0, 1, 2, 3, 4, 5, 6, 7, 8, 9, 10, 11, 12, 13, 14, 15, 16, 17, 18, 19, 20, 21, 22, 23, 24, 25] rfl
            refine va_calli (va_runV (As := [.int (nI (m5 % 12)), .int r1]) (rest := []) ⟨hx, hb, hml, hown, hT⟩ (xc_Mo_packageOf l D kA H.size h mm (va_up (va_up (va_up v 0 0) 2 0) 3 (nI wn)) g46 (m5 % 12) r1 pkf (by first | assumption | omega) (by first | assumption | omega) (by first | assumption | omega)) (cwV 2 hT (wT_V xy4_24 xy4_25 xy4_26 xy4_4 xy4_23) rfl rfl rfl (by decide +kernel) ⟨Nat.le_of_ble_eq_true rfl, Nat.le_of_ble_eq_true rfl⟩) (x_preV hK hP hD 0 rfl rfl) rfl rfl hl.1 rfl (lv_room (Nat.le_of_ble_eq_true rfl)) xd_Mo_load_85 ⟨Nat.le_of_ble_eq_true rfl, Nat.le_of_ble_eq_true rfl⟩) hS (fun q _ h => hFc q h) hFc (fun r56 u57 t H1 locs ht hvm hp58 hB hz1 hk1 hS => ?_)
            obtain ⟨hP1, hD1⟩ := hB
            rw [ht] at hP1
            have hD1 := hD1.weaken (fun _ _ _ h => hFc _ h)
            generalize H1 = H at hP1 hS ⊢
            have hP := hP1
            have hD := hD1
            have hP : va_P D xcl (moW h mm kA (va_up (va_up (va_up v 0 0) 2 0) 3 (nI wn)) g46) H := hP
            have hD : va_D A (moW h mm kA (va_up (va_up (va_up v 0 0) 2 0) 3 (nI wn)) g46) := hD
            rcases hp58 with ⟨z59, z60, z61, rfl, z62⟩ | ⟨rfl, z63⟩
            · refine lv_goto (tgt := 92) hx hb xd_Mo_load_88 (by decide) ?_
              refine lv_istore hx hb xd_Mo_load_92 hl (Nat.le_of_ble_eq_true rfl) rfl (fun ls hl => ?_)
              have hl : lv_has ls 7 [(6, .int (nI z59)), (5, .int (nI m5)), (0, .ref h), (3, .int r1), (4, .int (nI z10))] := hl
              refine lv_iload hx hb xd_Mo_load_94 (lv_at hl 0 rfl) ?_
              refine xz_lt (a := z59) (tgt := 130) hx hb xd_Mo_load_96 (by decide) (by omega) ?_
              refine lv_aload_n hx hb xd_Mo_load_99 rfl (lv_at hl 2 rfl) ?_
              refine lv_iload hx hb xd_Mo_load_100 (lv_at hl 0 rfl) ?_
              refine lv_aload_n hx hb xd_Mo_load_102 rfl (lv_at hl 2 rfl) ?_
              refine va_get (D := D) (ci := 4) (v := .ref (mm 4)) (C := xR_Mo) (T := xT_Mo) (N := 31) hx hb hT xi_Mo hown hK.1 hP 0 rfl rfl 9 (by decide) (hT _ xy4_32) (fun _ h9 => h9) rfl xd_Mo_load_103 ?_
              refine lv_iload hx hb xd_Mo_load_106 (lv_at hl 4 rfl) ?_
              refine xn_iald (i := z10) hx hb hK.1 hP 5 0 rfl rfl (by omega) (by decide) xd_Mo_load_108 ?_
              have hFc := va_free (wc := (moW h mm kA (va_up (va_up (va_up v 0 0) 2 0) 3 (nI wn)) g46)) hD hS hA [0, 1, 2, 3, 4, 5, 6, 7, 8, 9, 10, 11, 12, 13, 14, 15, 16, 17, 18, 19, 20, 21, 22, 23, 24, 25] rfl
              refine va_calli (va_runV (As := [.int (nI z59), .int (g46 4 z10)]) (rest := []) ⟨hx, hb, hml, hown, hT⟩ (xc_Mo_exports l D kA H.size h mm (va_up (va_up (va_up v 0 0) 2 0) 3 (nI wn)) g46 z59 (g46 4 z10) (by first | assumption | omega)) (cwV 2 hT (wT_V xy4_34 xy4_35 xy4_36 xy4_4 xy4_33) rfl rfl rfl (by decide +kernel) ⟨Nat.le_of_ble_eq_true rfl, Nat.le_of_ble_eq_true rfl⟩) (x_preV hK hP hD 0 rfl rfl) rfl rfl hl.1 rfl (lv_room (Nat.le_of_ble_eq_true rfl)) xd_Mo_load_109 ⟨Nat.le_of_ble_eq_true rfl, Nat.le_of_ble_eq_true rfl⟩) hS (fun q _ h => hFc q h) hFc (fun r65 u66 t H1 locs ht hvm hp67 hB hz1 hk1 hS => ?_)
              obtain ⟨hP1, hD1⟩ := hB
              rw [ht] at hP1
              have hD1 := hD1.weaken (fun _ _ _ h => hFc _ h)
              generalize H1 = H at hP1 hS ⊢
              have hP := hP1
              have hD := hD1
              have hP : va_P D xcl (moW h mm kA (va_up (va_up (va_up v 0 0) 2 0) 3 (nI wn)) g46) H := hP
              have hD : va_D A (moW h mm kA (va_up (va_up (va_up v 0 0) 2 0) 3 (nI wn)) g46) := hD
              rcases hp67 with rfl | rfl
              · refine xz_eq (a := 0) (tgt := 130) hx hb xd_Mo_load_112 (by decide) (by omega) (fun _ => ?_) (fun hc68 => absurd hc68 (by omega))
                refine lv_iinc (k := 1) (x := (nI m5)) (v := (nI (m5 + 1))) hx hb xd_Mo_load_130 hl rfl (xb_inc m5 1) (Nat.le_of_ble_eq_true rfl) rfl (fun ls hl => ?_)
                have hl : lv_has ls 7 [(5, .int (nI (m5 + 1))), (6, .int (nI z59)), (0, .ref h), (3, .int r1), (4, .int (nI z10))] := hl
                refine lv_goto (tgt := 61) hx hb xd_Mo_load_133 (by decide) ?_
                exact ih47 (m5 + 1) _ _ _ (show 72 - (m5 + 1) < 72 - m5 by omega) (lv_sub hl [0, 2, 3, 4] rfl) hP hD hS (show (m5 + 1) ≤ 72 from by first | assumption | omega)
              · refine xz_eq (a := 1) (tgt := 130) hx hb xd_Mo_load_112 (by decide) (by omega) (fun hc69 => absurd hc69 (by omega)) (fun _ => ?_)
                refine lv_bipush (v := 16) hx hb xd_Mo_load_115 (by decide) ?_
                refine lv_iload hx hb xd_Mo_load_117 (lv_at hl 1 rfl) ?_
                refine lv_bipush (v := 12) hx hb xd_Mo_load_119 (by decide) ?_
                refine lv_idiv hx hb xd_Mo_load_121 (by decide) ?_
                refine xn_top (y := nI (m5 / 12)) (pk_div (a := m5) (d := 12) (by omega) (by decide) (by decide)) ?_
                refine lv_imul hx hb xd_Mo_load_122 ?_
                refine xn_top (y := nI (16 * (m5 / 12))) (pk_mul 16 (m5 / 12)) ?_
                refine lv_iload hx hb xd_Mo_load_123 (lv_at hl 1 rfl) ?_
                refine lv_bipush (v := 12) hx hb xd_Mo_load_125 (by decide) ?_
                refine lv_irem hx hb xd_Mo_load_127 (by decide) ?_
                refine xn_top (y := nI (m5 % 12)) (pk_rem (a := m5) (d := 12) (by omega) (by decide) (by decide)) ?_
                refine lv_iadd hx hb xd_Mo_load_128 ?_
                refine xn_top (y := nI ((16 * (m5 / 12)) + (m5 % 12))) (nI_add (16 * (m5 / 12)) (m5 % 12)) ?_
                exact W.iret (v := (nI ((16 * (m5 / 12)) + (m5 % 12)))) hx hb hr (fun t ht hW => ⟨⟨(nI ((16 * (m5 / 12)) + (m5 % 12))), ((va_up (va_up (va_up v 0 0) 2 0) 3 (nI wn)), g46), rfl, ⟨MI_g (hfr9 0 (by decide)) (hfr9 3 (by decide)) (hfr9 4 (by decide)) (hfr9 5 (by decide)) (hfr9 12 (by decide)) (hfr9 19 (by decide)) (hfr9 20 (by decide)) (hfr9 21 (by decide)) (MI_v rfl rfl hM1), rfl⟩, by rw [ht]; exact hP, hD⟩, hS.F ht⟩) hS.2.2 xd_Mo_load_129
            · refine lv_goto (tgt := 92) hx hb xd_Mo_load_88 (by decide) ?_
              refine lv_istore hx hb xd_Mo_load_92 hl (Nat.le_of_ble_eq_true rfl) rfl (fun ls hl => ?_)
              have hl : lv_has ls 7 [(6, .int (-1)), (5, .int (nI m5)), (0, .ref h), (3, .int r1), (4, .int (nI z10))] := hl
              refine lv_iload hx hb xd_Mo_load_94 (lv_at hl 0 rfl) ?_
              refine lv_if_lt (tgt := 130) hx hb xd_Mo_load_96 (by decide) (fun _ => ?_) (fun hc70 => absurd hc70 (by decide))
              refine lv_iinc (k := 1) (x := (nI m5)) (v := (nI (m5 + 1))) hx hb xd_Mo_load_130 hl rfl (xb_inc m5 1) (Nat.le_of_ble_eq_true rfl) rfl (fun ls hl => ?_)
              have hl : lv_has ls 7 [(5, .int (nI (m5 + 1))), (6, .int (-1)), (0, .ref h), (3, .int r1), (4, .int (nI z10))] := hl
              refine lv_goto (tgt := 61) hx hb xd_Mo_load_133 (by decide) ?_
              exact ih47 (m5 + 1) _ _ _ (show 72 - (m5 + 1) < 72 - m5 by omega) (lv_sub hl [0, 2, 3, 4] rfl) hP hD hS (show (m5 + 1) ≤ 72 from by first | assumption | omega)
set_option maxHeartbeats 4000000 in
set_option maxRecDepth 100000 in
theorem xc_Mo_peek (l : Launch) (D : va_G) (kA : Nat → ClassId) (sz h : Nat) (mm : Nat → Nat) (v : Nat → Int32) (g : Nat → Nat → Int32) (ly : Int32) (kx : Int32) (ly2 : Int32) (dx : Int32) (wr : Nat) (hMI : MI v g) (hwr : v 2 = nI wr) (hwr40 : wr ≤ 40) : Met l xy_Mo_peek (.code xy_Mo_peek xb_Mo_peek 8 (some .boolean) :: wT) { frames := 2, cells := 0, slots := 0, locals := 50 } (va_Pc [.ref h, .int ly, .int kx, .int ly2, .int dx] (xPre D kA sz (moW h mm kA v g))) (va_Qi (fun (r : Int32) (u : (Nat → Int32) × (Nat → Nat → Int32)) => MI u.1 u.2 ∧ u.1 2 = 0) (fun (u : (Nat → Int32) × (Nat → Nat → Int32)) t => va_P D xcl (moW h mm kA u.1 u.2) t.heap ∧ va_D (va_A (moW h mm kA v g) sz) (moW h mm kA u.1 u.2)) (va_A (moW h mm kA v g) sz)) 0 0 (va_A (moW h mm kA v g) sz) := by
  refine Met.ofW (cc := xb_Mo_peek) (maxL := 8) (ret := (some .boolean)) (by decide) rfl ?_
  intro p e s m args below meth c s₁ B hml hv
  obtain ⟨rfl, hsz, hP, hK, hD0⟩ := hv
  have hx := B.exec
  have hb := B.bytes
  have hr := B.returns
  have hT := x_hT B.pre
  have hown : s.vm.findClass xR_Mo = some m.cls := findClass_of_methodNamed B.named
  have hlocks := B.notSynchronized
  subst hsz
  have hD := hD0.self (sz := s.heap.size)
  generalize hAe : va_A (moW h mm kA v g) s.heap.size = A at hD ⊢
  have hA : ∀ q : Nat, s.heap.size ≤ q → A q := fun q h => by rw [← hAe]; exact Or.inr h
  have hS : va_S A s.heap s.heap [] := va_S.rf
  have hl := lv_entry ([.ref h, .int ly, .int kx, .int ly2, .int dx]) (n := 8) (Nat.le_of_ble_eq_true rfl)
  rw [lg_entry_eq]
  generalize (lg_sl ([.ref h, .int ly, .int kx, .int ly2, .int dx]) ++ List.replicate (8 - (lg_sl ([.ref h, .int ly, .int kx, .int ly2, .int dx])).length) Slot.unset).toArray = ls at hl ⊢
  have hl : lv_has ls 8 [(0, .ref h), (1, .int ly), (2, .int kx), (3, .int ly2), (4, .int dx)] := hl
  have hP : va_P D xcl (moW h mm kA v g) s.heap := hP
  refine lv_aload_n hx hb xd_Mo_peek_0 rfl (lv_at hl 0 rfl) ?_
  refine lv_iconst (v := 0) hx hb xd_Mo_peek_1 (by decide) ?_
  refine va_put (D := D) (ci := 4) (v := .int 0) (ty := .int) (C := xR_Mo) (T := xT_Mo) (N := 31) hx hb hT xi_Mo xt_Mo xt_Mo_ok xn_Mo hown hK.1 hP hD hS 0 rfl rfl 0 (by decide) (hT _ xy4_10) (fun _ h9 => h9) rfl (by decide +kernel) rfl rfl (Nat.le_of_ble_eq_true rfl) xd_Mo_peek_2 (fun H locs hP hD hS => ?_)
  have hP : va_P D xcl (moW h mm kA (va_up v 0 0) g) H := hP
  have hD : va_D A (moW h mm kA (va_up v 0 0) g) := hD
  refine lv_aload_n hx hb xd_Mo_peek_5 rfl (lv_at hl 0 rfl) ?_
  have hFc := va_free (wc := (moW h mm kA (va_up v 0 0) g)) hD hS hA [0, 1, 2, 3, 4, 5, 6, 7, 8, 9, 10, 11, 12, 13, 14, 15, 16, 17, 18, 19, 20, 21, 22, 23, 24, 25] rfl
  refine va_calli (va_runV (As := []) (rest := []) ⟨hx, hb, hml, hown, hT⟩ (xc_Mo_oneName l D kA H.size h mm (va_up v 0 0) g wr (by first | assumption | omega) (by first | assumption | omega)) (cwV 0 hT (wT_V xy4_12 xy4_13 xy4_14 xy4_4 xy4_11) rfl rfl rfl (by decide +kernel) ⟨Nat.le_of_ble_eq_true rfl, Nat.le_of_ble_eq_true rfl⟩) (x_preV hK hP hD 0 rfl rfl) rfl rfl hl.1 rfl (lv_room (Nat.le_of_ble_eq_true rfl)) xd_Mo_peek_6 ⟨Nat.le_of_ble_eq_true rfl, Nat.le_of_ble_eq_true rfl⟩) hS (fun q _ h => hFc q h) hFc (fun r1 u2 t H1 locs ht hvm hp3 hB hz1 hk1 hS => ?_)
  obtain ⟨hP1, hD1⟩ := hB
  rw [ht] at hP1
  have hD1 := hD1.weaken (fun _ _ _ h => hFc _ h)
  obtain ⟨v4, g5⟩ := u2
  generalize H1 = H at hP1 hS ⊢
  have hP := hP1
  have hD := hD1
  have hP : va_P D xcl (moW h mm kA v4 g5) H := hP
  have hD : va_D A (moW h mm kA v4 g5) := hD
  obtain ⟨wn, hv9, hgk⟩ := hp3
  have hv9 : v4 = (va_up (va_up (va_up v 0 0) 2 0) 3 (nI wn)) := hv9
  subst hv9
  have hgk : ∀ j, j ≠ 1 → j ≠ 2 → g5 j = g j := hgk
  have hM1 : MI (va_up (va_up (va_up v 0 0) 2 0) 3 (nI wn)) g5 := MI_g (hgk 0 (by decide) (by decide)) (hgk 3 (by decide) (by decide)) (hgk 4 (by decide) (by decide)) (hgk 5 (by decide) (by decide)) (hgk 12 (by decide) (by decide)) (hgk 19 (by decide) (by decide)) (hgk 20 (by decide) (by decide)) (hgk 21 (by decide) (by decide)) (MI_v rfl rfl hMI)
  obtain ⟨⟨nd, hnd12, hnd⟩, ⟨nl, hnl5, hnl, hpar⟩, hch, hpk, hrq, hmd, huq⟩ := id hM1
  have hP : va_P D xcl (moW h mm kA (va_up (va_up (va_up v 0 0) 2 0) 3 (nI wn)) g5) H := hP
  have hD : va_D A (moW h mm kA (va_up (va_up (va_up v 0 0) 2 0) 3 (nI wn)) g5) := hD
  refine lv_istore hx hb xd_Mo_peek_9 hl (Nat.le_of_ble_eq_true rfl) rfl (fun ls hl => ?_)
  have hl : lv_has ls 8 [(5, .int r1), (0, .ref h), (1, .int ly), (2, .int kx), (3, .int ly2), (4, .int dx)] := hl
  refine lv_aload_n hx hb xd_Mo_peek_11 rfl (lv_at hl 1 rfl) ?_
  refine lv_iload_n hx hb xd_Mo_peek_12 rfl (lv_at hl 2 rfl) ?_
  refine lv_iload_n hx hb xd_Mo_peek_13 rfl (lv_at hl 3 rfl) ?_
  have hFc := va_free (wc := (moW h mm kA (va_up (va_up (va_up v 0 0) 2 0) 3 (nI wn)) g5)) hD hS hA [0, 1, 2, 3, 4, 5, 6, 7, 8, 9, 10, 11, 12, 13, 14, 15, 16, 17, 18, 19, 20, 21, 22, 23, 24, 25] rfl
  refine va_calli (va_runV (As := [.int ly, .int kx]) (rest := []) ⟨hx, hb, hml, hown, hT⟩ (xc_Mo_moduleOf l D kA H.size h mm (va_up (va_up (va_up v 0 0) 2 0) 3 (nI wn)) g5 ly kx nl (by first | assumption | omega) (by first | assumption | omega) (by first | assumption | omega)) (cwV 2 hT (wT_V xy4_16 xy4_17 xy4_18 xy4_4 xy4_15) rfl rfl rfl (by decide +kernel) ⟨Nat.le_of_ble_eq_true rfl, Nat.le_of_ble_eq_true rfl⟩) (x_preV hK hP hD 0 rfl rfl) rfl rfl hl.1 rfl (lv_room (Nat.le_of_ble_eq_true rfl)) xd_Mo_peek_14 ⟨Nat.le_of_ble_eq_true rfl, Nat.le_of_ble_eq_true rfl⟩) hS (fun q _ h => hFc q h) hFc (fun r6 u7 t H1 locs ht hvm hp8 hB hz1 hk1 hS => ?_)
  obtain ⟨hP1, hD1⟩ := hB
  rw [ht] at hP1
  have hD1 := hD1.weaken (fun _ _ _ h => hFc _ h)
  generalize H1 = H at hP1 hS ⊢
  have hP := hP1
  have hD := hD1
  have hP : va_P D xcl (moW h mm kA (va_up (va_up (va_up v 0 0) 2 0) 3 (nI wn)) g5) H := hP
  have hD : va_D A (moW h mm kA (va_up (va_up (va_up v 0 0) 2 0) 3 (nI wn)) g5) := hD
  rcases hp8 with rfl | ⟨z9, z10, z11, rfl, z12, rfl⟩
  · refine lv_istore hx hb xd_Mo_peek_17 hl (Nat.le_of_ble_eq_true rfl) rfl (fun ls hl => ?_)
    have hl : lv_has ls 8 [(6, .int (-1)), (5, .int r1), (0, .ref h), (1, .int ly), (2, .int kx), (3, .int ly2), (4, .int dx)] := hl
    refine lv_iload hx hb xd_Mo_peek_19 (lv_at hl 1 rfl) ?_
    refine lv_if_eq (tgt := 39) hx hb xd_Mo_peek_21 (by decide) (fun hc13 => ?_) (fun hc13 => ?_)
    · refine lv_aload_n hx hb xd_Mo_peek_39 rfl (lv_at hl 2 rfl) ?_
      refine lv_iconst (v := 1) hx hb xd_Mo_peek_40 (by decide) ?_
      refine va_put (D := D) (ci := 4) (v := .int 1) (ty := .int) (C := xR_Mo) (T := xT_Mo) (N := 31) hx hb hT xi_Mo xt_Mo xt_Mo_ok xn_Mo hown hK.1 hP hD hS 0 rfl rfl 0 (by decide) (hT _ xy4_10) (fun _ h9 => h9) rfl (by decide +kernel) rfl rfl (Nat.le_of_ble_eq_true rfl) xd_Mo_peek_41 (fun H locs hP hD hS => ?_)
      have hP : va_P D xcl (moW h mm kA (va_up (va_up (va_up v 0 1) 2 0) 3 (nI wn)) g5) H := hP
      have hD : va_D A (moW h mm kA (va_up (va_up (va_up v 0 1) 2 0) 3 (nI wn)) g5) := hD
      refine lv_iconst (v := 0) hx hb xd_Mo_peek_44 (by decide) ?_
      exact W.zret (v := 0) hx hb hr rfl (fun t ht hW => ⟨⟨0, ((va_up (va_up (va_up v 0 1) 2 0) 3 (nI wn)), g5), rfl, ⟨MI_v rfl rfl hM1, rfl⟩, by rw [ht]; exact hP, hD⟩, hS.F ht⟩) hS.2.2 xd_Mo_peek_45
    · refine lv_iload hx hb xd_Mo_peek_24 (lv_at hl 0 rfl) ?_
      refine lv_if_lt (tgt := 39) hx hb xd_Mo_peek_26 (by decide) (fun _ => ?_) (fun hc14 => absurd hc14 (by decide))
      refine lv_aload_n hx hb xd_Mo_peek_39 rfl (lv_at hl 2 rfl) ?_
      refine lv_iconst (v := 1) hx hb xd_Mo_peek_40 (by decide) ?_
      refine va_put (D := D) (ci := 4) (v := .int 1) (ty := .int) (C := xR_Mo) (T := xT_Mo) (N := 31) hx hb hT xi_Mo xt_Mo xt_Mo_ok xn_Mo hown hK.1 hP hD hS 0 rfl rfl 0 (by decide) (hT _ xy4_10) (fun _ h9 => h9) rfl (by decide +kernel) rfl rfl (Nat.le_of_ble_eq_true rfl) xd_Mo_peek_41 (fun H locs hP hD hS => ?_)
      have hP : va_P D xcl (moW h mm kA (va_up (va_up (va_up v 0 1) 2 0) 3 (nI wn)) g5) H := hP
      have hD : va_D A (moW h mm kA (va_up (va_up (va_up v 0 1) 2 0) 3 (nI wn)) g5) := hD
      refine lv_iconst (v := 0) hx hb xd_Mo_peek_44 (by decide) ?_
      exact W.zret (v := 0) hx hb hr rfl (fun t ht hW => ⟨⟨0, ((va_up (va_up (va_up v 0 1) 2 0) 3 (nI wn)), g5), rfl, ⟨MI_v rfl rfl hM1, rfl⟩, by rw [ht]; exact hP, hD⟩, hS.F ht⟩) hS.2.2 xd_Mo_peek_45
  · have hl : lv_has ls 8 [(5, .int r1), (0, .ref h), (1, .int (nI z9)), (2, .int kx), (3, .int ly2), (4, .int dx)] := hl
    refine lv_istore hx hb xd_Mo_peek_17 hl (Nat.le_of_ble_eq_true rfl) rfl (fun ls hl => ?_)
    have hl : lv_has ls 8 [(6, .int (nI z10)), (5, .int r1), (0, .ref h), (1, .int (nI z9)), (2, .int kx), (3, .int ly2), (4, .int dx)] := hl
    refine lv_iload hx hb xd_Mo_peek_19 (lv_at hl 1 rfl) ?_
    refine lv_if_eq (tgt := 39) hx hb xd_Mo_peek_21 (by decide) (fun hc15 => ?_) (fun hc15 => ?_)
    · refine lv_aload_n hx hb xd_Mo_peek_39 rfl (lv_at hl 2 rfl) ?_
      refine lv_iconst (v := 1) hx hb xd_Mo_peek_40 (by decide) ?_
      refine va_put (D := D) (ci := 4) (v := .int 1) (ty := .int) (C := xR_Mo) (T := xT_Mo) (N := 31) hx hb hT xi_Mo xt_Mo xt_Mo_ok xn_Mo hown hK.1 hP hD hS 0 rfl rfl 0 (by decide) (hT _ xy4_10) (fun _ h9 => h9) rfl (by decide +kernel) rfl rfl (Nat.le_of_ble_eq_true rfl) xd_Mo_peek_41 (fun H locs hP hD hS => ?_)
      have hP : va_P D xcl (moW h mm kA (va_up (va_up (va_up v 0 1) 2 0) 3 (nI wn)) g5) H := hP
      have hD : va_D A (moW h mm kA (va_up (va_up (va_up v 0 1) 2 0) 3 (nI wn)) g5) := hD
      refine lv_iconst (v := 0) hx hb xd_Mo_peek_44 (by decide) ?_
      exact W.zret (v := 0) hx hb hr rfl (fun t ht hW => ⟨⟨0, ((va_up (va_up (va_up v 0 1) 2 0) 3 (nI wn)), g5), rfl, ⟨MI_v rfl rfl hM1, rfl⟩, by rw [ht]; exact hP, hD⟩, hS.F ht⟩) hS.2.2 xd_Mo_peek_45
    · refine lv_iload hx hb xd_Mo_peek_24 (lv_at hl 0 rfl) ?_
      refine xz_lt (a := z10) (tgt := 39) hx hb xd_Mo_peek_26 (by decide) (by omega) ?_
      refine lv_aload_n hx hb xd_Mo_peek_29 rfl (lv_at hl 2 rfl) ?_
      refine lv_iload_n hx hb xd_Mo_peek_30 rfl (lv_at hl 5 rfl) ?_
      refine lv_iload hx hb xd_Mo_peek_31 (lv_at hl 6 rfl) ?_
      have hFc := va_free (wc := (moW h mm kA (va_up (va_up (va_up v 0 0) 2 0) 3 (nI wn)) g5)) hD hS hA [0, 1, 2, 3, 4, 5, 6, 7, 8, 9, 10, 11, 12, 13, 14, 15, 16, 17, 18, 19, 20, 21, 22, 23, 24, 25] rfl
      refine va_calli (va_runV (As := [.int ly2, .int dx]) (rest := []) ⟨hx, hb, hml, hown, hT⟩ (xc_Mo_isThere l D kA H.size h mm (va_up (va_up (va_up v 0 0) 2 0) 3 (nI wn)) g5 ly2 dx nl nd (by first | assumption | omega) (by first | assumption | omega) (by first | assumption | omega) (by first | assumption | omega) (by first | assumption | omega)) (cwV 2 hT (wT_V xy4_38 xy4_39 xy4_40 xy4_4 xy4_37) rfl rfl rfl (by decide +kernel) ⟨Nat.le_of_ble_eq_true rfl, Nat.le_of_ble_eq_true rfl⟩) (x_preV hK hP hD 0 rfl rfl) rfl rfl hl.1 rfl (lv_room (Nat.le_of_ble_eq_true rfl)) xd_Mo_peek_33 ⟨Nat.le_of_ble_eq_true rfl, Nat.le_of_ble_eq_true rfl⟩) hS (fun q _ h => hFc q h) hFc (fun r17 u18 t H1 locs ht hvm hp19 hB hz1 hk1 hS => ?_)
      obtain ⟨hP1, hD1⟩ := hB
      rw [ht] at hP1
      have hD1 := hD1.weaken (fun _ _ _ h => hFc _ h)
      generalize H1 = H at hP1 hS ⊢
      have hP := hP1
      have hD := hD1
      have hP : va_P D xcl (moW h mm kA (va_up (va_up (va_up v 0 0) 2 0) 3 (nI wn)) g5) H := hP
      have hD : va_D A (moW h mm kA (va_up (va_up (va_up v 0 0) 2 0) 3 (nI wn)) g5) := hD
      rcases hp19 with rfl | ⟨rfl, z20, z21, z22, rfl, z23, rfl⟩
      · refine xz_ne (a := 0) (tgt := 46) hx hb xd_Mo_peek_36 (by decide) (by omega) (fun hc24 => absurd hc24 (by omega)) (fun _ => ?_)
        refine lv_aload_n hx hb xd_Mo_peek_39 rfl (lv_at hl 2 rfl) ?_
        refine lv_iconst (v := 1) hx hb xd_Mo_peek_40 (by decide) ?_
        refine va_put (D := D) (ci := 4) (v := .int 1) (ty := .int) (C := xR_Mo) (T := xT_Mo) (N := 31) hx hb hT xi_Mo xt_Mo xt_Mo_ok xn_Mo hown hK.1 hP hD hS 0 rfl rfl 0 (by decide) (hT _ xy4_10) (fun _ h9 => h9) rfl (by decide +kernel) rfl rfl (Nat.le_of_ble_eq_true rfl) xd_Mo_peek_41 (fun H locs hP hD hS => ?_)
        have hP : va_P D xcl (moW h mm kA (va_up (va_up (va_up v 0 1) 2 0) 3 (nI wn)) g5) H := hP
        have hD : va_D A (moW h mm kA (va_up (va_up (va_up v 0 1) 2 0) 3 (nI wn)) g5) := hD
        refine lv_iconst (v := 0) hx hb xd_Mo_peek_44 (by decide) ?_
        exact W.zret (v := 0) hx hb hr rfl (fun t ht hW => ⟨⟨0, ((va_up (va_up (va_up v 0 1) 2 0) 3 (nI wn)), g5), rfl, ⟨MI_v rfl rfl hM1, rfl⟩, by rw [ht]; exact hP, hD⟩, hS.F ht⟩) hS.2.2 xd_Mo_peek_45
      · have hl : lv_has ls 8 [(6, .int (nI z10)), (5, .int r1), (0, .ref h), (1, .int (nI z9)), (2, .int kx), (3, .int (nI z20)), (4, .int (nI z21))] := hl
        refine xz_ne (a := 1) (tgt := 46) hx hb xd_Mo_peek_36 (by decide) (by omega) (fun _ => ?_) (fun hc25 => absurd hc25 (by omega))
        obtain ⟨pke, hpke, epke⟩ := hpk z21 (by omega)
        refine lv_aload_n hx hb xd_Mo_peek_46 rfl (lv_at hl 2 rfl) ?_
        refine lv_iload hx hb xd_Mo_peek_47 (lv_at hl 6 rfl) ?_
        refine lv_iload hx hb xd_Mo_peek_49 (lv_at hl 1 rfl) ?_
        have hFc := va_free (wc := (moW h mm kA (va_up (va_up (va_up v 0 0) 2 0) 3 (nI wn)) g5)) hD hS hA [0, 1, 2, 3, 4, 5, 6, 7, 8, 9, 10, 11, 12, 13, 14, 15, 16, 17, 18, 19, 20, 21, 22, 23, 24, 25] rfl
        refine va_calli (va_runV (As := [.int (nI z21), .int r1]) (rest := []) ⟨hx, hb, hml, hown, hT⟩ (xc_Mo_packageOf l D kA H.size h mm (va_up (va_up (va_up v 0 0) 2 0) 3 (nI wn)) g5 z21 r1 pke (by first | assumption | omega) (by first | assumption | omega) (by first | assumption | omega)) (cwV 2 hT (wT_V xy4_24 xy4_25 xy4_26 xy4_4 xy4_23) rfl rfl rfl (by decide +kernel) ⟨Nat.le_of_ble_eq_true rfl, Nat.le_of_ble_eq_true rfl⟩) (x_preV hK hP hD 0 rfl rfl) rfl rfl hl.1 rfl (lv_room (Nat.le_of_ble_eq_true rfl)) xd_Mo_peek_51 ⟨Nat.le_of_ble_eq_true rfl, Nat.le_of_ble_eq_true rfl⟩) hS (fun q _ h => hFc q h) hFc (fun r26 u27 t H1 locs ht hvm hp28 hB hz1 hk1 hS => ?_)
        obtain ⟨hP1, hD1⟩ := hB
        rw [ht] at hP1
        have hD1 := hD1.weaken (fun _ _ _ h => hFc _ h)
        generalize H1 = H at hP1 hS ⊢
        have hP := hP1
        have hD := hD1
        have hP : va_P D xcl (moW h mm kA (va_up (va_up (va_up v 0 0) 2 0) 3 (nI wn)) g5) H := hP
        have hD : va_D A (moW h mm kA (va_up (va_up (va_up v 0 0) 2 0) 3 (nI wn)) g5) := hD
        rcases hp28 with ⟨z29, z30, z31, rfl, z32⟩ | ⟨rfl, z33⟩
        · refine lv_istore hx hb xd_Mo_peek_54 hl (Nat.le_of_ble_eq_true rfl) rfl (fun ls hl => ?_)
          have hl : lv_has ls 8 [(7, .int (nI z29)), (6, .int (nI z10)), (5, .int r1), (0, .ref h), (1, .int (nI z9)), (2, .int kx), (3, .int (nI z20)), (4, .int (nI z21))] := hl
          refine lv_aload_n hx hb xd_Mo_peek_56 rfl (lv_at hl 3 rfl) ?_
          refine lv_iload hx hb xd_Mo_peek_57 (lv_at hl 0 rfl) ?_
          refine xz_ge (a := z29) (tgt := 66) hx hb xd_Mo_peek_59 (by decide) (by omega) ?_
          refine lv_iconst (v := 0) hx hb xd_Mo_peek_66 (by decide) ?_
          refine va_put (D := D) (ci := 4) (v := .int 0) (ty := .int) (C := xR_Mo) (T := xT_Mo) (N := 31) hx hb hT xi_Mo xt_Mo xt_Mo_ok xn_Mo hown hK.1 hP hD hS 0 rfl rfl 0 (by decide) (hT _ xy4_10) (fun _ h9 => h9) rfl (by decide +kernel) rfl rfl (Nat.le_of_ble_eq_true rfl) xd_Mo_peek_67 (fun H locs hP hD hS => ?_)
          have hP : va_P D xcl (moW h mm kA (va_up (va_up (va_up v 0 0) 2 0) 3 (nI wn)) g5) H := hP
          have hD : va_D A (moW h mm kA (va_up (va_up (va_up v 0 0) 2 0) 3 (nI wn)) g5) := hD
          refine lv_iload hx hb xd_Mo_peek_70 (lv_at hl 0 rfl) ?_
          refine xz_ge (a := z29) (tgt := 77) hx hb xd_Mo_peek_72 (by decide) (by omega) ?_
          refine lv_iload_n hx hb xd_Mo_peek_77 rfl (lv_at hl 4 rfl) ?_
          refine lv_iload_n hx hb xd_Mo_peek_78 rfl (lv_at hl 6 rfl) ?_
          refine xn_ne (a := z9) (b := z20) (tgt := 91) hx hb xd_Mo_peek_79 (by decide) (by omega) (by omega) (fun hc36 => ?_) (fun hc36 => ?_)
          · refine lv_aload_n hx hb xd_Mo_peek_91 rfl (lv_at hl 3 rfl) ?_
            refine lv_iload_n hx hb xd_Mo_peek_92 rfl (lv_at hl 4 rfl) ?_
            refine lv_iload hx hb xd_Mo_peek_93 (lv_at hl 1 rfl) ?_
            have hFc := va_free (wc := (moW h mm kA (va_up (va_up (va_up v 0 0) 2 0) 3 (nI wn)) g5)) hD hS hA [0, 1, 2, 3, 4, 5, 6, 7, 8, 9, 10, 11, 12, 13, 14, 15, 16, 17, 18, 19, 20, 21, 22, 23, 24, 25] rfl
            refine va_callv (va_runV (As := [.int (nI z9), .int (nI z10)]) (rest := []) ⟨hx, hb, hml, hown, hT⟩ (xc_Mo_reading l D kA H.size h mm (va_up (va_up (va_up v 0 0) 2 0) 3 (nI wn)) g5 z9 z10 nl (MI_v rfl rfl hM1) (by first | assumption | omega) hpar (by first | assumption | omega) (by first | assumption | omega)) (cwV 2 hT (wT_V xy4_28 xy4_29 xy4_30 xy4_4 xy4_27) rfl rfl rfl (by decide +kernel) ⟨Nat.le_of_ble_eq_true rfl, Nat.le_of_ble_eq_true rfl⟩) (x_preV hK hP hD 0 rfl rfl) rfl rfl hl.1 rfl (lv_room (Nat.le_of_ble_eq_true rfl)) xd_Mo_peek_95 ⟨Nat.le_of_ble_eq_true rfl, Nat.le_of_ble_eq_true rfl⟩) hS (fun q _ h => hFc q h) hFc (fun u38 t H1 locs ht hvm hp39 hB hz1 hk1 hS => ?_)
            obtain ⟨hP1, hD1⟩ := hB
            rw [ht] at hP1
            have hD1 := hD1.weaken (fun _ _ _ h => hFc _ h)
            obtain ⟨v40, g41⟩ := u38
            generalize H1 = H at hP1 hS ⊢
            have hP := hP1
            have hD := hD1
            have hP : va_P D xcl (moW h mm kA v40 g41) H := hP
            have hD : va_D A (moW h mm kA v40 g41) := hD
            obtain ⟨hu9, hfr9, hbz9, hsn9⟩ := hp39
            have hu9 : v40 = (va_up (va_up (va_up v 0 0) 2 0) 3 (nI wn)) := hu9
            subst hu9
            have hfr9 : ∀ j, j ≠ 24 → g41 j = g5 j := hfr9
            have hbz9 : bz (g41 24) := hbz9
            have hP : va_P D xcl (moW h mm kA (va_up (va_up (va_up v 0 0) 2 0) 3 (nI wn)) g41) H := hP
            have hD : va_D A (moW h mm kA (va_up (va_up (va_up v 0 0) 2 0) 3 (nI wn)) g41) := hD
            have hpk : ∀ d, d < 12 → ∃ k, k ≤ 6 ∧ g41 5 d = nI k := by rw [hfr9 5 (by decide)]; exact hpk
            refine lv_aload_n hx hb xd_Mo_peek_98 rfl (lv_at hl 3 rfl) ?_
            refine va_get (D := D) (ci := 4) (v := .ref (mm 24)) (C := xR_Mo) (T := xT_Mo) (N := 31) hx hb hT xi_Mo hown hK.1 hP 0 rfl rfl 30 (by decide) (hT _ xy4_31) (fun _ h9 => h9) rfl xd_Mo_peek_99 ?_
            refine lv_bipush (v := 12) hx hb xd_Mo_peek_102 (by decide) ?_
            refine lv_iload_n hx hb xd_Mo_peek_104 rfl (lv_at hl 6 rfl) ?_
            refine lv_imul hx hb xd_Mo_peek_105 ?_
            refine xn_top (y := nI (12 * z20)) (pk_mul 12 z20) ?_
            refine lv_iload hx hb xd_Mo_peek_106 (lv_at hl 7 rfl) ?_
            refine lv_iadd hx hb xd_Mo_peek_108 ?_
            refine xn_top (y := nI ((12 * z20) + z21)) (nI_add (12 * z20) z21) ?_
            refine xn_zald (i := (12 * z20) + z21) hx hb hK.1 hP 25 2 rfl rfl (by omega) (by decide) xd_Mo_peek_109 ?_
            refine lv_if_eq (tgt := 169) hx hb xd_Mo_peek_110 (by decide) (fun hc42 => ?_) (fun hc42 => ?_)
            · refine lv_iconst (v := 0) hx hb xd_Mo_peek_169 (by decide) ?_
              exact W.zret (v := 0) hx hb hr rfl (fun t ht hW => ⟨⟨0, ((va_up (va_up (va_up v 0 0) 2 0) 3 (nI wn)), g41), rfl, ⟨MI_g (hfr9 0 (by decide)) (hfr9 3 (by decide)) (hfr9 4 (by decide)) (hfr9 5 (by decide)) (hfr9 12 (by decide)) (hfr9 19 (by decide)) (hfr9 20 (by decide)) (hfr9 21 (by decide)) (MI_v rfl rfl hM1), rfl⟩, by rw [ht]; exact hP, hD⟩, hS.F ht⟩) hS.2.2 xd_Mo_peek_170
            · refine lv_aload_n hx hb xd_Mo_peek_113 rfl (lv_at hl 3 rfl) ?_
              refine lv_aload_n hx hb xd_Mo_peek_114 rfl (lv_at hl 3 rfl) ?_
              refine va_get (D := D) (ci := 4) (v := .ref (mm 10)) (C := xR_Mo) (T := xT_Mo) (N := 31) hx hb hT xi_Mo hown hK.1 hP 0 rfl rfl 15 (by decide) (hT _ xy4_41) (fun _ h9 => h9) rfl xd_Mo_peek_115 ?_
              refine lv_iload hx hb xd_Mo_peek_118 (lv_at hl 0 rfl) ?_
              refine xn_zald (i := z29) hx hb hK.1 hP 11 2 rfl rfl (by omega) (by decide) xd_Mo_peek_120 ?_
              refine lv_aload_n hx hb xd_Mo_peek_121 rfl (lv_at hl 3 rfl) ?_
              refine va_get (D := D) (ci := 4) (v := .ref (mm 8)) (C := xR_Mo) (T := xT_Mo) (N := 31) hx hb hT xi_Mo hown hK.1 hP 0 rfl rfl 13 (by decide) (hT _ xy4_42) (fun _ h9 => h9) rfl xd_Mo_peek_122 ?_
              refine lv_iconst (v := 3) hx hb xd_Mo_peek_125 (by decide) ?_
              refine lv_iload hx hb xd_Mo_peek_126 (lv_at hl 0 rfl) ?_
              refine lv_imul hx hb xd_Mo_peek_128 ?_
              refine xn_top (y := nI (3 * z29)) (pk_mul 3 z29) ?_
              refine xn_iald (i := 3 * z29) hx hb hK.1 hP 9 0 rfl rfl (by omega) (by decide) xd_Mo_peek_129 ?_
              refine lv_aload_n hx hb xd_Mo_peek_130 rfl (lv_at hl 3 rfl) ?_
              refine va_get (D := D) (ci := 4) (v := .ref (mm 8)) (C := xR_Mo) (T := xT_Mo) (N := 31) hx hb hT xi_Mo hown hK.1 hP 0 rfl rfl 13 (by decide) (hT _ xy4_42) (fun _ h9 => h9) rfl xd_Mo_peek_131 ?_
              refine lv_iconst (v := 3) hx hb xd_Mo_peek_134 (by decide) ?_
              refine lv_iload hx hb xd_Mo_peek_135 (lv_at hl 0 rfl) ?_
              refine lv_imul hx hb xd_Mo_peek_137 ?_
              refine xn_top (y := nI (3 * z29)) (pk_mul 3 z29) ?_
              refine lv_iconst (v := 1) hx hb xd_Mo_peek_138 (by decide) ?_
              refine lv_iadd hx hb xd_Mo_peek_139 ?_
              refine xn_top (y := nI ((3 * z29) + 1)) (nI_add (3 * z29) 1) ?_
              refine xn_iald (i := (3 * z29) + 1) hx hb hK.1 hP 9 0 rfl rfl (by omega) (by decide) xd_Mo_peek_140 ?_
              refine lv_aload_n hx hb xd_Mo_peek_141 rfl (lv_at hl 3 rfl) ?_
              refine va_get (D := D) (ci := 4) (v := .ref (mm 8)) (C := xR_Mo) (T := xT_Mo) (N := 31) hx hb hT xi_Mo hown hK.1 hP 0 rfl rfl 13 (by decide) (hT _ xy4_42) (fun _ h9 => h9) rfl xd_Mo_peek_142 ?_
              refine lv_iconst (v := 3) hx hb xd_Mo_peek_145 (by decide) ?_
              refine lv_iload hx hb xd_Mo_peek_146 (lv_at hl 0 rfl) ?_
              refine lv_imul hx hb xd_Mo_peek_148 ?_
              refine xn_top (y := nI (3 * z29)) (pk_mul 3 z29) ?_
              refine lv_iconst (v := 2) hx hb xd_Mo_peek_149 (by decide) ?_
              refine lv_iadd hx hb xd_Mo_peek_150 ?_
              refine xn_top (y := nI ((3 * z29) + 2)) (nI_add (3 * z29) 2) ?_
              refine xn_iald (i := (3 * z29) + 2) hx hb hK.1 hP 9 0 rfl rfl (by omega) (by decide) xd_Mo_peek_151 ?_
              refine lv_aload_n hx hb xd_Mo_peek_152 rfl (lv_at hl 3 rfl) ?_
              refine va_get (D := D) (ci := 4) (v := .ref (mm 4)) (C := xR_Mo) (T := xT_Mo) (N := 31) hx hb hT xi_Mo hown hK.1 hP 0 rfl rfl 9 (by decide) (hT _ xy4_32) (fun _ h9 => h9) rfl xd_Mo_peek_153 ?_
              refine lv_iload hx hb xd_Mo_peek_156 (lv_at hl 1 rfl) ?_
              refine xn_iald (i := z10) hx hb hK.1 hP 5 0 rfl rfl (by omega) (by decide) xd_Mo_peek_158 ?_
              have hFc := va_free (wc := (moW h mm kA (va_up (va_up (va_up v 0 0) 2 0) 3 (nI wn)) g41)) hD hS hA [0, 1, 2, 3, 4, 5, 6, 7, 8, 9, 10, 11, 12, 13, 14, 15, 16, 17, 18, 19, 20, 21, 22, 23, 24, 25] rfl
              refine va_calli (va_runV (As := [.int (g41 10 z29), .int (g41 8 (3 * z29)), .int (g41 8 ((3 * z29) + 1)), .int (g41 8 ((3 * z29) + 2)), .int (g41 4 z10)]) (rest := []) ⟨hx, hb, hml, hown, hT⟩ (xc_Mo_isTo l D kA H.size h mm (va_up (va_up (va_up v 0 0) 2 0) 3 (nI wn)) g41 (g41 10 z29) (g41 8 (3 * z29)) (g41 8 ((3 * z29) + 1)) (g41 8 ((3 * z29) + 2)) (g41 4 z10)) (cwV 5 hT (wT_V xy4_44 xy4_45 xy4_46 xy4_4 xy4_43) rfl rfl rfl (by decide +kernel) ⟨Nat.le_of_ble_eq_true rfl, Nat.le_of_ble_eq_true rfl⟩) (x_preV hK hP hD 0 rfl rfl) rfl rfl hl.1 rfl (lv_room (Nat.le_of_ble_eq_true rfl)) xd_Mo_peek_159 ⟨Nat.le_of_ble_eq_true rfl, Nat.le_of_ble_eq_true rfl⟩) hS (fun q _ h => hFc q h) hFc (fun r43 u44 t H1 locs ht hvm hp45 hB hz1 hk1 hS => ?_)
              obtain ⟨hP1, hD1⟩ := hB
              rw [ht] at hP1
              have hD1 := hD1.weaken (fun _ _ _ h => hFc _ h)
              generalize H1 = H at hP1 hS ⊢
              have hP := hP1
              have hD := hD1
              have hP : va_P D xcl (moW h mm kA (va_up (va_up (va_up v 0 0) 2 0) 3 (nI wn)) g41) H := hP
              have hD : va_D A (moW h mm kA (va_up (va_up (va_up v 0 0) 2 0) 3 (nI wn)) g41) := hD
              rcases hp45 with rfl | rfl
              · refine xz_eq (a := 0) (tgt := 169) hx hb xd_Mo_peek_162 (by decide) (by omega) (fun _ => ?_) (fun hc46 => absurd hc46 (by omega))
                refine lv_iconst (v := 0) hx hb xd_Mo_peek_169 (by decide) ?_
                exact W.zret (v := 0) hx hb hr rfl (fun t ht hW => ⟨⟨0, ((va_up (va_up (va_up v 0 0) 2 0) 3 (nI wn)), g41), rfl, ⟨MI_g (hfr9 0 (by decide)) (hfr9 3 (by decide)) (hfr9 4 (by decide)) (hfr9 5 (by decide)) (hfr9 12 (by decide)) (hfr9 19 (by decide)) (hfr9 20 (by decide)) (hfr9 21 (by decide)) (MI_v rfl rfl hM1), rfl⟩, by rw [ht]; exact hP, hD⟩, hS.F ht⟩) hS.2.2 xd_Mo_peek_170
              · refine xz_eq (a := 1) (tgt := 169) hx hb xd_Mo_peek_162 (by decide) (by omega) (fun hc47 => absurd hc47 (by omega)) (fun _ => ?_)
                refine lv_iconst (v := 1) hx hb xd_Mo_peek_165 (by decide) ?_
                refine lv_goto (tgt := 170) hx hb xd_Mo_peek_166 (by decide) ?_
                exact W.zret (v := 1) hx hb hr rfl (fun t ht hW => ⟨⟨1, ((va_up (va_up (va_up v 0 0) 2 0) 3 (nI wn)), g41), rfl, ⟨MI_g (hfr9 0 (by decide)) (hfr9 3 (by decide)) (hfr9 4 (by decide)) (hfr9 5 (by decide)) (hfr9 12 (by decide)) (hfr9 19 (by decide)) (hfr9 20 (by decide)) (hfr9 21 (by decide)) (MI_v rfl rfl hM1), rfl⟩, by rw [ht]; exact hP, hD⟩, hS.F ht⟩) hS.2.2 xd_Mo_peek_170
          · refine lv_iload hx hb xd_Mo_peek_82 (lv_at hl 1 rfl) ?_
            refine lv_iload hx hb xd_Mo_peek_84 (lv_at hl 7 rfl) ?_
            refine xn_ne (a := z10) (b := z21) (tgt := 91) hx hb xd_Mo_peek_86 (by decide) (by omega) (by omega) (fun hc48 => ?_) (fun hc48 => ?_)
            · refine lv_aload_n hx hb xd_Mo_peek_91 rfl (lv_at hl 3 rfl) ?_
              refine lv_iload_n hx hb xd_Mo_peek_92 rfl (lv_at hl 4 rfl) ?_
              refine lv_iload hx hb xd_Mo_peek_93 (lv_at hl 1 rfl) ?_
              have hFc := va_free (wc := (moW h mm kA (va_up (va_up (va_up v 0 0) 2 0) 3 (nI wn)) g5)) hD hS hA [0, 1, 2, 3, 4, 5, 6, 7, 8, 9, 10, 11, 12, 13, 14, 15, 16, 17, 18, 19, 20, 21, 22, 23, 24, 25] rfl
              refine va_callv (va_runV (As := [.int (nI z9), .int (nI z10)]) (rest := []) ⟨hx, hb, hml, hown, hT⟩ (xc_Mo_reading l D kA H.size h mm (va_up (va_up (va_up v 0 0) 2 0) 3 (nI wn)) g5 z9 z10 nl (MI_v rfl rfl hM1) (by first | assumption | omega) hpar (by first | assumption | omega) (by first | assumption | omega)) (cwV 2 hT (wT_V xy4_28 xy4_29 xy4_30 xy4_4 xy4_27) rfl rfl rfl (by decide +kernel) ⟨Nat.le_of_ble_eq_true rfl, Nat.le_of_ble_eq_true rfl⟩) (x_preV hK hP hD 0 rfl rfl) rfl rfl hl.1 rfl (lv_room (Nat.le_of_ble_eq_true rfl)) xd_Mo_peek_95 ⟨Nat.le_of_ble_eq_true rfl, Nat.le_of_ble_eq_true rfl⟩) hS (fun q _ h => hFc q h) hFc (fun u50 t H1 locs ht hvm hp51 hB hz1 hk1 hS => ?_)
              obtain ⟨hP1, hD1⟩ := hB
              rw [ht] at hP1
              have hD1 := hD1.weaken (fun _ _ _ h => hFc _ h)
              obtain ⟨v52, g53⟩ := u50
              generalize H1 = H at hP1 hS ⊢
              have hP := hP1
              have hD := hD1
              have hP : va_P D xcl (moW h mm kA v52 g53) H := hP
              have hD : va_D A (moW h mm kA v52 g53) := hD
              obtain ⟨hu9, hfr9, hbz9, hsn9⟩ := hp51
              have hu9 : v52 = (va_up (va_up (va_up v 0 0) 2 0) 3 (nI wn)) := hu9
              subst hu9
              have hfr9 : ∀ j, j ≠ 24 → g53 j = g5 j := hfr9
              have hbz9 : bz (g53 24) := hbz9
              have hP : va_P D xcl (moW h mm kA (va_up (va_up (va_up v 0 0) 2 0) 3 (nI wn)) g53) H := hP
              have hD : va_D A (moW h mm kA (va_up (va_up (va_up v 0 0) 2 0) 3 (nI wn)) g53) := hD
              have hpk : ∀ d, d < 12 → ∃ k, k ≤ 6 ∧ g53 5 d = nI k := by rw [hfr9 5 (by decide)]; exact hpk
              refine lv_aload_n hx hb xd_Mo_peek_98 rfl (lv_at hl 3 rfl) ?_
              refine va_get (D := D) (ci := 4) (v := .ref (mm 24)) (C := xR_Mo) (T := xT_Mo) (N := 31) hx hb hT xi_Mo hown hK.1 hP 0 rfl rfl 30 (by decide) (hT _ xy4_31) (fun _ h9 => h9) rfl xd_Mo_peek_99 ?_
              refine lv_bipush (v := 12) hx hb xd_Mo_peek_102 (by decide) ?_
              refine lv_iload_n hx hb xd_Mo_peek_104 rfl (lv_at hl 6 rfl) ?_
              refine lv_imul hx hb xd_Mo_peek_105 ?_
              refine xn_top (y := nI (12 * z20)) (pk_mul 12 z20) ?_
              refine lv_iload hx hb xd_Mo_peek_106 (lv_at hl 7 rfl) ?_
              refine lv_iadd hx hb xd_Mo_peek_108 ?_
              refine xn_top (y := nI ((12 * z20) + z21)) (nI_add (12 * z20) z21) ?_
              refine xn_zald (i := (12 * z20) + z21) hx hb hK.1 hP 25 2 rfl rfl (by omega) (by decide) xd_Mo_peek_109 ?_
              refine lv_if_eq (tgt := 169) hx hb xd_Mo_peek_110 (by decide) (fun hc54 => ?_) (fun hc54 => ?_)
              · refine lv_iconst (v := 0) hx hb xd_Mo_peek_169 (by decide) ?_
                exact W.zret (v := 0) hx hb hr rfl (fun t ht hW => ⟨⟨0, ((va_up (va_up (va_up v 0 0) 2 0) 3 (nI wn)), g53), rfl, ⟨MI_g (hfr9 0 (by decide)) (hfr9 3 (by decide)) (hfr9 4 (by decide)) (hfr9 5 (by decide)) (hfr9 12 (by decide)) (hfr9 19 (by decide)) (hfr9 20 (by decide)) (hfr9 21 (by decide)) (MI_v rfl rfl hM1), rfl⟩, by rw [ht]; exact hP, hD⟩, hS.F ht⟩) hS.2.2 xd_Mo_peek_170
              · refine lv_aload_n hx hb xd_Mo_peek_113 rfl (lv_at hl 3 rfl) ?_
                refine lv_aload_n hx hb xd_Mo_peek_114 rfl (lv_at hl 3 rfl) ?_
                refine va_get (D := D) (ci := 4) (v := .ref (mm 10)) (C := xR_Mo) (T := xT_Mo) (N := 31) hx hb hT xi_Mo hown hK.1 hP 0 rfl rfl 15 (by decide) (hT _ xy4_41) (fun _ h9 => h9) rfl xd_Mo_peek_115 ?_
                refine lv_iload hx hb xd_Mo_peek_118 (lv_at hl 0 rfl) ?_
                refine xn_zald (i := z29) hx hb hK.1 hP 11 2 rfl rfl (by omega) (by decide) xd_Mo_peek_120 ?_
                refine lv_aload_n hx hb xd_Mo_peek_121 rfl (lv_at hl 3 rfl) ?_
                refine va_get (D := D) (ci := 4) (v := .ref (mm 8)) (C := xR_Mo) (T := xT_Mo) (N := 31) hx hb hT xi_Mo hown hK.1 hP 0 rfl rfl 13 (by decide) (hT _ xy4_42) (fun _ h9 => h9) rfl xd_Mo_peek_122 ?_
                refine lv_iconst (v := 3) hx hb xd_Mo_peek_125 (by decide) ?_
                refine lv_iload hx hb xd_Mo_peek_126 (lv_at hl 0 rfl) ?_
                refine lv_imul hx hb xd_Mo_peek_128 ?_
                refine xn_top (y := nI (3 * z29)) (pk_mul 3 z29) ?_
                refine xn_iald (i := 3 * z29) hx hb hK.1 hP 9 0 rfl rfl (by omega) (by decide) xd_Mo_peek_129 ?_
                refine lv_aload_n hx hb xd_Mo_peek_130 rfl (lv_at hl 3 rfl) ?_
                refine va_get (D := D) (ci := 4) (v := .ref (mm 8)) (C := xR_Mo) (T := xT_Mo) (N := 31) hx hb hT xi_Mo hown hK.1 hP 0 rfl rfl 13 (by decide) (hT _ xy4_42) (fun _ h9 => h9) rfl xd_Mo_peek_131 ?_
                refine lv_iconst (v := 3) hx hb xd_Mo_peek_134 (by decide) ?_
                refine lv_iload hx hb xd_Mo_peek_135 (lv_at hl 0 rfl) ?_
                refine lv_imul hx hb xd_Mo_peek_137 ?_
                refine xn_top (y := nI (3 * z29)) (pk_mul 3 z29) ?_
                refine lv_iconst (v := 1) hx hb xd_Mo_peek_138 (by decide) ?_
                refine lv_iadd hx hb xd_Mo_peek_139 ?_
                refine xn_top (y := nI ((3 * z29) + 1)) (nI_add (3 * z29) 1) ?_
                refine xn_iald (i := (3 * z29) + 1) hx hb hK.1 hP 9 0 rfl rfl (by omega) (by decide) xd_Mo_peek_140 ?_
                refine lv_aload_n hx hb xd_Mo_peek_141 rfl (lv_at hl 3 rfl) ?_
                refine va_get (D := D) (ci := 4) (v := .ref (mm 8)) (C := xR_Mo) (T := xT_Mo) (N := 31) hx hb hT xi_Mo hown hK.1 hP 0 rfl rfl 13 (by decide) (hT _ xy4_42) (fun _ h9 => h9) rfl xd_Mo_peek_142 ?_
                refine lv_iconst (v := 3) hx hb xd_Mo_peek_145 (by decide) ?_
                refine lv_iload hx hb xd_Mo_peek_146 (lv_at hl 0 rfl) ?_
                refine lv_imul hx hb xd_Mo_peek_148 ?_
                refine xn_top (y := nI (3 * z29)) (pk_mul 3 z29) ?_
                refine lv_iconst (v := 2) hx hb xd_Mo_peek_149 (by decide) ?_
                refine lv_iadd hx hb xd_Mo_peek_150 ?_
                refine xn_top (y := nI ((3 * z29) + 2)) (nI_add (3 * z29) 2) ?_
                refine xn_iald (i := (3 * z29) + 2) hx hb hK.1 hP 9 0 rfl rfl (by omega) (by decide) xd_Mo_peek_151 ?_
                refine lv_aload_n hx hb xd_Mo_peek_152 rfl (lv_at hl 3 rfl) ?_
                refine va_get (D := D) (ci := 4) (v := .ref (mm 4)) (C := xR_Mo) (T := xT_Mo) (N := 31) hx hb hT xi_Mo hown hK.1 hP 0 rfl rfl 9 (by decide) (hT _ xy4_32) (fun _ h9 => h9) rfl xd_Mo_peek_153 ?_
                refine lv_iload hx hb xd_Mo_peek_156 (lv_at hl 1 rfl) ?_
                refine xn_iald (i := z10) hx hb hK.1 hP 5 0 rfl rfl (by omega) (by decide) xd_Mo_peek_158 ?_
                have hFc := va_free (wc := (moW h mm kA (va_up (va_up (va_up v 0 0) 2 0) 3 (nI wn)) g53)) hD hS hA [0, 1, 2, 3, 4, 5, 6, 7, 8, 9, 10, 11, 12, 13, 14, 15, 16, 17, 18, 19, 20, 21, 22, 23, 24, 25] rfl
                refine va_calli (va_runV (As := [.int (g53 10 z29), .int (g53 8 (3 * z29)), .int (g53 8 ((3 * z29) + 1)), .int (g53 8 ((3 * z29) + 2)), .int (g53 4 z10)]) (rest := []) ⟨hx, hb, hml, hown, hT⟩ (xc_Mo_isTo l D kA H.size h mm (va_up (va_up (va_up v 0 0) 2 0) 3 (nI wn)) g53 (g53 10 z29) (g53 8 (3 * z29)) (g53 8 ((3 * z29) + 1)) (g53 8 ((3 * z29) + 2)) (g53 4 z10)) (cwV 5 hT (wT_V xy4_44 xy4_45 xy4_46 xy4_4 xy4_43) rfl rfl rfl (by decide +kernel) ⟨Nat.le_of_ble_eq_true rfl, Nat.le_of_ble_eq_true rfl⟩) (x_preV hK hP hD 0 rfl rfl) rfl rfl hl.1 rfl (lv_room (Nat.le_of_ble_eq_true rfl)) xd_Mo_peek_159 ⟨Nat.le_of_ble_eq_true rfl, Nat.le_of_ble_eq_true rfl⟩) hS (fun q _ h => hFc q h) hFc (fun r55 u56 t H1 locs ht hvm hp57 hB hz1 hk1 hS => ?_)
                obtain ⟨hP1, hD1⟩ := hB
                rw [ht] at hP1
                have hD1 := hD1.weaken (fun _ _ _ h => hFc _ h)
                generalize H1 = H at hP1 hS ⊢
                have hP := hP1
                have hD := hD1
                have hP : va_P D xcl (moW h mm kA (va_up (va_up (va_up v 0 0) 2 0) 3 (nI wn)) g53) H := hP
                have hD : va_D A (moW h mm kA (va_up (va_up (va_up v 0 0) 2 0) 3 (nI wn)) g53) := hD
                rcases hp57 with rfl | rfl
                · refine xz_eq (a := 0) (tgt := 169) hx hb xd_Mo_peek_162 (by decide) (by omega) (fun _ => ?_) (fun hc58 => absurd hc58 (by omega))
                  refine lv_iconst (v := 0) hx hb xd_Mo_peek_169 (by decide) ?_
                  exact W.zret (v := 0) hx hb hr rfl (fun t ht hW => ⟨⟨0, ((va_up (va_up (va_up v 0 0) 2 0) 3 (nI wn)), g53), rfl, ⟨MI_g (hfr9 0 (by decide)) (hfr9 3 (by decide)) (hfr9 4 (by decide)) (hfr9 5 (by decide)) (hfr9 12 (by decide)) (hfr9 19 (by decide)) (hfr9 20 (by decide)) (hfr9 21 (by decide)) (MI_v rfl rfl hM1), rfl⟩, by rw [ht]; exact hP, hD⟩, hS.F ht⟩) hS.2.2 xd_Mo_peek_170
                · refine xz_eq (a := 1) (tgt := 169) hx hb xd_Mo_peek_162 (by decide) (by omega) (fun hc59 => absurd hc59 (by omega)) (fun _ => ?_)
                  refine lv_iconst (v := 1) hx hb xd_Mo_peek_165 (by decide) ?_
                  refine lv_goto (tgt := 170) hx hb xd_Mo_peek_166 (by decide) ?_
                  exact W.zret (v := 1) hx hb hr rfl (fun t ht hW => ⟨⟨1, ((va_up (va_up (va_up v 0 0) 2 0) 3 (nI wn)), g53), rfl, ⟨MI_g (hfr9 0 (by decide)) (hfr9 3 (by decide)) (hfr9 4 (by decide)) (hfr9 5 (by decide)) (hfr9 12 (by decide)) (hfr9 19 (by decide)) (hfr9 20 (by decide)) (hfr9 21 (by decide)) (MI_v rfl rfl hM1), rfl⟩, by rw [ht]; exact hP, hD⟩, hS.F ht⟩) hS.2.2 xd_Mo_peek_170
            · refine lv_iconst (v := 1) hx hb xd_Mo_peek_89 (by decide) ?_
              exact W.zret (v := 1) hx hb hr rfl (fun t ht hW => ⟨⟨1, ((va_up (va_up (va_up v 0 0) 2 0) 3 (nI wn)), g5), rfl, ⟨MI_v rfl rfl hM1, rfl⟩, by rw [ht]; exact hP, hD⟩, hS.F ht⟩) hS.2.2 xd_Mo_peek_90
        · refine lv_istore hx hb xd_Mo_peek_54 hl (Nat.le_of_ble_eq_true rfl) rfl (fun ls hl => ?_)
          have hl : lv_has ls 8 [(7, .int (-1)), (6, .int (nI z10)), (5, .int r1), (0, .ref h), (1, .int (nI z9)), (2, .int kx), (3, .int (nI z20)), (4, .int (nI z21))] := hl
          refine lv_aload_n hx hb xd_Mo_peek_56 rfl (lv_at hl 3 rfl) ?_
          refine lv_iload hx hb xd_Mo_peek_57 (lv_at hl 0 rfl) ?_
          refine lv_if_ge (tgt := 66) hx hb xd_Mo_peek_59 (by decide) (fun hc60 => absurd hc60 (by decide)) (fun _ => ?_)
          refine lv_iconst (v := 2) hx hb xd_Mo_peek_62 (by decide) ?_
          refine lv_goto (tgt := 67) hx hb xd_Mo_peek_63 (by decide) ?_
          refine va_put (D := D) (ci := 4) (v := .int 2) (ty := .int) (C := xR_Mo) (T := xT_Mo) (N := 31) hx hb hT xi_Mo xt_Mo xt_Mo_ok xn_Mo hown hK.1 hP hD hS 0 rfl rfl 0 (by decide) (hT _ xy4_10) (fun _ h9 => h9) rfl (by decide +kernel) rfl rfl (Nat.le_of_ble_eq_true rfl) xd_Mo_peek_67 (fun H locs hP hD hS => ?_)
          have hP : va_P D xcl (moW h mm kA (va_up (va_up (va_up v 0 2) 2 0) 3 (nI wn)) g5) H := hP
          have hD : va_D A (moW h mm kA (va_up (va_up (va_up v 0 2) 2 0) 3 (nI wn)) g5) := hD
          refine lv_iload hx hb xd_Mo_peek_70 (lv_at hl 0 rfl) ?_
          refine lv_if_ge (tgt := 77) hx hb xd_Mo_peek_72 (by decide) (fun hc61 => absurd hc61 (by decide)) (fun _ => ?_)
          refine lv_iconst (v := 0) hx hb xd_Mo_peek_75 (by decide) ?_
          exact W.zret (v := 0) hx hb hr rfl (fun t ht hW => ⟨⟨0, ((va_up (va_up (va_up v 0 2) 2 0) 3 (nI wn)), g5), rfl, ⟨MI_v rfl rfl hM1, rfl⟩, by rw [ht]; exact hP, hD⟩, hS.F ht⟩) hS.2.2 xd_Mo_peek_76
set_option maxHeartbeats 4000000 in
set_option maxRecDepth 100000 in
theorem xc_Mo_provider (l : Launch) (D : va_G) (kA : Nat → ClassId) (sz h : Nat) (mm : Nat → Nat) (v : Nat → Int32) (g : Nat → Nat → Int32) (ly : Int32) (ix : Int32) (wr : Nat) (hMI : MI v g) (hwr : v 2 = nI wr) (hwr40 : wr ≤ 40) : Met l xy_Mo_provider (.code xy_Mo_provider xb_Mo_provider 9 (some .int) :: wT) { frames := 2, cells := 0, slots := 0, locals := 43 } (va_Pc [.ref h, .int ly, .int ix] (xPre D kA sz (moW h mm kA v g))) (va_Qi (fun (r : Int32) (u : (Nat → Int32) × (Nat → Nat → Int32)) => MI u.1 u.2 ∧ u.1 2 = 0) (fun (u : (Nat → Int32) × (Nat → Nat → Int32)) t => va_P D xcl (moW h mm kA u.1 u.2) t.heap ∧ va_D (va_A (moW h mm kA v g) sz) (moW h mm kA u.1 u.2)) (va_A (moW h mm kA v g) sz)) 0 0 (va_A (moW h mm kA v g) sz) := by
  refine Met.ofW (cc := xb_Mo_provider) (maxL := 9) (ret := (some .int)) (by decide) rfl ?_
  intro p e s m args below meth c s₁ B hml hv
  obtain ⟨rfl, hsz, hP, hK, hD0⟩ := hv
  have hx := B.exec
  have hb := B.bytes
  have hr := B.returns
  have hT := x_hT B.pre
  have hown : s.vm.findClass xR_Mo = some m.cls := findClass_of_methodNamed B.named
  have hlocks := B.notSynchronized
  subst hsz
  have hD := hD0.self (sz := s.heap.size)
  generalize hAe : va_A (moW h mm kA v g) s.heap.size = A at hD ⊢
  have hA : ∀ q : Nat, s.heap.size ≤ q → A q := fun q h => by rw [← hAe]; exact Or.inr h
  have hS : va_S A s.heap s.heap [] := va_S.rf
  have hl := lv_entry ([.ref h, .int ly, .int ix]) (n := 9) (Nat.le_of_ble_eq_true rfl)
  rw [lg_entry_eq]
  generalize (lg_sl ([.ref h, .int ly, .int ix]) ++ List.replicate (9 - (lg_sl ([.ref h, .int ly, .int ix])).length) Slot.unset).toArray = ls at hl ⊢
  have hl : lv_has ls 9 [(0, .ref h), (1, .int ly), (2, .int ix)] := hl
  have hP : va_P D xcl (moW h mm kA v g) s.heap := hP
  refine lv_aload_n hx hb xd_Mo_provider_0 rfl (lv_at hl 0 rfl) ?_
  refine lv_iconst (v := 0) hx hb xd_Mo_provider_1 (by decide) ?_
  refine va_put (D := D) (ci := 4) (v := .int 0) (ty := .int) (C := xR_Mo) (T := xT_Mo) (N := 31) hx hb hT xi_Mo xt_Mo xt_Mo_ok xn_Mo hown hK.1 hP hD hS 0 rfl rfl 0 (by decide) (hT _ xy4_10) (fun _ h9 => h9) rfl (by decide +kernel) rfl rfl (Nat.le_of_ble_eq_true rfl) xd_Mo_provider_2 (fun H locs hP hD hS => ?_)
  have hP : va_P D xcl (moW h mm kA (va_up v 0 0) g) H := hP
  have hD : va_D A (moW h mm kA (va_up v 0 0) g) := hD
  refine lv_aload_n hx hb xd_Mo_provider_5 rfl (lv_at hl 0 rfl) ?_
  have hFc := va_free (wc := (moW h mm kA (va_up v 0 0) g)) hD hS hA [0, 1, 2, 3, 4, 5, 6, 7, 8, 9, 10, 11, 12, 13, 14, 15, 16, 17, 18, 19, 20, 21, 22, 23, 24, 25] rfl
  refine va_calli (va_runV (As := []) (rest := []) ⟨hx, hb, hml, hown, hT⟩ (xc_Mo_oneName l D kA H.size h mm (va_up v 0 0) g wr (by first | assumption | omega) (by first | assumption | omega)) (cwV 0 hT (wT_V xy4_12 xy4_13 xy4_14 xy4_4 xy4_11) rfl rfl rfl (by decide +kernel) ⟨Nat.le_of_ble_eq_true rfl, Nat.le_of_ble_eq_true rfl⟩) (x_preV hK hP hD 0 rfl rfl) rfl rfl hl.1 rfl (lv_room (Nat.le_of_ble_eq_true rfl)) xd_Mo_provider_6 ⟨Nat.le_of_ble_eq_true rfl, Nat.le_of_ble_eq_true rfl⟩) hS (fun q _ h => hFc q h) hFc (fun r1 u2 t H1 locs ht hvm hp3 hB hz1 hk1 hS => ?_)
  obtain ⟨hP1, hD1⟩ := hB
  rw [ht] at hP1
  have hD1 := hD1.weaken (fun _ _ _ h => hFc _ h)
  obtain ⟨v4, g5⟩ := u2
  generalize H1 = H at hP1 hS ⊢
  have hP := hP1
  have hD := hD1
  have hP : va_P D xcl (moW h mm kA v4 g5) H := hP
  have hD : va_D A (moW h mm kA v4 g5) := hD
  obtain ⟨wn, hv9, hgk⟩ := hp3
  have hv9 : v4 = (va_up (va_up (va_up v 0 0) 2 0) 3 (nI wn)) := hv9
  subst hv9
  have hgk : ∀ j, j ≠ 1 → j ≠ 2 → g5 j = g j := hgk
  have hM1 : MI (va_up (va_up (va_up v 0 0) 2 0) 3 (nI wn)) g5 := MI_g (hgk 0 (by decide) (by decide)) (hgk 3 (by decide) (by decide)) (hgk 4 (by decide) (by decide)) (hgk 5 (by decide) (by decide)) (hgk 12 (by decide) (by decide)) (hgk 19 (by decide) (by decide)) (hgk 20 (by decide) (by decide)) (hgk 21 (by decide) (by decide)) (MI_v rfl rfl hMI)
  obtain ⟨⟨nd, hnd12, hnd⟩, ⟨nl, hnl5, hnl, hpar⟩, hch, hpk, hrq, hmd, huq⟩ := id hM1
  have hP : va_P D xcl (moW h mm kA (va_up (va_up (va_up v 0 0) 2 0) 3 (nI wn)) g5) H := hP
  have hD : va_D A (moW h mm kA (va_up (va_up (va_up v 0 0) 2 0) 3 (nI wn)) g5) := hD
  refine lv_istore_n hx hb xd_Mo_provider_9 rfl hl (Nat.le_of_ble_eq_true rfl) rfl (fun ls hl => ?_)
  have hl : lv_has ls 9 [(3, .int r1), (0, .ref h), (1, .int ly), (2, .int ix)] := hl
  refine lv_iload_n hx hb xd_Mo_provider_10 rfl (lv_at hl 0 rfl) ?_
  refine lv_if_eq (tgt := 22) hx hb xd_Mo_provider_11 (by decide) (fun hc6 => ?_) (fun hc6 => ?_)
  · refine lv_aload_n hx hb xd_Mo_provider_22 rfl (lv_at hl 1 rfl) ?_
    refine lv_iconst (v := 1) hx hb xd_Mo_provider_23 (by decide) ?_
    have hFc := va_free (wc := (moW h mm kA (va_up (va_up (va_up v 0 0) 2 0) 3 (nI wn)) g5)) hD hS hA [0, 1, 2, 3, 4, 5, 6, 7, 8, 9, 10, 11, 12, 13, 14, 15, 16, 17, 18, 19, 20, 21, 22, 23, 24, 25] rfl
    refine va_calli (va_runV (As := [.int 1]) (rest := []) ⟨hx, hb, hml, hown, hT⟩ (xc_Mo_fails l D kA H.size h mm (va_up (va_up (va_up v 0 0) 2 0) 3 (nI wn)) g5 1) (cwV 1 hT (wT_V xy4_20 xy4_21 xy4_22 xy4_4 xy4_19) rfl rfl rfl (by decide +kernel) ⟨Nat.le_of_ble_eq_true rfl, Nat.le_of_ble_eq_true rfl⟩) (x_preV hK hP hD 0 rfl rfl) rfl rfl hl.1 rfl (lv_room (Nat.le_of_ble_eq_true rfl)) xd_Mo_provider_24 ⟨Nat.le_of_ble_eq_true rfl, Nat.le_of_ble_eq_true rfl⟩) hS (fun q _ h => hFc q h) hFc (fun r7 u8 t H1 locs ht hvm hp9 hB hz1 hk1 hS => ?_)
    obtain ⟨hP1, hD1⟩ := hB
    rw [ht] at hP1
    have hD1 := hD1.weaken (fun _ _ _ h => hFc _ h)
    obtain ⟨v10, g11⟩ := u8
    generalize H1 = H at hP1 hS ⊢
    have hP := hP1
    have hD := hD1
    have hP : va_P D xcl (moW h mm kA v10 g11) H := hP
    have hD : va_D A (moW h mm kA v10 g11) := hD
    obtain ⟨hr9, hu9⟩ := hp9
    subst hr9
    obtain ⟨hu1, hu2⟩ := Prod.mk.inj hu9
    subst hu1
    have hu2 := hu2.symm
    subst hu2
    have hP : va_P D xcl (moW h mm kA (va_up (va_up (va_up v 0 1) 2 0) 3 (nI wn)) g5) H := hP
    have hD : va_D A (moW h mm kA (va_up (va_up (va_up v 0 1) 2 0) 3 (nI wn)) g5) := hD
    exact W.iret (v := 0) hx hb hr (fun t ht hW => ⟨⟨0, ((va_up (va_up (va_up v 0 1) 2 0) 3 (nI wn)), g5), rfl, ⟨MI_v rfl rfl hM1, rfl⟩, by rw [ht]; exact hP, hD⟩, hS.F ht⟩) hS.2.2 xd_Mo_provider_27
  · refine lv_aload_n hx hb xd_Mo_provider_14 rfl (lv_at hl 1 rfl) ?_
    refine lv_iload_n hx hb xd_Mo_provider_15 rfl (lv_at hl 2 rfl) ?_
    have hFc := va_free (wc := (moW h mm kA (va_up (va_up (va_up v 0 0) 2 0) 3 (nI wn)) g5)) hD hS hA [0, 1, 2, 3, 4, 5, 6, 7, 8, 9, 10, 11, 12, 13, 14, 15, 16, 17, 18, 19, 20, 21, 22, 23, 24, 25] rfl
    refine va_calli (va_runV (As := [.int ly]) (rest := []) ⟨hx, hb, hml, hown, hT⟩ (xc_Mo_isOpen l D kA H.size h mm (va_up (va_up (va_up v 0 0) 2 0) 3 (nI wn)) g5 ly nl (by first | assumption | omega) (by first | assumption | omega)) (cwV 1 hT (wT_V xy4_48 xy4_49 xy4_50 xy4_4 xy4_47) rfl rfl rfl (by decide +kernel) ⟨Nat.le_of_ble_eq_true rfl, Nat.le_of_ble_eq_true rfl⟩) (x_preV hK hP hD 0 rfl rfl) rfl rfl hl.1 rfl (lv_room (Nat.le_of_ble_eq_true rfl)) xd_Mo_provider_16 ⟨Nat.le_of_ble_eq_true rfl, Nat.le_of_ble_eq_true rfl⟩) hS (fun q _ h => hFc q h) hFc (fun r12 u13 t H1 locs ht hvm hp14 hB hz1 hk1 hS => ?_)
    obtain ⟨hP1, hD1⟩ := hB
    rw [ht] at hP1
    have hD1 := hD1.weaken (fun _ _ _ h => hFc _ h)
    generalize H1 = H at hP1 hS ⊢
    have hP := hP1
    have hD := hD1
    have hP : va_P D xcl (moW h mm kA (va_up (va_up (va_up v 0 0) 2 0) 3 (nI wn)) g5) H := hP
    have hD : va_D A (moW h mm kA (va_up (va_up (va_up v 0 0) 2 0) 3 (nI wn)) g5) := hD
    rcases hp14 with rfl | ⟨rfl, z15, z16, rfl⟩
    · refine xz_ne (a := 0) (tgt := 28) hx hb xd_Mo_provider_19 (by decide) (by omega) (fun hc17 => absurd hc17 (by omega)) (fun _ => ?_)
      refine lv_aload_n hx hb xd_Mo_provider_22 rfl (lv_at hl 1 rfl) ?_
      refine lv_iconst (v := 1) hx hb xd_Mo_provider_23 (by decide) ?_
      have hFc := va_free (wc := (moW h mm kA (va_up (va_up (va_up v 0 0) 2 0) 3 (nI wn)) g5)) hD hS hA [0, 1, 2, 3, 4, 5, 6, 7, 8, 9, 10, 11, 12, 13, 14, 15, 16, 17, 18, 19, 20, 21, 22, 23, 24, 25] rfl
      refine va_calli (va_runV (As := [.int 1]) (rest := []) ⟨hx, hb, hml, hown, hT⟩ (xc_Mo_fails l D kA H.size h mm (va_up (va_up (va_up v 0 0) 2 0) 3 (nI wn)) g5 1) (cwV 1 hT (wT_V xy4_20 xy4_21 xy4_22 xy4_4 xy4_19) rfl rfl rfl (by decide +kernel) ⟨Nat.le_of_ble_eq_true rfl, Nat.le_of_ble_eq_true rfl⟩) (x_preV hK hP hD 0 rfl rfl) rfl rfl hl.1 rfl (lv_room (Nat.le_of_ble_eq_true rfl)) xd_Mo_provider_24 ⟨Nat.le_of_ble_eq_true rfl, Nat.le_of_ble_eq_true rfl⟩) hS (fun q _ h => hFc q h) hFc (fun r18 u19 t H1 locs ht hvm hp20 hB hz1 hk1 hS => ?_)
      obtain ⟨hP1, hD1⟩ := hB
      rw [ht] at hP1
      have hD1 := hD1.weaken (fun _ _ _ h => hFc _ h)
      obtain ⟨v21, g22⟩ := u19
      generalize H1 = H at hP1 hS ⊢
      have hP := hP1
      have hD := hD1
      have hP : va_P D xcl (moW h mm kA v21 g22) H := hP
      have hD : va_D A (moW h mm kA v21 g22) := hD
      obtain ⟨hr9, hu9⟩ := hp20
      subst hr9
      obtain ⟨hu1, hu2⟩ := Prod.mk.inj hu9
      subst hu1
      have hu2 := hu2.symm
      subst hu2
      have hP : va_P D xcl (moW h mm kA (va_up (va_up (va_up v 0 1) 2 0) 3 (nI wn)) g5) H := hP
      have hD : va_D A (moW h mm kA (va_up (va_up (va_up v 0 1) 2 0) 3 (nI wn)) g5) := hD
      exact W.iret (v := 0) hx hb hr (fun t ht hW => ⟨⟨0, ((va_up (va_up (va_up v 0 1) 2 0) 3 (nI wn)), g5), rfl, ⟨MI_v rfl rfl hM1, rfl⟩, by rw [ht]; exact hP, hD⟩, hS.F ht⟩) hS.2.2 xd_Mo_provider_27
    · have hl : lv_has ls 9 [(3, .int r1), (0, .ref h), (1, .int (nI z15)), (2, .int ix)] := hl
      refine xz_ne (a := 1) (tgt := 28) hx hb xd_Mo_provider_19 (by decide) (by omega) (fun _ => ?_) (fun hc23 => absurd hc23 (by omega))
      refine lv_iconst (v := 0) hx hb xd_Mo_provider_28 (by decide) ?_
      refine lv_istore hx hb xd_Mo_provider_29 hl (Nat.le_of_ble_eq_true rfl) rfl (fun ls hl => ?_)
      have hl : lv_has ls 9 [(4, .int 0), (3, .int r1), (0, .ref h), (1, .int (nI z15)), (2, .int ix)] := hl
      refine lv_iload_n hx hb xd_Mo_provider_31 rfl (lv_at hl 3 rfl) ?_
      refine lv_istore hx hb xd_Mo_provider_32 hl (Nat.le_of_ble_eq_true rfl) rfl (fun ls hl => ?_)
      have hl : lv_has ls 9 [(5, .int (nI z15)), (4, .int 0), (3, .int r1), (0, .ref h), (1, .int (nI z15)), (2, .int ix)] := hl
      rw [← nI_pred z15] at hl
      have hl : lv_has ls 9 [(5, .int (nI (z15 + 1) - 1)), (4, .int 0), (3, .int r1), (0, .ref h), (1, .int (nI (z15 + 1) - 1)), (2, .int ix)] := hl
      refine xlab (σ := Nat × Int32) (ml := 9) 34 (fun (lq5, c5) => [(5, .int (nI lq5 - 1)), (4, .int c5), (0, .ref h), (2, .int ix), (3, .int r1)]) (fun (lq5, c5) => []) (fun (lq5, c5) => moW h mm kA (va_up (va_up (va_up v 0 0) 2 0) 3 (nI wn)) g5) (fun (lq5, c5) => (lq5 ≤ nl)) (fun (lq5, c5) => lq5) ?_ (z15 + 1, 0) _ _ _ (lv_sub hl [0, 1, 3, 5, 2] rfl) hP hD hS (show (z15 + 1) ≤ nl from by first | assumption | omega)
      intro n9 ih24 a9 ls H locs hμ hl hP hD hS hI
      subst hμ
      obtain ⟨lq5, c5⟩ := a9
      have hlq5 : lq5 ≤ nl := hI
      have hl : lv_has ls 9 [(5, .int (nI lq5 - 1)), (4, .int c5), (0, .ref h), (2, .int ix), (3, .int r1)] := hl
      have hP : va_P D xcl (moW h mm kA (va_up (va_up (va_up v 0 0) 2 0) 3 (nI wn)) g5) H := hP
      have hD : va_D A (moW h mm kA (va_up (va_up (va_up v 0 0) 2 0) 3 (nI wn)) g5) := hD
      rcases Nat.eq_zero_or_pos lq5 with hz5 | hz5
      · have e5 : nI lq5 - 1 = -1 := by rw [hz5]; decide
        rw [e5] at hl
        refine lv_iload hx hb xd_Mo_provider_34 (lv_at hl 0 rfl) ?_
        refine lv_if_lt (tgt := 177) hx hb xd_Mo_provider_36 (by decide) (fun _ => ?_) (fun hc25 => absurd hc25 (by decide))
        refine lv_iconst (v := (-1)) hx hb xd_Mo_provider_177 (by decide) ?_
        exact W.iret (v := (-1)) hx hb hr (fun t ht hW => ⟨⟨(-1), ((va_up (va_up (va_up v 0 0) 2 0) 3 (nI wn)), g5), rfl, ⟨MI_v rfl rfl hM1, rfl⟩, by rw [ht]; exact hP, hD⟩, hS.F ht⟩) hS.2.2 xd_Mo_provider_178
      · have e5 : nI lq5 - 1 = nI (lq5 - 1) := pk_sub (a := lq5) (b := 1) hz5
        rw [e5] at hl
        refine lv_iload hx hb xd_Mo_provider_34 (lv_at hl 0 rfl) ?_
        refine xz_lt (a := lq5 - 1) (tgt := 177) hx hb xd_Mo_provider_36 (by decide) (by omega) ?_
        obtain ⟨mdk, hmdk, emdk, hent⟩ := hmd (lq5 - 1) (by omega)
        have hent2 : ∀ i, 12 * (lq5 - 1) ≤ i → i < 12 * (lq5 - 1) + mdk → ∃ d, d < 12 ∧ g5 21 i = nI d := fun i h1 h2 => by
          have h3 := hent (i - 12 * (lq5 - 1)) (by omega)
          rwa [show 12 * (lq5 - 1) + (i - 12 * (lq5 - 1)) = i by omega] at h3
        refine lv_bipush (v := 12) hx hb xd_Mo_provider_39 (by decide) ?_
        refine lv_iload hx hb xd_Mo_provider_41 (lv_at hl 0 rfl) ?_
        refine lv_imul hx hb xd_Mo_provider_43 ?_
        refine xn_top (y := nI (12 * (lq5 - 1))) (pk_mul 12 (lq5 - 1)) ?_
        refine lv_istore hx hb xd_Mo_provider_44 hl (Nat.le_of_ble_eq_true rfl) rfl (fun ls hl => ?_)
        have hl : lv_has ls 9 [(6, .int (nI (12 * (lq5 - 1)))), (5, .int (nI (lq5 - 1))), (4, .int c5), (0, .ref h), (2, .int ix), (3, .int r1)] := hl
        refine xlab (σ := Nat × Int32) (ml := 9) 46 (fun (i6, c6) => [(6, .int (nI i6)), (5, .int (nI (lq5 - 1))), (4, .int c6), (0, .ref h), (2, .int ix), (3, .int r1)]) (fun (i6, c6) => []) (fun (i6, c6) => moW h mm kA (va_up (va_up (va_up v 0 0) 2 0) 3 (nI wn)) g5) (fun (i6, c6) => (12 * (lq5 - 1) ≤ i6) ∧ (i6 ≤ 12 * (lq5 - 1) + mdk)) (fun (i6, c6) => 12 * (lq5 - 1) + mdk - i6) ?_ (12 * (lq5 - 1), c5) _ _ _ (lv_sub hl [0, 1, 2, 3, 4, 5] rfl) hP hD hS ⟨(show 12 * (lq5 - 1) ≤ (12 * (lq5 - 1)) from by first | assumption | omega), (show (12 * (lq5 - 1)) ≤ 12 * (lq5 - 1) + mdk from by first | assumption | omega)⟩
        intro n9 ih27 a9 ls H locs hμ hl hP hD hS hI
        subst hμ
        obtain ⟨i6, c6⟩ := a9
        obtain ⟨hi61, hi62⟩ := hI
        have hi61 : 12 * (lq5 - 1) ≤ i6 := hi61
        have hi62 : i6 ≤ 12 * (lq5 - 1) + mdk := hi62
        have hl : lv_has ls 9 [(6, .int (nI i6)), (5, .int (nI (lq5 - 1))), (4, .int c6), (0, .ref h), (2, .int ix), (3, .int r1)] := hl
        have hP : va_P D xcl (moW h mm kA (va_up (va_up (va_up v 0 0) 2 0) 3 (nI wn)) g5) H := hP
        have hD : va_D A (moW h mm kA (va_up (va_up (va_up v 0 0) 2 0) 3 (nI wn)) g5) := hD
        refine lv_iload hx hb xd_Mo_provider_46 (lv_at hl 0 rfl) ?_
        refine lv_bipush (v := 12) hx hb xd_Mo_provider_48 (by decide) ?_
        refine lv_iload hx hb xd_Mo_provider_50 (lv_at hl 1 rfl) ?_
        refine lv_imul hx hb xd_Mo_provider_52 ?_
        refine xn_top (y := nI (12 * (lq5 - 1))) (pk_mul 12 (lq5 - 1)) ?_
        refine lv_aload_n hx hb xd_Mo_provider_53 rfl (lv_at hl 3 rfl) ?_
        refine va_get (D := D) (ci := 4) (v := .ref (mm 20)) (C := xR_Mo) (T := xT_Mo) (N := 31) hx hb hT xi_Mo hown hK.1 hP 0 rfl rfl 26 (by decide) (hT _ xy4_51) (fun _ h9 => h9) rfl xd_Mo_provider_54 ?_
        refine lv_iload hx hb xd_Mo_provider_57 (lv_at hl 1 rfl) ?_
        refine xn_iald (i := lq5 - 1) hx hb hK.1 hP 21 0 rfl rfl (by omega) (by decide) xd_Mo_provider_59 ?_
        refine xn_top (x := (g5 20 (lq5 - 1))) (y := nI mdk) emdk ?_
        refine lv_iadd hx hb xd_Mo_provider_60 ?_
        refine xn_top (y := nI ((12 * (lq5 - 1)) + mdk)) (nI_add (12 * (lq5 - 1)) mdk) ?_
        refine xn_ge (a := i6) (b := (12 * (lq5 - 1)) + mdk) (tgt := 165) hx hb xd_Mo_provider_61 (by decide) (by omega) (by omega) (fun hc28 => ?_) (fun hc28 => ?_)
        · refine lv_aload_n hx hb xd_Mo_provider_165 rfl (lv_at hl 3 rfl) ?_
          refine va_get (D := D) (ci := 4) (v := .ref (mm 19)) (C := xR_Mo) (T := xT_Mo) (N := 31) hx hb hT xi_Mo hown hK.1 hP 0 rfl rfl 25 (by decide) (hT _ xy4_52) (fun _ h9 => h9) rfl xd_Mo_provider_166 ?_
          refine lv_iload hx hb xd_Mo_provider_169 (lv_at hl 1 rfl) ?_
          refine xn_iald (i := lq5 - 1) hx hb hK.1 hP 20 0 rfl rfl (by omega) (by decide) xd_Mo_provider_171 ?_
          obtain ⟨q29, hq30, eq31⟩ := hpar (lq5 - 1) (by omega)
          refine xn_top (x := (g5 19 (lq5 - 1))) eq31 ?_
          refine lv_istore hx hb xd_Mo_provider_172 hl (Nat.le_of_ble_eq_true rfl) rfl (fun ls hl => ?_)
          have hl : lv_has ls 9 [(5, .int (nI q29 - 1)), (6, .int (nI i6)), (4, .int c6), (0, .ref h), (2, .int ix), (3, .int r1)] := hl
          refine lv_goto (tgt := 34) hx hb xd_Mo_provider_174 (by decide) ?_
          exact ih24 (q29, c6) _ _ _ (show q29 < lq5 by omega) (lv_sub hl [0, 2, 3, 4, 5] rfl) hP hD hS (show q29 ≤ nl from by first | assumption | omega)
        · refine lv_aload_n hx hb xd_Mo_provider_64 rfl (lv_at hl 3 rfl) ?_
          refine va_get (D := D) (ci := 4) (v := .ref (mm 21)) (C := xR_Mo) (T := xT_Mo) (N := 31) hx hb hT xi_Mo hown hK.1 hP 0 rfl rfl 27 (by decide) (hT _ xy4_53) (fun _ h9 => h9) rfl xd_Mo_provider_65 ?_
          refine lv_iload hx hb xd_Mo_provider_68 (lv_at hl 0 rfl) ?_
          refine xn_iald (i := i6) hx hb hK.1 hP 22 0 rfl rfl (by omega) (by decide) xd_Mo_provider_70 ?_
          obtain ⟨k32, hk33, ek34⟩ := hent2 i6 (by omega) (by omega)
          refine xn_top (x := (g5 21 i6)) ek34 ?_
          refine lv_istore hx hb xd_Mo_provider_71 hl (Nat.le_of_ble_eq_true rfl) rfl (fun ls hl => ?_)
          have hl : lv_has ls 9 [(7, .int (nI k32)), (6, .int (nI i6)), (5, .int (nI (lq5 - 1))), (4, .int c6), (0, .ref h), (2, .int ix), (3, .int r1)] := hl
          refine xjoin (D := D) (cl := xcl) (A := A) (H0 := s.heap) (σ := Int32) (ml := 9) 123 (fun (gv : Int32) => [(8, .int gv), (7, .int (nI k32)), (6, .int (nI i6)), (5, .int (nI (lq5 - 1))), (4, .int c6), (0, .ref h), (2, .int ix), (3, .int r1)]) (fun (gv : Int32) => []) (fun (gv : Int32) => moW h mm kA (va_up (va_up (va_up v 0 0) 2 0) 3 (nI wn)) g5) (fun (gv : Int32) => True) ?_ (fun jn35 => ?_)
          · intro a9 ls H locs hl hP hD hS hI
            obtain ⟨gv, rfl⟩ : ∃ z, z = a9 := ⟨_, rfl⟩
            have hl : lv_has ls 9 [(8, .int gv), (7, .int (nI k32)), (6, .int (nI i6)), (5, .int (nI (lq5 - 1))), (4, .int c6), (0, .ref h), (2, .int ix), (3, .int r1)] := hl
            have hP : va_P D xcl (moW h mm kA (va_up (va_up (va_up v 0 0) 2 0) 3 (nI wn)) g5) H := hP
            have hD : va_D A (moW h mm kA (va_up (va_up (va_up v 0 0) 2 0) 3 (nI wn)) g5) := hD
            refine lv_iload hx hb xd_Mo_provider_123 (lv_at hl 0 rfl) ?_
            refine lv_if_eq (tgt := 143) hx hb xd_Mo_provider_125 (by decide) (fun hc36 => ?_) (fun hc36 => ?_)
            · refine lv_iload hx hb xd_Mo_provider_143 (lv_at hl 0 rfl) ?_
              refine lv_if_eq (tgt := 155) hx hb xd_Mo_provider_145 (by decide) (fun hc37 => ?_) (fun hc37 => ?_)
              · refine lv_iload hx hb xd_Mo_provider_155 (lv_at hl 4 rfl) ?_
                refine lv_istore hx hb xd_Mo_provider_157 hl (Nat.le_of_ble_eq_true rfl) rfl (fun ls hl => ?_)
                have hl : lv_has ls 9 [(4, .int c6), (8, .int gv), (7, .int (nI k32)), (6, .int (nI i6)), (5, .int (nI (lq5 - 1))), (0, .ref h), (2, .int ix), (3, .int r1)] := hl
                refine lv_iinc (k := 3) (x := (nI i6)) (v := (nI (i6 + 1))) hx hb xd_Mo_provider_159 hl rfl (xb_inc i6 1) (Nat.le_of_ble_eq_true rfl) rfl (fun ls hl => ?_)
                have hl : lv_has ls 9 [(6, .int (nI (i6 + 1))), (4, .int c6), (8, .int gv), (7, .int (nI k32)), (5, .int (nI (lq5 - 1))), (0, .ref h), (2, .int ix), (3, .int r1)] := hl
                refine lv_goto (tgt := 46) hx hb xd_Mo_provider_162 (by decide) ?_
                exact ih27 (i6 + 1, c6) _ _ _ (show 12 * (lq5 - 1) + mdk - (i6 + 1) < 12 * (lq5 - 1) + mdk - i6 by omega) (lv_sub hl [0, 4, 1, 5, 6, 7] rfl) hP hD hS ⟨(show 12 * (lq5 - 1) ≤ (i6 + 1) from by first | assumption | omega), (show (i6 + 1) ≤ 12 * (lq5 - 1) + mdk from by first | assumption | omega)⟩
              · refine lv_iload hx hb xd_Mo_provider_148 (lv_at hl 4 rfl) ?_
                refine lv_iconst (v := 1) hx hb xd_Mo_provider_150 (by decide) ?_
                refine lv_iadd hx hb xd_Mo_provider_151 ?_
                refine lv_goto (tgt := 157) hx hb xd_Mo_provider_152 (by decide) ?_
                refine lv_istore hx hb xd_Mo_provider_157 hl (Nat.le_of_ble_eq_true rfl) rfl (fun ls hl => ?_)
                have hl : lv_has ls 9 [(4, .int (c6 + 1)), (8, .int gv), (7, .int (nI k32)), (6, .int (nI i6)), (5, .int (nI (lq5 - 1))), (0, .ref h), (2, .int ix), (3, .int r1)] := hl
                refine lv_iinc (k := 3) (x := (nI i6)) (v := (nI (i6 + 1))) hx hb xd_Mo_provider_159 hl rfl (xb_inc i6 1) (Nat.le_of_ble_eq_true rfl) rfl (fun ls hl => ?_)
                have hl : lv_has ls 9 [(6, .int (nI (i6 + 1))), (4, .int (c6 + 1)), (8, .int gv), (7, .int (nI k32)), (5, .int (nI (lq5 - 1))), (0, .ref h), (2, .int ix), (3, .int r1)] := hl
                refine lv_goto (tgt := 46) hx hb xd_Mo_provider_162 (by decide) ?_
                exact ih27 (i6 + 1, (c6 + 1)) _ _ _ (show 12 * (lq5 - 1) + mdk - (i6 + 1) < 12 * (lq5 - 1) + mdk - i6 by omega) (lv_sub hl [0, 4, 1, 5, 6, 7] rfl) hP hD hS ⟨(show 12 * (lq5 - 1) ≤ (i6 + 1) from by first | assumption | omega), (show (i6 + 1) ≤ 12 * (lq5 - 1) + mdk from by first | assumption | omega)⟩
            · refine lv_iload hx hb xd_Mo_provider_128 (lv_at hl 4 rfl) ?_
              refine lv_iload_n hx hb xd_Mo_provider_130 rfl (lv_at hl 6 rfl) ?_
              refine lv_icmp_ne (tgt := 143) hx hb xd_Mo_provider_131 (by decide) (fun hc38 => ?_) (fun hc38 => ?_)
              · refine lv_iload hx hb xd_Mo_provider_143 (lv_at hl 0 rfl) ?_
                refine lv_if_eq (tgt := 155) hx hb xd_Mo_provider_145 (by decide) (fun hc39 => ?_) (fun hc39 => ?_)
                · refine lv_iload hx hb xd_Mo_provider_155 (lv_at hl 4 rfl) ?_
                  refine lv_istore hx hb xd_Mo_provider_157 hl (Nat.le_of_ble_eq_true rfl) rfl (fun ls hl => ?_)
                  have hl : lv_has ls 9 [(4, .int c6), (8, .int gv), (7, .int (nI k32)), (6, .int (nI i6)), (5, .int (nI (lq5 - 1))), (0, .ref h), (2, .int ix), (3, .int r1)] := hl
                  refine lv_iinc (k := 3) (x := (nI i6)) (v := (nI (i6 + 1))) hx hb xd_Mo_provider_159 hl rfl (xb_inc i6 1) (Nat.le_of_ble_eq_true rfl) rfl (fun ls hl => ?_)
                  have hl : lv_has ls 9 [(6, .int (nI (i6 + 1))), (4, .int c6), (8, .int gv), (7, .int (nI k32)), (5, .int (nI (lq5 - 1))), (0, .ref h), (2, .int ix), (3, .int r1)] := hl
                  refine lv_goto (tgt := 46) hx hb xd_Mo_provider_162 (by decide) ?_
                  exact ih27 (i6 + 1, c6) _ _ _ (show 12 * (lq5 - 1) + mdk - (i6 + 1) < 12 * (lq5 - 1) + mdk - i6 by omega) (lv_sub hl [0, 4, 1, 5, 6, 7] rfl) hP hD hS ⟨(show 12 * (lq5 - 1) ≤ (i6 + 1) from by first | assumption | omega), (show (i6 + 1) ≤ 12 * (lq5 - 1) + mdk from by first | assumption | omega)⟩
                · refine lv_iload hx hb xd_Mo_provider_148 (lv_at hl 4 rfl) ?_
                  refine lv_iconst (v := 1) hx hb xd_Mo_provider_150 (by decide) ?_
                  refine lv_iadd hx hb xd_Mo_provider_151 ?_
                  refine lv_goto (tgt := 157) hx hb xd_Mo_provider_152 (by decide) ?_
                  refine lv_istore hx hb xd_Mo_provider_157 hl (Nat.le_of_ble_eq_true rfl) rfl (fun ls hl => ?_)
                  have hl : lv_has ls 9 [(4, .int (c6 + 1)), (8, .int gv), (7, .int (nI k32)), (6, .int (nI i6)), (5, .int (nI (lq5 - 1))), (0, .ref h), (2, .int ix), (3, .int r1)] := hl
                  refine lv_iinc (k := 3) (x := (nI i6)) (v := (nI (i6 + 1))) hx hb xd_Mo_provider_159 hl rfl (xb_inc i6 1) (Nat.le_of_ble_eq_true rfl) rfl (fun ls hl => ?_)
                  have hl : lv_has ls 9 [(6, .int (nI (i6 + 1))), (4, .int (c6 + 1)), (8, .int gv), (7, .int (nI k32)), (5, .int (nI (lq5 - 1))), (0, .ref h), (2, .int ix), (3, .int r1)] := hl
                  refine lv_goto (tgt := 46) hx hb xd_Mo_provider_162 (by decide) ?_
                  exact ih27 (i6 + 1, (c6 + 1)) _ _ _ (show 12 * (lq5 - 1) + mdk - (i6 + 1) < 12 * (lq5 - 1) + mdk - i6 by omega) (lv_sub hl [0, 4, 1, 5, 6, 7] rfl) hP hD hS ⟨(show 12 * (lq5 - 1) ≤ (i6 + 1) from by first | assumption | omega), (show (i6 + 1) ≤ 12 * (lq5 - 1) + mdk from by first | assumption | omega)⟩
              · refine lv_bipush (v := 16) hx hb xd_Mo_provider_134 (by decide) ?_
                refine lv_iload hx hb xd_Mo_provider_136 (lv_at hl 3 rfl) ?_
                refine lv_imul hx hb xd_Mo_provider_138 ?_
                refine xn_top (y := nI (16 * (lq5 - 1))) (pk_mul 16 (lq5 - 1)) ?_
                refine lv_iload hx hb xd_Mo_provider_139 (lv_at hl 1 rfl) ?_
                refine lv_iadd hx hb xd_Mo_provider_141 ?_
                refine xn_top (y := nI ((16 * (lq5 - 1)) + k32)) (nI_add (16 * (lq5 - 1)) k32) ?_
                exact W.iret (v := (nI ((16 * (lq5 - 1)) + k32))) hx hb hr (fun t ht hW => ⟨⟨(nI ((16 * (lq5 - 1)) + k32)), ((va_up (va_up (va_up v 0 0) 2 0) 3 (nI wn)), g5), rfl, ⟨MI_v rfl rfl hM1, rfl⟩, by rw [ht]; exact hP, hD⟩, hS.F ht⟩) hS.2.2 xd_Mo_provider_142
          refine lv_aload_n hx hb xd_Mo_provider_73 rfl (lv_at hl 4 rfl) ?_
          refine va_get (D := D) (ci := 4) (v := .ref (mm 15)) (C := xR_Mo) (T := xT_Mo) (N := 31) hx hb hT xi_Mo hown hK.1 hP 0 rfl rfl 20 (by decide) (hT _ xy4_54) (fun _ h9 => h9) rfl xd_Mo_provider_74 ?_
          refine lv_iconst (v := 3) hx hb xd_Mo_provider_77 (by decide) ?_
          refine lv_iload hx hb xd_Mo_provider_78 (lv_at hl 0 rfl) ?_
          refine lv_imul hx hb xd_Mo_provider_80 ?_
          refine xn_top (y := nI (3 * k32)) (pk_mul 3 k32) ?_
          refine xn_iald (i := 3 * k32) hx hb hK.1 hP 16 0 rfl rfl (by omega) (by decide) xd_Mo_provider_81 ?_
          refine lv_iload_n hx hb xd_Mo_provider_82 rfl (lv_at hl 6 rfl) ?_
          refine lv_icmp_eq (tgt := 116) hx hb xd_Mo_provider_83 (by decide) (fun hc40 => ?_) (fun hc40 => ?_)
          · refine lv_iconst (v := 1) hx hb xd_Mo_provider_116 (by decide) ?_
            refine lv_goto (tgt := 121) hx hb xd_Mo_provider_117 (by decide) ?_
            refine lv_istore hx hb xd_Mo_provider_121 hl (Nat.le_of_ble_eq_true rfl) rfl (fun ls hl => ?_)
            have hl : lv_has ls 9 [(8, .int 1), (7, .int (nI k32)), (6, .int (nI i6)), (5, .int (nI (lq5 - 1))), (4, .int c6), (0, .ref h), (2, .int ix), (3, .int r1)] := hl
            exact jn35 1 _ _ _ (lv_sub hl [0, 1, 2, 3, 4, 5, 6, 7] rfl) hP hD hS trivial
          · refine lv_aload_n hx hb xd_Mo_provider_86 rfl (lv_at hl 4 rfl) ?_
            refine va_get (D := D) (ci := 4) (v := .ref (mm 15)) (C := xR_Mo) (T := xT_Mo) (N := 31) hx hb hT xi_Mo hown hK.1 hP 0 rfl rfl 20 (by decide) (hT _ xy4_54) (fun _ h9 => h9) rfl xd_Mo_provider_87 ?_
            refine lv_iconst (v := 3) hx hb xd_Mo_provider_90 (by decide) ?_
            refine lv_iload hx hb xd_Mo_provider_91 (lv_at hl 0 rfl) ?_
            refine lv_imul hx hb xd_Mo_provider_93 ?_
            refine xn_top (y := nI (3 * k32)) (pk_mul 3 k32) ?_
            refine lv_iconst (v := 1) hx hb xd_Mo_provider_94 (by decide) ?_
            refine lv_iadd hx hb xd_Mo_provider_95 ?_
            refine xn_top (y := nI ((3 * k32) + 1)) (nI_add (3 * k32) 1) ?_
            refine xn_iald (i := (3 * k32) + 1) hx hb hK.1 hP 16 0 rfl rfl (by omega) (by decide) xd_Mo_provider_96 ?_
            refine lv_iload_n hx hb xd_Mo_provider_97 rfl (lv_at hl 6 rfl) ?_
            refine lv_icmp_eq (tgt := 116) hx hb xd_Mo_provider_98 (by decide) (fun hc41 => ?_) (fun hc41 => ?_)
            · refine lv_iconst (v := 1) hx hb xd_Mo_provider_116 (by decide) ?_
              refine lv_goto (tgt := 121) hx hb xd_Mo_provider_117 (by decide) ?_
              refine lv_istore hx hb xd_Mo_provider_121 hl (Nat.le_of_ble_eq_true rfl) rfl (fun ls hl => ?_)
              have hl : lv_has ls 9 [(8, .int 1), (7, .int (nI k32)), (6, .int (nI i6)), (5, .int (nI (lq5 - 1))), (4, .int c6), (0, .ref h), (2, .int ix), (3, .int r1)] := hl
              exact jn35 1 _ _ _ (lv_sub hl [0, 1, 2, 3, 4, 5, 6, 7] rfl) hP hD hS trivial
            · refine lv_aload_n hx hb xd_Mo_provider_101 rfl (lv_at hl 4 rfl) ?_
              refine va_get (D := D) (ci := 4) (v := .ref (mm 15)) (C := xR_Mo) (T := xT_Mo) (N := 31) hx hb hT xi_Mo hown hK.1 hP 0 rfl rfl 20 (by decide) (hT _ xy4_54) (fun _ h9 => h9) rfl xd_Mo_provider_102 ?_
              refine lv_iconst (v := 3) hx hb xd_Mo_provider_105 (by decide) ?_
              refine lv_iload hx hb xd_Mo_provider_106 (lv_at hl 0 rfl) ?_
              refine lv_imul hx hb xd_Mo_provider_108 ?_
              refine xn_top (y := nI (3 * k32)) (pk_mul 3 k32) ?_
              refine lv_iconst (v := 2) hx hb xd_Mo_provider_109 (by decide) ?_
              refine lv_iadd hx hb xd_Mo_provider_110 ?_
              refine xn_top (y := nI ((3 * k32) + 2)) (nI_add (3 * k32) 2) ?_
              refine xn_iald (i := (3 * k32) + 2) hx hb hK.1 hP 16 0 rfl rfl (by omega) (by decide) xd_Mo_provider_111 ?_
              refine lv_iload_n hx hb xd_Mo_provider_112 rfl (lv_at hl 6 rfl) ?_
              refine lv_icmp_ne (tgt := 120) hx hb xd_Mo_provider_113 (by decide) (fun hc42 => ?_) (fun hc42 => ?_)
              · refine lv_iconst (v := 0) hx hb xd_Mo_provider_120 (by decide) ?_
                refine lv_istore hx hb xd_Mo_provider_121 hl (Nat.le_of_ble_eq_true rfl) rfl (fun ls hl => ?_)
                have hl : lv_has ls 9 [(8, .int 0), (7, .int (nI k32)), (6, .int (nI i6)), (5, .int (nI (lq5 - 1))), (4, .int c6), (0, .ref h), (2, .int ix), (3, .int r1)] := hl
                exact jn35 0 _ _ _ (lv_sub hl [0, 1, 2, 3, 4, 5, 6, 7] rfl) hP hD hS trivial
              · refine lv_iconst (v := 1) hx hb xd_Mo_provider_116 (by decide) ?_
                refine lv_goto (tgt := 121) hx hb xd_Mo_provider_117 (by decide) ?_
                refine lv_istore hx hb xd_Mo_provider_121 hl (Nat.le_of_ble_eq_true rfl) rfl (fun ls hl => ?_)
                have hl : lv_has ls 9 [(8, .int 1), (7, .int (nI k32)), (6, .int (nI i6)), (5, .int (nI (lq5 - 1))), (4, .int c6), (0, .ref h), (2, .int ix), (3, .int r1)] := hl
                exact jn35 1 _ _ _ (lv_sub hl [0, 1, 2, 3, 4, 5, 6, 7] rfl) hP hD hS trivial
