abbrev xb_Li_init : ByteArray := prog_6_method_1_code
def xy_Li_init : MethodName := ⟨"LayerDesk$Line", "<init>", "()V"⟩
abbrev xb_Sh_init : ByteArray := prog_10_method_1_code
def xy_Sh_init : MethodName := ⟨"LayerDesk$Shelf", "<init>", "()V"⟩
abbrev xb_Ch_init : ByteArray := prog_2_method_1_code
def xy_Ch_init : MethodName := ⟨"LayerDesk$Chooser", "<init>", "(LLayerDesk$Shelf;)V"⟩
abbrev xb_De_init : ByteArray := prog_1_method_1_code
def xy_De_init : MethodName := ⟨"LayerDesk", "<init>", "()V"⟩
abbrev xb_Mo_init : ByteArray := prog_12_method_1_code
def xy_Mo_init : MethodName := ⟨"LayerDeskModel", "<init>", "()V"⟩
theorem xd_Ch_init_0 : decode xb_Ch_init 0 = .ok (.aload_n 0, 1) := by decide +kernel
theorem xd_Ch_init_1 : decode xb_Ch_init 1 = .ok (.invokespecial 3, 3) := by decide +kernel
theorem xd_Ch_init_4 : decode xb_Ch_init 4 = .ok (.aload_n 0, 1) := by decide +kernel
theorem xd_Ch_init_5 : decode xb_Ch_init 5 = .ok (.bipush 12, 2) := by decide +kernel
theorem xd_Ch_init_7 : decode xb_Ch_init 7 = .ok (.anewarray 9, 3) := by decide +kernel
theorem xd_Ch_init_10 : decode xb_Ch_init 10 = .ok (.putfield 11, 3) := by decide +kernel
theorem xd_Ch_init_13 : decode xb_Ch_init 13 = .ok (.aload_n 0, 1) := by decide +kernel
theorem xd_Ch_init_14 : decode xb_Ch_init 14 = .ok (.iconst 0, 1) := by decide +kernel
theorem xd_Ch_init_15 : decode xb_Ch_init 15 = .ok (.putfield 17, 3) := by decide +kernel
theorem xd_Ch_init_18 : decode xb_Ch_init 18 = .ok (.aload_n 0, 1) := by decide +kernel
theorem xd_Ch_init_19 : decode xb_Ch_init 19 = .ok (.iconst 0, 1) := by decide +kernel
theorem xd_Ch_init_20 : decode xb_Ch_init 20 = .ok (.putfield 21, 3) := by decide +kernel
theorem xd_Ch_init_23 : decode xb_Ch_init 23 = .ok (.aload_n 0, 1) := by decide +kernel
theorem xd_Ch_init_24 : decode xb_Ch_init 24 = .ok (.aconst_null, 1) := by decide +kernel
theorem xd_Ch_init_25 : decode xb_Ch_init 25 = .ok (.putfield 24, 3) := by decide +kernel
theorem xd_Ch_init_28 : decode xb_Ch_init 28 = .ok (.aload_n 0, 1) := by decide +kernel
theorem xd_Ch_init_29 : decode xb_Ch_init 29 = .ok (.aload_n 1, 1) := by decide +kernel
theorem xd_Ch_init_30 : decode xb_Ch_init 30 = .ok (.putfield 28, 3) := by decide +kernel
theorem xd_Ch_init_33 : decode xb_Ch_init 33 = .ok (.return_, 1) := by decide +kernel
theorem xd_De_init_0 : decode xb_De_init 0 = .ok (.aload_n 0, 1) := by decide +kernel
theorem xd_De_init_1 : decode xb_De_init 1 = .ok (.invokespecial 1, 3) := by decide +kernel
theorem xd_De_init_4 : decode xb_De_init 4 = .ok (.aload_n 0, 1) := by decide +kernel
theorem xd_De_init_5 : decode xb_De_init 5 = .ok (.new 7, 3) := by decide +kernel
theorem xd_De_init_8 : decode xb_De_init 8 = .ok (.dup, 1) := by decide +kernel
theorem xd_De_init_9 : decode xb_De_init 9 = .ok (.invokespecial 9, 3) := by decide +kernel
theorem xd_De_init_12 : decode xb_De_init 12 = .ok (.putfield 10, 3) := by decide +kernel
theorem xd_De_init_15 : decode xb_De_init 15 = .ok (.aload_n 0, 1) := by decide +kernel
theorem xd_De_init_16 : decode xb_De_init 16 = .ok (.new 16, 3) := by decide +kernel
theorem xd_De_init_19 : decode xb_De_init 19 = .ok (.dup, 1) := by decide +kernel
theorem xd_De_init_20 : decode xb_De_init 20 = .ok (.invokespecial 18, 3) := by decide +kernel
theorem xd_De_init_23 : decode xb_De_init 23 = .ok (.putfield 19, 3) := by decide +kernel
theorem xd_De_init_26 : decode xb_De_init 26 = .ok (.aload_n 0, 1) := by decide +kernel
theorem xd_De_init_27 : decode xb_De_init 27 = .ok (.new 23, 3) := by decide +kernel
theorem xd_De_init_30 : decode xb_De_init 30 = .ok (.dup, 1) := by decide +kernel
theorem xd_De_init_31 : decode xb_De_init 31 = .ok (.aload_n 0, 1) := by decide +kernel
theorem xd_De_init_32 : decode xb_De_init 32 = .ok (.getfield 19, 3) := by decide +kernel
theorem xd_De_init_35 : decode xb_De_init 35 = .ok (.invokespecial 25, 3) := by decide +kernel
theorem xd_De_init_38 : decode xb_De_init 38 = .ok (.putfield 28, 3) := by decide +kernel
theorem xd_De_init_41 : decode xb_De_init 41 = .ok (.aload_n 0, 1) := by decide +kernel
theorem xd_De_init_42 : decode xb_De_init 42 = .ok (.iconst 5, 1) := by decide +kernel
theorem xd_De_init_43 : decode xb_De_init 43 = .ok (.anewarray 32, 3) := by decide +kernel
theorem xd_De_init_46 : decode xb_De_init 46 = .ok (.putfield 34, 3) := by decide +kernel
theorem xd_De_init_49 : decode xb_De_init 49 = .ok (.aload_n 0, 1) := by decide +kernel
theorem xd_De_init_50 : decode xb_De_init 50 = .ok (.iconst 0, 1) := by decide +kernel
theorem xd_De_init_51 : decode xb_De_init 51 = .ok (.putfield 38, 3) := by decide +kernel
theorem xd_De_init_54 : decode xb_De_init 54 = .ok (.aload_n 0, 1) := by decide +kernel
theorem xd_De_init_55 : decode xb_De_init 55 = .ok (.iconst 0, 1) := by decide +kernel
theorem xd_De_init_56 : decode xb_De_init 56 = .ok (.putfield 42, 3) := by decide +kernel
theorem xd_De_init_59 : decode xb_De_init 59 = .ok (.return_, 1) := by decide +kernel
theorem xd_Li_init_0 : decode xb_Li_init 0 = .ok (.aload_n 0, 1) := by decide +kernel
theorem xd_Li_init_1 : decode xb_Li_init 1 = .ok (.invokespecial 1, 3) := by decide +kernel
theorem xd_Li_init_4 : decode xb_Li_init 4 = .ok (.aload_n 0, 1) := by decide +kernel
theorem xd_Li_init_5 : decode xb_Li_init 5 = .ok (.bipush 40, 2) := by decide +kernel
theorem xd_Li_init_7 : decode xb_Li_init 7 = .ok (.newarray .char, 2) := by decide +kernel
theorem xd_Li_init_9 : decode xb_Li_init 9 = .ok (.putfield 9, 3) := by decide +kernel
theorem xd_Li_init_12 : decode xb_Li_init 12 = .ok (.aload_n 0, 1) := by decide +kernel
theorem xd_Li_init_13 : decode xb_Li_init 13 = .ok (.bipush 20, 2) := by decide +kernel
theorem xd_Li_init_15 : decode xb_Li_init 15 = .ok (.newarray .int, 2) := by decide +kernel
theorem xd_Li_init_17 : decode xb_Li_init 17 = .ok (.putfield 13, 3) := by decide +kernel
theorem xd_Li_init_20 : decode xb_Li_init 20 = .ok (.aload_n 0, 1) := by decide +kernel
theorem xd_Li_init_21 : decode xb_Li_init 21 = .ok (.bipush 20, 2) := by decide +kernel
theorem xd_Li_init_23 : decode xb_Li_init 23 = .ok (.newarray .int, 2) := by decide +kernel
theorem xd_Li_init_25 : decode xb_Li_init 25 = .ok (.putfield 17, 3) := by decide +kernel
theorem xd_Li_init_28 : decode xb_Li_init 28 = .ok (.aload_n 0, 1) := by decide +kernel
theorem xd_Li_init_29 : decode xb_Li_init 29 = .ok (.iconst 0, 1) := by decide +kernel
theorem xd_Li_init_30 : decode xb_Li_init 30 = .ok (.putfield 20, 3) := by decide +kernel
theorem xd_Li_init_33 : decode xb_Li_init 33 = .ok (.aload_n 0, 1) := by decide +kernel
theorem xd_Li_init_34 : decode xb_Li_init 34 = .ok (.iconst 0, 1) := by decide +kernel
theorem xd_Li_init_35 : decode xb_Li_init 35 = .ok (.putfield 24, 3) := by decide +kernel
theorem xd_Li_init_38 : decode xb_Li_init 38 = .ok (.return_, 1) := by decide +kernel
theorem xd_Mo_init_0 : decode xb_Mo_init 0 = .ok (.aload_n 0, 1) := by decide +kernel
theorem xd_Mo_init_1 : decode xb_Mo_init 1 = .ok (.invokespecial 1, 3) := by decide +kernel
theorem xd_Mo_init_4 : decode xb_Mo_init 4 = .ok (.aload_n 0, 1) := by decide +kernel
theorem xd_Mo_init_5 : decode xb_Mo_init 5 = .ok (.bipush 40, 2) := by decide +kernel
theorem xd_Mo_init_7 : decode xb_Mo_init 7 = .ok (.newarray .char, 2) := by decide +kernel
theorem xd_Mo_init_9 : decode xb_Mo_init 9 = .ok (.putfield 7, 3) := by decide +kernel
theorem xd_Mo_init_12 : decode xb_Mo_init 12 = .ok (.aload_n 0, 1) := by decide +kernel
theorem xd_Mo_init_13 : decode xb_Mo_init 13 = .ok (.bipush 20, 2) := by decide +kernel
theorem xd_Mo_init_15 : decode xb_Mo_init 15 = .ok (.newarray .int, 2) := by decide +kernel
theorem xd_Mo_init_17 : decode xb_Mo_init 17 = .ok (.putfield 13, 3) := by decide +kernel
theorem xd_Mo_init_20 : decode xb_Mo_init 20 = .ok (.aload_n 0, 1) := by decide +kernel
theorem xd_Mo_init_21 : decode xb_Mo_init 21 = .ok (.bipush 20, 2) := by decide +kernel
theorem xd_Mo_init_23 : decode xb_Mo_init 23 = .ok (.newarray .int, 2) := by decide +kernel
theorem xd_Mo_init_25 : decode xb_Mo_init 25 = .ok (.putfield 17, 3) := by decide +kernel
theorem xd_Mo_init_28 : decode xb_Mo_init 28 = .ok (.aload_n 0, 1) := by decide +kernel
theorem xd_Mo_init_29 : decode xb_Mo_init 29 = .ok (.bipush 12, 2) := by decide +kernel
theorem xd_Mo_init_31 : decode xb_Mo_init 31 = .ok (.newarray .int, 2) := by decide +kernel
theorem xd_Mo_init_33 : decode xb_Mo_init 33 = .ok (.putfield 20, 3) := by decide +kernel
theorem xd_Mo_init_36 : decode xb_Mo_init 36 = .ok (.aload_n 0, 1) := by decide +kernel
theorem xd_Mo_init_37 : decode xb_Mo_init 37 = .ok (.bipush 12, 2) := by decide +kernel
theorem xd_Mo_init_39 : decode xb_Mo_init 39 = .ok (.newarray .int, 2) := by decide +kernel
theorem xd_Mo_init_41 : decode xb_Mo_init 41 = .ok (.putfield 23, 3) := by decide +kernel
theorem xd_Mo_init_44 : decode xb_Mo_init 44 = .ok (.aload_n 0, 1) := by decide +kernel
theorem xd_Mo_init_45 : decode xb_Mo_init 45 = .ok (.bipush 12, 2) := by decide +kernel
theorem xd_Mo_init_47 : decode xb_Mo_init 47 = .ok (.newarray .int, 2) := by decide +kernel
theorem xd_Mo_init_49 : decode xb_Mo_init 49 = .ok (.putfield 26, 3) := by decide +kernel
theorem xd_Mo_init_52 : decode xb_Mo_init 52 = .ok (.aload_n 0, 1) := by decide +kernel
theorem xd_Mo_init_53 : decode xb_Mo_init 53 = .ok (.bipush 72, 2) := by decide +kernel
theorem xd_Mo_init_55 : decode xb_Mo_init 55 = .ok (.newarray .int, 2) := by decide +kernel
theorem xd_Mo_init_57 : decode xb_Mo_init 57 = .ok (.putfield 29, 3) := by decide +kernel
theorem xd_Mo_init_60 : decode xb_Mo_init 60 = .ok (.aload_n 0, 1) := by decide +kernel
theorem xd_Mo_init_61 : decode xb_Mo_init 61 = .ok (.sipush 216, 3) := by decide +kernel
theorem xd_Mo_init_64 : decode xb_Mo_init 64 = .ok (.newarray .int, 2) := by decide +kernel
theorem xd_Mo_init_66 : decode xb_Mo_init 66 = .ok (.putfield 32, 3) := by decide +kernel
theorem xd_Mo_init_69 : decode xb_Mo_init 69 = .ok (.aload_n 0, 1) := by decide +kernel
theorem xd_Mo_init_70 : decode xb_Mo_init 70 = .ok (.sipush 216, 3) := by decide +kernel
theorem xd_Mo_init_73 : decode xb_Mo_init 73 = .ok (.newarray .int, 2) := by decide +kernel
theorem xd_Mo_init_75 : decode xb_Mo_init 75 = .ok (.putfield 35, 3) := by decide +kernel
theorem xd_Mo_init_78 : decode xb_Mo_init 78 = .ok (.aload_n 0, 1) := by decide +kernel
theorem xd_Mo_init_79 : decode xb_Mo_init 79 = .ok (.bipush 72, 2) := by decide +kernel
theorem xd_Mo_init_81 : decode xb_Mo_init 81 = .ok (.newarray .boolean, 2) := by decide +kernel
theorem xd_Mo_init_83 : decode xb_Mo_init 83 = .ok (.putfield 38, 3) := by decide +kernel
theorem xd_Mo_init_86 : decode xb_Mo_init 86 = .ok (.aload_n 0, 1) := by decide +kernel
theorem xd_Mo_init_87 : decode xb_Mo_init 87 = .ok (.bipush 72, 2) := by decide +kernel
theorem xd_Mo_init_89 : decode xb_Mo_init 89 = .ok (.newarray .boolean, 2) := by decide +kernel
theorem xd_Mo_init_91 : decode xb_Mo_init 91 = .ok (.putfield 42, 3) := by decide +kernel
theorem xd_Mo_init_94 : decode xb_Mo_init 94 = .ok (.aload_n 0, 1) := by decide +kernel
theorem xd_Mo_init_95 : decode xb_Mo_init 95 = .ok (.bipush 12, 2) := by decide +kernel
theorem xd_Mo_init_97 : decode xb_Mo_init 97 = .ok (.newarray .boolean, 2) := by decide +kernel
theorem xd_Mo_init_99 : decode xb_Mo_init 99 = .ok (.putfield 45, 3) := by decide +kernel
theorem xd_Mo_init_102 : decode xb_Mo_init 102 = .ok (.aload_n 0, 1) := by decide +kernel
theorem xd_Mo_init_103 : decode xb_Mo_init 103 = .ok (.bipush 12, 2) := by decide +kernel
theorem xd_Mo_init_105 : decode xb_Mo_init 105 = .ok (.newarray .int, 2) := by decide +kernel
theorem xd_Mo_init_107 : decode xb_Mo_init 107 = .ok (.putfield 48, 3) := by decide +kernel
theorem xd_Mo_init_110 : decode xb_Mo_init 110 = .ok (.aload_n 0, 1) := by decide +kernel
theorem xd_Mo_init_111 : decode xb_Mo_init 111 = .ok (.bipush 60, 2) := by decide +kernel
theorem xd_Mo_init_113 : decode xb_Mo_init 113 = .ok (.newarray .int, 2) := by decide +kernel
theorem xd_Mo_init_115 : decode xb_Mo_init 115 = .ok (.putfield 51, 3) := by decide +kernel
theorem xd_Mo_init_118 : decode xb_Mo_init 118 = .ok (.aload_n 0, 1) := by decide +kernel
theorem xd_Mo_init_119 : decode xb_Mo_init 119 = .ok (.bipush 36, 2) := by decide +kernel
theorem xd_Mo_init_121 : decode xb_Mo_init 121 = .ok (.newarray .int, 2) := by decide +kernel
theorem xd_Mo_init_123 : decode xb_Mo_init 123 = .ok (.putfield 54, 3) := by decide +kernel
theorem xd_Mo_init_126 : decode xb_Mo_init 126 = .ok (.aload_n 0, 1) := by decide +kernel
theorem xd_Mo_init_127 : decode xb_Mo_init 127 = .ok (.bipush 36, 2) := by decide +kernel
theorem xd_Mo_init_129 : decode xb_Mo_init 129 = .ok (.newarray .int, 2) := by decide +kernel
theorem xd_Mo_init_131 : decode xb_Mo_init 131 = .ok (.putfield 57, 3) := by decide +kernel
theorem xd_Mo_init_134 : decode xb_Mo_init 134 = .ok (.aload_n 0, 1) := by decide +kernel
theorem xd_Mo_init_135 : decode xb_Mo_init 135 = .ok (.bipush 60, 2) := by decide +kernel
theorem xd_Mo_init_137 : decode xb_Mo_init 137 = .ok (.newarray .boolean, 2) := by decide +kernel
theorem xd_Mo_init_139 : decode xb_Mo_init 139 = .ok (.putfield 60, 3) := by decide +kernel
theorem xd_Mo_init_142 : decode xb_Mo_init 142 = .ok (.aload_n 0, 1) := by decide +kernel
theorem xd_Mo_init_143 : decode xb_Mo_init 143 = .ok (.bipush 60, 2) := by decide +kernel
theorem xd_Mo_init_145 : decode xb_Mo_init 145 = .ok (.newarray .boolean, 2) := by decide +kernel
theorem xd_Mo_init_147 : decode xb_Mo_init 147 = .ok (.putfield 63, 3) := by decide +kernel
theorem xd_Mo_init_150 : decode xb_Mo_init 150 = .ok (.aload_n 0, 1) := by decide +kernel
theorem xd_Mo_init_151 : decode xb_Mo_init 151 = .ok (.bipush 6, 2) := by decide +kernel
theorem xd_Mo_init_153 : decode xb_Mo_init 153 = .ok (.newarray .int, 2) := by decide +kernel
theorem xd_Mo_init_155 : decode xb_Mo_init 155 = .ok (.putfield 66, 3) := by decide +kernel
theorem xd_Mo_init_158 : decode xb_Mo_init 158 = .ok (.aload_n 0, 1) := by decide +kernel
theorem xd_Mo_init_159 : decode xb_Mo_init 159 = .ok (.bipush 6, 2) := by decide +kernel
theorem xd_Mo_init_161 : decode xb_Mo_init 161 = .ok (.newarray .int, 2) := by decide +kernel
theorem xd_Mo_init_163 : decode xb_Mo_init 163 = .ok (.putfield 69, 3) := by decide +kernel
theorem xd_Mo_init_166 : decode xb_Mo_init 166 = .ok (.aload_n 0, 1) := by decide +kernel
theorem xd_Mo_init_167 : decode xb_Mo_init 167 = .ok (.bipush 6, 2) := by decide +kernel
theorem xd_Mo_init_169 : decode xb_Mo_init 169 = .ok (.newarray .int, 2) := by decide +kernel
theorem xd_Mo_init_171 : decode xb_Mo_init 171 = .ok (.putfield 72, 3) := by decide +kernel
theorem xd_Mo_init_174 : decode xb_Mo_init 174 = .ok (.aload_n 0, 1) := by decide +kernel
theorem xd_Mo_init_175 : decode xb_Mo_init 175 = .ok (.bipush 72, 2) := by decide +kernel
theorem xd_Mo_init_177 : decode xb_Mo_init 177 = .ok (.newarray .int, 2) := by decide +kernel
theorem xd_Mo_init_179 : decode xb_Mo_init 179 = .ok (.putfield 75, 3) := by decide +kernel
theorem xd_Mo_init_182 : decode xb_Mo_init 182 = .ok (.aload_n 0, 1) := by decide +kernel
theorem xd_Mo_init_183 : decode xb_Mo_init 183 = .ok (.bipush 6, 2) := by decide +kernel
theorem xd_Mo_init_185 : decode xb_Mo_init 185 = .ok (.newarray .boolean, 2) := by decide +kernel
theorem xd_Mo_init_187 : decode xb_Mo_init 187 = .ok (.putfield 78, 3) := by decide +kernel
theorem xd_Mo_init_190 : decode xb_Mo_init 190 = .ok (.aload_n 0, 1) := by decide +kernel
theorem xd_Mo_init_191 : decode xb_Mo_init 191 = .ok (.bipush 80, 2) := by decide +kernel
theorem xd_Mo_init_193 : decode xb_Mo_init 193 = .ok (.newarray .int, 2) := by decide +kernel
theorem xd_Mo_init_195 : decode xb_Mo_init 195 = .ok (.putfield 81, 3) := by decide +kernel
theorem xd_Mo_init_198 : decode xb_Mo_init 198 = .ok (.aload_n 0, 1) := by decide +kernel
theorem xd_Mo_init_199 : decode xb_Mo_init 199 = .ok (.bipush 72, 2) := by decide +kernel
theorem xd_Mo_init_201 : decode xb_Mo_init 201 = .ok (.newarray .boolean, 2) := by decide +kernel
theorem xd_Mo_init_203 : decode xb_Mo_init 203 = .ok (.putfield 84, 3) := by decide +kernel
theorem xd_Mo_init_206 : decode xb_Mo_init 206 = .ok (.return_, 1) := by decide +kernel
theorem xd_Sh_init_0 : decode xb_Sh_init 0 = .ok (.aload_n 0, 1) := by decide +kernel
theorem xd_Sh_init_1 : decode xb_Sh_init 1 = .ok (.invokespecial 3, 3) := by decide +kernel
theorem xd_Sh_init_4 : decode xb_Sh_init 4 = .ok (.aload_n 0, 1) := by decide +kernel
theorem xd_Sh_init_5 : decode xb_Sh_init 5 = .ok (.bipush 12, 2) := by decide +kernel
theorem xd_Sh_init_7 : decode xb_Sh_init 7 = .ok (.anewarray 9, 3) := by decide +kernel
theorem xd_Sh_init_10 : decode xb_Sh_init 10 = .ok (.putfield 11, 3) := by decide +kernel
theorem xd_Sh_init_13 : decode xb_Sh_init 13 = .ok (.aload_n 0, 1) := by decide +kernel
theorem xd_Sh_init_14 : decode xb_Sh_init 14 = .ok (.iconst 0, 1) := by decide +kernel
theorem xd_Sh_init_15 : decode xb_Sh_init 15 = .ok (.putfield 17, 3) := by decide +kernel
theorem xd_Sh_init_18 : decode xb_Sh_init 18 = .ok (.return_, 1) := by decide +kernel
theorem xk_0 : (Cond.methodLink "LayerDesk$Line" 1 ⟨"java/lang/Object", "<init>", "()V"⟩) ∈ wT := wT_t (List.mem_append_left _ (List.mem_of_getElem? (i := 35) rfl)) rfl
theorem xk_1 : (Cond.instanceMethod ⟨"java/lang/Object", "<init>", "()V"⟩) ∈ wT := wT_t (List.mem_append_left _ (List.mem_of_getElem? (i := 28) rfl)) rfl
theorem xk_2 : (Cond.code ⟨"java/lang/Object", "<init>", "()V"⟩ object_method_1_code 1 none) ∈ wT := wT_t (List.mem_append_left _ (List.mem_of_getElem? (i := 29) rfl)) rfl
theorem xk_3 : (Cond.arrayClass .char) ∈ wT := wT_t (List.mem_append_left _ (List.mem_of_getElem? (i := 54) rfl)) rfl
theorem xk_4 : (Cond.fieldLink "LayerDesk$Line" 9 "LayerDesk$Line" "text" "[C") ∈ wT := wT_t (List.mem_append_left _ (List.mem_of_getElem? (i := 36) rfl)) rfl
theorem xk_5 : (Cond.arrayClass .int) ∈ wT := wT_t (List.mem_append_left _ (List.mem_of_getElem? (i := 55) rfl)) rfl
theorem xk_6 : (Cond.fieldLink "LayerDesk$Line" 13 "LayerDesk$Line" "starts" "[I") ∈ wT := wT_t (List.mem_append_left _ (List.mem_of_getElem? (i := 37) rfl)) rfl
theorem xk_7 : (Cond.fieldLink "LayerDesk$Line" 17 "LayerDesk$Line" "ends" "[I") ∈ wT := wT_t (List.mem_append_left _ (List.mem_of_getElem? (i := 38) rfl)) rfl
theorem xk_8 : (Cond.fieldLink "LayerDesk$Line" 20 "LayerDesk$Line" "length" "I") ∈ wT := wT_t (List.mem_append_left _ (List.mem_of_getElem? (i := 39) rfl)) rfl
theorem xk_9 : (Cond.fieldLink "LayerDesk$Line" 24 "LayerDesk$Line" "words" "I") ∈ wT := wT_t (List.mem_append_left _ (List.mem_of_getElem? (i := 40) rfl)) rfl
theorem xk_10 : (Cond.methodLink "LayerDesk$Shelf" 3 ⟨"java/lang/Object", "<init>", "()V"⟩) ∈ wT := wT_t (List.mem_append_left _ (List.mem_of_getElem? (i := 61) rfl)) rfl
theorem xk_11 : (Cond.classLink "LayerDesk$Shelf" 9 "LayerDesk$Descriptor") ∈ wT := wT_t (List.mem_append_left _ (List.mem_of_getElem? (i := 62) rfl)) rfl
theorem xk_12 : (Cond.fieldLink "LayerDesk$Shelf" 11 "LayerDesk$Shelf" "descriptors" "[LLayerDesk$Descriptor;") ∈ wT := wT_t (List.mem_append_left _ (List.mem_of_getElem? (i := 64) rfl)) rfl
theorem xk_13 : (Cond.fieldLink "LayerDesk$Shelf" 17 "LayerDesk$Shelf" "size" "I") ∈ wT := wT_t (List.mem_append_left _ (List.mem_of_getElem? (i := 66) rfl)) rfl
theorem xk_14 : (Cond.methodLink "LayerDesk$Chooser" 3 ⟨"java/lang/Object", "<init>", "()V"⟩) ∈ wT := wT_t (List.mem_append_left _ (List.mem_of_getElem? (i := 79) rfl)) rfl
theorem xk_15 : (Cond.classLink "LayerDesk$Chooser" 9 "LayerDesk$Descriptor") ∈ wT := wT_t (List.mem_append_left _ (List.mem_of_getElem? (i := 80) rfl)) rfl
theorem xk_16 : (Cond.fieldLink "LayerDesk$Chooser" 11 "LayerDesk$Chooser" "chosen" "[LLayerDesk$Descriptor;") ∈ wT := wT_t (List.mem_append_left _ (List.mem_of_getElem? (i := 82) rfl)) rfl
theorem xk_17 : (Cond.fieldLink "LayerDesk$Chooser" 17 "LayerDesk$Chooser" "size" "I") ∈ wT := wT_t (List.mem_append_left _ (List.mem_of_getElem? (i := 83) rfl)) rfl
theorem xk_18 : (Cond.fieldLink "LayerDesk$Chooser" 21 "LayerDesk$Chooser" "finder" "I") ∈ wT := wT_t (List.mem_append_left _ (List.mem_of_getElem? (i := 84) rfl)) rfl
theorem xk_19 : (Cond.fieldLink "LayerDesk$Chooser" 24 "LayerDesk$Chooser" "parent" "LLayerDesk$Layer;") ∈ wT := wT_t (List.mem_append_left _ (List.mem_of_getElem? (i := 85) rfl)) rfl
theorem xk_20 : (Cond.fieldLink "LayerDesk$Chooser" 28 "LayerDesk$Chooser" "shelf" "LLayerDesk$Shelf;") ∈ wT := wT_t (List.mem_append_left _ (List.mem_of_getElem? (i := 81) rfl)) rfl
theorem xk_21 : (Cond.methodLink "LayerDesk" 1 ⟨"java/lang/Object", "<init>", "()V"⟩) ∈ wT := wT_t (List.mem_append_left _ (List.mem_of_getElem? (i := 27) rfl)) rfl
theorem xk_22 : (Cond.classLink "LayerDesk" 7 "LayerDesk$Line") ∈ wT := wT_t (List.mem_append_left _ (List.mem_of_getElem? (i := 30) rfl)) rfl
theorem xk_23 : (Cond.instantiable "LayerDesk$Line" 5) ∈ wT := wT_t (List.mem_append_left _ (List.mem_of_getElem? (i := 31) rfl)) rfl
theorem xk_24 : (Cond.initialized "LayerDesk$Line") ∈ wT := wT_t (List.mem_append_left _ (List.mem_of_getElem? (i := 2) rfl)) rfl
theorem xk_25 : (Cond.code xy_Li_init xb_Li_init 1 none) ∈ wT := wT_t (List.mem_append_left _ (List.mem_of_getElem? (i := 34) rfl)) rfl
theorem xk_26 : (Cond.instanceMethod xy_Li_init) ∈ wT := wT_t (List.mem_append_left _ (List.mem_of_getElem? (i := 33) rfl)) rfl
theorem xk_27 : (Cond.fieldLink "LayerDesk" 10 "LayerDesk" "written" "LLayerDesk$Line;") ∈ wT := wT_t (List.mem_append_left _ (List.mem_of_getElem? (i := 99) rfl)) rfl
theorem xk_28 : (Cond.classLink "LayerDesk" 16 "LayerDesk$Shelf") ∈ wT := wT_t (List.mem_append_left _ (List.mem_of_getElem? (i := 56) rfl)) rfl
theorem xk_29 : (Cond.instantiable "LayerDesk$Shelf" 2) ∈ wT := wT_t (List.mem_append_left _ (List.mem_of_getElem? (i := 57) rfl)) rfl
theorem xk_30 : (Cond.initialized "LayerDesk$Shelf") ∈ wT := wT_t (List.mem_append_left _ (List.mem_of_getElem? (i := 3) rfl)) rfl
theorem xk_31 : (Cond.code xy_Sh_init xb_Sh_init 1 none) ∈ wT := wT_t (List.mem_append_left _ (List.mem_of_getElem? (i := 60) rfl)) rfl
theorem xk_32 : (Cond.instanceMethod xy_Sh_init) ∈ wT := wT_t (List.mem_append_left _ (List.mem_of_getElem? (i := 59) rfl)) rfl
theorem xk_33 : (Cond.fieldLink "LayerDesk" 19 "LayerDesk" "shelf" "LLayerDesk$Shelf;") ∈ wT := wT_t (List.mem_append_left _ (List.mem_of_getElem? (i := 100) rfl)) rfl
theorem xk_34 : (Cond.classLink "LayerDesk" 23 "LayerDesk$Chooser") ∈ wT := wT_t (List.mem_append_left _ (List.mem_of_getElem? (i := 74) rfl)) rfl
theorem xk_35 : (Cond.instantiable "LayerDesk$Chooser" 5) ∈ wT := wT_t (List.mem_append_left _ (List.mem_of_getElem? (i := 75) rfl)) rfl
theorem xk_36 : (Cond.initialized "LayerDesk$Chooser") ∈ wT := wT_t (List.mem_append_left _ (List.mem_of_getElem? (i := 4) rfl)) rfl
theorem xk_37 : (Cond.code xy_Ch_init xb_Ch_init 2 none) ∈ wT := wT_t (List.mem_append_left _ (List.mem_of_getElem? (i := 78) rfl)) rfl
theorem xk_38 : (Cond.methodLink "LayerDesk" 25 xy_Ch_init) ∈ wT := wT_t (List.mem_append_left _ (List.mem_of_getElem? (i := 76) rfl)) rfl
theorem xk_39 : (Cond.instanceMethod xy_Ch_init) ∈ wT := wT_t (List.mem_append_left _ (List.mem_of_getElem? (i := 77) rfl)) rfl
theorem xk_40 : (Cond.fieldLink "LayerDesk" 28 "LayerDesk" "chooser" "LLayerDesk$Chooser;") ∈ wT := wT_t (List.mem_append_left _ (List.mem_of_getElem? (i := 101) rfl)) rfl
theorem xk_41 : (Cond.classLink "LayerDesk" 32 "LayerDesk$Layer") ∈ wT := wT_t (List.mem_append_left _ (List.mem_of_getElem? (i := 97) rfl)) rfl
theorem xk_42 : (Cond.fieldLink "LayerDesk" 34 "LayerDesk" "layers" "[LLayerDesk$Layer;") ∈ wT := wT_t (List.mem_append_left _ (List.mem_of_getElem? (i := 102) rfl)) rfl
theorem xk_43 : (Cond.fieldLink "LayerDesk" 38 "LayerDesk" "made" "I") ∈ wT := wT_t (List.mem_append_left _ (List.mem_of_getElem? (i := 103) rfl)) rfl
theorem xk_44 : (Cond.fieldLink "LayerDesk" 42 "LayerDesk" "latestFault" "I") ∈ wT := wT_t (List.mem_append_left _ (List.mem_of_getElem? (i := 104) rfl)) rfl
theorem xk_45 : (Cond.methodLink "LayerDeskModel" 1 ⟨"java/lang/Object", "<init>", "()V"⟩) ∈ wT := wT_t (List.mem_append_right _ (List.mem_append_right _ (List.mem_append_right _ (List.mem_append_left _ (List.mem_of_getElem? (i := 83) rfl))))) rfl
theorem xk_46 : (Cond.fieldLink "LayerDeskModel" 7 "LayerDeskModel" "text" "[C") ∈ wT := wT_t (List.mem_append_right _ (List.mem_append_right _ (List.mem_append_right _ (List.mem_append_left _ (List.mem_of_getElem? (i := 86) rfl))))) rfl
theorem xk_47 : (Cond.fieldLink "LayerDeskModel" 13 "LayerDeskModel" "begin" "[I") ∈ wT := wT_t (List.mem_append_right _ (List.mem_append_right _ (List.mem_append_right _ (List.mem_append_left _ (List.mem_of_getElem? (i := 89) rfl))))) rfl
theorem xk_48 : (Cond.fieldLink "LayerDeskModel" 17 "LayerDeskModel" "end" "[I") ∈ wT := wT_t (List.mem_append_right _ (List.mem_append_right _ (List.mem_append_right _ (List.mem_append_left _ (List.mem_of_getElem? (i := 90) rfl))))) rfl
theorem xk_49 : (Cond.fieldLink "LayerDeskModel" 20 "LayerDeskModel" "finder" "[I") ∈ wT := wT_t (List.mem_append_right _ (List.mem_append_right _ (List.mem_append_right _ (List.mem_append_left _ (List.mem_of_getElem? (i := 92) rfl))))) rfl
theorem xk_50 : (Cond.fieldLink "LayerDeskModel" 23 "LayerDeskModel" "name" "[I") ∈ wT := wT_t (List.mem_append_right _ (List.mem_append_right _ (List.mem_append_right _ (List.mem_append_left _ (List.mem_of_getElem? (i := 93) rfl))))) rfl
theorem xk_51 : (Cond.fieldLink "LayerDeskModel" 26 "LayerDeskModel" "packages" "[I") ∈ wT := wT_t (List.mem_append_right _ (List.mem_append_right _ (List.mem_append_right _ (List.mem_append_left _ (List.mem_of_getElem? (i := 94) rfl))))) rfl
theorem xk_52 : (Cond.fieldLink "LayerDeskModel" 29 "LayerDeskModel" "pack" "[I") ∈ wT := wT_t (List.mem_append_right _ (List.mem_append_right _ (List.mem_append_right _ (List.mem_append_left _ (List.mem_of_getElem? (i := 95) rfl))))) rfl
theorem xk_53 : (Cond.fieldLink "LayerDeskModel" 32 "LayerDeskModel" "exportTo" "[I") ∈ wT := wT_t (List.mem_append_right _ (List.mem_append_right _ (List.mem_append_right _ (List.mem_append_left _ (List.mem_of_getElem? (i := 96) rfl))))) rfl
theorem xk_54 : (Cond.fieldLink "LayerDeskModel" 35 "LayerDeskModel" "openTo" "[I") ∈ wT := wT_t (List.mem_append_right _ (List.mem_append_right _ (List.mem_append_right _ (List.mem_append_left _ (List.mem_of_getElem? (i := 97) rfl))))) rfl
theorem xk_55 : (Cond.arrayClass .boolean) ∈ wT := wT_t (List.mem_append_right _ (List.mem_append_left _ (List.mem_of_getElem? (i := 110) rfl))) rfl
theorem xk_56 : (Cond.fieldLink "LayerDeskModel" 38 "LayerDeskModel" "exportAll" "[Z") ∈ wT := wT_t (List.mem_append_right _ (List.mem_append_right _ (List.mem_append_right _ (List.mem_append_left _ (List.mem_of_getElem? (i := 98) rfl))))) rfl
theorem xk_57 : (Cond.fieldLink "LayerDeskModel" 42 "LayerDeskModel" "openAll" "[Z") ∈ wT := wT_t (List.mem_append_right _ (List.mem_append_right _ (List.mem_append_right _ (List.mem_append_left _ (List.mem_of_getElem? (i := 99) rfl))))) rfl
theorem xk_58 : (Cond.fieldLink "LayerDeskModel" 45 "LayerDeskModel" "locked" "[Z") ∈ wT := wT_t (List.mem_append_right _ (List.mem_append_right _ (List.mem_append_right _ (List.mem_append_left _ (List.mem_of_getElem? (i := 100) rfl))))) rfl
theorem xk_59 : (Cond.fieldLink "LayerDeskModel" 48 "LayerDeskModel" "requires" "[I") ∈ wT := wT_t (List.mem_append_right _ (List.mem_append_right _ (List.mem_append_right _ (List.mem_append_left _ (List.mem_of_getElem? (i := 101) rfl))))) rfl
theorem xk_60 : (Cond.fieldLink "LayerDeskModel" 51 "LayerDeskModel" "require" "[I") ∈ wT := wT_t (List.mem_append_right _ (List.mem_append_right _ (List.mem_append_right _ (List.mem_append_left _ (List.mem_of_getElem? (i := 102) rfl))))) rfl
theorem xk_61 : (Cond.fieldLink "LayerDeskModel" 54 "LayerDeskModel" "use" "[I") ∈ wT := wT_t (List.mem_append_right _ (List.mem_append_right _ (List.mem_append_right _ (List.mem_append_left _ (List.mem_of_getElem? (i := 103) rfl))))) rfl
theorem xk_62 : (Cond.fieldLink "LayerDeskModel" 57 "LayerDeskModel" "provide" "[I") ∈ wT := wT_t (List.mem_append_right _ (List.mem_append_right _ (List.mem_append_right _ (List.mem_append_left _ (List.mem_of_getElem? (i := 104) rfl))))) rfl
theorem xk_63 : (Cond.fieldLink "LayerDeskModel" 60 "LayerDeskModel" "passes" "[Z") ∈ wT := wT_t (List.mem_append_right _ (List.mem_append_right _ (List.mem_append_right _ (List.mem_append_left _ (List.mem_of_getElem? (i := 105) rfl))))) rfl
theorem xk_64 : (Cond.fieldLink "LayerDeskModel" 63 "LayerDeskModel" "still" "[Z") ∈ wT := wT_t (List.mem_append_right _ (List.mem_append_right _ (List.mem_append_right _ (List.mem_append_left _ (List.mem_of_getElem? (i := 106) rfl))))) rfl
theorem xk_65 : (Cond.fieldLink "LayerDeskModel" 66 "LayerDeskModel" "finderOf" "[I") ∈ wT := wT_t (List.mem_append_right _ (List.mem_append_right _ (List.mem_append_right _ (List.mem_append_left _ (List.mem_of_getElem? (i := 108) rfl))))) rfl
theorem xk_66 : (Cond.fieldLink "LayerDeskModel" 69 "LayerDeskModel" "parent" "[I") ∈ wT := wT_t (List.mem_append_right _ (List.mem_append_right _ (List.mem_append_right _ (List.mem_append_left _ (List.mem_of_getElem? (i := 109) rfl))))) rfl
theorem xk_67 : (Cond.fieldLink "LayerDeskModel" 72 "LayerDeskModel" "modules" "[I") ∈ wT := wT_t (List.mem_append_right _ (List.mem_append_right _ (List.mem_append_right _ (List.mem_append_left _ (List.mem_of_getElem? (i := 110) rfl))))) rfl
theorem xk_68 : (Cond.fieldLink "LayerDeskModel" 75 "LayerDeskModel" "module" "[I") ∈ wT := wT_t (List.mem_append_right _ (List.mem_append_right _ (List.mem_append_right _ (List.mem_append_left _ (List.mem_of_getElem? (i := 111) rfl))))) rfl
theorem xk_69 : (Cond.fieldLink "LayerDeskModel" 78 "LayerDeskModel" "open" "[Z") ∈ wT := wT_t (List.mem_append_right _ (List.mem_append_right _ (List.mem_append_right _ (List.mem_append_left _ (List.mem_of_getElem? (i := 112) rfl))))) rfl
theorem xk_70 : (Cond.fieldLink "LayerDeskModel" 81 "LayerDeskModel" "stack" "[I") ∈ wT := wT_t (List.mem_append_right _ (List.mem_append_right _ (List.mem_append_right _ (List.mem_append_left _ (List.mem_of_getElem? (i := 113) rfl))))) rfl
theorem xk_71 : (Cond.fieldLink "LayerDeskModel" 84 "LayerDeskModel" "seen" "[Z") ∈ wT := wT_t (List.mem_append_right _ (List.mem_append_right _ (List.mem_append_right _ (List.mem_append_left _ (List.mem_of_getElem? (i := 114) rfl))))) rfl
