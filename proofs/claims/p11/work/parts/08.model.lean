abbrev xb_Mo_descriptorOf : ByteArray := prog_12_method_12_code
def xy_Mo_descriptorOf : MethodName := ⟨"LayerDeskModel", "descriptorOf", "(II)I"⟩
abbrev xb_Mo_isShut : ByteArray := prog_12_method_13_code
def xy_Mo_isShut : MethodName := ⟨"LayerDeskModel", "isShut", "()Z"⟩
abbrev xb_Mo_packageOf : ByteArray := prog_12_method_14_code
def xy_Mo_packageOf : MethodName := ⟨"LayerDeskModel", "packageOf", "(II)I"⟩
abbrev xb_Mo_isIn : ByteArray := prog_12_method_20_code
def xy_Mo_isIn : MethodName := ⟨"LayerDeskModel", "isIn", "(II)Z"⟩
abbrev xb_Mo_letter : ByteArray := prog_12_method_6_code
def xy_Mo_letter : MethodName := ⟨"LayerDeskModel", "letter", "(II)C"⟩
abbrev xb_Mo_nameOf : ByteArray := prog_12_method_7_code
def xy_Mo_nameOf : MethodName := ⟨"LayerDeskModel", "nameOf", "(I)I"⟩
abbrev xb_Mo_says : ByteArray := prog_12_method_8_code
def xy_Mo_says : MethodName := ⟨"LayerDeskModel", "says", "(III)Z"⟩
abbrev xb_Mo_code : ByteArray := prog_12_method_9_code
def xy_Mo_code : MethodName := ⟨"LayerDeskModel", "code", "(IIIII)I"⟩
abbrev xb_Mo_split : ByteArray := prog_12_method_5_code
def xy_Mo_split : MethodName := ⟨"LayerDeskModel", "split", "()V"⟩
abbrev xb_Mo_newDescriptor : ByteArray := prog_12_method_11_code
def xy_Mo_newDescriptor : MethodName := ⟨"LayerDeskModel", "newDescriptor", "()I"⟩
theorem xd_Mo_code_0 : decode xb_Mo_code 0 = .ok (.iload_n 0, 1) := by decide +kernel
theorem xd_Mo_code_1 : decode xb_Mo_code 1 = .ok (.bipush 96, 2) := by decide +kernel
theorem xd_Mo_code_3 : decode xb_Mo_code 3 = .ok (.isub, 1) := by decide +kernel
theorem xd_Mo_code_4 : decode xb_Mo_code 4 = .ok (.istore 5, 2) := by decide +kernel
theorem xd_Mo_code_6 : decode xb_Mo_code 6 = .ok (.iload_n 1, 1) := by decide +kernel
theorem xd_Mo_code_7 : decode xb_Mo_code 7 = .ok (.ifCond .ne 8, 3) := by decide +kernel
theorem xd_Mo_code_10 : decode xb_Mo_code 10 = .ok (.iload 5, 2) := by decide +kernel
theorem xd_Mo_code_12 : decode xb_Mo_code 12 = .ok (.goto 13, 3) := by decide +kernel
theorem xd_Mo_code_15 : decode xb_Mo_code 15 = .ok (.bipush 32, 2) := by decide +kernel
theorem xd_Mo_code_17 : decode xb_Mo_code 17 = .ok (.iload 5, 2) := by decide +kernel
theorem xd_Mo_code_19 : decode xb_Mo_code 19 = .ok (.imul, 1) := by decide +kernel
theorem xd_Mo_code_20 : decode xb_Mo_code 20 = .ok (.iload_n 1, 1) := by decide +kernel
theorem xd_Mo_code_21 : decode xb_Mo_code 21 = .ok (.iadd, 1) := by decide +kernel
theorem xd_Mo_code_22 : decode xb_Mo_code 22 = .ok (.bipush 96, 2) := by decide +kernel
theorem xd_Mo_code_24 : decode xb_Mo_code 24 = .ok (.isub, 1) := by decide +kernel
theorem xd_Mo_code_25 : decode xb_Mo_code 25 = .ok (.istore 5, 2) := by decide +kernel
theorem xd_Mo_code_27 : decode xb_Mo_code 27 = .ok (.iload_n 2, 1) := by decide +kernel
theorem xd_Mo_code_28 : decode xb_Mo_code 28 = .ok (.ifCond .ne 8, 3) := by decide +kernel
theorem xd_Mo_code_31 : decode xb_Mo_code 31 = .ok (.iload 5, 2) := by decide +kernel
theorem xd_Mo_code_33 : decode xb_Mo_code 33 = .ok (.goto 13, 3) := by decide +kernel
theorem xd_Mo_code_36 : decode xb_Mo_code 36 = .ok (.bipush 32, 2) := by decide +kernel
theorem xd_Mo_code_38 : decode xb_Mo_code 38 = .ok (.iload 5, 2) := by decide +kernel
theorem xd_Mo_code_40 : decode xb_Mo_code 40 = .ok (.imul, 1) := by decide +kernel
theorem xd_Mo_code_41 : decode xb_Mo_code 41 = .ok (.iload_n 2, 1) := by decide +kernel
theorem xd_Mo_code_42 : decode xb_Mo_code 42 = .ok (.iadd, 1) := by decide +kernel
theorem xd_Mo_code_43 : decode xb_Mo_code 43 = .ok (.bipush 96, 2) := by decide +kernel
theorem xd_Mo_code_45 : decode xb_Mo_code 45 = .ok (.isub, 1) := by decide +kernel
theorem xd_Mo_code_46 : decode xb_Mo_code 46 = .ok (.istore 5, 2) := by decide +kernel
theorem xd_Mo_code_48 : decode xb_Mo_code 48 = .ok (.iload_n 3, 1) := by decide +kernel
theorem xd_Mo_code_49 : decode xb_Mo_code 49 = .ok (.ifCond .ne 8, 3) := by decide +kernel
theorem xd_Mo_code_52 : decode xb_Mo_code 52 = .ok (.iload 5, 2) := by decide +kernel
theorem xd_Mo_code_54 : decode xb_Mo_code 54 = .ok (.goto 13, 3) := by decide +kernel
theorem xd_Mo_code_57 : decode xb_Mo_code 57 = .ok (.bipush 32, 2) := by decide +kernel
theorem xd_Mo_code_59 : decode xb_Mo_code 59 = .ok (.iload 5, 2) := by decide +kernel
theorem xd_Mo_code_61 : decode xb_Mo_code 61 = .ok (.imul, 1) := by decide +kernel
theorem xd_Mo_code_62 : decode xb_Mo_code 62 = .ok (.iload_n 3, 1) := by decide +kernel
theorem xd_Mo_code_63 : decode xb_Mo_code 63 = .ok (.iadd, 1) := by decide +kernel
theorem xd_Mo_code_64 : decode xb_Mo_code 64 = .ok (.bipush 96, 2) := by decide +kernel
theorem xd_Mo_code_66 : decode xb_Mo_code 66 = .ok (.isub, 1) := by decide +kernel
theorem xd_Mo_code_67 : decode xb_Mo_code 67 = .ok (.istore 5, 2) := by decide +kernel
theorem xd_Mo_code_69 : decode xb_Mo_code 69 = .ok (.iload 4, 2) := by decide +kernel
theorem xd_Mo_code_71 : decode xb_Mo_code 71 = .ok (.ifCond .ne 8, 3) := by decide +kernel
theorem xd_Mo_code_74 : decode xb_Mo_code 74 = .ok (.iload 5, 2) := by decide +kernel
theorem xd_Mo_code_76 : decode xb_Mo_code 76 = .ok (.goto 14, 3) := by decide +kernel
theorem xd_Mo_code_79 : decode xb_Mo_code 79 = .ok (.bipush 32, 2) := by decide +kernel
theorem xd_Mo_code_81 : decode xb_Mo_code 81 = .ok (.iload 5, 2) := by decide +kernel
theorem xd_Mo_code_83 : decode xb_Mo_code 83 = .ok (.imul, 1) := by decide +kernel
theorem xd_Mo_code_84 : decode xb_Mo_code 84 = .ok (.iload 4, 2) := by decide +kernel
theorem xd_Mo_code_86 : decode xb_Mo_code 86 = .ok (.iadd, 1) := by decide +kernel
theorem xd_Mo_code_87 : decode xb_Mo_code 87 = .ok (.bipush 96, 2) := by decide +kernel
theorem xd_Mo_code_89 : decode xb_Mo_code 89 = .ok (.isub, 1) := by decide +kernel
theorem xd_Mo_code_90 : decode xb_Mo_code 90 = .ok (.ireturn, 1) := by decide +kernel
theorem xd_Mo_descriptorOf_0 : decode xb_Mo_descriptorOf 0 = .ok (.iconst 0, 1) := by decide +kernel
theorem xd_Mo_descriptorOf_1 : decode xb_Mo_descriptorOf 1 = .ok (.istore_n 3, 1) := by decide +kernel
theorem xd_Mo_descriptorOf_2 : decode xb_Mo_descriptorOf 2 = .ok (.iload_n 3, 1) := by decide +kernel
theorem xd_Mo_descriptorOf_3 : decode xb_Mo_descriptorOf 3 = .ok (.aload_n 0, 1) := by decide +kernel
theorem xd_Mo_descriptorOf_4 : decode xb_Mo_descriptorOf 4 = .ok (.getfield 140, 3) := by decide +kernel
theorem xd_Mo_descriptorOf_7 : decode xb_Mo_descriptorOf 7 = .ok (.if_icmp .ge 31, 3) := by decide +kernel
theorem xd_Mo_descriptorOf_10 : decode xb_Mo_descriptorOf 10 = .ok (.aload_n 0, 1) := by decide +kernel
theorem xd_Mo_descriptorOf_11 : decode xb_Mo_descriptorOf 11 = .ok (.getfield 20, 3) := by decide +kernel
theorem xd_Mo_descriptorOf_14 : decode xb_Mo_descriptorOf 14 = .ok (.iload_n 3, 1) := by decide +kernel
theorem xd_Mo_descriptorOf_15 : decode xb_Mo_descriptorOf 15 = .ok (.iaload, 1) := by decide +kernel
theorem xd_Mo_descriptorOf_16 : decode xb_Mo_descriptorOf 16 = .ok (.iload_n 1, 1) := by decide +kernel
theorem xd_Mo_descriptorOf_17 : decode xb_Mo_descriptorOf 17 = .ok (.if_icmp .ne 15, 3) := by decide +kernel
theorem xd_Mo_descriptorOf_20 : decode xb_Mo_descriptorOf 20 = .ok (.aload_n 0, 1) := by decide +kernel
theorem xd_Mo_descriptorOf_21 : decode xb_Mo_descriptorOf 21 = .ok (.getfield 23, 3) := by decide +kernel
theorem xd_Mo_descriptorOf_24 : decode xb_Mo_descriptorOf 24 = .ok (.iload_n 3, 1) := by decide +kernel
theorem xd_Mo_descriptorOf_25 : decode xb_Mo_descriptorOf 25 = .ok (.iaload, 1) := by decide +kernel
theorem xd_Mo_descriptorOf_26 : decode xb_Mo_descriptorOf 26 = .ok (.iload_n 2, 1) := by decide +kernel
theorem xd_Mo_descriptorOf_27 : decode xb_Mo_descriptorOf 27 = .ok (.if_icmp .ne 5, 3) := by decide +kernel
theorem xd_Mo_descriptorOf_30 : decode xb_Mo_descriptorOf 30 = .ok (.iload_n 3, 1) := by decide +kernel
theorem xd_Mo_descriptorOf_31 : decode xb_Mo_descriptorOf 31 = .ok (.ireturn, 1) := by decide +kernel
theorem xd_Mo_descriptorOf_32 : decode xb_Mo_descriptorOf 32 = .ok (.iinc 3 1, 3) := by decide +kernel
theorem xd_Mo_descriptorOf_35 : decode xb_Mo_descriptorOf 35 = .ok (.goto (-33), 3) := by decide +kernel
theorem xd_Mo_descriptorOf_38 : decode xb_Mo_descriptorOf 38 = .ok (.iconst (-1), 1) := by decide +kernel
theorem xd_Mo_descriptorOf_39 : decode xb_Mo_descriptorOf 39 = .ok (.ireturn, 1) := by decide +kernel
theorem xd_Mo_isIn_0 : decode xb_Mo_isIn 0 = .ok (.iconst 0, 1) := by decide +kernel
theorem xd_Mo_isIn_1 : decode xb_Mo_isIn 1 = .ok (.istore_n 3, 1) := by decide +kernel
theorem xd_Mo_isIn_2 : decode xb_Mo_isIn 2 = .ok (.bipush 12, 2) := by decide +kernel
theorem xd_Mo_isIn_4 : decode xb_Mo_isIn 4 = .ok (.iload_n 1, 1) := by decide +kernel
theorem xd_Mo_isIn_5 : decode xb_Mo_isIn 5 = .ok (.imul, 1) := by decide +kernel
theorem xd_Mo_isIn_6 : decode xb_Mo_isIn 6 = .ok (.istore 4, 2) := by decide +kernel
theorem xd_Mo_isIn_8 : decode xb_Mo_isIn 8 = .ok (.iload 4, 2) := by decide +kernel
theorem xd_Mo_isIn_10 : decode xb_Mo_isIn 10 = .ok (.bipush 12, 2) := by decide +kernel
theorem xd_Mo_isIn_12 : decode xb_Mo_isIn 12 = .ok (.iload_n 1, 1) := by decide +kernel
theorem xd_Mo_isIn_13 : decode xb_Mo_isIn 13 = .ok (.imul, 1) := by decide +kernel
theorem xd_Mo_isIn_14 : decode xb_Mo_isIn 14 = .ok (.aload_n 0, 1) := by decide +kernel
theorem xd_Mo_isIn_15 : decode xb_Mo_isIn 15 = .ok (.getfield 72, 3) := by decide +kernel
theorem xd_Mo_isIn_18 : decode xb_Mo_isIn 18 = .ok (.iload_n 1, 1) := by decide +kernel
theorem xd_Mo_isIn_19 : decode xb_Mo_isIn 19 = .ok (.iaload, 1) := by decide +kernel
theorem xd_Mo_isIn_20 : decode xb_Mo_isIn 20 = .ok (.iadd, 1) := by decide +kernel
theorem xd_Mo_isIn_21 : decode xb_Mo_isIn 21 = .ok (.if_icmp .ge 30, 3) := by decide +kernel
theorem xd_Mo_isIn_24 : decode xb_Mo_isIn 24 = .ok (.iload_n 3, 1) := by decide +kernel
theorem xd_Mo_isIn_25 : decode xb_Mo_isIn 25 = .ok (.ifCond .ne 14, 3) := by decide +kernel
theorem xd_Mo_isIn_28 : decode xb_Mo_isIn 28 = .ok (.aload_n 0, 1) := by decide +kernel
theorem xd_Mo_isIn_29 : decode xb_Mo_isIn 29 = .ok (.getfield 75, 3) := by decide +kernel
theorem xd_Mo_isIn_32 : decode xb_Mo_isIn 32 = .ok (.iload 4, 2) := by decide +kernel
theorem xd_Mo_isIn_34 : decode xb_Mo_isIn 34 = .ok (.iaload, 1) := by decide +kernel
theorem xd_Mo_isIn_35 : decode xb_Mo_isIn 35 = .ok (.iload_n 2, 1) := by decide +kernel
theorem xd_Mo_isIn_36 : decode xb_Mo_isIn 36 = .ok (.if_icmp .ne 7, 3) := by decide +kernel
theorem xd_Mo_isIn_39 : decode xb_Mo_isIn 39 = .ok (.iconst 1, 1) := by decide +kernel
theorem xd_Mo_isIn_40 : decode xb_Mo_isIn 40 = .ok (.goto 4, 3) := by decide +kernel
theorem xd_Mo_isIn_43 : decode xb_Mo_isIn 43 = .ok (.iconst 0, 1) := by decide +kernel
theorem xd_Mo_isIn_44 : decode xb_Mo_isIn 44 = .ok (.istore_n 3, 1) := by decide +kernel
theorem xd_Mo_isIn_45 : decode xb_Mo_isIn 45 = .ok (.iinc 4 1, 3) := by decide +kernel
theorem xd_Mo_isIn_48 : decode xb_Mo_isIn 48 = .ok (.goto (-40), 3) := by decide +kernel
theorem xd_Mo_isIn_51 : decode xb_Mo_isIn 51 = .ok (.iload_n 3, 1) := by decide +kernel
theorem xd_Mo_isIn_52 : decode xb_Mo_isIn 52 = .ok (.ireturn, 1) := by decide +kernel
theorem xd_Mo_isShut_0 : decode xb_Mo_isShut 0 = .ok (.aload_n 0, 1) := by decide +kernel
theorem xd_Mo_isShut_1 : decode xb_Mo_isShut 1 = .ok (.getfield 140, 3) := by decide +kernel
theorem xd_Mo_isShut_4 : decode xb_Mo_isShut 4 = .ok (.ifCond .eq 17, 3) := by decide +kernel
theorem xd_Mo_isShut_7 : decode xb_Mo_isShut 7 = .ok (.aload_n 0, 1) := by decide +kernel
theorem xd_Mo_isShut_8 : decode xb_Mo_isShut 8 = .ok (.getfield 45, 3) := by decide +kernel
theorem xd_Mo_isShut_11 : decode xb_Mo_isShut 11 = .ok (.aload_n 0, 1) := by decide +kernel
theorem xd_Mo_isShut_12 : decode xb_Mo_isShut 12 = .ok (.getfield 140, 3) := by decide +kernel
theorem xd_Mo_isShut_15 : decode xb_Mo_isShut 15 = .ok (.iconst 1, 1) := by decide +kernel
theorem xd_Mo_isShut_16 : decode xb_Mo_isShut 16 = .ok (.isub, 1) := by decide +kernel
theorem xd_Mo_isShut_17 : decode xb_Mo_isShut 17 = .ok (.baload, 1) := by decide +kernel
theorem xd_Mo_isShut_18 : decode xb_Mo_isShut 18 = .ok (.ifCond .eq 7, 3) := by decide +kernel
theorem xd_Mo_isShut_21 : decode xb_Mo_isShut 21 = .ok (.iconst 1, 1) := by decide +kernel
theorem xd_Mo_isShut_22 : decode xb_Mo_isShut 22 = .ok (.goto 4, 3) := by decide +kernel
theorem xd_Mo_isShut_25 : decode xb_Mo_isShut 25 = .ok (.iconst 0, 1) := by decide +kernel
theorem xd_Mo_isShut_26 : decode xb_Mo_isShut 26 = .ok (.ireturn, 1) := by decide +kernel
theorem xd_Mo_letter_0 : decode xb_Mo_letter 0 = .ok (.aload_n 0, 1) := by decide +kernel
theorem xd_Mo_letter_1 : decode xb_Mo_letter 1 = .ok (.getfield 13, 3) := by decide +kernel
theorem xd_Mo_letter_4 : decode xb_Mo_letter 4 = .ok (.iload_n 1, 1) := by decide +kernel
theorem xd_Mo_letter_5 : decode xb_Mo_letter 5 = .ok (.iaload, 1) := by decide +kernel
theorem xd_Mo_letter_6 : decode xb_Mo_letter 6 = .ok (.iload_n 2, 1) := by decide +kernel
theorem xd_Mo_letter_7 : decode xb_Mo_letter 7 = .ok (.iadd, 1) := by decide +kernel
theorem xd_Mo_letter_8 : decode xb_Mo_letter 8 = .ok (.aload_n 0, 1) := by decide +kernel
theorem xd_Mo_letter_9 : decode xb_Mo_letter 9 = .ok (.getfield 17, 3) := by decide +kernel
theorem xd_Mo_letter_12 : decode xb_Mo_letter 12 = .ok (.iload_n 1, 1) := by decide +kernel
theorem xd_Mo_letter_13 : decode xb_Mo_letter 13 = .ok (.iaload, 1) := by decide +kernel
theorem xd_Mo_letter_14 : decode xb_Mo_letter 14 = .ok (.if_icmp .ge 19, 3) := by decide +kernel
theorem xd_Mo_letter_17 : decode xb_Mo_letter 17 = .ok (.aload_n 0, 1) := by decide +kernel
theorem xd_Mo_letter_18 : decode xb_Mo_letter 18 = .ok (.getfield 7, 3) := by decide +kernel
theorem xd_Mo_letter_21 : decode xb_Mo_letter 21 = .ok (.aload_n 0, 1) := by decide +kernel
theorem xd_Mo_letter_22 : decode xb_Mo_letter 22 = .ok (.getfield 13, 3) := by decide +kernel
theorem xd_Mo_letter_25 : decode xb_Mo_letter 25 = .ok (.iload_n 1, 1) := by decide +kernel
theorem xd_Mo_letter_26 : decode xb_Mo_letter 26 = .ok (.iaload, 1) := by decide +kernel
theorem xd_Mo_letter_27 : decode xb_Mo_letter 27 = .ok (.iload_n 2, 1) := by decide +kernel
theorem xd_Mo_letter_28 : decode xb_Mo_letter 28 = .ok (.iadd, 1) := by decide +kernel
theorem xd_Mo_letter_29 : decode xb_Mo_letter 29 = .ok (.caload, 1) := by decide +kernel
theorem xd_Mo_letter_30 : decode xb_Mo_letter 30 = .ok (.goto 4, 3) := by decide +kernel
theorem xd_Mo_letter_33 : decode xb_Mo_letter 33 = .ok (.iconst 0, 1) := by decide +kernel
theorem xd_Mo_letter_34 : decode xb_Mo_letter 34 = .ok (.ireturn, 1) := by decide +kernel
theorem xd_Mo_nameOf_0 : decode xb_Mo_nameOf 0 = .ok (.iconst 0, 1) := by decide +kernel
theorem xd_Mo_nameOf_1 : decode xb_Mo_nameOf 1 = .ok (.istore_n 2, 1) := by decide +kernel
theorem xd_Mo_nameOf_2 : decode xb_Mo_nameOf 2 = .ok (.aload_n 0, 1) := by decide +kernel
theorem xd_Mo_nameOf_3 : decode xb_Mo_nameOf 3 = .ok (.getfield 13, 3) := by decide +kernel
theorem xd_Mo_nameOf_6 : decode xb_Mo_nameOf 6 = .ok (.iload_n 1, 1) := by decide +kernel
theorem xd_Mo_nameOf_7 : decode xb_Mo_nameOf 7 = .ok (.iaload, 1) := by decide +kernel
theorem xd_Mo_nameOf_8 : decode xb_Mo_nameOf 8 = .ok (.istore_n 3, 1) := by decide +kernel
theorem xd_Mo_nameOf_9 : decode xb_Mo_nameOf 9 = .ok (.iload_n 3, 1) := by decide +kernel
theorem xd_Mo_nameOf_10 : decode xb_Mo_nameOf 10 = .ok (.aload_n 0, 1) := by decide +kernel
theorem xd_Mo_nameOf_11 : decode xb_Mo_nameOf 11 = .ok (.getfield 17, 3) := by decide +kernel
theorem xd_Mo_nameOf_14 : decode xb_Mo_nameOf 14 = .ok (.iload_n 1, 1) := by decide +kernel
theorem xd_Mo_nameOf_15 : decode xb_Mo_nameOf 15 = .ok (.iaload, 1) := by decide +kernel
theorem xd_Mo_nameOf_16 : decode xb_Mo_nameOf 16 = .ok (.if_icmp .ge 65, 3) := by decide +kernel
theorem xd_Mo_nameOf_19 : decode xb_Mo_nameOf 19 = .ok (.aload_n 0, 1) := by decide +kernel
theorem xd_Mo_nameOf_20 : decode xb_Mo_nameOf 20 = .ok (.getfield 7, 3) := by decide +kernel
theorem xd_Mo_nameOf_23 : decode xb_Mo_nameOf 23 = .ok (.iload_n 3, 1) := by decide +kernel
theorem xd_Mo_nameOf_24 : decode xb_Mo_nameOf 24 = .ok (.caload, 1) := by decide +kernel
theorem xd_Mo_nameOf_25 : decode xb_Mo_nameOf 25 = .ok (.bipush 97, 2) := by decide +kernel
theorem xd_Mo_nameOf_27 : decode xb_Mo_nameOf 27 = .ok (.if_icmp .lt 31, 3) := by decide +kernel
theorem xd_Mo_nameOf_30 : decode xb_Mo_nameOf 30 = .ok (.aload_n 0, 1) := by decide +kernel
theorem xd_Mo_nameOf_31 : decode xb_Mo_nameOf 31 = .ok (.getfield 7, 3) := by decide +kernel
theorem xd_Mo_nameOf_34 : decode xb_Mo_nameOf 34 = .ok (.iload_n 3, 1) := by decide +kernel
theorem xd_Mo_nameOf_35 : decode xb_Mo_nameOf 35 = .ok (.caload, 1) := by decide +kernel
theorem xd_Mo_nameOf_36 : decode xb_Mo_nameOf 36 = .ok (.bipush 122, 2) := by decide +kernel
theorem xd_Mo_nameOf_38 : decode xb_Mo_nameOf 38 = .ok (.if_icmp .gt 20, 3) := by decide +kernel
theorem xd_Mo_nameOf_41 : decode xb_Mo_nameOf 41 = .ok (.aload_n 0, 1) := by decide +kernel
theorem xd_Mo_nameOf_42 : decode xb_Mo_nameOf 42 = .ok (.getfield 17, 3) := by decide +kernel
theorem xd_Mo_nameOf_45 : decode xb_Mo_nameOf 45 = .ok (.iload_n 1, 1) := by decide +kernel
theorem xd_Mo_nameOf_46 : decode xb_Mo_nameOf 46 = .ok (.iaload, 1) := by decide +kernel
theorem xd_Mo_nameOf_47 : decode xb_Mo_nameOf 47 = .ok (.aload_n 0, 1) := by decide +kernel
theorem xd_Mo_nameOf_48 : decode xb_Mo_nameOf 48 = .ok (.getfield 13, 3) := by decide +kernel
theorem xd_Mo_nameOf_51 : decode xb_Mo_nameOf 51 = .ok (.iload_n 1, 1) := by decide +kernel
theorem xd_Mo_nameOf_52 : decode xb_Mo_nameOf 52 = .ok (.iaload, 1) := by decide +kernel
theorem xd_Mo_nameOf_53 : decode xb_Mo_nameOf 53 = .ok (.isub, 1) := by decide +kernel
theorem xd_Mo_nameOf_54 : decode xb_Mo_nameOf 54 = .ok (.iconst 4, 1) := by decide +kernel
theorem xd_Mo_nameOf_55 : decode xb_Mo_nameOf 55 = .ok (.if_icmp .le 5, 3) := by decide +kernel
theorem xd_Mo_nameOf_58 : decode xb_Mo_nameOf 58 = .ok (.iconst 0, 1) := by decide +kernel
theorem xd_Mo_nameOf_59 : decode xb_Mo_nameOf 59 = .ok (.ireturn, 1) := by decide +kernel
theorem xd_Mo_nameOf_60 : decode xb_Mo_nameOf 60 = .ok (.bipush 27, 2) := by decide +kernel
theorem xd_Mo_nameOf_62 : decode xb_Mo_nameOf 62 = .ok (.iload_n 2, 1) := by decide +kernel
theorem xd_Mo_nameOf_63 : decode xb_Mo_nameOf 63 = .ok (.imul, 1) := by decide +kernel
theorem xd_Mo_nameOf_64 : decode xb_Mo_nameOf 64 = .ok (.aload_n 0, 1) := by decide +kernel
theorem xd_Mo_nameOf_65 : decode xb_Mo_nameOf 65 = .ok (.getfield 7, 3) := by decide +kernel
theorem xd_Mo_nameOf_68 : decode xb_Mo_nameOf 68 = .ok (.iload_n 3, 1) := by decide +kernel
theorem xd_Mo_nameOf_69 : decode xb_Mo_nameOf 69 = .ok (.caload, 1) := by decide +kernel
theorem xd_Mo_nameOf_70 : decode xb_Mo_nameOf 70 = .ok (.iadd, 1) := by decide +kernel
theorem xd_Mo_nameOf_71 : decode xb_Mo_nameOf 71 = .ok (.bipush 96, 2) := by decide +kernel
theorem xd_Mo_nameOf_73 : decode xb_Mo_nameOf 73 = .ok (.isub, 1) := by decide +kernel
theorem xd_Mo_nameOf_74 : decode xb_Mo_nameOf 74 = .ok (.istore_n 2, 1) := by decide +kernel
theorem xd_Mo_nameOf_75 : decode xb_Mo_nameOf 75 = .ok (.iinc 3 1, 3) := by decide +kernel
theorem xd_Mo_nameOf_78 : decode xb_Mo_nameOf 78 = .ok (.goto (-69), 3) := by decide +kernel
theorem xd_Mo_nameOf_81 : decode xb_Mo_nameOf 81 = .ok (.iload_n 2, 1) := by decide +kernel
theorem xd_Mo_nameOf_82 : decode xb_Mo_nameOf 82 = .ok (.ireturn, 1) := by decide +kernel
theorem xd_Mo_newDescriptor_0 : decode xb_Mo_newDescriptor 0 = .ok (.aload_n 0, 1) := by decide +kernel
theorem xd_Mo_newDescriptor_1 : decode xb_Mo_newDescriptor 1 = .ok (.getfield 94, 3) := by decide +kernel
theorem xd_Mo_newDescriptor_4 : decode xb_Mo_newDescriptor 4 = .ok (.iconst 3, 1) := by decide +kernel
theorem xd_Mo_newDescriptor_5 : decode xb_Mo_newDescriptor 5 = .ok (.if_icmp .ne 50, 3) := by decide +kernel
theorem xd_Mo_newDescriptor_8 : decode xb_Mo_newDescriptor 8 = .ok (.aload_n 0, 1) := by decide +kernel
theorem xd_Mo_newDescriptor_9 : decode xb_Mo_newDescriptor 9 = .ok (.getfield 17, 3) := by decide +kernel
theorem xd_Mo_newDescriptor_12 : decode xb_Mo_newDescriptor 12 = .ok (.iconst 1, 1) := by decide +kernel
theorem xd_Mo_newDescriptor_13 : decode xb_Mo_newDescriptor 13 = .ok (.iaload, 1) := by decide +kernel
theorem xd_Mo_newDescriptor_14 : decode xb_Mo_newDescriptor 14 = .ok (.aload_n 0, 1) := by decide +kernel
theorem xd_Mo_newDescriptor_15 : decode xb_Mo_newDescriptor 15 = .ok (.getfield 13, 3) := by decide +kernel
theorem xd_Mo_newDescriptor_18 : decode xb_Mo_newDescriptor 18 = .ok (.iconst 1, 1) := by decide +kernel
theorem xd_Mo_newDescriptor_19 : decode xb_Mo_newDescriptor 19 = .ok (.iaload, 1) := by decide +kernel
theorem xd_Mo_newDescriptor_20 : decode xb_Mo_newDescriptor 20 = .ok (.iconst 1, 1) := by decide +kernel
theorem xd_Mo_newDescriptor_21 : decode xb_Mo_newDescriptor 21 = .ok (.iadd, 1) := by decide +kernel
theorem xd_Mo_newDescriptor_22 : decode xb_Mo_newDescriptor 22 = .ok (.if_icmp .ne 33, 3) := by decide +kernel
theorem xd_Mo_newDescriptor_25 : decode xb_Mo_newDescriptor 25 = .ok (.aload_n 0, 1) := by decide +kernel
theorem xd_Mo_newDescriptor_26 : decode xb_Mo_newDescriptor 26 = .ok (.iconst 1, 1) := by decide +kernel
theorem xd_Mo_newDescriptor_27 : decode xb_Mo_newDescriptor 27 = .ok (.iconst 0, 1) := by decide +kernel
theorem xd_Mo_newDescriptor_28 : decode xb_Mo_newDescriptor 28 = .ok (.invokevirtual 97, 3) := by decide +kernel
theorem xd_Mo_newDescriptor_31 : decode xb_Mo_newDescriptor 31 = .ok (.bipush 48, 2) := by decide +kernel
theorem xd_Mo_newDescriptor_33 : decode xb_Mo_newDescriptor 33 = .ok (.if_icmp .lt 22, 3) := by decide +kernel
theorem xd_Mo_newDescriptor_36 : decode xb_Mo_newDescriptor 36 = .ok (.aload_n 0, 1) := by decide +kernel
theorem xd_Mo_newDescriptor_37 : decode xb_Mo_newDescriptor 37 = .ok (.iconst 1, 1) := by decide +kernel
theorem xd_Mo_newDescriptor_38 : decode xb_Mo_newDescriptor 38 = .ok (.iconst 0, 1) := by decide +kernel
theorem xd_Mo_newDescriptor_39 : decode xb_Mo_newDescriptor 39 = .ok (.invokevirtual 97, 3) := by decide +kernel
theorem xd_Mo_newDescriptor_42 : decode xb_Mo_newDescriptor 42 = .ok (.bipush 49, 2) := by decide +kernel
theorem xd_Mo_newDescriptor_44 : decode xb_Mo_newDescriptor 44 = .ok (.if_icmp .gt 11, 3) := by decide +kernel
theorem xd_Mo_newDescriptor_47 : decode xb_Mo_newDescriptor 47 = .ok (.aload_n 0, 1) := by decide +kernel
theorem xd_Mo_newDescriptor_48 : decode xb_Mo_newDescriptor 48 = .ok (.iconst 2, 1) := by decide +kernel
theorem xd_Mo_newDescriptor_49 : decode xb_Mo_newDescriptor 49 = .ok (.invokevirtual 133, 3) := by decide +kernel
theorem xd_Mo_newDescriptor_52 : decode xb_Mo_newDescriptor 52 = .ok (.ifCond .ne 5, 3) := by decide +kernel
theorem xd_Mo_newDescriptor_55 : decode xb_Mo_newDescriptor 55 = .ok (.iconst (-1), 1) := by decide +kernel
theorem xd_Mo_newDescriptor_56 : decode xb_Mo_newDescriptor 56 = .ok (.ireturn, 1) := by decide +kernel
theorem xd_Mo_newDescriptor_57 : decode xb_Mo_newDescriptor 57 = .ok (.aload_n 0, 1) := by decide +kernel
theorem xd_Mo_newDescriptor_58 : decode xb_Mo_newDescriptor 58 = .ok (.iconst 1, 1) := by decide +kernel
theorem xd_Mo_newDescriptor_59 : decode xb_Mo_newDescriptor 59 = .ok (.iconst 0, 1) := by decide +kernel
theorem xd_Mo_newDescriptor_60 : decode xb_Mo_newDescriptor 60 = .ok (.invokevirtual 97, 3) := by decide +kernel
theorem xd_Mo_newDescriptor_63 : decode xb_Mo_newDescriptor 63 = .ok (.bipush 48, 2) := by decide +kernel
theorem xd_Mo_newDescriptor_65 : decode xb_Mo_newDescriptor 65 = .ok (.isub, 1) := by decide +kernel
theorem xd_Mo_newDescriptor_66 : decode xb_Mo_newDescriptor 66 = .ok (.istore_n 1, 1) := by decide +kernel
theorem xd_Mo_newDescriptor_67 : decode xb_Mo_newDescriptor 67 = .ok (.aload_n 0, 1) := by decide +kernel
theorem xd_Mo_newDescriptor_68 : decode xb_Mo_newDescriptor 68 = .ok (.iconst 2, 1) := by decide +kernel
theorem xd_Mo_newDescriptor_69 : decode xb_Mo_newDescriptor 69 = .ok (.invokevirtual 133, 3) := by decide +kernel
theorem xd_Mo_newDescriptor_72 : decode xb_Mo_newDescriptor 72 = .ok (.istore_n 2, 1) := by decide +kernel
theorem xd_Mo_newDescriptor_73 : decode xb_Mo_newDescriptor 73 = .ok (.aload_n 0, 1) := by decide +kernel
theorem xd_Mo_newDescriptor_74 : decode xb_Mo_newDescriptor 74 = .ok (.iload_n 1, 1) := by decide +kernel
theorem xd_Mo_newDescriptor_75 : decode xb_Mo_newDescriptor 75 = .ok (.iload_n 2, 1) := by decide +kernel
theorem xd_Mo_newDescriptor_76 : decode xb_Mo_newDescriptor 76 = .ok (.invokevirtual 136, 3) := by decide +kernel
theorem xd_Mo_newDescriptor_79 : decode xb_Mo_newDescriptor 79 = .ok (.ifCond .lt 5, 3) := by decide +kernel
theorem xd_Mo_newDescriptor_82 : decode xb_Mo_newDescriptor 82 = .ok (.iconst (-1), 1) := by decide +kernel
theorem xd_Mo_newDescriptor_83 : decode xb_Mo_newDescriptor 83 = .ok (.ireturn, 1) := by decide +kernel
theorem xd_Mo_newDescriptor_84 : decode xb_Mo_newDescriptor 84 = .ok (.aload_n 0, 1) := by decide +kernel
theorem xd_Mo_newDescriptor_85 : decode xb_Mo_newDescriptor 85 = .ok (.getfield 140, 3) := by decide +kernel
theorem xd_Mo_newDescriptor_88 : decode xb_Mo_newDescriptor 88 = .ok (.bipush 12, 2) := by decide +kernel
theorem xd_Mo_newDescriptor_90 : decode xb_Mo_newDescriptor 90 = .ok (.if_icmp .ne 6, 3) := by decide +kernel
theorem xd_Mo_newDescriptor_93 : decode xb_Mo_newDescriptor 93 = .ok (.bipush (-2), 2) := by decide +kernel
theorem xd_Mo_newDescriptor_95 : decode xb_Mo_newDescriptor 95 = .ok (.ireturn, 1) := by decide +kernel
theorem xd_Mo_newDescriptor_96 : decode xb_Mo_newDescriptor 96 = .ok (.aload_n 0, 1) := by decide +kernel
theorem xd_Mo_newDescriptor_97 : decode xb_Mo_newDescriptor 97 = .ok (.getfield 20, 3) := by decide +kernel
theorem xd_Mo_newDescriptor_100 : decode xb_Mo_newDescriptor 100 = .ok (.aload_n 0, 1) := by decide +kernel
theorem xd_Mo_newDescriptor_101 : decode xb_Mo_newDescriptor 101 = .ok (.getfield 140, 3) := by decide +kernel
theorem xd_Mo_newDescriptor_104 : decode xb_Mo_newDescriptor 104 = .ok (.iload_n 1, 1) := by decide +kernel
theorem xd_Mo_newDescriptor_105 : decode xb_Mo_newDescriptor 105 = .ok (.iastore, 1) := by decide +kernel
theorem xd_Mo_newDescriptor_106 : decode xb_Mo_newDescriptor 106 = .ok (.aload_n 0, 1) := by decide +kernel
theorem xd_Mo_newDescriptor_107 : decode xb_Mo_newDescriptor 107 = .ok (.getfield 23, 3) := by decide +kernel
theorem xd_Mo_newDescriptor_110 : decode xb_Mo_newDescriptor 110 = .ok (.aload_n 0, 1) := by decide +kernel
theorem xd_Mo_newDescriptor_111 : decode xb_Mo_newDescriptor 111 = .ok (.getfield 140, 3) := by decide +kernel
theorem xd_Mo_newDescriptor_114 : decode xb_Mo_newDescriptor 114 = .ok (.iload_n 2, 1) := by decide +kernel
theorem xd_Mo_newDescriptor_115 : decode xb_Mo_newDescriptor 115 = .ok (.iastore, 1) := by decide +kernel
theorem xd_Mo_newDescriptor_116 : decode xb_Mo_newDescriptor 116 = .ok (.aload_n 0, 1) := by decide +kernel
theorem xd_Mo_newDescriptor_117 : decode xb_Mo_newDescriptor 117 = .ok (.dup, 1) := by decide +kernel
theorem xd_Mo_newDescriptor_118 : decode xb_Mo_newDescriptor 118 = .ok (.getfield 140, 3) := by decide +kernel
theorem xd_Mo_newDescriptor_121 : decode xb_Mo_newDescriptor 121 = .ok (.iconst 1, 1) := by decide +kernel
theorem xd_Mo_newDescriptor_122 : decode xb_Mo_newDescriptor 122 = .ok (.iadd, 1) := by decide +kernel
theorem xd_Mo_newDescriptor_123 : decode xb_Mo_newDescriptor 123 = .ok (.putfield 140, 3) := by decide +kernel
theorem xd_Mo_newDescriptor_126 : decode xb_Mo_newDescriptor 126 = .ok (.iconst 1, 1) := by decide +kernel
theorem xd_Mo_newDescriptor_127 : decode xb_Mo_newDescriptor 127 = .ok (.ireturn, 1) := by decide +kernel
theorem xd_Mo_packageOf_0 : decode xb_Mo_packageOf 0 = .ok (.bipush 6, 2) := by decide +kernel
theorem xd_Mo_packageOf_2 : decode xb_Mo_packageOf 2 = .ok (.iload_n 1, 1) := by decide +kernel
theorem xd_Mo_packageOf_3 : decode xb_Mo_packageOf 3 = .ok (.imul, 1) := by decide +kernel
theorem xd_Mo_packageOf_4 : decode xb_Mo_packageOf 4 = .ok (.istore_n 3, 1) := by decide +kernel
theorem xd_Mo_packageOf_5 : decode xb_Mo_packageOf 5 = .ok (.iload_n 3, 1) := by decide +kernel
theorem xd_Mo_packageOf_6 : decode xb_Mo_packageOf 6 = .ok (.bipush 6, 2) := by decide +kernel
theorem xd_Mo_packageOf_8 : decode xb_Mo_packageOf 8 = .ok (.iload_n 1, 1) := by decide +kernel
theorem xd_Mo_packageOf_9 : decode xb_Mo_packageOf 9 = .ok (.imul, 1) := by decide +kernel
theorem xd_Mo_packageOf_10 : decode xb_Mo_packageOf 10 = .ok (.aload_n 0, 1) := by decide +kernel
theorem xd_Mo_packageOf_11 : decode xb_Mo_packageOf 11 = .ok (.getfield 26, 3) := by decide +kernel
theorem xd_Mo_packageOf_14 : decode xb_Mo_packageOf 14 = .ok (.iload_n 1, 1) := by decide +kernel
theorem xd_Mo_packageOf_15 : decode xb_Mo_packageOf 15 = .ok (.iaload, 1) := by decide +kernel
theorem xd_Mo_packageOf_16 : decode xb_Mo_packageOf 16 = .ok (.iadd, 1) := by decide +kernel
theorem xd_Mo_packageOf_17 : decode xb_Mo_packageOf 17 = .ok (.if_icmp .ge 21, 3) := by decide +kernel
theorem xd_Mo_packageOf_20 : decode xb_Mo_packageOf 20 = .ok (.aload_n 0, 1) := by decide +kernel
theorem xd_Mo_packageOf_21 : decode xb_Mo_packageOf 21 = .ok (.getfield 29, 3) := by decide +kernel
theorem xd_Mo_packageOf_24 : decode xb_Mo_packageOf 24 = .ok (.iload_n 3, 1) := by decide +kernel
theorem xd_Mo_packageOf_25 : decode xb_Mo_packageOf 25 = .ok (.iaload, 1) := by decide +kernel
theorem xd_Mo_packageOf_26 : decode xb_Mo_packageOf 26 = .ok (.iload_n 2, 1) := by decide +kernel
theorem xd_Mo_packageOf_27 : decode xb_Mo_packageOf 27 = .ok (.if_icmp .ne 5, 3) := by decide +kernel
theorem xd_Mo_packageOf_30 : decode xb_Mo_packageOf 30 = .ok (.iload_n 3, 1) := by decide +kernel
theorem xd_Mo_packageOf_31 : decode xb_Mo_packageOf 31 = .ok (.ireturn, 1) := by decide +kernel
theorem xd_Mo_packageOf_32 : decode xb_Mo_packageOf 32 = .ok (.iinc 3 1, 3) := by decide +kernel
theorem xd_Mo_packageOf_35 : decode xb_Mo_packageOf 35 = .ok (.goto (-30), 3) := by decide +kernel
theorem xd_Mo_packageOf_38 : decode xb_Mo_packageOf 38 = .ok (.iconst (-1), 1) := by decide +kernel
theorem xd_Mo_packageOf_39 : decode xb_Mo_packageOf 39 = .ok (.ireturn, 1) := by decide +kernel
theorem xd_Mo_says_0 : decode xb_Mo_says 0 = .ok (.iconst 0, 1) := by decide +kernel
theorem xd_Mo_says_1 : decode xb_Mo_says 1 = .ok (.istore 4, 2) := by decide +kernel
theorem xd_Mo_says_3 : decode xb_Mo_says 3 = .ok (.iconst 0, 1) := by decide +kernel
theorem xd_Mo_says_4 : decode xb_Mo_says 4 = .ok (.istore 5, 2) := by decide +kernel
theorem xd_Mo_says_6 : decode xb_Mo_says 6 = .ok (.iconst 0, 1) := by decide +kernel
theorem xd_Mo_says_7 : decode xb_Mo_says 7 = .ok (.istore 6, 2) := by decide +kernel
theorem xd_Mo_says_9 : decode xb_Mo_says 9 = .ok (.iload 6, 2) := by decide +kernel
theorem xd_Mo_says_11 : decode xb_Mo_says 11 = .ok (.iconst 5, 1) := by decide +kernel
theorem xd_Mo_says_12 : decode xb_Mo_says 12 = .ok (.if_icmp .ge 42, 3) := by decide +kernel
theorem xd_Mo_says_15 : decode xb_Mo_says 15 = .ok (.aload_n 0, 1) := by decide +kernel
theorem xd_Mo_says_16 : decode xb_Mo_says 16 = .ok (.iload_n 1, 1) := by decide +kernel
theorem xd_Mo_says_17 : decode xb_Mo_says 17 = .ok (.iload 6, 2) := by decide +kernel
theorem xd_Mo_says_19 : decode xb_Mo_says 19 = .ok (.invokevirtual 97, 3) := by decide +kernel
theorem xd_Mo_says_22 : decode xb_Mo_says 22 = .ok (.ifCond .ne 8, 3) := by decide +kernel
theorem xd_Mo_says_25 : decode xb_Mo_says 25 = .ok (.iload 4, 2) := by decide +kernel
theorem xd_Mo_says_27 : decode xb_Mo_says 27 = .ok (.goto 19, 3) := by decide +kernel
theorem xd_Mo_says_30 : decode xb_Mo_says 30 = .ok (.bipush 32, 2) := by decide +kernel
theorem xd_Mo_says_32 : decode xb_Mo_says 32 = .ok (.iload 4, 2) := by decide +kernel
theorem xd_Mo_says_34 : decode xb_Mo_says 34 = .ok (.imul, 1) := by decide +kernel
theorem xd_Mo_says_35 : decode xb_Mo_says 35 = .ok (.aload_n 0, 1) := by decide +kernel
theorem xd_Mo_says_36 : decode xb_Mo_says 36 = .ok (.iload_n 1, 1) := by decide +kernel
theorem xd_Mo_says_37 : decode xb_Mo_says 37 = .ok (.iload 6, 2) := by decide +kernel
theorem xd_Mo_says_39 : decode xb_Mo_says 39 = .ok (.invokevirtual 97, 3) := by decide +kernel
theorem xd_Mo_says_42 : decode xb_Mo_says 42 = .ok (.bipush 31, 2) := by decide +kernel
theorem xd_Mo_says_44 : decode xb_Mo_says 44 = .ok (.iand, 1) := by decide +kernel
theorem xd_Mo_says_45 : decode xb_Mo_says 45 = .ok (.iadd, 1) := by decide +kernel
theorem xd_Mo_says_46 : decode xb_Mo_says 46 = .ok (.istore 4, 2) := by decide +kernel
theorem xd_Mo_says_48 : decode xb_Mo_says 48 = .ok (.iinc 6 1, 3) := by decide +kernel
theorem xd_Mo_says_51 : decode xb_Mo_says 51 = .ok (.goto (-42), 3) := by decide +kernel
theorem xd_Mo_says_54 : decode xb_Mo_says 54 = .ok (.iconst 5, 1) := by decide +kernel
theorem xd_Mo_says_55 : decode xb_Mo_says 55 = .ok (.istore 6, 2) := by decide +kernel
theorem xd_Mo_says_57 : decode xb_Mo_says 57 = .ok (.iload 6, 2) := by decide +kernel
theorem xd_Mo_says_59 : decode xb_Mo_says 59 = .ok (.bipush 10, 2) := by decide +kernel
theorem xd_Mo_says_61 : decode xb_Mo_says 61 = .ok (.if_icmp .ge 42, 3) := by decide +kernel
theorem xd_Mo_says_64 : decode xb_Mo_says 64 = .ok (.aload_n 0, 1) := by decide +kernel
theorem xd_Mo_says_65 : decode xb_Mo_says 65 = .ok (.iload_n 1, 1) := by decide +kernel
theorem xd_Mo_says_66 : decode xb_Mo_says 66 = .ok (.iload 6, 2) := by decide +kernel
theorem xd_Mo_says_68 : decode xb_Mo_says 68 = .ok (.invokevirtual 97, 3) := by decide +kernel
theorem xd_Mo_says_71 : decode xb_Mo_says 71 = .ok (.ifCond .ne 8, 3) := by decide +kernel
theorem xd_Mo_says_74 : decode xb_Mo_says 74 = .ok (.iload 5, 2) := by decide +kernel
theorem xd_Mo_says_76 : decode xb_Mo_says 76 = .ok (.goto 19, 3) := by decide +kernel
theorem xd_Mo_says_79 : decode xb_Mo_says 79 = .ok (.bipush 32, 2) := by decide +kernel
theorem xd_Mo_says_81 : decode xb_Mo_says 81 = .ok (.iload 5, 2) := by decide +kernel
theorem xd_Mo_says_83 : decode xb_Mo_says 83 = .ok (.imul, 1) := by decide +kernel
theorem xd_Mo_says_84 : decode xb_Mo_says 84 = .ok (.aload_n 0, 1) := by decide +kernel
theorem xd_Mo_says_85 : decode xb_Mo_says 85 = .ok (.iload_n 1, 1) := by decide +kernel
theorem xd_Mo_says_86 : decode xb_Mo_says 86 = .ok (.iload 6, 2) := by decide +kernel
theorem xd_Mo_says_88 : decode xb_Mo_says 88 = .ok (.invokevirtual 97, 3) := by decide +kernel
theorem xd_Mo_says_91 : decode xb_Mo_says 91 = .ok (.bipush 31, 2) := by decide +kernel
theorem xd_Mo_says_93 : decode xb_Mo_says 93 = .ok (.iand, 1) := by decide +kernel
theorem xd_Mo_says_94 : decode xb_Mo_says 94 = .ok (.iadd, 1) := by decide +kernel
theorem xd_Mo_says_95 : decode xb_Mo_says 95 = .ok (.istore 5, 2) := by decide +kernel
theorem xd_Mo_says_97 : decode xb_Mo_says 97 = .ok (.iinc 6 1, 3) := by decide +kernel
theorem xd_Mo_says_100 : decode xb_Mo_says 100 = .ok (.goto (-43), 3) := by decide +kernel
theorem xd_Mo_says_103 : decode xb_Mo_says 103 = .ok (.aload_n 0, 1) := by decide +kernel
theorem xd_Mo_says_104 : decode xb_Mo_says 104 = .ok (.getfield 17, 3) := by decide +kernel
theorem xd_Mo_says_107 : decode xb_Mo_says 107 = .ok (.iload_n 1, 1) := by decide +kernel
theorem xd_Mo_says_108 : decode xb_Mo_says 108 = .ok (.iaload, 1) := by decide +kernel
theorem xd_Mo_says_109 : decode xb_Mo_says 109 = .ok (.aload_n 0, 1) := by decide +kernel
theorem xd_Mo_says_110 : decode xb_Mo_says 110 = .ok (.getfield 13, 3) := by decide +kernel
theorem xd_Mo_says_113 : decode xb_Mo_says 113 = .ok (.iload_n 1, 1) := by decide +kernel
theorem xd_Mo_says_114 : decode xb_Mo_says 114 = .ok (.iaload, 1) := by decide +kernel
theorem xd_Mo_says_115 : decode xb_Mo_says 115 = .ok (.isub, 1) := by decide +kernel
theorem xd_Mo_says_116 : decode xb_Mo_says 116 = .ok (.bipush 10, 2) := by decide +kernel
theorem xd_Mo_says_118 : decode xb_Mo_says 118 = .ok (.if_icmp .gt 7, 3) := by decide +kernel
theorem xd_Mo_says_121 : decode xb_Mo_says 121 = .ok (.iconst 1, 1) := by decide +kernel
theorem xd_Mo_says_122 : decode xb_Mo_says 122 = .ok (.goto 4, 3) := by decide +kernel
theorem xd_Mo_says_125 : decode xb_Mo_says 125 = .ok (.iconst 0, 1) := by decide +kernel
theorem xd_Mo_says_126 : decode xb_Mo_says 126 = .ok (.istore 6, 2) := by decide +kernel
theorem xd_Mo_says_128 : decode xb_Mo_says 128 = .ok (.aload_n 0, 1) := by decide +kernel
theorem xd_Mo_says_129 : decode xb_Mo_says 129 = .ok (.getfield 13, 3) := by decide +kernel
theorem xd_Mo_says_132 : decode xb_Mo_says 132 = .ok (.iload_n 1, 1) := by decide +kernel
theorem xd_Mo_says_133 : decode xb_Mo_says 133 = .ok (.iaload, 1) := by decide +kernel
theorem xd_Mo_says_134 : decode xb_Mo_says 134 = .ok (.istore 7, 2) := by decide +kernel
theorem xd_Mo_says_136 : decode xb_Mo_says 136 = .ok (.iload 7, 2) := by decide +kernel
theorem xd_Mo_says_138 : decode xb_Mo_says 138 = .ok (.aload_n 0, 1) := by decide +kernel
theorem xd_Mo_says_139 : decode xb_Mo_says 139 = .ok (.getfield 17, 3) := by decide +kernel
theorem xd_Mo_says_142 : decode xb_Mo_says 142 = .ok (.iload_n 1, 1) := by decide +kernel
theorem xd_Mo_says_143 : decode xb_Mo_says 143 = .ok (.iaload, 1) := by decide +kernel
theorem xd_Mo_says_144 : decode xb_Mo_says 144 = .ok (.if_icmp .ge 45, 3) := by decide +kernel
theorem xd_Mo_says_147 : decode xb_Mo_says 147 = .ok (.iload 6, 2) := by decide +kernel
theorem xd_Mo_says_149 : decode xb_Mo_says 149 = .ok (.ifCond .eq 31, 3) := by decide +kernel
theorem xd_Mo_says_152 : decode xb_Mo_says 152 = .ok (.aload_n 0, 1) := by decide +kernel
theorem xd_Mo_says_153 : decode xb_Mo_says 153 = .ok (.getfield 7, 3) := by decide +kernel
theorem xd_Mo_says_156 : decode xb_Mo_says 156 = .ok (.iload 7, 2) := by decide +kernel
theorem xd_Mo_says_158 : decode xb_Mo_says 158 = .ok (.caload, 1) := by decide +kernel
theorem xd_Mo_says_159 : decode xb_Mo_says 159 = .ok (.bipush 97, 2) := by decide +kernel
theorem xd_Mo_says_161 : decode xb_Mo_says 161 = .ok (.if_icmp .lt 19, 3) := by decide +kernel
theorem xd_Mo_says_164 : decode xb_Mo_says 164 = .ok (.aload_n 0, 1) := by decide +kernel
theorem xd_Mo_says_165 : decode xb_Mo_says 165 = .ok (.getfield 7, 3) := by decide +kernel
theorem xd_Mo_says_168 : decode xb_Mo_says 168 = .ok (.iload 7, 2) := by decide +kernel
theorem xd_Mo_says_170 : decode xb_Mo_says 170 = .ok (.caload, 1) := by decide +kernel
theorem xd_Mo_says_171 : decode xb_Mo_says 171 = .ok (.bipush 122, 2) := by decide +kernel
theorem xd_Mo_says_173 : decode xb_Mo_says 173 = .ok (.if_icmp .gt 7, 3) := by decide +kernel
theorem xd_Mo_says_176 : decode xb_Mo_says 176 = .ok (.iconst 1, 1) := by decide +kernel
theorem xd_Mo_says_177 : decode xb_Mo_says 177 = .ok (.goto 4, 3) := by decide +kernel
theorem xd_Mo_says_180 : decode xb_Mo_says 180 = .ok (.iconst 0, 1) := by decide +kernel
theorem xd_Mo_says_181 : decode xb_Mo_says 181 = .ok (.istore 6, 2) := by decide +kernel
theorem xd_Mo_says_183 : decode xb_Mo_says 183 = .ok (.iinc 7 1, 3) := by decide +kernel
theorem xd_Mo_says_186 : decode xb_Mo_says 186 = .ok (.goto (-50), 3) := by decide +kernel
theorem xd_Mo_says_189 : decode xb_Mo_says 189 = .ok (.iload 6, 2) := by decide +kernel
theorem xd_Mo_says_191 : decode xb_Mo_says 191 = .ok (.ifCond .eq 19, 3) := by decide +kernel
theorem xd_Mo_says_194 : decode xb_Mo_says 194 = .ok (.iload 4, 2) := by decide +kernel
theorem xd_Mo_says_196 : decode xb_Mo_says 196 = .ok (.iload_n 2, 1) := by decide +kernel
theorem xd_Mo_says_197 : decode xb_Mo_says 197 = .ok (.if_icmp .ne 13, 3) := by decide +kernel
theorem xd_Mo_says_200 : decode xb_Mo_says 200 = .ok (.iload 5, 2) := by decide +kernel
theorem xd_Mo_says_202 : decode xb_Mo_says 202 = .ok (.iload_n 3, 1) := by decide +kernel
theorem xd_Mo_says_203 : decode xb_Mo_says 203 = .ok (.if_icmp .ne 7, 3) := by decide +kernel
theorem xd_Mo_says_206 : decode xb_Mo_says 206 = .ok (.iconst 1, 1) := by decide +kernel
theorem xd_Mo_says_207 : decode xb_Mo_says 207 = .ok (.goto 4, 3) := by decide +kernel
theorem xd_Mo_says_210 : decode xb_Mo_says 210 = .ok (.iconst 0, 1) := by decide +kernel
theorem xd_Mo_says_211 : decode xb_Mo_says 211 = .ok (.ireturn, 1) := by decide +kernel
theorem xd_Mo_split_0 : decode xb_Mo_split 0 = .ok (.aload_n 0, 1) := by decide +kernel
theorem xd_Mo_split_1 : decode xb_Mo_split 1 = .ok (.iconst 0, 1) := by decide +kernel
theorem xd_Mo_split_2 : decode xb_Mo_split 2 = .ok (.putfield 94, 3) := by decide +kernel
theorem xd_Mo_split_5 : decode xb_Mo_split 5 = .ok (.iconst 0, 1) := by decide +kernel
theorem xd_Mo_split_6 : decode xb_Mo_split 6 = .ok (.istore_n 1, 1) := by decide +kernel
theorem xd_Mo_split_7 : decode xb_Mo_split 7 = .ok (.iload_n 1, 1) := by decide +kernel
theorem xd_Mo_split_8 : decode xb_Mo_split 8 = .ok (.aload_n 0, 1) := by decide +kernel
theorem xd_Mo_split_9 : decode xb_Mo_split 9 = .ok (.getfield 91, 3) := by decide +kernel
theorem xd_Mo_split_12 : decode xb_Mo_split 12 = .ok (.if_icmp .ge 94, 3) := by decide +kernel
theorem xd_Mo_split_15 : decode xb_Mo_split 15 = .ok (.iload_n 1, 1) := by decide +kernel
theorem xd_Mo_split_16 : decode xb_Mo_split 16 = .ok (.aload_n 0, 1) := by decide +kernel
theorem xd_Mo_split_17 : decode xb_Mo_split 17 = .ok (.getfield 91, 3) := by decide +kernel
theorem xd_Mo_split_20 : decode xb_Mo_split 20 = .ok (.if_icmp .ge 20, 3) := by decide +kernel
theorem xd_Mo_split_23 : decode xb_Mo_split 23 = .ok (.aload_n 0, 1) := by decide +kernel
theorem xd_Mo_split_24 : decode xb_Mo_split 24 = .ok (.getfield 7, 3) := by decide +kernel
theorem xd_Mo_split_27 : decode xb_Mo_split 27 = .ok (.iload_n 1, 1) := by decide +kernel
theorem xd_Mo_split_28 : decode xb_Mo_split 28 = .ok (.caload, 1) := by decide +kernel
theorem xd_Mo_split_29 : decode xb_Mo_split 29 = .ok (.bipush 32, 2) := by decide +kernel
theorem xd_Mo_split_31 : decode xb_Mo_split 31 = .ok (.if_icmp .ne 9, 3) := by decide +kernel
theorem xd_Mo_split_34 : decode xb_Mo_split 34 = .ok (.iinc 1 1, 3) := by decide +kernel
theorem xd_Mo_split_37 : decode xb_Mo_split 37 = .ok (.goto (-22), 3) := by decide +kernel
theorem xd_Mo_split_40 : decode xb_Mo_split 40 = .ok (.iload_n 1, 1) := by decide +kernel
theorem xd_Mo_split_41 : decode xb_Mo_split 41 = .ok (.aload_n 0, 1) := by decide +kernel
theorem xd_Mo_split_42 : decode xb_Mo_split 42 = .ok (.getfield 91, 3) := by decide +kernel
theorem xd_Mo_split_45 : decode xb_Mo_split 45 = .ok (.if_icmp .ge (-38), 3) := by decide +kernel
theorem xd_Mo_split_48 : decode xb_Mo_split 48 = .ok (.aload_n 0, 1) := by decide +kernel
theorem xd_Mo_split_49 : decode xb_Mo_split 49 = .ok (.getfield 13, 3) := by decide +kernel
theorem xd_Mo_split_52 : decode xb_Mo_split 52 = .ok (.aload_n 0, 1) := by decide +kernel
theorem xd_Mo_split_53 : decode xb_Mo_split 53 = .ok (.getfield 94, 3) := by decide +kernel
theorem xd_Mo_split_56 : decode xb_Mo_split 56 = .ok (.iload_n 1, 1) := by decide +kernel
theorem xd_Mo_split_57 : decode xb_Mo_split 57 = .ok (.iastore, 1) := by decide +kernel
theorem xd_Mo_split_58 : decode xb_Mo_split 58 = .ok (.iload_n 1, 1) := by decide +kernel
theorem xd_Mo_split_59 : decode xb_Mo_split 59 = .ok (.aload_n 0, 1) := by decide +kernel
theorem xd_Mo_split_60 : decode xb_Mo_split 60 = .ok (.getfield 91, 3) := by decide +kernel
theorem xd_Mo_split_63 : decode xb_Mo_split 63 = .ok (.if_icmp .ge 20, 3) := by decide +kernel
theorem xd_Mo_split_66 : decode xb_Mo_split 66 = .ok (.aload_n 0, 1) := by decide +kernel
theorem xd_Mo_split_67 : decode xb_Mo_split 67 = .ok (.getfield 7, 3) := by decide +kernel
theorem xd_Mo_split_70 : decode xb_Mo_split 70 = .ok (.iload_n 1, 1) := by decide +kernel
theorem xd_Mo_split_71 : decode xb_Mo_split 71 = .ok (.caload, 1) := by decide +kernel
theorem xd_Mo_split_72 : decode xb_Mo_split 72 = .ok (.bipush 32, 2) := by decide +kernel
theorem xd_Mo_split_74 : decode xb_Mo_split 74 = .ok (.if_icmp .eq 9, 3) := by decide +kernel
theorem xd_Mo_split_77 : decode xb_Mo_split 77 = .ok (.iinc 1 1, 3) := by decide +kernel
theorem xd_Mo_split_80 : decode xb_Mo_split 80 = .ok (.goto (-22), 3) := by decide +kernel
theorem xd_Mo_split_83 : decode xb_Mo_split 83 = .ok (.aload_n 0, 1) := by decide +kernel
theorem xd_Mo_split_84 : decode xb_Mo_split 84 = .ok (.getfield 17, 3) := by decide +kernel
theorem xd_Mo_split_87 : decode xb_Mo_split 87 = .ok (.aload_n 0, 1) := by decide +kernel
theorem xd_Mo_split_88 : decode xb_Mo_split 88 = .ok (.getfield 94, 3) := by decide +kernel
theorem xd_Mo_split_91 : decode xb_Mo_split 91 = .ok (.iload_n 1, 1) := by decide +kernel
theorem xd_Mo_split_92 : decode xb_Mo_split 92 = .ok (.iastore, 1) := by decide +kernel
theorem xd_Mo_split_93 : decode xb_Mo_split 93 = .ok (.aload_n 0, 1) := by decide +kernel
theorem xd_Mo_split_94 : decode xb_Mo_split 94 = .ok (.dup, 1) := by decide +kernel
theorem xd_Mo_split_95 : decode xb_Mo_split 95 = .ok (.getfield 94, 3) := by decide +kernel
theorem xd_Mo_split_98 : decode xb_Mo_split 98 = .ok (.iconst 1, 1) := by decide +kernel
theorem xd_Mo_split_99 : decode xb_Mo_split 99 = .ok (.iadd, 1) := by decide +kernel
theorem xd_Mo_split_100 : decode xb_Mo_split 100 = .ok (.putfield 94, 3) := by decide +kernel
theorem xd_Mo_split_103 : decode xb_Mo_split 103 = .ok (.goto (-96), 3) := by decide +kernel
theorem xd_Mo_split_106 : decode xb_Mo_split 106 = .ok (.aload_n 0, 1) := by decide +kernel
theorem xd_Mo_split_107 : decode xb_Mo_split 107 = .ok (.iconst 0, 1) := by decide +kernel
theorem xd_Mo_split_108 : decode xb_Mo_split 108 = .ok (.putfield 91, 3) := by decide +kernel
theorem xd_Mo_split_111 : decode xb_Mo_split 111 = .ok (.return_, 1) := by decide +kernel
theorem xm_0 : (Cond.fieldLink "LayerDeskModel" 140 "LayerDeskModel" "descriptors" "I") ∈ wT := wT_t (List.mem_append_right _ (List.mem_append_right _ (List.mem_append_right _ (List.mem_append_left _ (List.mem_of_getElem? (i := 91) rfl))))) rfl
theorem xm_1 : (Cond.fieldLink "LayerDeskModel" 20 "LayerDeskModel" "finder" "[I") ∈ wT := wT_t (List.mem_append_right _ (List.mem_append_right _ (List.mem_append_right _ (List.mem_append_left _ (List.mem_of_getElem? (i := 92) rfl))))) rfl
theorem xm_2 : (Cond.fieldLink "LayerDeskModel" 23 "LayerDeskModel" "name" "[I") ∈ wT := wT_t (List.mem_append_right _ (List.mem_append_right _ (List.mem_append_right _ (List.mem_append_left _ (List.mem_of_getElem? (i := 93) rfl))))) rfl
theorem xm_3 : (Cond.fieldLink "LayerDeskModel" 45 "LayerDeskModel" "locked" "[Z") ∈ wT := wT_t (List.mem_append_right _ (List.mem_append_right _ (List.mem_append_right _ (List.mem_append_left _ (List.mem_of_getElem? (i := 100) rfl))))) rfl
theorem xm_4 : (Cond.fieldLink "LayerDeskModel" 26 "LayerDeskModel" "packages" "[I") ∈ wT := wT_t (List.mem_append_right _ (List.mem_append_right _ (List.mem_append_right _ (List.mem_append_left _ (List.mem_of_getElem? (i := 94) rfl))))) rfl
theorem xm_5 : (Cond.fieldLink "LayerDeskModel" 29 "LayerDeskModel" "pack" "[I") ∈ wT := wT_t (List.mem_append_right _ (List.mem_append_right _ (List.mem_append_right _ (List.mem_append_left _ (List.mem_of_getElem? (i := 95) rfl))))) rfl
theorem xm_6 : (Cond.fieldLink "LayerDeskModel" 72 "LayerDeskModel" "modules" "[I") ∈ wT := wT_t (List.mem_append_right _ (List.mem_append_right _ (List.mem_append_right _ (List.mem_append_left _ (List.mem_of_getElem? (i := 110) rfl))))) rfl
theorem xm_7 : (Cond.fieldLink "LayerDeskModel" 75 "LayerDeskModel" "module" "[I") ∈ wT := wT_t (List.mem_append_right _ (List.mem_append_right _ (List.mem_append_right _ (List.mem_append_left _ (List.mem_of_getElem? (i := 111) rfl))))) rfl
theorem xm_8 : (Cond.fieldLink "LayerDeskModel" 13 "LayerDeskModel" "begin" "[I") ∈ wT := wT_t (List.mem_append_right _ (List.mem_append_right _ (List.mem_append_right _ (List.mem_append_left _ (List.mem_of_getElem? (i := 89) rfl))))) rfl
theorem xm_9 : (Cond.fieldLink "LayerDeskModel" 17 "LayerDeskModel" "end" "[I") ∈ wT := wT_t (List.mem_append_right _ (List.mem_append_right _ (List.mem_append_right _ (List.mem_append_left _ (List.mem_of_getElem? (i := 90) rfl))))) rfl
theorem xm_10 : (Cond.fieldLink "LayerDeskModel" 7 "LayerDeskModel" "text" "[C") ∈ wT := wT_t (List.mem_append_right _ (List.mem_append_right _ (List.mem_append_right _ (List.mem_append_left _ (List.mem_of_getElem? (i := 86) rfl))))) rfl
theorem xm_16 : (Cond.fieldLink "LayerDeskModel" 94 "LayerDeskModel" "words" "I") ∈ wT := wT_t (List.mem_append_right _ (List.mem_append_right _ (List.mem_append_right _ (List.mem_append_left _ (List.mem_of_getElem? (i := 88) rfl))))) rfl
theorem xm_17 : (Cond.fieldLink "LayerDeskModel" 91 "LayerDeskModel" "written" "I") ∈ wT := wT_t (List.mem_append_right _ (List.mem_append_right _ (List.mem_append_right _ (List.mem_append_left _ (List.mem_of_getElem? (i := 87) rfl))))) rfl
set_option maxHeartbeats 4000000 in
set_option maxRecDepth 100000 in
theorem xc_Mo_descriptorOf (l : Launch) (D : va_G) (kA : Nat → ClassId) (sz h : Nat) (mm : Nat → Nat) (v : Nat → Int32) (g : Nat → Nat → Int32) (fd : Int32) (nm : Int32) (nd : Nat) (hnd : v 4 = nI nd) (hnd12 : nd ≤ 12) : Met l xy_Mo_descriptorOf (.code xy_Mo_descriptorOf xb_Mo_descriptorOf 4 (some .int) :: wT) { frames := 0, cells := 0, slots := 0, locals := 0 } (va_Pc [.ref h, .int fd, .int nm] (xPre D kA sz (moW h mm kA v g))) (va_Qi (fun (r : Int32) (u : Unit) => (∃ k, k < nd ∧ r = nI k ∧ g 3 k = fd ∧ g 4 k = nm ∧ ∀ j, j < k → ¬ (g 3 j = fd ∧ g 4 j = nm)) ∨ (r = -1 ∧ ∀ j, j < nd → ¬ (g 3 j = fd ∧ g 4 j = nm))) (fun (u : Unit) t => va_P D xcl (moW h mm kA v g) t.heap ∧ va_D (va_A (moW h mm kA v g) sz) (moW h mm kA v g)) (va_A (moW h mm kA v g) sz)) 0 0 (va_A (moW h mm kA v g) sz) := by
  refine Met.ofW (cc := xb_Mo_descriptorOf) (maxL := 4) (ret := (some .int)) (by decide) rfl ?_
  intro p e s m args below meth c s₁ B hml hv
  obtain ⟨rfl, hsz, hP, hK, hD0⟩ := hv
  have hx := B.exec
  have hb := B.bytes
  have hr := B.returns
  have hT := x_hT B.pre
  have hown : s.vm.findClass xR_Mo = some m.cls := findClass_of_methodNamed B.named
  have hlocks := B.notSynchronized
  subst hsz
  have hD := hD0.self (sz := s.heap.size)
  generalize hAe : va_A (moW h mm kA v g) s.heap.size = A at hD ⊢
  have hA : ∀ q : Nat, s.heap.size ≤ q → A q := fun q h => by rw [← hAe]; exact Or.inr h
  have hS : va_S A s.heap s.heap [] := va_S.rf
  have hl := lv_entry ([.ref h, .int fd, .int nm]) (n := 4) (Nat.le_of_ble_eq_true rfl)
  rw [lg_entry_eq]
  generalize (lg_sl ([.ref h, .int fd, .int nm]) ++ List.replicate (4 - (lg_sl ([.ref h, .int fd, .int nm])).length) Slot.unset).toArray = ls at hl ⊢
  have hl : lv_has ls 4 [(0, .ref h), (1, .int fd), (2, .int nm)] := hl
  have hP : va_P D xcl (moW h mm kA v g) s.heap := hP
  refine lv_iconst (v := 0) hx hb xd_Mo_descriptorOf_0 (by decide) ?_
  refine lv_istore_n hx hb xd_Mo_descriptorOf_1 rfl hl (Nat.le_of_ble_eq_true rfl) rfl (fun ls hl => ?_)
  have hl : lv_has ls 4 [(3, .int 0), (0, .ref h), (1, .int fd), (2, .int nm)] := hl
  refine xlab (σ := Nat) (ml := 4) 2 (fun (i : Nat) => [(3, .int (nI i)), (0, .ref h), (1, .int fd), (2, .int nm)]) (fun (i : Nat) => []) (fun (i : Nat) => moW h mm kA v g) (fun (i : Nat) => (i ≤ nd) ∧ (∀ j, j < i → ¬ (g 3 j = fd ∧ g 4 j = nm))) (fun (i : Nat) => nd - i) ?_ 0 _ _ _ (lv_sub hl [0, 1, 2, 3] rfl) hP hD hS ⟨(show 0 ≤ nd from by first | assumption | omega), (show ∀ j, j < 0 → ¬ (g 3 j = fd ∧ g 4 j = nm) from fun j hj => absurd hj (by omega))⟩
  intro n9 ih1 a9 ls H locs hμ hl hP hD hS hI
  subst hμ
  obtain ⟨i, rfl⟩ : ∃ z, z = a9 := ⟨_, rfl⟩
  obtain ⟨hi, hno⟩ := hI
  have hi : i ≤ nd := hi
  have hno : ∀ j, j < i → ¬ (g 3 j = fd ∧ g 4 j = nm) := hno
  have hl : lv_has ls 4 [(3, .int (nI i)), (0, .ref h), (1, .int fd), (2, .int nm)] := hl
  have hP : va_P D xcl (moW h mm kA v g) H := hP
  have hD : va_D A (moW h mm kA v g) := hD
  refine lv_iload_n hx hb xd_Mo_descriptorOf_2 rfl (lv_at hl 0 rfl) ?_
  refine lv_aload_n hx hb xd_Mo_descriptorOf_3 rfl (lv_at hl 1 rfl) ?_
  refine va_get (D := D) (ci := 4) (v := .int (v 4)) (C := xR_Mo) (T := xT_Mo) (N := 31) hx hb hT xi_Mo hown hK.1 hP 0 rfl rfl 7 (by decide) (hT _ xm_0) (fun _ h9 => h9) rfl xd_Mo_descriptorOf_4 ?_
  refine xn_top (x := (v 4)) (y := nI nd) hnd ?_
  refine xn_ge (a := i) (b := nd) (tgt := 38) hx hb xd_Mo_descriptorOf_7 (by decide) (by omega) (by omega) (fun hc2 => ?_) (fun hc2 => ?_)
  · refine lv_iconst (v := (-1)) hx hb xd_Mo_descriptorOf_38 (by decide) ?_
    exact W.iret (v := (-1)) hx hb hr (fun t ht hW => ⟨⟨(-1), (), rfl, Or.inr ⟨rfl, fun j hj => hno j (by omega)⟩, by rw [ht]; exact hP, hD⟩, hS.F ht⟩) hS.2.2 xd_Mo_descriptorOf_39
  · refine lv_aload_n hx hb xd_Mo_descriptorOf_10 rfl (lv_at hl 1 rfl) ?_
    refine va_get (D := D) (ci := 4) (v := .ref (mm 3)) (C := xR_Mo) (T := xT_Mo) (N := 31) hx hb hT xi_Mo hown hK.1 hP 0 rfl rfl 8 (by decide) (hT _ xm_1) (fun _ h9 => h9) rfl xd_Mo_descriptorOf_11 ?_
    refine lv_iload_n hx hb xd_Mo_descriptorOf_14 rfl (lv_at hl 0 rfl) ?_
    refine xn_iald (i := i) hx hb hK.1 hP 4 0 rfl rfl (by omega) (by decide) xd_Mo_descriptorOf_15 ?_
    refine lv_iload_n hx hb xd_Mo_descriptorOf_16 rfl (lv_at hl 2 rfl) ?_
    refine lv_icmp_ne (tgt := 32) hx hb xd_Mo_descriptorOf_17 (by decide) (fun hc3 => ?_) (fun hc3 => ?_)
    · refine lv_iinc (k := 0) (x := (nI i)) (v := (nI (i + 1))) hx hb xd_Mo_descriptorOf_32 hl rfl (xb_inc i 1) (Nat.le_of_ble_eq_true rfl) rfl (fun ls hl => ?_)
      have hl : lv_has ls 4 [(3, .int (nI (i + 1))), (0, .ref h), (1, .int fd), (2, .int nm)] := hl
      refine lv_goto (tgt := 2) hx hb xd_Mo_descriptorOf_35 (by decide) ?_
      exact ih1 (i + 1) _ _ _ (show nd - (i + 1) < nd - i by omega) (lv_sub hl [0, 1, 2, 3] rfl) hP hD hS ⟨(show (i + 1) ≤ nd from by first | assumption | omega), (show ∀ j, j < (i + 1) → ¬ (g 3 j = fd ∧ g 4 j = nm) from lt_s hno (fun q => hc3 q.1))⟩
    · refine lv_aload_n hx hb xd_Mo_descriptorOf_20 rfl (lv_at hl 1 rfl) ?_
      refine va_get (D := D) (ci := 4) (v := .ref (mm 4)) (C := xR_Mo) (T := xT_Mo) (N := 31) hx hb hT xi_Mo hown hK.1 hP 0 rfl rfl 9 (by decide) (hT _ xm_2) (fun _ h9 => h9) rfl xd_Mo_descriptorOf_21 ?_
      refine lv_iload_n hx hb xd_Mo_descriptorOf_24 rfl (lv_at hl 0 rfl) ?_
      refine xn_iald (i := i) hx hb hK.1 hP 5 0 rfl rfl (by omega) (by decide) xd_Mo_descriptorOf_25 ?_
      refine lv_iload_n hx hb xd_Mo_descriptorOf_26 rfl (lv_at hl 3 rfl) ?_
      refine lv_icmp_ne (tgt := 32) hx hb xd_Mo_descriptorOf_27 (by decide) (fun hc4 => ?_) (fun hc4 => ?_)
      · refine lv_iinc (k := 0) (x := (nI i)) (v := (nI (i + 1))) hx hb xd_Mo_descriptorOf_32 hl rfl (xb_inc i 1) (Nat.le_of_ble_eq_true rfl) rfl (fun ls hl => ?_)
        have hl : lv_has ls 4 [(3, .int (nI (i + 1))), (0, .ref h), (1, .int fd), (2, .int nm)] := hl
        refine lv_goto (tgt := 2) hx hb xd_Mo_descriptorOf_35 (by decide) ?_
        exact ih1 (i + 1) _ _ _ (show nd - (i + 1) < nd - i by omega) (lv_sub hl [0, 1, 2, 3] rfl) hP hD hS ⟨(show (i + 1) ≤ nd from by first | assumption | omega), (show ∀ j, j < (i + 1) → ¬ (g 3 j = fd ∧ g 4 j = nm) from lt_s hno (fun q => hc4 q.2))⟩
      · refine lv_iload_n hx hb xd_Mo_descriptorOf_30 rfl (lv_at hl 0 rfl) ?_
        exact W.iret (v := (nI i)) hx hb hr (fun t ht hW => ⟨⟨(nI i), (), rfl, Or.inl ⟨i, by omega, rfl, hc3, hc4, hno⟩, by rw [ht]; exact hP, hD⟩, hS.F ht⟩) hS.2.2 xd_Mo_descriptorOf_31
set_option maxHeartbeats 4000000 in
set_option maxRecDepth 100000 in
theorem xc_Mo_isShut (l : Launch) (D : va_G) (kA : Nat → ClassId) (sz h : Nat) (mm : Nat → Nat) (v : Nat → Int32) (g : Nat → Nat → Int32) (nd : Nat) (hnd : v 4 = nI nd) (hnd12 : nd ≤ 12) : Met l xy_Mo_isShut (.code xy_Mo_isShut xb_Mo_isShut 1 (some .boolean) :: wT) { frames := 0, cells := 0, slots := 0, locals := 0 } (va_Pc [.ref h] (xPre D kA sz (moW h mm kA v g))) (va_Qi (fun (r : Int32) (u : Unit) => (r = 1 ∧ (nd = 0 ∨ ¬ g 11 (nd - 1) = 0)) ∨ (r = 0 ∧ nd ≠ 0 ∧ g 11 (nd - 1) = 0)) (fun (u : Unit) t => va_P D xcl (moW h mm kA v g) t.heap ∧ va_D (va_A (moW h mm kA v g) sz) (moW h mm kA v g)) (va_A (moW h mm kA v g) sz)) 0 0 (va_A (moW h mm kA v g) sz) := by
  refine Met.ofW (cc := xb_Mo_isShut) (maxL := 1) (ret := (some .boolean)) (by decide) rfl ?_
  intro p e s m args below meth c s₁ B hml hv
  obtain ⟨rfl, hsz, hP, hK, hD0⟩ := hv
  have hx := B.exec
  have hb := B.bytes
  have hr := B.returns
  have hT := x_hT B.pre
  have hown : s.vm.findClass xR_Mo = some m.cls := findClass_of_methodNamed B.named
  have hlocks := B.notSynchronized
  subst hsz
  have hD := hD0.self (sz := s.heap.size)
  generalize hAe : va_A (moW h mm kA v g) s.heap.size = A at hD ⊢
  have hA : ∀ q : Nat, s.heap.size ≤ q → A q := fun q h => by rw [← hAe]; exact Or.inr h
  have hS : va_S A s.heap s.heap [] := va_S.rf
  have hl := lv_entry ([.ref h]) (n := 1) (Nat.le_of_ble_eq_true rfl)
  rw [lg_entry_eq]
  generalize (lg_sl ([.ref h]) ++ List.replicate (1 - (lg_sl ([.ref h])).length) Slot.unset).toArray = ls at hl ⊢
  have hl : lv_has ls 1 [(0, .ref h)] := hl
  have hP : va_P D xcl (moW h mm kA v g) s.heap := hP
  refine lv_aload_n hx hb xd_Mo_isShut_0 rfl (lv_at hl 0 rfl) ?_
  refine va_get (D := D) (ci := 4) (v := .int (v 4)) (C := xR_Mo) (T := xT_Mo) (N := 31) hx hb hT xi_Mo hown hK.1 hP 0 rfl rfl 7 (by decide) (hT _ xm_0) (fun _ h9 => h9) rfl xd_Mo_isShut_1 ?_
  refine xn_top (x := (v 4)) (y := nI nd) hnd ?_
  refine xz_eq (a := nd) (tgt := 21) hx hb xd_Mo_isShut_4 (by decide) (by omega) (fun hc1 => ?_) (fun hc1 => ?_)
  · refine lv_iconst (v := 1) hx hb xd_Mo_isShut_21 (by decide) ?_
    refine lv_goto (tgt := 26) hx hb xd_Mo_isShut_22 (by decide) ?_
    exact W.zret (v := 1) hx hb hr rfl (fun t ht hW => ⟨⟨1, (), rfl, Or.inl ⟨rfl, Or.inl hc1⟩, by rw [ht]; exact hP, hD⟩, hS.F ht⟩) hS.2.2 xd_Mo_isShut_26
  · refine lv_aload_n hx hb xd_Mo_isShut_7 rfl (lv_at hl 0 rfl) ?_
    refine va_get (D := D) (ci := 4) (v := .ref (mm 11)) (C := xR_Mo) (T := xT_Mo) (N := 31) hx hb hT xi_Mo hown hK.1 hP 0 rfl rfl 16 (by decide) (hT _ xm_3) (fun _ h9 => h9) rfl xd_Mo_isShut_8 ?_
    refine lv_aload_n hx hb xd_Mo_isShut_11 rfl (lv_at hl 0 rfl) ?_
    refine va_get (D := D) (ci := 4) (v := .int (v 4)) (C := xR_Mo) (T := xT_Mo) (N := 31) hx hb hT xi_Mo hown hK.1 hP 0 rfl rfl 7 (by decide) (hT _ xm_0) (fun _ h9 => h9) rfl xd_Mo_isShut_12 ?_
    refine xn_top (x := (v 4)) (y := nI nd) hnd ?_
    refine lv_iconst (v := 1) hx hb xd_Mo_isShut_15 (by decide) ?_
    refine lv_isub hx hb xd_Mo_isShut_16 ?_
    refine xn_top (y := nI (nd - 1)) (pk_sub (a := nd) (b := 1) (by omega)) ?_
    refine xn_zald (i := nd - 1) hx hb hK.1 hP 12 2 rfl rfl (by omega) (by decide) xd_Mo_isShut_17 ?_
    refine lv_if_eq (tgt := 25) hx hb xd_Mo_isShut_18 (by decide) (fun hc2 => ?_) (fun hc2 => ?_)
    · refine lv_iconst (v := 0) hx hb xd_Mo_isShut_25 (by decide) ?_
      exact W.zret (v := 0) hx hb hr rfl (fun t ht hW => ⟨⟨0, (), rfl, Or.inr ⟨rfl, hc1, hc2⟩, by rw [ht]; exact hP, hD⟩, hS.F ht⟩) hS.2.2 xd_Mo_isShut_26
    · refine lv_iconst (v := 1) hx hb xd_Mo_isShut_21 (by decide) ?_
      refine lv_goto (tgt := 26) hx hb xd_Mo_isShut_22 (by decide) ?_
      exact W.zret (v := 1) hx hb hr rfl (fun t ht hW => ⟨⟨1, (), rfl, Or.inl ⟨rfl, Or.inr hc2⟩, by rw [ht]; exact hP, hD⟩, hS.F ht⟩) hS.2.2 xd_Mo_isShut_26
set_option maxHeartbeats 4000000 in
set_option maxRecDepth 100000 in
theorem xc_Mo_packageOf (l : Launch) (D : va_G) (kA : Nat → ClassId) (sz h : Nat) (mm : Nat → Nat) (v : Nat → Int32) (g : Nat → Nat → Int32) (d : Nat) (nm : Int32) (pk : Nat) (hd : d < 12) (hpk : g 5 d = nI pk) (hpk6 : pk ≤ 6) : Met l xy_Mo_packageOf (.code xy_Mo_packageOf xb_Mo_packageOf 4 (some .int) :: wT) { frames := 0, cells := 0, slots := 0, locals := 0 } (va_Pc [.ref h, .int (nI d), .int nm] (xPre D kA sz (moW h mm kA v g))) (va_Qi (fun (r : Int32) (u : Unit) => (∃ k, 6 * d ≤ k ∧ k < 6 * d + pk ∧ r = nI k ∧ g 6 k = nm) ∨ (r = -1 ∧ ∀ j, 6 * d ≤ j → j < 6 * d + pk → ¬ g 6 j = nm)) (fun (u : Unit) t => va_P D xcl (moW h mm kA v g) t.heap ∧ va_D (va_A (moW h mm kA v g) sz) (moW h mm kA v g)) (va_A (moW h mm kA v g) sz)) 0 0 (va_A (moW h mm kA v g) sz) := by
  refine Met.ofW (cc := xb_Mo_packageOf) (maxL := 4) (ret := (some .int)) (by decide) rfl ?_
  intro p e s m args below meth c s₁ B hml hv
  obtain ⟨rfl, hsz, hP, hK, hD0⟩ := hv
  have hx := B.exec
  have hb := B.bytes
  have hr := B.returns
  have hT := x_hT B.pre
  have hown : s.vm.findClass xR_Mo = some m.cls := findClass_of_methodNamed B.named
  have hlocks := B.notSynchronized
  subst hsz
  have hD := hD0.self (sz := s.heap.size)
  generalize hAe : va_A (moW h mm kA v g) s.heap.size = A at hD ⊢
  have hA : ∀ q : Nat, s.heap.size ≤ q → A q := fun q h => by rw [← hAe]; exact Or.inr h
  have hS : va_S A s.heap s.heap [] := va_S.rf
  have hl := lv_entry ([.ref h, .int (nI d), .int nm]) (n := 4) (Nat.le_of_ble_eq_true rfl)
  rw [lg_entry_eq]
  generalize (lg_sl ([.ref h, .int (nI d), .int nm]) ++ List.replicate (4 - (lg_sl ([.ref h, .int (nI d), .int nm])).length) Slot.unset).toArray = ls at hl ⊢
  have hl : lv_has ls 4 [(0, .ref h), (1, .int (nI d)), (2, .int nm)] := hl
  have hP : va_P D xcl (moW h mm kA v g) s.heap := hP
  refine lv_bipush (v := 6) hx hb xd_Mo_packageOf_0 (by decide) ?_
  refine lv_iload_n hx hb xd_Mo_packageOf_2 rfl (lv_at hl 1 rfl) ?_
  refine lv_imul hx hb xd_Mo_packageOf_3 ?_
  refine xn_top (y := nI (6 * d)) (pk_mul 6 d) ?_
  refine lv_istore_n hx hb xd_Mo_packageOf_4 rfl hl (Nat.le_of_ble_eq_true rfl) rfl (fun ls hl => ?_)
  have hl : lv_has ls 4 [(3, .int (nI (6 * d))), (0, .ref h), (1, .int (nI d)), (2, .int nm)] := hl
  refine xlab (σ := Nat) (ml := 4) 5 (fun (i : Nat) => [(3, .int (nI i)), (0, .ref h), (1, .int (nI d)), (2, .int nm)]) (fun (i : Nat) => []) (fun (i : Nat) => moW h mm kA v g) (fun (i : Nat) => (6 * d ≤ i) ∧ (i ≤ 6 * d + pk) ∧ (∀ j, 6 * d ≤ j → j < i → ¬ g 6 j = nm)) (fun (i : Nat) => 6 * d + pk - i) ?_ (6 * d) _ _ _ (lv_sub hl [0, 1, 2, 3] rfl) hP hD hS ⟨(show 6 * d ≤ (6 * d) from by first | assumption | omega), (show (6 * d) ≤ 6 * d + pk from by first | assumption | omega), (show ∀ j, 6 * d ≤ j → j < (6 * d) → ¬ g 6 j = nm from fun j h1 h2 => absurd h2 (by omega))⟩
  intro n9 ih1 a9 ls H locs hμ hl hP hD hS hI
  subst hμ
  obtain ⟨i, rfl⟩ : ∃ z, z = a9 := ⟨_, rfl⟩
  obtain ⟨hi1, hi2, hno⟩ := hI
  have hi1 : 6 * d ≤ i := hi1
  have hi2 : i ≤ 6 * d + pk := hi2
  have hno : ∀ j, 6 * d ≤ j → j < i → ¬ g 6 j = nm := hno
  have hl : lv_has ls 4 [(3, .int (nI i)), (0, .ref h), (1, .int (nI d)), (2, .int nm)] := hl
  have hP : va_P D xcl (moW h mm kA v g) H := hP
  have hD : va_D A (moW h mm kA v g) := hD
  refine lv_iload_n hx hb xd_Mo_packageOf_5 rfl (lv_at hl 0 rfl) ?_
  refine lv_bipush (v := 6) hx hb xd_Mo_packageOf_6 (by decide) ?_
  refine lv_iload_n hx hb xd_Mo_packageOf_8 rfl (lv_at hl 2 rfl) ?_
  refine lv_imul hx hb xd_Mo_packageOf_9 ?_
  refine xn_top (y := nI (6 * d)) (pk_mul 6 d) ?_
  refine lv_aload_n hx hb xd_Mo_packageOf_10 rfl (lv_at hl 1 rfl) ?_
  refine va_get (D := D) (ci := 4) (v := .ref (mm 5)) (C := xR_Mo) (T := xT_Mo) (N := 31) hx hb hT xi_Mo hown hK.1 hP 0 rfl rfl 10 (by decide) (hT _ xm_4) (fun _ h9 => h9) rfl xd_Mo_packageOf_11 ?_
  refine lv_iload_n hx hb xd_Mo_packageOf_14 rfl (lv_at hl 2 rfl) ?_
  refine xn_iald (i := d) hx hb hK.1 hP 6 0 rfl rfl (by omega) (by decide) xd_Mo_packageOf_15 ?_
  refine xn_top (x := (g 5 d)) (y := nI pk) hpk ?_
  refine lv_iadd hx hb xd_Mo_packageOf_16 ?_
  refine xn_top (y := nI ((6 * d) + pk)) (nI_add (6 * d) pk) ?_
  refine xn_ge (a := i) (b := (6 * d) + pk) (tgt := 38) hx hb xd_Mo_packageOf_17 (by decide) (by omega) (by omega) (fun hc2 => ?_) (fun hc2 => ?_)
  · refine lv_iconst (v := (-1)) hx hb xd_Mo_packageOf_38 (by decide) ?_
    exact W.iret (v := (-1)) hx hb hr (fun t ht hW => ⟨⟨(-1), (), rfl, Or.inr ⟨rfl, fun j h1 h2 => hno j h1 (by omega)⟩, by rw [ht]; exact hP, hD⟩, hS.F ht⟩) hS.2.2 xd_Mo_packageOf_39
  · refine lv_aload_n hx hb xd_Mo_packageOf_20 rfl (lv_at hl 1 rfl) ?_
    refine va_get (D := D) (ci := 4) (v := .ref (mm 6)) (C := xR_Mo) (T := xT_Mo) (N := 31) hx hb hT xi_Mo hown hK.1 hP 0 rfl rfl 11 (by decide) (hT _ xm_5) (fun _ h9 => h9) rfl xd_Mo_packageOf_21 ?_
    refine lv_iload_n hx hb xd_Mo_packageOf_24 rfl (lv_at hl 0 rfl) ?_
    refine xn_iald (i := i) hx hb hK.1 hP 7 0 rfl rfl (by omega) (by decide) xd_Mo_packageOf_25 ?_
    refine lv_iload_n hx hb xd_Mo_packageOf_26 rfl (lv_at hl 3 rfl) ?_
    refine lv_icmp_ne (tgt := 32) hx hb xd_Mo_packageOf_27 (by decide) (fun hc3 => ?_) (fun hc3 => ?_)
    · refine lv_iinc (k := 0) (x := (nI i)) (v := (nI (i + 1))) hx hb xd_Mo_packageOf_32 hl rfl (xb_inc i 1) (Nat.le_of_ble_eq_true rfl) rfl (fun ls hl => ?_)
      have hl : lv_has ls 4 [(3, .int (nI (i + 1))), (0, .ref h), (1, .int (nI d)), (2, .int nm)] := hl
      refine lv_goto (tgt := 5) hx hb xd_Mo_packageOf_35 (by decide) ?_
      exact ih1 (i + 1) _ _ _ (show 6 * d + pk - (i + 1) < 6 * d + pk - i by omega) (lv_sub hl [0, 1, 2, 3] rfl) hP hD hS ⟨(show 6 * d ≤ (i + 1) from by first | assumption | omega), (show (i + 1) ≤ 6 * d + pk from by first | assumption | omega), (show ∀ j, 6 * d ≤ j → j < (i + 1) → ¬ g 6 j = nm from fun j h1 h2 => by
      rcases Nat.lt_or_ge j i with h3 | h3
      · exact hno j h1 h3
      · have h4 : j = i := by omega
        rw [h4]; exact hc3)⟩
    · refine lv_iload_n hx hb xd_Mo_packageOf_30 rfl (lv_at hl 0 rfl) ?_
      exact W.iret (v := (nI i)) hx hb hr (fun t ht hW => ⟨⟨(nI i), (), rfl, Or.inl ⟨i, by omega, by omega, rfl, hc3⟩, by rw [ht]; exact hP, hD⟩, hS.F ht⟩) hS.2.2 xd_Mo_packageOf_31
set_option maxHeartbeats 4000000 in
set_option maxRecDepth 100000 in
theorem xc_Mo_isIn (l : Launch) (D : va_G) (kA : Nat → ClassId) (sz h : Nat) (mm : Nat → Nat) (v : Nat → Int32) (g : Nat → Nat → Int32) (la : Nat) (dd : Int32) (mk9 : Nat) (hla : la < 6) (hmk : g 20 la = nI mk9) (hmk12 : mk9 ≤ 12) : Met l xy_Mo_isIn (.code xy_Mo_isIn xb_Mo_isIn 5 (some .boolean) :: wT) { frames := 0, cells := 0, slots := 0, locals := 0 } (va_Pc [.ref h, .int (nI la), .int dd] (xPre D kA sz (moW h mm kA v g))) (va_Qi (fun (r : Int32) (u : Unit) => (r = 1 ∧ ∃ j, 12 * la ≤ j ∧ j < 12 * la + mk9 ∧ g 21 j = dd) ∨ (r = 0 ∧ ∀ j, 12 * la ≤ j → j < 12 * la + mk9 → ¬ g 21 j = dd)) (fun (u : Unit) t => va_P D xcl (moW h mm kA v g) t.heap ∧ va_D (va_A (moW h mm kA v g) sz) (moW h mm kA v g)) (va_A (moW h mm kA v g) sz)) 0 0 (va_A (moW h mm kA v g) sz) := by
  refine Met.ofW (cc := xb_Mo_isIn) (maxL := 5) (ret := (some .boolean)) (by decide) rfl ?_
  intro p e s m args below meth c s₁ B hml hv
  obtain ⟨rfl, hsz, hP, hK, hD0⟩ := hv
  have hx := B.exec
  have hb := B.bytes
  have hr := B.returns
  have hT := x_hT B.pre
  have hown : s.vm.findClass xR_Mo = some m.cls := findClass_of_methodNamed B.named
  have hlocks := B.notSynchronized
  subst hsz
  have hD := hD0.self (sz := s.heap.size)
  generalize hAe : va_A (moW h mm kA v g) s.heap.size = A at hD ⊢
  have hA : ∀ q : Nat, s.heap.size ≤ q → A q := fun q h => by rw [← hAe]; exact Or.inr h
  have hS : va_S A s.heap s.heap [] := va_S.rf
  have hl := lv_entry ([.ref h, .int (nI la), .int dd]) (n := 5) (Nat.le_of_ble_eq_true rfl)
  rw [lg_entry_eq]
  generalize (lg_sl ([.ref h, .int (nI la), .int dd]) ++ List.replicate (5 - (lg_sl ([.ref h, .int (nI la), .int dd])).length) Slot.unset).toArray = ls at hl ⊢
  have hl : lv_has ls 5 [(0, .ref h), (1, .int (nI la)), (2, .int dd)] := hl
  have hP : va_P D xcl (moW h mm kA v g) s.heap := hP
  refine lv_iconst (v := 0) hx hb xd_Mo_isIn_0 (by decide) ?_
  refine lv_istore_n hx hb xd_Mo_isIn_1 rfl hl (Nat.le_of_ble_eq_true rfl) rfl (fun ls hl => ?_)
  have hl : lv_has ls 5 [(3, .int 0), (0, .ref h), (1, .int (nI la)), (2, .int dd)] := hl
  refine lv_bipush (v := 12) hx hb xd_Mo_isIn_2 (by decide) ?_
  refine lv_iload_n hx hb xd_Mo_isIn_4 rfl (lv_at hl 2 rfl) ?_
  refine lv_imul hx hb xd_Mo_isIn_5 ?_
  refine xn_top (y := nI (12 * la)) (pk_mul 12 la) ?_
  refine lv_istore hx hb xd_Mo_isIn_6 hl (Nat.le_of_ble_eq_true rfl) rfl (fun ls hl => ?_)
  have hl : lv_has ls 5 [(4, .int (nI (12 * la))), (3, .int 0), (0, .ref h), (1, .int (nI la)), (2, .int dd)] := hl
  refine xlab (σ := Nat × Int32) (ml := 5) 8 (fun (i, b9) => [(4, .int (nI i)), (3, .int b9), (0, .ref h), (1, .int (nI la)), (2, .int dd)]) (fun (i, b9) => []) (fun (i, b9) => moW h mm kA v g) (fun (i, b9) => (12 * la ≤ i) ∧ (i ≤ 12 * la + mk9) ∧ ((b9 = 1 ∧ ∃ j, 12 * la ≤ j ∧ j < i ∧ g 21 j = dd) ∨ (b9 = 0 ∧ ∀ j, 12 * la ≤ j → j < i → ¬ g 21 j = dd))) (fun (i, b9) => 12 * la + mk9 - i) ?_ (12 * la, 0) _ _ _ (lv_sub hl [0, 1, 2, 3, 4] rfl) hP hD hS ⟨(show 12 * la ≤ (12 * la) from by first | assumption | omega), (show (12 * la) ≤ 12 * la + mk9 from by first | assumption | omega), (show (0 = 1 ∧ ∃ j, 12 * la ≤ j ∧ j < (12 * la) ∧ g 21 j = dd) ∨ (0 = 0 ∧ ∀ j, 12 * la ≤ j → j < (12 * la) → ¬ g 21 j = dd) from Or.inr ⟨rfl, fun j h1 h2 => absurd h2 (by omega)⟩)⟩
  intro n9 ih1 a9 ls H locs hμ hl hP hD hS hI
  subst hμ
  obtain ⟨i, b9⟩ := a9
  obtain ⟨hi1, hi2, hb9⟩ := hI
  have hi1 : 12 * la ≤ i := hi1
  have hi2 : i ≤ 12 * la + mk9 := hi2
  have hb9 : (b9 = 1 ∧ ∃ j, 12 * la ≤ j ∧ j < i ∧ g 21 j = dd) ∨ (b9 = 0 ∧ ∀ j, 12 * la ≤ j → j < i → ¬ g 21 j = dd) := hb9
  have hl : lv_has ls 5 [(4, .int (nI i)), (3, .int b9), (0, .ref h), (1, .int (nI la)), (2, .int dd)] := hl
  have hP : va_P D xcl (moW h mm kA v g) H := hP
  have hD : va_D A (moW h mm kA v g) := hD
  refine lv_iload hx hb xd_Mo_isIn_8 (lv_at hl 0 rfl) ?_
  refine lv_bipush (v := 12) hx hb xd_Mo_isIn_10 (by decide) ?_
  refine lv_iload_n hx hb xd_Mo_isIn_12 rfl (lv_at hl 3 rfl) ?_
  refine lv_imul hx hb xd_Mo_isIn_13 ?_
  refine xn_top (y := nI (12 * la)) (pk_mul 12 la) ?_
  refine lv_aload_n hx hb xd_Mo_isIn_14 rfl (lv_at hl 2 rfl) ?_
  refine va_get (D := D) (ci := 4) (v := .ref (mm 20)) (C := xR_Mo) (T := xT_Mo) (N := 31) hx hb hT xi_Mo hown hK.1 hP 0 rfl rfl 26 (by decide) (hT _ xm_6) (fun _ h9 => h9) rfl xd_Mo_isIn_15 ?_
  refine lv_iload_n hx hb xd_Mo_isIn_18 rfl (lv_at hl 3 rfl) ?_
  refine xn_iald (i := la) hx hb hK.1 hP 21 0 rfl rfl (by omega) (by decide) xd_Mo_isIn_19 ?_
  refine xn_top (x := (g 20 la)) (y := nI mk9) hmk ?_
  refine lv_iadd hx hb xd_Mo_isIn_20 ?_
  refine xn_top (y := nI ((12 * la) + mk9)) (nI_add (12 * la) mk9) ?_
  refine xn_ge (a := i) (b := (12 * la) + mk9) (tgt := 51) hx hb xd_Mo_isIn_21 (by decide) (by omega) (by omega) (fun hc2 => ?_) (fun hc2 => ?_)
  · refine lv_iload_n hx hb xd_Mo_isIn_51 rfl (lv_at hl 1 rfl) ?_
    exact W.zret (v := b9) hx hb hr (by rcases hb9 with h | h <;> rw [h.1] <;> rfl) (fun t ht hW => ⟨⟨b9, (), rfl, by
    have hq : i = 12 * la + mk9 := by omega
    rw [hq] at hb9; exact hb9, by rw [ht]; exact hP, hD⟩, hS.F ht⟩) hS.2.2 xd_Mo_isIn_52
  · refine lv_iload_n hx hb xd_Mo_isIn_24 rfl (lv_at hl 1 rfl) ?_
    refine lv_if_ne (tgt := 39) hx hb xd_Mo_isIn_25 (by decide) (fun hc3 => ?_) (fun hc3 => ?_)
    · refine lv_iconst (v := 1) hx hb xd_Mo_isIn_39 (by decide) ?_
      refine lv_goto (tgt := 44) hx hb xd_Mo_isIn_40 (by decide) ?_
      refine lv_istore_n hx hb xd_Mo_isIn_44 rfl hl (Nat.le_of_ble_eq_true rfl) rfl (fun ls hl => ?_)
      have hl : lv_has ls 5 [(3, .int 1), (4, .int (nI i)), (0, .ref h), (1, .int (nI la)), (2, .int dd)] := hl
      refine lv_iinc (k := 1) (x := (nI i)) (v := (nI (i + 1))) hx hb xd_Mo_isIn_45 hl rfl (xb_inc i 1) (Nat.le_of_ble_eq_true rfl) rfl (fun ls hl => ?_)
      have hl : lv_has ls 5 [(4, .int (nI (i + 1))), (3, .int 1), (0, .ref h), (1, .int (nI la)), (2, .int dd)] := hl
      refine lv_goto (tgt := 8) hx hb xd_Mo_isIn_48 (by decide) ?_
      exact ih1 (i + 1, 1) _ _ _ (show 12 * la + mk9 - (i + 1) < 12 * la + mk9 - i by omega) (lv_sub hl [0, 1, 2, 3, 4] rfl) hP hD hS ⟨(show 12 * la ≤ (i + 1) from by first | assumption | omega), (show (i + 1) ≤ 12 * la + mk9 from by first | assumption | omega), (show (1 = 1 ∧ ∃ j, 12 * la ≤ j ∧ j < (i + 1) ∧ g 21 j = dd) ∨ (1 = 0 ∧ ∀ j, 12 * la ≤ j → j < (i + 1) → ¬ g 21 j = dd) from Or.inl ⟨rfl, by
      rcases hb9 with ⟨-, j, h1, h2, h3⟩ | ⟨hb9, -⟩
      · exact ⟨j, h1, by omega, h3⟩
      · exact absurd hb9 hc3⟩)⟩
    · refine lv_aload_n hx hb xd_Mo_isIn_28 rfl (lv_at hl 2 rfl) ?_
      refine va_get (D := D) (ci := 4) (v := .ref (mm 21)) (C := xR_Mo) (T := xT_Mo) (N := 31) hx hb hT xi_Mo hown hK.1 hP 0 rfl rfl 27 (by decide) (hT _ xm_7) (fun _ h9 => h9) rfl xd_Mo_isIn_29 ?_
      refine lv_iload hx hb xd_Mo_isIn_32 (lv_at hl 0 rfl) ?_
      refine xn_iald (i := i) hx hb hK.1 hP 22 0 rfl rfl (by omega) (by decide) xd_Mo_isIn_34 ?_
      refine lv_iload_n hx hb xd_Mo_isIn_35 rfl (lv_at hl 4 rfl) ?_
      refine lv_icmp_ne (tgt := 43) hx hb xd_Mo_isIn_36 (by decide) (fun hc4 => ?_) (fun hc4 => ?_)
      · refine lv_iconst (v := 0) hx hb xd_Mo_isIn_43 (by decide) ?_
        refine lv_istore_n hx hb xd_Mo_isIn_44 rfl hl (Nat.le_of_ble_eq_true rfl) rfl (fun ls hl => ?_)
        have hl : lv_has ls 5 [(3, .int 0), (4, .int (nI i)), (0, .ref h), (1, .int (nI la)), (2, .int dd)] := hl
        refine lv_iinc (k := 1) (x := (nI i)) (v := (nI (i + 1))) hx hb xd_Mo_isIn_45 hl rfl (xb_inc i 1) (Nat.le_of_ble_eq_true rfl) rfl (fun ls hl => ?_)
        have hl : lv_has ls 5 [(4, .int (nI (i + 1))), (3, .int 0), (0, .ref h), (1, .int (nI la)), (2, .int dd)] := hl
        refine lv_goto (tgt := 8) hx hb xd_Mo_isIn_48 (by decide) ?_
        exact ih1 (i + 1, 0) _ _ _ (show 12 * la + mk9 - (i + 1) < 12 * la + mk9 - i by omega) (lv_sub hl [0, 1, 2, 3, 4] rfl) hP hD hS ⟨(show 12 * la ≤ (i + 1) from by first | assumption | omega), (show (i + 1) ≤ 12 * la + mk9 from by first | assumption | omega), (show (0 = 1 ∧ ∃ j, 12 * la ≤ j ∧ j < (i + 1) ∧ g 21 j = dd) ∨ (0 = 0 ∧ ∀ j, 12 * la ≤ j → j < (i + 1) → ¬ g 21 j = dd) from Or.inr ⟨rfl, fun j h1 h2 => by
      rcases hb9 with ⟨hb9, -⟩ | ⟨-, hb9⟩
      · exact absurd hb9 (by rw [hc3]; decide)
      rcases Nat.lt_or_ge j i with h3 | h3
      · exact hb9 j h1 h3
      · have h4 : j = i := by omega
        rw [h4]; exact hc4⟩)⟩
      · refine lv_iconst (v := 1) hx hb xd_Mo_isIn_39 (by decide) ?_
        refine lv_goto (tgt := 44) hx hb xd_Mo_isIn_40 (by decide) ?_
        refine lv_istore_n hx hb xd_Mo_isIn_44 rfl hl (Nat.le_of_ble_eq_true rfl) rfl (fun ls hl => ?_)
        have hl : lv_has ls 5 [(3, .int 1), (4, .int (nI i)), (0, .ref h), (1, .int (nI la)), (2, .int dd)] := hl
        refine lv_iinc (k := 1) (x := (nI i)) (v := (nI (i + 1))) hx hb xd_Mo_isIn_45 hl rfl (xb_inc i 1) (Nat.le_of_ble_eq_true rfl) rfl (fun ls hl => ?_)
        have hl : lv_has ls 5 [(4, .int (nI (i + 1))), (3, .int 1), (0, .ref h), (1, .int (nI la)), (2, .int dd)] := hl
        refine lv_goto (tgt := 8) hx hb xd_Mo_isIn_48 (by decide) ?_
        exact ih1 (i + 1, 1) _ _ _ (show 12 * la + mk9 - (i + 1) < 12 * la + mk9 - i by omega) (lv_sub hl [0, 1, 2, 3, 4] rfl) hP hD hS ⟨(show 12 * la ≤ (i + 1) from by first | assumption | omega), (show (i + 1) ≤ 12 * la + mk9 from by first | assumption | omega), (show (1 = 1 ∧ ∃ j, 12 * la ≤ j ∧ j < (i + 1) ∧ g 21 j = dd) ∨ (1 = 0 ∧ ∀ j, 12 * la ≤ j → j < (i + 1) → ¬ g 21 j = dd) from Or.inl ⟨rfl, i, by omega, by omega, hc4⟩)⟩
set_option maxHeartbeats 4000000 in
set_option maxRecDepth 100000 in
theorem xc_Mo_nameOf (l : Launch) (D : va_G) (kA : Nat → ClassId) (sz h : Nat) (mm : Nat → Nat) (v : Nat → Int32) (g : Nat → Nat → Int32) (w : Nat) (b0 : Nat) (e0 : Nat) (hw20 : w < 20) (hb0 : g 1 w = nI b0) (he0 : g 2 w = nI e0) (hbe : b0 ≤ e0) (he40 : e0 ≤ 40) : Met l xy_Mo_nameOf (.code xy_Mo_nameOf xb_Mo_nameOf 4 (some .int) :: wT) { frames := 0, cells := 0, slots := 0, locals := 0 } (va_Pc [.ref h, .int (nI w)] (xPre D kA sz (moW h mm kA v g))) (va_Qi (fun (r : Int32) (u : Unit) => True) (fun (u : Unit) t => va_P D xcl (moW h mm kA v g) t.heap ∧ va_D (va_A (moW h mm kA v g) sz) (moW h mm kA v g)) (va_A (moW h mm kA v g) sz)) 0 0 (va_A (moW h mm kA v g) sz) := by
  refine Met.ofW (cc := xb_Mo_nameOf) (maxL := 4) (ret := (some .int)) (by decide) rfl ?_
  intro p e s m args below meth c s₁ B hml hv
  obtain ⟨rfl, hsz, hP, hK, hD0⟩ := hv
  have hx := B.exec
  have hb := B.bytes
  have hr := B.returns
  have hT := x_hT B.pre
  have hown : s.vm.findClass xR_Mo = some m.cls := findClass_of_methodNamed B.named
  have hlocks := B.notSynchronized
  subst hsz
  have hD := hD0.self (sz := s.heap.size)
  generalize hAe : va_A (moW h mm kA v g) s.heap.size = A at hD ⊢
  have hA : ∀ q : Nat, s.heap.size ≤ q → A q := fun q h => by rw [← hAe]; exact Or.inr h
  have hS : va_S A s.heap s.heap [] := va_S.rf
  have hl := lv_entry ([.ref h, .int (nI w)]) (n := 4) (Nat.le_of_ble_eq_true rfl)
  rw [lg_entry_eq]
  generalize (lg_sl ([.ref h, .int (nI w)]) ++ List.replicate (4 - (lg_sl ([.ref h, .int (nI w)])).length) Slot.unset).toArray = ls at hl ⊢
  have hl : lv_has ls 4 [(0, .ref h), (1, .int (nI w))] := hl
  have hP : va_P D xcl (moW h mm kA v g) s.heap := hP
  refine lv_iconst (v := 0) hx hb xd_Mo_nameOf_0 (by decide) ?_
  refine lv_istore_n hx hb xd_Mo_nameOf_1 rfl hl (Nat.le_of_ble_eq_true rfl) rfl (fun ls hl => ?_)
  have hl : lv_has ls 4 [(2, .int 0), (0, .ref h), (1, .int (nI w))] := hl
  refine lv_aload_n hx hb xd_Mo_nameOf_2 rfl (lv_at hl 1 rfl) ?_
  refine va_get (D := D) (ci := 4) (v := .ref (mm 1)) (C := xR_Mo) (T := xT_Mo) (N := 31) hx hb hT xi_Mo hown hK.1 hP 0 rfl rfl 5 (by decide) (hT _ xm_8) (fun _ h9 => h9) rfl xd_Mo_nameOf_3 ?_
  refine lv_iload_n hx hb xd_Mo_nameOf_6 rfl (lv_at hl 2 rfl) ?_
  refine xn_iald (i := w) hx hb hK.1 hP 2 0 rfl rfl (by omega) (by decide) xd_Mo_nameOf_7 ?_
  refine xn_top (x := (g 1 w)) (y := nI b0) hb0 ?_
  refine lv_istore_n hx hb xd_Mo_nameOf_8 rfl hl (Nat.le_of_ble_eq_true rfl) rfl (fun ls hl => ?_)
  have hl : lv_has ls 4 [(3, .int (nI b0)), (2, .int 0), (0, .ref h), (1, .int (nI w))] := hl
  refine xlab (σ := Nat × Int32) (ml := 4) 9 (fun (k, vv) => [(3, .int (nI k)), (2, .int vv), (0, .ref h), (1, .int (nI w))]) (fun (k, vv) => []) (fun (k, vv) => moW h mm kA v g) (fun (k, vv) => (b0 ≤ k) ∧ (k ≤ e0)) (fun (k, vv) => e0 - k) ?_ (b0, 0) _ _ _ (lv_sub hl [0, 1, 2, 3] rfl) hP hD hS ⟨(show b0 ≤ b0 from by first | assumption | omega), (show b0 ≤ e0 from by first | assumption | omega)⟩
  intro n9 ih1 a9 ls H locs hμ hl hP hD hS hI
  subst hμ
  obtain ⟨k, vv⟩ := a9
  obtain ⟨hk1, hk2⟩ := hI
  have hk1 : b0 ≤ k := hk1
  have hk2 : k ≤ e0 := hk2
  have hl : lv_has ls 4 [(3, .int (nI k)), (2, .int vv), (0, .ref h), (1, .int (nI w))] := hl
  have hP : va_P D xcl (moW h mm kA v g) H := hP
  have hD : va_D A (moW h mm kA v g) := hD
  refine lv_iload_n hx hb xd_Mo_nameOf_9 rfl (lv_at hl 0 rfl) ?_
  refine lv_aload_n hx hb xd_Mo_nameOf_10 rfl (lv_at hl 2 rfl) ?_
  refine va_get (D := D) (ci := 4) (v := .ref (mm 2)) (C := xR_Mo) (T := xT_Mo) (N := 31) hx hb hT xi_Mo hown hK.1 hP 0 rfl rfl 6 (by decide) (hT _ xm_9) (fun _ h9 => h9) rfl xd_Mo_nameOf_11 ?_
  refine lv_iload_n hx hb xd_Mo_nameOf_14 rfl (lv_at hl 3 rfl) ?_
  refine xn_iald (i := w) hx hb hK.1 hP 3 0 rfl rfl (by omega) (by decide) xd_Mo_nameOf_15 ?_
  refine xn_top (x := (g 2 w)) (y := nI e0) he0 ?_
  refine xn_ge (a := k) (b := e0) (tgt := 81) hx hb xd_Mo_nameOf_16 (by decide) (by omega) (by omega) (fun hc2 => ?_) (fun hc2 => ?_)
  · refine lv_iload_n hx hb xd_Mo_nameOf_81 rfl (lv_at hl 1 rfl) ?_
    exact W.iret (v := vv) hx hb hr (fun t ht hW => ⟨⟨vv, (), rfl, trivial, by rw [ht]; exact hP, hD⟩, hS.F ht⟩) hS.2.2 xd_Mo_nameOf_82
  · refine lv_aload_n hx hb xd_Mo_nameOf_19 rfl (lv_at hl 2 rfl) ?_
    refine va_get (D := D) (ci := 4) (v := .ref (mm 0)) (C := xR_Mo) (T := xT_Mo) (N := 31) hx hb hT xi_Mo hown hK.1 hP 0 rfl rfl 2 (by decide) (hT _ xm_10) (fun _ h9 => h9) rfl xd_Mo_nameOf_20 ?_
    refine lv_iload_n hx hb xd_Mo_nameOf_23 rfl (lv_at hl 0 rfl) ?_
    refine xn_cald (i := k) hx hb hK.1 hP 1 1 rfl rfl (by omega) (by decide) xd_Mo_nameOf_24 ?_
    refine lv_bipush (v := 97) hx hb xd_Mo_nameOf_25 (by decide) ?_
    refine lv_icmp_lt (tgt := 58) hx hb xd_Mo_nameOf_27 (by decide) (fun hc3 => ?_) (fun hc3 => ?_)
    · refine lv_iconst (v := 0) hx hb xd_Mo_nameOf_58 (by decide) ?_
      exact W.iret (v := 0) hx hb hr (fun t ht hW => ⟨⟨0, (), rfl, trivial, by rw [ht]; exact hP, hD⟩, hS.F ht⟩) hS.2.2 xd_Mo_nameOf_59
    · refine lv_aload_n hx hb xd_Mo_nameOf_30 rfl (lv_at hl 2 rfl) ?_
      refine va_get (D := D) (ci := 4) (v := .ref (mm 0)) (C := xR_Mo) (T := xT_Mo) (N := 31) hx hb hT xi_Mo hown hK.1 hP 0 rfl rfl 2 (by decide) (hT _ xm_10) (fun _ h9 => h9) rfl xd_Mo_nameOf_31 ?_
      refine lv_iload_n hx hb xd_Mo_nameOf_34 rfl (lv_at hl 0 rfl) ?_
      refine xn_cald (i := k) hx hb hK.1 hP 1 1 rfl rfl (by omega) (by decide) xd_Mo_nameOf_35 ?_
      refine lv_bipush (v := 122) hx hb xd_Mo_nameOf_36 (by decide) ?_
      refine lv_icmp_gt (tgt := 58) hx hb xd_Mo_nameOf_38 (by decide) (fun hc4 => ?_) (fun hc4 => ?_)
      · refine lv_iconst (v := 0) hx hb xd_Mo_nameOf_58 (by decide) ?_
        exact W.iret (v := 0) hx hb hr (fun t ht hW => ⟨⟨0, (), rfl, trivial, by rw [ht]; exact hP, hD⟩, hS.F ht⟩) hS.2.2 xd_Mo_nameOf_59
      · refine lv_aload_n hx hb xd_Mo_nameOf_41 rfl (lv_at hl 2 rfl) ?_
        refine va_get (D := D) (ci := 4) (v := .ref (mm 2)) (C := xR_Mo) (T := xT_Mo) (N := 31) hx hb hT xi_Mo hown hK.1 hP 0 rfl rfl 6 (by decide) (hT _ xm_9) (fun _ h9 => h9) rfl xd_Mo_nameOf_42 ?_
        refine lv_iload_n hx hb xd_Mo_nameOf_45 rfl (lv_at hl 3 rfl) ?_
        refine xn_iald (i := w) hx hb hK.1 hP 3 0 rfl rfl (by omega) (by decide) xd_Mo_nameOf_46 ?_
        refine xn_top (x := (g 2 w)) (y := nI e0) he0 ?_
        refine lv_aload_n hx hb xd_Mo_nameOf_47 rfl (lv_at hl 2 rfl) ?_
        refine va_get (D := D) (ci := 4) (v := .ref (mm 1)) (C := xR_Mo) (T := xT_Mo) (N := 31) hx hb hT xi_Mo hown hK.1 hP 0 rfl rfl 5 (by decide) (hT _ xm_8) (fun _ h9 => h9) rfl xd_Mo_nameOf_48 ?_
        refine lv_iload_n hx hb xd_Mo_nameOf_51 rfl (lv_at hl 3 rfl) ?_
        refine xn_iald (i := w) hx hb hK.1 hP 2 0 rfl rfl (by omega) (by decide) xd_Mo_nameOf_52 ?_
        refine xn_top (x := (g 1 w)) (y := nI b0) hb0 ?_
        refine lv_isub hx hb xd_Mo_nameOf_53 ?_
        refine xn_top (y := nI (e0 - b0)) (pk_sub (a := e0) (b := b0) (by omega)) ?_
        refine lv_iconst (v := 4) hx hb xd_Mo_nameOf_54 (by decide) ?_
        refine xn_le (a := e0 - b0) (b := 4) (tgt := 60) hx hb xd_Mo_nameOf_55 (by decide) (by omega) (by omega) (fun hc5 => ?_) (fun hc5 => ?_)
        · refine lv_bipush (v := 27) hx hb xd_Mo_nameOf_60 (by decide) ?_
          refine lv_iload_n hx hb xd_Mo_nameOf_62 rfl (lv_at hl 1 rfl) ?_
          refine lv_imul hx hb xd_Mo_nameOf_63 ?_
          refine lv_aload_n hx hb xd_Mo_nameOf_64 rfl (lv_at hl 2 rfl) ?_
          refine va_get (D := D) (ci := 4) (v := .ref (mm 0)) (C := xR_Mo) (T := xT_Mo) (N := 31) hx hb hT xi_Mo hown hK.1 hP 0 rfl rfl 2 (by decide) (hT _ xm_10) (fun _ h9 => h9) rfl xd_Mo_nameOf_65 ?_
          refine lv_iload_n hx hb xd_Mo_nameOf_68 rfl (lv_at hl 0 rfl) ?_
          refine xn_cald (i := k) hx hb hK.1 hP 1 1 rfl rfl (by omega) (by decide) xd_Mo_nameOf_69 ?_
          refine lv_iadd hx hb xd_Mo_nameOf_70 ?_
          refine lv_bipush (v := 96) hx hb xd_Mo_nameOf_71 (by decide) ?_
          refine lv_isub hx hb xd_Mo_nameOf_73 ?_
          refine lv_istore_n hx hb xd_Mo_nameOf_74 rfl hl (Nat.le_of_ble_eq_true rfl) rfl (fun ls hl => ?_)
          have hl : lv_has ls 4 [(2, .int (((27 * vv) + (g 0 k)) - 96)), (3, .int (nI k)), (0, .ref h), (1, .int (nI w))] := hl
          refine lv_iinc (k := 1) (x := (nI k)) (v := (nI (k + 1))) hx hb xd_Mo_nameOf_75 hl rfl (xb_inc k 1) (Nat.le_of_ble_eq_true rfl) rfl (fun ls hl => ?_)
          have hl : lv_has ls 4 [(3, .int (nI (k + 1))), (2, .int (((27 * vv) + (g 0 k)) - 96)), (0, .ref h), (1, .int (nI w))] := hl
          refine lv_goto (tgt := 9) hx hb xd_Mo_nameOf_78 (by decide) ?_
          exact ih1 (k + 1, (((27 * vv) + (g 0 k)) - 96)) _ _ _ (show e0 - (k + 1) < e0 - k by omega) (lv_sub hl [0, 1, 2, 3] rfl) hP hD hS ⟨(show b0 ≤ (k + 1) from by first | assumption | omega), (show (k + 1) ≤ e0 from by first | assumption | omega)⟩
        · refine lv_iconst (v := 0) hx hb xd_Mo_nameOf_58 (by decide) ?_
          exact W.iret (v := 0) hx hb hr (fun t ht hW => ⟨⟨0, (), rfl, trivial, by rw [ht]; exact hP, hD⟩, hS.F ht⟩) hS.2.2 xd_Mo_nameOf_59
set_option maxHeartbeats 4000000 in
set_option maxRecDepth 100000 in
theorem xc_Mo_split (l : Launch) (D : va_G) (kA : Nat → ClassId) (sz h : Nat) (mm : Nat → Nat) (v : Nat → Int32) (g : Nat → Nat → Int32) (wr : Nat) (hwr : v 2 = nI wr) (hwr40 : wr ≤ 40) : Met l xy_Mo_split (.code xy_Mo_split xb_Mo_split 2 none :: wT) { frames := 0, cells := 0, slots := 0, locals := 0 } (va_Pc [.ref h] (xPre D kA sz (moW h mm kA v g))) (va_Qv (fun (u : (Nat → Int32) × (Nat → Nat → Int32)) => ∃ wn, wn ≤ 20 ∧ u.1 = va_up (va_up v 2 0) 3 (nI wn) ∧ (∀ j, j ≠ 1 → j ≠ 2 → u.2 j = g j) ∧ ∀ w9, w9 < wn → ∃ b9 e9, b9 < e9 ∧ e9 ≤ 40 ∧ u.2 1 w9 = nI b9 ∧ u.2 2 w9 = nI e9) (fun (u : (Nat → Int32) × (Nat → Nat → Int32)) t => va_P D xcl (moW h mm kA u.1 u.2) t.heap ∧ va_D (va_A (moW h mm kA v g) sz) (moW h mm kA u.1 u.2)) (va_A (moW h mm kA v g) sz)) 0 0 (va_A (moW h mm kA v g) sz) := by
  refine Met.ofW (cc := xb_Mo_split) (maxL := 2) (ret := none) (by decide) rfl ?_
  intro p e s m args below meth c s₁ B hml hv
  obtain ⟨rfl, hsz, hP, hK, hD0⟩ := hv
  have hx := B.exec
  have hb := B.bytes
  have hr := B.returns
  have hT := x_hT B.pre
  have hown : s.vm.findClass xR_Mo = some m.cls := findClass_of_methodNamed B.named
  have hlocks := B.notSynchronized
  subst hsz
  have hD := hD0.self (sz := s.heap.size)
  generalize hAe : va_A (moW h mm kA v g) s.heap.size = A at hD ⊢
  have hA : ∀ q : Nat, s.heap.size ≤ q → A q := fun q h => by rw [← hAe]; exact Or.inr h
  have hS : va_S A s.heap s.heap [] := va_S.rf
  have hl := lv_entry ([.ref h]) (n := 2) (Nat.le_of_ble_eq_true rfl)
  rw [lg_entry_eq]
  generalize (lg_sl ([.ref h]) ++ List.replicate (2 - (lg_sl ([.ref h])).length) Slot.unset).toArray = ls at hl ⊢
  have hl : lv_has ls 2 [(0, .ref h)] := hl
  have hP : va_P D xcl (moW h mm kA v g) s.heap := hP
  refine lv_aload_n hx hb xd_Mo_split_0 rfl (lv_at hl 0 rfl) ?_
  refine lv_iconst (v := 0) hx hb xd_Mo_split_1 (by decide) ?_
  refine va_put (D := D) (ci := 4) (v := .int 0) (ty := .int) (C := xR_Mo) (T := xT_Mo) (N := 31) hx hb hT xi_Mo xt_Mo xt_Mo_ok xn_Mo hown hK.1 hP hD hS 0 rfl rfl 4 (by decide) (hT _ xm_16) (fun _ h9 => h9) rfl (by decide +kernel) rfl rfl (Nat.le_of_ble_eq_true rfl) xd_Mo_split_2 (fun H locs hP hD hS => ?_)
  have hP : va_P D xcl (moW h mm kA (va_up v 3 0) g) H := hP
  have hD : va_D A (moW h mm kA (va_up v 3 0) g) := hD
  refine lv_iconst (v := 0) hx hb xd_Mo_split_5 (by decide) ?_
  refine lv_istore_n hx hb xd_Mo_split_6 rfl hl (Nat.le_of_ble_eq_true rfl) rfl (fun ls hl => ?_)
  have hl : lv_has ls 2 [(1, .int 0), (0, .ref h)] := hl
  refine xlab (σ := Nat × Nat × (Nat → Int32) × (Nat → Int32)) (ml := 2) 7 (fun (k, wn, f1, f2) => [(1, .int (nI k)), (0, .ref h)]) (fun (k, wn, f1, f2) => []) (fun (k, wn, f1, f2) => moW h mm kA (va_up v 3 (nI wn)) (va_up (va_up g 1 f1) 2 f2)) (fun (k, wn, f1, f2) => (k ≤ wr) ∧ (2 * wn ≤ k + 1) ∧ (wn = 0 ∨ k = wr ∨ g 0 k = 32) ∧ (∀ w9, w9 < wn → ∃ b9 e9, b9 < e9 ∧ e9 ≤ k ∧ f1 w9 = nI b9 ∧ f2 w9 = nI e9)) (fun (k, wn, f1, f2) => wr - k) ?_ (0, 0, (g 1), (g 2)) _ _ _ (lv_sub hl [0, 1] rfl) hP hD hS ⟨(show 0 ≤ wr from by first | assumption | omega), (show 2 * 0 ≤ 0 + 1 from by first | assumption | omega), (show 0 = 0 ∨ 0 = wr ∨ g 0 0 = 32 from Or.inl rfl), (show ∀ w9, w9 < 0 → ∃ b9 e9, b9 < e9 ∧ e9 ≤ 0 ∧ (g 1) w9 = nI b9 ∧ (g 2) w9 = nI e9 from fun w9 hw => absurd hw (by omega))⟩
  intro n9 ih1 a9 ls H locs hμ hl hP hD hS hI
  subst hμ
  obtain ⟨k, wn, f1, f2⟩ := a9
  obtain ⟨hk, hW, hbl, hsg⟩ := hI
  have hk : k ≤ wr := hk
  have hW : 2 * wn ≤ k + 1 := hW
  have hbl : wn = 0 ∨ k = wr ∨ g 0 k = 32 := hbl
  have hsg : ∀ w9, w9 < wn → ∃ b9 e9, b9 < e9 ∧ e9 ≤ k ∧ f1 w9 = nI b9 ∧ f2 w9 = nI e9 := hsg
  have hl : lv_has ls 2 [(1, .int (nI k)), (0, .ref h)] := hl
  have hP : va_P D xcl (moW h mm kA (va_up v 3 (nI wn)) (va_up (va_up g 1 f1) 2 f2)) H := hP
  have hD : va_D A (moW h mm kA (va_up v 3 (nI wn)) (va_up (va_up g 1 f1) 2 f2)) := hD
  refine lv_iload_n hx hb xd_Mo_split_7 rfl (lv_at hl 0 rfl) ?_
  refine lv_aload_n hx hb xd_Mo_split_8 rfl (lv_at hl 1 rfl) ?_
  refine va_get (D := D) (ci := 4) (v := .int (v 2)) (C := xR_Mo) (T := xT_Mo) (N := 31) hx hb hT xi_Mo hown hK.1 hP 0 rfl rfl 3 (by decide) (hT _ xm_17) (fun _ h9 => h9) rfl xd_Mo_split_9 ?_
  refine xn_top (x := (v 2)) (y := nI wr) hwr ?_
  refine xn_ge (a := k) (b := wr) (tgt := 106) hx hb xd_Mo_split_12 (by decide) (by omega) (by omega) (fun hc2 => ?_) (fun hc2 => ?_)
  · refine lv_aload_n hx hb xd_Mo_split_106 rfl (lv_at hl 1 rfl) ?_
    refine lv_iconst (v := 0) hx hb xd_Mo_split_107 (by decide) ?_
    refine va_put (D := D) (ci := 4) (v := .int 0) (ty := .int) (C := xR_Mo) (T := xT_Mo) (N := 31) hx hb hT xi_Mo xt_Mo xt_Mo_ok xn_Mo hown hK.1 hP hD hS 0 rfl rfl 3 (by decide) (hT _ xm_17) (fun _ h9 => h9) rfl (by decide +kernel) rfl rfl (Nat.le_of_ble_eq_true rfl) xd_Mo_split_108 (fun H locs hP hD hS => ?_)
    have hP : va_P D xcl (moW h mm kA (va_up (va_up v 2 0) 3 (nI wn)) (va_up (va_up g 1 f1) 2 f2)) H := hP
    have hD : va_D A (moW h mm kA (va_up (va_up v 2 0) 3 (nI wn)) (va_up (va_up g 1 f1) 2 f2)) := hD
    exact W.vret hx hb hr (fun t ht hW => ⟨⟨((va_up (va_up v 2 0) 3 (nI wn)), (va_up (va_up g 1 f1) 2 f2)), rfl, ⟨wn, by omega, rfl, fun j h1 h2 => by simp [va_up, h1, h2], fun w9 hw => by
      obtain ⟨b9, e9, h1, h2, h3, h4⟩ := hsg w9 hw
      exact ⟨b9, e9, h1, by omega, h3, h4⟩⟩, by rw [ht]; exact hP, hD⟩, hS.F ht⟩) hS.2.2 xd_Mo_split_111
  · refine xlab (σ := Nat) (ml := 2) 15 (fun (k1 : Nat) => [(1, .int (nI k1)), (0, .ref h)]) (fun (k1 : Nat) => []) (fun (k1 : Nat) => moW h mm kA (va_up v 3 (nI wn)) (va_up (va_up g 1 f1) 2 f2)) (fun (k1 : Nat) => (k ≤ k1) ∧ (k1 ≤ wr) ∧ (wn = 0 ∨ k < k1 ∨ g 0 k1 = 32)) (fun (k1 : Nat) => wr - k1) ?_ k _ _ _ (lv_sub hl [0, 1] rfl) hP hD hS ⟨(show k ≤ k from by first | assumption | omega), (show k ≤ wr from by first | assumption | omega), (show wn = 0 ∨ k < k ∨ g 0 k = 32 from by
      rcases hbl with h | h | h
      · exact Or.inl h
      · omega
      · exact Or.inr (Or.inr h))⟩
    intro n9 ih3 a9 ls H locs hμ hl hP hD hS hI
    subst hμ
    obtain ⟨k1, rfl⟩ : ∃ z, z = a9 := ⟨_, rfl⟩
    obtain ⟨hk1, hk2, hb1⟩ := hI
    have hk1 : k ≤ k1 := hk1
    have hk2 : k1 ≤ wr := hk2
    have hb1 : wn = 0 ∨ k < k1 ∨ g 0 k1 = 32 := hb1
    have hl : lv_has ls 2 [(1, .int (nI k1)), (0, .ref h)] := hl
    have hP : va_P D xcl (moW h mm kA (va_up v 3 (nI wn)) (va_up (va_up g 1 f1) 2 f2)) H := hP
    have hD : va_D A (moW h mm kA (va_up v 3 (nI wn)) (va_up (va_up g 1 f1) 2 f2)) := hD
    refine lv_iload_n hx hb xd_Mo_split_15 rfl (lv_at hl 0 rfl) ?_
    refine lv_aload_n hx hb xd_Mo_split_16 rfl (lv_at hl 1 rfl) ?_
    refine va_get (D := D) (ci := 4) (v := .int (v 2)) (C := xR_Mo) (T := xT_Mo) (N := 31) hx hb hT xi_Mo hown hK.1 hP 0 rfl rfl 3 (by decide) (hT _ xm_17) (fun _ h9 => h9) rfl xd_Mo_split_17 ?_
    refine xn_top (x := (v 2)) (y := nI wr) hwr ?_
    refine xn_ge (a := k1) (b := wr) (tgt := 40) hx hb xd_Mo_split_20 (by decide) (by omega) (by omega) (fun hc4 => ?_) (fun hc4 => ?_)
    · refine lv_iload_n hx hb xd_Mo_split_40 rfl (lv_at hl 0 rfl) ?_
      refine lv_aload_n hx hb xd_Mo_split_41 rfl (lv_at hl 1 rfl) ?_
      refine va_get (D := D) (ci := 4) (v := .int (v 2)) (C := xR_Mo) (T := xT_Mo) (N := 31) hx hb hT xi_Mo hown hK.1 hP 0 rfl rfl 3 (by decide) (hT _ xm_17) (fun _ h9 => h9) rfl xd_Mo_split_42 ?_
      refine xn_top (x := (v 2)) (y := nI wr) hwr ?_
      refine xn_ge (a := k1) (b := wr) (tgt := 7) hx hb xd_Mo_split_45 (by decide) (by omega) (by omega) (fun _ => ?_) (fun hc5 => absurd hc5 (by omega))
      exact ih1 (k1, wn, f1, f2) _ _ _ (show wr - k1 < wr - k by omega) (lv_sub hl [0, 1] rfl) hP hD hS ⟨(show k1 ≤ wr from by first | assumption | omega), (show 2 * wn ≤ k1 + 1 from by first | assumption | omega), (show wn = 0 ∨ k1 = wr ∨ g 0 k1 = 32 from Or.inr (Or.inl (by omega))), (show ∀ w9, w9 < wn → ∃ b9 e9, b9 < e9 ∧ e9 ≤ k1 ∧ f1 w9 = nI b9 ∧ f2 w9 = nI e9 from fun w9 hw => by
      obtain ⟨b9, e9, h1, h2, h3, h4⟩ := hsg w9 hw
      exact ⟨b9, e9, h1, by omega, h3, h4⟩)⟩
    · refine lv_aload_n hx hb xd_Mo_split_23 rfl (lv_at hl 1 rfl) ?_
      refine va_get (D := D) (ci := 4) (v := .ref (mm 0)) (C := xR_Mo) (T := xT_Mo) (N := 31) hx hb hT xi_Mo hown hK.1 hP 0 rfl rfl 2 (by decide) (hT _ xm_10) (fun _ h9 => h9) rfl xd_Mo_split_24 ?_
      refine lv_iload_n hx hb xd_Mo_split_27 rfl (lv_at hl 0 rfl) ?_
      refine xn_cald (i := k1) hx hb hK.1 hP 1 1 rfl rfl (by omega) (by decide) xd_Mo_split_28 ?_
      refine lv_bipush (v := 32) hx hb xd_Mo_split_29 (by decide) ?_
      refine lv_icmp_ne (tgt := 40) hx hb xd_Mo_split_31 (by decide) (fun hc6 => ?_) (fun hc6 => ?_)
      · have hb2 : wn = 0 ∨ k < k1 := by
          rcases hb1 with h | h | h
          · exact Or.inl h
          · exact Or.inr h
          · exact absurd h hc6
        refine lv_iload_n hx hb xd_Mo_split_40 rfl (lv_at hl 0 rfl) ?_
        refine lv_aload_n hx hb xd_Mo_split_41 rfl (lv_at hl 1 rfl) ?_
        refine va_get (D := D) (ci := 4) (v := .int (v 2)) (C := xR_Mo) (T := xT_Mo) (N := 31) hx hb hT xi_Mo hown hK.1 hP 0 rfl rfl 3 (by decide) (hT _ xm_17) (fun _ h9 => h9) rfl xd_Mo_split_42 ?_
        refine xn_top (x := (v 2)) (y := nI wr) hwr ?_
        refine xn_ge (a := k1) (b := wr) (tgt := 7) hx hb xd_Mo_split_45 (by decide) (by omega) (by omega) (fun hc7 => absurd hc7 (by omega)) (fun _ => ?_)
        refine lv_aload_n hx hb xd_Mo_split_48 rfl (lv_at hl 1 rfl) ?_
        refine va_get (D := D) (ci := 4) (v := .ref (mm 1)) (C := xR_Mo) (T := xT_Mo) (N := 31) hx hb hT xi_Mo hown hK.1 hP 0 rfl rfl 5 (by decide) (hT _ xm_8) (fun _ h9 => h9) rfl xd_Mo_split_49 ?_
        refine lv_aload_n hx hb xd_Mo_split_52 rfl (lv_at hl 1 rfl) ?_
        refine va_get (D := D) (ci := 4) (v := .int (nI wn)) (C := xR_Mo) (T := xT_Mo) (N := 31) hx hb hT xi_Mo hown hK.1 hP 0 rfl rfl 4 (by decide) (hT _ xm_16) (fun _ h9 => h9) rfl xd_Mo_split_53 ?_
        refine lv_iload_n hx hb xd_Mo_split_56 rfl (lv_at hl 0 rfl) ?_
        refine xn_iast (i := wn) hx hb hK.1 hP hD hS 2 0 rfl rfl (by omega) (by decide) xd_Mo_split_57 (fun H locs hP hD hS => ?_)
        have hP : va_P D xcl (moW h mm kA (va_up v 3 (nI wn)) (va_up (va_up g 1 (upd f1 wn (nI k1))) 2 f2)) H := hP
        have hD : va_D A (moW h mm kA (va_up v 3 (nI wn)) (va_up (va_up g 1 (upd f1 wn (nI k1))) 2 f2)) := hD
        refine xlab (σ := Nat) (ml := 2) 58 (fun (k2 : Nat) => [(1, .int (nI k2)), (0, .ref h)]) (fun (k2 : Nat) => []) (fun (k2 : Nat) => moW h mm kA (va_up v 3 (nI wn)) (va_up (va_up g 1 (upd f1 wn (nI k1))) 2 f2)) (fun (k2 : Nat) => (k1 ≤ k2) ∧ (k2 ≤ wr) ∧ (k1 < k2 ∨ ¬ g 0 k2 = 32)) (fun (k2 : Nat) => wr - k2) ?_ k1 _ _ _ (lv_sub hl [0, 1] rfl) hP hD hS ⟨(show k1 ≤ k1 from by first | assumption | omega), (show k1 ≤ wr from by first | assumption | omega), (show k1 < k1 ∨ ¬ g 0 k1 = 32 from Or.inr hc6)⟩
        intro n9 ih8 a9 ls H locs hμ hl hP hD hS hI
        subst hμ
        obtain ⟨k2, rfl⟩ : ∃ z, z = a9 := ⟨_, rfl⟩
        obtain ⟨hk3, hk4, hne⟩ := hI
        have hk3 : k1 ≤ k2 := hk3
        have hk4 : k2 ≤ wr := hk4
        have hne : k1 < k2 ∨ ¬ g 0 k2 = 32 := hne
        have hl : lv_has ls 2 [(1, .int (nI k2)), (0, .ref h)] := hl
        have hP : va_P D xcl (moW h mm kA (va_up v 3 (nI wn)) (va_up (va_up g 1 (upd f1 wn (nI k1))) 2 f2)) H := hP
        have hD : va_D A (moW h mm kA (va_up v 3 (nI wn)) (va_up (va_up g 1 (upd f1 wn (nI k1))) 2 f2)) := hD
        refine lv_iload_n hx hb xd_Mo_split_58 rfl (lv_at hl 0 rfl) ?_
        refine lv_aload_n hx hb xd_Mo_split_59 rfl (lv_at hl 1 rfl) ?_
        refine va_get (D := D) (ci := 4) (v := .int (v 2)) (C := xR_Mo) (T := xT_Mo) (N := 31) hx hb hT xi_Mo hown hK.1 hP 0 rfl rfl 3 (by decide) (hT _ xm_17) (fun _ h9 => h9) rfl xd_Mo_split_60 ?_
        refine xn_top (x := (v 2)) (y := nI wr) hwr ?_
        refine xn_ge (a := k2) (b := wr) (tgt := 83) hx hb xd_Mo_split_63 (by decide) (by omega) (by omega) (fun hc9 => ?_) (fun hc9 => ?_)
        · have hk12 : k1 < k2 := by omega
          refine lv_aload_n hx hb xd_Mo_split_83 rfl (lv_at hl 1 rfl) ?_
          refine va_get (D := D) (ci := 4) (v := .ref (mm 2)) (C := xR_Mo) (T := xT_Mo) (N := 31) hx hb hT xi_Mo hown hK.1 hP 0 rfl rfl 6 (by decide) (hT _ xm_9) (fun _ h9 => h9) rfl xd_Mo_split_84 ?_
          refine lv_aload_n hx hb xd_Mo_split_87 rfl (lv_at hl 1 rfl) ?_
          refine va_get (D := D) (ci := 4) (v := .int (nI wn)) (C := xR_Mo) (T := xT_Mo) (N := 31) hx hb hT xi_Mo hown hK.1 hP 0 rfl rfl 4 (by decide) (hT _ xm_16) (fun _ h9 => h9) rfl xd_Mo_split_88 ?_
          refine lv_iload_n hx hb xd_Mo_split_91 rfl (lv_at hl 0 rfl) ?_
          refine xn_iast (i := wn) hx hb hK.1 hP hD hS 3 0 rfl rfl (by omega) (by decide) xd_Mo_split_92 (fun H locs hP hD hS => ?_)
          have hP : va_P D xcl (moW h mm kA (va_up v 3 (nI wn)) (va_up (va_up g 1 (upd f1 wn (nI k1))) 2 (upd f2 wn (nI k2)))) H := hP
          have hD : va_D A (moW h mm kA (va_up v 3 (nI wn)) (va_up (va_up g 1 (upd f1 wn (nI k1))) 2 (upd f2 wn (nI k2)))) := hD
          refine lv_aload_n hx hb xd_Mo_split_93 rfl (lv_at hl 1 rfl) ?_
          refine lv_dup hx hb xd_Mo_split_94 rfl ?_
          refine va_get (D := D) (ci := 4) (v := .int (nI wn)) (C := xR_Mo) (T := xT_Mo) (N := 31) hx hb hT xi_Mo hown hK.1 hP 0 rfl rfl 4 (by decide) (hT _ xm_16) (fun _ h9 => h9) rfl xd_Mo_split_95 ?_
          refine lv_iconst (v := 1) hx hb xd_Mo_split_98 (by decide) ?_
          refine lv_iadd hx hb xd_Mo_split_99 ?_
          refine xn_top (y := nI (wn + 1)) (nI_add wn 1) ?_
          refine va_put (D := D) (ci := 4) (v := .int (nI (wn + 1))) (ty := .int) (C := xR_Mo) (T := xT_Mo) (N := 31) hx hb hT xi_Mo xt_Mo xt_Mo_ok xn_Mo hown hK.1 hP hD hS 0 rfl rfl 4 (by decide) (hT _ xm_16) (fun _ h9 => h9) rfl (by decide +kernel) rfl rfl (Nat.le_of_ble_eq_true rfl) xd_Mo_split_100 (fun H locs hP hD hS => ?_)
          have hP : va_P D xcl (moW h mm kA (va_up v 3 (nI (wn + 1))) (va_up (va_up g 1 (upd f1 wn (nI k1))) 2 (upd f2 wn (nI k2)))) H := hP
          have hD : va_D A (moW h mm kA (va_up v 3 (nI (wn + 1))) (va_up (va_up g 1 (upd f1 wn (nI k1))) 2 (upd f2 wn (nI k2)))) := hD
          refine lv_goto (tgt := 7) hx hb xd_Mo_split_103 (by decide) ?_
          exact ih1 (k2, wn + 1, (upd f1 wn (nI k1)), (upd f2 wn (nI k2))) _ _ _ (show wr - k2 < wr - k by omega) (lv_sub hl [0, 1] rfl) hP hD hS ⟨(show k2 ≤ wr from by first | assumption | omega), (show 2 * (wn + 1) ≤ k2 + 1 from by first | assumption | omega), (show (wn + 1) = 0 ∨ k2 = wr ∨ g 0 k2 = 32 from Or.inr (Or.inl (by omega))), (show ∀ w9, w9 < (wn + 1) → ∃ b9 e9, b9 < e9 ∧ e9 ≤ k2 ∧ (upd f1 wn (nI k1)) w9 = nI b9 ∧ (upd f2 wn (nI k2)) w9 = nI e9 from fun w9 hw => by
      rcases Nat.lt_or_ge w9 wn with h0 | h0
      · obtain ⟨b9, e9, h1, h2, h3, h4⟩ := hsg w9 h0
        exact ⟨b9, e9, h1, by omega, by rw [pk_un (by omega)]; exact h3, by rw [pk_un (by omega)]; exact h4⟩
      · have h1 : w9 = wn := by omega
        subst h1
        exact ⟨k1, k2, hk12, by omega, pk_us, pk_us⟩)⟩
        · refine lv_aload_n hx hb xd_Mo_split_66 rfl (lv_at hl 1 rfl) ?_
          refine va_get (D := D) (ci := 4) (v := .ref (mm 0)) (C := xR_Mo) (T := xT_Mo) (N := 31) hx hb hT xi_Mo hown hK.1 hP 0 rfl rfl 2 (by decide) (hT _ xm_10) (fun _ h9 => h9) rfl xd_Mo_split_67 ?_
          refine lv_iload_n hx hb xd_Mo_split_70 rfl (lv_at hl 0 rfl) ?_
          refine xn_cald (i := k2) hx hb hK.1 hP 1 1 rfl rfl (by omega) (by decide) xd_Mo_split_71 ?_
          refine lv_bipush (v := 32) hx hb xd_Mo_split_72 (by decide) ?_
          refine lv_icmp_eq (tgt := 83) hx hb xd_Mo_split_74 (by decide) (fun hc10 => ?_) (fun hc10 => ?_)
          · have hk12 : k1 < k2 := by
              rcases hne with h | h
              · exact h
              · exact absurd hc10 h
            refine lv_aload_n hx hb xd_Mo_split_83 rfl (lv_at hl 1 rfl) ?_
            refine va_get (D := D) (ci := 4) (v := .ref (mm 2)) (C := xR_Mo) (T := xT_Mo) (N := 31) hx hb hT xi_Mo hown hK.1 hP 0 rfl rfl 6 (by decide) (hT _ xm_9) (fun _ h9 => h9) rfl xd_Mo_split_84 ?_
            refine lv_aload_n hx hb xd_Mo_split_87 rfl (lv_at hl 1 rfl) ?_
            refine va_get (D := D) (ci := 4) (v := .int (nI wn)) (C := xR_Mo) (T := xT_Mo) (N := 31) hx hb hT xi_Mo hown hK.1 hP 0 rfl rfl 4 (by decide) (hT _ xm_16) (fun _ h9 => h9) rfl xd_Mo_split_88 ?_
            refine lv_iload_n hx hb xd_Mo_split_91 rfl (lv_at hl 0 rfl) ?_
            refine xn_iast (i := wn) hx hb hK.1 hP hD hS 3 0 rfl rfl (by omega) (by decide) xd_Mo_split_92 (fun H locs hP hD hS => ?_)
            have hP : va_P D xcl (moW h mm kA (va_up v 3 (nI wn)) (va_up (va_up g 1 (upd f1 wn (nI k1))) 2 (upd f2 wn (nI k2)))) H := hP
            have hD : va_D A (moW h mm kA (va_up v 3 (nI wn)) (va_up (va_up g 1 (upd f1 wn (nI k1))) 2 (upd f2 wn (nI k2)))) := hD
            refine lv_aload_n hx hb xd_Mo_split_93 rfl (lv_at hl 1 rfl) ?_
            refine lv_dup hx hb xd_Mo_split_94 rfl ?_
            refine va_get (D := D) (ci := 4) (v := .int (nI wn)) (C := xR_Mo) (T := xT_Mo) (N := 31) hx hb hT xi_Mo hown hK.1 hP 0 rfl rfl 4 (by decide) (hT _ xm_16) (fun _ h9 => h9) rfl xd_Mo_split_95 ?_
            refine lv_iconst (v := 1) hx hb xd_Mo_split_98 (by decide) ?_
            refine lv_iadd hx hb xd_Mo_split_99 ?_
            refine xn_top (y := nI (wn + 1)) (nI_add wn 1) ?_
            refine va_put (D := D) (ci := 4) (v := .int (nI (wn + 1))) (ty := .int) (C := xR_Mo) (T := xT_Mo) (N := 31) hx hb hT xi_Mo xt_Mo xt_Mo_ok xn_Mo hown hK.1 hP hD hS 0 rfl rfl 4 (by decide) (hT _ xm_16) (fun _ h9 => h9) rfl (by decide +kernel) rfl rfl (Nat.le_of_ble_eq_true rfl) xd_Mo_split_100 (fun H locs hP hD hS => ?_)
            have hP : va_P D xcl (moW h mm kA (va_up v 3 (nI (wn + 1))) (va_up (va_up g 1 (upd f1 wn (nI k1))) 2 (upd f2 wn (nI k2)))) H := hP
            have hD : va_D A (moW h mm kA (va_up v 3 (nI (wn + 1))) (va_up (va_up g 1 (upd f1 wn (nI k1))) 2 (upd f2 wn (nI k2)))) := hD
            refine lv_goto (tgt := 7) hx hb xd_Mo_split_103 (by decide) ?_
            exact ih1 (k2, wn + 1, (upd f1 wn (nI k1)), (upd f2 wn (nI k2))) _ _ _ (show wr - k2 < wr - k by omega) (lv_sub hl [0, 1] rfl) hP hD hS ⟨(show k2 ≤ wr from by first | assumption | omega), (show 2 * (wn + 1) ≤ k2 + 1 from by first | assumption | omega), (show (wn + 1) = 0 ∨ k2 = wr ∨ g 0 k2 = 32 from Or.inr (Or.inr hc10)), (show ∀ w9, w9 < (wn + 1) → ∃ b9 e9, b9 < e9 ∧ e9 ≤ k2 ∧ (upd f1 wn (nI k1)) w9 = nI b9 ∧ (upd f2 wn (nI k2)) w9 = nI e9 from fun w9 hw => by
      rcases Nat.lt_or_ge w9 wn with h0 | h0
      · obtain ⟨b9, e9, h1, h2, h3, h4⟩ := hsg w9 h0
        exact ⟨b9, e9, h1, by omega, by rw [pk_un (by omega)]; exact h3, by rw [pk_un (by omega)]; exact h4⟩
      · have h1 : w9 = wn := by omega
        subst h1
        exact ⟨k1, k2, hk12, by omega, pk_us, pk_us⟩)⟩
          · refine lv_iinc (k := 0) (x := (nI k2)) (v := (nI (k2 + 1))) hx hb xd_Mo_split_77 hl rfl (xb_inc k2 1) (Nat.le_of_ble_eq_true rfl) rfl (fun ls hl => ?_)
            have hl : lv_has ls 2 [(1, .int (nI (k2 + 1))), (0, .ref h)] := hl
            refine lv_goto (tgt := 58) hx hb xd_Mo_split_80 (by decide) ?_
            exact ih8 (k2 + 1) _ _ _ (show wr - (k2 + 1) < wr - k2 by omega) (lv_sub hl [0, 1] rfl) hP hD hS ⟨(show k1 ≤ (k2 + 1) from by first | assumption | omega), (show (k2 + 1) ≤ wr from by first | assumption | omega), (show k1 < (k2 + 1) ∨ ¬ g 0 (k2 + 1) = 32 from Or.inl (by omega))⟩
      · refine lv_iinc (k := 0) (x := (nI k1)) (v := (nI (k1 + 1))) hx hb xd_Mo_split_34 hl rfl (xb_inc k1 1) (Nat.le_of_ble_eq_true rfl) rfl (fun ls hl => ?_)
        have hl : lv_has ls 2 [(1, .int (nI (k1 + 1))), (0, .ref h)] := hl
        refine lv_goto (tgt := 15) hx hb xd_Mo_split_37 (by decide) ?_
        exact ih3 (k1 + 1) _ _ _ (show wr - (k1 + 1) < wr - k1 by omega) (lv_sub hl [0, 1] rfl) hP hD hS ⟨(show k ≤ (k1 + 1) from by first | assumption | omega), (show (k1 + 1) ≤ wr from by first | assumption | omega), (show wn = 0 ∨ k < (k1 + 1) ∨ g 0 (k1 + 1) = 32 from Or.inr (Or.inl (by omega)))⟩
abbrev xb_Mo_fails : ByteArray := prog_12_method_3_code
def xy_Mo_fails : MethodName := ⟨"LayerDeskModel", "fails", "(I)I"⟩
abbrev xb_Mo_newPackage : ByteArray := prog_12_method_15_code
def xy_Mo_newPackage : MethodName := ⟨"LayerDeskModel", "newPackage", "()I"⟩
theorem xd_Mo_fails_0 : decode xb_Mo_fails 0 = .ok (.aload_n 0, 1) := by decide +kernel
theorem xd_Mo_fails_1 : decode xb_Mo_fails 1 = .ok (.iload_n 1, 1) := by decide +kernel
theorem xd_Mo_fails_2 : decode xb_Mo_fails 2 = .ok (.putfield 87, 3) := by decide +kernel
theorem xd_Mo_fails_5 : decode xb_Mo_fails 5 = .ok (.iconst 0, 1) := by decide +kernel
theorem xd_Mo_fails_6 : decode xb_Mo_fails 6 = .ok (.ireturn, 1) := by decide +kernel
theorem xd_Mo_newPackage_0 : decode xb_Mo_newPackage 0 = .ok (.aload_n 0, 1) := by decide +kernel
theorem xd_Mo_newPackage_1 : decode xb_Mo_newPackage 1 = .ok (.getfield 94, 3) := by decide +kernel
theorem xd_Mo_newPackage_4 : decode xb_Mo_newPackage 4 = .ok (.iconst 2, 1) := by decide +kernel
theorem xd_Mo_newPackage_5 : decode xb_Mo_newPackage 5 = .ok (.if_icmp .ne 11, 3) := by decide +kernel
theorem xd_Mo_newPackage_8 : decode xb_Mo_newPackage 8 = .ok (.aload_n 0, 1) := by decide +kernel
theorem xd_Mo_newPackage_9 : decode xb_Mo_newPackage 9 = .ok (.iconst 1, 1) := by decide +kernel
theorem xd_Mo_newPackage_10 : decode xb_Mo_newPackage 10 = .ok (.invokevirtual 133, 3) := by decide +kernel
theorem xd_Mo_newPackage_13 : decode xb_Mo_newPackage 13 = .ok (.goto 4, 3) := by decide +kernel
theorem xd_Mo_newPackage_16 : decode xb_Mo_newPackage 16 = .ok (.iconst 0, 1) := by decide +kernel
theorem xd_Mo_newPackage_17 : decode xb_Mo_newPackage 17 = .ok (.istore_n 1, 1) := by decide +kernel
theorem xd_Mo_newPackage_18 : decode xb_Mo_newPackage 18 = .ok (.iload_n 1, 1) := by decide +kernel
theorem xd_Mo_newPackage_19 : decode xb_Mo_newPackage 19 = .ok (.ifCond .ne 5, 3) := by decide +kernel
theorem xd_Mo_newPackage_22 : decode xb_Mo_newPackage 22 = .ok (.iconst (-1), 1) := by decide +kernel
theorem xd_Mo_newPackage_23 : decode xb_Mo_newPackage 23 = .ok (.ireturn, 1) := by decide +kernel
theorem xd_Mo_newPackage_24 : decode xb_Mo_newPackage 24 = .ok (.aload_n 0, 1) := by decide +kernel
theorem xd_Mo_newPackage_25 : decode xb_Mo_newPackage 25 = .ok (.getfield 140, 3) := by decide +kernel
theorem xd_Mo_newPackage_28 : decode xb_Mo_newPackage 28 = .ok (.iconst 1, 1) := by decide +kernel
theorem xd_Mo_newPackage_29 : decode xb_Mo_newPackage 29 = .ok (.isub, 1) := by decide +kernel
theorem xd_Mo_newPackage_30 : decode xb_Mo_newPackage 30 = .ok (.istore_n 2, 1) := by decide +kernel
theorem xd_Mo_newPackage_31 : decode xb_Mo_newPackage 31 = .ok (.iload_n 2, 1) := by decide +kernel
theorem xd_Mo_newPackage_32 : decode xb_Mo_newPackage 32 = .ok (.ifCond .lt 14, 3) := by decide +kernel
theorem xd_Mo_newPackage_35 : decode xb_Mo_newPackage 35 = .ok (.aload_n 0, 1) := by decide +kernel
theorem xd_Mo_newPackage_36 : decode xb_Mo_newPackage 36 = .ok (.iload_n 2, 1) := by decide +kernel
theorem xd_Mo_newPackage_37 : decode xb_Mo_newPackage 37 = .ok (.iload_n 1, 1) := by decide +kernel
theorem xd_Mo_newPackage_38 : decode xb_Mo_newPackage 38 = .ok (.invokevirtual 143, 3) := by decide +kernel
theorem xd_Mo_newPackage_41 : decode xb_Mo_newPackage 41 = .ok (.ifCond .lt 5, 3) := by decide +kernel
theorem xd_Mo_newPackage_44 : decode xb_Mo_newPackage 44 = .ok (.iconst (-1), 1) := by decide +kernel
theorem xd_Mo_newPackage_45 : decode xb_Mo_newPackage 45 = .ok (.ireturn, 1) := by decide +kernel
theorem xd_Mo_newPackage_46 : decode xb_Mo_newPackage 46 = .ok (.aload_n 0, 1) := by decide +kernel
theorem xd_Mo_newPackage_47 : decode xb_Mo_newPackage 47 = .ok (.invokevirtual 146, 3) := by decide +kernel
theorem xd_Mo_newPackage_50 : decode xb_Mo_newPackage 50 = .ok (.ifCond .ne 14, 3) := by decide +kernel
theorem xd_Mo_newPackage_53 : decode xb_Mo_newPackage 53 = .ok (.aload_n 0, 1) := by decide +kernel
theorem xd_Mo_newPackage_54 : decode xb_Mo_newPackage 54 = .ok (.getfield 26, 3) := by decide +kernel
theorem xd_Mo_newPackage_57 : decode xb_Mo_newPackage 57 = .ok (.iload_n 2, 1) := by decide +kernel
theorem xd_Mo_newPackage_58 : decode xb_Mo_newPackage 58 = .ok (.iaload, 1) := by decide +kernel
theorem xd_Mo_newPackage_59 : decode xb_Mo_newPackage 59 = .ok (.bipush 6, 2) := by decide +kernel
theorem xd_Mo_newPackage_61 : decode xb_Mo_newPackage 61 = .ok (.if_icmp .ne 6, 3) := by decide +kernel
theorem xd_Mo_newPackage_64 : decode xb_Mo_newPackage 64 = .ok (.bipush (-2), 2) := by decide +kernel
theorem xd_Mo_newPackage_66 : decode xb_Mo_newPackage 66 = .ok (.ireturn, 1) := by decide +kernel
theorem xd_Mo_newPackage_67 : decode xb_Mo_newPackage 67 = .ok (.aload_n 0, 1) := by decide +kernel
theorem xd_Mo_newPackage_68 : decode xb_Mo_newPackage 68 = .ok (.getfield 29, 3) := by decide +kernel
theorem xd_Mo_newPackage_71 : decode xb_Mo_newPackage 71 = .ok (.bipush 6, 2) := by decide +kernel
theorem xd_Mo_newPackage_73 : decode xb_Mo_newPackage 73 = .ok (.iload_n 2, 1) := by decide +kernel
theorem xd_Mo_newPackage_74 : decode xb_Mo_newPackage 74 = .ok (.imul, 1) := by decide +kernel
theorem xd_Mo_newPackage_75 : decode xb_Mo_newPackage 75 = .ok (.aload_n 0, 1) := by decide +kernel
theorem xd_Mo_newPackage_76 : decode xb_Mo_newPackage 76 = .ok (.getfield 26, 3) := by decide +kernel
theorem xd_Mo_newPackage_79 : decode xb_Mo_newPackage 79 = .ok (.iload_n 2, 1) := by decide +kernel
theorem xd_Mo_newPackage_80 : decode xb_Mo_newPackage 80 = .ok (.iaload, 1) := by decide +kernel
theorem xd_Mo_newPackage_81 : decode xb_Mo_newPackage 81 = .ok (.iadd, 1) := by decide +kernel
theorem xd_Mo_newPackage_82 : decode xb_Mo_newPackage 82 = .ok (.iload_n 1, 1) := by decide +kernel
theorem xd_Mo_newPackage_83 : decode xb_Mo_newPackage 83 = .ok (.iastore, 1) := by decide +kernel
theorem xd_Mo_newPackage_84 : decode xb_Mo_newPackage 84 = .ok (.aload_n 0, 1) := by decide +kernel
theorem xd_Mo_newPackage_85 : decode xb_Mo_newPackage 85 = .ok (.getfield 26, 3) := by decide +kernel
theorem xd_Mo_newPackage_88 : decode xb_Mo_newPackage 88 = .ok (.iload_n 2, 1) := by decide +kernel
theorem xd_Mo_newPackage_89 : decode xb_Mo_newPackage 89 = .ok (.dup2, 1) := by decide +kernel
theorem xd_Mo_newPackage_90 : decode xb_Mo_newPackage 90 = .ok (.iaload, 1) := by decide +kernel
theorem xd_Mo_newPackage_91 : decode xb_Mo_newPackage 91 = .ok (.iconst 1, 1) := by decide +kernel
theorem xd_Mo_newPackage_92 : decode xb_Mo_newPackage 92 = .ok (.iadd, 1) := by decide +kernel
theorem xd_Mo_newPackage_93 : decode xb_Mo_newPackage 93 = .ok (.iastore, 1) := by decide +kernel
theorem xd_Mo_newPackage_94 : decode xb_Mo_newPackage 94 = .ok (.iconst 2, 1) := by decide +kernel
theorem xd_Mo_newPackage_95 : decode xb_Mo_newPackage 95 = .ok (.ireturn, 1) := by decide +kernel
theorem xo_0 : (Cond.fieldLink "LayerDeskModel" 87 "LayerDeskModel" "fault" "I") ∈ wT := wT_t (List.mem_append_right _ (List.mem_append_right _ (List.mem_append_right _ (List.mem_append_left _ (List.mem_of_getElem? (i := 84) rfl))))) rfl
set_option maxHeartbeats 4000000 in
set_option maxRecDepth 100000 in
theorem xc_Mo_fails (l : Launch) (D : va_G) (kA : Nat → ClassId) (sz h : Nat) (mm : Nat → Nat) (v : Nat → Int32) (g : Nat → Nat → Int32) (cd : Int32) : Met l xy_Mo_fails (.code xy_Mo_fails xb_Mo_fails 2 (some .int) :: wT) { frames := 0, cells := 0, slots := 0, locals := 0 } (va_Pc [.ref h, .int cd] (xPre D kA sz (moW h mm kA v g))) (va_Qi (fun (r : Int32) (u : (Nat → Int32) × (Nat → Nat → Int32)) => r = 0 ∧ u = (va_up v 0 cd, g)) (fun (u : (Nat → Int32) × (Nat → Nat → Int32)) t => va_P D xcl (moW h mm kA u.1 u.2) t.heap ∧ va_D (va_A (moW h mm kA v g) sz) (moW h mm kA u.1 u.2)) (va_A (moW h mm kA v g) sz)) 0 0 (va_A (moW h mm kA v g) sz) := by
  refine Met.ofW (cc := xb_Mo_fails) (maxL := 2) (ret := (some .int)) (by decide) rfl ?_
  intro p e s m args below meth c s₁ B hml hv
  obtain ⟨rfl, hsz, hP, hK, hD0⟩ := hv
  have hx := B.exec
  have hb := B.bytes
  have hr := B.returns
  have hT := x_hT B.pre
  have hown : s.vm.findClass xR_Mo = some m.cls := findClass_of_methodNamed B.named
  have hlocks := B.notSynchronized
  subst hsz
  have hD := hD0.self (sz := s.heap.size)
  generalize hAe : va_A (moW h mm kA v g) s.heap.size = A at hD ⊢
  have hA : ∀ q : Nat, s.heap.size ≤ q → A q := fun q h => by rw [← hAe]; exact Or.inr h
  have hS : va_S A s.heap s.heap [] := va_S.rf
  have hl := lv_entry ([.ref h, .int cd]) (n := 2) (Nat.le_of_ble_eq_true rfl)
  rw [lg_entry_eq]
  generalize (lg_sl ([.ref h, .int cd]) ++ List.replicate (2 - (lg_sl ([.ref h, .int cd])).length) Slot.unset).toArray = ls at hl ⊢
  have hl : lv_has ls 2 [(0, .ref h), (1, .int cd)] := hl
  have hP : va_P D xcl (moW h mm kA v g) s.heap := hP
  refine lv_aload_n hx hb xd_Mo_fails_0 rfl (lv_at hl 0 rfl) ?_
  refine lv_iload_n hx hb xd_Mo_fails_1 rfl (lv_at hl 1 rfl) ?_
  refine va_put (D := D) (ci := 4) (v := .int cd) (ty := .int) (C := xR_Mo) (T := xT_Mo) (N := 31) hx hb hT xi_Mo xt_Mo xt_Mo_ok xn_Mo hown hK.1 hP hD hS 0 rfl rfl 0 (by decide) (hT _ xo_0) (fun _ h9 => h9) rfl (by decide +kernel) rfl rfl (Nat.le_of_ble_eq_true rfl) xd_Mo_fails_2 (fun H locs hP hD hS => ?_)
  have hP : va_P D xcl (moW h mm kA (va_up v 0 cd) g) H := hP
  have hD : va_D A (moW h mm kA (va_up v 0 cd) g) := hD
  refine lv_iconst (v := 0) hx hb xd_Mo_fails_5 (by decide) ?_
  exact W.iret (v := 0) hx hb hr (fun t ht hW => ⟨⟨0, ((va_up v 0 cd), g), rfl, ⟨rfl, rfl⟩, by rw [ht]; exact hP, hD⟩, hS.F ht⟩) hS.2.2 xd_Mo_fails_6
abbrev xb_Mo_shown : ByteArray := prog_12_method_16_code
def xy_Mo_shown : MethodName := ⟨"LayerDeskModel", "shown", "(Z)I"⟩
theorem xd_Mo_shown_0 : decode xb_Mo_shown 0 = .ok (.aload_n 0, 1) := by decide +kernel
theorem xd_Mo_shown_1 : decode xb_Mo_shown 1 = .ok (.getfield 94, 3) := by decide +kernel
theorem xd_Mo_shown_4 : decode xb_Mo_shown 4 = .ok (.iconst 2, 1) := by decide +kernel
theorem xd_Mo_shown_5 : decode xb_Mo_shown 5 = .ok (.if_icmp .eq 11, 3) := by decide +kernel
theorem xd_Mo_shown_8 : decode xb_Mo_shown 8 = .ok (.aload_n 0, 1) := by decide +kernel
theorem xd_Mo_shown_9 : decode xb_Mo_shown 9 = .ok (.getfield 94, 3) := by decide +kernel
theorem xd_Mo_shown_12 : decode xb_Mo_shown 12 = .ok (.iconst 4, 1) := by decide +kernel
theorem xd_Mo_shown_13 : decode xb_Mo_shown 13 = .ok (.if_icmp .ne 11, 3) := by decide +kernel
theorem xd_Mo_shown_16 : decode xb_Mo_shown 16 = .ok (.aload_n 0, 1) := by decide +kernel
theorem xd_Mo_shown_17 : decode xb_Mo_shown 17 = .ok (.iconst 1, 1) := by decide +kernel
theorem xd_Mo_shown_18 : decode xb_Mo_shown 18 = .ok (.invokevirtual 133, 3) := by decide +kernel
theorem xd_Mo_shown_21 : decode xb_Mo_shown 21 = .ok (.goto 4, 3) := by decide +kernel
theorem xd_Mo_shown_24 : decode xb_Mo_shown 24 = .ok (.iconst 0, 1) := by decide +kernel
theorem xd_Mo_shown_25 : decode xb_Mo_shown 25 = .ok (.istore_n 2, 1) := by decide +kernel
theorem xd_Mo_shown_26 : decode xb_Mo_shown 26 = .ok (.aload_n 0, 1) := by decide +kernel
theorem xd_Mo_shown_27 : decode xb_Mo_shown 27 = .ok (.getfield 94, 3) := by decide +kernel
theorem xd_Mo_shown_30 : decode xb_Mo_shown 30 = .ok (.iconst 4, 1) := by decide +kernel
theorem xd_Mo_shown_31 : decode xb_Mo_shown 31 = .ok (.if_icmp .ne 30, 3) := by decide +kernel
theorem xd_Mo_shown_34 : decode xb_Mo_shown 34 = .ok (.aload_n 0, 1) := by decide +kernel
theorem xd_Mo_shown_35 : decode xb_Mo_shown 35 = .ok (.iconst 2, 1) := by decide +kernel
theorem xd_Mo_shown_36 : decode xb_Mo_shown 36 = .ok (.bipush 116, 2) := by decide +kernel
theorem xd_Mo_shown_38 : decode xb_Mo_shown 38 = .ok (.bipush 111, 2) := by decide +kernel
theorem xd_Mo_shown_40 : decode xb_Mo_shown 40 = .ok (.iconst 0, 1) := by decide +kernel
theorem xd_Mo_shown_41 : decode xb_Mo_shown 41 = .ok (.iconst 0, 1) := by decide +kernel
theorem xd_Mo_shown_42 : decode xb_Mo_shown 42 = .ok (.iconst 0, 1) := by decide +kernel
theorem xd_Mo_shown_43 : decode xb_Mo_shown 43 = .ok (.invokestatic 104, 3) := by decide +kernel
theorem xd_Mo_shown_46 : decode xb_Mo_shown 46 = .ok (.iconst 0, 1) := by decide +kernel
theorem xd_Mo_shown_47 : decode xb_Mo_shown 47 = .ok (.invokevirtual 108, 3) := by decide +kernel
theorem xd_Mo_shown_50 : decode xb_Mo_shown 50 = .ok (.ifCond .eq 11, 3) := by decide +kernel
theorem xd_Mo_shown_53 : decode xb_Mo_shown 53 = .ok (.aload_n 0, 1) := by decide +kernel
theorem xd_Mo_shown_54 : decode xb_Mo_shown 54 = .ok (.iconst 3, 1) := by decide +kernel
theorem xd_Mo_shown_55 : decode xb_Mo_shown 55 = .ok (.invokevirtual 133, 3) := by decide +kernel
theorem xd_Mo_shown_58 : decode xb_Mo_shown 58 = .ok (.goto 4, 3) := by decide +kernel
theorem xd_Mo_shown_61 : decode xb_Mo_shown 61 = .ok (.iconst 0, 1) := by decide +kernel
theorem xd_Mo_shown_62 : decode xb_Mo_shown 62 = .ok (.istore_n 3, 1) := by decide +kernel
theorem xd_Mo_shown_63 : decode xb_Mo_shown 63 = .ok (.iload_n 2, 1) := by decide +kernel
theorem xd_Mo_shown_64 : decode xb_Mo_shown 64 = .ok (.ifCond .eq 15, 3) := by decide +kernel
theorem xd_Mo_shown_67 : decode xb_Mo_shown 67 = .ok (.aload_n 0, 1) := by decide +kernel
theorem xd_Mo_shown_68 : decode xb_Mo_shown 68 = .ok (.getfield 94, 3) := by decide +kernel
theorem xd_Mo_shown_71 : decode xb_Mo_shown 71 = .ok (.iconst 4, 1) := by decide +kernel
theorem xd_Mo_shown_72 : decode xb_Mo_shown 72 = .ok (.if_icmp .ne 9, 3) := by decide +kernel
theorem xd_Mo_shown_75 : decode xb_Mo_shown 75 = .ok (.iload_n 3, 1) := by decide +kernel
theorem xd_Mo_shown_76 : decode xb_Mo_shown 76 = .ok (.ifCond .ne 5, 3) := by decide +kernel
theorem xd_Mo_shown_79 : decode xb_Mo_shown 79 = .ok (.iconst (-1), 1) := by decide +kernel
theorem xd_Mo_shown_80 : decode xb_Mo_shown 80 = .ok (.ireturn, 1) := by decide +kernel
theorem xd_Mo_shown_81 : decode xb_Mo_shown 81 = .ok (.aload_n 0, 1) := by decide +kernel
theorem xd_Mo_shown_82 : decode xb_Mo_shown 82 = .ok (.getfield 140, 3) := by decide +kernel
theorem xd_Mo_shown_85 : decode xb_Mo_shown 85 = .ok (.iconst 1, 1) := by decide +kernel
theorem xd_Mo_shown_86 : decode xb_Mo_shown 86 = .ok (.isub, 1) := by decide +kernel
theorem xd_Mo_shown_87 : decode xb_Mo_shown 87 = .ok (.istore 4, 2) := by decide +kernel
theorem xd_Mo_shown_89 : decode xb_Mo_shown 89 = .ok (.iload 4, 2) := by decide +kernel
theorem xd_Mo_shown_91 : decode xb_Mo_shown 91 = .ok (.ifCond .lt 13, 3) := by decide +kernel
theorem xd_Mo_shown_94 : decode xb_Mo_shown 94 = .ok (.aload_n 0, 1) := by decide +kernel
theorem xd_Mo_shown_95 : decode xb_Mo_shown 95 = .ok (.iload 4, 2) := by decide +kernel
theorem xd_Mo_shown_97 : decode xb_Mo_shown 97 = .ok (.iload_n 2, 1) := by decide +kernel
theorem xd_Mo_shown_98 : decode xb_Mo_shown 98 = .ok (.invokevirtual 143, 3) := by decide +kernel
theorem xd_Mo_shown_101 : decode xb_Mo_shown 101 = .ok (.goto 4, 3) := by decide +kernel
theorem xd_Mo_shown_104 : decode xb_Mo_shown 104 = .ok (.iconst 0, 1) := by decide +kernel
theorem xd_Mo_shown_105 : decode xb_Mo_shown 105 = .ok (.istore 5, 2) := by decide +kernel
theorem xd_Mo_shown_107 : decode xb_Mo_shown 107 = .ok (.iload 5, 2) := by decide +kernel
theorem xd_Mo_shown_109 : decode xb_Mo_shown 109 = .ok (.ifCond .ge 5, 3) := by decide +kernel
theorem xd_Mo_shown_112 : decode xb_Mo_shown 112 = .ok (.iconst (-1), 1) := by decide +kernel
theorem xd_Mo_shown_113 : decode xb_Mo_shown 113 = .ok (.ireturn, 1) := by decide +kernel
theorem xd_Mo_shown_114 : decode xb_Mo_shown 114 = .ok (.aload_n 0, 1) := by decide +kernel
theorem xd_Mo_shown_115 : decode xb_Mo_shown 115 = .ok (.invokevirtual 146, 3) := by decide +kernel
theorem xd_Mo_shown_118 : decode xb_Mo_shown 118 = .ok (.ifCond .eq 6, 3) := by decide +kernel
theorem xd_Mo_shown_121 : decode xb_Mo_shown 121 = .ok (.bipush (-2), 2) := by decide +kernel
theorem xd_Mo_shown_123 : decode xb_Mo_shown 123 = .ok (.ireturn, 1) := by decide +kernel
theorem xd_Mo_shown_124 : decode xb_Mo_shown 124 = .ok (.aload_n 0, 1) := by decide +kernel
theorem xd_Mo_shown_125 : decode xb_Mo_shown 125 = .ok (.getfield 94, 3) := by decide +kernel
theorem xd_Mo_shown_128 : decode xb_Mo_shown 128 = .ok (.iconst 2, 1) := by decide +kernel
theorem xd_Mo_shown_129 : decode xb_Mo_shown 129 = .ok (.if_icmp .ne 28, 3) := by decide +kernel
theorem xd_Mo_shown_132 : decode xb_Mo_shown 132 = .ok (.iload_n 1, 1) := by decide +kernel
theorem xd_Mo_shown_133 : decode xb_Mo_shown 133 = .ok (.ifCond .eq 14, 3) := by decide +kernel
theorem xd_Mo_shown_136 : decode xb_Mo_shown 136 = .ok (.aload_n 0, 1) := by decide +kernel
theorem xd_Mo_shown_137 : decode xb_Mo_shown 137 = .ok (.getfield 42, 3) := by decide +kernel
theorem xd_Mo_shown_140 : decode xb_Mo_shown 140 = .ok (.iload 5, 2) := by decide +kernel
theorem xd_Mo_shown_142 : decode xb_Mo_shown 142 = .ok (.iconst 1, 1) := by decide +kernel
theorem xd_Mo_shown_143 : decode xb_Mo_shown 143 = .ok (.bastore, 1) := by decide +kernel
theorem xd_Mo_shown_144 : decode xb_Mo_shown 144 = .ok (.goto 11, 3) := by decide +kernel
theorem xd_Mo_shown_147 : decode xb_Mo_shown 147 = .ok (.aload_n 0, 1) := by decide +kernel
theorem xd_Mo_shown_148 : decode xb_Mo_shown 148 = .ok (.getfield 38, 3) := by decide +kernel
theorem xd_Mo_shown_151 : decode xb_Mo_shown 151 = .ok (.iload 5, 2) := by decide +kernel
theorem xd_Mo_shown_153 : decode xb_Mo_shown 153 = .ok (.iconst 1, 1) := by decide +kernel
theorem xd_Mo_shown_154 : decode xb_Mo_shown 154 = .ok (.bastore, 1) := by decide +kernel
theorem xd_Mo_shown_155 : decode xb_Mo_shown 155 = .ok (.iconst 2, 1) := by decide +kernel
theorem xd_Mo_shown_156 : decode xb_Mo_shown 156 = .ok (.ireturn, 1) := by decide +kernel
theorem xd_Mo_shown_157 : decode xb_Mo_shown 157 = .ok (.iconst 3, 1) := by decide +kernel
theorem xd_Mo_shown_158 : decode xb_Mo_shown 158 = .ok (.iload 5, 2) := by decide +kernel
theorem xd_Mo_shown_160 : decode xb_Mo_shown 160 = .ok (.imul, 1) := by decide +kernel
theorem xd_Mo_shown_161 : decode xb_Mo_shown 161 = .ok (.istore 6, 2) := by decide +kernel
theorem xd_Mo_shown_163 : decode xb_Mo_shown 163 = .ok (.iload 6, 2) := by decide +kernel
theorem xd_Mo_shown_165 : decode xb_Mo_shown 165 = .ok (.iconst 3, 1) := by decide +kernel
theorem xd_Mo_shown_166 : decode xb_Mo_shown 166 = .ok (.iload 5, 2) := by decide +kernel
theorem xd_Mo_shown_168 : decode xb_Mo_shown 168 = .ok (.imul, 1) := by decide +kernel
theorem xd_Mo_shown_169 : decode xb_Mo_shown 169 = .ok (.iconst 3, 1) := by decide +kernel
theorem xd_Mo_shown_170 : decode xb_Mo_shown 170 = .ok (.iadd, 1) := by decide +kernel
theorem xd_Mo_shown_171 : decode xb_Mo_shown 171 = .ok (.if_icmp .ge 70, 3) := by decide +kernel
theorem xd_Mo_shown_174 : decode xb_Mo_shown 174 = .ok (.iload_n 1, 1) := by decide +kernel
theorem xd_Mo_shown_175 : decode xb_Mo_shown 175 = .ok (.ifCond .eq 13, 3) := by decide +kernel
theorem xd_Mo_shown_178 : decode xb_Mo_shown 178 = .ok (.aload_n 0, 1) := by decide +kernel
theorem xd_Mo_shown_179 : decode xb_Mo_shown 179 = .ok (.getfield 35, 3) := by decide +kernel
theorem xd_Mo_shown_182 : decode xb_Mo_shown 182 = .ok (.iload 6, 2) := by decide +kernel
theorem xd_Mo_shown_184 : decode xb_Mo_shown 184 = .ok (.iaload, 1) := by decide +kernel
theorem xd_Mo_shown_185 : decode xb_Mo_shown 185 = .ok (.goto 10, 3) := by decide +kernel
theorem xd_Mo_shown_188 : decode xb_Mo_shown 188 = .ok (.aload_n 0, 1) := by decide +kernel
theorem xd_Mo_shown_189 : decode xb_Mo_shown 189 = .ok (.getfield 32, 3) := by decide +kernel
theorem xd_Mo_shown_192 : decode xb_Mo_shown 192 = .ok (.iload 6, 2) := by decide +kernel
theorem xd_Mo_shown_194 : decode xb_Mo_shown 194 = .ok (.iaload, 1) := by decide +kernel
theorem xd_Mo_shown_195 : decode xb_Mo_shown 195 = .ok (.istore 7, 2) := by decide +kernel
theorem xd_Mo_shown_197 : decode xb_Mo_shown 197 = .ok (.iload 7, 2) := by decide +kernel
theorem xd_Mo_shown_199 : decode xb_Mo_shown 199 = .ok (.iload_n 3, 1) := by decide +kernel
theorem xd_Mo_shown_200 : decode xb_Mo_shown 200 = .ok (.if_icmp .ne 5, 3) := by decide +kernel
theorem xd_Mo_shown_203 : decode xb_Mo_shown 203 = .ok (.iconst 2, 1) := by decide +kernel
theorem xd_Mo_shown_204 : decode xb_Mo_shown 204 = .ok (.ireturn, 1) := by decide +kernel
theorem xd_Mo_shown_205 : decode xb_Mo_shown 205 = .ok (.iload 7, 2) := by decide +kernel
theorem xd_Mo_shown_207 : decode xb_Mo_shown 207 = .ok (.ifCond .ne 28, 3) := by decide +kernel
theorem xd_Mo_shown_210 : decode xb_Mo_shown 210 = .ok (.iload_n 1, 1) := by decide +kernel
theorem xd_Mo_shown_211 : decode xb_Mo_shown 211 = .ok (.ifCond .eq 14, 3) := by decide +kernel
theorem xd_Mo_shown_214 : decode xb_Mo_shown 214 = .ok (.aload_n 0, 1) := by decide +kernel
theorem xd_Mo_shown_215 : decode xb_Mo_shown 215 = .ok (.getfield 35, 3) := by decide +kernel
theorem xd_Mo_shown_218 : decode xb_Mo_shown 218 = .ok (.iload 6, 2) := by decide +kernel
theorem xd_Mo_shown_220 : decode xb_Mo_shown 220 = .ok (.iload_n 3, 1) := by decide +kernel
theorem xd_Mo_shown_221 : decode xb_Mo_shown 221 = .ok (.iastore, 1) := by decide +kernel
theorem xd_Mo_shown_222 : decode xb_Mo_shown 222 = .ok (.goto 11, 3) := by decide +kernel
theorem xd_Mo_shown_225 : decode xb_Mo_shown 225 = .ok (.aload_n 0, 1) := by decide +kernel
theorem xd_Mo_shown_226 : decode xb_Mo_shown 226 = .ok (.getfield 32, 3) := by decide +kernel
theorem xd_Mo_shown_229 : decode xb_Mo_shown 229 = .ok (.iload 6, 2) := by decide +kernel
theorem xd_Mo_shown_231 : decode xb_Mo_shown 231 = .ok (.iload_n 3, 1) := by decide +kernel
theorem xd_Mo_shown_232 : decode xb_Mo_shown 232 = .ok (.iastore, 1) := by decide +kernel
theorem xd_Mo_shown_233 : decode xb_Mo_shown 233 = .ok (.iconst 2, 1) := by decide +kernel
theorem xd_Mo_shown_234 : decode xb_Mo_shown 234 = .ok (.ireturn, 1) := by decide +kernel
theorem xd_Mo_shown_235 : decode xb_Mo_shown 235 = .ok (.iinc 6 1, 3) := by decide +kernel
theorem xd_Mo_shown_238 : decode xb_Mo_shown 238 = .ok (.goto (-75), 3) := by decide +kernel
theorem xd_Mo_shown_241 : decode xb_Mo_shown 241 = .ok (.bipush (-2), 2) := by decide +kernel
theorem xd_Mo_shown_243 : decode xb_Mo_shown 243 = .ok (.ireturn, 1) := by decide +kernel
abbrev xb_Mo_newRequire : ByteArray := prog_12_method_17_code
def xy_Mo_newRequire : MethodName := ⟨"LayerDeskModel", "newRequire", "()I"⟩
theorem xd_Mo_newRequire_0 : decode xb_Mo_newRequire 0 = .ok (.iconst 1, 1) := by decide +kernel
theorem xd_Mo_newRequire_1 : decode xb_Mo_newRequire 1 = .ok (.istore_n 1, 1) := by decide +kernel
theorem xd_Mo_newRequire_2 : decode xb_Mo_newRequire 2 = .ok (.aload_n 0, 1) := by decide +kernel
theorem xd_Mo_newRequire_3 : decode xb_Mo_newRequire 3 = .ok (.getfield 94, 3) := by decide +kernel
theorem xd_Mo_newRequire_6 : decode xb_Mo_newRequire 6 = .ok (.iconst 2, 1) := by decide +kernel
theorem xd_Mo_newRequire_7 : decode xb_Mo_newRequire 7 = .ok (.if_icmp .le 41, 3) := by decide +kernel
theorem xd_Mo_newRequire_10 : decode xb_Mo_newRequire 10 = .ok (.aload_n 0, 1) := by decide +kernel
theorem xd_Mo_newRequire_11 : decode xb_Mo_newRequire 11 = .ok (.iconst 1, 1) := by decide +kernel
theorem xd_Mo_newRequire_12 : decode xb_Mo_newRequire 12 = .ok (.bipush 116, 2) := by decide +kernel
theorem xd_Mo_newRequire_14 : decode xb_Mo_newRequire 14 = .ok (.bipush 114, 2) := by decide +kernel
theorem xd_Mo_newRequire_16 : decode xb_Mo_newRequire 16 = .ok (.bipush 97, 2) := by decide +kernel
theorem xd_Mo_newRequire_18 : decode xb_Mo_newRequire 18 = .ok (.bipush 110, 2) := by decide +kernel
theorem xd_Mo_newRequire_20 : decode xb_Mo_newRequire 20 = .ok (.bipush 115, 2) := by decide +kernel
theorem xd_Mo_newRequire_22 : decode xb_Mo_newRequire 22 = .ok (.invokestatic 104, 3) := by decide +kernel
theorem xd_Mo_newRequire_25 : decode xb_Mo_newRequire 25 = .ok (.bipush 105, 2) := by decide +kernel
theorem xd_Mo_newRequire_27 : decode xb_Mo_newRequire 27 = .ok (.bipush 116, 2) := by decide +kernel
theorem xd_Mo_newRequire_29 : decode xb_Mo_newRequire 29 = .ok (.bipush 105, 2) := by decide +kernel
theorem xd_Mo_newRequire_31 : decode xb_Mo_newRequire 31 = .ok (.bipush 118, 2) := by decide +kernel
theorem xd_Mo_newRequire_33 : decode xb_Mo_newRequire 33 = .ok (.bipush 101, 2) := by decide +kernel
theorem xd_Mo_newRequire_35 : decode xb_Mo_newRequire 35 = .ok (.invokestatic 104, 3) := by decide +kernel
theorem xd_Mo_newRequire_38 : decode xb_Mo_newRequire 38 = .ok (.invokevirtual 108, 3) := by decide +kernel
theorem xd_Mo_newRequire_41 : decode xb_Mo_newRequire 41 = .ok (.ifCond .eq 7, 3) := by decide +kernel
theorem xd_Mo_newRequire_44 : decode xb_Mo_newRequire 44 = .ok (.iconst 1, 1) := by decide +kernel
theorem xd_Mo_newRequire_45 : decode xb_Mo_newRequire 45 = .ok (.goto 4, 3) := by decide +kernel
theorem xd_Mo_newRequire_48 : decode xb_Mo_newRequire 48 = .ok (.iconst 0, 1) := by decide +kernel
theorem xd_Mo_newRequire_49 : decode xb_Mo_newRequire 49 = .ok (.istore_n 2, 1) := by decide +kernel
theorem xd_Mo_newRequire_50 : decode xb_Mo_newRequire 50 = .ok (.iload_n 2, 1) := by decide +kernel
theorem xd_Mo_newRequire_51 : decode xb_Mo_newRequire 51 = .ok (.ifCond .eq 7, 3) := by decide +kernel
theorem xd_Mo_newRequire_54 : decode xb_Mo_newRequire 54 = .ok (.iconst 2, 1) := by decide +kernel
theorem xd_Mo_newRequire_55 : decode xb_Mo_newRequire 55 = .ok (.goto 4, 3) := by decide +kernel
theorem xd_Mo_newRequire_58 : decode xb_Mo_newRequire 58 = .ok (.iconst 1, 1) := by decide +kernel
theorem xd_Mo_newRequire_59 : decode xb_Mo_newRequire 59 = .ok (.istore_n 1, 1) := by decide +kernel
theorem xd_Mo_newRequire_60 : decode xb_Mo_newRequire 60 = .ok (.aload_n 0, 1) := by decide +kernel
theorem xd_Mo_newRequire_61 : decode xb_Mo_newRequire 61 = .ok (.getfield 94, 3) := by decide +kernel
theorem xd_Mo_newRequire_64 : decode xb_Mo_newRequire 64 = .ok (.iload_n 1, 1) := by decide +kernel
theorem xd_Mo_newRequire_65 : decode xb_Mo_newRequire 65 = .ok (.iconst 1, 1) := by decide +kernel
theorem xd_Mo_newRequire_66 : decode xb_Mo_newRequire 66 = .ok (.iadd, 1) := by decide +kernel
theorem xd_Mo_newRequire_67 : decode xb_Mo_newRequire 67 = .ok (.if_icmp .le 37, 3) := by decide +kernel
theorem xd_Mo_newRequire_70 : decode xb_Mo_newRequire 70 = .ok (.aload_n 0, 1) := by decide +kernel
theorem xd_Mo_newRequire_71 : decode xb_Mo_newRequire 71 = .ok (.iload_n 1, 1) := by decide +kernel
theorem xd_Mo_newRequire_72 : decode xb_Mo_newRequire 72 = .ok (.bipush 115, 2) := by decide +kernel
theorem xd_Mo_newRequire_74 : decode xb_Mo_newRequire 74 = .ok (.bipush 116, 2) := by decide +kernel
theorem xd_Mo_newRequire_76 : decode xb_Mo_newRequire 76 = .ok (.bipush 97, 2) := by decide +kernel
theorem xd_Mo_newRequire_78 : decode xb_Mo_newRequire 78 = .ok (.bipush 116, 2) := by decide +kernel
theorem xd_Mo_newRequire_80 : decode xb_Mo_newRequire 80 = .ok (.bipush 105, 2) := by decide +kernel
theorem xd_Mo_newRequire_82 : decode xb_Mo_newRequire 82 = .ok (.invokestatic 104, 3) := by decide +kernel
theorem xd_Mo_newRequire_85 : decode xb_Mo_newRequire 85 = .ok (.bipush 99, 2) := by decide +kernel
theorem xd_Mo_newRequire_87 : decode xb_Mo_newRequire 87 = .ok (.iconst 0, 1) := by decide +kernel
theorem xd_Mo_newRequire_88 : decode xb_Mo_newRequire 88 = .ok (.iconst 0, 1) := by decide +kernel
theorem xd_Mo_newRequire_89 : decode xb_Mo_newRequire 89 = .ok (.iconst 0, 1) := by decide +kernel
theorem xd_Mo_newRequire_90 : decode xb_Mo_newRequire 90 = .ok (.iconst 0, 1) := by decide +kernel
theorem xd_Mo_newRequire_91 : decode xb_Mo_newRequire 91 = .ok (.invokestatic 104, 3) := by decide +kernel
theorem xd_Mo_newRequire_94 : decode xb_Mo_newRequire 94 = .ok (.invokevirtual 108, 3) := by decide +kernel
theorem xd_Mo_newRequire_97 : decode xb_Mo_newRequire 97 = .ok (.ifCond .eq 7, 3) := by decide +kernel
theorem xd_Mo_newRequire_100 : decode xb_Mo_newRequire 100 = .ok (.iconst 1, 1) := by decide +kernel
theorem xd_Mo_newRequire_101 : decode xb_Mo_newRequire 101 = .ok (.goto 4, 3) := by decide +kernel
theorem xd_Mo_newRequire_104 : decode xb_Mo_newRequire 104 = .ok (.iconst 0, 1) := by decide +kernel
theorem xd_Mo_newRequire_105 : decode xb_Mo_newRequire 105 = .ok (.istore_n 3, 1) := by decide +kernel
theorem xd_Mo_newRequire_106 : decode xb_Mo_newRequire 106 = .ok (.iload_n 3, 1) := by decide +kernel
theorem xd_Mo_newRequire_107 : decode xb_Mo_newRequire 107 = .ok (.ifCond .eq 9, 3) := by decide +kernel
theorem xd_Mo_newRequire_110 : decode xb_Mo_newRequire 110 = .ok (.iload_n 1, 1) := by decide +kernel
theorem xd_Mo_newRequire_111 : decode xb_Mo_newRequire 111 = .ok (.iconst 1, 1) := by decide +kernel
theorem xd_Mo_newRequire_112 : decode xb_Mo_newRequire 112 = .ok (.iadd, 1) := by decide +kernel
theorem xd_Mo_newRequire_113 : decode xb_Mo_newRequire 113 = .ok (.goto 4, 3) := by decide +kernel
theorem xd_Mo_newRequire_116 : decode xb_Mo_newRequire 116 = .ok (.iload_n 1, 1) := by decide +kernel
theorem xd_Mo_newRequire_117 : decode xb_Mo_newRequire 117 = .ok (.istore_n 1, 1) := by decide +kernel
theorem xd_Mo_newRequire_118 : decode xb_Mo_newRequire 118 = .ok (.aload_n 0, 1) := by decide +kernel
theorem xd_Mo_newRequire_119 : decode xb_Mo_newRequire 119 = .ok (.getfield 94, 3) := by decide +kernel
theorem xd_Mo_newRequire_122 : decode xb_Mo_newRequire 122 = .ok (.iload_n 1, 1) := by decide +kernel
theorem xd_Mo_newRequire_123 : decode xb_Mo_newRequire 123 = .ok (.iconst 1, 1) := by decide +kernel
theorem xd_Mo_newRequire_124 : decode xb_Mo_newRequire 124 = .ok (.iadd, 1) := by decide +kernel
theorem xd_Mo_newRequire_125 : decode xb_Mo_newRequire 125 = .ok (.if_icmp .ne 11, 3) := by decide +kernel
theorem xd_Mo_newRequire_128 : decode xb_Mo_newRequire 128 = .ok (.aload_n 0, 1) := by decide +kernel
theorem xd_Mo_newRequire_129 : decode xb_Mo_newRequire 129 = .ok (.iload_n 1, 1) := by decide +kernel
theorem xd_Mo_newRequire_130 : decode xb_Mo_newRequire 130 = .ok (.invokevirtual 133, 3) := by decide +kernel
theorem xd_Mo_newRequire_133 : decode xb_Mo_newRequire 133 = .ok (.goto 4, 3) := by decide +kernel
theorem xd_Mo_newRequire_136 : decode xb_Mo_newRequire 136 = .ok (.iconst 0, 1) := by decide +kernel
theorem xd_Mo_newRequire_137 : decode xb_Mo_newRequire 137 = .ok (.istore 4, 2) := by decide +kernel
theorem xd_Mo_newRequire_139 : decode xb_Mo_newRequire 139 = .ok (.iload 4, 2) := by decide +kernel
theorem xd_Mo_newRequire_141 : decode xb_Mo_newRequire 141 = .ok (.ifCond .ne 5, 3) := by decide +kernel
theorem xd_Mo_newRequire_144 : decode xb_Mo_newRequire 144 = .ok (.iconst (-1), 1) := by decide +kernel
theorem xd_Mo_newRequire_145 : decode xb_Mo_newRequire 145 = .ok (.ireturn, 1) := by decide +kernel
theorem xd_Mo_newRequire_146 : decode xb_Mo_newRequire 146 = .ok (.aload_n 0, 1) := by decide +kernel
theorem xd_Mo_newRequire_147 : decode xb_Mo_newRequire 147 = .ok (.getfield 140, 3) := by decide +kernel
theorem xd_Mo_newRequire_150 : decode xb_Mo_newRequire 150 = .ok (.iconst 1, 1) := by decide +kernel
theorem xd_Mo_newRequire_151 : decode xb_Mo_newRequire 151 = .ok (.isub, 1) := by decide +kernel
theorem xd_Mo_newRequire_152 : decode xb_Mo_newRequire 152 = .ok (.istore 5, 2) := by decide +kernel
theorem xd_Mo_newRequire_154 : decode xb_Mo_newRequire 154 = .ok (.iload 5, 2) := by decide +kernel
theorem xd_Mo_newRequire_156 : decode xb_Mo_newRequire 156 = .ok (.ifCond .lt 19, 3) := by decide +kernel
theorem xd_Mo_newRequire_159 : decode xb_Mo_newRequire 159 = .ok (.aload_n 0, 1) := by decide +kernel
theorem xd_Mo_newRequire_160 : decode xb_Mo_newRequire 160 = .ok (.getfield 23, 3) := by decide +kernel
theorem xd_Mo_newRequire_163 : decode xb_Mo_newRequire 163 = .ok (.iload 5, 2) := by decide +kernel
theorem xd_Mo_newRequire_165 : decode xb_Mo_newRequire 165 = .ok (.iaload, 1) := by decide +kernel
theorem xd_Mo_newRequire_166 : decode xb_Mo_newRequire 166 = .ok (.iload 4, 2) := by decide +kernel
theorem xd_Mo_newRequire_168 : decode xb_Mo_newRequire 168 = .ok (.if_icmp .ne 7, 3) := by decide +kernel
theorem xd_Mo_newRequire_171 : decode xb_Mo_newRequire 171 = .ok (.iconst 1, 1) := by decide +kernel
theorem xd_Mo_newRequire_172 : decode xb_Mo_newRequire 172 = .ok (.goto 4, 3) := by decide +kernel
theorem xd_Mo_newRequire_175 : decode xb_Mo_newRequire 175 = .ok (.iconst 0, 1) := by decide +kernel
theorem xd_Mo_newRequire_176 : decode xb_Mo_newRequire 176 = .ok (.istore 6, 2) := by decide +kernel
theorem xd_Mo_newRequire_178 : decode xb_Mo_newRequire 178 = .ok (.iconst 5, 1) := by decide +kernel
theorem xd_Mo_newRequire_179 : decode xb_Mo_newRequire 179 = .ok (.iload 5, 2) := by decide +kernel
theorem xd_Mo_newRequire_181 : decode xb_Mo_newRequire 181 = .ok (.imul, 1) := by decide +kernel
theorem xd_Mo_newRequire_182 : decode xb_Mo_newRequire 182 = .ok (.istore 7, 2) := by decide +kernel
theorem xd_Mo_newRequire_184 : decode xb_Mo_newRequire 184 = .ok (.iload 5, 2) := by decide +kernel
theorem xd_Mo_newRequire_186 : decode xb_Mo_newRequire 186 = .ok (.ifCond .lt 50, 3) := by decide +kernel
theorem xd_Mo_newRequire_189 : decode xb_Mo_newRequire 189 = .ok (.iload 7, 2) := by decide +kernel
theorem xd_Mo_newRequire_191 : decode xb_Mo_newRequire 191 = .ok (.iconst 5, 1) := by decide +kernel
theorem xd_Mo_newRequire_192 : decode xb_Mo_newRequire 192 = .ok (.iload 5, 2) := by decide +kernel
theorem xd_Mo_newRequire_194 : decode xb_Mo_newRequire 194 = .ok (.imul, 1) := by decide +kernel
theorem xd_Mo_newRequire_195 : decode xb_Mo_newRequire 195 = .ok (.aload_n 0, 1) := by decide +kernel
theorem xd_Mo_newRequire_196 : decode xb_Mo_newRequire 196 = .ok (.getfield 48, 3) := by decide +kernel
theorem xd_Mo_newRequire_199 : decode xb_Mo_newRequire 199 = .ok (.iload 5, 2) := by decide +kernel
theorem xd_Mo_newRequire_201 : decode xb_Mo_newRequire 201 = .ok (.iaload, 1) := by decide +kernel
theorem xd_Mo_newRequire_202 : decode xb_Mo_newRequire 202 = .ok (.iadd, 1) := by decide +kernel
theorem xd_Mo_newRequire_203 : decode xb_Mo_newRequire 203 = .ok (.if_icmp .ge 33, 3) := by decide +kernel
theorem xd_Mo_newRequire_206 : decode xb_Mo_newRequire 206 = .ok (.iload 6, 2) := by decide +kernel
theorem xd_Mo_newRequire_208 : decode xb_Mo_newRequire 208 = .ok (.ifCond .ne 15, 3) := by decide +kernel
theorem xd_Mo_newRequire_211 : decode xb_Mo_newRequire 211 = .ok (.aload_n 0, 1) := by decide +kernel
theorem xd_Mo_newRequire_212 : decode xb_Mo_newRequire 212 = .ok (.getfield 51, 3) := by decide +kernel
theorem xd_Mo_newRequire_215 : decode xb_Mo_newRequire 215 = .ok (.iload 7, 2) := by decide +kernel
theorem xd_Mo_newRequire_217 : decode xb_Mo_newRequire 217 = .ok (.iaload, 1) := by decide +kernel
theorem xd_Mo_newRequire_218 : decode xb_Mo_newRequire 218 = .ok (.iload 4, 2) := by decide +kernel
theorem xd_Mo_newRequire_220 : decode xb_Mo_newRequire 220 = .ok (.if_icmp .ne 7, 3) := by decide +kernel
theorem xd_Mo_newRequire_223 : decode xb_Mo_newRequire 223 = .ok (.iconst 1, 1) := by decide +kernel
theorem xd_Mo_newRequire_224 : decode xb_Mo_newRequire 224 = .ok (.goto 4, 3) := by decide +kernel
theorem xd_Mo_newRequire_227 : decode xb_Mo_newRequire 227 = .ok (.iconst 0, 1) := by decide +kernel
theorem xd_Mo_newRequire_228 : decode xb_Mo_newRequire 228 = .ok (.istore 6, 2) := by decide +kernel
theorem xd_Mo_newRequire_230 : decode xb_Mo_newRequire 230 = .ok (.iinc 7 1, 3) := by decide +kernel
theorem xd_Mo_newRequire_233 : decode xb_Mo_newRequire 233 = .ok (.goto (-49), 3) := by decide +kernel
theorem xd_Mo_newRequire_236 : decode xb_Mo_newRequire 236 = .ok (.iload 6, 2) := by decide +kernel
theorem xd_Mo_newRequire_238 : decode xb_Mo_newRequire 238 = .ok (.ifCond .eq 5, 3) := by decide +kernel
theorem xd_Mo_newRequire_241 : decode xb_Mo_newRequire 241 = .ok (.iconst (-1), 1) := by decide +kernel
theorem xd_Mo_newRequire_242 : decode xb_Mo_newRequire 242 = .ok (.ireturn, 1) := by decide +kernel
theorem xd_Mo_newRequire_243 : decode xb_Mo_newRequire 243 = .ok (.aload_n 0, 1) := by decide +kernel
theorem xd_Mo_newRequire_244 : decode xb_Mo_newRequire 244 = .ok (.invokevirtual 146, 3) := by decide +kernel
theorem xd_Mo_newRequire_247 : decode xb_Mo_newRequire 247 = .ok (.ifCond .ne 14, 3) := by decide +kernel
theorem xd_Mo_newRequire_250 : decode xb_Mo_newRequire 250 = .ok (.aload_n 0, 1) := by decide +kernel
theorem xd_Mo_newRequire_251 : decode xb_Mo_newRequire 251 = .ok (.getfield 48, 3) := by decide +kernel
theorem xd_Mo_newRequire_254 : decode xb_Mo_newRequire 254 = .ok (.iload 5, 2) := by decide +kernel
theorem xd_Mo_newRequire_256 : decode xb_Mo_newRequire 256 = .ok (.iaload, 1) := by decide +kernel
theorem xd_Mo_newRequire_257 : decode xb_Mo_newRequire 257 = .ok (.iconst 5, 1) := by decide +kernel
theorem xd_Mo_newRequire_258 : decode xb_Mo_newRequire 258 = .ok (.if_icmp .ne 6, 3) := by decide +kernel
theorem xd_Mo_newRequire_261 : decode xb_Mo_newRequire 261 = .ok (.bipush (-2), 2) := by decide +kernel
theorem xd_Mo_newRequire_263 : decode xb_Mo_newRequire 263 = .ok (.ireturn, 1) := by decide +kernel
theorem xd_Mo_newRequire_264 : decode xb_Mo_newRequire 264 = .ok (.aload_n 0, 1) := by decide +kernel
theorem xd_Mo_newRequire_265 : decode xb_Mo_newRequire 265 = .ok (.getfield 51, 3) := by decide +kernel
theorem xd_Mo_newRequire_268 : decode xb_Mo_newRequire 268 = .ok (.iconst 5, 1) := by decide +kernel
theorem xd_Mo_newRequire_269 : decode xb_Mo_newRequire 269 = .ok (.iload 5, 2) := by decide +kernel
theorem xd_Mo_newRequire_271 : decode xb_Mo_newRequire 271 = .ok (.imul, 1) := by decide +kernel
theorem xd_Mo_newRequire_272 : decode xb_Mo_newRequire 272 = .ok (.aload_n 0, 1) := by decide +kernel
theorem xd_Mo_newRequire_273 : decode xb_Mo_newRequire 273 = .ok (.getfield 48, 3) := by decide +kernel
theorem xd_Mo_newRequire_276 : decode xb_Mo_newRequire 276 = .ok (.iload 5, 2) := by decide +kernel
theorem xd_Mo_newRequire_278 : decode xb_Mo_newRequire 278 = .ok (.iaload, 1) := by decide +kernel
theorem xd_Mo_newRequire_279 : decode xb_Mo_newRequire 279 = .ok (.iadd, 1) := by decide +kernel
theorem xd_Mo_newRequire_280 : decode xb_Mo_newRequire 280 = .ok (.iload 4, 2) := by decide +kernel
theorem xd_Mo_newRequire_282 : decode xb_Mo_newRequire 282 = .ok (.iastore, 1) := by decide +kernel
theorem xd_Mo_newRequire_283 : decode xb_Mo_newRequire 283 = .ok (.aload_n 0, 1) := by decide +kernel
theorem xd_Mo_newRequire_284 : decode xb_Mo_newRequire 284 = .ok (.getfield 60, 3) := by decide +kernel
theorem xd_Mo_newRequire_287 : decode xb_Mo_newRequire 287 = .ok (.iconst 5, 1) := by decide +kernel
theorem xd_Mo_newRequire_288 : decode xb_Mo_newRequire 288 = .ok (.iload 5, 2) := by decide +kernel
theorem xd_Mo_newRequire_290 : decode xb_Mo_newRequire 290 = .ok (.imul, 1) := by decide +kernel
theorem xd_Mo_newRequire_291 : decode xb_Mo_newRequire 291 = .ok (.aload_n 0, 1) := by decide +kernel
theorem xd_Mo_newRequire_292 : decode xb_Mo_newRequire 292 = .ok (.getfield 48, 3) := by decide +kernel
theorem xd_Mo_newRequire_295 : decode xb_Mo_newRequire 295 = .ok (.iload 5, 2) := by decide +kernel
theorem xd_Mo_newRequire_297 : decode xb_Mo_newRequire 297 = .ok (.iaload, 1) := by decide +kernel
theorem xd_Mo_newRequire_298 : decode xb_Mo_newRequire 298 = .ok (.iadd, 1) := by decide +kernel
theorem xd_Mo_newRequire_299 : decode xb_Mo_newRequire 299 = .ok (.iload_n 2, 1) := by decide +kernel
theorem xd_Mo_newRequire_300 : decode xb_Mo_newRequire 300 = .ok (.bastore, 1) := by decide +kernel
theorem xd_Mo_newRequire_301 : decode xb_Mo_newRequire 301 = .ok (.aload_n 0, 1) := by decide +kernel
theorem xd_Mo_newRequire_302 : decode xb_Mo_newRequire 302 = .ok (.getfield 63, 3) := by decide +kernel
theorem xd_Mo_newRequire_305 : decode xb_Mo_newRequire 305 = .ok (.iconst 5, 1) := by decide +kernel
theorem xd_Mo_newRequire_306 : decode xb_Mo_newRequire 306 = .ok (.iload 5, 2) := by decide +kernel
theorem xd_Mo_newRequire_308 : decode xb_Mo_newRequire 308 = .ok (.imul, 1) := by decide +kernel
theorem xd_Mo_newRequire_309 : decode xb_Mo_newRequire 309 = .ok (.aload_n 0, 1) := by decide +kernel
theorem xd_Mo_newRequire_310 : decode xb_Mo_newRequire 310 = .ok (.getfield 48, 3) := by decide +kernel
theorem xd_Mo_newRequire_313 : decode xb_Mo_newRequire 313 = .ok (.iload 5, 2) := by decide +kernel
theorem xd_Mo_newRequire_315 : decode xb_Mo_newRequire 315 = .ok (.iaload, 1) := by decide +kernel
theorem xd_Mo_newRequire_316 : decode xb_Mo_newRequire 316 = .ok (.iadd, 1) := by decide +kernel
theorem xd_Mo_newRequire_317 : decode xb_Mo_newRequire 317 = .ok (.iload_n 3, 1) := by decide +kernel
theorem xd_Mo_newRequire_318 : decode xb_Mo_newRequire 318 = .ok (.bastore, 1) := by decide +kernel
theorem xd_Mo_newRequire_319 : decode xb_Mo_newRequire 319 = .ok (.aload_n 0, 1) := by decide +kernel
theorem xd_Mo_newRequire_320 : decode xb_Mo_newRequire 320 = .ok (.getfield 48, 3) := by decide +kernel
theorem xd_Mo_newRequire_323 : decode xb_Mo_newRequire 323 = .ok (.iload 5, 2) := by decide +kernel
theorem xd_Mo_newRequire_325 : decode xb_Mo_newRequire 325 = .ok (.dup2, 1) := by decide +kernel
theorem xd_Mo_newRequire_326 : decode xb_Mo_newRequire 326 = .ok (.iaload, 1) := by decide +kernel
theorem xd_Mo_newRequire_327 : decode xb_Mo_newRequire 327 = .ok (.iconst 1, 1) := by decide +kernel
theorem xd_Mo_newRequire_328 : decode xb_Mo_newRequire 328 = .ok (.iadd, 1) := by decide +kernel
theorem xd_Mo_newRequire_329 : decode xb_Mo_newRequire 329 = .ok (.iastore, 1) := by decide +kernel
theorem xd_Mo_newRequire_330 : decode xb_Mo_newRequire 330 = .ok (.iconst 2, 1) := by decide +kernel
theorem xd_Mo_newRequire_331 : decode xb_Mo_newRequire 331 = .ok (.ireturn, 1) := by decide +kernel
abbrev xb_Mo_newService : ByteArray := prog_12_method_18_code
def xy_Mo_newService : MethodName := ⟨"LayerDeskModel", "newService", "(Z)I"⟩
theorem xd_Mo_newService_0 : decode xb_Mo_newService 0 = .ok (.aload_n 0, 1) := by decide +kernel
theorem xd_Mo_newService_1 : decode xb_Mo_newService 1 = .ok (.getfield 94, 3) := by decide +kernel
theorem xd_Mo_newService_4 : decode xb_Mo_newService 4 = .ok (.iconst 2, 1) := by decide +kernel
theorem xd_Mo_newService_5 : decode xb_Mo_newService 5 = .ok (.if_icmp .ne 11, 3) := by decide +kernel
theorem xd_Mo_newService_8 : decode xb_Mo_newService 8 = .ok (.aload_n 0, 1) := by decide +kernel
theorem xd_Mo_newService_9 : decode xb_Mo_newService 9 = .ok (.iconst 1, 1) := by decide +kernel
theorem xd_Mo_newService_10 : decode xb_Mo_newService 10 = .ok (.invokevirtual 133, 3) := by decide +kernel
theorem xd_Mo_newService_13 : decode xb_Mo_newService 13 = .ok (.goto 4, 3) := by decide +kernel
theorem xd_Mo_newService_16 : decode xb_Mo_newService 16 = .ok (.iconst 0, 1) := by decide +kernel
theorem xd_Mo_newService_17 : decode xb_Mo_newService 17 = .ok (.istore_n 2, 1) := by decide +kernel
theorem xd_Mo_newService_18 : decode xb_Mo_newService 18 = .ok (.iload_n 2, 1) := by decide +kernel
theorem xd_Mo_newService_19 : decode xb_Mo_newService 19 = .ok (.ifCond .ne 5, 3) := by decide +kernel
theorem xd_Mo_newService_22 : decode xb_Mo_newService 22 = .ok (.iconst (-1), 1) := by decide +kernel
theorem xd_Mo_newService_23 : decode xb_Mo_newService 23 = .ok (.ireturn, 1) := by decide +kernel
theorem xd_Mo_newService_24 : decode xb_Mo_newService 24 = .ok (.aload_n 0, 1) := by decide +kernel
theorem xd_Mo_newService_25 : decode xb_Mo_newService 25 = .ok (.getfield 140, 3) := by decide +kernel
theorem xd_Mo_newService_28 : decode xb_Mo_newService 28 = .ok (.iconst 1, 1) := by decide +kernel
theorem xd_Mo_newService_29 : decode xb_Mo_newService 29 = .ok (.isub, 1) := by decide +kernel
theorem xd_Mo_newService_30 : decode xb_Mo_newService 30 = .ok (.istore_n 3, 1) := by decide +kernel
theorem xd_Mo_newService_31 : decode xb_Mo_newService 31 = .ok (.iconst (-1), 1) := by decide +kernel
theorem xd_Mo_newService_32 : decode xb_Mo_newService 32 = .ok (.istore 4, 2) := by decide +kernel
theorem xd_Mo_newService_34 : decode xb_Mo_newService 34 = .ok (.iconst 2, 1) := by decide +kernel
theorem xd_Mo_newService_35 : decode xb_Mo_newService 35 = .ok (.istore 5, 2) := by decide +kernel
theorem xd_Mo_newService_37 : decode xb_Mo_newService 37 = .ok (.iload_n 3, 1) := by decide +kernel
theorem xd_Mo_newService_38 : decode xb_Mo_newService 38 = .ok (.ifCond .lt 67, 3) := by decide +kernel
theorem xd_Mo_newService_41 : decode xb_Mo_newService 41 = .ok (.iload 5, 2) := by decide +kernel
theorem xd_Mo_newService_43 : decode xb_Mo_newService 43 = .ok (.ifCond .lt 62, 3) := by decide +kernel
theorem xd_Mo_newService_46 : decode xb_Mo_newService 46 = .ok (.iload_n 1, 1) := by decide +kernel
theorem xd_Mo_newService_47 : decode xb_Mo_newService 47 = .ok (.ifCond .eq 17, 3) := by decide +kernel
theorem xd_Mo_newService_50 : decode xb_Mo_newService 50 = .ok (.aload_n 0, 1) := by decide +kernel
theorem xd_Mo_newService_51 : decode xb_Mo_newService 51 = .ok (.getfield 57, 3) := by decide +kernel
theorem xd_Mo_newService_54 : decode xb_Mo_newService 54 = .ok (.iconst 3, 1) := by decide +kernel
theorem xd_Mo_newService_55 : decode xb_Mo_newService 55 = .ok (.iload_n 3, 1) := by decide +kernel
theorem xd_Mo_newService_56 : decode xb_Mo_newService 56 = .ok (.imul, 1) := by decide +kernel
theorem xd_Mo_newService_57 : decode xb_Mo_newService 57 = .ok (.iload 5, 2) := by decide +kernel
theorem xd_Mo_newService_59 : decode xb_Mo_newService 59 = .ok (.iadd, 1) := by decide +kernel
theorem xd_Mo_newService_60 : decode xb_Mo_newService 60 = .ok (.iaload, 1) := by decide +kernel
theorem xd_Mo_newService_61 : decode xb_Mo_newService 61 = .ok (.goto 14, 3) := by decide +kernel
theorem xd_Mo_newService_64 : decode xb_Mo_newService 64 = .ok (.aload_n 0, 1) := by decide +kernel
theorem xd_Mo_newService_65 : decode xb_Mo_newService 65 = .ok (.getfield 54, 3) := by decide +kernel
theorem xd_Mo_newService_68 : decode xb_Mo_newService 68 = .ok (.iconst 3, 1) := by decide +kernel
theorem xd_Mo_newService_69 : decode xb_Mo_newService 69 = .ok (.iload_n 3, 1) := by decide +kernel
theorem xd_Mo_newService_70 : decode xb_Mo_newService 70 = .ok (.imul, 1) := by decide +kernel
theorem xd_Mo_newService_71 : decode xb_Mo_newService 71 = .ok (.iload 5, 2) := by decide +kernel
theorem xd_Mo_newService_73 : decode xb_Mo_newService 73 = .ok (.iadd, 1) := by decide +kernel
theorem xd_Mo_newService_74 : decode xb_Mo_newService 74 = .ok (.iaload, 1) := by decide +kernel
theorem xd_Mo_newService_75 : decode xb_Mo_newService 75 = .ok (.istore 6, 2) := by decide +kernel
theorem xd_Mo_newService_77 : decode xb_Mo_newService 77 = .ok (.iload 6, 2) := by decide +kernel
theorem xd_Mo_newService_79 : decode xb_Mo_newService 79 = .ok (.iload_n 2, 1) := by decide +kernel
theorem xd_Mo_newService_80 : decode xb_Mo_newService 80 = .ok (.if_icmp .ne 5, 3) := by decide +kernel
theorem xd_Mo_newService_83 : decode xb_Mo_newService 83 = .ok (.iconst (-1), 1) := by decide +kernel
theorem xd_Mo_newService_84 : decode xb_Mo_newService 84 = .ok (.ireturn, 1) := by decide +kernel
theorem xd_Mo_newService_85 : decode xb_Mo_newService 85 = .ok (.iload 6, 2) := by decide +kernel
theorem xd_Mo_newService_87 : decode xb_Mo_newService 87 = .ok (.ifCond .ne 8, 3) := by decide +kernel
theorem xd_Mo_newService_90 : decode xb_Mo_newService 90 = .ok (.iload 5, 2) := by decide +kernel
theorem xd_Mo_newService_92 : decode xb_Mo_newService 92 = .ok (.goto 5, 3) := by decide +kernel
theorem xd_Mo_newService_95 : decode xb_Mo_newService 95 = .ok (.iload 4, 2) := by decide +kernel
theorem xd_Mo_newService_97 : decode xb_Mo_newService 97 = .ok (.istore 4, 2) := by decide +kernel
theorem xd_Mo_newService_99 : decode xb_Mo_newService 99 = .ok (.iinc 5 (-1), 3) := by decide +kernel
theorem xd_Mo_newService_102 : decode xb_Mo_newService 102 = .ok (.goto (-65), 3) := by decide +kernel
theorem xd_Mo_newService_105 : decode xb_Mo_newService 105 = .ok (.aload_n 0, 1) := by decide +kernel
theorem xd_Mo_newService_106 : decode xb_Mo_newService 106 = .ok (.invokevirtual 146, 3) := by decide +kernel
theorem xd_Mo_newService_109 : decode xb_Mo_newService 109 = .ok (.ifCond .ne 8, 3) := by decide +kernel
theorem xd_Mo_newService_112 : decode xb_Mo_newService 112 = .ok (.iload 4, 2) := by decide +kernel
theorem xd_Mo_newService_114 : decode xb_Mo_newService 114 = .ok (.ifCond .ge 6, 3) := by decide +kernel
theorem xd_Mo_newService_117 : decode xb_Mo_newService 117 = .ok (.bipush (-2), 2) := by decide +kernel
theorem xd_Mo_newService_119 : decode xb_Mo_newService 119 = .ok (.ireturn, 1) := by decide +kernel
theorem xd_Mo_newService_120 : decode xb_Mo_newService 120 = .ok (.iload_n 1, 1) := by decide +kernel
theorem xd_Mo_newService_121 : decode xb_Mo_newService 121 = .ok (.ifCond .eq 18, 3) := by decide +kernel
theorem xd_Mo_newService_124 : decode xb_Mo_newService 124 = .ok (.aload_n 0, 1) := by decide +kernel
theorem xd_Mo_newService_125 : decode xb_Mo_newService 125 = .ok (.getfield 57, 3) := by decide +kernel
theorem xd_Mo_newService_128 : decode xb_Mo_newService 128 = .ok (.iconst 3, 1) := by decide +kernel
theorem xd_Mo_newService_129 : decode xb_Mo_newService 129 = .ok (.iload_n 3, 1) := by decide +kernel
theorem xd_Mo_newService_130 : decode xb_Mo_newService 130 = .ok (.imul, 1) := by decide +kernel
theorem xd_Mo_newService_131 : decode xb_Mo_newService 131 = .ok (.iload 4, 2) := by decide +kernel
theorem xd_Mo_newService_133 : decode xb_Mo_newService 133 = .ok (.iadd, 1) := by decide +kernel
theorem xd_Mo_newService_134 : decode xb_Mo_newService 134 = .ok (.iload_n 2, 1) := by decide +kernel
theorem xd_Mo_newService_135 : decode xb_Mo_newService 135 = .ok (.iastore, 1) := by decide +kernel
theorem xd_Mo_newService_136 : decode xb_Mo_newService 136 = .ok (.goto 15, 3) := by decide +kernel
theorem xd_Mo_newService_139 : decode xb_Mo_newService 139 = .ok (.aload_n 0, 1) := by decide +kernel
theorem xd_Mo_newService_140 : decode xb_Mo_newService 140 = .ok (.getfield 54, 3) := by decide +kernel
theorem xd_Mo_newService_143 : decode xb_Mo_newService 143 = .ok (.iconst 3, 1) := by decide +kernel
theorem xd_Mo_newService_144 : decode xb_Mo_newService 144 = .ok (.iload_n 3, 1) := by decide +kernel
theorem xd_Mo_newService_145 : decode xb_Mo_newService 145 = .ok (.imul, 1) := by decide +kernel
theorem xd_Mo_newService_146 : decode xb_Mo_newService 146 = .ok (.iload 4, 2) := by decide +kernel
theorem xd_Mo_newService_148 : decode xb_Mo_newService 148 = .ok (.iadd, 1) := by decide +kernel
theorem xd_Mo_newService_149 : decode xb_Mo_newService 149 = .ok (.iload_n 2, 1) := by decide +kernel
theorem xd_Mo_newService_150 : decode xb_Mo_newService 150 = .ok (.iastore, 1) := by decide +kernel
theorem xd_Mo_newService_151 : decode xb_Mo_newService 151 = .ok (.iconst 2, 1) := by decide +kernel
theorem xd_Mo_newService_152 : decode xb_Mo_newService 152 = .ok (.ireturn, 1) := by decide +kernel
abbrev xb_Mo_line : ByteArray := prog_12_method_10_code
def xy_Mo_line : MethodName := ⟨"LayerDeskModel", "line", "()I"⟩
theorem xd_Mo_line_0 : decode xb_Mo_line 0 = .ok (.aload_n 0, 1) := by decide +kernel
theorem xd_Mo_line_1 : decode xb_Mo_line 1 = .ok (.iconst 0, 1) := by decide +kernel
theorem xd_Mo_line_2 : decode xb_Mo_line 2 = .ok (.putfield 87, 3) := by decide +kernel
theorem xd_Mo_line_5 : decode xb_Mo_line 5 = .ok (.aload_n 0, 1) := by decide +kernel
theorem xd_Mo_line_6 : decode xb_Mo_line 6 = .ok (.invokevirtual 101, 3) := by decide +kernel
theorem xd_Mo_line_9 : decode xb_Mo_line 9 = .ok (.aload_n 0, 1) := by decide +kernel
theorem xd_Mo_line_10 : decode xb_Mo_line 10 = .ok (.getfield 94, 3) := by decide +kernel
theorem xd_Mo_line_13 : decode xb_Mo_line 13 = .ok (.ifCond .ne 5, 3) := by decide +kernel
theorem xd_Mo_line_16 : decode xb_Mo_line 16 = .ok (.iconst 0, 1) := by decide +kernel
theorem xd_Mo_line_17 : decode xb_Mo_line 17 = .ok (.ireturn, 1) := by decide +kernel
theorem xd_Mo_line_18 : decode xb_Mo_line 18 = .ok (.iconst (-1), 1) := by decide +kernel
theorem xd_Mo_line_19 : decode xb_Mo_line 19 = .ok (.istore_n 1, 1) := by decide +kernel
theorem xd_Mo_line_20 : decode xb_Mo_line 20 = .ok (.aload_n 0, 1) := by decide +kernel
theorem xd_Mo_line_21 : decode xb_Mo_line 21 = .ok (.iconst 0, 1) := by decide +kernel
theorem xd_Mo_line_22 : decode xb_Mo_line 22 = .ok (.bipush 109, 2) := by decide +kernel
theorem xd_Mo_line_24 : decode xb_Mo_line 24 = .ok (.bipush 111, 2) := by decide +kernel
theorem xd_Mo_line_26 : decode xb_Mo_line 26 = .ok (.bipush 100, 2) := by decide +kernel
theorem xd_Mo_line_28 : decode xb_Mo_line 28 = .ok (.bipush 117, 2) := by decide +kernel
theorem xd_Mo_line_30 : decode xb_Mo_line 30 = .ok (.bipush 108, 2) := by decide +kernel
theorem xd_Mo_line_32 : decode xb_Mo_line 32 = .ok (.invokestatic 104, 3) := by decide +kernel
theorem xd_Mo_line_35 : decode xb_Mo_line 35 = .ok (.bipush 101, 2) := by decide +kernel
theorem xd_Mo_line_37 : decode xb_Mo_line 37 = .ok (.iconst 0, 1) := by decide +kernel
theorem xd_Mo_line_38 : decode xb_Mo_line 38 = .ok (.iconst 0, 1) := by decide +kernel
theorem xd_Mo_line_39 : decode xb_Mo_line 39 = .ok (.iconst 0, 1) := by decide +kernel
theorem xd_Mo_line_40 : decode xb_Mo_line 40 = .ok (.iconst 0, 1) := by decide +kernel
theorem xd_Mo_line_41 : decode xb_Mo_line 41 = .ok (.invokestatic 104, 3) := by decide +kernel
theorem xd_Mo_line_44 : decode xb_Mo_line 44 = .ok (.invokevirtual 108, 3) := by decide +kernel
theorem xd_Mo_line_47 : decode xb_Mo_line 47 = .ok (.ifCond .eq 11, 3) := by decide +kernel
theorem xd_Mo_line_50 : decode xb_Mo_line 50 = .ok (.aload_n 0, 1) := by decide +kernel
theorem xd_Mo_line_51 : decode xb_Mo_line 51 = .ok (.invokevirtual 112, 3) := by decide +kernel
theorem xd_Mo_line_54 : decode xb_Mo_line 54 = .ok (.istore_n 1, 1) := by decide +kernel
theorem xd_Mo_line_55 : decode xb_Mo_line 55 = .ok (.goto 221, 3) := by decide +kernel
theorem xd_Mo_line_58 : decode xb_Mo_line 58 = .ok (.aload_n 0, 1) := by decide +kernel
theorem xd_Mo_line_59 : decode xb_Mo_line 59 = .ok (.iconst 0, 1) := by decide +kernel
theorem xd_Mo_line_60 : decode xb_Mo_line 60 = .ok (.bipush 112, 2) := by decide +kernel
theorem xd_Mo_line_62 : decode xb_Mo_line 62 = .ok (.bipush 97, 2) := by decide +kernel
theorem xd_Mo_line_64 : decode xb_Mo_line 64 = .ok (.bipush 99, 2) := by decide +kernel
theorem xd_Mo_line_66 : decode xb_Mo_line 66 = .ok (.bipush 107, 2) := by decide +kernel
theorem xd_Mo_line_68 : decode xb_Mo_line 68 = .ok (.bipush 97, 2) := by decide +kernel
theorem xd_Mo_line_70 : decode xb_Mo_line 70 = .ok (.invokestatic 104, 3) := by decide +kernel
theorem xd_Mo_line_73 : decode xb_Mo_line 73 = .ok (.bipush 103, 2) := by decide +kernel
theorem xd_Mo_line_75 : decode xb_Mo_line 75 = .ok (.bipush 101, 2) := by decide +kernel
theorem xd_Mo_line_77 : decode xb_Mo_line 77 = .ok (.iconst 0, 1) := by decide +kernel
theorem xd_Mo_line_78 : decode xb_Mo_line 78 = .ok (.iconst 0, 1) := by decide +kernel
theorem xd_Mo_line_79 : decode xb_Mo_line 79 = .ok (.iconst 0, 1) := by decide +kernel
theorem xd_Mo_line_80 : decode xb_Mo_line 80 = .ok (.invokestatic 104, 3) := by decide +kernel
theorem xd_Mo_line_83 : decode xb_Mo_line 83 = .ok (.invokevirtual 108, 3) := by decide +kernel
theorem xd_Mo_line_86 : decode xb_Mo_line 86 = .ok (.ifCond .eq 11, 3) := by decide +kernel
theorem xd_Mo_line_89 : decode xb_Mo_line 89 = .ok (.aload_n 0, 1) := by decide +kernel
theorem xd_Mo_line_90 : decode xb_Mo_line 90 = .ok (.invokevirtual 116, 3) := by decide +kernel
theorem xd_Mo_line_93 : decode xb_Mo_line 93 = .ok (.istore_n 1, 1) := by decide +kernel
theorem xd_Mo_line_94 : decode xb_Mo_line 94 = .ok (.goto 182, 3) := by decide +kernel
theorem xd_Mo_line_97 : decode xb_Mo_line 97 = .ok (.aload_n 0, 1) := by decide +kernel
theorem xd_Mo_line_98 : decode xb_Mo_line 98 = .ok (.iconst 0, 1) := by decide +kernel
theorem xd_Mo_line_99 : decode xb_Mo_line 99 = .ok (.bipush 101, 2) := by decide +kernel
theorem xd_Mo_line_101 : decode xb_Mo_line 101 = .ok (.bipush 120, 2) := by decide +kernel
theorem xd_Mo_line_103 : decode xb_Mo_line 103 = .ok (.bipush 112, 2) := by decide +kernel
theorem xd_Mo_line_105 : decode xb_Mo_line 105 = .ok (.bipush 111, 2) := by decide +kernel
theorem xd_Mo_line_107 : decode xb_Mo_line 107 = .ok (.bipush 114, 2) := by decide +kernel
theorem xd_Mo_line_109 : decode xb_Mo_line 109 = .ok (.invokestatic 104, 3) := by decide +kernel
theorem xd_Mo_line_112 : decode xb_Mo_line 112 = .ok (.bipush 116, 2) := by decide +kernel
theorem xd_Mo_line_114 : decode xb_Mo_line 114 = .ok (.bipush 115, 2) := by decide +kernel
theorem xd_Mo_line_116 : decode xb_Mo_line 116 = .ok (.iconst 0, 1) := by decide +kernel
theorem xd_Mo_line_117 : decode xb_Mo_line 117 = .ok (.iconst 0, 1) := by decide +kernel
theorem xd_Mo_line_118 : decode xb_Mo_line 118 = .ok (.iconst 0, 1) := by decide +kernel
theorem xd_Mo_line_119 : decode xb_Mo_line 119 = .ok (.invokestatic 104, 3) := by decide +kernel
theorem xd_Mo_line_122 : decode xb_Mo_line 122 = .ok (.invokevirtual 108, 3) := by decide +kernel
theorem xd_Mo_line_125 : decode xb_Mo_line 125 = .ok (.ifCond .eq 12, 3) := by decide +kernel
theorem xd_Mo_line_128 : decode xb_Mo_line 128 = .ok (.aload_n 0, 1) := by decide +kernel
theorem xd_Mo_line_129 : decode xb_Mo_line 129 = .ok (.iconst 0, 1) := by decide +kernel
theorem xd_Mo_line_130 : decode xb_Mo_line 130 = .ok (.invokevirtual 119, 3) := by decide +kernel
theorem xd_Mo_line_133 : decode xb_Mo_line 133 = .ok (.istore_n 1, 1) := by decide +kernel
theorem xd_Mo_line_134 : decode xb_Mo_line 134 = .ok (.goto 142, 3) := by decide +kernel
theorem xd_Mo_line_137 : decode xb_Mo_line 137 = .ok (.aload_n 0, 1) := by decide +kernel
theorem xd_Mo_line_138 : decode xb_Mo_line 138 = .ok (.iconst 0, 1) := by decide +kernel
theorem xd_Mo_line_139 : decode xb_Mo_line 139 = .ok (.bipush 111, 2) := by decide +kernel
theorem xd_Mo_line_141 : decode xb_Mo_line 141 = .ok (.bipush 112, 2) := by decide +kernel
theorem xd_Mo_line_143 : decode xb_Mo_line 143 = .ok (.bipush 101, 2) := by decide +kernel
theorem xd_Mo_line_145 : decode xb_Mo_line 145 = .ok (.bipush 110, 2) := by decide +kernel
theorem xd_Mo_line_147 : decode xb_Mo_line 147 = .ok (.bipush 115, 2) := by decide +kernel
theorem xd_Mo_line_149 : decode xb_Mo_line 149 = .ok (.invokestatic 104, 3) := by decide +kernel
theorem xd_Mo_line_152 : decode xb_Mo_line 152 = .ok (.iconst 0, 1) := by decide +kernel
theorem xd_Mo_line_153 : decode xb_Mo_line 153 = .ok (.invokevirtual 108, 3) := by decide +kernel
theorem xd_Mo_line_156 : decode xb_Mo_line 156 = .ok (.ifCond .eq 12, 3) := by decide +kernel
theorem xd_Mo_line_159 : decode xb_Mo_line 159 = .ok (.aload_n 0, 1) := by decide +kernel
theorem xd_Mo_line_160 : decode xb_Mo_line 160 = .ok (.iconst 1, 1) := by decide +kernel
theorem xd_Mo_line_161 : decode xb_Mo_line 161 = .ok (.invokevirtual 119, 3) := by decide +kernel
theorem xd_Mo_line_164 : decode xb_Mo_line 164 = .ok (.istore_n 1, 1) := by decide +kernel
theorem xd_Mo_line_165 : decode xb_Mo_line 165 = .ok (.goto 111, 3) := by decide +kernel
theorem xd_Mo_line_168 : decode xb_Mo_line 168 = .ok (.aload_n 0, 1) := by decide +kernel
theorem xd_Mo_line_169 : decode xb_Mo_line 169 = .ok (.iconst 0, 1) := by decide +kernel
theorem xd_Mo_line_170 : decode xb_Mo_line 170 = .ok (.bipush 114, 2) := by decide +kernel
theorem xd_Mo_line_172 : decode xb_Mo_line 172 = .ok (.bipush 101, 2) := by decide +kernel
theorem xd_Mo_line_174 : decode xb_Mo_line 174 = .ok (.bipush 113, 2) := by decide +kernel
theorem xd_Mo_line_176 : decode xb_Mo_line 176 = .ok (.bipush 117, 2) := by decide +kernel
theorem xd_Mo_line_178 : decode xb_Mo_line 178 = .ok (.bipush 105, 2) := by decide +kernel
theorem xd_Mo_line_180 : decode xb_Mo_line 180 = .ok (.invokestatic 104, 3) := by decide +kernel
theorem xd_Mo_line_183 : decode xb_Mo_line 183 = .ok (.bipush 114, 2) := by decide +kernel
theorem xd_Mo_line_185 : decode xb_Mo_line 185 = .ok (.bipush 101, 2) := by decide +kernel
theorem xd_Mo_line_187 : decode xb_Mo_line 187 = .ok (.bipush 115, 2) := by decide +kernel
theorem xd_Mo_line_189 : decode xb_Mo_line 189 = .ok (.iconst 0, 1) := by decide +kernel
theorem xd_Mo_line_190 : decode xb_Mo_line 190 = .ok (.iconst 0, 1) := by decide +kernel
theorem xd_Mo_line_191 : decode xb_Mo_line 191 = .ok (.invokestatic 104, 3) := by decide +kernel
theorem xd_Mo_line_194 : decode xb_Mo_line 194 = .ok (.invokevirtual 108, 3) := by decide +kernel
theorem xd_Mo_line_197 : decode xb_Mo_line 197 = .ok (.ifCond .eq 11, 3) := by decide +kernel
theorem xd_Mo_line_200 : decode xb_Mo_line 200 = .ok (.aload_n 0, 1) := by decide +kernel
theorem xd_Mo_line_201 : decode xb_Mo_line 201 = .ok (.invokevirtual 123, 3) := by decide +kernel
theorem xd_Mo_line_204 : decode xb_Mo_line 204 = .ok (.istore_n 1, 1) := by decide +kernel
theorem xd_Mo_line_205 : decode xb_Mo_line 205 = .ok (.goto 71, 3) := by decide +kernel
theorem xd_Mo_line_208 : decode xb_Mo_line 208 = .ok (.aload_n 0, 1) := by decide +kernel
theorem xd_Mo_line_209 : decode xb_Mo_line 209 = .ok (.iconst 0, 1) := by decide +kernel
theorem xd_Mo_line_210 : decode xb_Mo_line 210 = .ok (.bipush 117, 2) := by decide +kernel
theorem xd_Mo_line_212 : decode xb_Mo_line 212 = .ok (.bipush 115, 2) := by decide +kernel
theorem xd_Mo_line_214 : decode xb_Mo_line 214 = .ok (.bipush 101, 2) := by decide +kernel
theorem xd_Mo_line_216 : decode xb_Mo_line 216 = .ok (.bipush 115, 2) := by decide +kernel
theorem xd_Mo_line_218 : decode xb_Mo_line 218 = .ok (.iconst 0, 1) := by decide +kernel
theorem xd_Mo_line_219 : decode xb_Mo_line 219 = .ok (.invokestatic 104, 3) := by decide +kernel
theorem xd_Mo_line_222 : decode xb_Mo_line 222 = .ok (.iconst 0, 1) := by decide +kernel
theorem xd_Mo_line_223 : decode xb_Mo_line 223 = .ok (.invokevirtual 108, 3) := by decide +kernel
theorem xd_Mo_line_226 : decode xb_Mo_line 226 = .ok (.ifCond .eq 12, 3) := by decide +kernel
theorem xd_Mo_line_229 : decode xb_Mo_line 229 = .ok (.aload_n 0, 1) := by decide +kernel
theorem xd_Mo_line_230 : decode xb_Mo_line 230 = .ok (.iconst 0, 1) := by decide +kernel
theorem xd_Mo_line_231 : decode xb_Mo_line 231 = .ok (.invokevirtual 126, 3) := by decide +kernel
theorem xd_Mo_line_234 : decode xb_Mo_line 234 = .ok (.istore_n 1, 1) := by decide +kernel
theorem xd_Mo_line_235 : decode xb_Mo_line 235 = .ok (.goto 41, 3) := by decide +kernel
theorem xd_Mo_line_238 : decode xb_Mo_line 238 = .ok (.aload_n 0, 1) := by decide +kernel
theorem xd_Mo_line_239 : decode xb_Mo_line 239 = .ok (.iconst 0, 1) := by decide +kernel
theorem xd_Mo_line_240 : decode xb_Mo_line 240 = .ok (.bipush 112, 2) := by decide +kernel
theorem xd_Mo_line_242 : decode xb_Mo_line 242 = .ok (.bipush 114, 2) := by decide +kernel
theorem xd_Mo_line_244 : decode xb_Mo_line 244 = .ok (.bipush 111, 2) := by decide +kernel
theorem xd_Mo_line_246 : decode xb_Mo_line 246 = .ok (.bipush 118, 2) := by decide +kernel
theorem xd_Mo_line_248 : decode xb_Mo_line 248 = .ok (.bipush 105, 2) := by decide +kernel
theorem xd_Mo_line_250 : decode xb_Mo_line 250 = .ok (.invokestatic 104, 3) := by decide +kernel
theorem xd_Mo_line_253 : decode xb_Mo_line 253 = .ok (.bipush 100, 2) := by decide +kernel
theorem xd_Mo_line_255 : decode xb_Mo_line 255 = .ok (.bipush 101, 2) := by decide +kernel
theorem xd_Mo_line_257 : decode xb_Mo_line 257 = .ok (.bipush 115, 2) := by decide +kernel
theorem xd_Mo_line_259 : decode xb_Mo_line 259 = .ok (.iconst 0, 1) := by decide +kernel
theorem xd_Mo_line_260 : decode xb_Mo_line 260 = .ok (.iconst 0, 1) := by decide +kernel
theorem xd_Mo_line_261 : decode xb_Mo_line 261 = .ok (.invokestatic 104, 3) := by decide +kernel
theorem xd_Mo_line_264 : decode xb_Mo_line 264 = .ok (.invokevirtual 108, 3) := by decide +kernel
theorem xd_Mo_line_267 : decode xb_Mo_line 267 = .ok (.ifCond .eq 9, 3) := by decide +kernel
theorem xd_Mo_line_270 : decode xb_Mo_line 270 = .ok (.aload_n 0, 1) := by decide +kernel
theorem xd_Mo_line_271 : decode xb_Mo_line 271 = .ok (.iconst 1, 1) := by decide +kernel
theorem xd_Mo_line_272 : decode xb_Mo_line 272 = .ok (.invokevirtual 126, 3) := by decide +kernel
theorem xd_Mo_line_275 : decode xb_Mo_line 275 = .ok (.istore_n 1, 1) := by decide +kernel
theorem xd_Mo_line_276 : decode xb_Mo_line 276 = .ok (.iload_n 1, 1) := by decide +kernel
theorem xd_Mo_line_277 : decode xb_Mo_line 277 = .ok (.ifCond .ge 19, 3) := by decide +kernel
theorem xd_Mo_line_280 : decode xb_Mo_line 280 = .ok (.aload_n 0, 1) := by decide +kernel
theorem xd_Mo_line_281 : decode xb_Mo_line 281 = .ok (.iload_n 1, 1) := by decide +kernel
theorem xd_Mo_line_282 : decode xb_Mo_line 282 = .ok (.bipush (-2), 2) := by decide +kernel
theorem xd_Mo_line_284 : decode xb_Mo_line 284 = .ok (.if_icmp .ne 7, 3) := by decide +kernel
theorem xd_Mo_line_287 : decode xb_Mo_line 287 = .ok (.iconst 2, 1) := by decide +kernel
theorem xd_Mo_line_288 : decode xb_Mo_line 288 = .ok (.goto 4, 3) := by decide +kernel
theorem xd_Mo_line_291 : decode xb_Mo_line 291 = .ok (.iconst 1, 1) := by decide +kernel
theorem xd_Mo_line_292 : decode xb_Mo_line 292 = .ok (.invokevirtual 129, 3) := by decide +kernel
theorem xd_Mo_line_295 : decode xb_Mo_line 295 = .ok (.ireturn, 1) := by decide +kernel
theorem xd_Mo_line_296 : decode xb_Mo_line 296 = .ok (.iload_n 1, 1) := by decide +kernel
theorem xd_Mo_line_297 : decode xb_Mo_line 297 = .ok (.ireturn, 1) := by decide +kernel
abbrev xb_Mo_lookUp : ByteArray := prog_12_method_21_code
def xy_Mo_lookUp : MethodName := ⟨"LayerDeskModel", "lookUp", "(II)I"⟩
abbrev xb_Mo_isOpen : ByteArray := prog_12_method_19_code
def xy_Mo_isOpen : MethodName := ⟨"LayerDeskModel", "isOpen", "(I)Z"⟩
theorem xd_Mo_isOpen_0 : decode xb_Mo_isOpen 0 = .ok (.iload_n 1, 1) := by decide +kernel
theorem xd_Mo_isOpen_1 : decode xb_Mo_isOpen 1 = .ok (.ifCond .lt 24, 3) := by decide +kernel
theorem xd_Mo_isOpen_4 : decode xb_Mo_isOpen 4 = .ok (.iload_n 1, 1) := by decide +kernel
theorem xd_Mo_isOpen_5 : decode xb_Mo_isOpen 5 = .ok (.aload_n 0, 1) := by decide +kernel
theorem xd_Mo_isOpen_6 : decode xb_Mo_isOpen 6 = .ok (.getfield 150, 3) := by decide +kernel
theorem xd_Mo_isOpen_9 : decode xb_Mo_isOpen 9 = .ok (.if_icmp .ge 16, 3) := by decide +kernel
theorem xd_Mo_isOpen_12 : decode xb_Mo_isOpen 12 = .ok (.aload_n 0, 1) := by decide +kernel
theorem xd_Mo_isOpen_13 : decode xb_Mo_isOpen 13 = .ok (.getfield 78, 3) := by decide +kernel
theorem xd_Mo_isOpen_16 : decode xb_Mo_isOpen 16 = .ok (.iload_n 1, 1) := by decide +kernel
theorem xd_Mo_isOpen_17 : decode xb_Mo_isOpen 17 = .ok (.baload, 1) := by decide +kernel
theorem xd_Mo_isOpen_18 : decode xb_Mo_isOpen 18 = .ok (.ifCond .eq 7, 3) := by decide +kernel
theorem xd_Mo_isOpen_21 : decode xb_Mo_isOpen 21 = .ok (.iconst 1, 1) := by decide +kernel
theorem xd_Mo_isOpen_22 : decode xb_Mo_isOpen 22 = .ok (.goto 4, 3) := by decide +kernel
theorem xd_Mo_isOpen_25 : decode xb_Mo_isOpen 25 = .ok (.iconst 0, 1) := by decide +kernel
theorem xd_Mo_isOpen_26 : decode xb_Mo_isOpen 26 = .ok (.ireturn, 1) := by decide +kernel
theorem xd_Mo_lookUp_0 : decode xb_Mo_lookUp 0 = .ok (.iload_n 1, 1) := by decide +kernel
theorem xd_Mo_lookUp_1 : decode xb_Mo_lookUp 1 = .ok (.istore_n 3, 1) := by decide +kernel
theorem xd_Mo_lookUp_2 : decode xb_Mo_lookUp 2 = .ok (.iload_n 3, 1) := by decide +kernel
theorem xd_Mo_lookUp_3 : decode xb_Mo_lookUp 3 = .ok (.ifCond .lt 70, 3) := by decide +kernel
theorem xd_Mo_lookUp_6 : decode xb_Mo_lookUp 6 = .ok (.bipush 12, 2) := by decide +kernel
theorem xd_Mo_lookUp_8 : decode xb_Mo_lookUp 8 = .ok (.iload_n 3, 1) := by decide +kernel
theorem xd_Mo_lookUp_9 : decode xb_Mo_lookUp 9 = .ok (.imul, 1) := by decide +kernel
theorem xd_Mo_lookUp_10 : decode xb_Mo_lookUp 10 = .ok (.istore 4, 2) := by decide +kernel
theorem xd_Mo_lookUp_12 : decode xb_Mo_lookUp 12 = .ok (.iload 4, 2) := by decide +kernel
theorem xd_Mo_lookUp_14 : decode xb_Mo_lookUp 14 = .ok (.bipush 12, 2) := by decide +kernel
theorem xd_Mo_lookUp_16 : decode xb_Mo_lookUp 16 = .ok (.iload_n 3, 1) := by decide +kernel
theorem xd_Mo_lookUp_17 : decode xb_Mo_lookUp 17 = .ok (.imul, 1) := by decide +kernel
theorem xd_Mo_lookUp_18 : decode xb_Mo_lookUp 18 = .ok (.aload_n 0, 1) := by decide +kernel
theorem xd_Mo_lookUp_19 : decode xb_Mo_lookUp 19 = .ok (.getfield 72, 3) := by decide +kernel
theorem xd_Mo_lookUp_22 : decode xb_Mo_lookUp 22 = .ok (.iload_n 3, 1) := by decide +kernel
theorem xd_Mo_lookUp_23 : decode xb_Mo_lookUp 23 = .ok (.iaload, 1) := by decide +kernel
theorem xd_Mo_lookUp_24 : decode xb_Mo_lookUp 24 = .ok (.iadd, 1) := by decide +kernel
theorem xd_Mo_lookUp_25 : decode xb_Mo_lookUp 25 = .ok (.if_icmp .ge 38, 3) := by decide +kernel
theorem xd_Mo_lookUp_28 : decode xb_Mo_lookUp 28 = .ok (.aload_n 0, 1) := by decide +kernel
theorem xd_Mo_lookUp_29 : decode xb_Mo_lookUp 29 = .ok (.getfield 23, 3) := by decide +kernel
theorem xd_Mo_lookUp_32 : decode xb_Mo_lookUp 32 = .ok (.aload_n 0, 1) := by decide +kernel
theorem xd_Mo_lookUp_33 : decode xb_Mo_lookUp 33 = .ok (.getfield 75, 3) := by decide +kernel
theorem xd_Mo_lookUp_36 : decode xb_Mo_lookUp 36 = .ok (.iload 4, 2) := by decide +kernel
theorem xd_Mo_lookUp_38 : decode xb_Mo_lookUp 38 = .ok (.iaload, 1) := by decide +kernel
theorem xd_Mo_lookUp_39 : decode xb_Mo_lookUp 39 = .ok (.iaload, 1) := by decide +kernel
theorem xd_Mo_lookUp_40 : decode xb_Mo_lookUp 40 = .ok (.iload_n 2, 1) := by decide +kernel
theorem xd_Mo_lookUp_41 : decode xb_Mo_lookUp 41 = .ok (.if_icmp .ne 16, 3) := by decide +kernel
theorem xd_Mo_lookUp_44 : decode xb_Mo_lookUp 44 = .ok (.bipush 12, 2) := by decide +kernel
theorem xd_Mo_lookUp_46 : decode xb_Mo_lookUp 46 = .ok (.iload_n 3, 1) := by decide +kernel
theorem xd_Mo_lookUp_47 : decode xb_Mo_lookUp 47 = .ok (.imul, 1) := by decide +kernel
theorem xd_Mo_lookUp_48 : decode xb_Mo_lookUp 48 = .ok (.aload_n 0, 1) := by decide +kernel
theorem xd_Mo_lookUp_49 : decode xb_Mo_lookUp 49 = .ok (.getfield 75, 3) := by decide +kernel
theorem xd_Mo_lookUp_52 : decode xb_Mo_lookUp 52 = .ok (.iload 4, 2) := by decide +kernel
theorem xd_Mo_lookUp_54 : decode xb_Mo_lookUp 54 = .ok (.iaload, 1) := by decide +kernel
theorem xd_Mo_lookUp_55 : decode xb_Mo_lookUp 55 = .ok (.iadd, 1) := by decide +kernel
theorem xd_Mo_lookUp_56 : decode xb_Mo_lookUp 56 = .ok (.ireturn, 1) := by decide +kernel
theorem xd_Mo_lookUp_57 : decode xb_Mo_lookUp 57 = .ok (.iinc 4 1, 3) := by decide +kernel
theorem xd_Mo_lookUp_60 : decode xb_Mo_lookUp 60 = .ok (.goto (-48), 3) := by decide +kernel
theorem xd_Mo_lookUp_63 : decode xb_Mo_lookUp 63 = .ok (.aload_n 0, 1) := by decide +kernel
theorem xd_Mo_lookUp_64 : decode xb_Mo_lookUp 64 = .ok (.getfield 69, 3) := by decide +kernel
theorem xd_Mo_lookUp_67 : decode xb_Mo_lookUp 67 = .ok (.iload_n 3, 1) := by decide +kernel
theorem xd_Mo_lookUp_68 : decode xb_Mo_lookUp 68 = .ok (.iaload, 1) := by decide +kernel
theorem xd_Mo_lookUp_69 : decode xb_Mo_lookUp 69 = .ok (.istore_n 3, 1) := by decide +kernel
theorem xd_Mo_lookUp_70 : decode xb_Mo_lookUp 70 = .ok (.goto (-68), 3) := by decide +kernel
theorem xd_Mo_lookUp_73 : decode xb_Mo_lookUp 73 = .ok (.iconst (-1), 1) := by decide +kernel
theorem xd_Mo_lookUp_74 : decode xb_Mo_lookUp 74 = .ok (.ireturn, 1) := by decide +kernel
theorem xt_0 : (Cond.fieldLink "LayerDeskModel" 72 "LayerDeskModel" "modules" "[I") ∈ wT := wT_t (List.mem_append_right _ (List.mem_append_right _ (List.mem_append_right _ (List.mem_append_left _ (List.mem_of_getElem? (i := 110) rfl))))) rfl
theorem xt_1 : (Cond.fieldLink "LayerDeskModel" 69 "LayerDeskModel" "parent" "[I") ∈ wT := wT_t (List.mem_append_right _ (List.mem_append_right _ (List.mem_append_right _ (List.mem_append_left _ (List.mem_of_getElem? (i := 109) rfl))))) rfl
theorem xt_2 : (Cond.fieldLink "LayerDeskModel" 23 "LayerDeskModel" "name" "[I") ∈ wT := wT_t (List.mem_append_right _ (List.mem_append_right _ (List.mem_append_right _ (List.mem_append_left _ (List.mem_of_getElem? (i := 93) rfl))))) rfl
theorem xt_3 : (Cond.fieldLink "LayerDeskModel" 75 "LayerDeskModel" "module" "[I") ∈ wT := wT_t (List.mem_append_right _ (List.mem_append_right _ (List.mem_append_right _ (List.mem_append_left _ (List.mem_of_getElem? (i := 111) rfl))))) rfl
theorem xt_4 : (Cond.fieldLink "LayerDeskModel" 150 "LayerDeskModel" "layers" "I") ∈ wT := wT_t (List.mem_append_right _ (List.mem_append_right _ (List.mem_append_right _ (List.mem_append_left _ (List.mem_of_getElem? (i := 107) rfl))))) rfl
theorem xt_5 : (Cond.fieldLink "LayerDeskModel" 78 "LayerDeskModel" "open" "[Z") ∈ wT := wT_t (List.mem_append_right _ (List.mem_append_right _ (List.mem_append_right _ (List.mem_append_left _ (List.mem_of_getElem? (i := 112) rfl))))) rfl
set_option maxHeartbeats 4000000 in
set_option maxRecDepth 100000 in
theorem xc_Mo_lookUp (l : Launch) (D : va_G) (kA : Nat → ClassId) (sz h : Nat) (mm : Nat → Nat) (v : Nat → Int32) (g : Nat → Nat → Int32) (lq : Nat) (nm : Int32) (np : Nat) (hnp : np ≤ 6) (hpar : ∀ la, la < np → ∃ lq, lq ≤ la ∧ g 19 la = nI lq - 1) (hlq : lq ≤ np) (hmd : ∀ la, la < 6 → ∃ k, k ≤ 12 ∧ g 20 la = nI k ∧ ∀ j, j < k → ∃ d, d < 12 ∧ g 21 (12 * la + j) = nI d) : Met l xy_Mo_lookUp (.code xy_Mo_lookUp xb_Mo_lookUp 5 (some .int) :: wT) { frames := 0, cells := 0, slots := 0, locals := 0 } (va_Pc [.ref h, .int (nI lq - 1), .int nm] (xPre D kA sz (moW h mm kA v g))) (va_Qi (fun (r : Int32) (u : Unit) => r = -1 ∨ ∃ la d, la < np ∧ d < 12 ∧ r = nI (12 * la + d)) (fun (u : Unit) t => va_P D xcl (moW h mm kA v g) t.heap ∧ va_D (va_A (moW h mm kA v g) sz) (moW h mm kA v g)) (va_A (moW h mm kA v g) sz)) 0 0 (va_A (moW h mm kA v g) sz) := by
  refine Met.ofW (cc := xb_Mo_lookUp) (maxL := 5) (ret := (some .int)) (by decide) rfl ?_
  intro p e s m args below meth c s₁ B hml hv
  obtain ⟨rfl, hsz, hP, hK, hD0⟩ := hv
  have hx := B.exec
  have hb := B.bytes
  have hr := B.returns
  have hT := x_hT B.pre
  have hown : s.vm.findClass xR_Mo = some m.cls := findClass_of_methodNamed B.named
  have hlocks := B.notSynchronized
  subst hsz
  have hD := hD0.self (sz := s.heap.size)
  generalize hAe : va_A (moW h mm kA v g) s.heap.size = A at hD ⊢
  have hA : ∀ q : Nat, s.heap.size ≤ q → A q := fun q h => by rw [← hAe]; exact Or.inr h
  have hS : va_S A s.heap s.heap [] := va_S.rf
  have hl := lv_entry ([.ref h, .int (nI lq - 1), .int nm]) (n := 5) (Nat.le_of_ble_eq_true rfl)
  rw [lg_entry_eq]
  generalize (lg_sl ([.ref h, .int (nI lq - 1), .int nm]) ++ List.replicate (5 - (lg_sl ([.ref h, .int (nI lq - 1), .int nm])).length) Slot.unset).toArray = ls at hl ⊢
  have hl : lv_has ls 5 [(0, .ref h), (1, .int (nI lq - 1)), (2, .int nm)] := hl
  have hP : va_P D xcl (moW h mm kA v g) s.heap := hP
  refine lv_iload_n hx hb xd_Mo_lookUp_0 rfl (lv_at hl 1 rfl) ?_
  refine lv_istore_n hx hb xd_Mo_lookUp_1 rfl hl (Nat.le_of_ble_eq_true rfl) rfl (fun ls hl => ?_)
  have hl : lv_has ls 5 [(3, .int (nI lq - 1)), (0, .ref h), (1, .int (nI lq - 1)), (2, .int nm)] := hl
  refine xlab (σ := Nat) (ml := 5) 2 (fun (lq1 : Nat) => [(3, .int (nI lq1 - 1)), (0, .ref h), (1, .int (nI lq - 1)), (2, .int nm)]) (fun (lq1 : Nat) => []) (fun (lq1 : Nat) => moW h mm kA v g) (fun (lq1 : Nat) => (lq1 ≤ np)) (fun (lq1 : Nat) => lq1) ?_ lq _ _ _ (lv_sub hl [0, 1, 2, 3] rfl) hP hD hS (show lq ≤ np from by first | assumption | omega)
  intro n9 ih1 a9 ls H locs hμ hl hP hD hS hI
  subst hμ
  obtain ⟨lq1, rfl⟩ : ∃ z, z = a9 := ⟨_, rfl⟩
  have hlq1 : lq1 ≤ np := hI
  have hl : lv_has ls 5 [(3, .int (nI lq1 - 1)), (0, .ref h), (1, .int (nI lq - 1)), (2, .int nm)] := hl
  have hP : va_P D xcl (moW h mm kA v g) H := hP
  have hD : va_D A (moW h mm kA v g) := hD
  rcases Nat.eq_zero_or_pos lq1 with hz5 | hz5
  · have e5 : nI lq1 - 1 = -1 := by rw [hz5]; decide
    rw [e5] at hl
    refine lv_iload_n hx hb xd_Mo_lookUp_2 rfl (lv_at hl 0 rfl) ?_
    refine lv_if_lt (tgt := 73) hx hb xd_Mo_lookUp_3 (by decide) (fun _ => ?_) (fun hc2 => absurd hc2 (by decide))
    refine lv_iconst (v := (-1)) hx hb xd_Mo_lookUp_73 (by decide) ?_
    exact W.iret (v := (-1)) hx hb hr (fun t ht hW => ⟨⟨(-1), (), rfl, Or.inl rfl, by rw [ht]; exact hP, hD⟩, hS.F ht⟩) hS.2.2 xd_Mo_lookUp_74
  · have e5 : nI lq1 - 1 = nI (lq1 - 1) := pk_sub (a := lq1) (b := 1) hz5
    rw [e5] at hl
    refine lv_iload_n hx hb xd_Mo_lookUp_2 rfl (lv_at hl 0 rfl) ?_
    refine xz_lt (a := lq1 - 1) (tgt := 73) hx hb xd_Mo_lookUp_3 (by decide) (by omega) ?_
    obtain ⟨mdk, hmdk, emdk, hent⟩ := hmd (lq1 - 1) (by omega)
    have hent2 : ∀ i, 12 * (lq1 - 1) ≤ i → i < 12 * (lq1 - 1) + mdk → ∃ d, d < 12 ∧ g 21 i = nI d := fun i h1 h2 => by
      have h3 := hent (i - 12 * (lq1 - 1)) (by omega)
      rwa [show 12 * (lq1 - 1) + (i - 12 * (lq1 - 1)) = i by omega] at h3
    refine lv_bipush (v := 12) hx hb xd_Mo_lookUp_6 (by decide) ?_
    refine lv_iload_n hx hb xd_Mo_lookUp_8 rfl (lv_at hl 0 rfl) ?_
    refine lv_imul hx hb xd_Mo_lookUp_9 ?_
    refine xn_top (y := nI (12 * (lq1 - 1))) (pk_mul 12 (lq1 - 1)) ?_
    refine lv_istore hx hb xd_Mo_lookUp_10 hl (Nat.le_of_ble_eq_true rfl) rfl (fun ls hl => ?_)
    have hl : lv_has ls 5 [(4, .int (nI (12 * (lq1 - 1)))), (3, .int (nI (lq1 - 1))), (0, .ref h), (1, .int (nI lq - 1)), (2, .int nm)] := hl
    refine xlab (σ := Nat) (ml := 5) 12 (fun (i : Nat) => [(4, .int (nI i)), (3, .int (nI (lq1 - 1))), (0, .ref h), (1, .int (nI lq - 1)), (2, .int nm)]) (fun (i : Nat) => []) (fun (i : Nat) => moW h mm kA v g) (fun (i : Nat) => (12 * (lq1 - 1) ≤ i) ∧ (i ≤ 12 * (lq1 - 1) + mdk)) (fun (i : Nat) => 12 * (lq1 - 1) + mdk - i) ?_ (12 * (lq1 - 1)) _ _ _ (lv_sub hl [0, 1, 2, 3, 4] rfl) hP hD hS ⟨(show 12 * (lq1 - 1) ≤ (12 * (lq1 - 1)) from by first | assumption | omega), (show (12 * (lq1 - 1)) ≤ 12 * (lq1 - 1) + mdk from by first | assumption | omega)⟩
    intro n9 ih4 a9 ls H locs hμ hl hP hD hS hI
    subst hμ
    obtain ⟨i, rfl⟩ : ∃ z, z = a9 := ⟨_, rfl⟩
    obtain ⟨hi1, hi2⟩ := hI
    have hi1 : 12 * (lq1 - 1) ≤ i := hi1
    have hi2 : i ≤ 12 * (lq1 - 1) + mdk := hi2
    have hl : lv_has ls 5 [(4, .int (nI i)), (3, .int (nI (lq1 - 1))), (0, .ref h), (1, .int (nI lq - 1)), (2, .int nm)] := hl
    have hP : va_P D xcl (moW h mm kA v g) H := hP
    have hD : va_D A (moW h mm kA v g) := hD
    refine lv_iload hx hb xd_Mo_lookUp_12 (lv_at hl 0 rfl) ?_
    refine lv_bipush (v := 12) hx hb xd_Mo_lookUp_14 (by decide) ?_
    refine lv_iload_n hx hb xd_Mo_lookUp_16 rfl (lv_at hl 1 rfl) ?_
    refine lv_imul hx hb xd_Mo_lookUp_17 ?_
    refine xn_top (y := nI (12 * (lq1 - 1))) (pk_mul 12 (lq1 - 1)) ?_
    refine lv_aload_n hx hb xd_Mo_lookUp_18 rfl (lv_at hl 2 rfl) ?_
    refine va_get (D := D) (ci := 4) (v := .ref (mm 20)) (C := xR_Mo) (T := xT_Mo) (N := 31) hx hb hT xi_Mo hown hK.1 hP 0 rfl rfl 26 (by decide) (hT _ xt_0) (fun _ h9 => h9) rfl xd_Mo_lookUp_19 ?_
    refine lv_iload_n hx hb xd_Mo_lookUp_22 rfl (lv_at hl 1 rfl) ?_
    refine xn_iald (i := lq1 - 1) hx hb hK.1 hP 21 0 rfl rfl (by omega) (by decide) xd_Mo_lookUp_23 ?_
    refine xn_top (x := (g 20 (lq1 - 1))) (y := nI mdk) emdk ?_
    refine lv_iadd hx hb xd_Mo_lookUp_24 ?_
    refine xn_top (y := nI ((12 * (lq1 - 1)) + mdk)) (nI_add (12 * (lq1 - 1)) mdk) ?_
    refine xn_ge (a := i) (b := (12 * (lq1 - 1)) + mdk) (tgt := 63) hx hb xd_Mo_lookUp_25 (by decide) (by omega) (by omega) (fun hc5 => ?_) (fun hc5 => ?_)
    · refine lv_aload_n hx hb xd_Mo_lookUp_63 rfl (lv_at hl 2 rfl) ?_
      refine va_get (D := D) (ci := 4) (v := .ref (mm 19)) (C := xR_Mo) (T := xT_Mo) (N := 31) hx hb hT xi_Mo hown hK.1 hP 0 rfl rfl 25 (by decide) (hT _ xt_1) (fun _ h9 => h9) rfl xd_Mo_lookUp_64 ?_
      refine lv_iload_n hx hb xd_Mo_lookUp_67 rfl (lv_at hl 1 rfl) ?_
      refine xn_iald (i := lq1 - 1) hx hb hK.1 hP 20 0 rfl rfl (by omega) (by decide) xd_Mo_lookUp_68 ?_
      obtain ⟨q6, hq7, eq8⟩ := hpar (lq1 - 1) (by omega)
      refine xn_top (x := (g 19 (lq1 - 1))) eq8 ?_
      refine lv_istore_n hx hb xd_Mo_lookUp_69 rfl hl (Nat.le_of_ble_eq_true rfl) rfl (fun ls hl => ?_)
      have hl : lv_has ls 5 [(3, .int (nI q6 - 1)), (4, .int (nI i)), (0, .ref h), (1, .int (nI lq - 1)), (2, .int nm)] := hl
      refine lv_goto (tgt := 2) hx hb xd_Mo_lookUp_70 (by decide) ?_
      exact ih1 q6 _ _ _ (show q6 < lq1 by omega) (lv_sub hl [0, 2, 3, 4] rfl) hP hD hS (show q6 ≤ np from by first | assumption | omega)
    · refine lv_aload_n hx hb xd_Mo_lookUp_28 rfl (lv_at hl 2 rfl) ?_
      refine va_get (D := D) (ci := 4) (v := .ref (mm 4)) (C := xR_Mo) (T := xT_Mo) (N := 31) hx hb hT xi_Mo hown hK.1 hP 0 rfl rfl 9 (by decide) (hT _ xt_2) (fun _ h9 => h9) rfl xd_Mo_lookUp_29 ?_
      refine lv_aload_n hx hb xd_Mo_lookUp_32 rfl (lv_at hl 2 rfl) ?_
      refine va_get (D := D) (ci := 4) (v := .ref (mm 21)) (C := xR_Mo) (T := xT_Mo) (N := 31) hx hb hT xi_Mo hown hK.1 hP 0 rfl rfl 27 (by decide) (hT _ xt_3) (fun _ h9 => h9) rfl xd_Mo_lookUp_33 ?_
      refine lv_iload hx hb xd_Mo_lookUp_36 (lv_at hl 0 rfl) ?_
      refine xn_iald (i := i) hx hb hK.1 hP 22 0 rfl rfl (by omega) (by decide) xd_Mo_lookUp_38 ?_
      obtain ⟨k9, hk10, ek11⟩ := hent2 i (by omega) (by omega)
      refine xn_top (x := (g 21 i)) ek11 ?_
      refine xn_iald (i := k9) hx hb hK.1 hP 5 0 rfl rfl (by omega) (by decide) xd_Mo_lookUp_39 ?_
      refine lv_iload_n hx hb xd_Mo_lookUp_40 rfl (lv_at hl 4 rfl) ?_
      refine lv_icmp_ne (tgt := 57) hx hb xd_Mo_lookUp_41 (by decide) (fun hc12 => ?_) (fun hc12 => ?_)
      · refine lv_iinc (k := 0) (x := (nI i)) (v := (nI (i + 1))) hx hb xd_Mo_lookUp_57 hl rfl (xb_inc i 1) (Nat.le_of_ble_eq_true rfl) rfl (fun ls hl => ?_)
        have hl : lv_has ls 5 [(4, .int (nI (i + 1))), (3, .int (nI (lq1 - 1))), (0, .ref h), (1, .int (nI lq - 1)), (2, .int nm)] := hl
        refine lv_goto (tgt := 12) hx hb xd_Mo_lookUp_60 (by decide) ?_
        exact ih4 (i + 1) _ _ _ (show 12 * (lq1 - 1) + mdk - (i + 1) < 12 * (lq1 - 1) + mdk - i by omega) (lv_sub hl [0, 1, 2, 3, 4] rfl) hP hD hS ⟨(show 12 * (lq1 - 1) ≤ (i + 1) from by first | assumption | omega), (show (i + 1) ≤ 12 * (lq1 - 1) + mdk from by first | assumption | omega)⟩
      · refine lv_bipush (v := 12) hx hb xd_Mo_lookUp_44 (by decide) ?_
        refine lv_iload_n hx hb xd_Mo_lookUp_46 rfl (lv_at hl 1 rfl) ?_
        refine lv_imul hx hb xd_Mo_lookUp_47 ?_
        refine xn_top (y := nI (12 * (lq1 - 1))) (pk_mul 12 (lq1 - 1)) ?_
        refine lv_aload_n hx hb xd_Mo_lookUp_48 rfl (lv_at hl 2 rfl) ?_
        refine va_get (D := D) (ci := 4) (v := .ref (mm 21)) (C := xR_Mo) (T := xT_Mo) (N := 31) hx hb hT xi_Mo hown hK.1 hP 0 rfl rfl 27 (by decide) (hT _ xt_3) (fun _ h9 => h9) rfl xd_Mo_lookUp_49 ?_
        refine lv_iload hx hb xd_Mo_lookUp_52 (lv_at hl 0 rfl) ?_
        refine xn_iald (i := i) hx hb hK.1 hP 22 0 rfl rfl (by omega) (by decide) xd_Mo_lookUp_54 ?_
        obtain ⟨k13, hk14, ek15⟩ := hent2 i (by omega) (by omega)
        refine xn_top (x := (g 21 i)) ek15 ?_
        refine lv_iadd hx hb xd_Mo_lookUp_55 ?_
        refine xn_top (y := nI ((12 * (lq1 - 1)) + k13)) (nI_add (12 * (lq1 - 1)) k13) ?_
        exact W.iret (v := (nI ((12 * (lq1 - 1)) + k13))) hx hb hr (fun t ht hW => ⟨⟨(nI ((12 * (lq1 - 1)) + k13)), (), rfl, Or.inr ⟨lq1 - 1, k13, by omega, by omega, rfl⟩, by rw [ht]; exact hP, hD⟩, hS.F ht⟩) hS.2.2 xd_Mo_lookUp_56
set_option maxHeartbeats 4000000 in
set_option maxRecDepth 100000 in
theorem xc_Mo_isOpen (l : Launch) (D : va_G) (kA : Nat → ClassId) (sz h : Nat) (mm : Nat → Nat) (v : Nat → Int32) (g : Nat → Nat → Int32) (ly : Int32) (nl : Nat) (hnl : v 5 = nI nl) (hnl5 : nl ≤ 5) : Met l xy_Mo_isOpen (.code xy_Mo_isOpen xb_Mo_isOpen 2 (some .boolean) :: wT) { frames := 0, cells := 0, slots := 0, locals := 0 } (va_Pc [.ref h, .int ly] (xPre D kA sz (moW h mm kA v g))) (va_Qi (fun (r : Int32) (u : Unit) => r = 0 ∨ (r = 1 ∧ ∃ la, la < nl ∧ ly = nI la)) (fun (u : Unit) t => va_P D xcl (moW h mm kA v g) t.heap ∧ va_D (va_A (moW h mm kA v g) sz) (moW h mm kA v g)) (va_A (moW h mm kA v g) sz)) 0 0 (va_A (moW h mm kA v g) sz) := by
  refine Met.ofW (cc := xb_Mo_isOpen) (maxL := 2) (ret := (some .boolean)) (by decide) rfl ?_
  intro p e s m args below meth c s₁ B hml hv
  obtain ⟨rfl, hsz, hP, hK, hD0⟩ := hv
  have hx := B.exec
  have hb := B.bytes
  have hr := B.returns
  have hT := x_hT B.pre
  have hown : s.vm.findClass xR_Mo = some m.cls := findClass_of_methodNamed B.named
  have hlocks := B.notSynchronized
  subst hsz
  have hD := hD0.self (sz := s.heap.size)
  generalize hAe : va_A (moW h mm kA v g) s.heap.size = A at hD ⊢
  have hA : ∀ q : Nat, s.heap.size ≤ q → A q := fun q h => by rw [← hAe]; exact Or.inr h
  have hS : va_S A s.heap s.heap [] := va_S.rf
  have hl := lv_entry ([.ref h, .int ly]) (n := 2) (Nat.le_of_ble_eq_true rfl)
  rw [lg_entry_eq]
  generalize (lg_sl ([.ref h, .int ly]) ++ List.replicate (2 - (lg_sl ([.ref h, .int ly])).length) Slot.unset).toArray = ls at hl ⊢
  have hl : lv_has ls 2 [(0, .ref h), (1, .int ly)] := hl
  have hP : va_P D xcl (moW h mm kA v g) s.heap := hP
  refine lv_iload_n hx hb xd_Mo_isOpen_0 rfl (lv_at hl 1 rfl) ?_
  refine lv_if_lt (tgt := 25) hx hb xd_Mo_isOpen_1 (by decide) (fun hc1 => ?_) (fun hc1 => ?_)
  · refine lv_iconst (v := 0) hx hb xd_Mo_isOpen_25 (by decide) ?_
    exact W.zret (v := 0) hx hb hr rfl (fun t ht hW => ⟨⟨0, (), rfl, Or.inl rfl, by rw [ht]; exact hP, hD⟩, hS.F ht⟩) hS.2.2 xd_Mo_isOpen_26
  · obtain ⟨la, hla31, hly⟩ := nI_of hc1
    rw [xb_31] at hla31
    rw [hly] at hl
    refine lv_iload_n hx hb xd_Mo_isOpen_4 rfl (lv_at hl 1 rfl) ?_
    refine lv_aload_n hx hb xd_Mo_isOpen_5 rfl (lv_at hl 0 rfl) ?_
    refine va_get (D := D) (ci := 4) (v := .int (v 5)) (C := xR_Mo) (T := xT_Mo) (N := 31) hx hb hT xi_Mo hown hK.1 hP 0 rfl rfl 23 (by decide) (hT _ xt_4) (fun _ h9 => h9) rfl xd_Mo_isOpen_6 ?_
    refine xn_top (x := (v 5)) (y := nI nl) hnl ?_
    refine xn_ge (a := la) (b := nl) (tgt := 25) hx hb xd_Mo_isOpen_9 (by decide) (by omega) (by omega) (fun hc2 => ?_) (fun hc2 => ?_)
    · refine lv_iconst (v := 0) hx hb xd_Mo_isOpen_25 (by decide) ?_
      exact W.zret (v := 0) hx hb hr rfl (fun t ht hW => ⟨⟨0, (), rfl, Or.inl rfl, by rw [ht]; exact hP, hD⟩, hS.F ht⟩) hS.2.2 xd_Mo_isOpen_26
    · refine lv_aload_n hx hb xd_Mo_isOpen_12 rfl (lv_at hl 0 rfl) ?_
      refine va_get (D := D) (ci := 4) (v := .ref (mm 22)) (C := xR_Mo) (T := xT_Mo) (N := 31) hx hb hT xi_Mo hown hK.1 hP 0 rfl rfl 28 (by decide) (hT _ xt_5) (fun _ h9 => h9) rfl xd_Mo_isOpen_13 ?_
      refine lv_iload_n hx hb xd_Mo_isOpen_16 rfl (lv_at hl 1 rfl) ?_
      refine xn_zald (i := la) hx hb hK.1 hP 23 2 rfl rfl (by omega) (by decide) xd_Mo_isOpen_17 ?_
      refine lv_if_eq (tgt := 25) hx hb xd_Mo_isOpen_18 (by decide) (fun hc3 => ?_) (fun hc3 => ?_)
      · refine lv_iconst (v := 0) hx hb xd_Mo_isOpen_25 (by decide) ?_
        exact W.zret (v := 0) hx hb hr rfl (fun t ht hW => ⟨⟨0, (), rfl, Or.inl rfl, by rw [ht]; exact hP, hD⟩, hS.F ht⟩) hS.2.2 xd_Mo_isOpen_26
      · refine lv_iconst (v := 1) hx hb xd_Mo_isOpen_21 (by decide) ?_
        refine lv_goto (tgt := 26) hx hb xd_Mo_isOpen_22 (by decide) ?_
        exact W.zret (v := 1) hx hb hr rfl (fun t ht hW => ⟨⟨1, (), rfl, Or.inr ⟨rfl, la, by omega, hly⟩, by rw [ht]; exact hP, hD⟩, hS.F ht⟩) hS.2.2 xd_Mo_isOpen_26
theorem x_pigeon : ∀ (n k : Nat) (f : Nat → Nat), (∀ i, i < k → f i < n) → (∀ i j, i < k → j < k → f i = f j → i = j) → k ≤ n := by
  intro n
  induction n with
  | zero =>
    intro k f h _
    rcases Nat.eq_zero_or_pos k with e | e
    · omega
    · exact absurd (h 0 e) (by omega)
  | succ n ih =>
    intro k f h hi
    by_cases hx : ∃ i, i < k ∧ f i = n
    · obtain ⟨i0, hi0, e0⟩ := hx
      have h1 : k - 1 ≤ n := by
        refine ih (k - 1) (fun j => if j = i0 then f (k - 1) else f j) (fun j hj => ?_) (fun a b ha hb e => ?_)
        · show (if j = i0 then f (k - 1) else f j) < n
          by_cases ej : j = i0
          · rw [if_pos ej]
            have h2 := h (k - 1) (by omega)
            rcases Nat.lt_or_ge (f (k - 1)) n with h3 | h3
            · exact h3
            · have h4 : f (k - 1) = f i0 := by omega
              have h5 := hi (k - 1) i0 (by omega) hi0 h4
              omega
          · rw [if_neg ej]
            have h2 := h j (by omega)
            rcases Nat.lt_or_ge (f j) n with h3 | h3
            · exact h3
            · have h4 : f j = f i0 := by omega
              exact absurd (hi j i0 (by omega) hi0 h4) ej
        · have e : (if a = i0 then f (k - 1) else f a) = (if b = i0 then f (k - 1) else f b) := e
          by_cases ea : a = i0
          · by_cases eb : b = i0
            · omega
            · rw [if_pos ea, if_neg eb] at e
              have h5 := hi (k - 1) b (by omega) (by omega) e
              omega
          · by_cases eb : b = i0
            · rw [if_neg ea, if_pos eb] at e
              have h5 := hi a (k - 1) (by omega) (by omega) e
              omega
            · rw [if_neg ea, if_neg eb] at e
              exact hi a b (by omega) (by omega) e
      omega
    · have h1 : k ≤ n := ih k f (fun i hk => by
        have h2 := h i hk
        rcases Nat.lt_or_ge (f i) n with h3 | h3
        · exact h3
        · exact absurd ⟨i, hk, by omega⟩ hx) hi
      omega
theorem xb_predlt {k m9 : Nat} (h : k ≤ m9) (hm : m9 < 1000000) : nI k - 1 < nI m9 := by
  rcases Nat.eq_zero_or_pos k with e | e
  · subst e
    have h1 : nI 0 - 1 = (-1 : Int32) := by decide
    rw [h1, Int32.lt_iff_toInt_lt, nI_toInt (by rw [xb_31]; omega)]
    have h2 : ((-1 : Int32)).toInt = -1 := by decide
    omega
  · rw [show nI k - 1 = nI (k - 1) from pk_sub (a := k) (b := 1) e]
    exact (nI_ltI (by rw [xb_31]; omega) (by rw [xb_31]; omega)).mpr (by omega)
theorem MI_add {v : Nat → Int32} {g : Nat → Nat → Int32} {nl k d : Nat} (hnl : nl < 6) (hk : g 20 nl = nI k) (hk12 : k < 12) (hd : d < 12) (h : MI v g) : MI v (va_up (va_up g 20 (upd (g 20) nl (nI (k + 1)))) 21 (upd (g 21) (12 * nl + k) (nI d))) := by
  obtain ⟨h1, h2, h3, h4, h5, h6, h7⟩ := h
  refine ⟨h1, h2, h3, h4, h5, fun la hla => ?_, h7⟩
  show ∃ k9, k9 ≤ 12 ∧ upd (g 20) nl (nI (k + 1)) la = nI k9 ∧ ∀ j, j < k9 → ∃ d9, d9 < 12 ∧ upd (g 21) (12 * nl + k) (nI d) (12 * la + j) = nI d9
  obtain ⟨k9, g1, g2, g3⟩ := h6 la hla
  by_cases e : la = nl
  · subst e
    have ek : k9 = k := by
      rw [hk] at g2
      exact ((nI_eq (by rw [xb_31]; omega) (by rw [xb_31]; omega)).mp g2).symm
    subst ek
    refine ⟨k9 + 1, by omega, pk_us, fun j hj => ?_⟩
    by_cases ej : j = k9
    · rw [ej]; exact ⟨d, hd, pk_us⟩
    · rw [pk_un (by omega)]; exact g3 j (by omega)
  · refine ⟨k9, g1, by rw [pk_un e]; exact g2, fun j hj => ?_⟩
    rw [pk_un (by omega)]; exact g3 j hj
abbrev xb_Mo_adds : ByteArray := prog_12_method_22_code
def xy_Mo_adds : MethodName := ⟨"LayerDeskModel", "adds", "(I)Z"⟩
theorem xd_Mo_adds_0 : decode xb_Mo_adds 0 = .ok (.aload_n 0, 1) := by decide +kernel
theorem xd_Mo_adds_1 : decode xb_Mo_adds 1 = .ok (.getfield 150, 3) := by decide +kernel
theorem xd_Mo_adds_4 : decode xb_Mo_adds 4 = .ok (.istore_n 2, 1) := by decide +kernel
theorem xd_Mo_adds_5 : decode xb_Mo_adds 5 = .ok (.iconst 1, 1) := by decide +kernel
theorem xd_Mo_adds_6 : decode xb_Mo_adds 6 = .ok (.istore_n 3, 1) := by decide +kernel
theorem xd_Mo_adds_7 : decode xb_Mo_adds 7 = .ok (.aload_n 0, 1) := by decide +kernel
theorem xd_Mo_adds_8 : decode xb_Mo_adds 8 = .ok (.getfield 81, 3) := by decide +kernel
theorem xd_Mo_adds_11 : decode xb_Mo_adds 11 = .ok (.iconst 0, 1) := by decide +kernel
theorem xd_Mo_adds_12 : decode xb_Mo_adds 12 = .ok (.iload_n 1, 1) := by decide +kernel
theorem xd_Mo_adds_13 : decode xb_Mo_adds 13 = .ok (.iastore, 1) := by decide +kernel
theorem xd_Mo_adds_14 : decode xb_Mo_adds 14 = .ok (.iload_n 3, 1) := by decide +kernel
theorem xd_Mo_adds_15 : decode xb_Mo_adds 15 = .ok (.ifCond .le 148, 3) := by decide +kernel
theorem xd_Mo_adds_18 : decode xb_Mo_adds 18 = .ok (.iinc 3 (-1), 3) := by decide +kernel
theorem xd_Mo_adds_21 : decode xb_Mo_adds 21 = .ok (.aload_n 0, 1) := by decide +kernel
theorem xd_Mo_adds_22 : decode xb_Mo_adds 22 = .ok (.aload_n 0, 1) := by decide +kernel
theorem xd_Mo_adds_23 : decode xb_Mo_adds 23 = .ok (.getfield 66, 3) := by decide +kernel
theorem xd_Mo_adds_26 : decode xb_Mo_adds 26 = .ok (.iload_n 2, 1) := by decide +kernel
theorem xd_Mo_adds_27 : decode xb_Mo_adds 27 = .ok (.iaload, 1) := by decide +kernel
theorem xd_Mo_adds_28 : decode xb_Mo_adds 28 = .ok (.aload_n 0, 1) := by decide +kernel
theorem xd_Mo_adds_29 : decode xb_Mo_adds 29 = .ok (.getfield 81, 3) := by decide +kernel
theorem xd_Mo_adds_32 : decode xb_Mo_adds 32 = .ok (.iload_n 3, 1) := by decide +kernel
theorem xd_Mo_adds_33 : decode xb_Mo_adds 33 = .ok (.iaload, 1) := by decide +kernel
theorem xd_Mo_adds_34 : decode xb_Mo_adds 34 = .ok (.invokevirtual 136, 3) := by decide +kernel
theorem xd_Mo_adds_37 : decode xb_Mo_adds 37 = .ok (.istore 4, 2) := by decide +kernel
theorem xd_Mo_adds_39 : decode xb_Mo_adds 39 = .ok (.iload 4, 2) := by decide +kernel
theorem xd_Mo_adds_41 : decode xb_Mo_adds 41 = .ok (.ifCond .ge 24, 3) := by decide +kernel
theorem xd_Mo_adds_44 : decode xb_Mo_adds 44 = .ok (.aload_n 0, 1) := by decide +kernel
theorem xd_Mo_adds_45 : decode xb_Mo_adds 45 = .ok (.aload_n 0, 1) := by decide +kernel
theorem xd_Mo_adds_46 : decode xb_Mo_adds 46 = .ok (.getfield 69, 3) := by decide +kernel
theorem xd_Mo_adds_49 : decode xb_Mo_adds 49 = .ok (.iload_n 2, 1) := by decide +kernel
theorem xd_Mo_adds_50 : decode xb_Mo_adds 50 = .ok (.iaload, 1) := by decide +kernel
theorem xd_Mo_adds_51 : decode xb_Mo_adds 51 = .ok (.aload_n 0, 1) := by decide +kernel
theorem xd_Mo_adds_52 : decode xb_Mo_adds 52 = .ok (.getfield 81, 3) := by decide +kernel
theorem xd_Mo_adds_55 : decode xb_Mo_adds 55 = .ok (.iload_n 3, 1) := by decide +kernel
theorem xd_Mo_adds_56 : decode xb_Mo_adds 56 = .ok (.iaload, 1) := by decide +kernel
theorem xd_Mo_adds_57 : decode xb_Mo_adds 57 = .ok (.invokevirtual 153, 3) := by decide +kernel
theorem xd_Mo_adds_60 : decode xb_Mo_adds 60 = .ok (.ifCond .ge 100, 3) := by decide +kernel
theorem xd_Mo_adds_63 : decode xb_Mo_adds 63 = .ok (.iconst 0, 1) := by decide +kernel
theorem xd_Mo_adds_64 : decode xb_Mo_adds 64 = .ok (.ireturn, 1) := by decide +kernel
theorem xd_Mo_adds_65 : decode xb_Mo_adds 65 = .ok (.aload_n 0, 1) := by decide +kernel
theorem xd_Mo_adds_66 : decode xb_Mo_adds 66 = .ok (.iload_n 2, 1) := by decide +kernel
theorem xd_Mo_adds_67 : decode xb_Mo_adds 67 = .ok (.iload 4, 2) := by decide +kernel
theorem xd_Mo_adds_69 : decode xb_Mo_adds 69 = .ok (.invokevirtual 156, 3) := by decide +kernel
theorem xd_Mo_adds_72 : decode xb_Mo_adds 72 = .ok (.ifCond .ne 88, 3) := by decide +kernel
theorem xd_Mo_adds_75 : decode xb_Mo_adds 75 = .ok (.aload_n 0, 1) := by decide +kernel
theorem xd_Mo_adds_76 : decode xb_Mo_adds 76 = .ok (.getfield 75, 3) := by decide +kernel
theorem xd_Mo_adds_79 : decode xb_Mo_adds 79 = .ok (.bipush 12, 2) := by decide +kernel
theorem xd_Mo_adds_81 : decode xb_Mo_adds 81 = .ok (.iload_n 2, 1) := by decide +kernel
theorem xd_Mo_adds_82 : decode xb_Mo_adds 82 = .ok (.imul, 1) := by decide +kernel
theorem xd_Mo_adds_83 : decode xb_Mo_adds 83 = .ok (.aload_n 0, 1) := by decide +kernel
theorem xd_Mo_adds_84 : decode xb_Mo_adds 84 = .ok (.getfield 72, 3) := by decide +kernel
theorem xd_Mo_adds_87 : decode xb_Mo_adds 87 = .ok (.iload_n 2, 1) := by decide +kernel
theorem xd_Mo_adds_88 : decode xb_Mo_adds 88 = .ok (.iaload, 1) := by decide +kernel
theorem xd_Mo_adds_89 : decode xb_Mo_adds 89 = .ok (.iadd, 1) := by decide +kernel
theorem xd_Mo_adds_90 : decode xb_Mo_adds 90 = .ok (.iload 4, 2) := by decide +kernel
theorem xd_Mo_adds_92 : decode xb_Mo_adds 92 = .ok (.iastore, 1) := by decide +kernel
theorem xd_Mo_adds_93 : decode xb_Mo_adds 93 = .ok (.aload_n 0, 1) := by decide +kernel
theorem xd_Mo_adds_94 : decode xb_Mo_adds 94 = .ok (.getfield 72, 3) := by decide +kernel
theorem xd_Mo_adds_97 : decode xb_Mo_adds 97 = .ok (.iload_n 2, 1) := by decide +kernel
theorem xd_Mo_adds_98 : decode xb_Mo_adds 98 = .ok (.dup2, 1) := by decide +kernel
theorem xd_Mo_adds_99 : decode xb_Mo_adds 99 = .ok (.iaload, 1) := by decide +kernel
theorem xd_Mo_adds_100 : decode xb_Mo_adds 100 = .ok (.iconst 1, 1) := by decide +kernel
theorem xd_Mo_adds_101 : decode xb_Mo_adds 101 = .ok (.iadd, 1) := by decide +kernel
theorem xd_Mo_adds_102 : decode xb_Mo_adds 102 = .ok (.iastore, 1) := by decide +kernel
theorem xd_Mo_adds_103 : decode xb_Mo_adds 103 = .ok (.iconst 5, 1) := by decide +kernel
theorem xd_Mo_adds_104 : decode xb_Mo_adds 104 = .ok (.iload 4, 2) := by decide +kernel
theorem xd_Mo_adds_106 : decode xb_Mo_adds 106 = .ok (.imul, 1) := by decide +kernel
theorem xd_Mo_adds_107 : decode xb_Mo_adds 107 = .ok (.aload_n 0, 1) := by decide +kernel
theorem xd_Mo_adds_108 : decode xb_Mo_adds 108 = .ok (.getfield 48, 3) := by decide +kernel
theorem xd_Mo_adds_111 : decode xb_Mo_adds 111 = .ok (.iload 4, 2) := by decide +kernel
theorem xd_Mo_adds_113 : decode xb_Mo_adds 113 = .ok (.iaload, 1) := by decide +kernel
theorem xd_Mo_adds_114 : decode xb_Mo_adds 114 = .ok (.iadd, 1) := by decide +kernel
theorem xd_Mo_adds_115 : decode xb_Mo_adds 115 = .ok (.iconst 1, 1) := by decide +kernel
theorem xd_Mo_adds_116 : decode xb_Mo_adds 116 = .ok (.isub, 1) := by decide +kernel
theorem xd_Mo_adds_117 : decode xb_Mo_adds 117 = .ok (.istore 5, 2) := by decide +kernel
theorem xd_Mo_adds_119 : decode xb_Mo_adds 119 = .ok (.iload 5, 2) := by decide +kernel
theorem xd_Mo_adds_121 : decode xb_Mo_adds 121 = .ok (.iconst 5, 1) := by decide +kernel
theorem xd_Mo_adds_122 : decode xb_Mo_adds 122 = .ok (.iload 4, 2) := by decide +kernel
theorem xd_Mo_adds_124 : decode xb_Mo_adds 124 = .ok (.imul, 1) := by decide +kernel
theorem xd_Mo_adds_125 : decode xb_Mo_adds 125 = .ok (.if_icmp .lt 35, 3) := by decide +kernel
theorem xd_Mo_adds_128 : decode xb_Mo_adds 128 = .ok (.aload_n 0, 1) := by decide +kernel
theorem xd_Mo_adds_129 : decode xb_Mo_adds 129 = .ok (.getfield 63, 3) := by decide +kernel
theorem xd_Mo_adds_132 : decode xb_Mo_adds 132 = .ok (.iload 5, 2) := by decide +kernel
theorem xd_Mo_adds_134 : decode xb_Mo_adds 134 = .ok (.baload, 1) := by decide +kernel
theorem xd_Mo_adds_135 : decode xb_Mo_adds 135 = .ok (.ifCond .ne 19, 3) := by decide +kernel
theorem xd_Mo_adds_138 : decode xb_Mo_adds 138 = .ok (.aload_n 0, 1) := by decide +kernel
theorem xd_Mo_adds_139 : decode xb_Mo_adds 139 = .ok (.getfield 81, 3) := by decide +kernel
theorem xd_Mo_adds_142 : decode xb_Mo_adds 142 = .ok (.iload_n 3, 1) := by decide +kernel
theorem xd_Mo_adds_143 : decode xb_Mo_adds 143 = .ok (.aload_n 0, 1) := by decide +kernel
theorem xd_Mo_adds_144 : decode xb_Mo_adds 144 = .ok (.getfield 51, 3) := by decide +kernel
theorem xd_Mo_adds_147 : decode xb_Mo_adds 147 = .ok (.iload 5, 2) := by decide +kernel
theorem xd_Mo_adds_149 : decode xb_Mo_adds 149 = .ok (.iaload, 1) := by decide +kernel
theorem xd_Mo_adds_150 : decode xb_Mo_adds 150 = .ok (.iastore, 1) := by decide +kernel
theorem xd_Mo_adds_151 : decode xb_Mo_adds 151 = .ok (.iinc 3 1, 3) := by decide +kernel
theorem xd_Mo_adds_154 : decode xb_Mo_adds 154 = .ok (.iinc 5 (-1), 3) := by decide +kernel
theorem xd_Mo_adds_157 : decode xb_Mo_adds 157 = .ok (.goto (-38), 3) := by decide +kernel
theorem xd_Mo_adds_160 : decode xb_Mo_adds 160 = .ok (.goto (-146), 3) := by decide +kernel
theorem xd_Mo_adds_163 : decode xb_Mo_adds 163 = .ok (.iconst 1, 1) := by decide +kernel
theorem xd_Mo_adds_164 : decode xb_Mo_adds 164 = .ok (.ireturn, 1) := by decide +kernel
theorem MI_cut {v : Nat → Int32} {g : Nat → Nat → Int32} {nl k k2 : Nat} (hk : g 20 nl = nI k) (hk12 : k ≤ 12) (h2 : k2 ≤ k) (h : MI v g) : MI v (va_up g 20 (upd (g 20) nl (nI k2))) := by
  obtain ⟨h1, h3, h4, h5, h6, h7, h8⟩ := h
  refine ⟨h1, h3, h4, h5, h6, fun la hla => ?_, h8⟩
  show ∃ k9, k9 ≤ 12 ∧ upd (g 20) nl (nI k2) la = nI k9 ∧ ∀ j, j < k9 → ∃ d9, d9 < 12 ∧ g 21 (12 * la + j) = nI d9
  obtain ⟨k9, g1, g2, g3⟩ := h7 la hla
  by_cases e : la = nl
  · subst e
    have ek : k9 = k := by
      rw [hk] at g2
      exact ((nI_eq (by rw [xb_31]; omega) (by rw [xb_31]; omega)).mp g2).symm
    subst ek
    exact ⟨k2, by omega, pk_us, fun j hj => g3 j (by omega)⟩
  · exact ⟨k9, g1, by rw [pk_un e]; exact g2, g3⟩
abbrev xb_Mo_bindsFor : ByteArray := prog_12_method_23_code
def xy_Mo_bindsFor : MethodName := ⟨"LayerDeskModel", "bindsFor", "(I)Z"⟩
theorem xd_Mo_bindsFor_0 : decode xb_Mo_bindsFor 0 = .ok (.aload_n 0, 1) := by decide +kernel
theorem xd_Mo_bindsFor_1 : decode xb_Mo_bindsFor 1 = .ok (.getfield 150, 3) := by decide +kernel
theorem xd_Mo_bindsFor_4 : decode xb_Mo_bindsFor 4 = .ok (.istore_n 2, 1) := by decide +kernel
theorem xd_Mo_bindsFor_5 : decode xb_Mo_bindsFor 5 = .ok (.iconst 0, 1) := by decide +kernel
theorem xd_Mo_bindsFor_6 : decode xb_Mo_bindsFor 6 = .ok (.istore_n 3, 1) := by decide +kernel
theorem xd_Mo_bindsFor_7 : decode xb_Mo_bindsFor 7 = .ok (.iconst 3, 1) := by decide +kernel
theorem xd_Mo_bindsFor_8 : decode xb_Mo_bindsFor 8 = .ok (.iload_n 1, 1) := by decide +kernel
theorem xd_Mo_bindsFor_9 : decode xb_Mo_bindsFor 9 = .ok (.imul, 1) := by decide +kernel
theorem xd_Mo_bindsFor_10 : decode xb_Mo_bindsFor 10 = .ok (.istore 4, 2) := by decide +kernel
theorem xd_Mo_bindsFor_12 : decode xb_Mo_bindsFor 12 = .ok (.iload 4, 2) := by decide +kernel
theorem xd_Mo_bindsFor_14 : decode xb_Mo_bindsFor 14 = .ok (.iconst 3, 1) := by decide +kernel
theorem xd_Mo_bindsFor_15 : decode xb_Mo_bindsFor 15 = .ok (.iload_n 1, 1) := by decide +kernel
theorem xd_Mo_bindsFor_16 : decode xb_Mo_bindsFor 16 = .ok (.imul, 1) := by decide +kernel
theorem xd_Mo_bindsFor_17 : decode xb_Mo_bindsFor 17 = .ok (.iconst 3, 1) := by decide +kernel
theorem xd_Mo_bindsFor_18 : decode xb_Mo_bindsFor 18 = .ok (.iadd, 1) := by decide +kernel
theorem xd_Mo_bindsFor_19 : decode xb_Mo_bindsFor 19 = .ok (.if_icmp .ge 194, 3) := by decide +kernel
theorem xd_Mo_bindsFor_22 : decode xb_Mo_bindsFor 22 = .ok (.iconst 0, 1) := by decide +kernel
theorem xd_Mo_bindsFor_23 : decode xb_Mo_bindsFor 23 = .ok (.istore 5, 2) := by decide +kernel
theorem xd_Mo_bindsFor_25 : decode xb_Mo_bindsFor 25 = .ok (.iload 5, 2) := by decide +kernel
theorem xd_Mo_bindsFor_27 : decode xb_Mo_bindsFor 27 = .ok (.aload_n 0, 1) := by decide +kernel
theorem xd_Mo_bindsFor_28 : decode xb_Mo_bindsFor 28 = .ok (.getfield 140, 3) := by decide +kernel
theorem xd_Mo_bindsFor_31 : decode xb_Mo_bindsFor 31 = .ok (.if_icmp .ge 176, 3) := by decide +kernel
theorem xd_Mo_bindsFor_34 : decode xb_Mo_bindsFor 34 = .ok (.aload_n 0, 1) := by decide +kernel
theorem xd_Mo_bindsFor_35 : decode xb_Mo_bindsFor 35 = .ok (.getfield 54, 3) := by decide +kernel
theorem xd_Mo_bindsFor_38 : decode xb_Mo_bindsFor 38 = .ok (.iload 4, 2) := by decide +kernel
theorem xd_Mo_bindsFor_40 : decode xb_Mo_bindsFor 40 = .ok (.iaload, 1) := by decide +kernel
theorem xd_Mo_bindsFor_41 : decode xb_Mo_bindsFor 41 = .ok (.ifCond .le 166, 3) := by decide +kernel
theorem xd_Mo_bindsFor_44 : decode xb_Mo_bindsFor 44 = .ok (.aload_n 0, 1) := by decide +kernel
theorem xd_Mo_bindsFor_45 : decode xb_Mo_bindsFor 45 = .ok (.getfield 57, 3) := by decide +kernel
theorem xd_Mo_bindsFor_48 : decode xb_Mo_bindsFor 48 = .ok (.iconst 3, 1) := by decide +kernel
theorem xd_Mo_bindsFor_49 : decode xb_Mo_bindsFor 49 = .ok (.iload 5, 2) := by decide +kernel
theorem xd_Mo_bindsFor_51 : decode xb_Mo_bindsFor 51 = .ok (.imul, 1) := by decide +kernel
theorem xd_Mo_bindsFor_52 : decode xb_Mo_bindsFor 52 = .ok (.iaload, 1) := by decide +kernel
theorem xd_Mo_bindsFor_53 : decode xb_Mo_bindsFor 53 = .ok (.aload_n 0, 1) := by decide +kernel
theorem xd_Mo_bindsFor_54 : decode xb_Mo_bindsFor 54 = .ok (.getfield 54, 3) := by decide +kernel
theorem xd_Mo_bindsFor_57 : decode xb_Mo_bindsFor 57 = .ok (.iload 4, 2) := by decide +kernel
theorem xd_Mo_bindsFor_59 : decode xb_Mo_bindsFor 59 = .ok (.iaload, 1) := by decide +kernel
theorem xd_Mo_bindsFor_60 : decode xb_Mo_bindsFor 60 = .ok (.if_icmp .eq 45, 3) := by decide +kernel
theorem xd_Mo_bindsFor_63 : decode xb_Mo_bindsFor 63 = .ok (.aload_n 0, 1) := by decide +kernel
theorem xd_Mo_bindsFor_64 : decode xb_Mo_bindsFor 64 = .ok (.getfield 57, 3) := by decide +kernel
theorem xd_Mo_bindsFor_67 : decode xb_Mo_bindsFor 67 = .ok (.iconst 3, 1) := by decide +kernel
theorem xd_Mo_bindsFor_68 : decode xb_Mo_bindsFor 68 = .ok (.iload 5, 2) := by decide +kernel
theorem xd_Mo_bindsFor_70 : decode xb_Mo_bindsFor 70 = .ok (.imul, 1) := by decide +kernel
theorem xd_Mo_bindsFor_71 : decode xb_Mo_bindsFor 71 = .ok (.iconst 1, 1) := by decide +kernel
theorem xd_Mo_bindsFor_72 : decode xb_Mo_bindsFor 72 = .ok (.iadd, 1) := by decide +kernel
theorem xd_Mo_bindsFor_73 : decode xb_Mo_bindsFor 73 = .ok (.iaload, 1) := by decide +kernel
theorem xd_Mo_bindsFor_74 : decode xb_Mo_bindsFor 74 = .ok (.aload_n 0, 1) := by decide +kernel
theorem xd_Mo_bindsFor_75 : decode xb_Mo_bindsFor 75 = .ok (.getfield 54, 3) := by decide +kernel
theorem xd_Mo_bindsFor_78 : decode xb_Mo_bindsFor 78 = .ok (.iload 4, 2) := by decide +kernel
theorem xd_Mo_bindsFor_80 : decode xb_Mo_bindsFor 80 = .ok (.iaload, 1) := by decide +kernel
theorem xd_Mo_bindsFor_81 : decode xb_Mo_bindsFor 81 = .ok (.if_icmp .eq 24, 3) := by decide +kernel
theorem xd_Mo_bindsFor_84 : decode xb_Mo_bindsFor 84 = .ok (.aload_n 0, 1) := by decide +kernel
theorem xd_Mo_bindsFor_85 : decode xb_Mo_bindsFor 85 = .ok (.getfield 57, 3) := by decide +kernel
theorem xd_Mo_bindsFor_88 : decode xb_Mo_bindsFor 88 = .ok (.iconst 3, 1) := by decide +kernel
theorem xd_Mo_bindsFor_89 : decode xb_Mo_bindsFor 89 = .ok (.iload 5, 2) := by decide +kernel
theorem xd_Mo_bindsFor_91 : decode xb_Mo_bindsFor 91 = .ok (.imul, 1) := by decide +kernel
theorem xd_Mo_bindsFor_92 : decode xb_Mo_bindsFor 92 = .ok (.iconst 2, 1) := by decide +kernel
theorem xd_Mo_bindsFor_93 : decode xb_Mo_bindsFor 93 = .ok (.iadd, 1) := by decide +kernel
theorem xd_Mo_bindsFor_94 : decode xb_Mo_bindsFor 94 = .ok (.iaload, 1) := by decide +kernel
theorem xd_Mo_bindsFor_95 : decode xb_Mo_bindsFor 95 = .ok (.aload_n 0, 1) := by decide +kernel
theorem xd_Mo_bindsFor_96 : decode xb_Mo_bindsFor 96 = .ok (.getfield 54, 3) := by decide +kernel
theorem xd_Mo_bindsFor_99 : decode xb_Mo_bindsFor 99 = .ok (.iload 4, 2) := by decide +kernel
theorem xd_Mo_bindsFor_101 : decode xb_Mo_bindsFor 101 = .ok (.iaload, 1) := by decide +kernel
theorem xd_Mo_bindsFor_102 : decode xb_Mo_bindsFor 102 = .ok (.if_icmp .ne 7, 3) := by decide +kernel
theorem xd_Mo_bindsFor_105 : decode xb_Mo_bindsFor 105 = .ok (.iconst 1, 1) := by decide +kernel
theorem xd_Mo_bindsFor_106 : decode xb_Mo_bindsFor 106 = .ok (.goto 4, 3) := by decide +kernel
theorem xd_Mo_bindsFor_109 : decode xb_Mo_bindsFor 109 = .ok (.iconst 0, 1) := by decide +kernel
theorem xd_Mo_bindsFor_110 : decode xb_Mo_bindsFor 110 = .ok (.istore 6, 2) := by decide +kernel
theorem xd_Mo_bindsFor_112 : decode xb_Mo_bindsFor 112 = .ok (.aload_n 0, 1) := by decide +kernel
theorem xd_Mo_bindsFor_113 : decode xb_Mo_bindsFor 113 = .ok (.getfield 20, 3) := by decide +kernel
theorem xd_Mo_bindsFor_116 : decode xb_Mo_bindsFor 116 = .ok (.iload 5, 2) := by decide +kernel
theorem xd_Mo_bindsFor_118 : decode xb_Mo_bindsFor 118 = .ok (.iaload, 1) := by decide +kernel
theorem xd_Mo_bindsFor_119 : decode xb_Mo_bindsFor 119 = .ok (.aload_n 0, 1) := by decide +kernel
theorem xd_Mo_bindsFor_120 : decode xb_Mo_bindsFor 120 = .ok (.getfield 66, 3) := by decide +kernel
theorem xd_Mo_bindsFor_123 : decode xb_Mo_bindsFor 123 = .ok (.iload_n 2, 1) := by decide +kernel
theorem xd_Mo_bindsFor_124 : decode xb_Mo_bindsFor 124 = .ok (.iaload, 1) := by decide +kernel
theorem xd_Mo_bindsFor_125 : decode xb_Mo_bindsFor 125 = .ok (.if_icmp .ne 76, 3) := by decide +kernel
theorem xd_Mo_bindsFor_128 : decode xb_Mo_bindsFor 128 = .ok (.iload 6, 2) := by decide +kernel
theorem xd_Mo_bindsFor_130 : decode xb_Mo_bindsFor 130 = .ok (.ifCond .eq 71, 3) := by decide +kernel
theorem xd_Mo_bindsFor_133 : decode xb_Mo_bindsFor 133 = .ok (.aload_n 0, 1) := by decide +kernel
theorem xd_Mo_bindsFor_134 : decode xb_Mo_bindsFor 134 = .ok (.iload_n 2, 1) := by decide +kernel
theorem xd_Mo_bindsFor_135 : decode xb_Mo_bindsFor 135 = .ok (.iload 5, 2) := by decide +kernel
theorem xd_Mo_bindsFor_137 : decode xb_Mo_bindsFor 137 = .ok (.invokevirtual 156, 3) := by decide +kernel
theorem xd_Mo_bindsFor_140 : decode xb_Mo_bindsFor 140 = .ok (.ifCond .ne 61, 3) := by decide +kernel
theorem xd_Mo_bindsFor_143 : decode xb_Mo_bindsFor 143 = .ok (.aload_n 0, 1) := by decide +kernel
theorem xd_Mo_bindsFor_144 : decode xb_Mo_bindsFor 144 = .ok (.getfield 72, 3) := by decide +kernel
theorem xd_Mo_bindsFor_147 : decode xb_Mo_bindsFor 147 = .ok (.iload_n 2, 1) := by decide +kernel
theorem xd_Mo_bindsFor_148 : decode xb_Mo_bindsFor 148 = .ok (.iaload, 1) := by decide +kernel
theorem xd_Mo_bindsFor_149 : decode xb_Mo_bindsFor 149 = .ok (.istore 7, 2) := by decide +kernel
theorem xd_Mo_bindsFor_151 : decode xb_Mo_bindsFor 151 = .ok (.aload_n 0, 1) := by decide +kernel
theorem xd_Mo_bindsFor_152 : decode xb_Mo_bindsFor 152 = .ok (.aload_n 0, 1) := by decide +kernel
theorem xd_Mo_bindsFor_153 : decode xb_Mo_bindsFor 153 = .ok (.getfield 23, 3) := by decide +kernel
theorem xd_Mo_bindsFor_156 : decode xb_Mo_bindsFor 156 = .ok (.iload 5, 2) := by decide +kernel
theorem xd_Mo_bindsFor_158 : decode xb_Mo_bindsFor 158 = .ok (.iaload, 1) := by decide +kernel
theorem xd_Mo_bindsFor_159 : decode xb_Mo_bindsFor 159 = .ok (.invokevirtual 160, 3) := by decide +kernel
theorem xd_Mo_bindsFor_162 : decode xb_Mo_bindsFor 162 = .ok (.istore 8, 2) := by decide +kernel
theorem xd_Mo_bindsFor_164 : decode xb_Mo_bindsFor 164 = .ok (.aload_n 0, 1) := by decide +kernel
theorem xd_Mo_bindsFor_165 : decode xb_Mo_bindsFor 165 = .ok (.getfield 72, 3) := by decide +kernel
theorem xd_Mo_bindsFor_168 : decode xb_Mo_bindsFor 168 = .ok (.iload_n 2, 1) := by decide +kernel
theorem xd_Mo_bindsFor_169 : decode xb_Mo_bindsFor 169 = .ok (.iload 8, 2) := by decide +kernel
theorem xd_Mo_bindsFor_171 : decode xb_Mo_bindsFor 171 = .ok (.ifCond .eq 12, 3) := by decide +kernel
theorem xd_Mo_bindsFor_174 : decode xb_Mo_bindsFor 174 = .ok (.aload_n 0, 1) := by decide +kernel
theorem xd_Mo_bindsFor_175 : decode xb_Mo_bindsFor 175 = .ok (.getfield 72, 3) := by decide +kernel
theorem xd_Mo_bindsFor_178 : decode xb_Mo_bindsFor 178 = .ok (.iload_n 2, 1) := by decide +kernel
theorem xd_Mo_bindsFor_179 : decode xb_Mo_bindsFor 179 = .ok (.iaload, 1) := by decide +kernel
theorem xd_Mo_bindsFor_180 : decode xb_Mo_bindsFor 180 = .ok (.goto 5, 3) := by decide +kernel
theorem xd_Mo_bindsFor_183 : decode xb_Mo_bindsFor 183 = .ok (.iload 7, 2) := by decide +kernel
theorem xd_Mo_bindsFor_185 : decode xb_Mo_bindsFor 185 = .ok (.iastore, 1) := by decide +kernel
theorem xd_Mo_bindsFor_186 : decode xb_Mo_bindsFor 186 = .ok (.iload_n 3, 1) := by decide +kernel
theorem xd_Mo_bindsFor_187 : decode xb_Mo_bindsFor 187 = .ok (.ifCond .ne 8, 3) := by decide +kernel
theorem xd_Mo_bindsFor_190 : decode xb_Mo_bindsFor 190 = .ok (.iload 8, 2) := by decide +kernel
theorem xd_Mo_bindsFor_192 : decode xb_Mo_bindsFor 192 = .ok (.ifCond .eq 7, 3) := by decide +kernel
theorem xd_Mo_bindsFor_195 : decode xb_Mo_bindsFor 195 = .ok (.iconst 1, 1) := by decide +kernel
theorem xd_Mo_bindsFor_196 : decode xb_Mo_bindsFor 196 = .ok (.goto 4, 3) := by decide +kernel
theorem xd_Mo_bindsFor_199 : decode xb_Mo_bindsFor 199 = .ok (.iconst 0, 1) := by decide +kernel
theorem xd_Mo_bindsFor_200 : decode xb_Mo_bindsFor 200 = .ok (.istore_n 3, 1) := by decide +kernel
theorem xd_Mo_bindsFor_201 : decode xb_Mo_bindsFor 201 = .ok (.iinc 5 1, 3) := by decide +kernel
theorem xd_Mo_bindsFor_204 : decode xb_Mo_bindsFor 204 = .ok (.goto (-179), 3) := by decide +kernel
theorem xd_Mo_bindsFor_207 : decode xb_Mo_bindsFor 207 = .ok (.iinc 4 1, 3) := by decide +kernel
theorem xd_Mo_bindsFor_210 : decode xb_Mo_bindsFor 210 = .ok (.goto (-198), 3) := by decide +kernel
theorem xd_Mo_bindsFor_213 : decode xb_Mo_bindsFor 213 = .ok (.iload_n 3, 1) := by decide +kernel
theorem xd_Mo_bindsFor_214 : decode xb_Mo_bindsFor 214 = .ok (.ireturn, 1) := by decide +kernel
abbrev xb_Mo_binding : ByteArray := prog_12_method_24_code
def xy_Mo_binding : MethodName := ⟨"LayerDeskModel", "binding", "()V"⟩
theorem xd_Mo_binding_0 : decode xb_Mo_binding 0 = .ok (.iconst 1, 1) := by decide +kernel
theorem xd_Mo_binding_1 : decode xb_Mo_binding 1 = .ok (.istore_n 1, 1) := by decide +kernel
theorem xd_Mo_binding_2 : decode xb_Mo_binding 2 = .ok (.iload_n 1, 1) := by decide +kernel
theorem xd_Mo_binding_3 : decode xb_Mo_binding 3 = .ok (.ifCond .eq 77, 3) := by decide +kernel
theorem xd_Mo_binding_6 : decode xb_Mo_binding 6 = .ok (.iconst 0, 1) := by decide +kernel
theorem xd_Mo_binding_7 : decode xb_Mo_binding 7 = .ok (.istore_n 1, 1) := by decide +kernel
theorem xd_Mo_binding_8 : decode xb_Mo_binding 8 = .ok (.aload_n 0, 1) := by decide +kernel
theorem xd_Mo_binding_9 : decode xb_Mo_binding 9 = .ok (.getfield 150, 3) := by decide +kernel
theorem xd_Mo_binding_12 : decode xb_Mo_binding 12 = .ok (.istore_n 2, 1) := by decide +kernel
theorem xd_Mo_binding_13 : decode xb_Mo_binding 13 = .ok (.iload_n 2, 1) := by decide +kernel
theorem xd_Mo_binding_14 : decode xb_Mo_binding 14 = .ok (.ifCond .lt 63, 3) := by decide +kernel
theorem xd_Mo_binding_17 : decode xb_Mo_binding 17 = .ok (.iconst 0, 1) := by decide +kernel
theorem xd_Mo_binding_18 : decode xb_Mo_binding 18 = .ok (.istore_n 3, 1) := by decide +kernel
theorem xd_Mo_binding_19 : decode xb_Mo_binding 19 = .ok (.iload_n 3, 1) := by decide +kernel
theorem xd_Mo_binding_20 : decode xb_Mo_binding 20 = .ok (.aload_n 0, 1) := by decide +kernel
theorem xd_Mo_binding_21 : decode xb_Mo_binding 21 = .ok (.getfield 72, 3) := by decide +kernel
theorem xd_Mo_binding_24 : decode xb_Mo_binding 24 = .ok (.iload_n 2, 1) := by decide +kernel
theorem xd_Mo_binding_25 : decode xb_Mo_binding 25 = .ok (.iaload, 1) := by decide +kernel
theorem xd_Mo_binding_26 : decode xb_Mo_binding 26 = .ok (.if_icmp .ge 41, 3) := by decide +kernel
theorem xd_Mo_binding_29 : decode xb_Mo_binding 29 = .ok (.aload_n 0, 1) := by decide +kernel
theorem xd_Mo_binding_30 : decode xb_Mo_binding 30 = .ok (.aload_n 0, 1) := by decide +kernel
theorem xd_Mo_binding_31 : decode xb_Mo_binding 31 = .ok (.getfield 75, 3) := by decide +kernel
theorem xd_Mo_binding_34 : decode xb_Mo_binding 34 = .ok (.bipush 12, 2) := by decide +kernel
theorem xd_Mo_binding_36 : decode xb_Mo_binding 36 = .ok (.iload_n 2, 1) := by decide +kernel
theorem xd_Mo_binding_37 : decode xb_Mo_binding 37 = .ok (.imul, 1) := by decide +kernel
theorem xd_Mo_binding_38 : decode xb_Mo_binding 38 = .ok (.iload_n 3, 1) := by decide +kernel
theorem xd_Mo_binding_39 : decode xb_Mo_binding 39 = .ok (.iadd, 1) := by decide +kernel
theorem xd_Mo_binding_40 : decode xb_Mo_binding 40 = .ok (.iaload, 1) := by decide +kernel
theorem xd_Mo_binding_41 : decode xb_Mo_binding 41 = .ok (.invokevirtual 164, 3) := by decide +kernel
theorem xd_Mo_binding_44 : decode xb_Mo_binding 44 = .ok (.istore 4, 2) := by decide +kernel
theorem xd_Mo_binding_46 : decode xb_Mo_binding 46 = .ok (.iload_n 1, 1) := by decide +kernel
theorem xd_Mo_binding_47 : decode xb_Mo_binding 47 = .ok (.ifCond .ne 8, 3) := by decide +kernel
theorem xd_Mo_binding_50 : decode xb_Mo_binding 50 = .ok (.iload 4, 2) := by decide +kernel
theorem xd_Mo_binding_52 : decode xb_Mo_binding 52 = .ok (.ifCond .eq 7, 3) := by decide +kernel
theorem xd_Mo_binding_55 : decode xb_Mo_binding 55 = .ok (.iconst 1, 1) := by decide +kernel
theorem xd_Mo_binding_56 : decode xb_Mo_binding 56 = .ok (.goto 4, 3) := by decide +kernel
theorem xd_Mo_binding_59 : decode xb_Mo_binding 59 = .ok (.iconst 0, 1) := by decide +kernel
theorem xd_Mo_binding_60 : decode xb_Mo_binding 60 = .ok (.istore_n 1, 1) := by decide +kernel
theorem xd_Mo_binding_61 : decode xb_Mo_binding 61 = .ok (.iinc 3 1, 3) := by decide +kernel
theorem xd_Mo_binding_64 : decode xb_Mo_binding 64 = .ok (.goto (-45), 3) := by decide +kernel
theorem xd_Mo_binding_67 : decode xb_Mo_binding 67 = .ok (.aload_n 0, 1) := by decide +kernel
theorem xd_Mo_binding_68 : decode xb_Mo_binding 68 = .ok (.getfield 69, 3) := by decide +kernel
theorem xd_Mo_binding_71 : decode xb_Mo_binding 71 = .ok (.iload_n 2, 1) := by decide +kernel
theorem xd_Mo_binding_72 : decode xb_Mo_binding 72 = .ok (.iaload, 1) := by decide +kernel
theorem xd_Mo_binding_73 : decode xb_Mo_binding 73 = .ok (.istore_n 2, 1) := by decide +kernel
theorem xd_Mo_binding_74 : decode xb_Mo_binding 74 = .ok (.goto (-61), 3) := by decide +kernel
theorem xd_Mo_binding_77 : decode xb_Mo_binding 77 = .ok (.goto (-75), 3) := by decide +kernel
theorem xd_Mo_binding_80 : decode xb_Mo_binding 80 = .ok (.return_, 1) := by decide +kernel
def cz (f : Nat → Int32) : Nat → Nat
  | 0 => 0
  | n + 1 => cz f n + (if f n = 0 then 1 else 0)
theorem cz_same {f : Nat → Int32} {t : Nat} {x : Int32} : ∀ n, n ≤ t → cz (upd f t x) n = cz f n := by
  intro n
  induction n with
  | zero => intro _; rfl
  | succ n ih =>
    intro h
    show cz (upd f t x) n + (if upd f t x n = 0 then 1 else 0) = cz f n + (if f n = 0 then 1 else 0)
    rw [ih (by omega), pk_un (by omega)]
theorem cz_mark {f : Nat → Int32} {t : Nat} {x : Int32} (hf : f t = 0) (hx : ¬ x = 0) : ∀ n, t < n → cz (upd f t x) n < cz f n := by
  intro n
  induction n with
  | zero => intro h; omega
  | succ n ih =>
    intro h
    show cz (upd f t x) n + (if upd f t x n = 0 then 1 else 0) < cz f n + (if f n = 0 then 1 else 0)
    by_cases e : t = n
    · subst e
      rw [cz_same t (Nat.le_refl _), pk_us, if_neg hx, if_pos hf]; omega
    · rw [pk_un (fun q => e q.symm)]
      have := ih (by omega)
      omega
theorem xb_mlt (n : Nat) (h : n < 2147483648) : (-1 : Int32) < nI n := by
  rw [Int32.lt_iff_toInt_lt, nI_toInt (by rw [xb_31]; exact h)]
  have h2 : ((-1 : Int32)).toInt = -1 := by decide
  omega
def bz (f : Nat → Int32) : Prop := ∀ i, i < 72 → narrow .boolean (.int (f i)) = .int (f i)
theorem bz_up {f : Nat → Int32} {t : Nat} {x : Int32} (h : bz f) (hx : narrow .boolean (.int x) = .int x) : bz (upd f t x) := fun i hi => by
  by_cases e : i = t
  · subst e; rw [pk_us]; exact hx
  · rw [pk_un e]; exact h i hi
theorem bz_0 {f : Nat → Int32} (h : ∀ j, j < 72 → f j = vp_nar .boolean 0) : bz f := fun i hi => by rw [h i hi]; rfl
theorem bn_1 : ¬ vp_nar .boolean 1 = 0 := by decide
theorem bn_n : narrow .boolean (.int (vp_nar .boolean 1)) = .int (vp_nar .boolean 1) := by rfl
theorem bn_0 : narrow .boolean (.int (vp_nar .boolean 0)) = .int (vp_nar .boolean 0) := by rfl
abbrev xb_Mo_isCycle : ByteArray := prog_12_method_25_code
def xy_Mo_isCycle : MethodName := ⟨"LayerDeskModel", "isCycle", "(I)Z"⟩
theorem xd_Mo_isCycle_0 : decode xb_Mo_isCycle 0 = .ok (.aload_n 0, 1) := by decide +kernel
theorem xd_Mo_isCycle_1 : decode xb_Mo_isCycle 1 = .ok (.getfield 150, 3) := by decide +kernel
theorem xd_Mo_isCycle_4 : decode xb_Mo_isCycle 4 = .ok (.istore_n 2, 1) := by decide +kernel
theorem xd_Mo_isCycle_5 : decode xb_Mo_isCycle 5 = .ok (.iconst 0, 1) := by decide +kernel
theorem xd_Mo_isCycle_6 : decode xb_Mo_isCycle 6 = .ok (.istore_n 3, 1) := by decide +kernel
theorem xd_Mo_isCycle_7 : decode xb_Mo_isCycle 7 = .ok (.iload_n 3, 1) := by decide +kernel
theorem xd_Mo_isCycle_8 : decode xb_Mo_isCycle 8 = .ok (.bipush 72, 2) := by decide +kernel
theorem xd_Mo_isCycle_10 : decode xb_Mo_isCycle 10 = .ok (.if_icmp .ge 16, 3) := by decide +kernel
theorem xd_Mo_isCycle_13 : decode xb_Mo_isCycle 13 = .ok (.aload_n 0, 1) := by decide +kernel
theorem xd_Mo_isCycle_14 : decode xb_Mo_isCycle 14 = .ok (.getfield 84, 3) := by decide +kernel
theorem xd_Mo_isCycle_17 : decode xb_Mo_isCycle 17 = .ok (.iload_n 3, 1) := by decide +kernel
theorem xd_Mo_isCycle_18 : decode xb_Mo_isCycle 18 = .ok (.iconst 0, 1) := by decide +kernel
theorem xd_Mo_isCycle_19 : decode xb_Mo_isCycle 19 = .ok (.bastore, 1) := by decide +kernel
theorem xd_Mo_isCycle_20 : decode xb_Mo_isCycle 20 = .ok (.iinc 3 1, 3) := by decide +kernel
theorem xd_Mo_isCycle_23 : decode xb_Mo_isCycle 23 = .ok (.goto (-16), 3) := by decide +kernel
theorem xd_Mo_isCycle_26 : decode xb_Mo_isCycle 26 = .ok (.iconst 1, 1) := by decide +kernel
theorem xd_Mo_isCycle_27 : decode xb_Mo_isCycle 27 = .ok (.istore_n 3, 1) := by decide +kernel
theorem xd_Mo_isCycle_28 : decode xb_Mo_isCycle 28 = .ok (.iconst 1, 1) := by decide +kernel
theorem xd_Mo_isCycle_29 : decode xb_Mo_isCycle 29 = .ok (.istore 4, 2) := by decide +kernel
theorem xd_Mo_isCycle_31 : decode xb_Mo_isCycle 31 = .ok (.iload_n 3, 1) := by decide +kernel
theorem xd_Mo_isCycle_32 : decode xb_Mo_isCycle 32 = .ok (.ifCond .eq 172, 3) := by decide +kernel
theorem xd_Mo_isCycle_35 : decode xb_Mo_isCycle 35 = .ok (.iconst 0, 1) := by decide +kernel
theorem xd_Mo_isCycle_36 : decode xb_Mo_isCycle 36 = .ok (.istore_n 3, 1) := by decide +kernel
theorem xd_Mo_isCycle_37 : decode xb_Mo_isCycle 37 = .ok (.bipush 12, 2) := by decide +kernel
theorem xd_Mo_isCycle_39 : decode xb_Mo_isCycle 39 = .ok (.iload_n 2, 1) := by decide +kernel
theorem xd_Mo_isCycle_40 : decode xb_Mo_isCycle 40 = .ok (.imul, 1) := by decide +kernel
theorem xd_Mo_isCycle_41 : decode xb_Mo_isCycle 41 = .ok (.istore 5, 2) := by decide +kernel
theorem xd_Mo_isCycle_43 : decode xb_Mo_isCycle 43 = .ok (.iload 5, 2) := by decide +kernel
theorem xd_Mo_isCycle_45 : decode xb_Mo_isCycle 45 = .ok (.bipush 12, 2) := by decide +kernel
theorem xd_Mo_isCycle_47 : decode xb_Mo_isCycle 47 = .ok (.iload_n 2, 1) := by decide +kernel
theorem xd_Mo_isCycle_48 : decode xb_Mo_isCycle 48 = .ok (.imul, 1) := by decide +kernel
theorem xd_Mo_isCycle_49 : decode xb_Mo_isCycle 49 = .ok (.aload_n 0, 1) := by decide +kernel
theorem xd_Mo_isCycle_50 : decode xb_Mo_isCycle 50 = .ok (.getfield 72, 3) := by decide +kernel
theorem xd_Mo_isCycle_53 : decode xb_Mo_isCycle 53 = .ok (.iload_n 2, 1) := by decide +kernel
theorem xd_Mo_isCycle_54 : decode xb_Mo_isCycle 54 = .ok (.iaload, 1) := by decide +kernel
theorem xd_Mo_isCycle_55 : decode xb_Mo_isCycle 55 = .ok (.iadd, 1) := by decide +kernel
theorem xd_Mo_isCycle_56 : decode xb_Mo_isCycle 56 = .ok (.if_icmp .ge 142, 3) := by decide +kernel
theorem xd_Mo_isCycle_59 : decode xb_Mo_isCycle 59 = .ok (.aload_n 0, 1) := by decide +kernel
theorem xd_Mo_isCycle_60 : decode xb_Mo_isCycle 60 = .ok (.getfield 75, 3) := by decide +kernel
theorem xd_Mo_isCycle_63 : decode xb_Mo_isCycle 63 = .ok (.iload 5, 2) := by decide +kernel
theorem xd_Mo_isCycle_65 : decode xb_Mo_isCycle 65 = .ok (.iaload, 1) := by decide +kernel
theorem xd_Mo_isCycle_66 : decode xb_Mo_isCycle 66 = .ok (.istore 6, 2) := by decide +kernel
theorem xd_Mo_isCycle_68 : decode xb_Mo_isCycle 68 = .ok (.iload 4, 2) := by decide +kernel
theorem xd_Mo_isCycle_70 : decode xb_Mo_isCycle 70 = .ok (.ifCond .eq 17, 3) := by decide +kernel
theorem xd_Mo_isCycle_73 : decode xb_Mo_isCycle 73 = .ok (.iload 6, 2) := by decide +kernel
theorem xd_Mo_isCycle_75 : decode xb_Mo_isCycle 75 = .ok (.iload_n 1, 1) := by decide +kernel
theorem xd_Mo_isCycle_76 : decode xb_Mo_isCycle 76 = .ok (.if_icmp .ne 7, 3) := by decide +kernel
theorem xd_Mo_isCycle_79 : decode xb_Mo_isCycle 79 = .ok (.iconst 1, 1) := by decide +kernel
theorem xd_Mo_isCycle_80 : decode xb_Mo_isCycle 80 = .ok (.goto 19, 3) := by decide +kernel
theorem xd_Mo_isCycle_83 : decode xb_Mo_isCycle 83 = .ok (.iconst 0, 1) := by decide +kernel
theorem xd_Mo_isCycle_84 : decode xb_Mo_isCycle 84 = .ok (.goto 15, 3) := by decide +kernel
theorem xd_Mo_isCycle_87 : decode xb_Mo_isCycle 87 = .ok (.aload_n 0, 1) := by decide +kernel
theorem xd_Mo_isCycle_88 : decode xb_Mo_isCycle 88 = .ok (.getfield 84, 3) := by decide +kernel
theorem xd_Mo_isCycle_91 : decode xb_Mo_isCycle 91 = .ok (.bipush 12, 2) := by decide +kernel
theorem xd_Mo_isCycle_93 : decode xb_Mo_isCycle 93 = .ok (.iload_n 2, 1) := by decide +kernel
theorem xd_Mo_isCycle_94 : decode xb_Mo_isCycle 94 = .ok (.imul, 1) := by decide +kernel
theorem xd_Mo_isCycle_95 : decode xb_Mo_isCycle 95 = .ok (.iload 6, 2) := by decide +kernel
theorem xd_Mo_isCycle_97 : decode xb_Mo_isCycle 97 = .ok (.iadd, 1) := by decide +kernel
theorem xd_Mo_isCycle_98 : decode xb_Mo_isCycle 98 = .ok (.baload, 1) := by decide +kernel
theorem xd_Mo_isCycle_99 : decode xb_Mo_isCycle 99 = .ok (.istore 7, 2) := by decide +kernel
theorem xd_Mo_isCycle_101 : decode xb_Mo_isCycle 101 = .ok (.iconst 5, 1) := by decide +kernel
theorem xd_Mo_isCycle_102 : decode xb_Mo_isCycle 102 = .ok (.iload 6, 2) := by decide +kernel
theorem xd_Mo_isCycle_104 : decode xb_Mo_isCycle 104 = .ok (.imul, 1) := by decide +kernel
theorem xd_Mo_isCycle_105 : decode xb_Mo_isCycle 105 = .ok (.istore 8, 2) := by decide +kernel
theorem xd_Mo_isCycle_107 : decode xb_Mo_isCycle 107 = .ok (.iload 8, 2) := by decide +kernel
theorem xd_Mo_isCycle_109 : decode xb_Mo_isCycle 109 = .ok (.iconst 5, 1) := by decide +kernel
theorem xd_Mo_isCycle_110 : decode xb_Mo_isCycle 110 = .ok (.iload 6, 2) := by decide +kernel
theorem xd_Mo_isCycle_112 : decode xb_Mo_isCycle 112 = .ok (.imul, 1) := by decide +kernel
theorem xd_Mo_isCycle_113 : decode xb_Mo_isCycle 113 = .ok (.aload_n 0, 1) := by decide +kernel
theorem xd_Mo_isCycle_114 : decode xb_Mo_isCycle 114 = .ok (.getfield 48, 3) := by decide +kernel
theorem xd_Mo_isCycle_117 : decode xb_Mo_isCycle 117 = .ok (.iload 6, 2) := by decide +kernel
theorem xd_Mo_isCycle_119 : decode xb_Mo_isCycle 119 = .ok (.iaload, 1) := by decide +kernel
theorem xd_Mo_isCycle_120 : decode xb_Mo_isCycle 120 = .ok (.iadd, 1) := by decide +kernel
theorem xd_Mo_isCycle_121 : decode xb_Mo_isCycle 121 = .ok (.if_icmp .ge 71, 3) := by decide +kernel
theorem xd_Mo_isCycle_124 : decode xb_Mo_isCycle 124 = .ok (.iload 7, 2) := by decide +kernel
theorem xd_Mo_isCycle_126 : decode xb_Mo_isCycle 126 = .ok (.ifCond .eq 66, 3) := by decide +kernel
theorem xd_Mo_isCycle_129 : decode xb_Mo_isCycle 129 = .ok (.aload_n 0, 1) := by decide +kernel
theorem xd_Mo_isCycle_130 : decode xb_Mo_isCycle 130 = .ok (.getfield 63, 3) := by decide +kernel
theorem xd_Mo_isCycle_133 : decode xb_Mo_isCycle 133 = .ok (.iload 8, 2) := by decide +kernel
theorem xd_Mo_isCycle_135 : decode xb_Mo_isCycle 135 = .ok (.baload, 1) := by decide +kernel
theorem xd_Mo_isCycle_136 : decode xb_Mo_isCycle 136 = .ok (.ifCond .eq 7, 3) := by decide +kernel
theorem xd_Mo_isCycle_139 : decode xb_Mo_isCycle 139 = .ok (.iconst (-1), 1) := by decide +kernel
theorem xd_Mo_isCycle_140 : decode xb_Mo_isCycle 140 = .ok (.goto 15, 3) := by decide +kernel
theorem xd_Mo_isCycle_143 : decode xb_Mo_isCycle 143 = .ok (.aload_n 0, 1) := by decide +kernel
theorem xd_Mo_isCycle_144 : decode xb_Mo_isCycle 144 = .ok (.iload_n 2, 1) := by decide +kernel
theorem xd_Mo_isCycle_145 : decode xb_Mo_isCycle 145 = .ok (.aload_n 0, 1) := by decide +kernel
theorem xd_Mo_isCycle_146 : decode xb_Mo_isCycle 146 = .ok (.getfield 51, 3) := by decide +kernel
theorem xd_Mo_isCycle_149 : decode xb_Mo_isCycle 149 = .ok (.iload 8, 2) := by decide +kernel
theorem xd_Mo_isCycle_151 : decode xb_Mo_isCycle 151 = .ok (.iaload, 1) := by decide +kernel
theorem xd_Mo_isCycle_152 : decode xb_Mo_isCycle 152 = .ok (.invokevirtual 153, 3) := by decide +kernel
theorem xd_Mo_isCycle_155 : decode xb_Mo_isCycle 155 = .ok (.istore 9, 2) := by decide +kernel
theorem xd_Mo_isCycle_157 : decode xb_Mo_isCycle 157 = .ok (.iload 9, 2) := by decide +kernel
theorem xd_Mo_isCycle_159 : decode xb_Mo_isCycle 159 = .ok (.bipush 12, 2) := by decide +kernel
theorem xd_Mo_isCycle_161 : decode xb_Mo_isCycle 161 = .ok (.iload_n 2, 1) := by decide +kernel
theorem xd_Mo_isCycle_162 : decode xb_Mo_isCycle 162 = .ok (.imul, 1) := by decide +kernel
theorem xd_Mo_isCycle_163 : decode xb_Mo_isCycle 163 = .ok (.if_icmp .lt 23, 3) := by decide +kernel
theorem xd_Mo_isCycle_166 : decode xb_Mo_isCycle 166 = .ok (.aload_n 0, 1) := by decide +kernel
theorem xd_Mo_isCycle_167 : decode xb_Mo_isCycle 167 = .ok (.getfield 84, 3) := by decide +kernel
theorem xd_Mo_isCycle_170 : decode xb_Mo_isCycle 170 = .ok (.iload 9, 2) := by decide +kernel
theorem xd_Mo_isCycle_172 : decode xb_Mo_isCycle 172 = .ok (.baload, 1) := by decide +kernel
theorem xd_Mo_isCycle_173 : decode xb_Mo_isCycle 173 = .ok (.ifCond .ne 13, 3) := by decide +kernel
theorem xd_Mo_isCycle_176 : decode xb_Mo_isCycle 176 = .ok (.aload_n 0, 1) := by decide +kernel
theorem xd_Mo_isCycle_177 : decode xb_Mo_isCycle 177 = .ok (.getfield 84, 3) := by decide +kernel
theorem xd_Mo_isCycle_180 : decode xb_Mo_isCycle 180 = .ok (.iload 9, 2) := by decide +kernel
theorem xd_Mo_isCycle_182 : decode xb_Mo_isCycle 182 = .ok (.iconst 1, 1) := by decide +kernel
theorem xd_Mo_isCycle_183 : decode xb_Mo_isCycle 183 = .ok (.bastore, 1) := by decide +kernel
theorem xd_Mo_isCycle_184 : decode xb_Mo_isCycle 184 = .ok (.iconst 1, 1) := by decide +kernel
theorem xd_Mo_isCycle_185 : decode xb_Mo_isCycle 185 = .ok (.istore_n 3, 1) := by decide +kernel
theorem xd_Mo_isCycle_186 : decode xb_Mo_isCycle 186 = .ok (.iinc 8 1, 3) := by decide +kernel
theorem xd_Mo_isCycle_189 : decode xb_Mo_isCycle 189 = .ok (.goto (-82), 3) := by decide +kernel
theorem xd_Mo_isCycle_192 : decode xb_Mo_isCycle 192 = .ok (.iinc 5 1, 3) := by decide +kernel
theorem xd_Mo_isCycle_195 : decode xb_Mo_isCycle 195 = .ok (.goto (-152), 3) := by decide +kernel
theorem xd_Mo_isCycle_198 : decode xb_Mo_isCycle 198 = .ok (.iconst 0, 1) := by decide +kernel
theorem xd_Mo_isCycle_199 : decode xb_Mo_isCycle 199 = .ok (.istore 4, 2) := by decide +kernel
theorem xd_Mo_isCycle_201 : decode xb_Mo_isCycle 201 = .ok (.goto (-170), 3) := by decide +kernel
theorem xd_Mo_isCycle_204 : decode xb_Mo_isCycle 204 = .ok (.aload_n 0, 1) := by decide +kernel
theorem xd_Mo_isCycle_205 : decode xb_Mo_isCycle 205 = .ok (.getfield 84, 3) := by decide +kernel
theorem xd_Mo_isCycle_208 : decode xb_Mo_isCycle 208 = .ok (.bipush 12, 2) := by decide +kernel
theorem xd_Mo_isCycle_210 : decode xb_Mo_isCycle 210 = .ok (.iload_n 2, 1) := by decide +kernel
theorem xd_Mo_isCycle_211 : decode xb_Mo_isCycle 211 = .ok (.imul, 1) := by decide +kernel
theorem xd_Mo_isCycle_212 : decode xb_Mo_isCycle 212 = .ok (.iload_n 1, 1) := by decide +kernel
theorem xd_Mo_isCycle_213 : decode xb_Mo_isCycle 213 = .ok (.iadd, 1) := by decide +kernel
theorem xd_Mo_isCycle_214 : decode xb_Mo_isCycle 214 = .ok (.baload, 1) := by decide +kernel
theorem xd_Mo_isCycle_215 : decode xb_Mo_isCycle 215 = .ok (.ireturn, 1) := by decide +kernel
