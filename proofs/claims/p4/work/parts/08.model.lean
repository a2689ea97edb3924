abbrev xb_Mo_descriptorOf : ByteArray := prog_12_method_12_code
def xy_Mo_descriptorOf : MethodName := ⟨"LayerDeskModel", "descriptorOf", "(II)I"⟩
abbrev xb_Mo_isShut : ByteArray := prog_12_method_13_code
def xy_Mo_isShut : MethodName := ⟨"LayerDeskModel", "isShut", "()Z"⟩
abbrev xb_Mo_packageOf : ByteArray := prog_12_method_14_code
def xy_Mo_packageOf : MethodName := ⟨"LayerDeskModel", "packageOf", "(II)I"⟩
abbrev xb_Mo_isIn : ByteArray := prog_12_method_20_code
def xy_Mo_isIn : MethodName := ⟨"LayerDeskModel", "isIn", "(II)Z"⟩
abbrev xb_Mo_letter : ByteArray := prog_12_method_6_code
def xy_Mo_letter : MethodName := ⟨"LayerDeskModel", "letter", "(II)C"⟩
abbrev xb_Mo_nameOf : ByteArray := prog_12_method_7_code
def xy_Mo_nameOf : MethodName := ⟨"LayerDeskModel", "nameOf", "(I)I"⟩
abbrev xb_Mo_says : ByteArray := prog_12_method_8_code
def xy_Mo_says : MethodName := ⟨"LayerDeskModel", "says", "(III)Z"⟩
abbrev xb_Mo_code : ByteArray := prog_12_method_9_code
def xy_Mo_code : MethodName := ⟨"LayerDeskModel", "code", "(IIIII)I"⟩
abbrev xb_Mo_split : ByteArray := prog_12_method_5_code
def xy_Mo_split : MethodName := ⟨"LayerDeskModel", "split", "()V"⟩
abbrev xb_Mo_newDescriptor : ByteArray := prog_12_method_11_code
def xy_Mo_newDescriptor : MethodName := ⟨"LayerDeskModel", "newDescriptor", "()I"⟩
theorem xd_Mo_code_0 : decode xb_Mo_code 0 = .ok (.iload_n 0, 1) := by decide +kernel
theorem xd_Mo_code_1 : decode xb_Mo_code 1 = .ok (.bipush 96, 2) := by decide +kernel
theorem xd_Mo_code_3 : decode xb_Mo_code 3 = .ok (.isub, 1) := by decide +kernel
theorem xd_Mo_code_4 : decode xb_Mo_code 4 = .ok (.istore 5, 2) := by decide +kernel
theorem xd_Mo_code_6 : decode xb_Mo_code 6 = .ok (.iload_n 1, 1) := by decide +kernel
theorem xd_Mo_code_7 : decode xb_Mo_code 7 = .ok (.ifCond .ne 8, 3) := by decide +kernel
theorem xd_Mo_code_10 : decode xb_Mo_code 10 = .ok (.iload 5, 2) := by decide +kernel
theorem xd_Mo_code_12 : decode xb_Mo_code 12 = .ok (.goto 13, 3) := by decide +kernel
theorem xd_Mo_code_15 : decode xb_Mo_code 15 = .ok (.bipush 32, 2) := by decide +kernel
theorem xd_Mo_code_17 : decode xb_Mo_code 17 = .ok (.iload 5, 2) := by decide +kernel
theorem xd_Mo_code_19 : decode xb_Mo_code 19 = .ok (.imul, 1) := by decide +kernel
theorem xd_Mo_code_20 : decode xb_Mo_code 20 = .ok (.iload_n 1, 1) := by decide +kernel
theorem xd_Mo_code_21 : decode xb_Mo_code 21 = .ok (.iadd, 1) := by decide +kernel
theorem xd_Mo_code_22 : decode xb_Mo_code 22 = .ok (.bipush 96, 2) := by decide +kernel
theorem xd_Mo_code_24 : decode xb_Mo_code 24 = .ok (.isub, 1) := by decide +kernel
theorem xd_Mo_code_25 : decode xb_Mo_code 25 = .ok (.istore 5, 2) := by decide +kernel
theorem xd_Mo_code_27 : decode xb_Mo_code 27 = .ok (.iload_n 2, 1) := by decide +kernel
theorem xd_Mo_code_28 : decode xb_Mo_code 28 = .ok (.ifCond .ne 8, 3) := by decide +kernel
theorem xd_Mo_code_31 : decode xb_Mo_code 31 = .ok (.iload 5, 2) := by decide +kernel
theorem xd_Mo_code_33 : decode xb_Mo_code 33 = .ok (.goto 13, 3) := by decide +kernel
theorem xd_Mo_code_36 : decode xb_Mo_code 36 = .ok (.bipush 32, 2) := by decide +kernel
theorem xd_Mo_code_38 : decode xb_Mo_code 38 = .ok (.iload 5, 2) := by decide +kernel
theorem xd_Mo_code_40 : decode xb_Mo_code 40 = .ok (.imul, 1) := by decide +kernel
theorem xd_Mo_code_41 : decode xb_Mo_code 41 = .ok (.iload_n 2, 1) := by decide +kernel
theorem xd_Mo_code_42 : decode xb_Mo_code 42 = .ok (.iadd, 1) := by decide +kernel
theorem xd_Mo_code_43 : decode xb_Mo_code 43 = .ok (.bipush 96, 2) := by decide +kernel
theorem xd_Mo_code_45 : decode xb_Mo_code 45 = .ok (.isub, 1) := by decide +kernel
theorem xd_Mo_code_46 : decode xb_Mo_code 46 = .ok (.istore 5, 2) := by decide +kernel
theorem xd_Mo_code_48 : decode xb_Mo_code 48 = .ok (.iload_n 3, 1) := by decide +kernel
theorem xd_Mo_code_49 : decode xb_Mo_code 49 = .ok (.ifCond .ne 8, 3) := by decide +kernel
theorem xd_Mo_code_52 : decode xb_Mo_code 52 = .ok (.iload 5, 2) := by decide +kernel
theorem xd_Mo_code_54 : decode xb_Mo_code 54 = .ok (.goto 13, 3) := by decide +kernel
theorem xd_Mo_code_57 : decode xb_Mo_code 57 = .ok (.bipush 32, 2) := by decide +kernel
theorem xd_Mo_code_59 : decode xb_Mo_code 59 = .ok (.iload 5, 2) := by decide +kernel
theorem xd_Mo_code_61 : decode xb_Mo_code 61 = .ok (.imul, 1) := by decide +kernel
theorem xd_Mo_code_62 : decode xb_Mo_code 62 = .ok (.iload_n 3, 1) := by decide +kernel
theorem xd_Mo_code_63 : decode xb_Mo_code 63 = .ok (.iadd, 1) := by decide +kernel
theorem xd_Mo_code_64 : decode xb_Mo_code 64 = .ok (.bipush 96, 2) := by decide +kernel
theorem xd_Mo_code_66 : decode xb_Mo_code 66 = .ok (.isub, 1) := by decide +kernel
theorem xd_Mo_code_67 : decode xb_Mo_code 67 = .ok (.istore 5, 2) := by decide +kernel
theorem xd_Mo_code_69 : decode xb_Mo_code 69 = .ok (.iload 4, 2) := by decide +kernel
theorem xd_Mo_code_71 : decode xb_Mo_code 71 = .ok (.ifCond .ne 8, 3) := by decide +kernel
theorem xd_Mo_code_74 : decode xb_Mo_code 74 = .ok (.iload 5, 2) := by decide +kernel
theorem xd_Mo_code_76 : decode xb_Mo_code 76 = .ok (.goto 14, 3) := by decide +kernel
theorem xd_Mo_code_79 : decode xb_Mo_code 79 = .ok (.bipush 32, 2) := by decide +kernel
theorem xd_Mo_code_81 : decode xb_Mo_code 81 = .ok (.iload 5, 2) := by decide +kernel
theorem xd_Mo_code_83 : decode xb_Mo_code 83 = .ok (.imul, 1) := by decide +kernel
theorem xd_Mo_code_84 : decode xb_Mo_code 84 = .ok (.iload 4, 2) := by decide +kernel
theorem xd_Mo_code_86 : decode xb_Mo_code 86 = .ok (.iadd, 1) := by decide +kernel
theorem xd_Mo_code_87 : decode xb_Mo_code 87 = .ok (.bipush 96, 2) := by decide +kernel
theorem xd_Mo_code_89 : decode xb_Mo_code 89 = .ok (.isub, 1) := by decide +kernel
theorem xd_Mo_code_90 : decode xb_Mo_code 90 = .ok (.ireturn, 1) := by decide +kernel
theorem xd_Mo_descriptorOf_0 : decode xb_Mo_descriptorOf 0 = .ok (.iconst 0, 1) := by decide +kernel
theorem xd_Mo_descriptorOf_1 : decode xb_Mo_descriptorOf 1 = .ok (.istore_n 3, 1) := by decide +kernel
theorem xd_Mo_descriptorOf_2 : decode xb_Mo_descriptorOf 2 = .ok (.iload_n 3, 1) := by decide +kernel
theorem xd_Mo_descriptorOf_3 : decode xb_Mo_descriptorOf 3 = .ok (.aload_n 0, 1) := by decide +kernel
theorem xd_Mo_descriptorOf_4 : decode xb_Mo_descriptorOf 4 = .ok (.getfield 140, 3) := by decide +kernel
theorem xd_Mo_descriptorOf_7 : decode xb_Mo_descriptorOf 7 = .ok (.if_icmp .ge 31, 3) := by decide +kernel
theorem xd_Mo_descriptorOf_10 : decode xb_Mo_descriptorOf 10 = .ok (.aload_n 0, 1) := by decide +kernel
theorem xd_Mo_descriptorOf_11 : decode xb_Mo_descriptorOf 11 = .ok (.getfield 20, 3) := by decide +kernel
theorem xd_Mo_descriptorOf_14 : decode xb_Mo_descriptorOf 14 = .ok (.iload_n 3, 1) := by decide +kernel
theorem xd_Mo_descriptorOf_15 : decode xb_Mo_descriptorOf 15 = .ok (.iaload, 1) := by decide +kernel
theorem xd_Mo_descriptorOf_16 : decode xb_Mo_descriptorOf 16 = .ok (.iload_n 1, 1) := by decide +kernel
theorem xd_Mo_descriptorOf_17 : decode xb_Mo_descriptorOf 17 = .ok (.if_icmp .ne 15, 3) := by decide +kernel
theorem xd_Mo_descriptorOf_20 : decode xb_Mo_descriptorOf 20 = .ok (.aload_n 0, 1) := by decide +kernel
theorem xd_Mo_descriptorOf_21 : decode xb_Mo_descriptorOf 21 = .ok (.getfield 23, 3) := by decide +kernel
theorem xd_Mo_descriptorOf_24 : decode xb_Mo_descriptorOf 24 = .ok (.iload_n 3, 1) := by decide +kernel
theorem xd_Mo_descriptorOf_25 : decode xb_Mo_descriptorOf 25 = .ok (.iaload, 1) := by decide +kernel
theorem xd_Mo_descriptorOf_26 : decode xb_Mo_descriptorOf 26 = .ok (.iload_n 2, 1) := by decide +kernel
theorem xd_Mo_descriptorOf_27 : decode xb_Mo_descriptorOf 27 = .ok (.if_icmp .ne 5, 3) := by decide +kernel
theorem xd_Mo_descriptorOf_30 : decode xb_Mo_descriptorOf 30 = .ok (.iload_n 3, 1) := by decide +kernel
theorem xd_Mo_descriptorOf_31 : decode xb_Mo_descriptorOf 31 = .ok (.ireturn, 1) := by decide +kernel
theorem xd_Mo_descriptorOf_32 : decode xb_Mo_descriptorOf 32 = .ok (.iinc 3 1, 3) := by decide +kernel
theorem xd_Mo_descriptorOf_35 : decode xb_Mo_descriptorOf 35 = .ok (.goto (-33), 3) := by decide +kernel
theorem xd_Mo_descriptorOf_38 : decode xb_Mo_descriptorOf 38 = .ok (.iconst (-1), 1) := by decide +kernel
theorem xd_Mo_descriptorOf_39 : decode xb_Mo_descriptorOf 39 = .ok (.ireturn, 1) := by decide +kernel
theorem xd_Mo_isIn_0 : decode xb_Mo_isIn 0 = .ok (.iconst 0, 1) := by decide +kernel
theorem xd_Mo_isIn_1 : decode xb_Mo_isIn 1 = .ok (.istore_n 3, 1) := by decide +kernel
theorem xd_Mo_isIn_2 : decode xb_Mo_isIn 2 = .ok (.bipush 12, 2) := by decide +kernel
theorem xd_Mo_isIn_4 : decode xb_Mo_isIn 4 = .ok (.iload_n 1, 1) := by decide +kernel
theorem xd_Mo_isIn_5 : decode xb_Mo_isIn 5 = .ok (.imul, 1) := by decide +kernel
theorem xd_Mo_isIn_6 : decode xb_Mo_isIn 6 = .ok (.istore 4, 2) := by decide +kernel
theorem xd_Mo_isIn_8 : decode xb_Mo_isIn 8 = .ok (.iload 4, 2) := by decide +kernel
theorem xd_Mo_isIn_10 : decode xb_Mo_isIn 10 = .ok (.bipush 12, 2) := by decide +kernel
theorem xd_Mo_isIn_12 : decode xb_Mo_isIn 12 = .ok (.iload_n 1, 1) := by decide +kernel
theorem xd_Mo_isIn_13 : decode xb_Mo_isIn 13 = .ok (.imul, 1) := by decide +kernel
theorem xd_Mo_isIn_14 : decode xb_Mo_isIn 14 = .ok (.aload_n 0, 1) := by decide +kernel
theorem xd_Mo_isIn_15 : decode xb_Mo_isIn 15 = .ok (.getfield 72, 3) := by decide +kernel
theorem xd_Mo_isIn_18 : decode xb_Mo_isIn 18 = .ok (.iload_n 1, 1) := by decide +kernel
theorem xd_Mo_isIn_19 : decode xb_Mo_isIn 19 = .ok (.iaload, 1) := by decide +kernel
theorem xd_Mo_isIn_20 : decode xb_Mo_isIn 20 = .ok (.iadd, 1) := by decide +kernel
theorem xd_Mo_isIn_21 : decode xb_Mo_isIn 21 = .ok (.if_icmp .ge 30, 3) := by decide +kernel
theorem xd_Mo_isIn_24 : decode xb_Mo_isIn 24 = .ok (.iload_n 3, 1) := by decide +kernel
theorem xd_Mo_isIn_25 : decode xb_Mo_isIn 25 = .ok (.ifCond .ne 14, 3) := by decide +kernel
theorem xd_Mo_isIn_28 : decode xb_Mo_isIn 28 = .ok (.aload_n 0, 1) := by decide +kernel
theorem xd_Mo_isIn_29 : decode xb_Mo_isIn 29 = .ok (.getfield 75, 3) := by decide +kernel
theorem xd_Mo_isIn_32 : decode xb_Mo_isIn 32 = .ok (.iload 4, 2) := by decide +kernel
theorem xd_Mo_isIn_34 : decode xb_Mo_isIn 34 = .ok (.iaload, 1) := by decide +kernel
theorem xd_Mo_isIn_35 : decode xb_Mo_isIn 35 = .ok (.iload_n 2, 1) := by decide +kernel
theorem xd_Mo_isIn_36 : decode xb_Mo_isIn 36 = .ok (.if_icmp .ne 7, 3) := by decide +kernel
theorem xd_Mo_isIn_39 : decode xb_Mo_isIn 39 = .ok (.iconst 1, 1) := by decide +kernel
theorem xd_Mo_isIn_40 : decode xb_Mo_isIn 40 = .ok (.goto 4, 3) := by decide +kernel
theorem xd_Mo_isIn_43 : decode xb_Mo_isIn 43 = .ok (.iconst 0, 1) := by decide +kernel
theorem xd_Mo_isIn_44 : decode xb_Mo_isIn 44 = .ok (.istore_n 3, 1) := by decide +kernel
theorem xd_Mo_isIn_45 : decode xb_Mo_isIn 45 = .ok (.iinc 4 1, 3) := by decide +kernel
theorem xd_Mo_isIn_48 : decode xb_Mo_isIn 48 = .ok (.goto (-40), 3) := by decide +kernel
theorem xd_Mo_isIn_51 : decode xb_Mo_isIn 51 = .ok (.iload_n 3, 1) := by decide +kernel
theorem xd_Mo_isIn_52 : decode xb_Mo_isIn 52 = .ok (.ireturn, 1) := by decide +kernel
theorem xd_Mo_isShut_0 : decode xb_Mo_isShut 0 = .ok (.aload_n 0, 1) := by decide +kernel
theorem xd_Mo_isShut_1 : decode xb_Mo_isShut 1 = .ok (.getfield 140, 3) := by decide +kernel
theorem xd_Mo_isShut_4 : decode xb_Mo_isShut 4 = .ok (.ifCond .eq 17, 3) := by decide +kernel
theorem xd_Mo_isShut_7 : decode xb_Mo_isShut 7 = .ok (.aload_n 0, 1) := by decide +kernel
theorem xd_Mo_isShut_8 : decode xb_Mo_isShut 8 = .ok (.getfield 45, 3) := by decide +kernel
theorem xd_Mo_isShut_11 : decode xb_Mo_isShut 11 = .ok (.aload_n 0, 1) := by decide +kernel
theorem xd_Mo_isShut_12 : decode xb_Mo_isShut 12 = .ok (.getfield 140, 3) := by decide +kernel
theorem xd_Mo_isShut_15 : decode xb_Mo_isShut 15 = .ok (.iconst 1, 1) := by decide +kernel
theorem xd_Mo_isShut_16 : decode xb_Mo_isShut 16 = .ok (.isub, 1) := by decide +kernel
theorem xd_Mo_isShut_17 : decode xb_Mo_isShut 17 = .ok (.baload, 1) := by decide +kernel
theorem xd_Mo_isShut_18 : decode xb_Mo_isShut 18 = .ok (.ifCond .eq 7, 3) := by decide +kernel
theorem xd_Mo_isShut_21 : decode xb_Mo_isShut 21 = .ok (.iconst 1, 1) := by decide +kernel
theorem xd_Mo_isShut_22 : decode xb_Mo_isShut 22 = .ok (.goto 4, 3) := by decide +kernel
theorem xd_Mo_isShut_25 : decode xb_Mo_isShut 25 = .ok (.iconst 0, 1) := by decide +kernel
theorem xd_Mo_isShut_26 : decode xb_Mo_isShut 26 = .ok (.ireturn, 1) := by decide +kernel
theorem xd_Mo_letter_0 : decode xb_Mo_letter 0 = .ok (.aload_n 0, 1) := by decide +kernel
theorem xd_Mo_letter_1 : decode xb_Mo_letter 1 = .ok (.getfield 13, 3) := by decide +kernel
theorem xd_Mo_letter_4 : decode xb_Mo_letter 4 = .ok (.iload_n 1, 1) := by decide +kernel
theorem xd_Mo_letter_5 : decode xb_Mo_letter 5 = .ok (.iaload, 1) := by decide +kernel
theorem xd_Mo_letter_6 : decode xb_Mo_letter 6 = .ok (.iload_n 2, 1) := by decide +kernel
theorem xd_Mo_letter_7 : decode xb_Mo_letter 7 = .ok (.iadd, 1) := by decide +kernel
theorem xd_Mo_letter_8 : decode xb_Mo_letter 8 = .ok (.aload_n 0, 1) := by decide +kernel
theorem xd_Mo_letter_9 : decode xb_Mo_letter 9 = .ok (.getfield 17, 3) := by decide +kernel
theorem xd_Mo_letter_12 : decode xb_Mo_letter 12 = .ok (.iload_n 1, 1) := by decide +kernel
theorem xd_Mo_letter_13 : decode xb_Mo_letter 13 = .ok (.iaload, 1) := by decide +kernel
theorem xd_Mo_letter_14 : decode xb_Mo_letter 14 = .ok (.if_icmp .ge 19, 3) := by decide +kernel
theorem xd_Mo_letter_17 : decode xb_Mo_letter 17 = .ok (.aload_n 0, 1) := by decide +kernel
theorem xd_Mo_letter_18 : decode xb_Mo_letter 18 = .ok (.getfield 7, 3) := by decide +kernel
theorem xd_Mo_letter_21 : decode xb_Mo_letter 21 = .ok (.aload_n 0, 1) := by decide +kernel
theorem xd_Mo_letter_22 : decode xb_Mo_letter 22 = .ok (.getfield 13, 3) := by decide +kernel
theorem xd_Mo_letter_25 : decode xb_Mo_letter 25 = .ok (.iload_n 1, 1) := by decide +kernel
theorem xd_Mo_letter_26 : decode xb_Mo_letter 26 = .ok (.iaload, 1) := by decide +kernel
theorem xd_Mo_letter_27 : decode xb_Mo_letter 27 = .ok (.iload_n 2, 1) := by decide +kernel
theorem xd_Mo_letter_28 : decode xb_Mo_letter 28 = .ok (.iadd, 1) := by decide +kernel
theorem xd_Mo_letter_29 : decode xb_Mo_letter 29 = .ok (.caload, 1) := by decide +kernel
theorem xd_Mo_letter_30 : decode xb_Mo_letter 30 = .ok (.goto 4, 3) := by decide +kernel
theorem xd_Mo_letter_33 : decode xb_Mo_letter 33 = .ok (.iconst 0, 1) := by decide +kernel
theorem xd_Mo_letter_34 : decode xb_Mo_letter 34 = .ok (.ireturn, 1) := by decide +kernel
theorem xd_Mo_nameOf_0 : decode xb_Mo_nameOf 0 = .ok (.iconst 0, 1) := by decide +kernel
theorem xd_Mo_nameOf_1 : decode xb_Mo_nameOf 1 = .ok (.istore_n 2, 1) := by decide +kernel
theorem xd_Mo_nameOf_2 : decode xb_Mo_nameOf 2 = .ok (.aload_n 0, 1) := by decide +kernel
theorem xd_Mo_nameOf_3 : decode xb_Mo_nameOf 3 = .ok (.getfield 13, 3) := by decide +kernel
theorem xd_Mo_nameOf_6 : decode xb_Mo_nameOf 6 = .ok (.iload_n 1, 1) := by decide +kernel
theorem xd_Mo_nameOf_7 : decode xb_Mo_nameOf 7 = .ok (.iaload, 1) := by decide +kernel
theorem xd_Mo_nameOf_8 : decode xb_Mo_nameOf 8 = .ok (.istore_n 3, 1) := by decide +kernel
theorem xd_Mo_nameOf_9 : decode xb_Mo_nameOf 9 = .ok (.iload_n 3, 1) := by decide +kernel
theorem xd_Mo_nameOf_10 : decode xb_Mo_nameOf 10 = .ok (.aload_n 0, 1) := by decide +kernel
theorem xd_Mo_nameOf_11 : decode xb_Mo_nameOf 11 = .ok (.getfield 17, 3) := by decide +kernel
theorem xd_Mo_nameOf_14 : decode xb_Mo_nameOf 14 = .ok (.iload_n 1, 1) := by decide +kernel
theorem xd_Mo_nameOf_15 : decode xb_Mo_nameOf 15 = .ok (.iaload, 1) := by decide +kernel
theorem xd_Mo_nameOf_16 : decode xb_Mo_nameOf 16 = .ok (.if_icmp .ge 65, 3) := by decide +kernel
theorem xd_Mo_nameOf_19 : decode xb_Mo_nameOf 19 = .ok (.aload_n 0, 1) := by decide +kernel
theorem xd_Mo_nameOf_20 : decode xb_Mo_nameOf 20 = .ok (.getfield 7, 3) := by decide +kernel
theorem xd_Mo_nameOf_23 : decode xb_Mo_nameOf 23 = .ok (.iload_n 3, 1) := by decide +kernel
theorem xd_Mo_nameOf_24 : decode xb_Mo_nameOf 24 = .ok (.caload, 1) := by decide +kernel
theorem xd_Mo_nameOf_25 : decode xb_Mo_nameOf 25 = .ok (.bipush 97, 2) := by decide +kernel
theorem xd_Mo_nameOf_27 : decode xb_Mo_nameOf 27 = .ok (.if_icmp .lt 31, 3) := by decide +kernel
theorem xd_Mo_nameOf_30 : decode xb_Mo_nameOf 30 = .ok (.aload_n 0, 1) := by decide +kernel
theorem xd_Mo_nameOf_31 : decode xb_Mo_nameOf 31 = .ok (.getfield 7, 3) := by decide +kernel
theorem xd_Mo_nameOf_34 : decode xb_Mo_nameOf 34 = .ok (.iload_n 3, 1) := by decide +kernel
theorem xd_Mo_nameOf_35 : decode xb_Mo_nameOf 35 = .ok (.caload, 1) := by decide +kernel
theorem xd_Mo_nameOf_36 : decode xb_Mo_nameOf 36 = .ok (.bipush 122, 2) := by decide +kernel
theorem xd_Mo_nameOf_38 : decode xb_Mo_nameOf 38 = .ok (.if_icmp .gt 20, 3) := by decide +kernel
theorem xd_Mo_nameOf_41 : decode xb_Mo_nameOf 41 = .ok (.aload_n 0, 1) := by decide +kernel
theorem xd_Mo_nameOf_42 : decode xb_Mo_nameOf 42 = .ok (.getfield 17, 3) := by decide +kernel
theorem xd_Mo_nameOf_45 : decode xb_Mo_nameOf 45 = .ok (.iload_n 1, 1) := by decide +kernel
theorem xd_Mo_nameOf_46 : decode xb_Mo_nameOf 46 = .ok (.iaload, 1) := by decide +kernel
theorem xd_Mo_nameOf_47 : decode xb_Mo_nameOf 47 = .ok (.aload_n 0, 1) := by decide +kernel
theorem xd_Mo_nameOf_48 : decode xb_Mo_nameOf 48 = .ok (.getfield 13, 3) := by decide +kernel
theorem xd_Mo_nameOf_51 : decode xb_Mo_nameOf 51 = .ok (.iload_n 1, 1) := by decide +kernel
theorem xd_Mo_nameOf_52 : decode xb_Mo_nameOf 52 = .ok (.iaload, 1) := by decide +kernel
theorem xd_Mo_nameOf_53 : decode xb_Mo_nameOf 53 = .ok (.isub, 1) := by decide +kernel
theorem xd_Mo_nameOf_54 : decode xb_Mo_nameOf 54 = .ok (.iconst 4, 1) := by decide +kernel
theorem xd_Mo_nameOf_55 : decode xb_Mo_nameOf 55 = .ok (.if_icmp .le 5, 3) := by decide +kernel
theorem xd_Mo_nameOf_58 : decode xb_Mo_nameOf 58 = .ok (.iconst 0, 1) := by decide +kernel
theorem xd_Mo_nameOf_59 : decode xb_Mo_nameOf 59 = .ok (.ireturn, 1) := by decide +kernel
theorem xd_Mo_nameOf_60 : decode xb_Mo_nameOf 60 = .ok (.bipush 27, 2) := by decide +kernel
theorem xd_Mo_nameOf_62 : decode xb_Mo_nameOf 62 = .ok (.iload_n 2, 1) := by decide +kernel
theorem xd_Mo_nameOf_63 : decode xb_Mo_nameOf 63 = .ok (.imul, 1) := by decide +kernel
theorem xd_Mo_nameOf_64 : decode xb_Mo_nameOf 64 = .ok (.aload_n 0, 1) := by decide +kernel
theorem xd_Mo_nameOf_65 : decode xb_Mo_nameOf 65 = .ok (.getfield 7, 3) := by decide +kernel
theorem xd_Mo_nameOf_68 : decode xb_Mo_nameOf 68 = .ok (.iload_n 3, 1) := by decide +kernel
theorem xd_Mo_nameOf_69 : decode xb_Mo_nameOf 69 = .ok (.caload, 1) := by decide +kernel
theorem xd_Mo_nameOf_70 : decode xb_Mo_nameOf 70 = .ok (.iadd, 1) := by decide +kernel
theorem xd_Mo_nameOf_71 : decode xb_Mo_nameOf 71 = .ok (.bipush 96, 2) := by decide +kernel
theorem xd_Mo_nameOf_73 : decode xb_Mo_nameOf 73 = .ok (.isub, 1) := by decide +kernel
theorem xd_Mo_nameOf_74 : decode xb_Mo_nameOf 74 = .ok (.istore_n 2, 1) := by decide +kernel
theorem xd_Mo_nameOf_75 : decode xb_Mo_nameOf 75 = .ok (.iinc 3 1, 3) := by decide +kernel
theorem xd_Mo_nameOf_78 : decode xb_Mo_nameOf 78 = .ok (.goto (-69), 3) := by decide +kernel
theorem xd_Mo_nameOf_81 : decode xb_Mo_nameOf 81 = .ok (.iload_n 2, 1) := by decide +kernel
theorem xd_Mo_nameOf_82 : decode xb_Mo_nameOf 82 = .ok (.ireturn, 1) := by decide +kernel
theorem xd_Mo_newDescriptor_0 : decode xb_Mo_newDescriptor 0 = .ok (.aload_n 0, 1) := by decide +kernel
theorem xd_Mo_newDescriptor_1 : decode xb_Mo_newDescriptor 1 = .ok (.getfield 94, 3) := by decide +kernel
theorem xd_Mo_newDescriptor_4 : decode xb_Mo_newDescriptor 4 = .ok (.iconst 3, 1) := by decide +kernel
theorem xd_Mo_newDescriptor_5 : decode xb_Mo_newDescriptor 5 = .ok (.if_icmp .ne 50, 3) := by decide +kernel
theorem xd_Mo_newDescriptor_8 : decode xb_Mo_newDescriptor 8 = .ok (.aload_n 0, 1) := by decide +kernel
theorem xd_Mo_newDescriptor_9 : decode xb_Mo_newDescriptor 9 = .ok (.getfield 17, 3) := by decide +kernel
theorem xd_Mo_newDescriptor_12 : decode xb_Mo_newDescriptor 12 = .ok (.iconst 1, 1) := by decide +kernel
theorem xd_Mo_newDescriptor_13 : decode xb_Mo_newDescriptor 13 = .ok (.iaload, 1) := by decide +kernel
theorem xd_Mo_newDescriptor_14 : decode xb_Mo_newDescriptor 14 = .ok (.aload_n 0, 1) := by decide +kernel
theorem xd_Mo_newDescriptor_15 : decode xb_Mo_newDescriptor 15 = .ok (.getfield 13, 3) := by decide +kernel
theorem xd_Mo_newDescriptor_18 : decode xb_Mo_newDescriptor 18 = .ok (.iconst 1, 1) := by decide +kernel
theorem xd_Mo_newDescriptor_19 : decode xb_Mo_newDescriptor 19 = .ok (.iaload, 1) := by decide +kernel
theorem xd_Mo_newDescriptor_20 : decode xb_Mo_newDescriptor 20 = .ok (.iconst 1, 1) := by decide +kernel
theorem xd_Mo_newDescriptor_21 : decode xb_Mo_newDescriptor 21 = .ok (.iadd, 1) := by decide +kernel
theorem xd_Mo_newDescriptor_22 : decode xb_Mo_newDescriptor 22 = .ok (.if_icmp .ne 33, 3) := by decide +kernel
theorem xd_Mo_newDescriptor_25 : decode xb_Mo_newDescriptor 25 = .ok (.aload_n 0, 1) := by decide +kernel
theorem xd_Mo_newDescriptor_26 : decode xb_Mo_newDescriptor 26 = .ok (.iconst 1, 1) := by decide +kernel
theorem xd_Mo_newDescriptor_27 : decode xb_Mo_newDescriptor 27 = .ok (.iconst 0, 1) := by decide +kernel
theorem xd_Mo_newDescriptor_28 : decode xb_Mo_newDescriptor 28 = .ok (.invokevirtual 97, 3) := by decide +kernel
theorem xd_Mo_newDescriptor_31 : decode xb_Mo_newDescriptor 31 = .ok (.bipush 48, 2) := by decide +kernel
theorem xd_Mo_newDescriptor_33 : decode xb_Mo_newDescriptor 33 = .ok (.if_icmp .lt 22, 3) := by decide +kernel
theorem xd_Mo_newDescriptor_36 : decode xb_Mo_newDescriptor 36 = .ok (.aload_n 0, 1) := by decide +kernel
theorem xd_Mo_newDescriptor_37 : decode xb_Mo_newDescriptor 37 = .ok (.iconst 1, 1) := by decide +kernel
theorem xd_Mo_newDescriptor_38 : decode xb_Mo_newDescriptor 38 = .ok (.iconst 0, 1) := by decide +kernel
theorem xd_Mo_newDescriptor_39 : decode xb_Mo_newDescriptor 39 = .ok (.invokevirtual 97, 3) := by decide +kernel
theorem xd_Mo_newDescriptor_42 : decode xb_Mo_newDescriptor 42 = .ok (.bipush 49, 2) := by decide +kernel
theorem xd_Mo_newDescriptor_44 : decode xb_Mo_newDescriptor 44 = .ok (.if_icmp .gt 11, 3) := by decide +kernel
theorem xd_Mo_newDescriptor_47 : decode xb_Mo_newDescriptor 47 = .ok (.aload_n 0, 1) := by decide +kernel
theorem xd_Mo_newDescriptor_48 : decode xb_Mo_newDescriptor 48 = .ok (.iconst 2, 1) := by decide +kernel
theorem xd_Mo_newDescriptor_49 : decode xb_Mo_newDescriptor 49 = .ok (.invokevirtual 133, 3) := by decide +kernel
theorem xd_Mo_newDescriptor_52 : decode xb_Mo_newDescriptor 52 = .ok (.ifCond .ne 5, 3) := by decide +kernel
theorem xd_Mo_newDescriptor_55 : decode xb_Mo_newDescriptor 55 = .ok (.iconst (-1), 1) := by decide +kernel
theorem xd_Mo_newDescriptor_56 : decode xb_Mo_newDescriptor 56 = .ok (.ireturn, 1) := by decide +kernel
theorem xd_Mo_newDescriptor_57 : decode xb_Mo_newDescriptor 57 = .ok (.aload_n 0, 1) := by decide +kernel
theorem xd_Mo_newDescriptor_58 : decode xb_Mo_newDescriptor 58 = .ok (.iconst 1, 1) := by decide +kernel
theorem xd_Mo_newDescriptor_59 : decode xb_Mo_newDescriptor 59 = .ok (.iconst 0, 1) := by decide +kernel
theorem xd_Mo_newDescriptor_60 : decode xb_Mo_newDescriptor 60 = .ok (.invokevirtual 97, 3) := by decide +kernel
theorem xd_Mo_newDescriptor_63 : decode xb_Mo_newDescriptor 63 = .ok (.bipush 48, 2) := by decide +kernel
theorem xd_Mo_newDescriptor_65 : decode xb_Mo_newDescriptor 65 = .ok (.isub, 1) := by decide +kernel
theorem xd_Mo_newDescriptor_66 : decode xb_Mo_newDescriptor 66 = .ok (.istore_n 1, 1) := by decide +kernel
theorem xd_Mo_newDescriptor_67 : decode xb_Mo_newDescriptor 67 = .ok (.aload_n 0, 1) := by decide +kernel
theorem xd_Mo_newDescriptor_68 : decode xb_Mo_newDescriptor 68 = .ok (.iconst 2, 1) := by decide +kernel
theorem xd_Mo_newDescriptor_69 : decode xb_Mo_newDescriptor 69 = .ok (.invokevirtual 133, 3) := by decide +kernel
theorem xd_Mo_newDescriptor_72 : decode xb_Mo_newDescriptor 72 = .ok (.istore_n 2, 1) := by decide +kernel
theorem xd_Mo_newDescriptor_73 : decode xb_Mo_newDescriptor 73 = .ok (.aload_n 0, 1) := by decide +kernel
theorem xd_Mo_newDescriptor_74 : decode xb_Mo_newDescriptor 74 = .ok (.iload_n 1, 1) := by decide +kernel
theorem xd_Mo_newDescriptor_75 : decode xb_Mo_newDescriptor 75 = .ok (.iload_n 2, 1) := by decide +kernel
theorem xd_Mo_newDescriptor_76 : decode xb_Mo_newDescriptor 76 = .ok (.invokevirtual 136, 3) := by decide +kernel
theorem xd_Mo_newDescriptor_79 : decode xb_Mo_newDescriptor 79 = .ok (.ifCond .lt 5, 3) := by decide +kernel
theorem xd_Mo_newDescriptor_82 : decode xb_Mo_newDescriptor 82 = .ok (.iconst (-1), 1) := by decide +kernel
theorem xd_Mo_newDescriptor_83 : decode xb_Mo_newDescriptor 83 = .ok (.ireturn, 1) := by decide +kernel
theorem xd_Mo_newDescriptor_84 : decode xb_Mo_newDescriptor 84 = .ok (.aload_n 0, 1) := by decide +kernel
theorem xd_Mo_newDescriptor_85 : decode xb_Mo_newDescriptor 85 = .ok (.getfield 140, 3) := by decide +kernel
theorem xd_Mo_newDescriptor_88 : decode xb_Mo_newDescriptor 88 = .ok (.bipush 12, 2) := by decide +kernel
theorem xd_Mo_newDescriptor_90 : decode xb_Mo_newDescriptor 90 = .ok (.if_icmp .ne 6, 3) := by decide +kernel
theorem xd_Mo_newDescriptor_93 : decode xb_Mo_newDescriptor 93 = .ok (.bipush (-2), 2) := by decide +kernel
theorem xd_Mo_newDescriptor_95 : decode xb_Mo_newDescriptor 95 = .ok (.ireturn, 1) := by decide +kernel
theorem xd_Mo_newDescriptor_96 : decode xb_Mo_newDescriptor 96 = .ok (.aload_n 0, 1) := by decide +kernel
theorem xd_Mo_newDescriptor_97 : decode xb_Mo_newDescriptor 97 = .ok (.getfield 20, 3) := by decide +kernel
theorem xd_Mo_newDescriptor_100 : decode xb_Mo_newDescriptor 100 = .ok (.aload_n 0, 1) := by decide +kernel
theorem xd_Mo_newDescriptor_101 : decode xb_Mo_newDescriptor 101 = .ok (.getfield 140, 3) := by decide +kernel
theorem xd_Mo_newDescriptor_104 : decode xb_Mo_newDescriptor 104 = .ok (.iload_n 1, 1) := by decide +kernel
theorem xd_Mo_newDescriptor_105 : decode xb_Mo_newDescriptor 105 = .ok (.iastore, 1) := by decide +kernel
theorem xd_Mo_newDescriptor_106 : decode xb_Mo_newDescriptor 106 = .ok (.aload_n 0, 1) := by decide +kernel
theorem xd_Mo_newDescriptor_107 : decode xb_Mo_newDescriptor 107 = .ok (.getfield 23, 3) := by decide +kernel
theorem xd_Mo_newDescriptor_110 : decode xb_Mo_newDescriptor 110 = .ok (.aload_n 0, 1) := by decide +kernel
theorem xd_Mo_newDescriptor_111 : decode xb_Mo_newDescriptor 111 = .ok (.getfield 140, 3) := by decide +kernel
theorem xd_Mo_newDescriptor_114 : decode xb_Mo_newDescriptor 114 = .ok (.iload_n 2, 1) := by decide +kernel
theorem xd_Mo_newDescriptor_115 : decode xb_Mo_newDescriptor 115 = .ok (.iastore, 1) := by decide +kernel
theorem xd_Mo_newDescriptor_116 : decode xb_Mo_newDescriptor 116 = .ok (.aload_n 0, 1) := by decide +kernel
theorem xd_Mo_newDescriptor_117 : decode xb_Mo_newDescriptor 117 = .ok (.dup, 1) := by decide +kernel
theorem xd_Mo_newDescriptor_118 : decode xb_Mo_newDescriptor 118 = .ok (.getfield 140, 3) := by decide +kernel
theorem xd_Mo_newDescriptor_121 : decode xb_Mo_newDescriptor 121 = .ok (.iconst 1, 1) := by decide +kernel
theorem xd_Mo_newDescriptor_122 : decode xb_Mo_newDescriptor 122 = .ok (.iadd, 1) := by decide +kernel
theorem xd_Mo_newDescriptor_123 : decode xb_Mo_newDescriptor 123 = .ok (.putfield 140, 3) := by decide +kernel
theorem xd_Mo_newDescriptor_126 : decode xb_Mo_newDescriptor 126 = .ok (.iconst 1, 1) := by decide +kernel
theorem xd_Mo_newDescriptor_127 : decode xb_Mo_newDescriptor 127 = .ok (.ireturn, 1) := by decide +kernel
theorem xd_Mo_packageOf_0 : decode xb_Mo_packageOf 0 = .ok (.bipush 6, 2) := by decide +kernel
theorem xd_Mo_packageOf_2 : decode xb_Mo_packageOf 2 = .ok (.iload_n 1, 1) := by decide +kernel
theorem xd_Mo_packageOf_3 : decode xb_Mo_packageOf 3 = .ok (.imul, 1) := by decide +kernel
theorem xd_Mo_packageOf_4 : decode xb_Mo_packageOf 4 = .ok (.istore_n 3, 1) := by decide +kernel
theorem xd_Mo_packageOf_5 : decode xb_Mo_packageOf 5 = .ok (.iload_n 3, 1) := by decide +kernel
theorem xd_Mo_packageOf_6 : decode xb_Mo_packageOf 6 = .ok (.bipush 6, 2) := by decide +kernel
theorem xd_Mo_packageOf_8 : decode xb_Mo_packageOf 8 = .ok (.iload_n 1, 1) := by decide +kernel
theorem xd_Mo_packageOf_9 : decode xb_Mo_packageOf 9 = .ok (.imul, 1) := by decide +kernel
theorem xd_Mo_packageOf_10 : decode xb_Mo_packageOf 10 = .ok (.aload_n 0, 1) := by decide +kernel
theorem xd_Mo_packageOf_11 : decode xb_Mo_packageOf 11 = .ok (.getfield 26, 3) := by decide +kernel
theorem xd_Mo_packageOf_14 : decode xb_Mo_packageOf 14 = .ok (.iload_n 1, 1) := by decide +kernel
theorem xd_Mo_packageOf_15 : decode xb_Mo_packageOf 15 = .ok (.iaload, 1) := by decide +kernel
theorem xd_Mo_packageOf_16 : decode xb_Mo_packageOf 16 = .ok (.iadd, 1) := by decide +kernel
theorem xd_Mo_packageOf_17 : decode xb_Mo_packageOf 17 = .ok (.if_icmp .ge 21, 3) := by decide +kernel
theorem xd_Mo_packageOf_20 : decode xb_Mo_packageOf 20 = .ok (.aload_n 0, 1) := by decide +kernel
theorem xd_Mo_packageOf_21 : decode xb_Mo_packageOf 21 = .ok (.getfield 29, 3) := by decide +kernel
theorem xd_Mo_packageOf_24 : decode xb_Mo_packageOf 24 = .ok (.iload_n 3, 1) := by decide +kernel
theorem xd_Mo_packageOf_25 : decode xb_Mo_packageOf 25 = .ok (.iaload, 1) := by decide +kernel
theorem xd_Mo_packageOf_26 : decode xb_Mo_packageOf 26 = .ok (.iload_n 2, 1) := by decide +kernel
theorem xd_Mo_packageOf_27 : decode xb_Mo_packageOf 27 = .ok (.if_icmp .ne 5, 3) := by decide +kernel
theorem xd_Mo_packageOf_30 : decode xb_Mo_packageOf 30 = .ok (.iload_n 3, 1) := by decide +kernel
theorem xd_Mo_packageOf_31 : decode xb_Mo_packageOf 31 = .ok (.ireturn, 1) := by decide +kernel
theorem xd_Mo_packageOf_32 : decode xb_Mo_packageOf 32 = .ok (.iinc 3 1, 3) := by decide +kernel
theorem xd_Mo_packageOf_35 : decode xb_Mo_packageOf 35 = .ok (.goto (-30), 3) := by decide +kernel
theorem xd_Mo_packageOf_38 : decode xb_Mo_packageOf 38 = .ok (.iconst (-1), 1) := by decide +kernel
theorem xd_Mo_packageOf_39 : decode xb_Mo_packageOf 39 = .ok (.ireturn, 1) := by decide +kernel
theorem xd_Mo_says_0 : decode xb_Mo_says 0 = .ok (.iconst 0, 1) := by decide +kernel
theorem xd_Mo_says_1 : decode xb_Mo_says 1 = .ok (.istore 4, 2) := by decide +kernel
theorem xd_Mo_says_3 : decode xb_Mo_says 3 = .ok (.iconst 0, 1) := by decide +kernel
theorem xd_Mo_says_4 : decode xb_Mo_says 4 = .ok (.istore 5, 2) := by decide +kernel
theorem xd_Mo_says_6 : decode xb_Mo_says 6 = .ok (.iconst 0, 1) := by decide +kernel
theorem xd_Mo_says_7 : decode xb_Mo_says 7 = .ok (.istore 6, 2) := by decide +kernel
theorem xd_Mo_says_9 : decode xb_Mo_says 9 = .ok (.iload 6, 2) := by decide +kernel
theorem xd_Mo_says_11 : decode xb_Mo_says 11 = .ok (.iconst 5, 1) := by decide +kernel
theorem xd_Mo_says_12 : decode xb_Mo_says 12 = .ok (.if_icmp .ge 42, 3) := by decide +kernel
theorem xd_Mo_says_15 : decode xb_Mo_says 15 = .ok (.aload_n 0, 1) := by decide +kernel
theorem xd_Mo_says_16 : decode xb_Mo_says 16 = .ok (.iload_n 1, 1) := by decide +kernel
theorem xd_Mo_says_17 : decode xb_Mo_says 17 = .ok (.iload 6, 2) := by decide +kernel
theorem xd_Mo_says_19 : decode xb_Mo_says 19 = .ok (.invokevirtual 97, 3) := by decide +kernel
theorem xd_Mo_says_22 : decode xb_Mo_says 22 = .ok (.ifCond .ne 8, 3) := by decide +kernel
theorem xd_Mo_says_25 : decode xb_Mo_says 25 = .ok (.iload 4, 2) := by decide +kernel
theorem xd_Mo_says_27 : decode xb_Mo_says 27 = .ok (.goto 19, 3) := by decide +kernel
theorem xd_Mo_says_30 : decode xb_Mo_says 30 = .ok (.bipush 32, 2) := by decide +kernel
theorem xd_Mo_says_32 : decode xb_Mo_says 32 = .ok (.iload 4, 2) := by decide +kernel
theorem xd_Mo_says_34 : decode xb_Mo_says 34 = .ok (.imul, 1) := by decide +kernel
theorem xd_Mo_says_35 : decode xb_Mo_says 35 = .ok (.aload_n 0, 1) := by decide +kernel
theorem xd_Mo_says_36 : decode xb_Mo_says 36 = .ok (.iload_n 1, 1) := by decide +kernel
theorem xd_Mo_says_37 : decode xb_Mo_says 37 = .ok (.iload 6, 2) := by decide +kernel
theorem xd_Mo_says_39 : decode xb_Mo_says 39 = .ok (.invokevirtual 97, 3) := by decide +kernel
theorem xd_Mo_says_42 : decode xb_Mo_says 42 = .ok (.bipush 31, 2) := by decide +kernel
theorem xd_Mo_says_44 : decode xb_Mo_says 44 = .ok (.iand, 1) := by decide +kernel
theorem xd_Mo_says_45 : decode xb_Mo_says 45 = .ok (.iadd, 1) := by decide +kernel
theorem xd_Mo_says_46 : decode xb_Mo_says 46 = .ok (.istore 4, 2) := by decide +kernel
theorem xd_Mo_says_48 : decode xb_Mo_says 48 = .ok (.iinc 6 1, 3) := by decide +kernel
theorem xd_Mo_says_51 : decode xb_Mo_says 51 = .ok (.goto (-42), 3) := by decide +kernel
theorem xd_Mo_says_54 : decode xb_Mo_says 54 = .ok (.iconst 5, 1) := by decide +kernel
theorem xd_Mo_says_55 : decode xb_Mo_says 55 = .ok (.istore 6, 2) := by decide +kernel
theorem xd_Mo_says_57 : decode xb_Mo_says 57 = .ok (.iload 6, 2) := by decide +kernel
theorem xd_Mo_says_59 : decode xb_Mo_says 59 = .ok (.bipush 10, 2) := by decide +kernel
theorem xd_Mo_says_61 : decode xb_Mo_says 61 = .ok (.if_icmp .ge 42, 3) := by decide +kernel
theorem xd_Mo_says_64 : decode xb_Mo_says 64 = .ok (.aload_n 0, 1) := by decide +kernel
theorem xd_Mo_says_65 : decode xb_Mo_says 65 = .ok (.iload_n 1, 1) := by decide +kernel
theorem xd_Mo_says_66 : decode xb_Mo_says 66 = .ok (.iload 6, 2) := by decide +kernel
theorem xd_Mo_says_68 : decode xb_Mo_says 68 = .ok (.invokevirtual 97, 3) := by decide +kernel
theorem xd_Mo_says_71 : decode xb_Mo_says 71 = .ok (.ifCond .ne 8, 3) := by decide +kernel
theorem xd_Mo_says_74 : decode xb_Mo_says 74 = .ok (.iload 5, 2) := by decide +kernel
theorem xd_Mo_says_76 : decode xb_Mo_says 76 = .ok (.goto 19, 3) := by decide +kernel
theorem xd_Mo_says_79 : decode xb_Mo_says 79 = .ok (.bipush 32, 2) := by decide +kernel
theorem xd_Mo_says_81 : decode xb_Mo_says 81 = .ok (.iload 5, 2) := by decide +kernel
theorem xd_Mo_says_83 : decode xb_Mo_says 83 = .ok (.imul, 1) := by decide +kernel
theorem xd_Mo_says_84 : decode xb_Mo_says 84 = .ok (.aload_n 0, 1) := by decide +kernel
theorem xd_Mo_says_85 : decode xb_Mo_says 85 = .ok (.iload_n 1, 1) := by decide +kernel
theorem xd_Mo_says_86 : decode xb_Mo_says 86 = .ok (.iload 6, 2) := by decide +kernel
theorem xd_Mo_says_88 : decode xb_Mo_says 88 = .ok (.invokevirtual 97, 3) := by decide +kernel
theorem xd_Mo_says_91 : decode xb_Mo_says 91 = .ok (.bipush 31, 2) := by decide +kernel
theorem xd_Mo_says_93 : decode xb_Mo_says 93 = .ok (.iand, 1) := by decide +kernel
theorem xd_Mo_says_94 : decode xb_Mo_says 94 = .ok (.iadd, 1) := by decide +kernel
theorem xd_Mo_says_95 : decode xb_Mo_says 95 = .ok (.istore 5, 2) := by decide +kernel
theorem xd_Mo_says_97 : decode xb_Mo_says 97 = .ok (.iinc 6 1, 3) := by decide +kernel
theorem xd_Mo_says_100 : decode xb_Mo_says 100 = .ok (.goto (-43), 3) := by decide +kernel
theorem xd_Mo_says_103 : decode xb_Mo_says 103 = .ok (.aload_n 0, 1) := by decide +kernel
theorem xd_Mo_says_104 : decode xb_Mo_says 104 = .ok (.getfield 17, 3) := by decide +kernel
theorem xd_Mo_says_107 : decode xb_Mo_says 107 = .ok (.iload_n 1, 1) := by decide +kernel
theorem xd_Mo_says_108 : decode xb_Mo_says 108 = .ok (.iaload, 1) := by decide +kernel
theorem xd_Mo_says_109 : decode xb_Mo_says 109 = .ok (.aload_n 0, 1) := by decide +kernel
theorem xd_Mo_says_110 : decode xb_Mo_says 110 = .ok (.getfield 13, 3) := by decide +kernel
theorem xd_Mo_says_113 : decode xb_Mo_says 113 = .ok (.iload_n 1, 1) := by decide +kernel
theorem xd_Mo_says_114 : decode xb_Mo_says 114 = .ok (.iaload, 1) := by decide +kernel
theorem xd_Mo_says_115 : decode xb_Mo_says 115 = .ok (.isub, 1) := by decide +kernel
theorem xd_Mo_says_116 : decode xb_Mo_says 116 = .ok (.bipush 10, 2) := by decide +kernel
theorem xd_Mo_says_118 : decode xb_Mo_says 118 = .ok (.if_icmp .gt 7, 3) := by decide +kernel
theorem xd_Mo_says_121 : decode xb_Mo_says 121 = .ok (.iconst 1, 1) := by decide +kernel
theorem xd_Mo_says_122 : decode xb_Mo_says 122 = .ok (.goto 4, 3) := by decide +kernel
theorem xd_Mo_says_125 : decode xb_Mo_says 125 = .ok (.iconst 0, 1) := by decide +kernel
theorem xd_Mo_says_126 : decode xb_Mo_says 126 = .ok (.istore 6, 2) := by decide +kernel
theorem xd_Mo_says_128 : decode xb_Mo_says 128 = .ok (.aload_n 0, 1) := by decide +kernel
theorem xd_Mo_says_129 : decode xb_Mo_says 129 = .ok (.getfield 13, 3) := by decide +kernel
theorem xd_Mo_says_132 : decode xb_Mo_says 132 = .ok (.iload_n 1, 1) := by decide +kernel
theorem xd_Mo_says_133 : decode xb_Mo_says 133 = .ok (.iaload, 1) := by decide +kernel
theorem xd_Mo_says_134 : decode xb_Mo_says 134 = .ok (.istore 7, 2) := by decide +kernel
theorem xd_Mo_says_136 : decode xb_Mo_says 136 = .ok (.iload 7, 2) := by decide +kernel
theorem xd_Mo_says_138 : decode xb_Mo_says 138 = .ok (.aload_n 0, 1) := by decide +kernel
theorem xd_Mo_says_139 : decode xb_Mo_says 139 = .ok (.getfield 17, 3) := by decide +kernel
theorem xd_Mo_says_142 : decode xb_Mo_says 142 = .ok (.iload_n 1, 1) := by decide +kernel
theorem xd_Mo_says_143 : decode xb_Mo_says 143 = .ok (.iaload, 1) := by decide +kernel
theorem xd_Mo_says_144 : decode xb_Mo_says 144 = .ok (.if_icmp .ge 45, 3) := by decide +kernel
theorem xd_Mo_says_147 : decode xb_Mo_says 147 = .ok (.iload 6, 2) := by decide +kernel
theorem xd_Mo_says_149 : decode xb_Mo_says 149 = .ok (.ifCond .eq 31, 3) := by decide +kernel
theorem xd_Mo_says_152 : decode xb_Mo_says 152 = .ok (.aload_n 0, 1) := by decide +kernel
theorem xd_Mo_says_153 : decode xb_Mo_says 153 = .ok (.getfield 7, 3) := by decide +kernel
theorem xd_Mo_says_156 : decode xb_Mo_says 156 = .ok (.iload 7, 2) := by decide +kernel
theorem xd_Mo_says_158 : decode xb_Mo_says 158 = .ok (.caload, 1) := by decide +kernel
theorem xd_Mo_says_159 : decode xb_Mo_says 159 = .ok (.bipush 97, 2) := by decide +kernel
theorem xd_Mo_says_161 : decode xb_Mo_says 161 = .ok (.if_icmp .lt 19, 3) := by decide +kernel
theorem xd_Mo_says_164 : decode xb_Mo_says 164 = .ok (.aload_n 0, 1) := by decide +kernel
theorem xd_Mo_says_165 : decode xb_Mo_says 165 = .ok (.getfield 7, 3) := by decide +kernel
theorem xd_Mo_says_168 : decode xb_Mo_says 168 = .ok (.iload 7, 2) := by decide +kernel
theorem xd_Mo_says_170 : decode xb_Mo_says 170 = .ok (.caload, 1) := by decide +kernel
theorem xd_Mo_says_171 : decode xb_Mo_says 171 = .ok (.bipush 122, 2) := by decide +kernel
theorem xd_Mo_says_173 : decode xb_Mo_says 173 = .ok (.if_icmp .gt 7, 3) := by decide +kernel
theorem xd_Mo_says_176 : decode xb_Mo_says 176 = .ok (.iconst 1, 1) := by decide +kernel
theorem xd_Mo_says_177 : decode xb_Mo_says 177 = .ok (.goto 4, 3) := by decide +kernel
theorem xd_Mo_says_180 : decode xb_Mo_says 180 = .ok (.iconst 0, 1) := by decide +kernel
theorem xd_Mo_says_181 : decode xb_Mo_says 181 = .ok (.istore 6, 2) := by decide +kernel
theorem xd_Mo_says_183 : decode xb_Mo_says 183 = .ok (.iinc 7 1, 3) := by decide +kernel
theorem xd_Mo_says_186 : decode xb_Mo_says 186 = .ok (.goto (-50), 3) := by decide +kernel
theorem xd_Mo_says_189 : decode xb_Mo_says 189 = .ok (.iload 6, 2) := by decide +kernel
theorem xd_Mo_says_191 : decode xb_Mo_says 191 = .ok (.ifCond .eq 19, 3) := by decide +kernel
theorem xd_Mo_says_194 : decode xb_Mo_says 194 = .ok (.iload 4, 2) := by decide +kernel
theorem xd_Mo_says_196 : decode xb_Mo_says 196 = .ok (.iload_n 2, 1) := by decide +kernel
theorem xd_Mo_says_197 : decode xb_Mo_says 197 = .ok (.if_icmp .ne 13, 3) := by decide +kernel
theorem xd_Mo_says_200 : decode xb_Mo_says 200 = .ok (.iload 5, 2) := by decide +kernel
theorem xd_Mo_says_202 : decode xb_Mo_says 202 = .ok (.iload_n 3, 1) := by decide +kernel
theorem xd_Mo_says_203 : decode xb_Mo_says 203 = .ok (.if_icmp .ne 7, 3) := by decide +kernel
theorem xd_Mo_says_206 : decode xb_Mo_says 206 = .ok (.iconst 1, 1) := by decide +kernel
theorem xd_Mo_says_207 : decode xb_Mo_says 207 = .ok (.goto 4, 3) := by decide +kernel
theorem xd_Mo_says_210 : decode xb_Mo_says 210 = .ok (.iconst 0, 1) := by decide +kernel
theorem xd_Mo_says_211 : decode xb_Mo_says 211 = .ok (.ireturn, 1) := by decide +kernel
theorem xd_Mo_split_0 : decode xb_Mo_split 0 = .ok (.aload_n 0, 1) := by decide +kernel
theorem xd_Mo_split_1 : decode xb_Mo_split 1 = .ok (.iconst 0, 1) := by decide +kernel
theorem xd_Mo_split_2 : decode xb_Mo_split 2 = .ok (.putfield 94, 3) := by decide +kernel
theorem xd_Mo_split_5 : decode xb_Mo_split 5 = .ok (.iconst 0, 1) := by decide +kernel
theorem xd_Mo_split_6 : decode xb_Mo_split 6 = .ok (.istore_n 1, 1) := by decide +kernel
theorem xd_Mo_split_7 : decode xb_Mo_split 7 = .ok (.iload_n 1, 1) := by decide +kernel
theorem xd_Mo_split_8 : decode xb_Mo_split 8 = .ok (.aload_n 0, 1) := by decide +kernel
theorem xd_Mo_split_9 : decode xb_Mo_split 9 = .ok (.getfield 91, 3) := by decide +kernel
theorem xd_Mo_split_12 : decode xb_Mo_split 12 = .ok (.if_icmp .ge 94, 3) := by decide +kernel
theorem xd_Mo_split_15 : decode xb_Mo_split 15 = .ok (.iload_n 1, 1) := by decide +kernel
theorem xd_Mo_split_16 : decode xb_Mo_split 16 = .ok (.aload_n 0, 1) := by decide +kernel
theorem xd_Mo_split_17 : decode xb_Mo_split 17 = .ok (.getfield 91, 3) := by decide +kernel
theorem xd_Mo_split_20 : decode xb_Mo_split 20 = .ok (.if_icmp .ge 20, 3) := by decide +kernel
theorem xd_Mo_split_23 : decode xb_Mo_split 23 = .ok (.aload_n 0, 1) := by decide +kernel
theorem xd_Mo_split_24 : decode xb_Mo_split 24 = .ok (.getfield 7, 3) := by decide +kernel
theorem xd_Mo_split_27 : decode xb_Mo_split 27 = .ok (.iload_n 1, 1) := by decide +kernel
theorem xd_Mo_split_28 : decode xb_Mo_split 28 = .ok (.caload, 1) := by decide +kernel
theorem xd_Mo_split_29 : decode xb_Mo_split 29 = .ok (.bipush 32, 2) := by decide +kernel
theorem xd_Mo_split_31 : decode xb_Mo_split 31 = .ok (.if_icmp .ne 9, 3) := by decide +kernel
theorem xd_Mo_split_34 : decode xb_Mo_split 34 = .ok (.iinc 1 1, 3) := by decide +kernel
theorem xd_Mo_split_37 : decode xb_Mo_split 37 = .ok (.goto (-22), 3) := by decide +kernel
theorem xd_Mo_split_40 : decode xb_Mo_split 40 = .ok (.iload_n 1, 1) := by decide +kernel
theorem xd_Mo_split_41 : decode xb_Mo_split 41 = .ok (.aload_n 0, 1) := by decide +kernel
theorem xd_Mo_split_42 : decode xb_Mo_split 42 = .ok (.getfield 91, 3) := by decide +kernel
theorem xd_Mo_split_45 : decode xb_Mo_split 45 = .ok (.if_icmp .ge (-38), 3) := by decide +kernel
theorem xd_Mo_split_48 : decode xb_Mo_split 48 = .ok (.aload_n 0, 1) := by decide +kernel
theorem xd_Mo_split_49 : decode xb_Mo_split 49 = .ok (.getfield 13, 3) := by decide +kernel
theorem xd_Mo_split_52 : decode xb_Mo_split 52 = .ok (.aload_n 0, 1) := by decide +kernel
theorem xd_Mo_split_53 : decode xb_Mo_split 53 = .ok (.getfield 94, 3) := by decide +kernel
theorem xd_Mo_split_56 : decode xb_Mo_split 56 = .ok (.iload_n 1, 1) := by decide +kernel
theorem xd_Mo_split_57 : decode xb_Mo_split 57 = .ok (.iastore, 1) := by decide +kernel
theorem xd_Mo_split_58 : decode xb_Mo_split 58 = .ok (.iload_n 1, 1) := by decide +kernel
theorem xd_Mo_split_59 : decode xb_Mo_split 59 = .ok (.aload_n 0, 1) := by decide +kernel
theorem xd_Mo_split_60 : decode xb_Mo_split 60 = .ok (.getfield 91, 3) := by decide +kernel
theorem xd_Mo_split_63 : decode xb_Mo_split 63 = .ok (.if_icmp .ge 20, 3) := by decide +kernel
theorem xd_Mo_split_66 : decode xb_Mo_split 66 = .ok (.aload_n 0, 1) := by decide +kernel
theorem xd_Mo_split_67 : decode xb_Mo_split 67 = .ok (.getfield 7, 3) := by decide +kernel
theorem xd_Mo_split_70 : decode xb_Mo_split 70 = .ok (.iload_n 1, 1) := by decide +kernel
theorem xd_Mo_split_71 : decode xb_Mo_split 71 = .ok (.caload, 1) := by decide +kernel
theorem xd_Mo_split_72 : decode xb_Mo_split 72 = .ok (.bipush 32, 2) := by decide +kernel
theorem xd_Mo_split_74 : decode xb_Mo_split 74 = .ok (.if_icmp .eq 9, 3) := by decide +kernel
theorem xd_Mo_split_77 : decode xb_Mo_split 77 = .ok (.iinc 1 1, 3) := by decide +kernel
theorem xd_Mo_split_80 : decode xb_Mo_split 80 = .ok (.goto (-22), 3) := by decide +kernel
theorem xd_Mo_split_83 : decode xb_Mo_split 83 = .ok (.aload_n 0, 1) := by decide +kernel
theorem xd_Mo_split_84 : decode xb_Mo_split 84 = .ok (.getfield 17, 3) := by decide +kernel
theorem xd_Mo_split_87 : decode xb_Mo_split 87 = .ok (.aload_n 0, 1) := by decide +kernel
theorem xd_Mo_split_88 : decode xb_Mo_split 88 = .ok (.getfield 94, 3) := by decide +kernel
theorem xd_Mo_split_91 : decode xb_Mo_split 91 = .ok (.iload_n 1, 1) := by decide +kernel
theorem xd_Mo_split_92 : decode xb_Mo_split 92 = .ok (.iastore, 1) := by decide +kernel
theorem xd_Mo_split_93 : decode xb_Mo_split 93 = .ok (.aload_n 0, 1) := by decide +kernel
theorem xd_Mo_split_94 : decode xb_Mo_split 94 = .ok (.dup, 1) := by decide +kernel
theorem xd_Mo_split_95 : decode xb_Mo_split 95 = .ok (.getfield 94, 3) := by decide +kernel
theorem xd_Mo_split_98 : decode xb_Mo_split 98 = .ok (.iconst 1, 1) := by decide +kernel
theorem xd_Mo_split_99 : decode xb_Mo_split 99 = .ok (.iadd, 1) := by decide +kernel
theorem xd_Mo_split_100 : decode xb_Mo_split 100 = .ok (.putfield 94, 3) := by decide +kernel
theorem xd_Mo_split_103 : decode xb_Mo_split 103 = .ok (.goto (-96), 3) := by decide +kernel
theorem xd_Mo_split_106 : decode xb_Mo_split 106 = .ok (.aload_n 0, 1) := by decide +kernel
theorem xd_Mo_split_107 : decode xb_Mo_split 107 = .ok (.iconst 0, 1) := by decide +kernel
theorem xd_Mo_split_108 : decode xb_Mo_split 108 = .ok (.putfield 91, 3) := by decide +kernel
theorem xd_Mo_split_111 : decode xb_Mo_split 111 = .ok (.return_, 1) := by decide +kernel
theorem xm_0 : (Cond.fieldLink "LayerDeskModel" 140 "LayerDeskModel" "descriptors" "I") ∈ wT := wT_t (List.mem_append_right _ (List.mem_append_right _ (List.mem_append_right _ (List.mem_append_left _ (List.mem_of_getElem? (i := 91) rfl))))) rfl
theorem xm_1 : (Cond.fieldLink "LayerDeskModel" 20 "LayerDeskModel" "finder" "[I") ∈ wT := wT_t (List.mem_append_right _ (List.mem_append_right _ (List.mem_append_right _ (List.mem_append_left _ (List.mem_of_getElem? (i := 92) rfl))))) rfl
theorem xm_2 : (Cond.fieldLink "LayerDeskModel" 23 "LayerDeskModel" "name" "[I") ∈ wT := wT_t (List.mem_append_right _ (List.mem_append_right _ (List.mem_append_right _ (List.mem_append_left _ (List.mem_of_getElem? (i := 93) rfl))))) rfl
theorem xm_3 : (Cond.fieldLink "LayerDeskModel" 45 "LayerDeskModel" "locked" "[Z") ∈ wT := wT_t (List.mem_append_right _ (List.mem_append_right _ (List.mem_append_right _ (List.mem_append_left _ (List.mem_of_getElem? (i := 100) rfl))))) rfl
theorem xm_4 : (Cond.fieldLink "LayerDeskModel" 26 "LayerDeskModel" "packages" "[I") ∈ wT := wT_t (List.mem_append_right _ (List.mem_append_right _ (List.mem_append_right _ (List.mem_append_left _ (List.mem_of_getElem? (i := 94) rfl))))) rfl
theorem xm_5 : (Cond.fieldLink "LayerDeskModel" 29 "LayerDeskModel" "pack" "[I") ∈ wT := wT_t (List.mem_append_right _ (List.mem_append_right _ (List.mem_append_right _ (List.mem_append_left _ (List.mem_of_getElem? (i := 95) rfl))))) rfl
theorem xm_6 : (Cond.fieldLink "LayerDeskModel" 72 "LayerDeskModel" "modules" "[I") ∈ wT := wT_t (List.mem_append_right _ (List.mem_append_right _ (List.mem_append_right _ (List.mem_append_left _ (List.mem_of_getElem? (i := 110) rfl))))) rfl
theorem xm_7 : (Cond.fieldLink "LayerDeskModel" 75 "LayerDeskModel" "module" "[I") ∈ wT := wT_t (List.mem_append_right _ (List.mem_append_right _ (List.mem_append_right _ (List.mem_append_left _ (List.mem_of_getElem? (i := 111) rfl))))) rfl
theorem xm_8 : (Cond.fieldLink "LayerDeskModel" 13 "LayerDeskModel" "begin" "[I") ∈ wT := wT_t (List.mem_append_right _ (List.mem_append_right _ (List.mem_append_right _ (List.mem_append_left _ (List.mem_of_getElem? (i := 89) rfl))))) rfl
theorem xm_9 : (Cond.fieldLink "LayerDeskModel" 17 "LayerDeskModel" "end" "[I") ∈ wT := wT_t (List.mem_append_right _ (List.mem_append_right _ (List.mem_append_right _ (List.mem_append_left _ (List.mem_of_getElem? (i := 90) rfl))))) rfl
theorem xm_10 : (Cond.fieldLink "LayerDeskModel" 7 "LayerDeskModel" "text" "[C") ∈ wT := wT_t (List.mem_append_right _ (List.mem_append_right _ (List.mem_append_right _ (List.mem_append_left _ (List.mem_of_getElem? (i := 86) rfl))))) rfl
theorem xm_11 : (Cond.code xy_Mo_letter xb_Mo_letter 3 (some .char)) ∈ wT := wT_t (List.mem_append_right _ (List.mem_append_right _ (List.mem_append_right _ (List.mem_append_left _ (List.mem_of_getElem? (i := 204) rfl))))) rfl
theorem xm_12 : (Cond.methodLink "LayerDeskModel" 97 xy_Mo_letter) ∈ wT := wT_t (List.mem_append_right _ (List.mem_append_right _ (List.mem_append_right _ (List.mem_append_left _ (List.mem_of_getElem? (i := 201) rfl))))) rfl
theorem xm_13 : (Cond.instanceMethod xy_Mo_letter) ∈ wT := wT_t (List.mem_append_right _ (List.mem_append_right _ (List.mem_append_right _ (List.mem_append_left _ (List.mem_of_getElem? (i := 203) rfl))))) rfl
theorem xm_14 : (Cond.selects "LayerDeskModel" xy_Mo_letter xy_Mo_letter) ∈ wT := wT_s (q := (xy_Mo_letter, 31)) (by decide +kernel) rfl
theorem xm_15 : (Cond.initialized "LayerDeskModel") ∈ wT := wT_t (List.mem_append_left _ (List.mem_of_getElem? (i := 5) rfl)) rfl
theorem xm_16 : (Cond.fieldLink "LayerDeskModel" 94 "LayerDeskModel" "words" "I") ∈ wT := wT_t (List.mem_append_right _ (List.mem_append_right _ (List.mem_append_right _ (List.mem_append_left _ (List.mem_of_getElem? (i := 88) rfl))))) rfl
theorem xm_17 : (Cond.fieldLink "LayerDeskModel" 91 "LayerDeskModel" "written" "I") ∈ wT := wT_t (List.mem_append_right _ (List.mem_append_right _ (List.mem_append_right _ (List.mem_append_left _ (List.mem_of_getElem? (i := 87) rfl))))) rfl
theorem xm_18 : (Cond.code xy_Mo_nameOf xb_Mo_nameOf 4 (some .int)) ∈ wT := wT_t (List.mem_append_right _ (List.mem_append_right _ (List.mem_append_right _ (List.mem_append_left _ (List.mem_of_getElem? (i := 212) rfl))))) rfl
theorem xm_19 : (Cond.methodLink "LayerDeskModel" 133 xy_Mo_nameOf) ∈ wT := wT_t (List.mem_append_right _ (List.mem_append_right _ (List.mem_append_right _ (List.mem_append_left _ (List.mem_of_getElem? (i := 209) rfl))))) rfl
theorem xm_20 : (Cond.instanceMethod xy_Mo_nameOf) ∈ wT := wT_t (List.mem_append_right _ (List.mem_append_right _ (List.mem_append_right _ (List.mem_append_left _ (List.mem_of_getElem? (i := 211) rfl))))) rfl
theorem xm_21 : (Cond.selects "LayerDeskModel" xy_Mo_nameOf xy_Mo_nameOf) ∈ wT := wT_s (q := (xy_Mo_nameOf, 31)) (by decide +kernel) rfl
theorem xm_22 : (Cond.code xy_Mo_descriptorOf xb_Mo_descriptorOf 4 (some .int)) ∈ wT := wT_t (List.mem_append_right _ (List.mem_append_right _ (List.mem_append_right _ (List.mem_append_left _ (List.mem_of_getElem? (i := 216) rfl))))) rfl
theorem xm_23 : (Cond.methodLink "LayerDeskModel" 136 xy_Mo_descriptorOf) ∈ wT := wT_t (List.mem_append_right _ (List.mem_append_right _ (List.mem_append_right _ (List.mem_append_left _ (List.mem_of_getElem? (i := 213) rfl))))) rfl
theorem xm_24 : (Cond.instanceMethod xy_Mo_descriptorOf) ∈ wT := wT_t (List.mem_append_right _ (List.mem_append_right _ (List.mem_append_right _ (List.mem_append_left _ (List.mem_of_getElem? (i := 215) rfl))))) rfl
theorem xm_25 : (Cond.selects "LayerDeskModel" xy_Mo_descriptorOf xy_Mo_descriptorOf) ∈ wT := wT_s (q := (xy_Mo_descriptorOf, 31)) (by decide +kernel) rfl
set_option maxHeartbeats 4000000 in
set_option maxRecDepth 100000 in
theorem xc_Mo_descriptorOf (l : Launch) (D : va_G) (kA : Nat → ClassId) (sz h : Nat) (mm : Nat → Nat) (v : Nat → Int32) (g : Nat → Nat → Int32) (fd : Int32) (nm : Int32) (nd : Nat) (hnd : v 4 = nI nd) (hnd12 : nd ≤ 12) : Met l xy_Mo_descriptorOf (.code xy_Mo_descriptorOf xb_Mo_descriptorOf 4 (some .int) :: wT) { frames := 0, cells := 0, slots := 0, locals := 0 } (va_Pc [.ref h, .int fd, .int nm] (xPre D kA sz (moW h mm kA v g))) (va_Qi (fun (r : Int32) (u : Unit) => (∃ k, k < nd ∧ r = nI k ∧ g 3 k = fd ∧ g 4 k = nm ∧ ∀ j, j < k → ¬ (g 3 j = fd ∧ g 4 j = nm)) ∨ (r = -1 ∧ ∀ j, j < nd → ¬ (g 3 j = fd ∧ g 4 j = nm))) (fun (u : Unit) t => va_P D xcl (moW h mm kA v g) t.heap ∧ va_D (va_A (moW h mm kA v g) sz) (moW h mm kA v g)) (va_A (moW h mm kA v g) sz)) 0 0 (va_A (moW h mm kA v g) sz) := by
  refine Met.ofW (cc := xb_Mo_descriptorOf) (maxL := 4) (ret := (some .int)) (by decide) rfl ?_
  intro p e s m args below meth c s₁ B hml hv
  obtain ⟨rfl, hsz, hP, hK, hD0⟩ := hv
  have hx := B.exec
  have hb := B.bytes
  have hr := B.returns
  have hT := x_hT B.pre
  have hown : s.vm.findClass xR_Mo = some m.cls := findClass_of_methodNamed B.named
  have hlocks := B.notSynchronized
  subst hsz
  have hD := hD0.self (sz := s.heap.size)
  generalize hAe : va_A (moW h mm kA v g) s.heap.size = A at hD ⊢
  have hA : ∀ q : Nat, s.heap.size ≤ q → A q := fun q h => by rw [← hAe]; exact Or.inr h
  have hS : va_S A s.heap s.heap [] := va_S.rf
  have hl := lv_entry ([.ref h, .int fd, .int nm]) (n := 4) (Nat.le_of_ble_eq_true rfl)
  rw [lg_entry_eq]
  generalize (lg_sl ([.ref h, .int fd, .int nm]) ++ List.replicate (4 - (lg_sl ([.ref h, .int fd, .int nm])).length) Slot.unset).toArray = ls at hl ⊢
  have hl : lv_has ls 4 [(0, .ref h), (1, .int fd), (2, .int nm)] := hl
  have hP : va_P D xcl (moW h mm kA v g) s.heap := hP
  refine lv_iconst (v := 0) hx hb xd_Mo_descriptorOf_0 (by decide) ?_
  refine lv_istore_n hx hb xd_Mo_descriptorOf_1 rfl hl (Nat.le_of_ble_eq_true rfl) rfl (fun ls hl => ?_)
  have hl : lv_has ls 4 [(3, .int 0), (0, .ref h), (1, .int fd), (2, .int nm)] := hl
  refine xlab (σ := Nat) (ml := 4) 2 (fun (i : Nat) => [(3, .int (nI i)), (0, .ref h), (1, .int fd), (2, .int nm)]) (fun (i : Nat) => []) (fun (i : Nat) => moW h mm kA v g) (fun (i : Nat) => (i ≤ nd) ∧ (∀ j, j < i → ¬ (g 3 j = fd ∧ g 4 j = nm))) (fun (i : Nat) => nd - i) ?_ 0 _ _ _ (lv_sub hl [0, 1, 2, 3] rfl) hP hD hS ⟨(show 0 ≤ nd from by first | assumption | omega), (show ∀ j, j < 0 → ¬ (g 3 j = fd ∧ g 4 j = nm) from fun j hj => absurd hj (by omega))⟩
  intro n9 ih1 a9 ls H locs hμ hl hP hD hS hI
  subst hμ
  obtain ⟨i, rfl⟩ : ∃ z, z = a9 := ⟨_, rfl⟩
  obtain ⟨hi, hno⟩ := hI
  have hi : i ≤ nd := hi
  have hno : ∀ j, j < i → ¬ (g 3 j = fd ∧ g 4 j = nm) := hno
  have hl : lv_has ls 4 [(3, .int (nI i)), (0, .ref h), (1, .int fd), (2, .int nm)] := hl
  have hP : va_P D xcl (moW h mm kA v g) H := hP
  have hD : va_D A (moW h mm kA v g) := hD
  refine lv_iload_n hx hb xd_Mo_descriptorOf_2 rfl (lv_at hl 0 rfl) ?_
  refine lv_aload_n hx hb xd_Mo_descriptorOf_3 rfl (lv_at hl 1 rfl) ?_
  refine va_get (D := D) (ci := 4) (v := .int (v 4)) (C := xR_Mo) (T := xT_Mo) (N := 31) hx hb hT xi_Mo hown hK.1 hP 0 rfl rfl 7 (by decide) (hT _ xm_0) (fun _ h9 => h9) rfl xd_Mo_descriptorOf_4 ?_
  refine xn_top (x := (v 4)) (y := nI nd) hnd ?_
  refine xn_ge (a := i) (b := nd) (tgt := 38) hx hb xd_Mo_descriptorOf_7 (by decide) (by omega) (by omega) (fun hc2 => ?_) (fun hc2 => ?_)
  · refine lv_iconst (v := (-1)) hx hb xd_Mo_descriptorOf_38 (by decide) ?_
    exact W.iret (v := (-1)) hx hb hr (fun t ht hW => ⟨⟨(-1), (), rfl, Or.inr ⟨rfl, fun j hj => hno j (by omega)⟩, by rw [ht]; exact hP, hD⟩, hS.F ht⟩) hS.2.2 xd_Mo_descriptorOf_39
  · refine lv_aload_n hx hb xd_Mo_descriptorOf_10 rfl (lv_at hl 1 rfl) ?_
    refine va_get (D := D) (ci := 4) (v := .ref (mm 3)) (C := xR_Mo) (T := xT_Mo) (N := 31) hx hb hT xi_Mo hown hK.1 hP 0 rfl rfl 8 (by decide) (hT _ xm_1) (fun _ h9 => h9) rfl xd_Mo_descriptorOf_11 ?_
    refine lv_iload_n hx hb xd_Mo_descriptorOf_14 rfl (lv_at hl 0 rfl) ?_
    refine xn_iald (i := i) hx hb hK.1 hP 4 0 rfl rfl (by omega) (by decide) xd_Mo_descriptorOf_15 ?_
    refine lv_iload_n hx hb xd_Mo_descriptorOf_16 rfl (lv_at hl 2 rfl) ?_
    refine lv_icmp_ne (tgt := 32) hx hb xd_Mo_descriptorOf_17 (by decide) (fun hc3 => ?_) (fun hc3 => ?_)
    · refine lv_iinc (k := 0) (x := (nI i)) (v := (nI (i + 1))) hx hb xd_Mo_descriptorOf_32 hl rfl (xb_inc i 1) (Nat.le_of_ble_eq_true rfl) rfl (fun ls hl => ?_)
      have hl : lv_has ls 4 [(3, .int (nI (i + 1))), (0, .ref h), (1, .int fd), (2, .int nm)] := hl
      refine lv_goto (tgt := 2) hx hb xd_Mo_descriptorOf_35 (by decide) ?_
      exact ih1 (i + 1) _ _ _ (show nd - (i + 1) < nd - i by omega) (lv_sub hl [0, 1, 2, 3] rfl) hP hD hS ⟨(show (i + 1) ≤ nd from by first | assumption | omega), (show ∀ j, j < (i + 1) → ¬ (g 3 j = fd ∧ g 4 j = nm) from lt_s hno (fun q => hc3 q.1))⟩
    · refine lv_aload_n hx hb xd_Mo_descriptorOf_20 rfl (lv_at hl 1 rfl) ?_
      refine va_get (D := D) (ci := 4) (v := .ref (mm 4)) (C := xR_Mo) (T := xT_Mo) (N := 31) hx hb hT xi_Mo hown hK.1 hP 0 rfl rfl 9 (by decide) (hT _ xm_2) (fun _ h9 => h9) rfl xd_Mo_descriptorOf_21 ?_
      refine lv_iload_n hx hb xd_Mo_descriptorOf_24 rfl (lv_at hl 0 rfl) ?_
      refine xn_iald (i := i) hx hb hK.1 hP 5 0 rfl rfl (by omega) (by decide) xd_Mo_descriptorOf_25 ?_
      refine lv_iload_n hx hb xd_Mo_descriptorOf_26 rfl (lv_at hl 3 rfl) ?_
      refine lv_icmp_ne (tgt := 32) hx hb xd_Mo_descriptorOf_27 (by decide) (fun hc4 => ?_) (fun hc4 => ?_)
      · refine lv_iinc (k := 0) (x := (nI i)) (v := (nI (i + 1))) hx hb xd_Mo_descriptorOf_32 hl rfl (xb_inc i 1) (Nat.le_of_ble_eq_true rfl) rfl (fun ls hl => ?_)
        have hl : lv_has ls 4 [(3, .int (nI (i + 1))), (0, .ref h), (1, .int fd), (2, .int nm)] := hl
        refine lv_goto (tgt := 2) hx hb xd_Mo_descriptorOf_35 (by decide) ?_
        exact ih1 (i + 1) _ _ _ (show nd - (i + 1) < nd - i by omega) (lv_sub hl [0, 1, 2, 3] rfl) hP hD hS ⟨(show (i + 1) ≤ nd from by first | assumption | omega), (show ∀ j, j < (i + 1) → ¬ (g 3 j = fd ∧ g 4 j = nm) from lt_s hno (fun q => hc4 q.2))⟩
      · refine lv_iload_n hx hb xd_Mo_descriptorOf_30 rfl (lv_at hl 0 rfl) ?_
        exact W.iret (v := (nI i)) hx hb hr (fun t ht hW => ⟨⟨(nI i), (), rfl, Or.inl ⟨i, by omega, rfl, hc3, hc4, hno⟩, by rw [ht]; exact hP, hD⟩, hS.F ht⟩) hS.2.2 xd_Mo_descriptorOf_31
set_option maxHeartbeats 4000000 in
set_option maxRecDepth 100000 in
theorem xc_Mo_isShut (l : Launch) (D : va_G) (kA : Nat → ClassId) (sz h : Nat) (mm : Nat → Nat) (v : Nat → Int32) (g : Nat → Nat → Int32) (nd : Nat) (hnd : v 4 = nI nd) (hnd12 : nd ≤ 12) : Met l xy_Mo_isShut (.code xy_Mo_isShut xb_Mo_isShut 1 (some .boolean) :: wT) { frames := 0, cells := 0, slots := 0, locals := 0 } (va_Pc [.ref h] (xPre D kA sz (moW h mm kA v g))) (va_Qi (fun (r : Int32) (u : Unit) => (r = 1 ∧ (nd = 0 ∨ ¬ g 11 (nd - 1) = 0)) ∨ (r = 0 ∧ nd ≠ 0 ∧ g 11 (nd - 1) = 0)) (fun (u : Unit) t => va_P D xcl (moW h mm kA v g) t.heap ∧ va_D (va_A (moW h mm kA v g) sz) (moW h mm kA v g)) (va_A (moW h mm kA v g) sz)) 0 0 (va_A (moW h mm kA v g) sz) := by
  refine Met.ofW (cc := xb_Mo_isShut) (maxL := 1) (ret := (some .boolean)) (by decide) rfl ?_
  intro p e s m args below meth c s₁ B hml hv
  obtain ⟨rfl, hsz, hP, hK, hD0⟩ := hv
  have hx := B.exec
  have hb := B.bytes
  have hr := B.returns
  have hT := x_hT B.pre
  have hown : s.vm.findClass xR_Mo = some m.cls := findClass_of_methodNamed B.named
  have hlocks := B.notSynchronized
  subst hsz
  have hD := hD0.self (sz := s.heap.size)
  generalize hAe : va_A (moW h mm kA v g) s.heap.size = A at hD ⊢
  have hA : ∀ q : Nat, s.heap.size ≤ q → A q := fun q h => by rw [← hAe]; exact Or.inr h
  have hS : va_S A s.heap s.heap [] := va_S.rf
  have hl := lv_entry ([.ref h]) (n := 1) (Nat.le_of_ble_eq_true rfl)
  rw [lg_entry_eq]
  generalize (lg_sl ([.ref h]) ++ List.replicate (1 - (lg_sl ([.ref h])).length) Slot.unset).toArray = ls at hl ⊢
  have hl : lv_has ls 1 [(0, .ref h)] := hl
  have hP : va_P D xcl (moW h mm kA v g) s.heap := hP
  refine lv_aload_n hx hb xd_Mo_isShut_0 rfl (lv_at hl 0 rfl) ?_
  refine va_get (D := D) (ci := 4) (v := .int (v 4)) (C := xR_Mo) (T := xT_Mo) (N := 31) hx hb hT xi_Mo hown hK.1 hP 0 rfl rfl 7 (by decide) (hT _ xm_0) (fun _ h9 => h9) rfl xd_Mo_isShut_1 ?_
  refine xn_top (x := (v 4)) (y := nI nd) hnd ?_
  refine xz_eq (a := nd) (tgt := 21) hx hb xd_Mo_isShut_4 (by decide) (by omega) (fun hc1 => ?_) (fun hc1 => ?_)
  · refine lv_iconst (v := 1) hx hb xd_Mo_isShut_21 (by decide) ?_
    refine lv_goto (tgt := 26) hx hb xd_Mo_isShut_22 (by decide) ?_
    exact W.zret (v := 1) hx hb hr rfl (fun t ht hW => ⟨⟨1, (), rfl, Or.inl ⟨rfl, Or.inl hc1⟩, by rw [ht]; exact hP, hD⟩, hS.F ht⟩) hS.2.2 xd_Mo_isShut_26
  · refine lv_aload_n hx hb xd_Mo_isShut_7 rfl (lv_at hl 0 rfl) ?_
    refine va_get (D := D) (ci := 4) (v := .ref (mm 11)) (C := xR_Mo) (T := xT_Mo) (N := 31) hx hb hT xi_Mo hown hK.1 hP 0 rfl rfl 16 (by decide) (hT _ xm_3) (fun _ h9 => h9) rfl xd_Mo_isShut_8 ?_
    refine lv_aload_n hx hb xd_Mo_isShut_11 rfl (lv_at hl 0 rfl) ?_
    refine va_get (D := D) (ci := 4) (v := .int (v 4)) (C := xR_Mo) (T := xT_Mo) (N := 31) hx hb hT xi_Mo hown hK.1 hP 0 rfl rfl 7 (by decide) (hT _ xm_0) (fun _ h9 => h9) rfl xd_Mo_isShut_12 ?_
    refine xn_top (x := (v 4)) (y := nI nd) hnd ?_
    refine lv_iconst (v := 1) hx hb xd_Mo_isShut_15 (by decide) ?_
    refine lv_isub hx hb xd_Mo_isShut_16 ?_
    refine xn_top (y := nI (nd - 1)) (pk_sub (a := nd) (b := 1) (by omega)) ?_
    refine xn_zald (i := nd - 1) hx hb hK.1 hP 12 2 rfl rfl (by omega) (by decide) xd_Mo_isShut_17 ?_
    refine lv_if_eq (tgt := 25) hx hb xd_Mo_isShut_18 (by decide) (fun hc2 => ?_) (fun hc2 => ?_)
    · refine lv_iconst (v := 0) hx hb xd_Mo_isShut_25 (by decide) ?_
      exact W.zret (v := 0) hx hb hr rfl (fun t ht hW => ⟨⟨0, (), rfl, Or.inr ⟨rfl, hc1, hc2⟩, by rw [ht]; exact hP, hD⟩, hS.F ht⟩) hS.2.2 xd_Mo_isShut_26
    · refine lv_iconst (v := 1) hx hb xd_Mo_isShut_21 (by decide) ?_
      refine lv_goto (tgt := 26) hx hb xd_Mo_isShut_22 (by decide) ?_
      exact W.zret (v := 1) hx hb hr rfl (fun t ht hW => ⟨⟨1, (), rfl, Or.inl ⟨rfl, Or.inr hc2⟩, by rw [ht]; exact hP, hD⟩, hS.F ht⟩) hS.2.2 xd_Mo_isShut_26
set_option maxHeartbeats 4000000 in
set_option maxRecDepth 100000 in
theorem xc_Mo_packageOf (l : Launch) (D : va_G) (kA : Nat → ClassId) (sz h : Nat) (mm : Nat → Nat) (v : Nat → Int32) (g : Nat → Nat → Int32) (d : Nat) (nm : Int32) (pk : Nat) (hd : d < 12) (hpk : g 5 d = nI pk) (hpk6 : pk ≤ 6) : Met l xy_Mo_packageOf (.code xy_Mo_packageOf xb_Mo_packageOf 4 (some .int) :: wT) { frames := 0, cells := 0, slots := 0, locals := 0 } (va_Pc [.ref h, .int (nI d), .int nm] (xPre D kA sz (moW h mm kA v g))) (va_Qi (fun (r : Int32) (u : Unit) => (∃ k, 6 * d ≤ k ∧ k < 6 * d + pk ∧ r = nI k ∧ g 6 k = nm) ∨ (r = -1 ∧ ∀ j, 6 * d ≤ j → j < 6 * d + pk → ¬ g 6 j = nm)) (fun (u : Unit) t => va_P D xcl (moW h mm kA v g) t.heap ∧ va_D (va_A (moW h mm kA v g) sz) (moW h mm kA v g)) (va_A (moW h mm kA v g) sz)) 0 0 (va_A (moW h mm kA v g) sz) := by
  refine Met.ofW (cc := xb_Mo_packageOf) (maxL := 4) (ret := (some .int)) (by decide) rfl ?_
  intro p e s m args below meth c s₁ B hml hv
  obtain ⟨rfl, hsz, hP, hK, hD0⟩ := hv
  have hx := B.exec
  have hb := B.bytes
  have hr := B.returns
  have hT := x_hT B.pre
  have hown : s.vm.findClass xR_Mo = some m.cls := findClass_of_methodNamed B.named
  have hlocks := B.notSynchronized
  subst hsz
  have hD := hD0.self (sz := s.heap.size)
  generalize hAe : va_A (moW h mm kA v g) s.heap.size = A at hD ⊢
  have hA : ∀ q : Nat, s.heap.size ≤ q → A q := fun q h => by rw [← hAe]; exact Or.inr h
  have hS : va_S A s.heap s.heap [] := va_S.rf
  have hl := lv_entry ([.ref h, .int (nI d), .int nm]) (n := 4) (Nat.le_of_ble_eq_true rfl)
  rw [lg_entry_eq]
  generalize (lg_sl ([.ref h, .int (nI d), .int nm]) ++ List.replicate (4 - (lg_sl ([.ref h, .int (nI d), .int nm])).length) Slot.unset).toArray = ls at hl ⊢
  have hl : lv_has ls 4 [(0, .ref h), (1, .int (nI d)), (2, .int nm)] := hl
  have hP : va_P D xcl (moW h mm kA v g) s.heap := hP
  refine lv_bipush (v := 6) hx hb xd_Mo_packageOf_0 (by decide) ?_
  refine lv_iload_n hx hb xd_Mo_packageOf_2 rfl (lv_at hl 1 rfl) ?_
  refine lv_imul hx hb xd_Mo_packageOf_3 ?_
  refine xn_top (y := nI (6 * d)) (pk_mul 6 d) ?_
  refine lv_istore_n hx hb xd_Mo_packageOf_4 rfl hl (Nat.le_of_ble_eq_true rfl) rfl (fun ls hl => ?_)
  have hl : lv_has ls 4 [(3, .int (nI (6 * d))), (0, .ref h), (1, .int (nI d)), (2, .int nm)] := hl
  refine xlab (σ := Nat) (ml := 4) 5 (fun (i : Nat) => [(3, .int (nI i)), (0, .ref h), (1, .int (nI d)), (2, .int nm)]) (fun (i : Nat) => []) (fun (i : Nat) => moW h mm kA v g) (fun (i : Nat) => (6 * d ≤ i) ∧ (i ≤ 6 * d + pk) ∧ (∀ j, 6 * d ≤ j → j < i → ¬ g 6 j = nm)) (fun (i : Nat) => 6 * d + pk - i) ?_ (6 * d) _ _ _ (lv_sub hl [0, 1, 2, 3] rfl) hP hD hS ⟨(show 6 * d ≤ (6 * d) from by first | assumption | omega), (show (6 * d) ≤ 6 * d + pk from by first | assumption | omega), (show ∀ j, 6 * d ≤ j → j < (6 * d) → ¬ g 6 j = nm from fun j h1 h2 => absurd h2 (by omega))⟩
  intro n9 ih1 a9 ls H locs hμ hl hP hD hS hI
  subst hμ
  obtain ⟨i, rfl⟩ : ∃ z, z = a9 := ⟨_, rfl⟩
  obtain ⟨hi1, hi2, hno⟩ := hI
  have hi1 : 6 * d ≤ i := hi1
  have hi2 : i ≤ 6 * d + pk := hi2
  have hno : ∀ j, 6 * d ≤ j → j < i → ¬ g 6 j = nm := hno
  have hl : lv_has ls 4 [(3, .int (nI i)), (0, .ref h), (1, .int (nI d)), (2, .int nm)] := hl
  have hP : va_P D xcl (moW h mm kA v g) H := hP
  have hD : va_D A (moW h mm kA v g) := hD
  refine lv_iload_n hx hb xd_Mo_packageOf_5 rfl (lv_at hl 0 rfl) ?_
  refine lv_bipush (v := 6) hx hb xd_Mo_packageOf_6 (by decide) ?_
  refine lv_iload_n hx hb xd_Mo_packageOf_8 rfl (lv_at hl 2 rfl) ?_
  refine lv_imul hx hb xd_Mo_packageOf_9 ?_
  refine xn_top (y := nI (6 * d)) (pk_mul 6 d) ?_
  refine lv_aload_n hx hb xd_Mo_packageOf_10 rfl (lv_at hl 1 rfl) ?_
  refine va_get (D := D) (ci := 4) (v := .ref (mm 5)) (C := xR_Mo) (T := xT_Mo) (N := 31) hx hb hT xi_Mo hown hK.1 hP 0 rfl rfl 10 (by decide) (hT _ xm_4) (fun _ h9 => h9) rfl xd_Mo_packageOf_11 ?_
  refine lv_iload_n hx hb xd_Mo_packageOf_14 rfl (lv_at hl 2 rfl) ?_
  refine xn_iald (i := d) hx hb hK.1 hP 6 0 rfl rfl (by omega) (by decide) xd_Mo_packageOf_15 ?_
  refine xn_top (x := (g 5 d)) (y := nI pk) hpk ?_
  refine lv_iadd hx hb xd_Mo_packageOf_16 ?_
  refine xn_top (y := nI ((6 * d) + pk)) (nI_add (6 * d) pk) ?_
  refine xn_ge (a := i) (b := (6 * d) + pk) (tgt := 38) hx hb xd_Mo_packageOf_17 (by decide) (by omega) (by omega) (fun hc2 => ?_) (fun hc2 => ?_)
  · refine lv_iconst (v := (-1)) hx hb xd_Mo_packageOf_38 (by decide) ?_
    exact W.iret (v := (-1)) hx hb hr (fun t ht hW => ⟨⟨(-1), (), rfl, Or.inr ⟨rfl, fun j h1 h2 => hno j h1 (by omega)⟩, by rw [ht]; exact hP, hD⟩, hS.F ht⟩) hS.2.2 xd_Mo_packageOf_39
  · refine lv_aload_n hx hb xd_Mo_packageOf_20 rfl (lv_at hl 1 rfl) ?_
    refine va_get (D := D) (ci := 4) (v := .ref (mm 6)) (C := xR_Mo) (T := xT_Mo) (N := 31) hx hb hT xi_Mo hown hK.1 hP 0 rfl rfl 11 (by decide) (hT _ xm_5) (fun _ h9 => h9) rfl xd_Mo_packageOf_21 ?_
    refine lv_iload_n hx hb xd_Mo_packageOf_24 rfl (lv_at hl 0 rfl) ?_
    refine xn_iald (i := i) hx hb hK.1 hP 7 0 rfl rfl (by omega) (by decide) xd_Mo_packageOf_25 ?_
    refine lv_iload_n hx hb xd_Mo_packageOf_26 rfl (lv_at hl 3 rfl) ?_
    refine lv_icmp_ne (tgt := 32) hx hb xd_Mo_packageOf_27 (by decide) (fun hc3 => ?_) (fun hc3 => ?_)
    · refine lv_iinc (k := 0) (x := (nI i)) (v := (nI (i + 1))) hx hb xd_Mo_packageOf_32 hl rfl (xb_inc i 1) (Nat.le_of_ble_eq_true rfl) rfl (fun ls hl => ?_)
      have hl : lv_has ls 4 [(3, .int (nI (i + 1))), (0, .ref h), (1, .int (nI d)), (2, .int nm)] := hl
      refine lv_goto (tgt := 5) hx hb xd_Mo_packageOf_35 (by decide) ?_
      exact ih1 (i + 1) _ _ _ (show 6 * d + pk - (i + 1) < 6 * d + pk - i by omega) (lv_sub hl [0, 1, 2, 3] rfl) hP hD hS ⟨(show 6 * d ≤ (i + 1) from by first | assumption | omega), (show (i + 1) ≤ 6 * d + pk from by first | assumption | omega), (show ∀ j, 6 * d ≤ j → j < (i + 1) → ¬ g 6 j = nm from fun j h1 h2 => by
      rcases Nat.lt_or_ge j i with h3 | h3
      · exact hno j h1 h3
      · have h4 : j = i := by omega
        rw [h4]; exact hc3)⟩
    · refine lv_iload_n hx hb xd_Mo_packageOf_30 rfl (lv_at hl 0 rfl) ?_
      exact W.iret (v := (nI i)) hx hb hr (fun t ht hW => ⟨⟨(nI i), (), rfl, Or.inl ⟨i, by omega, by omega, rfl, hc3⟩, by rw [ht]; exact hP, hD⟩, hS.F ht⟩) hS.2.2 xd_Mo_packageOf_31
set_option maxHeartbeats 4000000 in
set_option maxRecDepth 100000 in
theorem xc_Mo_isIn (l : Launch) (D : va_G) (kA : Nat → ClassId) (sz h : Nat) (mm : Nat → Nat) (v : Nat → Int32) (g : Nat → Nat → Int32) (la : Nat) (dd : Int32) (mk9 : Nat) (hla : la < 6) (hmk : g 20 la = nI mk9) (hmk12 : mk9 ≤ 12) : Met l xy_Mo_isIn (.code xy_Mo_isIn xb_Mo_isIn 5 (some .boolean) :: wT) { frames := 0, cells := 0, slots := 0, locals := 0 } (va_Pc [.ref h, .int (nI la), .int dd] (xPre D kA sz (moW h mm kA v g))) (va_Qi (fun (r : Int32) (u : Unit) => (r = 1 ∧ ∃ j, 12 * la ≤ j ∧ j < 12 * la + mk9 ∧ g 21 j = dd) ∨ (r = 0 ∧ ∀ j, 12 * la ≤ j → j < 12 * la + mk9 → ¬ g 21 j = dd)) (fun (u : Unit) t => va_P D xcl (moW h mm kA v g) t.heap ∧ va_D (va_A (moW h mm kA v g) sz) (moW h mm kA v g)) (va_A (moW h mm kA v g) sz)) 0 0 (va_A (moW h mm kA v g) sz) := by
  refine Met.ofW (cc := xb_Mo_isIn) (maxL := 5) (ret := (some .boolean)) (by decide) rfl ?_
  intro p e s m args below meth c s₁ B hml hv
  obtain ⟨rfl, hsz, hP, hK, hD0⟩ := hv
  have hx := B.exec
  have hb := B.bytes
  have hr := B.returns
  have hT := x_hT B.pre
  have hown : s.vm.findClass xR_Mo = some m.cls := findClass_of_methodNamed B.named
  have hlocks := B.notSynchronized
  subst hsz
  have hD := hD0.self (sz := s.heap.size)
  generalize hAe : va_A (moW h mm kA v g) s.heap.size = A at hD ⊢
  have hA : ∀ q : Nat, s.heap.size ≤ q → A q := fun q h => by rw [← hAe]; exact Or.inr h
  have hS : va_S A s.heap s.heap [] := va_S.rf
  have hl := lv_entry ([.ref h, .int (nI la), .int dd]) (n := 5) (Nat.le_of_ble_eq_true rfl)
  rw [lg_entry_eq]
  generalize (lg_sl ([.ref h, .int (nI la), .int dd]) ++ List.replicate (5 - (lg_sl ([.ref h, .int (nI la), .int dd])).length) Slot.unset).toArray = ls at hl ⊢
  have hl : lv_has ls 5 [(0, .ref h), (1, .int (nI la)), (2, .int dd)] := hl
  have hP : va_P D xcl (moW h mm kA v g) s.heap := hP
  refine lv_iconst (v := 0) hx hb xd_Mo_isIn_0 (by decide) ?_
  refine lv_istore_n hx hb xd_Mo_isIn_1 rfl hl (Nat.le_of_ble_eq_true rfl) rfl (fun ls hl => ?_)
  have hl : lv_has ls 5 [(3, .int 0), (0, .ref h), (1, .int (nI la)), (2, .int dd)] := hl
  refine lv_bipush (v := 12) hx hb xd_Mo_isIn_2 (by decide) ?_
  refine lv_iload_n hx hb xd_Mo_isIn_4 rfl (lv_at hl 2 rfl) ?_
  refine lv_imul hx hb xd_Mo_isIn_5 ?_
  refine xn_top (y := nI (12 * la)) (pk_mul 12 la) ?_
  refine lv_istore hx hb xd_Mo_isIn_6 hl (Nat.le_of_ble_eq_true rfl) rfl (fun ls hl => ?_)
  have hl : lv_has ls 5 [(4, .int (nI (12 * la))), (3, .int 0), (0, .ref h), (1, .int (nI la)), (2, .int dd)] := hl
  refine xlab (σ := Nat × Int32) (ml := 5) 8 (fun (i, b9) => [(4, .int (nI i)), (3, .int b9), (0, .ref h), (1, .int (nI la)), (2, .int dd)]) (fun (i, b9) => []) (fun (i, b9) => moW h mm kA v g) (fun (i, b9) => (12 * la ≤ i) ∧ (i ≤ 12 * la + mk9) ∧ ((b9 = 1 ∧ ∃ j, 12 * la ≤ j ∧ j < i ∧ g 21 j = dd) ∨ (b9 = 0 ∧ ∀ j, 12 * la ≤ j → j < i → ¬ g 21 j = dd))) (fun (i, b9) => 12 * la + mk9 - i) ?_ (12 * la, 0) _ _ _ (lv_sub hl [0, 1, 2, 3, 4] rfl) hP hD hS ⟨(show 12 * la ≤ (12 * la) from by first | assumption | omega), (show (12 * la) ≤ 12 * la + mk9 from by first | assumption | omega), (show (0 = 1 ∧ ∃ j, 12 * la ≤ j ∧ j < (12 * la) ∧ g 21 j = dd) ∨ (0 = 0 ∧ ∀ j, 12 * la ≤ j → j < (12 * la) → ¬ g 21 j = dd) from Or.inr ⟨rfl, fun j h1 h2 => absurd h2 (by omega)⟩)⟩
  intro n9 ih1 a9 ls H locs hμ hl hP hD hS hI
  subst hμ
  obtain ⟨i, b9⟩ := a9
  obtain ⟨hi1, hi2, hb9⟩ := hI
  have hi1 : 12 * la ≤ i := hi1
  have hi2 : i ≤ 12 * la + mk9 := hi2
  have hb9 : (b9 = 1 ∧ ∃ j, 12 * la ≤ j ∧ j < i ∧ g 21 j = dd) ∨ (b9 = 0 ∧ ∀ j, 12 * la ≤ j → j < i → ¬ g 21 j = dd) := hb9
  have hl : lv_has ls 5 [(4, .int (nI i)), (3, .int b9), (0, .ref h), (1, .int (nI la)), (2, .int dd)] := hl
  have hP : va_P D xcl (moW h mm kA v g) H := hP
  have hD : va_D A (moW h mm kA v g) := hD
  refine lv_iload hx hb xd_Mo_isIn_8 (lv_at hl 0 rfl) ?_
  refine lv_bipush (v := 12) hx hb xd_Mo_isIn_10 (by decide) ?_
  refine lv_iload_n hx hb xd_Mo_isIn_12 rfl (lv_at hl 3 rfl) ?_
  refine lv_imul hx hb xd_Mo_isIn_13 ?_
  refine xn_top (y := nI (12 * la)) (pk_mul 12 la) ?_
  refine lv_aload_n hx hb xd_Mo_isIn_14 rfl (lv_at hl 2 rfl) ?_
  refine va_get (D := D) (ci := 4) (v := .ref (mm 20)) (C := xR_Mo) (T := xT_Mo) (N := 31) hx hb hT xi_Mo hown hK.1 hP 0 rfl rfl 26 (by decide) (hT _ xm_6) (fun _ h9 => h9) rfl xd_Mo_isIn_15 ?_
  refine lv_iload_n hx hb xd_Mo_isIn_18 rfl (lv_at hl 3 rfl) ?_
  refine xn_iald (i := la) hx hb hK.1 hP 21 0 rfl rfl (by omega) (by decide) xd_Mo_isIn_19 ?_
  refine xn_top (x := (g 20 la)) (y := nI mk9) hmk ?_
  refine lv_iadd hx hb xd_Mo_isIn_20 ?_
  refine xn_top (y := nI ((12 * la) + mk9)) (nI_add (12 * la) mk9) ?_
  refine xn_ge (a := i) (b := (12 * la) + mk9) (tgt := 51) hx hb xd_Mo_isIn_21 (by decide) (by omega) (by omega) (fun hc2 => ?_) (fun hc2 => ?_)
  · refine lv_iload_n hx hb xd_Mo_isIn_51 rfl (lv_at hl 1 rfl) ?_
    exact W.zret (v := b9) hx hb hr (by rcases hb9 with h | h <;> rw [h.1] <;> rfl) (fun t ht hW => ⟨⟨b9, (), rfl, by
    have hq : i = 12 * la + mk9 := by omega
    rw [hq] at hb9; exact hb9, by rw [ht]; exact hP, hD⟩, hS.F ht⟩) hS.2.2 xd_Mo_isIn_52
  · refine lv_iload_n hx hb xd_Mo_isIn_24 rfl (lv_at hl 1 rfl) ?_
    refine lv_if_ne (tgt := 39) hx hb xd_Mo_isIn_25 (by decide) (fun hc3 => ?_) (fun hc3 => ?_)
    · refine lv_iconst (v := 1) hx hb xd_Mo_isIn_39 (by decide) ?_
      refine lv_goto (tgt := 44) hx hb xd_Mo_isIn_40 (by decide) ?_
      refine lv_istore_n hx hb xd_Mo_isIn_44 rfl hl (Nat.le_of_ble_eq_true rfl) rfl (fun ls hl => ?_)
      have hl : lv_has ls 5 [(3, .int 1), (4, .int (nI i)), (0, .ref h), (1, .int (nI la)), (2, .int dd)] := hl
      refine lv_iinc (k := 1) (x := (nI i)) (v := (nI (i + 1))) hx hb xd_Mo_isIn_45 hl rfl (xb_inc i 1) (Nat.le_of_ble_eq_true rfl) rfl (fun ls hl => ?_)
      have hl : lv_has ls 5 [(4, .int (nI (i + 1))), (3, .int 1), (0, .ref h), (1, .int (nI la)), (2, .int dd)] := hl
      refine lv_goto (tgt := 8) hx hb xd_Mo_isIn_48 (by decide) ?_
      exact ih1 (i + 1, 1) _ _ _ (show 12 * la + mk9 - (i + 1) < 12 * la + mk9 - i by omega) (lv_sub hl [0, 1, 2, 3, 4] rfl) hP hD hS ⟨(show 12 * la ≤ (i + 1) from by first | assumption | omega), (show (i + 1) ≤ 12 * la + mk9 from by first | assumption | omega), (show (1 = 1 ∧ ∃ j, 12 * la ≤ j ∧ j < (i + 1) ∧ g 21 j = dd) ∨ (1 = 0 ∧ ∀ j, 12 * la ≤ j → j < (i + 1) → ¬ g 21 j = dd) from Or.inl ⟨rfl, by
      rcases hb9 with ⟨-, j, h1, h2, h3⟩ | ⟨hb9, -⟩
      · exact ⟨j, h1, by omega, h3⟩
      · exact absurd hb9 hc3⟩)⟩
    · refine lv_aload_n hx hb xd_Mo_isIn_28 rfl (lv_at hl 2 rfl) ?_
      refine va_get (D := D) (ci := 4) (v := .ref (mm 21)) (C := xR_Mo) (T := xT_Mo) (N := 31) hx hb hT xi_Mo hown hK.1 hP 0 rfl rfl 27 (by decide) (hT _ xm_7) (fun _ h9 => h9) rfl xd_Mo_isIn_29 ?_
      refine lv_iload hx hb xd_Mo_isIn_32 (lv_at hl 0 rfl) ?_
      refine xn_iald (i := i) hx hb hK.1 hP 22 0 rfl rfl (by omega) (by decide) xd_Mo_isIn_34 ?_
      refine lv_iload_n hx hb xd_Mo_isIn_35 rfl (lv_at hl 4 rfl) ?_
      refine lv_icmp_ne (tgt := 43) hx hb xd_Mo_isIn_36 (by decide) (fun hc4 => ?_) (fun hc4 => ?_)
      · refine lv_iconst (v := 0) hx hb xd_Mo_isIn_43 (by decide) ?_
        refine lv_istore_n hx hb xd_Mo_isIn_44 rfl hl (Nat.le_of_ble_eq_true rfl) rfl (fun ls hl => ?_)
        have hl : lv_has ls 5 [(3, .int 0), (4, .int (nI i)), (0, .ref h), (1, .int (nI la)), (2, .int dd)] := hl
        refine lv_iinc (k := 1) (x := (nI i)) (v := (nI (i + 1))) hx hb xd_Mo_isIn_45 hl rfl (xb_inc i 1) (Nat.le_of_ble_eq_true rfl) rfl (fun ls hl => ?_)
        have hl : lv_has ls 5 [(4, .int (nI (i + 1))), (3, .int 0), (0, .ref h), (1, .int (nI la)), (2, .int dd)] := hl
        refine lv_goto (tgt := 8) hx hb xd_Mo_isIn_48 (by decide) ?_
        exact ih1 (i + 1, 0) _ _ _ (show 12 * la + mk9 - (i + 1) < 12 * la + mk9 - i by omega) (lv_sub hl [0, 1, 2, 3, 4] rfl) hP hD hS ⟨(show 12 * la ≤ (i + 1) from by first | assumption | omega), (show (i + 1) ≤ 12 * la + mk9 from by first | assumption | omega), (show (0 = 1 ∧ ∃ j, 12 * la ≤ j ∧ j < (i + 1) ∧ g 21 j = dd) ∨ (0 = 0 ∧ ∀ j, 12 * la ≤ j → j < (i + 1) → ¬ g 21 j = dd) from Or.inr ⟨rfl, fun j h1 h2 => by
      rcases hb9 with ⟨hb9, -⟩ | ⟨-, hb9⟩
      · exact absurd hb9 (by rw [hc3]; decide)
      rcases Nat.lt_or_ge j i with h3 | h3
      · exact hb9 j h1 h3
      · have h4 : j = i := by omega
        rw [h4]; exact hc4⟩)⟩
      · refine lv_iconst (v := 1) hx hb xd_Mo_isIn_39 (by decide) ?_
        refine lv_goto (tgt := 44) hx hb xd_Mo_isIn_40 (by decide) ?_
        refine lv_istore_n hx hb xd_Mo_isIn_44 rfl hl (Nat.le_of_ble_eq_true rfl) rfl (fun ls hl => ?_)
        have hl : lv_has ls 5 [(3, .int 1), (4, .int (nI i)), (0, .ref h), (1, .int (nI la)), (2, .int dd)] := hl
        refine lv_iinc (k := 1) (x := (nI i)) (v := (nI (i + 1))) hx hb xd_Mo_isIn_45 hl rfl (xb_inc i 1) (Nat.le_of_ble_eq_true rfl) rfl (fun ls hl => ?_)
        have hl : lv_has ls 5 [(4, .int (nI (i + 1))), (3, .int 1), (0, .ref h), (1, .int (nI la)), (2, .int dd)] := hl
        refine lv_goto (tgt := 8) hx hb xd_Mo_isIn_48 (by decide) ?_
        exact ih1 (i + 1, 1) _ _ _ (show 12 * la + mk9 - (i + 1) < 12 * la + mk9 - i by omega) (lv_sub hl [0, 1, 2, 3, 4] rfl) hP hD hS ⟨(show 12 * la ≤ (i + 1) from by first | assumption | omega), (show (i + 1) ≤ 12 * la + mk9 from by first | assumption | omega), (show (1 = 1 ∧ ∃ j, 12 * la ≤ j ∧ j < (i + 1) ∧ g 21 j = dd) ∨ (1 = 0 ∧ ∀ j, 12 * la ≤ j → j < (i + 1) → ¬ g 21 j = dd) from Or.inl ⟨rfl, i, by omega, by omega, hc4⟩)⟩
set_option maxHeartbeats 4000000 in
set_option maxRecDepth 100000 in
theorem xc_Mo_letter (l : Launch) (D : va_G) (kA : Nat → ClassId) (sz h : Nat) (mm : Nat → Nat) (v : Nat → Int32) (g : Nat → Nat → Int32) (w : Nat) (b0 : Nat) (e0 : Nat) (k : Nat) (hw20 : w < 20) (hb0 : g 1 w = nI b0) (he0 : g 2 w = nI e0) (hbe : b0 ≤ e0) (he40 : e0 ≤ 40) (hch : ∀ i, i < 40 → narrow .char (.int (g 0 i)) = .int (g 0 i)) (hk40 : k ≤ 40) : Met l xy_Mo_letter (.code xy_Mo_letter xb_Mo_letter 3 (some .char) :: wT) { frames := 0, cells := 0, slots := 0, locals := 0 } (va_Pc [.ref h, .int (nI w), .int (nI k)] (xPre D kA sz (moW h mm kA v g))) (va_Qi (fun (r : Int32) (u : Unit) => (b0 + k < e0 ∧ r = g 0 (b0 + k)) ∨ (e0 ≤ b0 + k ∧ r = 0)) (fun (u : Unit) t => va_P D xcl (moW h mm kA v g) t.heap ∧ va_D (va_A (moW h mm kA v g) sz) (moW h mm kA v g)) (va_A (moW h mm kA v g) sz)) 0 0 (va_A (moW h mm kA v g) sz) := by
  refine Met.ofW (cc := xb_Mo_letter) (maxL := 3) (ret := (some .char)) (by decide) rfl ?_
  intro p e s m args below meth c s₁ B hml hv
  obtain ⟨rfl, hsz, hP, hK, hD0⟩ := hv
  have hx := B.exec
  have hb := B.bytes
  have hr := B.returns
  have hT := x_hT B.pre
  have hown : s.vm.findClass xR_Mo = some m.cls := findClass_of_methodNamed B.named
  have hlocks := B.notSynchronized
  subst hsz
  have hD := hD0.self (sz := s.heap.size)
  generalize hAe : va_A (moW h mm kA v g) s.heap.size = A at hD ⊢
  have hA : ∀ q : Nat, s.heap.size ≤ q → A q := fun q h => by rw [← hAe]; exact Or.inr h
  have hS : va_S A s.heap s.heap [] := va_S.rf
  have hl := lv_entry ([.ref h, .int (nI w), .int (nI k)]) (n := 3) (Nat.le_of_ble_eq_true rfl)
  rw [lg_entry_eq]
  generalize (lg_sl ([.ref h, .int (nI w), .int (nI k)]) ++ List.replicate (3 - (lg_sl ([.ref h, .int (nI w), .int (nI k)])).length) Slot.unset).toArray = ls at hl ⊢
  have hl : lv_has ls 3 [(0, .ref h), (1, .int (nI w)), (2, .int (nI k))] := hl
  have hP : va_P D xcl (moW h mm kA v g) s.heap := hP
  refine lv_aload_n hx hb xd_Mo_letter_0 rfl (lv_at hl 0 rfl) ?_
  refine va_get (D := D) (ci := 4) (v := .ref (mm 1)) (C := xR_Mo) (T := xT_Mo) (N := 31) hx hb hT xi_Mo hown hK.1 hP 0 rfl rfl 5 (by decide) (hT _ xm_8) (fun _ h9 => h9) rfl xd_Mo_letter_1 ?_
  refine lv_iload_n hx hb xd_Mo_letter_4 rfl (lv_at hl 1 rfl) ?_
  refine xn_iald (i := w) hx hb hK.1 hP 2 0 rfl rfl (by omega) (by decide) xd_Mo_letter_5 ?_
  refine xn_top (x := (g 1 w)) (y := nI b0) hb0 ?_
  refine lv_iload_n hx hb xd_Mo_letter_6 rfl (lv_at hl 2 rfl) ?_
  refine lv_iadd hx hb xd_Mo_letter_7 ?_
  refine xn_top (y := nI (b0 + k)) (nI_add b0 k) ?_
  refine lv_aload_n hx hb xd_Mo_letter_8 rfl (lv_at hl 0 rfl) ?_
  refine va_get (D := D) (ci := 4) (v := .ref (mm 2)) (C := xR_Mo) (T := xT_Mo) (N := 31) hx hb hT xi_Mo hown hK.1 hP 0 rfl rfl 6 (by decide) (hT _ xm_9) (fun _ h9 => h9) rfl xd_Mo_letter_9 ?_
  refine lv_iload_n hx hb xd_Mo_letter_12 rfl (lv_at hl 1 rfl) ?_
  refine xn_iald (i := w) hx hb hK.1 hP 3 0 rfl rfl (by omega) (by decide) xd_Mo_letter_13 ?_
  refine xn_top (x := (g 2 w)) (y := nI e0) he0 ?_
  refine xn_ge (a := b0 + k) (b := e0) (tgt := 33) hx hb xd_Mo_letter_14 (by decide) (by omega) (by omega) (fun hc1 => ?_) (fun hc1 => ?_)
  · refine lv_iconst (v := 0) hx hb xd_Mo_letter_33 (by decide) ?_
    exact W.zret (v := 0) hx hb hr rfl (fun t ht hW => ⟨⟨0, (), rfl, Or.inr ⟨hc1, rfl⟩, by rw [ht]; exact hP, hD⟩, hS.F ht⟩) hS.2.2 xd_Mo_letter_34
  · refine lv_aload_n hx hb xd_Mo_letter_17 rfl (lv_at hl 0 rfl) ?_
    refine va_get (D := D) (ci := 4) (v := .ref (mm 0)) (C := xR_Mo) (T := xT_Mo) (N := 31) hx hb hT xi_Mo hown hK.1 hP 0 rfl rfl 2 (by decide) (hT _ xm_10) (fun _ h9 => h9) rfl xd_Mo_letter_18 ?_
    refine lv_aload_n hx hb xd_Mo_letter_21 rfl (lv_at hl 0 rfl) ?_
    refine va_get (D := D) (ci := 4) (v := .ref (mm 1)) (C := xR_Mo) (T := xT_Mo) (N := 31) hx hb hT xi_Mo hown hK.1 hP 0 rfl rfl 5 (by decide) (hT _ xm_8) (fun _ h9 => h9) rfl xd_Mo_letter_22 ?_
    refine lv_iload_n hx hb xd_Mo_letter_25 rfl (lv_at hl 1 rfl) ?_
    refine xn_iald (i := w) hx hb hK.1 hP 2 0 rfl rfl (by omega) (by decide) xd_Mo_letter_26 ?_
    refine xn_top (x := (g 1 w)) (y := nI b0) hb0 ?_
    refine lv_iload_n hx hb xd_Mo_letter_27 rfl (lv_at hl 2 rfl) ?_
    refine lv_iadd hx hb xd_Mo_letter_28 ?_
    refine xn_top (y := nI (b0 + k)) (nI_add b0 k) ?_
    refine xn_cald (i := b0 + k) hx hb hK.1 hP 1 1 rfl rfl (by omega) (by decide) xd_Mo_letter_29 ?_
    refine lv_goto (tgt := 34) hx hb xd_Mo_letter_30 (by decide) ?_
    exact W.zret (v := (g 0 (b0 + k))) hx hb hr (hch _ (by omega)) (fun t ht hW => ⟨⟨(g 0 (b0 + k)), (), rfl, Or.inl ⟨hc1, rfl⟩, by rw [ht]; exact hP, hD⟩, hS.F ht⟩) hS.2.2 xd_Mo_letter_34
set_option maxHeartbeats 4000000 in
set_option maxRecDepth 100000 in
theorem xc_Mo_nameOf (l : Launch) (D : va_G) (kA : Nat → ClassId) (sz h : Nat) (mm : Nat → Nat) (v : Nat → Int32) (g : Nat → Nat → Int32) (w : Nat) (b0 : Nat) (e0 : Nat) (hw20 : w < 20) (hb0 : g 1 w = nI b0) (he0 : g 2 w = nI e0) (hbe : b0 ≤ e0) (he40 : e0 ≤ 40) : Met l xy_Mo_nameOf (.code xy_Mo_nameOf xb_Mo_nameOf 4 (some .int) :: wT) { frames := 0, cells := 0, slots := 0, locals := 0 } (va_Pc [.ref h, .int (nI w)] (xPre D kA sz (moW h mm kA v g))) (va_Qi (fun (r : Int32) (u : Unit) => True) (fun (u : Unit) t => va_P D xcl (moW h mm kA v g) t.heap ∧ va_D (va_A (moW h mm kA v g) sz) (moW h mm kA v g)) (va_A (moW h mm kA v g) sz)) 0 0 (va_A (moW h mm kA v g) sz) := by
  refine Met.ofW (cc := xb_Mo_nameOf) (maxL := 4) (ret := (some .int)) (by decide) rfl ?_
  intro p e s m args below meth c s₁ B hml hv
  obtain ⟨rfl, hsz, hP, hK, hD0⟩ := hv
  have hx := B.exec
  have hb := B.bytes
  have hr := B.returns
  have hT := x_hT B.pre
  have hown : s.vm.findClass xR_Mo = some m.cls := findClass_of_methodNamed B.named
  have hlocks := B.notSynchronized
  subst hsz
  have hD := hD0.self (sz := s.heap.size)
  generalize hAe : va_A (moW h mm kA v g) s.heap.size = A at hD ⊢
  have hA : ∀ q : Nat, s.heap.size ≤ q → A q := fun q h => by rw [← hAe]; exact Or.inr h
  have hS : va_S A s.heap s.heap [] := va_S.rf
  have hl := lv_entry ([.ref h, .int (nI w)]) (n := 4) (Nat.le_of_ble_eq_true rfl)
  rw [lg_entry_eq]
  generalize (lg_sl ([.ref h, .int (nI w)]) ++ List.replicate (4 - (lg_sl ([.ref h, .int (nI w)])).length) Slot.unset).toArray = ls at hl ⊢
  have hl : lv_has ls 4 [(0, .ref h), (1, .int (nI w))] := hl
  have hP : va_P D xcl (moW h mm kA v g) s.heap := hP
  refine lv_iconst (v := 0) hx hb xd_Mo_nameOf_0 (by decide) ?_
  refine lv_istore_n hx hb xd_Mo_nameOf_1 rfl hl (Nat.le_of_ble_eq_true rfl) rfl (fun ls hl => ?_)
  have hl : lv_has ls 4 [(2, .int 0), (0, .ref h), (1, .int (nI w))] := hl
  refine lv_aload_n hx hb xd_Mo_nameOf_2 rfl (lv_at hl 1 rfl) ?_
  refine va_get (D := D) (ci := 4) (v := .ref (mm 1)) (C := xR_Mo) (T := xT_Mo) (N := 31) hx hb hT xi_Mo hown hK.1 hP 0 rfl rfl 5 (by decide) (hT _ xm_8) (fun _ h9 => h9) rfl xd_Mo_nameOf_3 ?_
  refine lv_iload_n hx hb xd_Mo_nameOf_6 rfl (lv_at hl 2 rfl) ?_
  refine xn_iald (i := w) hx hb hK.1 hP 2 0 rfl rfl (by omega) (by decide) xd_Mo_nameOf_7 ?_
  refine xn_top (x := (g 1 w)) (y := nI b0) hb0 ?_
  refine lv_istore_n hx hb xd_Mo_nameOf_8 rfl hl (Nat.le_of_ble_eq_true rfl) rfl (fun ls hl => ?_)
  have hl : lv_has ls 4 [(3, .int (nI b0)), (2, .int 0), (0, .ref h), (1, .int (nI w))] := hl
  refine xlab (σ := Nat × Int32) (ml := 4) 9 (fun (k, vv) => [(3, .int (nI k)), (2, .int vv), (0, .ref h), (1, .int (nI w))]) (fun (k, vv) => []) (fun (k, vv) => moW h mm kA v g) (fun (k, vv) => (b0 ≤ k) ∧ (k ≤ e0)) (fun (k, vv) => e0 - k) ?_ (b0, 0) _ _ _ (lv_sub hl [0, 1, 2, 3] rfl) hP hD hS ⟨(show b0 ≤ b0 from by first | assumption | omega), (show b0 ≤ e0 from by first | assumption | omega)⟩
  intro n9 ih1 a9 ls H locs hμ hl hP hD hS hI
  subst hμ
  obtain ⟨k, vv⟩ := a9
  obtain ⟨hk1, hk2⟩ := hI
  have hk1 : b0 ≤ k := hk1
  have hk2 : k ≤ e0 := hk2
  have hl : lv_has ls 4 [(3, .int (nI k)), (2, .int vv), (0, .ref h), (1, .int (nI w))] := hl
  have hP : va_P D xcl (moW h mm kA v g) H := hP
  have hD : va_D A (moW h mm kA v g) := hD
  refine lv_iload_n hx hb xd_Mo_nameOf_9 rfl (lv_at hl 0 rfl) ?_
  refine lv_aload_n hx hb xd_Mo_nameOf_10 rfl (lv_at hl 2 rfl) ?_
  refine va_get (D := D) (ci := 4) (v := .ref (mm 2)) (C := xR_Mo) (T := xT_Mo) (N := 31) hx hb hT xi_Mo hown hK.1 hP 0 rfl rfl 6 (by decide) (hT _ xm_9) (fun _ h9 => h9) rfl xd_Mo_nameOf_11 ?_
  refine lv_iload_n hx hb xd_Mo_nameOf_14 rfl (lv_at hl 3 rfl) ?_
  refine xn_iald (i := w) hx hb hK.1 hP 3 0 rfl rfl (by omega) (by decide) xd_Mo_nameOf_15 ?_
  refine xn_top (x := (g 2 w)) (y := nI e0) he0 ?_
  refine xn_ge (a := k) (b := e0) (tgt := 81) hx hb xd_Mo_nameOf_16 (by decide) (by omega) (by omega) (fun hc2 => ?_) (fun hc2 => ?_)
  · refine lv_iload_n hx hb xd_Mo_nameOf_81 rfl (lv_at hl 1 rfl) ?_
    exact W.iret (v := vv) hx hb hr (fun t ht hW => ⟨⟨vv, (), rfl, trivial, by rw [ht]; exact hP, hD⟩, hS.F ht⟩) hS.2.2 xd_Mo_nameOf_82
  · refine lv_aload_n hx hb xd_Mo_nameOf_19 rfl (lv_at hl 2 rfl) ?_
    refine va_get (D := D) (ci := 4) (v := .ref (mm 0)) (C := xR_Mo) (T := xT_Mo) (N := 31) hx hb hT xi_Mo hown hK.1 hP 0 rfl rfl 2 (by decide) (hT _ xm_10) (fun _ h9 => h9) rfl xd_Mo_nameOf_20 ?_
    refine lv_iload_n hx hb xd_Mo_nameOf_23 rfl (lv_at hl 0 rfl) ?_
    refine xn_cald (i := k) hx hb hK.1 hP 1 1 rfl rfl (by omega) (by decide) xd_Mo_nameOf_24 ?_
    refine lv_bipush (v := 97) hx hb xd_Mo_nameOf_25 (by decide) ?_
    refine lv_icmp_lt (tgt := 58) hx hb xd_Mo_nameOf_27 (by decide) (fun hc3 => ?_) (fun hc3 => ?_)
    · refine lv_iconst (v := 0) hx hb xd_Mo_nameOf_58 (by decide) ?_
      exact W.iret (v := 0) hx hb hr (fun t ht hW => ⟨⟨0, (), rfl, trivial, by rw [ht]; exact hP, hD⟩, hS.F ht⟩) hS.2.2 xd_Mo_nameOf_59
    · refine lv_aload_n hx hb xd_Mo_nameOf_30 rfl (lv_at hl 2 rfl) ?_
      refine va_get (D := D) (ci := 4) (v := .ref (mm 0)) (C := xR_Mo) (T := xT_Mo) (N := 31) hx hb hT xi_Mo hown hK.1 hP 0 rfl rfl 2 (by decide) (hT _ xm_10) (fun _ h9 => h9) rfl xd_Mo_nameOf_31 ?_
      refine lv_iload_n hx hb xd_Mo_nameOf_34 rfl (lv_at hl 0 rfl) ?_
      refine xn_cald (i := k) hx hb hK.1 hP 1 1 rfl rfl (by omega) (by decide) xd_Mo_nameOf_35 ?_
      refine lv_bipush (v := 122) hx hb xd_Mo_nameOf_36 (by decide) ?_
      refine lv_icmp_gt (tgt := 58) hx hb xd_Mo_nameOf_38 (by decide) (fun hc4 => ?_) (fun hc4 => ?_)
      · refine lv_iconst (v := 0) hx hb xd_Mo_nameOf_58 (by decide) ?_
        exact W.iret (v := 0) hx hb hr (fun t ht hW => ⟨⟨0, (), rfl, trivial, by rw [ht]; exact hP, hD⟩, hS.F ht⟩) hS.2.2 xd_Mo_nameOf_59
      · refine lv_aload_n hx hb xd_Mo_nameOf_41 rfl (lv_at hl 2 rfl) ?_
        refine va_get (D := D) (ci := 4) (v := .ref (mm 2)) (C := xR_Mo) (T := xT_Mo) (N := 31) hx hb hT xi_Mo hown hK.1 hP 0 rfl rfl 6 (by decide) (hT _ xm_9) (fun _ h9 => h9) rfl xd_Mo_nameOf_42 ?_
        refine lv_iload_n hx hb xd_Mo_nameOf_45 rfl (lv_at hl 3 rfl) ?_
        refine xn_iald (i := w) hx hb hK.1 hP 3 0 rfl rfl (by omega) (by decide) xd_Mo_nameOf_46 ?_
        refine xn_top (x := (g 2 w)) (y := nI e0) he0 ?_
        refine lv_aload_n hx hb xd_Mo_nameOf_47 rfl (lv_at hl 2 rfl) ?_
        refine va_get (D := D) (ci := 4) (v := .ref (mm 1)) (C := xR_Mo) (T := xT_Mo) (N := 31) hx hb hT xi_Mo hown hK.1 hP 0 rfl rfl 5 (by decide) (hT _ xm_8) (fun _ h9 => h9) rfl xd_Mo_nameOf_48 ?_
        refine lv_iload_n hx hb xd_Mo_nameOf_51 rfl (lv_at hl 3 rfl) ?_
        refine xn_iald (i := w) hx hb hK.1 hP 2 0 rfl rfl (by omega) (by decide) xd_Mo_nameOf_52 ?_
        refine xn_top (x := (g 1 w)) (y := nI b0) hb0 ?_
        refine lv_isub hx hb xd_Mo_nameOf_53 ?_
        refine xn_top (y := nI (e0 - b0)) (pk_sub (a := e0) (b := b0) (by omega)) ?_
        refine lv_iconst (v := 4) hx hb xd_Mo_nameOf_54 (by decide) ?_
        refine xn_le (a := e0 - b0) (b := 4) (tgt := 60) hx hb xd_Mo_nameOf_55 (by decide) (by omega) (by omega) (fun hc5 => ?_) (fun hc5 => ?_)
        · refine lv_bipush (v := 27) hx hb xd_Mo_nameOf_60 (by decide) ?_
          refine lv_iload_n hx hb xd_Mo_nameOf_62 rfl (lv_at hl 1 rfl) ?_
          refine lv_imul hx hb xd_Mo_nameOf_63 ?_
          refine lv_aload_n hx hb xd_Mo_nameOf_64 rfl (lv_at hl 2 rfl) ?_
          refine va_get (D := D) (ci := 4) (v := .ref (mm 0)) (C := xR_Mo) (T := xT_Mo) (N := 31) hx hb hT xi_Mo hown hK.1 hP 0 rfl rfl 2 (by decide) (hT _ xm_10) (fun _ h9 => h9) rfl xd_Mo_nameOf_65 ?_
          refine lv_iload_n hx hb xd_Mo_nameOf_68 rfl (lv_at hl 0 rfl) ?_
          refine xn_cald (i := k) hx hb hK.1 hP 1 1 rfl rfl (by omega) (by decide) xd_Mo_nameOf_69 ?_
          refine lv_iadd hx hb xd_Mo_nameOf_70 ?_
          refine lv_bipush (v := 96) hx hb xd_Mo_nameOf_71 (by decide) ?_
          refine lv_isub hx hb xd_Mo_nameOf_73 ?_
          refine lv_istore_n hx hb xd_Mo_nameOf_74 rfl hl (Nat.le_of_ble_eq_true rfl) rfl (fun ls hl => ?_)
          have hl : lv_has ls 4 [(2, .int (((27 * vv) + (g 0 k)) - 96)), (3, .int (nI k)), (0, .ref h), (1, .int (nI w))] := hl
          refine lv_iinc (k := 1) (x := (nI k)) (v := (nI (k + 1))) hx hb xd_Mo_nameOf_75 hl rfl (xb_inc k 1) (Nat.le_of_ble_eq_true rfl) rfl (fun ls hl => ?_)
          have hl : lv_has ls 4 [(3, .int (nI (k + 1))), (2, .int (((27 * vv) + (g 0 k)) - 96)), (0, .ref h), (1, .int (nI w))] := hl
          refine lv_goto (tgt := 9) hx hb xd_Mo_nameOf_78 (by decide) ?_
          exact ih1 (k + 1, (((27 * vv) + (g 0 k)) - 96)) _ _ _ (show e0 - (k + 1) < e0 - k by omega) (lv_sub hl [0, 1, 2, 3] rfl) hP hD hS ⟨(show b0 ≤ (k + 1) from by first | assumption | omega), (show (k + 1) ≤ e0 from by first | assumption | omega)⟩
        · refine lv_iconst (v := 0) hx hb xd_Mo_nameOf_58 (by decide) ?_
          exact W.iret (v := 0) hx hb hr (fun t ht hW => ⟨⟨0, (), rfl, trivial, by rw [ht]; exact hP, hD⟩, hS.F ht⟩) hS.2.2 xd_Mo_nameOf_59
set_option maxHeartbeats 4000000 in
set_option maxRecDepth 100000 in
theorem xc_Mo_says (l : Launch) (D : va_G) (kA : Nat → ClassId) (sz h : Nat) (mm : Nat → Nat) (v : Nat → Int32) (g : Nat → Nat → Int32) (w : Nat) (b0 : Nat) (e0 : Nat) (a9 : Int32) (c9 : Int32) (hw20 : w < 20) (hb0 : g 1 w = nI b0) (he0 : g 2 w = nI e0) (hbe : b0 ≤ e0) (he40 : e0 ≤ 40) (hch : ∀ i, i < 40 → narrow .char (.int (g 0 i)) = .int (g 0 i)) : Met l xy_Mo_says (.code xy_Mo_says xb_Mo_says 8 (some .boolean) :: wT) { frames := 1, cells := 0, slots := 0, locals := 22 } (va_Pc [.ref h, .int (nI w), .int a9, .int c9] (xPre D kA sz (moW h mm kA v g))) (va_Qi (fun (r : Int32) (u : Unit) => r = 0 ∨ r = 1) (fun (u : Unit) t => va_P D xcl (moW h mm kA v g) t.heap ∧ va_D (va_A (moW h mm kA v g) sz) (moW h mm kA v g)) (va_A (moW h mm kA v g) sz)) 0 0 (va_A (moW h mm kA v g) sz) := by
  refine Met.ofW (cc := xb_Mo_says) (maxL := 8) (ret := (some .boolean)) (by decide) rfl ?_
  intro p e s m args below meth c s₁ B hml hv
  obtain ⟨rfl, hsz, hP, hK, hD0⟩ := hv
  have hx := B.exec
  have hb := B.bytes
  have hr := B.returns
  have hT := x_hT B.pre
  have hown : s.vm.findClass xR_Mo = some m.cls := findClass_of_methodNamed B.named
  have hlocks := B.notSynchronized
  subst hsz
  have hD := hD0.self (sz := s.heap.size)
  generalize hAe : va_A (moW h mm kA v g) s.heap.size = A at hD ⊢
  have hA : ∀ q : Nat, s.heap.size ≤ q → A q := fun q h => by rw [← hAe]; exact Or.inr h
  have hS : va_S A s.heap s.heap [] := va_S.rf
  have hl := lv_entry ([.ref h, .int (nI w), .int a9, .int c9]) (n := 8) (Nat.le_of_ble_eq_true rfl)
  rw [lg_entry_eq]
  generalize (lg_sl ([.ref h, .int (nI w), .int a9, .int c9]) ++ List.replicate (8 - (lg_sl ([.ref h, .int (nI w), .int a9, .int c9])).length) Slot.unset).toArray = ls at hl ⊢
  have hl : lv_has ls 8 [(0, .ref h), (1, .int (nI w)), (2, .int a9), (3, .int c9)] := hl
  have hP : va_P D xcl (moW h mm kA v g) s.heap := hP
  refine lv_iconst (v := 0) hx hb xd_Mo_says_0 (by decide) ?_
  refine lv_istore hx hb xd_Mo_says_1 hl (Nat.le_of_ble_eq_true rfl) rfl (fun ls hl => ?_)
  have hl : lv_has ls 8 [(4, .int 0), (0, .ref h), (1, .int (nI w)), (2, .int a9), (3, .int c9)] := hl
  refine lv_iconst (v := 0) hx hb xd_Mo_says_3 (by decide) ?_
  refine lv_istore hx hb xd_Mo_says_4 hl (Nat.le_of_ble_eq_true rfl) rfl (fun ls hl => ?_)
  have hl : lv_has ls 8 [(5, .int 0), (4, .int 0), (0, .ref h), (1, .int (nI w)), (2, .int a9), (3, .int c9)] := hl
  refine lv_iconst (v := 0) hx hb xd_Mo_says_6 (by decide) ?_
  refine lv_istore hx hb xd_Mo_says_7 hl (Nat.le_of_ble_eq_true rfl) rfl (fun ls hl => ?_)
  have hl : lv_has ls 8 [(6, .int 0), (5, .int 0), (4, .int 0), (0, .ref h), (1, .int (nI w)), (2, .int a9), (3, .int c9)] := hl
  refine xlab (σ := Nat × Int32) (ml := 8) 9 (fun (i, x4) => [(6, .int (nI i)), (4, .int x4), (5, .int 0), (0, .ref h), (1, .int (nI w)), (2, .int a9), (3, .int c9)]) (fun (i, x4) => []) (fun (i, x4) => moW h mm kA v g) (fun (i, x4) => (i ≤ 5)) (fun (i, x4) => 5 - i) ?_ (0, 0) _ _ _ (lv_sub hl [0, 2, 1, 3, 4, 5, 6] rfl) hP hD hS (show 0 ≤ 5 from by first | assumption | omega)
  intro n9 ih1 a9 ls H locs hμ hl hP hD hS hI
  subst hμ
  obtain ⟨i, x4⟩ := a9
  have hi5 : i ≤ 5 := hI
  have hl : lv_has ls 8 [(6, .int (nI i)), (4, .int x4), (5, .int 0), (0, .ref h), (1, .int (nI w)), (2, .int a9), (3, .int c9)] := hl
  have hP : va_P D xcl (moW h mm kA v g) H := hP
  have hD : va_D A (moW h mm kA v g) := hD
  refine lv_iload hx hb xd_Mo_says_9 (lv_at hl 0 rfl) ?_
  refine lv_iconst (v := 5) hx hb xd_Mo_says_11 (by decide) ?_
  refine xn_ge (a := i) (b := 5) (tgt := 54) hx hb xd_Mo_says_12 (by decide) (by omega) (by omega) (fun hc2 => ?_) (fun hc2 => ?_)
  · refine lv_iconst (v := 5) hx hb xd_Mo_says_54 (by decide) ?_
    refine lv_istore hx hb xd_Mo_says_55 hl (Nat.le_of_ble_eq_true rfl) rfl (fun ls hl => ?_)
    have hl : lv_has ls 8 [(6, .int 5), (4, .int x4), (5, .int 0), (0, .ref h), (1, .int (nI w)), (2, .int a9), (3, .int c9)] := hl
    refine xlab (σ := Nat × Int32) (ml := 8) 57 (fun (i2, x5) => [(6, .int (nI i2)), (5, .int x5), (4, .int x4), (0, .ref h), (1, .int (nI w)), (2, .int a9), (3, .int c9)]) (fun (i2, x5) => []) (fun (i2, x5) => moW h mm kA v g) (fun (i2, x5) => (i2 ≤ 10)) (fun (i2, x5) => 10 - i2) ?_ (5, 0) _ _ _ (lv_sub hl [0, 2, 1, 3, 4, 5, 6] rfl) hP hD hS (show 5 ≤ 10 from by first | assumption | omega)
    intro n9 ih3 a9 ls H locs hμ hl hP hD hS hI
    subst hμ
    obtain ⟨i2, x5⟩ := a9
    have hi10 : i2 ≤ 10 := hI
    have hl : lv_has ls 8 [(6, .int (nI i2)), (5, .int x5), (4, .int x4), (0, .ref h), (1, .int (nI w)), (2, .int a9), (3, .int c9)] := hl
    have hP : va_P D xcl (moW h mm kA v g) H := hP
    have hD : va_D A (moW h mm kA v g) := hD
    refine lv_iload hx hb xd_Mo_says_57 (lv_at hl 0 rfl) ?_
    refine lv_bipush (v := 10) hx hb xd_Mo_says_59 (by decide) ?_
    refine xn_ge (a := i2) (b := 10) (tgt := 103) hx hb xd_Mo_says_61 (by decide) (by omega) (by omega) (fun hc4 => ?_) (fun hc4 => ?_)
    · refine lv_aload_n hx hb xd_Mo_says_103 rfl (lv_at hl 3 rfl) ?_
      refine va_get (D := D) (ci := 4) (v := .ref (mm 2)) (C := xR_Mo) (T := xT_Mo) (N := 31) hx hb hT xi_Mo hown hK.1 hP 0 rfl rfl 6 (by decide) (hT _ xm_9) (fun _ h9 => h9) rfl xd_Mo_says_104 ?_
      refine lv_iload_n hx hb xd_Mo_says_107 rfl (lv_at hl 4 rfl) ?_
      refine xn_iald (i := w) hx hb hK.1 hP 3 0 rfl rfl (by omega) (by decide) xd_Mo_says_108 ?_
      refine xn_top (x := (g 2 w)) (y := nI e0) he0 ?_
      refine lv_aload_n hx hb xd_Mo_says_109 rfl (lv_at hl 3 rfl) ?_
      refine va_get (D := D) (ci := 4) (v := .ref (mm 1)) (C := xR_Mo) (T := xT_Mo) (N := 31) hx hb hT xi_Mo hown hK.1 hP 0 rfl rfl 5 (by decide) (hT _ xm_8) (fun _ h9 => h9) rfl xd_Mo_says_110 ?_
      refine lv_iload_n hx hb xd_Mo_says_113 rfl (lv_at hl 4 rfl) ?_
      refine xn_iald (i := w) hx hb hK.1 hP 2 0 rfl rfl (by omega) (by decide) xd_Mo_says_114 ?_
      refine xn_top (x := (g 1 w)) (y := nI b0) hb0 ?_
      refine lv_isub hx hb xd_Mo_says_115 ?_
      refine xn_top (y := nI (e0 - b0)) (pk_sub (a := e0) (b := b0) (by omega)) ?_
      refine lv_bipush (v := 10) hx hb xd_Mo_says_116 (by decide) ?_
      refine xn_gt (a := e0 - b0) (b := 10) (tgt := 125) hx hb xd_Mo_says_118 (by decide) (by omega) (by omega) (fun hc5 => ?_) (fun hc5 => ?_)
      · refine lv_iconst (v := 0) hx hb xd_Mo_says_125 (by decide) ?_
        refine lv_istore hx hb xd_Mo_says_126 hl (Nat.le_of_ble_eq_true rfl) rfl (fun ls hl => ?_)
        have hl : lv_has ls 8 [(6, .int 0), (5, .int x5), (4, .int x4), (0, .ref h), (1, .int (nI w)), (2, .int a9), (3, .int c9)] := hl
        refine lv_aload_n hx hb xd_Mo_says_128 rfl (lv_at hl 3 rfl) ?_
        refine va_get (D := D) (ci := 4) (v := .ref (mm 1)) (C := xR_Mo) (T := xT_Mo) (N := 31) hx hb hT xi_Mo hown hK.1 hP 0 rfl rfl 5 (by decide) (hT _ xm_8) (fun _ h9 => h9) rfl xd_Mo_says_129 ?_
        refine lv_iload_n hx hb xd_Mo_says_132 rfl (lv_at hl 4 rfl) ?_
        refine xn_iald (i := w) hx hb hK.1 hP 2 0 rfl rfl (by omega) (by decide) xd_Mo_says_133 ?_
        refine xn_top (x := (g 1 w)) (y := nI b0) hb0 ?_
        refine lv_istore hx hb xd_Mo_says_134 hl (Nat.le_of_ble_eq_true rfl) rfl (fun ls hl => ?_)
        have hl : lv_has ls 8 [(7, .int (nI b0)), (6, .int 0), (5, .int x5), (4, .int x4), (0, .ref h), (1, .int (nI w)), (2, .int a9), (3, .int c9)] := hl
        refine xlab (σ := Nat × Int32) (ml := 8) 136 (fun (k7, s6) => [(7, .int (nI k7)), (6, .int s6), (5, .int x5), (4, .int x4), (0, .ref h), (1, .int (nI w)), (2, .int a9), (3, .int c9)]) (fun (k7, s6) => []) (fun (k7, s6) => moW h mm kA v g) (fun (k7, s6) => (b0 ≤ k7) ∧ (k7 ≤ e0)) (fun (k7, s6) => e0 - k7) ?_ (b0, 0) _ _ _ (lv_sub hl [0, 1, 2, 3, 4, 5, 6, 7] rfl) hP hD hS ⟨(show b0 ≤ b0 from by first | assumption | omega), (show b0 ≤ e0 from by first | assumption | omega)⟩
        intro n9 ih6 a9 ls H locs hμ hl hP hD hS hI
        subst hμ
        obtain ⟨k7, s6⟩ := a9
        obtain ⟨hk1, hk2⟩ := hI
        have hk1 : b0 ≤ k7 := hk1
        have hk2 : k7 ≤ e0 := hk2
        have hl : lv_has ls 8 [(7, .int (nI k7)), (6, .int s6), (5, .int x5), (4, .int x4), (0, .ref h), (1, .int (nI w)), (2, .int a9), (3, .int c9)] := hl
        have hP : va_P D xcl (moW h mm kA v g) H := hP
        have hD : va_D A (moW h mm kA v g) := hD
        refine lv_iload hx hb xd_Mo_says_136 (lv_at hl 0 rfl) ?_
        refine lv_aload_n hx hb xd_Mo_says_138 rfl (lv_at hl 4 rfl) ?_
        refine va_get (D := D) (ci := 4) (v := .ref (mm 2)) (C := xR_Mo) (T := xT_Mo) (N := 31) hx hb hT xi_Mo hown hK.1 hP 0 rfl rfl 6 (by decide) (hT _ xm_9) (fun _ h9 => h9) rfl xd_Mo_says_139 ?_
        refine lv_iload_n hx hb xd_Mo_says_142 rfl (lv_at hl 5 rfl) ?_
        refine xn_iald (i := w) hx hb hK.1 hP 3 0 rfl rfl (by omega) (by decide) xd_Mo_says_143 ?_
        refine xn_top (x := (g 2 w)) (y := nI e0) he0 ?_
        refine xn_ge (a := k7) (b := e0) (tgt := 189) hx hb xd_Mo_says_144 (by decide) (by omega) (by omega) (fun hc7 => ?_) (fun hc7 => ?_)
        · refine lv_iload hx hb xd_Mo_says_189 (lv_at hl 1 rfl) ?_
          refine lv_if_eq (tgt := 210) hx hb xd_Mo_says_191 (by decide) (fun hc8 => ?_) (fun hc8 => ?_)
          · refine lv_iconst (v := 0) hx hb xd_Mo_says_210 (by decide) ?_
            exact W.zret (v := 0) hx hb hr rfl (fun t ht hW => ⟨⟨0, (), rfl, Or.inl rfl, by rw [ht]; exact hP, hD⟩, hS.F ht⟩) hS.2.2 xd_Mo_says_211
          · refine lv_iload hx hb xd_Mo_says_194 (lv_at hl 3 rfl) ?_
            refine lv_iload_n hx hb xd_Mo_says_196 rfl (lv_at hl 6 rfl) ?_
            refine lv_icmp_ne (tgt := 210) hx hb xd_Mo_says_197 (by decide) (fun hc9 => ?_) (fun hc9 => ?_)
            · refine lv_iconst (v := 0) hx hb xd_Mo_says_210 (by decide) ?_
              exact W.zret (v := 0) hx hb hr rfl (fun t ht hW => ⟨⟨0, (), rfl, Or.inl rfl, by rw [ht]; exact hP, hD⟩, hS.F ht⟩) hS.2.2 xd_Mo_says_211
            · refine lv_iload hx hb xd_Mo_says_200 (lv_at hl 2 rfl) ?_
              refine lv_iload_n hx hb xd_Mo_says_202 rfl (lv_at hl 7 rfl) ?_
              refine lv_icmp_ne (tgt := 210) hx hb xd_Mo_says_203 (by decide) (fun hc10 => ?_) (fun hc10 => ?_)
              · refine lv_iconst (v := 0) hx hb xd_Mo_says_210 (by decide) ?_
                exact W.zret (v := 0) hx hb hr rfl (fun t ht hW => ⟨⟨0, (), rfl, Or.inl rfl, by rw [ht]; exact hP, hD⟩, hS.F ht⟩) hS.2.2 xd_Mo_says_211
              · refine lv_iconst (v := 1) hx hb xd_Mo_says_206 (by decide) ?_
                refine lv_goto (tgt := 211) hx hb xd_Mo_says_207 (by decide) ?_
                exact W.zret (v := 1) hx hb hr rfl (fun t ht hW => ⟨⟨1, (), rfl, Or.inr rfl, by rw [ht]; exact hP, hD⟩, hS.F ht⟩) hS.2.2 xd_Mo_says_211
        · refine lv_iload hx hb xd_Mo_says_147 (lv_at hl 1 rfl) ?_
          refine lv_if_eq (tgt := 180) hx hb xd_Mo_says_149 (by decide) (fun hc11 => ?_) (fun hc11 => ?_)
          · refine lv_iconst (v := 0) hx hb xd_Mo_says_180 (by decide) ?_
            refine lv_istore hx hb xd_Mo_says_181 hl (Nat.le_of_ble_eq_true rfl) rfl (fun ls hl => ?_)
            have hl : lv_has ls 8 [(6, .int 0), (7, .int (nI k7)), (5, .int x5), (4, .int x4), (0, .ref h), (1, .int (nI w)), (2, .int a9), (3, .int c9)] := hl
            refine lv_iinc (k := 1) (x := (nI k7)) (v := (nI (k7 + 1))) hx hb xd_Mo_says_183 hl rfl (xb_inc k7 1) (Nat.le_of_ble_eq_true rfl) rfl (fun ls hl => ?_)
            have hl : lv_has ls 8 [(7, .int (nI (k7 + 1))), (6, .int 0), (5, .int x5), (4, .int x4), (0, .ref h), (1, .int (nI w)), (2, .int a9), (3, .int c9)] := hl
            refine lv_goto (tgt := 136) hx hb xd_Mo_says_186 (by decide) ?_
            exact ih6 (k7 + 1, 0) _ _ _ (show e0 - (k7 + 1) < e0 - k7 by omega) (lv_sub hl [0, 1, 2, 3, 4, 5, 6, 7] rfl) hP hD hS ⟨(show b0 ≤ (k7 + 1) from by first | assumption | omega), (show (k7 + 1) ≤ e0 from by first | assumption | omega)⟩
          · refine lv_aload_n hx hb xd_Mo_says_152 rfl (lv_at hl 4 rfl) ?_
            refine va_get (D := D) (ci := 4) (v := .ref (mm 0)) (C := xR_Mo) (T := xT_Mo) (N := 31) hx hb hT xi_Mo hown hK.1 hP 0 rfl rfl 2 (by decide) (hT _ xm_10) (fun _ h9 => h9) rfl xd_Mo_says_153 ?_
            refine lv_iload hx hb xd_Mo_says_156 (lv_at hl 0 rfl) ?_
            refine xn_cald (i := k7) hx hb hK.1 hP 1 1 rfl rfl (by omega) (by decide) xd_Mo_says_158 ?_
            refine lv_bipush (v := 97) hx hb xd_Mo_says_159 (by decide) ?_
            refine lv_icmp_lt (tgt := 180) hx hb xd_Mo_says_161 (by decide) (fun hc12 => ?_) (fun hc12 => ?_)
            · refine lv_iconst (v := 0) hx hb xd_Mo_says_180 (by decide) ?_
              refine lv_istore hx hb xd_Mo_says_181 hl (Nat.le_of_ble_eq_true rfl) rfl (fun ls hl => ?_)
              have hl : lv_has ls 8 [(6, .int 0), (7, .int (nI k7)), (5, .int x5), (4, .int x4), (0, .ref h), (1, .int (nI w)), (2, .int a9), (3, .int c9)] := hl
              refine lv_iinc (k := 1) (x := (nI k7)) (v := (nI (k7 + 1))) hx hb xd_Mo_says_183 hl rfl (xb_inc k7 1) (Nat.le_of_ble_eq_true rfl) rfl (fun ls hl => ?_)
              have hl : lv_has ls 8 [(7, .int (nI (k7 + 1))), (6, .int 0), (5, .int x5), (4, .int x4), (0, .ref h), (1, .int (nI w)), (2, .int a9), (3, .int c9)] := hl
              refine lv_goto (tgt := 136) hx hb xd_Mo_says_186 (by decide) ?_
              exact ih6 (k7 + 1, 0) _ _ _ (show e0 - (k7 + 1) < e0 - k7 by omega) (lv_sub hl [0, 1, 2, 3, 4, 5, 6, 7] rfl) hP hD hS ⟨(show b0 ≤ (k7 + 1) from by first | assumption | omega), (show (k7 + 1) ≤ e0 from by first | assumption | omega)⟩
            · refine lv_aload_n hx hb xd_Mo_says_164 rfl (lv_at hl 4 rfl) ?_
              refine va_get (D := D) (ci := 4) (v := .ref (mm 0)) (C := xR_Mo) (T := xT_Mo) (N := 31) hx hb hT xi_Mo hown hK.1 hP 0 rfl rfl 2 (by decide) (hT _ xm_10) (fun _ h9 => h9) rfl xd_Mo_says_165 ?_
              refine lv_iload hx hb xd_Mo_says_168 (lv_at hl 0 rfl) ?_
              refine xn_cald (i := k7) hx hb hK.1 hP 1 1 rfl rfl (by omega) (by decide) xd_Mo_says_170 ?_
              refine lv_bipush (v := 122) hx hb xd_Mo_says_171 (by decide) ?_
              refine lv_icmp_gt (tgt := 180) hx hb xd_Mo_says_173 (by decide) (fun hc13 => ?_) (fun hc13 => ?_)
              · refine lv_iconst (v := 0) hx hb xd_Mo_says_180 (by decide) ?_
                refine lv_istore hx hb xd_Mo_says_181 hl (Nat.le_of_ble_eq_true rfl) rfl (fun ls hl => ?_)
                have hl : lv_has ls 8 [(6, .int 0), (7, .int (nI k7)), (5, .int x5), (4, .int x4), (0, .ref h), (1, .int (nI w)), (2, .int a9), (3, .int c9)] := hl
                refine lv_iinc (k := 1) (x := (nI k7)) (v := (nI (k7 + 1))) hx hb xd_Mo_says_183 hl rfl (xb_inc k7 1) (Nat.le_of_ble_eq_true rfl) rfl (fun ls hl => ?_)
                have hl : lv_has ls 8 [(7, .int (nI (k7 + 1))), (6, .int 0), (5, .int x5), (4, .int x4), (0, .ref h), (1, .int (nI w)), (2, .int a9), (3, .int c9)] := hl
                refine lv_goto (tgt := 136) hx hb xd_Mo_says_186 (by decide) ?_
                exact ih6 (k7 + 1, 0) _ _ _ (show e0 - (k7 + 1) < e0 - k7 by omega) (lv_sub hl [0, 1, 2, 3, 4, 5, 6, 7] rfl) hP hD hS ⟨(show b0 ≤ (k7 + 1) from by first | assumption | omega), (show (k7 + 1) ≤ e0 from by first | assumption | omega)⟩
              · refine lv_iconst (v := 1) hx hb xd_Mo_says_176 (by decide) ?_
                refine lv_goto (tgt := 181) hx hb xd_Mo_says_177 (by decide) ?_
                refine lv_istore hx hb xd_Mo_says_181 hl (Nat.le_of_ble_eq_true rfl) rfl (fun ls hl => ?_)
                have hl : lv_has ls 8 [(6, .int 1), (7, .int (nI k7)), (5, .int x5), (4, .int x4), (0, .ref h), (1, .int (nI w)), (2, .int a9), (3, .int c9)] := hl
                refine lv_iinc (k := 1) (x := (nI k7)) (v := (nI (k7 + 1))) hx hb xd_Mo_says_183 hl rfl (xb_inc k7 1) (Nat.le_of_ble_eq_true rfl) rfl (fun ls hl => ?_)
                have hl : lv_has ls 8 [(7, .int (nI (k7 + 1))), (6, .int 1), (5, .int x5), (4, .int x4), (0, .ref h), (1, .int (nI w)), (2, .int a9), (3, .int c9)] := hl
                refine lv_goto (tgt := 136) hx hb xd_Mo_says_186 (by decide) ?_
                exact ih6 (k7 + 1, 1) _ _ _ (show e0 - (k7 + 1) < e0 - k7 by omega) (lv_sub hl [0, 1, 2, 3, 4, 5, 6, 7] rfl) hP hD hS ⟨(show b0 ≤ (k7 + 1) from by first | assumption | omega), (show (k7 + 1) ≤ e0 from by first | assumption | omega)⟩
      · refine lv_iconst (v := 1) hx hb xd_Mo_says_121 (by decide) ?_
        refine lv_goto (tgt := 126) hx hb xd_Mo_says_122 (by decide) ?_
        refine lv_istore hx hb xd_Mo_says_126 hl (Nat.le_of_ble_eq_true rfl) rfl (fun ls hl => ?_)
        have hl : lv_has ls 8 [(6, .int 1), (5, .int x5), (4, .int x4), (0, .ref h), (1, .int (nI w)), (2, .int a9), (3, .int c9)] := hl
        refine lv_aload_n hx hb xd_Mo_says_128 rfl (lv_at hl 3 rfl) ?_
        refine va_get (D := D) (ci := 4) (v := .ref (mm 1)) (C := xR_Mo) (T := xT_Mo) (N := 31) hx hb hT xi_Mo hown hK.1 hP 0 rfl rfl 5 (by decide) (hT _ xm_8) (fun _ h9 => h9) rfl xd_Mo_says_129 ?_
        refine lv_iload_n hx hb xd_Mo_says_132 rfl (lv_at hl 4 rfl) ?_
        refine xn_iald (i := w) hx hb hK.1 hP 2 0 rfl rfl (by omega) (by decide) xd_Mo_says_133 ?_
        refine xn_top (x := (g 1 w)) (y := nI b0) hb0 ?_
        refine lv_istore hx hb xd_Mo_says_134 hl (Nat.le_of_ble_eq_true rfl) rfl (fun ls hl => ?_)
        have hl : lv_has ls 8 [(7, .int (nI b0)), (6, .int 1), (5, .int x5), (4, .int x4), (0, .ref h), (1, .int (nI w)), (2, .int a9), (3, .int c9)] := hl
        refine xlab (σ := Nat × Int32) (ml := 8) 136 (fun (k7, s6) => [(7, .int (nI k7)), (6, .int s6), (5, .int x5), (4, .int x4), (0, .ref h), (1, .int (nI w)), (2, .int a9), (3, .int c9)]) (fun (k7, s6) => []) (fun (k7, s6) => moW h mm kA v g) (fun (k7, s6) => (b0 ≤ k7) ∧ (k7 ≤ e0)) (fun (k7, s6) => e0 - k7) ?_ (b0, 1) _ _ _ (lv_sub hl [0, 1, 2, 3, 4, 5, 6, 7] rfl) hP hD hS ⟨(show b0 ≤ b0 from by first | assumption | omega), (show b0 ≤ e0 from by first | assumption | omega)⟩
        intro n9 ih14 a9 ls H locs hμ hl hP hD hS hI
        subst hμ
        obtain ⟨k7, s6⟩ := a9
        obtain ⟨hk1, hk2⟩ := hI
        have hk1 : b0 ≤ k7 := hk1
        have hk2 : k7 ≤ e0 := hk2
        have hl : lv_has ls 8 [(7, .int (nI k7)), (6, .int s6), (5, .int x5), (4, .int x4), (0, .ref h), (1, .int (nI w)), (2, .int a9), (3, .int c9)] := hl
        have hP : va_P D xcl (moW h mm kA v g) H := hP
        have hD : va_D A (moW h mm kA v g) := hD
        refine lv_iload hx hb xd_Mo_says_136 (lv_at hl 0 rfl) ?_
        refine lv_aload_n hx hb xd_Mo_says_138 rfl (lv_at hl 4 rfl) ?_
        refine va_get (D := D) (ci := 4) (v := .ref (mm 2)) (C := xR_Mo) (T := xT_Mo) (N := 31) hx hb hT xi_Mo hown hK.1 hP 0 rfl rfl 6 (by decide) (hT _ xm_9) (fun _ h9 => h9) rfl xd_Mo_says_139 ?_
        refine lv_iload_n hx hb xd_Mo_says_142 rfl (lv_at hl 5 rfl) ?_
        refine xn_iald (i := w) hx hb hK.1 hP 3 0 rfl rfl (by omega) (by decide) xd_Mo_says_143 ?_
        refine xn_top (x := (g 2 w)) (y := nI e0) he0 ?_
        refine xn_ge (a := k7) (b := e0) (tgt := 189) hx hb xd_Mo_says_144 (by decide) (by omega) (by omega) (fun hc15 => ?_) (fun hc15 => ?_)
        · refine lv_iload hx hb xd_Mo_says_189 (lv_at hl 1 rfl) ?_
          refine lv_if_eq (tgt := 210) hx hb xd_Mo_says_191 (by decide) (fun hc16 => ?_) (fun hc16 => ?_)
          · refine lv_iconst (v := 0) hx hb xd_Mo_says_210 (by decide) ?_
            exact W.zret (v := 0) hx hb hr rfl (fun t ht hW => ⟨⟨0, (), rfl, Or.inl rfl, by rw [ht]; exact hP, hD⟩, hS.F ht⟩) hS.2.2 xd_Mo_says_211
          · refine lv_iload hx hb xd_Mo_says_194 (lv_at hl 3 rfl) ?_
            refine lv_iload_n hx hb xd_Mo_says_196 rfl (lv_at hl 6 rfl) ?_
            refine lv_icmp_ne (tgt := 210) hx hb xd_Mo_says_197 (by decide) (fun hc17 => ?_) (fun hc17 => ?_)
            · refine lv_iconst (v := 0) hx hb xd_Mo_says_210 (by decide) ?_
              exact W.zret (v := 0) hx hb hr rfl (fun t ht hW => ⟨⟨0, (), rfl, Or.inl rfl, by rw [ht]; exact hP, hD⟩, hS.F ht⟩) hS.2.2 xd_Mo_says_211
            · refine lv_iload hx hb xd_Mo_says_200 (lv_at hl 2 rfl) ?_
              refine lv_iload_n hx hb xd_Mo_says_202 rfl (lv_at hl 7 rfl) ?_
              refine lv_icmp_ne (tgt := 210) hx hb xd_Mo_says_203 (by decide) (fun hc18 => ?_) (fun hc18 => ?_)
              · refine lv_iconst (v := 0) hx hb xd_Mo_says_210 (by decide) ?_
                exact W.zret (v := 0) hx hb hr rfl (fun t ht hW => ⟨⟨0, (), rfl, Or.inl rfl, by rw [ht]; exact hP, hD⟩, hS.F ht⟩) hS.2.2 xd_Mo_says_211
              · refine lv_iconst (v := 1) hx hb xd_Mo_says_206 (by decide) ?_
                refine lv_goto (tgt := 211) hx hb xd_Mo_says_207 (by decide) ?_
                exact W.zret (v := 1) hx hb hr rfl (fun t ht hW => ⟨⟨1, (), rfl, Or.inr rfl, by rw [ht]; exact hP, hD⟩, hS.F ht⟩) hS.2.2 xd_Mo_says_211
        · refine lv_iload hx hb xd_Mo_says_147 (lv_at hl 1 rfl) ?_
          refine lv_if_eq (tgt := 180) hx hb xd_Mo_says_149 (by decide) (fun hc19 => ?_) (fun hc19 => ?_)
          · refine lv_iconst (v := 0) hx hb xd_Mo_says_180 (by decide) ?_
            refine lv_istore hx hb xd_Mo_says_181 hl (Nat.le_of_ble_eq_true rfl) rfl (fun ls hl => ?_)
            have hl : lv_has ls 8 [(6, .int 0), (7, .int (nI k7)), (5, .int x5), (4, .int x4), (0, .ref h), (1, .int (nI w)), (2, .int a9), (3, .int c9)] := hl
            refine lv_iinc (k := 1) (x := (nI k7)) (v := (nI (k7 + 1))) hx hb xd_Mo_says_183 hl rfl (xb_inc k7 1) (Nat.le_of_ble_eq_true rfl) rfl (fun ls hl => ?_)
            have hl : lv_has ls 8 [(7, .int (nI (k7 + 1))), (6, .int 0), (5, .int x5), (4, .int x4), (0, .ref h), (1, .int (nI w)), (2, .int a9), (3, .int c9)] := hl
            refine lv_goto (tgt := 136) hx hb xd_Mo_says_186 (by decide) ?_
            exact ih14 (k7 + 1, 0) _ _ _ (show e0 - (k7 + 1) < e0 - k7 by omega) (lv_sub hl [0, 1, 2, 3, 4, 5, 6, 7] rfl) hP hD hS ⟨(show b0 ≤ (k7 + 1) from by first | assumption | omega), (show (k7 + 1) ≤ e0 from by first | assumption | omega)⟩
          · refine lv_aload_n hx hb xd_Mo_says_152 rfl (lv_at hl 4 rfl) ?_
            refine va_get (D := D) (ci := 4) (v := .ref (mm 0)) (C := xR_Mo) (T := xT_Mo) (N := 31) hx hb hT xi_Mo hown hK.1 hP 0 rfl rfl 2 (by decide) (hT _ xm_10) (fun _ h9 => h9) rfl xd_Mo_says_153 ?_
            refine lv_iload hx hb xd_Mo_says_156 (lv_at hl 0 rfl) ?_
            refine xn_cald (i := k7) hx hb hK.1 hP 1 1 rfl rfl (by omega) (by decide) xd_Mo_says_158 ?_
            refine lv_bipush (v := 97) hx hb xd_Mo_says_159 (by decide) ?_
            refine lv_icmp_lt (tgt := 180) hx hb xd_Mo_says_161 (by decide) (fun hc20 => ?_) (fun hc20 => ?_)
            · refine lv_iconst (v := 0) hx hb xd_Mo_says_180 (by decide) ?_
              refine lv_istore hx hb xd_Mo_says_181 hl (Nat.le_of_ble_eq_true rfl) rfl (fun ls hl => ?_)
              have hl : lv_has ls 8 [(6, .int 0), (7, .int (nI k7)), (5, .int x5), (4, .int x4), (0, .ref h), (1, .int (nI w)), (2, .int a9), (3, .int c9)] := hl
              refine lv_iinc (k := 1) (x := (nI k7)) (v := (nI (k7 + 1))) hx hb xd_Mo_says_183 hl rfl (xb_inc k7 1) (Nat.le_of_ble_eq_true rfl) rfl (fun ls hl => ?_)
              have hl : lv_has ls 8 [(7, .int (nI (k7 + 1))), (6, .int 0), (5, .int x5), (4, .int x4), (0, .ref h), (1, .int (nI w)), (2, .int a9), (3, .int c9)] := hl
              refine lv_goto (tgt := 136) hx hb xd_Mo_says_186 (by decide) ?_
              exact ih14 (k7 + 1, 0) _ _ _ (show e0 - (k7 + 1) < e0 - k7 by omega) (lv_sub hl [0, 1, 2, 3, 4, 5, 6, 7] rfl) hP hD hS ⟨(show b0 ≤ (k7 + 1) from by first | assumption | omega), (show (k7 + 1) ≤ e0 from by first | assumption | omega)⟩
            · refine lv_aload_n hx hb xd_Mo_says_164 rfl (lv_at hl 4 rfl) ?_
              refine va_get (D := D) (ci := 4) (v := .ref (mm 0)) (C := xR_Mo) (T := xT_Mo) (N := 31) hx hb hT xi_Mo hown hK.1 hP 0 rfl rfl 2 (by decide) (hT _ xm_10) (fun _ h9 => h9) rfl xd_Mo_says_165 ?_
              refine lv_iload hx hb xd_Mo_says_168 (lv_at hl 0 rfl) ?_
              refine xn_cald (i := k7) hx hb hK.1 hP 1 1 rfl rfl (by omega) (by decide) xd_Mo_says_170 ?_
              refine lv_bipush (v := 122) hx hb xd_Mo_says_171 (by decide) ?_
              refine lv_icmp_gt (tgt := 180) hx hb xd_Mo_says_173 (by decide) (fun hc21 => ?_) (fun hc21 => ?_)
              · refine lv_iconst (v := 0) hx hb xd_Mo_says_180 (by decide) ?_
                refine lv_istore hx hb xd_Mo_says_181 hl (Nat.le_of_ble_eq_true rfl) rfl (fun ls hl => ?_)
                have hl : lv_has ls 8 [(6, .int 0), (7, .int (nI k7)), (5, .int x5), (4, .int x4), (0, .ref h), (1, .int (nI w)), (2, .int a9), (3, .int c9)] := hl
                refine lv_iinc (k := 1) (x := (nI k7)) (v := (nI (k7 + 1))) hx hb xd_Mo_says_183 hl rfl (xb_inc k7 1) (Nat.le_of_ble_eq_true rfl) rfl (fun ls hl => ?_)
                have hl : lv_has ls 8 [(7, .int (nI (k7 + 1))), (6, .int 0), (5, .int x5), (4, .int x4), (0, .ref h), (1, .int (nI w)), (2, .int a9), (3, .int c9)] := hl
                refine lv_goto (tgt := 136) hx hb xd_Mo_says_186 (by decide) ?_
                exact ih14 (k7 + 1, 0) _ _ _ (show e0 - (k7 + 1) < e0 - k7 by omega) (lv_sub hl [0, 1, 2, 3, 4, 5, 6, 7] rfl) hP hD hS ⟨(show b0 ≤ (k7 + 1) from by first | assumption | omega), (show (k7 + 1) ≤ e0 from by first | assumption | omega)⟩
              · refine lv_iconst (v := 1) hx hb xd_Mo_says_176 (by decide) ?_
                refine lv_goto (tgt := 181) hx hb xd_Mo_says_177 (by decide) ?_
                refine lv_istore hx hb xd_Mo_says_181 hl (Nat.le_of_ble_eq_true rfl) rfl (fun ls hl => ?_)
                have hl : lv_has ls 8 [(6, .int 1), (7, .int (nI k7)), (5, .int x5), (4, .int x4), (0, .ref h), (1, .int (nI w)), (2, .int a9), (3, .int c9)] := hl
                refine lv_iinc (k := 1) (x := (nI k7)) (v := (nI (k7 + 1))) hx hb xd_Mo_says_183 hl rfl (xb_inc k7 1) (Nat.le_of_ble_eq_true rfl) rfl (fun ls hl => ?_)
                have hl : lv_has ls 8 [(7, .int (nI (k7 + 1))), (6, .int 1), (5, .int x5), (4, .int x4), (0, .ref h), (1, .int (nI w)), (2, .int a9), (3, .int c9)] := hl
                refine lv_goto (tgt := 136) hx hb xd_Mo_says_186 (by decide) ?_
                exact ih14 (k7 + 1, 1) _ _ _ (show e0 - (k7 + 1) < e0 - k7 by omega) (lv_sub hl [0, 1, 2, 3, 4, 5, 6, 7] rfl) hP hD hS ⟨(show b0 ≤ (k7 + 1) from by first | assumption | omega), (show (k7 + 1) ≤ e0 from by first | assumption | omega)⟩
    · refine lv_aload_n hx hb xd_Mo_says_64 rfl (lv_at hl 3 rfl) ?_
      refine lv_iload_n hx hb xd_Mo_says_65 rfl (lv_at hl 4 rfl) ?_
      refine lv_iload hx hb xd_Mo_says_66 (lv_at hl 0 rfl) ?_
      have hFc := va_free (wc := (moW h mm kA v g)) hD hS hA [0, 1, 2, 3, 4, 5, 6, 7, 8, 9, 10, 11, 12, 13, 14, 15, 16, 17, 18, 19, 20, 21, 22, 23, 24, 25] rfl
      refine va_calli (va_runV (As := [.int (nI w), .int (nI i2)]) (rest := []) ⟨hx, hb, hml, hown, hT⟩ (xc_Mo_letter l D kA H.size h mm v g w b0 e0 i2 (by first | assumption | omega) (by first | assumption | omega) (by first | assumption | omega) (by first | assumption | omega) (by first | assumption | omega) (by first | assumption | omega) (by first | assumption | omega)) (cwV 2 hT (wT_V xm_12 xm_13 xm_14 xm_15 xm_11) rfl rfl rfl (by decide +kernel) ⟨Nat.le_of_ble_eq_true rfl, Nat.le_of_ble_eq_true rfl⟩) (x_preV hK hP hD 0 rfl rfl) rfl rfl hl.1 rfl (lv_room (Nat.le_of_ble_eq_true rfl)) xd_Mo_says_68 ⟨Nat.le_of_ble_eq_true rfl, Nat.le_of_ble_eq_true rfl⟩) hS (fun q _ h => hFc q h) hFc (fun r22 u23 t H1 locs ht hvm hp24 hB hz1 hk1 hS => ?_)
      obtain ⟨hP1, hD1⟩ := hB
      rw [ht] at hP1
      have hD1 := hD1.weaken (fun _ _ _ h => hFc _ h)
      generalize H1 = H at hP1 hS ⊢
      have hP := hP1
      have hD := hD1
      have hP : va_P D xcl (moW h mm kA v g) H := hP
      have hD : va_D A (moW h mm kA v g) := hD
      refine lv_if_ne (tgt := 79) hx hb xd_Mo_says_71 (by decide) (fun hc25 => ?_) (fun hc25 => ?_)
      · refine lv_bipush (v := 32) hx hb xd_Mo_says_79 (by decide) ?_
        refine lv_iload hx hb xd_Mo_says_81 (lv_at hl 1 rfl) ?_
        refine lv_imul hx hb xd_Mo_says_83 ?_
        refine lv_aload_n hx hb xd_Mo_says_84 rfl (lv_at hl 3 rfl) ?_
        refine lv_iload_n hx hb xd_Mo_says_85 rfl (lv_at hl 4 rfl) ?_
        refine lv_iload hx hb xd_Mo_says_86 (lv_at hl 0 rfl) ?_
        have hFc := va_free (wc := (moW h mm kA v g)) hD hS hA [0, 1, 2, 3, 4, 5, 6, 7, 8, 9, 10, 11, 12, 13, 14, 15, 16, 17, 18, 19, 20, 21, 22, 23, 24, 25] rfl
        refine va_calli (va_runV (As := [.int (nI w), .int (nI i2)]) (rest := [.int (32 * x5)]) ⟨hx, hb, hml, hown, hT⟩ (xc_Mo_letter l D kA H.size h mm v g w b0 e0 i2 (by first | assumption | omega) (by first | assumption | omega) (by first | assumption | omega) (by first | assumption | omega) (by first | assumption | omega) (by first | assumption | omega) (by first | assumption | omega)) (cwV 2 hT (wT_V xm_12 xm_13 xm_14 xm_15 xm_11) rfl rfl rfl (by decide +kernel) ⟨Nat.le_of_ble_eq_true rfl, Nat.le_of_ble_eq_true rfl⟩) (x_preV hK hP hD 0 rfl rfl) rfl rfl hl.1 rfl (lv_room (Nat.le_of_ble_eq_true rfl)) xd_Mo_says_88 ⟨Nat.le_of_ble_eq_true rfl, Nat.le_of_ble_eq_true rfl⟩) hS (fun q _ h => hFc q h) hFc (fun r26 u27 t H1 locs ht hvm hp28 hB hz1 hk1 hS => ?_)
        obtain ⟨hP1, hD1⟩ := hB
        rw [ht] at hP1
        have hD1 := hD1.weaken (fun _ _ _ h => hFc _ h)
        generalize H1 = H at hP1 hS ⊢
        have hP := hP1
        have hD := hD1
        have hP : va_P D xcl (moW h mm kA v g) H := hP
        have hD : va_D A (moW h mm kA v g) := hD
        refine lv_bipush (v := 31) hx hb xd_Mo_says_91 (by decide) ?_
        refine lv_iand hx hb xd_Mo_says_93 ?_
        refine lv_iadd hx hb xd_Mo_says_94 ?_
        refine lv_istore hx hb xd_Mo_says_95 hl (Nat.le_of_ble_eq_true rfl) rfl (fun ls hl => ?_)
        have hl : lv_has ls 8 [(5, .int ((32 * x5) + (r26 &&& 31))), (6, .int (nI i2)), (4, .int x4), (0, .ref h), (1, .int (nI w)), (2, .int a9), (3, .int c9)] := hl
        refine lv_iinc (k := 1) (x := (nI i2)) (v := (nI (i2 + 1))) hx hb xd_Mo_says_97 hl rfl (xb_inc i2 1) (Nat.le_of_ble_eq_true rfl) rfl (fun ls hl => ?_)
        have hl : lv_has ls 8 [(6, .int (nI (i2 + 1))), (5, .int ((32 * x5) + (r26 &&& 31))), (4, .int x4), (0, .ref h), (1, .int (nI w)), (2, .int a9), (3, .int c9)] := hl
        refine lv_goto (tgt := 57) hx hb xd_Mo_says_100 (by decide) ?_
        exact ih3 (i2 + 1, ((32 * x5) + (r26 &&& 31))) _ _ _ (show 10 - (i2 + 1) < 10 - i2 by omega) (lv_sub hl [0, 1, 2, 3, 4, 5, 6] rfl) hP hD hS (show (i2 + 1) ≤ 10 from by first | assumption | omega)
      · refine lv_iload hx hb xd_Mo_says_74 (lv_at hl 1 rfl) ?_
        refine lv_goto (tgt := 95) hx hb xd_Mo_says_76 (by decide) ?_
        refine lv_istore hx hb xd_Mo_says_95 hl (Nat.le_of_ble_eq_true rfl) rfl (fun ls hl => ?_)
        have hl : lv_has ls 8 [(5, .int x5), (6, .int (nI i2)), (4, .int x4), (0, .ref h), (1, .int (nI w)), (2, .int a9), (3, .int c9)] := hl
        refine lv_iinc (k := 1) (x := (nI i2)) (v := (nI (i2 + 1))) hx hb xd_Mo_says_97 hl rfl (xb_inc i2 1) (Nat.le_of_ble_eq_true rfl) rfl (fun ls hl => ?_)
        have hl : lv_has ls 8 [(6, .int (nI (i2 + 1))), (5, .int x5), (4, .int x4), (0, .ref h), (1, .int (nI w)), (2, .int a9), (3, .int c9)] := hl
        refine lv_goto (tgt := 57) hx hb xd_Mo_says_100 (by decide) ?_
        exact ih3 (i2 + 1, x5) _ _ _ (show 10 - (i2 + 1) < 10 - i2 by omega) (lv_sub hl [0, 1, 2, 3, 4, 5, 6] rfl) hP hD hS (show (i2 + 1) ≤ 10 from by first | assumption | omega)
  · refine lv_aload_n hx hb xd_Mo_says_15 rfl (lv_at hl 3 rfl) ?_
    refine lv_iload_n hx hb xd_Mo_says_16 rfl (lv_at hl 4 rfl) ?_
    refine lv_iload hx hb xd_Mo_says_17 (lv_at hl 0 rfl) ?_
    have hFc := va_free (wc := (moW h mm kA v g)) hD hS hA [0, 1, 2, 3, 4, 5, 6, 7, 8, 9, 10, 11, 12, 13, 14, 15, 16, 17, 18, 19, 20, 21, 22, 23, 24, 25] rfl
    refine va_calli (va_runV (As := [.int (nI w), .int (nI i)]) (rest := []) ⟨hx, hb, hml, hown, hT⟩ (xc_Mo_letter l D kA H.size h mm v g w b0 e0 i (by first | assumption | omega) (by first | assumption | omega) (by first | assumption | omega) (by first | assumption | omega) (by first | assumption | omega) (by first | assumption | omega) (by first | assumption | omega)) (cwV 2 hT (wT_V xm_12 xm_13 xm_14 xm_15 xm_11) rfl rfl rfl (by decide +kernel) ⟨Nat.le_of_ble_eq_true rfl, Nat.le_of_ble_eq_true rfl⟩) (x_preV hK hP hD 0 rfl rfl) rfl rfl hl.1 rfl (lv_room (Nat.le_of_ble_eq_true rfl)) xd_Mo_says_19 ⟨Nat.le_of_ble_eq_true rfl, Nat.le_of_ble_eq_true rfl⟩) hS (fun q _ h => hFc q h) hFc (fun r29 u30 t H1 locs ht hvm hp31 hB hz1 hk1 hS => ?_)
    obtain ⟨hP1, hD1⟩ := hB
    rw [ht] at hP1
    have hD1 := hD1.weaken (fun _ _ _ h => hFc _ h)
    generalize H1 = H at hP1 hS ⊢
    have hP := hP1
    have hD := hD1
    have hP : va_P D xcl (moW h mm kA v g) H := hP
    have hD : va_D A (moW h mm kA v g) := hD
    refine lv_if_ne (tgt := 30) hx hb xd_Mo_says_22 (by decide) (fun hc32 => ?_) (fun hc32 => ?_)
    · refine lv_bipush (v := 32) hx hb xd_Mo_says_30 (by decide) ?_
      refine lv_iload hx hb xd_Mo_says_32 (lv_at hl 1 rfl) ?_
      refine lv_imul hx hb xd_Mo_says_34 ?_
      refine lv_aload_n hx hb xd_Mo_says_35 rfl (lv_at hl 3 rfl) ?_
      refine lv_iload_n hx hb xd_Mo_says_36 rfl (lv_at hl 4 rfl) ?_
      refine lv_iload hx hb xd_Mo_says_37 (lv_at hl 0 rfl) ?_
      have hFc := va_free (wc := (moW h mm kA v g)) hD hS hA [0, 1, 2, 3, 4, 5, 6, 7, 8, 9, 10, 11, 12, 13, 14, 15, 16, 17, 18, 19, 20, 21, 22, 23, 24, 25] rfl
      refine va_calli (va_runV (As := [.int (nI w), .int (nI i)]) (rest := [.int (32 * x4)]) ⟨hx, hb, hml, hown, hT⟩ (xc_Mo_letter l D kA H.size h mm v g w b0 e0 i (by first | assumption | omega) (by first | assumption | omega) (by first | assumption | omega) (by first | assumption | omega) (by first | assumption | omega) (by first | assumption | omega) (by first | assumption | omega)) (cwV 2 hT (wT_V xm_12 xm_13 xm_14 xm_15 xm_11) rfl rfl rfl (by decide +kernel) ⟨Nat.le_of_ble_eq_true rfl, Nat.le_of_ble_eq_true rfl⟩) (x_preV hK hP hD 0 rfl rfl) rfl rfl hl.1 rfl (lv_room (Nat.le_of_ble_eq_true rfl)) xd_Mo_says_39 ⟨Nat.le_of_ble_eq_true rfl, Nat.le_of_ble_eq_true rfl⟩) hS (fun q _ h => hFc q h) hFc (fun r33 u34 t H1 locs ht hvm hp35 hB hz1 hk1 hS => ?_)
      obtain ⟨hP1, hD1⟩ := hB
      rw [ht] at hP1
      have hD1 := hD1.weaken (fun _ _ _ h => hFc _ h)
      generalize H1 = H at hP1 hS ⊢
      have hP := hP1
      have hD := hD1
      have hP : va_P D xcl (moW h mm kA v g) H := hP
      have hD : va_D A (moW h mm kA v g) := hD
      refine lv_bipush (v := 31) hx hb xd_Mo_says_42 (by decide) ?_
      refine lv_iand hx hb xd_Mo_says_44 ?_
      refine lv_iadd hx hb xd_Mo_says_45 ?_
      refine lv_istore hx hb xd_Mo_says_46 hl (Nat.le_of_ble_eq_true rfl) rfl (fun ls hl => ?_)
      have hl : lv_has ls 8 [(4, .int ((32 * x4) + (r33 &&& 31))), (6, .int (nI i)), (5, .int 0), (0, .ref h), (1, .int (nI w)), (2, .int a9), (3, .int c9)] := hl
      refine lv_iinc (k := 1) (x := (nI i)) (v := (nI (i + 1))) hx hb xd_Mo_says_48 hl rfl (xb_inc i 1) (Nat.le_of_ble_eq_true rfl) rfl (fun ls hl => ?_)
      have hl : lv_has ls 8 [(6, .int (nI (i + 1))), (4, .int ((32 * x4) + (r33 &&& 31))), (5, .int 0), (0, .ref h), (1, .int (nI w)), (2, .int a9), (3, .int c9)] := hl
      refine lv_goto (tgt := 9) hx hb xd_Mo_says_51 (by decide) ?_
      exact ih1 (i + 1, ((32 * x4) + (r33 &&& 31))) _ _ _ (show 5 - (i + 1) < 5 - i by omega) (lv_sub hl [0, 1, 2, 3, 4, 5, 6] rfl) hP hD hS (show (i + 1) ≤ 5 from by first | assumption | omega)
    · refine lv_iload hx hb xd_Mo_says_25 (lv_at hl 1 rfl) ?_
      refine lv_goto (tgt := 46) hx hb xd_Mo_says_27 (by decide) ?_
      refine lv_istore hx hb xd_Mo_says_46 hl (Nat.le_of_ble_eq_true rfl) rfl (fun ls hl => ?_)
      have hl : lv_has ls 8 [(4, .int x4), (6, .int (nI i)), (5, .int 0), (0, .ref h), (1, .int (nI w)), (2, .int a9), (3, .int c9)] := hl
      refine lv_iinc (k := 1) (x := (nI i)) (v := (nI (i + 1))) hx hb xd_Mo_says_48 hl rfl (xb_inc i 1) (Nat.le_of_ble_eq_true rfl) rfl (fun ls hl => ?_)
      have hl : lv_has ls 8 [(6, .int (nI (i + 1))), (4, .int x4), (5, .int 0), (0, .ref h), (1, .int (nI w)), (2, .int a9), (3, .int c9)] := hl
      refine lv_goto (tgt := 9) hx hb xd_Mo_says_51 (by decide) ?_
      exact ih1 (i + 1, x4) _ _ _ (show 5 - (i + 1) < 5 - i by omega) (lv_sub hl [0, 1, 2, 3, 4, 5, 6] rfl) hP hD hS (show (i + 1) ≤ 5 from by first | assumption | omega)
set_option maxHeartbeats 4000000 in
set_option maxRecDepth 100000 in
theorem xc_Mo_code (l : Launch) (D : va_G) (kA : Nat → ClassId) (sz h : Nat) (mm : Nat → Nat) (v : Nat → Int32) (g : Nat → Nat → Int32) (c0 : Int32) (c1 : Int32) (c2 : Int32) (c3 : Int32) (c4 : Int32) : Met l xy_Mo_code (.code xy_Mo_code xb_Mo_code 6 (some .int) :: wT) { frames := 0, cells := 0, slots := 0, locals := 0 } (va_Pc [.int c0, .int c1, .int c2, .int c3, .int c4] (xPre D kA sz (moW h mm kA v g))) (va_Qi (fun (r : Int32) (u : Unit) => True) (fun (u : Unit) t => va_P D xcl (moW h mm kA v g) t.heap ∧ va_D (va_A (moW h mm kA v g) sz) (moW h mm kA v g)) (va_A (moW h mm kA v g) sz)) 0 0 (va_A (moW h mm kA v g) sz) := by
  refine Met.ofW (cc := xb_Mo_code) (maxL := 6) (ret := (some .int)) (by decide) rfl ?_
  intro p e s m args below meth c s₁ B hml hv
  obtain ⟨rfl, hsz, hP, hK, hD0⟩ := hv
  have hx := B.exec
  have hb := B.bytes
  have hr := B.returns
  have hT := x_hT B.pre
  have hown : s.vm.findClass xR_Mo = some m.cls := findClass_of_methodNamed B.named
  have hlocks := B.notSynchronized
  subst hsz
  have hD := hD0.self (sz := s.heap.size)
  generalize hAe : va_A (moW h mm kA v g) s.heap.size = A at hD ⊢
  have hA : ∀ q : Nat, s.heap.size ≤ q → A q := fun q h => by rw [← hAe]; exact Or.inr h
  have hS : va_S A s.heap s.heap [] := va_S.rf
  have hl := lv_entry ([.int c0, .int c1, .int c2, .int c3, .int c4]) (n := 6) (Nat.le_of_ble_eq_true rfl)
  rw [lg_entry_eq]
  generalize (lg_sl ([.int c0, .int c1, .int c2, .int c3, .int c4]) ++ List.replicate (6 - (lg_sl ([.int c0, .int c1, .int c2, .int c3, .int c4])).length) Slot.unset).toArray = ls at hl ⊢
  have hl : lv_has ls 6 [(0, .int c0), (1, .int c1), (2, .int c2), (3, .int c3), (4, .int c4)] := hl
  have hP : va_P D xcl (moW h mm kA v g) s.heap := hP
  refine lv_iload_n hx hb xd_Mo_code_0 rfl (lv_at hl 0 rfl) ?_
  refine lv_bipush (v := 96) hx hb xd_Mo_code_1 (by decide) ?_
  refine lv_isub hx hb xd_Mo_code_3 ?_
  refine lv_istore hx hb xd_Mo_code_4 hl (Nat.le_of_ble_eq_true rfl) rfl (fun ls hl => ?_)
  have hl : lv_has ls 6 [(5, .int (c0 - 96)), (0, .int c0), (1, .int c1), (2, .int c2), (3, .int c3), (4, .int c4)] := hl
  refine lv_iload_n hx hb xd_Mo_code_6 rfl (lv_at hl 2 rfl) ?_
  refine lv_if_ne (tgt := 15) hx hb xd_Mo_code_7 (by decide) (fun hc1 => ?_) (fun hc1 => ?_)
  · refine lv_bipush (v := 32) hx hb xd_Mo_code_15 (by decide) ?_
    refine lv_iload hx hb xd_Mo_code_17 (lv_at hl 0 rfl) ?_
    refine lv_imul hx hb xd_Mo_code_19 ?_
    refine lv_iload_n hx hb xd_Mo_code_20 rfl (lv_at hl 2 rfl) ?_
    refine lv_iadd hx hb xd_Mo_code_21 ?_
    refine lv_bipush (v := 96) hx hb xd_Mo_code_22 (by decide) ?_
    refine lv_isub hx hb xd_Mo_code_24 ?_
    refine lv_istore hx hb xd_Mo_code_25 hl (Nat.le_of_ble_eq_true rfl) rfl (fun ls hl => ?_)
    have hl : lv_has ls 6 [(5, .int (((32 * (c0 - 96)) + c1) - 96)), (0, .int c0), (1, .int c1), (2, .int c2), (3, .int c3), (4, .int c4)] := hl
    refine lv_iload_n hx hb xd_Mo_code_27 rfl (lv_at hl 3 rfl) ?_
    refine lv_if_ne (tgt := 36) hx hb xd_Mo_code_28 (by decide) (fun hc2 => ?_) (fun hc2 => ?_)
    · refine lv_bipush (v := 32) hx hb xd_Mo_code_36 (by decide) ?_
      refine lv_iload hx hb xd_Mo_code_38 (lv_at hl 0 rfl) ?_
      refine lv_imul hx hb xd_Mo_code_40 ?_
      refine lv_iload_n hx hb xd_Mo_code_41 rfl (lv_at hl 3 rfl) ?_
      refine lv_iadd hx hb xd_Mo_code_42 ?_
      refine lv_bipush (v := 96) hx hb xd_Mo_code_43 (by decide) ?_
      refine lv_isub hx hb xd_Mo_code_45 ?_
      refine lv_istore hx hb xd_Mo_code_46 hl (Nat.le_of_ble_eq_true rfl) rfl (fun ls hl => ?_)
      have hl : lv_has ls 6 [(5, .int (((32 * (((32 * (c0 - 96)) + c1) - 96)) + c2) - 96)), (0, .int c0), (1, .int c1), (2, .int c2), (3, .int c3), (4, .int c4)] := hl
      refine lv_iload_n hx hb xd_Mo_code_48 rfl (lv_at hl 4 rfl) ?_
      refine lv_if_ne (tgt := 57) hx hb xd_Mo_code_49 (by decide) (fun hc3 => ?_) (fun hc3 => ?_)
      · refine lv_bipush (v := 32) hx hb xd_Mo_code_57 (by decide) ?_
        refine lv_iload hx hb xd_Mo_code_59 (lv_at hl 0 rfl) ?_
        refine lv_imul hx hb xd_Mo_code_61 ?_
        refine lv_iload_n hx hb xd_Mo_code_62 rfl (lv_at hl 4 rfl) ?_
        refine lv_iadd hx hb xd_Mo_code_63 ?_
        refine lv_bipush (v := 96) hx hb xd_Mo_code_64 (by decide) ?_
        refine lv_isub hx hb xd_Mo_code_66 ?_
        refine lv_istore hx hb xd_Mo_code_67 hl (Nat.le_of_ble_eq_true rfl) rfl (fun ls hl => ?_)
        have hl : lv_has ls 6 [(5, .int (((32 * (((32 * (((32 * (c0 - 96)) + c1) - 96)) + c2) - 96)) + c3) - 96)), (0, .int c0), (1, .int c1), (2, .int c2), (3, .int c3), (4, .int c4)] := hl
        refine lv_iload hx hb xd_Mo_code_69 (lv_at hl 5 rfl) ?_
        refine lv_if_ne (tgt := 79) hx hb xd_Mo_code_71 (by decide) (fun hc4 => ?_) (fun hc4 => ?_)
        · refine lv_bipush (v := 32) hx hb xd_Mo_code_79 (by decide) ?_
          refine lv_iload hx hb xd_Mo_code_81 (lv_at hl 0 rfl) ?_
          refine lv_imul hx hb xd_Mo_code_83 ?_
          refine lv_iload hx hb xd_Mo_code_84 (lv_at hl 5 rfl) ?_
          refine lv_iadd hx hb xd_Mo_code_86 ?_
          refine lv_bipush (v := 96) hx hb xd_Mo_code_87 (by decide) ?_
          refine lv_isub hx hb xd_Mo_code_89 ?_
          exact W.iret (v := (((32 * (((32 * (((32 * (((32 * (c0 - 96)) + c1) - 96)) + c2) - 96)) + c3) - 96)) + c4) - 96)) hx hb hr (fun t ht hW => ⟨⟨(((32 * (((32 * (((32 * (((32 * (c0 - 96)) + c1) - 96)) + c2) - 96)) + c3) - 96)) + c4) - 96), (), rfl, trivial, by rw [ht]; exact hP, hD⟩, hS.F ht⟩) hS.2.2 xd_Mo_code_90
        · refine lv_iload hx hb xd_Mo_code_74 (lv_at hl 0 rfl) ?_
          refine lv_goto (tgt := 90) hx hb xd_Mo_code_76 (by decide) ?_
          exact W.iret (v := (((32 * (((32 * (((32 * (c0 - 96)) + c1) - 96)) + c2) - 96)) + c3) - 96)) hx hb hr (fun t ht hW => ⟨⟨(((32 * (((32 * (((32 * (c0 - 96)) + c1) - 96)) + c2) - 96)) + c3) - 96), (), rfl, trivial, by rw [ht]; exact hP, hD⟩, hS.F ht⟩) hS.2.2 xd_Mo_code_90
      · refine lv_iload hx hb xd_Mo_code_52 (lv_at hl 0 rfl) ?_
        refine lv_goto (tgt := 67) hx hb xd_Mo_code_54 (by decide) ?_
        refine lv_istore hx hb xd_Mo_code_67 hl (Nat.le_of_ble_eq_true rfl) rfl (fun ls hl => ?_)
        have hl : lv_has ls 6 [(5, .int (((32 * (((32 * (c0 - 96)) + c1) - 96)) + c2) - 96)), (0, .int c0), (1, .int c1), (2, .int c2), (3, .int c3), (4, .int c4)] := hl
        refine lv_iload hx hb xd_Mo_code_69 (lv_at hl 5 rfl) ?_
        refine lv_if_ne (tgt := 79) hx hb xd_Mo_code_71 (by decide) (fun hc5 => ?_) (fun hc5 => ?_)
        · refine lv_bipush (v := 32) hx hb xd_Mo_code_79 (by decide) ?_
          refine lv_iload hx hb xd_Mo_code_81 (lv_at hl 0 rfl) ?_
          refine lv_imul hx hb xd_Mo_code_83 ?_
          refine lv_iload hx hb xd_Mo_code_84 (lv_at hl 5 rfl) ?_
          refine lv_iadd hx hb xd_Mo_code_86 ?_
          refine lv_bipush (v := 96) hx hb xd_Mo_code_87 (by decide) ?_
          refine lv_isub hx hb xd_Mo_code_89 ?_
          exact W.iret (v := (((32 * (((32 * (((32 * (c0 - 96)) + c1) - 96)) + c2) - 96)) + c4) - 96)) hx hb hr (fun t ht hW => ⟨⟨(((32 * (((32 * (((32 * (c0 - 96)) + c1) - 96)) + c2) - 96)) + c4) - 96), (), rfl, trivial, by rw [ht]; exact hP, hD⟩, hS.F ht⟩) hS.2.2 xd_Mo_code_90
        · refine lv_iload hx hb xd_Mo_code_74 (lv_at hl 0 rfl) ?_
          refine lv_goto (tgt := 90) hx hb xd_Mo_code_76 (by decide) ?_
          exact W.iret (v := (((32 * (((32 * (c0 - 96)) + c1) - 96)) + c2) - 96)) hx hb hr (fun t ht hW => ⟨⟨(((32 * (((32 * (c0 - 96)) + c1) - 96)) + c2) - 96), (), rfl, trivial, by rw [ht]; exact hP, hD⟩, hS.F ht⟩) hS.2.2 xd_Mo_code_90
    · refine lv_iload hx hb xd_Mo_code_31 (lv_at hl 0 rfl) ?_
      refine lv_goto (tgt := 46) hx hb xd_Mo_code_33 (by decide) ?_
      refine lv_istore hx hb xd_Mo_code_46 hl (Nat.le_of_ble_eq_true rfl) rfl (fun ls hl => ?_)
      have hl : lv_has ls 6 [(5, .int (((32 * (c0 - 96)) + c1) - 96)), (0, .int c0), (1, .int c1), (2, .int c2), (3, .int c3), (4, .int c4)] := hl
      refine lv_iload_n hx hb xd_Mo_code_48 rfl (lv_at hl 4 rfl) ?_
      refine lv_if_ne (tgt := 57) hx hb xd_Mo_code_49 (by decide) (fun hc6 => ?_) (fun hc6 => ?_)
      · refine lv_bipush (v := 32) hx hb xd_Mo_code_57 (by decide) ?_
        refine lv_iload hx hb xd_Mo_code_59 (lv_at hl 0 rfl) ?_
        refine lv_imul hx hb xd_Mo_code_61 ?_
        refine lv_iload_n hx hb xd_Mo_code_62 rfl (lv_at hl 4 rfl) ?_
        refine lv_iadd hx hb xd_Mo_code_63 ?_
        refine lv_bipush (v := 96) hx hb xd_Mo_code_64 (by decide) ?_
        refine lv_isub hx hb xd_Mo_code_66 ?_
        refine lv_istore hx hb xd_Mo_code_67 hl (Nat.le_of_ble_eq_true rfl) rfl (fun ls hl => ?_)
        have hl : lv_has ls 6 [(5, .int (((32 * (((32 * (c0 - 96)) + c1) - 96)) + c3) - 96)), (0, .int c0), (1, .int c1), (2, .int c2), (3, .int c3), (4, .int c4)] := hl
        refine lv_iload hx hb xd_Mo_code_69 (lv_at hl 5 rfl) ?_
        refine lv_if_ne (tgt := 79) hx hb xd_Mo_code_71 (by decide) (fun hc7 => ?_) (fun hc7 => ?_)
        · refine lv_bipush (v := 32) hx hb xd_Mo_code_79 (by decide) ?_
          refine lv_iload hx hb xd_Mo_code_81 (lv_at hl 0 rfl) ?_
          refine lv_imul hx hb xd_Mo_code_83 ?_
          refine lv_iload hx hb xd_Mo_code_84 (lv_at hl 5 rfl) ?_
          refine lv_iadd hx hb xd_Mo_code_86 ?_
          refine lv_bipush (v := 96) hx hb xd_Mo_code_87 (by decide) ?_
          refine lv_isub hx hb xd_Mo_code_89 ?_
          exact W.iret (v := (((32 * (((32 * (((32 * (c0 - 96)) + c1) - 96)) + c3) - 96)) + c4) - 96)) hx hb hr (fun t ht hW => ⟨⟨(((32 * (((32 * (((32 * (c0 - 96)) + c1) - 96)) + c3) - 96)) + c4) - 96), (), rfl, trivial, by rw [ht]; exact hP, hD⟩, hS.F ht⟩) hS.2.2 xd_Mo_code_90
        · refine lv_iload hx hb xd_Mo_code_74 (lv_at hl 0 rfl) ?_
          refine lv_goto (tgt := 90) hx hb xd_Mo_code_76 (by decide) ?_
          exact W.iret (v := (((32 * (((32 * (c0 - 96)) + c1) - 96)) + c3) - 96)) hx hb hr (fun t ht hW => ⟨⟨(((32 * (((32 * (c0 - 96)) + c1) - 96)) + c3) - 96), (), rfl, trivial, by rw [ht]; exact hP, hD⟩, hS.F ht⟩) hS.2.2 xd_Mo_code_90
      · refine lv_iload hx hb xd_Mo_code_52 (lv_at hl 0 rfl) ?_
        refine lv_goto (tgt := 67) hx hb xd_Mo_code_54 (by decide) ?_
        refine lv_istore hx hb xd_Mo_code_67 hl (Nat.le_of_ble_eq_true rfl) rfl (fun ls hl => ?_)
        have hl : lv_has ls 6 [(5, .int (((32 * (c0 - 96)) + c1) - 96)), (0, .int c0), (1, .int c1), (2, .int c2), (3, .int c3), (4, .int c4)] := hl
        refine lv_iload hx hb xd_Mo_code_69 (lv_at hl 5 rfl) ?_
        refine lv_if_ne (tgt := 79) hx hb xd_Mo_code_71 (by decide) (fun hc8 => ?_) (fun hc8 => ?_)
        · refine lv_bipush (v := 32) hx hb xd_Mo_code_79 (by decide) ?_
          refine lv_iload hx hb xd_Mo_code_81 (lv_at hl 0 rfl) ?_
          refine lv_imul hx hb xd_Mo_code_83 ?_
          refine lv_iload hx hb xd_Mo_code_84 (lv_at hl 5 rfl) ?_
          refine lv_iadd hx hb xd_Mo_code_86 ?_
          refine lv_bipush (v := 96) hx hb xd_Mo_code_87 (by decide) ?_
          refine lv_isub hx hb xd_Mo_code_89 ?_
          exact W.iret (v := (((32 * (((32 * (c0 - 96)) + c1) - 96)) + c4) - 96)) hx hb hr (fun t ht hW => ⟨⟨(((32 * (((32 * (c0 - 96)) + c1) - 96)) + c4) - 96), (), rfl, trivial, by rw [ht]; exact hP, hD⟩, hS.F ht⟩) hS.2.2 xd_Mo_code_90
        · refine lv_iload hx hb xd_Mo_code_74 (lv_at hl 0 rfl) ?_
          refine lv_goto (tgt := 90) hx hb xd_Mo_code_76 (by decide) ?_
          exact W.iret (v := (((32 * (c0 - 96)) + c1) - 96)) hx hb hr (fun t ht hW => ⟨⟨(((32 * (c0 - 96)) + c1) - 96), (), rfl, trivial, by rw [ht]; exact hP, hD⟩, hS.F ht⟩) hS.2.2 xd_Mo_code_90
  · refine lv_iload hx hb xd_Mo_code_10 (lv_at hl 0 rfl) ?_
    refine lv_goto (tgt := 25) hx hb xd_Mo_code_12 (by decide) ?_
    refine lv_istore hx hb xd_Mo_code_25 hl (Nat.le_of_ble_eq_true rfl) rfl (fun ls hl => ?_)
    have hl : lv_has ls 6 [(5, .int (c0 - 96)), (0, .int c0), (1, .int c1), (2, .int c2), (3, .int c3), (4, .int c4)] := hl
    refine lv_iload_n hx hb xd_Mo_code_27 rfl (lv_at hl 3 rfl) ?_
    refine lv_if_ne (tgt := 36) hx hb xd_Mo_code_28 (by decide) (fun hc9 => ?_) (fun hc9 => ?_)
    · refine lv_bipush (v := 32) hx hb xd_Mo_code_36 (by decide) ?_
      refine lv_iload hx hb xd_Mo_code_38 (lv_at hl 0 rfl) ?_
      refine lv_imul hx hb xd_Mo_code_40 ?_
      refine lv_iload_n hx hb xd_Mo_code_41 rfl (lv_at hl 3 rfl) ?_
      refine lv_iadd hx hb xd_Mo_code_42 ?_
      refine lv_bipush (v := 96) hx hb xd_Mo_code_43 (by decide) ?_
      refine lv_isub hx hb xd_Mo_code_45 ?_
      refine lv_istore hx hb xd_Mo_code_46 hl (Nat.le_of_ble_eq_true rfl) rfl (fun ls hl => ?_)
      have hl : lv_has ls 6 [(5, .int (((32 * (c0 - 96)) + c2) - 96)), (0, .int c0), (1, .int c1), (2, .int c2), (3, .int c3), (4, .int c4)] := hl
      refine lv_iload_n hx hb xd_Mo_code_48 rfl (lv_at hl 4 rfl) ?_
      refine lv_if_ne (tgt := 57) hx hb xd_Mo_code_49 (by decide) (fun hc10 => ?_) (fun hc10 => ?_)
      · refine lv_bipush (v := 32) hx hb xd_Mo_code_57 (by decide) ?_
        refine lv_iload hx hb xd_Mo_code_59 (lv_at hl 0 rfl) ?_
        refine lv_imul hx hb xd_Mo_code_61 ?_
        refine lv_iload_n hx hb xd_Mo_code_62 rfl (lv_at hl 4 rfl) ?_
        refine lv_iadd hx hb xd_Mo_code_63 ?_
        refine lv_bipush (v := 96) hx hb xd_Mo_code_64 (by decide) ?_
        refine lv_isub hx hb xd_Mo_code_66 ?_
        refine lv_istore hx hb xd_Mo_code_67 hl (Nat.le_of_ble_eq_true rfl) rfl (fun ls hl => ?_)
        have hl : lv_has ls 6 [(5, .int (((32 * (((32 * (c0 - 96)) + c2) - 96)) + c3) - 96)), (0, .int c0), (1, .int c1), (2, .int c2), (3, .int c3), (4, .int c4)] := hl
        refine lv_iload hx hb xd_Mo_code_69 (lv_at hl 5 rfl) ?_
        refine lv_if_ne (tgt := 79) hx hb xd_Mo_code_71 (by decide) (fun hc11 => ?_) (fun hc11 => ?_)
        · refine lv_bipush (v := 32) hx hb xd_Mo_code_79 (by decide) ?_
          refine lv_iload hx hb xd_Mo_code_81 (lv_at hl 0 rfl) ?_
          refine lv_imul hx hb xd_Mo_code_83 ?_
          refine lv_iload hx hb xd_Mo_code_84 (lv_at hl 5 rfl) ?_
          refine lv_iadd hx hb xd_Mo_code_86 ?_
          refine lv_bipush (v := 96) hx hb xd_Mo_code_87 (by decide) ?_
          refine lv_isub hx hb xd_Mo_code_89 ?_
          exact W.iret (v := (((32 * (((32 * (((32 * (c0 - 96)) + c2) - 96)) + c3) - 96)) + c4) - 96)) hx hb hr (fun t ht hW => ⟨⟨(((32 * (((32 * (((32 * (c0 - 96)) + c2) - 96)) + c3) - 96)) + c4) - 96), (), rfl, trivial, by rw [ht]; exact hP, hD⟩, hS.F ht⟩) hS.2.2 xd_Mo_code_90
        · refine lv_iload hx hb xd_Mo_code_74 (lv_at hl 0 rfl) ?_
          refine lv_goto (tgt := 90) hx hb xd_Mo_code_76 (by decide) ?_
          exact W.iret (v := (((32 * (((32 * (c0 - 96)) + c2) - 96)) + c3) - 96)) hx hb hr (fun t ht hW => ⟨⟨(((32 * (((32 * (c0 - 96)) + c2) - 96)) + c3) - 96), (), rfl, trivial, by rw [ht]; exact hP, hD⟩, hS.F ht⟩) hS.2.2 xd_Mo_code_90
      · refine lv_iload hx hb xd_Mo_code_52 (lv_at hl 0 rfl) ?_
        refine lv_goto (tgt := 67) hx hb xd_Mo_code_54 (by decide) ?_
        refine lv_istore hx hb xd_Mo_code_67 hl (Nat.le_of_ble_eq_true rfl) rfl (fun ls hl => ?_)
        have hl : lv_has ls 6 [(5, .int (((32 * (c0 - 96)) + c2) - 96)), (0, .int c0), (1, .int c1), (2, .int c2), (3, .int c3), (4, .int c4)] := hl
        refine lv_iload hx hb xd_Mo_code_69 (lv_at hl 5 rfl) ?_
        refine lv_if_ne (tgt := 79) hx hb xd_Mo_code_71 (by decide) (fun hc12 => ?_) (fun hc12 => ?_)
        · refine lv_bipush (v := 32) hx hb xd_Mo_code_79 (by decide) ?_
          refine lv_iload hx hb xd_Mo_code_81 (lv_at hl 0 rfl) ?_
          refine lv_imul hx hb xd_Mo_code_83 ?_
          refine lv_iload hx hb xd_Mo_code_84 (lv_at hl 5 rfl) ?_
          refine lv_iadd hx hb xd_Mo_code_86 ?_
          refine lv_bipush (v := 96) hx hb xd_Mo_code_87 (by decide) ?_
          refine lv_isub hx hb xd_Mo_code_89 ?_
          exact W.iret (v := (((32 * (((32 * (c0 - 96)) + c2) - 96)) + c4) - 96)) hx hb hr (fun t ht hW => ⟨⟨(((32 * (((32 * (c0 - 96)) + c2) - 96)) + c4) - 96), (), rfl, trivial, by rw [ht]; exact hP, hD⟩, hS.F ht⟩) hS.2.2 xd_Mo_code_90
        · refine lv_iload hx hb xd_Mo_code_74 (lv_at hl 0 rfl) ?_
          refine lv_goto (tgt := 90) hx hb xd_Mo_code_76 (by decide) ?_
          exact W.iret (v := (((32 * (c0 - 96)) + c2) - 96)) hx hb hr (fun t ht hW => ⟨⟨(((32 * (c0 - 96)) + c2) - 96), (), rfl, trivial, by rw [ht]; exact hP, hD⟩, hS.F ht⟩) hS.2.2 xd_Mo_code_90
    · refine lv_iload hx hb xd_Mo_code_31 (lv_at hl 0 rfl) ?_
      refine lv_goto (tgt := 46) hx hb xd_Mo_code_33 (by decide) ?_
      refine lv_istore hx hb xd_Mo_code_46 hl (Nat.le_of_ble_eq_true rfl) rfl (fun ls hl => ?_)
      have hl : lv_has ls 6 [(5, .int (c0 - 96)), (0, .int c0), (1, .int c1), (2, .int c2), (3, .int c3), (4, .int c4)] := hl
      refine lv_iload_n hx hb xd_Mo_code_48 rfl (lv_at hl 4 rfl) ?_
      refine lv_if_ne (tgt := 57) hx hb xd_Mo_code_49 (by decide) (fun hc13 => ?_) (fun hc13 => ?_)
      · refine lv_bipush (v := 32) hx hb xd_Mo_code_57 (by decide) ?_
        refine lv_iload hx hb xd_Mo_code_59 (lv_at hl 0 rfl) ?_
        refine lv_imul hx hb xd_Mo_code_61 ?_
        refine lv_iload_n hx hb xd_Mo_code_62 rfl (lv_at hl 4 rfl) ?_
        refine lv_iadd hx hb xd_Mo_code_63 ?_
        refine lv_bipush (v := 96) hx hb xd_Mo_code_64 (by decide) ?_
        refine lv_isub hx hb xd_Mo_code_66 ?_
        refine lv_istore hx hb xd_Mo_code_67 hl (Nat.le_of_ble_eq_true rfl) rfl (fun ls hl => ?_)
        have hl : lv_has ls 6 [(5, .int (((32 * (c0 - 96)) + c3) - 96)), (0, .int c0), (1, .int c1), (2, .int c2), (3, .int c3), (4, .int c4)] := hl
        refine lv_iload hx hb xd_Mo_code_69 (lv_at hl 5 rfl) ?_
        refine lv_if_ne (tgt := 79) hx hb xd_Mo_code_71 (by decide) (fun hc14 => ?_) (fun hc14 => ?_)
        · refine lv_bipush (v := 32) hx hb xd_Mo_code_79 (by decide) ?_
          refine lv_iload hx hb xd_Mo_code_81 (lv_at hl 0 rfl) ?_
          refine lv_imul hx hb xd_Mo_code_83 ?_
          refine lv_iload hx hb xd_Mo_code_84 (lv_at hl 5 rfl) ?_
          refine lv_iadd hx hb xd_Mo_code_86 ?_
          refine lv_bipush (v := 96) hx hb xd_Mo_code_87 (by decide) ?_
          refine lv_isub hx hb xd_Mo_code_89 ?_
          exact W.iret (v := (((32 * (((32 * (c0 - 96)) + c3) - 96)) + c4) - 96)) hx hb hr (fun t ht hW => ⟨⟨(((32 * (((32 * (c0 - 96)) + c3) - 96)) + c4) - 96), (), rfl, trivial, by rw [ht]; exact hP, hD⟩, hS.F ht⟩) hS.2.2 xd_Mo_code_90
        · refine lv_iload hx hb xd_Mo_code_74 (lv_at hl 0 rfl) ?_
          refine lv_goto (tgt := 90) hx hb xd_Mo_code_76 (by decide) ?_
          exact W.iret (v := (((32 * (c0 - 96)) + c3) - 96)) hx hb hr (fun t ht hW => ⟨⟨(((32 * (c0 - 96)) + c3) - 96), (), rfl, trivial, by rw [ht]; exact hP, hD⟩, hS.F ht⟩) hS.2.2 xd_Mo_code_90
      · refine lv_iload hx hb xd_Mo_code_52 (lv_at hl 0 rfl) ?_
        refine lv_goto (tgt := 67) hx hb xd_Mo_code_54 (by decide) ?_
        refine lv_istore hx hb xd_Mo_code_67 hl (Nat.le_of_ble_eq_true rfl) rfl (fun ls hl => ?_)
        have hl : lv_has ls 6 [(5, .int (c0 - 96)), (0, .int c0), (1, .int c1), (2, .int c2), (3, .int c3), (4, .int c4)] := hl
        refine lv_iload hx hb xd_Mo_code_69 (lv_at hl 5 rfl) ?_
        refine lv_if_ne (tgt := 79) hx hb xd_Mo_code_71 (by decide) (fun hc15 => ?_) (fun hc15 => ?_)
        · refine lv_bipush (v := 32) hx hb xd_Mo_code_79 (by decide) ?_
          refine lv_iload hx hb xd_Mo_code_81 (lv_at hl 0 rfl) ?_
          refine lv_imul hx hb xd_Mo_code_83 ?_
          refine lv_iload hx hb xd_Mo_code_84 (lv_at hl 5 rfl) ?_
          refine lv_iadd hx hb xd_Mo_code_86 ?_
          refine lv_bipush (v := 96) hx hb xd_Mo_code_87 (by decide) ?_
          refine lv_isub hx hb xd_Mo_code_89 ?_
          exact W.iret (v := (((32 * (c0 - 96)) + c4) - 96)) hx hb hr (fun t ht hW => ⟨⟨(((32 * (c0 - 96)) + c4) - 96), (), rfl, trivial, by rw [ht]; exact hP, hD⟩, hS.F ht⟩) hS.2.2 xd_Mo_code_90
        · refine lv_iload hx hb xd_Mo_code_74 (lv_at hl 0 rfl) ?_
          refine lv_goto (tgt := 90) hx hb xd_Mo_code_76 (by decide) ?_
          exact W.iret (v := (c0 - 96)) hx hb hr (fun t ht hW => ⟨⟨(c0 - 96), (), rfl, trivial, by rw [ht]; exact hP, hD⟩, hS.F ht⟩) hS.2.2 xd_Mo_code_90
set_option maxHeartbeats 4000000 in
set_option maxRecDepth 100000 in
theorem xc_Mo_split (l : Launch) (D : va_G) (kA : Nat → ClassId) (sz h : Nat) (mm : Nat → Nat) (v : Nat → Int32) (g : Nat → Nat → Int32) (wr : Nat) (hwr : v 2 = nI wr) (hwr40 : wr ≤ 40) : Met l xy_Mo_split (.code xy_Mo_split xb_Mo_split 2 none :: wT) { frames := 0, cells := 0, slots := 0, locals := 0 } (va_Pc [.ref h] (xPre D kA sz (moW h mm kA v g))) (va_Qv (fun (u : (Nat → Int32) × (Nat → Nat → Int32)) => ∃ wn, wn ≤ 20 ∧ u.1 = va_up (va_up v 2 0) 3 (nI wn) ∧ (∀ j, j ≠ 1 → j ≠ 2 → u.2 j = g j) ∧ ∀ w9, w9 < wn → ∃ b9 e9, b9 < e9 ∧ e9 ≤ 40 ∧ u.2 1 w9 = nI b9 ∧ u.2 2 w9 = nI e9) (fun (u : (Nat → Int32) × (Nat → Nat → Int32)) t => va_P D xcl (moW h mm kA u.1 u.2) t.heap ∧ va_D (va_A (moW h mm kA v g) sz) (moW h mm kA u.1 u.2)) (va_A (moW h mm kA v g) sz)) 0 0 (va_A (moW h mm kA v g) sz) := by
  refine Met.ofW (cc := xb_Mo_split) (maxL := 2) (ret := none) (by decide) rfl ?_
  intro p e s m args below meth c s₁ B hml hv
  obtain ⟨rfl, hsz, hP, hK, hD0⟩ := hv
  have hx := B.exec
  have hb := B.bytes
  have hr := B.returns
  have hT := x_hT B.pre
  have hown : s.vm.findClass xR_Mo = some m.cls := findClass_of_methodNamed B.named
  have hlocks := B.notSynchronized
  subst hsz
  have hD := hD0.self (sz := s.heap.size)
  generalize hAe : va_A (moW h mm kA v g) s.heap.size = A at hD ⊢
  have hA : ∀ q : Nat, s.heap.size ≤ q → A q := fun q h => by rw [← hAe]; exact Or.inr h
  have hS : va_S A s.heap s.heap [] := va_S.rf
  have hl := lv_entry ([.ref h]) (n := 2) (Nat.le_of_ble_eq_true rfl)
  rw [lg_entry_eq]
  generalize (lg_sl ([.ref h]) ++ List.replicate (2 - (lg_sl ([.ref h])).length) Slot.unset).toArray = ls at hl ⊢
  have hl : lv_has ls 2 [(0, .ref h)] := hl
  have hP : va_P D xcl (moW h mm kA v g) s.heap := hP
  refine lv_aload_n hx hb xd_Mo_split_0 rfl (lv_at hl 0 rfl) ?_
  refine lv_iconst (v := 0) hx hb xd_Mo_split_1 (by decide) ?_
  refine va_put (D := D) (ci := 4) (v := .int 0) (ty := .int) (C := xR_Mo) (T := xT_Mo) (N := 31) hx hb hT xi_Mo xt_Mo xt_Mo_ok xn_Mo hown hK.1 hP hD hS 0 rfl rfl 4 (by decide) (hT _ xm_16) (fun _ h9 => h9) rfl (by decide +kernel) rfl rfl (Nat.le_of_ble_eq_true rfl) xd_Mo_split_2 (fun H locs hP hD hS => ?_)
  have hP : va_P D xcl (moW h mm kA (va_up v 3 0) g) H := hP
  have hD : va_D A (moW h mm kA (va_up v 3 0) g) := hD
  refine lv_iconst (v := 0) hx hb xd_Mo_split_5 (by decide) ?_
  refine lv_istore_n hx hb xd_Mo_split_6 rfl hl (Nat.le_of_ble_eq_true rfl) rfl (fun ls hl => ?_)
  have hl : lv_has ls 2 [(1, .int 0), (0, .ref h)] := hl
  refine xlab (σ := Nat × Nat × (Nat → Int32) × (Nat → Int32)) (ml := 2) 7 (fun (k, wn, f1, f2) => [(1, .int (nI k)), (0, .ref h)]) (fun (k, wn, f1, f2) => []) (fun (k, wn, f1, f2) => moW h mm kA (va_up v 3 (nI wn)) (va_up (va_up g 1 f1) 2 f2)) (fun (k, wn, f1, f2) => (k ≤ wr) ∧ (2 * wn ≤ k + 1) ∧ (wn = 0 ∨ k = wr ∨ g 0 k = 32) ∧ (∀ w9, w9 < wn → ∃ b9 e9, b9 < e9 ∧ e9 ≤ k ∧ f1 w9 = nI b9 ∧ f2 w9 = nI e9)) (fun (k, wn, f1, f2) => wr - k) ?_ (0, 0, (g 1), (g 2)) _ _ _ (lv_sub hl [0, 1] rfl) hP hD hS ⟨(show 0 ≤ wr from by first | assumption | omega), (show 2 * 0 ≤ 0 + 1 from by first | assumption | omega), (show 0 = 0 ∨ 0 = wr ∨ g 0 0 = 32 from Or.inl rfl), (show ∀ w9, w9 < 0 → ∃ b9 e9, b9 < e9 ∧ e9 ≤ 0 ∧ (g 1) w9 = nI b9 ∧ (g 2) w9 = nI e9 from fun w9 hw => absurd hw (by omega))⟩
  intro n9 ih1 a9 ls H locs hμ hl hP hD hS hI
  subst hμ
  obtain ⟨k, wn, f1, f2⟩ := a9
  obtain ⟨hk, hW, hbl, hsg⟩ := hI
  have hk : k ≤ wr := hk
  have hW : 2 * wn ≤ k + 1 := hW
  have hbl : wn = 0 ∨ k = wr ∨ g 0 k = 32 := hbl
  have hsg : ∀ w9, w9 < wn → ∃ b9 e9, b9 < e9 ∧ e9 ≤ k ∧ f1 w9 = nI b9 ∧ f2 w9 = nI e9 := hsg
  have hl : lv_has ls 2 [(1, .int (nI k)), (0, .ref h)] := hl
  have hP : va_P D xcl (moW h mm kA (va_up v 3 (nI wn)) (va_up (va_up g 1 f1) 2 f2)) H := hP
  have hD : va_D A (moW h mm kA (va_up v 3 (nI wn)) (va_up (va_up g 1 f1) 2 f2)) := hD
  refine lv_iload_n hx hb xd_Mo_split_7 rfl (lv_at hl 0 rfl) ?_
  refine lv_aload_n hx hb xd_Mo_split_8 rfl (lv_at hl 1 rfl) ?_
  refine va_get (D := D) (ci := 4) (v := .int (v 2)) (C := xR_Mo) (T := xT_Mo) (N := 31) hx hb hT xi_Mo hown hK.1 hP 0 rfl rfl 3 (by decide) (hT _ xm_17) (fun _ h9 => h9) rfl xd_Mo_split_9 ?_
  refine xn_top (x := (v 2)) (y := nI wr) hwr ?_
  refine xn_ge (a := k) (b := wr) (tgt := 106) hx hb xd_Mo_split_12 (by decide) (by omega) (by omega) (fun hc2 => ?_) (fun hc2 => ?_)
  · refine lv_aload_n hx hb xd_Mo_split_106 rfl (lv_at hl 1 rfl) ?_
    refine lv_iconst (v := 0) hx hb xd_Mo_split_107 (by decide) ?_
    refine va_put (D := D) (ci := 4) (v := .int 0) (ty := .int) (C := xR_Mo) (T := xT_Mo) (N := 31) hx hb hT xi_Mo xt_Mo xt_Mo_ok xn_Mo hown hK.1 hP hD hS 0 rfl rfl 3 (by decide) (hT _ xm_17) (fun _ h9 => h9) rfl (by decide +kernel) rfl rfl (Nat.le_of_ble_eq_true rfl) xd_Mo_split_108 (fun H locs hP hD hS => ?_)
    have hP : va_P D xcl (moW h mm kA (va_up (va_up v 2 0) 3 (nI wn)) (va_up (va_up g 1 f1) 2 f2)) H := hP
    have hD : va_D A (moW h mm kA (va_up (va_up v 2 0) 3 (nI wn)) (va_up (va_up g 1 f1) 2 f2)) := hD
    exact W.vret hx hb hr (fun t ht hW => ⟨⟨((va_up (va_up v 2 0) 3 (nI wn)), (va_up (va_up g 1 f1) 2 f2)), rfl, ⟨wn, by omega, rfl, fun j h1 h2 => by simp [va_up, h1, h2], fun w9 hw => by
      obtain ⟨b9, e9, h1, h2, h3, h4⟩ := hsg w9 hw
      exact ⟨b9, e9, h1, by omega, h3, h4⟩⟩, by rw [ht]; exact hP, hD⟩, hS.F ht⟩) hS.2.2 xd_Mo_split_111
  · refine xlab (σ := Nat) (ml := 2) 15 (fun (k1 : Nat) => [(1, .int (nI k1)), (0, .ref h)]) (fun (k1 : Nat) => []) (fun (k1 : Nat) => moW h mm kA (va_up v 3 (nI wn)) (va_up (va_up g 1 f1) 2 f2)) (fun (k1 : Nat) => (k ≤ k1) ∧ (k1 ≤ wr) ∧ (wn = 0 ∨ k < k1 ∨ g 0 k1 = 32)) (fun (k1 : Nat) => wr - k1) ?_ k _ _ _ (lv_sub hl [0, 1] rfl) hP hD hS ⟨(show k ≤ k from by first | assumption | omega), (show k ≤ wr from by first | assumption | omega), (show wn = 0 ∨ k < k ∨ g 0 k = 32 from by
      rcases hbl with h | h | h
      · exact Or.inl h
      · omega
      · exact Or.inr (Or.inr h))⟩
    intro n9 ih3 a9 ls H locs hμ hl hP hD hS hI
    subst hμ
    obtain ⟨k1, rfl⟩ : ∃ z, z = a9 := ⟨_, rfl⟩
    obtain ⟨hk1, hk2, hb1⟩ := hI
    have hk1 : k ≤ k1 := hk1
    have hk2 : k1 ≤ wr := hk2
    have hb1 : wn = 0 ∨ k < k1 ∨ g 0 k1 = 32 := hb1
    have hl : lv_has ls 2 [(1, .int (nI k1)), (0, .ref h)] := hl
    have hP : va_P D xcl (moW h mm kA (va_up v 3 (nI wn)) (va_up (va_up g 1 f1) 2 f2)) H := hP
    have hD : va_D A (moW h mm kA (va_up v 3 (nI wn)) (va_up (va_up g 1 f1) 2 f2)) := hD
    refine lv_iload_n hx hb xd_Mo_split_15 rfl (lv_at hl 0 rfl) ?_
    refine lv_aload_n hx hb xd_Mo_split_16 rfl (lv_at hl 1 rfl) ?_
    refine va_get (D := D) (ci := 4) (v := .int (v 2)) (C := xR_Mo) (T := xT_Mo) (N := 31) hx hb hT xi_Mo hown hK.1 hP 0 rfl rfl 3 (by decide) (hT _ xm_17) (fun _ h9 => h9) rfl xd_Mo_split_17 ?_
    refine xn_top (x := (v 2)) (y := nI wr) hwr ?_
    refine xn_ge (a := k1) (b := wr) (tgt := 40) hx hb xd_Mo_split_20 (by decide) (by omega) (by omega) (fun hc4 => ?_) (fun hc4 => ?_)
    · refine lv_iload_n hx hb xd_Mo_split_40 rfl (lv_at hl 0 rfl) ?_
      refine lv_aload_n hx hb xd_Mo_split_41 rfl (lv_at hl 1 rfl) ?_
      refine va_get (D := D) (ci := 4) (v := .int (v 2)) (C := xR_Mo) (T := xT_Mo) (N := 31) hx hb hT xi_Mo hown hK.1 hP 0 rfl rfl 3 (by decide) (hT _ xm_17) (fun _ h9 => h9) rfl xd_Mo_split_42 ?_
      refine xn_top (x := (v 2)) (y := nI wr) hwr ?_
      refine xn_ge (a := k1) (b := wr) (tgt := 7) hx hb xd_Mo_split_45 (by decide) (by omega) (by omega) (fun _ => ?_) (fun hc5 => absurd hc5 (by omega))
      exact ih1 (k1, wn, f1, f2) _ _ _ (show wr - k1 < wr - k by omega) (lv_sub hl [0, 1] rfl) hP hD hS ⟨(show k1 ≤ wr from by first | assumption | omega), (show 2 * wn ≤ k1 + 1 from by first | assumption | omega), (show wn = 0 ∨ k1 = wr ∨ g 0 k1 = 32 from Or.inr (Or.inl (by omega))), (show ∀ w9, w9 < wn → ∃ b9 e9, b9 < e9 ∧ e9 ≤ k1 ∧ f1 w9 = nI b9 ∧ f2 w9 = nI e9 from fun w9 hw => by
      obtain ⟨b9, e9, h1, h2, h3, h4⟩ := hsg w9 hw
      exact ⟨b9, e9, h1, by omega, h3, h4⟩)⟩
    · refine lv_aload_n hx hb xd_Mo_split_23 rfl (lv_at hl 1 rfl) ?_
      refine va_get (D := D) (ci := 4) (v := .ref (mm 0)) (C := xR_Mo) (T := xT_Mo) (N := 31) hx hb hT xi_Mo hown hK.1 hP 0 rfl rfl 2 (by decide) (hT _ xm_10) (fun _ h9 => h9) rfl xd_Mo_split_24 ?_
      refine lv_iload_n hx hb xd_Mo_split_27 rfl (lv_at hl 0 rfl) ?_
      refine xn_cald (i := k1) hx hb hK.1 hP 1 1 rfl rfl (by omega) (by decide) xd_Mo_split_28 ?_
      refine lv_bipush (v := 32) hx hb xd_Mo_split_29 (by decide) ?_
      refine lv_icmp_ne (tgt := 40) hx hb xd_Mo_split_31 (by decide) (fun hc6 => ?_) (fun hc6 => ?_)
      · have hb2 : wn = 0 ∨ k < k1 := by
          rcases hb1 with h | h | h
          · exact Or.inl h
          · exact Or.inr h
          · exact absurd h hc6
        refine lv_iload_n hx hb xd_Mo_split_40 rfl (lv_at hl 0 rfl) ?_
        refine lv_aload_n hx hb xd_Mo_split_41 rfl (lv_at hl 1 rfl) ?_
        refine va_get (D := D) (ci := 4) (v := .int (v 2)) (C := xR_Mo) (T := xT_Mo) (N := 31) hx hb hT xi_Mo hown hK.1 hP 0 rfl rfl 3 (by decide) (hT _ xm_17) (fun _ h9 => h9) rfl xd_Mo_split_42 ?_
        refine xn_top (x := (v 2)) (y := nI wr) hwr ?_
        refine xn_ge (a := k1) (b := wr) (tgt := 7) hx hb xd_Mo_split_45 (by decide) (by omega) (by omega) (fun hc7 => absurd hc7 (by omega)) (fun _ => ?_)
        refine lv_aload_n hx hb xd_Mo_split_48 rfl (lv_at hl 1 rfl) ?_
        refine va_get (D := D) (ci := 4) (v := .ref (mm 1)) (C := xR_Mo) (T := xT_Mo) (N := 31) hx hb hT xi_Mo hown hK.1 hP 0 rfl rfl 5 (by decide) (hT _ xm_8) (fun _ h9 => h9) rfl xd_Mo_split_49 ?_
        refine lv_aload_n hx hb xd_Mo_split_52 rfl (lv_at hl 1 rfl) ?_
        refine va_get (D := D) (ci := 4) (v := .int (nI wn)) (C := xR_Mo) (T := xT_Mo) (N := 31) hx hb hT xi_Mo hown hK.1 hP 0 rfl rfl 4 (by decide) (hT _ xm_16) (fun _ h9 => h9) rfl xd_Mo_split_53 ?_
        refine lv_iload_n hx hb xd_Mo_split_56 rfl (lv_at hl 0 rfl) ?_
        refine xn_iast (i := wn) hx hb hK.1 hP hD hS 2 0 rfl rfl (by omega) (by decide) xd_Mo_split_57 (fun H locs hP hD hS => ?_)
        have hP : va_P D xcl (moW h mm kA (va_up v 3 (nI wn)) (va_up (va_up g 1 (upd f1 wn (nI k1))) 2 f2)) H := hP
        have hD : va_D A (moW h mm kA (va_up v 3 (nI wn)) (va_up (va_up g 1 (upd f1 wn (nI k1))) 2 f2)) := hD
        refine xlab (σ := Nat) (ml := 2) 58 (fun (k2 : Nat) => [(1, .int (nI k2)), (0, .ref h)]) (fun (k2 : Nat) => []) (fun (k2 : Nat) => moW h mm kA (va_up v 3 (nI wn)) (va_up (va_up g 1 (upd f1 wn (nI k1))) 2 f2)) (fun (k2 : Nat) => (k1 ≤ k2) ∧ (k2 ≤ wr) ∧ (k1 < k2 ∨ ¬ g 0 k2 = 32)) (fun (k2 : Nat) => wr - k2) ?_ k1 _ _ _ (lv_sub hl [0, 1] rfl) hP hD hS ⟨(show k1 ≤ k1 from by first | assumption | omega), (show k1 ≤ wr from by first | assumption | omega), (show k1 < k1 ∨ ¬ g 0 k1 = 32 from Or.inr hc6)⟩
        intro n9 ih8 a9 ls H locs hμ hl hP hD hS hI
        subst hμ
        obtain ⟨k2, rfl⟩ : ∃ z, z = a9 := ⟨_, rfl⟩
        obtain ⟨hk3, hk4, hne⟩ := hI
        have hk3 : k1 ≤ k2 := hk3
        have hk4 : k2 ≤ wr := hk4
        have hne : k1 < k2 ∨ ¬ g 0 k2 = 32 := hne
        have hl : lv_has ls 2 [(1, .int (nI k2)), (0, .ref h)] := hl
        have hP : va_P D xcl (moW h mm kA (va_up v 3 (nI wn)) (va_up (va_up g 1 (upd f1 wn (nI k1))) 2 f2)) H := hP
        have hD : va_D A (moW h mm kA (va_up v 3 (nI wn)) (va_up (va_up g 1 (upd f1 wn (nI k1))) 2 f2)) := hD
        refine lv_iload_n hx hb xd_Mo_split_58 rfl (lv_at hl 0 rfl) ?_
        refine lv_aload_n hx hb xd_Mo_split_59 rfl (lv_at hl 1 rfl) ?_
        refine va_get (D := D) (ci := 4) (v := .int (v 2)) (C := xR_Mo) (T := xT_Mo) (N := 31) hx hb hT xi_Mo hown hK.1 hP 0 rfl rfl 3 (by decide) (hT _ xm_17) (fun _ h9 => h9) rfl xd_Mo_split_60 ?_
        refine xn_top (x := (v 2)) (y := nI wr) hwr ?_
        refine xn_ge (a := k2) (b := wr) (tgt := 83) hx hb xd_Mo_split_63 (by decide) (by omega) (by omega) (fun hc9 => ?_) (fun hc9 => ?_)
        · have hk12 : k1 < k2 := by omega
          refine lv_aload_n hx hb xd_Mo_split_83 rfl (lv_at hl 1 rfl) ?_
          refine va_get (D := D) (ci := 4) (v := .ref (mm 2)) (C := xR_Mo) (T := xT_Mo) (N := 31) hx hb hT xi_Mo hown hK.1 hP 0 rfl rfl 6 (by decide) (hT _ xm_9) (fun _ h9 => h9) rfl xd_Mo_split_84 ?_
          refine lv_aload_n hx hb xd_Mo_split_87 rfl (lv_at hl 1 rfl) ?_
          refine va_get (D := D) (ci := 4) (v := .int (nI wn)) (C := xR_Mo) (T := xT_Mo) (N := 31) hx hb hT xi_Mo hown hK.1 hP 0 rfl rfl 4 (by decide) (hT _ xm_16) (fun _ h9 => h9) rfl xd_Mo_split_88 ?_
          refine lv_iload_n hx hb xd_Mo_split_91 rfl (lv_at hl 0 rfl) ?_
          refine xn_iast (i := wn) hx hb hK.1 hP hD hS 3 0 rfl rfl (by omega) (by decide) xd_Mo_split_92 (fun H locs hP hD hS => ?_)
          have hP : va_P D xcl (moW h mm kA (va_up v 3 (nI wn)) (va_up (va_up g 1 (upd f1 wn (nI k1))) 2 (upd f2 wn (nI k2)))) H := hP
          have hD : va_D A (moW h mm kA (va_up v 3 (nI wn)) (va_up (va_up g 1 (upd f1 wn (nI k1))) 2 (upd f2 wn (nI k2)))) := hD
          refine lv_aload_n hx hb xd_Mo_split_93 rfl (lv_at hl 1 rfl) ?_
          refine lv_dup hx hb xd_Mo_split_94 rfl ?_
          refine va_get (D := D) (ci := 4) (v := .int (nI wn)) (C := xR_Mo) (T := xT_Mo) (N := 31) hx hb hT xi_Mo hown hK.1 hP 0 rfl rfl 4 (by decide) (hT _ xm_16) (fun _ h9 => h9) rfl xd_Mo_split_95 ?_
          refine lv_iconst (v := 1) hx hb xd_Mo_split_98 (by decide) ?_
          refine lv_iadd hx hb xd_Mo_split_99 ?_
          refine xn_top (y := nI (wn + 1)) (nI_add wn 1) ?_
          refine va_put (D := D) (ci := 4) (v := .int (nI (wn + 1))) (ty := .int) (C := xR_Mo) (T := xT_Mo) (N := 31) hx hb hT xi_Mo xt_Mo xt_Mo_ok xn_Mo hown hK.1 hP hD hS 0 rfl rfl 4 (by decide) (hT _ xm_16) (fun _ h9 => h9) rfl (by decide +kernel) rfl rfl (Nat.le_of_ble_eq_true rfl) xd_Mo_split_100 (fun H locs hP hD hS => ?_)
          have hP : va_P D xcl (moW h mm kA (va_up v 3 (nI (wn + 1))) (va_up (va_up g 1 (upd f1 wn (nI k1))) 2 (upd f2 wn (nI k2)))) H := hP
          have hD : va_D A (moW h mm kA (va_up v 3 (nI (wn + 1))) (va_up (va_up g 1 (upd f1 wn (nI k1))) 2 (upd f2 wn (nI k2)))) := hD
          refine lv_goto (tgt := 7) hx hb xd_Mo_split_103 (by decide) ?_
          exact ih1 (k2, wn + 1, (upd f1 wn (nI k1)), (upd f2 wn (nI k2))) _ _ _ (show wr - k2 < wr - k by omega) (lv_sub hl [0, 1] rfl) hP hD hS ⟨(show k2 ≤ wr from by first | assumption | omega), (show 2 * (wn + 1) ≤ k2 + 1 from by first | assumption | omega), (show (wn + 1) = 0 ∨ k2 = wr ∨ g 0 k2 = 32 from Or.inr (Or.inl (by omega))), (show ∀ w9, w9 < (wn + 1) → ∃ b9 e9, b9 < e9 ∧ e9 ≤ k2 ∧ (upd f1 wn (nI k1)) w9 = nI b9 ∧ (upd f2 wn (nI k2)) w9 = nI e9 from fun w9 hw => by
      rcases Nat.lt_or_ge w9 wn with h0 | h0
      · obtain ⟨b9, e9, h1, h2, h3, h4⟩ := hsg w9 h0
        exact ⟨b9, e9, h1, by omega, by rw [pk_un (by omega)]; exact h3, by rw [pk_un (by omega)]; exact h4⟩
      · have h1 : w9 = wn := by omega
        subst h1
        exact ⟨k1, k2, hk12, by omega, pk_us, pk_us⟩)⟩
        · refine lv_aload_n hx hb xd_Mo_split_66 rfl (lv_at hl 1 rfl) ?_
          refine va_get (D := D) (ci := 4) (v := .ref (mm 0)) (C := xR_Mo) (T := xT_Mo) (N := 31) hx hb hT xi_Mo hown hK.1 hP 0 rfl rfl 2 (by decide) (hT _ xm_10) (fun _ h9 => h9) rfl xd_Mo_split_67 ?_
          refine lv_iload_n hx hb xd_Mo_split_70 rfl (lv_at hl 0 rfl) ?_
          refine xn_cald (i := k2) hx hb hK.1 hP 1 1 rfl rfl (by omega) (by decide) xd_Mo_split_71 ?_
          refine lv_bipush (v := 32) hx hb xd_Mo_split_72 (by decide) ?_
          refine lv_icmp_eq (tgt := 83) hx hb xd_Mo_split_74 (by decide) (fun hc10 => ?_) (fun hc10 => ?_)
          · have hk12 : k1 < k2 := by
              rcases hne with h | h
              · exact h
              · exact absurd hc10 h
            refine lv_aload_n hx hb xd_Mo_split_83 rfl (lv_at hl 1 rfl) ?_
            refine va_get (D := D) (ci := 4) (v := .ref (mm 2)) (C := xR_Mo) (T := xT_Mo) (N := 31) hx hb hT xi_Mo hown hK.1 hP 0 rfl rfl 6 (by decide) (hT _ xm_9) (fun _ h9 => h9) rfl xd_Mo_split_84 ?_
            refine lv_aload_n hx hb xd_Mo_split_87 rfl (lv_at hl 1 rfl) ?_
            refine va_get (D := D) (ci := 4) (v := .int (nI wn)) (C := xR_Mo) (T := xT_Mo) (N := 31) hx hb hT xi_Mo hown hK.1 hP 0 rfl rfl 4 (by decide) (hT _ xm_16) (fun _ h9 => h9) rfl xd_Mo_split_88 ?_
            refine lv_iload_n hx hb xd_Mo_split_91 rfl (lv_at hl 0 rfl) ?_
            refine xn_iast (i := wn) hx hb hK.1 hP hD hS 3 0 rfl rfl (by omega) (by decide) xd_Mo_split_92 (fun H locs hP hD hS => ?_)
            have hP : va_P D xcl (moW h mm kA (va_up v 3 (nI wn)) (va_up (va_up g 1 (upd f1 wn (nI k1))) 2 (upd f2 wn (nI k2)))) H := hP
            have hD : va_D A (moW h mm kA (va_up v 3 (nI wn)) (va_up (va_up g 1 (upd f1 wn (nI k1))) 2 (upd f2 wn (nI k2)))) := hD
            refine lv_aload_n hx hb xd_Mo_split_93 rfl (lv_at hl 1 rfl) ?_
            refine lv_dup hx hb xd_Mo_split_94 rfl ?_
            refine va_get (D := D) (ci := 4) (v := .int (nI wn)) (C := xR_Mo) (T := xT_Mo) (N := 31) hx hb hT xi_Mo hown hK.1 hP 0 rfl rfl 4 (by decide) (hT _ xm_16) (fun _ h9 => h9) rfl xd_Mo_split_95 ?_
            refine lv_iconst (v := 1) hx hb xd_Mo_split_98 (by decide) ?_
            refine lv_iadd hx hb xd_Mo_split_99 ?_
            refine xn_top (y := nI (wn + 1)) (nI_add wn 1) ?_
            refine va_put (D := D) (ci := 4) (v := .int (nI (wn + 1))) (ty := .int) (C := xR_Mo) (T := xT_Mo) (N := 31) hx hb hT xi_Mo xt_Mo xt_Mo_ok xn_Mo hown hK.1 hP hD hS 0 rfl rfl 4 (by decide) (hT _ xm_16) (fun _ h9 => h9) rfl (by decide +kernel) rfl rfl (Nat.le_of_ble_eq_true rfl) xd_Mo_split_100 (fun H locs hP hD hS => ?_)
            have hP : va_P D xcl (moW h mm kA (va_up v 3 (nI (wn + 1))) (va_up (va_up g 1 (upd f1 wn (nI k1))) 2 (upd f2 wn (nI k2)))) H := hP
            have hD : va_D A (moW h mm kA (va_up v 3 (nI (wn + 1))) (va_up (va_up g 1 (upd f1 wn (nI k1))) 2 (upd f2 wn (nI k2)))) := hD
            refine lv_goto (tgt := 7) hx hb xd_Mo_split_103 (by decide) ?_
            exact ih1 (k2, wn + 1, (upd f1 wn (nI k1)), (upd f2 wn (nI k2))) _ _ _ (show wr - k2 < wr - k by omega) (lv_sub hl [0, 1] rfl) hP hD hS ⟨(show k2 ≤ wr from by first | assumption | omega), (show 2 * (wn + 1) ≤ k2 + 1 from by first | assumption | omega), (show (wn + 1) = 0 ∨ k2 = wr ∨ g 0 k2 = 32 from Or.inr (Or.inr hc10)), (show ∀ w9, w9 < (wn + 1) → ∃ b9 e9, b9 < e9 ∧ e9 ≤ k2 ∧ (upd f1 wn (nI k1)) w9 = nI b9 ∧ (upd f2 wn (nI k2)) w9 = nI e9 from fun w9 hw => by
      rcases Nat.lt_or_ge w9 wn with h0 | h0
      · obtain ⟨b9, e9, h1, h2, h3, h4⟩ := hsg w9 h0
        exact ⟨b9, e9, h1, by omega, by rw [pk_un (by omega)]; exact h3, by rw [pk_un (by omega)]; exact h4⟩
      · have h1 : w9 = wn := by omega
        subst h1
        exact ⟨k1, k2, hk12, by omega, pk_us, pk_us⟩)⟩
          · refine lv_iinc (k := 0) (x := (nI k2)) (v := (nI (k2 + 1))) hx hb xd_Mo_split_77 hl rfl (xb_inc k2 1) (Nat.le_of_ble_eq_true rfl) rfl (fun ls hl => ?_)
            have hl : lv_has ls 2 [(1, .int (nI (k2 + 1))), (0, .ref h)] := hl
            refine lv_goto (tgt := 58) hx hb xd_Mo_split_80 (by decide) ?_
            exact ih8 (k2 + 1) _ _ _ (show wr - (k2 + 1) < wr - k2 by omega) (lv_sub hl [0, 1] rfl) hP hD hS ⟨(show k1 ≤ (k2 + 1) from by first | assumption | omega), (show (k2 + 1) ≤ wr from by first | assumption | omega), (show k1 < (k2 + 1) ∨ ¬ g 0 (k2 + 1) = 32 from Or.inl (by omega))⟩
      · refine lv_iinc (k := 0) (x := (nI k1)) (v := (nI (k1 + 1))) hx hb xd_Mo_split_34 hl rfl (xb_inc k1 1) (Nat.le_of_ble_eq_true rfl) rfl (fun ls hl => ?_)
        have hl : lv_has ls 2 [(1, .int (nI (k1 + 1))), (0, .ref h)] := hl
        refine lv_goto (tgt := 15) hx hb xd_Mo_split_37 (by decide) ?_
        exact ih3 (k1 + 1) _ _ _ (show wr - (k1 + 1) < wr - k1 by omega) (lv_sub hl [0, 1] rfl) hP hD hS ⟨(show k ≤ (k1 + 1) from by first | assumption | omega), (show (k1 + 1) ≤ wr from by first | assumption | omega), (show wn = 0 ∨ k < (k1 + 1) ∨ g 0 (k1 + 1) = 32 from Or.inr (Or.inl (by omega)))⟩
set_option maxHeartbeats 4000000 in
set_option maxRecDepth 100000 in
theorem xc_Mo_newDescriptor (l : Launch) (D : va_G) (kA : Nat → ClassId) (sz h : Nat) (mm : Nat → Nat) (v : Nat → Int32) (g : Nat → Nat → Int32) (wn : Nat) (hMI : MI v g) (hWI : WI v g wn) : Met l xy_Mo_newDescriptor (.code xy_Mo_newDescriptor xb_Mo_newDescriptor 3 (some .int) :: wT) { frames := 1, cells := 0, slots := 0, locals := 23 } (va_Pc [.ref h] (xPre D kA sz (moW h mm kA v g))) (va_Qi (fun (r : Int32) (u : (Nat → Int32) × (Nat → Nat → Int32)) => MI u.1 u.2 ∧ u.1 2 = v 2 ∧ (r = -1 ∨ r = -2 ∨ r = 1 ∨ r = 2)) (fun (u : (Nat → Int32) × (Nat → Nat → Int32)) t => va_P D xcl (moW h mm kA u.1 u.2) t.heap ∧ va_D (va_A (moW h mm kA v g) sz) (moW h mm kA u.1 u.2)) (va_A (moW h mm kA v g) sz)) 0 0 (va_A (moW h mm kA v g) sz) := by
  refine Met.ofW (cc := xb_Mo_newDescriptor) (maxL := 3) (ret := (some .int)) (by decide) rfl ?_
  intro p e s m args below meth c s₁ B hml hv
  obtain ⟨rfl, hsz, hP, hK, hD0⟩ := hv
  have hx := B.exec
  have hb := B.bytes
  have hr := B.returns
  have hT := x_hT B.pre
  have hown : s.vm.findClass xR_Mo = some m.cls := findClass_of_methodNamed B.named
  have hlocks := B.notSynchronized
  subst hsz
  have hD := hD0.self (sz := s.heap.size)
  generalize hAe : va_A (moW h mm kA v g) s.heap.size = A at hD ⊢
  have hA : ∀ q : Nat, s.heap.size ≤ q → A q := fun q h => by rw [← hAe]; exact Or.inr h
  have hS : va_S A s.heap s.heap [] := va_S.rf
  have hl := lv_entry ([.ref h]) (n := 3) (Nat.le_of_ble_eq_true rfl)
  rw [lg_entry_eq]
  generalize (lg_sl ([.ref h]) ++ List.replicate (3 - (lg_sl ([.ref h])).length) Slot.unset).toArray = ls at hl ⊢
  have hl : lv_has ls 3 [(0, .ref h)] := hl
  have hP : va_P D xcl (moW h mm kA v g) s.heap := hP
  obtain ⟨⟨nd, hnd12, hnd⟩, ⟨nl, hnl5, hnl, hpar⟩, hch, hpk, hrq, hmd, huq⟩ := id hMI
  obtain ⟨hwn20, hwn, hws⟩ := hWI
  refine lv_aload_n hx hb xd_Mo_newDescriptor_0 rfl (lv_at hl 0 rfl) ?_
  refine va_get (D := D) (ci := 4) (v := .int (v 3)) (C := xR_Mo) (T := xT_Mo) (N := 31) hx hb hT xi_Mo hown hK.1 hP 0 rfl rfl 4 (by decide) (hT _ xm_16) (fun _ h9 => h9) rfl xd_Mo_newDescriptor_1 ?_
  refine xn_top (x := (v 3)) (y := nI wn) hwn ?_
  refine lv_iconst (v := 3) hx hb xd_Mo_newDescriptor_4 (by decide) ?_
  refine xn_ne (a := wn) (b := 3) (tgt := 55) hx hb xd_Mo_newDescriptor_5 (by decide) (by omega) (by omega) (fun hc1 => ?_) (fun hc1 => ?_)
  · refine lv_iconst (v := (-1)) hx hb xd_Mo_newDescriptor_55 (by decide) ?_
    exact W.iret (v := (-1)) hx hb hr (fun t ht hW => ⟨⟨(-1), (v, g), rfl, ⟨hMI, rfl, Or.inl rfl⟩, by rw [ht]; exact hP, hD⟩, hS.F ht⟩) hS.2.2 xd_Mo_newDescriptor_56
  · obtain ⟨b1, e1, hbe1, he1, eb1, ee1⟩ := hws 1 (by omega)
    obtain ⟨b2, e2, hbe2, he2, eb2, ee2⟩ := hws 2 (by omega)
    refine lv_aload_n hx hb xd_Mo_newDescriptor_8 rfl (lv_at hl 0 rfl) ?_
    refine va_get (D := D) (ci := 4) (v := .ref (mm 2)) (C := xR_Mo) (T := xT_Mo) (N := 31) hx hb hT xi_Mo hown hK.1 hP 0 rfl rfl 6 (by decide) (hT _ xm_9) (fun _ h9 => h9) rfl xd_Mo_newDescriptor_9 ?_
    refine lv_iconst (v := 1) hx hb xd_Mo_newDescriptor_12 (by decide) ?_
    refine xn_iald (i := 1) hx hb hK.1 hP 3 0 rfl rfl (by omega) (by decide) xd_Mo_newDescriptor_13 ?_
    refine xn_top (x := (g 2 1)) (y := nI e1) ee1 ?_
    refine lv_aload_n hx hb xd_Mo_newDescriptor_14 rfl (lv_at hl 0 rfl) ?_
    refine va_get (D := D) (ci := 4) (v := .ref (mm 1)) (C := xR_Mo) (T := xT_Mo) (N := 31) hx hb hT xi_Mo hown hK.1 hP 0 rfl rfl 5 (by decide) (hT _ xm_8) (fun _ h9 => h9) rfl xd_Mo_newDescriptor_15 ?_
    refine lv_iconst (v := 1) hx hb xd_Mo_newDescriptor_18 (by decide) ?_
    refine xn_iald (i := 1) hx hb hK.1 hP 2 0 rfl rfl (by omega) (by decide) xd_Mo_newDescriptor_19 ?_
    refine xn_top (x := (g 1 1)) (y := nI b1) eb1 ?_
    refine lv_iconst (v := 1) hx hb xd_Mo_newDescriptor_20 (by decide) ?_
    refine lv_iadd hx hb xd_Mo_newDescriptor_21 ?_
    refine xn_top (y := nI (b1 + 1)) (nI_add b1 1) ?_
    refine xn_ne (a := e1) (b := b1 + 1) (tgt := 55) hx hb xd_Mo_newDescriptor_22 (by decide) (by omega) (by omega) (fun hc2 => ?_) (fun hc2 => ?_)
    · refine lv_iconst (v := (-1)) hx hb xd_Mo_newDescriptor_55 (by decide) ?_
      exact W.iret (v := (-1)) hx hb hr (fun t ht hW => ⟨⟨(-1), (v, g), rfl, ⟨hMI, rfl, Or.inl rfl⟩, by rw [ht]; exact hP, hD⟩, hS.F ht⟩) hS.2.2 xd_Mo_newDescriptor_56
    · refine lv_aload_n hx hb xd_Mo_newDescriptor_25 rfl (lv_at hl 0 rfl) ?_
      refine lv_iconst (v := 1) hx hb xd_Mo_newDescriptor_26 (by decide) ?_
      refine lv_iconst (v := 0) hx hb xd_Mo_newDescriptor_27 (by decide) ?_
      have hFc := va_free (wc := (moW h mm kA v g)) hD hS hA [0, 1, 2, 3, 4, 5, 6, 7, 8, 9, 10, 11, 12, 13, 14, 15, 16, 17, 18, 19, 20, 21, 22, 23, 24, 25] rfl
      refine va_calli (va_runV (As := [.int 1, .int 0]) (rest := []) ⟨hx, hb, hml, hown, hT⟩ (xc_Mo_letter l D kA s.heap.size h mm v g 1 b1 e1 0 (by first | assumption | omega) (by first | assumption | omega) (by first | assumption | omega) (by first | assumption | omega) (by first | assumption | omega) (by first | assumption | omega) (by first | assumption | omega)) (cwV 2 hT (wT_V xm_12 xm_13 xm_14 xm_15 xm_11) rfl rfl rfl (by decide +kernel) ⟨Nat.le_of_ble_eq_true rfl, Nat.le_of_ble_eq_true rfl⟩) (x_preV hK hP hD 0 rfl rfl) rfl rfl hl.1 rfl (lv_room (Nat.le_of_ble_eq_true rfl)) xd_Mo_newDescriptor_28 ⟨Nat.le_of_ble_eq_true rfl, Nat.le_of_ble_eq_true rfl⟩) hS (fun q _ h => hFc q h) hFc (fun r3 u4 t H1 locs ht hvm hp5 hB hz1 hk1 hS => ?_)
      obtain ⟨hP1, hD1⟩ := hB
      rw [ht] at hP1
      have hD1 := hD1.weaken (fun _ _ _ h => hFc _ h)
      generalize H1 = H at hP1 hS ⊢
      have hP := hP1
      have hD := hD1
      have hP : va_P D xcl (moW h mm kA v g) H := hP
      have hD : va_D A (moW h mm kA v g) := hD
      refine lv_bipush (v := 48) hx hb xd_Mo_newDescriptor_31 (by decide) ?_
      refine lv_icmp_lt (tgt := 55) hx hb xd_Mo_newDescriptor_33 (by decide) (fun hc6 => ?_) (fun hc6 => ?_)
      · refine lv_iconst (v := (-1)) hx hb xd_Mo_newDescriptor_55 (by decide) ?_
        exact W.iret (v := (-1)) hx hb hr (fun t ht hW => ⟨⟨(-1), (v, g), rfl, ⟨hMI, rfl, Or.inl rfl⟩, by rw [ht]; exact hP, hD⟩, hS.F ht⟩) hS.2.2 xd_Mo_newDescriptor_56
      · refine lv_aload_n hx hb xd_Mo_newDescriptor_36 rfl (lv_at hl 0 rfl) ?_
        refine lv_iconst (v := 1) hx hb xd_Mo_newDescriptor_37 (by decide) ?_
        refine lv_iconst (v := 0) hx hb xd_Mo_newDescriptor_38 (by decide) ?_
        have hFc := va_free (wc := (moW h mm kA v g)) hD hS hA [0, 1, 2, 3, 4, 5, 6, 7, 8, 9, 10, 11, 12, 13, 14, 15, 16, 17, 18, 19, 20, 21, 22, 23, 24, 25] rfl
        refine va_calli (va_runV (As := [.int 1, .int 0]) (rest := []) ⟨hx, hb, hml, hown, hT⟩ (xc_Mo_letter l D kA H.size h mm v g 1 b1 e1 0 (by first | assumption | omega) (by first | assumption | omega) (by first | assumption | omega) (by first | assumption | omega) (by first | assumption | omega) (by first | assumption | omega) (by first | assumption | omega)) (cwV 2 hT (wT_V xm_12 xm_13 xm_14 xm_15 xm_11) rfl rfl rfl (by decide +kernel) ⟨Nat.le_of_ble_eq_true rfl, Nat.le_of_ble_eq_true rfl⟩) (x_preV hK hP hD 0 rfl rfl) rfl rfl hl.1 rfl (lv_room (Nat.le_of_ble_eq_true rfl)) xd_Mo_newDescriptor_39 ⟨Nat.le_of_ble_eq_true rfl, Nat.le_of_ble_eq_true rfl⟩) hS (fun q _ h => hFc q h) hFc (fun r7 u8 t H1 locs ht hvm hp9 hB hz1 hk1 hS => ?_)
        obtain ⟨hP1, hD1⟩ := hB
        rw [ht] at hP1
        have hD1 := hD1.weaken (fun _ _ _ h => hFc _ h)
        generalize H1 = H at hP1 hS ⊢
        have hP := hP1
        have hD := hD1
        have hP : va_P D xcl (moW h mm kA v g) H := hP
        have hD : va_D A (moW h mm kA v g) := hD
        refine lv_bipush (v := 49) hx hb xd_Mo_newDescriptor_42 (by decide) ?_
        refine lv_icmp_gt (tgt := 55) hx hb xd_Mo_newDescriptor_44 (by decide) (fun hc10 => ?_) (fun hc10 => ?_)
        · refine lv_iconst (v := (-1)) hx hb xd_Mo_newDescriptor_55 (by decide) ?_
          exact W.iret (v := (-1)) hx hb hr (fun t ht hW => ⟨⟨(-1), (v, g), rfl, ⟨hMI, rfl, Or.inl rfl⟩, by rw [ht]; exact hP, hD⟩, hS.F ht⟩) hS.2.2 xd_Mo_newDescriptor_56
        · refine lv_aload_n hx hb xd_Mo_newDescriptor_47 rfl (lv_at hl 0 rfl) ?_
          refine lv_iconst (v := 2) hx hb xd_Mo_newDescriptor_48 (by decide) ?_
          have hFc := va_free (wc := (moW h mm kA v g)) hD hS hA [0, 1, 2, 3, 4, 5, 6, 7, 8, 9, 10, 11, 12, 13, 14, 15, 16, 17, 18, 19, 20, 21, 22, 23, 24, 25] rfl
          refine va_calli (va_runV (As := [.int 2]) (rest := []) ⟨hx, hb, hml, hown, hT⟩ (xc_Mo_nameOf l D kA H.size h mm v g 2 b2 e2 (by first | assumption | omega) (by first | assumption | omega) (by first | assumption | omega) (by first | assumption | omega) (by first | assumption | omega)) (cwV 1 hT (wT_V xm_19 xm_20 xm_21 xm_15 xm_18) rfl rfl rfl (by decide +kernel) ⟨Nat.le_of_ble_eq_true rfl, Nat.le_of_ble_eq_true rfl⟩) (x_preV hK hP hD 0 rfl rfl) rfl rfl hl.1 rfl (lv_room (Nat.le_of_ble_eq_true rfl)) xd_Mo_newDescriptor_49 ⟨Nat.le_of_ble_eq_true rfl, Nat.le_of_ble_eq_true rfl⟩) hS (fun q _ h => hFc q h) hFc (fun r11 u12 t H1 locs ht hvm hp13 hB hz1 hk1 hS => ?_)
          obtain ⟨hP1, hD1⟩ := hB
          rw [ht] at hP1
          have hD1 := hD1.weaken (fun _ _ _ h => hFc _ h)
          generalize H1 = H at hP1 hS ⊢
          have hP := hP1
          have hD := hD1
          have hP : va_P D xcl (moW h mm kA v g) H := hP
          have hD : va_D A (moW h mm kA v g) := hD
          refine lv_if_ne (tgt := 57) hx hb xd_Mo_newDescriptor_52 (by decide) (fun hc14 => ?_) (fun hc14 => ?_)
          · refine lv_aload_n hx hb xd_Mo_newDescriptor_57 rfl (lv_at hl 0 rfl) ?_
            refine lv_iconst (v := 1) hx hb xd_Mo_newDescriptor_58 (by decide) ?_
            refine lv_iconst (v := 0) hx hb xd_Mo_newDescriptor_59 (by decide) ?_
            have hFc := va_free (wc := (moW h mm kA v g)) hD hS hA [0, 1, 2, 3, 4, 5, 6, 7, 8, 9, 10, 11, 12, 13, 14, 15, 16, 17, 18, 19, 20, 21, 22, 23, 24, 25] rfl
            refine va_calli (va_runV (As := [.int 1, .int 0]) (rest := []) ⟨hx, hb, hml, hown, hT⟩ (xc_Mo_letter l D kA H.size h mm v g 1 b1 e1 0 (by first | assumption | omega) (by first | assumption | omega) (by first | assumption | omega) (by first | assumption | omega) (by first | assumption | omega) (by first | assumption | omega) (by first | assumption | omega)) (cwV 2 hT (wT_V xm_12 xm_13 xm_14 xm_15 xm_11) rfl rfl rfl (by decide +kernel) ⟨Nat.le_of_ble_eq_true rfl, Nat.le_of_ble_eq_true rfl⟩) (x_preV hK hP hD 0 rfl rfl) rfl rfl hl.1 rfl (lv_room (Nat.le_of_ble_eq_true rfl)) xd_Mo_newDescriptor_60 ⟨Nat.le_of_ble_eq_true rfl, Nat.le_of_ble_eq_true rfl⟩) hS (fun q _ h => hFc q h) hFc (fun r15 u16 t H1 locs ht hvm hp17 hB hz1 hk1 hS => ?_)
            obtain ⟨hP1, hD1⟩ := hB
            rw [ht] at hP1
            have hD1 := hD1.weaken (fun _ _ _ h => hFc _ h)
            generalize H1 = H at hP1 hS ⊢
            have hP := hP1
            have hD := hD1
            have hP : va_P D xcl (moW h mm kA v g) H := hP
            have hD : va_D A (moW h mm kA v g) := hD
            refine lv_bipush (v := 48) hx hb xd_Mo_newDescriptor_63 (by decide) ?_
            refine lv_isub hx hb xd_Mo_newDescriptor_65 ?_
            refine lv_istore_n hx hb xd_Mo_newDescriptor_66 rfl hl (Nat.le_of_ble_eq_true rfl) rfl (fun ls hl => ?_)
            have hl : lv_has ls 3 [(1, .int (r15 - 48)), (0, .ref h)] := hl
            refine lv_aload_n hx hb xd_Mo_newDescriptor_67 rfl (lv_at hl 1 rfl) ?_
            refine lv_iconst (v := 2) hx hb xd_Mo_newDescriptor_68 (by decide) ?_
            have hFc := va_free (wc := (moW h mm kA v g)) hD hS hA [0, 1, 2, 3, 4, 5, 6, 7, 8, 9, 10, 11, 12, 13, 14, 15, 16, 17, 18, 19, 20, 21, 22, 23, 24, 25] rfl
            refine va_calli (va_runV (As := [.int 2]) (rest := []) ⟨hx, hb, hml, hown, hT⟩ (xc_Mo_nameOf l D kA H.size h mm v g 2 b2 e2 (by first | assumption | omega) (by first | assumption | omega) (by first | assumption | omega) (by first | assumption | omega) (by first | assumption | omega)) (cwV 1 hT (wT_V xm_19 xm_20 xm_21 xm_15 xm_18) rfl rfl rfl (by decide +kernel) ⟨Nat.le_of_ble_eq_true rfl, Nat.le_of_ble_eq_true rfl⟩) (x_preV hK hP hD 0 rfl rfl) rfl rfl hl.1 rfl (lv_room (Nat.le_of_ble_eq_true rfl)) xd_Mo_newDescriptor_69 ⟨Nat.le_of_ble_eq_true rfl, Nat.le_of_ble_eq_true rfl⟩) hS (fun q _ h => hFc q h) hFc (fun r18 u19 t H1 locs ht hvm hp20 hB hz1 hk1 hS => ?_)
            obtain ⟨hP1, hD1⟩ := hB
            rw [ht] at hP1
            have hD1 := hD1.weaken (fun _ _ _ h => hFc _ h)
            generalize H1 = H at hP1 hS ⊢
            have hP := hP1
            have hD := hD1
            have hP : va_P D xcl (moW h mm kA v g) H := hP
            have hD : va_D A (moW h mm kA v g) := hD
            refine lv_istore_n hx hb xd_Mo_newDescriptor_72 rfl hl (Nat.le_of_ble_eq_true rfl) rfl (fun ls hl => ?_)
            have hl : lv_has ls 3 [(2, .int r18), (1, .int (r15 - 48)), (0, .ref h)] := hl
            refine lv_aload_n hx hb xd_Mo_newDescriptor_73 rfl (lv_at hl 2 rfl) ?_
            refine lv_iload_n hx hb xd_Mo_newDescriptor_74 rfl (lv_at hl 1 rfl) ?_
            refine lv_iload_n hx hb xd_Mo_newDescriptor_75 rfl (lv_at hl 0 rfl) ?_
            have hFc := va_free (wc := (moW h mm kA v g)) hD hS hA [0, 1, 2, 3, 4, 5, 6, 7, 8, 9, 10, 11, 12, 13, 14, 15, 16, 17, 18, 19, 20, 21, 22, 23, 24, 25] rfl
            refine va_calli (va_runV (As := [.int (r15 - 48), .int r18]) (rest := []) ⟨hx, hb, hml, hown, hT⟩ (xc_Mo_descriptorOf l D kA H.size h mm v g (r15 - 48) r18 nd (by first | assumption | omega) (by first | assumption | omega)) (cwV 2 hT (wT_V xm_23 xm_24 xm_25 xm_15 xm_22) rfl rfl rfl (by decide +kernel) ⟨Nat.le_of_ble_eq_true rfl, Nat.le_of_ble_eq_true rfl⟩) (x_preV hK hP hD 0 rfl rfl) rfl rfl hl.1 rfl (lv_room (Nat.le_of_ble_eq_true rfl)) xd_Mo_newDescriptor_76 ⟨Nat.le_of_ble_eq_true rfl, Nat.le_of_ble_eq_true rfl⟩) hS (fun q _ h => hFc q h) hFc (fun r21 u22 t H1 locs ht hvm hp23 hB hz1 hk1 hS => ?_)
            obtain ⟨hP1, hD1⟩ := hB
            rw [ht] at hP1
            have hD1 := hD1.weaken (fun _ _ _ h => hFc _ h)
            generalize H1 = H at hP1 hS ⊢
            have hP := hP1
            have hD := hD1
            have hP : va_P D xcl (moW h mm kA v g) H := hP
            have hD : va_D A (moW h mm kA v g) := hD
            rcases hp23 with ⟨z24, z25, rfl, z26, z27, z28⟩ | ⟨rfl, z29⟩
            · refine xz_lt (a := z24) (tgt := 84) hx hb xd_Mo_newDescriptor_79 (by decide) (by omega) ?_
              refine lv_iconst (v := (-1)) hx hb xd_Mo_newDescriptor_82 (by decide) ?_
              exact W.iret (v := (-1)) hx hb hr (fun t ht hW => ⟨⟨(-1), (v, g), rfl, ⟨hMI, rfl, Or.inl rfl⟩, by rw [ht]; exact hP, hD⟩, hS.F ht⟩) hS.2.2 xd_Mo_newDescriptor_83
            · refine lv_if_lt (tgt := 84) hx hb xd_Mo_newDescriptor_79 (by decide) (fun _ => ?_) (fun hc31 => absurd hc31 (by decide))
              refine lv_aload_n hx hb xd_Mo_newDescriptor_84 rfl (lv_at hl 2 rfl) ?_
              refine va_get (D := D) (ci := 4) (v := .int (v 4)) (C := xR_Mo) (T := xT_Mo) (N := 31) hx hb hT xi_Mo hown hK.1 hP 0 rfl rfl 7 (by decide) (hT _ xm_0) (fun _ h9 => h9) rfl xd_Mo_newDescriptor_85 ?_
              refine xn_top (x := (v 4)) (y := nI nd) hnd ?_
              refine lv_bipush (v := 12) hx hb xd_Mo_newDescriptor_88 (by decide) ?_
              refine xn_ne (a := nd) (b := 12) (tgt := 96) hx hb xd_Mo_newDescriptor_90 (by decide) (by omega) (by omega) (fun hc32 => ?_) (fun hc32 => ?_)
              · refine lv_aload_n hx hb xd_Mo_newDescriptor_96 rfl (lv_at hl 2 rfl) ?_
                refine va_get (D := D) (ci := 4) (v := .ref (mm 3)) (C := xR_Mo) (T := xT_Mo) (N := 31) hx hb hT xi_Mo hown hK.1 hP 0 rfl rfl 8 (by decide) (hT _ xm_1) (fun _ h9 => h9) rfl xd_Mo_newDescriptor_97 ?_
                refine lv_aload_n hx hb xd_Mo_newDescriptor_100 rfl (lv_at hl 2 rfl) ?_
                refine va_get (D := D) (ci := 4) (v := .int (v 4)) (C := xR_Mo) (T := xT_Mo) (N := 31) hx hb hT xi_Mo hown hK.1 hP 0 rfl rfl 7 (by decide) (hT _ xm_0) (fun _ h9 => h9) rfl xd_Mo_newDescriptor_101 ?_
                refine xn_top (x := (v 4)) (y := nI nd) hnd ?_
                refine lv_iload_n hx hb xd_Mo_newDescriptor_104 rfl (lv_at hl 1 rfl) ?_
                refine xn_iast (i := nd) hx hb hK.1 hP hD hS 4 0 rfl rfl (by omega) (by decide) xd_Mo_newDescriptor_105 (fun H locs hP hD hS => ?_)
                have hP : va_P D xcl (moW h mm kA v (va_up g 3 (upd (g 3) nd (r15 - 48)))) H := hP
                have hD : va_D A (moW h mm kA v (va_up g 3 (upd (g 3) nd (r15 - 48)))) := hD
                refine lv_aload_n hx hb xd_Mo_newDescriptor_106 rfl (lv_at hl 2 rfl) ?_
                refine va_get (D := D) (ci := 4) (v := .ref (mm 4)) (C := xR_Mo) (T := xT_Mo) (N := 31) hx hb hT xi_Mo hown hK.1 hP 0 rfl rfl 9 (by decide) (hT _ xm_2) (fun _ h9 => h9) rfl xd_Mo_newDescriptor_107 ?_
                refine lv_aload_n hx hb xd_Mo_newDescriptor_110 rfl (lv_at hl 2 rfl) ?_
                refine va_get (D := D) (ci := 4) (v := .int (v 4)) (C := xR_Mo) (T := xT_Mo) (N := 31) hx hb hT xi_Mo hown hK.1 hP 0 rfl rfl 7 (by decide) (hT _ xm_0) (fun _ h9 => h9) rfl xd_Mo_newDescriptor_111 ?_
                refine xn_top (x := (v 4)) (y := nI nd) hnd ?_
                refine lv_iload_n hx hb xd_Mo_newDescriptor_114 rfl (lv_at hl 0 rfl) ?_
                refine xn_iast (i := nd) hx hb hK.1 hP hD hS 5 0 rfl rfl (by omega) (by decide) xd_Mo_newDescriptor_115 (fun H locs hP hD hS => ?_)
                have hP : va_P D xcl (moW h mm kA v (va_up (va_up g 3 (upd (g 3) nd (r15 - 48))) 4 (upd (g 4) nd r18))) H := hP
                have hD : va_D A (moW h mm kA v (va_up (va_up g 3 (upd (g 3) nd (r15 - 48))) 4 (upd (g 4) nd r18))) := hD
                refine lv_aload_n hx hb xd_Mo_newDescriptor_116 rfl (lv_at hl 2 rfl) ?_
                refine lv_dup hx hb xd_Mo_newDescriptor_117 rfl ?_
                refine va_get (D := D) (ci := 4) (v := .int (v 4)) (C := xR_Mo) (T := xT_Mo) (N := 31) hx hb hT xi_Mo hown hK.1 hP 0 rfl rfl 7 (by decide) (hT _ xm_0) (fun _ h9 => h9) rfl xd_Mo_newDescriptor_118 ?_
                refine xn_top (x := (v 4)) (y := nI nd) hnd ?_
                refine lv_iconst (v := 1) hx hb xd_Mo_newDescriptor_121 (by decide) ?_
                refine lv_iadd hx hb xd_Mo_newDescriptor_122 ?_
                refine xn_top (y := nI (nd + 1)) (nI_add nd 1) ?_
                refine va_put (D := D) (ci := 4) (v := .int (nI (nd + 1))) (ty := .int) (C := xR_Mo) (T := xT_Mo) (N := 31) hx hb hT xi_Mo xt_Mo xt_Mo_ok xn_Mo hown hK.1 hP hD hS 0 rfl rfl 7 (by decide) (hT _ xm_0) (fun _ h9 => h9) rfl (by decide +kernel) rfl rfl (Nat.le_of_ble_eq_true rfl) xd_Mo_newDescriptor_123 (fun H locs hP hD hS => ?_)
                have hP : va_P D xcl (moW h mm kA (va_up v 4 (nI (nd + 1))) (va_up (va_up g 3 (upd (g 3) nd (r15 - 48))) 4 (upd (g 4) nd r18))) H := hP
                have hD : va_D A (moW h mm kA (va_up v 4 (nI (nd + 1))) (va_up (va_up g 3 (upd (g 3) nd (r15 - 48))) 4 (upd (g 4) nd r18))) := hD
                refine lv_iconst (v := 1) hx hb xd_Mo_newDescriptor_126 (by decide) ?_
                exact W.iret (v := 1) hx hb hr (fun t ht hW => ⟨⟨1, ((va_up v 4 (nI (nd + 1))), (va_up (va_up g 3 (upd (g 3) nd (r15 - 48))) 4 (upd (g 4) nd r18))), rfl, ⟨MI_new hnd (by omega) z29 hMI, rfl, Or.inr (Or.inr (Or.inl rfl))⟩, by rw [ht]; exact hP, hD⟩, hS.F ht⟩) hS.2.2 xd_Mo_newDescriptor_127
              · refine lv_bipush (v := (-2)) hx hb xd_Mo_newDescriptor_93 (by decide) ?_
                exact W.iret (v := (-2)) hx hb hr (fun t ht hW => ⟨⟨(-2), (v, g), rfl, ⟨hMI, rfl, Or.inr (Or.inl rfl)⟩, by rw [ht]; exact hP, hD⟩, hS.F ht⟩) hS.2.2 xd_Mo_newDescriptor_95
          · refine lv_iconst (v := (-1)) hx hb xd_Mo_newDescriptor_55 (by decide) ?_
            exact W.iret (v := (-1)) hx hb hr (fun t ht hW => ⟨⟨(-1), (v, g), rfl, ⟨hMI, rfl, Or.inl rfl⟩, by rw [ht]; exact hP, hD⟩, hS.F ht⟩) hS.2.2 xd_Mo_newDescriptor_56
