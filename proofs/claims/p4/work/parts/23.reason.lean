abbrev xb_Mo_isTo : ByteArray := prog_12_method_27_code
def xy_Mo_isTo : MethodName := ⟨"LayerDeskModel", "isTo", "(ZIIII)Z"⟩
abbrev xb_Mo_exports : ByteArray := prog_12_method_28_code
def xy_Mo_exports : MethodName := ⟨"LayerDeskModel", "exports", "(II)Z"⟩
abbrev xb_Mo_isElsewhere : ByteArray := prog_12_method_30_code
def xy_Mo_isElsewhere : MethodName := ⟨"LayerDeskModel", "isElsewhere", "(III)Z"⟩
abbrev xb_Mo_isSplit : ByteArray := prog_12_method_29_code
def xy_Mo_isSplit : MethodName := ⟨"LayerDeskModel", "isSplit", "(II)Z"⟩
abbrev xb_Mo_reason : ByteArray := prog_12_method_31_code
def xy_Mo_reason : MethodName := ⟨"LayerDeskModel", "reason", "()I"⟩
theorem xd_Mo_exports_0 : decode xb_Mo_exports 0 = .ok (.aload_n 0, 1) := by decide +kernel
theorem xd_Mo_exports_1 : decode xb_Mo_exports 1 = .ok (.aload_n 0, 1) := by decide +kernel
theorem xd_Mo_exports_2 : decode xb_Mo_exports 2 = .ok (.getfield 38, 3) := by decide +kernel
theorem xd_Mo_exports_5 : decode xb_Mo_exports 5 = .ok (.iload_n 1, 1) := by decide +kernel
theorem xd_Mo_exports_6 : decode xb_Mo_exports 6 = .ok (.baload, 1) := by decide +kernel
theorem xd_Mo_exports_7 : decode xb_Mo_exports 7 = .ok (.aload_n 0, 1) := by decide +kernel
theorem xd_Mo_exports_8 : decode xb_Mo_exports 8 = .ok (.getfield 32, 3) := by decide +kernel
theorem xd_Mo_exports_11 : decode xb_Mo_exports 11 = .ok (.iconst 3, 1) := by decide +kernel
theorem xd_Mo_exports_12 : decode xb_Mo_exports 12 = .ok (.iload_n 1, 1) := by decide +kernel
theorem xd_Mo_exports_13 : decode xb_Mo_exports 13 = .ok (.imul, 1) := by decide +kernel
theorem xd_Mo_exports_14 : decode xb_Mo_exports 14 = .ok (.iaload, 1) := by decide +kernel
theorem xd_Mo_exports_15 : decode xb_Mo_exports 15 = .ok (.aload_n 0, 1) := by decide +kernel
theorem xd_Mo_exports_16 : decode xb_Mo_exports 16 = .ok (.getfield 32, 3) := by decide +kernel
theorem xd_Mo_exports_19 : decode xb_Mo_exports 19 = .ok (.iconst 3, 1) := by decide +kernel
theorem xd_Mo_exports_20 : decode xb_Mo_exports 20 = .ok (.iload_n 1, 1) := by decide +kernel
theorem xd_Mo_exports_21 : decode xb_Mo_exports 21 = .ok (.imul, 1) := by decide +kernel
theorem xd_Mo_exports_22 : decode xb_Mo_exports 22 = .ok (.iconst 1, 1) := by decide +kernel
theorem xd_Mo_exports_23 : decode xb_Mo_exports 23 = .ok (.iadd, 1) := by decide +kernel
theorem xd_Mo_exports_24 : decode xb_Mo_exports 24 = .ok (.iaload, 1) := by decide +kernel
theorem xd_Mo_exports_25 : decode xb_Mo_exports 25 = .ok (.aload_n 0, 1) := by decide +kernel
theorem xd_Mo_exports_26 : decode xb_Mo_exports 26 = .ok (.getfield 32, 3) := by decide +kernel
theorem xd_Mo_exports_29 : decode xb_Mo_exports 29 = .ok (.iconst 3, 1) := by decide +kernel
theorem xd_Mo_exports_30 : decode xb_Mo_exports 30 = .ok (.iload_n 1, 1) := by decide +kernel
theorem xd_Mo_exports_31 : decode xb_Mo_exports 31 = .ok (.imul, 1) := by decide +kernel
theorem xd_Mo_exports_32 : decode xb_Mo_exports 32 = .ok (.iconst 2, 1) := by decide +kernel
theorem xd_Mo_exports_33 : decode xb_Mo_exports 33 = .ok (.iadd, 1) := by decide +kernel
theorem xd_Mo_exports_34 : decode xb_Mo_exports 34 = .ok (.iaload, 1) := by decide +kernel
theorem xd_Mo_exports_35 : decode xb_Mo_exports 35 = .ok (.iload_n 2, 1) := by decide +kernel
theorem xd_Mo_exports_36 : decode xb_Mo_exports 36 = .ok (.invokevirtual 167, 3) := by decide +kernel
theorem xd_Mo_exports_39 : decode xb_Mo_exports 39 = .ok (.ireturn, 1) := by decide +kernel
theorem xd_Mo_isElsewhere_0 : decode xb_Mo_isElsewhere 0 = .ok (.iconst 0, 1) := by decide +kernel
theorem xd_Mo_isElsewhere_1 : decode xb_Mo_isElsewhere 1 = .ok (.istore 4, 2) := by decide +kernel
theorem xd_Mo_isElsewhere_3 : decode xb_Mo_isElsewhere 3 = .ok (.iconst 0, 1) := by decide +kernel
theorem xd_Mo_isElsewhere_4 : decode xb_Mo_isElsewhere 4 = .ok (.istore 5, 2) := by decide +kernel
theorem xd_Mo_isElsewhere_6 : decode xb_Mo_isElsewhere 6 = .ok (.iload 5, 2) := by decide +kernel
theorem xd_Mo_isElsewhere_8 : decode xb_Mo_isElsewhere 8 = .ok (.bipush 72, 2) := by decide +kernel
theorem xd_Mo_isElsewhere_10 : decode xb_Mo_isElsewhere 10 = .ok (.if_icmp .ge 68, 3) := by decide +kernel
theorem xd_Mo_isElsewhere_13 : decode xb_Mo_isElsewhere 13 = .ok (.iload 5, 2) := by decide +kernel
theorem xd_Mo_isElsewhere_15 : decode xb_Mo_isElsewhere 15 = .ok (.iload_n 1, 1) := by decide +kernel
theorem xd_Mo_isElsewhere_16 : decode xb_Mo_isElsewhere 16 = .ok (.if_icmp .eq 26, 3) := by decide +kernel
theorem xd_Mo_isElsewhere_19 : decode xb_Mo_isElsewhere 19 = .ok (.aload_n 0, 1) := by decide +kernel
theorem xd_Mo_isElsewhere_20 : decode xb_Mo_isElsewhere 20 = .ok (.getfield 84, 3) := by decide +kernel
theorem xd_Mo_isElsewhere_23 : decode xb_Mo_isElsewhere 23 = .ok (.iload 5, 2) := by decide +kernel
theorem xd_Mo_isElsewhere_25 : decode xb_Mo_isElsewhere 25 = .ok (.baload, 1) := by decide +kernel
theorem xd_Mo_isElsewhere_26 : decode xb_Mo_isElsewhere 26 = .ok (.ifCond .eq 16, 3) := by decide +kernel
theorem xd_Mo_isElsewhere_29 : decode xb_Mo_isElsewhere 29 = .ok (.aload_n 0, 1) := by decide +kernel
theorem xd_Mo_isElsewhere_30 : decode xb_Mo_isElsewhere 30 = .ok (.iload 5, 2) := by decide +kernel
theorem xd_Mo_isElsewhere_32 : decode xb_Mo_isElsewhere 32 = .ok (.bipush 12, 2) := by decide +kernel
theorem xd_Mo_isElsewhere_34 : decode xb_Mo_isElsewhere 34 = .ok (.irem, 1) := by decide +kernel
theorem xd_Mo_isElsewhere_35 : decode xb_Mo_isElsewhere 35 = .ok (.iload_n 2, 1) := by decide +kernel
theorem xd_Mo_isElsewhere_36 : decode xb_Mo_isElsewhere 36 = .ok (.invokevirtual 143, 3) := by decide +kernel
theorem xd_Mo_isElsewhere_39 : decode xb_Mo_isElsewhere 39 = .ok (.goto 4, 3) := by decide +kernel
theorem xd_Mo_isElsewhere_42 : decode xb_Mo_isElsewhere 42 = .ok (.iconst (-1), 1) := by decide +kernel
theorem xd_Mo_isElsewhere_43 : decode xb_Mo_isElsewhere 43 = .ok (.istore 6, 2) := by decide +kernel
theorem xd_Mo_isElsewhere_45 : decode xb_Mo_isElsewhere 45 = .ok (.iload 4, 2) := by decide +kernel
theorem xd_Mo_isElsewhere_47 : decode xb_Mo_isElsewhere 47 = .ok (.ifCond .ne 18, 3) := by decide +kernel
theorem xd_Mo_isElsewhere_50 : decode xb_Mo_isElsewhere 50 = .ok (.iload 6, 2) := by decide +kernel
theorem xd_Mo_isElsewhere_52 : decode xb_Mo_isElsewhere 52 = .ok (.ifCond .lt 17, 3) := by decide +kernel
theorem xd_Mo_isElsewhere_55 : decode xb_Mo_isElsewhere 55 = .ok (.aload_n 0, 1) := by decide +kernel
theorem xd_Mo_isElsewhere_56 : decode xb_Mo_isElsewhere 56 = .ok (.iload 6, 2) := by decide +kernel
theorem xd_Mo_isElsewhere_58 : decode xb_Mo_isElsewhere 58 = .ok (.iload_n 3, 1) := by decide +kernel
theorem xd_Mo_isElsewhere_59 : decode xb_Mo_isElsewhere 59 = .ok (.invokevirtual 175, 3) := by decide +kernel
theorem xd_Mo_isElsewhere_62 : decode xb_Mo_isElsewhere 62 = .ok (.ifCond .eq 7, 3) := by decide +kernel
theorem xd_Mo_isElsewhere_65 : decode xb_Mo_isElsewhere 65 = .ok (.iconst 1, 1) := by decide +kernel
theorem xd_Mo_isElsewhere_66 : decode xb_Mo_isElsewhere 66 = .ok (.goto 4, 3) := by decide +kernel
theorem xd_Mo_isElsewhere_69 : decode xb_Mo_isElsewhere 69 = .ok (.iconst 0, 1) := by decide +kernel
theorem xd_Mo_isElsewhere_70 : decode xb_Mo_isElsewhere 70 = .ok (.istore 4, 2) := by decide +kernel
theorem xd_Mo_isElsewhere_72 : decode xb_Mo_isElsewhere 72 = .ok (.iinc 5 1, 3) := by decide +kernel
theorem xd_Mo_isElsewhere_75 : decode xb_Mo_isElsewhere 75 = .ok (.goto (-69), 3) := by decide +kernel
theorem xd_Mo_isElsewhere_78 : decode xb_Mo_isElsewhere 78 = .ok (.iload 4, 2) := by decide +kernel
theorem xd_Mo_isElsewhere_80 : decode xb_Mo_isElsewhere 80 = .ok (.ireturn, 1) := by decide +kernel
theorem xd_Mo_isSplit_0 : decode xb_Mo_isSplit 0 = .ok (.aload_n 0, 1) := by decide +kernel
theorem xd_Mo_isSplit_1 : decode xb_Mo_isSplit 1 = .ok (.iload_n 1, 1) := by decide +kernel
theorem xd_Mo_isSplit_2 : decode xb_Mo_isSplit 2 = .ok (.iload_n 2, 1) := by decide +kernel
theorem xd_Mo_isSplit_3 : decode xb_Mo_isSplit 3 = .ok (.invokevirtual 171, 3) := by decide +kernel
theorem xd_Mo_isSplit_6 : decode xb_Mo_isSplit 6 = .ok (.iconst 0, 1) := by decide +kernel
theorem xd_Mo_isSplit_7 : decode xb_Mo_isSplit 7 = .ok (.istore_n 3, 1) := by decide +kernel
theorem xd_Mo_isSplit_8 : decode xb_Mo_isSplit 8 = .ok (.iload_n 3, 1) := by decide +kernel
theorem xd_Mo_isSplit_9 : decode xb_Mo_isSplit 9 = .ok (.bipush 72, 2) := by decide +kernel
theorem xd_Mo_isSplit_11 : decode xb_Mo_isSplit 11 = .ok (.if_icmp .ge 108, 3) := by decide +kernel
theorem xd_Mo_isSplit_14 : decode xb_Mo_isSplit 14 = .ok (.bipush 6, 2) := by decide +kernel
theorem xd_Mo_isSplit_16 : decode xb_Mo_isSplit 16 = .ok (.iload_n 3, 1) := by decide +kernel
theorem xd_Mo_isSplit_17 : decode xb_Mo_isSplit 17 = .ok (.bipush 12, 2) := by decide +kernel
theorem xd_Mo_isSplit_19 : decode xb_Mo_isSplit 19 = .ok (.irem, 1) := by decide +kernel
theorem xd_Mo_isSplit_20 : decode xb_Mo_isSplit 20 = .ok (.imul, 1) := by decide +kernel
theorem xd_Mo_isSplit_21 : decode xb_Mo_isSplit 21 = .ok (.istore 4, 2) := by decide +kernel
theorem xd_Mo_isSplit_23 : decode xb_Mo_isSplit 23 = .ok (.aload_n 0, 1) := by decide +kernel
theorem xd_Mo_isSplit_24 : decode xb_Mo_isSplit 24 = .ok (.getfield 84, 3) := by decide +kernel
theorem xd_Mo_isSplit_27 : decode xb_Mo_isSplit 27 = .ok (.iload_n 3, 1) := by decide +kernel
theorem xd_Mo_isSplit_28 : decode xb_Mo_isSplit 28 = .ok (.baload, 1) := by decide +kernel
theorem xd_Mo_isSplit_29 : decode xb_Mo_isSplit 29 = .ok (.ifCond .eq 84, 3) := by decide +kernel
theorem xd_Mo_isSplit_32 : decode xb_Mo_isSplit 32 = .ok (.iload 4, 2) := by decide +kernel
theorem xd_Mo_isSplit_34 : decode xb_Mo_isSplit 34 = .ok (.bipush 6, 2) := by decide +kernel
theorem xd_Mo_isSplit_36 : decode xb_Mo_isSplit 36 = .ok (.iload_n 3, 1) := by decide +kernel
theorem xd_Mo_isSplit_37 : decode xb_Mo_isSplit 37 = .ok (.bipush 12, 2) := by decide +kernel
theorem xd_Mo_isSplit_39 : decode xb_Mo_isSplit 39 = .ok (.irem, 1) := by decide +kernel
theorem xd_Mo_isSplit_40 : decode xb_Mo_isSplit 40 = .ok (.imul, 1) := by decide +kernel
theorem xd_Mo_isSplit_41 : decode xb_Mo_isSplit 41 = .ok (.aload_n 0, 1) := by decide +kernel
theorem xd_Mo_isSplit_42 : decode xb_Mo_isSplit 42 = .ok (.getfield 26, 3) := by decide +kernel
theorem xd_Mo_isSplit_45 : decode xb_Mo_isSplit 45 = .ok (.iload_n 3, 1) := by decide +kernel
theorem xd_Mo_isSplit_46 : decode xb_Mo_isSplit 46 = .ok (.bipush 12, 2) := by decide +kernel
theorem xd_Mo_isSplit_48 : decode xb_Mo_isSplit 48 = .ok (.irem, 1) := by decide +kernel
theorem xd_Mo_isSplit_49 : decode xb_Mo_isSplit 49 = .ok (.iaload, 1) := by decide +kernel
theorem xd_Mo_isSplit_50 : decode xb_Mo_isSplit 50 = .ok (.iadd, 1) := by decide +kernel
theorem xd_Mo_isSplit_51 : decode xb_Mo_isSplit 51 = .ok (.if_icmp .ge 62, 3) := by decide +kernel
theorem xd_Mo_isSplit_54 : decode xb_Mo_isSplit 54 = .ok (.aload_n 0, 1) := by decide +kernel
theorem xd_Mo_isSplit_55 : decode xb_Mo_isSplit 55 = .ok (.iload 4, 2) := by decide +kernel
theorem xd_Mo_isSplit_57 : decode xb_Mo_isSplit 57 = .ok (.aload_n 0, 1) := by decide +kernel
theorem xd_Mo_isSplit_58 : decode xb_Mo_isSplit 58 = .ok (.getfield 23, 3) := by decide +kernel
theorem xd_Mo_isSplit_61 : decode xb_Mo_isSplit 61 = .ok (.iload_n 2, 1) := by decide +kernel
theorem xd_Mo_isSplit_62 : decode xb_Mo_isSplit 62 = .ok (.iaload, 1) := by decide +kernel
theorem xd_Mo_isSplit_63 : decode xb_Mo_isSplit 63 = .ok (.invokevirtual 175, 3) := by decide +kernel
theorem xd_Mo_isSplit_66 : decode xb_Mo_isSplit 66 = .ok (.ifCond .eq 41, 3) := by decide +kernel
theorem xd_Mo_isSplit_69 : decode xb_Mo_isSplit 69 = .ok (.aload_n 0, 1) := by decide +kernel
theorem xd_Mo_isSplit_70 : decode xb_Mo_isSplit 70 = .ok (.iload_n 2, 1) := by decide +kernel
theorem xd_Mo_isSplit_71 : decode xb_Mo_isSplit 71 = .ok (.aload_n 0, 1) := by decide +kernel
theorem xd_Mo_isSplit_72 : decode xb_Mo_isSplit 72 = .ok (.getfield 29, 3) := by decide +kernel
theorem xd_Mo_isSplit_75 : decode xb_Mo_isSplit 75 = .ok (.iload 4, 2) := by decide +kernel
theorem xd_Mo_isSplit_77 : decode xb_Mo_isSplit 77 = .ok (.iaload, 1) := by decide +kernel
theorem xd_Mo_isSplit_78 : decode xb_Mo_isSplit 78 = .ok (.invokevirtual 143, 3) := by decide +kernel
theorem xd_Mo_isSplit_81 : decode xb_Mo_isSplit 81 = .ok (.ifCond .ge 24, 3) := by decide +kernel
theorem xd_Mo_isSplit_84 : decode xb_Mo_isSplit 84 = .ok (.aload_n 0, 1) := by decide +kernel
theorem xd_Mo_isSplit_85 : decode xb_Mo_isSplit 85 = .ok (.iload_n 3, 1) := by decide +kernel
theorem xd_Mo_isSplit_86 : decode xb_Mo_isSplit 86 = .ok (.aload_n 0, 1) := by decide +kernel
theorem xd_Mo_isSplit_87 : decode xb_Mo_isSplit 87 = .ok (.getfield 29, 3) := by decide +kernel
theorem xd_Mo_isSplit_90 : decode xb_Mo_isSplit 90 = .ok (.iload 4, 2) := by decide +kernel
theorem xd_Mo_isSplit_92 : decode xb_Mo_isSplit 92 = .ok (.iaload, 1) := by decide +kernel
theorem xd_Mo_isSplit_93 : decode xb_Mo_isSplit 93 = .ok (.aload_n 0, 1) := by decide +kernel
theorem xd_Mo_isSplit_94 : decode xb_Mo_isSplit 94 = .ok (.getfield 23, 3) := by decide +kernel
theorem xd_Mo_isSplit_97 : decode xb_Mo_isSplit 97 = .ok (.iload_n 2, 1) := by decide +kernel
theorem xd_Mo_isSplit_98 : decode xb_Mo_isSplit 98 = .ok (.iaload, 1) := by decide +kernel
theorem xd_Mo_isSplit_99 : decode xb_Mo_isSplit 99 = .ok (.invokevirtual 178, 3) := by decide +kernel
theorem xd_Mo_isSplit_102 : decode xb_Mo_isSplit 102 = .ok (.ifCond .eq 5, 3) := by decide +kernel
theorem xd_Mo_isSplit_105 : decode xb_Mo_isSplit 105 = .ok (.iconst 1, 1) := by decide +kernel
theorem xd_Mo_isSplit_106 : decode xb_Mo_isSplit 106 = .ok (.ireturn, 1) := by decide +kernel
theorem xd_Mo_isSplit_107 : decode xb_Mo_isSplit 107 = .ok (.iinc 4 1, 3) := by decide +kernel
theorem xd_Mo_isSplit_110 : decode xb_Mo_isSplit 110 = .ok (.goto (-87), 3) := by decide +kernel
theorem xd_Mo_isSplit_113 : decode xb_Mo_isSplit 113 = .ok (.iinc 3 1, 3) := by decide +kernel
theorem xd_Mo_isSplit_116 : decode xb_Mo_isSplit 116 = .ok (.goto (-108), 3) := by decide +kernel
theorem xd_Mo_isSplit_119 : decode xb_Mo_isSplit 119 = .ok (.iconst 0, 1) := by decide +kernel
theorem xd_Mo_isSplit_120 : decode xb_Mo_isSplit 120 = .ok (.ireturn, 1) := by decide +kernel
theorem xd_Mo_isTo_0 : decode xb_Mo_isTo 0 = .ok (.iload_n 1, 1) := by decide +kernel
theorem xd_Mo_isTo_1 : decode xb_Mo_isTo 1 = .ok (.ifCond .ne 22, 3) := by decide +kernel
theorem xd_Mo_isTo_4 : decode xb_Mo_isTo 4 = .ok (.iload_n 2, 1) := by decide +kernel
theorem xd_Mo_isTo_5 : decode xb_Mo_isTo 5 = .ok (.iload 5, 2) := by decide +kernel
theorem xd_Mo_isTo_7 : decode xb_Mo_isTo 7 = .ok (.if_icmp .eq 16, 3) := by decide +kernel
theorem xd_Mo_isTo_10 : decode xb_Mo_isTo 10 = .ok (.iload_n 3, 1) := by decide +kernel
theorem xd_Mo_isTo_11 : decode xb_Mo_isTo 11 = .ok (.iload 5, 2) := by decide +kernel
theorem xd_Mo_isTo_13 : decode xb_Mo_isTo 13 = .ok (.if_icmp .eq 10, 3) := by decide +kernel
theorem xd_Mo_isTo_16 : decode xb_Mo_isTo 16 = .ok (.iload 4, 2) := by decide +kernel
theorem xd_Mo_isTo_18 : decode xb_Mo_isTo 18 = .ok (.iload 5, 2) := by decide +kernel
theorem xd_Mo_isTo_20 : decode xb_Mo_isTo 20 = .ok (.if_icmp .ne 7, 3) := by decide +kernel
theorem xd_Mo_isTo_23 : decode xb_Mo_isTo 23 = .ok (.iconst 1, 1) := by decide +kernel
theorem xd_Mo_isTo_24 : decode xb_Mo_isTo 24 = .ok (.goto 4, 3) := by decide +kernel
theorem xd_Mo_isTo_27 : decode xb_Mo_isTo 27 = .ok (.iconst 0, 1) := by decide +kernel
theorem xd_Mo_isTo_28 : decode xb_Mo_isTo 28 = .ok (.ireturn, 1) := by decide +kernel
theorem xd_Mo_reason_0 : decode xb_Mo_reason 0 = .ok (.iconst 0, 1) := by decide +kernel
theorem xd_Mo_reason_1 : decode xb_Mo_reason 1 = .ok (.istore_n 1, 1) := by decide +kernel
theorem xd_Mo_reason_2 : decode xb_Mo_reason 2 = .ok (.iconst 0, 1) := by decide +kernel
theorem xd_Mo_reason_3 : decode xb_Mo_reason 3 = .ok (.istore_n 2, 1) := by decide +kernel
theorem xd_Mo_reason_4 : decode xb_Mo_reason 4 = .ok (.bipush 12, 2) := by decide +kernel
theorem xd_Mo_reason_6 : decode xb_Mo_reason 6 = .ok (.aload_n 0, 1) := by decide +kernel
theorem xd_Mo_reason_7 : decode xb_Mo_reason 7 = .ok (.getfield 150, 3) := by decide +kernel
theorem xd_Mo_reason_10 : decode xb_Mo_reason 10 = .ok (.imul, 1) := by decide +kernel
theorem xd_Mo_reason_11 : decode xb_Mo_reason 11 = .ok (.istore_n 3, 1) := by decide +kernel
theorem xd_Mo_reason_12 : decode xb_Mo_reason 12 = .ok (.iload_n 3, 1) := by decide +kernel
theorem xd_Mo_reason_13 : decode xb_Mo_reason 13 = .ok (.bipush 12, 2) := by decide +kernel
theorem xd_Mo_reason_15 : decode xb_Mo_reason 15 = .ok (.aload_n 0, 1) := by decide +kernel
theorem xd_Mo_reason_16 : decode xb_Mo_reason 16 = .ok (.getfield 150, 3) := by decide +kernel
theorem xd_Mo_reason_19 : decode xb_Mo_reason 19 = .ok (.imul, 1) := by decide +kernel
theorem xd_Mo_reason_20 : decode xb_Mo_reason 20 = .ok (.aload_n 0, 1) := by decide +kernel
theorem xd_Mo_reason_21 : decode xb_Mo_reason 21 = .ok (.getfield 72, 3) := by decide +kernel
theorem xd_Mo_reason_24 : decode xb_Mo_reason 24 = .ok (.aload_n 0, 1) := by decide +kernel
theorem xd_Mo_reason_25 : decode xb_Mo_reason 25 = .ok (.getfield 150, 3) := by decide +kernel
theorem xd_Mo_reason_28 : decode xb_Mo_reason 28 = .ok (.iaload, 1) := by decide +kernel
theorem xd_Mo_reason_29 : decode xb_Mo_reason 29 = .ok (.iadd, 1) := by decide +kernel
theorem xd_Mo_reason_30 : decode xb_Mo_reason 30 = .ok (.if_icmp .ge 32, 3) := by decide +kernel
theorem xd_Mo_reason_33 : decode xb_Mo_reason 33 = .ok (.iload_n 1, 1) := by decide +kernel
theorem xd_Mo_reason_34 : decode xb_Mo_reason 34 = .ok (.ifCond .ne 16, 3) := by decide +kernel
theorem xd_Mo_reason_37 : decode xb_Mo_reason 37 = .ok (.aload_n 0, 1) := by decide +kernel
theorem xd_Mo_reason_38 : decode xb_Mo_reason 38 = .ok (.aload_n 0, 1) := by decide +kernel
theorem xd_Mo_reason_39 : decode xb_Mo_reason 39 = .ok (.getfield 75, 3) := by decide +kernel
theorem xd_Mo_reason_42 : decode xb_Mo_reason 42 = .ok (.iload_n 3, 1) := by decide +kernel
theorem xd_Mo_reason_43 : decode xb_Mo_reason 43 = .ok (.iaload, 1) := by decide +kernel
theorem xd_Mo_reason_44 : decode xb_Mo_reason 44 = .ok (.invokevirtual 181, 3) := by decide +kernel
theorem xd_Mo_reason_47 : decode xb_Mo_reason 47 = .ok (.ifCond .eq 7, 3) := by decide +kernel
theorem xd_Mo_reason_50 : decode xb_Mo_reason 50 = .ok (.iconst 1, 1) := by decide +kernel
theorem xd_Mo_reason_51 : decode xb_Mo_reason 51 = .ok (.goto 4, 3) := by decide +kernel
theorem xd_Mo_reason_54 : decode xb_Mo_reason 54 = .ok (.iconst 0, 1) := by decide +kernel
theorem xd_Mo_reason_55 : decode xb_Mo_reason 55 = .ok (.istore_n 1, 1) := by decide +kernel
theorem xd_Mo_reason_56 : decode xb_Mo_reason 56 = .ok (.iinc 3 1, 3) := by decide +kernel
theorem xd_Mo_reason_59 : decode xb_Mo_reason 59 = .ok (.goto (-47), 3) := by decide +kernel
theorem xd_Mo_reason_62 : decode xb_Mo_reason 62 = .ok (.bipush 12, 2) := by decide +kernel
theorem xd_Mo_reason_64 : decode xb_Mo_reason 64 = .ok (.aload_n 0, 1) := by decide +kernel
theorem xd_Mo_reason_65 : decode xb_Mo_reason 65 = .ok (.getfield 150, 3) := by decide +kernel
theorem xd_Mo_reason_68 : decode xb_Mo_reason 68 = .ok (.imul, 1) := by decide +kernel
theorem xd_Mo_reason_69 : decode xb_Mo_reason 69 = .ok (.istore_n 3, 1) := by decide +kernel
theorem xd_Mo_reason_70 : decode xb_Mo_reason 70 = .ok (.iload_n 3, 1) := by decide +kernel
theorem xd_Mo_reason_71 : decode xb_Mo_reason 71 = .ok (.bipush 12, 2) := by decide +kernel
theorem xd_Mo_reason_73 : decode xb_Mo_reason 73 = .ok (.aload_n 0, 1) := by decide +kernel
theorem xd_Mo_reason_74 : decode xb_Mo_reason 74 = .ok (.getfield 150, 3) := by decide +kernel
theorem xd_Mo_reason_77 : decode xb_Mo_reason 77 = .ok (.imul, 1) := by decide +kernel
theorem xd_Mo_reason_78 : decode xb_Mo_reason 78 = .ok (.aload_n 0, 1) := by decide +kernel
theorem xd_Mo_reason_79 : decode xb_Mo_reason 79 = .ok (.getfield 72, 3) := by decide +kernel
theorem xd_Mo_reason_82 : decode xb_Mo_reason 82 = .ok (.aload_n 0, 1) := by decide +kernel
theorem xd_Mo_reason_83 : decode xb_Mo_reason 83 = .ok (.getfield 150, 3) := by decide +kernel
theorem xd_Mo_reason_86 : decode xb_Mo_reason 86 = .ok (.iaload, 1) := by decide +kernel
theorem xd_Mo_reason_87 : decode xb_Mo_reason 87 = .ok (.iadd, 1) := by decide +kernel
theorem xd_Mo_reason_88 : decode xb_Mo_reason 88 = .ok (.if_icmp .ge 40, 3) := by decide +kernel
theorem xd_Mo_reason_91 : decode xb_Mo_reason 91 = .ok (.iload_n 1, 1) := by decide +kernel
theorem xd_Mo_reason_92 : decode xb_Mo_reason 92 = .ok (.ifCond .ne 36, 3) := by decide +kernel
theorem xd_Mo_reason_95 : decode xb_Mo_reason 95 = .ok (.iload_n 2, 1) := by decide +kernel
theorem xd_Mo_reason_96 : decode xb_Mo_reason 96 = .ok (.ifCond .ne 20, 3) := by decide +kernel
theorem xd_Mo_reason_99 : decode xb_Mo_reason 99 = .ok (.aload_n 0, 1) := by decide +kernel
theorem xd_Mo_reason_100 : decode xb_Mo_reason 100 = .ok (.aload_n 0, 1) := by decide +kernel
theorem xd_Mo_reason_101 : decode xb_Mo_reason 101 = .ok (.getfield 150, 3) := by decide +kernel
theorem xd_Mo_reason_104 : decode xb_Mo_reason 104 = .ok (.aload_n 0, 1) := by decide +kernel
theorem xd_Mo_reason_105 : decode xb_Mo_reason 105 = .ok (.getfield 75, 3) := by decide +kernel
theorem xd_Mo_reason_108 : decode xb_Mo_reason 108 = .ok (.iload_n 3, 1) := by decide +kernel
theorem xd_Mo_reason_109 : decode xb_Mo_reason 109 = .ok (.iaload, 1) := by decide +kernel
theorem xd_Mo_reason_110 : decode xb_Mo_reason 110 = .ok (.invokevirtual 184, 3) := by decide +kernel
theorem xd_Mo_reason_113 : decode xb_Mo_reason 113 = .ok (.ifCond .eq 7, 3) := by decide +kernel
theorem xd_Mo_reason_116 : decode xb_Mo_reason 116 = .ok (.iconst 1, 1) := by decide +kernel
theorem xd_Mo_reason_117 : decode xb_Mo_reason 117 = .ok (.goto 4, 3) := by decide +kernel
theorem xd_Mo_reason_120 : decode xb_Mo_reason 120 = .ok (.iconst 0, 1) := by decide +kernel
theorem xd_Mo_reason_121 : decode xb_Mo_reason 121 = .ok (.istore_n 2, 1) := by decide +kernel
theorem xd_Mo_reason_122 : decode xb_Mo_reason 122 = .ok (.iinc 3 1, 3) := by decide +kernel
theorem xd_Mo_reason_125 : decode xb_Mo_reason 125 = .ok (.goto (-55), 3) := by decide +kernel
theorem xd_Mo_reason_128 : decode xb_Mo_reason 128 = .ok (.iload_n 1, 1) := by decide +kernel
theorem xd_Mo_reason_129 : decode xb_Mo_reason 129 = .ok (.ifCond .eq 7, 3) := by decide +kernel
theorem xd_Mo_reason_132 : decode xb_Mo_reason 132 = .ok (.iconst 1, 1) := by decide +kernel
theorem xd_Mo_reason_133 : decode xb_Mo_reason 133 = .ok (.goto 24, 3) := by decide +kernel
theorem xd_Mo_reason_136 : decode xb_Mo_reason 136 = .ok (.iload_n 2, 1) := by decide +kernel
theorem xd_Mo_reason_137 : decode xb_Mo_reason 137 = .ok (.ifCond .eq 7, 3) := by decide +kernel
theorem xd_Mo_reason_140 : decode xb_Mo_reason 140 = .ok (.iconst 2, 1) := by decide +kernel
theorem xd_Mo_reason_141 : decode xb_Mo_reason 141 = .ok (.goto 16, 3) := by decide +kernel
theorem xd_Mo_reason_144 : decode xb_Mo_reason 144 = .ok (.aload_n 0, 1) := by decide +kernel
theorem xd_Mo_reason_145 : decode xb_Mo_reason 145 = .ok (.getfield 150, 3) := by decide +kernel
theorem xd_Mo_reason_148 : decode xb_Mo_reason 148 = .ok (.iconst 5, 1) := by decide +kernel
theorem xd_Mo_reason_149 : decode xb_Mo_reason 149 = .ok (.if_icmp .ne 7, 3) := by decide +kernel
theorem xd_Mo_reason_152 : decode xb_Mo_reason 152 = .ok (.iconst 3, 1) := by decide +kernel
theorem xd_Mo_reason_153 : decode xb_Mo_reason 153 = .ok (.goto 4, 3) := by decide +kernel
theorem xd_Mo_reason_156 : decode xb_Mo_reason 156 = .ok (.iconst 0, 1) := by decide +kernel
theorem xd_Mo_reason_157 : decode xb_Mo_reason 157 = .ok (.ireturn, 1) := by decide +kernel
theorem xy2_0 : (Cond.fieldLink "LayerDeskModel" 38 "LayerDeskModel" "exportAll" "[Z") ∈ wT := wT_t (List.mem_append_right _ (List.mem_append_right _ (List.mem_append_right _ (List.mem_append_left _ (List.mem_of_getElem? (i := 98) rfl))))) rfl
theorem xy2_1 : (Cond.fieldLink "LayerDeskModel" 32 "LayerDeskModel" "exportTo" "[I") ∈ wT := wT_t (List.mem_append_right _ (List.mem_append_right _ (List.mem_append_right _ (List.mem_append_left _ (List.mem_of_getElem? (i := 96) rfl))))) rfl
theorem xy2_2 : (Cond.code xy_Mo_isTo xb_Mo_isTo 6 (some .boolean)) ∈ wT := wT_t (List.mem_append_right _ (List.mem_append_right _ (List.mem_append_right _ (List.mem_append_right _ (List.mem_of_getElem? (i := 56) rfl))))) rfl
theorem xy2_3 : (Cond.methodLink "LayerDeskModel" 167 xy_Mo_isTo) ∈ wT := wT_t (List.mem_append_right _ (List.mem_append_right _ (List.mem_append_right _ (List.mem_append_right _ (List.mem_of_getElem? (i := 53) rfl))))) rfl
theorem xy2_4 : (Cond.instanceMethod xy_Mo_isTo) ∈ wT := wT_t (List.mem_append_right _ (List.mem_append_right _ (List.mem_append_right _ (List.mem_append_right _ (List.mem_of_getElem? (i := 55) rfl))))) rfl
theorem xy2_5 : (Cond.selects "LayerDeskModel" xy_Mo_isTo xy_Mo_isTo) ∈ wT := wT_s (q := (xy_Mo_isTo, 31)) (by decide +kernel) rfl
theorem xy2_6 : (Cond.initialized "LayerDeskModel") ∈ wT := wT_t (List.mem_append_left _ (List.mem_of_getElem? (i := 5) rfl)) rfl
theorem xy2_7 : (Cond.fieldLink "LayerDeskModel" 84 "LayerDeskModel" "seen" "[Z") ∈ wT := wT_t (List.mem_append_right _ (List.mem_append_right _ (List.mem_append_right _ (List.mem_append_left _ (List.mem_of_getElem? (i := 114) rfl))))) rfl
theorem xy2_8 : (Cond.code xy_Mo_packageOf xb_Mo_packageOf 4 (some .int)) ∈ wT := wT_t (List.mem_append_right _ (List.mem_append_right _ (List.mem_append_right _ (List.mem_append_left _ (List.mem_of_getElem? (i := 224) rfl))))) rfl
theorem xy2_9 : (Cond.methodLink "LayerDeskModel" 143 xy_Mo_packageOf) ∈ wT := wT_t (List.mem_append_right _ (List.mem_append_right _ (List.mem_append_right _ (List.mem_append_left _ (List.mem_of_getElem? (i := 221) rfl))))) rfl
theorem xy2_10 : (Cond.instanceMethod xy_Mo_packageOf) ∈ wT := wT_t (List.mem_append_right _ (List.mem_append_right _ (List.mem_append_right _ (List.mem_append_left _ (List.mem_of_getElem? (i := 223) rfl))))) rfl
theorem xy2_11 : (Cond.selects "LayerDeskModel" xy_Mo_packageOf xy_Mo_packageOf) ∈ wT := wT_s (q := (xy_Mo_packageOf, 31)) (by decide +kernel) rfl
theorem xy2_12 : (Cond.code xy_Mo_exports xb_Mo_exports 3 (some .boolean)) ∈ wT := wT_t (List.mem_append_right _ (List.mem_append_right _ (List.mem_append_right _ (List.mem_append_right _ (List.mem_of_getElem? (i := 52) rfl))))) rfl
theorem xy2_13 : (Cond.methodLink "LayerDeskModel" 175 xy_Mo_exports) ∈ wT := wT_t (List.mem_append_right _ (List.mem_append_right _ (List.mem_append_right _ (List.mem_append_right _ (List.mem_of_getElem? (i := 49) rfl))))) rfl
theorem xy2_14 : (Cond.instanceMethod xy_Mo_exports) ∈ wT := wT_t (List.mem_append_right _ (List.mem_append_right _ (List.mem_append_right _ (List.mem_append_right _ (List.mem_of_getElem? (i := 51) rfl))))) rfl
theorem xy2_15 : (Cond.selects "LayerDeskModel" xy_Mo_exports xy_Mo_exports) ∈ wT := wT_s (q := (xy_Mo_exports, 31)) (by decide +kernel) rfl
theorem xy2_16 : (Cond.code xy_Mo_reading xb_Mo_reading 7 none) ∈ wT := wT_t (List.mem_append_right _ (List.mem_append_right _ (List.mem_append_right _ (List.mem_append_right _ (List.mem_of_getElem? (i := 48) rfl))))) rfl
theorem xy2_17 : (Cond.methodLink "LayerDeskModel" 171 xy_Mo_reading) ∈ wT := wT_t (List.mem_append_right _ (List.mem_append_right _ (List.mem_append_right _ (List.mem_append_right _ (List.mem_of_getElem? (i := 45) rfl))))) rfl
theorem xy2_18 : (Cond.instanceMethod xy_Mo_reading) ∈ wT := wT_t (List.mem_append_right _ (List.mem_append_right _ (List.mem_append_right _ (List.mem_append_right _ (List.mem_of_getElem? (i := 47) rfl))))) rfl
theorem xy2_19 : (Cond.selects "LayerDeskModel" xy_Mo_reading xy_Mo_reading) ∈ wT := wT_s (q := (xy_Mo_reading, 31)) (by decide +kernel) rfl
theorem xy2_20 : (Cond.fieldLink "LayerDeskModel" 26 "LayerDeskModel" "packages" "[I") ∈ wT := wT_t (List.mem_append_right _ (List.mem_append_right _ (List.mem_append_right _ (List.mem_append_left _ (List.mem_of_getElem? (i := 94) rfl))))) rfl
theorem xy2_21 : (Cond.fieldLink "LayerDeskModel" 23 "LayerDeskModel" "name" "[I") ∈ wT := wT_t (List.mem_append_right _ (List.mem_append_right _ (List.mem_append_right _ (List.mem_append_left _ (List.mem_of_getElem? (i := 93) rfl))))) rfl
theorem xy2_22 : (Cond.fieldLink "LayerDeskModel" 29 "LayerDeskModel" "pack" "[I") ∈ wT := wT_t (List.mem_append_right _ (List.mem_append_right _ (List.mem_append_right _ (List.mem_append_left _ (List.mem_of_getElem? (i := 95) rfl))))) rfl
theorem xy2_23 : (Cond.code xy_Mo_isElsewhere xb_Mo_isElsewhere 7 (some .boolean)) ∈ wT := wT_t (List.mem_append_right _ (List.mem_append_right _ (List.mem_append_right _ (List.mem_append_right _ (List.mem_of_getElem? (i := 60) rfl))))) rfl
theorem xy2_24 : (Cond.methodLink "LayerDeskModel" 178 xy_Mo_isElsewhere) ∈ wT := wT_t (List.mem_append_right _ (List.mem_append_right _ (List.mem_append_right _ (List.mem_append_right _ (List.mem_of_getElem? (i := 57) rfl))))) rfl
theorem xy2_25 : (Cond.instanceMethod xy_Mo_isElsewhere) ∈ wT := wT_t (List.mem_append_right _ (List.mem_append_right _ (List.mem_append_right _ (List.mem_append_right _ (List.mem_of_getElem? (i := 59) rfl))))) rfl
theorem xy2_26 : (Cond.selects "LayerDeskModel" xy_Mo_isElsewhere xy_Mo_isElsewhere) ∈ wT := wT_s (q := (xy_Mo_isElsewhere, 31)) (by decide +kernel) rfl
theorem xy2_27 : (Cond.fieldLink "LayerDeskModel" 150 "LayerDeskModel" "layers" "I") ∈ wT := wT_t (List.mem_append_right _ (List.mem_append_right _ (List.mem_append_right _ (List.mem_append_left _ (List.mem_of_getElem? (i := 107) rfl))))) rfl
theorem xy2_28 : (Cond.fieldLink "LayerDeskModel" 72 "LayerDeskModel" "modules" "[I") ∈ wT := wT_t (List.mem_append_right _ (List.mem_append_right _ (List.mem_append_right _ (List.mem_append_left _ (List.mem_of_getElem? (i := 110) rfl))))) rfl
theorem xy2_29 : (Cond.fieldLink "LayerDeskModel" 75 "LayerDeskModel" "module" "[I") ∈ wT := wT_t (List.mem_append_right _ (List.mem_append_right _ (List.mem_append_right _ (List.mem_append_left _ (List.mem_of_getElem? (i := 111) rfl))))) rfl
theorem xy2_30 : (Cond.code xy_Mo_isSplit xb_Mo_isSplit 5 (some .boolean)) ∈ wT := wT_t (List.mem_append_right _ (List.mem_append_right _ (List.mem_append_right _ (List.mem_append_right _ (List.mem_of_getElem? (i := 44) rfl))))) rfl
theorem xy2_31 : (Cond.methodLink "LayerDeskModel" 184 xy_Mo_isSplit) ∈ wT := wT_t (List.mem_append_right _ (List.mem_append_right _ (List.mem_append_right _ (List.mem_append_right _ (List.mem_of_getElem? (i := 41) rfl))))) rfl
theorem xy2_32 : (Cond.instanceMethod xy_Mo_isSplit) ∈ wT := wT_t (List.mem_append_right _ (List.mem_append_right _ (List.mem_append_right _ (List.mem_append_right _ (List.mem_of_getElem? (i := 43) rfl))))) rfl
theorem xy2_33 : (Cond.selects "LayerDeskModel" xy_Mo_isSplit xy_Mo_isSplit) ∈ wT := wT_s (q := (xy_Mo_isSplit, 31)) (by decide +kernel) rfl
theorem xy2_34 : (Cond.code xy_Mo_isCycle xb_Mo_isCycle 10 (some .boolean)) ∈ wT := wT_t (List.mem_append_right _ (List.mem_append_right _ (List.mem_append_right _ (List.mem_append_right _ (List.mem_of_getElem? (i := 40) rfl))))) rfl
theorem xy2_35 : (Cond.methodLink "LayerDeskModel" 181 xy_Mo_isCycle) ∈ wT := wT_t (List.mem_append_right _ (List.mem_append_right _ (List.mem_append_right _ (List.mem_append_right _ (List.mem_of_getElem? (i := 37) rfl))))) rfl
theorem xy2_36 : (Cond.instanceMethod xy_Mo_isCycle) ∈ wT := wT_t (List.mem_append_right _ (List.mem_append_right _ (List.mem_append_right _ (List.mem_append_right _ (List.mem_of_getElem? (i := 39) rfl))))) rfl
theorem xy2_37 : (Cond.selects "LayerDeskModel" xy_Mo_isCycle xy_Mo_isCycle) ∈ wT := wT_s (q := (xy_Mo_isCycle, 31)) (by decide +kernel) rfl
set_option maxHeartbeats 4000000 in
set_option maxRecDepth 100000 in
theorem xc_Mo_isTo (l : Launch) (D : va_G) (kA : Nat → ClassId) (sz h : Nat) (mm : Nat → Nat) (v : Nat → Int32) (g : Nat → Nat → Int32) (t0 : Int32) (t1 : Int32) (t2 : Int32) (t3 : Int32) (t4 : Int32) : Met l xy_Mo_isTo (.code xy_Mo_isTo xb_Mo_isTo 6 (some .boolean) :: wT) { frames := 0, cells := 0, slots := 0, locals := 0 } (va_Pc [.ref h, .int t0, .int t1, .int t2, .int t3, .int t4] (xPre D kA sz (moW h mm kA v g))) (va_Qi (fun (r : Int32) (u : Unit) => r = 0 ∨ r = 1) (fun (u : Unit) t => va_P D xcl (moW h mm kA v g) t.heap ∧ va_D (va_A (moW h mm kA v g) sz) (moW h mm kA v g)) (va_A (moW h mm kA v g) sz)) 0 0 (va_A (moW h mm kA v g) sz) := by
  refine Met.ofW (cc := xb_Mo_isTo) (maxL := 6) (ret := (some .boolean)) (by decide) rfl ?_
  intro p e s m args below meth c s₁ B hml hv
  obtain ⟨rfl, hsz, hP, hK, hD0⟩ := hv
  have hx := B.exec
  have hb := B.bytes
  have hr := B.returns
  have hT := x_hT B.pre
  have hown : s.vm.findClass xR_Mo = some m.cls := findClass_of_methodNamed B.named
  have hlocks := B.notSynchronized
  subst hsz
  have hD := hD0.self (sz := s.heap.size)
  generalize hAe : va_A (moW h mm kA v g) s.heap.size = A at hD ⊢
  have hA : ∀ q : Nat, s.heap.size ≤ q → A q := fun q h => by rw [← hAe]; exact Or.inr h
  have hS : va_S A s.heap s.heap [] := va_S.rf
  have hl := lv_entry ([.ref h, .int t0, .int t1, .int t2, .int t3, .int t4]) (n := 6) (Nat.le_of_ble_eq_true rfl)
  rw [lg_entry_eq]
  generalize (lg_sl ([.ref h, .int t0, .int t1, .int t2, .int t3, .int t4]) ++ List.replicate (6 - (lg_sl ([.ref h, .int t0, .int t1, .int t2, .int t3, .int t4])).length) Slot.unset).toArray = ls at hl ⊢
  have hl : lv_has ls 6 [(0, .ref h), (1, .int t0), (2, .int t1), (3, .int t2), (4, .int t3), (5, .int t4)] := hl
  have hP : va_P D xcl (moW h mm kA v g) s.heap := hP
  refine lv_iload_n hx hb xd_Mo_isTo_0 rfl (lv_at hl 1 rfl) ?_
  refine lv_if_ne (tgt := 23) hx hb xd_Mo_isTo_1 (by decide) (fun hc1 => ?_) (fun hc1 => ?_)
  · refine lv_iconst (v := 1) hx hb xd_Mo_isTo_23 (by decide) ?_
    refine lv_goto (tgt := 28) hx hb xd_Mo_isTo_24 (by decide) ?_
    exact W.zret (v := 1) hx hb hr rfl (fun t ht hW => ⟨⟨1, (), rfl, Or.inr rfl, by rw [ht]; exact hP, hD⟩, hS.F ht⟩) hS.2.2 xd_Mo_isTo_28
  · refine lv_iload_n hx hb xd_Mo_isTo_4 rfl (lv_at hl 2 rfl) ?_
    refine lv_iload hx hb xd_Mo_isTo_5 (lv_at hl 5 rfl) ?_
    refine lv_icmp_eq (tgt := 23) hx hb xd_Mo_isTo_7 (by decide) (fun hc2 => ?_) (fun hc2 => ?_)
    · refine lv_iconst (v := 1) hx hb xd_Mo_isTo_23 (by decide) ?_
      refine lv_goto (tgt := 28) hx hb xd_Mo_isTo_24 (by decide) ?_
      exact W.zret (v := 1) hx hb hr rfl (fun t ht hW => ⟨⟨1, (), rfl, Or.inr rfl, by rw [ht]; exact hP, hD⟩, hS.F ht⟩) hS.2.2 xd_Mo_isTo_28
    · refine lv_iload_n hx hb xd_Mo_isTo_10 rfl (lv_at hl 3 rfl) ?_
      refine lv_iload hx hb xd_Mo_isTo_11 (lv_at hl 5 rfl) ?_
      refine lv_icmp_eq (tgt := 23) hx hb xd_Mo_isTo_13 (by decide) (fun hc3 => ?_) (fun hc3 => ?_)
      · refine lv_iconst (v := 1) hx hb xd_Mo_isTo_23 (by decide) ?_
        refine lv_goto (tgt := 28) hx hb xd_Mo_isTo_24 (by decide) ?_
        exact W.zret (v := 1) hx hb hr rfl (fun t ht hW => ⟨⟨1, (), rfl, Or.inr rfl, by rw [ht]; exact hP, hD⟩, hS.F ht⟩) hS.2.2 xd_Mo_isTo_28
      · refine lv_iload hx hb xd_Mo_isTo_16 (lv_at hl 4 rfl) ?_
        refine lv_iload hx hb xd_Mo_isTo_18 (lv_at hl 5 rfl) ?_
        refine lv_icmp_ne (tgt := 27) hx hb xd_Mo_isTo_20 (by decide) (fun hc4 => ?_) (fun hc4 => ?_)
        · refine lv_iconst (v := 0) hx hb xd_Mo_isTo_27 (by decide) ?_
          exact W.zret (v := 0) hx hb hr rfl (fun t ht hW => ⟨⟨0, (), rfl, Or.inl rfl, by rw [ht]; exact hP, hD⟩, hS.F ht⟩) hS.2.2 xd_Mo_isTo_28
        · refine lv_iconst (v := 1) hx hb xd_Mo_isTo_23 (by decide) ?_
          refine lv_goto (tgt := 28) hx hb xd_Mo_isTo_24 (by decide) ?_
          exact W.zret (v := 1) hx hb hr rfl (fun t ht hW => ⟨⟨1, (), rfl, Or.inr rfl, by rw [ht]; exact hP, hD⟩, hS.F ht⟩) hS.2.2 xd_Mo_isTo_28
set_option maxHeartbeats 4000000 in
set_option maxRecDepth 100000 in
theorem xc_Mo_exports (l : Launch) (D : va_G) (kA : Nat → ClassId) (sz h : Nat) (mm : Nat → Nat) (v : Nat → Int32) (g : Nat → Nat → Int32) (p9 : Nat) (tn : Int32) (hp72 : p9 < 72) : Met l xy_Mo_exports (.code xy_Mo_exports xb_Mo_exports 3 (some .boolean) :: wT) { frames := 1, cells := 0, slots := 0, locals := 25 } (va_Pc [.ref h, .int (nI p9), .int tn] (xPre D kA sz (moW h mm kA v g))) (va_Qi (fun (r : Int32) (u : Unit) => r = 0 ∨ r = 1) (fun (u : Unit) t => va_P D xcl (moW h mm kA v g) t.heap ∧ va_D (va_A (moW h mm kA v g) sz) (moW h mm kA v g)) (va_A (moW h mm kA v g) sz)) 0 0 (va_A (moW h mm kA v g) sz) := by
  refine Met.ofW (cc := xb_Mo_exports) (maxL := 3) (ret := (some .boolean)) (by decide) rfl ?_
  intro p e s m args below meth c s₁ B hml hv
  obtain ⟨rfl, hsz, hP, hK, hD0⟩ := hv
  have hx := B.exec
  have hb := B.bytes
  have hr := B.returns
  have hT := x_hT B.pre
  have hown : s.vm.findClass xR_Mo = some m.cls := findClass_of_methodNamed B.named
  have hlocks := B.notSynchronized
  subst hsz
  have hD := hD0.self (sz := s.heap.size)
  generalize hAe : va_A (moW h mm kA v g) s.heap.size = A at hD ⊢
  have hA : ∀ q : Nat, s.heap.size ≤ q → A q := fun q h => by rw [← hAe]; exact Or.inr h
  have hS : va_S A s.heap s.heap [] := va_S.rf
  have hl := lv_entry ([.ref h, .int (nI p9), .int tn]) (n := 3) (Nat.le_of_ble_eq_true rfl)
  rw [lg_entry_eq]
  generalize (lg_sl ([.ref h, .int (nI p9), .int tn]) ++ List.replicate (3 - (lg_sl ([.ref h, .int (nI p9), .int tn])).length) Slot.unset).toArray = ls at hl ⊢
  have hl : lv_has ls 3 [(0, .ref h), (1, .int (nI p9)), (2, .int tn)] := hl
  have hP : va_P D xcl (moW h mm kA v g) s.heap := hP
  refine lv_aload_n hx hb xd_Mo_exports_0 rfl (lv_at hl 0 rfl) ?_
  refine lv_aload_n hx hb xd_Mo_exports_1 rfl (lv_at hl 0 rfl) ?_
  refine va_get (D := D) (ci := 4) (v := .ref (mm 9)) (C := xR_Mo) (T := xT_Mo) (N := 31) hx hb hT xi_Mo hown hK.1 hP 0 rfl rfl 14 (by decide) (hT _ xy2_0) (fun _ h9 => h9) rfl xd_Mo_exports_2 ?_
  refine lv_iload_n hx hb xd_Mo_exports_5 rfl (lv_at hl 1 rfl) ?_
  refine xn_zald (i := p9) hx hb hK.1 hP 10 2 rfl rfl (by omega) (by decide) xd_Mo_exports_6 ?_
  refine lv_aload_n hx hb xd_Mo_exports_7 rfl (lv_at hl 0 rfl) ?_
  refine va_get (D := D) (ci := 4) (v := .ref (mm 7)) (C := xR_Mo) (T := xT_Mo) (N := 31) hx hb hT xi_Mo hown hK.1 hP 0 rfl rfl 12 (by decide) (hT _ xy2_1) (fun _ h9 => h9) rfl xd_Mo_exports_8 ?_
  refine lv_iconst (v := 3) hx hb xd_Mo_exports_11 (by decide) ?_
  refine lv_iload_n hx hb xd_Mo_exports_12 rfl (lv_at hl 1 rfl) ?_
  refine lv_imul hx hb xd_Mo_exports_13 ?_
  refine xn_top (y := nI (3 * p9)) (pk_mul 3 p9) ?_
  refine xn_iald (i := 3 * p9) hx hb hK.1 hP 8 0 rfl rfl (by omega) (by decide) xd_Mo_exports_14 ?_
  refine lv_aload_n hx hb xd_Mo_exports_15 rfl (lv_at hl 0 rfl) ?_
  refine va_get (D := D) (ci := 4) (v := .ref (mm 7)) (C := xR_Mo) (T := xT_Mo) (N := 31) hx hb hT xi_Mo hown hK.1 hP 0 rfl rfl 12 (by decide) (hT _ xy2_1) (fun _ h9 => h9) rfl xd_Mo_exports_16 ?_
  refine lv_iconst (v := 3) hx hb xd_Mo_exports_19 (by decide) ?_
  refine lv_iload_n hx hb xd_Mo_exports_20 rfl (lv_at hl 1 rfl) ?_
  refine lv_imul hx hb xd_Mo_exports_21 ?_
  refine xn_top (y := nI (3 * p9)) (pk_mul 3 p9) ?_
  refine lv_iconst (v := 1) hx hb xd_Mo_exports_22 (by decide) ?_
  refine lv_iadd hx hb xd_Mo_exports_23 ?_
  refine xn_top (y := nI ((3 * p9) + 1)) (nI_add (3 * p9) 1) ?_
  refine xn_iald (i := (3 * p9) + 1) hx hb hK.1 hP 8 0 rfl rfl (by omega) (by decide) xd_Mo_exports_24 ?_
  refine lv_aload_n hx hb xd_Mo_exports_25 rfl (lv_at hl 0 rfl) ?_
  refine va_get (D := D) (ci := 4) (v := .ref (mm 7)) (C := xR_Mo) (T := xT_Mo) (N := 31) hx hb hT xi_Mo hown hK.1 hP 0 rfl rfl 12 (by decide) (hT _ xy2_1) (fun _ h9 => h9) rfl xd_Mo_exports_26 ?_
  refine lv_iconst (v := 3) hx hb xd_Mo_exports_29 (by decide) ?_
  refine lv_iload_n hx hb xd_Mo_exports_30 rfl (lv_at hl 1 rfl) ?_
  refine lv_imul hx hb xd_Mo_exports_31 ?_
  refine xn_top (y := nI (3 * p9)) (pk_mul 3 p9) ?_
  refine lv_iconst (v := 2) hx hb xd_Mo_exports_32 (by decide) ?_
  refine lv_iadd hx hb xd_Mo_exports_33 ?_
  refine xn_top (y := nI ((3 * p9) + 2)) (nI_add (3 * p9) 2) ?_
  refine xn_iald (i := (3 * p9) + 2) hx hb hK.1 hP 8 0 rfl rfl (by omega) (by decide) xd_Mo_exports_34 ?_
  refine lv_iload_n hx hb xd_Mo_exports_35 rfl (lv_at hl 2 rfl) ?_
  have hFc := va_free (wc := (moW h mm kA v g)) hD hS hA [0, 1, 2, 3, 4, 5, 6, 7, 8, 9, 10, 11, 12, 13, 14, 15, 16, 17, 18, 19, 20, 21, 22, 23, 24, 25] rfl
  refine va_calli (va_runV (As := [.int (g 9 p9), .int (g 7 (3 * p9)), .int (g 7 ((3 * p9) + 1)), .int (g 7 ((3 * p9) + 2)), .int tn]) (rest := []) ⟨hx, hb, hml, hown, hT⟩ (xc_Mo_isTo l D kA s.heap.size h mm v g (g 9 p9) (g 7 (3 * p9)) (g 7 ((3 * p9) + 1)) (g 7 ((3 * p9) + 2)) tn) (cwV 5 hT (wT_V xy2_3 xy2_4 xy2_5 xy2_6 xy2_2) rfl rfl rfl (by decide +kernel) ⟨Nat.le_of_ble_eq_true rfl, Nat.le_of_ble_eq_true rfl⟩) (x_preV hK hP hD 0 rfl rfl) rfl rfl hl.1 rfl (lv_room (Nat.le_of_ble_eq_true rfl)) xd_Mo_exports_36 ⟨Nat.le_of_ble_eq_true rfl, Nat.le_of_ble_eq_true rfl⟩) hS (fun q _ h => hFc q h) hFc (fun r1 u2 t H1 locs ht hvm hp3 hB hz1 hk1 hS => ?_)
  obtain ⟨hP1, hD1⟩ := hB
  rw [ht] at hP1
  have hD1 := hD1.weaken (fun _ _ _ h => hFc _ h)
  generalize H1 = H at hP1 hS ⊢
  have hP := hP1
  have hD := hD1
  have hP : va_P D xcl (moW h mm kA v g) H := hP
  have hD : va_D A (moW h mm kA v g) := hD
  rcases hp3 with rfl | rfl
  · exact W.zret (v := 0) hx hb hr rfl (fun t ht hW => ⟨⟨0, (), rfl, Or.inl rfl, by rw [ht]; exact hP, hD⟩, hS.F ht⟩) hS.2.2 xd_Mo_exports_39
  · exact W.zret (v := 1) hx hb hr rfl (fun t ht hW => ⟨⟨1, (), rfl, Or.inr rfl, by rw [ht]; exact hP, hD⟩, hS.F ht⟩) hS.2.2 xd_Mo_exports_39
set_option maxHeartbeats 4000000 in
set_option maxRecDepth 100000 in
theorem xc_Mo_isElsewhere (l : Launch) (D : va_G) (kA : Nat → ClassId) (sz h : Nat) (mm : Nat → Nat) (v : Nat → Int32) (g : Nat → Nat → Int32) (bt : Nat) (nm : Int32) (tn : Int32) (hbt : bt < 72) (hpk : ∀ d, d < 12 → ∃ k, k ≤ 6 ∧ g 5 d = nI k) : Met l xy_Mo_isElsewhere (.code xy_Mo_isElsewhere xb_Mo_isElsewhere 7 (some .boolean) :: wT) { frames := 2, cells := 0, slots := 0, locals := 47 } (va_Pc [.ref h, .int (nI bt), .int nm, .int tn] (xPre D kA sz (moW h mm kA v g))) (va_Qi (fun (r : Int32) (u : Unit) => r = 0 ∨ r = 1) (fun (u : Unit) t => va_P D xcl (moW h mm kA v g) t.heap ∧ va_D (va_A (moW h mm kA v g) sz) (moW h mm kA v g)) (va_A (moW h mm kA v g) sz)) 0 0 (va_A (moW h mm kA v g) sz) := by
  refine Met.ofW (cc := xb_Mo_isElsewhere) (maxL := 7) (ret := (some .boolean)) (by decide) rfl ?_
  intro p e s m args below meth c s₁ B hml hv
  obtain ⟨rfl, hsz, hP, hK, hD0⟩ := hv
  have hx := B.exec
  have hb := B.bytes
  have hr := B.returns
  have hT := x_hT B.pre
  have hown : s.vm.findClass xR_Mo = some m.cls := findClass_of_methodNamed B.named
  have hlocks := B.notSynchronized
  subst hsz
  have hD := hD0.self (sz := s.heap.size)
  generalize hAe : va_A (moW h mm kA v g) s.heap.size = A at hD ⊢
  have hA : ∀ q : Nat, s.heap.size ≤ q → A q := fun q h => by rw [← hAe]; exact Or.inr h
  have hS : va_S A s.heap s.heap [] := va_S.rf
  have hl := lv_entry ([.ref h, .int (nI bt), .int nm, .int tn]) (n := 7) (Nat.le_of_ble_eq_true rfl)
  rw [lg_entry_eq]
  generalize (lg_sl ([.ref h, .int (nI bt), .int nm, .int tn]) ++ List.replicate (7 - (lg_sl ([.ref h, .int (nI bt), .int nm, .int tn])).length) Slot.unset).toArray = ls at hl ⊢
  have hl : lv_has ls 7 [(0, .ref h), (1, .int (nI bt)), (2, .int nm), (3, .int tn)] := hl
  have hP : va_P D xcl (moW h mm kA v g) s.heap := hP
  refine lv_iconst (v := 0) hx hb xd_Mo_isElsewhere_0 (by decide) ?_
  refine lv_istore hx hb xd_Mo_isElsewhere_1 hl (Nat.le_of_ble_eq_true rfl) rfl (fun ls hl => ?_)
  have hl : lv_has ls 7 [(4, .int 0), (0, .ref h), (1, .int (nI bt)), (2, .int nm), (3, .int tn)] := hl
  refine lv_iconst (v := 0) hx hb xd_Mo_isElsewhere_3 (by decide) ?_
  refine lv_istore hx hb xd_Mo_isElsewhere_4 hl (Nat.le_of_ble_eq_true rfl) rfl (fun ls hl => ?_)
  have hl : lv_has ls 7 [(5, .int 0), (4, .int 0), (0, .ref h), (1, .int (nI bt)), (2, .int nm), (3, .int tn)] := hl
  refine xlab (σ := Nat × Nat) (ml := 7) 6 (fun (m5, is4) => [(5, .int (nI m5)), (4, .int (nI is4)), (0, .ref h), (1, .int (nI bt)), (2, .int nm), (3, .int tn)]) (fun (m5, is4) => []) (fun (m5, is4) => moW h mm kA v g) (fun (m5, is4) => (m5 ≤ 72) ∧ (is4 ≤ 1)) (fun (m5, is4) => 72 - m5) ?_ (0, 0) _ _ _ (lv_sub hl [0, 1, 2, 3, 4, 5] rfl) hP hD hS ⟨(show 0 ≤ 72 from by first | assumption | omega), (show 0 ≤ 1 from by first | assumption | omega)⟩
  intro n9 ih1 a9 ls H locs hμ hl hP hD hS hI
  subst hμ
  obtain ⟨m5, is4⟩ := a9
  obtain ⟨hm5, his4⟩ := hI
  have hm5 : m5 ≤ 72 := hm5
  have his4 : is4 ≤ 1 := his4
  have hl : lv_has ls 7 [(5, .int (nI m5)), (4, .int (nI is4)), (0, .ref h), (1, .int (nI bt)), (2, .int nm), (3, .int tn)] := hl
  have hP : va_P D xcl (moW h mm kA v g) H := hP
  have hD : va_D A (moW h mm kA v g) := hD
  refine lv_iload hx hb xd_Mo_isElsewhere_6 (lv_at hl 0 rfl) ?_
  refine lv_bipush (v := 72) hx hb xd_Mo_isElsewhere_8 (by decide) ?_
  refine xn_ge (a := m5) (b := 72) (tgt := 78) hx hb xd_Mo_isElsewhere_10 (by decide) (by omega) (by omega) (fun hc2 => ?_) (fun hc2 => ?_)
  · refine lv_iload hx hb xd_Mo_isElsewhere_78 (lv_at hl 1 rfl) ?_
    exact W.zret (v := (nI is4)) hx hb hr (x_bn his4) (fun t ht hW => ⟨⟨(nI is4), (), rfl, x_b01 his4, by rw [ht]; exact hP, hD⟩, hS.F ht⟩) hS.2.2 xd_Mo_isElsewhere_80
  · refine lv_iload hx hb xd_Mo_isElsewhere_13 (lv_at hl 0 rfl) ?_
    refine lv_iload_n hx hb xd_Mo_isElsewhere_15 rfl (lv_at hl 3 rfl) ?_
    refine xn_eq (a := m5) (b := bt) (tgt := 42) hx hb xd_Mo_isElsewhere_16 (by decide) (by omega) (by omega) (fun hc3 => ?_) (fun hc3 => ?_)
    · refine lv_iconst (v := (-1)) hx hb xd_Mo_isElsewhere_42 (by decide) ?_
      refine lv_istore hx hb xd_Mo_isElsewhere_43 hl (Nat.le_of_ble_eq_true rfl) rfl (fun ls hl => ?_)
      have hl : lv_has ls 7 [(6, .int (-1)), (5, .int (nI m5)), (4, .int (nI is4)), (0, .ref h), (1, .int (nI bt)), (2, .int nm), (3, .int tn)] := hl
      refine lv_iload hx hb xd_Mo_isElsewhere_45 (lv_at hl 2 rfl) ?_
      refine xz_ne (a := is4) (tgt := 65) hx hb xd_Mo_isElsewhere_47 (by decide) (by omega) (fun hc4 => ?_) (fun hc4 => ?_)
      · refine lv_iconst (v := 1) hx hb xd_Mo_isElsewhere_65 (by decide) ?_
        refine lv_goto (tgt := 70) hx hb xd_Mo_isElsewhere_66 (by decide) ?_
        refine lv_istore hx hb xd_Mo_isElsewhere_70 hl (Nat.le_of_ble_eq_true rfl) rfl (fun ls hl => ?_)
        have hl : lv_has ls 7 [(4, .int 1), (6, .int (-1)), (5, .int (nI m5)), (0, .ref h), (1, .int (nI bt)), (2, .int nm), (3, .int tn)] := hl
        refine lv_iinc (k := 2) (x := (nI m5)) (v := (nI (m5 + 1))) hx hb xd_Mo_isElsewhere_72 hl rfl (xb_inc m5 1) (Nat.le_of_ble_eq_true rfl) rfl (fun ls hl => ?_)
        have hl : lv_has ls 7 [(5, .int (nI (m5 + 1))), (4, .int 1), (6, .int (-1)), (0, .ref h), (1, .int (nI bt)), (2, .int nm), (3, .int tn)] := hl
        refine lv_goto (tgt := 6) hx hb xd_Mo_isElsewhere_75 (by decide) ?_
        exact ih1 (m5 + 1, 1) _ _ _ (show 72 - (m5 + 1) < 72 - m5 by omega) (lv_sub hl [0, 1, 3, 4, 5, 6] rfl) hP hD hS ⟨(show (m5 + 1) ≤ 72 from by first | assumption | omega), (show 1 ≤ 1 from by first | assumption | omega)⟩
      · refine lv_iload hx hb xd_Mo_isElsewhere_50 (lv_at hl 0 rfl) ?_
        refine lv_if_lt (tgt := 69) hx hb xd_Mo_isElsewhere_52 (by decide) (fun _ => ?_) (fun hc5 => absurd hc5 (by decide))
        refine lv_iconst (v := 0) hx hb xd_Mo_isElsewhere_69 (by decide) ?_
        refine lv_istore hx hb xd_Mo_isElsewhere_70 hl (Nat.le_of_ble_eq_true rfl) rfl (fun ls hl => ?_)
        have hl : lv_has ls 7 [(4, .int 0), (6, .int (-1)), (5, .int (nI m5)), (0, .ref h), (1, .int (nI bt)), (2, .int nm), (3, .int tn)] := hl
        refine lv_iinc (k := 2) (x := (nI m5)) (v := (nI (m5 + 1))) hx hb xd_Mo_isElsewhere_72 hl rfl (xb_inc m5 1) (Nat.le_of_ble_eq_true rfl) rfl (fun ls hl => ?_)
        have hl : lv_has ls 7 [(5, .int (nI (m5 + 1))), (4, .int 0), (6, .int (-1)), (0, .ref h), (1, .int (nI bt)), (2, .int nm), (3, .int tn)] := hl
        refine lv_goto (tgt := 6) hx hb xd_Mo_isElsewhere_75 (by decide) ?_
        exact ih1 (m5 + 1, 0) _ _ _ (show 72 - (m5 + 1) < 72 - m5 by omega) (lv_sub hl [0, 1, 3, 4, 5, 6] rfl) hP hD hS ⟨(show (m5 + 1) ≤ 72 from by first | assumption | omega), (show 0 ≤ 1 from by first | assumption | omega)⟩
    · refine lv_aload_n hx hb xd_Mo_isElsewhere_19 rfl (lv_at hl 2 rfl) ?_
      refine va_get (D := D) (ci := 4) (v := .ref (mm 24)) (C := xR_Mo) (T := xT_Mo) (N := 31) hx hb hT xi_Mo hown hK.1 hP 0 rfl rfl 30 (by decide) (hT _ xy2_7) (fun _ h9 => h9) rfl xd_Mo_isElsewhere_20 ?_
      refine lv_iload hx hb xd_Mo_isElsewhere_23 (lv_at hl 0 rfl) ?_
      refine xn_zald (i := m5) hx hb hK.1 hP 25 2 rfl rfl (by omega) (by decide) xd_Mo_isElsewhere_25 ?_
      refine lv_if_eq (tgt := 42) hx hb xd_Mo_isElsewhere_26 (by decide) (fun hc6 => ?_) (fun hc6 => ?_)
      · refine lv_iconst (v := (-1)) hx hb xd_Mo_isElsewhere_42 (by decide) ?_
        refine lv_istore hx hb xd_Mo_isElsewhere_43 hl (Nat.le_of_ble_eq_true rfl) rfl (fun ls hl => ?_)
        have hl : lv_has ls 7 [(6, .int (-1)), (5, .int (nI m5)), (4, .int (nI is4)), (0, .ref h), (1, .int (nI bt)), (2, .int nm), (3, .int tn)] := hl
        refine lv_iload hx hb xd_Mo_isElsewhere_45 (lv_at hl 2 rfl) ?_
        refine xz_ne (a := is4) (tgt := 65) hx hb xd_Mo_isElsewhere_47 (by decide) (by omega) (fun hc7 => ?_) (fun hc7 => ?_)
        · refine lv_iconst (v := 1) hx hb xd_Mo_isElsewhere_65 (by decide) ?_
          refine lv_goto (tgt := 70) hx hb xd_Mo_isElsewhere_66 (by decide) ?_
          refine lv_istore hx hb xd_Mo_isElsewhere_70 hl (Nat.le_of_ble_eq_true rfl) rfl (fun ls hl => ?_)
          have hl : lv_has ls 7 [(4, .int 1), (6, .int (-1)), (5, .int (nI m5)), (0, .ref h), (1, .int (nI bt)), (2, .int nm), (3, .int tn)] := hl
          refine lv_iinc (k := 2) (x := (nI m5)) (v := (nI (m5 + 1))) hx hb xd_Mo_isElsewhere_72 hl rfl (xb_inc m5 1) (Nat.le_of_ble_eq_true rfl) rfl (fun ls hl => ?_)
          have hl : lv_has ls 7 [(5, .int (nI (m5 + 1))), (4, .int 1), (6, .int (-1)), (0, .ref h), (1, .int (nI bt)), (2, .int nm), (3, .int tn)] := hl
          refine lv_goto (tgt := 6) hx hb xd_Mo_isElsewhere_75 (by decide) ?_
          exact ih1 (m5 + 1, 1) _ _ _ (show 72 - (m5 + 1) < 72 - m5 by omega) (lv_sub hl [0, 1, 3, 4, 5, 6] rfl) hP hD hS ⟨(show (m5 + 1) ≤ 72 from by first | assumption | omega), (show 1 ≤ 1 from by first | assumption | omega)⟩
        · refine lv_iload hx hb xd_Mo_isElsewhere_50 (lv_at hl 0 rfl) ?_
          refine lv_if_lt (tgt := 69) hx hb xd_Mo_isElsewhere_52 (by decide) (fun _ => ?_) (fun hc8 => absurd hc8 (by decide))
          refine lv_iconst (v := 0) hx hb xd_Mo_isElsewhere_69 (by decide) ?_
          refine lv_istore hx hb xd_Mo_isElsewhere_70 hl (Nat.le_of_ble_eq_true rfl) rfl (fun ls hl => ?_)
          have hl : lv_has ls 7 [(4, .int 0), (6, .int (-1)), (5, .int (nI m5)), (0, .ref h), (1, .int (nI bt)), (2, .int nm), (3, .int tn)] := hl
          refine lv_iinc (k := 2) (x := (nI m5)) (v := (nI (m5 + 1))) hx hb xd_Mo_isElsewhere_72 hl rfl (xb_inc m5 1) (Nat.le_of_ble_eq_true rfl) rfl (fun ls hl => ?_)
          have hl : lv_has ls 7 [(5, .int (nI (m5 + 1))), (4, .int 0), (6, .int (-1)), (0, .ref h), (1, .int (nI bt)), (2, .int nm), (3, .int tn)] := hl
          refine lv_goto (tgt := 6) hx hb xd_Mo_isElsewhere_75 (by decide) ?_
          exact ih1 (m5 + 1, 0) _ _ _ (show 72 - (m5 + 1) < 72 - m5 by omega) (lv_sub hl [0, 1, 3, 4, 5, 6] rfl) hP hD hS ⟨(show (m5 + 1) ≤ 72 from by first | assumption | omega), (show 0 ≤ 1 from by first | assumption | omega)⟩
      · obtain ⟨pkc, hpkc, epkc⟩ := hpk (m5 % 12) (by omega)
        refine lv_aload_n hx hb xd_Mo_isElsewhere_29 rfl (lv_at hl 2 rfl) ?_
        refine lv_iload hx hb xd_Mo_isElsewhere_30 (lv_at hl 0 rfl) ?_
        refine lv_bipush (v := 12) hx hb xd_Mo_isElsewhere_32 (by decide) ?_
        refine lv_irem hx hb xd_Mo_isElsewhere_34 (by decide) ?_
        refine xn_top (y := nI (m5 % 12)) (pk_rem (a := m5) (d := 12) (by omega) (by decide) (by decide)) ?_
        refine lv_iload_n hx hb xd_Mo_isElsewhere_35 rfl (lv_at hl 4 rfl) ?_
        have hFc := va_free (wc := (moW h mm kA v g)) hD hS hA [0, 1, 2, 3, 4, 5, 6, 7, 8, 9, 10, 11, 12, 13, 14, 15, 16, 17, 18, 19, 20, 21, 22, 23, 24, 25] rfl
        refine va_calli (va_runV (As := [.int (nI (m5 % 12)), .int nm]) (rest := []) ⟨hx, hb, hml, hown, hT⟩ (xc_Mo_packageOf l D kA H.size h mm v g (m5 % 12) nm pkc (by first | assumption | omega) (by first | assumption | omega) (by first | assumption | omega)) (cwV 2 hT (wT_V xy2_9 xy2_10 xy2_11 xy2_6 xy2_8) rfl rfl rfl (by decide +kernel) ⟨Nat.le_of_ble_eq_true rfl, Nat.le_of_ble_eq_true rfl⟩) (x_preV hK hP hD 0 rfl rfl) rfl rfl hl.1 rfl (lv_room (Nat.le_of_ble_eq_true rfl)) xd_Mo_isElsewhere_36 ⟨Nat.le_of_ble_eq_true rfl, Nat.le_of_ble_eq_true rfl⟩) hS (fun q _ h => hFc q h) hFc (fun r9 u10 t H1 locs ht hvm hp11 hB hz1 hk1 hS => ?_)
        obtain ⟨hP1, hD1⟩ := hB
        rw [ht] at hP1
        have hD1 := hD1.weaken (fun _ _ _ h => hFc _ h)
        generalize H1 = H at hP1 hS ⊢
        have hP := hP1
        have hD := hD1
        have hP : va_P D xcl (moW h mm kA v g) H := hP
        have hD : va_D A (moW h mm kA v g) := hD
        rcases hp11 with ⟨z12, z13, z14, rfl, z15⟩ | ⟨rfl, z16⟩
        · refine lv_goto (tgt := 43) hx hb xd_Mo_isElsewhere_39 (by decide) ?_
          refine lv_istore hx hb xd_Mo_isElsewhere_43 hl (Nat.le_of_ble_eq_true rfl) rfl (fun ls hl => ?_)
          have hl : lv_has ls 7 [(6, .int (nI z12)), (5, .int (nI m5)), (4, .int (nI is4)), (0, .ref h), (1, .int (nI bt)), (2, .int nm), (3, .int tn)] := hl
          refine lv_iload hx hb xd_Mo_isElsewhere_45 (lv_at hl 2 rfl) ?_
          refine xz_ne (a := is4) (tgt := 65) hx hb xd_Mo_isElsewhere_47 (by decide) (by omega) (fun hc17 => ?_) (fun hc17 => ?_)
          · refine lv_iconst (v := 1) hx hb xd_Mo_isElsewhere_65 (by decide) ?_
            refine lv_goto (tgt := 70) hx hb xd_Mo_isElsewhere_66 (by decide) ?_
            refine lv_istore hx hb xd_Mo_isElsewhere_70 hl (Nat.le_of_ble_eq_true rfl) rfl (fun ls hl => ?_)
            have hl : lv_has ls 7 [(4, .int 1), (6, .int (nI z12)), (5, .int (nI m5)), (0, .ref h), (1, .int (nI bt)), (2, .int nm), (3, .int tn)] := hl
            refine lv_iinc (k := 2) (x := (nI m5)) (v := (nI (m5 + 1))) hx hb xd_Mo_isElsewhere_72 hl rfl (xb_inc m5 1) (Nat.le_of_ble_eq_true rfl) rfl (fun ls hl => ?_)
            have hl : lv_has ls 7 [(5, .int (nI (m5 + 1))), (4, .int 1), (6, .int (nI z12)), (0, .ref h), (1, .int (nI bt)), (2, .int nm), (3, .int tn)] := hl
            refine lv_goto (tgt := 6) hx hb xd_Mo_isElsewhere_75 (by decide) ?_
            exact ih1 (m5 + 1, 1) _ _ _ (show 72 - (m5 + 1) < 72 - m5 by omega) (lv_sub hl [0, 1, 3, 4, 5, 6] rfl) hP hD hS ⟨(show (m5 + 1) ≤ 72 from by first | assumption | omega), (show 1 ≤ 1 from by first | assumption | omega)⟩
          · refine lv_iload hx hb xd_Mo_isElsewhere_50 (lv_at hl 0 rfl) ?_
            refine xz_lt (a := z12) (tgt := 69) hx hb xd_Mo_isElsewhere_52 (by decide) (by omega) ?_
            refine lv_aload_n hx hb xd_Mo_isElsewhere_55 rfl (lv_at hl 3 rfl) ?_
            refine lv_iload hx hb xd_Mo_isElsewhere_56 (lv_at hl 0 rfl) ?_
            refine lv_iload_n hx hb xd_Mo_isElsewhere_58 rfl (lv_at hl 6 rfl) ?_
            have hFc := va_free (wc := (moW h mm kA v g)) hD hS hA [0, 1, 2, 3, 4, 5, 6, 7, 8, 9, 10, 11, 12, 13, 14, 15, 16, 17, 18, 19, 20, 21, 22, 23, 24, 25] rfl
            refine va_calli (va_runV (As := [.int (nI z12), .int tn]) (rest := []) ⟨hx, hb, hml, hown, hT⟩ (xc_Mo_exports l D kA H.size h mm v g z12 tn (by first | assumption | omega)) (cwV 2 hT (wT_V xy2_13 xy2_14 xy2_15 xy2_6 xy2_12) rfl rfl rfl (by decide +kernel) ⟨Nat.le_of_ble_eq_true rfl, Nat.le_of_ble_eq_true rfl⟩) (x_preV hK hP hD 0 rfl rfl) rfl rfl hl.1 rfl (lv_room (Nat.le_of_ble_eq_true rfl)) xd_Mo_isElsewhere_59 ⟨Nat.le_of_ble_eq_true rfl, Nat.le_of_ble_eq_true rfl⟩) hS (fun q _ h => hFc q h) hFc (fun r19 u20 t H1 locs ht hvm hp21 hB hz1 hk1 hS => ?_)
            obtain ⟨hP1, hD1⟩ := hB
            rw [ht] at hP1
            have hD1 := hD1.weaken (fun _ _ _ h => hFc _ h)
            generalize H1 = H at hP1 hS ⊢
            have hP := hP1
            have hD := hD1
            have hP : va_P D xcl (moW h mm kA v g) H := hP
            have hD : va_D A (moW h mm kA v g) := hD
            rcases hp21 with rfl | rfl
            · refine xz_eq (a := 0) (tgt := 69) hx hb xd_Mo_isElsewhere_62 (by decide) (by omega) (fun _ => ?_) (fun hc22 => absurd hc22 (by omega))
              refine lv_iconst (v := 0) hx hb xd_Mo_isElsewhere_69 (by decide) ?_
              refine lv_istore hx hb xd_Mo_isElsewhere_70 hl (Nat.le_of_ble_eq_true rfl) rfl (fun ls hl => ?_)
              have hl : lv_has ls 7 [(4, .int 0), (6, .int (nI z12)), (5, .int (nI m5)), (0, .ref h), (1, .int (nI bt)), (2, .int nm), (3, .int tn)] := hl
              refine lv_iinc (k := 2) (x := (nI m5)) (v := (nI (m5 + 1))) hx hb xd_Mo_isElsewhere_72 hl rfl (xb_inc m5 1) (Nat.le_of_ble_eq_true rfl) rfl (fun ls hl => ?_)
              have hl : lv_has ls 7 [(5, .int (nI (m5 + 1))), (4, .int 0), (6, .int (nI z12)), (0, .ref h), (1, .int (nI bt)), (2, .int nm), (3, .int tn)] := hl
              refine lv_goto (tgt := 6) hx hb xd_Mo_isElsewhere_75 (by decide) ?_
              exact ih1 (m5 + 1, 0) _ _ _ (show 72 - (m5 + 1) < 72 - m5 by omega) (lv_sub hl [0, 1, 3, 4, 5, 6] rfl) hP hD hS ⟨(show (m5 + 1) ≤ 72 from by first | assumption | omega), (show 0 ≤ 1 from by first | assumption | omega)⟩
            · refine xz_eq (a := 1) (tgt := 69) hx hb xd_Mo_isElsewhere_62 (by decide) (by omega) (fun hc23 => absurd hc23 (by omega)) (fun _ => ?_)
              refine lv_iconst (v := 1) hx hb xd_Mo_isElsewhere_65 (by decide) ?_
              refine lv_goto (tgt := 70) hx hb xd_Mo_isElsewhere_66 (by decide) ?_
              refine lv_istore hx hb xd_Mo_isElsewhere_70 hl (Nat.le_of_ble_eq_true rfl) rfl (fun ls hl => ?_)
              have hl : lv_has ls 7 [(4, .int 1), (6, .int (nI z12)), (5, .int (nI m5)), (0, .ref h), (1, .int (nI bt)), (2, .int nm), (3, .int tn)] := hl
              refine lv_iinc (k := 2) (x := (nI m5)) (v := (nI (m5 + 1))) hx hb xd_Mo_isElsewhere_72 hl rfl (xb_inc m5 1) (Nat.le_of_ble_eq_true rfl) rfl (fun ls hl => ?_)
              have hl : lv_has ls 7 [(5, .int (nI (m5 + 1))), (4, .int 1), (6, .int (nI z12)), (0, .ref h), (1, .int (nI bt)), (2, .int nm), (3, .int tn)] := hl
              refine lv_goto (tgt := 6) hx hb xd_Mo_isElsewhere_75 (by decide) ?_
              exact ih1 (m5 + 1, 1) _ _ _ (show 72 - (m5 + 1) < 72 - m5 by omega) (lv_sub hl [0, 1, 3, 4, 5, 6] rfl) hP hD hS ⟨(show (m5 + 1) ≤ 72 from by first | assumption | omega), (show 1 ≤ 1 from by first | assumption | omega)⟩
        · refine lv_goto (tgt := 43) hx hb xd_Mo_isElsewhere_39 (by decide) ?_
          refine lv_istore hx hb xd_Mo_isElsewhere_43 hl (Nat.le_of_ble_eq_true rfl) rfl (fun ls hl => ?_)
          have hl : lv_has ls 7 [(6, .int (-1)), (5, .int (nI m5)), (4, .int (nI is4)), (0, .ref h), (1, .int (nI bt)), (2, .int nm), (3, .int tn)] := hl
          refine lv_iload hx hb xd_Mo_isElsewhere_45 (lv_at hl 2 rfl) ?_
          refine xz_ne (a := is4) (tgt := 65) hx hb xd_Mo_isElsewhere_47 (by decide) (by omega) (fun hc24 => ?_) (fun hc24 => ?_)
          · refine lv_iconst (v := 1) hx hb xd_Mo_isElsewhere_65 (by decide) ?_
            refine lv_goto (tgt := 70) hx hb xd_Mo_isElsewhere_66 (by decide) ?_
            refine lv_istore hx hb xd_Mo_isElsewhere_70 hl (Nat.le_of_ble_eq_true rfl) rfl (fun ls hl => ?_)
            have hl : lv_has ls 7 [(4, .int 1), (6, .int (-1)), (5, .int (nI m5)), (0, .ref h), (1, .int (nI bt)), (2, .int nm), (3, .int tn)] := hl
            refine lv_iinc (k := 2) (x := (nI m5)) (v := (nI (m5 + 1))) hx hb xd_Mo_isElsewhere_72 hl rfl (xb_inc m5 1) (Nat.le_of_ble_eq_true rfl) rfl (fun ls hl => ?_)
            have hl : lv_has ls 7 [(5, .int (nI (m5 + 1))), (4, .int 1), (6, .int (-1)), (0, .ref h), (1, .int (nI bt)), (2, .int nm), (3, .int tn)] := hl
            refine lv_goto (tgt := 6) hx hb xd_Mo_isElsewhere_75 (by decide) ?_
            exact ih1 (m5 + 1, 1) _ _ _ (show 72 - (m5 + 1) < 72 - m5 by omega) (lv_sub hl [0, 1, 3, 4, 5, 6] rfl) hP hD hS ⟨(show (m5 + 1) ≤ 72 from by first | assumption | omega), (show 1 ≤ 1 from by first | assumption | omega)⟩
          · refine lv_iload hx hb xd_Mo_isElsewhere_50 (lv_at hl 0 rfl) ?_
            refine lv_if_lt (tgt := 69) hx hb xd_Mo_isElsewhere_52 (by decide) (fun _ => ?_) (fun hc25 => absurd hc25 (by decide))
            refine lv_iconst (v := 0) hx hb xd_Mo_isElsewhere_69 (by decide) ?_
            refine lv_istore hx hb xd_Mo_isElsewhere_70 hl (Nat.le_of_ble_eq_true rfl) rfl (fun ls hl => ?_)
            have hl : lv_has ls 7 [(4, .int 0), (6, .int (-1)), (5, .int (nI m5)), (0, .ref h), (1, .int (nI bt)), (2, .int nm), (3, .int tn)] := hl
            refine lv_iinc (k := 2) (x := (nI m5)) (v := (nI (m5 + 1))) hx hb xd_Mo_isElsewhere_72 hl rfl (xb_inc m5 1) (Nat.le_of_ble_eq_true rfl) rfl (fun ls hl => ?_)
            have hl : lv_has ls 7 [(5, .int (nI (m5 + 1))), (4, .int 0), (6, .int (-1)), (0, .ref h), (1, .int (nI bt)), (2, .int nm), (3, .int tn)] := hl
            refine lv_goto (tgt := 6) hx hb xd_Mo_isElsewhere_75 (by decide) ?_
            exact ih1 (m5 + 1, 0) _ _ _ (show 72 - (m5 + 1) < 72 - m5 by omega) (lv_sub hl [0, 1, 3, 4, 5, 6] rfl) hP hD hS ⟨(show (m5 + 1) ≤ 72 from by first | assumption | omega), (show 0 ≤ 1 from by first | assumption | omega)⟩
set_option maxHeartbeats 4000000 in
set_option maxRecDepth 100000 in
theorem xc_Mo_isSplit (l : Launch) (D : va_G) (kA : Nat → ClassId) (sz h : Nat) (mm : Nat → Nat) (v : Nat → Int32) (g : Nat → Nat → Int32) (ly : Nat) (d : Nat) (np : Nat) (hMI : MI v g) (hnp : np ≤ 6) (hpar : ∀ la, la < np → ∃ lq, lq ≤ la ∧ g 19 la = nI lq - 1) (hly : ly < np) (hd : d < 12) : Met l xy_Mo_isSplit (.code xy_Mo_isSplit xb_Mo_isSplit 5 (some .boolean) :: wT) { frames := 3, cells := 0, slots := 0, locals := 73 } (va_Pc [.ref h, .int (nI ly), .int (nI d)] (xPre D kA sz (moW h mm kA v g))) (va_Qi (fun (r : Int32) (u : (Nat → Int32) × (Nat → Nat → Int32)) => u.1 = v ∧ (∀ j, j ≠ 24 → u.2 j = g j) ∧ (r = 0 ∨ r = 1)) (fun (u : (Nat → Int32) × (Nat → Nat → Int32)) t => va_P D xcl (moW h mm kA u.1 u.2) t.heap ∧ va_D (va_A (moW h mm kA v g) sz) (moW h mm kA u.1 u.2)) (va_A (moW h mm kA v g) sz)) 0 0 (va_A (moW h mm kA v g) sz) := by
  refine Met.ofW (cc := xb_Mo_isSplit) (maxL := 5) (ret := (some .boolean)) (by decide) rfl ?_
  intro p e s m args below meth c s₁ B hml hv
  obtain ⟨rfl, hsz, hP, hK, hD0⟩ := hv
  have hx := B.exec
  have hb := B.bytes
  have hr := B.returns
  have hT := x_hT B.pre
  have hown : s.vm.findClass xR_Mo = some m.cls := findClass_of_methodNamed B.named
  have hlocks := B.notSynchronized
  subst hsz
  have hD := hD0.self (sz := s.heap.size)
  generalize hAe : va_A (moW h mm kA v g) s.heap.size = A at hD ⊢
  have hA : ∀ q : Nat, s.heap.size ≤ q → A q := fun q h => by rw [← hAe]; exact Or.inr h
  have hS : va_S A s.heap s.heap [] := va_S.rf
  have hl := lv_entry ([.ref h, .int (nI ly), .int (nI d)]) (n := 5) (Nat.le_of_ble_eq_true rfl)
  rw [lg_entry_eq]
  generalize (lg_sl ([.ref h, .int (nI ly), .int (nI d)]) ++ List.replicate (5 - (lg_sl ([.ref h, .int (nI ly), .int (nI d)])).length) Slot.unset).toArray = ls at hl ⊢
  have hl : lv_has ls 5 [(0, .ref h), (1, .int (nI ly)), (2, .int (nI d))] := hl
  have hP : va_P D xcl (moW h mm kA v g) s.heap := hP
  obtain ⟨-, -, -, hpk, hrq, hmd, -⟩ := id hMI
  refine lv_aload_n hx hb xd_Mo_isSplit_0 rfl (lv_at hl 0 rfl) ?_
  refine lv_iload_n hx hb xd_Mo_isSplit_1 rfl (lv_at hl 1 rfl) ?_
  refine lv_iload_n hx hb xd_Mo_isSplit_2 rfl (lv_at hl 2 rfl) ?_
  have hFc := va_free (wc := (moW h mm kA v g)) hD hS hA [0, 1, 2, 3, 4, 5, 6, 7, 8, 9, 10, 11, 12, 13, 14, 15, 16, 17, 18, 19, 20, 21, 22, 23, 24, 25] rfl
  refine va_callv (va_runV (As := [.int (nI ly), .int (nI d)]) (rest := []) ⟨hx, hb, hml, hown, hT⟩ (xc_Mo_reading l D kA s.heap.size h mm v g ly d np (by first | assumption | omega) (by first | assumption | omega) (by first | assumption | omega) (by first | assumption | omega) (by first | assumption | omega)) (cwV 2 hT (wT_V xy2_17 xy2_18 xy2_19 xy2_6 xy2_16) rfl rfl rfl (by decide +kernel) ⟨Nat.le_of_ble_eq_true rfl, Nat.le_of_ble_eq_true rfl⟩) (x_preV hK hP hD 0 rfl rfl) rfl rfl hl.1 rfl (lv_room (Nat.le_of_ble_eq_true rfl)) xd_Mo_isSplit_3 ⟨Nat.le_of_ble_eq_true rfl, Nat.le_of_ble_eq_true rfl⟩) hS (fun q _ h => hFc q h) hFc (fun u2 t H1 locs ht hvm hp3 hB hz1 hk1 hS => ?_)
  obtain ⟨hP1, hD1⟩ := hB
  rw [ht] at hP1
  have hD1 := hD1.weaken (fun _ _ _ h => hFc _ h)
  obtain ⟨v4, g5⟩ := u2
  generalize H1 = H at hP1 hS ⊢
  have hP := hP1
  have hD := hD1
  have hP : va_P D xcl (moW h mm kA v4 g5) H := hP
  have hD : va_D A (moW h mm kA v4 g5) := hD
  obtain ⟨hu9, hfr9, hbz9, hsn9⟩ := hp3
  have hu9 : v = v4 := hu9.symm
  subst hu9
  have hfr9 : ∀ j, j ≠ 24 → g5 j = g j := hfr9
  have hpk : ∀ d, d < 12 → ∃ k, k ≤ 6 ∧ g5 5 d = nI k := by rw [hfr9 5 (by decide)]; exact hpk
  have hP : va_P D xcl (moW h mm kA v g5) H := hP
  have hD : va_D A (moW h mm kA v g5) := hD
  refine lv_iconst (v := 0) hx hb xd_Mo_isSplit_6 (by decide) ?_
  refine lv_istore_n hx hb xd_Mo_isSplit_7 rfl hl (Nat.le_of_ble_eq_true rfl) rfl (fun ls hl => ?_)
  have hl : lv_has ls 5 [(3, .int 0), (0, .ref h), (1, .int (nI ly)), (2, .int (nI d))] := hl
  refine xlab (σ := Nat) (ml := 5) 8 (fun (m3 : Nat) => [(3, .int (nI m3)), (0, .ref h), (1, .int (nI ly)), (2, .int (nI d))]) (fun (m3 : Nat) => []) (fun (m3 : Nat) => moW h mm kA v g5) (fun (m3 : Nat) => (m3 ≤ 72)) (fun (m3 : Nat) => 72 - m3) ?_ 0 _ _ _ (lv_sub hl [0, 1, 2, 3] rfl) hP hD hS (show 0 ≤ 72 from by first | assumption | omega)
  intro n9 ih6 a9 ls H locs hμ hl hP hD hS hI
  subst hμ
  obtain ⟨m3, rfl⟩ : ∃ z, z = a9 := ⟨_, rfl⟩
  have hm3 : m3 ≤ 72 := hI
  have hl : lv_has ls 5 [(3, .int (nI m3)), (0, .ref h), (1, .int (nI ly)), (2, .int (nI d))] := hl
  have hP : va_P D xcl (moW h mm kA v g5) H := hP
  have hD : va_D A (moW h mm kA v g5) := hD
  refine lv_iload_n hx hb xd_Mo_isSplit_8 rfl (lv_at hl 0 rfl) ?_
  refine lv_bipush (v := 72) hx hb xd_Mo_isSplit_9 (by decide) ?_
  refine xn_ge (a := m3) (b := 72) (tgt := 119) hx hb xd_Mo_isSplit_11 (by decide) (by omega) (by omega) (fun hc7 => ?_) (fun hc7 => ?_)
  · refine lv_iconst (v := 0) hx hb xd_Mo_isSplit_119 (by decide) ?_
    exact W.zret (v := 0) hx hb hr rfl (fun t ht hW => ⟨⟨0, (v, g5), rfl, ⟨rfl, hfr9, Or.inl rfl⟩, by rw [ht]; exact hP, hD⟩, hS.F ht⟩) hS.2.2 xd_Mo_isSplit_120
  · obtain ⟨pkc, hpkc, epkc⟩ := hpk (m3 % 12) (by omega)
    refine lv_bipush (v := 6) hx hb xd_Mo_isSplit_14 (by decide) ?_
    refine lv_iload_n hx hb xd_Mo_isSplit_16 rfl (lv_at hl 0 rfl) ?_
    refine lv_bipush (v := 12) hx hb xd_Mo_isSplit_17 (by decide) ?_
    refine lv_irem hx hb xd_Mo_isSplit_19 (by decide) ?_
    refine xn_top (y := nI (m3 % 12)) (pk_rem (a := m3) (d := 12) (by omega) (by decide) (by decide)) ?_
    refine lv_imul hx hb xd_Mo_isSplit_20 ?_
    refine xn_top (y := nI (6 * (m3 % 12))) (pk_mul 6 (m3 % 12)) ?_
    refine lv_istore hx hb xd_Mo_isSplit_21 hl (Nat.le_of_ble_eq_true rfl) rfl (fun ls hl => ?_)
    have hl : lv_has ls 5 [(4, .int (nI (6 * (m3 % 12)))), (3, .int (nI m3)), (0, .ref h), (1, .int (nI ly)), (2, .int (nI d))] := hl
    refine xlab (σ := Nat) (ml := 5) 23 (fun (p4 : Nat) => [(4, .int (nI p4)), (3, .int (nI m3)), (0, .ref h), (1, .int (nI ly)), (2, .int (nI d))]) (fun (p4 : Nat) => []) (fun (p4 : Nat) => moW h mm kA v g5) (fun (p4 : Nat) => (6 * (m3 % 12) ≤ p4) ∧ (p4 ≤ 6 * (m3 % 12) + pkc)) (fun (p4 : Nat) => 6 * (m3 % 12) + pkc - p4) ?_ (6 * (m3 % 12)) _ _ _ (lv_sub hl [0, 1, 2, 3, 4] rfl) hP hD hS ⟨(show 6 * (m3 % 12) ≤ (6 * (m3 % 12)) from by first | assumption | omega), (show (6 * (m3 % 12)) ≤ 6 * (m3 % 12) + pkc from by first | assumption | omega)⟩
    intro n9 ih8 a9 ls H locs hμ hl hP hD hS hI
    subst hμ
    obtain ⟨p4, rfl⟩ : ∃ z, z = a9 := ⟨_, rfl⟩
    obtain ⟨hp41, hp42⟩ := hI
    have hp41 : 6 * (m3 % 12) ≤ p4 := hp41
    have hp42 : p4 ≤ 6 * (m3 % 12) + pkc := hp42
    have hl : lv_has ls 5 [(4, .int (nI p4)), (3, .int (nI m3)), (0, .ref h), (1, .int (nI ly)), (2, .int (nI d))] := hl
    have hP : va_P D xcl (moW h mm kA v g5) H := hP
    have hD : va_D A (moW h mm kA v g5) := hD
    refine lv_aload_n hx hb xd_Mo_isSplit_23 rfl (lv_at hl 2 rfl) ?_
    refine va_get (D := D) (ci := 4) (v := .ref (mm 24)) (C := xR_Mo) (T := xT_Mo) (N := 31) hx hb hT xi_Mo hown hK.1 hP 0 rfl rfl 30 (by decide) (hT _ xy2_7) (fun _ h9 => h9) rfl xd_Mo_isSplit_24 ?_
    refine lv_iload_n hx hb xd_Mo_isSplit_27 rfl (lv_at hl 1 rfl) ?_
    refine xn_zald (i := m3) hx hb hK.1 hP 25 2 rfl rfl (by omega) (by decide) xd_Mo_isSplit_28 ?_
    refine lv_if_eq (tgt := 113) hx hb xd_Mo_isSplit_29 (by decide) (fun hc9 => ?_) (fun hc9 => ?_)
    · refine lv_iinc (k := 1) (x := (nI m3)) (v := (nI (m3 + 1))) hx hb xd_Mo_isSplit_113 hl rfl (xb_inc m3 1) (Nat.le_of_ble_eq_true rfl) rfl (fun ls hl => ?_)
      have hl : lv_has ls 5 [(3, .int (nI (m3 + 1))), (4, .int (nI p4)), (0, .ref h), (1, .int (nI ly)), (2, .int (nI d))] := hl
      refine lv_goto (tgt := 8) hx hb xd_Mo_isSplit_116 (by decide) ?_
      exact ih6 (m3 + 1) _ _ _ (show 72 - (m3 + 1) < 72 - m3 by omega) (lv_sub hl [0, 2, 3, 4] rfl) hP hD hS (show (m3 + 1) ≤ 72 from by first | assumption | omega)
    · refine lv_iload hx hb xd_Mo_isSplit_32 (lv_at hl 0 rfl) ?_
      refine lv_bipush (v := 6) hx hb xd_Mo_isSplit_34 (by decide) ?_
      refine lv_iload_n hx hb xd_Mo_isSplit_36 rfl (lv_at hl 1 rfl) ?_
      refine lv_bipush (v := 12) hx hb xd_Mo_isSplit_37 (by decide) ?_
      refine lv_irem hx hb xd_Mo_isSplit_39 (by decide) ?_
      refine xn_top (y := nI (m3 % 12)) (pk_rem (a := m3) (d := 12) (by omega) (by decide) (by decide)) ?_
      refine lv_imul hx hb xd_Mo_isSplit_40 ?_
      refine xn_top (y := nI (6 * (m3 % 12))) (pk_mul 6 (m3 % 12)) ?_
      refine lv_aload_n hx hb xd_Mo_isSplit_41 rfl (lv_at hl 2 rfl) ?_
      refine va_get (D := D) (ci := 4) (v := .ref (mm 5)) (C := xR_Mo) (T := xT_Mo) (N := 31) hx hb hT xi_Mo hown hK.1 hP 0 rfl rfl 10 (by decide) (hT _ xy2_20) (fun _ h9 => h9) rfl xd_Mo_isSplit_42 ?_
      refine lv_iload_n hx hb xd_Mo_isSplit_45 rfl (lv_at hl 1 rfl) ?_
      refine lv_bipush (v := 12) hx hb xd_Mo_isSplit_46 (by decide) ?_
      refine lv_irem hx hb xd_Mo_isSplit_48 (by decide) ?_
      refine xn_top (y := nI (m3 % 12)) (pk_rem (a := m3) (d := 12) (by omega) (by decide) (by decide)) ?_
      refine xn_iald (i := m3 % 12) hx hb hK.1 hP 6 0 rfl rfl (by omega) (by decide) xd_Mo_isSplit_49 ?_
      refine xn_top (x := (g5 5 (m3 % 12))) (y := nI pkc) epkc ?_
      refine lv_iadd hx hb xd_Mo_isSplit_50 ?_
      refine xn_top (y := nI ((6 * (m3 % 12)) + pkc)) (nI_add (6 * (m3 % 12)) pkc) ?_
      refine xn_ge (a := p4) (b := (6 * (m3 % 12)) + pkc) (tgt := 113) hx hb xd_Mo_isSplit_51 (by decide) (by omega) (by omega) (fun hc10 => ?_) (fun hc10 => ?_)
      · refine lv_iinc (k := 1) (x := (nI m3)) (v := (nI (m3 + 1))) hx hb xd_Mo_isSplit_113 hl rfl (xb_inc m3 1) (Nat.le_of_ble_eq_true rfl) rfl (fun ls hl => ?_)
        have hl : lv_has ls 5 [(3, .int (nI (m3 + 1))), (4, .int (nI p4)), (0, .ref h), (1, .int (nI ly)), (2, .int (nI d))] := hl
        refine lv_goto (tgt := 8) hx hb xd_Mo_isSplit_116 (by decide) ?_
        exact ih6 (m3 + 1) _ _ _ (show 72 - (m3 + 1) < 72 - m3 by omega) (lv_sub hl [0, 2, 3, 4] rfl) hP hD hS (show (m3 + 1) ≤ 72 from by first | assumption | omega)
      · refine lv_aload_n hx hb xd_Mo_isSplit_54 rfl (lv_at hl 2 rfl) ?_
        refine lv_iload hx hb xd_Mo_isSplit_55 (lv_at hl 0 rfl) ?_
        refine lv_aload_n hx hb xd_Mo_isSplit_57 rfl (lv_at hl 2 rfl) ?_
        refine va_get (D := D) (ci := 4) (v := .ref (mm 4)) (C := xR_Mo) (T := xT_Mo) (N := 31) hx hb hT xi_Mo hown hK.1 hP 0 rfl rfl 9 (by decide) (hT _ xy2_21) (fun _ h9 => h9) rfl xd_Mo_isSplit_58 ?_
        refine lv_iload_n hx hb xd_Mo_isSplit_61 rfl (lv_at hl 4 rfl) ?_
        refine xn_iald (i := d) hx hb hK.1 hP 5 0 rfl rfl (by omega) (by decide) xd_Mo_isSplit_62 ?_
        have hFc := va_free (wc := (moW h mm kA v g5)) hD hS hA [0, 1, 2, 3, 4, 5, 6, 7, 8, 9, 10, 11, 12, 13, 14, 15, 16, 17, 18, 19, 20, 21, 22, 23, 24, 25] rfl
        refine va_calli (va_runV (As := [.int (nI p4), .int (g5 4 d)]) (rest := []) ⟨hx, hb, hml, hown, hT⟩ (xc_Mo_exports l D kA H.size h mm v g5 p4 (g5 4 d) (by first | assumption | omega)) (cwV 2 hT (wT_V xy2_13 xy2_14 xy2_15 xy2_6 xy2_12) rfl rfl rfl (by decide +kernel) ⟨Nat.le_of_ble_eq_true rfl, Nat.le_of_ble_eq_true rfl⟩) (x_preV hK hP hD 0 rfl rfl) rfl rfl hl.1 rfl (lv_room (Nat.le_of_ble_eq_true rfl)) xd_Mo_isSplit_63 ⟨Nat.le_of_ble_eq_true rfl, Nat.le_of_ble_eq_true rfl⟩) hS (fun q _ h => hFc q h) hFc (fun r11 u12 t H1 locs ht hvm hp13 hB hz1 hk1 hS => ?_)
        obtain ⟨hP1, hD1⟩ := hB
        rw [ht] at hP1
        have hD1 := hD1.weaken (fun _ _ _ h => hFc _ h)
        generalize H1 = H at hP1 hS ⊢
        have hP := hP1
        have hD := hD1
        have hP : va_P D xcl (moW h mm kA v g5) H := hP
        have hD : va_D A (moW h mm kA v g5) := hD
        rcases hp13 with rfl | rfl
        · refine xz_eq (a := 0) (tgt := 107) hx hb xd_Mo_isSplit_66 (by decide) (by omega) (fun _ => ?_) (fun hc14 => absurd hc14 (by omega))
          refine lv_iinc (k := 0) (x := (nI p4)) (v := (nI (p4 + 1))) hx hb xd_Mo_isSplit_107 hl rfl (xb_inc p4 1) (Nat.le_of_ble_eq_true rfl) rfl (fun ls hl => ?_)
          have hl : lv_has ls 5 [(4, .int (nI (p4 + 1))), (3, .int (nI m3)), (0, .ref h), (1, .int (nI ly)), (2, .int (nI d))] := hl
          refine lv_goto (tgt := 23) hx hb xd_Mo_isSplit_110 (by decide) ?_
          exact ih8 (p4 + 1) _ _ _ (show 6 * (m3 % 12) + pkc - (p4 + 1) < 6 * (m3 % 12) + pkc - p4 by omega) (lv_sub hl [0, 1, 2, 3, 4] rfl) hP hD hS ⟨(show 6 * (m3 % 12) ≤ (p4 + 1) from by first | assumption | omega), (show (p4 + 1) ≤ 6 * (m3 % 12) + pkc from by first | assumption | omega)⟩
        · refine xz_eq (a := 1) (tgt := 107) hx hb xd_Mo_isSplit_66 (by decide) (by omega) (fun hc15 => absurd hc15 (by omega)) (fun _ => ?_)
          obtain ⟨pke, hpke, epke⟩ := hpk d (by omega)
          refine lv_aload_n hx hb xd_Mo_isSplit_69 rfl (lv_at hl 2 rfl) ?_
          refine lv_iload_n hx hb xd_Mo_isSplit_70 rfl (lv_at hl 4 rfl) ?_
          refine lv_aload_n hx hb xd_Mo_isSplit_71 rfl (lv_at hl 2 rfl) ?_
          refine va_get (D := D) (ci := 4) (v := .ref (mm 6)) (C := xR_Mo) (T := xT_Mo) (N := 31) hx hb hT xi_Mo hown hK.1 hP 0 rfl rfl 11 (by decide) (hT _ xy2_22) (fun _ h9 => h9) rfl xd_Mo_isSplit_72 ?_
          refine lv_iload hx hb xd_Mo_isSplit_75 (lv_at hl 0 rfl) ?_
          refine xn_iald (i := p4) hx hb hK.1 hP 7 0 rfl rfl (by omega) (by decide) xd_Mo_isSplit_77 ?_
          have hFc := va_free (wc := (moW h mm kA v g5)) hD hS hA [0, 1, 2, 3, 4, 5, 6, 7, 8, 9, 10, 11, 12, 13, 14, 15, 16, 17, 18, 19, 20, 21, 22, 23, 24, 25] rfl
          refine va_calli (va_runV (As := [.int (nI d), .int (g5 6 p4)]) (rest := []) ⟨hx, hb, hml, hown, hT⟩ (xc_Mo_packageOf l D kA H.size h mm v g5 d (g5 6 p4) pke (by first | assumption | omega) (by first | assumption | omega) (by first | assumption | omega)) (cwV 2 hT (wT_V xy2_9 xy2_10 xy2_11 xy2_6 xy2_8) rfl rfl rfl (by decide +kernel) ⟨Nat.le_of_ble_eq_true rfl, Nat.le_of_ble_eq_true rfl⟩) (x_preV hK hP hD 0 rfl rfl) rfl rfl hl.1 rfl (lv_room (Nat.le_of_ble_eq_true rfl)) xd_Mo_isSplit_78 ⟨Nat.le_of_ble_eq_true rfl, Nat.le_of_ble_eq_true rfl⟩) hS (fun q _ h => hFc q h) hFc (fun r16 u17 t H1 locs ht hvm hp18 hB hz1 hk1 hS => ?_)
          obtain ⟨hP1, hD1⟩ := hB
          rw [ht] at hP1
          have hD1 := hD1.weaken (fun _ _ _ h => hFc _ h)
          generalize H1 = H at hP1 hS ⊢
          have hP := hP1
          have hD := hD1
          have hP : va_P D xcl (moW h mm kA v g5) H := hP
          have hD : va_D A (moW h mm kA v g5) := hD
          rcases hp18 with ⟨z19, z20, z21, rfl, z22⟩ | ⟨rfl, z23⟩
          · refine xz_ge (a := z19) (tgt := 105) hx hb xd_Mo_isSplit_81 (by decide) (by omega) ?_
            refine lv_iconst (v := 1) hx hb xd_Mo_isSplit_105 (by decide) ?_
            exact W.zret (v := 1) hx hb hr rfl (fun t ht hW => ⟨⟨1, (v, g5), rfl, ⟨rfl, hfr9, Or.inr rfl⟩, by rw [ht]; exact hP, hD⟩, hS.F ht⟩) hS.2.2 xd_Mo_isSplit_106
          · refine lv_if_ge (tgt := 105) hx hb xd_Mo_isSplit_81 (by decide) (fun hc25 => absurd hc25 (by decide)) (fun _ => ?_)
            refine lv_aload_n hx hb xd_Mo_isSplit_84 rfl (lv_at hl 2 rfl) ?_
            refine lv_iload_n hx hb xd_Mo_isSplit_85 rfl (lv_at hl 1 rfl) ?_
            refine lv_aload_n hx hb xd_Mo_isSplit_86 rfl (lv_at hl 2 rfl) ?_
            refine va_get (D := D) (ci := 4) (v := .ref (mm 6)) (C := xR_Mo) (T := xT_Mo) (N := 31) hx hb hT xi_Mo hown hK.1 hP 0 rfl rfl 11 (by decide) (hT _ xy2_22) (fun _ h9 => h9) rfl xd_Mo_isSplit_87 ?_
            refine lv_iload hx hb xd_Mo_isSplit_90 (lv_at hl 0 rfl) ?_
            refine xn_iald (i := p4) hx hb hK.1 hP 7 0 rfl rfl (by omega) (by decide) xd_Mo_isSplit_92 ?_
            refine lv_aload_n hx hb xd_Mo_isSplit_93 rfl (lv_at hl 2 rfl) ?_
            refine va_get (D := D) (ci := 4) (v := .ref (mm 4)) (C := xR_Mo) (T := xT_Mo) (N := 31) hx hb hT xi_Mo hown hK.1 hP 0 rfl rfl 9 (by decide) (hT _ xy2_21) (fun _ h9 => h9) rfl xd_Mo_isSplit_94 ?_
            refine lv_iload_n hx hb xd_Mo_isSplit_97 rfl (lv_at hl 4 rfl) ?_
            refine xn_iald (i := d) hx hb hK.1 hP 5 0 rfl rfl (by omega) (by decide) xd_Mo_isSplit_98 ?_
            have hFc := va_free (wc := (moW h mm kA v g5)) hD hS hA [0, 1, 2, 3, 4, 5, 6, 7, 8, 9, 10, 11, 12, 13, 14, 15, 16, 17, 18, 19, 20, 21, 22, 23, 24, 25] rfl
            refine va_calli (va_runV (As := [.int (nI m3), .int (g5 6 p4), .int (g5 4 d)]) (rest := []) ⟨hx, hb, hml, hown, hT⟩ (xc_Mo_isElsewhere l D kA H.size h mm v g5 m3 (g5 6 p4) (g5 4 d) (by first | assumption | omega) (by first | assumption | omega)) (cwV 3 hT (wT_V xy2_24 xy2_25 xy2_26 xy2_6 xy2_23) rfl rfl rfl (by decide +kernel) ⟨Nat.le_of_ble_eq_true rfl, Nat.le_of_ble_eq_true rfl⟩) (x_preV hK hP hD 0 rfl rfl) rfl rfl hl.1 rfl (lv_room (Nat.le_of_ble_eq_true rfl)) xd_Mo_isSplit_99 ⟨Nat.le_of_ble_eq_true rfl, Nat.le_of_ble_eq_true rfl⟩) hS (fun q _ h => hFc q h) hFc (fun r26 u27 t H1 locs ht hvm hp28 hB hz1 hk1 hS => ?_)
            obtain ⟨hP1, hD1⟩ := hB
            rw [ht] at hP1
            have hD1 := hD1.weaken (fun _ _ _ h => hFc _ h)
            generalize H1 = H at hP1 hS ⊢
            have hP := hP1
            have hD := hD1
            have hP : va_P D xcl (moW h mm kA v g5) H := hP
            have hD : va_D A (moW h mm kA v g5) := hD
            rcases hp28 with rfl | rfl
            · refine xz_eq (a := 0) (tgt := 107) hx hb xd_Mo_isSplit_102 (by decide) (by omega) (fun _ => ?_) (fun hc29 => absurd hc29 (by omega))
              refine lv_iinc (k := 0) (x := (nI p4)) (v := (nI (p4 + 1))) hx hb xd_Mo_isSplit_107 hl rfl (xb_inc p4 1) (Nat.le_of_ble_eq_true rfl) rfl (fun ls hl => ?_)
              have hl : lv_has ls 5 [(4, .int (nI (p4 + 1))), (3, .int (nI m3)), (0, .ref h), (1, .int (nI ly)), (2, .int (nI d))] := hl
              refine lv_goto (tgt := 23) hx hb xd_Mo_isSplit_110 (by decide) ?_
              exact ih8 (p4 + 1) _ _ _ (show 6 * (m3 % 12) + pkc - (p4 + 1) < 6 * (m3 % 12) + pkc - p4 by omega) (lv_sub hl [0, 1, 2, 3, 4] rfl) hP hD hS ⟨(show 6 * (m3 % 12) ≤ (p4 + 1) from by first | assumption | omega), (show (p4 + 1) ≤ 6 * (m3 % 12) + pkc from by first | assumption | omega)⟩
            · refine xz_eq (a := 1) (tgt := 107) hx hb xd_Mo_isSplit_102 (by decide) (by omega) (fun hc30 => absurd hc30 (by omega)) (fun _ => ?_)
              refine lv_iconst (v := 1) hx hb xd_Mo_isSplit_105 (by decide) ?_
              exact W.zret (v := 1) hx hb hr rfl (fun t ht hW => ⟨⟨1, (v, g5), rfl, ⟨rfl, hfr9, Or.inr rfl⟩, by rw [ht]; exact hP, hD⟩, hS.F ht⟩) hS.2.2 xd_Mo_isSplit_106
set_option maxHeartbeats 4000000 in
set_option maxRecDepth 100000 in
theorem xc_Mo_reason (l : Launch) (D : va_G) (kA : Nat → ClassId) (sz h : Nat) (mm : Nat → Nat) (v : Nat → Int32) (g : Nat → Nat → Int32) (nl : Nat) (md0 : Nat) (hMI : MI v g) (hnl : v 5 = nI nl) (hnl5 : nl ≤ 5) (hpn : ∀ la, la < nl + 1 → ∃ lq, lq ≤ la ∧ g 19 la = nI lq - 1) (hmd0 : g 20 nl = nI md0) (hmd012 : md0 ≤ 12) : Met l xy_Mo_reason (.code xy_Mo_reason xb_Mo_reason 4 (some .int) :: wT) { frames := 4, cells := 0, slots := 0, locals := 97 } (va_Pc [.ref h] (xPre D kA sz (moW h mm kA v g))) (va_Qi (fun (r : Int32) (u : (Nat → Int32) × (Nat → Nat → Int32)) => u.1 = v ∧ (∀ j, j ≠ 24 → u.2 j = g j) ∧ ∃ k, k ≤ 3 ∧ r = nI k ∧ (k = 0 → nl < 5)) (fun (u : (Nat → Int32) × (Nat → Nat → Int32)) t => va_P D xcl (moW h mm kA u.1 u.2) t.heap ∧ va_D (va_A (moW h mm kA v g) sz) (moW h mm kA u.1 u.2)) (va_A (moW h mm kA v g) sz)) 0 0 (va_A (moW h mm kA v g) sz) := by
  refine Met.ofW (cc := xb_Mo_reason) (maxL := 4) (ret := (some .int)) (by decide) rfl ?_
  intro p e s m args below meth c s₁ B hml hv
  obtain ⟨rfl, hsz, hP, hK, hD0⟩ := hv
  have hx := B.exec
  have hb := B.bytes
  have hr := B.returns
  have hT := x_hT B.pre
  have hown : s.vm.findClass xR_Mo = some m.cls := findClass_of_methodNamed B.named
  have hlocks := B.notSynchronized
  subst hsz
  have hD := hD0.self (sz := s.heap.size)
  generalize hAe : va_A (moW h mm kA v g) s.heap.size = A at hD ⊢
  have hA : ∀ q : Nat, s.heap.size ≤ q → A q := fun q h => by rw [← hAe]; exact Or.inr h
  have hS : va_S A s.heap s.heap [] := va_S.rf
  have hl := lv_entry ([.ref h]) (n := 4) (Nat.le_of_ble_eq_true rfl)
  rw [lg_entry_eq]
  generalize (lg_sl ([.ref h]) ++ List.replicate (4 - (lg_sl ([.ref h])).length) Slot.unset).toArray = ls at hl ⊢
  have hl : lv_has ls 4 [(0, .ref h)] := hl
  have hP : va_P D xcl (moW h mm kA v g) s.heap := hP
  obtain ⟨-, -, -, -, hrq, hmd, -⟩ := id hMI
  obtain ⟨mdk, hmdk, emdk, hent⟩ := hmd nl (by omega)
  have emd : md0 = mdk := (nI_eq (by rw [xb_31]; omega) (by rw [xb_31]; omega)).mp (hmd0.symm.trans emdk)
  have hent2 : ∀ i, 12 * nl ≤ i → i < 12 * nl + md0 → ∃ d, d < 12 ∧ g 21 i = nI d := fun i h1 h2 => by
    have h3 := hent (i - 12 * nl) (by omega)
    rwa [show 12 * nl + (i - 12 * nl) = i by omega] at h3
  refine lv_iconst (v := 0) hx hb xd_Mo_reason_0 (by decide) ?_
  refine lv_istore_n hx hb xd_Mo_reason_1 rfl hl (Nat.le_of_ble_eq_true rfl) rfl (fun ls hl => ?_)
  have hl : lv_has ls 4 [(1, .int 0), (0, .ref h)] := hl
  refine lv_iconst (v := 0) hx hb xd_Mo_reason_2 (by decide) ?_
  refine lv_istore_n hx hb xd_Mo_reason_3 rfl hl (Nat.le_of_ble_eq_true rfl) rfl (fun ls hl => ?_)
  have hl : lv_has ls 4 [(2, .int 0), (1, .int 0), (0, .ref h)] := hl
  refine lv_bipush (v := 12) hx hb xd_Mo_reason_4 (by decide) ?_
  refine lv_aload_n hx hb xd_Mo_reason_6 rfl (lv_at hl 2 rfl) ?_
  refine va_get (D := D) (ci := 4) (v := .int (v 5)) (C := xR_Mo) (T := xT_Mo) (N := 31) hx hb hT xi_Mo hown hK.1 hP 0 rfl rfl 23 (by decide) (hT _ xy2_27) (fun _ h9 => h9) rfl xd_Mo_reason_7 ?_
  refine xn_top (x := (v 5)) (y := nI nl) hnl ?_
  refine lv_imul hx hb xd_Mo_reason_10 ?_
  refine xn_top (y := nI (12 * nl)) (pk_mul 12 nl) ?_
  refine lv_istore_n hx hb xd_Mo_reason_11 rfl hl (Nat.le_of_ble_eq_true rfl) rfl (fun ls hl => ?_)
  have hl : lv_has ls 4 [(3, .int (nI (12 * nl))), (2, .int 0), (1, .int 0), (0, .ref h)] := hl
  refine xlab (σ := Nat × Nat × (Nat → Nat → Int32)) (ml := 4) 12 (fun (i1, cy, g1) => [(3, .int (nI i1)), (1, .int (nI cy)), (2, .int 0), (0, .ref h)]) (fun (i1, cy, g1) => []) (fun (i1, cy, g1) => moW h mm kA v g1) (fun (i1, cy, g1) => (12 * nl ≤ i1) ∧ (i1 ≤ 12 * nl + md0) ∧ (cy ≤ 1) ∧ (∀ j, j ≠ 24 → g1 j = g j)) (fun (i1, cy, g1) => 12 * nl + md0 - i1) ?_ (12 * nl, 0, g) _ _ _ (lv_sub hl [0, 2, 1, 3] rfl) hP hD hS ⟨(show 12 * nl ≤ (12 * nl) from by first | assumption | omega), (show (12 * nl) ≤ 12 * nl + md0 from by first | assumption | omega), (show 0 ≤ 1 from by first | assumption | omega), (show ∀ j, j ≠ 24 → g j = g j from fun j h1 => rfl)⟩
  intro n9 ih1 a9 ls H locs hμ hl hP hD hS hI
  subst hμ
  obtain ⟨i1, cy, g1⟩ := a9
  obtain ⟨hi11, hi12, hcy, hfr1⟩ := hI
  have hi11 : 12 * nl ≤ i1 := hi11
  have hi12 : i1 ≤ 12 * nl + md0 := hi12
  have hcy : cy ≤ 1 := hcy
  have hfr1 : ∀ j, j ≠ 24 → g1 j = g j := hfr1
  have hM1 : MI v g1 := MI_g (hfr1 0 (by decide)) (hfr1 3 (by decide)) (hfr1 4 (by decide)) (hfr1 5 (by decide)) (hfr1 12 (by decide)) (hfr1 19 (by decide)) (hfr1 20 (by decide)) (hfr1 21 (by decide)) hMI
  have hpn1 : ∀ la, la < nl + 1 → ∃ lq, lq ≤ la ∧ g1 19 la = nI lq - 1 := by rw [hfr1 19 (by decide)]; exact hpn
  have hmd1 : g1 20 nl = nI md0 := by rw [hfr1 20 (by decide)]; exact hmd0
  have hen1 : ∀ i, 12 * nl ≤ i → i < 12 * nl + md0 → ∃ d, d < 12 ∧ g1 21 i = nI d := by rw [hfr1 21 (by decide)]; exact hent2
  have hl : lv_has ls 4 [(3, .int (nI i1)), (1, .int (nI cy)), (2, .int 0), (0, .ref h)] := hl
  have hP : va_P D xcl (moW h mm kA v g1) H := hP
  have hD : va_D A (moW h mm kA v g1) := hD
  refine lv_iload_n hx hb xd_Mo_reason_12 rfl (lv_at hl 0 rfl) ?_
  refine lv_bipush (v := 12) hx hb xd_Mo_reason_13 (by decide) ?_
  refine lv_aload_n hx hb xd_Mo_reason_15 rfl (lv_at hl 3 rfl) ?_
  refine va_get (D := D) (ci := 4) (v := .int (v 5)) (C := xR_Mo) (T := xT_Mo) (N := 31) hx hb hT xi_Mo hown hK.1 hP 0 rfl rfl 23 (by decide) (hT _ xy2_27) (fun _ h9 => h9) rfl xd_Mo_reason_16 ?_
  refine xn_top (x := (v 5)) (y := nI nl) hnl ?_
  refine lv_imul hx hb xd_Mo_reason_19 ?_
  refine xn_top (y := nI (12 * nl)) (pk_mul 12 nl) ?_
  refine lv_aload_n hx hb xd_Mo_reason_20 rfl (lv_at hl 3 rfl) ?_
  refine va_get (D := D) (ci := 4) (v := .ref (mm 20)) (C := xR_Mo) (T := xT_Mo) (N := 31) hx hb hT xi_Mo hown hK.1 hP 0 rfl rfl 26 (by decide) (hT _ xy2_28) (fun _ h9 => h9) rfl xd_Mo_reason_21 ?_
  refine lv_aload_n hx hb xd_Mo_reason_24 rfl (lv_at hl 3 rfl) ?_
  refine va_get (D := D) (ci := 4) (v := .int (v 5)) (C := xR_Mo) (T := xT_Mo) (N := 31) hx hb hT xi_Mo hown hK.1 hP 0 rfl rfl 23 (by decide) (hT _ xy2_27) (fun _ h9 => h9) rfl xd_Mo_reason_25 ?_
  refine xn_top (x := (v 5)) (y := nI nl) hnl ?_
  refine xn_iald (i := nl) hx hb hK.1 hP 21 0 rfl rfl (by omega) (by decide) xd_Mo_reason_28 ?_
  refine xn_top (x := (g1 20 nl)) (y := nI md0) hmd1 ?_
  refine lv_iadd hx hb xd_Mo_reason_29 ?_
  refine xn_top (y := nI ((12 * nl) + md0)) (nI_add (12 * nl) md0) ?_
  refine xn_ge (a := i1) (b := (12 * nl) + md0) (tgt := 62) hx hb xd_Mo_reason_30 (by decide) (by omega) (by omega) (fun hc2 => ?_) (fun hc2 => ?_)
  · refine lv_bipush (v := 12) hx hb xd_Mo_reason_62 (by decide) ?_
    refine lv_aload_n hx hb xd_Mo_reason_64 rfl (lv_at hl 3 rfl) ?_
    refine va_get (D := D) (ci := 4) (v := .int (v 5)) (C := xR_Mo) (T := xT_Mo) (N := 31) hx hb hT xi_Mo hown hK.1 hP 0 rfl rfl 23 (by decide) (hT _ xy2_27) (fun _ h9 => h9) rfl xd_Mo_reason_65 ?_
    refine xn_top (x := (v 5)) (y := nI nl) hnl ?_
    refine lv_imul hx hb xd_Mo_reason_68 ?_
    refine xn_top (y := nI (12 * nl)) (pk_mul 12 nl) ?_
    refine lv_istore_n hx hb xd_Mo_reason_69 rfl hl (Nat.le_of_ble_eq_true rfl) rfl (fun ls hl => ?_)
    have hl : lv_has ls 4 [(3, .int (nI (12 * nl))), (1, .int (nI cy)), (2, .int 0), (0, .ref h)] := hl
    refine xlab (σ := Nat × Nat × (Nat → Nat → Int32)) (ml := 4) 70 (fun (i2, sp, g2) => [(3, .int (nI i2)), (2, .int (nI sp)), (1, .int (nI cy)), (0, .ref h)]) (fun (i2, sp, g2) => []) (fun (i2, sp, g2) => moW h mm kA v g2) (fun (i2, sp, g2) => (12 * nl ≤ i2) ∧ (i2 ≤ 12 * nl + md0) ∧ (sp ≤ 1) ∧ (∀ j, j ≠ 24 → g2 j = g j)) (fun (i2, sp, g2) => 12 * nl + md0 - i2) ?_ (12 * nl, 0, g1) _ _ _ (lv_sub hl [0, 2, 1, 3] rfl) hP hD hS ⟨(show 12 * nl ≤ (12 * nl) from by first | assumption | omega), (show (12 * nl) ≤ 12 * nl + md0 from by first | assumption | omega), (show 0 ≤ 1 from by first | assumption | omega), (show ∀ j, j ≠ 24 → g1 j = g j from hfr1)⟩
    intro n9 ih3 a9 ls H locs hμ hl hP hD hS hI
    subst hμ
    obtain ⟨i2, sp, g2⟩ := a9
    obtain ⟨hi21, hi22, hsp, hfr2⟩ := hI
    have hi21 : 12 * nl ≤ i2 := hi21
    have hi22 : i2 ≤ 12 * nl + md0 := hi22
    have hsp : sp ≤ 1 := hsp
    have hfr2 : ∀ j, j ≠ 24 → g2 j = g j := hfr2
    have hM2 : MI v g2 := MI_g (hfr2 0 (by decide)) (hfr2 3 (by decide)) (hfr2 4 (by decide)) (hfr2 5 (by decide)) (hfr2 12 (by decide)) (hfr2 19 (by decide)) (hfr2 20 (by decide)) (hfr2 21 (by decide)) hMI
    have hpn2 : ∀ la, la < nl + 1 → ∃ lq, lq ≤ la ∧ g2 19 la = nI lq - 1 := by rw [hfr2 19 (by decide)]; exact hpn
    have hmd2 : g2 20 nl = nI md0 := by rw [hfr2 20 (by decide)]; exact hmd0
    have hen2 : ∀ i, 12 * nl ≤ i → i < 12 * nl + md0 → ∃ d, d < 12 ∧ g2 21 i = nI d := by rw [hfr2 21 (by decide)]; exact hent2
    have hl : lv_has ls 4 [(3, .int (nI i2)), (2, .int (nI sp)), (1, .int (nI cy)), (0, .ref h)] := hl
    have hP : va_P D xcl (moW h mm kA v g2) H := hP
    have hD : va_D A (moW h mm kA v g2) := hD
    refine lv_iload_n hx hb xd_Mo_reason_70 rfl (lv_at hl 0 rfl) ?_
    refine lv_bipush (v := 12) hx hb xd_Mo_reason_71 (by decide) ?_
    refine lv_aload_n hx hb xd_Mo_reason_73 rfl (lv_at hl 3 rfl) ?_
    refine va_get (D := D) (ci := 4) (v := .int (v 5)) (C := xR_Mo) (T := xT_Mo) (N := 31) hx hb hT xi_Mo hown hK.1 hP 0 rfl rfl 23 (by decide) (hT _ xy2_27) (fun _ h9 => h9) rfl xd_Mo_reason_74 ?_
    refine xn_top (x := (v 5)) (y := nI nl) hnl ?_
    refine lv_imul hx hb xd_Mo_reason_77 ?_
    refine xn_top (y := nI (12 * nl)) (pk_mul 12 nl) ?_
    refine lv_aload_n hx hb xd_Mo_reason_78 rfl (lv_at hl 3 rfl) ?_
    refine va_get (D := D) (ci := 4) (v := .ref (mm 20)) (C := xR_Mo) (T := xT_Mo) (N := 31) hx hb hT xi_Mo hown hK.1 hP 0 rfl rfl 26 (by decide) (hT _ xy2_28) (fun _ h9 => h9) rfl xd_Mo_reason_79 ?_
    refine lv_aload_n hx hb xd_Mo_reason_82 rfl (lv_at hl 3 rfl) ?_
    refine va_get (D := D) (ci := 4) (v := .int (v 5)) (C := xR_Mo) (T := xT_Mo) (N := 31) hx hb hT xi_Mo hown hK.1 hP 0 rfl rfl 23 (by decide) (hT _ xy2_27) (fun _ h9 => h9) rfl xd_Mo_reason_83 ?_
    refine xn_top (x := (v 5)) (y := nI nl) hnl ?_
    refine xn_iald (i := nl) hx hb hK.1 hP 21 0 rfl rfl (by omega) (by decide) xd_Mo_reason_86 ?_
    refine xn_top (x := (g2 20 nl)) (y := nI md0) hmd2 ?_
    refine lv_iadd hx hb xd_Mo_reason_87 ?_
    refine xn_top (y := nI ((12 * nl) + md0)) (nI_add (12 * nl) md0) ?_
    refine xn_ge (a := i2) (b := (12 * nl) + md0) (tgt := 128) hx hb xd_Mo_reason_88 (by decide) (by omega) (by omega) (fun hc4 => ?_) (fun hc4 => ?_)
    · refine lv_iload_n hx hb xd_Mo_reason_128 rfl (lv_at hl 2 rfl) ?_
      refine xz_eq (a := cy) (tgt := 136) hx hb xd_Mo_reason_129 (by decide) (by omega) (fun hc5 => ?_) (fun hc5 => ?_)
      · refine lv_iload_n hx hb xd_Mo_reason_136 rfl (lv_at hl 1 rfl) ?_
        refine xz_eq (a := sp) (tgt := 144) hx hb xd_Mo_reason_137 (by decide) (by omega) (fun hc6 => ?_) (fun hc6 => ?_)
        · refine lv_aload_n hx hb xd_Mo_reason_144 rfl (lv_at hl 3 rfl) ?_
          refine va_get (D := D) (ci := 4) (v := .int (v 5)) (C := xR_Mo) (T := xT_Mo) (N := 31) hx hb hT xi_Mo hown hK.1 hP 0 rfl rfl 23 (by decide) (hT _ xy2_27) (fun _ h9 => h9) rfl xd_Mo_reason_145 ?_
          refine xn_top (x := (v 5)) (y := nI nl) hnl ?_
          refine lv_iconst (v := 5) hx hb xd_Mo_reason_148 (by decide) ?_
          refine xn_ne (a := nl) (b := 5) (tgt := 156) hx hb xd_Mo_reason_149 (by decide) (by omega) (by omega) (fun hc7 => ?_) (fun hc7 => ?_)
          · refine lv_iconst (v := 0) hx hb xd_Mo_reason_156 (by decide) ?_
            exact W.iret (v := 0) hx hb hr (fun t ht hW => ⟨⟨0, (v, g2), rfl, ⟨rfl, hfr2, 0, by omega, rfl, by omega⟩, by rw [ht]; exact hP, hD⟩, hS.F ht⟩) hS.2.2 xd_Mo_reason_157
          · refine lv_iconst (v := 3) hx hb xd_Mo_reason_152 (by decide) ?_
            refine lv_goto (tgt := 157) hx hb xd_Mo_reason_153 (by decide) ?_
            exact W.iret (v := 3) hx hb hr (fun t ht hW => ⟨⟨3, (v, g2), rfl, ⟨rfl, hfr2, 3, by omega, rfl, by omega⟩, by rw [ht]; exact hP, hD⟩, hS.F ht⟩) hS.2.2 xd_Mo_reason_157
        · refine lv_iconst (v := 2) hx hb xd_Mo_reason_140 (by decide) ?_
          refine lv_goto (tgt := 157) hx hb xd_Mo_reason_141 (by decide) ?_
          exact W.iret (v := 2) hx hb hr (fun t ht hW => ⟨⟨2, (v, g2), rfl, ⟨rfl, hfr2, 2, by omega, rfl, by omega⟩, by rw [ht]; exact hP, hD⟩, hS.F ht⟩) hS.2.2 xd_Mo_reason_157
      · refine lv_iconst (v := 1) hx hb xd_Mo_reason_132 (by decide) ?_
        refine lv_goto (tgt := 157) hx hb xd_Mo_reason_133 (by decide) ?_
        exact W.iret (v := 1) hx hb hr (fun t ht hW => ⟨⟨1, (v, g2), rfl, ⟨rfl, hfr2, 1, by omega, rfl, by omega⟩, by rw [ht]; exact hP, hD⟩, hS.F ht⟩) hS.2.2 xd_Mo_reason_157
    · refine lv_iload_n hx hb xd_Mo_reason_91 rfl (lv_at hl 2 rfl) ?_
      refine xz_ne (a := cy) (tgt := 128) hx hb xd_Mo_reason_92 (by decide) (by omega) (fun hc8 => ?_) (fun hc8 => ?_)
      · refine lv_iload_n hx hb xd_Mo_reason_128 rfl (lv_at hl 2 rfl) ?_
        refine xz_eq (a := cy) (tgt := 136) hx hb xd_Mo_reason_129 (by decide) (by omega) (fun hc9 => ?_) (fun hc9 => ?_)
        · refine lv_iload_n hx hb xd_Mo_reason_136 rfl (lv_at hl 1 rfl) ?_
          refine xz_eq (a := sp) (tgt := 144) hx hb xd_Mo_reason_137 (by decide) (by omega) (fun hc10 => ?_) (fun hc10 => ?_)
          · refine lv_aload_n hx hb xd_Mo_reason_144 rfl (lv_at hl 3 rfl) ?_
            refine va_get (D := D) (ci := 4) (v := .int (v 5)) (C := xR_Mo) (T := xT_Mo) (N := 31) hx hb hT xi_Mo hown hK.1 hP 0 rfl rfl 23 (by decide) (hT _ xy2_27) (fun _ h9 => h9) rfl xd_Mo_reason_145 ?_
            refine xn_top (x := (v 5)) (y := nI nl) hnl ?_
            refine lv_iconst (v := 5) hx hb xd_Mo_reason_148 (by decide) ?_
            refine xn_ne (a := nl) (b := 5) (tgt := 156) hx hb xd_Mo_reason_149 (by decide) (by omega) (by omega) (fun hc11 => ?_) (fun hc11 => ?_)
            · refine lv_iconst (v := 0) hx hb xd_Mo_reason_156 (by decide) ?_
              exact W.iret (v := 0) hx hb hr (fun t ht hW => ⟨⟨0, (v, g2), rfl, ⟨rfl, hfr2, 0, by omega, rfl, by omega⟩, by rw [ht]; exact hP, hD⟩, hS.F ht⟩) hS.2.2 xd_Mo_reason_157
            · refine lv_iconst (v := 3) hx hb xd_Mo_reason_152 (by decide) ?_
              refine lv_goto (tgt := 157) hx hb xd_Mo_reason_153 (by decide) ?_
              exact W.iret (v := 3) hx hb hr (fun t ht hW => ⟨⟨3, (v, g2), rfl, ⟨rfl, hfr2, 3, by omega, rfl, by omega⟩, by rw [ht]; exact hP, hD⟩, hS.F ht⟩) hS.2.2 xd_Mo_reason_157
          · refine lv_iconst (v := 2) hx hb xd_Mo_reason_140 (by decide) ?_
            refine lv_goto (tgt := 157) hx hb xd_Mo_reason_141 (by decide) ?_
            exact W.iret (v := 2) hx hb hr (fun t ht hW => ⟨⟨2, (v, g2), rfl, ⟨rfl, hfr2, 2, by omega, rfl, by omega⟩, by rw [ht]; exact hP, hD⟩, hS.F ht⟩) hS.2.2 xd_Mo_reason_157
        · refine lv_iconst (v := 1) hx hb xd_Mo_reason_132 (by decide) ?_
          refine lv_goto (tgt := 157) hx hb xd_Mo_reason_133 (by decide) ?_
          exact W.iret (v := 1) hx hb hr (fun t ht hW => ⟨⟨1, (v, g2), rfl, ⟨rfl, hfr2, 1, by omega, rfl, by omega⟩, by rw [ht]; exact hP, hD⟩, hS.F ht⟩) hS.2.2 xd_Mo_reason_157
      · refine lv_iload_n hx hb xd_Mo_reason_95 rfl (lv_at hl 1 rfl) ?_
        refine xz_ne (a := sp) (tgt := 116) hx hb xd_Mo_reason_96 (by decide) (by omega) (fun hc12 => ?_) (fun hc12 => ?_)
        · refine lv_iconst (v := 1) hx hb xd_Mo_reason_116 (by decide) ?_
          refine lv_goto (tgt := 121) hx hb xd_Mo_reason_117 (by decide) ?_
          refine lv_istore_n hx hb xd_Mo_reason_121 rfl hl (Nat.le_of_ble_eq_true rfl) rfl (fun ls hl => ?_)
          have hl : lv_has ls 4 [(2, .int 1), (3, .int (nI i2)), (1, .int (nI cy)), (0, .ref h)] := hl
          refine lv_iinc (k := 1) (x := (nI i2)) (v := (nI (i2 + 1))) hx hb xd_Mo_reason_122 hl rfl (xb_inc i2 1) (Nat.le_of_ble_eq_true rfl) rfl (fun ls hl => ?_)
          have hl : lv_has ls 4 [(3, .int (nI (i2 + 1))), (2, .int 1), (1, .int (nI cy)), (0, .ref h)] := hl
          refine lv_goto (tgt := 70) hx hb xd_Mo_reason_125 (by decide) ?_
          exact ih3 (i2 + 1, 1, g2) _ _ _ (show 12 * nl + md0 - (i2 + 1) < 12 * nl + md0 - i2 by omega) (lv_sub hl [0, 1, 2, 3] rfl) hP hD hS ⟨(show 12 * nl ≤ (i2 + 1) from by first | assumption | omega), (show (i2 + 1) ≤ 12 * nl + md0 from by first | assumption | omega), (show 1 ≤ 1 from by first | assumption | omega), (show ∀ j, j ≠ 24 → g2 j = g j from hfr2)⟩
        · refine lv_aload_n hx hb xd_Mo_reason_99 rfl (lv_at hl 3 rfl) ?_
          refine lv_aload_n hx hb xd_Mo_reason_100 rfl (lv_at hl 3 rfl) ?_
          refine va_get (D := D) (ci := 4) (v := .int (v 5)) (C := xR_Mo) (T := xT_Mo) (N := 31) hx hb hT xi_Mo hown hK.1 hP 0 rfl rfl 23 (by decide) (hT _ xy2_27) (fun _ h9 => h9) rfl xd_Mo_reason_101 ?_
          refine xn_top (x := (v 5)) (y := nI nl) hnl ?_
          refine lv_aload_n hx hb xd_Mo_reason_104 rfl (lv_at hl 3 rfl) ?_
          refine va_get (D := D) (ci := 4) (v := .ref (mm 21)) (C := xR_Mo) (T := xT_Mo) (N := 31) hx hb hT xi_Mo hown hK.1 hP 0 rfl rfl 27 (by decide) (hT _ xy2_29) (fun _ h9 => h9) rfl xd_Mo_reason_105 ?_
          refine lv_iload_n hx hb xd_Mo_reason_108 rfl (lv_at hl 0 rfl) ?_
          refine xn_iald (i := i2) hx hb hK.1 hP 22 0 rfl rfl (by omega) (by decide) xd_Mo_reason_109 ?_
          obtain ⟨k13, hk14, ek15⟩ := hen2 i2 (by omega) (by omega)
          refine xn_top (x := (g2 21 i2)) ek15 ?_
          have hFc := va_free (wc := (moW h mm kA v g2)) hD hS hA [0, 1, 2, 3, 4, 5, 6, 7, 8, 9, 10, 11, 12, 13, 14, 15, 16, 17, 18, 19, 20, 21, 22, 23, 24, 25] rfl
          refine va_calli (va_runV (As := [.int (nI nl), .int (nI k13)]) (rest := []) ⟨hx, hb, hml, hown, hT⟩ (xc_Mo_isSplit l D kA H.size h mm v g2 nl k13 (nl + 1) hM2 (by first | assumption | omega) hpn2 (by first | assumption | omega) (by first | assumption | omega)) (cwV 2 hT (wT_V xy2_31 xy2_32 xy2_33 xy2_6 xy2_30) rfl rfl rfl (by decide +kernel) ⟨Nat.le_of_ble_eq_true rfl, Nat.le_of_ble_eq_true rfl⟩) (x_preV hK hP hD 0 rfl rfl) rfl rfl hl.1 rfl (lv_room (Nat.le_of_ble_eq_true rfl)) xd_Mo_reason_110 ⟨Nat.le_of_ble_eq_true rfl, Nat.le_of_ble_eq_true rfl⟩) hS (fun q _ h => hFc q h) hFc (fun r16 u17 t H1 locs ht hvm hp18 hB hz1 hk1 hS => ?_)
          obtain ⟨hP1, hD1⟩ := hB
          rw [ht] at hP1
          have hD1 := hD1.weaken (fun _ _ _ h => hFc _ h)
          obtain ⟨v19, g20⟩ := u17
          generalize H1 = H at hP1 hS ⊢
          have hP := hP1
          have hD := hD1
          have hP : va_P D xcl (moW h mm kA v19 g20) H := hP
          have hD : va_D A (moW h mm kA v19 g20) := hD
          obtain ⟨hu9, hfr9, hr9⟩ := hp18
          have hu9 : v = v19 := hu9.symm
          subst hu9
          have hfr9 : ∀ j, j ≠ 24 → g20 j = g2 j := hfr9
          have hP : va_P D xcl (moW h mm kA v g20) H := hP
          have hD : va_D A (moW h mm kA v g20) := hD
          refine lv_if_eq (tgt := 120) hx hb xd_Mo_reason_113 (by decide) (fun hc21 => ?_) (fun hc21 => ?_)
          · refine lv_iconst (v := 0) hx hb xd_Mo_reason_120 (by decide) ?_
            refine lv_istore_n hx hb xd_Mo_reason_121 rfl hl (Nat.le_of_ble_eq_true rfl) rfl (fun ls hl => ?_)
            have hl : lv_has ls 4 [(2, .int 0), (3, .int (nI i2)), (1, .int (nI cy)), (0, .ref h)] := hl
            refine lv_iinc (k := 1) (x := (nI i2)) (v := (nI (i2 + 1))) hx hb xd_Mo_reason_122 hl rfl (xb_inc i2 1) (Nat.le_of_ble_eq_true rfl) rfl (fun ls hl => ?_)
            have hl : lv_has ls 4 [(3, .int (nI (i2 + 1))), (2, .int 0), (1, .int (nI cy)), (0, .ref h)] := hl
            refine lv_goto (tgt := 70) hx hb xd_Mo_reason_125 (by decide) ?_
            exact ih3 (i2 + 1, 0, g20) _ _ _ (show 12 * nl + md0 - (i2 + 1) < 12 * nl + md0 - i2 by omega) (lv_sub hl [0, 1, 2, 3] rfl) hP hD hS ⟨(show 12 * nl ≤ (i2 + 1) from by first | assumption | omega), (show (i2 + 1) ≤ 12 * nl + md0 from by first | assumption | omega), (show 0 ≤ 1 from by first | assumption | omega), (show ∀ j, j ≠ 24 → g20 j = g j from fun j h1 => (hfr9 j h1).trans (hfr2 j h1))⟩
          · refine lv_iconst (v := 1) hx hb xd_Mo_reason_116 (by decide) ?_
            refine lv_goto (tgt := 121) hx hb xd_Mo_reason_117 (by decide) ?_
            refine lv_istore_n hx hb xd_Mo_reason_121 rfl hl (Nat.le_of_ble_eq_true rfl) rfl (fun ls hl => ?_)
            have hl : lv_has ls 4 [(2, .int 1), (3, .int (nI i2)), (1, .int (nI cy)), (0, .ref h)] := hl
            refine lv_iinc (k := 1) (x := (nI i2)) (v := (nI (i2 + 1))) hx hb xd_Mo_reason_122 hl rfl (xb_inc i2 1) (Nat.le_of_ble_eq_true rfl) rfl (fun ls hl => ?_)
            have hl : lv_has ls 4 [(3, .int (nI (i2 + 1))), (2, .int 1), (1, .int (nI cy)), (0, .ref h)] := hl
            refine lv_goto (tgt := 70) hx hb xd_Mo_reason_125 (by decide) ?_
            exact ih3 (i2 + 1, 1, g20) _ _ _ (show 12 * nl + md0 - (i2 + 1) < 12 * nl + md0 - i2 by omega) (lv_sub hl [0, 1, 2, 3] rfl) hP hD hS ⟨(show 12 * nl ≤ (i2 + 1) from by first | assumption | omega), (show (i2 + 1) ≤ 12 * nl + md0 from by first | assumption | omega), (show 1 ≤ 1 from by first | assumption | omega), (show ∀ j, j ≠ 24 → g20 j = g j from fun j h1 => (hfr9 j h1).trans (hfr2 j h1))⟩
  · refine lv_iload_n hx hb xd_Mo_reason_33 rfl (lv_at hl 1 rfl) ?_
    refine xz_ne (a := cy) (tgt := 50) hx hb xd_Mo_reason_34 (by decide) (by omega) (fun hc22 => ?_) (fun hc22 => ?_)
    · refine lv_iconst (v := 1) hx hb xd_Mo_reason_50 (by decide) ?_
      refine lv_goto (tgt := 55) hx hb xd_Mo_reason_51 (by decide) ?_
      refine lv_istore_n hx hb xd_Mo_reason_55 rfl hl (Nat.le_of_ble_eq_true rfl) rfl (fun ls hl => ?_)
      have hl : lv_has ls 4 [(1, .int 1), (3, .int (nI i1)), (2, .int 0), (0, .ref h)] := hl
      refine lv_iinc (k := 1) (x := (nI i1)) (v := (nI (i1 + 1))) hx hb xd_Mo_reason_56 hl rfl (xb_inc i1 1) (Nat.le_of_ble_eq_true rfl) rfl (fun ls hl => ?_)
      have hl : lv_has ls 4 [(3, .int (nI (i1 + 1))), (1, .int 1), (2, .int 0), (0, .ref h)] := hl
      refine lv_goto (tgt := 12) hx hb xd_Mo_reason_59 (by decide) ?_
      exact ih1 (i1 + 1, 1, g1) _ _ _ (show 12 * nl + md0 - (i1 + 1) < 12 * nl + md0 - i1 by omega) (lv_sub hl [0, 1, 2, 3] rfl) hP hD hS ⟨(show 12 * nl ≤ (i1 + 1) from by first | assumption | omega), (show (i1 + 1) ≤ 12 * nl + md0 from by first | assumption | omega), (show 1 ≤ 1 from by first | assumption | omega), (show ∀ j, j ≠ 24 → g1 j = g j from hfr1)⟩
    · refine lv_aload_n hx hb xd_Mo_reason_37 rfl (lv_at hl 3 rfl) ?_
      refine lv_aload_n hx hb xd_Mo_reason_38 rfl (lv_at hl 3 rfl) ?_
      refine va_get (D := D) (ci := 4) (v := .ref (mm 21)) (C := xR_Mo) (T := xT_Mo) (N := 31) hx hb hT xi_Mo hown hK.1 hP 0 rfl rfl 27 (by decide) (hT _ xy2_29) (fun _ h9 => h9) rfl xd_Mo_reason_39 ?_
      refine lv_iload_n hx hb xd_Mo_reason_42 rfl (lv_at hl 0 rfl) ?_
      refine xn_iald (i := i1) hx hb hK.1 hP 22 0 rfl rfl (by omega) (by decide) xd_Mo_reason_43 ?_
      obtain ⟨k23, hk24, ek25⟩ := hen1 i1 (by omega) (by omega)
      refine xn_top (x := (g1 21 i1)) ek25 ?_
      have hFc := va_free (wc := (moW h mm kA v g1)) hD hS hA [0, 1, 2, 3, 4, 5, 6, 7, 8, 9, 10, 11, 12, 13, 14, 15, 16, 17, 18, 19, 20, 21, 22, 23, 24, 25] rfl
      refine va_calli (va_runV (As := [.int (nI k23)]) (rest := []) ⟨hx, hb, hml, hown, hT⟩ (xc_Mo_isCycle l D kA H.size h mm v g1 k23 nl md0 hM1 (by first | assumption | omega) (by first | assumption | omega) hpn1 hmd1 (by first | assumption | omega) (by first | assumption | omega)) (cwV 1 hT (wT_V xy2_35 xy2_36 xy2_37 xy2_6 xy2_34) rfl rfl rfl (by decide +kernel) ⟨Nat.le_of_ble_eq_true rfl, Nat.le_of_ble_eq_true rfl⟩) (x_preV hK hP hD 0 rfl rfl) rfl rfl hl.1 rfl (lv_room (Nat.le_of_ble_eq_true rfl)) xd_Mo_reason_44 ⟨Nat.le_of_ble_eq_true rfl, Nat.le_of_ble_eq_true rfl⟩) hS (fun q _ h => hFc q h) hFc (fun r26 u27 t H1 locs ht hvm hp28 hB hz1 hk1 hS => ?_)
      obtain ⟨hP1, hD1⟩ := hB
      rw [ht] at hP1
      have hD1 := hD1.weaken (fun _ _ _ h => hFc _ h)
      obtain ⟨v29, g30⟩ := u27
      generalize H1 = H at hP1 hS ⊢
      have hP := hP1
      have hD := hD1
      have hP : va_P D xcl (moW h mm kA v29 g30) H := hP
      have hD : va_D A (moW h mm kA v29 g30) := hD
      obtain ⟨hu9, hfr9, hr9⟩ := hp28
      have hu9 : v = v29 := hu9.symm
      subst hu9
      have hfr9 : ∀ j, j ≠ 24 → g30 j = g1 j := hfr9
      have hP : va_P D xcl (moW h mm kA v g30) H := hP
      have hD : va_D A (moW h mm kA v g30) := hD
      refine lv_if_eq (tgt := 54) hx hb xd_Mo_reason_47 (by decide) (fun hc31 => ?_) (fun hc31 => ?_)
      · refine lv_iconst (v := 0) hx hb xd_Mo_reason_54 (by decide) ?_
        refine lv_istore_n hx hb xd_Mo_reason_55 rfl hl (Nat.le_of_ble_eq_true rfl) rfl (fun ls hl => ?_)
        have hl : lv_has ls 4 [(1, .int 0), (3, .int (nI i1)), (2, .int 0), (0, .ref h)] := hl
        refine lv_iinc (k := 1) (x := (nI i1)) (v := (nI (i1 + 1))) hx hb xd_Mo_reason_56 hl rfl (xb_inc i1 1) (Nat.le_of_ble_eq_true rfl) rfl (fun ls hl => ?_)
        have hl : lv_has ls 4 [(3, .int (nI (i1 + 1))), (1, .int 0), (2, .int 0), (0, .ref h)] := hl
        refine lv_goto (tgt := 12) hx hb xd_Mo_reason_59 (by decide) ?_
        exact ih1 (i1 + 1, 0, g30) _ _ _ (show 12 * nl + md0 - (i1 + 1) < 12 * nl + md0 - i1 by omega) (lv_sub hl [0, 1, 2, 3] rfl) hP hD hS ⟨(show 12 * nl ≤ (i1 + 1) from by first | assumption | omega), (show (i1 + 1) ≤ 12 * nl + md0 from by first | assumption | omega), (show 0 ≤ 1 from by first | assumption | omega), (show ∀ j, j ≠ 24 → g30 j = g j from fun j h1 => (hfr9 j h1).trans (hfr1 j h1))⟩
      · refine lv_iconst (v := 1) hx hb xd_Mo_reason_50 (by decide) ?_
        refine lv_goto (tgt := 55) hx hb xd_Mo_reason_51 (by decide) ?_
        refine lv_istore_n hx hb xd_Mo_reason_55 rfl hl (Nat.le_of_ble_eq_true rfl) rfl (fun ls hl => ?_)
        have hl : lv_has ls 4 [(1, .int 1), (3, .int (nI i1)), (2, .int 0), (0, .ref h)] := hl
        refine lv_iinc (k := 1) (x := (nI i1)) (v := (nI (i1 + 1))) hx hb xd_Mo_reason_56 hl rfl (xb_inc i1 1) (Nat.le_of_ble_eq_true rfl) rfl (fun ls hl => ?_)
        have hl : lv_has ls 4 [(3, .int (nI (i1 + 1))), (1, .int 1), (2, .int 0), (0, .ref h)] := hl
        refine lv_goto (tgt := 12) hx hb xd_Mo_reason_59 (by decide) ?_
        exact ih1 (i1 + 1, 1, g30) _ _ _ (show 12 * nl + md0 - (i1 + 1) < 12 * nl + md0 - i1 by omega) (lv_sub hl [0, 1, 2, 3] rfl) hP hD hS ⟨(show 12 * nl ≤ (i1 + 1) from by first | assumption | omega), (show (i1 + 1) ≤ 12 * nl + md0 from by first | assumption | omega), (show 1 ≤ 1 from by first | assumption | omega), (show ∀ j, j ≠ 24 → g30 j = g j from fun j h1 => (hfr9 j h1).trans (hfr1 j h1))⟩
