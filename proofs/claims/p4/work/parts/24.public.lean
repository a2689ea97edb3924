abbrev xb_Mo_write : ByteArray := prog_12_method_4_code
def xy_Mo_write : MethodName := ⟨"LayerDeskModel", "write", "(C)Z"⟩
abbrev xb_Mo_fault : ByteArray := prog_12_method_33_code
def xy_Mo_fault : MethodName := ⟨"LayerDeskModel", "fault", "()I"⟩
abbrev xb_Mo_close : ByteArray := prog_12_method_34_code
def xy_Mo_close : MethodName := ⟨"LayerDeskModel", "close", "(I)Z"⟩
abbrev xb_Mo_count : ByteArray := prog_12_method_35_code
def xy_Mo_count : MethodName := ⟨"LayerDeskModel", "count", "(I)I"⟩
abbrev xb_Mo_modules : ByteArray := prog_12_method_36_code
def xy_Mo_modules : MethodName := ⟨"LayerDeskModel", "modules", "(I)I"⟩
abbrev xb_Mo_moduleOf : ByteArray := prog_12_method_37_code
def xy_Mo_moduleOf : MethodName := ⟨"LayerDeskModel", "moduleOf", "(II)I"⟩
abbrev xb_Mo_module : ByteArray := prog_12_method_38_code
def xy_Mo_module : MethodName := ⟨"LayerDeskModel", "module", "(II)I"⟩
abbrev xb_Mo_isThere : ByteArray := prog_12_method_39_code
def xy_Mo_isThere : MethodName := ⟨"LayerDeskModel", "isThere", "(II)Z"⟩
abbrev xb_Mo_reads : ByteArray := prog_12_method_40_code
def xy_Mo_reads : MethodName := ⟨"LayerDeskModel", "reads", "(IIII)Z"⟩
theorem xd_Mo_close_0 : decode xb_Mo_close 0 = .ok (.aload_n 0, 1) := by decide +kernel
theorem xd_Mo_close_1 : decode xb_Mo_close 1 = .ok (.iconst 0, 1) := by decide +kernel
theorem xd_Mo_close_2 : decode xb_Mo_close 2 = .ok (.putfield 87, 3) := by decide +kernel
theorem xd_Mo_close_5 : decode xb_Mo_close 5 = .ok (.aload_n 0, 1) := by decide +kernel
theorem xd_Mo_close_6 : decode xb_Mo_close 6 = .ok (.iload_n 1, 1) := by decide +kernel
theorem xd_Mo_close_7 : decode xb_Mo_close 7 = .ok (.invokevirtual 190, 3) := by decide +kernel
theorem xd_Mo_close_10 : decode xb_Mo_close 10 = .ok (.ifCond .ne 5, 3) := by decide +kernel
theorem xd_Mo_close_13 : decode xb_Mo_close 13 = .ok (.iconst 0, 1) := by decide +kernel
theorem xd_Mo_close_14 : decode xb_Mo_close 14 = .ok (.ireturn, 1) := by decide +kernel
theorem xd_Mo_close_15 : decode xb_Mo_close 15 = .ok (.iconst 0, 1) := by decide +kernel
theorem xd_Mo_close_16 : decode xb_Mo_close 16 = .ok (.istore_n 2, 1) := by decide +kernel
theorem xd_Mo_close_17 : decode xb_Mo_close 17 = .ok (.iload_n 2, 1) := by decide +kernel
theorem xd_Mo_close_18 : decode xb_Mo_close 18 = .ok (.aload_n 0, 1) := by decide +kernel
theorem xd_Mo_close_19 : decode xb_Mo_close 19 = .ok (.getfield 150, 3) := by decide +kernel
theorem xd_Mo_close_22 : decode xb_Mo_close 22 = .ok (.if_icmp .ge 30, 3) := by decide +kernel
theorem xd_Mo_close_25 : decode xb_Mo_close 25 = .ok (.aload_n 0, 1) := by decide +kernel
theorem xd_Mo_close_26 : decode xb_Mo_close 26 = .ok (.getfield 78, 3) := by decide +kernel
theorem xd_Mo_close_29 : decode xb_Mo_close 29 = .ok (.iload_n 2, 1) := by decide +kernel
theorem xd_Mo_close_30 : decode xb_Mo_close 30 = .ok (.baload, 1) := by decide +kernel
theorem xd_Mo_close_31 : decode xb_Mo_close 31 = .ok (.ifCond .eq 15, 3) := by decide +kernel
theorem xd_Mo_close_34 : decode xb_Mo_close 34 = .ok (.aload_n 0, 1) := by decide +kernel
theorem xd_Mo_close_35 : decode xb_Mo_close 35 = .ok (.getfield 69, 3) := by decide +kernel
theorem xd_Mo_close_38 : decode xb_Mo_close 38 = .ok (.iload_n 2, 1) := by decide +kernel
theorem xd_Mo_close_39 : decode xb_Mo_close 39 = .ok (.iaload, 1) := by decide +kernel
theorem xd_Mo_close_40 : decode xb_Mo_close 40 = .ok (.iload_n 1, 1) := by decide +kernel
theorem xd_Mo_close_41 : decode xb_Mo_close 41 = .ok (.if_icmp .ne 5, 3) := by decide +kernel
theorem xd_Mo_close_44 : decode xb_Mo_close 44 = .ok (.iconst 0, 1) := by decide +kernel
theorem xd_Mo_close_45 : decode xb_Mo_close 45 = .ok (.ireturn, 1) := by decide +kernel
theorem xd_Mo_close_46 : decode xb_Mo_close 46 = .ok (.iinc 2 1, 3) := by decide +kernel
theorem xd_Mo_close_49 : decode xb_Mo_close 49 = .ok (.goto (-32), 3) := by decide +kernel
theorem xd_Mo_close_52 : decode xb_Mo_close 52 = .ok (.aload_n 0, 1) := by decide +kernel
theorem xd_Mo_close_53 : decode xb_Mo_close 53 = .ok (.getfield 78, 3) := by decide +kernel
theorem xd_Mo_close_56 : decode xb_Mo_close 56 = .ok (.iload_n 1, 1) := by decide +kernel
theorem xd_Mo_close_57 : decode xb_Mo_close 57 = .ok (.iconst 0, 1) := by decide +kernel
theorem xd_Mo_close_58 : decode xb_Mo_close 58 = .ok (.bastore, 1) := by decide +kernel
theorem xd_Mo_close_59 : decode xb_Mo_close 59 = .ok (.iconst 1, 1) := by decide +kernel
theorem xd_Mo_close_60 : decode xb_Mo_close 60 = .ok (.ireturn, 1) := by decide +kernel
theorem xd_Mo_count_0 : decode xb_Mo_count 0 = .ok (.aload_n 0, 1) := by decide +kernel
theorem xd_Mo_count_1 : decode xb_Mo_count 1 = .ok (.iconst 0, 1) := by decide +kernel
theorem xd_Mo_count_2 : decode xb_Mo_count 2 = .ok (.putfield 87, 3) := by decide +kernel
theorem xd_Mo_count_5 : decode xb_Mo_count 5 = .ok (.iconst 0, 1) := by decide +kernel
theorem xd_Mo_count_6 : decode xb_Mo_count 6 = .ok (.istore_n 2, 1) := by decide +kernel
theorem xd_Mo_count_7 : decode xb_Mo_count 7 = .ok (.iconst 0, 1) := by decide +kernel
theorem xd_Mo_count_8 : decode xb_Mo_count 8 = .ok (.istore_n 3, 1) := by decide +kernel
theorem xd_Mo_count_9 : decode xb_Mo_count 9 = .ok (.iload_n 3, 1) := by decide +kernel
theorem xd_Mo_count_10 : decode xb_Mo_count 10 = .ok (.aload_n 0, 1) := by decide +kernel
theorem xd_Mo_count_11 : decode xb_Mo_count 11 = .ok (.getfield 150, 3) := by decide +kernel
theorem xd_Mo_count_14 : decode xb_Mo_count 14 = .ok (.if_icmp .ge 26, 3) := by decide +kernel
theorem xd_Mo_count_17 : decode xb_Mo_count 17 = .ok (.aload_n 0, 1) := by decide +kernel
theorem xd_Mo_count_18 : decode xb_Mo_count 18 = .ok (.getfield 78, 3) := by decide +kernel
theorem xd_Mo_count_21 : decode xb_Mo_count 21 = .ok (.iload_n 3, 1) := by decide +kernel
theorem xd_Mo_count_22 : decode xb_Mo_count 22 = .ok (.baload, 1) := by decide +kernel
theorem xd_Mo_count_23 : decode xb_Mo_count 23 = .ok (.ifCond .eq 9, 3) := by decide +kernel
theorem xd_Mo_count_26 : decode xb_Mo_count 26 = .ok (.iload_n 2, 1) := by decide +kernel
theorem xd_Mo_count_27 : decode xb_Mo_count 27 = .ok (.iconst 1, 1) := by decide +kernel
theorem xd_Mo_count_28 : decode xb_Mo_count 28 = .ok (.iadd, 1) := by decide +kernel
theorem xd_Mo_count_29 : decode xb_Mo_count 29 = .ok (.goto 4, 3) := by decide +kernel
theorem xd_Mo_count_32 : decode xb_Mo_count 32 = .ok (.iload_n 2, 1) := by decide +kernel
theorem xd_Mo_count_33 : decode xb_Mo_count 33 = .ok (.istore_n 2, 1) := by decide +kernel
theorem xd_Mo_count_34 : decode xb_Mo_count 34 = .ok (.iinc 3 1, 3) := by decide +kernel
theorem xd_Mo_count_37 : decode xb_Mo_count 37 = .ok (.goto (-28), 3) := by decide +kernel
theorem xd_Mo_count_40 : decode xb_Mo_count 40 = .ok (.iload_n 1, 1) := by decide +kernel
theorem xd_Mo_count_41 : decode xb_Mo_count 41 = .ok (.ifCond .ne 10, 3) := by decide +kernel
theorem xd_Mo_count_44 : decode xb_Mo_count 44 = .ok (.aload_n 0, 1) := by decide +kernel
theorem xd_Mo_count_45 : decode xb_Mo_count 45 = .ok (.getfield 140, 3) := by decide +kernel
theorem xd_Mo_count_48 : decode xb_Mo_count 48 = .ok (.goto 25, 3) := by decide +kernel
theorem xd_Mo_count_51 : decode xb_Mo_count 51 = .ok (.iload_n 1, 1) := by decide +kernel
theorem xd_Mo_count_52 : decode xb_Mo_count 52 = .ok (.iconst 1, 1) := by decide +kernel
theorem xd_Mo_count_53 : decode xb_Mo_count 53 = .ok (.if_icmp .ne 10, 3) := by decide +kernel
theorem xd_Mo_count_56 : decode xb_Mo_count 56 = .ok (.aload_n 0, 1) := by decide +kernel
theorem xd_Mo_count_57 : decode xb_Mo_count 57 = .ok (.getfield 150, 3) := by decide +kernel
theorem xd_Mo_count_60 : decode xb_Mo_count 60 = .ok (.goto 13, 3) := by decide +kernel
theorem xd_Mo_count_63 : decode xb_Mo_count 63 = .ok (.iload_n 1, 1) := by decide +kernel
theorem xd_Mo_count_64 : decode xb_Mo_count 64 = .ok (.iconst 2, 1) := by decide +kernel
theorem xd_Mo_count_65 : decode xb_Mo_count 65 = .ok (.if_icmp .ne 7, 3) := by decide +kernel
theorem xd_Mo_count_68 : decode xb_Mo_count 68 = .ok (.iload_n 2, 1) := by decide +kernel
theorem xd_Mo_count_69 : decode xb_Mo_count 69 = .ok (.goto 4, 3) := by decide +kernel
theorem xd_Mo_count_72 : decode xb_Mo_count 72 = .ok (.iconst (-1), 1) := by decide +kernel
theorem xd_Mo_count_73 : decode xb_Mo_count 73 = .ok (.ireturn, 1) := by decide +kernel
theorem xd_Mo_fault_0 : decode xb_Mo_fault 0 = .ok (.aload_n 0, 1) := by decide +kernel
theorem xd_Mo_fault_1 : decode xb_Mo_fault 1 = .ok (.iconst 0, 1) := by decide +kernel
theorem xd_Mo_fault_2 : decode xb_Mo_fault 2 = .ok (.putfield 87, 3) := by decide +kernel
theorem xd_Mo_fault_5 : decode xb_Mo_fault 5 = .ok (.aload_n 0, 1) := by decide +kernel
theorem xd_Mo_fault_6 : decode xb_Mo_fault 6 = .ok (.getfield 187, 3) := by decide +kernel
theorem xd_Mo_fault_9 : decode xb_Mo_fault 9 = .ok (.ireturn, 1) := by decide +kernel
theorem xd_Mo_isThere_0 : decode xb_Mo_isThere 0 = .ok (.aload_n 0, 1) := by decide +kernel
theorem xd_Mo_isThere_1 : decode xb_Mo_isThere 1 = .ok (.iload_n 1, 1) := by decide +kernel
theorem xd_Mo_isThere_2 : decode xb_Mo_isThere 2 = .ok (.invokevirtual 190, 3) := by decide +kernel
theorem xd_Mo_isThere_5 : decode xb_Mo_isThere 5 = .ok (.ifCond .eq 28, 3) := by decide +kernel
theorem xd_Mo_isThere_8 : decode xb_Mo_isThere 8 = .ok (.iload_n 2, 1) := by decide +kernel
theorem xd_Mo_isThere_9 : decode xb_Mo_isThere 9 = .ok (.ifCond .lt 24, 3) := by decide +kernel
theorem xd_Mo_isThere_12 : decode xb_Mo_isThere 12 = .ok (.iload_n 2, 1) := by decide +kernel
theorem xd_Mo_isThere_13 : decode xb_Mo_isThere 13 = .ok (.aload_n 0, 1) := by decide +kernel
theorem xd_Mo_isThere_14 : decode xb_Mo_isThere 14 = .ok (.getfield 140, 3) := by decide +kernel
theorem xd_Mo_isThere_17 : decode xb_Mo_isThere 17 = .ok (.if_icmp .ge 16, 3) := by decide +kernel
theorem xd_Mo_isThere_20 : decode xb_Mo_isThere 20 = .ok (.aload_n 0, 1) := by decide +kernel
theorem xd_Mo_isThere_21 : decode xb_Mo_isThere 21 = .ok (.iload_n 1, 1) := by decide +kernel
theorem xd_Mo_isThere_22 : decode xb_Mo_isThere 22 = .ok (.iload_n 2, 1) := by decide +kernel
theorem xd_Mo_isThere_23 : decode xb_Mo_isThere 23 = .ok (.invokevirtual 156, 3) := by decide +kernel
theorem xd_Mo_isThere_26 : decode xb_Mo_isThere 26 = .ok (.ifCond .eq 7, 3) := by decide +kernel
theorem xd_Mo_isThere_29 : decode xb_Mo_isThere 29 = .ok (.iconst 1, 1) := by decide +kernel
theorem xd_Mo_isThere_30 : decode xb_Mo_isThere 30 = .ok (.goto 4, 3) := by decide +kernel
theorem xd_Mo_isThere_33 : decode xb_Mo_isThere 33 = .ok (.iconst 0, 1) := by decide +kernel
theorem xd_Mo_isThere_34 : decode xb_Mo_isThere 34 = .ok (.ireturn, 1) := by decide +kernel
theorem xd_Mo_module_0 : decode xb_Mo_module 0 = .ok (.aload_n 0, 1) := by decide +kernel
theorem xd_Mo_module_1 : decode xb_Mo_module 1 = .ok (.iconst 0, 1) := by decide +kernel
theorem xd_Mo_module_2 : decode xb_Mo_module 2 = .ok (.putfield 87, 3) := by decide +kernel
theorem xd_Mo_module_5 : decode xb_Mo_module 5 = .ok (.aload_n 0, 1) := by decide +kernel
theorem xd_Mo_module_6 : decode xb_Mo_module 6 = .ok (.iload_n 1, 1) := by decide +kernel
theorem xd_Mo_module_7 : decode xb_Mo_module 7 = .ok (.iload_n 2, 1) := by decide +kernel
theorem xd_Mo_module_8 : decode xb_Mo_module 8 = .ok (.invokevirtual 199, 3) := by decide +kernel
theorem xd_Mo_module_11 : decode xb_Mo_module 11 = .ok (.ireturn, 1) := by decide +kernel
theorem xd_Mo_moduleOf_0 : decode xb_Mo_moduleOf 0 = .ok (.aload_n 0, 1) := by decide +kernel
theorem xd_Mo_moduleOf_1 : decode xb_Mo_moduleOf 1 = .ok (.iload_n 1, 1) := by decide +kernel
theorem xd_Mo_moduleOf_2 : decode xb_Mo_moduleOf 2 = .ok (.invokevirtual 190, 3) := by decide +kernel
theorem xd_Mo_moduleOf_5 : decode xb_Mo_moduleOf 5 = .ok (.ifCond .eq 31, 3) := by decide +kernel
theorem xd_Mo_moduleOf_8 : decode xb_Mo_moduleOf 8 = .ok (.iload_n 2, 1) := by decide +kernel
theorem xd_Mo_moduleOf_9 : decode xb_Mo_moduleOf 9 = .ok (.ifCond .lt 27, 3) := by decide +kernel
theorem xd_Mo_moduleOf_12 : decode xb_Mo_moduleOf 12 = .ok (.iload_n 2, 1) := by decide +kernel
theorem xd_Mo_moduleOf_13 : decode xb_Mo_moduleOf 13 = .ok (.aload_n 0, 1) := by decide +kernel
theorem xd_Mo_moduleOf_14 : decode xb_Mo_moduleOf 14 = .ok (.getfield 72, 3) := by decide +kernel
theorem xd_Mo_moduleOf_17 : decode xb_Mo_moduleOf 17 = .ok (.iload_n 1, 1) := by decide +kernel
theorem xd_Mo_moduleOf_18 : decode xb_Mo_moduleOf 18 = .ok (.iaload, 1) := by decide +kernel
theorem xd_Mo_moduleOf_19 : decode xb_Mo_moduleOf 19 = .ok (.if_icmp .ge 17, 3) := by decide +kernel
theorem xd_Mo_moduleOf_22 : decode xb_Mo_moduleOf 22 = .ok (.aload_n 0, 1) := by decide +kernel
theorem xd_Mo_moduleOf_23 : decode xb_Mo_moduleOf 23 = .ok (.getfield 75, 3) := by decide +kernel
theorem xd_Mo_moduleOf_26 : decode xb_Mo_moduleOf 26 = .ok (.bipush 12, 2) := by decide +kernel
theorem xd_Mo_moduleOf_28 : decode xb_Mo_moduleOf 28 = .ok (.iload_n 1, 1) := by decide +kernel
theorem xd_Mo_moduleOf_29 : decode xb_Mo_moduleOf 29 = .ok (.imul, 1) := by decide +kernel
theorem xd_Mo_moduleOf_30 : decode xb_Mo_moduleOf 30 = .ok (.iload_n 2, 1) := by decide +kernel
theorem xd_Mo_moduleOf_31 : decode xb_Mo_moduleOf 31 = .ok (.iadd, 1) := by decide +kernel
theorem xd_Mo_moduleOf_32 : decode xb_Mo_moduleOf 32 = .ok (.iaload, 1) := by decide +kernel
theorem xd_Mo_moduleOf_33 : decode xb_Mo_moduleOf 33 = .ok (.goto 4, 3) := by decide +kernel
theorem xd_Mo_moduleOf_36 : decode xb_Mo_moduleOf 36 = .ok (.iconst (-1), 1) := by decide +kernel
theorem xd_Mo_moduleOf_37 : decode xb_Mo_moduleOf 37 = .ok (.ireturn, 1) := by decide +kernel
theorem xd_Mo_modules_0 : decode xb_Mo_modules 0 = .ok (.aload_n 0, 1) := by decide +kernel
theorem xd_Mo_modules_1 : decode xb_Mo_modules 1 = .ok (.iconst 0, 1) := by decide +kernel
theorem xd_Mo_modules_2 : decode xb_Mo_modules 2 = .ok (.putfield 87, 3) := by decide +kernel
theorem xd_Mo_modules_5 : decode xb_Mo_modules 5 = .ok (.aload_n 0, 1) := by decide +kernel
theorem xd_Mo_modules_6 : decode xb_Mo_modules 6 = .ok (.iload_n 1, 1) := by decide +kernel
theorem xd_Mo_modules_7 : decode xb_Mo_modules 7 = .ok (.invokevirtual 190, 3) := by decide +kernel
theorem xd_Mo_modules_10 : decode xb_Mo_modules 10 = .ok (.ifCond .eq 12, 3) := by decide +kernel
theorem xd_Mo_modules_13 : decode xb_Mo_modules 13 = .ok (.aload_n 0, 1) := by decide +kernel
theorem xd_Mo_modules_14 : decode xb_Mo_modules 14 = .ok (.getfield 72, 3) := by decide +kernel
theorem xd_Mo_modules_17 : decode xb_Mo_modules 17 = .ok (.iload_n 1, 1) := by decide +kernel
theorem xd_Mo_modules_18 : decode xb_Mo_modules 18 = .ok (.iaload, 1) := by decide +kernel
theorem xd_Mo_modules_19 : decode xb_Mo_modules 19 = .ok (.goto 4, 3) := by decide +kernel
theorem xd_Mo_modules_22 : decode xb_Mo_modules 22 = .ok (.iconst (-1), 1) := by decide +kernel
theorem xd_Mo_modules_23 : decode xb_Mo_modules 23 = .ok (.ireturn, 1) := by decide +kernel
theorem xd_Mo_reads_0 : decode xb_Mo_reads 0 = .ok (.aload_n 0, 1) := by decide +kernel
theorem xd_Mo_reads_1 : decode xb_Mo_reads 1 = .ok (.iconst 0, 1) := by decide +kernel
theorem xd_Mo_reads_2 : decode xb_Mo_reads 2 = .ok (.putfield 87, 3) := by decide +kernel
theorem xd_Mo_reads_5 : decode xb_Mo_reads 5 = .ok (.aload_n 0, 1) := by decide +kernel
theorem xd_Mo_reads_6 : decode xb_Mo_reads 6 = .ok (.iload_n 1, 1) := by decide +kernel
theorem xd_Mo_reads_7 : decode xb_Mo_reads 7 = .ok (.iload_n 2, 1) := by decide +kernel
theorem xd_Mo_reads_8 : decode xb_Mo_reads 8 = .ok (.invokevirtual 199, 3) := by decide +kernel
theorem xd_Mo_reads_11 : decode xb_Mo_reads 11 = .ok (.istore 5, 2) := by decide +kernel
theorem xd_Mo_reads_13 : decode xb_Mo_reads 13 = .ok (.iload 5, 2) := by decide +kernel
theorem xd_Mo_reads_15 : decode xb_Mo_reads 15 = .ok (.ifCond .lt 13, 3) := by decide +kernel
theorem xd_Mo_reads_18 : decode xb_Mo_reads 18 = .ok (.aload_n 0, 1) := by decide +kernel
theorem xd_Mo_reads_19 : decode xb_Mo_reads 19 = .ok (.iload_n 3, 1) := by decide +kernel
theorem xd_Mo_reads_20 : decode xb_Mo_reads 20 = .ok (.iload 4, 2) := by decide +kernel
theorem xd_Mo_reads_22 : decode xb_Mo_reads 22 = .ok (.invokevirtual 202, 3) := by decide +kernel
theorem xd_Mo_reads_25 : decode xb_Mo_reads 25 = .ok (.ifCond .ne 5, 3) := by decide +kernel
theorem xd_Mo_reads_28 : decode xb_Mo_reads 28 = .ok (.iconst 0, 1) := by decide +kernel
theorem xd_Mo_reads_29 : decode xb_Mo_reads 29 = .ok (.ireturn, 1) := by decide +kernel
theorem xd_Mo_reads_30 : decode xb_Mo_reads 30 = .ok (.aload_n 0, 1) := by decide +kernel
theorem xd_Mo_reads_31 : decode xb_Mo_reads 31 = .ok (.iload_n 1, 1) := by decide +kernel
theorem xd_Mo_reads_32 : decode xb_Mo_reads 32 = .ok (.iload 5, 2) := by decide +kernel
theorem xd_Mo_reads_34 : decode xb_Mo_reads 34 = .ok (.invokevirtual 171, 3) := by decide +kernel
theorem xd_Mo_reads_37 : decode xb_Mo_reads 37 = .ok (.aload_n 0, 1) := by decide +kernel
theorem xd_Mo_reads_38 : decode xb_Mo_reads 38 = .ok (.getfield 84, 3) := by decide +kernel
theorem xd_Mo_reads_41 : decode xb_Mo_reads 41 = .ok (.bipush 12, 2) := by decide +kernel
theorem xd_Mo_reads_43 : decode xb_Mo_reads 43 = .ok (.iload_n 3, 1) := by decide +kernel
theorem xd_Mo_reads_44 : decode xb_Mo_reads 44 = .ok (.imul, 1) := by decide +kernel
theorem xd_Mo_reads_45 : decode xb_Mo_reads 45 = .ok (.iload 4, 2) := by decide +kernel
theorem xd_Mo_reads_47 : decode xb_Mo_reads 47 = .ok (.iadd, 1) := by decide +kernel
theorem xd_Mo_reads_48 : decode xb_Mo_reads 48 = .ok (.baload, 1) := by decide +kernel
theorem xd_Mo_reads_49 : decode xb_Mo_reads 49 = .ok (.ireturn, 1) := by decide +kernel
theorem xd_Mo_write_0 : decode xb_Mo_write 0 = .ok (.aload_n 0, 1) := by decide +kernel
theorem xd_Mo_write_1 : decode xb_Mo_write 1 = .ok (.iconst 0, 1) := by decide +kernel
theorem xd_Mo_write_2 : decode xb_Mo_write 2 = .ok (.putfield 87, 3) := by decide +kernel
theorem xd_Mo_write_5 : decode xb_Mo_write 5 = .ok (.iload_n 1, 1) := by decide +kernel
theorem xd_Mo_write_6 : decode xb_Mo_write 6 = .ok (.bipush 32, 2) := by decide +kernel
theorem xd_Mo_write_8 : decode xb_Mo_write 8 = .ok (.if_icmp .lt 18, 3) := by decide +kernel
theorem xd_Mo_write_11 : decode xb_Mo_write 11 = .ok (.iload_n 1, 1) := by decide +kernel
theorem xd_Mo_write_12 : decode xb_Mo_write 12 = .ok (.bipush 126, 2) := by decide +kernel
theorem xd_Mo_write_14 : decode xb_Mo_write 14 = .ok (.if_icmp .gt 12, 3) := by decide +kernel
theorem xd_Mo_write_17 : decode xb_Mo_write 17 = .ok (.aload_n 0, 1) := by decide +kernel
theorem xd_Mo_write_18 : decode xb_Mo_write 18 = .ok (.getfield 91, 3) := by decide +kernel
theorem xd_Mo_write_21 : decode xb_Mo_write 21 = .ok (.bipush 40, 2) := by decide +kernel
theorem xd_Mo_write_23 : decode xb_Mo_write 23 = .ok (.if_icmp .lt 5, 3) := by decide +kernel
theorem xd_Mo_write_26 : decode xb_Mo_write 26 = .ok (.iconst 0, 1) := by decide +kernel
theorem xd_Mo_write_27 : decode xb_Mo_write 27 = .ok (.ireturn, 1) := by decide +kernel
theorem xd_Mo_write_28 : decode xb_Mo_write 28 = .ok (.aload_n 0, 1) := by decide +kernel
theorem xd_Mo_write_29 : decode xb_Mo_write 29 = .ok (.getfield 7, 3) := by decide +kernel
theorem xd_Mo_write_32 : decode xb_Mo_write 32 = .ok (.aload_n 0, 1) := by decide +kernel
theorem xd_Mo_write_33 : decode xb_Mo_write 33 = .ok (.getfield 91, 3) := by decide +kernel
theorem xd_Mo_write_36 : decode xb_Mo_write 36 = .ok (.iload_n 1, 1) := by decide +kernel
theorem xd_Mo_write_37 : decode xb_Mo_write 37 = .ok (.castore, 1) := by decide +kernel
theorem xd_Mo_write_38 : decode xb_Mo_write 38 = .ok (.aload_n 0, 1) := by decide +kernel
theorem xd_Mo_write_39 : decode xb_Mo_write 39 = .ok (.dup, 1) := by decide +kernel
theorem xd_Mo_write_40 : decode xb_Mo_write 40 = .ok (.getfield 91, 3) := by decide +kernel
theorem xd_Mo_write_43 : decode xb_Mo_write 43 = .ok (.iconst 1, 1) := by decide +kernel
theorem xd_Mo_write_44 : decode xb_Mo_write 44 = .ok (.iadd, 1) := by decide +kernel
theorem xd_Mo_write_45 : decode xb_Mo_write 45 = .ok (.putfield 91, 3) := by decide +kernel
theorem xd_Mo_write_48 : decode xb_Mo_write 48 = .ok (.iconst 1, 1) := by decide +kernel
theorem xd_Mo_write_49 : decode xb_Mo_write 49 = .ok (.ireturn, 1) := by decide +kernel
theorem xy3_0 : (Cond.fieldLink "LayerDeskModel" 87 "LayerDeskModel" "fault" "I") ∈ wT := wT_t (List.mem_append_right _ (List.mem_append_right _ (List.mem_append_right _ (List.mem_append_left _ (List.mem_of_getElem? (i := 84) rfl))))) rfl
theorem xy3_1 : (Cond.fieldLink "LayerDeskModel" 91 "LayerDeskModel" "written" "I") ∈ wT := wT_t (List.mem_append_right _ (List.mem_append_right _ (List.mem_append_right _ (List.mem_append_left _ (List.mem_of_getElem? (i := 87) rfl))))) rfl
theorem xy3_2 : (Cond.fieldLink "LayerDeskModel" 7 "LayerDeskModel" "text" "[C") ∈ wT := wT_t (List.mem_append_right _ (List.mem_append_right _ (List.mem_append_right _ (List.mem_append_left _ (List.mem_of_getElem? (i := 86) rfl))))) rfl
theorem xy3_3 : (Cond.fieldLink "LayerDeskModel" 187 "LayerDeskModel" "why" "I") ∈ wT := wT_t (List.mem_append_right _ (List.mem_append_right _ (List.mem_append_right _ (List.mem_append_left _ (List.mem_of_getElem? (i := 85) rfl))))) rfl
theorem xy3_4 : (Cond.code xy_Mo_isOpen xb_Mo_isOpen 2 (some .boolean)) ∈ wT := wT_t (List.mem_append_right _ (List.mem_append_right _ (List.mem_append_right _ (List.mem_append_right _ (List.mem_of_getElem? (i := 12) rfl))))) rfl
theorem xy3_5 : (Cond.methodLink "LayerDeskModel" 190 xy_Mo_isOpen) ∈ wT := wT_t (List.mem_append_right _ (List.mem_append_right _ (List.mem_append_right _ (List.mem_append_right _ (List.mem_of_getElem? (i := 9) rfl))))) rfl
theorem xy3_6 : (Cond.instanceMethod xy_Mo_isOpen) ∈ wT := wT_t (List.mem_append_right _ (List.mem_append_right _ (List.mem_append_right _ (List.mem_append_right _ (List.mem_of_getElem? (i := 11) rfl))))) rfl
theorem xy3_7 : (Cond.selects "LayerDeskModel" xy_Mo_isOpen xy_Mo_isOpen) ∈ wT := wT_s (q := (xy_Mo_isOpen, 31)) (by decide +kernel) rfl
theorem xy3_8 : (Cond.initialized "LayerDeskModel") ∈ wT := wT_t (List.mem_append_left _ (List.mem_of_getElem? (i := 5) rfl)) rfl
theorem xy3_9 : (Cond.fieldLink "LayerDeskModel" 150 "LayerDeskModel" "layers" "I") ∈ wT := wT_t (List.mem_append_right _ (List.mem_append_right _ (List.mem_append_right _ (List.mem_append_left _ (List.mem_of_getElem? (i := 107) rfl))))) rfl
theorem xy3_10 : (Cond.fieldLink "LayerDeskModel" 78 "LayerDeskModel" "open" "[Z") ∈ wT := wT_t (List.mem_append_right _ (List.mem_append_right _ (List.mem_append_right _ (List.mem_append_left _ (List.mem_of_getElem? (i := 112) rfl))))) rfl
theorem xy3_11 : (Cond.fieldLink "LayerDeskModel" 69 "LayerDeskModel" "parent" "[I") ∈ wT := wT_t (List.mem_append_right _ (List.mem_append_right _ (List.mem_append_right _ (List.mem_append_left _ (List.mem_of_getElem? (i := 109) rfl))))) rfl
theorem xy3_12 : (Cond.fieldLink "LayerDeskModel" 140 "LayerDeskModel" "descriptors" "I") ∈ wT := wT_t (List.mem_append_right _ (List.mem_append_right _ (List.mem_append_right _ (List.mem_append_left _ (List.mem_of_getElem? (i := 91) rfl))))) rfl
theorem xy3_13 : (Cond.fieldLink "LayerDeskModel" 72 "LayerDeskModel" "modules" "[I") ∈ wT := wT_t (List.mem_append_right _ (List.mem_append_right _ (List.mem_append_right _ (List.mem_append_left _ (List.mem_of_getElem? (i := 110) rfl))))) rfl
theorem xy3_14 : (Cond.fieldLink "LayerDeskModel" 75 "LayerDeskModel" "module" "[I") ∈ wT := wT_t (List.mem_append_right _ (List.mem_append_right _ (List.mem_append_right _ (List.mem_append_left _ (List.mem_of_getElem? (i := 111) rfl))))) rfl
theorem xy3_15 : (Cond.code xy_Mo_moduleOf xb_Mo_moduleOf 3 (some .int)) ∈ wT := wT_t (List.mem_append_right _ (List.mem_append_right _ (List.mem_append_right _ (List.mem_append_right _ (List.mem_of_getElem? (i := 84) rfl))))) rfl
theorem xy3_16 : (Cond.methodLink "LayerDeskModel" 199 xy_Mo_moduleOf) ∈ wT := wT_t (List.mem_append_right _ (List.mem_append_right _ (List.mem_append_right _ (List.mem_append_right _ (List.mem_of_getElem? (i := 81) rfl))))) rfl
theorem xy3_17 : (Cond.instanceMethod xy_Mo_moduleOf) ∈ wT := wT_t (List.mem_append_right _ (List.mem_append_right _ (List.mem_append_right _ (List.mem_append_right _ (List.mem_of_getElem? (i := 83) rfl))))) rfl
theorem xy3_18 : (Cond.selects "LayerDeskModel" xy_Mo_moduleOf xy_Mo_moduleOf) ∈ wT := wT_s (q := (xy_Mo_moduleOf, 31)) (by decide +kernel) rfl
theorem xy3_19 : (Cond.code xy_Mo_isIn xb_Mo_isIn 5 (some .boolean)) ∈ wT := wT_t (List.mem_append_right _ (List.mem_append_right _ (List.mem_append_right _ (List.mem_append_right _ (List.mem_of_getElem? (i := 24) rfl))))) rfl
theorem xy3_20 : (Cond.methodLink "LayerDeskModel" 156 xy_Mo_isIn) ∈ wT := wT_t (List.mem_append_right _ (List.mem_append_right _ (List.mem_append_right _ (List.mem_append_right _ (List.mem_of_getElem? (i := 21) rfl))))) rfl
theorem xy3_21 : (Cond.instanceMethod xy_Mo_isIn) ∈ wT := wT_t (List.mem_append_right _ (List.mem_append_right _ (List.mem_append_right _ (List.mem_append_right _ (List.mem_of_getElem? (i := 23) rfl))))) rfl
theorem xy3_22 : (Cond.selects "LayerDeskModel" xy_Mo_isIn xy_Mo_isIn) ∈ wT := wT_s (q := (xy_Mo_isIn, 31)) (by decide +kernel) rfl
theorem xy3_23 : (Cond.code xy_Mo_isThere xb_Mo_isThere 3 (some .boolean)) ∈ wT := wT_t (List.mem_append_right _ (List.mem_append_right _ (List.mem_append_right _ (List.mem_append_right _ (List.mem_of_getElem? (i := 92) rfl))))) rfl
theorem xy3_24 : (Cond.methodLink "LayerDeskModel" 202 xy_Mo_isThere) ∈ wT := wT_t (List.mem_append_right _ (List.mem_append_right _ (List.mem_append_right _ (List.mem_append_right _ (List.mem_of_getElem? (i := 89) rfl))))) rfl
theorem xy3_25 : (Cond.instanceMethod xy_Mo_isThere) ∈ wT := wT_t (List.mem_append_right _ (List.mem_append_right _ (List.mem_append_right _ (List.mem_append_right _ (List.mem_of_getElem? (i := 91) rfl))))) rfl
theorem xy3_26 : (Cond.selects "LayerDeskModel" xy_Mo_isThere xy_Mo_isThere) ∈ wT := wT_s (q := (xy_Mo_isThere, 31)) (by decide +kernel) rfl
theorem xy3_27 : (Cond.code xy_Mo_reading xb_Mo_reading 7 none) ∈ wT := wT_t (List.mem_append_right _ (List.mem_append_right _ (List.mem_append_right _ (List.mem_append_right _ (List.mem_of_getElem? (i := 48) rfl))))) rfl
theorem xy3_28 : (Cond.methodLink "LayerDeskModel" 171 xy_Mo_reading) ∈ wT := wT_t (List.mem_append_right _ (List.mem_append_right _ (List.mem_append_right _ (List.mem_append_right _ (List.mem_of_getElem? (i := 45) rfl))))) rfl
theorem xy3_29 : (Cond.instanceMethod xy_Mo_reading) ∈ wT := wT_t (List.mem_append_right _ (List.mem_append_right _ (List.mem_append_right _ (List.mem_append_right _ (List.mem_of_getElem? (i := 47) rfl))))) rfl
theorem xy3_30 : (Cond.selects "LayerDeskModel" xy_Mo_reading xy_Mo_reading) ∈ wT := wT_s (q := (xy_Mo_reading, 31)) (by decide +kernel) rfl
theorem xy3_31 : (Cond.fieldLink "LayerDeskModel" 84 "LayerDeskModel" "seen" "[Z") ∈ wT := wT_t (List.mem_append_right _ (List.mem_append_right _ (List.mem_append_right _ (List.mem_append_left _ (List.mem_of_getElem? (i := 114) rfl))))) rfl
set_option maxHeartbeats 4000000 in
set_option maxRecDepth 100000 in
theorem xc_Mo_write (l : Launch) (D : va_G) (kA : Nat → ClassId) (sz h : Nat) (mm : Nat → Nat) (v : Nat → Int32) (g : Nat → Nat → Int32) (cc9 : Int32) (wr : Nat) (hMI : MI v g) (hwr : v 2 = nI wr) (hwr40 : wr ≤ 40) : Met l xy_Mo_write (.code xy_Mo_write xb_Mo_write 2 (some .boolean) :: wT) { frames := 0, cells := 0, slots := 0, locals := 0 } (va_Pc [.ref h, .int cc9] (xPre D kA sz (moW h mm kA v g))) (va_Qi (fun (r : Int32) (u : (Nat → Int32) × (Nat → Nat → Int32)) => MI u.1 u.2 ∧ ((u.1 2 = nI wr ∧ r = 0 ∧ (cc9 < 32 ∨ 126 < cc9 ∨ wr = 40)) ∨ (u.1 2 = nI (wr + 1) ∧ r = 1 ∧ wr < 40 ∧ ¬ cc9 < 32 ∧ ¬ 126 < cc9))) (fun (u : (Nat → Int32) × (Nat → Nat → Int32)) t => va_P D xcl (moW h mm kA u.1 u.2) t.heap ∧ va_D (va_A (moW h mm kA v g) sz) (moW h mm kA u.1 u.2)) (va_A (moW h mm kA v g) sz)) 0 0 (va_A (moW h mm kA v g) sz) := by
  refine Met.ofW (cc := xb_Mo_write) (maxL := 2) (ret := (some .boolean)) (by decide) rfl ?_
  intro p e s m args below meth c s₁ B hml hv
  obtain ⟨rfl, hsz, hP, hK, hD0⟩ := hv
  have hx := B.exec
  have hb := B.bytes
  have hr := B.returns
  have hT := x_hT B.pre
  have hown : s.vm.findClass xR_Mo = some m.cls := findClass_of_methodNamed B.named
  have hlocks := B.notSynchronized
  subst hsz
  have hD := hD0.self (sz := s.heap.size)
  generalize hAe : va_A (moW h mm kA v g) s.heap.size = A at hD ⊢
  have hA : ∀ q : Nat, s.heap.size ≤ q → A q := fun q h => by rw [← hAe]; exact Or.inr h
  have hS : va_S A s.heap s.heap [] := va_S.rf
  have hl := lv_entry ([.ref h, .int cc9]) (n := 2) (Nat.le_of_ble_eq_true rfl)
  rw [lg_entry_eq]
  generalize (lg_sl ([.ref h, .int cc9]) ++ List.replicate (2 - (lg_sl ([.ref h, .int cc9])).length) Slot.unset).toArray = ls at hl ⊢
  have hl : lv_has ls 2 [(0, .ref h), (1, .int cc9)] := hl
  have hP : va_P D xcl (moW h mm kA v g) s.heap := hP
  refine lv_aload_n hx hb xd_Mo_write_0 rfl (lv_at hl 0 rfl) ?_
  refine lv_iconst (v := 0) hx hb xd_Mo_write_1 (by decide) ?_
  refine va_put (D := D) (ci := 4) (v := .int 0) (ty := .int) (C := xR_Mo) (T := xT_Mo) (N := 31) hx hb hT xi_Mo xt_Mo xt_Mo_ok xn_Mo hown hK.1 hP hD hS 0 rfl rfl 0 (by decide) (hT _ xy3_0) (fun _ h9 => h9) rfl (by decide +kernel) rfl rfl (Nat.le_of_ble_eq_true rfl) xd_Mo_write_2 (fun H locs hP hD hS => ?_)
  have hP : va_P D xcl (moW h mm kA (va_up v 0 0) g) H := hP
  have hD : va_D A (moW h mm kA (va_up v 0 0) g) := hD
  refine lv_iload_n hx hb xd_Mo_write_5 rfl (lv_at hl 1 rfl) ?_
  refine lv_bipush (v := 32) hx hb xd_Mo_write_6 (by decide) ?_
  refine lv_icmp_lt (tgt := 26) hx hb xd_Mo_write_8 (by decide) (fun hc1 => ?_) (fun hc1 => ?_)
  · refine lv_iconst (v := 0) hx hb xd_Mo_write_26 (by decide) ?_
    exact W.zret (v := 0) hx hb hr rfl (fun t ht hW => ⟨⟨0, ((va_up v 0 0), g), rfl, ⟨MI_v rfl rfl hMI, Or.inl ⟨hwr, rfl, Or.inl hc1⟩⟩, by rw [ht]; exact hP, hD⟩, hS.F ht⟩) hS.2.2 xd_Mo_write_27
  · refine lv_iload_n hx hb xd_Mo_write_11 rfl (lv_at hl 1 rfl) ?_
    refine lv_bipush (v := 126) hx hb xd_Mo_write_12 (by decide) ?_
    refine lv_icmp_gt (tgt := 26) hx hb xd_Mo_write_14 (by decide) (fun hc2 => ?_) (fun hc2 => ?_)
    · refine lv_iconst (v := 0) hx hb xd_Mo_write_26 (by decide) ?_
      exact W.zret (v := 0) hx hb hr rfl (fun t ht hW => ⟨⟨0, ((va_up v 0 0), g), rfl, ⟨MI_v rfl rfl hMI, Or.inl ⟨hwr, rfl, Or.inr (Or.inl hc2)⟩⟩, by rw [ht]; exact hP, hD⟩, hS.F ht⟩) hS.2.2 xd_Mo_write_27
    · refine lv_aload_n hx hb xd_Mo_write_17 rfl (lv_at hl 0 rfl) ?_
      refine va_get (D := D) (ci := 4) (v := .int (v 2)) (C := xR_Mo) (T := xT_Mo) (N := 31) hx hb hT xi_Mo hown hK.1 hP 0 rfl rfl 3 (by decide) (hT _ xy3_1) (fun _ h9 => h9) rfl xd_Mo_write_18 ?_
      refine xn_top (x := (v 2)) (y := nI wr) hwr ?_
      refine lv_bipush (v := 40) hx hb xd_Mo_write_21 (by decide) ?_
      refine xn_lt (a := wr) (b := 40) (tgt := 28) hx hb xd_Mo_write_23 (by decide) (by omega) (by omega) (fun hc3 => ?_) (fun hc3 => ?_)
      · refine lv_aload_n hx hb xd_Mo_write_28 rfl (lv_at hl 0 rfl) ?_
        refine va_get (D := D) (ci := 4) (v := .ref (mm 0)) (C := xR_Mo) (T := xT_Mo) (N := 31) hx hb hT xi_Mo hown hK.1 hP 0 rfl rfl 2 (by decide) (hT _ xy3_2) (fun _ h9 => h9) rfl xd_Mo_write_29 ?_
        refine lv_aload_n hx hb xd_Mo_write_32 rfl (lv_at hl 0 rfl) ?_
        refine va_get (D := D) (ci := 4) (v := .int (v 2)) (C := xR_Mo) (T := xT_Mo) (N := 31) hx hb hT xi_Mo hown hK.1 hP 0 rfl rfl 3 (by decide) (hT _ xy3_1) (fun _ h9 => h9) rfl xd_Mo_write_33 ?_
        refine xn_top (x := (v 2)) (y := nI wr) hwr ?_
        refine lv_iload_n hx hb xd_Mo_write_36 rfl (lv_at hl 1 rfl) ?_
        refine xn_cast (i := wr) hx hb hK.1 hP hD hS 1 1 rfl rfl (by omega) (by decide) xd_Mo_write_37 (fun H locs hP hD hS => ?_)
        have hP : va_P D xcl (moW h mm kA (va_up v 0 0) (va_up g 0 (upd (g 0) wr (vp_nar .char cc9)))) H := hP
        have hD : va_D A (moW h mm kA (va_up v 0 0) (va_up g 0 (upd (g 0) wr (vp_nar .char cc9)))) := hD
        refine lv_aload_n hx hb xd_Mo_write_38 rfl (lv_at hl 0 rfl) ?_
        refine lv_dup hx hb xd_Mo_write_39 rfl ?_
        refine va_get (D := D) (ci := 4) (v := .int (v 2)) (C := xR_Mo) (T := xT_Mo) (N := 31) hx hb hT xi_Mo hown hK.1 hP 0 rfl rfl 3 (by decide) (hT _ xy3_1) (fun _ h9 => h9) rfl xd_Mo_write_40 ?_
        refine xn_top (x := (v 2)) (y := nI wr) hwr ?_
        refine lv_iconst (v := 1) hx hb xd_Mo_write_43 (by decide) ?_
        refine lv_iadd hx hb xd_Mo_write_44 ?_
        refine xn_top (y := nI (wr + 1)) (nI_add wr 1) ?_
        refine va_put (D := D) (ci := 4) (v := .int (nI (wr + 1))) (ty := .int) (C := xR_Mo) (T := xT_Mo) (N := 31) hx hb hT xi_Mo xt_Mo xt_Mo_ok xn_Mo hown hK.1 hP hD hS 0 rfl rfl 3 (by decide) (hT _ xy3_1) (fun _ h9 => h9) rfl (by decide +kernel) rfl rfl (Nat.le_of_ble_eq_true rfl) xd_Mo_write_45 (fun H locs hP hD hS => ?_)
        have hP : va_P D xcl (moW h mm kA (va_up (va_up v 0 0) 2 (nI (wr + 1))) (va_up g 0 (upd (g 0) wr (vp_nar .char cc9)))) H := hP
        have hD : va_D A (moW h mm kA (va_up (va_up v 0 0) 2 (nI (wr + 1))) (va_up g 0 (upd (g 0) wr (vp_nar .char cc9)))) := hD
        refine lv_iconst (v := 1) hx hb xd_Mo_write_48 (by decide) ?_
        exact W.zret (v := 1) hx hb hr rfl (fun t ht hW => ⟨⟨1, ((va_up (va_up v 0 0) 2 (nI (wr + 1))), (va_up g 0 (upd (g 0) wr (vp_nar .char cc9)))), rfl, ⟨MI_v (v := v) rfl rfl (MI_tx (by omega) hMI), Or.inr ⟨rfl, rfl, by omega, hc1, hc2⟩⟩, by rw [ht]; exact hP, hD⟩, hS.F ht⟩) hS.2.2 xd_Mo_write_49
      · refine lv_iconst (v := 0) hx hb xd_Mo_write_26 (by decide) ?_
        exact W.zret (v := 0) hx hb hr rfl (fun t ht hW => ⟨⟨0, ((va_up v 0 0), g), rfl, ⟨MI_v rfl rfl hMI, Or.inl ⟨hwr, rfl, Or.inr (Or.inr (by omega))⟩⟩, by rw [ht]; exact hP, hD⟩, hS.F ht⟩) hS.2.2 xd_Mo_write_27
set_option maxHeartbeats 4000000 in
set_option maxRecDepth 100000 in
theorem xc_Mo_fault (l : Launch) (D : va_G) (kA : Nat → ClassId) (sz h : Nat) (mm : Nat → Nat) (v : Nat → Int32) (g : Nat → Nat → Int32) (hMI : MI v g) : Met l xy_Mo_fault (.code xy_Mo_fault xb_Mo_fault 1 (some .int) :: wT) { frames := 0, cells := 0, slots := 0, locals := 0 } (va_Pc [.ref h] (xPre D kA sz (moW h mm kA v g))) (va_Qi (fun (r : Int32) (u : (Nat → Int32) × (Nat → Nat → Int32)) => MI u.1 u.2 ∧ u.1 2 = v 2) (fun (u : (Nat → Int32) × (Nat → Nat → Int32)) t => va_P D xcl (moW h mm kA u.1 u.2) t.heap ∧ va_D (va_A (moW h mm kA v g) sz) (moW h mm kA u.1 u.2)) (va_A (moW h mm kA v g) sz)) 0 0 (va_A (moW h mm kA v g) sz) := by
  refine Met.ofW (cc := xb_Mo_fault) (maxL := 1) (ret := (some .int)) (by decide) rfl ?_
  intro p e s m args below meth c s₁ B hml hv
  obtain ⟨rfl, hsz, hP, hK, hD0⟩ := hv
  have hx := B.exec
  have hb := B.bytes
  have hr := B.returns
  have hT := x_hT B.pre
  have hown : s.vm.findClass xR_Mo = some m.cls := findClass_of_methodNamed B.named
  have hlocks := B.notSynchronized
  subst hsz
  have hD := hD0.self (sz := s.heap.size)
  generalize hAe : va_A (moW h mm kA v g) s.heap.size = A at hD ⊢
  have hA : ∀ q : Nat, s.heap.size ≤ q → A q := fun q h => by rw [← hAe]; exact Or.inr h
  have hS : va_S A s.heap s.heap [] := va_S.rf
  have hl := lv_entry ([.ref h]) (n := 1) (Nat.le_of_ble_eq_true rfl)
  rw [lg_entry_eq]
  generalize (lg_sl ([.ref h]) ++ List.replicate (1 - (lg_sl ([.ref h])).length) Slot.unset).toArray = ls at hl ⊢
  have hl : lv_has ls 1 [(0, .ref h)] := hl
  have hP : va_P D xcl (moW h mm kA v g) s.heap := hP
  refine lv_aload_n hx hb xd_Mo_fault_0 rfl (lv_at hl 0 rfl) ?_
  refine lv_iconst (v := 0) hx hb xd_Mo_fault_1 (by decide) ?_
  refine va_put (D := D) (ci := 4) (v := .int 0) (ty := .int) (C := xR_Mo) (T := xT_Mo) (N := 31) hx hb hT xi_Mo xt_Mo xt_Mo_ok xn_Mo hown hK.1 hP hD hS 0 rfl rfl 0 (by decide) (hT _ xy3_0) (fun _ h9 => h9) rfl (by decide +kernel) rfl rfl (Nat.le_of_ble_eq_true rfl) xd_Mo_fault_2 (fun H locs hP hD hS => ?_)
  have hP : va_P D xcl (moW h mm kA (va_up v 0 0) g) H := hP
  have hD : va_D A (moW h mm kA (va_up v 0 0) g) := hD
  refine lv_aload_n hx hb xd_Mo_fault_5 rfl (lv_at hl 0 rfl) ?_
  refine va_get (D := D) (ci := 4) (v := .int (v 1)) (C := xR_Mo) (T := xT_Mo) (N := 31) hx hb hT xi_Mo hown hK.1 hP 0 rfl rfl 1 (by decide) (hT _ xy3_3) (fun _ h9 => h9) rfl xd_Mo_fault_6 ?_
  exact W.iret (v := (v 1)) hx hb hr (fun t ht hW => ⟨⟨(v 1), ((va_up v 0 0), g), rfl, ⟨MI_v rfl rfl hMI, rfl⟩, by rw [ht]; exact hP, hD⟩, hS.F ht⟩) hS.2.2 xd_Mo_fault_9
set_option maxHeartbeats 4000000 in
set_option maxRecDepth 100000 in
theorem xc_Mo_close (l : Launch) (D : va_G) (kA : Nat → ClassId) (sz h : Nat) (mm : Nat → Nat) (v : Nat → Int32) (g : Nat → Nat → Int32) (ly : Int32) (hMI : MI v g) : Met l xy_Mo_close (.code xy_Mo_close xb_Mo_close 3 (some .boolean) :: wT) { frames := 1, cells := 0, slots := 0, locals := 21 } (va_Pc [.ref h, .int ly] (xPre D kA sz (moW h mm kA v g))) (va_Qi (fun (r : Int32) (u : (Nat → Int32) × (Nat → Nat → Int32)) => MI u.1 u.2 ∧ u.1 2 = v 2) (fun (u : (Nat → Int32) × (Nat → Nat → Int32)) t => va_P D xcl (moW h mm kA u.1 u.2) t.heap ∧ va_D (va_A (moW h mm kA v g) sz) (moW h mm kA u.1 u.2)) (va_A (moW h mm kA v g) sz)) 0 0 (va_A (moW h mm kA v g) sz) := by
  refine Met.ofW (cc := xb_Mo_close) (maxL := 3) (ret := (some .boolean)) (by decide) rfl ?_
  intro p e s m args below meth c s₁ B hml hv
  obtain ⟨rfl, hsz, hP, hK, hD0⟩ := hv
  have hx := B.exec
  have hb := B.bytes
  have hr := B.returns
  have hT := x_hT B.pre
  have hown : s.vm.findClass xR_Mo = some m.cls := findClass_of_methodNamed B.named
  have hlocks := B.notSynchronized
  subst hsz
  have hD := hD0.self (sz := s.heap.size)
  generalize hAe : va_A (moW h mm kA v g) s.heap.size = A at hD ⊢
  have hA : ∀ q : Nat, s.heap.size ≤ q → A q := fun q h => by rw [← hAe]; exact Or.inr h
  have hS : va_S A s.heap s.heap [] := va_S.rf
  have hl := lv_entry ([.ref h, .int ly]) (n := 3) (Nat.le_of_ble_eq_true rfl)
  rw [lg_entry_eq]
  generalize (lg_sl ([.ref h, .int ly]) ++ List.replicate (3 - (lg_sl ([.ref h, .int ly])).length) Slot.unset).toArray = ls at hl ⊢
  have hl : lv_has ls 3 [(0, .ref h), (1, .int ly)] := hl
  have hP : va_P D xcl (moW h mm kA v g) s.heap := hP
  obtain ⟨⟨nd, hnd12, hnd⟩, ⟨nl, hnl5, hnl, hpar⟩, hch, hpk, hrq, hmd, huq⟩ := id hMI
  refine lv_aload_n hx hb xd_Mo_close_0 rfl (lv_at hl 0 rfl) ?_
  refine lv_iconst (v := 0) hx hb xd_Mo_close_1 (by decide) ?_
  refine va_put (D := D) (ci := 4) (v := .int 0) (ty := .int) (C := xR_Mo) (T := xT_Mo) (N := 31) hx hb hT xi_Mo xt_Mo xt_Mo_ok xn_Mo hown hK.1 hP hD hS 0 rfl rfl 0 (by decide) (hT _ xy3_0) (fun _ h9 => h9) rfl (by decide +kernel) rfl rfl (Nat.le_of_ble_eq_true rfl) xd_Mo_close_2 (fun H locs hP hD hS => ?_)
  have hP : va_P D xcl (moW h mm kA (va_up v 0 0) g) H := hP
  have hD : va_D A (moW h mm kA (va_up v 0 0) g) := hD
  refine lv_aload_n hx hb xd_Mo_close_5 rfl (lv_at hl 0 rfl) ?_
  refine lv_iload_n hx hb xd_Mo_close_6 rfl (lv_at hl 1 rfl) ?_
  have hFc := va_free (wc := (moW h mm kA (va_up v 0 0) g)) hD hS hA [0, 1, 2, 3, 4, 5, 6, 7, 8, 9, 10, 11, 12, 13, 14, 15, 16, 17, 18, 19, 20, 21, 22, 23, 24, 25] rfl
  refine va_calli (va_runV (As := [.int ly]) (rest := []) ⟨hx, hb, hml, hown, hT⟩ (xc_Mo_isOpen l D kA H.size h mm (va_up v 0 0) g ly nl (by first | assumption | omega) (by first | assumption | omega)) (cwV 1 hT (wT_V xy3_5 xy3_6 xy3_7 xy3_8 xy3_4) rfl rfl rfl (by decide +kernel) ⟨Nat.le_of_ble_eq_true rfl, Nat.le_of_ble_eq_true rfl⟩) (x_preV hK hP hD 0 rfl rfl) rfl rfl hl.1 rfl (lv_room (Nat.le_of_ble_eq_true rfl)) xd_Mo_close_7 ⟨Nat.le_of_ble_eq_true rfl, Nat.le_of_ble_eq_true rfl⟩) hS (fun q _ h => hFc q h) hFc (fun r1 u2 t H1 locs ht hvm hp3 hB hz1 hk1 hS => ?_)
  obtain ⟨hP1, hD1⟩ := hB
  rw [ht] at hP1
  have hD1 := hD1.weaken (fun _ _ _ h => hFc _ h)
  generalize H1 = H at hP1 hS ⊢
  have hP := hP1
  have hD := hD1
  have hP : va_P D xcl (moW h mm kA (va_up v 0 0) g) H := hP
  have hD : va_D A (moW h mm kA (va_up v 0 0) g) := hD
  rcases hp3 with rfl | ⟨rfl, z4, z5, rfl⟩
  · refine xz_ne (a := 0) (tgt := 15) hx hb xd_Mo_close_10 (by decide) (by omega) (fun hc6 => absurd hc6 (by omega)) (fun _ => ?_)
    refine lv_iconst (v := 0) hx hb xd_Mo_close_13 (by decide) ?_
    exact W.zret (v := 0) hx hb hr rfl (fun t ht hW => ⟨⟨0, ((va_up v 0 0), g), rfl, ⟨MI_v rfl rfl hMI, rfl⟩, by rw [ht]; exact hP, hD⟩, hS.F ht⟩) hS.2.2 xd_Mo_close_14
  · have hl : lv_has ls 3 [(0, .ref h), (1, .int (nI z4))] := hl
    refine xz_ne (a := 1) (tgt := 15) hx hb xd_Mo_close_10 (by decide) (by omega) (fun _ => ?_) (fun hc7 => absurd hc7 (by omega))
    refine lv_iconst (v := 0) hx hb xd_Mo_close_15 (by decide) ?_
    refine lv_istore_n hx hb xd_Mo_close_16 rfl hl (Nat.le_of_ble_eq_true rfl) rfl (fun ls hl => ?_)
    have hl : lv_has ls 3 [(2, .int 0), (0, .ref h), (1, .int (nI z4))] := hl
    refine xlab (σ := Nat) (ml := 3) 17 (fun (i2 : Nat) => [(2, .int (nI i2)), (0, .ref h), (1, .int (nI z4))]) (fun (i2 : Nat) => []) (fun (i2 : Nat) => moW h mm kA (va_up v 0 0) g) (fun (i2 : Nat) => (i2 ≤ nl)) (fun (i2 : Nat) => nl - i2) ?_ 0 _ _ _ (lv_sub hl [0, 1, 2] rfl) hP hD hS (show 0 ≤ nl from by first | assumption | omega)
    intro n9 ih8 a9 ls H locs hμ hl hP hD hS hI
    subst hμ
    obtain ⟨i2, rfl⟩ : ∃ z, z = a9 := ⟨_, rfl⟩
    have hi2 : i2 ≤ nl := hI
    have hl : lv_has ls 3 [(2, .int (nI i2)), (0, .ref h), (1, .int (nI z4))] := hl
    have hP : va_P D xcl (moW h mm kA (va_up v 0 0) g) H := hP
    have hD : va_D A (moW h mm kA (va_up v 0 0) g) := hD
    refine lv_iload_n hx hb xd_Mo_close_17 rfl (lv_at hl 0 rfl) ?_
    refine lv_aload_n hx hb xd_Mo_close_18 rfl (lv_at hl 1 rfl) ?_
    refine va_get (D := D) (ci := 4) (v := .int (v 5)) (C := xR_Mo) (T := xT_Mo) (N := 31) hx hb hT xi_Mo hown hK.1 hP 0 rfl rfl 23 (by decide) (hT _ xy3_9) (fun _ h9 => h9) rfl xd_Mo_close_19 ?_
    refine xn_top (x := (v 5)) (y := nI nl) hnl ?_
    refine xn_ge (a := i2) (b := nl) (tgt := 52) hx hb xd_Mo_close_22 (by decide) (by omega) (by omega) (fun hc9 => ?_) (fun hc9 => ?_)
    · refine lv_aload_n hx hb xd_Mo_close_52 rfl (lv_at hl 1 rfl) ?_
      refine va_get (D := D) (ci := 4) (v := .ref (mm 22)) (C := xR_Mo) (T := xT_Mo) (N := 31) hx hb hT xi_Mo hown hK.1 hP 0 rfl rfl 28 (by decide) (hT _ xy3_10) (fun _ h9 => h9) rfl xd_Mo_close_53 ?_
      refine lv_iload_n hx hb xd_Mo_close_56 rfl (lv_at hl 2 rfl) ?_
      refine lv_iconst (v := 0) hx hb xd_Mo_close_57 (by decide) ?_
      refine xn_zast (i := z4) hx hb hK.1 hP hD hS 23 2 rfl rfl (by omega) (by decide) xd_Mo_close_58 (fun H locs hP hD hS => ?_)
      have hP : va_P D xcl (moW h mm kA (va_up v 0 0) (va_up g 22 (upd (g 22) z4 (vp_nar .boolean 0)))) H := hP
      have hD : va_D A (moW h mm kA (va_up v 0 0) (va_up g 22 (upd (g 22) z4 (vp_nar .boolean 0)))) := hD
      refine lv_iconst (v := 1) hx hb xd_Mo_close_59 (by decide) ?_
      exact W.zret (v := 1) hx hb hr rfl (fun t ht hW => ⟨⟨1, ((va_up v 0 0), (va_up g 22 (upd (g 22) z4 (vp_nar .boolean 0)))), rfl, ⟨MI_g rfl rfl rfl rfl rfl rfl rfl rfl (MI_v rfl rfl hMI), rfl⟩, by rw [ht]; exact hP, hD⟩, hS.F ht⟩) hS.2.2 xd_Mo_close_60
    · refine lv_aload_n hx hb xd_Mo_close_25 rfl (lv_at hl 1 rfl) ?_
      refine va_get (D := D) (ci := 4) (v := .ref (mm 22)) (C := xR_Mo) (T := xT_Mo) (N := 31) hx hb hT xi_Mo hown hK.1 hP 0 rfl rfl 28 (by decide) (hT _ xy3_10) (fun _ h9 => h9) rfl xd_Mo_close_26 ?_
      refine lv_iload_n hx hb xd_Mo_close_29 rfl (lv_at hl 0 rfl) ?_
      refine xn_zald (i := i2) hx hb hK.1 hP 23 2 rfl rfl (by omega) (by decide) xd_Mo_close_30 ?_
      refine lv_if_eq (tgt := 46) hx hb xd_Mo_close_31 (by decide) (fun hc10 => ?_) (fun hc10 => ?_)
      · refine lv_iinc (k := 0) (x := (nI i2)) (v := (nI (i2 + 1))) hx hb xd_Mo_close_46 hl rfl (xb_inc i2 1) (Nat.le_of_ble_eq_true rfl) rfl (fun ls hl => ?_)
        have hl : lv_has ls 3 [(2, .int (nI (i2 + 1))), (0, .ref h), (1, .int (nI z4))] := hl
        refine lv_goto (tgt := 17) hx hb xd_Mo_close_49 (by decide) ?_
        exact ih8 (i2 + 1) _ _ _ (show nl - (i2 + 1) < nl - i2 by omega) (lv_sub hl [0, 1, 2] rfl) hP hD hS (show (i2 + 1) ≤ nl from by first | assumption | omega)
      · refine lv_aload_n hx hb xd_Mo_close_34 rfl (lv_at hl 1 rfl) ?_
        refine va_get (D := D) (ci := 4) (v := .ref (mm 19)) (C := xR_Mo) (T := xT_Mo) (N := 31) hx hb hT xi_Mo hown hK.1 hP 0 rfl rfl 25 (by decide) (hT _ xy3_11) (fun _ h9 => h9) rfl xd_Mo_close_35 ?_
        refine lv_iload_n hx hb xd_Mo_close_38 rfl (lv_at hl 0 rfl) ?_
        refine xn_iald (i := i2) hx hb hK.1 hP 20 0 rfl rfl (by omega) (by decide) xd_Mo_close_39 ?_
        refine lv_iload_n hx hb xd_Mo_close_40 rfl (lv_at hl 2 rfl) ?_
        refine lv_icmp_ne (tgt := 46) hx hb xd_Mo_close_41 (by decide) (fun hc11 => ?_) (fun hc11 => ?_)
        · refine lv_iinc (k := 0) (x := (nI i2)) (v := (nI (i2 + 1))) hx hb xd_Mo_close_46 hl rfl (xb_inc i2 1) (Nat.le_of_ble_eq_true rfl) rfl (fun ls hl => ?_)
          have hl : lv_has ls 3 [(2, .int (nI (i2 + 1))), (0, .ref h), (1, .int (nI z4))] := hl
          refine lv_goto (tgt := 17) hx hb xd_Mo_close_49 (by decide) ?_
          exact ih8 (i2 + 1) _ _ _ (show nl - (i2 + 1) < nl - i2 by omega) (lv_sub hl [0, 1, 2] rfl) hP hD hS (show (i2 + 1) ≤ nl from by first | assumption | omega)
        · refine lv_iconst (v := 0) hx hb xd_Mo_close_44 (by decide) ?_
          exact W.zret (v := 0) hx hb hr rfl (fun t ht hW => ⟨⟨0, ((va_up v 0 0), g), rfl, ⟨MI_v rfl rfl hMI, rfl⟩, by rw [ht]; exact hP, hD⟩, hS.F ht⟩) hS.2.2 xd_Mo_close_45
set_option maxHeartbeats 4000000 in
set_option maxRecDepth 100000 in
theorem xc_Mo_count (l : Launch) (D : va_G) (kA : Nat → ClassId) (sz h : Nat) (mm : Nat → Nat) (v : Nat → Int32) (g : Nat → Nat → Int32) (wh : Int32) (hMI : MI v g) : Met l xy_Mo_count (.code xy_Mo_count xb_Mo_count 4 (some .int) :: wT) { frames := 0, cells := 0, slots := 0, locals := 0 } (va_Pc [.ref h, .int wh] (xPre D kA sz (moW h mm kA v g))) (va_Qi (fun (r : Int32) (u : (Nat → Int32) × (Nat → Nat → Int32)) => MI u.1 u.2 ∧ u.1 2 = v 2) (fun (u : (Nat → Int32) × (Nat → Nat → Int32)) t => va_P D xcl (moW h mm kA u.1 u.2) t.heap ∧ va_D (va_A (moW h mm kA v g) sz) (moW h mm kA u.1 u.2)) (va_A (moW h mm kA v g) sz)) 0 0 (va_A (moW h mm kA v g) sz) := by
  refine Met.ofW (cc := xb_Mo_count) (maxL := 4) (ret := (some .int)) (by decide) rfl ?_
  intro p e s m args below meth c s₁ B hml hv
  obtain ⟨rfl, hsz, hP, hK, hD0⟩ := hv
  have hx := B.exec
  have hb := B.bytes
  have hr := B.returns
  have hT := x_hT B.pre
  have hown : s.vm.findClass xR_Mo = some m.cls := findClass_of_methodNamed B.named
  have hlocks := B.notSynchronized
  subst hsz
  have hD := hD0.self (sz := s.heap.size)
  generalize hAe : va_A (moW h mm kA v g) s.heap.size = A at hD ⊢
  have hA : ∀ q : Nat, s.heap.size ≤ q → A q := fun q h => by rw [← hAe]; exact Or.inr h
  have hS : va_S A s.heap s.heap [] := va_S.rf
  have hl := lv_entry ([.ref h, .int wh]) (n := 4) (Nat.le_of_ble_eq_true rfl)
  rw [lg_entry_eq]
  generalize (lg_sl ([.ref h, .int wh]) ++ List.replicate (4 - (lg_sl ([.ref h, .int wh])).length) Slot.unset).toArray = ls at hl ⊢
  have hl : lv_has ls 4 [(0, .ref h), (1, .int wh)] := hl
  have hP : va_P D xcl (moW h mm kA v g) s.heap := hP
  obtain ⟨⟨nd, hnd12, hnd⟩, ⟨nl, hnl5, hnl, hpar⟩, hch, hpk, hrq, hmd, huq⟩ := id hMI
  refine lv_aload_n hx hb xd_Mo_count_0 rfl (lv_at hl 0 rfl) ?_
  refine lv_iconst (v := 0) hx hb xd_Mo_count_1 (by decide) ?_
  refine va_put (D := D) (ci := 4) (v := .int 0) (ty := .int) (C := xR_Mo) (T := xT_Mo) (N := 31) hx hb hT xi_Mo xt_Mo xt_Mo_ok xn_Mo hown hK.1 hP hD hS 0 rfl rfl 0 (by decide) (hT _ xy3_0) (fun _ h9 => h9) rfl (by decide +kernel) rfl rfl (Nat.le_of_ble_eq_true rfl) xd_Mo_count_2 (fun H locs hP hD hS => ?_)
  have hP : va_P D xcl (moW h mm kA (va_up v 0 0) g) H := hP
  have hD : va_D A (moW h mm kA (va_up v 0 0) g) := hD
  refine lv_iconst (v := 0) hx hb xd_Mo_count_5 (by decide) ?_
  refine lv_istore_n hx hb xd_Mo_count_6 rfl hl (Nat.le_of_ble_eq_true rfl) rfl (fun ls hl => ?_)
  have hl : lv_has ls 4 [(2, .int 0), (0, .ref h), (1, .int wh)] := hl
  refine lv_iconst (v := 0) hx hb xd_Mo_count_7 (by decide) ?_
  refine lv_istore_n hx hb xd_Mo_count_8 rfl hl (Nat.le_of_ble_eq_true rfl) rfl (fun ls hl => ?_)
  have hl : lv_has ls 4 [(3, .int 0), (2, .int 0), (0, .ref h), (1, .int wh)] := hl
  refine xlab (σ := Nat × Nat) (ml := 4) 9 (fun (i3, c2) => [(3, .int (nI i3)), (2, .int (nI c2)), (0, .ref h), (1, .int wh)]) (fun (i3, c2) => []) (fun (i3, c2) => moW h mm kA (va_up v 0 0) g) (fun (i3, c2) => (i3 ≤ nl) ∧ (c2 ≤ i3)) (fun (i3, c2) => nl - i3) ?_ (0, 0) _ _ _ (lv_sub hl [0, 1, 2, 3] rfl) hP hD hS ⟨(show 0 ≤ nl from by first | assumption | omega), (show 0 ≤ 0 from by first | assumption | omega)⟩
  intro n9 ih1 a9 ls H locs hμ hl hP hD hS hI
  subst hμ
  obtain ⟨i3, c2⟩ := a9
  obtain ⟨hi3, hc2⟩ := hI
  have hi3 : i3 ≤ nl := hi3
  have hc2 : c2 ≤ i3 := hc2
  have hl : lv_has ls 4 [(3, .int (nI i3)), (2, .int (nI c2)), (0, .ref h), (1, .int wh)] := hl
  have hP : va_P D xcl (moW h mm kA (va_up v 0 0) g) H := hP
  have hD : va_D A (moW h mm kA (va_up v 0 0) g) := hD
  refine lv_iload_n hx hb xd_Mo_count_9 rfl (lv_at hl 0 rfl) ?_
  refine lv_aload_n hx hb xd_Mo_count_10 rfl (lv_at hl 2 rfl) ?_
  refine va_get (D := D) (ci := 4) (v := .int (v 5)) (C := xR_Mo) (T := xT_Mo) (N := 31) hx hb hT xi_Mo hown hK.1 hP 0 rfl rfl 23 (by decide) (hT _ xy3_9) (fun _ h9 => h9) rfl xd_Mo_count_11 ?_
  refine xn_top (x := (v 5)) (y := nI nl) hnl ?_
  refine xn_ge (a := i3) (b := nl) (tgt := 40) hx hb xd_Mo_count_14 (by decide) (by omega) (by omega) (fun hc2 => ?_) (fun hc2 => ?_)
  · refine lv_iload_n hx hb xd_Mo_count_40 rfl (lv_at hl 3 rfl) ?_
    refine lv_if_ne (tgt := 51) hx hb xd_Mo_count_41 (by decide) (fun hc3 => ?_) (fun hc3 => ?_)
    · refine lv_iload_n hx hb xd_Mo_count_51 rfl (lv_at hl 3 rfl) ?_
      refine lv_iconst (v := 1) hx hb xd_Mo_count_52 (by decide) ?_
      refine lv_icmp_ne (tgt := 63) hx hb xd_Mo_count_53 (by decide) (fun hc4 => ?_) (fun hc4 => ?_)
      · refine lv_iload_n hx hb xd_Mo_count_63 rfl (lv_at hl 3 rfl) ?_
        refine lv_iconst (v := 2) hx hb xd_Mo_count_64 (by decide) ?_
        refine lv_icmp_ne (tgt := 72) hx hb xd_Mo_count_65 (by decide) (fun hc5 => ?_) (fun hc5 => ?_)
        · refine lv_iconst (v := (-1)) hx hb xd_Mo_count_72 (by decide) ?_
          exact W.iret (v := (-1)) hx hb hr (fun t ht hW => ⟨⟨(-1), ((va_up v 0 0), g), rfl, ⟨MI_v rfl rfl hMI, rfl⟩, by rw [ht]; exact hP, hD⟩, hS.F ht⟩) hS.2.2 xd_Mo_count_73
        · refine lv_iload_n hx hb xd_Mo_count_68 rfl (lv_at hl 1 rfl) ?_
          refine lv_goto (tgt := 73) hx hb xd_Mo_count_69 (by decide) ?_
          exact W.iret (v := (nI c2)) hx hb hr (fun t ht hW => ⟨⟨(nI c2), ((va_up v 0 0), g), rfl, ⟨MI_v rfl rfl hMI, rfl⟩, by rw [ht]; exact hP, hD⟩, hS.F ht⟩) hS.2.2 xd_Mo_count_73
      · refine lv_aload_n hx hb xd_Mo_count_56 rfl (lv_at hl 2 rfl) ?_
        refine va_get (D := D) (ci := 4) (v := .int (v 5)) (C := xR_Mo) (T := xT_Mo) (N := 31) hx hb hT xi_Mo hown hK.1 hP 0 rfl rfl 23 (by decide) (hT _ xy3_9) (fun _ h9 => h9) rfl xd_Mo_count_57 ?_
        refine xn_top (x := (v 5)) (y := nI nl) hnl ?_
        refine lv_goto (tgt := 73) hx hb xd_Mo_count_60 (by decide) ?_
        exact W.iret (v := (nI nl)) hx hb hr (fun t ht hW => ⟨⟨(nI nl), ((va_up v 0 0), g), rfl, ⟨MI_v rfl rfl hMI, rfl⟩, by rw [ht]; exact hP, hD⟩, hS.F ht⟩) hS.2.2 xd_Mo_count_73
    · refine lv_aload_n hx hb xd_Mo_count_44 rfl (lv_at hl 2 rfl) ?_
      refine va_get (D := D) (ci := 4) (v := .int (v 4)) (C := xR_Mo) (T := xT_Mo) (N := 31) hx hb hT xi_Mo hown hK.1 hP 0 rfl rfl 7 (by decide) (hT _ xy3_12) (fun _ h9 => h9) rfl xd_Mo_count_45 ?_
      refine xn_top (x := (v 4)) (y := nI nd) hnd ?_
      refine lv_goto (tgt := 73) hx hb xd_Mo_count_48 (by decide) ?_
      exact W.iret (v := (nI nd)) hx hb hr (fun t ht hW => ⟨⟨(nI nd), ((va_up v 0 0), g), rfl, ⟨MI_v rfl rfl hMI, rfl⟩, by rw [ht]; exact hP, hD⟩, hS.F ht⟩) hS.2.2 xd_Mo_count_73
  · refine lv_aload_n hx hb xd_Mo_count_17 rfl (lv_at hl 2 rfl) ?_
    refine va_get (D := D) (ci := 4) (v := .ref (mm 22)) (C := xR_Mo) (T := xT_Mo) (N := 31) hx hb hT xi_Mo hown hK.1 hP 0 rfl rfl 28 (by decide) (hT _ xy3_10) (fun _ h9 => h9) rfl xd_Mo_count_18 ?_
    refine lv_iload_n hx hb xd_Mo_count_21 rfl (lv_at hl 0 rfl) ?_
    refine xn_zald (i := i3) hx hb hK.1 hP 23 2 rfl rfl (by omega) (by decide) xd_Mo_count_22 ?_
    refine lv_if_eq (tgt := 32) hx hb xd_Mo_count_23 (by decide) (fun hc6 => ?_) (fun hc6 => ?_)
    · refine lv_iload_n hx hb xd_Mo_count_32 rfl (lv_at hl 1 rfl) ?_
      refine lv_istore_n hx hb xd_Mo_count_33 rfl hl (Nat.le_of_ble_eq_true rfl) rfl (fun ls hl => ?_)
      have hl : lv_has ls 4 [(2, .int (nI c2)), (3, .int (nI i3)), (0, .ref h), (1, .int wh)] := hl
      refine lv_iinc (k := 1) (x := (nI i3)) (v := (nI (i3 + 1))) hx hb xd_Mo_count_34 hl rfl (xb_inc i3 1) (Nat.le_of_ble_eq_true rfl) rfl (fun ls hl => ?_)
      have hl : lv_has ls 4 [(3, .int (nI (i3 + 1))), (2, .int (nI c2)), (0, .ref h), (1, .int wh)] := hl
      refine lv_goto (tgt := 9) hx hb xd_Mo_count_37 (by decide) ?_
      exact ih1 (i3 + 1, c2) _ _ _ (show nl - (i3 + 1) < nl - i3 by omega) (lv_sub hl [0, 1, 2, 3] rfl) hP hD hS ⟨(show (i3 + 1) ≤ nl from by first | assumption | omega), (show c2 ≤ (i3 + 1) from by first | assumption | omega)⟩
    · refine lv_iload_n hx hb xd_Mo_count_26 rfl (lv_at hl 1 rfl) ?_
      refine lv_iconst (v := 1) hx hb xd_Mo_count_27 (by decide) ?_
      refine lv_iadd hx hb xd_Mo_count_28 ?_
      refine xn_top (y := nI (c2 + 1)) (nI_add c2 1) ?_
      refine lv_goto (tgt := 33) hx hb xd_Mo_count_29 (by decide) ?_
      refine lv_istore_n hx hb xd_Mo_count_33 rfl hl (Nat.le_of_ble_eq_true rfl) rfl (fun ls hl => ?_)
      have hl : lv_has ls 4 [(2, .int (nI (c2 + 1))), (3, .int (nI i3)), (0, .ref h), (1, .int wh)] := hl
      refine lv_iinc (k := 1) (x := (nI i3)) (v := (nI (i3 + 1))) hx hb xd_Mo_count_34 hl rfl (xb_inc i3 1) (Nat.le_of_ble_eq_true rfl) rfl (fun ls hl => ?_)
      have hl : lv_has ls 4 [(3, .int (nI (i3 + 1))), (2, .int (nI (c2 + 1))), (0, .ref h), (1, .int wh)] := hl
      refine lv_goto (tgt := 9) hx hb xd_Mo_count_37 (by decide) ?_
      exact ih1 (i3 + 1, c2 + 1) _ _ _ (show nl - (i3 + 1) < nl - i3 by omega) (lv_sub hl [0, 1, 2, 3] rfl) hP hD hS ⟨(show (i3 + 1) ≤ nl from by first | assumption | omega), (show (c2 + 1) ≤ (i3 + 1) from by first | assumption | omega)⟩
set_option maxHeartbeats 4000000 in
set_option maxRecDepth 100000 in
theorem xc_Mo_modules (l : Launch) (D : va_G) (kA : Nat → ClassId) (sz h : Nat) (mm : Nat → Nat) (v : Nat → Int32) (g : Nat → Nat → Int32) (ly : Int32) (hMI : MI v g) : Met l xy_Mo_modules (.code xy_Mo_modules xb_Mo_modules 2 (some .int) :: wT) { frames := 1, cells := 0, slots := 0, locals := 21 } (va_Pc [.ref h, .int ly] (xPre D kA sz (moW h mm kA v g))) (va_Qi (fun (r : Int32) (u : (Nat → Int32) × (Nat → Nat → Int32)) => MI u.1 u.2 ∧ u.1 2 = v 2) (fun (u : (Nat → Int32) × (Nat → Nat → Int32)) t => va_P D xcl (moW h mm kA u.1 u.2) t.heap ∧ va_D (va_A (moW h mm kA v g) sz) (moW h mm kA u.1 u.2)) (va_A (moW h mm kA v g) sz)) 0 0 (va_A (moW h mm kA v g) sz) := by
  refine Met.ofW (cc := xb_Mo_modules) (maxL := 2) (ret := (some .int)) (by decide) rfl ?_
  intro p e s m args below meth c s₁ B hml hv
  obtain ⟨rfl, hsz, hP, hK, hD0⟩ := hv
  have hx := B.exec
  have hb := B.bytes
  have hr := B.returns
  have hT := x_hT B.pre
  have hown : s.vm.findClass xR_Mo = some m.cls := findClass_of_methodNamed B.named
  have hlocks := B.notSynchronized
  subst hsz
  have hD := hD0.self (sz := s.heap.size)
  generalize hAe : va_A (moW h mm kA v g) s.heap.size = A at hD ⊢
  have hA : ∀ q : Nat, s.heap.size ≤ q → A q := fun q h => by rw [← hAe]; exact Or.inr h
  have hS : va_S A s.heap s.heap [] := va_S.rf
  have hl := lv_entry ([.ref h, .int ly]) (n := 2) (Nat.le_of_ble_eq_true rfl)
  rw [lg_entry_eq]
  generalize (lg_sl ([.ref h, .int ly]) ++ List.replicate (2 - (lg_sl ([.ref h, .int ly])).length) Slot.unset).toArray = ls at hl ⊢
  have hl : lv_has ls 2 [(0, .ref h), (1, .int ly)] := hl
  have hP : va_P D xcl (moW h mm kA v g) s.heap := hP
  obtain ⟨⟨nd, hnd12, hnd⟩, ⟨nl, hnl5, hnl, hpar⟩, hch, hpk, hrq, hmd, huq⟩ := id hMI
  refine lv_aload_n hx hb xd_Mo_modules_0 rfl (lv_at hl 0 rfl) ?_
  refine lv_iconst (v := 0) hx hb xd_Mo_modules_1 (by decide) ?_
  refine va_put (D := D) (ci := 4) (v := .int 0) (ty := .int) (C := xR_Mo) (T := xT_Mo) (N := 31) hx hb hT xi_Mo xt_Mo xt_Mo_ok xn_Mo hown hK.1 hP hD hS 0 rfl rfl 0 (by decide) (hT _ xy3_0) (fun _ h9 => h9) rfl (by decide +kernel) rfl rfl (Nat.le_of_ble_eq_true rfl) xd_Mo_modules_2 (fun H locs hP hD hS => ?_)
  have hP : va_P D xcl (moW h mm kA (va_up v 0 0) g) H := hP
  have hD : va_D A (moW h mm kA (va_up v 0 0) g) := hD
  refine lv_aload_n hx hb xd_Mo_modules_5 rfl (lv_at hl 0 rfl) ?_
  refine lv_iload_n hx hb xd_Mo_modules_6 rfl (lv_at hl 1 rfl) ?_
  have hFc := va_free (wc := (moW h mm kA (va_up v 0 0) g)) hD hS hA [0, 1, 2, 3, 4, 5, 6, 7, 8, 9, 10, 11, 12, 13, 14, 15, 16, 17, 18, 19, 20, 21, 22, 23, 24, 25] rfl
  refine va_calli (va_runV (As := [.int ly]) (rest := []) ⟨hx, hb, hml, hown, hT⟩ (xc_Mo_isOpen l D kA H.size h mm (va_up v 0 0) g ly nl (by first | assumption | omega) (by first | assumption | omega)) (cwV 1 hT (wT_V xy3_5 xy3_6 xy3_7 xy3_8 xy3_4) rfl rfl rfl (by decide +kernel) ⟨Nat.le_of_ble_eq_true rfl, Nat.le_of_ble_eq_true rfl⟩) (x_preV hK hP hD 0 rfl rfl) rfl rfl hl.1 rfl (lv_room (Nat.le_of_ble_eq_true rfl)) xd_Mo_modules_7 ⟨Nat.le_of_ble_eq_true rfl, Nat.le_of_ble_eq_true rfl⟩) hS (fun q _ h => hFc q h) hFc (fun r1 u2 t H1 locs ht hvm hp3 hB hz1 hk1 hS => ?_)
  obtain ⟨hP1, hD1⟩ := hB
  rw [ht] at hP1
  have hD1 := hD1.weaken (fun _ _ _ h => hFc _ h)
  generalize H1 = H at hP1 hS ⊢
  have hP := hP1
  have hD := hD1
  have hP : va_P D xcl (moW h mm kA (va_up v 0 0) g) H := hP
  have hD : va_D A (moW h mm kA (va_up v 0 0) g) := hD
  rcases hp3 with rfl | ⟨rfl, z4, z5, rfl⟩
  · refine xz_eq (a := 0) (tgt := 22) hx hb xd_Mo_modules_10 (by decide) (by omega) (fun _ => ?_) (fun hc6 => absurd hc6 (by omega))
    refine lv_iconst (v := (-1)) hx hb xd_Mo_modules_22 (by decide) ?_
    exact W.iret (v := (-1)) hx hb hr (fun t ht hW => ⟨⟨(-1), ((va_up v 0 0), g), rfl, ⟨MI_v rfl rfl hMI, rfl⟩, by rw [ht]; exact hP, hD⟩, hS.F ht⟩) hS.2.2 xd_Mo_modules_23
  · have hl : lv_has ls 2 [(0, .ref h), (1, .int (nI z4))] := hl
    refine xz_eq (a := 1) (tgt := 22) hx hb xd_Mo_modules_10 (by decide) (by omega) (fun hc7 => absurd hc7 (by omega)) (fun _ => ?_)
    refine lv_aload_n hx hb xd_Mo_modules_13 rfl (lv_at hl 0 rfl) ?_
    refine va_get (D := D) (ci := 4) (v := .ref (mm 20)) (C := xR_Mo) (T := xT_Mo) (N := 31) hx hb hT xi_Mo hown hK.1 hP 0 rfl rfl 26 (by decide) (hT _ xy3_13) (fun _ h9 => h9) rfl xd_Mo_modules_14 ?_
    refine lv_iload_n hx hb xd_Mo_modules_17 rfl (lv_at hl 1 rfl) ?_
    refine xn_iald (i := z4) hx hb hK.1 hP 21 0 rfl rfl (by omega) (by decide) xd_Mo_modules_18 ?_
    refine lv_goto (tgt := 23) hx hb xd_Mo_modules_19 (by decide) ?_
    exact W.iret (v := (g 20 z4)) hx hb hr (fun t ht hW => ⟨⟨(g 20 z4), ((va_up v 0 0), g), rfl, ⟨MI_v rfl rfl hMI, rfl⟩, by rw [ht]; exact hP, hD⟩, hS.F ht⟩) hS.2.2 xd_Mo_modules_23
set_option maxHeartbeats 4000000 in
set_option maxRecDepth 100000 in
theorem xc_Mo_moduleOf (l : Launch) (D : va_G) (kA : Nat → ClassId) (sz h : Nat) (mm : Nat → Nat) (v : Nat → Int32) (g : Nat → Nat → Int32) (ly : Int32) (kx : Int32) (nl : Nat) (hnl : v 5 = nI nl) (hnl5 : nl ≤ 5) (hmd : ∀ la, la < 6 → ∃ k, k ≤ 12 ∧ g 20 la = nI k ∧ ∀ j, j < k → ∃ d, d < 12 ∧ g 21 (12 * la + j) = nI d) : Met l xy_Mo_moduleOf (.code xy_Mo_moduleOf xb_Mo_moduleOf 3 (some .int) :: wT) { frames := 1, cells := 0, slots := 0, locals := 21 } (va_Pc [.ref h, .int ly, .int kx] (xPre D kA sz (moW h mm kA v g))) (va_Qi (fun (r : Int32) (u : Unit) => r = -1 ∨ ∃ la d, la < nl ∧ ly = nI la ∧ d < 12 ∧ r = nI d) (fun (u : Unit) t => va_P D xcl (moW h mm kA v g) t.heap ∧ va_D (va_A (moW h mm kA v g) sz) (moW h mm kA v g)) (va_A (moW h mm kA v g) sz)) 0 0 (va_A (moW h mm kA v g) sz) := by
  refine Met.ofW (cc := xb_Mo_moduleOf) (maxL := 3) (ret := (some .int)) (by decide) rfl ?_
  intro p e s m args below meth c s₁ B hml hv
  obtain ⟨rfl, hsz, hP, hK, hD0⟩ := hv
  have hx := B.exec
  have hb := B.bytes
  have hr := B.returns
  have hT := x_hT B.pre
  have hown : s.vm.findClass xR_Mo = some m.cls := findClass_of_methodNamed B.named
  have hlocks := B.notSynchronized
  subst hsz
  have hD := hD0.self (sz := s.heap.size)
  generalize hAe : va_A (moW h mm kA v g) s.heap.size = A at hD ⊢
  have hA : ∀ q : Nat, s.heap.size ≤ q → A q := fun q h => by rw [← hAe]; exact Or.inr h
  have hS : va_S A s.heap s.heap [] := va_S.rf
  have hl := lv_entry ([.ref h, .int ly, .int kx]) (n := 3) (Nat.le_of_ble_eq_true rfl)
  rw [lg_entry_eq]
  generalize (lg_sl ([.ref h, .int ly, .int kx]) ++ List.replicate (3 - (lg_sl ([.ref h, .int ly, .int kx])).length) Slot.unset).toArray = ls at hl ⊢
  have hl : lv_has ls 3 [(0, .ref h), (1, .int ly), (2, .int kx)] := hl
  have hP : va_P D xcl (moW h mm kA v g) s.heap := hP
  refine lv_aload_n hx hb xd_Mo_moduleOf_0 rfl (lv_at hl 0 rfl) ?_
  refine lv_iload_n hx hb xd_Mo_moduleOf_1 rfl (lv_at hl 1 rfl) ?_
  have hFc := va_free (wc := (moW h mm kA v g)) hD hS hA [0, 1, 2, 3, 4, 5, 6, 7, 8, 9, 10, 11, 12, 13, 14, 15, 16, 17, 18, 19, 20, 21, 22, 23, 24, 25] rfl
  refine va_calli (va_runV (As := [.int ly]) (rest := []) ⟨hx, hb, hml, hown, hT⟩ (xc_Mo_isOpen l D kA s.heap.size h mm v g ly nl (by first | assumption | omega) (by first | assumption | omega)) (cwV 1 hT (wT_V xy3_5 xy3_6 xy3_7 xy3_8 xy3_4) rfl rfl rfl (by decide +kernel) ⟨Nat.le_of_ble_eq_true rfl, Nat.le_of_ble_eq_true rfl⟩) (x_preV hK hP hD 0 rfl rfl) rfl rfl hl.1 rfl (lv_room (Nat.le_of_ble_eq_true rfl)) xd_Mo_moduleOf_2 ⟨Nat.le_of_ble_eq_true rfl, Nat.le_of_ble_eq_true rfl⟩) hS (fun q _ h => hFc q h) hFc (fun r1 u2 t H1 locs ht hvm hp3 hB hz1 hk1 hS => ?_)
  obtain ⟨hP1, hD1⟩ := hB
  rw [ht] at hP1
  have hD1 := hD1.weaken (fun _ _ _ h => hFc _ h)
  generalize H1 = H at hP1 hS ⊢
  have hP := hP1
  have hD := hD1
  have hP : va_P D xcl (moW h mm kA v g) H := hP
  have hD : va_D A (moW h mm kA v g) := hD
  rcases hp3 with rfl | ⟨rfl, z4, z5, rfl⟩
  · refine xz_eq (a := 0) (tgt := 36) hx hb xd_Mo_moduleOf_5 (by decide) (by omega) (fun _ => ?_) (fun hc6 => absurd hc6 (by omega))
    refine lv_iconst (v := (-1)) hx hb xd_Mo_moduleOf_36 (by decide) ?_
    exact W.iret (v := (-1)) hx hb hr (fun t ht hW => ⟨⟨(-1), (), rfl, Or.inl rfl, by rw [ht]; exact hP, hD⟩, hS.F ht⟩) hS.2.2 xd_Mo_moduleOf_37
  · have hl : lv_has ls 3 [(0, .ref h), (1, .int (nI z4)), (2, .int kx)] := hl
    refine xz_eq (a := 1) (tgt := 36) hx hb xd_Mo_moduleOf_5 (by decide) (by omega) (fun hc7 => absurd hc7 (by omega)) (fun _ => ?_)
    refine lv_iload_n hx hb xd_Mo_moduleOf_8 rfl (lv_at hl 2 rfl) ?_
    refine lv_if_lt (tgt := 36) hx hb xd_Mo_moduleOf_9 (by decide) (fun hc8 => ?_) (fun hc8 => ?_)
    · refine lv_iconst (v := (-1)) hx hb xd_Mo_moduleOf_36 (by decide) ?_
      exact W.iret (v := (-1)) hx hb hr (fun t ht hW => ⟨⟨(-1), (), rfl, Or.inl rfl, by rw [ht]; exact hP, hD⟩, hS.F ht⟩) hS.2.2 xd_Mo_moduleOf_37
    · obtain ⟨kn, hkn31, hkx⟩ := nI_of hc8
      rw [xb_31] at hkn31
      rw [hkx] at hl
      obtain ⟨mdk, hmdk, emdk, hent⟩ := hmd z4 (by omega)
      refine lv_iload_n hx hb xd_Mo_moduleOf_12 rfl (lv_at hl 2 rfl) ?_
      refine lv_aload_n hx hb xd_Mo_moduleOf_13 rfl (lv_at hl 0 rfl) ?_
      refine va_get (D := D) (ci := 4) (v := .ref (mm 20)) (C := xR_Mo) (T := xT_Mo) (N := 31) hx hb hT xi_Mo hown hK.1 hP 0 rfl rfl 26 (by decide) (hT _ xy3_13) (fun _ h9 => h9) rfl xd_Mo_moduleOf_14 ?_
      refine lv_iload_n hx hb xd_Mo_moduleOf_17 rfl (lv_at hl 1 rfl) ?_
      refine xn_iald (i := z4) hx hb hK.1 hP 21 0 rfl rfl (by omega) (by decide) xd_Mo_moduleOf_18 ?_
      refine xn_top (x := (g 20 z4)) (y := nI mdk) emdk ?_
      refine xn_ge (a := kn) (b := mdk) (tgt := 36) hx hb xd_Mo_moduleOf_19 (by decide) (by omega) (by omega) (fun hc9 => ?_) (fun hc9 => ?_)
      · refine lv_iconst (v := (-1)) hx hb xd_Mo_moduleOf_36 (by decide) ?_
        exact W.iret (v := (-1)) hx hb hr (fun t ht hW => ⟨⟨(-1), (), rfl, Or.inl rfl, by rw [ht]; exact hP, hD⟩, hS.F ht⟩) hS.2.2 xd_Mo_moduleOf_37
      · refine lv_aload_n hx hb xd_Mo_moduleOf_22 rfl (lv_at hl 0 rfl) ?_
        refine va_get (D := D) (ci := 4) (v := .ref (mm 21)) (C := xR_Mo) (T := xT_Mo) (N := 31) hx hb hT xi_Mo hown hK.1 hP 0 rfl rfl 27 (by decide) (hT _ xy3_14) (fun _ h9 => h9) rfl xd_Mo_moduleOf_23 ?_
        refine lv_bipush (v := 12) hx hb xd_Mo_moduleOf_26 (by decide) ?_
        refine lv_iload_n hx hb xd_Mo_moduleOf_28 rfl (lv_at hl 1 rfl) ?_
        refine lv_imul hx hb xd_Mo_moduleOf_29 ?_
        refine xn_top (y := nI (12 * z4)) (pk_mul 12 z4) ?_
        refine lv_iload_n hx hb xd_Mo_moduleOf_30 rfl (lv_at hl 2 rfl) ?_
        refine lv_iadd hx hb xd_Mo_moduleOf_31 ?_
        refine xn_top (y := nI ((12 * z4) + kn)) (nI_add (12 * z4) kn) ?_
        refine xn_iald (i := (12 * z4) + kn) hx hb hK.1 hP 22 0 rfl rfl (by omega) (by decide) xd_Mo_moduleOf_32 ?_
        obtain ⟨k10, hk11, ek12⟩ := hent kn (by omega)
        refine xn_top (x := (g 21 ((12 * z4) + kn))) ek12 ?_
        refine lv_goto (tgt := 37) hx hb xd_Mo_moduleOf_33 (by decide) ?_
        exact W.iret (v := (nI k10)) hx hb hr (fun t ht hW => ⟨⟨(nI k10), (), rfl, Or.inr ⟨z4, k10, by omega, rfl, by omega, rfl⟩, by rw [ht]; exact hP, hD⟩, hS.F ht⟩) hS.2.2 xd_Mo_moduleOf_37
set_option maxHeartbeats 4000000 in
set_option maxRecDepth 100000 in
theorem xc_Mo_module (l : Launch) (D : va_G) (kA : Nat → ClassId) (sz h : Nat) (mm : Nat → Nat) (v : Nat → Int32) (g : Nat → Nat → Int32) (ly : Int32) (kx : Int32) (hMI : MI v g) : Met l xy_Mo_module (.code xy_Mo_module xb_Mo_module 3 (some .int) :: wT) { frames := 2, cells := 0, slots := 0, locals := 43 } (va_Pc [.ref h, .int ly, .int kx] (xPre D kA sz (moW h mm kA v g))) (va_Qi (fun (r : Int32) (u : (Nat → Int32) × (Nat → Nat → Int32)) => MI u.1 u.2 ∧ u.1 2 = v 2) (fun (u : (Nat → Int32) × (Nat → Nat → Int32)) t => va_P D xcl (moW h mm kA u.1 u.2) t.heap ∧ va_D (va_A (moW h mm kA v g) sz) (moW h mm kA u.1 u.2)) (va_A (moW h mm kA v g) sz)) 0 0 (va_A (moW h mm kA v g) sz) := by
  refine Met.ofW (cc := xb_Mo_module) (maxL := 3) (ret := (some .int)) (by decide) rfl ?_
  intro p e s m args below meth c s₁ B hml hv
  obtain ⟨rfl, hsz, hP, hK, hD0⟩ := hv
  have hx := B.exec
  have hb := B.bytes
  have hr := B.returns
  have hT := x_hT B.pre
  have hown : s.vm.findClass xR_Mo = some m.cls := findClass_of_methodNamed B.named
  have hlocks := B.notSynchronized
  subst hsz
  have hD := hD0.self (sz := s.heap.size)
  generalize hAe : va_A (moW h mm kA v g) s.heap.size = A at hD ⊢
  have hA : ∀ q : Nat, s.heap.size ≤ q → A q := fun q h => by rw [← hAe]; exact Or.inr h
  have hS : va_S A s.heap s.heap [] := va_S.rf
  have hl := lv_entry ([.ref h, .int ly, .int kx]) (n := 3) (Nat.le_of_ble_eq_true rfl)
  rw [lg_entry_eq]
  generalize (lg_sl ([.ref h, .int ly, .int kx]) ++ List.replicate (3 - (lg_sl ([.ref h, .int ly, .int kx])).length) Slot.unset).toArray = ls at hl ⊢
  have hl : lv_has ls 3 [(0, .ref h), (1, .int ly), (2, .int kx)] := hl
  have hP : va_P D xcl (moW h mm kA v g) s.heap := hP
  obtain ⟨⟨nd, hnd12, hnd⟩, ⟨nl, hnl5, hnl, hpar⟩, hch, hpk, hrq, hmd, huq⟩ := id hMI
  refine lv_aload_n hx hb xd_Mo_module_0 rfl (lv_at hl 0 rfl) ?_
  refine lv_iconst (v := 0) hx hb xd_Mo_module_1 (by decide) ?_
  refine va_put (D := D) (ci := 4) (v := .int 0) (ty := .int) (C := xR_Mo) (T := xT_Mo) (N := 31) hx hb hT xi_Mo xt_Mo xt_Mo_ok xn_Mo hown hK.1 hP hD hS 0 rfl rfl 0 (by decide) (hT _ xy3_0) (fun _ h9 => h9) rfl (by decide +kernel) rfl rfl (Nat.le_of_ble_eq_true rfl) xd_Mo_module_2 (fun H locs hP hD hS => ?_)
  have hP : va_P D xcl (moW h mm kA (va_up v 0 0) g) H := hP
  have hD : va_D A (moW h mm kA (va_up v 0 0) g) := hD
  refine lv_aload_n hx hb xd_Mo_module_5 rfl (lv_at hl 0 rfl) ?_
  refine lv_iload_n hx hb xd_Mo_module_6 rfl (lv_at hl 1 rfl) ?_
  refine lv_iload_n hx hb xd_Mo_module_7 rfl (lv_at hl 2 rfl) ?_
  have hFc := va_free (wc := (moW h mm kA (va_up v 0 0) g)) hD hS hA [0, 1, 2, 3, 4, 5, 6, 7, 8, 9, 10, 11, 12, 13, 14, 15, 16, 17, 18, 19, 20, 21, 22, 23, 24, 25] rfl
  refine va_calli (va_runV (As := [.int ly, .int kx]) (rest := []) ⟨hx, hb, hml, hown, hT⟩ (xc_Mo_moduleOf l D kA H.size h mm (va_up v 0 0) g ly kx nl (by first | assumption | omega) (by first | assumption | omega) (by first | assumption | omega)) (cwV 2 hT (wT_V xy3_16 xy3_17 xy3_18 xy3_8 xy3_15) rfl rfl rfl (by decide +kernel) ⟨Nat.le_of_ble_eq_true rfl, Nat.le_of_ble_eq_true rfl⟩) (x_preV hK hP hD 0 rfl rfl) rfl rfl hl.1 rfl (lv_room (Nat.le_of_ble_eq_true rfl)) xd_Mo_module_8 ⟨Nat.le_of_ble_eq_true rfl, Nat.le_of_ble_eq_true rfl⟩) hS (fun q _ h => hFc q h) hFc (fun r1 u2 t H1 locs ht hvm hp3 hB hz1 hk1 hS => ?_)
  obtain ⟨hP1, hD1⟩ := hB
  rw [ht] at hP1
  have hD1 := hD1.weaken (fun _ _ _ h => hFc _ h)
  generalize H1 = H at hP1 hS ⊢
  have hP := hP1
  have hD := hD1
  have hP : va_P D xcl (moW h mm kA (va_up v 0 0) g) H := hP
  have hD : va_D A (moW h mm kA (va_up v 0 0) g) := hD
  exact W.iret (v := r1) hx hb hr (fun t ht hW => ⟨⟨r1, ((va_up v 0 0), g), rfl, ⟨MI_v rfl rfl hMI, rfl⟩, by rw [ht]; exact hP, hD⟩, hS.F ht⟩) hS.2.2 xd_Mo_module_11
set_option maxHeartbeats 4000000 in
set_option maxRecDepth 100000 in
theorem xc_Mo_isThere (l : Launch) (D : va_G) (kA : Nat → ClassId) (sz h : Nat) (mm : Nat → Nat) (v : Nat → Int32) (g : Nat → Nat → Int32) (ly : Int32) (dx : Int32) (nl : Nat) (nd : Nat) (hnl : v 5 = nI nl) (hnl5 : nl ≤ 5) (hmd : ∀ la, la < 6 → ∃ k, k ≤ 12 ∧ g 20 la = nI k ∧ ∀ j, j < k → ∃ d, d < 12 ∧ g 21 (12 * la + j) = nI d) (hnd : v 4 = nI nd) (hnd12 : nd ≤ 12) : Met l xy_Mo_isThere (.code xy_Mo_isThere xb_Mo_isThere 3 (some .boolean) :: wT) { frames := 1, cells := 0, slots := 0, locals := 24 } (va_Pc [.ref h, .int ly, .int dx] (xPre D kA sz (moW h mm kA v g))) (va_Qi (fun (r : Int32) (u : Unit) => r = 0 ∨ (r = 1 ∧ ∃ la d, la < nl ∧ ly = nI la ∧ d < 12 ∧ dx = nI d)) (fun (u : Unit) t => va_P D xcl (moW h mm kA v g) t.heap ∧ va_D (va_A (moW h mm kA v g) sz) (moW h mm kA v g)) (va_A (moW h mm kA v g) sz)) 0 0 (va_A (moW h mm kA v g) sz) := by
  refine Met.ofW (cc := xb_Mo_isThere) (maxL := 3) (ret := (some .boolean)) (by decide) rfl ?_
  intro p e s m args below meth c s₁ B hml hv
  obtain ⟨rfl, hsz, hP, hK, hD0⟩ := hv
  have hx := B.exec
  have hb := B.bytes
  have hr := B.returns
  have hT := x_hT B.pre
  have hown : s.vm.findClass xR_Mo = some m.cls := findClass_of_methodNamed B.named
  have hlocks := B.notSynchronized
  subst hsz
  have hD := hD0.self (sz := s.heap.size)
  generalize hAe : va_A (moW h mm kA v g) s.heap.size = A at hD ⊢
  have hA : ∀ q : Nat, s.heap.size ≤ q → A q := fun q h => by rw [← hAe]; exact Or.inr h
  have hS : va_S A s.heap s.heap [] := va_S.rf
  have hl := lv_entry ([.ref h, .int ly, .int dx]) (n := 3) (Nat.le_of_ble_eq_true rfl)
  rw [lg_entry_eq]
  generalize (lg_sl ([.ref h, .int ly, .int dx]) ++ List.replicate (3 - (lg_sl ([.ref h, .int ly, .int dx])).length) Slot.unset).toArray = ls at hl ⊢
  have hl : lv_has ls 3 [(0, .ref h), (1, .int ly), (2, .int dx)] := hl
  have hP : va_P D xcl (moW h mm kA v g) s.heap := hP
  refine lv_aload_n hx hb xd_Mo_isThere_0 rfl (lv_at hl 0 rfl) ?_
  refine lv_iload_n hx hb xd_Mo_isThere_1 rfl (lv_at hl 1 rfl) ?_
  have hFc := va_free (wc := (moW h mm kA v g)) hD hS hA [0, 1, 2, 3, 4, 5, 6, 7, 8, 9, 10, 11, 12, 13, 14, 15, 16, 17, 18, 19, 20, 21, 22, 23, 24, 25] rfl
  refine va_calli (va_runV (As := [.int ly]) (rest := []) ⟨hx, hb, hml, hown, hT⟩ (xc_Mo_isOpen l D kA s.heap.size h mm v g ly nl (by first | assumption | omega) (by first | assumption | omega)) (cwV 1 hT (wT_V xy3_5 xy3_6 xy3_7 xy3_8 xy3_4) rfl rfl rfl (by decide +kernel) ⟨Nat.le_of_ble_eq_true rfl, Nat.le_of_ble_eq_true rfl⟩) (x_preV hK hP hD 0 rfl rfl) rfl rfl hl.1 rfl (lv_room (Nat.le_of_ble_eq_true rfl)) xd_Mo_isThere_2 ⟨Nat.le_of_ble_eq_true rfl, Nat.le_of_ble_eq_true rfl⟩) hS (fun q _ h => hFc q h) hFc (fun r1 u2 t H1 locs ht hvm hp3 hB hz1 hk1 hS => ?_)
  obtain ⟨hP1, hD1⟩ := hB
  rw [ht] at hP1
  have hD1 := hD1.weaken (fun _ _ _ h => hFc _ h)
  generalize H1 = H at hP1 hS ⊢
  have hP := hP1
  have hD := hD1
  have hP : va_P D xcl (moW h mm kA v g) H := hP
  have hD : va_D A (moW h mm kA v g) := hD
  rcases hp3 with rfl | ⟨rfl, z4, z5, rfl⟩
  · refine xz_eq (a := 0) (tgt := 33) hx hb xd_Mo_isThere_5 (by decide) (by omega) (fun _ => ?_) (fun hc6 => absurd hc6 (by omega))
    refine lv_iconst (v := 0) hx hb xd_Mo_isThere_33 (by decide) ?_
    exact W.zret (v := 0) hx hb hr rfl (fun t ht hW => ⟨⟨0, (), rfl, Or.inl rfl, by rw [ht]; exact hP, hD⟩, hS.F ht⟩) hS.2.2 xd_Mo_isThere_34
  · have hl : lv_has ls 3 [(0, .ref h), (1, .int (nI z4)), (2, .int dx)] := hl
    refine xz_eq (a := 1) (tgt := 33) hx hb xd_Mo_isThere_5 (by decide) (by omega) (fun hc7 => absurd hc7 (by omega)) (fun _ => ?_)
    refine lv_iload_n hx hb xd_Mo_isThere_8 rfl (lv_at hl 2 rfl) ?_
    refine lv_if_lt (tgt := 33) hx hb xd_Mo_isThere_9 (by decide) (fun hc8 => ?_) (fun hc8 => ?_)
    · refine lv_iconst (v := 0) hx hb xd_Mo_isThere_33 (by decide) ?_
      exact W.zret (v := 0) hx hb hr rfl (fun t ht hW => ⟨⟨0, (), rfl, Or.inl rfl, by rw [ht]; exact hP, hD⟩, hS.F ht⟩) hS.2.2 xd_Mo_isThere_34
    · obtain ⟨dn9, hdn931, hdx⟩ := nI_of hc8
      rw [xb_31] at hdn931
      rw [hdx] at hl
      refine lv_iload_n hx hb xd_Mo_isThere_12 rfl (lv_at hl 2 rfl) ?_
      refine lv_aload_n hx hb xd_Mo_isThere_13 rfl (lv_at hl 0 rfl) ?_
      refine va_get (D := D) (ci := 4) (v := .int (v 4)) (C := xR_Mo) (T := xT_Mo) (N := 31) hx hb hT xi_Mo hown hK.1 hP 0 rfl rfl 7 (by decide) (hT _ xy3_12) (fun _ h9 => h9) rfl xd_Mo_isThere_14 ?_
      refine xn_top (x := (v 4)) (y := nI nd) hnd ?_
      refine xn_ge (a := dn9) (b := nd) (tgt := 33) hx hb xd_Mo_isThere_17 (by decide) (by omega) (by omega) (fun hc9 => ?_) (fun hc9 => ?_)
      · refine lv_iconst (v := 0) hx hb xd_Mo_isThere_33 (by decide) ?_
        exact W.zret (v := 0) hx hb hr rfl (fun t ht hW => ⟨⟨0, (), rfl, Or.inl rfl, by rw [ht]; exact hP, hD⟩, hS.F ht⟩) hS.2.2 xd_Mo_isThere_34
      · obtain ⟨mdk, hmdk, emdk, hent⟩ := hmd z4 (by omega)
        refine lv_aload_n hx hb xd_Mo_isThere_20 rfl (lv_at hl 0 rfl) ?_
        refine lv_iload_n hx hb xd_Mo_isThere_21 rfl (lv_at hl 1 rfl) ?_
        refine lv_iload_n hx hb xd_Mo_isThere_22 rfl (lv_at hl 2 rfl) ?_
        have hFc := va_free (wc := (moW h mm kA v g)) hD hS hA [0, 1, 2, 3, 4, 5, 6, 7, 8, 9, 10, 11, 12, 13, 14, 15, 16, 17, 18, 19, 20, 21, 22, 23, 24, 25] rfl
        refine va_calli (va_runV (As := [.int (nI z4), .int (nI dn9)]) (rest := []) ⟨hx, hb, hml, hown, hT⟩ (xc_Mo_isIn l D kA H.size h mm v g z4 (nI dn9) mdk (by first | assumption | omega) (by first | assumption | omega) (by first | assumption | omega)) (cwV 2 hT (wT_V xy3_20 xy3_21 xy3_22 xy3_8 xy3_19) rfl rfl rfl (by decide +kernel) ⟨Nat.le_of_ble_eq_true rfl, Nat.le_of_ble_eq_true rfl⟩) (x_preV hK hP hD 0 rfl rfl) rfl rfl hl.1 rfl (lv_room (Nat.le_of_ble_eq_true rfl)) xd_Mo_isThere_23 ⟨Nat.le_of_ble_eq_true rfl, Nat.le_of_ble_eq_true rfl⟩) hS (fun q _ h => hFc q h) hFc (fun r10 u11 t H1 locs ht hvm hp12 hB hz1 hk1 hS => ?_)
        obtain ⟨hP1, hD1⟩ := hB
        rw [ht] at hP1
        have hD1 := hD1.weaken (fun _ _ _ h => hFc _ h)
        generalize H1 = H at hP1 hS ⊢
        have hP := hP1
        have hD := hD1
        have hP : va_P D xcl (moW h mm kA v g) H := hP
        have hD : va_D A (moW h mm kA v g) := hD
        rcases hp12 with ⟨rfl, z13, z14, z15, z16⟩ | ⟨rfl, z17⟩
        · refine xz_eq (a := 1) (tgt := 33) hx hb xd_Mo_isThere_26 (by decide) (by omega) (fun hc18 => absurd hc18 (by omega)) (fun _ => ?_)
          refine lv_iconst (v := 1) hx hb xd_Mo_isThere_29 (by decide) ?_
          refine lv_goto (tgt := 34) hx hb xd_Mo_isThere_30 (by decide) ?_
          exact W.zret (v := 1) hx hb hr rfl (fun t ht hW => ⟨⟨1, (), rfl, Or.inr ⟨rfl, z4, dn9, by omega, rfl, by omega, hdx⟩, by rw [ht]; exact hP, hD⟩, hS.F ht⟩) hS.2.2 xd_Mo_isThere_34
        · refine xz_eq (a := 0) (tgt := 33) hx hb xd_Mo_isThere_26 (by decide) (by omega) (fun _ => ?_) (fun hc19 => absurd hc19 (by omega))
          refine lv_iconst (v := 0) hx hb xd_Mo_isThere_33 (by decide) ?_
          exact W.zret (v := 0) hx hb hr rfl (fun t ht hW => ⟨⟨0, (), rfl, Or.inl rfl, by rw [ht]; exact hP, hD⟩, hS.F ht⟩) hS.2.2 xd_Mo_isThere_34
set_option maxHeartbeats 4000000 in
set_option maxRecDepth 100000 in
theorem xc_Mo_reads (l : Launch) (D : va_G) (kA : Nat → ClassId) (sz h : Nat) (mm : Nat → Nat) (v : Nat → Int32) (g : Nat → Nat → Int32) (ly : Int32) (kx : Int32) (ly2 : Int32) (dx : Int32) (hMI : MI v g) : Met l xy_Mo_reads (.code xy_Mo_reads xb_Mo_reads 6 (some .boolean) :: wT) { frames := 2, cells := 0, slots := 0, locals := 50 } (va_Pc [.ref h, .int ly, .int kx, .int ly2, .int dx] (xPre D kA sz (moW h mm kA v g))) (va_Qi (fun (r : Int32) (u : (Nat → Int32) × (Nat → Nat → Int32)) => MI u.1 u.2 ∧ u.1 2 = v 2) (fun (u : (Nat → Int32) × (Nat → Nat → Int32)) t => va_P D xcl (moW h mm kA u.1 u.2) t.heap ∧ va_D (va_A (moW h mm kA v g) sz) (moW h mm kA u.1 u.2)) (va_A (moW h mm kA v g) sz)) 0 0 (va_A (moW h mm kA v g) sz) := by
  refine Met.ofW (cc := xb_Mo_reads) (maxL := 6) (ret := (some .boolean)) (by decide) rfl ?_
  intro p e s m args below meth c s₁ B hml hv
  obtain ⟨rfl, hsz, hP, hK, hD0⟩ := hv
  have hx := B.exec
  have hb := B.bytes
  have hr := B.returns
  have hT := x_hT B.pre
  have hown : s.vm.findClass xR_Mo = some m.cls := findClass_of_methodNamed B.named
  have hlocks := B.notSynchronized
  subst hsz
  have hD := hD0.self (sz := s.heap.size)
  generalize hAe : va_A (moW h mm kA v g) s.heap.size = A at hD ⊢
  have hA : ∀ q : Nat, s.heap.size ≤ q → A q := fun q h => by rw [← hAe]; exact Or.inr h
  have hS : va_S A s.heap s.heap [] := va_S.rf
  have hl := lv_entry ([.ref h, .int ly, .int kx, .int ly2, .int dx]) (n := 6) (Nat.le_of_ble_eq_true rfl)
  rw [lg_entry_eq]
  generalize (lg_sl ([.ref h, .int ly, .int kx, .int ly2, .int dx]) ++ List.replicate (6 - (lg_sl ([.ref h, .int ly, .int kx, .int ly2, .int dx])).length) Slot.unset).toArray = ls at hl ⊢
  have hl : lv_has ls 6 [(0, .ref h), (1, .int ly), (2, .int kx), (3, .int ly2), (4, .int dx)] := hl
  have hP : va_P D xcl (moW h mm kA v g) s.heap := hP
  obtain ⟨⟨nd, hnd12, hnd⟩, ⟨nl, hnl5, hnl, hpar⟩, hch, hpk, hrq, hmd, huq⟩ := id hMI
  refine lv_aload_n hx hb xd_Mo_reads_0 rfl (lv_at hl 0 rfl) ?_
  refine lv_iconst (v := 0) hx hb xd_Mo_reads_1 (by decide) ?_
  refine va_put (D := D) (ci := 4) (v := .int 0) (ty := .int) (C := xR_Mo) (T := xT_Mo) (N := 31) hx hb hT xi_Mo xt_Mo xt_Mo_ok xn_Mo hown hK.1 hP hD hS 0 rfl rfl 0 (by decide) (hT _ xy3_0) (fun _ h9 => h9) rfl (by decide +kernel) rfl rfl (Nat.le_of_ble_eq_true rfl) xd_Mo_reads_2 (fun H locs hP hD hS => ?_)
  have hP : va_P D xcl (moW h mm kA (va_up v 0 0) g) H := hP
  have hD : va_D A (moW h mm kA (va_up v 0 0) g) := hD
  refine lv_aload_n hx hb xd_Mo_reads_5 rfl (lv_at hl 0 rfl) ?_
  refine lv_iload_n hx hb xd_Mo_reads_6 rfl (lv_at hl 1 rfl) ?_
  refine lv_iload_n hx hb xd_Mo_reads_7 rfl (lv_at hl 2 rfl) ?_
  have hFc := va_free (wc := (moW h mm kA (va_up v 0 0) g)) hD hS hA [0, 1, 2, 3, 4, 5, 6, 7, 8, 9, 10, 11, 12, 13, 14, 15, 16, 17, 18, 19, 20, 21, 22, 23, 24, 25] rfl
  refine va_calli (va_runV (As := [.int ly, .int kx]) (rest := []) ⟨hx, hb, hml, hown, hT⟩ (xc_Mo_moduleOf l D kA H.size h mm (va_up v 0 0) g ly kx nl (by first | assumption | omega) (by first | assumption | omega) (by first | assumption | omega)) (cwV 2 hT (wT_V xy3_16 xy3_17 xy3_18 xy3_8 xy3_15) rfl rfl rfl (by decide +kernel) ⟨Nat.le_of_ble_eq_true rfl, Nat.le_of_ble_eq_true rfl⟩) (x_preV hK hP hD 0 rfl rfl) rfl rfl hl.1 rfl (lv_room (Nat.le_of_ble_eq_true rfl)) xd_Mo_reads_8 ⟨Nat.le_of_ble_eq_true rfl, Nat.le_of_ble_eq_true rfl⟩) hS (fun q _ h => hFc q h) hFc (fun r1 u2 t H1 locs ht hvm hp3 hB hz1 hk1 hS => ?_)
  obtain ⟨hP1, hD1⟩ := hB
  rw [ht] at hP1
  have hD1 := hD1.weaken (fun _ _ _ h => hFc _ h)
  generalize H1 = H at hP1 hS ⊢
  have hP := hP1
  have hD := hD1
  have hP : va_P D xcl (moW h mm kA (va_up v 0 0) g) H := hP
  have hD : va_D A (moW h mm kA (va_up v 0 0) g) := hD
  rcases hp3 with rfl | ⟨z4, z5, z6, rfl, z7, rfl⟩
  · refine lv_istore hx hb xd_Mo_reads_11 hl (Nat.le_of_ble_eq_true rfl) rfl (fun ls hl => ?_)
    have hl : lv_has ls 6 [(5, .int (-1)), (0, .ref h), (1, .int ly), (2, .int kx), (3, .int ly2), (4, .int dx)] := hl
    refine lv_iload hx hb xd_Mo_reads_13 (lv_at hl 0 rfl) ?_
    refine lv_if_lt (tgt := 28) hx hb xd_Mo_reads_15 (by decide) (fun _ => ?_) (fun hc8 => absurd hc8 (by decide))
    refine lv_iconst (v := 0) hx hb xd_Mo_reads_28 (by decide) ?_
    exact W.zret (v := 0) hx hb hr rfl (fun t ht hW => ⟨⟨0, ((va_up v 0 0), g), rfl, ⟨MI_v rfl rfl hMI, rfl⟩, by rw [ht]; exact hP, hD⟩, hS.F ht⟩) hS.2.2 xd_Mo_reads_29
  · have hl : lv_has ls 6 [(0, .ref h), (1, .int (nI z4)), (2, .int kx), (3, .int ly2), (4, .int dx)] := hl
    refine lv_istore hx hb xd_Mo_reads_11 hl (Nat.le_of_ble_eq_true rfl) rfl (fun ls hl => ?_)
    have hl : lv_has ls 6 [(5, .int (nI z5)), (0, .ref h), (1, .int (nI z4)), (2, .int kx), (3, .int ly2), (4, .int dx)] := hl
    refine lv_iload hx hb xd_Mo_reads_13 (lv_at hl 0 rfl) ?_
    refine xz_lt (a := z5) (tgt := 28) hx hb xd_Mo_reads_15 (by decide) (by omega) ?_
    refine lv_aload_n hx hb xd_Mo_reads_18 rfl (lv_at hl 1 rfl) ?_
    refine lv_iload_n hx hb xd_Mo_reads_19 rfl (lv_at hl 4 rfl) ?_
    refine lv_iload hx hb xd_Mo_reads_20 (lv_at hl 5 rfl) ?_
    have hFc := va_free (wc := (moW h mm kA (va_up v 0 0) g)) hD hS hA [0, 1, 2, 3, 4, 5, 6, 7, 8, 9, 10, 11, 12, 13, 14, 15, 16, 17, 18, 19, 20, 21, 22, 23, 24, 25] rfl
    refine va_calli (va_runV (As := [.int ly2, .int dx]) (rest := []) ⟨hx, hb, hml, hown, hT⟩ (xc_Mo_isThere l D kA H.size h mm (va_up v 0 0) g ly2 dx nl nd (by first | assumption | omega) (by first | assumption | omega) (by first | assumption | omega) (by first | assumption | omega) (by first | assumption | omega)) (cwV 2 hT (wT_V xy3_24 xy3_25 xy3_26 xy3_8 xy3_23) rfl rfl rfl (by decide +kernel) ⟨Nat.le_of_ble_eq_true rfl, Nat.le_of_ble_eq_true rfl⟩) (x_preV hK hP hD 0 rfl rfl) rfl rfl hl.1 rfl (lv_room (Nat.le_of_ble_eq_true rfl)) xd_Mo_reads_22 ⟨Nat.le_of_ble_eq_true rfl, Nat.le_of_ble_eq_true rfl⟩) hS (fun q _ h => hFc q h) hFc (fun r10 u11 t H1 locs ht hvm hp12 hB hz1 hk1 hS => ?_)
    obtain ⟨hP1, hD1⟩ := hB
    rw [ht] at hP1
    have hD1 := hD1.weaken (fun _ _ _ h => hFc _ h)
    generalize H1 = H at hP1 hS ⊢
    have hP := hP1
    have hD := hD1
    have hP : va_P D xcl (moW h mm kA (va_up v 0 0) g) H := hP
    have hD : va_D A (moW h mm kA (va_up v 0 0) g) := hD
    rcases hp12 with rfl | ⟨rfl, z13, z14, z15, rfl, z16, rfl⟩
    · refine xz_ne (a := 0) (tgt := 30) hx hb xd_Mo_reads_25 (by decide) (by omega) (fun hc17 => absurd hc17 (by omega)) (fun _ => ?_)
      refine lv_iconst (v := 0) hx hb xd_Mo_reads_28 (by decide) ?_
      exact W.zret (v := 0) hx hb hr rfl (fun t ht hW => ⟨⟨0, ((va_up v 0 0), g), rfl, ⟨MI_v rfl rfl hMI, rfl⟩, by rw [ht]; exact hP, hD⟩, hS.F ht⟩) hS.2.2 xd_Mo_reads_29
    · have hl : lv_has ls 6 [(5, .int (nI z5)), (0, .ref h), (1, .int (nI z4)), (2, .int kx), (3, .int (nI z13)), (4, .int (nI z14))] := hl
      refine xz_ne (a := 1) (tgt := 30) hx hb xd_Mo_reads_25 (by decide) (by omega) (fun _ => ?_) (fun hc18 => absurd hc18 (by omega))
      refine lv_aload_n hx hb xd_Mo_reads_30 rfl (lv_at hl 1 rfl) ?_
      refine lv_iload_n hx hb xd_Mo_reads_31 rfl (lv_at hl 2 rfl) ?_
      refine lv_iload hx hb xd_Mo_reads_32 (lv_at hl 0 rfl) ?_
      have hFc := va_free (wc := (moW h mm kA (va_up v 0 0) g)) hD hS hA [0, 1, 2, 3, 4, 5, 6, 7, 8, 9, 10, 11, 12, 13, 14, 15, 16, 17, 18, 19, 20, 21, 22, 23, 24, 25] rfl
      refine va_callv (va_runV (As := [.int (nI z4), .int (nI z5)]) (rest := []) ⟨hx, hb, hml, hown, hT⟩ (xc_Mo_reading l D kA H.size h mm (va_up v 0 0) g z4 z5 nl (MI_v rfl rfl hMI) (by first | assumption | omega) hpar (by first | assumption | omega) (by first | assumption | omega)) (cwV 2 hT (wT_V xy3_28 xy3_29 xy3_30 xy3_8 xy3_27) rfl rfl rfl (by decide +kernel) ⟨Nat.le_of_ble_eq_true rfl, Nat.le_of_ble_eq_true rfl⟩) (x_preV hK hP hD 0 rfl rfl) rfl rfl hl.1 rfl (lv_room (Nat.le_of_ble_eq_true rfl)) xd_Mo_reads_34 ⟨Nat.le_of_ble_eq_true rfl, Nat.le_of_ble_eq_true rfl⟩) hS (fun q _ h => hFc q h) hFc (fun u20 t H1 locs ht hvm hp21 hB hz1 hk1 hS => ?_)
      obtain ⟨hP1, hD1⟩ := hB
      rw [ht] at hP1
      have hD1 := hD1.weaken (fun _ _ _ h => hFc _ h)
      obtain ⟨v22, g23⟩ := u20
      generalize H1 = H at hP1 hS ⊢
      have hP := hP1
      have hD := hD1
      have hP : va_P D xcl (moW h mm kA v22 g23) H := hP
      have hD : va_D A (moW h mm kA v22 g23) := hD
      obtain ⟨hu9, hfr9, hbz9, hsn9⟩ := hp21
      have hu9 : v22 = (va_up v 0 0) := hu9
      subst hu9
      have hfr9 : ∀ j, j ≠ 24 → g23 j = g j := hfr9
      have hbz9 : bz (g23 24) := hbz9
      have hP : va_P D xcl (moW h mm kA (va_up v 0 0) g23) H := hP
      have hD : va_D A (moW h mm kA (va_up v 0 0) g23) := hD
      refine lv_aload_n hx hb xd_Mo_reads_37 rfl (lv_at hl 1 rfl) ?_
      refine va_get (D := D) (ci := 4) (v := .ref (mm 24)) (C := xR_Mo) (T := xT_Mo) (N := 31) hx hb hT xi_Mo hown hK.1 hP 0 rfl rfl 30 (by decide) (hT _ xy3_31) (fun _ h9 => h9) rfl xd_Mo_reads_38 ?_
      refine lv_bipush (v := 12) hx hb xd_Mo_reads_41 (by decide) ?_
      refine lv_iload_n hx hb xd_Mo_reads_43 rfl (lv_at hl 4 rfl) ?_
      refine lv_imul hx hb xd_Mo_reads_44 ?_
      refine xn_top (y := nI (12 * z13)) (pk_mul 12 z13) ?_
      refine lv_iload hx hb xd_Mo_reads_45 (lv_at hl 5 rfl) ?_
      refine lv_iadd hx hb xd_Mo_reads_47 ?_
      refine xn_top (y := nI ((12 * z13) + z14)) (nI_add (12 * z13) z14) ?_
      refine xn_zald (i := (12 * z13) + z14) hx hb hK.1 hP 25 2 rfl rfl (by omega) (by decide) xd_Mo_reads_48 ?_
      exact W.zret (v := (g23 24 ((12 * z13) + z14))) hx hb hr (hbz9 _ (by omega)) (fun t ht hW => ⟨⟨(g23 24 ((12 * z13) + z14)), ((va_up v 0 0), g23), rfl, ⟨MI_g (hfr9 0 (by decide)) (hfr9 3 (by decide)) (hfr9 4 (by decide)) (hfr9 5 (by decide)) (hfr9 12 (by decide)) (hfr9 19 (by decide)) (hfr9 20 (by decide)) (hfr9 21 (by decide)) (MI_v rfl rfl hMI), rfl⟩, by rw [ht]; exact hP, hD⟩, hS.F ht⟩) hS.2.2 xd_Mo_reads_49
