def xR_La : String := "LayerDeskLaw"
abbrev xb_Li_init : ByteArray := prog_6_method_1_code
def xy_Li_init : MethodName := ⟨"LayerDesk$Line", "<init>", "()V"⟩
abbrev xb_Sh_init : ByteArray := prog_10_method_1_code
def xy_Sh_init : MethodName := ⟨"LayerDesk$Shelf", "<init>", "()V"⟩
abbrev xb_Ch_init : ByteArray := prog_2_method_1_code
def xy_Ch_init : MethodName := ⟨"LayerDesk$Chooser", "<init>", "(LLayerDesk$Shelf;)V"⟩
abbrev xb_De_init : ByteArray := prog_1_method_1_code
def xy_De_init : MethodName := ⟨"LayerDesk", "<init>", "()V"⟩
abbrev xb_Mo_init : ByteArray := prog_12_method_1_code
def xy_Mo_init : MethodName := ⟨"LayerDeskModel", "<init>", "()V"⟩
abbrev xb_Li_append : ByteArray := prog_6_method_2_code
def xy_Li_append : MethodName := ⟨"LayerDesk$Line", "append", "(C)Z"⟩
abbrev xb_De_write : ByteArray := prog_1_method_2_code
def xy_De_write : MethodName := ⟨"LayerDesk", "write", "(C)Z"⟩
abbrev xb_Li_take : ByteArray := prog_6_method_3_code
def xy_Li_take : MethodName := ⟨"LayerDesk$Line", "take", "()V"⟩
abbrev xb_Li_takeName : ByteArray := prog_6_method_4_code
def xy_Li_takeName : MethodName := ⟨"LayerDesk$Line", "takeName", "()I"⟩
abbrev xb_Sh_accept : ByteArray := prog_10_method_4_code
def xy_Sh_accept : MethodName := ⟨"LayerDesk$Shelf", "accept", "(LLayerDesk$Line;)I"⟩
abbrev xb_De_line : ByteArray := prog_1_method_3_code
def xy_De_line : MethodName := ⟨"LayerDesk", "line", "()I"⟩
abbrev xb_De_fault : ByteArray := prog_1_method_5_code
def xy_De_fault : MethodName := ⟨"LayerDesk", "fault", "()I"⟩
abbrev xb_De_openLayer : ByteArray := prog_1_method_14_code
def xy_De_openLayer : MethodName := ⟨"LayerDesk", "openLayer", "(I)LLayerDesk$Layer;"⟩
abbrev xb_De_close : ByteArray := prog_1_method_6_code
def xy_De_close : MethodName := ⟨"LayerDesk", "close", "(I)Z"⟩
abbrev xb_De_countOpen : ByteArray := prog_1_method_22_code
def xy_De_countOpen : MethodName := ⟨"LayerDesk", "countOpen", "()I"⟩
abbrev xb_De_count : ByteArray := prog_1_method_7_code
def xy_De_count : MethodName := ⟨"LayerDesk", "count", "(I)I"⟩
abbrev xb_De_modules : ByteArray := prog_1_method_8_code
def xy_De_modules : MethodName := ⟨"LayerDesk", "modules", "(I)I"⟩
abbrev xb_De_memberAt : ByteArray := prog_1_method_15_code
def xy_De_memberAt : MethodName := ⟨"LayerDesk", "memberAt", "(II)LLayerDesk$Member;"⟩
abbrev xb_De_memberOf : ByteArray := prog_1_method_16_code
def xy_De_memberOf : MethodName := ⟨"LayerDesk", "memberOf", "(II)LLayerDesk$Member;"⟩
abbrev xb_De_module : ByteArray := prog_1_method_9_code
def xy_De_module : MethodName := ⟨"LayerDesk", "module", "(II)I"⟩
abbrev xb_De_reads : ByteArray := prog_1_method_10_code
def xy_De_reads : MethodName := ⟨"LayerDesk", "reads", "(IIII)Z"⟩
abbrev xb_De_rootsAreNames : ByteArray := prog_1_method_17_code
def xy_De_rootsAreNames : MethodName := ⟨"LayerDesk", "rootsAreNames", "()Z"⟩
abbrev xb_De_layer : ByteArray := prog_1_method_4_code
def xy_De_layer : MethodName := ⟨"LayerDesk", "layer", "(IIZ)I"⟩
abbrev xb_De_load : ByteArray := prog_1_method_11_code
def xy_De_load : MethodName := ⟨"LayerDesk", "load", "(II)I"⟩
abbrev xb_De_peek : ByteArray := prog_1_method_12_code
def xy_De_peek : MethodName := ⟨"LayerDesk", "peek", "(IIII)Z"⟩
abbrev xb_De_provider : ByteArray := prog_1_method_13_code
def xy_De_provider : MethodName := ⟨"LayerDesk", "provider", "(II)I"⟩
abbrev xb_Mo_thrown : ByteArray := prog_12_method_2_code
def xy_Mo_thrown : MethodName := ⟨"LayerDeskModel", "thrown", "()I"⟩
abbrev xb_Mo_fails : ByteArray := prog_12_method_3_code
def xy_Mo_fails : MethodName := ⟨"LayerDeskModel", "fails", "(I)I"⟩
abbrev xb_Mo_write : ByteArray := prog_12_method_4_code
def xy_Mo_write : MethodName := ⟨"LayerDeskModel", "write", "(C)Z"⟩
abbrev xb_Mo_split : ByteArray := prog_12_method_5_code
def xy_Mo_split : MethodName := ⟨"LayerDeskModel", "split", "()V"⟩
abbrev xb_Mo_line : ByteArray := prog_12_method_10_code
def xy_Mo_line : MethodName := ⟨"LayerDeskModel", "line", "()I"⟩
abbrev xb_Mo_isOpen : ByteArray := prog_12_method_19_code
def xy_Mo_isOpen : MethodName := ⟨"LayerDeskModel", "isOpen", "(I)Z"⟩
abbrev xb_Mo_layer : ByteArray := prog_12_method_32_code
def xy_Mo_layer : MethodName := ⟨"LayerDeskModel", "layer", "(IIZ)I"⟩
abbrev xb_Mo_fault : ByteArray := prog_12_method_33_code
def xy_Mo_fault : MethodName := ⟨"LayerDeskModel", "fault", "()I"⟩
abbrev xb_Mo_close : ByteArray := prog_12_method_34_code
def xy_Mo_close : MethodName := ⟨"LayerDeskModel", "close", "(I)Z"⟩
abbrev xb_Mo_count : ByteArray := prog_12_method_35_code
def xy_Mo_count : MethodName := ⟨"LayerDeskModel", "count", "(I)I"⟩
abbrev xb_Mo_modules : ByteArray := prog_12_method_36_code
def xy_Mo_modules : MethodName := ⟨"LayerDeskModel", "modules", "(I)I"⟩
abbrev xb_Mo_moduleOf : ByteArray := prog_12_method_37_code
def xy_Mo_moduleOf : MethodName := ⟨"LayerDeskModel", "moduleOf", "(II)I"⟩
abbrev xb_Mo_module : ByteArray := prog_12_method_38_code
def xy_Mo_module : MethodName := ⟨"LayerDeskModel", "module", "(II)I"⟩
abbrev xb_Mo_reads : ByteArray := prog_12_method_40_code
def xy_Mo_reads : MethodName := ⟨"LayerDeskModel", "reads", "(IIII)Z"⟩
abbrev xb_Mo_oneName : ByteArray := prog_12_method_41_code
def xy_Mo_oneName : MethodName := ⟨"LayerDeskModel", "oneName", "()I"⟩
abbrev xb_Mo_load : ByteArray := prog_12_method_42_code
def xy_Mo_load : MethodName := ⟨"LayerDeskModel", "load", "(II)I"⟩
abbrev xb_Mo_peek : ByteArray := prog_12_method_43_code
def xy_Mo_peek : MethodName := ⟨"LayerDeskModel", "peek", "(IIII)Z"⟩
abbrev xb_Mo_provider : ByteArray := prog_12_method_44_code
def xy_Mo_provider : MethodName := ⟨"LayerDeskModel", "provider", "(II)I"⟩
abbrev xb_La_line : ByteArray := method_3_code
def xy_La_line : MethodName := ⟨"LayerDeskLaw", "line", "(LLayerDesk;[J)I"⟩
abbrev xb_La_layer : ByteArray := method_4_code
def xy_La_layer : MethodName := ⟨"LayerDeskLaw", "layer", "(LLayerDesk;IIZ[J)I"⟩
abbrev xb_La_load : ByteArray := method_5_code
def xy_La_load : MethodName := ⟨"LayerDeskLaw", "load", "(LLayerDesk;II[J)I"⟩
abbrev xb_La_peek : ByteArray := method_6_code
def xy_La_peek : MethodName := ⟨"LayerDeskLaw", "peek", "(LLayerDesk;IIII[J)I"⟩
abbrev xb_La_provider : ByteArray := method_7_code
def xy_La_provider : MethodName := ⟨"LayerDeskLaw", "provider", "(LLayerDesk;II[J)I"⟩
theorem xd_Ch_init_0 : decode xb_Ch_init 0 = .ok (.aload_n 0, 1) := by decide +kernel
theorem xd_Ch_init_1 : decode xb_Ch_init 1 = .ok (.invokespecial 3, 3) := by decide +kernel
theorem xd_Ch_init_4 : decode xb_Ch_init 4 = .ok (.aload_n 0, 1) := by decide +kernel
theorem xd_Ch_init_5 : decode xb_Ch_init 5 = .ok (.bipush 12, 2) := by decide +kernel
theorem xd_Ch_init_7 : decode xb_Ch_init 7 = .ok (.anewarray 9, 3) := by decide +kernel
theorem xd_Ch_init_10 : decode xb_Ch_init 10 = .ok (.putfield 11, 3) := by decide +kernel
theorem xd_Ch_init_13 : decode xb_Ch_init 13 = .ok (.aload_n 0, 1) := by decide +kernel
theorem xd_Ch_init_14 : decode xb_Ch_init 14 = .ok (.iconst 0, 1) := by decide +kernel
theorem xd_Ch_init_15 : decode xb_Ch_init 15 = .ok (.putfield 17, 3) := by decide +kernel
theorem xd_Ch_init_18 : decode xb_Ch_init 18 = .ok (.aload_n 0, 1) := by decide +kernel
theorem xd_Ch_init_19 : decode xb_Ch_init 19 = .ok (.iconst 0, 1) := by decide +kernel
theorem xd_Ch_init_20 : decode xb_Ch_init 20 = .ok (.putfield 21, 3) := by decide +kernel
theorem xd_Ch_init_23 : decode xb_Ch_init 23 = .ok (.aload_n 0, 1) := by decide +kernel
theorem xd_Ch_init_24 : decode xb_Ch_init 24 = .ok (.aconst_null, 1) := by decide +kernel
theorem xd_Ch_init_25 : decode xb_Ch_init 25 = .ok (.putfield 24, 3) := by decide +kernel
theorem xd_Ch_init_28 : decode xb_Ch_init 28 = .ok (.aload_n 0, 1) := by decide +kernel
theorem xd_Ch_init_29 : decode xb_Ch_init 29 = .ok (.aload_n 1, 1) := by decide +kernel
theorem xd_Ch_init_30 : decode xb_Ch_init 30 = .ok (.putfield 28, 3) := by decide +kernel
theorem xd_Ch_init_33 : decode xb_Ch_init 33 = .ok (.return_, 1) := by decide +kernel
theorem xd_De_close_0 : decode xb_De_close 0 = .ok (.aload_n 0, 1) := by decide +kernel
theorem xd_De_close_1 : decode xb_De_close 1 = .ok (.iload_n 1, 1) := by decide +kernel
theorem xd_De_close_2 : decode xb_De_close 2 = .ok (.invokevirtual 68, 3) := by decide +kernel
theorem xd_De_close_5 : decode xb_De_close 5 = .ok (.astore_n 2, 1) := by decide +kernel
theorem xd_De_close_6 : decode xb_De_close 6 = .ok (.aload_n 2, 1) := by decide +kernel
theorem xd_De_close_7 : decode xb_De_close 7 = .ok (.ifnull 11, 3) := by decide +kernel
theorem xd_De_close_18 : decode xb_De_close 18 = .ok (.iconst 0, 1) := by decide +kernel
theorem xd_De_close_19 : decode xb_De_close 19 = .ok (.ireturn, 1) := by decide +kernel
theorem xd_De_count_0 : decode xb_De_count 0 = .ok (.iload_n 1, 1) := by decide +kernel
theorem xd_De_count_1 : decode xb_De_count 1 = .ok (.tableswitch 45 0 2 #[27, 35, 40], 27) := by decide +kernel
theorem xd_De_count_28 : decode xb_De_count 28 = .ok (.aload_n 0, 1) := by decide +kernel
theorem xd_De_count_29 : decode xb_De_count 29 = .ok (.getfield 19, 3) := by decide +kernel
theorem xd_De_count_32 : decode xb_De_count 32 = .ok (.getfield 121, 3) := by decide +kernel
theorem xd_De_count_35 : decode xb_De_count 35 = .ok (.ireturn, 1) := by decide +kernel
theorem xd_De_count_36 : decode xb_De_count 36 = .ok (.aload_n 0, 1) := by decide +kernel
theorem xd_De_count_37 : decode xb_De_count 37 = .ok (.getfield 38, 3) := by decide +kernel
theorem xd_De_count_40 : decode xb_De_count 40 = .ok (.ireturn, 1) := by decide +kernel
theorem xd_De_count_41 : decode xb_De_count 41 = .ok (.aload_n 0, 1) := by decide +kernel
theorem xd_De_count_42 : decode xb_De_count 42 = .ok (.invokevirtual 124, 3) := by decide +kernel
theorem xd_De_count_45 : decode xb_De_count 45 = .ok (.ireturn, 1) := by decide +kernel
theorem xd_De_count_46 : decode xb_De_count 46 = .ok (.iconst (-1), 1) := by decide +kernel
theorem xd_De_count_47 : decode xb_De_count 47 = .ok (.ireturn, 1) := by decide +kernel
theorem xd_De_countOpen_0 : decode xb_De_countOpen 0 = .ok (.iconst 0, 1) := by decide +kernel
theorem xd_De_countOpen_1 : decode xb_De_countOpen 1 = .ok (.istore_n 1, 1) := by decide +kernel
theorem xd_De_countOpen_2 : decode xb_De_countOpen 2 = .ok (.iconst 0, 1) := by decide +kernel
theorem xd_De_countOpen_3 : decode xb_De_countOpen 3 = .ok (.istore_n 2, 1) := by decide +kernel
theorem xd_De_countOpen_4 : decode xb_De_countOpen 4 = .ok (.iload_n 2, 1) := by decide +kernel
theorem xd_De_countOpen_5 : decode xb_De_countOpen 5 = .ok (.aload_n 0, 1) := by decide +kernel
theorem xd_De_countOpen_6 : decode xb_De_countOpen 6 = .ok (.getfield 38, 3) := by decide +kernel
theorem xd_De_countOpen_9 : decode xb_De_countOpen 9 = .ok (.if_icmp .ge 20, 3) := by decide +kernel
theorem xd_De_countOpen_29 : decode xb_De_countOpen 29 = .ok (.iload_n 1, 1) := by decide +kernel
theorem xd_De_countOpen_30 : decode xb_De_countOpen 30 = .ok (.ireturn, 1) := by decide +kernel
theorem xd_De_fault_0 : decode xb_De_fault 0 = .ok (.aload_n 0, 1) := by decide +kernel
theorem xd_De_fault_1 : decode xb_De_fault 1 = .ok (.getfield 42, 3) := by decide +kernel
theorem xd_De_fault_4 : decode xb_De_fault 4 = .ok (.ireturn, 1) := by decide +kernel
theorem xd_De_init_0 : decode xb_De_init 0 = .ok (.aload_n 0, 1) := by decide +kernel
theorem xd_De_init_1 : decode xb_De_init 1 = .ok (.invokespecial 1, 3) := by decide +kernel
theorem xd_De_init_4 : decode xb_De_init 4 = .ok (.aload_n 0, 1) := by decide +kernel
theorem xd_De_init_5 : decode xb_De_init 5 = .ok (.new 7, 3) := by decide +kernel
theorem xd_De_init_8 : decode xb_De_init 8 = .ok (.dup, 1) := by decide +kernel
theorem xd_De_init_9 : decode xb_De_init 9 = .ok (.invokespecial 9, 3) := by decide +kernel
theorem xd_De_init_12 : decode xb_De_init 12 = .ok (.putfield 10, 3) := by decide +kernel
theorem xd_De_init_15 : decode xb_De_init 15 = .ok (.aload_n 0, 1) := by decide +kernel
theorem xd_De_init_16 : decode xb_De_init 16 = .ok (.new 16, 3) := by decide +kernel
theorem xd_De_init_19 : decode xb_De_init 19 = .ok (.dup, 1) := by decide +kernel
theorem xd_De_init_20 : decode xb_De_init 20 = .ok (.invokespecial 18, 3) := by decide +kernel
theorem xd_De_init_23 : decode xb_De_init 23 = .ok (.putfield 19, 3) := by decide +kernel
theorem xd_De_init_26 : decode xb_De_init 26 = .ok (.aload_n 0, 1) := by decide +kernel
theorem xd_De_init_27 : decode xb_De_init 27 = .ok (.new 23, 3) := by decide +kernel
theorem xd_De_init_30 : decode xb_De_init 30 = .ok (.dup, 1) := by decide +kernel
theorem xd_De_init_31 : decode xb_De_init 31 = .ok (.aload_n 0, 1) := by decide +kernel
theorem xd_De_init_32 : decode xb_De_init 32 = .ok (.getfield 19, 3) := by decide +kernel
theorem xd_De_init_35 : decode xb_De_init 35 = .ok (.invokespecial 25, 3) := by decide +kernel
theorem xd_De_init_38 : decode xb_De_init 38 = .ok (.putfield 28, 3) := by decide +kernel
theorem xd_De_init_41 : decode xb_De_init 41 = .ok (.aload_n 0, 1) := by decide +kernel
theorem xd_De_init_42 : decode xb_De_init 42 = .ok (.iconst 5, 1) := by decide +kernel
theorem xd_De_init_43 : decode xb_De_init 43 = .ok (.anewarray 32, 3) := by decide +kernel
theorem xd_De_init_46 : decode xb_De_init 46 = .ok (.putfield 34, 3) := by decide +kernel
theorem xd_De_init_49 : decode xb_De_init 49 = .ok (.aload_n 0, 1) := by decide +kernel
theorem xd_De_init_50 : decode xb_De_init 50 = .ok (.iconst 0, 1) := by decide +kernel
theorem xd_De_init_51 : decode xb_De_init 51 = .ok (.putfield 38, 3) := by decide +kernel
theorem xd_De_init_54 : decode xb_De_init 54 = .ok (.aload_n 0, 1) := by decide +kernel
theorem xd_De_init_55 : decode xb_De_init 55 = .ok (.iconst 0, 1) := by decide +kernel
theorem xd_De_init_56 : decode xb_De_init 56 = .ok (.putfield 42, 3) := by decide +kernel
theorem xd_De_init_59 : decode xb_De_init 59 = .ok (.return_, 1) := by decide +kernel
theorem xd_De_layer_0 : decode xb_De_layer 0 = .ok (.aload_n 0, 1) := by decide +kernel
theorem xd_De_layer_1 : decode xb_De_layer 1 = .ok (.iconst 0, 1) := by decide +kernel
theorem xd_De_layer_2 : decode xb_De_layer 2 = .ok (.putfield 42, 3) := by decide +kernel
theorem xd_De_layer_5 : decode xb_De_layer 5 = .ok (.aload_n 0, 1) := by decide +kernel
theorem xd_De_layer_6 : decode xb_De_layer 6 = .ok (.getfield 10, 3) := by decide +kernel
theorem xd_De_layer_9 : decode xb_De_layer 9 = .ok (.invokevirtual 49, 3) := by decide +kernel
theorem xd_De_layer_12 : decode xb_De_layer 12 = .ok (.aload_n 0, 1) := by decide +kernel
theorem xd_De_layer_13 : decode xb_De_layer 13 = .ok (.iload_n 2, 1) := by decide +kernel
theorem xd_De_layer_14 : decode xb_De_layer 14 = .ok (.invokevirtual 68, 3) := by decide +kernel
theorem xd_De_layer_17 : decode xb_De_layer 17 = .ok (.astore 4, 2) := by decide +kernel
theorem xd_De_layer_19 : decode xb_De_layer 19 = .ok (.iload_n 2, 1) := by decide +kernel
theorem xd_De_layer_20 : decode xb_De_layer 20 = .ok (.iconst (-1), 1) := by decide +kernel
theorem xd_De_layer_21 : decode xb_De_layer 21 = .ok (.if_icmp .eq 8, 3) := by decide +kernel
theorem xd_De_layer_24 : decode xb_De_layer 24 = .ok (.aload 4, 2) := by decide +kernel
theorem xd_De_layer_26 : decode xb_De_layer 26 = .ok (.ifnull 7, 3) := by decide +kernel
theorem xd_De_layer_29 : decode xb_De_layer 29 = .ok (.iconst 1, 1) := by decide +kernel
theorem xd_De_layer_30 : decode xb_De_layer 30 = .ok (.goto 4, 3) := by decide +kernel
theorem xd_De_layer_33 : decode xb_De_layer 33 = .ok (.iconst 0, 1) := by decide +kernel
theorem xd_De_layer_34 : decode xb_De_layer 34 = .ok (.istore 5, 2) := by decide +kernel
theorem xd_De_layer_36 : decode xb_De_layer 36 = .ok (.aload_n 0, 1) := by decide +kernel
theorem xd_De_layer_37 : decode xb_De_layer 37 = .ok (.invokevirtual 72, 3) := by decide +kernel
theorem xd_De_layer_40 : decode xb_De_layer 40 = .ok (.ifCond .eq 15, 3) := by decide +kernel
theorem xd_De_layer_55 : decode xb_De_layer 55 = .ok (.new 56, 3) := by decide +kernel
theorem xd_De_layer_58 : decode xb_De_layer 58 = .ok (.dup, 1) := by decide +kernel
theorem xd_De_layer_59 : decode xb_De_layer 59 = .ok (.ldc 80, 2) := by decide +kernel
theorem xd_De_layer_61 : decode xb_De_layer 61 = .ok (.invokespecial 60, 3) := by decide +kernel
theorem xd_De_layer_64 : decode xb_De_layer 64 = .ok (.athrow, 1) := by decide +kernel
theorem xd_De_line_0 : decode xb_De_line 0 = .ok (.aload_n 0, 1) := by decide +kernel
theorem xd_De_line_1 : decode xb_De_line 1 = .ok (.getfield 10, 3) := by decide +kernel
theorem xd_De_line_4 : decode xb_De_line 4 = .ok (.invokevirtual 49, 3) := by decide +kernel
theorem xd_De_line_7 : decode xb_De_line 7 = .ok (.aload_n 0, 1) := by decide +kernel
theorem xd_De_line_8 : decode xb_De_line 8 = .ok (.getfield 19, 3) := by decide +kernel
theorem xd_De_line_11 : decode xb_De_line 11 = .ok (.aload_n 0, 1) := by decide +kernel
theorem xd_De_line_12 : decode xb_De_line 12 = .ok (.getfield 10, 3) := by decide +kernel
theorem xd_De_line_15 : decode xb_De_line 15 = .ok (.invokevirtual 52, 3) := by decide +kernel
theorem xd_De_line_18 : decode xb_De_line 18 = .ok (.istore_n 1, 1) := by decide +kernel
theorem xd_De_line_19 : decode xb_De_line 19 = .ok (.iload_n 1, 1) := by decide +kernel
theorem xd_De_line_20 : decode xb_De_line 20 = .ok (.iconst (-1), 1) := by decide +kernel
theorem xd_De_line_21 : decode xb_De_line 21 = .ok (.if_icmp .ne 13, 3) := by decide +kernel
theorem xd_De_line_34 : decode xb_De_line 34 = .ok (.iload_n 1, 1) := by decide +kernel
theorem xd_De_line_35 : decode xb_De_line 35 = .ok (.bipush (-2), 2) := by decide +kernel
theorem xd_De_line_37 : decode xb_De_line 37 = .ok (.if_icmp .ne 13, 3) := by decide +kernel
theorem xd_De_line_50 : decode xb_De_line 50 = .ok (.iload_n 1, 1) := by decide +kernel
theorem xd_De_line_51 : decode xb_De_line 51 = .ok (.ireturn, 1) := by decide +kernel
theorem xd_De_load_0 : decode xb_De_load 0 = .ok (.aload_n 0, 1) := by decide +kernel
theorem xd_De_load_1 : decode xb_De_load 1 = .ok (.getfield 10, 3) := by decide +kernel
theorem xd_De_load_4 : decode xb_De_load 4 = .ok (.invokevirtual 158, 3) := by decide +kernel
theorem xd_De_load_7 : decode xb_De_load 7 = .ok (.istore_n 3, 1) := by decide +kernel
theorem xd_De_load_8 : decode xb_De_load 8 = .ok (.aload_n 0, 1) := by decide +kernel
theorem xd_De_load_9 : decode xb_De_load 9 = .ok (.iload_n 1, 1) := by decide +kernel
theorem xd_De_load_10 : decode xb_De_load 10 = .ok (.iload_n 2, 1) := by decide +kernel
theorem xd_De_load_11 : decode xb_De_load 11 = .ok (.invokevirtual 132, 3) := by decide +kernel
theorem xd_De_load_14 : decode xb_De_load 14 = .ok (.astore 4, 2) := by decide +kernel
theorem xd_De_load_16 : decode xb_De_load 16 = .ok (.aload 4, 2) := by decide +kernel
theorem xd_De_load_18 : decode xb_De_load 18 = .ok (.ifnull 7, 3) := by decide +kernel
theorem xd_De_load_25 : decode xb_De_load 25 = .ok (.new 56, 3) := by decide +kernel
theorem xd_De_load_28 : decode xb_De_load 28 = .ok (.dup, 1) := by decide +kernel
theorem xd_De_load_29 : decode xb_De_load 29 = .ok (.ldc 161, 2) := by decide +kernel
theorem xd_De_load_31 : decode xb_De_load 31 = .ok (.invokespecial 60, 3) := by decide +kernel
theorem xd_De_load_34 : decode xb_De_load 34 = .ok (.athrow, 1) := by decide +kernel
theorem xd_De_memberAt_0 : decode xb_De_memberAt 0 = .ok (.aload_n 0, 1) := by decide +kernel
theorem xd_De_memberAt_1 : decode xb_De_memberAt 1 = .ok (.iload_n 1, 1) := by decide +kernel
theorem xd_De_memberAt_2 : decode xb_De_memberAt 2 = .ok (.invokevirtual 68, 3) := by decide +kernel
theorem xd_De_memberAt_5 : decode xb_De_memberAt 5 = .ok (.astore_n 3, 1) := by decide +kernel
theorem xd_De_memberAt_6 : decode xb_De_memberAt 6 = .ok (.aload_n 3, 1) := by decide +kernel
theorem xd_De_memberAt_7 : decode xb_De_memberAt 7 = .ok (.ifnull 16, 3) := by decide +kernel
theorem xd_De_memberAt_23 : decode xb_De_memberAt 23 = .ok (.aconst_null, 1) := by decide +kernel
theorem xd_De_memberAt_24 : decode xb_De_memberAt 24 = .ok (.goto 9, 3) := by decide +kernel
theorem xd_De_memberAt_33 : decode xb_De_memberAt 33 = .ok (.areturn, 1) := by decide +kernel
theorem xd_De_memberOf_0 : decode xb_De_memberOf 0 = .ok (.aload_n 0, 1) := by decide +kernel
theorem xd_De_memberOf_1 : decode xb_De_memberOf 1 = .ok (.iload_n 1, 1) := by decide +kernel
theorem xd_De_memberOf_2 : decode xb_De_memberOf 2 = .ok (.invokevirtual 68, 3) := by decide +kernel
theorem xd_De_memberOf_5 : decode xb_De_memberOf 5 = .ok (.astore_n 3, 1) := by decide +kernel
theorem xd_De_memberOf_6 : decode xb_De_memberOf 6 = .ok (.aload_n 3, 1) := by decide +kernel
theorem xd_De_memberOf_7 : decode xb_De_memberOf 7 = .ok (.ifnonnull 7, 3) := by decide +kernel
theorem xd_De_memberOf_10 : decode xb_De_memberOf 10 = .ok (.aconst_null, 1) := by decide +kernel
theorem xd_De_memberOf_11 : decode xb_De_memberOf 11 = .ok (.goto 8, 3) := by decide +kernel
theorem xd_De_memberOf_19 : decode xb_De_memberOf 19 = .ok (.areturn, 1) := by decide +kernel
theorem xd_De_module_0 : decode xb_De_module 0 = .ok (.aload_n 0, 1) := by decide +kernel
theorem xd_De_module_1 : decode xb_De_module 1 = .ok (.iload_n 1, 1) := by decide +kernel
theorem xd_De_module_2 : decode xb_De_module 2 = .ok (.iload_n 2, 1) := by decide +kernel
theorem xd_De_module_3 : decode xb_De_module 3 = .ok (.invokevirtual 132, 3) := by decide +kernel
theorem xd_De_module_6 : decode xb_De_module 6 = .ok (.astore_n 3, 1) := by decide +kernel
theorem xd_De_module_7 : decode xb_De_module 7 = .ok (.aload_n 3, 1) := by decide +kernel
theorem xd_De_module_8 : decode xb_De_module 8 = .ok (.ifnonnull 7, 3) := by decide +kernel
theorem xd_De_module_11 : decode xb_De_module 11 = .ok (.iconst (-1), 1) := by decide +kernel
theorem xd_De_module_12 : decode xb_De_module 12 = .ok (.goto 10, 3) := by decide +kernel
theorem xd_De_module_22 : decode xb_De_module 22 = .ok (.ireturn, 1) := by decide +kernel
theorem xd_De_modules_0 : decode xb_De_modules 0 = .ok (.aload_n 0, 1) := by decide +kernel
theorem xd_De_modules_1 : decode xb_De_modules 1 = .ok (.iload_n 1, 1) := by decide +kernel
theorem xd_De_modules_2 : decode xb_De_modules 2 = .ok (.invokevirtual 68, 3) := by decide +kernel
theorem xd_De_modules_5 : decode xb_De_modules 5 = .ok (.astore_n 2, 1) := by decide +kernel
theorem xd_De_modules_6 : decode xb_De_modules 6 = .ok (.aload_n 2, 1) := by decide +kernel
theorem xd_De_modules_7 : decode xb_De_modules 7 = .ok (.ifnonnull 7, 3) := by decide +kernel
theorem xd_De_modules_10 : decode xb_De_modules 10 = .ok (.iconst (-1), 1) := by decide +kernel
theorem xd_De_modules_11 : decode xb_De_modules 11 = .ok (.goto 8, 3) := by decide +kernel
theorem xd_De_modules_19 : decode xb_De_modules 19 = .ok (.ireturn, 1) := by decide +kernel
theorem xd_De_openLayer_0 : decode xb_De_openLayer 0 = .ok (.iload_n 1, 1) := by decide +kernel
theorem xd_De_openLayer_1 : decode xb_De_openLayer 1 = .ok (.ifCond .lt 11, 3) := by decide +kernel
theorem xd_De_openLayer_4 : decode xb_De_openLayer 4 = .ok (.iload_n 1, 1) := by decide +kernel
theorem xd_De_openLayer_5 : decode xb_De_openLayer 5 = .ok (.aload_n 0, 1) := by decide +kernel
theorem xd_De_openLayer_6 : decode xb_De_openLayer 6 = .ok (.getfield 38, 3) := by decide +kernel
theorem xd_De_openLayer_9 : decode xb_De_openLayer 9 = .ok (.if_icmp .lt 5, 3) := by decide +kernel
theorem xd_De_openLayer_12 : decode xb_De_openLayer 12 = .ok (.aconst_null, 1) := by decide +kernel
theorem xd_De_openLayer_13 : decode xb_De_openLayer 13 = .ok (.areturn, 1) := by decide +kernel
theorem xd_De_peek_0 : decode xb_De_peek 0 = .ok (.aload_n 0, 1) := by decide +kernel
theorem xd_De_peek_1 : decode xb_De_peek 1 = .ok (.getfield 10, 3) := by decide +kernel
theorem xd_De_peek_4 : decode xb_De_peek 4 = .ok (.invokevirtual 158, 3) := by decide +kernel
theorem xd_De_peek_7 : decode xb_De_peek 7 = .ok (.istore 5, 2) := by decide +kernel
theorem xd_De_peek_9 : decode xb_De_peek 9 = .ok (.aload_n 0, 1) := by decide +kernel
theorem xd_De_peek_10 : decode xb_De_peek 10 = .ok (.iload_n 1, 1) := by decide +kernel
theorem xd_De_peek_11 : decode xb_De_peek 11 = .ok (.iload_n 2, 1) := by decide +kernel
theorem xd_De_peek_12 : decode xb_De_peek 12 = .ok (.invokevirtual 132, 3) := by decide +kernel
theorem xd_De_peek_15 : decode xb_De_peek 15 = .ok (.astore 6, 2) := by decide +kernel
theorem xd_De_peek_17 : decode xb_De_peek 17 = .ok (.aload_n 0, 1) := by decide +kernel
theorem xd_De_peek_18 : decode xb_De_peek 18 = .ok (.iload_n 3, 1) := by decide +kernel
theorem xd_De_peek_19 : decode xb_De_peek 19 = .ok (.iload 4, 2) := by decide +kernel
theorem xd_De_peek_21 : decode xb_De_peek 21 = .ok (.invokevirtual 145, 3) := by decide +kernel
theorem xd_De_peek_24 : decode xb_De_peek 24 = .ok (.astore 7, 2) := by decide +kernel
theorem xd_De_peek_26 : decode xb_De_peek 26 = .ok (.aload 6, 2) := by decide +kernel
theorem xd_De_peek_28 : decode xb_De_peek 28 = .ok (.ifnull 13, 3) := by decide +kernel
theorem xd_De_peek_41 : decode xb_De_peek 41 = .ok (.new 56, 3) := by decide +kernel
theorem xd_De_peek_44 : decode xb_De_peek 44 = .ok (.dup, 1) := by decide +kernel
theorem xd_De_peek_45 : decode xb_De_peek 45 = .ok (.ldc 161, 2) := by decide +kernel
theorem xd_De_peek_47 : decode xb_De_peek 47 = .ok (.invokespecial 60, 3) := by decide +kernel
theorem xd_De_peek_50 : decode xb_De_peek 50 = .ok (.athrow, 1) := by decide +kernel
theorem xd_De_provider_0 : decode xb_De_provider 0 = .ok (.aload_n 0, 1) := by decide +kernel
theorem xd_De_provider_1 : decode xb_De_provider 1 = .ok (.getfield 10, 3) := by decide +kernel
theorem xd_De_provider_4 : decode xb_De_provider 4 = .ok (.invokevirtual 158, 3) := by decide +kernel
theorem xd_De_provider_7 : decode xb_De_provider 7 = .ok (.istore_n 3, 1) := by decide +kernel
theorem xd_De_provider_8 : decode xb_De_provider 8 = .ok (.aload_n 0, 1) := by decide +kernel
theorem xd_De_provider_9 : decode xb_De_provider 9 = .ok (.iload_n 1, 1) := by decide +kernel
theorem xd_De_provider_10 : decode xb_De_provider 10 = .ok (.invokevirtual 68, 3) := by decide +kernel
theorem xd_De_provider_13 : decode xb_De_provider 13 = .ok (.astore 4, 2) := by decide +kernel
theorem xd_De_provider_15 : decode xb_De_provider 15 = .ok (.aload 4, 2) := by decide +kernel
theorem xd_De_provider_17 : decode xb_De_provider 17 = .ok (.ifnull 7, 3) := by decide +kernel
theorem xd_De_provider_24 : decode xb_De_provider 24 = .ok (.new 56, 3) := by decide +kernel
theorem xd_De_provider_27 : decode xb_De_provider 27 = .ok (.dup, 1) := by decide +kernel
theorem xd_De_provider_28 : decode xb_De_provider 28 = .ok (.ldc 190, 2) := by decide +kernel
theorem xd_De_provider_30 : decode xb_De_provider 30 = .ok (.invokespecial 60, 3) := by decide +kernel
theorem xd_De_provider_33 : decode xb_De_provider 33 = .ok (.athrow, 1) := by decide +kernel
theorem xd_De_reads_0 : decode xb_De_reads 0 = .ok (.aload_n 0, 1) := by decide +kernel
theorem xd_De_reads_1 : decode xb_De_reads 1 = .ok (.iload_n 1, 1) := by decide +kernel
theorem xd_De_reads_2 : decode xb_De_reads 2 = .ok (.iload_n 2, 1) := by decide +kernel
theorem xd_De_reads_3 : decode xb_De_reads 3 = .ok (.invokevirtual 132, 3) := by decide +kernel
theorem xd_De_reads_6 : decode xb_De_reads 6 = .ok (.astore 5, 2) := by decide +kernel
theorem xd_De_reads_8 : decode xb_De_reads 8 = .ok (.aload_n 0, 1) := by decide +kernel
theorem xd_De_reads_9 : decode xb_De_reads 9 = .ok (.iload_n 3, 1) := by decide +kernel
theorem xd_De_reads_10 : decode xb_De_reads 10 = .ok (.iload 4, 2) := by decide +kernel
theorem xd_De_reads_12 : decode xb_De_reads 12 = .ok (.invokevirtual 145, 3) := by decide +kernel
theorem xd_De_reads_15 : decode xb_De_reads 15 = .ok (.astore 6, 2) := by decide +kernel
theorem xd_De_reads_17 : decode xb_De_reads 17 = .ok (.aload 5, 2) := by decide +kernel
theorem xd_De_reads_19 : decode xb_De_reads 19 = .ok (.ifnull 25, 3) := by decide +kernel
theorem xd_De_reads_44 : decode xb_De_reads 44 = .ok (.iconst 0, 1) := by decide +kernel
theorem xd_De_reads_45 : decode xb_De_reads 45 = .ok (.ireturn, 1) := by decide +kernel
theorem xd_De_rootsAreNames_0 : decode xb_De_rootsAreNames 0 = .ok (.aload_n 0, 1) := by decide +kernel
theorem xd_De_rootsAreNames_1 : decode xb_De_rootsAreNames 1 = .ok (.getfield 10, 3) := by decide +kernel
theorem xd_De_rootsAreNames_4 : decode xb_De_rootsAreNames 4 = .ok (.getfield 198, 3) := by decide +kernel
theorem xd_De_rootsAreNames_7 : decode xb_De_rootsAreNames 7 = .ok (.iconst 1, 1) := by decide +kernel
theorem xd_De_rootsAreNames_8 : decode xb_De_rootsAreNames 8 = .ok (.if_icmp .lt 14, 3) := by decide +kernel
theorem xd_De_rootsAreNames_22 : decode xb_De_rootsAreNames 22 = .ok (.iconst 0, 1) := by decide +kernel
theorem xd_De_rootsAreNames_23 : decode xb_De_rootsAreNames 23 = .ok (.ireturn, 1) := by decide +kernel
theorem xd_De_write_0 : decode xb_De_write 0 = .ok (.aload_n 0, 1) := by decide +kernel
theorem xd_De_write_1 : decode xb_De_write 1 = .ok (.getfield 10, 3) := by decide +kernel
theorem xd_De_write_4 : decode xb_De_write 4 = .ok (.iload_n 1, 1) := by decide +kernel
theorem xd_De_write_5 : decode xb_De_write 5 = .ok (.invokevirtual 45, 3) := by decide +kernel
theorem xd_De_write_8 : decode xb_De_write 8 = .ok (.ireturn, 1) := by decide +kernel
theorem xd_La_layer_0 : decode xb_La_layer 0 = .ok (.aload 4, 2) := by decide +kernel
theorem xd_La_layer_2 : decode xb_La_layer 2 = .ok (.iconst 0, 1) := by decide +kernel
theorem xd_La_layer_3 : decode xb_La_layer 3 = .ok (.aload_n 0, 1) := by decide +kernel
theorem xd_La_layer_4 : decode xb_La_layer 4 = .ok (.iload_n 1, 1) := by decide +kernel
theorem xd_La_layer_5 : decode xb_La_layer 5 = .ok (.iload_n 2, 1) := by decide +kernel
theorem xd_La_layer_6 : decode xb_La_layer 6 = .ok (.iload_n 3, 1) := by decide +kernel
theorem xd_La_layer_7 : decode xb_La_layer 7 = .ok (.invokevirtual 17, 3) := by decide +kernel
theorem xd_La_layer_15 : decode xb_La_layer 15 = .ok (.astore 5, 2) := by decide +kernel
theorem xd_La_layer_17 : decode xb_La_layer 17 = .ok (.iconst 1, 1) := by decide +kernel
theorem xd_La_layer_18 : decode xb_La_layer 18 = .ok (.ireturn, 1) := by decide +kernel
theorem xd_La_line_0 : decode xb_La_line 0 = .ok (.aload_n 1, 1) := by decide +kernel
theorem xd_La_line_1 : decode xb_La_line 1 = .ok (.iconst 0, 1) := by decide +kernel
theorem xd_La_line_2 : decode xb_La_line 2 = .ok (.aload_n 0, 1) := by decide +kernel
theorem xd_La_line_3 : decode xb_La_line 3 = .ok (.invokevirtual 7, 3) := by decide +kernel
theorem xd_La_line_6 : decode xb_La_line 6 = .ok (.i2l, 1) := by decide +kernel
theorem xd_La_line_7 : decode xb_La_line 7 = .ok (.lastore, 1) := by decide +kernel
theorem xd_La_line_8 : decode xb_La_line 8 = .ok (.goto 9, 3) := by decide +kernel
theorem xd_La_line_17 : decode xb_La_line 17 = .ok (.iconst 0, 1) := by decide +kernel
theorem xd_La_line_18 : decode xb_La_line 18 = .ok (.ireturn, 1) := by decide +kernel
theorem xd_La_load_0 : decode xb_La_load 0 = .ok (.aload_n 3, 1) := by decide +kernel
theorem xd_La_load_1 : decode xb_La_load 1 = .ok (.iconst 0, 1) := by decide +kernel
theorem xd_La_load_2 : decode xb_La_load 2 = .ok (.aload_n 0, 1) := by decide +kernel
theorem xd_La_load_3 : decode xb_La_load 3 = .ok (.iload_n 1, 1) := by decide +kernel
theorem xd_La_load_4 : decode xb_La_load 4 = .ok (.iload_n 2, 1) := by decide +kernel
theorem xd_La_load_5 : decode xb_La_load 5 = .ok (.invokevirtual 23, 3) := by decide +kernel
theorem xd_La_load_13 : decode xb_La_load 13 = .ok (.astore 4, 2) := by decide +kernel
theorem xd_La_load_15 : decode xb_La_load 15 = .ok (.iconst 1, 1) := by decide +kernel
theorem xd_La_load_16 : decode xb_La_load 16 = .ok (.ireturn, 1) := by decide +kernel
theorem xd_La_peek_0 : decode xb_La_peek 0 = .ok (.aload 5, 2) := by decide +kernel
theorem xd_La_peek_2 : decode xb_La_peek 2 = .ok (.iconst 0, 1) := by decide +kernel
theorem xd_La_peek_3 : decode xb_La_peek 3 = .ok (.aload_n 0, 1) := by decide +kernel
theorem xd_La_peek_4 : decode xb_La_peek 4 = .ok (.iload_n 1, 1) := by decide +kernel
theorem xd_La_peek_5 : decode xb_La_peek 5 = .ok (.iload_n 2, 1) := by decide +kernel
theorem xd_La_peek_6 : decode xb_La_peek 6 = .ok (.iload_n 3, 1) := by decide +kernel
theorem xd_La_peek_7 : decode xb_La_peek 7 = .ok (.iload 4, 2) := by decide +kernel
theorem xd_La_peek_9 : decode xb_La_peek 9 = .ok (.invokevirtual 27, 3) := by decide +kernel
theorem xd_La_peek_24 : decode xb_La_peek 24 = .ok (.astore 6, 2) := by decide +kernel
theorem xd_La_peek_26 : decode xb_La_peek 26 = .ok (.iconst 1, 1) := by decide +kernel
theorem xd_La_peek_27 : decode xb_La_peek 27 = .ok (.ireturn, 1) := by decide +kernel
theorem xd_La_provider_0 : decode xb_La_provider 0 = .ok (.aload_n 3, 1) := by decide +kernel
theorem xd_La_provider_1 : decode xb_La_provider 1 = .ok (.iconst 0, 1) := by decide +kernel
theorem xd_La_provider_2 : decode xb_La_provider 2 = .ok (.aload_n 0, 1) := by decide +kernel
theorem xd_La_provider_3 : decode xb_La_provider 3 = .ok (.iload_n 1, 1) := by decide +kernel
theorem xd_La_provider_4 : decode xb_La_provider 4 = .ok (.iload_n 2, 1) := by decide +kernel
theorem xd_La_provider_5 : decode xb_La_provider 5 = .ok (.invokevirtual 31, 3) := by decide +kernel
theorem xd_La_provider_13 : decode xb_La_provider 13 = .ok (.astore 4, 2) := by decide +kernel
theorem xd_La_provider_15 : decode xb_La_provider 15 = .ok (.iconst 1, 1) := by decide +kernel
theorem xd_La_provider_16 : decode xb_La_provider 16 = .ok (.ireturn, 1) := by decide +kernel
theorem xd_Li_append_0 : decode xb_Li_append 0 = .ok (.aload_n 0, 1) := by decide +kernel
theorem xd_Li_append_1 : decode xb_Li_append 1 = .ok (.getfield 20, 3) := by decide +kernel
theorem xd_Li_append_4 : decode xb_Li_append 4 = .ok (.bipush 40, 2) := by decide +kernel
theorem xd_Li_append_6 : decode xb_Li_append 6 = .ok (.if_icmp .ge 15, 3) := by decide +kernel
theorem xd_Li_append_9 : decode xb_Li_append 9 = .ok (.iload_n 1, 1) := by decide +kernel
theorem xd_Li_append_10 : decode xb_Li_append 10 = .ok (.bipush 32, 2) := by decide +kernel
theorem xd_Li_append_12 : decode xb_Li_append 12 = .ok (.if_icmp .lt 9, 3) := by decide +kernel
theorem xd_Li_append_15 : decode xb_Li_append 15 = .ok (.iload_n 1, 1) := by decide +kernel
theorem xd_Li_append_16 : decode xb_Li_append 16 = .ok (.bipush 126, 2) := by decide +kernel
theorem xd_Li_append_18 : decode xb_Li_append 18 = .ok (.if_icmp .le 5, 3) := by decide +kernel
theorem xd_Li_append_21 : decode xb_Li_append 21 = .ok (.iconst 0, 1) := by decide +kernel
theorem xd_Li_append_22 : decode xb_Li_append 22 = .ok (.ireturn, 1) := by decide +kernel
theorem xd_Li_append_23 : decode xb_Li_append 23 = .ok (.aload_n 0, 1) := by decide +kernel
theorem xd_Li_append_24 : decode xb_Li_append 24 = .ok (.getfield 9, 3) := by decide +kernel
theorem xd_Li_append_27 : decode xb_Li_append 27 = .ok (.aload_n 0, 1) := by decide +kernel
theorem xd_Li_append_28 : decode xb_Li_append 28 = .ok (.getfield 20, 3) := by decide +kernel
theorem xd_Li_append_31 : decode xb_Li_append 31 = .ok (.iload_n 1, 1) := by decide +kernel
theorem xd_Li_append_32 : decode xb_Li_append 32 = .ok (.castore, 1) := by decide +kernel
theorem xd_Li_append_33 : decode xb_Li_append 33 = .ok (.aload_n 0, 1) := by decide +kernel
theorem xd_Li_append_34 : decode xb_Li_append 34 = .ok (.dup, 1) := by decide +kernel
theorem xd_Li_append_35 : decode xb_Li_append 35 = .ok (.getfield 20, 3) := by decide +kernel
theorem xd_Li_append_38 : decode xb_Li_append 38 = .ok (.iconst 1, 1) := by decide +kernel
theorem xd_Li_append_39 : decode xb_Li_append 39 = .ok (.iadd, 1) := by decide +kernel
theorem xd_Li_append_40 : decode xb_Li_append 40 = .ok (.putfield 20, 3) := by decide +kernel
theorem xd_Li_append_43 : decode xb_Li_append 43 = .ok (.iconst 1, 1) := by decide +kernel
theorem xd_Li_append_44 : decode xb_Li_append 44 = .ok (.ireturn, 1) := by decide +kernel
theorem xd_Li_init_0 : decode xb_Li_init 0 = .ok (.aload_n 0, 1) := by decide +kernel
theorem xd_Li_init_1 : decode xb_Li_init 1 = .ok (.invokespecial 1, 3) := by decide +kernel
theorem xd_Li_init_4 : decode xb_Li_init 4 = .ok (.aload_n 0, 1) := by decide +kernel
theorem xd_Li_init_5 : decode xb_Li_init 5 = .ok (.bipush 40, 2) := by decide +kernel
theorem xd_Li_init_7 : decode xb_Li_init 7 = .ok (.newarray .char, 2) := by decide +kernel
theorem xd_Li_init_9 : decode xb_Li_init 9 = .ok (.putfield 9, 3) := by decide +kernel
theorem xd_Li_init_12 : decode xb_Li_init 12 = .ok (.aload_n 0, 1) := by decide +kernel
theorem xd_Li_init_13 : decode xb_Li_init 13 = .ok (.bipush 20, 2) := by decide +kernel
theorem xd_Li_init_15 : decode xb_Li_init 15 = .ok (.newarray .int, 2) := by decide +kernel
theorem xd_Li_init_17 : decode xb_Li_init 17 = .ok (.putfield 13, 3) := by decide +kernel
theorem xd_Li_init_20 : decode xb_Li_init 20 = .ok (.aload_n 0, 1) := by decide +kernel
theorem xd_Li_init_21 : decode xb_Li_init 21 = .ok (.bipush 20, 2) := by decide +kernel
theorem xd_Li_init_23 : decode xb_Li_init 23 = .ok (.newarray .int, 2) := by decide +kernel
theorem xd_Li_init_25 : decode xb_Li_init 25 = .ok (.putfield 17, 3) := by decide +kernel
theorem xd_Li_init_28 : decode xb_Li_init 28 = .ok (.aload_n 0, 1) := by decide +kernel
theorem xd_Li_init_29 : decode xb_Li_init 29 = .ok (.iconst 0, 1) := by decide +kernel
theorem xd_Li_init_30 : decode xb_Li_init 30 = .ok (.putfield 20, 3) := by decide +kernel
theorem xd_Li_init_33 : decode xb_Li_init 33 = .ok (.aload_n 0, 1) := by decide +kernel
theorem xd_Li_init_34 : decode xb_Li_init 34 = .ok (.iconst 0, 1) := by decide +kernel
theorem xd_Li_init_35 : decode xb_Li_init 35 = .ok (.putfield 24, 3) := by decide +kernel
theorem xd_Li_init_38 : decode xb_Li_init 38 = .ok (.return_, 1) := by decide +kernel
theorem xd_Li_take_0 : decode xb_Li_take 0 = .ok (.aload_n 0, 1) := by decide +kernel
theorem xd_Li_take_1 : decode xb_Li_take 1 = .ok (.iconst 0, 1) := by decide +kernel
theorem xd_Li_take_2 : decode xb_Li_take 2 = .ok (.putfield 24, 3) := by decide +kernel
theorem xd_Li_take_5 : decode xb_Li_take 5 = .ok (.iconst 0, 1) := by decide +kernel
theorem xd_Li_take_6 : decode xb_Li_take 6 = .ok (.istore_n 1, 1) := by decide +kernel
theorem xd_Li_take_7 : decode xb_Li_take 7 = .ok (.iconst 0, 1) := by decide +kernel
theorem xd_Li_take_8 : decode xb_Li_take 8 = .ok (.istore_n 2, 1) := by decide +kernel
theorem xd_Li_take_9 : decode xb_Li_take 9 = .ok (.iload_n 2, 1) := by decide +kernel
theorem xd_Li_take_10 : decode xb_Li_take 10 = .ok (.aload_n 0, 1) := by decide +kernel
theorem xd_Li_take_11 : decode xb_Li_take 11 = .ok (.getfield 20, 3) := by decide +kernel
theorem xd_Li_take_14 : decode xb_Li_take 14 = .ok (.if_icmp .gt 76, 3) := by decide +kernel
theorem xd_Li_take_17 : decode xb_Li_take 17 = .ok (.iload_n 2, 1) := by decide +kernel
theorem xd_Li_take_18 : decode xb_Li_take 18 = .ok (.aload_n 0, 1) := by decide +kernel
theorem xd_Li_take_19 : decode xb_Li_take 19 = .ok (.getfield 20, 3) := by decide +kernel
theorem xd_Li_take_22 : decode xb_Li_take 22 = .ok (.if_icmp .eq 14, 3) := by decide +kernel
theorem xd_Li_take_36 : decode xb_Li_take 36 = .ok (.iload_n 2, 1) := by decide +kernel
theorem xd_Li_take_37 : decode xb_Li_take 37 = .ok (.iload_n 1, 1) := by decide +kernel
theorem xd_Li_take_38 : decode xb_Li_take 38 = .ok (.if_icmp .le 42, 3) := by decide +kernel
theorem xd_Li_take_80 : decode xb_Li_take 80 = .ok (.iload_n 2, 1) := by decide +kernel
theorem xd_Li_take_81 : decode xb_Li_take 81 = .ok (.iconst 1, 1) := by decide +kernel
theorem xd_Li_take_82 : decode xb_Li_take 82 = .ok (.iadd, 1) := by decide +kernel
theorem xd_Li_take_83 : decode xb_Li_take 83 = .ok (.istore_n 1, 1) := by decide +kernel
theorem xd_Li_take_84 : decode xb_Li_take 84 = .ok (.iinc 2 1, 3) := by decide +kernel
theorem xd_Li_take_87 : decode xb_Li_take 87 = .ok (.goto (-78), 3) := by decide +kernel
theorem xd_Li_take_90 : decode xb_Li_take 90 = .ok (.aload_n 0, 1) := by decide +kernel
theorem xd_Li_take_91 : decode xb_Li_take 91 = .ok (.iconst 0, 1) := by decide +kernel
theorem xd_Li_take_92 : decode xb_Li_take 92 = .ok (.putfield 20, 3) := by decide +kernel
theorem xd_Li_take_95 : decode xb_Li_take 95 = .ok (.return_, 1) := by decide +kernel
theorem xd_Li_takeName_0 : decode xb_Li_takeName 0 = .ok (.aload_n 0, 1) := by decide +kernel
theorem xd_Li_takeName_1 : decode xb_Li_takeName 1 = .ok (.invokevirtual 27, 3) := by decide +kernel
theorem xd_Li_takeName_4 : decode xb_Li_takeName 4 = .ok (.aload_n 0, 1) := by decide +kernel
theorem xd_Li_takeName_5 : decode xb_Li_takeName 5 = .ok (.getfield 24, 3) := by decide +kernel
theorem xd_Li_takeName_8 : decode xb_Li_takeName 8 = .ok (.iconst 1, 1) := by decide +kernel
theorem xd_Li_takeName_9 : decode xb_Li_takeName 9 = .ok (.if_icmp .ne 11, 3) := by decide +kernel
theorem xd_Li_takeName_20 : decode xb_Li_takeName 20 = .ok (.iconst 0, 1) := by decide +kernel
theorem xd_Li_takeName_21 : decode xb_Li_takeName 21 = .ok (.ireturn, 1) := by decide +kernel
theorem xd_Mo_close_0 : decode xb_Mo_close 0 = .ok (.aload_n 0, 1) := by decide +kernel
theorem xd_Mo_close_1 : decode xb_Mo_close 1 = .ok (.iconst 0, 1) := by decide +kernel
theorem xd_Mo_close_2 : decode xb_Mo_close 2 = .ok (.putfield 87, 3) := by decide +kernel
theorem xd_Mo_close_5 : decode xb_Mo_close 5 = .ok (.aload_n 0, 1) := by decide +kernel
theorem xd_Mo_close_6 : decode xb_Mo_close 6 = .ok (.iload_n 1, 1) := by decide +kernel
theorem xd_Mo_close_7 : decode xb_Mo_close 7 = .ok (.invokevirtual 190, 3) := by decide +kernel
theorem xd_Mo_close_10 : decode xb_Mo_close 10 = .ok (.ifCond .ne 5, 3) := by decide +kernel
theorem xd_Mo_close_13 : decode xb_Mo_close 13 = .ok (.iconst 0, 1) := by decide +kernel
theorem xd_Mo_close_14 : decode xb_Mo_close 14 = .ok (.ireturn, 1) := by decide +kernel
theorem xd_Mo_count_0 : decode xb_Mo_count 0 = .ok (.aload_n 0, 1) := by decide +kernel
theorem xd_Mo_count_1 : decode xb_Mo_count 1 = .ok (.iconst 0, 1) := by decide +kernel
theorem xd_Mo_count_2 : decode xb_Mo_count 2 = .ok (.putfield 87, 3) := by decide +kernel
theorem xd_Mo_count_5 : decode xb_Mo_count 5 = .ok (.iconst 0, 1) := by decide +kernel
theorem xd_Mo_count_6 : decode xb_Mo_count 6 = .ok (.istore_n 2, 1) := by decide +kernel
theorem xd_Mo_count_7 : decode xb_Mo_count 7 = .ok (.iconst 0, 1) := by decide +kernel
theorem xd_Mo_count_8 : decode xb_Mo_count 8 = .ok (.istore_n 3, 1) := by decide +kernel
theorem xd_Mo_count_9 : decode xb_Mo_count 9 = .ok (.iload_n 3, 1) := by decide +kernel
theorem xd_Mo_count_10 : decode xb_Mo_count 10 = .ok (.aload_n 0, 1) := by decide +kernel
theorem xd_Mo_count_11 : decode xb_Mo_count 11 = .ok (.getfield 150, 3) := by decide +kernel
theorem xd_Mo_count_14 : decode xb_Mo_count 14 = .ok (.if_icmp .ge 26, 3) := by decide +kernel
theorem xd_Mo_count_40 : decode xb_Mo_count 40 = .ok (.iload_n 1, 1) := by decide +kernel
theorem xd_Mo_count_41 : decode xb_Mo_count 41 = .ok (.ifCond .ne 10, 3) := by decide +kernel
theorem xd_Mo_count_44 : decode xb_Mo_count 44 = .ok (.aload_n 0, 1) := by decide +kernel
theorem xd_Mo_count_45 : decode xb_Mo_count 45 = .ok (.getfield 140, 3) := by decide +kernel
theorem xd_Mo_count_48 : decode xb_Mo_count 48 = .ok (.goto 25, 3) := by decide +kernel
theorem xd_Mo_count_51 : decode xb_Mo_count 51 = .ok (.iload_n 1, 1) := by decide +kernel
theorem xd_Mo_count_52 : decode xb_Mo_count 52 = .ok (.iconst 1, 1) := by decide +kernel
theorem xd_Mo_count_53 : decode xb_Mo_count 53 = .ok (.if_icmp .ne 10, 3) := by decide +kernel
theorem xd_Mo_count_56 : decode xb_Mo_count 56 = .ok (.aload_n 0, 1) := by decide +kernel
theorem xd_Mo_count_57 : decode xb_Mo_count 57 = .ok (.getfield 150, 3) := by decide +kernel
theorem xd_Mo_count_60 : decode xb_Mo_count 60 = .ok (.goto 13, 3) := by decide +kernel
theorem xd_Mo_count_63 : decode xb_Mo_count 63 = .ok (.iload_n 1, 1) := by decide +kernel
theorem xd_Mo_count_64 : decode xb_Mo_count 64 = .ok (.iconst 2, 1) := by decide +kernel
theorem xd_Mo_count_65 : decode xb_Mo_count 65 = .ok (.if_icmp .ne 7, 3) := by decide +kernel
theorem xd_Mo_count_68 : decode xb_Mo_count 68 = .ok (.iload_n 2, 1) := by decide +kernel
theorem xd_Mo_count_69 : decode xb_Mo_count 69 = .ok (.goto 4, 3) := by decide +kernel
theorem xd_Mo_count_72 : decode xb_Mo_count 72 = .ok (.iconst (-1), 1) := by decide +kernel
theorem xd_Mo_count_73 : decode xb_Mo_count 73 = .ok (.ireturn, 1) := by decide +kernel
theorem xd_Mo_fails_0 : decode xb_Mo_fails 0 = .ok (.aload_n 0, 1) := by decide +kernel
theorem xd_Mo_fails_1 : decode xb_Mo_fails 1 = .ok (.iload_n 1, 1) := by decide +kernel
theorem xd_Mo_fails_2 : decode xb_Mo_fails 2 = .ok (.putfield 87, 3) := by decide +kernel
theorem xd_Mo_fails_5 : decode xb_Mo_fails 5 = .ok (.iconst 0, 1) := by decide +kernel
theorem xd_Mo_fails_6 : decode xb_Mo_fails 6 = .ok (.ireturn, 1) := by decide +kernel
theorem xd_Mo_fault_0 : decode xb_Mo_fault 0 = .ok (.aload_n 0, 1) := by decide +kernel
theorem xd_Mo_fault_1 : decode xb_Mo_fault 1 = .ok (.iconst 0, 1) := by decide +kernel
theorem xd_Mo_fault_2 : decode xb_Mo_fault 2 = .ok (.putfield 87, 3) := by decide +kernel
theorem xd_Mo_fault_5 : decode xb_Mo_fault 5 = .ok (.aload_n 0, 1) := by decide +kernel
theorem xd_Mo_fault_6 : decode xb_Mo_fault 6 = .ok (.getfield 187, 3) := by decide +kernel
theorem xd_Mo_fault_9 : decode xb_Mo_fault 9 = .ok (.ireturn, 1) := by decide +kernel
theorem xd_Mo_init_0 : decode xb_Mo_init 0 = .ok (.aload_n 0, 1) := by decide +kernel
theorem xd_Mo_init_1 : decode xb_Mo_init 1 = .ok (.invokespecial 1, 3) := by decide +kernel
theorem xd_Mo_init_4 : decode xb_Mo_init 4 = .ok (.aload_n 0, 1) := by decide +kernel
theorem xd_Mo_init_5 : decode xb_Mo_init 5 = .ok (.bipush 40, 2) := by decide +kernel
theorem xd_Mo_init_7 : decode xb_Mo_init 7 = .ok (.newarray .char, 2) := by decide +kernel
theorem xd_Mo_init_9 : decode xb_Mo_init 9 = .ok (.putfield 7, 3) := by decide +kernel
theorem xd_Mo_init_12 : decode xb_Mo_init 12 = .ok (.aload_n 0, 1) := by decide +kernel
theorem xd_Mo_init_13 : decode xb_Mo_init 13 = .ok (.bipush 20, 2) := by decide +kernel
theorem xd_Mo_init_15 : decode xb_Mo_init 15 = .ok (.newarray .int, 2) := by decide +kernel
theorem xd_Mo_init_17 : decode xb_Mo_init 17 = .ok (.putfield 13, 3) := by decide +kernel
theorem xd_Mo_init_20 : decode xb_Mo_init 20 = .ok (.aload_n 0, 1) := by decide +kernel
theorem xd_Mo_init_21 : decode xb_Mo_init 21 = .ok (.bipush 20, 2) := by decide +kernel
theorem xd_Mo_init_23 : decode xb_Mo_init 23 = .ok (.newarray .int, 2) := by decide +kernel
theorem xd_Mo_init_25 : decode xb_Mo_init 25 = .ok (.putfield 17, 3) := by decide +kernel
theorem xd_Mo_init_28 : decode xb_Mo_init 28 = .ok (.aload_n 0, 1) := by decide +kernel
theorem xd_Mo_init_29 : decode xb_Mo_init 29 = .ok (.bipush 12, 2) := by decide +kernel
theorem xd_Mo_init_31 : decode xb_Mo_init 31 = .ok (.newarray .int, 2) := by decide +kernel
theorem xd_Mo_init_33 : decode xb_Mo_init 33 = .ok (.putfield 20, 3) := by decide +kernel
theorem xd_Mo_init_36 : decode xb_Mo_init 36 = .ok (.aload_n 0, 1) := by decide +kernel
theorem xd_Mo_init_37 : decode xb_Mo_init 37 = .ok (.bipush 12, 2) := by decide +kernel
theorem xd_Mo_init_39 : decode xb_Mo_init 39 = .ok (.newarray .int, 2) := by decide +kernel
theorem xd_Mo_init_41 : decode xb_Mo_init 41 = .ok (.putfield 23, 3) := by decide +kernel
theorem xd_Mo_init_44 : decode xb_Mo_init 44 = .ok (.aload_n 0, 1) := by decide +kernel
theorem xd_Mo_init_45 : decode xb_Mo_init 45 = .ok (.bipush 12, 2) := by decide +kernel
theorem xd_Mo_init_47 : decode xb_Mo_init 47 = .ok (.newarray .int, 2) := by decide +kernel
theorem xd_Mo_init_49 : decode xb_Mo_init 49 = .ok (.putfield 26, 3) := by decide +kernel
theorem xd_Mo_init_52 : decode xb_Mo_init 52 = .ok (.aload_n 0, 1) := by decide +kernel
theorem xd_Mo_init_53 : decode xb_Mo_init 53 = .ok (.bipush 72, 2) := by decide +kernel
theorem xd_Mo_init_55 : decode xb_Mo_init 55 = .ok (.newarray .int, 2) := by decide +kernel
theorem xd_Mo_init_57 : decode xb_Mo_init 57 = .ok (.putfield 29, 3) := by decide +kernel
theorem xd_Mo_init_60 : decode xb_Mo_init 60 = .ok (.aload_n 0, 1) := by decide +kernel
theorem xd_Mo_init_61 : decode xb_Mo_init 61 = .ok (.sipush 216, 3) := by decide +kernel
theorem xd_Mo_init_64 : decode xb_Mo_init 64 = .ok (.newarray .int, 2) := by decide +kernel
theorem xd_Mo_init_66 : decode xb_Mo_init 66 = .ok (.putfield 32, 3) := by decide +kernel
theorem xd_Mo_init_69 : decode xb_Mo_init 69 = .ok (.aload_n 0, 1) := by decide +kernel
theorem xd_Mo_init_70 : decode xb_Mo_init 70 = .ok (.sipush 216, 3) := by decide +kernel
theorem xd_Mo_init_73 : decode xb_Mo_init 73 = .ok (.newarray .int, 2) := by decide +kernel
theorem xd_Mo_init_75 : decode xb_Mo_init 75 = .ok (.putfield 35, 3) := by decide +kernel
theorem xd_Mo_init_78 : decode xb_Mo_init 78 = .ok (.aload_n 0, 1) := by decide +kernel
theorem xd_Mo_init_79 : decode xb_Mo_init 79 = .ok (.bipush 72, 2) := by decide +kernel
theorem xd_Mo_init_81 : decode xb_Mo_init 81 = .ok (.newarray .boolean, 2) := by decide +kernel
theorem xd_Mo_init_83 : decode xb_Mo_init 83 = .ok (.putfield 38, 3) := by decide +kernel
theorem xd_Mo_init_86 : decode xb_Mo_init 86 = .ok (.aload_n 0, 1) := by decide +kernel
theorem xd_Mo_init_87 : decode xb_Mo_init 87 = .ok (.bipush 72, 2) := by decide +kernel
theorem xd_Mo_init_89 : decode xb_Mo_init 89 = .ok (.newarray .boolean, 2) := by decide +kernel
theorem xd_Mo_init_91 : decode xb_Mo_init 91 = .ok (.putfield 42, 3) := by decide +kernel
theorem xd_Mo_init_94 : decode xb_Mo_init 94 = .ok (.aload_n 0, 1) := by decide +kernel
theorem xd_Mo_init_95 : decode xb_Mo_init 95 = .ok (.bipush 12, 2) := by decide +kernel
theorem xd_Mo_init_97 : decode xb_Mo_init 97 = .ok (.newarray .boolean, 2) := by decide +kernel
theorem xd_Mo_init_99 : decode xb_Mo_init 99 = .ok (.putfield 45, 3) := by decide +kernel
theorem xd_Mo_init_102 : decode xb_Mo_init 102 = .ok (.aload_n 0, 1) := by decide +kernel
theorem xd_Mo_init_103 : decode xb_Mo_init 103 = .ok (.bipush 12, 2) := by decide +kernel
theorem xd_Mo_init_105 : decode xb_Mo_init 105 = .ok (.newarray .int, 2) := by decide +kernel
theorem xd_Mo_init_107 : decode xb_Mo_init 107 = .ok (.putfield 48, 3) := by decide +kernel
theorem xd_Mo_init_110 : decode xb_Mo_init 110 = .ok (.aload_n 0, 1) := by decide +kernel
theorem xd_Mo_init_111 : decode xb_Mo_init 111 = .ok (.bipush 60, 2) := by decide +kernel
theorem xd_Mo_init_113 : decode xb_Mo_init 113 = .ok (.newarray .int, 2) := by decide +kernel
theorem xd_Mo_init_115 : decode xb_Mo_init 115 = .ok (.putfield 51, 3) := by decide +kernel
theorem xd_Mo_init_118 : decode xb_Mo_init 118 = .ok (.aload_n 0, 1) := by decide +kernel
theorem xd_Mo_init_119 : decode xb_Mo_init 119 = .ok (.bipush 36, 2) := by decide +kernel
theorem xd_Mo_init_121 : decode xb_Mo_init 121 = .ok (.newarray .int, 2) := by decide +kernel
theorem xd_Mo_init_123 : decode xb_Mo_init 123 = .ok (.putfield 54, 3) := by decide +kernel
theorem xd_Mo_init_126 : decode xb_Mo_init 126 = .ok (.aload_n 0, 1) := by decide +kernel
theorem xd_Mo_init_127 : decode xb_Mo_init 127 = .ok (.bipush 36, 2) := by decide +kernel
theorem xd_Mo_init_129 : decode xb_Mo_init 129 = .ok (.newarray .int, 2) := by decide +kernel
theorem xd_Mo_init_131 : decode xb_Mo_init 131 = .ok (.putfield 57, 3) := by decide +kernel
theorem xd_Mo_init_134 : decode xb_Mo_init 134 = .ok (.aload_n 0, 1) := by decide +kernel
theorem xd_Mo_init_135 : decode xb_Mo_init 135 = .ok (.bipush 60, 2) := by decide +kernel
theorem xd_Mo_init_137 : decode xb_Mo_init 137 = .ok (.newarray .boolean, 2) := by decide +kernel
theorem xd_Mo_init_139 : decode xb_Mo_init 139 = .ok (.putfield 60, 3) := by decide +kernel
theorem xd_Mo_init_142 : decode xb_Mo_init 142 = .ok (.aload_n 0, 1) := by decide +kernel
theorem xd_Mo_init_143 : decode xb_Mo_init 143 = .ok (.bipush 60, 2) := by decide +kernel
theorem xd_Mo_init_145 : decode xb_Mo_init 145 = .ok (.newarray .boolean, 2) := by decide +kernel
theorem xd_Mo_init_147 : decode xb_Mo_init 147 = .ok (.putfield 63, 3) := by decide +kernel
theorem xd_Mo_init_150 : decode xb_Mo_init 150 = .ok (.aload_n 0, 1) := by decide +kernel
theorem xd_Mo_init_151 : decode xb_Mo_init 151 = .ok (.bipush 6, 2) := by decide +kernel
theorem xd_Mo_init_153 : decode xb_Mo_init 153 = .ok (.newarray .int, 2) := by decide +kernel
theorem xd_Mo_init_155 : decode xb_Mo_init 155 = .ok (.putfield 66, 3) := by decide +kernel
theorem xd_Mo_init_158 : decode xb_Mo_init 158 = .ok (.aload_n 0, 1) := by decide +kernel
theorem xd_Mo_init_159 : decode xb_Mo_init 159 = .ok (.bipush 6, 2) := by decide +kernel
theorem xd_Mo_init_161 : decode xb_Mo_init 161 = .ok (.newarray .int, 2) := by decide +kernel
theorem xd_Mo_init_163 : decode xb_Mo_init 163 = .ok (.putfield 69, 3) := by decide +kernel
theorem xd_Mo_init_166 : decode xb_Mo_init 166 = .ok (.aload_n 0, 1) := by decide +kernel
theorem xd_Mo_init_167 : decode xb_Mo_init 167 = .ok (.bipush 6, 2) := by decide +kernel
theorem xd_Mo_init_169 : decode xb_Mo_init 169 = .ok (.newarray .int, 2) := by decide +kernel
theorem xd_Mo_init_171 : decode xb_Mo_init 171 = .ok (.putfield 72, 3) := by decide +kernel
theorem xd_Mo_init_174 : decode xb_Mo_init 174 = .ok (.aload_n 0, 1) := by decide +kernel
theorem xd_Mo_init_175 : decode xb_Mo_init 175 = .ok (.bipush 72, 2) := by decide +kernel
theorem xd_Mo_init_177 : decode xb_Mo_init 177 = .ok (.newarray .int, 2) := by decide +kernel
theorem xd_Mo_init_179 : decode xb_Mo_init 179 = .ok (.putfield 75, 3) := by decide +kernel
theorem xd_Mo_init_182 : decode xb_Mo_init 182 = .ok (.aload_n 0, 1) := by decide +kernel
theorem xd_Mo_init_183 : decode xb_Mo_init 183 = .ok (.bipush 6, 2) := by decide +kernel
theorem xd_Mo_init_185 : decode xb_Mo_init 185 = .ok (.newarray .boolean, 2) := by decide +kernel
theorem xd_Mo_init_187 : decode xb_Mo_init 187 = .ok (.putfield 78, 3) := by decide +kernel
theorem xd_Mo_init_190 : decode xb_Mo_init 190 = .ok (.aload_n 0, 1) := by decide +kernel
theorem xd_Mo_init_191 : decode xb_Mo_init 191 = .ok (.bipush 80, 2) := by decide +kernel
theorem xd_Mo_init_193 : decode xb_Mo_init 193 = .ok (.newarray .int, 2) := by decide +kernel
theorem xd_Mo_init_195 : decode xb_Mo_init 195 = .ok (.putfield 81, 3) := by decide +kernel
theorem xd_Mo_init_198 : decode xb_Mo_init 198 = .ok (.aload_n 0, 1) := by decide +kernel
theorem xd_Mo_init_199 : decode xb_Mo_init 199 = .ok (.bipush 72, 2) := by decide +kernel
theorem xd_Mo_init_201 : decode xb_Mo_init 201 = .ok (.newarray .boolean, 2) := by decide +kernel
theorem xd_Mo_init_203 : decode xb_Mo_init 203 = .ok (.putfield 84, 3) := by decide +kernel
theorem xd_Mo_init_206 : decode xb_Mo_init 206 = .ok (.return_, 1) := by decide +kernel
theorem xd_Mo_isOpen_0 : decode xb_Mo_isOpen 0 = .ok (.iload_n 1, 1) := by decide +kernel
theorem xd_Mo_isOpen_1 : decode xb_Mo_isOpen 1 = .ok (.ifCond .lt 24, 3) := by decide +kernel
theorem xd_Mo_isOpen_4 : decode xb_Mo_isOpen 4 = .ok (.iload_n 1, 1) := by decide +kernel
theorem xd_Mo_isOpen_5 : decode xb_Mo_isOpen 5 = .ok (.aload_n 0, 1) := by decide +kernel
theorem xd_Mo_isOpen_6 : decode xb_Mo_isOpen 6 = .ok (.getfield 150, 3) := by decide +kernel
theorem xd_Mo_isOpen_9 : decode xb_Mo_isOpen 9 = .ok (.if_icmp .ge 16, 3) := by decide +kernel
theorem xd_Mo_isOpen_25 : decode xb_Mo_isOpen 25 = .ok (.iconst 0, 1) := by decide +kernel
theorem xd_Mo_isOpen_26 : decode xb_Mo_isOpen 26 = .ok (.ireturn, 1) := by decide +kernel
theorem xd_Mo_layer_0 : decode xb_Mo_layer 0 = .ok (.aload_n 0, 1) := by decide +kernel
theorem xd_Mo_layer_1 : decode xb_Mo_layer 1 = .ok (.iconst 0, 1) := by decide +kernel
theorem xd_Mo_layer_2 : decode xb_Mo_layer 2 = .ok (.putfield 87, 3) := by decide +kernel
theorem xd_Mo_layer_5 : decode xb_Mo_layer 5 = .ok (.aload_n 0, 1) := by decide +kernel
theorem xd_Mo_layer_6 : decode xb_Mo_layer 6 = .ok (.iconst 0, 1) := by decide +kernel
theorem xd_Mo_layer_7 : decode xb_Mo_layer 7 = .ok (.putfield 187, 3) := by decide +kernel
theorem xd_Mo_layer_10 : decode xb_Mo_layer 10 = .ok (.aload_n 0, 1) := by decide +kernel
theorem xd_Mo_layer_11 : decode xb_Mo_layer 11 = .ok (.invokevirtual 101, 3) := by decide +kernel
theorem xd_Mo_layer_14 : decode xb_Mo_layer 14 = .ok (.aload_n 0, 1) := by decide +kernel
theorem xd_Mo_layer_15 : decode xb_Mo_layer 15 = .ok (.getfield 94, 3) := by decide +kernel
theorem xd_Mo_layer_18 : decode xb_Mo_layer 18 = .ok (.iconst 1, 1) := by decide +kernel
theorem xd_Mo_layer_19 : decode xb_Mo_layer 19 = .ok (.if_icmp .lt 15, 3) := by decide +kernel
theorem xd_Mo_layer_34 : decode xb_Mo_layer 34 = .ok (.iconst 0, 1) := by decide +kernel
theorem xd_Mo_layer_35 : decode xb_Mo_layer 35 = .ok (.istore 4, 2) := by decide +kernel
theorem xd_Mo_layer_37 : decode xb_Mo_layer 37 = .ok (.iconst 0, 1) := by decide +kernel
theorem xd_Mo_layer_38 : decode xb_Mo_layer 38 = .ok (.istore 5, 2) := by decide +kernel
theorem xd_Mo_layer_40 : decode xb_Mo_layer 40 = .ok (.iload 5, 2) := by decide +kernel
theorem xd_Mo_layer_42 : decode xb_Mo_layer 42 = .ok (.aload_n 0, 1) := by decide +kernel
theorem xd_Mo_layer_43 : decode xb_Mo_layer 43 = .ok (.getfield 94, 3) := by decide +kernel
theorem xd_Mo_layer_46 : decode xb_Mo_layer 46 = .ok (.if_icmp .ge 30, 3) := by decide +kernel
theorem xd_Mo_layer_76 : decode xb_Mo_layer 76 = .ok (.iload 4, 2) := by decide +kernel
theorem xd_Mo_layer_78 : decode xb_Mo_layer 78 = .ok (.ifCond .eq 25, 3) := by decide +kernel
theorem xd_Mo_layer_103 : decode xb_Mo_layer 103 = .ok (.aload_n 0, 1) := by decide +kernel
theorem xd_Mo_layer_104 : decode xb_Mo_layer 104 = .ok (.iconst 1, 1) := by decide +kernel
theorem xd_Mo_layer_105 : decode xb_Mo_layer 105 = .ok (.invokevirtual 129, 3) := by decide +kernel
theorem xd_Mo_layer_108 : decode xb_Mo_layer 108 = .ok (.ireturn, 1) := by decide +kernel
theorem xd_Mo_line_0 : decode xb_Mo_line 0 = .ok (.aload_n 0, 1) := by decide +kernel
theorem xd_Mo_line_1 : decode xb_Mo_line 1 = .ok (.iconst 0, 1) := by decide +kernel
theorem xd_Mo_line_2 : decode xb_Mo_line 2 = .ok (.putfield 87, 3) := by decide +kernel
theorem xd_Mo_line_5 : decode xb_Mo_line 5 = .ok (.aload_n 0, 1) := by decide +kernel
theorem xd_Mo_line_6 : decode xb_Mo_line 6 = .ok (.invokevirtual 101, 3) := by decide +kernel
theorem xd_Mo_line_9 : decode xb_Mo_line 9 = .ok (.aload_n 0, 1) := by decide +kernel
theorem xd_Mo_line_10 : decode xb_Mo_line 10 = .ok (.getfield 94, 3) := by decide +kernel
theorem xd_Mo_line_13 : decode xb_Mo_line 13 = .ok (.ifCond .ne 5, 3) := by decide +kernel
theorem xd_Mo_line_16 : decode xb_Mo_line 16 = .ok (.iconst 0, 1) := by decide +kernel
theorem xd_Mo_line_17 : decode xb_Mo_line 17 = .ok (.ireturn, 1) := by decide +kernel
theorem xd_Mo_load_0 : decode xb_Mo_load 0 = .ok (.aload_n 0, 1) := by decide +kernel
theorem xd_Mo_load_1 : decode xb_Mo_load 1 = .ok (.iconst 0, 1) := by decide +kernel
theorem xd_Mo_load_2 : decode xb_Mo_load 2 = .ok (.putfield 87, 3) := by decide +kernel
theorem xd_Mo_load_5 : decode xb_Mo_load 5 = .ok (.aload_n 0, 1) := by decide +kernel
theorem xd_Mo_load_6 : decode xb_Mo_load 6 = .ok (.invokevirtual 205, 3) := by decide +kernel
theorem xd_Mo_load_9 : decode xb_Mo_load 9 = .ok (.istore_n 3, 1) := by decide +kernel
theorem xd_Mo_load_10 : decode xb_Mo_load 10 = .ok (.aload_n 0, 1) := by decide +kernel
theorem xd_Mo_load_11 : decode xb_Mo_load 11 = .ok (.iload_n 1, 1) := by decide +kernel
theorem xd_Mo_load_12 : decode xb_Mo_load 12 = .ok (.iload_n 2, 1) := by decide +kernel
theorem xd_Mo_load_13 : decode xb_Mo_load 13 = .ok (.invokevirtual 199, 3) := by decide +kernel
theorem xd_Mo_load_16 : decode xb_Mo_load 16 = .ok (.istore 4, 2) := by decide +kernel
theorem xd_Mo_load_18 : decode xb_Mo_load 18 = .ok (.iload_n 3, 1) := by decide +kernel
theorem xd_Mo_load_19 : decode xb_Mo_load 19 = .ok (.ifCond .eq 8, 3) := by decide +kernel
theorem xd_Mo_load_27 : decode xb_Mo_load 27 = .ok (.aload_n 0, 1) := by decide +kernel
theorem xd_Mo_load_28 : decode xb_Mo_load 28 = .ok (.iconst 1, 1) := by decide +kernel
theorem xd_Mo_load_29 : decode xb_Mo_load 29 = .ok (.invokevirtual 129, 3) := by decide +kernel
theorem xd_Mo_load_32 : decode xb_Mo_load 32 = .ok (.ireturn, 1) := by decide +kernel
theorem xd_Mo_module_0 : decode xb_Mo_module 0 = .ok (.aload_n 0, 1) := by decide +kernel
theorem xd_Mo_module_1 : decode xb_Mo_module 1 = .ok (.iconst 0, 1) := by decide +kernel
theorem xd_Mo_module_2 : decode xb_Mo_module 2 = .ok (.putfield 87, 3) := by decide +kernel
theorem xd_Mo_module_5 : decode xb_Mo_module 5 = .ok (.aload_n 0, 1) := by decide +kernel
theorem xd_Mo_module_6 : decode xb_Mo_module 6 = .ok (.iload_n 1, 1) := by decide +kernel
theorem xd_Mo_module_7 : decode xb_Mo_module 7 = .ok (.iload_n 2, 1) := by decide +kernel
theorem xd_Mo_module_8 : decode xb_Mo_module 8 = .ok (.invokevirtual 199, 3) := by decide +kernel
theorem xd_Mo_module_11 : decode xb_Mo_module 11 = .ok (.ireturn, 1) := by decide +kernel
theorem xd_Mo_moduleOf_0 : decode xb_Mo_moduleOf 0 = .ok (.aload_n 0, 1) := by decide +kernel
theorem xd_Mo_moduleOf_1 : decode xb_Mo_moduleOf 1 = .ok (.iload_n 1, 1) := by decide +kernel
theorem xd_Mo_moduleOf_2 : decode xb_Mo_moduleOf 2 = .ok (.invokevirtual 190, 3) := by decide +kernel
theorem xd_Mo_moduleOf_5 : decode xb_Mo_moduleOf 5 = .ok (.ifCond .eq 31, 3) := by decide +kernel
theorem xd_Mo_moduleOf_36 : decode xb_Mo_moduleOf 36 = .ok (.iconst (-1), 1) := by decide +kernel
theorem xd_Mo_moduleOf_37 : decode xb_Mo_moduleOf 37 = .ok (.ireturn, 1) := by decide +kernel
theorem xd_Mo_modules_0 : decode xb_Mo_modules 0 = .ok (.aload_n 0, 1) := by decide +kernel
theorem xd_Mo_modules_1 : decode xb_Mo_modules 1 = .ok (.iconst 0, 1) := by decide +kernel
theorem xd_Mo_modules_2 : decode xb_Mo_modules 2 = .ok (.putfield 87, 3) := by decide +kernel
theorem xd_Mo_modules_5 : decode xb_Mo_modules 5 = .ok (.aload_n 0, 1) := by decide +kernel
theorem xd_Mo_modules_6 : decode xb_Mo_modules 6 = .ok (.iload_n 1, 1) := by decide +kernel
theorem xd_Mo_modules_7 : decode xb_Mo_modules 7 = .ok (.invokevirtual 190, 3) := by decide +kernel
theorem xd_Mo_modules_10 : decode xb_Mo_modules 10 = .ok (.ifCond .eq 12, 3) := by decide +kernel
theorem xd_Mo_modules_22 : decode xb_Mo_modules 22 = .ok (.iconst (-1), 1) := by decide +kernel
theorem xd_Mo_modules_23 : decode xb_Mo_modules 23 = .ok (.ireturn, 1) := by decide +kernel
theorem xd_Mo_oneName_0 : decode xb_Mo_oneName 0 = .ok (.aload_n 0, 1) := by decide +kernel
theorem xd_Mo_oneName_1 : decode xb_Mo_oneName 1 = .ok (.invokevirtual 101, 3) := by decide +kernel
theorem xd_Mo_oneName_4 : decode xb_Mo_oneName 4 = .ok (.aload_n 0, 1) := by decide +kernel
theorem xd_Mo_oneName_5 : decode xb_Mo_oneName 5 = .ok (.getfield 94, 3) := by decide +kernel
theorem xd_Mo_oneName_8 : decode xb_Mo_oneName 8 = .ok (.iconst 1, 1) := by decide +kernel
theorem xd_Mo_oneName_9 : decode xb_Mo_oneName 9 = .ok (.if_icmp .ne 11, 3) := by decide +kernel
theorem xd_Mo_oneName_20 : decode xb_Mo_oneName 20 = .ok (.iconst 0, 1) := by decide +kernel
theorem xd_Mo_oneName_21 : decode xb_Mo_oneName 21 = .ok (.ireturn, 1) := by decide +kernel
theorem xd_Mo_peek_0 : decode xb_Mo_peek 0 = .ok (.aload_n 0, 1) := by decide +kernel
theorem xd_Mo_peek_1 : decode xb_Mo_peek 1 = .ok (.iconst 0, 1) := by decide +kernel
theorem xd_Mo_peek_2 : decode xb_Mo_peek 2 = .ok (.putfield 87, 3) := by decide +kernel
theorem xd_Mo_peek_5 : decode xb_Mo_peek 5 = .ok (.aload_n 0, 1) := by decide +kernel
theorem xd_Mo_peek_6 : decode xb_Mo_peek 6 = .ok (.invokevirtual 205, 3) := by decide +kernel
theorem xd_Mo_peek_9 : decode xb_Mo_peek 9 = .ok (.istore 5, 2) := by decide +kernel
theorem xd_Mo_peek_11 : decode xb_Mo_peek 11 = .ok (.aload_n 0, 1) := by decide +kernel
theorem xd_Mo_peek_12 : decode xb_Mo_peek 12 = .ok (.iload_n 1, 1) := by decide +kernel
theorem xd_Mo_peek_13 : decode xb_Mo_peek 13 = .ok (.iload_n 2, 1) := by decide +kernel
theorem xd_Mo_peek_14 : decode xb_Mo_peek 14 = .ok (.invokevirtual 199, 3) := by decide +kernel
theorem xd_Mo_peek_17 : decode xb_Mo_peek 17 = .ok (.istore 6, 2) := by decide +kernel
theorem xd_Mo_peek_19 : decode xb_Mo_peek 19 = .ok (.iload 5, 2) := by decide +kernel
theorem xd_Mo_peek_21 : decode xb_Mo_peek 21 = .ok (.ifCond .eq 18, 3) := by decide +kernel
theorem xd_Mo_peek_39 : decode xb_Mo_peek 39 = .ok (.aload_n 0, 1) := by decide +kernel
theorem xd_Mo_peek_40 : decode xb_Mo_peek 40 = .ok (.iconst 1, 1) := by decide +kernel
theorem xd_Mo_peek_41 : decode xb_Mo_peek 41 = .ok (.putfield 87, 3) := by decide +kernel
theorem xd_Mo_peek_44 : decode xb_Mo_peek 44 = .ok (.iconst 0, 1) := by decide +kernel
theorem xd_Mo_peek_45 : decode xb_Mo_peek 45 = .ok (.ireturn, 1) := by decide +kernel
theorem xd_Mo_provider_0 : decode xb_Mo_provider 0 = .ok (.aload_n 0, 1) := by decide +kernel
theorem xd_Mo_provider_1 : decode xb_Mo_provider 1 = .ok (.iconst 0, 1) := by decide +kernel
theorem xd_Mo_provider_2 : decode xb_Mo_provider 2 = .ok (.putfield 87, 3) := by decide +kernel
theorem xd_Mo_provider_5 : decode xb_Mo_provider 5 = .ok (.aload_n 0, 1) := by decide +kernel
theorem xd_Mo_provider_6 : decode xb_Mo_provider 6 = .ok (.invokevirtual 205, 3) := by decide +kernel
theorem xd_Mo_provider_9 : decode xb_Mo_provider 9 = .ok (.istore_n 3, 1) := by decide +kernel
theorem xd_Mo_provider_10 : decode xb_Mo_provider 10 = .ok (.iload_n 3, 1) := by decide +kernel
theorem xd_Mo_provider_11 : decode xb_Mo_provider 11 = .ok (.ifCond .eq 11, 3) := by decide +kernel
theorem xd_Mo_provider_22 : decode xb_Mo_provider 22 = .ok (.aload_n 0, 1) := by decide +kernel
theorem xd_Mo_provider_23 : decode xb_Mo_provider 23 = .ok (.iconst 1, 1) := by decide +kernel
theorem xd_Mo_provider_24 : decode xb_Mo_provider 24 = .ok (.invokevirtual 129, 3) := by decide +kernel
theorem xd_Mo_provider_27 : decode xb_Mo_provider 27 = .ok (.ireturn, 1) := by decide +kernel
theorem xd_Mo_reads_0 : decode xb_Mo_reads 0 = .ok (.aload_n 0, 1) := by decide +kernel
theorem xd_Mo_reads_1 : decode xb_Mo_reads 1 = .ok (.iconst 0, 1) := by decide +kernel
theorem xd_Mo_reads_2 : decode xb_Mo_reads 2 = .ok (.putfield 87, 3) := by decide +kernel
theorem xd_Mo_reads_5 : decode xb_Mo_reads 5 = .ok (.aload_n 0, 1) := by decide +kernel
theorem xd_Mo_reads_6 : decode xb_Mo_reads 6 = .ok (.iload_n 1, 1) := by decide +kernel
theorem xd_Mo_reads_7 : decode xb_Mo_reads 7 = .ok (.iload_n 2, 1) := by decide +kernel
theorem xd_Mo_reads_8 : decode xb_Mo_reads 8 = .ok (.invokevirtual 199, 3) := by decide +kernel
theorem xd_Mo_reads_11 : decode xb_Mo_reads 11 = .ok (.istore 5, 2) := by decide +kernel
theorem xd_Mo_reads_13 : decode xb_Mo_reads 13 = .ok (.iload 5, 2) := by decide +kernel
theorem xd_Mo_reads_15 : decode xb_Mo_reads 15 = .ok (.ifCond .lt 13, 3) := by decide +kernel
theorem xd_Mo_reads_28 : decode xb_Mo_reads 28 = .ok (.iconst 0, 1) := by decide +kernel
theorem xd_Mo_reads_29 : decode xb_Mo_reads 29 = .ok (.ireturn, 1) := by decide +kernel
theorem xd_Mo_split_0 : decode xb_Mo_split 0 = .ok (.aload_n 0, 1) := by decide +kernel
theorem xd_Mo_split_1 : decode xb_Mo_split 1 = .ok (.iconst 0, 1) := by decide +kernel
theorem xd_Mo_split_2 : decode xb_Mo_split 2 = .ok (.putfield 94, 3) := by decide +kernel
theorem xd_Mo_split_5 : decode xb_Mo_split 5 = .ok (.iconst 0, 1) := by decide +kernel
theorem xd_Mo_split_6 : decode xb_Mo_split 6 = .ok (.istore_n 1, 1) := by decide +kernel
theorem xd_Mo_split_7 : decode xb_Mo_split 7 = .ok (.iload_n 1, 1) := by decide +kernel
theorem xd_Mo_split_8 : decode xb_Mo_split 8 = .ok (.aload_n 0, 1) := by decide +kernel
theorem xd_Mo_split_9 : decode xb_Mo_split 9 = .ok (.getfield 91, 3) := by decide +kernel
theorem xd_Mo_split_12 : decode xb_Mo_split 12 = .ok (.if_icmp .ge 94, 3) := by decide +kernel
theorem xd_Mo_split_106 : decode xb_Mo_split 106 = .ok (.aload_n 0, 1) := by decide +kernel
theorem xd_Mo_split_107 : decode xb_Mo_split 107 = .ok (.iconst 0, 1) := by decide +kernel
theorem xd_Mo_split_108 : decode xb_Mo_split 108 = .ok (.putfield 91, 3) := by decide +kernel
theorem xd_Mo_split_111 : decode xb_Mo_split 111 = .ok (.return_, 1) := by decide +kernel
theorem xd_Mo_thrown_0 : decode xb_Mo_thrown 0 = .ok (.aload_n 0, 1) := by decide +kernel
theorem xd_Mo_thrown_1 : decode xb_Mo_thrown 1 = .ok (.getfield 87, 3) := by decide +kernel
theorem xd_Mo_thrown_4 : decode xb_Mo_thrown 4 = .ok (.ireturn, 1) := by decide +kernel
theorem xd_Mo_write_0 : decode xb_Mo_write 0 = .ok (.aload_n 0, 1) := by decide +kernel
theorem xd_Mo_write_1 : decode xb_Mo_write 1 = .ok (.iconst 0, 1) := by decide +kernel
theorem xd_Mo_write_2 : decode xb_Mo_write 2 = .ok (.putfield 87, 3) := by decide +kernel
theorem xd_Mo_write_5 : decode xb_Mo_write 5 = .ok (.iload_n 1, 1) := by decide +kernel
theorem xd_Mo_write_6 : decode xb_Mo_write 6 = .ok (.bipush 32, 2) := by decide +kernel
theorem xd_Mo_write_8 : decode xb_Mo_write 8 = .ok (.if_icmp .lt 18, 3) := by decide +kernel
theorem xd_Mo_write_11 : decode xb_Mo_write 11 = .ok (.iload_n 1, 1) := by decide +kernel
theorem xd_Mo_write_12 : decode xb_Mo_write 12 = .ok (.bipush 126, 2) := by decide +kernel
theorem xd_Mo_write_14 : decode xb_Mo_write 14 = .ok (.if_icmp .gt 12, 3) := by decide +kernel
theorem xd_Mo_write_17 : decode xb_Mo_write 17 = .ok (.aload_n 0, 1) := by decide +kernel
theorem xd_Mo_write_18 : decode xb_Mo_write 18 = .ok (.getfield 91, 3) := by decide +kernel
theorem xd_Mo_write_21 : decode xb_Mo_write 21 = .ok (.bipush 40, 2) := by decide +kernel
theorem xd_Mo_write_23 : decode xb_Mo_write 23 = .ok (.if_icmp .lt 5, 3) := by decide +kernel
theorem xd_Mo_write_26 : decode xb_Mo_write 26 = .ok (.iconst 0, 1) := by decide +kernel
theorem xd_Mo_write_27 : decode xb_Mo_write 27 = .ok (.ireturn, 1) := by decide +kernel
theorem xd_Mo_write_28 : decode xb_Mo_write 28 = .ok (.aload_n 0, 1) := by decide +kernel
theorem xd_Mo_write_29 : decode xb_Mo_write 29 = .ok (.getfield 7, 3) := by decide +kernel
theorem xd_Mo_write_32 : decode xb_Mo_write 32 = .ok (.aload_n 0, 1) := by decide +kernel
theorem xd_Mo_write_33 : decode xb_Mo_write 33 = .ok (.getfield 91, 3) := by decide +kernel
theorem xd_Mo_write_36 : decode xb_Mo_write 36 = .ok (.iload_n 1, 1) := by decide +kernel
theorem xd_Mo_write_37 : decode xb_Mo_write 37 = .ok (.castore, 1) := by decide +kernel
theorem xd_Mo_write_38 : decode xb_Mo_write 38 = .ok (.aload_n 0, 1) := by decide +kernel
theorem xd_Mo_write_39 : decode xb_Mo_write 39 = .ok (.dup, 1) := by decide +kernel
theorem xd_Mo_write_40 : decode xb_Mo_write 40 = .ok (.getfield 91, 3) := by decide +kernel
theorem xd_Mo_write_43 : decode xb_Mo_write 43 = .ok (.iconst 1, 1) := by decide +kernel
theorem xd_Mo_write_44 : decode xb_Mo_write 44 = .ok (.iadd, 1) := by decide +kernel
theorem xd_Mo_write_45 : decode xb_Mo_write 45 = .ok (.putfield 91, 3) := by decide +kernel
theorem xd_Mo_write_48 : decode xb_Mo_write 48 = .ok (.iconst 1, 1) := by decide +kernel
theorem xd_Mo_write_49 : decode xb_Mo_write 49 = .ok (.ireturn, 1) := by decide +kernel
theorem xd_Sh_accept_0 : decode xb_Sh_accept 0 = .ok (.aload_n 1, 1) := by decide +kernel
theorem xd_Sh_accept_1 : decode xb_Sh_accept 1 = .ok (.getfield 27, 3) := by decide +kernel
theorem xd_Sh_accept_4 : decode xb_Sh_accept 4 = .ok (.ifCond .ne 5, 3) := by decide +kernel
theorem xd_Sh_accept_7 : decode xb_Sh_accept 7 = .ok (.iconst 0, 1) := by decide +kernel
theorem xd_Sh_accept_8 : decode xb_Sh_accept 8 = .ok (.ireturn, 1) := by decide +kernel
theorem xd_Sh_init_0 : decode xb_Sh_init 0 = .ok (.aload_n 0, 1) := by decide +kernel
theorem xd_Sh_init_1 : decode xb_Sh_init 1 = .ok (.invokespecial 3, 3) := by decide +kernel
theorem xd_Sh_init_4 : decode xb_Sh_init 4 = .ok (.aload_n 0, 1) := by decide +kernel
theorem xd_Sh_init_5 : decode xb_Sh_init 5 = .ok (.bipush 12, 2) := by decide +kernel
theorem xd_Sh_init_7 : decode xb_Sh_init 7 = .ok (.anewarray 9, 3) := by decide +kernel
theorem xd_Sh_init_10 : decode xb_Sh_init 10 = .ok (.putfield 11, 3) := by decide +kernel
theorem xd_Sh_init_13 : decode xb_Sh_init 13 = .ok (.aload_n 0, 1) := by decide +kernel
theorem xd_Sh_init_14 : decode xb_Sh_init 14 = .ok (.iconst 0, 1) := by decide +kernel
theorem xd_Sh_init_15 : decode xb_Sh_init 15 = .ok (.putfield 17, 3) := by decide +kernel
theorem xd_Sh_init_18 : decode xb_Sh_init 18 = .ok (.return_, 1) := by decide +kernel
theorem xk_0 : (Cond.methodLink "LayerDesk$Line" 1 ⟨"java/lang/Object", "<init>", "()V"⟩) ∈ wT := wT_t (List.mem_append_left _ (List.mem_of_getElem? (i := 35) rfl)) rfl
theorem xk_1 : (Cond.instanceMethod ⟨"java/lang/Object", "<init>", "()V"⟩) ∈ wT := wT_t (List.mem_append_left _ (List.mem_of_getElem? (i := 28) rfl)) rfl
theorem xk_2 : (Cond.code ⟨"java/lang/Object", "<init>", "()V"⟩ object_method_1_code 1 none) ∈ wT := wT_t (List.mem_append_left _ (List.mem_of_getElem? (i := 29) rfl)) rfl
theorem xk_3 : (Cond.arrayClass .char) ∈ wT := wT_t (List.mem_append_left _ (List.mem_of_getElem? (i := 54) rfl)) rfl
theorem xk_4 : (Cond.fieldLink "LayerDesk$Line" 9 "LayerDesk$Line" "text" "[C") ∈ wT := wT_t (List.mem_append_left _ (List.mem_of_getElem? (i := 36) rfl)) rfl
theorem xk_5 : (Cond.arrayClass .int) ∈ wT := wT_t (List.mem_append_left _ (List.mem_of_getElem? (i := 55) rfl)) rfl
theorem xk_6 : (Cond.fieldLink "LayerDesk$Line" 13 "LayerDesk$Line" "starts" "[I") ∈ wT := wT_t (List.mem_append_left _ (List.mem_of_getElem? (i := 37) rfl)) rfl
theorem xk_7 : (Cond.fieldLink "LayerDesk$Line" 17 "LayerDesk$Line" "ends" "[I") ∈ wT := wT_t (List.mem_append_left _ (List.mem_of_getElem? (i := 38) rfl)) rfl
theorem xk_8 : (Cond.fieldLink "LayerDesk$Line" 20 "LayerDesk$Line" "length" "I") ∈ wT := wT_t (List.mem_append_left _ (List.mem_of_getElem? (i := 39) rfl)) rfl
theorem xk_9 : (Cond.fieldLink "LayerDesk$Line" 24 "LayerDesk$Line" "words" "I") ∈ wT := wT_t (List.mem_append_left _ (List.mem_of_getElem? (i := 40) rfl)) rfl
theorem xk_10 : (Cond.methodLink "LayerDesk$Shelf" 3 ⟨"java/lang/Object", "<init>", "()V"⟩) ∈ wT := wT_t (List.mem_append_left _ (List.mem_of_getElem? (i := 61) rfl)) rfl
theorem xk_11 : (Cond.classLink "LayerDesk$Shelf" 9 "LayerDesk$Descriptor") ∈ wT := wT_t (List.mem_append_left _ (List.mem_of_getElem? (i := 62) rfl)) rfl
theorem xk_12 : (Cond.fieldLink "LayerDesk$Shelf" 11 "LayerDesk$Shelf" "descriptors" "[LLayerDesk$Descriptor;") ∈ wT := wT_t (List.mem_append_left _ (List.mem_of_getElem? (i := 64) rfl)) rfl
theorem xk_13 : (Cond.fieldLink "LayerDesk$Shelf" 17 "LayerDesk$Shelf" "size" "I") ∈ wT := wT_t (List.mem_append_left _ (List.mem_of_getElem? (i := 66) rfl)) rfl
theorem xk_14 : (Cond.methodLink "LayerDesk$Chooser" 3 ⟨"java/lang/Object", "<init>", "()V"⟩) ∈ wT := wT_t (List.mem_append_left _ (List.mem_of_getElem? (i := 79) rfl)) rfl
theorem xk_15 : (Cond.classLink "LayerDesk$Chooser" 9 "LayerDesk$Descriptor") ∈ wT := wT_t (List.mem_append_left _ (List.mem_of_getElem? (i := 80) rfl)) rfl
theorem xk_16 : (Cond.fieldLink "LayerDesk$Chooser" 11 "LayerDesk$Chooser" "chosen" "[LLayerDesk$Descriptor;") ∈ wT := wT_t (List.mem_append_left _ (List.mem_of_getElem? (i := 82) rfl)) rfl
theorem xk_17 : (Cond.fieldLink "LayerDesk$Chooser" 17 "LayerDesk$Chooser" "size" "I") ∈ wT := wT_t (List.mem_append_left _ (List.mem_of_getElem? (i := 83) rfl)) rfl
theorem xk_18 : (Cond.fieldLink "LayerDesk$Chooser" 21 "LayerDesk$Chooser" "finder" "I") ∈ wT := wT_t (List.mem_append_left _ (List.mem_of_getElem? (i := 84) rfl)) rfl
theorem xk_19 : (Cond.fieldLink "LayerDesk$Chooser" 24 "LayerDesk$Chooser" "parent" "LLayerDesk$Layer;") ∈ wT := wT_t (List.mem_append_left _ (List.mem_of_getElem? (i := 85) rfl)) rfl
theorem xk_20 : (Cond.fieldLink "LayerDesk$Chooser" 28 "LayerDesk$Chooser" "shelf" "LLayerDesk$Shelf;") ∈ wT := wT_t (List.mem_append_left _ (List.mem_of_getElem? (i := 81) rfl)) rfl
theorem xk_21 : (Cond.methodLink "LayerDesk" 1 ⟨"java/lang/Object", "<init>", "()V"⟩) ∈ wT := wT_t (List.mem_append_left _ (List.mem_of_getElem? (i := 27) rfl)) rfl
theorem xk_22 : (Cond.classLink "LayerDesk" 7 "LayerDesk$Line") ∈ wT := wT_t (List.mem_append_left _ (List.mem_of_getElem? (i := 30) rfl)) rfl
theorem xk_23 : (Cond.instantiable "LayerDesk$Line" 5) ∈ wT := wT_t (List.mem_append_left _ (List.mem_of_getElem? (i := 31) rfl)) rfl
theorem xk_24 : (Cond.initialized "LayerDesk$Line") ∈ wT := wT_t (List.mem_append_left _ (List.mem_of_getElem? (i := 2) rfl)) rfl
theorem xk_25 : (Cond.code xy_Li_init xb_Li_init 1 none) ∈ wT := wT_t (List.mem_append_left _ (List.mem_of_getElem? (i := 34) rfl)) rfl
theorem xk_26 : (Cond.instanceMethod xy_Li_init) ∈ wT := wT_t (List.mem_append_left _ (List.mem_of_getElem? (i := 33) rfl)) rfl
theorem xk_27 : (Cond.fieldLink "LayerDesk" 10 "LayerDesk" "written" "LLayerDesk$Line;") ∈ wT := wT_t (List.mem_append_left _ (List.mem_of_getElem? (i := 99) rfl)) rfl
theorem xk_28 : (Cond.classLink "LayerDesk" 16 "LayerDesk$Shelf") ∈ wT := wT_t (List.mem_append_left _ (List.mem_of_getElem? (i := 56) rfl)) rfl
theorem xk_29 : (Cond.instantiable "LayerDesk$Shelf" 2) ∈ wT := wT_t (List.mem_append_left _ (List.mem_of_getElem? (i := 57) rfl)) rfl
theorem xk_30 : (Cond.initialized "LayerDesk$Shelf") ∈ wT := wT_t (List.mem_append_left _ (List.mem_of_getElem? (i := 3) rfl)) rfl
theorem xk_31 : (Cond.code xy_Sh_init xb_Sh_init 1 none) ∈ wT := wT_t (List.mem_append_left _ (List.mem_of_getElem? (i := 60) rfl)) rfl
theorem xk_32 : (Cond.instanceMethod xy_Sh_init) ∈ wT := wT_t (List.mem_append_left _ (List.mem_of_getElem? (i := 59) rfl)) rfl
theorem xk_33 : (Cond.fieldLink "LayerDesk" 19 "LayerDesk" "shelf" "LLayerDesk$Shelf;") ∈ wT := wT_t (List.mem_append_left _ (List.mem_of_getElem? (i := 100) rfl)) rfl
theorem xk_34 : (Cond.classLink "LayerDesk" 23 "LayerDesk$Chooser") ∈ wT := wT_t (List.mem_append_left _ (List.mem_of_getElem? (i := 74) rfl)) rfl
theorem xk_35 : (Cond.instantiable "LayerDesk$Chooser" 5) ∈ wT := wT_t (List.mem_append_left _ (List.mem_of_getElem? (i := 75) rfl)) rfl
theorem xk_36 : (Cond.initialized "LayerDesk$Chooser") ∈ wT := wT_t (List.mem_append_left _ (List.mem_of_getElem? (i := 4) rfl)) rfl
theorem xk_37 : (Cond.code xy_Ch_init xb_Ch_init 2 none) ∈ wT := wT_t (List.mem_append_left _ (List.mem_of_getElem? (i := 78) rfl)) rfl
theorem xk_38 : (Cond.methodLink "LayerDesk" 25 xy_Ch_init) ∈ wT := wT_t (List.mem_append_left _ (List.mem_of_getElem? (i := 76) rfl)) rfl
theorem xk_39 : (Cond.instanceMethod xy_Ch_init) ∈ wT := wT_t (List.mem_append_left _ (List.mem_of_getElem? (i := 77) rfl)) rfl
theorem xk_40 : (Cond.fieldLink "LayerDesk" 28 "LayerDesk" "chooser" "LLayerDesk$Chooser;") ∈ wT := wT_t (List.mem_append_left _ (List.mem_of_getElem? (i := 101) rfl)) rfl
theorem xk_41 : (Cond.classLink "LayerDesk" 32 "LayerDesk$Layer") ∈ wT := wT_t (List.mem_append_left _ (List.mem_of_getElem? (i := 97) rfl)) rfl
theorem xk_42 : (Cond.fieldLink "LayerDesk" 34 "LayerDesk" "layers" "[LLayerDesk$Layer;") ∈ wT := wT_t (List.mem_append_left _ (List.mem_of_getElem? (i := 102) rfl)) rfl
theorem xk_43 : (Cond.fieldLink "LayerDesk" 38 "LayerDesk" "made" "I") ∈ wT := wT_t (List.mem_append_left _ (List.mem_of_getElem? (i := 103) rfl)) rfl
theorem xk_44 : (Cond.fieldLink "LayerDesk" 42 "LayerDesk" "latestFault" "I") ∈ wT := wT_t (List.mem_append_left _ (List.mem_of_getElem? (i := 104) rfl)) rfl
theorem xk_45 : (Cond.methodLink "LayerDeskModel" 1 ⟨"java/lang/Object", "<init>", "()V"⟩) ∈ wT := wT_t (List.mem_append_right _ (List.mem_append_right _ (List.mem_append_right _ (List.mem_append_left _ (List.mem_of_getElem? (i := 83) rfl))))) rfl
theorem xk_46 : (Cond.fieldLink "LayerDeskModel" 7 "LayerDeskModel" "text" "[C") ∈ wT := wT_t (List.mem_append_right _ (List.mem_append_right _ (List.mem_append_right _ (List.mem_append_left _ (List.mem_of_getElem? (i := 86) rfl))))) rfl
theorem xk_47 : (Cond.fieldLink "LayerDeskModel" 13 "LayerDeskModel" "begin" "[I") ∈ wT := wT_t (List.mem_append_right _ (List.mem_append_right _ (List.mem_append_right _ (List.mem_append_left _ (List.mem_of_getElem? (i := 89) rfl))))) rfl
theorem xk_48 : (Cond.fieldLink "LayerDeskModel" 17 "LayerDeskModel" "end" "[I") ∈ wT := wT_t (List.mem_append_right _ (List.mem_append_right _ (List.mem_append_right _ (List.mem_append_left _ (List.mem_of_getElem? (i := 90) rfl))))) rfl
theorem xk_49 : (Cond.fieldLink "LayerDeskModel" 20 "LayerDeskModel" "finder" "[I") ∈ wT := wT_t (List.mem_append_right _ (List.mem_append_right _ (List.mem_append_right _ (List.mem_append_left _ (List.mem_of_getElem? (i := 92) rfl))))) rfl
theorem xk_50 : (Cond.fieldLink "LayerDeskModel" 23 "LayerDeskModel" "name" "[I") ∈ wT := wT_t (List.mem_append_right _ (List.mem_append_right _ (List.mem_append_right _ (List.mem_append_left _ (List.mem_of_getElem? (i := 93) rfl))))) rfl
theorem xk_51 : (Cond.fieldLink "LayerDeskModel" 26 "LayerDeskModel" "packages" "[I") ∈ wT := wT_t (List.mem_append_right _ (List.mem_append_right _ (List.mem_append_right _ (List.mem_append_left _ (List.mem_of_getElem? (i := 94) rfl))))) rfl
theorem xk_52 : (Cond.fieldLink "LayerDeskModel" 29 "LayerDeskModel" "pack" "[I") ∈ wT := wT_t (List.mem_append_right _ (List.mem_append_right _ (List.mem_append_right _ (List.mem_append_left _ (List.mem_of_getElem? (i := 95) rfl))))) rfl
theorem xk_53 : (Cond.fieldLink "LayerDeskModel" 32 "LayerDeskModel" "exportTo" "[I") ∈ wT := wT_t (List.mem_append_right _ (List.mem_append_right _ (List.mem_append_right _ (List.mem_append_left _ (List.mem_of_getElem? (i := 96) rfl))))) rfl
theorem xk_54 : (Cond.fieldLink "LayerDeskModel" 35 "LayerDeskModel" "openTo" "[I") ∈ wT := wT_t (List.mem_append_right _ (List.mem_append_right _ (List.mem_append_right _ (List.mem_append_left _ (List.mem_of_getElem? (i := 97) rfl))))) rfl
theorem xk_55 : (Cond.arrayClass .boolean) ∈ wT := wT_t (List.mem_append_right _ (List.mem_append_left _ (List.mem_of_getElem? (i := 110) rfl))) rfl
theorem xk_56 : (Cond.fieldLink "LayerDeskModel" 38 "LayerDeskModel" "exportAll" "[Z") ∈ wT := wT_t (List.mem_append_right _ (List.mem_append_right _ (List.mem_append_right _ (List.mem_append_left _ (List.mem_of_getElem? (i := 98) rfl))))) rfl
theorem xk_57 : (Cond.fieldLink "LayerDeskModel" 42 "LayerDeskModel" "openAll" "[Z") ∈ wT := wT_t (List.mem_append_right _ (List.mem_append_right _ (List.mem_append_right _ (List.mem_append_left _ (List.mem_of_getElem? (i := 99) rfl))))) rfl
theorem xk_58 : (Cond.fieldLink "LayerDeskModel" 45 "LayerDeskModel" "locked" "[Z") ∈ wT := wT_t (List.mem_append_right _ (List.mem_append_right _ (List.mem_append_right _ (List.mem_append_left _ (List.mem_of_getElem? (i := 100) rfl))))) rfl
theorem xk_59 : (Cond.fieldLink "LayerDeskModel" 48 "LayerDeskModel" "requires" "[I") ∈ wT := wT_t (List.mem_append_right _ (List.mem_append_right _ (List.mem_append_right _ (List.mem_append_left _ (List.mem_of_getElem? (i := 101) rfl))))) rfl
theorem xk_60 : (Cond.fieldLink "LayerDeskModel" 51 "LayerDeskModel" "require" "[I") ∈ wT := wT_t (List.mem_append_right _ (List.mem_append_right _ (List.mem_append_right _ (List.mem_append_left _ (List.mem_of_getElem? (i := 102) rfl))))) rfl
theorem xk_61 : (Cond.fieldLink "LayerDeskModel" 54 "LayerDeskModel" "use" "[I") ∈ wT := wT_t (List.mem_append_right _ (List.mem_append_right _ (List.mem_append_right _ (List.mem_append_left _ (List.mem_of_getElem? (i := 103) rfl))))) rfl
theorem xk_62 : (Cond.fieldLink "LayerDeskModel" 57 "LayerDeskModel" "provide" "[I") ∈ wT := wT_t (List.mem_append_right _ (List.mem_append_right _ (List.mem_append_right _ (List.mem_append_left _ (List.mem_of_getElem? (i := 104) rfl))))) rfl
theorem xk_63 : (Cond.fieldLink "LayerDeskModel" 60 "LayerDeskModel" "passes" "[Z") ∈ wT := wT_t (List.mem_append_right _ (List.mem_append_right _ (List.mem_append_right _ (List.mem_append_left _ (List.mem_of_getElem? (i := 105) rfl))))) rfl
theorem xk_64 : (Cond.fieldLink "LayerDeskModel" 63 "LayerDeskModel" "still" "[Z") ∈ wT := wT_t (List.mem_append_right _ (List.mem_append_right _ (List.mem_append_right _ (List.mem_append_left _ (List.mem_of_getElem? (i := 106) rfl))))) rfl
theorem xk_65 : (Cond.fieldLink "LayerDeskModel" 66 "LayerDeskModel" "finderOf" "[I") ∈ wT := wT_t (List.mem_append_right _ (List.mem_append_right _ (List.mem_append_right _ (List.mem_append_left _ (List.mem_of_getElem? (i := 108) rfl))))) rfl
theorem xk_66 : (Cond.fieldLink "LayerDeskModel" 69 "LayerDeskModel" "parent" "[I") ∈ wT := wT_t (List.mem_append_right _ (List.mem_append_right _ (List.mem_append_right _ (List.mem_append_left _ (List.mem_of_getElem? (i := 109) rfl))))) rfl
theorem xk_67 : (Cond.fieldLink "LayerDeskModel" 72 "LayerDeskModel" "modules" "[I") ∈ wT := wT_t (List.mem_append_right _ (List.mem_append_right _ (List.mem_append_right _ (List.mem_append_left _ (List.mem_of_getElem? (i := 110) rfl))))) rfl
theorem xk_68 : (Cond.fieldLink "LayerDeskModel" 75 "LayerDeskModel" "module" "[I") ∈ wT := wT_t (List.mem_append_right _ (List.mem_append_right _ (List.mem_append_right _ (List.mem_append_left _ (List.mem_of_getElem? (i := 111) rfl))))) rfl
theorem xk_69 : (Cond.fieldLink "LayerDeskModel" 78 "LayerDeskModel" "open" "[Z") ∈ wT := wT_t (List.mem_append_right _ (List.mem_append_right _ (List.mem_append_right _ (List.mem_append_left _ (List.mem_of_getElem? (i := 112) rfl))))) rfl
theorem xk_70 : (Cond.fieldLink "LayerDeskModel" 81 "LayerDeskModel" "stack" "[I") ∈ wT := wT_t (List.mem_append_right _ (List.mem_append_right _ (List.mem_append_right _ (List.mem_append_left _ (List.mem_of_getElem? (i := 113) rfl))))) rfl
theorem xk_71 : (Cond.fieldLink "LayerDeskModel" 84 "LayerDeskModel" "seen" "[Z") ∈ wT := wT_t (List.mem_append_right _ (List.mem_append_right _ (List.mem_append_right _ (List.mem_append_left _ (List.mem_of_getElem? (i := 114) rfl))))) rfl
theorem xk_72 : (Cond.code xy_Li_append xb_Li_append 2 (some .boolean)) ∈ wT := wT_t (List.mem_append_left _ (List.mem_of_getElem? (i := 125) rfl)) rfl
theorem xk_73 : (Cond.methodLink "LayerDesk" 45 xy_Li_append) ∈ wT := wT_t (List.mem_append_left _ (List.mem_of_getElem? (i := 122) rfl)) rfl
theorem xk_74 : (Cond.instanceMethod xy_Li_append) ∈ wT := wT_t (List.mem_append_left _ (List.mem_of_getElem? (i := 123) rfl)) rfl
theorem xk_75 : (Cond.selects "LayerDesk$Line" xy_Li_append xy_Li_append) ∈ wT := wT_t (List.mem_append_left _ (List.mem_of_getElem? (i := 124) rfl)) rfl
theorem xk_76 : (Cond.code xy_Li_take xb_Li_take 3 none) ∈ wT := wT_t (List.mem_append_left _ (List.mem_of_getElem? (i := 190) rfl)) rfl
theorem xk_77 : (Cond.methodLink "LayerDesk$Line" 27 xy_Li_take) ∈ wT := wT_t (List.mem_append_right _ (List.mem_append_right _ (List.mem_append_right _ (List.mem_append_left _ (List.mem_of_getElem? (i := 43) rfl))))) rfl
theorem xk_78 : (Cond.instanceMethod xy_Li_take) ∈ wT := wT_t (List.mem_append_left _ (List.mem_of_getElem? (i := 188) rfl)) rfl
theorem xk_79 : (Cond.selects "LayerDesk$Line" xy_Li_take xy_Li_take) ∈ wT := wT_t (List.mem_append_left _ (List.mem_of_getElem? (i := 189) rfl)) rfl
theorem xk_80 : (Cond.fieldLink "LayerDesk$Shelf" 27 "LayerDesk$Line" "words" "I") ∈ wT := wT_t (List.mem_append_left _ (List.mem_of_getElem? (i := 41) rfl)) rfl
theorem xk_81 : (Cond.methodLink "LayerDesk" 49 xy_Li_take) ∈ wT := wT_t (List.mem_append_left _ (List.mem_of_getElem? (i := 187) rfl)) rfl
theorem xk_82 : (Cond.code xy_Sh_accept xb_Sh_accept 2 (some .int)) ∈ wT := wT_t (List.mem_append_left _ (List.mem_of_getElem? (i := 194) rfl)) rfl
theorem xk_83 : (Cond.methodLink "LayerDesk" 52 xy_Sh_accept) ∈ wT := wT_t (List.mem_append_left _ (List.mem_of_getElem? (i := 191) rfl)) rfl
theorem xk_84 : (Cond.instanceMethod xy_Sh_accept) ∈ wT := wT_t (List.mem_append_left _ (List.mem_of_getElem? (i := 192) rfl)) rfl
theorem xk_85 : (Cond.selects "LayerDesk$Shelf" xy_Sh_accept xy_Sh_accept) ∈ wT := wT_t (List.mem_append_left _ (List.mem_of_getElem? (i := 193) rfl)) rfl
theorem xk_86 : (Cond.code xy_De_openLayer xb_De_openLayer 3 (some (.object "LayerDesk$Layer"))) ∈ wT := wT_t (List.mem_append_left _ (List.mem_of_getElem? (i := 137) rfl)) rfl
theorem xk_87 : (Cond.methodLink "LayerDesk" 68 xy_De_openLayer) ∈ wT := wT_t (List.mem_append_left _ (List.mem_of_getElem? (i := 134) rfl)) rfl
theorem xk_88 : (Cond.instanceMethod xy_De_openLayer) ∈ wT := wT_t (List.mem_append_left _ (List.mem_of_getElem? (i := 136) rfl)) rfl
theorem xk_89 : (Cond.selects "LayerDesk" xy_De_openLayer xy_De_openLayer) ∈ wT := wT_s (q := (xy_De_openLayer, 6)) (by decide +kernel) rfl
theorem xk_90 : (Cond.initialized "LayerDesk") ∈ wT := wT_t (List.mem_append_left _ (List.mem_of_getElem? (i := 1) rfl)) rfl
theorem xk_91 : (Cond.fieldLink "LayerDesk" 121 "LayerDesk$Shelf" "size" "I") ∈ wT := wT_t (List.mem_append_left _ (List.mem_of_getElem? (i := 67) rfl)) rfl
theorem xk_92 : (Cond.code xy_De_countOpen xb_De_countOpen 3 (some .int)) ∈ wT := wT_t (List.mem_append_left _ (List.mem_of_getElem? (i := 149) rfl)) rfl
theorem xk_93 : (Cond.methodLink "LayerDesk" 124 xy_De_countOpen) ∈ wT := wT_t (List.mem_append_left _ (List.mem_of_getElem? (i := 146) rfl)) rfl
theorem xk_94 : (Cond.instanceMethod xy_De_countOpen) ∈ wT := wT_t (List.mem_append_left _ (List.mem_of_getElem? (i := 148) rfl)) rfl
theorem xk_95 : (Cond.selects "LayerDesk" xy_De_countOpen xy_De_countOpen) ∈ wT := wT_s (q := (xy_De_countOpen, 6)) (by decide +kernel) rfl
theorem xk_96 : (Cond.code xy_De_memberAt xb_De_memberAt 4 (some (.object "LayerDesk$Member"))) ∈ wT := wT_t (List.mem_append_left _ (List.mem_of_getElem? (i := 161) rfl)) rfl
theorem xk_97 : (Cond.methodLink "LayerDesk" 132 xy_De_memberAt) ∈ wT := wT_t (List.mem_append_left _ (List.mem_of_getElem? (i := 158) rfl)) rfl
theorem xk_98 : (Cond.instanceMethod xy_De_memberAt) ∈ wT := wT_t (List.mem_append_left _ (List.mem_of_getElem? (i := 160) rfl)) rfl
theorem xk_99 : (Cond.selects "LayerDesk" xy_De_memberAt xy_De_memberAt) ∈ wT := wT_s (q := (xy_De_memberAt, 6)) (by decide +kernel) rfl
theorem xk_100 : (Cond.code xy_De_memberOf xb_De_memberOf 4 (some (.object "LayerDesk$Member"))) ∈ wT := wT_t (List.mem_append_left _ (List.mem_of_getElem? (i := 169) rfl)) rfl
theorem xk_101 : (Cond.methodLink "LayerDesk" 145 xy_De_memberOf) ∈ wT := wT_t (List.mem_append_left _ (List.mem_of_getElem? (i := 166) rfl)) rfl
theorem xk_102 : (Cond.instanceMethod xy_De_memberOf) ∈ wT := wT_t (List.mem_append_left _ (List.mem_of_getElem? (i := 168) rfl)) rfl
theorem xk_103 : (Cond.selects "LayerDesk" xy_De_memberOf xy_De_memberOf) ∈ wT := wT_s (q := (xy_De_memberOf, 6)) (by decide +kernel) rfl
theorem xk_104 : (Cond.fieldLink "LayerDesk" 198 "LayerDesk$Line" "words" "I") ∈ wT := wT_t (List.mem_append_left _ (List.mem_of_getElem? (i := 42) rfl)) rfl
theorem xk_105 : (Cond.code xy_De_rootsAreNames xb_De_rootsAreNames 2 (some .boolean)) ∈ wT := wT_t (List.mem_append_right _ (List.mem_append_right _ (List.mem_append_left _ (List.mem_of_getElem? (i := 59) rfl)))) rfl
theorem xk_106 : (Cond.methodLink "LayerDesk" 72 xy_De_rootsAreNames) ∈ wT := wT_t (List.mem_append_right _ (List.mem_append_right _ (List.mem_append_left _ (List.mem_of_getElem? (i := 56) rfl)))) rfl
theorem xk_107 : (Cond.instanceMethod xy_De_rootsAreNames) ∈ wT := wT_t (List.mem_append_right _ (List.mem_append_right _ (List.mem_append_left _ (List.mem_of_getElem? (i := 58) rfl)))) rfl
theorem xk_108 : (Cond.selects "LayerDesk" xy_De_rootsAreNames xy_De_rootsAreNames) ∈ wT := wT_s (q := (xy_De_rootsAreNames, 6)) (by decide +kernel) rfl
theorem xk_109 : (Cond.classLink "LayerDesk" 56 "java/lang/IllegalArgumentException") ∈ wT := wT_t (List.mem_append_right _ (List.mem_append_left _ (List.mem_of_getElem? (i := 205) rfl))) rfl
theorem xk_110 : (Cond.initialized "java/lang/IllegalArgumentException") ∈ wT := wT_t (List.mem_append_left _ (List.mem_of_getElem? (i := 16) rfl)) rfl
theorem xk_111 : (Cond.code xy_Li_takeName xb_Li_takeName 1 (some .int)) ∈ wT := wT_t (List.mem_append_right _ (List.mem_append_right _ (List.mem_append_right _ (List.mem_append_left _ (List.mem_of_getElem? (i := 42) rfl))))) rfl
theorem xk_112 : (Cond.methodLink "LayerDesk" 158 xy_Li_takeName) ∈ wT := wT_t (List.mem_append_right _ (List.mem_append_right _ (List.mem_append_right _ (List.mem_append_left _ (List.mem_of_getElem? (i := 39) rfl))))) rfl
theorem xk_113 : (Cond.instanceMethod xy_Li_takeName) ∈ wT := wT_t (List.mem_append_right _ (List.mem_append_right _ (List.mem_append_right _ (List.mem_append_left _ (List.mem_of_getElem? (i := 40) rfl))))) rfl
theorem xk_114 : (Cond.selects "LayerDesk$Line" xy_Li_takeName xy_Li_takeName) ∈ wT := wT_t (List.mem_append_right _ (List.mem_append_right _ (List.mem_append_right _ (List.mem_append_left _ (List.mem_of_getElem? (i := 41) rfl))))) rfl
theorem xk_115 : (Cond.fieldLink "LayerDeskModel" 87 "LayerDeskModel" "fault" "I") ∈ wT := wT_t (List.mem_append_right _ (List.mem_append_right _ (List.mem_append_right _ (List.mem_append_left _ (List.mem_of_getElem? (i := 84) rfl))))) rfl
theorem xk_116 : (Cond.fieldLink "LayerDeskModel" 91 "LayerDeskModel" "written" "I") ∈ wT := wT_t (List.mem_append_right _ (List.mem_append_right _ (List.mem_append_right _ (List.mem_append_left _ (List.mem_of_getElem? (i := 87) rfl))))) rfl
theorem xk_117 : (Cond.fieldLink "LayerDeskModel" 94 "LayerDeskModel" "words" "I") ∈ wT := wT_t (List.mem_append_right _ (List.mem_append_right _ (List.mem_append_right _ (List.mem_append_left _ (List.mem_of_getElem? (i := 88) rfl))))) rfl
theorem xk_118 : (Cond.code xy_Mo_split xb_Mo_split 2 none) ∈ wT := wT_t (List.mem_append_right _ (List.mem_append_right _ (List.mem_append_right _ (List.mem_append_left _ (List.mem_of_getElem? (i := 193) rfl))))) rfl
theorem xk_119 : (Cond.methodLink "LayerDeskModel" 101 xy_Mo_split) ∈ wT := wT_t (List.mem_append_right _ (List.mem_append_right _ (List.mem_append_right _ (List.mem_append_left _ (List.mem_of_getElem? (i := 190) rfl))))) rfl
theorem xk_120 : (Cond.instanceMethod xy_Mo_split) ∈ wT := wT_t (List.mem_append_right _ (List.mem_append_right _ (List.mem_append_right _ (List.mem_append_left _ (List.mem_of_getElem? (i := 192) rfl))))) rfl
theorem xk_121 : (Cond.selects "LayerDeskModel" xy_Mo_split xy_Mo_split) ∈ wT := wT_s (q := (xy_Mo_split, 31)) (by decide +kernel) rfl
theorem xk_122 : (Cond.initialized "LayerDeskModel") ∈ wT := wT_t (List.mem_append_left _ (List.mem_of_getElem? (i := 5) rfl)) rfl
theorem xk_123 : (Cond.fieldLink "LayerDeskModel" 150 "LayerDeskModel" "layers" "I") ∈ wT := wT_t (List.mem_append_right _ (List.mem_append_right _ (List.mem_append_right _ (List.mem_append_left _ (List.mem_of_getElem? (i := 107) rfl))))) rfl
theorem xk_124 : (Cond.fieldLink "LayerDeskModel" 187 "LayerDeskModel" "why" "I") ∈ wT := wT_t (List.mem_append_right _ (List.mem_append_right _ (List.mem_append_right _ (List.mem_append_left _ (List.mem_of_getElem? (i := 85) rfl))))) rfl
theorem xk_125 : (Cond.code xy_Mo_fails xb_Mo_fails 2 (some .int)) ∈ wT := wT_t (List.mem_append_right _ (List.mem_append_right _ (List.mem_append_right _ (List.mem_append_right _ (List.mem_of_getElem? (i := 4) rfl))))) rfl
theorem xk_126 : (Cond.methodLink "LayerDeskModel" 129 xy_Mo_fails) ∈ wT := wT_t (List.mem_append_right _ (List.mem_append_right _ (List.mem_append_right _ (List.mem_append_right _ (List.mem_of_getElem? (i := 1) rfl))))) rfl
theorem xk_127 : (Cond.instanceMethod xy_Mo_fails) ∈ wT := wT_t (List.mem_append_right _ (List.mem_append_right _ (List.mem_append_right _ (List.mem_append_right _ (List.mem_of_getElem? (i := 3) rfl))))) rfl
theorem xk_128 : (Cond.selects "LayerDeskModel" xy_Mo_fails xy_Mo_fails) ∈ wT := wT_s (q := (xy_Mo_fails, 31)) (by decide +kernel) rfl
theorem xk_129 : (Cond.code xy_Mo_isOpen xb_Mo_isOpen 2 (some .boolean)) ∈ wT := wT_t (List.mem_append_right _ (List.mem_append_right _ (List.mem_append_right _ (List.mem_append_right _ (List.mem_of_getElem? (i := 12) rfl))))) rfl
theorem xk_130 : (Cond.methodLink "LayerDeskModel" 190 xy_Mo_isOpen) ∈ wT := wT_t (List.mem_append_right _ (List.mem_append_right _ (List.mem_append_right _ (List.mem_append_right _ (List.mem_of_getElem? (i := 9) rfl))))) rfl
theorem xk_131 : (Cond.instanceMethod xy_Mo_isOpen) ∈ wT := wT_t (List.mem_append_right _ (List.mem_append_right _ (List.mem_append_right _ (List.mem_append_right _ (List.mem_of_getElem? (i := 11) rfl))))) rfl
theorem xk_132 : (Cond.selects "LayerDeskModel" xy_Mo_isOpen xy_Mo_isOpen) ∈ wT := wT_s (q := (xy_Mo_isOpen, 31)) (by decide +kernel) rfl
theorem xk_133 : (Cond.fieldLink "LayerDeskModel" 140 "LayerDeskModel" "descriptors" "I") ∈ wT := wT_t (List.mem_append_right _ (List.mem_append_right _ (List.mem_append_right _ (List.mem_append_left _ (List.mem_of_getElem? (i := 91) rfl))))) rfl
theorem xk_134 : (Cond.code xy_Mo_moduleOf xb_Mo_moduleOf 3 (some .int)) ∈ wT := wT_t (List.mem_append_right _ (List.mem_append_right _ (List.mem_append_right _ (List.mem_append_right _ (List.mem_of_getElem? (i := 84) rfl))))) rfl
theorem xk_135 : (Cond.methodLink "LayerDeskModel" 199 xy_Mo_moduleOf) ∈ wT := wT_t (List.mem_append_right _ (List.mem_append_right _ (List.mem_append_right _ (List.mem_append_right _ (List.mem_of_getElem? (i := 81) rfl))))) rfl
theorem xk_136 : (Cond.instanceMethod xy_Mo_moduleOf) ∈ wT := wT_t (List.mem_append_right _ (List.mem_append_right _ (List.mem_append_right _ (List.mem_append_right _ (List.mem_of_getElem? (i := 83) rfl))))) rfl
theorem xk_137 : (Cond.selects "LayerDeskModel" xy_Mo_moduleOf xy_Mo_moduleOf) ∈ wT := wT_s (q := (xy_Mo_moduleOf, 31)) (by decide +kernel) rfl
theorem xk_138 : (Cond.code xy_Mo_oneName xb_Mo_oneName 1 (some .int)) ∈ wT := wT_t (List.mem_append_right _ (List.mem_append_right _ (List.mem_append_right _ (List.mem_append_right _ (List.mem_of_getElem? (i := 100) rfl))))) rfl
theorem xk_139 : (Cond.methodLink "LayerDeskModel" 205 xy_Mo_oneName) ∈ wT := wT_t (List.mem_append_right _ (List.mem_append_right _ (List.mem_append_right _ (List.mem_append_right _ (List.mem_of_getElem? (i := 97) rfl))))) rfl
theorem xk_140 : (Cond.instanceMethod xy_Mo_oneName) ∈ wT := wT_t (List.mem_append_right _ (List.mem_append_right _ (List.mem_append_right _ (List.mem_append_right _ (List.mem_of_getElem? (i := 99) rfl))))) rfl
theorem xk_141 : (Cond.selects "LayerDeskModel" xy_Mo_oneName xy_Mo_oneName) ∈ wT := wT_s (q := (xy_Mo_oneName, 31)) (by decide +kernel) rfl
theorem xk_142 : (Cond.code xy_De_line xb_De_line 2 (some .int)) ∈ wT := wT_t (List.mem_append_left _ (List.mem_of_getElem? (i := 186) rfl)) rfl
theorem xk_143 : (Cond.methodLink "LayerDeskLaw" 7 xy_De_line) ∈ wT := wT_t (List.mem_append_left _ (List.mem_of_getElem? (i := 183) rfl)) rfl
theorem xk_144 : (Cond.instanceMethod xy_De_line) ∈ wT := wT_t (List.mem_append_left _ (List.mem_of_getElem? (i := 184) rfl)) rfl
theorem xk_145 : (Cond.selects "LayerDesk" xy_De_line xy_De_line) ∈ wT := wT_t (List.mem_append_left _ (List.mem_of_getElem? (i := 185) rfl)) rfl
theorem xk_146 : (Cond.code xy_De_layer xb_De_layer 7 (some .int)) ∈ wT := wT_t (List.mem_append_right _ (List.mem_append_right _ (List.mem_append_left _ (List.mem_of_getElem? (i := 55) rfl)))) rfl
theorem xk_147 : (Cond.methodLink "LayerDeskLaw" 17 xy_De_layer) ∈ wT := wT_t (List.mem_append_right _ (List.mem_append_right _ (List.mem_append_left _ (List.mem_of_getElem? (i := 52) rfl)))) rfl
theorem xk_148 : (Cond.instanceMethod xy_De_layer) ∈ wT := wT_t (List.mem_append_right _ (List.mem_append_right _ (List.mem_append_left _ (List.mem_of_getElem? (i := 53) rfl)))) rfl
theorem xk_149 : (Cond.selects "LayerDesk" xy_De_layer xy_De_layer) ∈ wT := wT_t (List.mem_append_right _ (List.mem_append_right _ (List.mem_append_left _ (List.mem_of_getElem? (i := 54) rfl)))) rfl
theorem xk_150 : (Cond.classLink "LayerDeskLaw" 13 "java/lang/IllegalArgumentException") ∈ wT := wT_t (List.mem_append_left _ (List.mem_of_getElem? (i := 181) rfl)) rfl
theorem xk_151 : (Cond.code xy_De_load xb_De_load 6 (some .int)) ∈ wT := wT_t (List.mem_append_right _ (List.mem_append_right _ (List.mem_append_right _ (List.mem_append_left _ (List.mem_of_getElem? (i := 38) rfl))))) rfl
theorem xk_152 : (Cond.methodLink "LayerDeskLaw" 23 xy_De_load) ∈ wT := wT_t (List.mem_append_right _ (List.mem_append_right _ (List.mem_append_right _ (List.mem_append_left _ (List.mem_of_getElem? (i := 35) rfl))))) rfl
theorem xk_153 : (Cond.instanceMethod xy_De_load) ∈ wT := wT_t (List.mem_append_right _ (List.mem_append_right _ (List.mem_append_right _ (List.mem_append_left _ (List.mem_of_getElem? (i := 36) rfl))))) rfl
theorem xk_154 : (Cond.selects "LayerDesk" xy_De_load xy_De_load) ∈ wT := wT_t (List.mem_append_right _ (List.mem_append_right _ (List.mem_append_right _ (List.mem_append_left _ (List.mem_of_getElem? (i := 37) rfl))))) rfl
theorem xk_155 : (Cond.code xy_De_peek xb_De_peek 8 (some .boolean)) ∈ wT := wT_t (List.mem_append_right _ (List.mem_append_right _ (List.mem_append_right _ (List.mem_append_left _ (List.mem_of_getElem? (i := 59) rfl))))) rfl
theorem xk_156 : (Cond.methodLink "LayerDeskLaw" 27 xy_De_peek) ∈ wT := wT_t (List.mem_append_right _ (List.mem_append_right _ (List.mem_append_right _ (List.mem_append_left _ (List.mem_of_getElem? (i := 56) rfl))))) rfl
theorem xk_157 : (Cond.instanceMethod xy_De_peek) ∈ wT := wT_t (List.mem_append_right _ (List.mem_append_right _ (List.mem_append_right _ (List.mem_append_left _ (List.mem_of_getElem? (i := 57) rfl))))) rfl
theorem xk_158 : (Cond.selects "LayerDesk" xy_De_peek xy_De_peek) ∈ wT := wT_t (List.mem_append_right _ (List.mem_append_right _ (List.mem_append_right _ (List.mem_append_left _ (List.mem_of_getElem? (i := 58) rfl))))) rfl
theorem xk_159 : (Cond.code xy_De_provider xb_De_provider 6 (some .int)) ∈ wT := wT_t (List.mem_append_right _ (List.mem_append_right _ (List.mem_append_right _ (List.mem_append_left _ (List.mem_of_getElem? (i := 71) rfl))))) rfl
theorem xk_160 : (Cond.methodLink "LayerDeskLaw" 31 xy_De_provider) ∈ wT := wT_t (List.mem_append_right _ (List.mem_append_right _ (List.mem_append_right _ (List.mem_append_left _ (List.mem_of_getElem? (i := 68) rfl))))) rfl
theorem xk_161 : (Cond.instanceMethod xy_De_provider) ∈ wT := wT_t (List.mem_append_right _ (List.mem_append_right _ (List.mem_append_right _ (List.mem_append_left _ (List.mem_of_getElem? (i := 69) rfl))))) rfl
theorem xk_162 : (Cond.selects "LayerDesk" xy_De_provider xy_De_provider) ∈ wT := wT_t (List.mem_append_right _ (List.mem_append_right _ (List.mem_append_right _ (List.mem_append_left _ (List.mem_of_getElem? (i := 70) rfl))))) rfl
