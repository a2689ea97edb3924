def xR_La : String := "LayerDeskLaw"
abbrev xb_Li_init : ByteArray := prog_6_method_1_code
def xy_Li_init : MethodName := ⟨"LayerDesk$Line", "<init>", "()V"⟩
abbrev xb_Sh_init : ByteArray := prog_10_method_1_code
def xy_Sh_init : MethodName := ⟨"LayerDesk$Shelf", "<init>", "()V"⟩
abbrev xb_Ch_init : ByteArray := prog_2_method_1_code
def xy_Ch_init : MethodName := ⟨"LayerDesk$Chooser", "<init>", "(LLayerDesk$Shelf;)V"⟩
abbrev xb_De_init : ByteArray := prog_1_method_1_code
def xy_De_init : MethodName := ⟨"LayerDesk", "<init>", "()V"⟩
abbrev xb_Mo_init : ByteArray := prog_12_method_1_code
def xy_Mo_init : MethodName := ⟨"LayerDeskModel", "<init>", "()V"⟩
abbrev xb_Li_append : ByteArray := prog_6_method_2_code
def xy_Li_append : MethodName := ⟨"LayerDesk$Line", "append", "(C)Z"⟩
abbrev xb_De_write : ByteArray := prog_1_method_2_code
def xy_De_write : MethodName := ⟨"LayerDesk", "write", "(C)Z"⟩
abbrev xb_Li_take : ByteArray := prog_6_method_3_code
def xy_Li_take : MethodName := ⟨"LayerDesk$Line", "take", "()V"⟩
abbrev xb_Li_takeName : ByteArray := prog_6_method_4_code
def xy_Li_takeName : MethodName := ⟨"LayerDesk$Line", "takeName", "()I"⟩
abbrev xb_Sh_accept : ByteArray := prog_10_method_4_code
def xy_Sh_accept : MethodName := ⟨"LayerDesk$Shelf", "accept", "(LLayerDesk$Line;)I"⟩
abbrev xb_De_line : ByteArray := prog_1_method_3_code
def xy_De_line : MethodName := ⟨"LayerDesk", "line", "()I"⟩
abbrev xb_De_fault : ByteArray := prog_1_method_5_code
def xy_De_fault : MethodName := ⟨"LayerDesk", "fault", "()I"⟩
abbrev xb_De_openLayer : ByteArray := prog_1_method_14_code
def xy_De_openLayer : MethodName := ⟨"LayerDesk", "openLayer", "(I)LLayerDesk$Layer;"⟩
abbrev xb_De_close : ByteArray := prog_1_method_6_code
def xy_De_close : MethodName := ⟨"LayerDesk", "close", "(I)Z"⟩
abbrev xb_De_countOpen : ByteArray := prog_1_method_22_code
def xy_De_countOpen : MethodName := ⟨"LayerDesk", "countOpen", "()I"⟩
abbrev xb_De_count : ByteArray := prog_1_method_7_code
def xy_De_count : MethodName := ⟨"LayerDesk", "count", "(I)I"⟩
abbrev xb_De_modules : ByteArray := prog_1_method_8_code
def xy_De_modules : MethodName := ⟨"LayerDesk", "modules", "(I)I"⟩
abbrev xb_De_memberAt : ByteArray := prog_1_method_15_code
def xy_De_memberAt : MethodName := ⟨"LayerDesk", "memberAt", "(II)LLayerDesk$Member;"⟩
abbrev xb_De_memberOf : ByteArray := prog_1_method_16_code
def xy_De_memberOf : MethodName := ⟨"LayerDesk", "memberOf", "(II)LLayerDesk$Member;"⟩
abbrev xb_De_module : ByteArray := prog_1_method_9_code
def xy_De_module : MethodName := ⟨"LayerDesk", "module", "(II)I"⟩
abbrev xb_De_reads : ByteArray := prog_1_method_10_code
def xy_De_reads : MethodName := ⟨"LayerDesk", "reads", "(IIII)Z"⟩
abbrev xb_De_rootsAreNames : ByteArray := prog_1_method_17_code
def xy_De_rootsAreNames : MethodName := ⟨"LayerDesk", "rootsAreNames", "()Z"⟩
abbrev xb_De_layer : ByteArray := prog_1_method_4_code
def xy_De_layer : MethodName := ⟨"LayerDesk", "layer", "(IIZ)I"⟩
abbrev xb_De_load : ByteArray := prog_1_method_11_code
def xy_De_load : MethodName := ⟨"LayerDesk", "load", "(II)I"⟩
abbrev xb_De_peek : ByteArray := prog_1_method_12_code
def xy_De_peek : MethodName := ⟨"LayerDesk", "peek", "(IIII)Z"⟩
abbrev xb_De_provider : ByteArray := prog_1_method_13_code
def xy_De_provider : MethodName := ⟨"LayerDesk", "provider", "(II)I"⟩
abbrev xb_Mo_thrown : ByteArray := prog_12_method_2_code
def xy_Mo_thrown : MethodName := ⟨"LayerDeskModel", "thrown", "()I"⟩
abbrev xb_Mo_fails : ByteArray := prog_12_method_3_code
def xy_Mo_fails : MethodName := ⟨"LayerDeskModel", "fails", "(I)I"⟩
abbrev xb_Mo_write : ByteArray := prog_12_method_4_code
def xy_Mo_write : MethodName := ⟨"LayerDeskModel", "write", "(C)Z"⟩
abbrev xb_Mo_split : ByteArray := prog_12_method_5_code
def xy_Mo_split : MethodName := ⟨"LayerDeskModel", "split", "()V"⟩
abbrev xb_Mo_line : ByteArray := prog_12_method_10_code
def xy_Mo_line : MethodName := ⟨"LayerDeskModel", "line", "()I"⟩
abbrev xb_Mo_isOpen : ByteArray := prog_12_method_19_code
def xy_Mo_isOpen : MethodName := ⟨"LayerDeskModel", "isOpen", "(I)Z"⟩
abbrev xb_Mo_layer : ByteArray := prog_12_method_32_code
def xy_Mo_layer : MethodName := ⟨"LayerDeskModel", "layer", "(IIZ)I"⟩
abbrev xb_Mo_fault : ByteArray := prog_12_method_33_code
def xy_Mo_fault : MethodName := ⟨"LayerDeskModel", "fault", "()I"⟩
abbrev xb_Mo_close : ByteArray := prog_12_method_34_code
def xy_Mo_close : MethodName := ⟨"LayerDeskModel", "close", "(I)Z"⟩
abbrev xb_Mo_count : ByteArray := prog_12_method_35_code
def xy_Mo_count : MethodName := ⟨"LayerDeskModel", "count", "(I)I"⟩
abbrev xb_Mo_modules : ByteArray := prog_12_method_36_code
def xy_Mo_modules : MethodName := ⟨"LayerDeskModel", "modules", "(I)I"⟩
abbrev xb_Mo_moduleOf : ByteArray := prog_12_method_37_code
def xy_Mo_moduleOf : MethodName := ⟨"LayerDeskModel", "moduleOf", "(II)I"⟩
abbrev xb_Mo_module : ByteArray := prog_12_method_38_code
def xy_Mo_module : MethodName := ⟨"LayerDeskModel", "module", "(II)I"⟩
abbrev xb_Mo_reads : ByteArray := prog_12_method_40_code
def xy_Mo_reads : MethodName := ⟨"LayerDeskModel", "reads", "(IIII)Z"⟩
abbrev xb_Mo_oneName : ByteArray := prog_12_method_41_code
def xy_Mo_oneName : MethodName := ⟨"LayerDeskModel", "oneName", "()I"⟩
abbrev xb_Mo_load : ByteArray := prog_12_method_42_code
def xy_Mo_load : MethodName := ⟨"LayerDeskModel", "load", "(II)I"⟩
abbrev xb_Mo_peek : ByteArray := prog_12_method_43_code
def xy_Mo_peek : MethodName := ⟨"LayerDeskModel", "peek", "(IIII)Z"⟩
abbrev xb_Mo_provider : ByteArray := prog_12_method_44_code
def xy_Mo_provider : MethodName := ⟨"LayerDeskModel", "provider", "(II)I"⟩
abbrev xb_La_line : ByteArray := method_3_code
def xy_La_line : MethodName := ⟨"LayerDeskLaw", "line", "(LLayerDesk;[J)I"⟩
abbrev xb_La_layer : ByteArray := method_4_code
def xy_La_layer : MethodName := ⟨"LayerDeskLaw", "layer", "(LLayerDesk;IIZ[J)I"⟩
abbrev xb_La_load : ByteArray := method_5_code
def xy_La_load : MethodName := ⟨"LayerDeskLaw", "load", "(LLayerDesk;II[J)I"⟩
abbrev xb_La_peek : ByteArray := method_6_code
def xy_La_peek : MethodName := ⟨"LayerDeskLaw", "peek", "(LLayerDesk;IIII[J)I"⟩
abbrev xb_La_provider : ByteArray := method_7_code
def xy_La_provider : MethodName := ⟨"LayerDeskLaw", "provider", "(LLayerDesk;II[J)I"⟩
abbrev xb_La_law : ByteArray := code
def xy_La_law : MethodName := ⟨"LayerDeskLaw", "law", "([I)Z"⟩
theorem xd_Ch_init_0 : decode xb_Ch_init 0 = .ok (.aload_n 0, 1) := by decide +kernel
theorem xd_Ch_init_1 : decode xb_Ch_init 1 = .ok (.invokespecial 3, 3) := by decide +kernel
theorem xd_Ch_init_4 : decode xb_Ch_init 4 = .ok (.aload_n 0, 1) := by decide +kernel
theorem xd_Ch_init_5 : decode xb_Ch_init 5 = .ok (.bipush 12, 2) := by decide +kernel
theorem xd_Ch_init_7 : decode xb_Ch_init 7 = .ok (.anewarray 9, 3) := by decide +kernel
theorem xd_Ch_init_10 : decode xb_Ch_init 10 = .ok (.putfield 11, 3) := by decide +kernel
theorem xd_Ch_init_13 : decode xb_Ch_init 13 = .ok (.aload_n 0, 1) := by decide +kernel
theorem xd_Ch_init_14 : decode xb_Ch_init 14 = .ok (.iconst 0, 1) := by decide +kernel
theorem xd_Ch_init_15 : decode xb_Ch_init 15 = .ok (.putfield 17, 3) := by decide +kernel
theorem xd_Ch_init_18 : decode xb_Ch_init 18 = .ok (.aload_n 0, 1) := by decide +kernel
theorem xd_Ch_init_19 : decode xb_Ch_init 19 = .ok (.iconst 0, 1) := by decide +kernel
theorem xd_Ch_init_20 : decode xb_Ch_init 20 = .ok (.putfield 21, 3) := by decide +kernel
theorem xd_Ch_init_23 : decode xb_Ch_init 23 = .ok (.aload_n 0, 1) := by decide +kernel
theorem xd_Ch_init_24 : decode xb_Ch_init 24 = .ok (.aconst_null, 1) := by decide +kernel
theorem xd_Ch_init_25 : decode xb_Ch_init 25 = .ok (.putfield 24, 3) := by decide +kernel
theorem xd_Ch_init_28 : decode xb_Ch_init 28 = .ok (.aload_n 0, 1) := by decide +kernel
theorem xd_Ch_init_29 : decode xb_Ch_init 29 = .ok (.aload_n 1, 1) := by decide +kernel
theorem xd_Ch_init_30 : decode xb_Ch_init 30 = .ok (.putfield 28, 3) := by decide +kernel
theorem xd_Ch_init_33 : decode xb_Ch_init 33 = .ok (.return_, 1) := by decide +kernel
theorem xd_De_close_0 : decode xb_De_close 0 = .ok (.aload_n 0, 1) := by decide +kernel
theorem xd_De_close_1 : decode xb_De_close 1 = .ok (.iload_n 1, 1) := by decide +kernel
theorem xd_De_close_2 : decode xb_De_close 2 = .ok (.invokevirtual 68, 3) := by decide +kernel
theorem xd_De_close_5 : decode xb_De_close 5 = .ok (.astore_n 2, 1) := by decide +kernel
theorem xd_De_close_6 : decode xb_De_close 6 = .ok (.aload_n 2, 1) := by decide +kernel
theorem xd_De_close_7 : decode xb_De_close 7 = .ok (.ifnull 11, 3) := by decide +kernel
theorem xd_De_close_18 : decode xb_De_close 18 = .ok (.iconst 0, 1) := by decide +kernel
theorem xd_De_close_19 : decode xb_De_close 19 = .ok (.ireturn, 1) := by decide +kernel
theorem xd_De_count_0 : decode xb_De_count 0 = .ok (.iload_n 1, 1) := by decide +kernel
theorem xd_De_count_1 : decode xb_De_count 1 = .ok (.tableswitch 45 0 2 #[27, 35, 40], 27) := by decide +kernel
theorem xd_De_count_28 : decode xb_De_count 28 = .ok (.aload_n 0, 1) := by decide +kernel
theorem xd_De_count_29 : decode xb_De_count 29 = .ok (.getfield 19, 3) := by decide +kernel
theorem xd_De_count_32 : decode xb_De_count 32 = .ok (.getfield 121, 3) := by decide +kernel
theorem xd_De_count_35 : decode xb_De_count 35 = .ok (.ireturn, 1) := by decide +kernel
theorem xd_De_count_36 : decode xb_De_count 36 = .ok (.aload_n 0, 1) := by decide +kernel
theorem xd_De_count_37 : decode xb_De_count 37 = .ok (.getfield 38, 3) := by decide +kernel
theorem xd_De_count_40 : decode xb_De_count 40 = .ok (.ireturn, 1) := by decide +kernel
theorem xd_De_count_41 : decode xb_De_count 41 = .ok (.aload_n 0, 1) := by decide +kernel
theorem xd_De_count_42 : decode xb_De_count 42 = .ok (.invokevirtual 124, 3) := by decide +kernel
theorem xd_De_count_45 : decode xb_De_count 45 = .ok (.ireturn, 1) := by decide +kernel
theorem xd_De_count_46 : decode xb_De_count 46 = .ok (.iconst (-1), 1) := by decide +kernel
theorem xd_De_count_47 : decode xb_De_count 47 = .ok (.ireturn, 1) := by decide +kernel
theorem xd_De_countOpen_0 : decode xb_De_countOpen 0 = .ok (.iconst 0, 1) := by decide +kernel
theorem xd_De_countOpen_1 : decode xb_De_countOpen 1 = .ok (.istore_n 1, 1) := by decide +kernel
theorem xd_De_countOpen_2 : decode xb_De_countOpen 2 = .ok (.iconst 0, 1) := by decide +kernel
theorem xd_De_countOpen_3 : decode xb_De_countOpen 3 = .ok (.istore_n 2, 1) := by decide +kernel
theorem xd_De_countOpen_4 : decode xb_De_countOpen 4 = .ok (.iload_n 2, 1) := by decide +kernel
theorem xd_De_countOpen_5 : decode xb_De_countOpen 5 = .ok (.aload_n 0, 1) := by decide +kernel
theorem xd_De_countOpen_6 : decode xb_De_countOpen 6 = .ok (.getfield 38, 3) := by decide +kernel
theorem xd_De_countOpen_9 : decode xb_De_countOpen 9 = .ok (.if_icmp .ge 20, 3) := by decide +kernel
theorem xd_De_countOpen_29 : decode xb_De_countOpen 29 = .ok (.iload_n 1, 1) := by decide +kernel
theorem xd_De_countOpen_30 : decode xb_De_countOpen 30 = .ok (.ireturn, 1) := by decide +kernel
theorem xd_De_fault_0 : decode xb_De_fault 0 = .ok (.aload_n 0, 1) := by decide +kernel
theorem xd_De_fault_1 : decode xb_De_fault 1 = .ok (.getfield 42, 3) := by decide +kernel
theorem xd_De_fault_4 : decode xb_De_fault 4 = .ok (.ireturn, 1) := by decide +kernel
theorem xd_De_init_0 : decode xb_De_init 0 = .ok (.aload_n 0, 1) := by decide +kernel
theorem xd_De_init_1 : decode xb_De_init 1 = .ok (.invokespecial 1, 3) := by decide +kernel
theorem xd_De_init_4 : decode xb_De_init 4 = .ok (.aload_n 0, 1) := by decide +kernel
theorem xd_De_init_5 : decode xb_De_init 5 = .ok (.new 7, 3) := by decide +kernel
theorem xd_De_init_8 : decode xb_De_init 8 = .ok (.dup, 1) := by decide +kernel
theorem xd_De_init_9 : decode xb_De_init 9 = .ok (.invokespecial 9, 3) := by decide +kernel
theorem xd_De_init_12 : decode xb_De_init 12 = .ok (.putfield 10, 3) := by decide +kernel
theorem xd_De_init_15 : decode xb_De_init 15 = .ok (.aload_n 0, 1) := by decide +kernel
theorem xd_De_init_16 : decode xb_De_init 16 = .ok (.new 16, 3) := by decide +kernel
theorem xd_De_init_19 : decode xb_De_init 19 = .ok (.dup, 1) := by decide +kernel
theorem xd_De_init_20 : decode xb_De_init 20 = .ok (.invokespecial 18, 3) := by decide +kernel
theorem xd_De_init_23 : decode xb_De_init 23 = .ok (.putfield 19, 3) := by decide +kernel
theorem xd_De_init_26 : decode xb_De_init 26 = .ok (.aload_n 0, 1) := by decide +kernel
theorem xd_De_init_27 : decode xb_De_init 27 = .ok (.new 23, 3) := by decide +kernel
theorem xd_De_init_30 : decode xb_De_init 30 = .ok (.dup, 1) := by decide +kernel
theorem xd_De_init_31 : decode xb_De_init 31 = .ok (.aload_n 0, 1) := by decide +kernel
theorem xd_De_init_32 : decode xb_De_init 32 = .ok (.getfield 19, 3) := by decide +kernel
theorem xd_De_init_35 : decode xb_De_init 35 = .ok (.invokespecial 25, 3) := by decide +kernel
theorem xd_De_init_38 : decode xb_De_init 38 = .ok (.putfield 28, 3) := by decide +kernel
theorem xd_De_init_41 : decode xb_De_init 41 = .ok (.aload_n 0, 1) := by decide +kernel
theorem xd_De_init_42 : decode xb_De_init 42 = .ok (.iconst 5, 1) := by decide +kernel
theorem xd_De_init_43 : decode xb_De_init 43 = .ok (.anewarray 32, 3) := by decide +kernel
theorem xd_De_init_46 : decode xb_De_init 46 = .ok (.putfield 34, 3) := by decide +kernel
theorem xd_De_init_49 : decode xb_De_init 49 = .ok (.aload_n 0, 1) := by decide +kernel
theorem xd_De_init_50 : decode xb_De_init 50 = .ok (.iconst 0, 1) := by decide +kernel
theorem xd_De_init_51 : decode xb_De_init 51 = .ok (.putfield 38, 3) := by decide +kernel
theorem xd_De_init_54 : decode xb_De_init 54 = .ok (.aload_n 0, 1) := by decide +kernel
theorem xd_De_init_55 : decode xb_De_init 55 = .ok (.iconst 0, 1) := by decide +kernel
theorem xd_De_init_56 : decode xb_De_init 56 = .ok (.putfield 42, 3) := by decide +kernel
theorem xd_De_init_59 : decode xb_De_init 59 = .ok (.return_, 1) := by decide +kernel
theorem xd_De_layer_0 : decode xb_De_layer 0 = .ok (.aload_n 0, 1) := by decide +kernel
theorem xd_De_layer_1 : decode xb_De_layer 1 = .ok (.iconst 0, 1) := by decide +kernel
theorem xd_De_layer_2 : decode xb_De_layer 2 = .ok (.putfield 42, 3) := by decide +kernel
theorem xd_De_layer_5 : decode xb_De_layer 5 = .ok (.aload_n 0, 1) := by decide +kernel
theorem xd_De_layer_6 : decode xb_De_layer 6 = .ok (.getfield 10, 3) := by decide +kernel
theorem xd_De_layer_9 : decode xb_De_layer 9 = .ok (.invokevirtual 49, 3) := by decide +kernel
theorem xd_De_layer_12 : decode xb_De_layer 12 = .ok (.aload_n 0, 1) := by decide +kernel
theorem xd_De_layer_13 : decode xb_De_layer 13 = .ok (.iload_n 2, 1) := by decide +kernel
theorem xd_De_layer_14 : decode xb_De_layer 14 = .ok (.invokevirtual 68, 3) := by decide +kernel
theorem xd_De_layer_17 : decode xb_De_layer 17 = .ok (.astore 4, 2) := by decide +kernel
theorem xd_De_layer_19 : decode xb_De_layer 19 = .ok (.iload_n 2, 1) := by decide +kernel
theorem xd_De_layer_20 : decode xb_De_layer 20 = .ok (.iconst (-1), 1) := by decide +kernel
theorem xd_De_layer_21 : decode xb_De_layer 21 = .ok (.if_icmp .eq 8, 3) := by decide +kernel
theorem xd_De_layer_24 : decode xb_De_layer 24 = .ok (.aload 4, 2) := by decide +kernel
theorem xd_De_layer_26 : decode xb_De_layer 26 = .ok (.ifnull 7, 3) := by decide +kernel
theorem xd_De_layer_29 : decode xb_De_layer 29 = .ok (.iconst 1, 1) := by decide +kernel
theorem xd_De_layer_30 : decode xb_De_layer 30 = .ok (.goto 4, 3) := by decide +kernel
theorem xd_De_layer_33 : decode xb_De_layer 33 = .ok (.iconst 0, 1) := by decide +kernel
theorem xd_De_layer_34 : decode xb_De_layer 34 = .ok (.istore 5, 2) := by decide +kernel
theorem xd_De_layer_36 : decode xb_De_layer 36 = .ok (.aload_n 0, 1) := by decide +kernel
theorem xd_De_layer_37 : decode xb_De_layer 37 = .ok (.invokevirtual 72, 3) := by decide +kernel
theorem xd_De_layer_40 : decode xb_De_layer 40 = .ok (.ifCond .eq 15, 3) := by decide +kernel
theorem xd_De_layer_55 : decode xb_De_layer 55 = .ok (.new 56, 3) := by decide +kernel
theorem xd_De_layer_58 : decode xb_De_layer 58 = .ok (.dup, 1) := by decide +kernel
theorem xd_De_layer_59 : decode xb_De_layer 59 = .ok (.ldc 80, 2) := by decide +kernel
theorem xd_De_layer_61 : decode xb_De_layer 61 = .ok (.invokespecial 60, 3) := by decide +kernel
theorem xd_De_layer_64 : decode xb_De_layer 64 = .ok (.athrow, 1) := by decide +kernel
theorem xd_De_line_0 : decode xb_De_line 0 = .ok (.aload_n 0, 1) := by decide +kernel
theorem xd_De_line_1 : decode xb_De_line 1 = .ok (.getfield 10, 3) := by decide +kernel
theorem xd_De_line_4 : decode xb_De_line 4 = .ok (.invokevirtual 49, 3) := by decide +kernel
theorem xd_De_line_7 : decode xb_De_line 7 = .ok (.aload_n 0, 1) := by decide +kernel
theorem xd_De_line_8 : decode xb_De_line 8 = .ok (.getfield 19, 3) := by decide +kernel
theorem xd_De_line_11 : decode xb_De_line 11 = .ok (.aload_n 0, 1) := by decide +kernel
theorem xd_De_line_12 : decode xb_De_line 12 = .ok (.getfield 10, 3) := by decide +kernel
theorem xd_De_line_15 : decode xb_De_line 15 = .ok (.invokevirtual 52, 3) := by decide +kernel
theorem xd_De_line_18 : decode xb_De_line 18 = .ok (.istore_n 1, 1) := by decide +kernel
theorem xd_De_line_19 : decode xb_De_line 19 = .ok (.iload_n 1, 1) := by decide +kernel
theorem xd_De_line_20 : decode xb_De_line 20 = .ok (.iconst (-1), 1) := by decide +kernel
theorem xd_De_line_21 : decode xb_De_line 21 = .ok (.if_icmp .ne 13, 3) := by decide +kernel
theorem xd_De_line_34 : decode xb_De_line 34 = .ok (.iload_n 1, 1) := by decide +kernel
theorem xd_De_line_35 : decode xb_De_line 35 = .ok (.bipush (-2), 2) := by decide +kernel
theorem xd_De_line_37 : decode xb_De_line 37 = .ok (.if_icmp .ne 13, 3) := by decide +kernel
theorem xd_De_line_50 : decode xb_De_line 50 = .ok (.iload_n 1, 1) := by decide +kernel
theorem xd_De_line_51 : decode xb_De_line 51 = .ok (.ireturn, 1) := by decide +kernel
theorem xd_De_load_0 : decode xb_De_load 0 = .ok (.aload_n 0, 1) := by decide +kernel
theorem xd_De_load_1 : decode xb_De_load 1 = .ok (.getfield 10, 3) := by decide +kernel
theorem xd_De_load_4 : decode xb_De_load 4 = .ok (.invokevirtual 158, 3) := by decide +kernel
theorem xd_De_load_7 : decode xb_De_load 7 = .ok (.istore_n 3, 1) := by decide +kernel
theorem xd_De_load_8 : decode xb_De_load 8 = .ok (.aload_n 0, 1) := by decide +kernel
theorem xd_De_load_9 : decode xb_De_load 9 = .ok (.iload_n 1, 1) := by decide +kernel
theorem xd_De_load_10 : decode xb_De_load 10 = .ok (.iload_n 2, 1) := by decide +kernel
theorem xd_De_load_11 : decode xb_De_load 11 = .ok (.invokevirtual 132, 3) := by decide +kernel
theorem xd_De_load_14 : decode xb_De_load 14 = .ok (.astore 4, 2) := by decide +kernel
theorem xd_De_load_16 : decode xb_De_load 16 = .ok (.aload 4, 2) := by decide +kernel
theorem xd_De_load_18 : decode xb_De_load 18 = .ok (.ifnull 7, 3) := by decide +kernel
theorem xd_De_load_25 : decode xb_De_load 25 = .ok (.new 56, 3) := by decide +kernel
theorem xd_De_load_28 : decode xb_De_load 28 = .ok (.dup, 1) := by decide +kernel
theorem xd_De_load_29 : decode xb_De_load 29 = .ok (.ldc 161, 2) := by decide +kernel
theorem xd_De_load_31 : decode xb_De_load 31 = .ok (.invokespecial 60, 3) := by decide +kernel
theorem xd_De_load_34 : decode xb_De_load 34 = .ok (.athrow, 1) := by decide +kernel
theorem xd_De_memberAt_0 : decode xb_De_memberAt 0 = .ok (.aload_n 0, 1) := by decide +kernel
theorem xd_De_memberAt_1 : decode xb_De_memberAt 1 = .ok (.iload_n 1, 1) := by decide +kernel
theorem xd_De_memberAt_2 : decode xb_De_memberAt 2 = .ok (.invokevirtual 68, 3) := by decide +kernel
theorem xd_De_memberAt_5 : decode xb_De_memberAt 5 = .ok (.astore_n 3, 1) := by decide +kernel
theorem xd_De_memberAt_6 : decode xb_De_memberAt 6 = .ok (.aload_n 3, 1) := by decide +kernel
theorem xd_De_memberAt_7 : decode xb_De_memberAt 7 = .ok (.ifnull 16, 3) := by decide +kernel
theorem xd_De_memberAt_23 : decode xb_De_memberAt 23 = .ok (.aconst_null, 1) := by decide +kernel
theorem xd_De_memberAt_24 : decode xb_De_memberAt 24 = .ok (.goto 9, 3) := by decide +kernel
theorem xd_De_memberAt_33 : decode xb_De_memberAt 33 = .ok (.areturn, 1) := by decide +kernel
theorem xd_De_memberOf_0 : decode xb_De_memberOf 0 = .ok (.aload_n 0, 1) := by decide +kernel
theorem xd_De_memberOf_1 : decode xb_De_memberOf 1 = .ok (.iload_n 1, 1) := by decide +kernel
theorem xd_De_memberOf_2 : decode xb_De_memberOf 2 = .ok (.invokevirtual 68, 3) := by decide +kernel
theorem xd_De_memberOf_5 : decode xb_De_memberOf 5 = .ok (.astore_n 3, 1) := by decide +kernel
theorem xd_De_memberOf_6 : decode xb_De_memberOf 6 = .ok (.aload_n 3, 1) := by decide +kernel
theorem xd_De_memberOf_7 : decode xb_De_memberOf 7 = .ok (.ifnonnull 7, 3) := by decide +kernel
theorem xd_De_memberOf_10 : decode xb_De_memberOf 10 = .ok (.aconst_null, 1) := by decide +kernel
theorem xd_De_memberOf_11 : decode xb_De_memberOf 11 = .ok (.goto 8, 3) := by decide +kernel
theorem xd_De_memberOf_19 : decode xb_De_memberOf 19 = .ok (.areturn, 1) := by decide +kernel
theorem xd_De_module_0 : decode xb_De_module 0 = .ok (.aload_n 0, 1) := by decide +kernel
theorem xd_De_module_1 : decode xb_De_module 1 = .ok (.iload_n 1, 1) := by decide +kernel
theorem xd_De_module_2 : decode xb_De_module 2 = .ok (.iload_n 2, 1) := by decide +kernel
theorem xd_De_module_3 : decode xb_De_module 3 = .ok (.invokevirtual 132, 3) := by decide +kernel
theorem xd_De_module_6 : decode xb_De_module 6 = .ok (.astore_n 3, 1) := by decide +kernel
theorem xd_De_module_7 : decode xb_De_module 7 = .ok (.aload_n 3, 1) := by decide +kernel
theorem xd_De_module_8 : decode xb_De_module 8 = .ok (.ifnonnull 7, 3) := by decide +kernel
theorem xd_De_module_11 : decode xb_De_module 11 = .ok (.iconst (-1), 1) := by decide +kernel
theorem xd_De_module_12 : decode xb_De_module 12 = .ok (.goto 10, 3) := by decide +kernel
theorem xd_De_module_22 : decode xb_De_module 22 = .ok (.ireturn, 1) := by decide +kernel
theorem xd_De_modules_0 : decode xb_De_modules 0 = .ok (.aload_n 0, 1) := by decide +kernel
theorem xd_De_modules_1 : decode xb_De_modules 1 = .ok (.iload_n 1, 1) := by decide +kernel
theorem xd_De_modules_2 : decode xb_De_modules 2 = .ok (.invokevirtual 68, 3) := by decide +kernel
theorem xd_De_modules_5 : decode xb_De_modules 5 = .ok (.astore_n 2, 1) := by decide +kernel
theorem xd_De_modules_6 : decode xb_De_modules 6 = .ok (.aload_n 2, 1) := by decide +kernel
theorem xd_De_modules_7 : decode xb_De_modules 7 = .ok (.ifnonnull 7, 3) := by decide +kernel
theorem xd_De_modules_10 : decode xb_De_modules 10 = .ok (.iconst (-1), 1) := by decide +kernel
theorem xd_De_modules_11 : decode xb_De_modules 11 = .ok (.goto 8, 3) := by decide +kernel
theorem xd_De_modules_19 : decode xb_De_modules 19 = .ok (.ireturn, 1) := by decide +kernel
theorem xd_De_openLayer_0 : decode xb_De_openLayer 0 = .ok (.iload_n 1, 1) := by decide +kernel
theorem xd_De_openLayer_1 : decode xb_De_openLayer 1 = .ok (.ifCond .lt 11, 3) := by decide +kernel
theorem xd_De_openLayer_4 : decode xb_De_openLayer 4 = .ok (.iload_n 1, 1) := by decide +kernel
theorem xd_De_openLayer_5 : decode xb_De_openLayer 5 = .ok (.aload_n 0, 1) := by decide +kernel
theorem xd_De_openLayer_6 : decode xb_De_openLayer 6 = .ok (.getfield 38, 3) := by decide +kernel
theorem xd_De_openLayer_9 : decode xb_De_openLayer 9 = .ok (.if_icmp .lt 5, 3) := by decide +kernel
theorem xd_De_openLayer_12 : decode xb_De_openLayer 12 = .ok (.aconst_null, 1) := by decide +kernel
theorem xd_De_openLayer_13 : decode xb_De_openLayer 13 = .ok (.areturn, 1) := by decide +kernel
theorem xd_De_peek_0 : decode xb_De_peek 0 = .ok (.aload_n 0, 1) := by decide +kernel
theorem xd_De_peek_1 : decode xb_De_peek 1 = .ok (.getfield 10, 3) := by decide +kernel
theorem xd_De_peek_4 : decode xb_De_peek 4 = .ok (.invokevirtual 158, 3) := by decide +kernel
theorem xd_De_peek_7 : decode xb_De_peek 7 = .ok (.istore 5, 2) := by decide +kernel
theorem xd_De_peek_9 : decode xb_De_peek 9 = .ok (.aload_n 0, 1) := by decide +kernel
theorem xd_De_peek_10 : decode xb_De_peek 10 = .ok (.iload_n 1, 1) := by decide +kernel
theorem xd_De_peek_11 : decode xb_De_peek 11 = .ok (.iload_n 2, 1) := by decide +kernel
theorem xd_De_peek_12 : decode xb_De_peek 12 = .ok (.invokevirtual 132, 3) := by decide +kernel
theorem xd_De_peek_15 : decode xb_De_peek 15 = .ok (.astore 6, 2) := by decide +kernel
theorem xd_De_peek_17 : decode xb_De_peek 17 = .ok (.aload_n 0, 1) := by decide +kernel
theorem xd_De_peek_18 : decode xb_De_peek 18 = .ok (.iload_n 3, 1) := by decide +kernel
theorem xd_De_peek_19 : decode xb_De_peek 19 = .ok (.iload 4, 2) := by decide +kernel
theorem xd_De_peek_21 : decode xb_De_peek 21 = .ok (.invokevirtual 145, 3) := by decide +kernel
theorem xd_De_peek_24 : decode xb_De_peek 24 = .ok (.astore 7, 2) := by decide +kernel
theorem xd_De_peek_26 : decode xb_De_peek 26 = .ok (.aload 6, 2) := by decide +kernel
theorem xd_De_peek_28 : decode xb_De_peek 28 = .ok (.ifnull 13, 3) := by decide +kernel
theorem xd_De_peek_41 : decode xb_De_peek 41 = .ok (.new 56, 3) := by decide +kernel
theorem xd_De_peek_44 : decode xb_De_peek 44 = .ok (.dup, 1) := by decide +kernel
theorem xd_De_peek_45 : decode xb_De_peek 45 = .ok (.ldc 161, 2) := by decide +kernel
theorem xd_De_peek_47 : decode xb_De_peek 47 = .ok (.invokespecial 60, 3) := by decide +kernel
theorem xd_De_peek_50 : decode xb_De_peek 50 = .ok (.athrow, 1) := by decide +kernel
theorem xd_De_provider_0 : decode xb_De_provider 0 = .ok (.aload_n 0, 1) := by decide +kernel
theorem xd_De_provider_1 : decode xb_De_provider 1 = .ok (.getfield 10, 3) := by decide +kernel
theorem xd_De_provider_4 : decode xb_De_provider 4 = .ok (.invokevirtual 158, 3) := by decide +kernel
theorem xd_De_provider_7 : decode xb_De_provider 7 = .ok (.istore_n 3, 1) := by decide +kernel
theorem xd_De_provider_8 : decode xb_De_provider 8 = .ok (.aload_n 0, 1) := by decide +kernel
theorem xd_De_provider_9 : decode xb_De_provider 9 = .ok (.iload_n 1, 1) := by decide +kernel
theorem xd_De_provider_10 : decode xb_De_provider 10 = .ok (.invokevirtual 68, 3) := by decide +kernel
theorem xd_De_provider_13 : decode xb_De_provider 13 = .ok (.astore 4, 2) := by decide +kernel
theorem xd_De_provider_15 : decode xb_De_provider 15 = .ok (.aload 4, 2) := by decide +kernel
theorem xd_De_provider_17 : decode xb_De_provider 17 = .ok (.ifnull 7, 3) := by decide +kernel
theorem xd_De_provider_24 : decode xb_De_provider 24 = .ok (.new 56, 3) := by decide +kernel
theorem xd_De_provider_27 : decode xb_De_provider 27 = .ok (.dup, 1) := by decide +kernel
theorem xd_De_provider_28 : decode xb_De_provider 28 = .ok (.ldc 190, 2) := by decide +kernel
theorem xd_De_provider_30 : decode xb_De_provider 30 = .ok (.invokespecial 60, 3) := by decide +kernel
theorem xd_De_provider_33 : decode xb_De_provider 33 = .ok (.athrow, 1) := by decide +kernel
theorem xd_De_reads_0 : decode xb_De_reads 0 = .ok (.aload_n 0, 1) := by decide +kernel
theorem xd_De_reads_1 : decode xb_De_reads 1 = .ok (.iload_n 1, 1) := by decide +kernel
theorem xd_De_reads_2 : decode xb_De_reads 2 = .ok (.iload_n 2, 1) := by decide +kernel
theorem xd_De_reads_3 : decode xb_De_reads 3 = .ok (.invokevirtual 132, 3) := by decide +kernel
theorem xd_De_reads_6 : decode xb_De_reads 6 = .ok (.astore 5, 2) := by decide +kernel
theorem xd_De_reads_8 : decode xb_De_reads 8 = .ok (.aload_n 0, 1) := by decide +kernel
theorem xd_De_reads_9 : decode xb_De_reads 9 = .ok (.iload_n 3, 1) := by decide +kernel
theorem xd_De_reads_10 : decode xb_De_reads 10 = .ok (.iload 4, 2) := by decide +kernel
theorem xd_De_reads_12 : decode xb_De_reads 12 = .ok (.invokevirtual 145, 3) := by decide +kernel
theorem xd_De_reads_15 : decode xb_De_reads 15 = .ok (.astore 6, 2) := by decide +kernel
theorem xd_De_reads_17 : decode xb_De_reads 17 = .ok (.aload 5, 2) := by decide +kernel
theorem xd_De_reads_19 : decode xb_De_reads 19 = .ok (.ifnull 25, 3) := by decide +kernel
theorem xd_De_reads_44 : decode xb_De_reads 44 = .ok (.iconst 0, 1) := by decide +kernel
theorem xd_De_reads_45 : decode xb_De_reads 45 = .ok (.ireturn, 1) := by decide +kernel
theorem xd_De_rootsAreNames_0 : decode xb_De_rootsAreNames 0 = .ok (.aload_n 0, 1) := by decide +kernel
theorem xd_De_rootsAreNames_1 : decode xb_De_rootsAreNames 1 = .ok (.getfield 10, 3) := by decide +kernel
theorem xd_De_rootsAreNames_4 : decode xb_De_rootsAreNames 4 = .ok (.getfield 198, 3) := by decide +kernel
theorem xd_De_rootsAreNames_7 : decode xb_De_rootsAreNames 7 = .ok (.iconst 1, 1) := by decide +kernel
theorem xd_De_rootsAreNames_8 : decode xb_De_rootsAreNames 8 = .ok (.if_icmp .lt 14, 3) := by decide +kernel
theorem xd_De_rootsAreNames_22 : decode xb_De_rootsAreNames 22 = .ok (.iconst 0, 1) := by decide +kernel
theorem xd_De_rootsAreNames_23 : decode xb_De_rootsAreNames 23 = .ok (.ireturn, 1) := by decide +kernel
theorem xd_De_write_0 : decode xb_De_write 0 = .ok (.aload_n 0, 1) := by decide +kernel
theorem xd_De_write_1 : decode xb_De_write 1 = .ok (.getfield 10, 3) := by decide +kernel
theorem xd_De_write_4 : decode xb_De_write 4 = .ok (.iload_n 1, 1) := by decide +kernel
theorem xd_De_write_5 : decode xb_De_write 5 = .ok (.invokevirtual 45, 3) := by decide +kernel
theorem xd_De_write_8 : decode xb_De_write 8 = .ok (.ireturn, 1) := by decide +kernel
theorem xd_La_law_0 : decode xb_La_law 0 = .ok (.new 8, 3) := by decide +kernel
theorem xd_La_law_3 : decode xb_La_law 3 = .ok (.dup, 1) := by decide +kernel
theorem xd_La_law_4 : decode xb_La_law 4 = .ok (.invokespecial 34, 3) := by decide +kernel
theorem xd_La_law_7 : decode xb_La_law 7 = .ok (.astore_n 1, 1) := by decide +kernel
theorem xd_La_law_8 : decode xb_La_law 8 = .ok (.new 35, 3) := by decide +kernel
theorem xd_La_law_11 : decode xb_La_law 11 = .ok (.dup, 1) := by decide +kernel
theorem xd_La_law_12 : decode xb_La_law 12 = .ok (.invokespecial 37, 3) := by decide +kernel
theorem xd_La_law_15 : decode xb_La_law 15 = .ok (.astore_n 2, 1) := by decide +kernel
theorem xd_La_law_16 : decode xb_La_law 16 = .ok (.iconst 1, 1) := by decide +kernel
theorem xd_La_law_17 : decode xb_La_law 17 = .ok (.newarray .long, 2) := by decide +kernel
theorem xd_La_law_19 : decode xb_La_law 19 = .ok (.astore_n 3, 1) := by decide +kernel
theorem xd_La_law_20 : decode xb_La_law 20 = .ok (.iconst 0, 1) := by decide +kernel
theorem xd_La_law_21 : decode xb_La_law 21 = .ok (.istore 4, 2) := by decide +kernel
theorem xd_La_law_23 : decode xb_La_law 23 = .ok (.iload 4, 2) := by decide +kernel
theorem xd_La_law_25 : decode xb_La_law 25 = .ok (.aload_n 0, 1) := by decide +kernel
theorem xd_La_law_26 : decode xb_La_law 26 = .ok (.arraylength, 1) := by decide +kernel
theorem xd_La_law_27 : decode xb_La_law 27 = .ok (.iconst 5, 1) := by decide +kernel
theorem xd_La_law_28 : decode xb_La_law 28 = .ok (.isub, 1) := by decide +kernel
theorem xd_La_law_29 : decode xb_La_law 29 = .ok (.if_icmp .gt 665, 3) := by decide +kernel
theorem xd_La_law_32 : decode xb_La_law 32 = .ok (.aload_n 0, 1) := by decide +kernel
theorem xd_La_law_33 : decode xb_La_law 33 = .ok (.iload 4, 2) := by decide +kernel
theorem xd_La_law_35 : decode xb_La_law 35 = .ok (.iaload, 1) := by decide +kernel
theorem xd_La_law_36 : decode xb_La_law 36 = .ok (.bipush 15, 2) := by decide +kernel
theorem xd_La_law_38 : decode xb_La_law 38 = .ok (.iand, 1) := by decide +kernel
theorem xd_La_law_39 : decode xb_La_law 39 = .ok (.tableswitch 649 0 11 #[61, 88, 132, 228, 241, 266, 291, 316, 353, 414, 482, 581], 61) := by decide +kernel
theorem xd_La_law_100 : decode xb_La_law 100 = .ok (.aload_n 1, 1) := by decide +kernel
theorem xd_La_law_101 : decode xb_La_law 101 = .ok (.aload_n 0, 1) := by decide +kernel
theorem xd_La_law_102 : decode xb_La_law 102 = .ok (.iload 4, 2) := by decide +kernel
theorem xd_La_law_104 : decode xb_La_law 104 = .ok (.iconst 1, 1) := by decide +kernel
theorem xd_La_law_105 : decode xb_La_law 105 = .ok (.iadd, 1) := by decide +kernel
theorem xd_La_law_106 : decode xb_La_law 106 = .ok (.iaload, 1) := by decide +kernel
theorem xd_La_law_107 : decode xb_La_law 107 = .ok (.i2c, 1) := by decide +kernel
theorem xd_La_law_108 : decode xb_La_law 108 = .ok (.invokevirtual 38, 3) := by decide +kernel
theorem xd_La_law_111 : decode xb_La_law 111 = .ok (.aload_n 2, 1) := by decide +kernel
theorem xd_La_law_112 : decode xb_La_law 112 = .ok (.aload_n 0, 1) := by decide +kernel
theorem xd_La_law_113 : decode xb_La_law 113 = .ok (.iload 4, 2) := by decide +kernel
theorem xd_La_law_115 : decode xb_La_law 115 = .ok (.iconst 1, 1) := by decide +kernel
theorem xd_La_law_116 : decode xb_La_law 116 = .ok (.iadd, 1) := by decide +kernel
theorem xd_La_law_117 : decode xb_La_law 117 = .ok (.iaload, 1) := by decide +kernel
theorem xd_La_law_118 : decode xb_La_law 118 = .ok (.i2c, 1) := by decide +kernel
theorem xd_La_law_119 : decode xb_La_law 119 = .ok (.invokevirtual 42, 3) := by decide +kernel
theorem xd_La_law_122 : decode xb_La_law 122 = .ok (.if_icmp .eq 566, 3) := by decide +kernel
theorem xd_La_law_127 : decode xb_La_law 127 = .ok (.aload_n 1, 1) := by decide +kernel
theorem xd_La_law_128 : decode xb_La_law 128 = .ok (.aload_n 3, 1) := by decide +kernel
theorem xd_La_law_129 : decode xb_La_law 129 = .ok (.invokestatic 43, 3) := by decide +kernel
theorem xd_La_law_132 : decode xb_La_law 132 = .ok (.istore 5, 2) := by decide +kernel
theorem xd_La_law_134 : decode xb_La_law 134 = .ok (.aload_n 2, 1) := by decide +kernel
theorem xd_La_law_135 : decode xb_La_law 135 = .ok (.invokevirtual 48, 3) := by decide +kernel
theorem xd_La_law_138 : decode xb_La_law 138 = .ok (.istore 6, 2) := by decide +kernel
theorem xd_La_law_140 : decode xb_La_law 140 = .ok (.aload_n 2, 1) := by decide +kernel
theorem xd_La_law_141 : decode xb_La_law 141 = .ok (.invokevirtual 49, 3) := by decide +kernel
theorem xd_La_law_144 : decode xb_La_law 144 = .ok (.iload 5, 2) := by decide +kernel
theorem xd_La_law_146 : decode xb_La_law 146 = .ok (.if_icmp .eq 5, 3) := by decide +kernel
theorem xd_La_law_151 : decode xb_La_law 151 = .ok (.iload 5, 2) := by decide +kernel
theorem xd_La_law_153 : decode xb_La_law 153 = .ok (.ifCond .ne 15, 3) := by decide +kernel
theorem xd_La_law_156 : decode xb_La_law 156 = .ok (.aload_n 3, 1) := by decide +kernel
theorem xd_La_law_157 : decode xb_La_law 157 = .ok (.iconst 0, 1) := by decide +kernel
theorem xd_La_law_158 : decode xb_La_law 158 = .ok (.laload, 1) := by decide +kernel
theorem xd_La_law_159 : decode xb_La_law 159 = .ok (.iload 6, 2) := by decide +kernel
theorem xd_La_law_161 : decode xb_La_law 161 = .ok (.i2l, 1) := by decide +kernel
theorem xd_La_law_162 : decode xb_La_law 162 = .ok (.lcmp, 1) := by decide +kernel
theorem xd_La_law_163 : decode xb_La_law 163 = .ok (.ifCond .eq 5, 3) := by decide +kernel
theorem xd_La_law_168 : decode xb_La_law 168 = .ok (.goto 520, 3) := by decide +kernel
theorem xd_La_law_171 : decode xb_La_law 171 = .ok (.aload_n 1, 1) := by decide +kernel
theorem xd_La_law_172 : decode xb_La_law 172 = .ok (.aload_n 0, 1) := by decide +kernel
theorem xd_La_law_173 : decode xb_La_law 173 = .ok (.iload 4, 2) := by decide +kernel
theorem xd_La_law_175 : decode xb_La_law 175 = .ok (.iconst 1, 1) := by decide +kernel
theorem xd_La_law_176 : decode xb_La_law 176 = .ok (.iadd, 1) := by decide +kernel
theorem xd_La_law_177 : decode xb_La_law 177 = .ok (.iaload, 1) := by decide +kernel
theorem xd_La_law_178 : decode xb_La_law 178 = .ok (.aload_n 0, 1) := by decide +kernel
theorem xd_La_law_179 : decode xb_La_law 179 = .ok (.iload 4, 2) := by decide +kernel
theorem xd_La_law_181 : decode xb_La_law 181 = .ok (.iconst 2, 1) := by decide +kernel
theorem xd_La_law_182 : decode xb_La_law 182 = .ok (.iadd, 1) := by decide +kernel
theorem xd_La_law_183 : decode xb_La_law 183 = .ok (.iaload, 1) := by decide +kernel
theorem xd_La_law_184 : decode xb_La_law 184 = .ok (.aload_n 0, 1) := by decide +kernel
theorem xd_La_law_185 : decode xb_La_law 185 = .ok (.iload 4, 2) := by decide +kernel
theorem xd_La_law_187 : decode xb_La_law 187 = .ok (.iconst 3, 1) := by decide +kernel
theorem xd_La_law_188 : decode xb_La_law 188 = .ok (.iadd, 1) := by decide +kernel
theorem xd_La_law_189 : decode xb_La_law 189 = .ok (.iaload, 1) := by decide +kernel
theorem xd_La_law_190 : decode xb_La_law 190 = .ok (.ifCond .eq 7, 3) := by decide +kernel
theorem xd_La_law_193 : decode xb_La_law 193 = .ok (.iconst 1, 1) := by decide +kernel
theorem xd_La_law_194 : decode xb_La_law 194 = .ok (.goto 4, 3) := by decide +kernel
theorem xd_La_law_197 : decode xb_La_law 197 = .ok (.iconst 0, 1) := by decide +kernel
theorem xd_La_law_198 : decode xb_La_law 198 = .ok (.aload_n 3, 1) := by decide +kernel
theorem xd_La_law_199 : decode xb_La_law 199 = .ok (.invokestatic 52, 3) := by decide +kernel
theorem xd_La_law_202 : decode xb_La_law 202 = .ok (.istore 5, 2) := by decide +kernel
theorem xd_La_law_204 : decode xb_La_law 204 = .ok (.aload_n 2, 1) := by decide +kernel
theorem xd_La_law_205 : decode xb_La_law 205 = .ok (.aload_n 0, 1) := by decide +kernel
theorem xd_La_law_206 : decode xb_La_law 206 = .ok (.iload 4, 2) := by decide +kernel
theorem xd_La_law_208 : decode xb_La_law 208 = .ok (.iconst 1, 1) := by decide +kernel
theorem xd_La_law_209 : decode xb_La_law 209 = .ok (.iadd, 1) := by decide +kernel
theorem xd_La_law_210 : decode xb_La_law 210 = .ok (.iaload, 1) := by decide +kernel
theorem xd_La_law_211 : decode xb_La_law 211 = .ok (.aload_n 0, 1) := by decide +kernel
theorem xd_La_law_212 : decode xb_La_law 212 = .ok (.iload 4, 2) := by decide +kernel
theorem xd_La_law_214 : decode xb_La_law 214 = .ok (.iconst 2, 1) := by decide +kernel
theorem xd_La_law_215 : decode xb_La_law 215 = .ok (.iadd, 1) := by decide +kernel
theorem xd_La_law_216 : decode xb_La_law 216 = .ok (.iaload, 1) := by decide +kernel
theorem xd_La_law_217 : decode xb_La_law 217 = .ok (.aload_n 0, 1) := by decide +kernel
theorem xd_La_law_218 : decode xb_La_law 218 = .ok (.iload 4, 2) := by decide +kernel
theorem xd_La_law_220 : decode xb_La_law 220 = .ok (.iconst 3, 1) := by decide +kernel
theorem xd_La_law_221 : decode xb_La_law 221 = .ok (.iadd, 1) := by decide +kernel
theorem xd_La_law_222 : decode xb_La_law 222 = .ok (.iaload, 1) := by decide +kernel
theorem xd_La_law_223 : decode xb_La_law 223 = .ok (.ifCond .eq 7, 3) := by decide +kernel
theorem xd_La_law_226 : decode xb_La_law 226 = .ok (.iconst 1, 1) := by decide +kernel
theorem xd_La_law_227 : decode xb_La_law 227 = .ok (.goto 4, 3) := by decide +kernel
theorem xd_La_law_230 : decode xb_La_law 230 = .ok (.iconst 0, 1) := by decide +kernel
theorem xd_La_law_231 : decode xb_La_law 231 = .ok (.invokevirtual 55, 3) := by decide +kernel
theorem xd_La_law_234 : decode xb_La_law 234 = .ok (.istore 6, 2) := by decide +kernel
theorem xd_La_law_236 : decode xb_La_law 236 = .ok (.aload_n 2, 1) := by decide +kernel
theorem xd_La_law_237 : decode xb_La_law 237 = .ok (.invokevirtual 49, 3) := by decide +kernel
theorem xd_La_law_240 : decode xb_La_law 240 = .ok (.iload 5, 2) := by decide +kernel
theorem xd_La_law_242 : decode xb_La_law 242 = .ok (.if_icmp .eq 5, 3) := by decide +kernel
theorem xd_La_law_247 : decode xb_La_law 247 = .ok (.iload 5, 2) := by decide +kernel
theorem xd_La_law_249 : decode xb_La_law 249 = .ok (.ifCond .ne 15, 3) := by decide +kernel
theorem xd_La_law_264 : decode xb_La_law 264 = .ok (.goto 424, 3) := by decide +kernel
theorem xd_La_law_267 : decode xb_La_law 267 = .ok (.aload_n 1, 1) := by decide +kernel
theorem xd_La_law_268 : decode xb_La_law 268 = .ok (.invokevirtual 56, 3) := by decide +kernel
theorem xd_La_law_271 : decode xb_La_law 271 = .ok (.aload_n 2, 1) := by decide +kernel
theorem xd_La_law_272 : decode xb_La_law 272 = .ok (.invokevirtual 59, 3) := by decide +kernel
theorem xd_La_law_275 : decode xb_La_law 275 = .ok (.if_icmp .eq 413, 3) := by decide +kernel
theorem xd_La_law_280 : decode xb_La_law 280 = .ok (.aload_n 1, 1) := by decide +kernel
theorem xd_La_law_281 : decode xb_La_law 281 = .ok (.aload_n 0, 1) := by decide +kernel
theorem xd_La_law_282 : decode xb_La_law 282 = .ok (.iload 4, 2) := by decide +kernel
theorem xd_La_law_284 : decode xb_La_law 284 = .ok (.iconst 1, 1) := by decide +kernel
theorem xd_La_law_285 : decode xb_La_law 285 = .ok (.iadd, 1) := by decide +kernel
theorem xd_La_law_286 : decode xb_La_law 286 = .ok (.iaload, 1) := by decide +kernel
theorem xd_La_law_287 : decode xb_La_law 287 = .ok (.invokevirtual 60, 3) := by decide +kernel
theorem xd_La_law_290 : decode xb_La_law 290 = .ok (.aload_n 2, 1) := by decide +kernel
theorem xd_La_law_291 : decode xb_La_law 291 = .ok (.aload_n 0, 1) := by decide +kernel
theorem xd_La_law_292 : decode xb_La_law 292 = .ok (.iload 4, 2) := by decide +kernel
theorem xd_La_law_294 : decode xb_La_law 294 = .ok (.iconst 1, 1) := by decide +kernel
theorem xd_La_law_295 : decode xb_La_law 295 = .ok (.iadd, 1) := by decide +kernel
theorem xd_La_law_296 : decode xb_La_law 296 = .ok (.iaload, 1) := by decide +kernel
theorem xd_La_law_297 : decode xb_La_law 297 = .ok (.invokevirtual 64, 3) := by decide +kernel
theorem xd_La_law_300 : decode xb_La_law 300 = .ok (.if_icmp .eq 388, 3) := by decide +kernel
theorem xd_La_law_305 : decode xb_La_law 305 = .ok (.aload_n 1, 1) := by decide +kernel
theorem xd_La_law_306 : decode xb_La_law 306 = .ok (.aload_n 0, 1) := by decide +kernel
theorem xd_La_law_307 : decode xb_La_law 307 = .ok (.iload 4, 2) := by decide +kernel
theorem xd_La_law_309 : decode xb_La_law 309 = .ok (.iconst 1, 1) := by decide +kernel
theorem xd_La_law_310 : decode xb_La_law 310 = .ok (.iadd, 1) := by decide +kernel
theorem xd_La_law_311 : decode xb_La_law 311 = .ok (.iaload, 1) := by decide +kernel
theorem xd_La_law_312 : decode xb_La_law 312 = .ok (.invokevirtual 65, 3) := by decide +kernel
theorem xd_La_law_315 : decode xb_La_law 315 = .ok (.aload_n 2, 1) := by decide +kernel
theorem xd_La_law_316 : decode xb_La_law 316 = .ok (.aload_n 0, 1) := by decide +kernel
theorem xd_La_law_317 : decode xb_La_law 317 = .ok (.iload 4, 2) := by decide +kernel
theorem xd_La_law_319 : decode xb_La_law 319 = .ok (.iconst 1, 1) := by decide +kernel
theorem xd_La_law_320 : decode xb_La_law 320 = .ok (.iadd, 1) := by decide +kernel
theorem xd_La_law_321 : decode xb_La_law 321 = .ok (.iaload, 1) := by decide +kernel
theorem xd_La_law_322 : decode xb_La_law 322 = .ok (.invokevirtual 69, 3) := by decide +kernel
theorem xd_La_law_325 : decode xb_La_law 325 = .ok (.if_icmp .eq 363, 3) := by decide +kernel
theorem xd_La_law_330 : decode xb_La_law 330 = .ok (.aload_n 1, 1) := by decide +kernel
theorem xd_La_law_331 : decode xb_La_law 331 = .ok (.aload_n 0, 1) := by decide +kernel
theorem xd_La_law_332 : decode xb_La_law 332 = .ok (.iload 4, 2) := by decide +kernel
theorem xd_La_law_334 : decode xb_La_law 334 = .ok (.iconst 1, 1) := by decide +kernel
theorem xd_La_law_335 : decode xb_La_law 335 = .ok (.iadd, 1) := by decide +kernel
theorem xd_La_law_336 : decode xb_La_law 336 = .ok (.iaload, 1) := by decide +kernel
theorem xd_La_law_337 : decode xb_La_law 337 = .ok (.invokevirtual 70, 3) := by decide +kernel
theorem xd_La_law_340 : decode xb_La_law 340 = .ok (.aload_n 2, 1) := by decide +kernel
theorem xd_La_law_341 : decode xb_La_law 341 = .ok (.aload_n 0, 1) := by decide +kernel
theorem xd_La_law_342 : decode xb_La_law 342 = .ok (.iload 4, 2) := by decide +kernel
theorem xd_La_law_344 : decode xb_La_law 344 = .ok (.iconst 1, 1) := by decide +kernel
theorem xd_La_law_345 : decode xb_La_law 345 = .ok (.iadd, 1) := by decide +kernel
theorem xd_La_law_346 : decode xb_La_law 346 = .ok (.iaload, 1) := by decide +kernel
theorem xd_La_law_347 : decode xb_La_law 347 = .ok (.invokevirtual 73, 3) := by decide +kernel
theorem xd_La_law_350 : decode xb_La_law 350 = .ok (.if_icmp .eq 338, 3) := by decide +kernel
theorem xd_La_law_355 : decode xb_La_law 355 = .ok (.aload_n 1, 1) := by decide +kernel
theorem xd_La_law_356 : decode xb_La_law 356 = .ok (.aload_n 0, 1) := by decide +kernel
theorem xd_La_law_357 : decode xb_La_law 357 = .ok (.iload 4, 2) := by decide +kernel
theorem xd_La_law_359 : decode xb_La_law 359 = .ok (.iconst 1, 1) := by decide +kernel
theorem xd_La_law_360 : decode xb_La_law 360 = .ok (.iadd, 1) := by decide +kernel
theorem xd_La_law_361 : decode xb_La_law 361 = .ok (.iaload, 1) := by decide +kernel
theorem xd_La_law_362 : decode xb_La_law 362 = .ok (.aload_n 0, 1) := by decide +kernel
theorem xd_La_law_363 : decode xb_La_law 363 = .ok (.iload 4, 2) := by decide +kernel
theorem xd_La_law_365 : decode xb_La_law 365 = .ok (.iconst 2, 1) := by decide +kernel
theorem xd_La_law_366 : decode xb_La_law 366 = .ok (.iadd, 1) := by decide +kernel
theorem xd_La_law_367 : decode xb_La_law 367 = .ok (.iaload, 1) := by decide +kernel
theorem xd_La_law_368 : decode xb_La_law 368 = .ok (.invokevirtual 74, 3) := by decide +kernel
theorem xd_La_law_371 : decode xb_La_law 371 = .ok (.aload_n 2, 1) := by decide +kernel
theorem xd_La_law_372 : decode xb_La_law 372 = .ok (.aload_n 0, 1) := by decide +kernel
theorem xd_La_law_373 : decode xb_La_law 373 = .ok (.iload 4, 2) := by decide +kernel
theorem xd_La_law_375 : decode xb_La_law 375 = .ok (.iconst 1, 1) := by decide +kernel
theorem xd_La_law_376 : decode xb_La_law 376 = .ok (.iadd, 1) := by decide +kernel
theorem xd_La_law_377 : decode xb_La_law 377 = .ok (.iaload, 1) := by decide +kernel
theorem xd_La_law_378 : decode xb_La_law 378 = .ok (.aload_n 0, 1) := by decide +kernel
theorem xd_La_law_379 : decode xb_La_law 379 = .ok (.iload 4, 2) := by decide +kernel
theorem xd_La_law_381 : decode xb_La_law 381 = .ok (.iconst 2, 1) := by decide +kernel
theorem xd_La_law_382 : decode xb_La_law 382 = .ok (.iadd, 1) := by decide +kernel
theorem xd_La_law_383 : decode xb_La_law 383 = .ok (.iaload, 1) := by decide +kernel
theorem xd_La_law_384 : decode xb_La_law 384 = .ok (.invokevirtual 77, 3) := by decide +kernel
theorem xd_La_law_387 : decode xb_La_law 387 = .ok (.if_icmp .eq 301, 3) := by decide +kernel
theorem xd_La_law_392 : decode xb_La_law 392 = .ok (.aload_n 1, 1) := by decide +kernel
theorem xd_La_law_393 : decode xb_La_law 393 = .ok (.aload_n 0, 1) := by decide +kernel
theorem xd_La_law_394 : decode xb_La_law 394 = .ok (.iload 4, 2) := by decide +kernel
theorem xd_La_law_396 : decode xb_La_law 396 = .ok (.iconst 1, 1) := by decide +kernel
theorem xd_La_law_397 : decode xb_La_law 397 = .ok (.iadd, 1) := by decide +kernel
theorem xd_La_law_398 : decode xb_La_law 398 = .ok (.iaload, 1) := by decide +kernel
theorem xd_La_law_399 : decode xb_La_law 399 = .ok (.aload_n 0, 1) := by decide +kernel
theorem xd_La_law_400 : decode xb_La_law 400 = .ok (.iload 4, 2) := by decide +kernel
theorem xd_La_law_402 : decode xb_La_law 402 = .ok (.iconst 2, 1) := by decide +kernel
theorem xd_La_law_403 : decode xb_La_law 403 = .ok (.iadd, 1) := by decide +kernel
theorem xd_La_law_404 : decode xb_La_law 404 = .ok (.iaload, 1) := by decide +kernel
theorem xd_La_law_405 : decode xb_La_law 405 = .ok (.aload_n 0, 1) := by decide +kernel
theorem xd_La_law_406 : decode xb_La_law 406 = .ok (.iload 4, 2) := by decide +kernel
theorem xd_La_law_408 : decode xb_La_law 408 = .ok (.iconst 3, 1) := by decide +kernel
theorem xd_La_law_409 : decode xb_La_law 409 = .ok (.iadd, 1) := by decide +kernel
theorem xd_La_law_410 : decode xb_La_law 410 = .ok (.iaload, 1) := by decide +kernel
theorem xd_La_law_411 : decode xb_La_law 411 = .ok (.aload_n 0, 1) := by decide +kernel
theorem xd_La_law_412 : decode xb_La_law 412 = .ok (.iload 4, 2) := by decide +kernel
theorem xd_La_law_414 : decode xb_La_law 414 = .ok (.iconst 4, 1) := by decide +kernel
theorem xd_La_law_415 : decode xb_La_law 415 = .ok (.iadd, 1) := by decide +kernel
theorem xd_La_law_416 : decode xb_La_law 416 = .ok (.iaload, 1) := by decide +kernel
theorem xd_La_law_417 : decode xb_La_law 417 = .ok (.invokevirtual 78, 3) := by decide +kernel
theorem xd_La_law_420 : decode xb_La_law 420 = .ok (.aload_n 2, 1) := by decide +kernel
theorem xd_La_law_421 : decode xb_La_law 421 = .ok (.aload_n 0, 1) := by decide +kernel
theorem xd_La_law_422 : decode xb_La_law 422 = .ok (.iload 4, 2) := by decide +kernel
theorem xd_La_law_424 : decode xb_La_law 424 = .ok (.iconst 1, 1) := by decide +kernel
theorem xd_La_law_425 : decode xb_La_law 425 = .ok (.iadd, 1) := by decide +kernel
theorem xd_La_law_426 : decode xb_La_law 426 = .ok (.iaload, 1) := by decide +kernel
theorem xd_La_law_427 : decode xb_La_law 427 = .ok (.aload_n 0, 1) := by decide +kernel
theorem xd_La_law_428 : decode xb_La_law 428 = .ok (.iload 4, 2) := by decide +kernel
theorem xd_La_law_430 : decode xb_La_law 430 = .ok (.iconst 2, 1) := by decide +kernel
theorem xd_La_law_431 : decode xb_La_law 431 = .ok (.iadd, 1) := by decide +kernel
theorem xd_La_law_432 : decode xb_La_law 432 = .ok (.iaload, 1) := by decide +kernel
theorem xd_La_law_433 : decode xb_La_law 433 = .ok (.aload_n 0, 1) := by decide +kernel
theorem xd_La_law_434 : decode xb_La_law 434 = .ok (.iload 4, 2) := by decide +kernel
theorem xd_La_law_436 : decode xb_La_law 436 = .ok (.iconst 3, 1) := by decide +kernel
theorem xd_La_law_437 : decode xb_La_law 437 = .ok (.iadd, 1) := by decide +kernel
theorem xd_La_law_438 : decode xb_La_law 438 = .ok (.iaload, 1) := by decide +kernel
theorem xd_La_law_439 : decode xb_La_law 439 = .ok (.aload_n 0, 1) := by decide +kernel
theorem xd_La_law_440 : decode xb_La_law 440 = .ok (.iload 4, 2) := by decide +kernel
theorem xd_La_law_442 : decode xb_La_law 442 = .ok (.iconst 4, 1) := by decide +kernel
theorem xd_La_law_443 : decode xb_La_law 443 = .ok (.iadd, 1) := by decide +kernel
theorem xd_La_law_444 : decode xb_La_law 444 = .ok (.iaload, 1) := by decide +kernel
theorem xd_La_law_445 : decode xb_La_law 445 = .ok (.invokevirtual 81, 3) := by decide +kernel
theorem xd_La_law_448 : decode xb_La_law 448 = .ok (.if_icmp .eq 240, 3) := by decide +kernel
theorem xd_La_law_453 : decode xb_La_law 453 = .ok (.aload_n 1, 1) := by decide +kernel
theorem xd_La_law_454 : decode xb_La_law 454 = .ok (.aload_n 0, 1) := by decide +kernel
theorem xd_La_law_455 : decode xb_La_law 455 = .ok (.iload 4, 2) := by decide +kernel
theorem xd_La_law_457 : decode xb_La_law 457 = .ok (.iconst 1, 1) := by decide +kernel
theorem xd_La_law_458 : decode xb_La_law 458 = .ok (.iadd, 1) := by decide +kernel
theorem xd_La_law_459 : decode xb_La_law 459 = .ok (.iaload, 1) := by decide +kernel
theorem xd_La_law_460 : decode xb_La_law 460 = .ok (.aload_n 0, 1) := by decide +kernel
theorem xd_La_law_461 : decode xb_La_law 461 = .ok (.iload 4, 2) := by decide +kernel
theorem xd_La_law_463 : decode xb_La_law 463 = .ok (.iconst 2, 1) := by decide +kernel
theorem xd_La_law_464 : decode xb_La_law 464 = .ok (.iadd, 1) := by decide +kernel
theorem xd_La_law_465 : decode xb_La_law 465 = .ok (.iaload, 1) := by decide +kernel
theorem xd_La_law_466 : decode xb_La_law 466 = .ok (.aload_n 3, 1) := by decide +kernel
theorem xd_La_law_467 : decode xb_La_law 467 = .ok (.invokestatic 82, 3) := by decide +kernel
theorem xd_La_law_470 : decode xb_La_law 470 = .ok (.istore 5, 2) := by decide +kernel
theorem xd_La_law_472 : decode xb_La_law 472 = .ok (.aload_n 2, 1) := by decide +kernel
theorem xd_La_law_473 : decode xb_La_law 473 = .ok (.aload_n 0, 1) := by decide +kernel
theorem xd_La_law_474 : decode xb_La_law 474 = .ok (.iload 4, 2) := by decide +kernel
theorem xd_La_law_476 : decode xb_La_law 476 = .ok (.iconst 1, 1) := by decide +kernel
theorem xd_La_law_477 : decode xb_La_law 477 = .ok (.iadd, 1) := by decide +kernel
theorem xd_La_law_478 : decode xb_La_law 478 = .ok (.iaload, 1) := by decide +kernel
theorem xd_La_law_479 : decode xb_La_law 479 = .ok (.aload_n 0, 1) := by decide +kernel
theorem xd_La_law_480 : decode xb_La_law 480 = .ok (.iload 4, 2) := by decide +kernel
theorem xd_La_law_482 : decode xb_La_law 482 = .ok (.iconst 2, 1) := by decide +kernel
theorem xd_La_law_483 : decode xb_La_law 483 = .ok (.iadd, 1) := by decide +kernel
theorem xd_La_law_484 : decode xb_La_law 484 = .ok (.iaload, 1) := by decide +kernel
theorem xd_La_law_485 : decode xb_La_law 485 = .ok (.invokevirtual 85, 3) := by decide +kernel
theorem xd_La_law_488 : decode xb_La_law 488 = .ok (.istore 6, 2) := by decide +kernel
theorem xd_La_law_490 : decode xb_La_law 490 = .ok (.aload_n 2, 1) := by decide +kernel
theorem xd_La_law_491 : decode xb_La_law 491 = .ok (.invokevirtual 49, 3) := by decide +kernel
theorem xd_La_law_494 : decode xb_La_law 494 = .ok (.iload 5, 2) := by decide +kernel
theorem xd_La_law_496 : decode xb_La_law 496 = .ok (.if_icmp .eq 5, 3) := by decide +kernel
theorem xd_La_law_501 : decode xb_La_law 501 = .ok (.iload 5, 2) := by decide +kernel
theorem xd_La_law_503 : decode xb_La_law 503 = .ok (.ifCond .ne 15, 3) := by decide +kernel
theorem xd_La_law_518 : decode xb_La_law 518 = .ok (.goto 170, 3) := by decide +kernel
theorem xd_La_law_521 : decode xb_La_law 521 = .ok (.aload_n 1, 1) := by decide +kernel
theorem xd_La_law_522 : decode xb_La_law 522 = .ok (.aload_n 0, 1) := by decide +kernel
theorem xd_La_law_523 : decode xb_La_law 523 = .ok (.iload 4, 2) := by decide +kernel
theorem xd_La_law_525 : decode xb_La_law 525 = .ok (.iconst 1, 1) := by decide +kernel
theorem xd_La_law_526 : decode xb_La_law 526 = .ok (.iadd, 1) := by decide +kernel
theorem xd_La_law_527 : decode xb_La_law 527 = .ok (.iaload, 1) := by decide +kernel
theorem xd_La_law_528 : decode xb_La_law 528 = .ok (.aload_n 0, 1) := by decide +kernel
theorem xd_La_law_529 : decode xb_La_law 529 = .ok (.iload 4, 2) := by decide +kernel
theorem xd_La_law_531 : decode xb_La_law 531 = .ok (.iconst 2, 1) := by decide +kernel
theorem xd_La_law_532 : decode xb_La_law 532 = .ok (.iadd, 1) := by decide +kernel
theorem xd_La_law_533 : decode xb_La_law 533 = .ok (.iaload, 1) := by decide +kernel
theorem xd_La_law_534 : decode xb_La_law 534 = .ok (.aload_n 0, 1) := by decide +kernel
theorem xd_La_law_535 : decode xb_La_law 535 = .ok (.iload 4, 2) := by decide +kernel
theorem xd_La_law_537 : decode xb_La_law 537 = .ok (.iconst 3, 1) := by decide +kernel
theorem xd_La_law_538 : decode xb_La_law 538 = .ok (.iadd, 1) := by decide +kernel
theorem xd_La_law_539 : decode xb_La_law 539 = .ok (.iaload, 1) := by decide +kernel
theorem xd_La_law_540 : decode xb_La_law 540 = .ok (.aload_n 0, 1) := by decide +kernel
theorem xd_La_law_541 : decode xb_La_law 541 = .ok (.iload 4, 2) := by decide +kernel
theorem xd_La_law_543 : decode xb_La_law 543 = .ok (.iconst 4, 1) := by decide +kernel
theorem xd_La_law_544 : decode xb_La_law 544 = .ok (.iadd, 1) := by decide +kernel
theorem xd_La_law_545 : decode xb_La_law 545 = .ok (.iaload, 1) := by decide +kernel
theorem xd_La_law_546 : decode xb_La_law 546 = .ok (.aload_n 3, 1) := by decide +kernel
theorem xd_La_law_547 : decode xb_La_law 547 = .ok (.invokestatic 86, 3) := by decide +kernel
theorem xd_La_law_550 : decode xb_La_law 550 = .ok (.istore 5, 2) := by decide +kernel
theorem xd_La_law_552 : decode xb_La_law 552 = .ok (.aload_n 2, 1) := by decide +kernel
theorem xd_La_law_553 : decode xb_La_law 553 = .ok (.aload_n 0, 1) := by decide +kernel
theorem xd_La_law_554 : decode xb_La_law 554 = .ok (.iload 4, 2) := by decide +kernel
theorem xd_La_law_556 : decode xb_La_law 556 = .ok (.iconst 1, 1) := by decide +kernel
theorem xd_La_law_557 : decode xb_La_law 557 = .ok (.iadd, 1) := by decide +kernel
theorem xd_La_law_558 : decode xb_La_law 558 = .ok (.iaload, 1) := by decide +kernel
theorem xd_La_law_559 : decode xb_La_law 559 = .ok (.aload_n 0, 1) := by decide +kernel
theorem xd_La_law_560 : decode xb_La_law 560 = .ok (.iload 4, 2) := by decide +kernel
theorem xd_La_law_562 : decode xb_La_law 562 = .ok (.iconst 2, 1) := by decide +kernel
theorem xd_La_law_563 : decode xb_La_law 563 = .ok (.iadd, 1) := by decide +kernel
theorem xd_La_law_564 : decode xb_La_law 564 = .ok (.iaload, 1) := by decide +kernel
theorem xd_La_law_565 : decode xb_La_law 565 = .ok (.aload_n 0, 1) := by decide +kernel
theorem xd_La_law_566 : decode xb_La_law 566 = .ok (.iload 4, 2) := by decide +kernel
theorem xd_La_law_568 : decode xb_La_law 568 = .ok (.iconst 3, 1) := by decide +kernel
theorem xd_La_law_569 : decode xb_La_law 569 = .ok (.iadd, 1) := by decide +kernel
theorem xd_La_law_570 : decode xb_La_law 570 = .ok (.iaload, 1) := by decide +kernel
theorem xd_La_law_571 : decode xb_La_law 571 = .ok (.aload_n 0, 1) := by decide +kernel
theorem xd_La_law_572 : decode xb_La_law 572 = .ok (.iload 4, 2) := by decide +kernel
theorem xd_La_law_574 : decode xb_La_law 574 = .ok (.iconst 4, 1) := by decide +kernel
theorem xd_La_law_575 : decode xb_La_law 575 = .ok (.iadd, 1) := by decide +kernel
theorem xd_La_law_576 : decode xb_La_law 576 = .ok (.iaload, 1) := by decide +kernel
theorem xd_La_law_577 : decode xb_La_law 577 = .ok (.invokevirtual 89, 3) := by decide +kernel
theorem xd_La_law_580 : decode xb_La_law 580 = .ok (.istore 6, 2) := by decide +kernel
theorem xd_La_law_582 : decode xb_La_law 582 = .ok (.aload_n 2, 1) := by decide +kernel
theorem xd_La_law_583 : decode xb_La_law 583 = .ok (.invokevirtual 49, 3) := by decide +kernel
theorem xd_La_law_586 : decode xb_La_law 586 = .ok (.iload 5, 2) := by decide +kernel
theorem xd_La_law_588 : decode xb_La_law 588 = .ok (.if_icmp .eq 5, 3) := by decide +kernel
theorem xd_La_law_593 : decode xb_La_law 593 = .ok (.iload 5, 2) := by decide +kernel
theorem xd_La_law_595 : decode xb_La_law 595 = .ok (.ifCond .ne 22, 3) := by decide +kernel
theorem xd_La_law_617 : decode xb_La_law 617 = .ok (.goto 71, 3) := by decide +kernel
theorem xd_La_law_620 : decode xb_La_law 620 = .ok (.aload_n 1, 1) := by decide +kernel
theorem xd_La_law_621 : decode xb_La_law 621 = .ok (.aload_n 0, 1) := by decide +kernel
theorem xd_La_law_622 : decode xb_La_law 622 = .ok (.iload 4, 2) := by decide +kernel
theorem xd_La_law_624 : decode xb_La_law 624 = .ok (.iconst 1, 1) := by decide +kernel
theorem xd_La_law_625 : decode xb_La_law 625 = .ok (.iadd, 1) := by decide +kernel
theorem xd_La_law_626 : decode xb_La_law 626 = .ok (.iaload, 1) := by decide +kernel
theorem xd_La_law_627 : decode xb_La_law 627 = .ok (.aload_n 0, 1) := by decide +kernel
theorem xd_La_law_628 : decode xb_La_law 628 = .ok (.iload 4, 2) := by decide +kernel
theorem xd_La_law_630 : decode xb_La_law 630 = .ok (.iconst 2, 1) := by decide +kernel
theorem xd_La_law_631 : decode xb_La_law 631 = .ok (.iadd, 1) := by decide +kernel
theorem xd_La_law_632 : decode xb_La_law 632 = .ok (.iaload, 1) := by decide +kernel
theorem xd_La_law_633 : decode xb_La_law 633 = .ok (.aload_n 3, 1) := by decide +kernel
theorem xd_La_law_634 : decode xb_La_law 634 = .ok (.invokestatic 90, 3) := by decide +kernel
theorem xd_La_law_637 : decode xb_La_law 637 = .ok (.istore 5, 2) := by decide +kernel
theorem xd_La_law_639 : decode xb_La_law 639 = .ok (.aload_n 2, 1) := by decide +kernel
theorem xd_La_law_640 : decode xb_La_law 640 = .ok (.aload_n 0, 1) := by decide +kernel
theorem xd_La_law_641 : decode xb_La_law 641 = .ok (.iload 4, 2) := by decide +kernel
theorem xd_La_law_643 : decode xb_La_law 643 = .ok (.iconst 1, 1) := by decide +kernel
theorem xd_La_law_644 : decode xb_La_law 644 = .ok (.iadd, 1) := by decide +kernel
theorem xd_La_law_645 : decode xb_La_law 645 = .ok (.iaload, 1) := by decide +kernel
theorem xd_La_law_646 : decode xb_La_law 646 = .ok (.aload_n 0, 1) := by decide +kernel
theorem xd_La_law_647 : decode xb_La_law 647 = .ok (.iload 4, 2) := by decide +kernel
theorem xd_La_law_649 : decode xb_La_law 649 = .ok (.iconst 2, 1) := by decide +kernel
theorem xd_La_law_650 : decode xb_La_law 650 = .ok (.iadd, 1) := by decide +kernel
theorem xd_La_law_651 : decode xb_La_law 651 = .ok (.iaload, 1) := by decide +kernel
theorem xd_La_law_652 : decode xb_La_law 652 = .ok (.invokevirtual 92, 3) := by decide +kernel
theorem xd_La_law_655 : decode xb_La_law 655 = .ok (.istore 6, 2) := by decide +kernel
theorem xd_La_law_657 : decode xb_La_law 657 = .ok (.aload_n 2, 1) := by decide +kernel
theorem xd_La_law_658 : decode xb_La_law 658 = .ok (.invokevirtual 49, 3) := by decide +kernel
theorem xd_La_law_661 : decode xb_La_law 661 = .ok (.iload 5, 2) := by decide +kernel
theorem xd_La_law_663 : decode xb_La_law 663 = .ok (.if_icmp .eq 5, 3) := by decide +kernel
theorem xd_La_law_668 : decode xb_La_law 668 = .ok (.iload 5, 2) := by decide +kernel
theorem xd_La_law_670 : decode xb_La_law 670 = .ok (.ifCond .ne 15, 3) := by decide +kernel
theorem xd_La_law_685 : decode xb_La_law 685 = .ok (.goto 3, 3) := by decide +kernel
theorem xd_La_law_688 : decode xb_La_law 688 = .ok (.iinc 4 5, 3) := by decide +kernel
theorem xd_La_law_691 : decode xb_La_law 691 = .ok (.goto (-668), 3) := by decide +kernel
theorem xd_La_law_694 : decode xb_La_law 694 = .ok (.iconst 1, 1) := by decide +kernel
theorem xd_La_law_695 : decode xb_La_law 695 = .ok (.ireturn, 1) := by decide +kernel
theorem xd_La_layer_0 : decode xb_La_layer 0 = .ok (.aload 4, 2) := by decide +kernel
theorem xd_La_layer_2 : decode xb_La_layer 2 = .ok (.iconst 0, 1) := by decide +kernel
theorem xd_La_layer_3 : decode xb_La_layer 3 = .ok (.aload_n 0, 1) := by decide +kernel
theorem xd_La_layer_4 : decode xb_La_layer 4 = .ok (.iload_n 1, 1) := by decide +kernel
theorem xd_La_layer_5 : decode xb_La_layer 5 = .ok (.iload_n 2, 1) := by decide +kernel
theorem xd_La_layer_6 : decode xb_La_layer 6 = .ok (.iload_n 3, 1) := by decide +kernel
theorem xd_La_layer_7 : decode xb_La_layer 7 = .ok (.invokevirtual 17, 3) := by decide +kernel
theorem xd_La_layer_15 : decode xb_La_layer 15 = .ok (.astore 5, 2) := by decide +kernel
theorem xd_La_layer_17 : decode xb_La_layer 17 = .ok (.iconst 1, 1) := by decide +kernel
theorem xd_La_layer_18 : decode xb_La_layer 18 = .ok (.ireturn, 1) := by decide +kernel
theorem xd_La_line_0 : decode xb_La_line 0 = .ok (.aload_n 1, 1) := by decide +kernel
theorem xd_La_line_1 : decode xb_La_line 1 = .ok (.iconst 0, 1) := by decide +kernel
theorem xd_La_line_2 : decode xb_La_line 2 = .ok (.aload_n 0, 1) := by decide +kernel
theorem xd_La_line_3 : decode xb_La_line 3 = .ok (.invokevirtual 7, 3) := by decide +kernel
theorem xd_La_line_6 : decode xb_La_line 6 = .ok (.i2l, 1) := by decide +kernel
theorem xd_La_line_7 : decode xb_La_line 7 = .ok (.lastore, 1) := by decide +kernel
theorem xd_La_line_8 : decode xb_La_line 8 = .ok (.goto 9, 3) := by decide +kernel
theorem xd_La_line_17 : decode xb_La_line 17 = .ok (.iconst 0, 1) := by decide +kernel
theorem xd_La_line_18 : decode xb_La_line 18 = .ok (.ireturn, 1) := by decide +kernel
theorem xd_La_load_0 : decode xb_La_load 0 = .ok (.aload_n 3, 1) := by decide +kernel
theorem xd_La_load_1 : decode xb_La_load 1 = .ok (.iconst 0, 1) := by decide +kernel
theorem xd_La_load_2 : decode xb_La_load 2 = .ok (.aload_n 0, 1) := by decide +kernel
theorem xd_La_load_3 : decode xb_La_load 3 = .ok (.iload_n 1, 1) := by decide +kernel
theorem xd_La_load_4 : decode xb_La_load 4 = .ok (.iload_n 2, 1) := by decide +kernel
theorem xd_La_load_5 : decode xb_La_load 5 = .ok (.invokevirtual 23, 3) := by decide +kernel
theorem xd_La_load_13 : decode xb_La_load 13 = .ok (.astore 4, 2) := by decide +kernel
theorem xd_La_load_15 : decode xb_La_load 15 = .ok (.iconst 1, 1) := by decide +kernel
theorem xd_La_load_16 : decode xb_La_load 16 = .ok (.ireturn, 1) := by decide +kernel
theorem xd_La_peek_0 : decode xb_La_peek 0 = .ok (.aload 5, 2) := by decide +kernel
theorem xd_La_peek_2 : decode xb_La_peek 2 = .ok (.iconst 0, 1) := by decide +kernel
theorem xd_La_peek_3 : decode xb_La_peek 3 = .ok (.aload_n 0, 1) := by decide +kernel
theorem xd_La_peek_4 : decode xb_La_peek 4 = .ok (.iload_n 1, 1) := by decide +kernel
theorem xd_La_peek_5 : decode xb_La_peek 5 = .ok (.iload_n 2, 1) := by decide +kernel
theorem xd_La_peek_6 : decode xb_La_peek 6 = .ok (.iload_n 3, 1) := by decide +kernel
theorem xd_La_peek_7 : decode xb_La_peek 7 = .ok (.iload 4, 2) := by decide +kernel
theorem xd_La_peek_9 : decode xb_La_peek 9 = .ok (.invokevirtual 27, 3) := by decide +kernel
theorem xd_La_peek_24 : decode xb_La_peek 24 = .ok (.astore 6, 2) := by decide +kernel
theorem xd_La_peek_26 : decode xb_La_peek 26 = .ok (.iconst 1, 1) := by decide +kernel
theorem xd_La_peek_27 : decode xb_La_peek 27 = .ok (.ireturn, 1) := by decide +kernel
theorem xd_La_provider_0 : decode xb_La_provider 0 = .ok (.aload_n 3, 1) := by decide +kernel
theorem xd_La_provider_1 : decode xb_La_provider 1 = .ok (.iconst 0, 1) := by decide +kernel
theorem xd_La_provider_2 : decode xb_La_provider 2 = .ok (.aload_n 0, 1) := by decide +kernel
theorem xd_La_provider_3 : decode xb_La_provider 3 = .ok (.iload_n 1, 1) := by decide +kernel
theorem xd_La_provider_4 : decode xb_La_provider 4 = .ok (.iload_n 2, 1) := by decide +kernel
theorem xd_La_provider_5 : decode xb_La_provider 5 = .ok (.invokevirtual 31, 3) := by decide +kernel
theorem xd_La_provider_13 : decode xb_La_provider 13 = .ok (.astore 4, 2) := by decide +kernel
theorem xd_La_provider_15 : decode xb_La_provider 15 = .ok (.iconst 1, 1) := by decide +kernel
theorem xd_La_provider_16 : decode xb_La_provider 16 = .ok (.ireturn, 1) := by decide +kernel
theorem xd_Li_append_0 : decode xb_Li_append 0 = .ok (.aload_n 0, 1) := by decide +kernel
theorem xd_Li_append_1 : decode xb_Li_append 1 = .ok (.getfield 20, 3) := by decide +kernel
theorem xd_Li_append_4 : decode xb_Li_append 4 = .ok (.bipush 40, 2) := by decide +kernel
theorem xd_Li_append_6 : decode xb_Li_append 6 = .ok (.if_icmp .ge 15, 3) := by decide +kernel
theorem xd_Li_append_9 : decode xb_Li_append 9 = .ok (.iload_n 1, 1) := by decide +kernel
theorem xd_Li_append_10 : decode xb_Li_append 10 = .ok (.bipush 32, 2) := by decide +kernel
theorem xd_Li_append_12 : decode xb_Li_append 12 = .ok (.if_icmp .lt 9, 3) := by decide +kernel
theorem xd_Li_append_15 : decode xb_Li_append 15 = .ok (.iload_n 1, 1) := by decide +kernel
theorem xd_Li_append_16 : decode xb_Li_append 16 = .ok (.bipush 126, 2) := by decide +kernel
theorem xd_Li_append_18 : decode xb_Li_append 18 = .ok (.if_icmp .le 5, 3) := by decide +kernel
theorem xd_Li_append_21 : decode xb_Li_append 21 = .ok (.iconst 0, 1) := by decide +kernel
theorem xd_Li_append_22 : decode xb_Li_append 22 = .ok (.ireturn, 1) := by decide +kernel
theorem xd_Li_append_23 : decode xb_Li_append 23 = .ok (.aload_n 0, 1) := by decide +kernel
theorem xd_Li_append_24 : decode xb_Li_append 24 = .ok (.getfield 9, 3) := by decide +kernel
theorem xd_Li_append_27 : decode xb_Li_append 27 = .ok (.aload_n 0, 1) := by decide +kernel
theorem xd_Li_append_28 : decode xb_Li_append 28 = .ok (.getfield 20, 3) := by decide +kernel
theorem xd_Li_append_31 : decode xb_Li_append 31 = .ok (.iload_n 1, 1) := by decide +kernel
theorem xd_Li_append_32 : decode xb_Li_append 32 = .ok (.castore, 1) := by decide +kernel
theorem xd_Li_append_33 : decode xb_Li_append 33 = .ok (.aload_n 0, 1) := by decide +kernel
theorem xd_Li_append_34 : decode xb_Li_append 34 = .ok (.dup, 1) := by decide +kernel
theorem xd_Li_append_35 : decode xb_Li_append 35 = .ok (.getfield 20, 3) := by decide +kernel
theorem xd_Li_append_38 : decode xb_Li_append 38 = .ok (.iconst 1, 1) := by decide +kernel
theorem xd_Li_append_39 : decode xb_Li_append 39 = .ok (.iadd, 1) := by decide +kernel
theorem xd_Li_append_40 : decode xb_Li_append 40 = .ok (.putfield 20, 3) := by decide +kernel
theorem xd_Li_append_43 : decode xb_Li_append 43 = .ok (.iconst 1, 1) := by decide +kernel
theorem xd_Li_append_44 : decode xb_Li_append 44 = .ok (.ireturn, 1) := by decide +kernel
theorem xd_Li_init_0 : decode xb_Li_init 0 = .ok (.aload_n 0, 1) := by decide +kernel
theorem xd_Li_init_1 : decode xb_Li_init 1 = .ok (.invokespecial 1, 3) := by decide +kernel
theorem xd_Li_init_4 : decode xb_Li_init 4 = .ok (.aload_n 0, 1) := by decide +kernel
theorem xd_Li_init_5 : decode xb_Li_init 5 = .ok (.bipush 40, 2) := by decide +kernel
theorem xd_Li_init_7 : decode xb_Li_init 7 = .ok (.newarray .char, 2) := by decide +kernel
theorem xd_Li_init_9 : decode xb_Li_init 9 = .ok (.putfield 9, 3) := by decide +kernel
theorem xd_Li_init_12 : decode xb_Li_init 12 = .ok (.aload_n 0, 1) := by decide +kernel
theorem xd_Li_init_13 : decode xb_Li_init 13 = .ok (.bipush 20, 2) := by decide +kernel
theorem xd_Li_init_15 : decode xb_Li_init 15 = .ok (.newarray .int, 2) := by decide +kernel
theorem xd_Li_init_17 : decode xb_Li_init 17 = .ok (.putfield 13, 3) := by decide +kernel
theorem xd_Li_init_20 : decode xb_Li_init 20 = .ok (.aload_n 0, 1) := by decide +kernel
theorem xd_Li_init_21 : decode xb_Li_init 21 = .ok (.bipush 20, 2) := by decide +kernel
theorem xd_Li_init_23 : decode xb_Li_init 23 = .ok (.newarray .int, 2) := by decide +kernel
theorem xd_Li_init_25 : decode xb_Li_init 25 = .ok (.putfield 17, 3) := by decide +kernel
theorem xd_Li_init_28 : decode xb_Li_init 28 = .ok (.aload_n 0, 1) := by decide +kernel
theorem xd_Li_init_29 : decode xb_Li_init 29 = .ok (.iconst 0, 1) := by decide +kernel
theorem xd_Li_init_30 : decode xb_Li_init 30 = .ok (.putfield 20, 3) := by decide +kernel
theorem xd_Li_init_33 : decode xb_Li_init 33 = .ok (.aload_n 0, 1) := by decide +kernel
theorem xd_Li_init_34 : decode xb_Li_init 34 = .ok (.iconst 0, 1) := by decide +kernel
theorem xd_Li_init_35 : decode xb_Li_init 35 = .ok (.putfield 24, 3) := by decide +kernel
theorem xd_Li_init_38 : decode xb_Li_init 38 = .ok (.return_, 1) := by decide +kernel
theorem xd_Li_take_0 : decode xb_Li_take 0 = .ok (.aload_n 0, 1) := by decide +kernel
theorem xd_Li_take_1 : decode xb_Li_take 1 = .ok (.iconst 0, 1) := by decide +kernel
theorem xd_Li_take_2 : decode xb_Li_take 2 = .ok (.putfield 24, 3) := by decide +kernel
theorem xd_Li_take_5 : decode xb_Li_take 5 = .ok (.iconst 0, 1) := by decide +kernel
theorem xd_Li_take_6 : decode xb_Li_take 6 = .ok (.istore_n 1, 1) := by decide +kernel
theorem xd_Li_take_7 : decode xb_Li_take 7 = .ok (.iconst 0, 1) := by decide +kernel
theorem xd_Li_take_8 : decode xb_Li_take 8 = .ok (.istore_n 2, 1) := by decide +kernel
theorem xd_Li_take_9 : decode xb_Li_take 9 = .ok (.iload_n 2, 1) := by decide +kernel
theorem xd_Li_take_10 : decode xb_Li_take 10 = .ok (.aload_n 0, 1) := by decide +kernel
theorem xd_Li_take_11 : decode xb_Li_take 11 = .ok (.getfield 20, 3) := by decide +kernel
theorem xd_Li_take_14 : decode xb_Li_take 14 = .ok (.if_icmp .gt 76, 3) := by decide +kernel
theorem xd_Li_take_17 : decode xb_Li_take 17 = .ok (.iload_n 2, 1) := by decide +kernel
theorem xd_Li_take_18 : decode xb_Li_take 18 = .ok (.aload_n 0, 1) := by decide +kernel
theorem xd_Li_take_19 : decode xb_Li_take 19 = .ok (.getfield 20, 3) := by decide +kernel
theorem xd_Li_take_22 : decode xb_Li_take 22 = .ok (.if_icmp .eq 14, 3) := by decide +kernel
theorem xd_Li_take_36 : decode xb_Li_take 36 = .ok (.iload_n 2, 1) := by decide +kernel
theorem xd_Li_take_37 : decode xb_Li_take 37 = .ok (.iload_n 1, 1) := by decide +kernel
theorem xd_Li_take_38 : decode xb_Li_take 38 = .ok (.if_icmp .le 42, 3) := by decide +kernel
theorem xd_Li_take_80 : decode xb_Li_take 80 = .ok (.iload_n 2, 1) := by decide +kernel
theorem xd_Li_take_81 : decode xb_Li_take 81 = .ok (.iconst 1, 1) := by decide +kernel
theorem xd_Li_take_82 : decode xb_Li_take 82 = .ok (.iadd, 1) := by decide +kernel
theorem xd_Li_take_83 : decode xb_Li_take 83 = .ok (.istore_n 1, 1) := by decide +kernel
theorem xd_Li_take_84 : decode xb_Li_take 84 = .ok (.iinc 2 1, 3) := by decide +kernel
theorem xd_Li_take_87 : decode xb_Li_take 87 = .ok (.goto (-78), 3) := by decide +kernel
theorem xd_Li_take_90 : decode xb_Li_take 90 = .ok (.aload_n 0, 1) := by decide +kernel
theorem xd_Li_take_91 : decode xb_Li_take 91 = .ok (.iconst 0, 1) := by decide +kernel
theorem xd_Li_take_92 : decode xb_Li_take 92 = .ok (.putfield 20, 3) := by decide +kernel
theorem xd_Li_take_95 : decode xb_Li_take 95 = .ok (.return_, 1) := by decide +kernel
theorem xd_Li_takeName_0 : decode xb_Li_takeName 0 = .ok (.aload_n 0, 1) := by decide +kernel
theorem xd_Li_takeName_1 : decode xb_Li_takeName 1 = .ok (.invokevirtual 27, 3) := by decide +kernel
theorem xd_Li_takeName_4 : decode xb_Li_takeName 4 = .ok (.aload_n 0, 1) := by decide +kernel
theorem xd_Li_takeName_5 : decode xb_Li_takeName 5 = .ok (.getfield 24, 3) := by decide +kernel
theorem xd_Li_takeName_8 : decode xb_Li_takeName 8 = .ok (.iconst 1, 1) := by decide +kernel
theorem xd_Li_takeName_9 : decode xb_Li_takeName 9 = .ok (.if_icmp .ne 11, 3) := by decide +kernel
theorem xd_Li_takeName_20 : decode xb_Li_takeName 20 = .ok (.iconst 0, 1) := by decide +kernel
theorem xd_Li_takeName_21 : decode xb_Li_takeName 21 = .ok (.ireturn, 1) := by decide +kernel
theorem xd_Mo_close_0 : decode xb_Mo_close 0 = .ok (.aload_n 0, 1) := by decide +kernel
theorem xd_Mo_close_1 : decode xb_Mo_close 1 = .ok (.iconst 0, 1) := by decide +kernel
theorem xd_Mo_close_2 : decode xb_Mo_close 2 = .ok (.putfield 87, 3) := by decide +kernel
theorem xd_Mo_close_5 : decode xb_Mo_close 5 = .ok (.aload_n 0, 1) := by decide +kernel
theorem xd_Mo_close_6 : decode xb_Mo_close 6 = .ok (.iload_n 1, 1) := by decide +kernel
theorem xd_Mo_close_7 : decode xb_Mo_close 7 = .ok (.invokevirtual 190, 3) := by decide +kernel
theorem xd_Mo_close_10 : decode xb_Mo_close 10 = .ok (.ifCond .ne 5, 3) := by decide +kernel
theorem xd_Mo_close_13 : decode xb_Mo_close 13 = .ok (.iconst 0, 1) := by decide +kernel
theorem xd_Mo_close_14 : decode xb_Mo_close 14 = .ok (.ireturn, 1) := by decide +kernel
theorem xd_Mo_count_0 : decode xb_Mo_count 0 = .ok (.aload_n 0, 1) := by decide +kernel
theorem xd_Mo_count_1 : decode xb_Mo_count 1 = .ok (.iconst 0, 1) := by decide +kernel
theorem xd_Mo_count_2 : decode xb_Mo_count 2 = .ok (.putfield 87, 3) := by decide +kernel
theorem xd_Mo_count_5 : decode xb_Mo_count 5 = .ok (.iconst 0, 1) := by decide +kernel
theorem xd_Mo_count_6 : decode xb_Mo_count 6 = .ok (.istore_n 2, 1) := by decide +kernel
theorem xd_Mo_count_7 : decode xb_Mo_count 7 = .ok (.iconst 0, 1) := by decide +kernel
theorem xd_Mo_count_8 : decode xb_Mo_count 8 = .ok (.istore_n 3, 1) := by decide +kernel
theorem xd_Mo_count_9 : decode xb_Mo_count 9 = .ok (.iload_n 3, 1) := by decide +kernel
theorem xd_Mo_count_10 : decode xb_Mo_count 10 = .ok (.aload_n 0, 1) := by decide +kernel
theorem xd_Mo_count_11 : decode xb_Mo_count 11 = .ok (.getfield 150, 3) := by decide +kernel
theorem xd_Mo_count_14 : decode xb_Mo_count 14 = .ok (.if_icmp .ge 26, 3) := by decide +kernel
theorem xd_Mo_count_40 : decode xb_Mo_count 40 = .ok (.iload_n 1, 1) := by decide +kernel
theorem xd_Mo_count_41 : decode xb_Mo_count 41 = .ok (.ifCond .ne 10, 3) := by decide +kernel
theorem xd_Mo_count_44 : decode xb_Mo_count 44 = .ok (.aload_n 0, 1) := by decide +kernel
theorem xd_Mo_count_45 : decode xb_Mo_count 45 = .ok (.getfield 140, 3) := by decide +kernel
theorem xd_Mo_count_48 : decode xb_Mo_count 48 = .ok (.goto 25, 3) := by decide +kernel
theorem xd_Mo_count_51 : decode xb_Mo_count 51 = .ok (.iload_n 1, 1) := by decide +kernel
theorem xd_Mo_count_52 : decode xb_Mo_count 52 = .ok (.iconst 1, 1) := by decide +kernel
theorem xd_Mo_count_53 : decode xb_Mo_count 53 = .ok (.if_icmp .ne 10, 3) := by decide +kernel
theorem xd_Mo_count_56 : decode xb_Mo_count 56 = .ok (.aload_n 0, 1) := by decide +kernel
theorem xd_Mo_count_57 : decode xb_Mo_count 57 = .ok (.getfield 150, 3) := by decide +kernel
theorem xd_Mo_count_60 : decode xb_Mo_count 60 = .ok (.goto 13, 3) := by decide +kernel
theorem xd_Mo_count_63 : decode xb_Mo_count 63 = .ok (.iload_n 1, 1) := by decide +kernel
theorem xd_Mo_count_64 : decode xb_Mo_count 64 = .ok (.iconst 2, 1) := by decide +kernel
theorem xd_Mo_count_65 : decode xb_Mo_count 65 = .ok (.if_icmp .ne 7, 3) := by decide +kernel
theorem xd_Mo_count_68 : decode xb_Mo_count 68 = .ok (.iload_n 2, 1) := by decide +kernel
theorem xd_Mo_count_69 : decode xb_Mo_count 69 = .ok (.goto 4, 3) := by decide +kernel
theorem xd_Mo_count_72 : decode xb_Mo_count 72 = .ok (.iconst (-1), 1) := by decide +kernel
theorem xd_Mo_count_73 : decode xb_Mo_count 73 = .ok (.ireturn, 1) := by decide +kernel
theorem xd_Mo_fails_0 : decode xb_Mo_fails 0 = .ok (.aload_n 0, 1) := by decide +kernel
theorem xd_Mo_fails_1 : decode xb_Mo_fails 1 = .ok (.iload_n 1, 1) := by decide +kernel
theorem xd_Mo_fails_2 : decode xb_Mo_fails 2 = .ok (.putfield 87, 3) := by decide +kernel
theorem xd_Mo_fails_5 : decode xb_Mo_fails 5 = .ok (.iconst 0, 1) := by decide +kernel
theorem xd_Mo_fails_6 : decode xb_Mo_fails 6 = .ok (.ireturn, 1) := by decide +kernel
theorem xd_Mo_fault_0 : decode xb_Mo_fault 0 = .ok (.aload_n 0, 1) := by decide +kernel
theorem xd_Mo_fault_1 : decode xb_Mo_fault 1 = .ok (.iconst 0, 1) := by decide +kernel
theorem xd_Mo_fault_2 : decode xb_Mo_fault 2 = .ok (.putfield 87, 3) := by decide +kernel
theorem xd_Mo_fault_5 : decode xb_Mo_fault 5 = .ok (.aload_n 0, 1) := by decide +kernel
theorem xd_Mo_fault_6 : decode xb_Mo_fault 6 = .ok (.getfield 187, 3) := by decide +kernel
theorem xd_Mo_fault_9 : decode xb_Mo_fault 9 = .ok (.ireturn, 1) := by decide +kernel
theorem xd_Mo_init_0 : decode xb_Mo_init 0 = .ok (.aload_n 0, 1) := by decide +kernel
theorem xd_Mo_init_1 : decode xb_Mo_init 1 = .ok (.invokespecial 1, 3) := by decide +kernel
theorem xd_Mo_init_4 : decode xb_Mo_init 4 = .ok (.aload_n 0, 1) := by decide +kernel
theorem xd_Mo_init_5 : decode xb_Mo_init 5 = .ok (.bipush 40, 2) := by decide +kernel
theorem xd_Mo_init_7 : decode xb_Mo_init 7 = .ok (.newarray .char, 2) := by decide +kernel
theorem xd_Mo_init_9 : decode xb_Mo_init 9 = .ok (.putfield 7, 3) := by decide +kernel
theorem xd_Mo_init_12 : decode xb_Mo_init 12 = .ok (.aload_n 0, 1) := by decide +kernel
theorem xd_Mo_init_13 : decode xb_Mo_init 13 = .ok (.bipush 20, 2) := by decide +kernel
theorem xd_Mo_init_15 : decode xb_Mo_init 15 = .ok (.newarray .int, 2) := by decide +kernel
theorem xd_Mo_init_17 : decode xb_Mo_init 17 = .ok (.putfield 13, 3) := by decide +kernel
theorem xd_Mo_init_20 : decode xb_Mo_init 20 = .ok (.aload_n 0, 1) := by decide +kernel
theorem xd_Mo_init_21 : decode xb_Mo_init 21 = .ok (.bipush 20, 2) := by decide +kernel
theorem xd_Mo_init_23 : decode xb_Mo_init 23 = .ok (.newarray .int, 2) := by decide +kernel
theorem xd_Mo_init_25 : decode xb_Mo_init 25 = .ok (.putfield 17, 3) := by decide +kernel
theorem xd_Mo_init_28 : decode xb_Mo_init 28 = .ok (.aload_n 0, 1) := by decide +kernel
theorem xd_Mo_init_29 : decode xb_Mo_init 29 = .ok (.bipush 12, 2) := by decide +kernel
theorem xd_Mo_init_31 : decode xb_Mo_init 31 = .ok (.newarray .int, 2) := by decide +kernel
theorem xd_Mo_init_33 : decode xb_Mo_init 33 = .ok (.putfield 20, 3) := by decide +kernel
theorem xd_Mo_init_36 : decode xb_Mo_init 36 = .ok (.aload_n 0, 1) := by decide +kernel
theorem xd_Mo_init_37 : decode xb_Mo_init 37 = .ok (.bipush 12, 2) := by decide +kernel
theorem xd_Mo_init_39 : decode xb_Mo_init 39 = .ok (.newarray .int, 2) := by decide +kernel
theorem xd_Mo_init_41 : decode xb_Mo_init 41 = .ok (.putfield 23, 3) := by decide +kernel
theorem xd_Mo_init_44 : decode xb_Mo_init 44 = .ok (.aload_n 0, 1) := by decide +kernel
theorem xd_Mo_init_45 : decode xb_Mo_init 45 = .ok (.bipush 12, 2) := by decide +kernel
theorem xd_Mo_init_47 : decode xb_Mo_init 47 = .ok (.newarray .int, 2) := by decide +kernel
theorem xd_Mo_init_49 : decode xb_Mo_init 49 = .ok (.putfield 26, 3) := by decide +kernel
theorem xd_Mo_init_52 : decode xb_Mo_init 52 = .ok (.aload_n 0, 1) := by decide +kernel
theorem xd_Mo_init_53 : decode xb_Mo_init 53 = .ok (.bipush 72, 2) := by decide +kernel
theorem xd_Mo_init_55 : decode xb_Mo_init 55 = .ok (.newarray .int, 2) := by decide +kernel
theorem xd_Mo_init_57 : decode xb_Mo_init 57 = .ok (.putfield 29, 3) := by decide +kernel
theorem xd_Mo_init_60 : decode xb_Mo_init 60 = .ok (.aload_n 0, 1) := by decide +kernel
theorem xd_Mo_init_61 : decode xb_Mo_init 61 = .ok (.sipush 216, 3) := by decide +kernel
theorem xd_Mo_init_64 : decode xb_Mo_init 64 = .ok (.newarray .int, 2) := by decide +kernel
theorem xd_Mo_init_66 : decode xb_Mo_init 66 = .ok (.putfield 32, 3) := by decide +kernel
theorem xd_Mo_init_69 : decode xb_Mo_init 69 = .ok (.aload_n 0, 1) := by decide +kernel
theorem xd_Mo_init_70 : decode xb_Mo_init 70 = .ok (.sipush 216, 3) := by decide +kernel
theorem xd_Mo_init_73 : decode xb_Mo_init 73 = .ok (.newarray .int, 2) := by decide +kernel
theorem xd_Mo_init_75 : decode xb_Mo_init 75 = .ok (.putfield 35, 3) := by decide +kernel
theorem xd_Mo_init_78 : decode xb_Mo_init 78 = .ok (.aload_n 0, 1) := by decide +kernel
theorem xd_Mo_init_79 : decode xb_Mo_init 79 = .ok (.bipush 72, 2) := by decide +kernel
theorem xd_Mo_init_81 : decode xb_Mo_init 81 = .ok (.newarray .boolean, 2) := by decide +kernel
theorem xd_Mo_init_83 : decode xb_Mo_init 83 = .ok (.putfield 38, 3) := by decide +kernel
theorem xd_Mo_init_86 : decode xb_Mo_init 86 = .ok (.aload_n 0, 1) := by decide +kernel
theorem xd_Mo_init_87 : decode xb_Mo_init 87 = .ok (.bipush 72, 2) := by decide +kernel
theorem xd_Mo_init_89 : decode xb_Mo_init 89 = .ok (.newarray .boolean, 2) := by decide +kernel
theorem xd_Mo_init_91 : decode xb_Mo_init 91 = .ok (.putfield 42, 3) := by decide +kernel
theorem xd_Mo_init_94 : decode xb_Mo_init 94 = .ok (.aload_n 0, 1) := by decide +kernel
theorem xd_Mo_init_95 : decode xb_Mo_init 95 = .ok (.bipush 12, 2) := by decide +kernel
theorem xd_Mo_init_97 : decode xb_Mo_init 97 = .ok (.newarray .boolean, 2) := by decide +kernel
theorem xd_Mo_init_99 : decode xb_Mo_init 99 = .ok (.putfield 45, 3) := by decide +kernel
theorem xd_Mo_init_102 : decode xb_Mo_init 102 = .ok (.aload_n 0, 1) := by decide +kernel
theorem xd_Mo_init_103 : decode xb_Mo_init 103 = .ok (.bipush 12, 2) := by decide +kernel
theorem xd_Mo_init_105 : decode xb_Mo_init 105 = .ok (.newarray .int, 2) := by decide +kernel
theorem xd_Mo_init_107 : decode xb_Mo_init 107 = .ok (.putfield 48, 3) := by decide +kernel
theorem xd_Mo_init_110 : decode xb_Mo_init 110 = .ok (.aload_n 0, 1) := by decide +kernel
theorem xd_Mo_init_111 : decode xb_Mo_init 111 = .ok (.bipush 60, 2) := by decide +kernel
theorem xd_Mo_init_113 : decode xb_Mo_init 113 = .ok (.newarray .int, 2) := by decide +kernel
theorem xd_Mo_init_115 : decode xb_Mo_init 115 = .ok (.putfield 51, 3) := by decide +kernel
theorem xd_Mo_init_118 : decode xb_Mo_init 118 = .ok (.aload_n 0, 1) := by decide +kernel
theorem xd_Mo_init_119 : decode xb_Mo_init 119 = .ok (.bipush 36, 2) := by decide +kernel
theorem xd_Mo_init_121 : decode xb_Mo_init 121 = .ok (.newarray .int, 2) := by decide +kernel
theorem xd_Mo_init_123 : decode xb_Mo_init 123 = .ok (.putfield 54, 3) := by decide +kernel
theorem xd_Mo_init_126 : decode xb_Mo_init 126 = .ok (.aload_n 0, 1) := by decide +kernel
theorem xd_Mo_init_127 : decode xb_Mo_init 127 = .ok (.bipush 36, 2) := by decide +kernel
theorem xd_Mo_init_129 : decode xb_Mo_init 129 = .ok (.newarray .int, 2) := by decide +kernel
theorem xd_Mo_init_131 : decode xb_Mo_init 131 = .ok (.putfield 57, 3) := by decide +kernel
theorem xd_Mo_init_134 : decode xb_Mo_init 134 = .ok (.aload_n 0, 1) := by decide +kernel
theorem xd_Mo_init_135 : decode xb_Mo_init 135 = .ok (.bipush 60, 2) := by decide +kernel
theorem xd_Mo_init_137 : decode xb_Mo_init 137 = .ok (.newarray .boolean, 2) := by decide +kernel
theorem xd_Mo_init_139 : decode xb_Mo_init 139 = .ok (.putfield 60, 3) := by decide +kernel
theorem xd_Mo_init_142 : decode xb_Mo_init 142 = .ok (.aload_n 0, 1) := by decide +kernel
theorem xd_Mo_init_143 : decode xb_Mo_init 143 = .ok (.bipush 60, 2) := by decide +kernel
theorem xd_Mo_init_145 : decode xb_Mo_init 145 = .ok (.newarray .boolean, 2) := by decide +kernel
theorem xd_Mo_init_147 : decode xb_Mo_init 147 = .ok (.putfield 63, 3) := by decide +kernel
theorem xd_Mo_init_150 : decode xb_Mo_init 150 = .ok (.aload_n 0, 1) := by decide +kernel
theorem xd_Mo_init_151 : decode xb_Mo_init 151 = .ok (.bipush 6, 2) := by decide +kernel
theorem xd_Mo_init_153 : decode xb_Mo_init 153 = .ok (.newarray .int, 2) := by decide +kernel
theorem xd_Mo_init_155 : decode xb_Mo_init 155 = .ok (.putfield 66, 3) := by decide +kernel
theorem xd_Mo_init_158 : decode xb_Mo_init 158 = .ok (.aload_n 0, 1) := by decide +kernel
theorem xd_Mo_init_159 : decode xb_Mo_init 159 = .ok (.bipush 6, 2) := by decide +kernel
theorem xd_Mo_init_161 : decode xb_Mo_init 161 = .ok (.newarray .int, 2) := by decide +kernel
theorem xd_Mo_init_163 : decode xb_Mo_init 163 = .ok (.putfield 69, 3) := by decide +kernel
theorem xd_Mo_init_166 : decode xb_Mo_init 166 = .ok (.aload_n 0, 1) := by decide +kernel
theorem xd_Mo_init_167 : decode xb_Mo_init 167 = .ok (.bipush 6, 2) := by decide +kernel
theorem xd_Mo_init_169 : decode xb_Mo_init 169 = .ok (.newarray .int, 2) := by decide +kernel
theorem xd_Mo_init_171 : decode xb_Mo_init 171 = .ok (.putfield 72, 3) := by decide +kernel
theorem xd_Mo_init_174 : decode xb_Mo_init 174 = .ok (.aload_n 0, 1) := by decide +kernel
theorem xd_Mo_init_175 : decode xb_Mo_init 175 = .ok (.bipush 72, 2) := by decide +kernel
theorem xd_Mo_init_177 : decode xb_Mo_init 177 = .ok (.newarray .int, 2) := by decide +kernel
theorem xd_Mo_init_179 : decode xb_Mo_init 179 = .ok (.putfield 75, 3) := by decide +kernel
theorem xd_Mo_init_182 : decode xb_Mo_init 182 = .ok (.aload_n 0, 1) := by decide +kernel
theorem xd_Mo_init_183 : decode xb_Mo_init 183 = .ok (.bipush 6, 2) := by decide +kernel
theorem xd_Mo_init_185 : decode xb_Mo_init 185 = .ok (.newarray .boolean, 2) := by decide +kernel
theorem xd_Mo_init_187 : decode xb_Mo_init 187 = .ok (.putfield 78, 3) := by decide +kernel
theorem xd_Mo_init_190 : decode xb_Mo_init 190 = .ok (.aload_n 0, 1) := by decide +kernel
theorem xd_Mo_init_191 : decode xb_Mo_init 191 = .ok (.bipush 80, 2) := by decide +kernel
theorem xd_Mo_init_193 : decode xb_Mo_init 193 = .ok (.newarray .int, 2) := by decide +kernel
theorem xd_Mo_init_195 : decode xb_Mo_init 195 = .ok (.putfield 81, 3) := by decide +kernel
theorem xd_Mo_init_198 : decode xb_Mo_init 198 = .ok (.aload_n 0, 1) := by decide +kernel
theorem xd_Mo_init_199 : decode xb_Mo_init 199 = .ok (.bipush 72, 2) := by decide +kernel
theorem xd_Mo_init_201 : decode xb_Mo_init 201 = .ok (.newarray .boolean, 2) := by decide +kernel
theorem xd_Mo_init_203 : decode xb_Mo_init 203 = .ok (.putfield 84, 3) := by decide +kernel
theorem xd_Mo_init_206 : decode xb_Mo_init 206 = .ok (.return_, 1) := by decide +kernel
theorem xd_Mo_isOpen_0 : decode xb_Mo_isOpen 0 = .ok (.iload_n 1, 1) := by decide +kernel
theorem xd_Mo_isOpen_1 : decode xb_Mo_isOpen 1 = .ok (.ifCond .lt 24, 3) := by decide +kernel
theorem xd_Mo_isOpen_4 : decode xb_Mo_isOpen 4 = .ok (.iload_n 1, 1) := by decide +kernel
theorem xd_Mo_isOpen_5 : decode xb_Mo_isOpen 5 = .ok (.aload_n 0, 1) := by decide +kernel
theorem xd_Mo_isOpen_6 : decode xb_Mo_isOpen 6 = .ok (.getfield 150, 3) := by decide +kernel
theorem xd_Mo_isOpen_9 : decode xb_Mo_isOpen 9 = .ok (.if_icmp .ge 16, 3) := by decide +kernel
theorem xd_Mo_isOpen_25 : decode xb_Mo_isOpen 25 = .ok (.iconst 0, 1) := by decide +kernel
theorem xd_Mo_isOpen_26 : decode xb_Mo_isOpen 26 = .ok (.ireturn, 1) := by decide +kernel
theorem xd_Mo_layer_0 : decode xb_Mo_layer 0 = .ok (.aload_n 0, 1) := by decide +kernel
theorem xd_Mo_layer_1 : decode xb_Mo_layer 1 = .ok (.iconst 0, 1) := by decide +kernel
theorem xd_Mo_layer_2 : decode xb_Mo_layer 2 = .ok (.putfield 87, 3) := by decide +kernel
theorem xd_Mo_layer_5 : decode xb_Mo_layer 5 = .ok (.aload_n 0, 1) := by decide +kernel
theorem xd_Mo_layer_6 : decode xb_Mo_layer 6 = .ok (.iconst 0, 1) := by decide +kernel
theorem xd_Mo_layer_7 : decode xb_Mo_layer 7 = .ok (.putfield 187, 3) := by decide +kernel
theorem xd_Mo_layer_10 : decode xb_Mo_layer 10 = .ok (.aload_n 0, 1) := by decide +kernel
theorem xd_Mo_layer_11 : decode xb_Mo_layer 11 = .ok (.invokevirtual 101, 3) := by decide +kernel
theorem xd_Mo_layer_14 : decode xb_Mo_layer 14 = .ok (.aload_n 0, 1) := by decide +kernel
theorem xd_Mo_layer_15 : decode xb_Mo_layer 15 = .ok (.getfield 94, 3) := by decide +kernel
theorem xd_Mo_layer_18 : decode xb_Mo_layer 18 = .ok (.iconst 1, 1) := by decide +kernel
theorem xd_Mo_layer_19 : decode xb_Mo_layer 19 = .ok (.if_icmp .lt 15, 3) := by decide +kernel
theorem xd_Mo_layer_34 : decode xb_Mo_layer 34 = .ok (.iconst 0, 1) := by decide +kernel
theorem xd_Mo_layer_35 : decode xb_Mo_layer 35 = .ok (.istore 4, 2) := by decide +kernel
theorem xd_Mo_layer_37 : decode xb_Mo_layer 37 = .ok (.iconst 0, 1) := by decide +kernel
theorem xd_Mo_layer_38 : decode xb_Mo_layer 38 = .ok (.istore 5, 2) := by decide +kernel
theorem xd_Mo_layer_40 : decode xb_Mo_layer 40 = .ok (.iload 5, 2) := by decide +kernel
theorem xd_Mo_layer_42 : decode xb_Mo_layer 42 = .ok (.aload_n 0, 1) := by decide +kernel
theorem xd_Mo_layer_43 : decode xb_Mo_layer 43 = .ok (.getfield 94, 3) := by decide +kernel
theorem xd_Mo_layer_46 : decode xb_Mo_layer 46 = .ok (.if_icmp .ge 30, 3) := by decide +kernel
theorem xd_Mo_layer_76 : decode xb_Mo_layer 76 = .ok (.iload 4, 2) := by decide +kernel
theorem xd_Mo_layer_78 : decode xb_Mo_layer 78 = .ok (.ifCond .eq 25, 3) := by decide +kernel
theorem xd_Mo_layer_103 : decode xb_Mo_layer 103 = .ok (.aload_n 0, 1) := by decide +kernel
theorem xd_Mo_layer_104 : decode xb_Mo_layer 104 = .ok (.iconst 1, 1) := by decide +kernel
theorem xd_Mo_layer_105 : decode xb_Mo_layer 105 = .ok (.invokevirtual 129, 3) := by decide +kernel
theorem xd_Mo_layer_108 : decode xb_Mo_layer 108 = .ok (.ireturn, 1) := by decide +kernel
theorem xd_Mo_line_0 : decode xb_Mo_line 0 = .ok (.aload_n 0, 1) := by decide +kernel
theorem xd_Mo_line_1 : decode xb_Mo_line 1 = .ok (.iconst 0, 1) := by decide +kernel
theorem xd_Mo_line_2 : decode xb_Mo_line 2 = .ok (.putfield 87, 3) := by decide +kernel
theorem xd_Mo_line_5 : decode xb_Mo_line 5 = .ok (.aload_n 0, 1) := by decide +kernel
theorem xd_Mo_line_6 : decode xb_Mo_line 6 = .ok (.invokevirtual 101, 3) := by decide +kernel
theorem xd_Mo_line_9 : decode xb_Mo_line 9 = .ok (.aload_n 0, 1) := by decide +kernel
theorem xd_Mo_line_10 : decode xb_Mo_line 10 = .ok (.getfield 94, 3) := by decide +kernel
theorem xd_Mo_line_13 : decode xb_Mo_line 13 = .ok (.ifCond .ne 5, 3) := by decide +kernel
theorem xd_Mo_line_16 : decode xb_Mo_line 16 = .ok (.iconst 0, 1) := by decide +kernel
theorem xd_Mo_line_17 : decode xb_Mo_line 17 = .ok (.ireturn, 1) := by decide +kernel
theorem xd_Mo_load_0 : decode xb_Mo_load 0 = .ok (.aload_n 0, 1) := by decide +kernel
theorem xd_Mo_load_1 : decode xb_Mo_load 1 = .ok (.iconst 0, 1) := by decide +kernel
theorem xd_Mo_load_2 : decode xb_Mo_load 2 = .ok (.putfield 87, 3) := by decide +kernel
theorem xd_Mo_load_5 : decode xb_Mo_load 5 = .ok (.aload_n 0, 1) := by decide +kernel
theorem xd_Mo_load_6 : decode xb_Mo_load 6 = .ok (.invokevirtual 205, 3) := by decide +kernel
theorem xd_Mo_load_9 : decode xb_Mo_load 9 = .ok (.istore_n 3, 1) := by decide +kernel
theorem xd_Mo_load_10 : decode xb_Mo_load 10 = .ok (.aload_n 0, 1) := by decide +kernel
theorem xd_Mo_load_11 : decode xb_Mo_load 11 = .ok (.iload_n 1, 1) := by decide +kernel
theorem xd_Mo_load_12 : decode xb_Mo_load 12 = .ok (.iload_n 2, 1) := by decide +kernel
theorem xd_Mo_load_13 : decode xb_Mo_load 13 = .ok (.invokevirtual 199, 3) := by decide +kernel
theorem xd_Mo_load_16 : decode xb_Mo_load 16 = .ok (.istore 4, 2) := by decide +kernel
theorem xd_Mo_load_18 : decode xb_Mo_load 18 = .ok (.iload_n 3, 1) := by decide +kernel
theorem xd_Mo_load_19 : decode xb_Mo_load 19 = .ok (.ifCond .eq 8, 3) := by decide +kernel
theorem xd_Mo_load_27 : decode xb_Mo_load 27 = .ok (.aload_n 0, 1) := by decide +kernel
theorem xd_Mo_load_28 : decode xb_Mo_load 28 = .ok (.iconst 1, 1) := by decide +kernel
theorem xd_Mo_load_29 : decode xb_Mo_load 29 = .ok (.invokevirtual 129, 3) := by decide +kernel
theorem xd_Mo_load_32 : decode xb_Mo_load 32 = .ok (.ireturn, 1) := by decide +kernel
theorem xd_Mo_module_0 : decode xb_Mo_module 0 = .ok (.aload_n 0, 1) := by decide +kernel
theorem xd_Mo_module_1 : decode xb_Mo_module 1 = .ok (.iconst 0, 1) := by decide +kernel
theorem xd_Mo_module_2 : decode xb_Mo_module 2 = .ok (.putfield 87, 3) := by decide +kernel
theorem xd_Mo_module_5 : decode xb_Mo_module 5 = .ok (.aload_n 0, 1) := by decide +kernel
theorem xd_Mo_module_6 : decode xb_Mo_module 6 = .ok (.iload_n 1, 1) := by decide +kernel
theorem xd_Mo_module_7 : decode xb_Mo_module 7 = .ok (.iload_n 2, 1) := by decide +kernel
theorem xd_Mo_module_8 : decode xb_Mo_module 8 = .ok (.invokevirtual 199, 3) := by decide +kernel
theorem xd_Mo_module_11 : decode xb_Mo_module 11 = .ok (.ireturn, 1) := by decide +kernel
theorem xd_Mo_moduleOf_0 : decode xb_Mo_moduleOf 0 = .ok (.aload_n 0, 1) := by decide +kernel
theorem xd_Mo_moduleOf_1 : decode xb_Mo_moduleOf 1 = .ok (.iload_n 1, 1) := by decide +kernel
theorem xd_Mo_moduleOf_2 : decode xb_Mo_moduleOf 2 = .ok (.invokevirtual 190, 3) := by decide +kernel
theorem xd_Mo_moduleOf_5 : decode xb_Mo_moduleOf 5 = .ok (.ifCond .eq 31, 3) := by decide +kernel
theorem xd_Mo_moduleOf_36 : decode xb_Mo_moduleOf 36 = .ok (.iconst (-1), 1) := by decide +kernel
theorem xd_Mo_moduleOf_37 : decode xb_Mo_moduleOf 37 = .ok (.ireturn, 1) := by decide +kernel
theorem xd_Mo_modules_0 : decode xb_Mo_modules 0 = .ok (.aload_n 0, 1) := by decide +kernel
theorem xd_Mo_modules_1 : decode xb_Mo_modules 1 = .ok (.iconst 0, 1) := by decide +kernel
theorem xd_Mo_modules_2 : decode xb_Mo_modules 2 = .ok (.putfield 87, 3) := by decide +kernel
theorem xd_Mo_modules_5 : decode xb_Mo_modules 5 = .ok (.aload_n 0, 1) := by decide +kernel
theorem xd_Mo_modules_6 : decode xb_Mo_modules 6 = .ok (.iload_n 1, 1) := by decide +kernel
theorem xd_Mo_modules_7 : decode xb_Mo_modules 7 = .ok (.invokevirtual 190, 3) := by decide +kernel
theorem xd_Mo_modules_10 : decode xb_Mo_modules 10 = .ok (.ifCond .eq 12, 3) := by decide +kernel
theorem xd_Mo_modules_22 : decode xb_Mo_modules 22 = .ok (.iconst (-1), 1) := by decide +kernel
theorem xd_Mo_modules_23 : decode xb_Mo_modules 23 = .ok (.ireturn, 1) := by decide +kernel
theorem xd_Mo_oneName_0 : decode xb_Mo_oneName 0 = .ok (.aload_n 0, 1) := by decide +kernel
theorem xd_Mo_oneName_1 : decode xb_Mo_oneName 1 = .ok (.invokevirtual 101, 3) := by decide +kernel
theorem xd_Mo_oneName_4 : decode xb_Mo_oneName 4 = .ok (.aload_n 0, 1) := by decide +kernel
theorem xd_Mo_oneName_5 : decode xb_Mo_oneName 5 = .ok (.getfield 94, 3) := by decide +kernel
theorem xd_Mo_oneName_8 : decode xb_Mo_oneName 8 = .ok (.iconst 1, 1) := by decide +kernel
theorem xd_Mo_oneName_9 : decode xb_Mo_oneName 9 = .ok (.if_icmp .ne 11, 3) := by decide +kernel
theorem xd_Mo_oneName_20 : decode xb_Mo_oneName 20 = .ok (.iconst 0, 1) := by decide +kernel
theorem xd_Mo_oneName_21 : decode xb_Mo_oneName 21 = .ok (.ireturn, 1) := by decide +kernel
theorem xd_Mo_peek_0 : decode xb_Mo_peek 0 = .ok (.aload_n 0, 1) := by decide +kernel
theorem xd_Mo_peek_1 : decode xb_Mo_peek 1 = .ok (.iconst 0, 1) := by decide +kernel
theorem xd_Mo_peek_2 : decode xb_Mo_peek 2 = .ok (.putfield 87, 3) := by decide +kernel
theorem xd_Mo_peek_5 : decode xb_Mo_peek 5 = .ok (.aload_n 0, 1) := by decide +kernel
theorem xd_Mo_peek_6 : decode xb_Mo_peek 6 = .ok (.invokevirtual 205, 3) := by decide +kernel
theorem xd_Mo_peek_9 : decode xb_Mo_peek 9 = .ok (.istore 5, 2) := by decide +kernel
theorem xd_Mo_peek_11 : decode xb_Mo_peek 11 = .ok (.aload_n 0, 1) := by decide +kernel
theorem xd_Mo_peek_12 : decode xb_Mo_peek 12 = .ok (.iload_n 1, 1) := by decide +kernel
theorem xd_Mo_peek_13 : decode xb_Mo_peek 13 = .ok (.iload_n 2, 1) := by decide +kernel
theorem xd_Mo_peek_14 : decode xb_Mo_peek 14 = .ok (.invokevirtual 199, 3) := by decide +kernel
theorem xd_Mo_peek_17 : decode xb_Mo_peek 17 = .ok (.istore 6, 2) := by decide +kernel
theorem xd_Mo_peek_19 : decode xb_Mo_peek 19 = .ok (.iload 5, 2) := by decide +kernel
theorem xd_Mo_peek_21 : decode xb_Mo_peek 21 = .ok (.ifCond .eq 18, 3) := by decide +kernel
theorem xd_Mo_peek_39 : decode xb_Mo_peek 39 = .ok (.aload_n 0, 1) := by decide +kernel
theorem xd_Mo_peek_40 : decode xb_Mo_peek 40 = .ok (.iconst 1, 1) := by decide +kernel
theorem xd_Mo_peek_41 : decode xb_Mo_peek 41 = .ok (.putfield 87, 3) := by decide +kernel
theorem xd_Mo_peek_44 : decode xb_Mo_peek 44 = .ok (.iconst 0, 1) := by decide +kernel
theorem xd_Mo_peek_45 : decode xb_Mo_peek 45 = .ok (.ireturn, 1) := by decide +kernel
theorem xd_Mo_provider_0 : decode xb_Mo_provider 0 = .ok (.aload_n 0, 1) := by decide +kernel
theorem xd_Mo_provider_1 : decode xb_Mo_provider 1 = .ok (.iconst 0, 1) := by decide +kernel
theorem xd_Mo_provider_2 : decode xb_Mo_provider 2 = .ok (.putfield 87, 3) := by decide +kernel
theorem xd_Mo_provider_5 : decode xb_Mo_provider 5 = .ok (.aload_n 0, 1) := by decide +kernel
theorem xd_Mo_provider_6 : decode xb_Mo_provider 6 = .ok (.invokevirtual 205, 3) := by decide +kernel
theorem xd_Mo_provider_9 : decode xb_Mo_provider 9 = .ok (.istore_n 3, 1) := by decide +kernel
theorem xd_Mo_provider_10 : decode xb_Mo_provider 10 = .ok (.iload_n 3, 1) := by decide +kernel
theorem xd_Mo_provider_11 : decode xb_Mo_provider 11 = .ok (.ifCond .eq 11, 3) := by decide +kernel
theorem xd_Mo_provider_22 : decode xb_Mo_provider 22 = .ok (.aload_n 0, 1) := by decide +kernel
theorem xd_Mo_provider_23 : decode xb_Mo_provider 23 = .ok (.iconst 1, 1) := by decide +kernel
theorem xd_Mo_provider_24 : decode xb_Mo_provider 24 = .ok (.invokevirtual 129, 3) := by decide +kernel
theorem xd_Mo_provider_27 : decode xb_Mo_provider 27 = .ok (.ireturn, 1) := by decide +kernel
theorem xd_Mo_reads_0 : decode xb_Mo_reads 0 = .ok (.aload_n 0, 1) := by decide +kernel
theorem xd_Mo_reads_1 : decode xb_Mo_reads 1 = .ok (.iconst 0, 1) := by decide +kernel
theorem xd_Mo_reads_2 : decode xb_Mo_reads 2 = .ok (.putfield 87, 3) := by decide +kernel
theorem xd_Mo_reads_5 : decode xb_Mo_reads 5 = .ok (.aload_n 0, 1) := by decide +kernel
theorem xd_Mo_reads_6 : decode xb_Mo_reads 6 = .ok (.iload_n 1, 1) := by decide +kernel
theorem xd_Mo_reads_7 : decode xb_Mo_reads 7 = .ok (.iload_n 2, 1) := by decide +kernel
theorem xd_Mo_reads_8 : decode xb_Mo_reads 8 = .ok (.invokevirtual 199, 3) := by decide +kernel
theorem xd_Mo_reads_11 : decode xb_Mo_reads 11 = .ok (.istore 5, 2) := by decide +kernel
theorem xd_Mo_reads_13 : decode xb_Mo_reads 13 = .ok (.iload 5, 2) := by decide +kernel
theorem xd_Mo_reads_15 : decode xb_Mo_reads 15 = .ok (.ifCond .lt 13, 3) := by decide +kernel
theorem xd_Mo_reads_28 : decode xb_Mo_reads 28 = .ok (.iconst 0, 1) := by decide +kernel
theorem xd_Mo_reads_29 : decode xb_Mo_reads 29 = .ok (.ireturn, 1) := by decide +kernel
theorem xd_Mo_split_0 : decode xb_Mo_split 0 = .ok (.aload_n 0, 1) := by decide +kernel
theorem xd_Mo_split_1 : decode xb_Mo_split 1 = .ok (.iconst 0, 1) := by decide +kernel
theorem xd_Mo_split_2 : decode xb_Mo_split 2 = .ok (.putfield 94, 3) := by decide +kernel
theorem xd_Mo_split_5 : decode xb_Mo_split 5 = .ok (.iconst 0, 1) := by decide +kernel
theorem xd_Mo_split_6 : decode xb_Mo_split 6 = .ok (.istore_n 1, 1) := by decide +kernel
theorem xd_Mo_split_7 : decode xb_Mo_split 7 = .ok (.iload_n 1, 1) := by decide +kernel
theorem xd_Mo_split_8 : decode xb_Mo_split 8 = .ok (.aload_n 0, 1) := by decide +kernel
theorem xd_Mo_split_9 : decode xb_Mo_split 9 = .ok (.getfield 91, 3) := by decide +kernel
theorem xd_Mo_split_12 : decode xb_Mo_split 12 = .ok (.if_icmp .ge 94, 3) := by decide +kernel
theorem xd_Mo_split_106 : decode xb_Mo_split 106 = .ok (.aload_n 0, 1) := by decide +kernel
theorem xd_Mo_split_107 : decode xb_Mo_split 107 = .ok (.iconst 0, 1) := by decide +kernel
theorem xd_Mo_split_108 : decode xb_Mo_split 108 = .ok (.putfield 91, 3) := by decide +kernel
theorem xd_Mo_split_111 : decode xb_Mo_split 111 = .ok (.return_, 1) := by decide +kernel
theorem xd_Mo_thrown_0 : decode xb_Mo_thrown 0 = .ok (.aload_n 0, 1) := by decide +kernel
theorem xd_Mo_thrown_1 : decode xb_Mo_thrown 1 = .ok (.getfield 87, 3) := by decide +kernel
theorem xd_Mo_thrown_4 : decode xb_Mo_thrown 4 = .ok (.ireturn, 1) := by decide +kernel
theorem xd_Mo_write_0 : decode xb_Mo_write 0 = .ok (.aload_n 0, 1) := by decide +kernel
theorem xd_Mo_write_1 : decode xb_Mo_write 1 = .ok (.iconst 0, 1) := by decide +kernel
theorem xd_Mo_write_2 : decode xb_Mo_write 2 = .ok (.putfield 87, 3) := by decide +kernel
theorem xd_Mo_write_5 : decode xb_Mo_write 5 = .ok (.iload_n 1, 1) := by decide +kernel
theorem xd_Mo_write_6 : decode xb_Mo_write 6 = .ok (.bipush 32, 2) := by decide +kernel
theorem xd_Mo_write_8 : decode xb_Mo_write 8 = .ok (.if_icmp .lt 18, 3) := by decide +kernel
theorem xd_Mo_write_11 : decode xb_Mo_write 11 = .ok (.iload_n 1, 1) := by decide +kernel
theorem xd_Mo_write_12 : decode xb_Mo_write 12 = .ok (.bipush 126, 2) := by decide +kernel
theorem xd_Mo_write_14 : decode xb_Mo_write 14 = .ok (.if_icmp .gt 12, 3) := by decide +kernel
theorem xd_Mo_write_17 : decode xb_Mo_write 17 = .ok (.aload_n 0, 1) := by decide +kernel
theorem xd_Mo_write_18 : decode xb_Mo_write 18 = .ok (.getfield 91, 3) := by decide +kernel
theorem xd_Mo_write_21 : decode xb_Mo_write 21 = .ok (.bipush 40, 2) := by decide +kernel
theorem xd_Mo_write_23 : decode xb_Mo_write 23 = .ok (.if_icmp .lt 5, 3) := by decide +kernel
theorem xd_Mo_write_26 : decode xb_Mo_write 26 = .ok (.iconst 0, 1) := by decide +kernel
theorem xd_Mo_write_27 : decode xb_Mo_write 27 = .ok (.ireturn, 1) := by decide +kernel
theorem xd_Mo_write_28 : decode xb_Mo_write 28 = .ok (.aload_n 0, 1) := by decide +kernel
theorem xd_Mo_write_29 : decode xb_Mo_write 29 = .ok (.getfield 7, 3) := by decide +kernel
theorem xd_Mo_write_32 : decode xb_Mo_write 32 = .ok (.aload_n 0, 1) := by decide +kernel
theorem xd_Mo_write_33 : decode xb_Mo_write 33 = .ok (.getfield 91, 3) := by decide +kernel
theorem xd_Mo_write_36 : decode xb_Mo_write 36 = .ok (.iload_n 1, 1) := by decide +kernel
theorem xd_Mo_write_37 : decode xb_Mo_write 37 = .ok (.castore, 1) := by decide +kernel
theorem xd_Mo_write_38 : decode xb_Mo_write 38 = .ok (.aload_n 0, 1) := by decide +kernel
theorem xd_Mo_write_39 : decode xb_Mo_write 39 = .ok (.dup, 1) := by decide +kernel
theorem xd_Mo_write_40 : decode xb_Mo_write 40 = .ok (.getfield 91, 3) := by decide +kernel
theorem xd_Mo_write_43 : decode xb_Mo_write 43 = .ok (.iconst 1, 1) := by decide +kernel
theorem xd_Mo_write_44 : decode xb_Mo_write 44 = .ok (.iadd, 1) := by decide +kernel
theorem xd_Mo_write_45 : decode xb_Mo_write 45 = .ok (.putfield 91, 3) := by decide +kernel
theorem xd_Mo_write_48 : decode xb_Mo_write 48 = .ok (.iconst 1, 1) := by decide +kernel
theorem xd_Mo_write_49 : decode xb_Mo_write 49 = .ok (.ireturn, 1) := by decide +kernel
theorem xd_Sh_accept_0 : decode xb_Sh_accept 0 = .ok (.aload_n 1, 1) := by decide +kernel
theorem xd_Sh_accept_1 : decode xb_Sh_accept 1 = .ok (.getfield 27, 3) := by decide +kernel
theorem xd_Sh_accept_4 : decode xb_Sh_accept 4 = .ok (.ifCond .ne 5, 3) := by decide +kernel
theorem xd_Sh_accept_7 : decode xb_Sh_accept 7 = .ok (.iconst 0, 1) := by decide +kernel
theorem xd_Sh_accept_8 : decode xb_Sh_accept 8 = .ok (.ireturn, 1) := by decide +kernel
theorem xd_Sh_init_0 : decode xb_Sh_init 0 = .ok (.aload_n 0, 1) := by decide +kernel
theorem xd_Sh_init_1 : decode xb_Sh_init 1 = .ok (.invokespecial 3, 3) := by decide +kernel
theorem xd_Sh_init_4 : decode xb_Sh_init 4 = .ok (.aload_n 0, 1) := by decide +kernel
theorem xd_Sh_init_5 : decode xb_Sh_init 5 = .ok (.bipush 12, 2) := by decide +kernel
theorem xd_Sh_init_7 : decode xb_Sh_init 7 = .ok (.anewarray 9, 3) := by decide +kernel
theorem xd_Sh_init_10 : decode xb_Sh_init 10 = .ok (.putfield 11, 3) := by decide +kernel
theorem xd_Sh_init_13 : decode xb_Sh_init 13 = .ok (.aload_n 0, 1) := by decide +kernel
theorem xd_Sh_init_14 : decode xb_Sh_init 14 = .ok (.iconst 0, 1) := by decide +kernel
theorem xd_Sh_init_15 : decode xb_Sh_init 15 = .ok (.putfield 17, 3) := by decide +kernel
theorem xd_Sh_init_18 : decode xb_Sh_init 18 = .ok (.return_, 1) := by decide +kernel
theorem xk_0 : (Cond.methodLink "LayerDesk$Line" 1 ⟨"java/lang/Object", "<init>", "()V"⟩) ∈ wT := wT_t (List.mem_append_left _ (List.mem_of_getElem? (i := 35) rfl)) rfl
theorem xk_1 : (Cond.instanceMethod ⟨"java/lang/Object", "<init>", "()V"⟩) ∈ wT := wT_t (List.mem_append_left _ (List.mem_of_getElem? (i := 28) rfl)) rfl
theorem xk_2 : (Cond.code ⟨"java/lang/Object", "<init>", "()V"⟩ object_method_1_code 1 none) ∈ wT := wT_t (List.mem_append_left _ (List.mem_of_getElem? (i := 29) rfl)) rfl
theorem xk_3 : (Cond.arrayClass .char) ∈ wT := wT_t (List.mem_append_left _ (List.mem_of_getElem? (i := 54) rfl)) rfl
theorem xk_4 : (Cond.fieldLink "LayerDesk$Line" 9 "LayerDesk$Line" "text" "[C") ∈ wT := wT_t (List.mem_append_left _ (List.mem_of_getElem? (i := 36) rfl)) rfl
theorem xk_5 : (Cond.arrayClass .int) ∈ wT := wT_t (List.mem_append_left _ (List.mem_of_getElem? (i := 55) rfl)) rfl
theorem xk_6 : (Cond.fieldLink "LayerDesk$Line" 13 "LayerDesk$Line" "starts" "[I") ∈ wT := wT_t (List.mem_append_left _ (List.mem_of_getElem? (i := 37) rfl)) rfl
theorem xk_7 : (Cond.fieldLink "LayerDesk$Line" 17 "LayerDesk$Line" "ends" "[I") ∈ wT := wT_t (List.mem_append_left _ (List.mem_of_getElem? (i := 38) rfl)) rfl
theorem xk_8 : (Cond.fieldLink "LayerDesk$Line" 20 "LayerDesk$Line" "length" "I") ∈ wT := wT_t (List.mem_append_left _ (List.mem_of_getElem? (i := 39) rfl)) rfl
theorem xk_9 : (Cond.fieldLink "LayerDesk$Line" 24 "LayerDesk$Line" "words" "I") ∈ wT := wT_t (List.mem_append_left _ (List.mem_of_getElem? (i := 40) rfl)) rfl
theorem xk_10 : (Cond.methodLink "LayerDesk$Shelf" 3 ⟨"java/lang/Object", "<init>", "()V"⟩) ∈ wT := wT_t (List.mem_append_left _ (List.mem_of_getElem? (i := 61) rfl)) rfl
theorem xk_11 : (Cond.classLink "LayerDesk$Shelf" 9 "LayerDesk$Descriptor") ∈ wT := wT_t (List.mem_append_left _ (List.mem_of_getElem? (i := 62) rfl)) rfl
theorem xk_12 : (Cond.fieldLink "LayerDesk$Shelf" 11 "LayerDesk$Shelf" "descriptors" "[LLayerDesk$Descriptor;") ∈ wT := wT_t (List.mem_append_left _ (List.mem_of_getElem? (i := 64) rfl)) rfl
theorem xk_13 : (Cond.fieldLink "LayerDesk$Shelf" 17 "LayerDesk$Shelf" "size" "I") ∈ wT := wT_t (List.mem_append_left _ (List.mem_of_getElem? (i := 66) rfl)) rfl
theorem xk_14 : (Cond.methodLink "LayerDesk$Chooser" 3 ⟨"java/lang/Object", "<init>", "()V"⟩) ∈ wT := wT_t (List.mem_append_left _ (List.mem_of_getElem? (i := 79) rfl)) rfl
theorem xk_15 : (Cond.classLink "LayerDesk$Chooser" 9 "LayerDesk$Descriptor") ∈ wT := wT_t (List.mem_append_left _ (List.mem_of_getElem? (i := 80) rfl)) rfl
theorem xk_16 : (Cond.fieldLink "LayerDesk$Chooser" 11 "LayerDesk$Chooser" "chosen" "[LLayerDesk$Descriptor;") ∈ wT := wT_t (List.mem_append_left _ (List.mem_of_getElem? (i := 82) rfl)) rfl
theorem xk_17 : (Cond.fieldLink "LayerDesk$Chooser" 17 "LayerDesk$Chooser" "size" "I") ∈ wT := wT_t (List.mem_append_left _ (List.mem_of_getElem? (i := 83) rfl)) rfl
theorem xk_18 : (Cond.fieldLink "LayerDesk$Chooser" 21 "LayerDesk$Chooser" "finder" "I") ∈ wT := wT_t (List.mem_append_left _ (List.mem_of_getElem? (i := 84) rfl)) rfl
theorem xk_19 : (Cond.fieldLink "LayerDesk$Chooser" 24 "LayerDesk$Chooser" "parent" "LLayerDesk$Layer;") ∈ wT := wT_t (List.mem_append_left _ (List.mem_of_getElem? (i := 85) rfl)) rfl
theorem xk_20 : (Cond.fieldLink "LayerDesk$Chooser" 28 "LayerDesk$Chooser" "shelf" "LLayerDesk$Shelf;") ∈ wT := wT_t (List.mem_append_left _ (List.mem_of_getElem? (i := 81) rfl)) rfl
theorem xk_21 : (Cond.methodLink "LayerDesk" 1 ⟨"java/lang/Object", "<init>", "()V"⟩) ∈ wT := wT_t (List.mem_append_left _ (List.mem_of_getElem? (i := 27) rfl)) rfl
theorem xk_22 : (Cond.classLink "LayerDesk" 7 "LayerDesk$Line") ∈ wT := wT_t (List.mem_append_left _ (List.mem_of_getElem? (i := 30) rfl)) rfl
theorem xk_23 : (Cond.instantiable "LayerDesk$Line" 5) ∈ wT := wT_t (List.mem_append_left _ (List.mem_of_getElem? (i := 31) rfl)) rfl
theorem xk_24 : (Cond.initialized "LayerDesk$Line") ∈ wT := wT_t (List.mem_append_left _ (List.mem_of_getElem? (i := 2) rfl)) rfl
theorem xk_25 : (Cond.code xy_Li_init xb_Li_init 1 none) ∈ wT := wT_t (List.mem_append_left _ (List.mem_of_getElem? (i := 34) rfl)) rfl
theorem xk_26 : (Cond.instanceMethod xy_Li_init) ∈ wT := wT_t (List.mem_append_left _ (List.mem_of_getElem? (i := 33) rfl)) rfl
theorem xk_27 : (Cond.fieldLink "LayerDesk" 10 "LayerDesk" "written" "LLayerDesk$Line;") ∈ wT := wT_t (List.mem_append_left _ (List.mem_of_getElem? (i := 99) rfl)) rfl
theorem xk_28 : (Cond.classLink "LayerDesk" 16 "LayerDesk$Shelf") ∈ wT := wT_t (List.mem_append_left _ (List.mem_of_getElem? (i := 56) rfl)) rfl
theorem xk_29 : (Cond.instantiable "LayerDesk$Shelf" 2) ∈ wT := wT_t (List.mem_append_left _ (List.mem_of_getElem? (i := 57) rfl)) rfl
theorem xk_30 : (Cond.initialized "LayerDesk$Shelf") ∈ wT := wT_t (List.mem_append_left _ (List.mem_of_getElem? (i := 3) rfl)) rfl
theorem xk_31 : (Cond.code xy_Sh_init xb_Sh_init 1 none) ∈ wT := wT_t (List.mem_append_left _ (List.mem_of_getElem? (i := 60) rfl)) rfl
theorem xk_32 : (Cond.instanceMethod xy_Sh_init) ∈ wT := wT_t (List.mem_append_left _ (List.mem_of_getElem? (i := 59) rfl)) rfl
theorem xk_33 : (Cond.fieldLink "LayerDesk" 19 "LayerDesk" "shelf" "LLayerDesk$Shelf;") ∈ wT := wT_t (List.mem_append_left _ (List.mem_of_getElem? (i := 100) rfl)) rfl
theorem xk_34 : (Cond.classLink "LayerDesk" 23 "LayerDesk$Chooser") ∈ wT := wT_t (List.mem_append_left _ (List.mem_of_getElem? (i := 74) rfl)) rfl
theorem xk_35 : (Cond.instantiable "LayerDesk$Chooser" 5) ∈ wT := wT_t (List.mem_append_left _ (List.mem_of_getElem? (i := 75) rfl)) rfl
theorem xk_36 : (Cond.initialized "LayerDesk$Chooser") ∈ wT := wT_t (List.mem_append_left _ (List.mem_of_getElem? (i := 4) rfl)) rfl
theorem xk_37 : (Cond.code xy_Ch_init xb_Ch_init 2 none) ∈ wT := wT_t (List.mem_append_left _ (List.mem_of_getElem? (i := 78) rfl)) rfl
theorem xk_38 : (Cond.methodLink "LayerDesk" 25 xy_Ch_init) ∈ wT := wT_t (List.mem_append_left _ (List.mem_of_getElem? (i := 76) rfl)) rfl
theorem xk_39 : (Cond.instanceMethod xy_Ch_init) ∈ wT := wT_t (List.mem_append_left _ (List.mem_of_getElem? (i := 77) rfl)) rfl
theorem xk_40 : (Cond.fieldLink "LayerDesk" 28 "LayerDesk" "chooser" "LLayerDesk$Chooser;") ∈ wT := wT_t (List.mem_append_left _ (List.mem_of_getElem? (i := 101) rfl)) rfl
theorem xk_41 : (Cond.classLink "LayerDesk" 32 "LayerDesk$Layer") ∈ wT := wT_t (List.mem_append_left _ (List.mem_of_getElem? (i := 97) rfl)) rfl
theorem xk_42 : (Cond.fieldLink "LayerDesk" 34 "LayerDesk" "layers" "[LLayerDesk$Layer;") ∈ wT := wT_t (List.mem_append_left _ (List.mem_of_getElem? (i := 102) rfl)) rfl
theorem xk_43 : (Cond.fieldLink "LayerDesk" 38 "LayerDesk" "made" "I") ∈ wT := wT_t (List.mem_append_left _ (List.mem_of_getElem? (i := 103) rfl)) rfl
theorem xk_44 : (Cond.fieldLink "LayerDesk" 42 "LayerDesk" "latestFault" "I") ∈ wT := wT_t (List.mem_append_left _ (List.mem_of_getElem? (i := 104) rfl)) rfl
theorem xk_45 : (Cond.methodLink "LayerDeskModel" 1 ⟨"java/lang/Object", "<init>", "()V"⟩) ∈ wT := wT_t (List.mem_append_right _ (List.mem_append_right _ (List.mem_append_right _ (List.mem_append_left _ (List.mem_of_getElem? (i := 83) rfl))))) rfl
theorem xk_46 : (Cond.fieldLink "LayerDeskModel" 7 "LayerDeskModel" "text" "[C") ∈ wT := wT_t (List.mem_append_right _ (List.mem_append_right _ (List.mem_append_right _ (List.mem_append_left _ (List.mem_of_getElem? (i := 86) rfl))))) rfl
theorem xk_47 : (Cond.fieldLink "LayerDeskModel" 13 "LayerDeskModel" "begin" "[I") ∈ wT := wT_t (List.mem_append_right _ (List.mem_append_right _ (List.mem_append_right _ (List.mem_append_left _ (List.mem_of_getElem? (i := 89) rfl))))) rfl
theorem xk_48 : (Cond.fieldLink "LayerDeskModel" 17 "LayerDeskModel" "end" "[I") ∈ wT := wT_t (List.mem_append_right _ (List.mem_append_right _ (List.mem_append_right _ (List.mem_append_left _ (List.mem_of_getElem? (i := 90) rfl))))) rfl
theorem xk_49 : (Cond.fieldLink "LayerDeskModel" 20 "LayerDeskModel" "finder" "[I") ∈ wT := wT_t (List.mem_append_right _ (List.mem_append_right _ (List.mem_append_right _ (List.mem_append_left _ (List.mem_of_getElem? (i := 92) rfl))))) rfl
theorem xk_50 : (Cond.fieldLink "LayerDeskModel" 23 "LayerDeskModel" "name" "[I") ∈ wT := wT_t (List.mem_append_right _ (List.mem_append_right _ (List.mem_append_right _ (List.mem_append_left _ (List.mem_of_getElem? (i := 93) rfl))))) rfl
theorem xk_51 : (Cond.fieldLink "LayerDeskModel" 26 "LayerDeskModel" "packages" "[I") ∈ wT := wT_t (List.mem_append_right _ (List.mem_append_right _ (List.mem_append_right _ (List.mem_append_left _ (List.mem_of_getElem? (i := 94) rfl))))) rfl
theorem xk_52 : (Cond.fieldLink "LayerDeskModel" 29 "LayerDeskModel" "pack" "[I") ∈ wT := wT_t (List.mem_append_right _ (List.mem_append_right _ (List.mem_append_right _ (List.mem_append_left _ (List.mem_of_getElem? (i := 95) rfl))))) rfl
theorem xk_53 : (Cond.fieldLink "LayerDeskModel" 32 "LayerDeskModel" "exportTo" "[I") ∈ wT := wT_t (List.mem_append_right _ (List.mem_append_right _ (List.mem_append_right _ (List.mem_append_left _ (List.mem_of_getElem? (i := 96) rfl))))) rfl
theorem xk_54 : (Cond.fieldLink "LayerDeskModel" 35 "LayerDeskModel" "openTo" "[I") ∈ wT := wT_t (List.mem_append_right _ (List.mem_append_right _ (List.mem_append_right _ (List.mem_append_left _ (List.mem_of_getElem? (i := 97) rfl))))) rfl
theorem xk_55 : (Cond.arrayClass .boolean) ∈ wT := wT_t (List.mem_append_right _ (List.mem_append_left _ (List.mem_of_getElem? (i := 110) rfl))) rfl
theorem xk_56 : (Cond.fieldLink "LayerDeskModel" 38 "LayerDeskModel" "exportAll" "[Z") ∈ wT := wT_t (List.mem_append_right _ (List.mem_append_right _ (List.mem_append_right _ (List.mem_append_left _ (List.mem_of_getElem? (i := 98) rfl))))) rfl
theorem xk_57 : (Cond.fieldLink "LayerDeskModel" 42 "LayerDeskModel" "openAll" "[Z") ∈ wT := wT_t (List.mem_append_right _ (List.mem_append_right _ (List.mem_append_right _ (List.mem_append_left _ (List.mem_of_getElem? (i := 99) rfl))))) rfl
theorem xk_58 : (Cond.fieldLink "LayerDeskModel" 45 "LayerDeskModel" "locked" "[Z") ∈ wT := wT_t (List.mem_append_right _ (List.mem_append_right _ (List.mem_append_right _ (List.mem_append_left _ (List.mem_of_getElem? (i := 100) rfl))))) rfl
theorem xk_59 : (Cond.fieldLink "LayerDeskModel" 48 "LayerDeskModel" "requires" "[I") ∈ wT := wT_t (List.mem_append_right _ (List.mem_append_right _ (List.mem_append_right _ (List.mem_append_left _ (List.mem_of_getElem? (i := 101) rfl))))) rfl
theorem xk_60 : (Cond.fieldLink "LayerDeskModel" 51 "LayerDeskModel" "require" "[I") ∈ wT := wT_t (List.mem_append_right _ (List.mem_append_right _ (List.mem_append_right _ (List.mem_append_left _ (List.mem_of_getElem? (i := 102) rfl))))) rfl
theorem xk_61 : (Cond.fieldLink "LayerDeskModel" 54 "LayerDeskModel" "use" "[I") ∈ wT := wT_t (List.mem_append_right _ (List.mem_append_right _ (List.mem_append_right _ (List.mem_append_left _ (List.mem_of_getElem? (i := 103) rfl))))) rfl
theorem xk_62 : (Cond.fieldLink "LayerDeskModel" 57 "LayerDeskModel" "provide" "[I") ∈ wT := wT_t (List.mem_append_right _ (List.mem_append_right _ (List.mem_append_right _ (List.mem_append_left _ (List.mem_of_getElem? (i := 104) rfl))))) rfl
theorem xk_63 : (Cond.fieldLink "LayerDeskModel" 60 "LayerDeskModel" "passes" "[Z") ∈ wT := wT_t (List.mem_append_right _ (List.mem_append_right _ (List.mem_append_right _ (List.mem_append_left _ (List.mem_of_getElem? (i := 105) rfl))))) rfl
theorem xk_64 : (Cond.fieldLink "LayerDeskModel" 63 "LayerDeskModel" "still" "[Z") ∈ wT := wT_t (List.mem_append_right _ (List.mem_append_right _ (List.mem_append_right _ (List.mem_append_left _ (List.mem_of_getElem? (i := 106) rfl))))) rfl
theorem xk_65 : (Cond.fieldLink "LayerDeskModel" 66 "LayerDeskModel" "finderOf" "[I") ∈ wT := wT_t (List.mem_append_right _ (List.mem_append_right _ (List.mem_append_right _ (List.mem_append_left _ (List.mem_of_getElem? (i := 108) rfl))))) rfl
theorem xk_66 : (Cond.fieldLink "LayerDeskModel" 69 "LayerDeskModel" "parent" "[I") ∈ wT := wT_t (List.mem_append_right _ (List.mem_append_right _ (List.mem_append_right _ (List.mem_append_left _ (List.mem_of_getElem? (i := 109) rfl))))) rfl
theorem xk_67 : (Cond.fieldLink "LayerDeskModel" 72 "LayerDeskModel" "modules" "[I") ∈ wT := wT_t (List.mem_append_right _ (List.mem_append_right _ (List.mem_append_right _ (List.mem_append_left _ (List.mem_of_getElem? (i := 110) rfl))))) rfl
theorem xk_68 : (Cond.fieldLink "LayerDeskModel" 75 "LayerDeskModel" "module" "[I") ∈ wT := wT_t (List.mem_append_right _ (List.mem_append_right _ (List.mem_append_right _ (List.mem_append_left _ (List.mem_of_getElem? (i := 111) rfl))))) rfl
theorem xk_69 : (Cond.fieldLink "LayerDeskModel" 78 "LayerDeskModel" "open" "[Z") ∈ wT := wT_t (List.mem_append_right _ (List.mem_append_right _ (List.mem_append_right _ (List.mem_append_left _ (List.mem_of_getElem? (i := 112) rfl))))) rfl
theorem xk_70 : (Cond.fieldLink "LayerDeskModel" 81 "LayerDeskModel" "stack" "[I") ∈ wT := wT_t (List.mem_append_right _ (List.mem_append_right _ (List.mem_append_right _ (List.mem_append_left _ (List.mem_of_getElem? (i := 113) rfl))))) rfl
theorem xk_71 : (Cond.fieldLink "LayerDeskModel" 84 "LayerDeskModel" "seen" "[Z") ∈ wT := wT_t (List.mem_append_right _ (List.mem_append_right _ (List.mem_append_right _ (List.mem_append_left _ (List.mem_of_getElem? (i := 114) rfl))))) rfl
theorem xk_72 : (Cond.code xy_Li_append xb_Li_append 2 (some .boolean)) ∈ wT := wT_t (List.mem_append_left _ (List.mem_of_getElem? (i := 125) rfl)) rfl
theorem xk_73 : (Cond.methodLink "LayerDesk" 45 xy_Li_append) ∈ wT := wT_t (List.mem_append_left _ (List.mem_of_getElem? (i := 122) rfl)) rfl
theorem xk_74 : (Cond.instanceMethod xy_Li_append) ∈ wT := wT_t (List.mem_append_left _ (List.mem_of_getElem? (i := 123) rfl)) rfl
theorem xk_75 : (Cond.selects "LayerDesk$Line" xy_Li_append xy_Li_append) ∈ wT := wT_t (List.mem_append_left _ (List.mem_of_getElem? (i := 124) rfl)) rfl
theorem xk_76 : (Cond.code xy_Li_take xb_Li_take 3 none) ∈ wT := wT_t (List.mem_append_left _ (List.mem_of_getElem? (i := 190) rfl)) rfl
theorem xk_77 : (Cond.methodLink "LayerDesk$Line" 27 xy_Li_take) ∈ wT := wT_t (List.mem_append_right _ (List.mem_append_right _ (List.mem_append_right _ (List.mem_append_left _ (List.mem_of_getElem? (i := 43) rfl))))) rfl
theorem xk_78 : (Cond.instanceMethod xy_Li_take) ∈ wT := wT_t (List.mem_append_left _ (List.mem_of_getElem? (i := 188) rfl)) rfl
theorem xk_79 : (Cond.selects "LayerDesk$Line" xy_Li_take xy_Li_take) ∈ wT := wT_t (List.mem_append_left _ (List.mem_of_getElem? (i := 189) rfl)) rfl
theorem xk_80 : (Cond.fieldLink "LayerDesk$Shelf" 27 "LayerDesk$Line" "words" "I") ∈ wT := wT_t (List.mem_append_left _ (List.mem_of_getElem? (i := 41) rfl)) rfl
theorem xk_81 : (Cond.methodLink "LayerDesk" 49 xy_Li_take) ∈ wT := wT_t (List.mem_append_left _ (List.mem_of_getElem? (i := 187) rfl)) rfl
theorem xk_82 : (Cond.code xy_Sh_accept xb_Sh_accept 2 (some .int)) ∈ wT := wT_t (List.mem_append_left _ (List.mem_of_getElem? (i := 194) rfl)) rfl
theorem xk_83 : (Cond.methodLink "LayerDesk" 52 xy_Sh_accept) ∈ wT := wT_t (List.mem_append_left _ (List.mem_of_getElem? (i := 191) rfl)) rfl
theorem xk_84 : (Cond.instanceMethod xy_Sh_accept) ∈ wT := wT_t (List.mem_append_left _ (List.mem_of_getElem? (i := 192) rfl)) rfl
theorem xk_85 : (Cond.selects "LayerDesk$Shelf" xy_Sh_accept xy_Sh_accept) ∈ wT := wT_t (List.mem_append_left _ (List.mem_of_getElem? (i := 193) rfl)) rfl
theorem xk_86 : (Cond.code xy_De_openLayer xb_De_openLayer 3 (some (.object "LayerDesk$Layer"))) ∈ wT := wT_t (List.mem_append_left _ (List.mem_of_getElem? (i := 137) rfl)) rfl
theorem xk_87 : (Cond.methodLink "LayerDesk" 68 xy_De_openLayer) ∈ wT := wT_t (List.mem_append_left _ (List.mem_of_getElem? (i := 134) rfl)) rfl
theorem xk_88 : (Cond.instanceMethod xy_De_openLayer) ∈ wT := wT_t (List.mem_append_left _ (List.mem_of_getElem? (i := 136) rfl)) rfl
theorem xk_89 : (Cond.selects "LayerDesk" xy_De_openLayer xy_De_openLayer) ∈ wT := wT_s (q := (xy_De_openLayer, 6)) (by decide +kernel) rfl
theorem xk_90 : (Cond.initialized "LayerDesk") ∈ wT := wT_t (List.mem_append_left _ (List.mem_of_getElem? (i := 1) rfl)) rfl
theorem xk_91 : (Cond.fieldLink "LayerDesk" 121 "LayerDesk$Shelf" "size" "I") ∈ wT := wT_t (List.mem_append_left _ (List.mem_of_getElem? (i := 67) rfl)) rfl
theorem xk_92 : (Cond.code xy_De_countOpen xb_De_countOpen 3 (some .int)) ∈ wT := wT_t (List.mem_append_left _ (List.mem_of_getElem? (i := 149) rfl)) rfl
theorem xk_93 : (Cond.methodLink "LayerDesk" 124 xy_De_countOpen) ∈ wT := wT_t (List.mem_append_left _ (List.mem_of_getElem? (i := 146) rfl)) rfl
theorem xk_94 : (Cond.instanceMethod xy_De_countOpen) ∈ wT := wT_t (List.mem_append_left _ (List.mem_of_getElem? (i := 148) rfl)) rfl
theorem xk_95 : (Cond.selects "LayerDesk" xy_De_countOpen xy_De_countOpen) ∈ wT := wT_s (q := (xy_De_countOpen, 6)) (by decide +kernel) rfl
theorem xk_96 : (Cond.code xy_De_memberAt xb_De_memberAt 4 (some (.object "LayerDesk$Member"))) ∈ wT := wT_t (List.mem_append_left _ (List.mem_of_getElem? (i := 161) rfl)) rfl
theorem xk_97 : (Cond.methodLink "LayerDesk" 132 xy_De_memberAt) ∈ wT := wT_t (List.mem_append_left _ (List.mem_of_getElem? (i := 158) rfl)) rfl
theorem xk_98 : (Cond.instanceMethod xy_De_memberAt) ∈ wT := wT_t (List.mem_append_left _ (List.mem_of_getElem? (i := 160) rfl)) rfl
theorem xk_99 : (Cond.selects "LayerDesk" xy_De_memberAt xy_De_memberAt) ∈ wT := wT_s (q := (xy_De_memberAt, 6)) (by decide +kernel) rfl
theorem xk_100 : (Cond.code xy_De_memberOf xb_De_memberOf 4 (some (.object "LayerDesk$Member"))) ∈ wT := wT_t (List.mem_append_left _ (List.mem_of_getElem? (i := 169) rfl)) rfl
theorem xk_101 : (Cond.methodLink "LayerDesk" 145 xy_De_memberOf) ∈ wT := wT_t (List.mem_append_left _ (List.mem_of_getElem? (i := 166) rfl)) rfl
theorem xk_102 : (Cond.instanceMethod xy_De_memberOf) ∈ wT := wT_t (List.mem_append_left _ (List.mem_of_getElem? (i := 168) rfl)) rfl
theorem xk_103 : (Cond.selects "LayerDesk" xy_De_memberOf xy_De_memberOf) ∈ wT := wT_s (q := (xy_De_memberOf, 6)) (by decide +kernel) rfl
theorem xk_104 : (Cond.fieldLink "LayerDesk" 198 "LayerDesk$Line" "words" "I") ∈ wT := wT_t (List.mem_append_left _ (List.mem_of_getElem? (i := 42) rfl)) rfl
theorem xk_105 : (Cond.code xy_De_rootsAreNames xb_De_rootsAreNames 2 (some .boolean)) ∈ wT := wT_t (List.mem_append_right _ (List.mem_append_right _ (List.mem_append_left _ (List.mem_of_getElem? (i := 59) rfl)))) rfl
theorem xk_106 : (Cond.methodLink "LayerDesk" 72 xy_De_rootsAreNames) ∈ wT := wT_t (List.mem_append_right _ (List.mem_append_right _ (List.mem_append_left _ (List.mem_of_getElem? (i := 56) rfl)))) rfl
theorem xk_107 : (Cond.instanceMethod xy_De_rootsAreNames) ∈ wT := wT_t (List.mem_append_right _ (List.mem_append_right _ (List.mem_append_left _ (List.mem_of_getElem? (i := 58) rfl)))) rfl
theorem xk_108 : (Cond.selects "LayerDesk" xy_De_rootsAreNames xy_De_rootsAreNames) ∈ wT := wT_s (q := (xy_De_rootsAreNames, 6)) (by decide +kernel) rfl
theorem xk_109 : (Cond.classLink "LayerDesk" 56 "java/lang/IllegalArgumentException") ∈ wT := wT_t (List.mem_append_right _ (List.mem_append_left _ (List.mem_of_getElem? (i := 205) rfl))) rfl
theorem xk_110 : (Cond.initialized "java/lang/IllegalArgumentException") ∈ wT := wT_t (List.mem_append_left _ (List.mem_of_getElem? (i := 16) rfl)) rfl
theorem xk_111 : (Cond.code xy_Li_takeName xb_Li_takeName 1 (some .int)) ∈ wT := wT_t (List.mem_append_right _ (List.mem_append_right _ (List.mem_append_right _ (List.mem_append_left _ (List.mem_of_getElem? (i := 42) rfl))))) rfl
theorem xk_112 : (Cond.methodLink "LayerDesk" 158 xy_Li_takeName) ∈ wT := wT_t (List.mem_append_right _ (List.mem_append_right _ (List.mem_append_right _ (List.mem_append_left _ (List.mem_of_getElem? (i := 39) rfl))))) rfl
theorem xk_113 : (Cond.instanceMethod xy_Li_takeName) ∈ wT := wT_t (List.mem_append_right _ (List.mem_append_right _ (List.mem_append_right _ (List.mem_append_left _ (List.mem_of_getElem? (i := 40) rfl))))) rfl
theorem xk_114 : (Cond.selects "LayerDesk$Line" xy_Li_takeName xy_Li_takeName) ∈ wT := wT_t (List.mem_append_right _ (List.mem_append_right _ (List.mem_append_right _ (List.mem_append_left _ (List.mem_of_getElem? (i := 41) rfl))))) rfl
theorem xk_115 : (Cond.fieldLink "LayerDeskModel" 87 "LayerDeskModel" "fault" "I") ∈ wT := wT_t (List.mem_append_right _ (List.mem_append_right _ (List.mem_append_right _ (List.mem_append_left _ (List.mem_of_getElem? (i := 84) rfl))))) rfl
theorem xk_116 : (Cond.fieldLink "LayerDeskModel" 91 "LayerDeskModel" "written" "I") ∈ wT := wT_t (List.mem_append_right _ (List.mem_append_right _ (List.mem_append_right _ (List.mem_append_left _ (List.mem_of_getElem? (i := 87) rfl))))) rfl
theorem xk_117 : (Cond.fieldLink "LayerDeskModel" 94 "LayerDeskModel" "words" "I") ∈ wT := wT_t (List.mem_append_right _ (List.mem_append_right _ (List.mem_append_right _ (List.mem_append_left _ (List.mem_of_getElem? (i := 88) rfl))))) rfl
theorem xk_118 : (Cond.code xy_Mo_split xb_Mo_split 2 none) ∈ wT := wT_t (List.mem_append_right _ (List.mem_append_right _ (List.mem_append_right _ (List.mem_append_left _ (List.mem_of_getElem? (i := 193) rfl))))) rfl
theorem xk_119 : (Cond.methodLink "LayerDeskModel" 101 xy_Mo_split) ∈ wT := wT_t (List.mem_append_right _ (List.mem_append_right _ (List.mem_append_right _ (List.mem_append_left _ (List.mem_of_getElem? (i := 190) rfl))))) rfl
theorem xk_120 : (Cond.instanceMethod xy_Mo_split) ∈ wT := wT_t (List.mem_append_right _ (List.mem_append_right _ (List.mem_append_right _ (List.mem_append_left _ (List.mem_of_getElem? (i := 192) rfl))))) rfl
theorem xk_121 : (Cond.selects "LayerDeskModel" xy_Mo_split xy_Mo_split) ∈ wT := wT_s (q := (xy_Mo_split, 31)) (by decide +kernel) rfl
theorem xk_122 : (Cond.initialized "LayerDeskModel") ∈ wT := wT_t (List.mem_append_left _ (List.mem_of_getElem? (i := 5) rfl)) rfl
theorem xk_123 : (Cond.fieldLink "LayerDeskModel" 150 "LayerDeskModel" "layers" "I") ∈ wT := wT_t (List.mem_append_right _ (List.mem_append_right _ (List.mem_append_right _ (List.mem_append_left _ (List.mem_of_getElem? (i := 107) rfl))))) rfl
theorem xk_124 : (Cond.fieldLink "LayerDeskModel" 187 "LayerDeskModel" "why" "I") ∈ wT := wT_t (List.mem_append_right _ (List.mem_append_right _ (List.mem_append_right _ (List.mem_append_left _ (List.mem_of_getElem? (i := 85) rfl))))) rfl
theorem xk_125 : (Cond.code xy_Mo_fails xb_Mo_fails 2 (some .int)) ∈ wT := wT_t (List.mem_append_right _ (List.mem_append_right _ (List.mem_append_right _ (List.mem_append_right _ (List.mem_of_getElem? (i := 4) rfl))))) rfl
theorem xk_126 : (Cond.methodLink "LayerDeskModel" 129 xy_Mo_fails) ∈ wT := wT_t (List.mem_append_right _ (List.mem_append_right _ (List.mem_append_right _ (List.mem_append_right _ (List.mem_of_getElem? (i := 1) rfl))))) rfl
theorem xk_127 : (Cond.instanceMethod xy_Mo_fails) ∈ wT := wT_t (List.mem_append_right _ (List.mem_append_right _ (List.mem_append_right _ (List.mem_append_right _ (List.mem_of_getElem? (i := 3) rfl))))) rfl
theorem xk_128 : (Cond.selects "LayerDeskModel" xy_Mo_fails xy_Mo_fails) ∈ wT := wT_s (q := (xy_Mo_fails, 31)) (by decide +kernel) rfl
theorem xk_129 : (Cond.code xy_Mo_isOpen xb_Mo_isOpen 2 (some .boolean)) ∈ wT := wT_t (List.mem_append_right _ (List.mem_append_right _ (List.mem_append_right _ (List.mem_append_right _ (List.mem_of_getElem? (i := 12) rfl))))) rfl
theorem xk_130 : (Cond.methodLink "LayerDeskModel" 190 xy_Mo_isOpen) ∈ wT := wT_t (List.mem_append_right _ (List.mem_append_right _ (List.mem_append_right _ (List.mem_append_right _ (List.mem_of_getElem? (i := 9) rfl))))) rfl
theorem xk_131 : (Cond.instanceMethod xy_Mo_isOpen) ∈ wT := wT_t (List.mem_append_right _ (List.mem_append_right _ (List.mem_append_right _ (List.mem_append_right _ (List.mem_of_getElem? (i := 11) rfl))))) rfl
theorem xk_132 : (Cond.selects "LayerDeskModel" xy_Mo_isOpen xy_Mo_isOpen) ∈ wT := wT_s (q := (xy_Mo_isOpen, 31)) (by decide +kernel) rfl
theorem xk_133 : (Cond.fieldLink "LayerDeskModel" 140 "LayerDeskModel" "descriptors" "I") ∈ wT := wT_t (List.mem_append_right _ (List.mem_append_right _ (List.mem_append_right _ (List.mem_append_left _ (List.mem_of_getElem? (i := 91) rfl))))) rfl
theorem xk_134 : (Cond.code xy_Mo_moduleOf xb_Mo_moduleOf 3 (some .int)) ∈ wT := wT_t (List.mem_append_right _ (List.mem_append_right _ (List.mem_append_right _ (List.mem_append_right _ (List.mem_of_getElem? (i := 84) rfl))))) rfl
theorem xk_135 : (Cond.methodLink "LayerDeskModel" 199 xy_Mo_moduleOf) ∈ wT := wT_t (List.mem_append_right _ (List.mem_append_right _ (List.mem_append_right _ (List.mem_append_right _ (List.mem_of_getElem? (i := 81) rfl))))) rfl
theorem xk_136 : (Cond.instanceMethod xy_Mo_moduleOf) ∈ wT := wT_t (List.mem_append_right _ (List.mem_append_right _ (List.mem_append_right _ (List.mem_append_right _ (List.mem_of_getElem? (i := 83) rfl))))) rfl
theorem xk_137 : (Cond.selects "LayerDeskModel" xy_Mo_moduleOf xy_Mo_moduleOf) ∈ wT := wT_s (q := (xy_Mo_moduleOf, 31)) (by decide +kernel) rfl
theorem xk_138 : (Cond.code xy_Mo_oneName xb_Mo_oneName 1 (some .int)) ∈ wT := wT_t (List.mem_append_right _ (List.mem_append_right _ (List.mem_append_right _ (List.mem_append_right _ (List.mem_of_getElem? (i := 100) rfl))))) rfl
theorem xk_139 : (Cond.methodLink "LayerDeskModel" 205 xy_Mo_oneName) ∈ wT := wT_t (List.mem_append_right _ (List.mem_append_right _ (List.mem_append_right _ (List.mem_append_right _ (List.mem_of_getElem? (i := 97) rfl))))) rfl
theorem xk_140 : (Cond.instanceMethod xy_Mo_oneName) ∈ wT := wT_t (List.mem_append_right _ (List.mem_append_right _ (List.mem_append_right _ (List.mem_append_right _ (List.mem_of_getElem? (i := 99) rfl))))) rfl
theorem xk_141 : (Cond.selects "LayerDeskModel" xy_Mo_oneName xy_Mo_oneName) ∈ wT := wT_s (q := (xy_Mo_oneName, 31)) (by decide +kernel) rfl
theorem xk_142 : (Cond.code xy_De_line xb_De_line 2 (some .int)) ∈ wT := wT_t (List.mem_append_left _ (List.mem_of_getElem? (i := 186) rfl)) rfl
theorem xk_143 : (Cond.methodLink "LayerDeskLaw" 7 xy_De_line) ∈ wT := wT_t (List.mem_append_left _ (List.mem_of_getElem? (i := 183) rfl)) rfl
theorem xk_144 : (Cond.instanceMethod xy_De_line) ∈ wT := wT_t (List.mem_append_left _ (List.mem_of_getElem? (i := 184) rfl)) rfl
theorem xk_145 : (Cond.selects "LayerDesk" xy_De_line xy_De_line) ∈ wT := wT_t (List.mem_append_left _ (List.mem_of_getElem? (i := 185) rfl)) rfl
theorem xk_146 : (Cond.code xy_De_layer xb_De_layer 7 (some .int)) ∈ wT := wT_t (List.mem_append_right _ (List.mem_append_right _ (List.mem_append_left _ (List.mem_of_getElem? (i := 55) rfl)))) rfl
theorem xk_147 : (Cond.methodLink "LayerDeskLaw" 17 xy_De_layer) ∈ wT := wT_t (List.mem_append_right _ (List.mem_append_right _ (List.mem_append_left _ (List.mem_of_getElem? (i := 52) rfl)))) rfl
theorem xk_148 : (Cond.instanceMethod xy_De_layer) ∈ wT := wT_t (List.mem_append_right _ (List.mem_append_right _ (List.mem_append_left _ (List.mem_of_getElem? (i := 53) rfl)))) rfl
theorem xk_149 : (Cond.selects "LayerDesk" xy_De_layer xy_De_layer) ∈ wT := wT_t (List.mem_append_right _ (List.mem_append_right _ (List.mem_append_left _ (List.mem_of_getElem? (i := 54) rfl)))) rfl
theorem xk_150 : (Cond.classLink "LayerDeskLaw" 13 "java/lang/IllegalArgumentException") ∈ wT := wT_t (List.mem_append_left _ (List.mem_of_getElem? (i := 181) rfl)) rfl
theorem xk_151 : (Cond.code xy_De_load xb_De_load 6 (some .int)) ∈ wT := wT_t (List.mem_append_right _ (List.mem_append_right _ (List.mem_append_right _ (List.mem_append_left _ (List.mem_of_getElem? (i := 38) rfl))))) rfl
theorem xk_152 : (Cond.methodLink "LayerDeskLaw" 23 xy_De_load) ∈ wT := wT_t (List.mem_append_right _ (List.mem_append_right _ (List.mem_append_right _ (List.mem_append_left _ (List.mem_of_getElem? (i := 35) rfl))))) rfl
theorem xk_153 : (Cond.instanceMethod xy_De_load) ∈ wT := wT_t (List.mem_append_right _ (List.mem_append_right _ (List.mem_append_right _ (List.mem_append_left _ (List.mem_of_getElem? (i := 36) rfl))))) rfl
theorem xk_154 : (Cond.selects "LayerDesk" xy_De_load xy_De_load) ∈ wT := wT_t (List.mem_append_right _ (List.mem_append_right _ (List.mem_append_right _ (List.mem_append_left _ (List.mem_of_getElem? (i := 37) rfl))))) rfl
theorem xk_155 : (Cond.code xy_De_peek xb_De_peek 8 (some .boolean)) ∈ wT := wT_t (List.mem_append_right _ (List.mem_append_right _ (List.mem_append_right _ (List.mem_append_left _ (List.mem_of_getElem? (i := 59) rfl))))) rfl
theorem xk_156 : (Cond.methodLink "LayerDeskLaw" 27 xy_De_peek) ∈ wT := wT_t (List.mem_append_right _ (List.mem_append_right _ (List.mem_append_right _ (List.mem_append_left _ (List.mem_of_getElem? (i := 56) rfl))))) rfl
theorem xk_157 : (Cond.instanceMethod xy_De_peek) ∈ wT := wT_t (List.mem_append_right _ (List.mem_append_right _ (List.mem_append_right _ (List.mem_append_left _ (List.mem_of_getElem? (i := 57) rfl))))) rfl
theorem xk_158 : (Cond.selects "LayerDesk" xy_De_peek xy_De_peek) ∈ wT := wT_t (List.mem_append_right _ (List.mem_append_right _ (List.mem_append_right _ (List.mem_append_left _ (List.mem_of_getElem? (i := 58) rfl))))) rfl
theorem xk_159 : (Cond.code xy_De_provider xb_De_provider 6 (some .int)) ∈ wT := wT_t (List.mem_append_right _ (List.mem_append_right _ (List.mem_append_right _ (List.mem_append_left _ (List.mem_of_getElem? (i := 71) rfl))))) rfl
theorem xk_160 : (Cond.methodLink "LayerDeskLaw" 31 xy_De_provider) ∈ wT := wT_t (List.mem_append_right _ (List.mem_append_right _ (List.mem_append_right _ (List.mem_append_left _ (List.mem_of_getElem? (i := 68) rfl))))) rfl
theorem xk_161 : (Cond.instanceMethod xy_De_provider) ∈ wT := wT_t (List.mem_append_right _ (List.mem_append_right _ (List.mem_append_right _ (List.mem_append_left _ (List.mem_of_getElem? (i := 69) rfl))))) rfl
theorem xk_162 : (Cond.selects "LayerDesk" xy_De_provider xy_De_provider) ∈ wT := wT_t (List.mem_append_right _ (List.mem_append_right _ (List.mem_append_right _ (List.mem_append_left _ (List.mem_of_getElem? (i := 70) rfl))))) rfl
theorem xk_163 : (Cond.classLink "LayerDeskLaw" 8 "LayerDesk") ∈ wT := wT_t (List.mem_append_left _ (List.mem_of_getElem? (i := 22) rfl)) rfl
theorem xk_164 : (Cond.instantiable "LayerDesk" 6) ∈ wT := wT_t (List.mem_append_left _ (List.mem_of_getElem? (i := 23) rfl)) rfl
theorem xk_165 : (Cond.code xy_De_init xb_De_init 1 none) ∈ wT := wT_t (List.mem_append_left _ (List.mem_of_getElem? (i := 26) rfl)) rfl
theorem xk_166 : (Cond.methodLink "LayerDeskLaw" 34 xy_De_init) ∈ wT := wT_t (List.mem_append_left _ (List.mem_of_getElem? (i := 24) rfl)) rfl
theorem xk_167 : (Cond.instanceMethod xy_De_init) ∈ wT := wT_t (List.mem_append_left _ (List.mem_of_getElem? (i := 25) rfl)) rfl
theorem xk_168 : (Cond.classLink "LayerDeskLaw" 35 "LayerDeskModel") ∈ wT := wT_t (List.mem_append_right _ (List.mem_append_right _ (List.mem_append_right _ (List.mem_append_left _ (List.mem_of_getElem? (i := 78) rfl))))) rfl
theorem xk_169 : (Cond.instantiable "LayerDeskModel" 31) ∈ wT := wT_t (List.mem_append_right _ (List.mem_append_right _ (List.mem_append_right _ (List.mem_append_left _ (List.mem_of_getElem? (i := 79) rfl))))) rfl
theorem xk_170 : (Cond.code xy_Mo_init xb_Mo_init 1 none) ∈ wT := wT_t (List.mem_append_right _ (List.mem_append_right _ (List.mem_append_right _ (List.mem_append_left _ (List.mem_of_getElem? (i := 82) rfl))))) rfl
theorem xk_171 : (Cond.methodLink "LayerDeskLaw" 37 xy_Mo_init) ∈ wT := wT_t (List.mem_append_right _ (List.mem_append_right _ (List.mem_append_right _ (List.mem_append_left _ (List.mem_of_getElem? (i := 80) rfl))))) rfl
theorem xk_172 : (Cond.instanceMethod xy_Mo_init) ∈ wT := wT_t (List.mem_append_right _ (List.mem_append_right _ (List.mem_append_right _ (List.mem_append_left _ (List.mem_of_getElem? (i := 81) rfl))))) rfl
theorem xk_173 : (Cond.arrayClass .long) ∈ wT := wT_t (List.mem_append_right _ (List.mem_append_right _ (List.mem_append_right _ (List.mem_append_right _ (List.mem_of_getElem? (i := 109) rfl))))) rfl
theorem xk_174 : (Cond.code xy_De_write xb_De_write 2 (some .boolean)) ∈ wT := wT_t (List.mem_append_left _ (List.mem_of_getElem? (i := 121) rfl)) rfl
theorem xk_175 : (Cond.methodLink "LayerDeskLaw" 38 xy_De_write) ∈ wT := wT_t (List.mem_append_left _ (List.mem_of_getElem? (i := 118) rfl)) rfl
theorem xk_176 : (Cond.instanceMethod xy_De_write) ∈ wT := wT_t (List.mem_append_left _ (List.mem_of_getElem? (i := 119) rfl)) rfl
theorem xk_177 : (Cond.selects "LayerDesk" xy_De_write xy_De_write) ∈ wT := wT_t (List.mem_append_left _ (List.mem_of_getElem? (i := 120) rfl)) rfl
theorem xk_178 : (Cond.code xy_Mo_write xb_Mo_write 2 (some .boolean)) ∈ wT := wT_t (List.mem_append_right _ (List.mem_append_right _ (List.mem_append_right _ (List.mem_append_left _ (List.mem_of_getElem? (i := 185) rfl))))) rfl
theorem xk_179 : (Cond.methodLink "LayerDeskLaw" 42 xy_Mo_write) ∈ wT := wT_t (List.mem_append_right _ (List.mem_append_right _ (List.mem_append_right _ (List.mem_append_left _ (List.mem_of_getElem? (i := 182) rfl))))) rfl
theorem xk_180 : (Cond.instanceMethod xy_Mo_write) ∈ wT := wT_t (List.mem_append_right _ (List.mem_append_right _ (List.mem_append_right _ (List.mem_append_left _ (List.mem_of_getElem? (i := 183) rfl))))) rfl
theorem xk_181 : (Cond.selects "LayerDeskModel" xy_Mo_write xy_Mo_write) ∈ wT := wT_t (List.mem_append_right _ (List.mem_append_right _ (List.mem_append_right _ (List.mem_append_left _ (List.mem_of_getElem? (i := 184) rfl))))) rfl
theorem xk_182 : (Cond.codeWith xy_La_line xb_La_line 3 (some .int) [(0, 8, 11, 13), (0, 8, 14, 15)]) ∈ wT := wT_t (List.mem_append_left _ (List.mem_of_getElem? (i := 180) rfl)) rfl
theorem xk_183 : (Cond.methodLink "LayerDeskLaw" 43 xy_La_line) ∈ wT := wT_t (List.mem_append_left _ (List.mem_of_getElem? (i := 178) rfl)) rfl
theorem xk_184 : (Cond.static xy_La_line) ∈ wT := wT_t (List.mem_append_left _ (List.mem_of_getElem? (i := 179) rfl)) rfl
theorem xk_185 : (Cond.initialized "LayerDeskLaw") ∈ wT := wT_t (List.mem_append_left _ (List.mem_of_getElem? (i := 0) rfl)) rfl
theorem xk_186 : (Cond.code xy_Mo_line xb_Mo_line 2 (some .int)) ∈ wT := wT_t (List.mem_append_right _ (List.mem_append_right _ (List.mem_append_right _ (List.mem_append_left _ (List.mem_of_getElem? (i := 189) rfl))))) rfl
theorem xk_187 : (Cond.methodLink "LayerDeskLaw" 48 xy_Mo_line) ∈ wT := wT_t (List.mem_append_right _ (List.mem_append_right _ (List.mem_append_right _ (List.mem_append_left _ (List.mem_of_getElem? (i := 186) rfl))))) rfl
theorem xk_188 : (Cond.instanceMethod xy_Mo_line) ∈ wT := wT_t (List.mem_append_right _ (List.mem_append_right _ (List.mem_append_right _ (List.mem_append_left _ (List.mem_of_getElem? (i := 187) rfl))))) rfl
theorem xk_189 : (Cond.selects "LayerDeskModel" xy_Mo_line xy_Mo_line) ∈ wT := wT_t (List.mem_append_right _ (List.mem_append_right _ (List.mem_append_right _ (List.mem_append_left _ (List.mem_of_getElem? (i := 188) rfl))))) rfl
theorem xk_190 : (Cond.code xy_Mo_thrown xb_Mo_thrown 1 (some .int)) ∈ wT := wT_t (List.mem_append_right _ (List.mem_append_right _ (List.mem_append_right _ (List.mem_append_left _ (List.mem_of_getElem? (i := 181) rfl))))) rfl
theorem xk_191 : (Cond.methodLink "LayerDeskLaw" 49 xy_Mo_thrown) ∈ wT := wT_t (List.mem_append_right _ (List.mem_append_right _ (List.mem_append_right _ (List.mem_append_left _ (List.mem_of_getElem? (i := 178) rfl))))) rfl
theorem xk_192 : (Cond.instanceMethod xy_Mo_thrown) ∈ wT := wT_t (List.mem_append_right _ (List.mem_append_right _ (List.mem_append_right _ (List.mem_append_left _ (List.mem_of_getElem? (i := 179) rfl))))) rfl
theorem xk_193 : (Cond.selects "LayerDeskModel" xy_Mo_thrown xy_Mo_thrown) ∈ wT := wT_t (List.mem_append_right _ (List.mem_append_right _ (List.mem_append_right _ (List.mem_append_left _ (List.mem_of_getElem? (i := 180) rfl))))) rfl
theorem xk_194 : (Cond.codeWith xy_La_layer xb_La_layer 6 (some .int) [(0, 12, 15, 13), (0, 12, 19, 21), (0, 12, 23, 15)]) ∈ wT := wT_t (List.mem_append_right _ (List.mem_append_right _ (List.mem_append_left _ (List.mem_of_getElem? (i := 50) rfl)))) rfl
theorem xk_195 : (Cond.methodLink "LayerDeskLaw" 52 xy_La_layer) ∈ wT := wT_t (List.mem_append_right _ (List.mem_append_right _ (List.mem_append_left _ (List.mem_of_getElem? (i := 48) rfl)))) rfl
theorem xk_196 : (Cond.static xy_La_layer) ∈ wT := wT_t (List.mem_append_right _ (List.mem_append_right _ (List.mem_append_left _ (List.mem_of_getElem? (i := 49) rfl)))) rfl
theorem xk_197 : (Cond.code xy_Mo_layer xb_Mo_layer 7 (some .int)) ∈ wT := wT_t (List.mem_append_right _ (List.mem_append_right _ (List.mem_append_right _ (List.mem_append_right _ (List.mem_of_getElem? (i := 8) rfl))))) rfl
theorem xk_198 : (Cond.methodLink "LayerDeskLaw" 55 xy_Mo_layer) ∈ wT := wT_t (List.mem_append_right _ (List.mem_append_right _ (List.mem_append_right _ (List.mem_append_right _ (List.mem_of_getElem? (i := 5) rfl))))) rfl
theorem xk_199 : (Cond.instanceMethod xy_Mo_layer) ∈ wT := wT_t (List.mem_append_right _ (List.mem_append_right _ (List.mem_append_right _ (List.mem_append_right _ (List.mem_of_getElem? (i := 6) rfl))))) rfl
theorem xk_200 : (Cond.selects "LayerDeskModel" xy_Mo_layer xy_Mo_layer) ∈ wT := wT_t (List.mem_append_right _ (List.mem_append_right _ (List.mem_append_right _ (List.mem_append_right _ (List.mem_of_getElem? (i := 7) rfl))))) rfl
theorem xk_201 : (Cond.code xy_De_fault xb_De_fault 1 (some .int)) ∈ wT := wT_t (List.mem_append_left _ (List.mem_of_getElem? (i := 129) rfl)) rfl
theorem xk_202 : (Cond.methodLink "LayerDeskLaw" 56 xy_De_fault) ∈ wT := wT_t (List.mem_append_left _ (List.mem_of_getElem? (i := 126) rfl)) rfl
theorem xk_203 : (Cond.instanceMethod xy_De_fault) ∈ wT := wT_t (List.mem_append_left _ (List.mem_of_getElem? (i := 127) rfl)) rfl
theorem xk_204 : (Cond.selects "LayerDesk" xy_De_fault xy_De_fault) ∈ wT := wT_t (List.mem_append_left _ (List.mem_of_getElem? (i := 128) rfl)) rfl
theorem xk_205 : (Cond.code xy_Mo_fault xb_Mo_fault 1 (some .int)) ∈ wT := wT_t (List.mem_append_right _ (List.mem_append_right _ (List.mem_append_right _ (List.mem_append_right _ (List.mem_of_getElem? (i := 64) rfl))))) rfl
theorem xk_206 : (Cond.methodLink "LayerDeskLaw" 59 xy_Mo_fault) ∈ wT := wT_t (List.mem_append_right _ (List.mem_append_right _ (List.mem_append_right _ (List.mem_append_right _ (List.mem_of_getElem? (i := 61) rfl))))) rfl
theorem xk_207 : (Cond.instanceMethod xy_Mo_fault) ∈ wT := wT_t (List.mem_append_right _ (List.mem_append_right _ (List.mem_append_right _ (List.mem_append_right _ (List.mem_of_getElem? (i := 62) rfl))))) rfl
theorem xk_208 : (Cond.selects "LayerDeskModel" xy_Mo_fault xy_Mo_fault) ∈ wT := wT_t (List.mem_append_right _ (List.mem_append_right _ (List.mem_append_right _ (List.mem_append_right _ (List.mem_of_getElem? (i := 63) rfl))))) rfl
theorem xk_209 : (Cond.code xy_De_close xb_De_close 3 (some .boolean)) ∈ wT := wT_t (List.mem_append_left _ (List.mem_of_getElem? (i := 133) rfl)) rfl
theorem xk_210 : (Cond.methodLink "LayerDeskLaw" 60 xy_De_close) ∈ wT := wT_t (List.mem_append_left _ (List.mem_of_getElem? (i := 130) rfl)) rfl
theorem xk_211 : (Cond.instanceMethod xy_De_close) ∈ wT := wT_t (List.mem_append_left _ (List.mem_of_getElem? (i := 131) rfl)) rfl
theorem xk_212 : (Cond.selects "LayerDesk" xy_De_close xy_De_close) ∈ wT := wT_t (List.mem_append_left _ (List.mem_of_getElem? (i := 132) rfl)) rfl
theorem xk_213 : (Cond.code xy_Mo_close xb_Mo_close 3 (some .boolean)) ∈ wT := wT_t (List.mem_append_right _ (List.mem_append_right _ (List.mem_append_right _ (List.mem_append_right _ (List.mem_of_getElem? (i := 68) rfl))))) rfl
theorem xk_214 : (Cond.methodLink "LayerDeskLaw" 64 xy_Mo_close) ∈ wT := wT_t (List.mem_append_right _ (List.mem_append_right _ (List.mem_append_right _ (List.mem_append_right _ (List.mem_of_getElem? (i := 65) rfl))))) rfl
theorem xk_215 : (Cond.instanceMethod xy_Mo_close) ∈ wT := wT_t (List.mem_append_right _ (List.mem_append_right _ (List.mem_append_right _ (List.mem_append_right _ (List.mem_of_getElem? (i := 66) rfl))))) rfl
theorem xk_216 : (Cond.selects "LayerDeskModel" xy_Mo_close xy_Mo_close) ∈ wT := wT_t (List.mem_append_right _ (List.mem_append_right _ (List.mem_append_right _ (List.mem_append_right _ (List.mem_of_getElem? (i := 67) rfl))))) rfl
theorem xk_217 : (Cond.code xy_De_count xb_De_count 2 (some .int)) ∈ wT := wT_t (List.mem_append_left _ (List.mem_of_getElem? (i := 145) rfl)) rfl
theorem xk_218 : (Cond.methodLink "LayerDeskLaw" 65 xy_De_count) ∈ wT := wT_t (List.mem_append_left _ (List.mem_of_getElem? (i := 142) rfl)) rfl
theorem xk_219 : (Cond.instanceMethod xy_De_count) ∈ wT := wT_t (List.mem_append_left _ (List.mem_of_getElem? (i := 143) rfl)) rfl
theorem xk_220 : (Cond.selects "LayerDesk" xy_De_count xy_De_count) ∈ wT := wT_t (List.mem_append_left _ (List.mem_of_getElem? (i := 144) rfl)) rfl
theorem xk_221 : (Cond.code xy_Mo_count xb_Mo_count 4 (some .int)) ∈ wT := wT_t (List.mem_append_right _ (List.mem_append_right _ (List.mem_append_right _ (List.mem_append_right _ (List.mem_of_getElem? (i := 72) rfl))))) rfl
theorem xk_222 : (Cond.methodLink "LayerDeskLaw" 69 xy_Mo_count) ∈ wT := wT_t (List.mem_append_right _ (List.mem_append_right _ (List.mem_append_right _ (List.mem_append_right _ (List.mem_of_getElem? (i := 69) rfl))))) rfl
theorem xk_223 : (Cond.instanceMethod xy_Mo_count) ∈ wT := wT_t (List.mem_append_right _ (List.mem_append_right _ (List.mem_append_right _ (List.mem_append_right _ (List.mem_of_getElem? (i := 70) rfl))))) rfl
theorem xk_224 : (Cond.selects "LayerDeskModel" xy_Mo_count xy_Mo_count) ∈ wT := wT_t (List.mem_append_right _ (List.mem_append_right _ (List.mem_append_right _ (List.mem_append_right _ (List.mem_of_getElem? (i := 71) rfl))))) rfl
theorem xk_225 : (Cond.code xy_De_modules xb_De_modules 3 (some .int)) ∈ wT := wT_t (List.mem_append_left _ (List.mem_of_getElem? (i := 153) rfl)) rfl
theorem xk_226 : (Cond.methodLink "LayerDeskLaw" 70 xy_De_modules) ∈ wT := wT_t (List.mem_append_left _ (List.mem_of_getElem? (i := 150) rfl)) rfl
theorem xk_227 : (Cond.instanceMethod xy_De_modules) ∈ wT := wT_t (List.mem_append_left _ (List.mem_of_getElem? (i := 151) rfl)) rfl
theorem xk_228 : (Cond.selects "LayerDesk" xy_De_modules xy_De_modules) ∈ wT := wT_t (List.mem_append_left _ (List.mem_of_getElem? (i := 152) rfl)) rfl
theorem xk_229 : (Cond.code xy_Mo_modules xb_Mo_modules 2 (some .int)) ∈ wT := wT_t (List.mem_append_right _ (List.mem_append_right _ (List.mem_append_right _ (List.mem_append_right _ (List.mem_of_getElem? (i := 76) rfl))))) rfl
theorem xk_230 : (Cond.methodLink "LayerDeskLaw" 73 xy_Mo_modules) ∈ wT := wT_t (List.mem_append_right _ (List.mem_append_right _ (List.mem_append_right _ (List.mem_append_right _ (List.mem_of_getElem? (i := 73) rfl))))) rfl
theorem xk_231 : (Cond.instanceMethod xy_Mo_modules) ∈ wT := wT_t (List.mem_append_right _ (List.mem_append_right _ (List.mem_append_right _ (List.mem_append_right _ (List.mem_of_getElem? (i := 74) rfl))))) rfl
theorem xk_232 : (Cond.selects "LayerDeskModel" xy_Mo_modules xy_Mo_modules) ∈ wT := wT_t (List.mem_append_right _ (List.mem_append_right _ (List.mem_append_right _ (List.mem_append_right _ (List.mem_of_getElem? (i := 75) rfl))))) rfl
theorem xk_233 : (Cond.code xy_De_module xb_De_module 4 (some .int)) ∈ wT := wT_t (List.mem_append_left _ (List.mem_of_getElem? (i := 157) rfl)) rfl
theorem xk_234 : (Cond.methodLink "LayerDeskLaw" 74 xy_De_module) ∈ wT := wT_t (List.mem_append_left _ (List.mem_of_getElem? (i := 154) rfl)) rfl
theorem xk_235 : (Cond.instanceMethod xy_De_module) ∈ wT := wT_t (List.mem_append_left _ (List.mem_of_getElem? (i := 155) rfl)) rfl
theorem xk_236 : (Cond.selects "LayerDesk" xy_De_module xy_De_module) ∈ wT := wT_t (List.mem_append_left _ (List.mem_of_getElem? (i := 156) rfl)) rfl
theorem xk_237 : (Cond.code xy_Mo_module xb_Mo_module 3 (some .int)) ∈ wT := wT_t (List.mem_append_right _ (List.mem_append_right _ (List.mem_append_right _ (List.mem_append_right _ (List.mem_of_getElem? (i := 80) rfl))))) rfl
theorem xk_238 : (Cond.methodLink "LayerDeskLaw" 77 xy_Mo_module) ∈ wT := wT_t (List.mem_append_right _ (List.mem_append_right _ (List.mem_append_right _ (List.mem_append_right _ (List.mem_of_getElem? (i := 77) rfl))))) rfl
theorem xk_239 : (Cond.instanceMethod xy_Mo_module) ∈ wT := wT_t (List.mem_append_right _ (List.mem_append_right _ (List.mem_append_right _ (List.mem_append_right _ (List.mem_of_getElem? (i := 78) rfl))))) rfl
theorem xk_240 : (Cond.selects "LayerDeskModel" xy_Mo_module xy_Mo_module) ∈ wT := wT_t (List.mem_append_right _ (List.mem_append_right _ (List.mem_append_right _ (List.mem_append_right _ (List.mem_of_getElem? (i := 79) rfl))))) rfl
theorem xk_241 : (Cond.code xy_De_reads xb_De_reads 7 (some .boolean)) ∈ wT := wT_t (List.mem_append_left _ (List.mem_of_getElem? (i := 165) rfl)) rfl
theorem xk_242 : (Cond.methodLink "LayerDeskLaw" 78 xy_De_reads) ∈ wT := wT_t (List.mem_append_left _ (List.mem_of_getElem? (i := 162) rfl)) rfl
theorem xk_243 : (Cond.instanceMethod xy_De_reads) ∈ wT := wT_t (List.mem_append_left _ (List.mem_of_getElem? (i := 163) rfl)) rfl
theorem xk_244 : (Cond.selects "LayerDesk" xy_De_reads xy_De_reads) ∈ wT := wT_t (List.mem_append_left _ (List.mem_of_getElem? (i := 164) rfl)) rfl
theorem xk_245 : (Cond.code xy_Mo_reads xb_Mo_reads 6 (some .boolean)) ∈ wT := wT_t (List.mem_append_right _ (List.mem_append_right _ (List.mem_append_right _ (List.mem_append_right _ (List.mem_of_getElem? (i := 88) rfl))))) rfl
theorem xk_246 : (Cond.methodLink "LayerDeskLaw" 81 xy_Mo_reads) ∈ wT := wT_t (List.mem_append_right _ (List.mem_append_right _ (List.mem_append_right _ (List.mem_append_right _ (List.mem_of_getElem? (i := 85) rfl))))) rfl
theorem xk_247 : (Cond.instanceMethod xy_Mo_reads) ∈ wT := wT_t (List.mem_append_right _ (List.mem_append_right _ (List.mem_append_right _ (List.mem_append_right _ (List.mem_of_getElem? (i := 86) rfl))))) rfl
theorem xk_248 : (Cond.selects "LayerDeskModel" xy_Mo_reads xy_Mo_reads) ∈ wT := wT_t (List.mem_append_right _ (List.mem_append_right _ (List.mem_append_right _ (List.mem_append_right _ (List.mem_of_getElem? (i := 87) rfl))))) rfl
theorem xk_249 : (Cond.codeWith xy_La_load xb_La_load 5 (some .int) [(0, 10, 13, 13), (0, 10, 17, 21)]) ∈ wT := wT_t (List.mem_append_right _ (List.mem_append_right _ (List.mem_append_right _ (List.mem_append_left _ (List.mem_of_getElem? (i := 34) rfl))))) rfl
theorem xk_250 : (Cond.methodLink "LayerDeskLaw" 82 xy_La_load) ∈ wT := wT_t (List.mem_append_right _ (List.mem_append_right _ (List.mem_append_right _ (List.mem_append_left _ (List.mem_of_getElem? (i := 32) rfl))))) rfl
theorem xk_251 : (Cond.static xy_La_load) ∈ wT := wT_t (List.mem_append_right _ (List.mem_append_right _ (List.mem_append_right _ (List.mem_append_left _ (List.mem_of_getElem? (i := 33) rfl))))) rfl
theorem xk_252 : (Cond.code xy_Mo_load xb_Mo_load 7 (some .int)) ∈ wT := wT_t (List.mem_append_right _ (List.mem_append_right _ (List.mem_append_right _ (List.mem_append_right _ (List.mem_of_getElem? (i := 96) rfl))))) rfl
theorem xk_253 : (Cond.methodLink "LayerDeskLaw" 85 xy_Mo_load) ∈ wT := wT_t (List.mem_append_right _ (List.mem_append_right _ (List.mem_append_right _ (List.mem_append_right _ (List.mem_of_getElem? (i := 93) rfl))))) rfl
theorem xk_254 : (Cond.instanceMethod xy_Mo_load) ∈ wT := wT_t (List.mem_append_right _ (List.mem_append_right _ (List.mem_append_right _ (List.mem_append_right _ (List.mem_of_getElem? (i := 94) rfl))))) rfl
theorem xk_255 : (Cond.selects "LayerDeskModel" xy_Mo_load xy_Mo_load) ∈ wT := wT_t (List.mem_append_right _ (List.mem_append_right _ (List.mem_append_right _ (List.mem_append_right _ (List.mem_of_getElem? (i := 95) rfl))))) rfl
theorem xk_256 : (Cond.codeWith xy_La_peek xb_La_peek 7 (some .int) [(0, 21, 24, 13), (0, 21, 28, 21)]) ∈ wT := wT_t (List.mem_append_right _ (List.mem_append_right _ (List.mem_append_right _ (List.mem_append_left _ (List.mem_of_getElem? (i := 55) rfl))))) rfl
theorem xk_257 : (Cond.methodLink "LayerDeskLaw" 86 xy_La_peek) ∈ wT := wT_t (List.mem_append_right _ (List.mem_append_right _ (List.mem_append_right _ (List.mem_append_left _ (List.mem_of_getElem? (i := 53) rfl))))) rfl
theorem xk_258 : (Cond.static xy_La_peek) ∈ wT := wT_t (List.mem_append_right _ (List.mem_append_right _ (List.mem_append_right _ (List.mem_append_left _ (List.mem_of_getElem? (i := 54) rfl))))) rfl
theorem xk_259 : (Cond.code xy_Mo_peek xb_Mo_peek 8 (some .boolean)) ∈ wT := wT_t (List.mem_append_right _ (List.mem_append_right _ (List.mem_append_right _ (List.mem_append_right _ (List.mem_of_getElem? (i := 104) rfl))))) rfl
theorem xk_260 : (Cond.methodLink "LayerDeskLaw" 89 xy_Mo_peek) ∈ wT := wT_t (List.mem_append_right _ (List.mem_append_right _ (List.mem_append_right _ (List.mem_append_right _ (List.mem_of_getElem? (i := 101) rfl))))) rfl
theorem xk_261 : (Cond.instanceMethod xy_Mo_peek) ∈ wT := wT_t (List.mem_append_right _ (List.mem_append_right _ (List.mem_append_right _ (List.mem_append_right _ (List.mem_of_getElem? (i := 102) rfl))))) rfl
theorem xk_262 : (Cond.selects "LayerDeskModel" xy_Mo_peek xy_Mo_peek) ∈ wT := wT_t (List.mem_append_right _ (List.mem_append_right _ (List.mem_append_right _ (List.mem_append_right _ (List.mem_of_getElem? (i := 103) rfl))))) rfl
theorem xk_263 : (Cond.codeWith xy_La_provider xb_La_provider 5 (some .int) [(0, 10, 13, 13)]) ∈ wT := wT_t (List.mem_append_right _ (List.mem_append_right _ (List.mem_append_right _ (List.mem_append_left _ (List.mem_of_getElem? (i := 67) rfl))))) rfl
theorem xk_264 : (Cond.methodLink "LayerDeskLaw" 90 xy_La_provider) ∈ wT := wT_t (List.mem_append_right _ (List.mem_append_right _ (List.mem_append_right _ (List.mem_append_left _ (List.mem_of_getElem? (i := 65) rfl))))) rfl
theorem xk_265 : (Cond.static xy_La_provider) ∈ wT := wT_t (List.mem_append_right _ (List.mem_append_right _ (List.mem_append_right _ (List.mem_append_left _ (List.mem_of_getElem? (i := 66) rfl))))) rfl
theorem xk_266 : (Cond.code xy_Mo_provider xb_Mo_provider 9 (some .int)) ∈ wT := wT_t (List.mem_append_right _ (List.mem_append_right _ (List.mem_append_right _ (List.mem_append_right _ (List.mem_of_getElem? (i := 108) rfl))))) rfl
theorem xk_267 : (Cond.methodLink "LayerDeskLaw" 92 xy_Mo_provider) ∈ wT := wT_t (List.mem_append_right _ (List.mem_append_right _ (List.mem_append_right _ (List.mem_append_right _ (List.mem_of_getElem? (i := 105) rfl))))) rfl
theorem xk_268 : (Cond.instanceMethod xy_Mo_provider) ∈ wT := wT_t (List.mem_append_right _ (List.mem_append_right _ (List.mem_append_right _ (List.mem_append_right _ (List.mem_of_getElem? (i := 106) rfl))))) rfl
theorem xk_269 : (Cond.selects "LayerDeskModel" xy_Mo_provider xy_Mo_provider) ∈ wT := wT_t (List.mem_append_right _ (List.mem_append_right _ (List.mem_append_right _ (List.mem_append_right _ (List.mem_of_getElem? (i := 107) rfl))))) rfl
