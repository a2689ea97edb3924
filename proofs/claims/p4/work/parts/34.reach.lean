abbrev xb_Ds_exportOf : ByteArray := prog_3_method_4_code
def xy_Ds_exportOf : MethodName := ⟨"LayerDesk$Descriptor", "exportOf", "(I)LLayerDesk$Grant;"⟩
abbrev xb_Ds_openingOf : ByteArray := prog_3_method_5_code
def xy_Ds_openingOf : MethodName := ⟨"LayerDesk$Descriptor", "openingOf", "(I)LLayerDesk$Grant;"⟩
abbrev xb_Ds_exportsTo : ByteArray := prog_3_method_6_code
def xy_Ds_exportsTo : MethodName := ⟨"LayerDesk$Descriptor", "exportsTo", "(II)Z"⟩
abbrev xb_Ds_opensTo : ByteArray := prog_3_method_7_code
def xy_Ds_opensTo : MethodName := ⟨"LayerDesk$Descriptor", "opensTo", "(II)Z"⟩
abbrev xb_Re_marks : ByteArray := prog_9_method_4_code
def xy_Re_marks : MethodName := ⟨"LayerDesk$Reach", "marks", "(LLayerDesk$Member;)Z"⟩
abbrev xb_Re_mark : ByteArray := prog_9_method_2_code
def xy_Re_mark : MethodName := ⟨"LayerDesk$Reach", "mark", "(LLayerDesk$Member;)V"⟩
abbrev xb_Re_unmark : ByteArray := prog_9_method_3_code
def xy_Re_unmark : MethodName := ⟨"LayerDesk$Reach", "unmark", "(LLayerDesk$Member;)V"⟩
abbrev xb_Re_join : ByteArray := prog_9_method_5_code
def xy_Re_join : MethodName := ⟨"LayerDesk$Reach", "join", "(LLayerDesk$Reach;)V"⟩
theorem xd_Ds_exportOf_0 : decode xb_Ds_exportOf 0 = .ok (.aload_n 0, 1) := by decide +kernel
theorem xd_Ds_exportOf_1 : decode xb_Ds_exportOf 1 = .ok (.getfield 14, 3) := by decide +kernel
theorem xd_Ds_exportOf_4 : decode xb_Ds_exportOf 4 = .ok (.iload_n 1, 1) := by decide +kernel
theorem xd_Ds_exportOf_5 : decode xb_Ds_exportOf 5 = .ok (.invokevirtual 68, 3) := by decide +kernel
theorem xd_Ds_exportOf_8 : decode xb_Ds_exportOf 8 = .ok (.istore_n 2, 1) := by decide +kernel
theorem xd_Ds_exportOf_9 : decode xb_Ds_exportOf 9 = .ok (.iload_n 2, 1) := by decide +kernel
theorem xd_Ds_exportOf_10 : decode xb_Ds_exportOf 10 = .ok (.ifCond .ge 7, 3) := by decide +kernel
theorem xd_Ds_exportOf_13 : decode xb_Ds_exportOf 13 = .ok (.aconst_null, 1) := by decide +kernel
theorem xd_Ds_exportOf_14 : decode xb_Ds_exportOf 14 = .ok (.goto 9, 3) := by decide +kernel
theorem xd_Ds_exportOf_17 : decode xb_Ds_exportOf 17 = .ok (.aload_n 0, 1) := by decide +kernel
theorem xd_Ds_exportOf_18 : decode xb_Ds_exportOf 18 = .ok (.getfield 20, 3) := by decide +kernel
theorem xd_Ds_exportOf_21 : decode xb_Ds_exportOf 21 = .ok (.iload_n 2, 1) := by decide +kernel
theorem xd_Ds_exportOf_22 : decode xb_Ds_exportOf 22 = .ok (.aaload, 1) := by decide +kernel
theorem xd_Ds_exportOf_23 : decode xb_Ds_exportOf 23 = .ok (.areturn, 1) := by decide +kernel
theorem xd_Ds_exportsTo_0 : decode xb_Ds_exportsTo 0 = .ok (.aload_n 0, 1) := by decide +kernel
theorem xd_Ds_exportsTo_1 : decode xb_Ds_exportsTo 1 = .ok (.getfield 14, 3) := by decide +kernel
theorem xd_Ds_exportsTo_4 : decode xb_Ds_exportsTo 4 = .ok (.iload_n 1, 1) := by decide +kernel
theorem xd_Ds_exportsTo_5 : decode xb_Ds_exportsTo 5 = .ok (.invokevirtual 68, 3) := by decide +kernel
theorem xd_Ds_exportsTo_8 : decode xb_Ds_exportsTo 8 = .ok (.istore_n 3, 1) := by decide +kernel
theorem xd_Ds_exportsTo_9 : decode xb_Ds_exportsTo 9 = .ok (.iload_n 3, 1) := by decide +kernel
theorem xd_Ds_exportsTo_10 : decode xb_Ds_exportsTo 10 = .ok (.ifCond .lt 20, 3) := by decide +kernel
theorem xd_Ds_exportsTo_13 : decode xb_Ds_exportsTo 13 = .ok (.aload_n 0, 1) := by decide +kernel
theorem xd_Ds_exportsTo_14 : decode xb_Ds_exportsTo 14 = .ok (.getfield 20, 3) := by decide +kernel
theorem xd_Ds_exportsTo_17 : decode xb_Ds_exportsTo 17 = .ok (.iload_n 3, 1) := by decide +kernel
theorem xd_Ds_exportsTo_18 : decode xb_Ds_exportsTo 18 = .ok (.aaload, 1) := by decide +kernel
theorem xd_Ds_exportsTo_19 : decode xb_Ds_exportsTo 19 = .ok (.iload_n 2, 1) := by decide +kernel
theorem xd_Ds_exportsTo_20 : decode xb_Ds_exportsTo 20 = .ok (.invokevirtual 72, 3) := by decide +kernel
theorem xd_Ds_exportsTo_23 : decode xb_Ds_exportsTo 23 = .ok (.ifCond .eq 7, 3) := by decide +kernel
theorem xd_Ds_exportsTo_26 : decode xb_Ds_exportsTo 26 = .ok (.iconst 1, 1) := by decide +kernel
theorem xd_Ds_exportsTo_27 : decode xb_Ds_exportsTo 27 = .ok (.goto 4, 3) := by decide +kernel
theorem xd_Ds_exportsTo_30 : decode xb_Ds_exportsTo 30 = .ok (.iconst 0, 1) := by decide +kernel
theorem xd_Ds_exportsTo_31 : decode xb_Ds_exportsTo 31 = .ok (.ireturn, 1) := by decide +kernel
theorem xd_Ds_openingOf_0 : decode xb_Ds_openingOf 0 = .ok (.aload_n 0, 1) := by decide +kernel
theorem xd_Ds_openingOf_1 : decode xb_Ds_openingOf 1 = .ok (.getfield 14, 3) := by decide +kernel
theorem xd_Ds_openingOf_4 : decode xb_Ds_openingOf 4 = .ok (.iload_n 1, 1) := by decide +kernel
theorem xd_Ds_openingOf_5 : decode xb_Ds_openingOf 5 = .ok (.invokevirtual 68, 3) := by decide +kernel
theorem xd_Ds_openingOf_8 : decode xb_Ds_openingOf 8 = .ok (.istore_n 2, 1) := by decide +kernel
theorem xd_Ds_openingOf_9 : decode xb_Ds_openingOf 9 = .ok (.iload_n 2, 1) := by decide +kernel
theorem xd_Ds_openingOf_10 : decode xb_Ds_openingOf 10 = .ok (.ifCond .ge 7, 3) := by decide +kernel
theorem xd_Ds_openingOf_13 : decode xb_Ds_openingOf 13 = .ok (.aconst_null, 1) := by decide +kernel
theorem xd_Ds_openingOf_14 : decode xb_Ds_openingOf 14 = .ok (.goto 9, 3) := by decide +kernel
theorem xd_Ds_openingOf_17 : decode xb_Ds_openingOf 17 = .ok (.aload_n 0, 1) := by decide +kernel
theorem xd_Ds_openingOf_18 : decode xb_Ds_openingOf 18 = .ok (.getfield 24, 3) := by decide +kernel
theorem xd_Ds_openingOf_21 : decode xb_Ds_openingOf 21 = .ok (.iload_n 2, 1) := by decide +kernel
theorem xd_Ds_openingOf_22 : decode xb_Ds_openingOf 22 = .ok (.aaload, 1) := by decide +kernel
theorem xd_Ds_openingOf_23 : decode xb_Ds_openingOf 23 = .ok (.areturn, 1) := by decide +kernel
theorem xd_Ds_opensTo_0 : decode xb_Ds_opensTo 0 = .ok (.aload_n 0, 1) := by decide +kernel
theorem xd_Ds_opensTo_1 : decode xb_Ds_opensTo 1 = .ok (.getfield 14, 3) := by decide +kernel
theorem xd_Ds_opensTo_4 : decode xb_Ds_opensTo 4 = .ok (.iload_n 1, 1) := by decide +kernel
theorem xd_Ds_opensTo_5 : decode xb_Ds_opensTo 5 = .ok (.invokevirtual 68, 3) := by decide +kernel
theorem xd_Ds_opensTo_8 : decode xb_Ds_opensTo 8 = .ok (.istore_n 3, 1) := by decide +kernel
theorem xd_Ds_opensTo_9 : decode xb_Ds_opensTo 9 = .ok (.iload_n 3, 1) := by decide +kernel
theorem xd_Ds_opensTo_10 : decode xb_Ds_opensTo 10 = .ok (.ifCond .lt 20, 3) := by decide +kernel
theorem xd_Ds_opensTo_13 : decode xb_Ds_opensTo 13 = .ok (.aload_n 0, 1) := by decide +kernel
theorem xd_Ds_opensTo_14 : decode xb_Ds_opensTo 14 = .ok (.getfield 24, 3) := by decide +kernel
theorem xd_Ds_opensTo_17 : decode xb_Ds_opensTo 17 = .ok (.iload_n 3, 1) := by decide +kernel
theorem xd_Ds_opensTo_18 : decode xb_Ds_opensTo 18 = .ok (.aaload, 1) := by decide +kernel
theorem xd_Ds_opensTo_19 : decode xb_Ds_opensTo 19 = .ok (.iload_n 2, 1) := by decide +kernel
theorem xd_Ds_opensTo_20 : decode xb_Ds_opensTo 20 = .ok (.invokevirtual 72, 3) := by decide +kernel
theorem xd_Ds_opensTo_23 : decode xb_Ds_opensTo 23 = .ok (.ifCond .eq 7, 3) := by decide +kernel
theorem xd_Ds_opensTo_26 : decode xb_Ds_opensTo 26 = .ok (.iconst 1, 1) := by decide +kernel
theorem xd_Ds_opensTo_27 : decode xb_Ds_opensTo 27 = .ok (.goto 4, 3) := by decide +kernel
theorem xd_Ds_opensTo_30 : decode xb_Ds_opensTo 30 = .ok (.iconst 0, 1) := by decide +kernel
theorem xd_Ds_opensTo_31 : decode xb_Ds_opensTo 31 = .ok (.ireturn, 1) := by decide +kernel
theorem xd_Re_join_0 : decode xb_Re_join 0 = .ok (.iconst 0, 1) := by decide +kernel
theorem xd_Re_join_1 : decode xb_Re_join 1 = .ok (.istore_n 2, 1) := by decide +kernel
theorem xd_Re_join_2 : decode xb_Re_join 2 = .ok (.iload_n 2, 1) := by decide +kernel
theorem xd_Re_join_3 : decode xb_Re_join 3 = .ok (.bipush 6, 2) := by decide +kernel
theorem xd_Re_join_5 : decode xb_Re_join 5 = .ok (.if_icmp .ge 24, 3) := by decide +kernel
theorem xd_Re_join_8 : decode xb_Re_join 8 = .ok (.aload_n 0, 1) := by decide +kernel
theorem xd_Re_join_9 : decode xb_Re_join 9 = .ok (.getfield 11, 3) := by decide +kernel
theorem xd_Re_join_12 : decode xb_Re_join 12 = .ok (.iload_n 2, 1) := by decide +kernel
theorem xd_Re_join_13 : decode xb_Re_join 13 = .ok (.dup2, 1) := by decide +kernel
theorem xd_Re_join_14 : decode xb_Re_join 14 = .ok (.iaload, 1) := by decide +kernel
theorem xd_Re_join_15 : decode xb_Re_join 15 = .ok (.aload_n 1, 1) := by decide +kernel
theorem xd_Re_join_16 : decode xb_Re_join 16 = .ok (.getfield 11, 3) := by decide +kernel
theorem xd_Re_join_19 : decode xb_Re_join 19 = .ok (.iload_n 2, 1) := by decide +kernel
theorem xd_Re_join_20 : decode xb_Re_join 20 = .ok (.iaload, 1) := by decide +kernel
theorem xd_Re_join_21 : decode xb_Re_join 21 = .ok (.ior, 1) := by decide +kernel
theorem xd_Re_join_22 : decode xb_Re_join 22 = .ok (.iastore, 1) := by decide +kernel
theorem xd_Re_join_23 : decode xb_Re_join 23 = .ok (.iinc 2 1, 3) := by decide +kernel
theorem xd_Re_join_26 : decode xb_Re_join 26 = .ok (.goto (-24), 3) := by decide +kernel
theorem xd_Re_join_29 : decode xb_Re_join 29 = .ok (.return_, 1) := by decide +kernel
theorem xd_Re_mark_0 : decode xb_Re_mark 0 = .ok (.aload_n 0, 1) := by decide +kernel
theorem xd_Re_mark_1 : decode xb_Re_mark 1 = .ok (.getfield 11, 3) := by decide +kernel
theorem xd_Re_mark_4 : decode xb_Re_mark 4 = .ok (.aload_n 1, 1) := by decide +kernel
theorem xd_Re_mark_5 : decode xb_Re_mark 5 = .ok (.getfield 15, 3) := by decide +kernel
theorem xd_Re_mark_8 : decode xb_Re_mark 8 = .ok (.getfield 21, 3) := by decide +kernel
theorem xd_Re_mark_11 : decode xb_Re_mark 11 = .ok (.dup2, 1) := by decide +kernel
theorem xd_Re_mark_12 : decode xb_Re_mark 12 = .ok (.iaload, 1) := by decide +kernel
theorem xd_Re_mark_13 : decode xb_Re_mark 13 = .ok (.iconst 1, 1) := by decide +kernel
theorem xd_Re_mark_14 : decode xb_Re_mark 14 = .ok (.aload_n 1, 1) := by decide +kernel
theorem xd_Re_mark_15 : decode xb_Re_mark 15 = .ok (.getfield 27, 3) := by decide +kernel
theorem xd_Re_mark_18 : decode xb_Re_mark 18 = .ok (.getfield 31, 3) := by decide +kernel
theorem xd_Re_mark_21 : decode xb_Re_mark 21 = .ok (.ishl, 1) := by decide +kernel
theorem xd_Re_mark_22 : decode xb_Re_mark 22 = .ok (.ior, 1) := by decide +kernel
theorem xd_Re_mark_23 : decode xb_Re_mark 23 = .ok (.iastore, 1) := by decide +kernel
theorem xd_Re_mark_24 : decode xb_Re_mark 24 = .ok (.return_, 1) := by decide +kernel
theorem xd_Re_marks_0 : decode xb_Re_marks 0 = .ok (.aload_n 0, 1) := by decide +kernel
theorem xd_Re_marks_1 : decode xb_Re_marks 1 = .ok (.getfield 11, 3) := by decide +kernel
theorem xd_Re_marks_4 : decode xb_Re_marks 4 = .ok (.aload_n 1, 1) := by decide +kernel
theorem xd_Re_marks_5 : decode xb_Re_marks 5 = .ok (.getfield 15, 3) := by decide +kernel
theorem xd_Re_marks_8 : decode xb_Re_marks 8 = .ok (.getfield 21, 3) := by decide +kernel
theorem xd_Re_marks_11 : decode xb_Re_marks 11 = .ok (.iaload, 1) := by decide +kernel
theorem xd_Re_marks_12 : decode xb_Re_marks 12 = .ok (.aload_n 1, 1) := by decide +kernel
theorem xd_Re_marks_13 : decode xb_Re_marks 13 = .ok (.getfield 27, 3) := by decide +kernel
theorem xd_Re_marks_16 : decode xb_Re_marks 16 = .ok (.getfield 31, 3) := by decide +kernel
theorem xd_Re_marks_19 : decode xb_Re_marks 19 = .ok (.ishr, 1) := by decide +kernel
theorem xd_Re_marks_20 : decode xb_Re_marks 20 = .ok (.iconst 1, 1) := by decide +kernel
theorem xd_Re_marks_21 : decode xb_Re_marks 21 = .ok (.iand, 1) := by decide +kernel
theorem xd_Re_marks_22 : decode xb_Re_marks 22 = .ok (.ifCond .eq 7, 3) := by decide +kernel
theorem xd_Re_marks_25 : decode xb_Re_marks 25 = .ok (.iconst 1, 1) := by decide +kernel
theorem xd_Re_marks_26 : decode xb_Re_marks 26 = .ok (.goto 4, 3) := by decide +kernel
theorem xd_Re_marks_29 : decode xb_Re_marks 29 = .ok (.iconst 0, 1) := by decide +kernel
theorem xd_Re_marks_30 : decode xb_Re_marks 30 = .ok (.ireturn, 1) := by decide +kernel
theorem xd_Re_unmark_0 : decode xb_Re_unmark 0 = .ok (.aload_n 0, 1) := by decide +kernel
theorem xd_Re_unmark_1 : decode xb_Re_unmark 1 = .ok (.getfield 11, 3) := by decide +kernel
theorem xd_Re_unmark_4 : decode xb_Re_unmark 4 = .ok (.aload_n 1, 1) := by decide +kernel
theorem xd_Re_unmark_5 : decode xb_Re_unmark 5 = .ok (.getfield 15, 3) := by decide +kernel
theorem xd_Re_unmark_8 : decode xb_Re_unmark 8 = .ok (.getfield 21, 3) := by decide +kernel
theorem xd_Re_unmark_11 : decode xb_Re_unmark 11 = .ok (.dup2, 1) := by decide +kernel
theorem xd_Re_unmark_12 : decode xb_Re_unmark 12 = .ok (.iaload, 1) := by decide +kernel
theorem xd_Re_unmark_13 : decode xb_Re_unmark 13 = .ok (.iconst 1, 1) := by decide +kernel
theorem xd_Re_unmark_14 : decode xb_Re_unmark 14 = .ok (.aload_n 1, 1) := by decide +kernel
theorem xd_Re_unmark_15 : decode xb_Re_unmark 15 = .ok (.getfield 27, 3) := by decide +kernel
theorem xd_Re_unmark_18 : decode xb_Re_unmark 18 = .ok (.getfield 31, 3) := by decide +kernel
theorem xd_Re_unmark_21 : decode xb_Re_unmark 21 = .ok (.ishl, 1) := by decide +kernel
theorem xd_Re_unmark_22 : decode xb_Re_unmark 22 = .ok (.iconst (-1), 1) := by decide +kernel
theorem xd_Re_unmark_23 : decode xb_Re_unmark 23 = .ok (.ixor, 1) := by decide +kernel
theorem xd_Re_unmark_24 : decode xb_Re_unmark 24 = .ok (.iand, 1) := by decide +kernel
theorem xd_Re_unmark_25 : decode xb_Re_unmark 25 = .ok (.iastore, 1) := by decide +kernel
theorem xd_Re_unmark_26 : decode xb_Re_unmark 26 = .ok (.return_, 1) := by decide +kernel
theorem ym_0 : (Cond.fieldLink "LayerDesk$Descriptor" 14 "LayerDesk$Descriptor" "packages" "LLayerDesk$Names;") ∈ wT := wT_t (List.mem_append_right _ (List.mem_append_left _ (List.mem_of_getElem? (i := 60) rfl))) rfl
theorem ym_1 : (Cond.code xy_Na_indexOf xb_Na_indexOf 3 (some .int)) ∈ wT := wT_t (List.mem_append_right _ (List.mem_append_left _ (List.mem_of_getElem? (i := 127) rfl))) rfl
theorem ym_2 : (Cond.methodLink "LayerDesk$Descriptor" 68 xy_Na_indexOf) ∈ wT := wT_t (List.mem_append_right _ (List.mem_append_left _ (List.mem_of_getElem? (i := 167) rfl))) rfl
theorem ym_3 : (Cond.instanceMethod xy_Na_indexOf) ∈ wT := wT_t (List.mem_append_right _ (List.mem_append_left _ (List.mem_of_getElem? (i := 125) rfl))) rfl
theorem ym_4 : (Cond.selects "LayerDesk$Names" xy_Na_indexOf xy_Na_indexOf) ∈ wT := wT_t (List.mem_append_right _ (List.mem_append_left _ (List.mem_of_getElem? (i := 126) rfl))) rfl
theorem ym_5 : (Cond.initialized "LayerDesk$Names") ∈ wT := wT_t (List.mem_append_left _ (List.mem_of_getElem? (i := 11) rfl)) rfl
theorem ym_6 : (Cond.fieldLink "LayerDesk$Descriptor" 20 "LayerDesk$Descriptor" "exported" "[LLayerDesk$Grant;") ∈ wT := wT_t (List.mem_append_right _ (List.mem_append_left _ (List.mem_of_getElem? (i := 64) rfl))) rfl
theorem ym_7 : (Cond.fieldLink "LayerDesk$Descriptor" 24 "LayerDesk$Descriptor" "opened" "[LLayerDesk$Grant;") ∈ wT := wT_t (List.mem_append_right _ (List.mem_append_left _ (List.mem_of_getElem? (i := 65) rfl))) rfl
theorem ym_8 : (Cond.code xy_Gr_covers xb_Gr_covers 2 (some .boolean)) ∈ wT := wT_t (List.mem_append_right _ (List.mem_append_left _ (List.mem_of_getElem? (i := 179) rfl))) rfl
theorem ym_9 : (Cond.methodLink "LayerDesk$Descriptor" 72 xy_Gr_covers) ∈ wT := wT_t (List.mem_append_right _ (List.mem_append_right _ (List.mem_append_right _ (List.mem_append_left _ (List.mem_of_getElem? (i := 21) rfl))))) rfl
theorem ym_10 : (Cond.instanceMethod xy_Gr_covers) ∈ wT := wT_t (List.mem_append_right _ (List.mem_append_left _ (List.mem_of_getElem? (i := 177) rfl))) rfl
theorem ym_11 : (Cond.selects "LayerDesk$Grant" xy_Gr_covers xy_Gr_covers) ∈ wT := wT_t (List.mem_append_right _ (List.mem_append_left _ (List.mem_of_getElem? (i := 178) rfl))) rfl
theorem ym_12 : (Cond.initialized "LayerDesk$Grant") ∈ wT := wT_t (List.mem_append_left _ (List.mem_of_getElem? (i := 12) rfl)) rfl
theorem ym_13 : (Cond.fieldLink "LayerDesk$Reach" 11 "LayerDesk$Reach" "rows" "[I") ∈ wT := wT_t (List.mem_append_right _ (List.mem_append_right _ (List.mem_append_left _ (List.mem_of_getElem? (i := 174) rfl)))) rfl
theorem ym_14 : (Cond.fieldLink "LayerDesk$Reach" 15 "LayerDesk$Member" "home" "LLayerDesk$Layer;") ∈ wT := wT_t (List.mem_append_right _ (List.mem_append_right _ (List.mem_append_left _ (List.mem_of_getElem? (i := 180) rfl)))) rfl
theorem ym_15 : (Cond.fieldLink "LayerDesk$Reach" 21 "LayerDesk$Layer" "number" "I") ∈ wT := wT_t (List.mem_append_right _ (List.mem_append_right _ (List.mem_append_left _ (List.mem_of_getElem? (i := 140) rfl)))) rfl
theorem ym_16 : (Cond.fieldLink "LayerDesk$Reach" 27 "LayerDesk$Member" "descriptor" "LLayerDesk$Descriptor;") ∈ wT := wT_t (List.mem_append_right _ (List.mem_append_right _ (List.mem_append_left _ (List.mem_of_getElem? (i := 182) rfl)))) rfl
theorem ym_17 : (Cond.fieldLink "LayerDesk$Reach" 31 "LayerDesk$Descriptor" "number" "I") ∈ wT := wT_t (List.mem_append_right _ (List.mem_append_left _ (List.mem_of_getElem? (i := 47) rfl))) rfl
set_option maxHeartbeats 4000000 in
set_option maxRecDepth 100000 in
theorem xc_Ds_exportOf (l : Launch) (D : va_G) (kA : Nat → ClassId) (sz : Nat) (ad : Nat → Nat → Nat) (E : Nat → Nat → va_E) (RL : List (Nat × Nat)) (nd : Nat) (d : Nat) (pn : Int32) (hDIs : DIs kA ad E RL nd) (hd : d < nd) : Met l xy_Ds_exportOf (.code xy_Ds_exportOf xb_Ds_exportOf 3 (some (.object "LayerDesk$Grant")) :: wT) { frames := 1, cells := 0, slots := 0, locals := 22 } (va_Pc [.ref (ad (1 + d) 0), .int pn] (xPre D kA sz (rp ad E RL))) (va_Qq (fun (r : Option Nat) (u : Unit) => r = none ∨ ∃ i, i < 6 ∧ r = some (ad (1 + d) (20 + 3 * i)) ∧ GI kA (ad (1 + d)) (E (1 + d)) (fun o => (1 + d, o) ∈ RL) (20 + 3 * i) (21 + 3 * i) (22 + 3 * i)) (fun (u : Unit) t => va_P D xcl (rp ad E RL) t.heap ∧ va_D (va_A (rp ad E RL) sz) (rp ad E RL)) (va_A (rp ad E RL) sz)) 0 0 (va_A (rp ad E RL) sz) := by
  refine Met.ofW (cc := xb_Ds_exportOf) (maxL := 3) (ret := (some (.object "LayerDesk$Grant"))) (by decide) rfl ?_
  intro p e s m args below meth c s₁ B hml hv
  obtain ⟨rfl, hsz, hP, hK, hD0⟩ := hv
  have hx := B.exec
  have hb := B.bytes
  have hr := B.returns
  have hT := x_hT B.pre
  have hown : s.vm.findClass xR_Ds = some m.cls := findClass_of_methodNamed B.named
  have hlocks := B.notSynchronized
  subst hsz
  have hD := hD0.self (sz := s.heap.size)
  generalize hAe : va_A (rp ad E RL) s.heap.size = A at hD ⊢
  have hA : ∀ q : Nat, s.heap.size ≤ q → A q := fun q h => by rw [← hAe]; exact Or.inr h
  have hS : va_S A s.heap s.heap [] := va_S.rf
  have hl := lv_entry ([.ref (ad (1 + d) 0), .int pn]) (n := 3) (Nat.le_of_ble_eq_true rfl)
  rw [lg_entry_eq]
  generalize (lg_sl ([.ref (ad (1 + d) 0), .int pn]) ++ List.replicate (3 - (lg_sl ([.ref (ad (1 + d) 0), .int pn])).length) Slot.unset).toArray = ls at hl ⊢
  have hl : lv_has ls 3 [(0, .ref (ad (1 + d) 0)), (1, .int pn)] := hl
  have hP : va_P D xcl (rp ad E RL) s.heap := hP
  refine lv_aload_n hx hb xd_Ds_exportOf_0 rfl (lv_at hl 0 rfl) ?_
  obtain ⟨hm_1, fd_1, nm_1, sd_1, k0_1, k1_1, k2_1, k3_1, f0_1, f1_1, f2_1, f3_1, fe_1, fo_1, tr_1, op_1, hk0_1, hk1_1, hk2_1, hk3_1, q0_1, q1_1, q2_1, q3_1, q4_1, q5_1, q6_1, q7_1, q8_1, q9_1, q10_1, q11_1, q12_1, hg_1⟩ := id (hDIs d (by omega))
  have c_2 : E (1 + d) 0 = .inr (7, [.int (nI d), .int fd_1, .int nm_1, .ref (ad (1 + d) 1), .ref (ad (1 + d) 9), .ref (ad (1 + d) 10), .ref (ad (1 + d) 2), .ref (ad (1 + d) 11), .ref (ad (1 + d) 12), .ref (ad (1 + d) 3), .ref (ad (1 + d) 4), .int sd_1]) := q0_1
  have m_3 : (1 + d, 0) ∈ RL := hm_1 0 (by omega)
  have c_4 : E (1 + d) 1 = .inr (8, [.ref (ad (1 + d) 5), .int (nI k0_1)]) := q1_1
  have m_5 : (1 + d, 1) ∈ RL := hm_1 1 (by omega)
  have c_6 : E (1 + d) 2 = .inr (8, [.ref (ad (1 + d) 6), .int (nI k1_1)]) := q2_1
  have m_7 : (1 + d, 2) ∈ RL := hm_1 2 (by omega)
  have c_8 : E (1 + d) 3 = .inr (8, [.ref (ad (1 + d) 7), .int (nI k2_1)]) := q3_1
  have m_9 : (1 + d, 3) ∈ RL := hm_1 3 (by omega)
  have c_10 : E (1 + d) 4 = .inr (8, [.ref (ad (1 + d) 8), .int (nI k3_1)]) := q4_1
  have m_11 : (1 + d, 4) ∈ RL := hm_1 4 (by omega)
  have c_12 : E (1 + d) 5 = .inl (kA 0, 6, .inl f0_1) := q5_1
  have m_13 : (1 + d, 5) ∈ RL := hm_1 5 (by omega)
  have c_14 : E (1 + d) 6 = .inl (kA 0, 5, .inl f1_1) := q6_1
  have m_15 : (1 + d, 6) ∈ RL := hm_1 6 (by omega)
  have c_16 : E (1 + d) 7 = .inl (kA 0, 3, .inl f2_1) := q7_1
  have m_17 : (1 + d, 7) ∈ RL := hm_1 7 (by omega)
  have c_18 : E (1 + d) 8 = .inl (kA 0, 3, .inl f3_1) := q8_1
  have m_19 : (1 + d, 8) ∈ RL := hm_1 8 (by omega)
  have c_20 : E (1 + d) 9 = .inl (kA 8, 6, .inr (.inr (.inr (.inr fe_1)))) := q9_1
  have m_21 : (1 + d, 9) ∈ RL := hm_1 9 (by omega)
  have c_22 : E (1 + d) 10 = .inl (kA 8, 6, .inr (.inr (.inr (.inr fo_1)))) := q10_1
  have m_23 : (1 + d, 10) ∈ RL := hm_1 10 (by omega)
  have c_24 : E (1 + d) 11 = .inl (kA 2, 5, .inl tr_1) := q11_1
  have m_25 : (1 + d, 11) ∈ RL := hm_1 11 (by omega)
  have c_26 : E (1 + d) 12 = .inl (kA 2, 5, .inl op_1) := q12_1
  have m_27 : (1 + d, 12) ∈ RL := hm_1 12 (by omega)
  have hg_1 : ∀ w9, w9 < k0_1 → fe_1 w9 = some (ad (1 + d) (20 + 3 * w9)) ∧ fo_1 w9 = some (ad (1 + d) (38 + 3 * w9)) ∧ GI kA (ad (1 + d)) (E (1 + d)) (fun o => (1 + d, o) ∈ RL) (20 + 3 * w9) (21 + 3 * w9) (22 + 3 * w9) ∧ GI kA (ad (1 + d)) (E (1 + d)) (fun o => (1 + d, o) ∈ RL) (38 + 3 * w9) (39 + 3 * w9) (40 + 3 * w9) := hg_1
  refine px_get (D := D) (ci := 7) (v := .ref (ad (1 + d) 1)) (C := xR_Ds) (T := xT_Ds) (N := 12) hx hb hT xi_Ds hown hK.1 hP m_3 c_2 rfl 3 (by decide) (hT _ ym_0) (fun _ h9 => h9) rfl xd_Ds_exportOf_1 ?_
  refine lv_iload_n hx hb xd_Ds_exportOf_4 rfl (lv_at hl 1 rfl) ?_
  have hFc := px_free hD hS hA
  refine va_calli (va_runV (As := [.int pn]) (rest := []) ⟨hx, hb, hml, hown, hT⟩ (xc_Na_indexOf l D kA s.heap.size ad E RL (1 + d) 1 5 6 k0_1 f0_1 pn m_5 c_4 m_13 c_12 (by first | assumption | omega) (by first | assumption | omega)) (cwV 1 hT (wT_V ym_2 ym_3 ym_4 ym_5 ym_1) rfl rfl rfl (by decide +kernel) ⟨Nat.le_of_ble_eq_true rfl, Nat.le_of_ble_eq_true rfl⟩) (px_preV hK hP hD m_5 c_4 rfl) rfl rfl hl.1 rfl (lv_room (Nat.le_of_ble_eq_true rfl)) xd_Ds_exportOf_5 ⟨(Nat.le_of_ble_eq_true rfl), (Nat.le_of_ble_eq_true rfl)⟩) hS (fun q _ h => hFc q h) hFc (fun r28 u29 t H1 locs ht hvm hp30 hB hz1 hk1 hS => ?_)
  obtain ⟨hP1, hD1⟩ := hB
  rw [ht] at hP1
  have hD1 := hD1.weaken (fun _ _ _ h => hFc _ h)
  generalize H1 = H at hP1 hS ⊢
  have hP := hP1
  have hD := hD1
  have hP : va_P D xcl (rp ad E RL) H := hP
  have hD : va_D A (rp ad E RL) := hD
  rcases hp30 with ⟨z31, z32, rfl, z33, z34⟩ | ⟨rfl, z35⟩
  · refine W.eq (g2 := F0 m 8 ls [.int (nI z31)]) rfl ?_
    refine lv_istore_n hx hb xd_Ds_exportOf_8 rfl hl (Nat.le_of_ble_eq_true rfl) rfl (fun ls hl => ?_)
    have hl : lv_has ls 3 [(2, .int (nI z31)), (0, .ref (ad (1 + d) 0)), (1, .int pn)] := hl
    refine lv_iload_n hx hb xd_Ds_exportOf_9 rfl (lv_at hl 0 rfl) ?_
    refine xz_ge (a := z31) (tgt := 17) hx hb xd_Ds_exportOf_10 (by decide) (by omega) ?_
    refine lv_aload_n hx hb xd_Ds_exportOf_17 rfl (lv_at hl 1 rfl) ?_
    refine px_get (D := D) (ci := 7) (v := .ref (ad (1 + d) 9)) (C := xR_Ds) (T := xT_Ds) (N := 12) hx hb hT xi_Ds hown hK.1 hP m_3 c_2 rfl 4 (by decide) (hT _ ym_6) (fun _ h9 => h9) rfl xd_Ds_exportOf_18 ?_
    refine lv_iload_n hx hb xd_Ds_exportOf_21 rfl (lv_at hl 0 rfl) ?_
    refine px_aald (i := z31) (x := (some (ad (1 + d) (20 + 3 * z31)))) hx hb hK.1 hP m_21 c_20 8 rfl ((hg_1 z31 (by omega)).1) (by omega) (by decide) xd_Ds_exportOf_22 ?_
    exact W.aret (v := .ref (ad (1 + d) (20 + 3 * z31))) hx hb hr (Or.inl ⟨_, rfl⟩) (Or.inr ⟨_, rfl⟩) (fun t ht hW => ⟨⟨(some (ad (1 + d) (20 + 3 * z31))), (), rfl, Or.inr ⟨z31, by omega, rfl, (hg_1 z31 (by omega)).2.2.1⟩, by rw [ht]; exact hP, hD⟩, hS.F ht⟩) hS.2.2 xd_Ds_exportOf_23
  · refine W.eq (g2 := F0 m 8 ls [.int (-1)]) rfl ?_
    refine lv_istore_n hx hb xd_Ds_exportOf_8 rfl hl (Nat.le_of_ble_eq_true rfl) rfl (fun ls hl => ?_)
    have hl : lv_has ls 3 [(2, .int (-1)), (0, .ref (ad (1 + d) 0)), (1, .int pn)] := hl
    refine lv_iload_n hx hb xd_Ds_exportOf_9 rfl (lv_at hl 0 rfl) ?_
    refine lv_if_ge (tgt := 17) hx hb xd_Ds_exportOf_10 (by decide) (fun hc37 => absurd hc37 (by decide)) (fun _ => ?_)
    refine lv_null hx hb xd_Ds_exportOf_13 ?_
    refine lv_goto (tgt := 23) hx hb xd_Ds_exportOf_14 (by decide) ?_
    exact W.aret (v := .null) hx hb hr (Or.inl ⟨_, rfl⟩) (Or.inl rfl) (fun t ht hW => ⟨⟨none, (), rfl, Or.inl rfl, by rw [ht]; exact hP, hD⟩, hS.F ht⟩) hS.2.2 xd_Ds_exportOf_23
set_option maxHeartbeats 4000000 in
set_option maxRecDepth 100000 in
theorem xc_Ds_openingOf (l : Launch) (D : va_G) (kA : Nat → ClassId) (sz : Nat) (ad : Nat → Nat → Nat) (E : Nat → Nat → va_E) (RL : List (Nat × Nat)) (nd : Nat) (d : Nat) (pn : Int32) (hDIs : DIs kA ad E RL nd) (hd : d < nd) : Met l xy_Ds_openingOf (.code xy_Ds_openingOf xb_Ds_openingOf 3 (some (.object "LayerDesk$Grant")) :: wT) { frames := 1, cells := 0, slots := 0, locals := 22 } (va_Pc [.ref (ad (1 + d) 0), .int pn] (xPre D kA sz (rp ad E RL))) (va_Qq (fun (r : Option Nat) (u : Unit) => r = none ∨ ∃ i, i < 6 ∧ r = some (ad (1 + d) (38 + 3 * i)) ∧ GI kA (ad (1 + d)) (E (1 + d)) (fun o => (1 + d, o) ∈ RL) (38 + 3 * i) (39 + 3 * i) (40 + 3 * i)) (fun (u : Unit) t => va_P D xcl (rp ad E RL) t.heap ∧ va_D (va_A (rp ad E RL) sz) (rp ad E RL)) (va_A (rp ad E RL) sz)) 0 0 (va_A (rp ad E RL) sz) := by
  refine Met.ofW (cc := xb_Ds_openingOf) (maxL := 3) (ret := (some (.object "LayerDesk$Grant"))) (by decide) rfl ?_
  intro p e s m args below meth c s₁ B hml hv
  obtain ⟨rfl, hsz, hP, hK, hD0⟩ := hv
  have hx := B.exec
  have hb := B.bytes
  have hr := B.returns
  have hT := x_hT B.pre
  have hown : s.vm.findClass xR_Ds = some m.cls := findClass_of_methodNamed B.named
  have hlocks := B.notSynchronized
  subst hsz
  have hD := hD0.self (sz := s.heap.size)
  generalize hAe : va_A (rp ad E RL) s.heap.size = A at hD ⊢
  have hA : ∀ q : Nat, s.heap.size ≤ q → A q := fun q h => by rw [← hAe]; exact Or.inr h
  have hS : va_S A s.heap s.heap [] := va_S.rf
  have hl := lv_entry ([.ref (ad (1 + d) 0), .int pn]) (n := 3) (Nat.le_of_ble_eq_true rfl)
  rw [lg_entry_eq]
  generalize (lg_sl ([.ref (ad (1 + d) 0), .int pn]) ++ List.replicate (3 - (lg_sl ([.ref (ad (1 + d) 0), .int pn])).length) Slot.unset).toArray = ls at hl ⊢
  have hl : lv_has ls 3 [(0, .ref (ad (1 + d) 0)), (1, .int pn)] := hl
  have hP : va_P D xcl (rp ad E RL) s.heap := hP
  refine lv_aload_n hx hb xd_Ds_openingOf_0 rfl (lv_at hl 0 rfl) ?_
  obtain ⟨hm_1, fd_1, nm_1, sd_1, k0_1, k1_1, k2_1, k3_1, f0_1, f1_1, f2_1, f3_1, fe_1, fo_1, tr_1, op_1, hk0_1, hk1_1, hk2_1, hk3_1, q0_1, q1_1, q2_1, q3_1, q4_1, q5_1, q6_1, q7_1, q8_1, q9_1, q10_1, q11_1, q12_1, hg_1⟩ := id (hDIs d (by omega))
  have c_2 : E (1 + d) 0 = .inr (7, [.int (nI d), .int fd_1, .int nm_1, .ref (ad (1 + d) 1), .ref (ad (1 + d) 9), .ref (ad (1 + d) 10), .ref (ad (1 + d) 2), .ref (ad (1 + d) 11), .ref (ad (1 + d) 12), .ref (ad (1 + d) 3), .ref (ad (1 + d) 4), .int sd_1]) := q0_1
  have m_3 : (1 + d, 0) ∈ RL := hm_1 0 (by omega)
  have c_4 : E (1 + d) 1 = .inr (8, [.ref (ad (1 + d) 5), .int (nI k0_1)]) := q1_1
  have m_5 : (1 + d, 1) ∈ RL := hm_1 1 (by omega)
  have c_6 : E (1 + d) 2 = .inr (8, [.ref (ad (1 + d) 6), .int (nI k1_1)]) := q2_1
  have m_7 : (1 + d, 2) ∈ RL := hm_1 2 (by omega)
  have c_8 : E (1 + d) 3 = .inr (8, [.ref (ad (1 + d) 7), .int (nI k2_1)]) := q3_1
  have m_9 : (1 + d, 3) ∈ RL := hm_1 3 (by omega)
  have c_10 : E (1 + d) 4 = .inr (8, [.ref (ad (1 + d) 8), .int (nI k3_1)]) := q4_1
  have m_11 : (1 + d, 4) ∈ RL := hm_1 4 (by omega)
  have c_12 : E (1 + d) 5 = .inl (kA 0, 6, .inl f0_1) := q5_1
  have m_13 : (1 + d, 5) ∈ RL := hm_1 5 (by omega)
  have c_14 : E (1 + d) 6 = .inl (kA 0, 5, .inl f1_1) := q6_1
  have m_15 : (1 + d, 6) ∈ RL := hm_1 6 (by omega)
  have c_16 : E (1 + d) 7 = .inl (kA 0, 3, .inl f2_1) := q7_1
  have m_17 : (1 + d, 7) ∈ RL := hm_1 7 (by omega)
  have c_18 : E (1 + d) 8 = .inl (kA 0, 3, .inl f3_1) := q8_1
  have m_19 : (1 + d, 8) ∈ RL := hm_1 8 (by omega)
  have c_20 : E (1 + d) 9 = .inl (kA 8, 6, .inr (.inr (.inr (.inr fe_1)))) := q9_1
  have m_21 : (1 + d, 9) ∈ RL := hm_1 9 (by omega)
  have c_22 : E (1 + d) 10 = .inl (kA 8, 6, .inr (.inr (.inr (.inr fo_1)))) := q10_1
  have m_23 : (1 + d, 10) ∈ RL := hm_1 10 (by omega)
  have c_24 : E (1 + d) 11 = .inl (kA 2, 5, .inl tr_1) := q11_1
  have m_25 : (1 + d, 11) ∈ RL := hm_1 11 (by omega)
  have c_26 : E (1 + d) 12 = .inl (kA 2, 5, .inl op_1) := q12_1
  have m_27 : (1 + d, 12) ∈ RL := hm_1 12 (by omega)
  have hg_1 : ∀ w9, w9 < k0_1 → fe_1 w9 = some (ad (1 + d) (20 + 3 * w9)) ∧ fo_1 w9 = some (ad (1 + d) (38 + 3 * w9)) ∧ GI kA (ad (1 + d)) (E (1 + d)) (fun o => (1 + d, o) ∈ RL) (20 + 3 * w9) (21 + 3 * w9) (22 + 3 * w9) ∧ GI kA (ad (1 + d)) (E (1 + d)) (fun o => (1 + d, o) ∈ RL) (38 + 3 * w9) (39 + 3 * w9) (40 + 3 * w9) := hg_1
  refine px_get (D := D) (ci := 7) (v := .ref (ad (1 + d) 1)) (C := xR_Ds) (T := xT_Ds) (N := 12) hx hb hT xi_Ds hown hK.1 hP m_3 c_2 rfl 3 (by decide) (hT _ ym_0) (fun _ h9 => h9) rfl xd_Ds_openingOf_1 ?_
  refine lv_iload_n hx hb xd_Ds_openingOf_4 rfl (lv_at hl 1 rfl) ?_
  have hFc := px_free hD hS hA
  refine va_calli (va_runV (As := [.int pn]) (rest := []) ⟨hx, hb, hml, hown, hT⟩ (xc_Na_indexOf l D kA s.heap.size ad E RL (1 + d) 1 5 6 k0_1 f0_1 pn m_5 c_4 m_13 c_12 (by first | assumption | omega) (by first | assumption | omega)) (cwV 1 hT (wT_V ym_2 ym_3 ym_4 ym_5 ym_1) rfl rfl rfl (by decide +kernel) ⟨Nat.le_of_ble_eq_true rfl, Nat.le_of_ble_eq_true rfl⟩) (px_preV hK hP hD m_5 c_4 rfl) rfl rfl hl.1 rfl (lv_room (Nat.le_of_ble_eq_true rfl)) xd_Ds_openingOf_5 ⟨(Nat.le_of_ble_eq_true rfl), (Nat.le_of_ble_eq_true rfl)⟩) hS (fun q _ h => hFc q h) hFc (fun r28 u29 t H1 locs ht hvm hp30 hB hz1 hk1 hS => ?_)
  obtain ⟨hP1, hD1⟩ := hB
  rw [ht] at hP1
  have hD1 := hD1.weaken (fun _ _ _ h => hFc _ h)
  generalize H1 = H at hP1 hS ⊢
  have hP := hP1
  have hD := hD1
  have hP : va_P D xcl (rp ad E RL) H := hP
  have hD : va_D A (rp ad E RL) := hD
  rcases hp30 with ⟨z31, z32, rfl, z33, z34⟩ | ⟨rfl, z35⟩
  · refine W.eq (g2 := F0 m 8 ls [.int (nI z31)]) rfl ?_
    refine lv_istore_n hx hb xd_Ds_openingOf_8 rfl hl (Nat.le_of_ble_eq_true rfl) rfl (fun ls hl => ?_)
    have hl : lv_has ls 3 [(2, .int (nI z31)), (0, .ref (ad (1 + d) 0)), (1, .int pn)] := hl
    refine lv_iload_n hx hb xd_Ds_openingOf_9 rfl (lv_at hl 0 rfl) ?_
    refine xz_ge (a := z31) (tgt := 17) hx hb xd_Ds_openingOf_10 (by decide) (by omega) ?_
    refine lv_aload_n hx hb xd_Ds_openingOf_17 rfl (lv_at hl 1 rfl) ?_
    refine px_get (D := D) (ci := 7) (v := .ref (ad (1 + d) 10)) (C := xR_Ds) (T := xT_Ds) (N := 12) hx hb hT xi_Ds hown hK.1 hP m_3 c_2 rfl 5 (by decide) (hT _ ym_7) (fun _ h9 => h9) rfl xd_Ds_openingOf_18 ?_
    refine lv_iload_n hx hb xd_Ds_openingOf_21 rfl (lv_at hl 0 rfl) ?_
    refine px_aald (i := z31) (x := (some (ad (1 + d) (38 + 3 * z31)))) hx hb hK.1 hP m_23 c_22 8 rfl ((hg_1 z31 (by omega)).2.1) (by omega) (by decide) xd_Ds_openingOf_22 ?_
    exact W.aret (v := .ref (ad (1 + d) (38 + 3 * z31))) hx hb hr (Or.inl ⟨_, rfl⟩) (Or.inr ⟨_, rfl⟩) (fun t ht hW => ⟨⟨(some (ad (1 + d) (38 + 3 * z31))), (), rfl, Or.inr ⟨z31, by omega, rfl, (hg_1 z31 (by omega)).2.2.2⟩, by rw [ht]; exact hP, hD⟩, hS.F ht⟩) hS.2.2 xd_Ds_openingOf_23
  · refine W.eq (g2 := F0 m 8 ls [.int (-1)]) rfl ?_
    refine lv_istore_n hx hb xd_Ds_openingOf_8 rfl hl (Nat.le_of_ble_eq_true rfl) rfl (fun ls hl => ?_)
    have hl : lv_has ls 3 [(2, .int (-1)), (0, .ref (ad (1 + d) 0)), (1, .int pn)] := hl
    refine lv_iload_n hx hb xd_Ds_openingOf_9 rfl (lv_at hl 0 rfl) ?_
    refine lv_if_ge (tgt := 17) hx hb xd_Ds_openingOf_10 (by decide) (fun hc37 => absurd hc37 (by decide)) (fun _ => ?_)
    refine lv_null hx hb xd_Ds_openingOf_13 ?_
    refine lv_goto (tgt := 23) hx hb xd_Ds_openingOf_14 (by decide) ?_
    exact W.aret (v := .null) hx hb hr (Or.inl ⟨_, rfl⟩) (Or.inl rfl) (fun t ht hW => ⟨⟨none, (), rfl, Or.inl rfl, by rw [ht]; exact hP, hD⟩, hS.F ht⟩) hS.2.2 xd_Ds_openingOf_23
set_option maxHeartbeats 4000000 in
set_option maxRecDepth 100000 in
theorem xc_Ds_exportsTo (l : Launch) (D : va_G) (kA : Nat → ClassId) (sz : Nat) (ad : Nat → Nat → Nat) (E : Nat → Nat → va_E) (RL : List (Nat × Nat)) (nd : Nat) (d : Nat) (pn : Int32) (rd : Int32) (hDIs : DIs kA ad E RL nd) (hd : d < nd) : Met l xy_Ds_exportsTo (.code xy_Ds_exportsTo xb_Ds_exportsTo 4 (some .boolean) :: wT) { frames := 2, cells := 0, slots := 0, locals := 43 } (va_Pc [.ref (ad (1 + d) 0), .int pn, .int rd] (xPre D kA sz (rp ad E RL))) (va_Qi (fun (r : Int32) (u : Unit) => r = 0 ∨ r = 1) (fun (u : Unit) t => va_P D xcl (rp ad E RL) t.heap ∧ va_D (va_A (rp ad E RL) sz) (rp ad E RL)) (va_A (rp ad E RL) sz)) 0 0 (va_A (rp ad E RL) sz) := by
  refine Met.ofW (cc := xb_Ds_exportsTo) (maxL := 4) (ret := (some .boolean)) (by decide) rfl ?_
  intro p e s m args below meth c s₁ B hml hv
  obtain ⟨rfl, hsz, hP, hK, hD0⟩ := hv
  have hx := B.exec
  have hb := B.bytes
  have hr := B.returns
  have hT := x_hT B.pre
  have hown : s.vm.findClass xR_Ds = some m.cls := findClass_of_methodNamed B.named
  have hlocks := B.notSynchronized
  subst hsz
  have hD := hD0.self (sz := s.heap.size)
  generalize hAe : va_A (rp ad E RL) s.heap.size = A at hD ⊢
  have hA : ∀ q : Nat, s.heap.size ≤ q → A q := fun q h => by rw [← hAe]; exact Or.inr h
  have hS : va_S A s.heap s.heap [] := va_S.rf
  have hl := lv_entry ([.ref (ad (1 + d) 0), .int pn, .int rd]) (n := 4) (Nat.le_of_ble_eq_true rfl)
  rw [lg_entry_eq]
  generalize (lg_sl ([.ref (ad (1 + d) 0), .int pn, .int rd]) ++ List.replicate (4 - (lg_sl ([.ref (ad (1 + d) 0), .int pn, .int rd])).length) Slot.unset).toArray = ls at hl ⊢
  have hl : lv_has ls 4 [(0, .ref (ad (1 + d) 0)), (1, .int pn), (2, .int rd)] := hl
  have hP : va_P D xcl (rp ad E RL) s.heap := hP
  refine lv_aload_n hx hb xd_Ds_exportsTo_0 rfl (lv_at hl 0 rfl) ?_
  obtain ⟨hm_1, fd_1, nm_1, sd_1, k0_1, k1_1, k2_1, k3_1, f0_1, f1_1, f2_1, f3_1, fe_1, fo_1, tr_1, op_1, hk0_1, hk1_1, hk2_1, hk3_1, q0_1, q1_1, q2_1, q3_1, q4_1, q5_1, q6_1, q7_1, q8_1, q9_1, q10_1, q11_1, q12_1, hg_1⟩ := id (hDIs d (by omega))
  have c_2 : E (1 + d) 0 = .inr (7, [.int (nI d), .int fd_1, .int nm_1, .ref (ad (1 + d) 1), .ref (ad (1 + d) 9), .ref (ad (1 + d) 10), .ref (ad (1 + d) 2), .ref (ad (1 + d) 11), .ref (ad (1 + d) 12), .ref (ad (1 + d) 3), .ref (ad (1 + d) 4), .int sd_1]) := q0_1
  have m_3 : (1 + d, 0) ∈ RL := hm_1 0 (by omega)
  have c_4 : E (1 + d) 1 = .inr (8, [.ref (ad (1 + d) 5), .int (nI k0_1)]) := q1_1
  have m_5 : (1 + d, 1) ∈ RL := hm_1 1 (by omega)
  have c_6 : E (1 + d) 2 = .inr (8, [.ref (ad (1 + d) 6), .int (nI k1_1)]) := q2_1
  have m_7 : (1 + d, 2) ∈ RL := hm_1 2 (by omega)
  have c_8 : E (1 + d) 3 = .inr (8, [.ref (ad (1 + d) 7), .int (nI k2_1)]) := q3_1
  have m_9 : (1 + d, 3) ∈ RL := hm_1 3 (by omega)
  have c_10 : E (1 + d) 4 = .inr (8, [.ref (ad (1 + d) 8), .int (nI k3_1)]) := q4_1
  have m_11 : (1 + d, 4) ∈ RL := hm_1 4 (by omega)
  have c_12 : E (1 + d) 5 = .inl (kA 0, 6, .inl f0_1) := q5_1
  have m_13 : (1 + d, 5) ∈ RL := hm_1 5 (by omega)
  have c_14 : E (1 + d) 6 = .inl (kA 0, 5, .inl f1_1) := q6_1
  have m_15 : (1 + d, 6) ∈ RL := hm_1 6 (by omega)
  have c_16 : E (1 + d) 7 = .inl (kA 0, 3, .inl f2_1) := q7_1
  have m_17 : (1 + d, 7) ∈ RL := hm_1 7 (by omega)
  have c_18 : E (1 + d) 8 = .inl (kA 0, 3, .inl f3_1) := q8_1
  have m_19 : (1 + d, 8) ∈ RL := hm_1 8 (by omega)
  have c_20 : E (1 + d) 9 = .inl (kA 8, 6, .inr (.inr (.inr (.inr fe_1)))) := q9_1
  have m_21 : (1 + d, 9) ∈ RL := hm_1 9 (by omega)
  have c_22 : E (1 + d) 10 = .inl (kA 8, 6, .inr (.inr (.inr (.inr fo_1)))) := q10_1
  have m_23 : (1 + d, 10) ∈ RL := hm_1 10 (by omega)
  have c_24 : E (1 + d) 11 = .inl (kA 2, 5, .inl tr_1) := q11_1
  have m_25 : (1 + d, 11) ∈ RL := hm_1 11 (by omega)
  have c_26 : E (1 + d) 12 = .inl (kA 2, 5, .inl op_1) := q12_1
  have m_27 : (1 + d, 12) ∈ RL := hm_1 12 (by omega)
  have hg_1 : ∀ w9, w9 < k0_1 → fe_1 w9 = some (ad (1 + d) (20 + 3 * w9)) ∧ fo_1 w9 = some (ad (1 + d) (38 + 3 * w9)) ∧ GI kA (ad (1 + d)) (E (1 + d)) (fun o => (1 + d, o) ∈ RL) (20 + 3 * w9) (21 + 3 * w9) (22 + 3 * w9) ∧ GI kA (ad (1 + d)) (E (1 + d)) (fun o => (1 + d, o) ∈ RL) (38 + 3 * w9) (39 + 3 * w9) (40 + 3 * w9) := hg_1
  refine px_get (D := D) (ci := 7) (v := .ref (ad (1 + d) 1)) (C := xR_Ds) (T := xT_Ds) (N := 12) hx hb hT xi_Ds hown hK.1 hP m_3 c_2 rfl 3 (by decide) (hT _ ym_0) (fun _ h9 => h9) rfl xd_Ds_exportsTo_1 ?_
  refine lv_iload_n hx hb xd_Ds_exportsTo_4 rfl (lv_at hl 1 rfl) ?_
  have hFc := px_free hD hS hA
  refine va_calli (va_runV (As := [.int pn]) (rest := []) ⟨hx, hb, hml, hown, hT⟩ (xc_Na_indexOf l D kA s.heap.size ad E RL (1 + d) 1 5 6 k0_1 f0_1 pn m_5 c_4 m_13 c_12 (by first | assumption | omega) (by first | assumption | omega)) (cwV 1 hT (wT_V ym_2 ym_3 ym_4 ym_5 ym_1) rfl rfl rfl (by decide +kernel) ⟨Nat.le_of_ble_eq_true rfl, Nat.le_of_ble_eq_true rfl⟩) (px_preV hK hP hD m_5 c_4 rfl) rfl rfl hl.1 rfl (lv_room (Nat.le_of_ble_eq_true rfl)) xd_Ds_exportsTo_5 ⟨(Nat.le_of_ble_eq_true rfl), (Nat.le_of_ble_eq_true rfl)⟩) hS (fun q _ h => hFc q h) hFc (fun r28 u29 t H1 locs ht hvm hp30 hB hz1 hk1 hS => ?_)
  obtain ⟨hP1, hD1⟩ := hB
  rw [ht] at hP1
  have hD1 := hD1.weaken (fun _ _ _ h => hFc _ h)
  generalize H1 = H at hP1 hS ⊢
  have hP := hP1
  have hD := hD1
  have hP : va_P D xcl (rp ad E RL) H := hP
  have hD : va_D A (rp ad E RL) := hD
  rcases hp30 with ⟨z31, z32, rfl, z33, z34⟩ | ⟨rfl, z35⟩
  · refine W.eq (g2 := F0 m 8 ls [.int (nI z31)]) rfl ?_
    refine lv_istore_n hx hb xd_Ds_exportsTo_8 rfl hl (Nat.le_of_ble_eq_true rfl) rfl (fun ls hl => ?_)
    have hl : lv_has ls 4 [(3, .int (nI z31)), (0, .ref (ad (1 + d) 0)), (1, .int pn), (2, .int rd)] := hl
    refine lv_iload_n hx hb xd_Ds_exportsTo_9 rfl (lv_at hl 0 rfl) ?_
    refine xz_lt (a := z31) (tgt := 30) hx hb xd_Ds_exportsTo_10 (by decide) (by omega) ?_
    refine lv_aload_n hx hb xd_Ds_exportsTo_13 rfl (lv_at hl 1 rfl) ?_
    refine px_get (D := D) (ci := 7) (v := .ref (ad (1 + d) 9)) (C := xR_Ds) (T := xT_Ds) (N := 12) hx hb hT xi_Ds hown hK.1 hP m_3 c_2 rfl 4 (by decide) (hT _ ym_6) (fun _ h9 => h9) rfl xd_Ds_exportsTo_14 ?_
    refine lv_iload_n hx hb xd_Ds_exportsTo_17 rfl (lv_at hl 0 rfl) ?_
    refine px_aald (i := z31) (x := (some (ad (1 + d) (20 + 3 * z31)))) hx hb hK.1 hP m_21 c_20 8 rfl ((hg_1 z31 (by omega)).1) (by omega) (by decide) xd_Ds_exportsTo_18 ?_
    refine lv_iload_n hx hb xd_Ds_exportsTo_19 rfl (lv_at hl 3 rfl) ?_
    obtain ⟨m0_37, m1_37, m2_37, ta_37, n_37, f_37, hn_37, q0_37, q1_37, q2_37⟩ := (hg_1 z31 (by omega)).2.2.1
    have c_38 : E (1 + d) (20 + 3 * z31) = .inr (9, [.ref (ad (1 + d) (21 + 3 * z31)), .int ta_37]) := q0_37
    have m_39 : (1 + d, 20 + 3 * z31) ∈ RL := m0_37
    have c_40 : E (1 + d) (21 + 3 * z31) = .inr (8, [.ref (ad (1 + d) (22 + 3 * z31)), .int (nI n_37)]) := q1_37
    have m_41 : (1 + d, 21 + 3 * z31) ∈ RL := m1_37
    have c_42 : E (1 + d) (22 + 3 * z31) = .inl (kA 0, 3, .inl f_37) := q2_37
    have m_43 : (1 + d, 22 + 3 * z31) ∈ RL := m2_37
    have hFc := px_free hD hS hA
    refine va_calli (va_runV (As := [.int rd]) (rest := []) ⟨hx, hb, hml, hown, hT⟩ (xc_Gr_covers l D kA H.size ad E RL (1 + d) (20 + 3 * z31) (21 + 3 * z31) (22 + 3 * z31) ta_37 n_37 f_37 rd m_39 c_38 m_41 c_40 m_43 c_42 (by first | assumption | omega)) (cwV 1 hT (wT_V ym_9 ym_10 ym_11 ym_12 ym_8) rfl rfl rfl (by decide +kernel) ⟨Nat.le_of_ble_eq_true rfl, Nat.le_of_ble_eq_true rfl⟩) (px_preV hK hP hD m_39 c_38 rfl) rfl rfl hl.1 rfl (lv_room (Nat.le_of_ble_eq_true rfl)) xd_Ds_exportsTo_20 ⟨(Nat.le_of_ble_eq_true rfl), (Nat.le_of_ble_eq_true rfl)⟩) hS (fun q _ h => hFc q h) hFc (fun r44 u45 t H1 locs ht hvm hp46 hB hz1 hk1 hS => ?_)
    obtain ⟨hP1, hD1⟩ := hB
    rw [ht] at hP1
    have hD1 := hD1.weaken (fun _ _ _ h => hFc _ h)
    generalize H1 = H at hP1 hS ⊢
    have hP := hP1
    have hD := hD1
    have hP : va_P D xcl (rp ad E RL) H := hP
    have hD : va_D A (rp ad E RL) := hD
    rcases hp46 with ⟨rfl, z47⟩ | ⟨rfl, z48, z49⟩
    · refine W.eq (g2 := F0 m 23 ls [.int 1]) rfl ?_
      refine lv_if_eq (tgt := 30) hx hb xd_Ds_exportsTo_23 (by decide) (fun hc50 => absurd hc50 (by decide)) (fun _ => ?_)
      refine lv_iconst (v := 1) hx hb xd_Ds_exportsTo_26 (by decide) ?_
      refine lv_goto (tgt := 31) hx hb xd_Ds_exportsTo_27 (by decide) ?_
      exact W.zret (v := 1) hx hb hr rfl (fun t ht hW => ⟨⟨1, (), rfl, Or.inr rfl, by rw [ht]; exact hP, hD⟩, hS.F ht⟩) hS.2.2 xd_Ds_exportsTo_31
    · refine W.eq (g2 := F0 m 23 ls [.int 0]) rfl ?_
      refine lv_if_eq (tgt := 30) hx hb xd_Ds_exportsTo_23 (by decide) (fun _ => ?_) (fun hc51 => absurd (by decide) hc51)
      refine lv_iconst (v := 0) hx hb xd_Ds_exportsTo_30 (by decide) ?_
      exact W.zret (v := 0) hx hb hr rfl (fun t ht hW => ⟨⟨0, (), rfl, Or.inl rfl, by rw [ht]; exact hP, hD⟩, hS.F ht⟩) hS.2.2 xd_Ds_exportsTo_31
  · refine W.eq (g2 := F0 m 8 ls [.int (-1)]) rfl ?_
    refine lv_istore_n hx hb xd_Ds_exportsTo_8 rfl hl (Nat.le_of_ble_eq_true rfl) rfl (fun ls hl => ?_)
    have hl : lv_has ls 4 [(3, .int (-1)), (0, .ref (ad (1 + d) 0)), (1, .int pn), (2, .int rd)] := hl
    refine lv_iload_n hx hb xd_Ds_exportsTo_9 rfl (lv_at hl 0 rfl) ?_
    refine lv_if_lt (tgt := 30) hx hb xd_Ds_exportsTo_10 (by decide) (fun _ => ?_) (fun hc52 => absurd (by decide) hc52)
    refine lv_iconst (v := 0) hx hb xd_Ds_exportsTo_30 (by decide) ?_
    exact W.zret (v := 0) hx hb hr rfl (fun t ht hW => ⟨⟨0, (), rfl, Or.inl rfl, by rw [ht]; exact hP, hD⟩, hS.F ht⟩) hS.2.2 xd_Ds_exportsTo_31
set_option maxHeartbeats 4000000 in
set_option maxRecDepth 100000 in
theorem xc_Ds_opensTo (l : Launch) (D : va_G) (kA : Nat → ClassId) (sz : Nat) (ad : Nat → Nat → Nat) (E : Nat → Nat → va_E) (RL : List (Nat × Nat)) (nd : Nat) (d : Nat) (pn : Int32) (rd : Int32) (hDIs : DIs kA ad E RL nd) (hd : d < nd) : Met l xy_Ds_opensTo (.code xy_Ds_opensTo xb_Ds_opensTo 4 (some .boolean) :: wT) { frames := 2, cells := 0, slots := 0, locals := 43 } (va_Pc [.ref (ad (1 + d) 0), .int pn, .int rd] (xPre D kA sz (rp ad E RL))) (va_Qi (fun (r : Int32) (u : Unit) => r = 0 ∨ r = 1) (fun (u : Unit) t => va_P D xcl (rp ad E RL) t.heap ∧ va_D (va_A (rp ad E RL) sz) (rp ad E RL)) (va_A (rp ad E RL) sz)) 0 0 (va_A (rp ad E RL) sz) := by
  refine Met.ofW (cc := xb_Ds_opensTo) (maxL := 4) (ret := (some .boolean)) (by decide) rfl ?_
  intro p e s m args below meth c s₁ B hml hv
  obtain ⟨rfl, hsz, hP, hK, hD0⟩ := hv
  have hx := B.exec
  have hb := B.bytes
  have hr := B.returns
  have hT := x_hT B.pre
  have hown : s.vm.findClass xR_Ds = some m.cls := findClass_of_methodNamed B.named
  have hlocks := B.notSynchronized
  subst hsz
  have hD := hD0.self (sz := s.heap.size)
  generalize hAe : va_A (rp ad E RL) s.heap.size = A at hD ⊢
  have hA : ∀ q : Nat, s.heap.size ≤ q → A q := fun q h => by rw [← hAe]; exact Or.inr h
  have hS : va_S A s.heap s.heap [] := va_S.rf
  have hl := lv_entry ([.ref (ad (1 + d) 0), .int pn, .int rd]) (n := 4) (Nat.le_of_ble_eq_true rfl)
  rw [lg_entry_eq]
  generalize (lg_sl ([.ref (ad (1 + d) 0), .int pn, .int rd]) ++ List.replicate (4 - (lg_sl ([.ref (ad (1 + d) 0), .int pn, .int rd])).length) Slot.unset).toArray = ls at hl ⊢
  have hl : lv_has ls 4 [(0, .ref (ad (1 + d) 0)), (1, .int pn), (2, .int rd)] := hl
  have hP : va_P D xcl (rp ad E RL) s.heap := hP
  refine lv_aload_n hx hb xd_Ds_opensTo_0 rfl (lv_at hl 0 rfl) ?_
  obtain ⟨hm_1, fd_1, nm_1, sd_1, k0_1, k1_1, k2_1, k3_1, f0_1, f1_1, f2_1, f3_1, fe_1, fo_1, tr_1, op_1, hk0_1, hk1_1, hk2_1, hk3_1, q0_1, q1_1, q2_1, q3_1, q4_1, q5_1, q6_1, q7_1, q8_1, q9_1, q10_1, q11_1, q12_1, hg_1⟩ := id (hDIs d (by omega))
  have c_2 : E (1 + d) 0 = .inr (7, [.int (nI d), .int fd_1, .int nm_1, .ref (ad (1 + d) 1), .ref (ad (1 + d) 9), .ref (ad (1 + d) 10), .ref (ad (1 + d) 2), .ref (ad (1 + d) 11), .ref (ad (1 + d) 12), .ref (ad (1 + d) 3), .ref (ad (1 + d) 4), .int sd_1]) := q0_1
  have m_3 : (1 + d, 0) ∈ RL := hm_1 0 (by omega)
  have c_4 : E (1 + d) 1 = .inr (8, [.ref (ad (1 + d) 5), .int (nI k0_1)]) := q1_1
  have m_5 : (1 + d, 1) ∈ RL := hm_1 1 (by omega)
  have c_6 : E (1 + d) 2 = .inr (8, [.ref (ad (1 + d) 6), .int (nI k1_1)]) := q2_1
  have m_7 : (1 + d, 2) ∈ RL := hm_1 2 (by omega)
  have c_8 : E (1 + d) 3 = .inr (8, [.ref (ad (1 + d) 7), .int (nI k2_1)]) := q3_1
  have m_9 : (1 + d, 3) ∈ RL := hm_1 3 (by omega)
  have c_10 : E (1 + d) 4 = .inr (8, [.ref (ad (1 + d) 8), .int (nI k3_1)]) := q4_1
  have m_11 : (1 + d, 4) ∈ RL := hm_1 4 (by omega)
  have c_12 : E (1 + d) 5 = .inl (kA 0, 6, .inl f0_1) := q5_1
  have m_13 : (1 + d, 5) ∈ RL := hm_1 5 (by omega)
  have c_14 : E (1 + d) 6 = .inl (kA 0, 5, .inl f1_1) := q6_1
  have m_15 : (1 + d, 6) ∈ RL := hm_1 6 (by omega)
  have c_16 : E (1 + d) 7 = .inl (kA 0, 3, .inl f2_1) := q7_1
  have m_17 : (1 + d, 7) ∈ RL := hm_1 7 (by omega)
  have c_18 : E (1 + d) 8 = .inl (kA 0, 3, .inl f3_1) := q8_1
  have m_19 : (1 + d, 8) ∈ RL := hm_1 8 (by omega)
  have c_20 : E (1 + d) 9 = .inl (kA 8, 6, .inr (.inr (.inr (.inr fe_1)))) := q9_1
  have m_21 : (1 + d, 9) ∈ RL := hm_1 9 (by omega)
  have c_22 : E (1 + d) 10 = .inl (kA 8, 6, .inr (.inr (.inr (.inr fo_1)))) := q10_1
  have m_23 : (1 + d, 10) ∈ RL := hm_1 10 (by omega)
  have c_24 : E (1 + d) 11 = .inl (kA 2, 5, .inl tr_1) := q11_1
  have m_25 : (1 + d, 11) ∈ RL := hm_1 11 (by omega)
  have c_26 : E (1 + d) 12 = .inl (kA 2, 5, .inl op_1) := q12_1
  have m_27 : (1 + d, 12) ∈ RL := hm_1 12 (by omega)
  have hg_1 : ∀ w9, w9 < k0_1 → fe_1 w9 = some (ad (1 + d) (20 + 3 * w9)) ∧ fo_1 w9 = some (ad (1 + d) (38 + 3 * w9)) ∧ GI kA (ad (1 + d)) (E (1 + d)) (fun o => (1 + d, o) ∈ RL) (20 + 3 * w9) (21 + 3 * w9) (22 + 3 * w9) ∧ GI kA (ad (1 + d)) (E (1 + d)) (fun o => (1 + d, o) ∈ RL) (38 + 3 * w9) (39 + 3 * w9) (40 + 3 * w9) := hg_1
  refine px_get (D := D) (ci := 7) (v := .ref (ad (1 + d) 1)) (C := xR_Ds) (T := xT_Ds) (N := 12) hx hb hT xi_Ds hown hK.1 hP m_3 c_2 rfl 3 (by decide) (hT _ ym_0) (fun _ h9 => h9) rfl xd_Ds_opensTo_1 ?_
  refine lv_iload_n hx hb xd_Ds_opensTo_4 rfl (lv_at hl 1 rfl) ?_
  have hFc := px_free hD hS hA
  refine va_calli (va_runV (As := [.int pn]) (rest := []) ⟨hx, hb, hml, hown, hT⟩ (xc_Na_indexOf l D kA s.heap.size ad E RL (1 + d) 1 5 6 k0_1 f0_1 pn m_5 c_4 m_13 c_12 (by first | assumption | omega) (by first | assumption | omega)) (cwV 1 hT (wT_V ym_2 ym_3 ym_4 ym_5 ym_1) rfl rfl rfl (by decide +kernel) ⟨Nat.le_of_ble_eq_true rfl, Nat.le_of_ble_eq_true rfl⟩) (px_preV hK hP hD m_5 c_4 rfl) rfl rfl hl.1 rfl (lv_room (Nat.le_of_ble_eq_true rfl)) xd_Ds_opensTo_5 ⟨(Nat.le_of_ble_eq_true rfl), (Nat.le_of_ble_eq_true rfl)⟩) hS (fun q _ h => hFc q h) hFc (fun r28 u29 t H1 locs ht hvm hp30 hB hz1 hk1 hS => ?_)
  obtain ⟨hP1, hD1⟩ := hB
  rw [ht] at hP1
  have hD1 := hD1.weaken (fun _ _ _ h => hFc _ h)
  generalize H1 = H at hP1 hS ⊢
  have hP := hP1
  have hD := hD1
  have hP : va_P D xcl (rp ad E RL) H := hP
  have hD : va_D A (rp ad E RL) := hD
  rcases hp30 with ⟨z31, z32, rfl, z33, z34⟩ | ⟨rfl, z35⟩
  · refine W.eq (g2 := F0 m 8 ls [.int (nI z31)]) rfl ?_
    refine lv_istore_n hx hb xd_Ds_opensTo_8 rfl hl (Nat.le_of_ble_eq_true rfl) rfl (fun ls hl => ?_)
    have hl : lv_has ls 4 [(3, .int (nI z31)), (0, .ref (ad (1 + d) 0)), (1, .int pn), (2, .int rd)] := hl
    refine lv_iload_n hx hb xd_Ds_opensTo_9 rfl (lv_at hl 0 rfl) ?_
    refine xz_lt (a := z31) (tgt := 30) hx hb xd_Ds_opensTo_10 (by decide) (by omega) ?_
    refine lv_aload_n hx hb xd_Ds_opensTo_13 rfl (lv_at hl 1 rfl) ?_
    refine px_get (D := D) (ci := 7) (v := .ref (ad (1 + d) 10)) (C := xR_Ds) (T := xT_Ds) (N := 12) hx hb hT xi_Ds hown hK.1 hP m_3 c_2 rfl 5 (by decide) (hT _ ym_7) (fun _ h9 => h9) rfl xd_Ds_opensTo_14 ?_
    refine lv_iload_n hx hb xd_Ds_opensTo_17 rfl (lv_at hl 0 rfl) ?_
    refine px_aald (i := z31) (x := (some (ad (1 + d) (38 + 3 * z31)))) hx hb hK.1 hP m_23 c_22 8 rfl ((hg_1 z31 (by omega)).2.1) (by omega) (by decide) xd_Ds_opensTo_18 ?_
    refine lv_iload_n hx hb xd_Ds_opensTo_19 rfl (lv_at hl 3 rfl) ?_
    obtain ⟨m0_37, m1_37, m2_37, ta_37, n_37, f_37, hn_37, q0_37, q1_37, q2_37⟩ := (hg_1 z31 (by omega)).2.2.2
    have c_38 : E (1 + d) (38 + 3 * z31) = .inr (9, [.ref (ad (1 + d) (39 + 3 * z31)), .int ta_37]) := q0_37
    have m_39 : (1 + d, 38 + 3 * z31) ∈ RL := m0_37
    have c_40 : E (1 + d) (39 + 3 * z31) = .inr (8, [.ref (ad (1 + d) (40 + 3 * z31)), .int (nI n_37)]) := q1_37
    have m_41 : (1 + d, 39 + 3 * z31) ∈ RL := m1_37
    have c_42 : E (1 + d) (40 + 3 * z31) = .inl (kA 0, 3, .inl f_37) := q2_37
    have m_43 : (1 + d, 40 + 3 * z31) ∈ RL := m2_37
    have hFc := px_free hD hS hA
    refine va_calli (va_runV (As := [.int rd]) (rest := []) ⟨hx, hb, hml, hown, hT⟩ (xc_Gr_covers l D kA H.size ad E RL (1 + d) (38 + 3 * z31) (39 + 3 * z31) (40 + 3 * z31) ta_37 n_37 f_37 rd m_39 c_38 m_41 c_40 m_43 c_42 (by first | assumption | omega)) (cwV 1 hT (wT_V ym_9 ym_10 ym_11 ym_12 ym_8) rfl rfl rfl (by decide +kernel) ⟨Nat.le_of_ble_eq_true rfl, Nat.le_of_ble_eq_true rfl⟩) (px_preV hK hP hD m_39 c_38 rfl) rfl rfl hl.1 rfl (lv_room (Nat.le_of_ble_eq_true rfl)) xd_Ds_opensTo_20 ⟨(Nat.le_of_ble_eq_true rfl), (Nat.le_of_ble_eq_true rfl)⟩) hS (fun q _ h => hFc q h) hFc (fun r44 u45 t H1 locs ht hvm hp46 hB hz1 hk1 hS => ?_)
    obtain ⟨hP1, hD1⟩ := hB
    rw [ht] at hP1
    have hD1 := hD1.weaken (fun _ _ _ h => hFc _ h)
    generalize H1 = H at hP1 hS ⊢
    have hP := hP1
    have hD := hD1
    have hP : va_P D xcl (rp ad E RL) H := hP
    have hD : va_D A (rp ad E RL) := hD
    rcases hp46 with ⟨rfl, z47⟩ | ⟨rfl, z48, z49⟩
    · refine W.eq (g2 := F0 m 23 ls [.int 1]) rfl ?_
      refine lv_if_eq (tgt := 30) hx hb xd_Ds_opensTo_23 (by decide) (fun hc50 => absurd hc50 (by decide)) (fun _ => ?_)
      refine lv_iconst (v := 1) hx hb xd_Ds_opensTo_26 (by decide) ?_
      refine lv_goto (tgt := 31) hx hb xd_Ds_opensTo_27 (by decide) ?_
      exact W.zret (v := 1) hx hb hr rfl (fun t ht hW => ⟨⟨1, (), rfl, Or.inr rfl, by rw [ht]; exact hP, hD⟩, hS.F ht⟩) hS.2.2 xd_Ds_opensTo_31
    · refine W.eq (g2 := F0 m 23 ls [.int 0]) rfl ?_
      refine lv_if_eq (tgt := 30) hx hb xd_Ds_opensTo_23 (by decide) (fun _ => ?_) (fun hc51 => absurd (by decide) hc51)
      refine lv_iconst (v := 0) hx hb xd_Ds_opensTo_30 (by decide) ?_
      exact W.zret (v := 0) hx hb hr rfl (fun t ht hW => ⟨⟨0, (), rfl, Or.inl rfl, by rw [ht]; exact hP, hD⟩, hS.F ht⟩) hS.2.2 xd_Ds_opensTo_31
  · refine W.eq (g2 := F0 m 8 ls [.int (-1)]) rfl ?_
    refine lv_istore_n hx hb xd_Ds_opensTo_8 rfl hl (Nat.le_of_ble_eq_true rfl) rfl (fun ls hl => ?_)
    have hl : lv_has ls 4 [(3, .int (-1)), (0, .ref (ad (1 + d) 0)), (1, .int pn), (2, .int rd)] := hl
    refine lv_iload_n hx hb xd_Ds_opensTo_9 rfl (lv_at hl 0 rfl) ?_
    refine lv_if_lt (tgt := 30) hx hb xd_Ds_opensTo_10 (by decide) (fun _ => ?_) (fun hc52 => absurd (by decide) hc52)
    refine lv_iconst (v := 0) hx hb xd_Ds_opensTo_30 (by decide) ?_
    exact W.zret (v := 0) hx hb hr rfl (fun t ht hW => ⟨⟨0, (), rfl, Or.inl rfl, by rw [ht]; exact hP, hD⟩, hS.F ht⟩) hS.2.2 xd_Ds_opensTo_31
set_option maxHeartbeats 4000000 in
set_option maxRecDepth 100000 in
theorem xc_Re_marks (l : Launch) (D : va_G) (kA : Nat → ClassId) (sz : Nat) (ad : Nat → Nat → Nat) (E : Nat → Nat → va_E) (RL : List (Nat × Nat)) (b : Nat) (o : Nat) (oa : Nat) (f : Nat → Int32) (n : Nat) (k : Nat) (d : Nat) (pv : Value) (lo : Int32) (fd : Int32) (nm : Int32) (sd : Int32) (ym0 : (b, o) ∈ RL) (yc0 : E b o = .inr (10, [.ref (ad b oa)])) (ym1 : (b, oa) ∈ RL) (yc1 : E b oa = .inl (kA 0, 6, .inl f)) (ym2 : (20 + n, 10 + 10 * k) ∈ RL) (yc2 : E (20 + n) (10 + 10 * k) = .inr (6, [.ref (ad (20 + n) 0), .ref (ad (1 + d) 0), .ref (ad (20 + n) (11 + 10 * k)), .ref (ad (20 + n) (12 + 10 * k)), .ref (ad (20 + n) (13 + 10 * k)), .ref (ad (20 + n) (14 + 10 * k))])) (ym3 : (20 + n, 0) ∈ RL) (yc3 : E (20 + n) 0 = .inr (5, [.int (nI n), pv, .ref (ad (20 + n) 1), .int lo])) (ym4 : (1 + d, 0) ∈ RL) (yc4 : E (1 + d) 0 = .inr (7, [.int (nI d), .int fd, .int nm, .ref (ad (1 + d) 1), .ref (ad (1 + d) 9), .ref (ad (1 + d) 10), .ref (ad (1 + d) 2), .ref (ad (1 + d) 11), .ref (ad (1 + d) 12), .ref (ad (1 + d) 3), .ref (ad (1 + d) 4), .int sd])) (hn6 : n ≤ 5) : Met l xy_Re_marks (.code xy_Re_marks xb_Re_marks 2 (some .boolean) :: wT) { frames := 0, cells := 0, slots := 0, locals := 0 } (va_Pc [.ref (ad b o), .ref (ad (20 + n) (10 + 10 * k))] (xPre D kA sz (rp ad E RL))) (va_Qi (fun (r : Int32) (u : Unit) => (r = 1 ∧ ¬ ((f n >>> (nI d &&& 31)) &&& 1) = 0) ∨ (r = 0 ∧ ((f n >>> (nI d &&& 31)) &&& 1) = 0)) (fun (u : Unit) t => va_P D xcl (rp ad E RL) t.heap ∧ va_D (va_A (rp ad E RL) sz) (rp ad E RL)) (va_A (rp ad E RL) sz)) 0 0 (va_A (rp ad E RL) sz) := by
  refine Met.ofW (cc := xb_Re_marks) (maxL := 2) (ret := (some .boolean)) (by decide) rfl ?_
  intro p e s m args below meth c s₁ B hml hv
  obtain ⟨rfl, hsz, hP, hK, hD0⟩ := hv
  have hx := B.exec
  have hb := B.bytes
  have hr := B.returns
  have hT := x_hT B.pre
  have hown : s.vm.findClass xR_Re = some m.cls := findClass_of_methodNamed B.named
  have hlocks := B.notSynchronized
  subst hsz
  have hD := hD0.self (sz := s.heap.size)
  generalize hAe : va_A (rp ad E RL) s.heap.size = A at hD ⊢
  have hA : ∀ q : Nat, s.heap.size ≤ q → A q := fun q h => by rw [← hAe]; exact Or.inr h
  have hS : va_S A s.heap s.heap [] := va_S.rf
  have hl := lv_entry ([.ref (ad b o), .ref (ad (20 + n) (10 + 10 * k))]) (n := 2) (Nat.le_of_ble_eq_true rfl)
  rw [lg_entry_eq]
  generalize (lg_sl ([.ref (ad b o), .ref (ad (20 + n) (10 + 10 * k))]) ++ List.replicate (2 - (lg_sl ([.ref (ad b o), .ref (ad (20 + n) (10 + 10 * k))])).length) Slot.unset).toArray = ls at hl ⊢
  have hl : lv_has ls 2 [(0, .ref (ad b o)), (1, .ref (ad (20 + n) (10 + 10 * k)))] := hl
  have hP : va_P D xcl (rp ad E RL) s.heap := hP
  refine lv_aload_n hx hb xd_Re_marks_0 rfl (lv_at hl 0 rfl) ?_
  refine px_get (D := D) (ci := 10) (v := .ref (ad b oa)) (C := xR_Re) (T := xT_Re) (N := 1) hx hb hT xi_Re hown hK.1 hP ym0 yc0 rfl 0 (by decide) (hT _ ym_13) (fun _ h9 => h9) rfl xd_Re_marks_1 ?_
  refine lv_aload_n hx hb xd_Re_marks_4 rfl (lv_at hl 1 rfl) ?_
  refine px_get (D := D) (ci := 6) (v := .ref (ad (20 + n) 0)) (C := xR_Me) (T := xT_Me) (N := 6) hx hb hT xi_Me hown hK.1 hP ym2 yc2 rfl 0 (by decide) (hT _ ym_14) (fun _ h9 => h9) rfl xd_Re_marks_5 ?_
  refine px_get (D := D) (ci := 5) (v := .int (nI n)) (C := xR_Ly) (T := xT_Ly) (N := 4) hx hb hT xi_Ly hown hK.1 hP ym3 yc3 rfl 0 (by decide) (hT _ ym_15) (fun _ h9 => h9) rfl xd_Re_marks_8 ?_
  refine px_iald (i := n) hx hb hK.1 hP ym1 yc1 0 rfl (by omega) (by decide) xd_Re_marks_11 ?_
  refine lv_aload_n hx hb xd_Re_marks_12 rfl (lv_at hl 1 rfl) ?_
  refine px_get (D := D) (ci := 6) (v := .ref (ad (1 + d) 0)) (C := xR_Me) (T := xT_Me) (N := 6) hx hb hT xi_Me hown hK.1 hP ym2 yc2 rfl 1 (by decide) (hT _ ym_16) (fun _ h9 => h9) rfl xd_Re_marks_13 ?_
  refine px_get (D := D) (ci := 7) (v := .int (nI d)) (C := xR_Ds) (T := xT_Ds) (N := 12) hx hb hT xi_Ds hown hK.1 hP ym4 yc4 rfl 0 (by decide) (hT _ ym_17) (fun _ h9 => h9) rfl xd_Re_marks_16 ?_
  refine lv_ishr hx hb xd_Re_marks_19 ?_
  refine lv_iconst (v := 1) hx hb xd_Re_marks_20 (by decide) ?_
  refine lv_iand hx hb xd_Re_marks_21 ?_
  refine lv_if_eq (tgt := 29) hx hb xd_Re_marks_22 (by decide) (fun hc1 => ?_) (fun hc1 => ?_)
  · refine lv_iconst (v := 0) hx hb xd_Re_marks_29 (by decide) ?_
    exact W.zret (v := 0) hx hb hr rfl (fun t ht hW => ⟨⟨0, (), rfl, Or.inr ⟨rfl, hc1⟩, by rw [ht]; exact hP, hD⟩, hS.F ht⟩) hS.2.2 xd_Re_marks_30
  · refine lv_iconst (v := 1) hx hb xd_Re_marks_25 (by decide) ?_
    refine lv_goto (tgt := 30) hx hb xd_Re_marks_26 (by decide) ?_
    exact W.zret (v := 1) hx hb hr rfl (fun t ht hW => ⟨⟨1, (), rfl, Or.inl ⟨rfl, hc1⟩, by rw [ht]; exact hP, hD⟩, hS.F ht⟩) hS.2.2 xd_Re_marks_30
set_option maxHeartbeats 4000000 in
set_option maxRecDepth 100000 in
theorem xc_Re_mark (l : Launch) (D : va_G) (kA : Nat → ClassId) (sz : Nat) (ad : Nat → Nat → Nat) (E : Nat → Nat → va_E) (RL : List (Nat × Nat)) (b : Nat) (o : Nat) (oa : Nat) (f : Nat → Int32) (n : Nat) (k : Nat) (d : Nat) (pv : Value) (lo : Int32) (fd : Int32) (nm : Int32) (sd : Int32) (ym0 : (b, o) ∈ RL) (yc0 : E b o = .inr (10, [.ref (ad b oa)])) (ym1 : (b, oa) ∈ RL) (yc1 : E b oa = .inl (kA 0, 6, .inl f)) (ym2 : (20 + n, 10 + 10 * k) ∈ RL) (yc2 : E (20 + n) (10 + 10 * k) = .inr (6, [.ref (ad (20 + n) 0), .ref (ad (1 + d) 0), .ref (ad (20 + n) (11 + 10 * k)), .ref (ad (20 + n) (12 + 10 * k)), .ref (ad (20 + n) (13 + 10 * k)), .ref (ad (20 + n) (14 + 10 * k))])) (ym3 : (20 + n, 0) ∈ RL) (yc3 : E (20 + n) 0 = .inr (5, [.int (nI n), pv, .ref (ad (20 + n) 1), .int lo])) (ym4 : (1 + d, 0) ∈ RL) (yc4 : E (1 + d) 0 = .inr (7, [.int (nI d), .int fd, .int nm, .ref (ad (1 + d) 1), .ref (ad (1 + d) 9), .ref (ad (1 + d) 10), .ref (ad (1 + d) 2), .ref (ad (1 + d) 11), .ref (ad (1 + d) 12), .ref (ad (1 + d) 3), .ref (ad (1 + d) 4), .int sd])) (hn6 : n ≤ 5) (hoa : o ≠ oa) (hap : ¬ (b = 20 + n ∧ oa = 10 + 10 * k) ∧ ¬ (b = 20 + n ∧ oa = 0) ∧ ¬ (b = 1 + d ∧ oa = 0)) : Met l xy_Re_mark (.code xy_Re_mark xb_Re_mark 2 none :: wT) { frames := 0, cells := 0, slots := 0, locals := 0 } (va_Pc [.ref (ad b o), .ref (ad (20 + n) (10 + 10 * k))] (xPre D kA sz (rp ad E RL))) (va_Qv (fun (u : Nat → Nat → va_E) => ∃ f2 : Nat → Int32, (f2 = upd f n (f n ||| (1 <<< (nI d &&& 31)))) ∧ (u b oa = .inl (kA 0, 6, .inl f2)) ∧ ((∀ b2 o2, ¬ (b2 = b ∧ o2 = oa) → u b2 o2 = E b2 o2))) (fun (u : Nat → Nat → va_E) t => va_P D xcl (rp ad u RL) t.heap ∧ va_D (va_A (rp ad E RL) sz) (rp ad u RL)) (va_A (rp ad E RL) sz)) 0 0 (va_A (rp ad E RL) sz) := by
  refine Met.ofW (cc := xb_Re_mark) (maxL := 2) (ret := none) (by decide) rfl ?_
  intro p e s m args below meth c s₁ B hml hv
  obtain ⟨rfl, hsz, hP, hK, hD0⟩ := hv
  have hx := B.exec
  have hb := B.bytes
  have hr := B.returns
  have hT := x_hT B.pre
  have hown : s.vm.findClass xR_Re = some m.cls := findClass_of_methodNamed B.named
  have hlocks := B.notSynchronized
  subst hsz
  have hD := hD0.self (sz := s.heap.size)
  generalize hAe : va_A (rp ad E RL) s.heap.size = A at hD ⊢
  have hA : ∀ q : Nat, s.heap.size ≤ q → A q := fun q h => by rw [← hAe]; exact Or.inr h
  have hS : va_S A s.heap s.heap [] := va_S.rf
  have hl := lv_entry ([.ref (ad b o), .ref (ad (20 + n) (10 + 10 * k))]) (n := 2) (Nat.le_of_ble_eq_true rfl)
  rw [lg_entry_eq]
  generalize (lg_sl ([.ref (ad b o), .ref (ad (20 + n) (10 + 10 * k))]) ++ List.replicate (2 - (lg_sl ([.ref (ad b o), .ref (ad (20 + n) (10 + 10 * k))])).length) Slot.unset).toArray = ls at hl ⊢
  have hl : lv_has ls 2 [(0, .ref (ad b o)), (1, .ref (ad (20 + n) (10 + 10 * k)))] := hl
  have hP : va_P D xcl (rp ad E RL) s.heap := hP
  refine lv_aload_n hx hb xd_Re_mark_0 rfl (lv_at hl 0 rfl) ?_
  refine px_get (D := D) (ci := 10) (v := .ref (ad b oa)) (C := xR_Re) (T := xT_Re) (N := 1) hx hb hT xi_Re hown hK.1 hP ym0 yc0 rfl 0 (by decide) (hT _ ym_13) (fun _ h9 => h9) rfl xd_Re_mark_1 ?_
  refine lv_aload_n hx hb xd_Re_mark_4 rfl (lv_at hl 1 rfl) ?_
  refine px_get (D := D) (ci := 6) (v := .ref (ad (20 + n) 0)) (C := xR_Me) (T := xT_Me) (N := 6) hx hb hT xi_Me hown hK.1 hP ym2 yc2 rfl 0 (by decide) (hT _ ym_14) (fun _ h9 => h9) rfl xd_Re_mark_5 ?_
  refine px_get (D := D) (ci := 5) (v := .int (nI n)) (C := xR_Ly) (T := xT_Ly) (N := 4) hx hb hT xi_Ly hown hK.1 hP ym3 yc3 rfl 0 (by decide) (hT _ ym_15) (fun _ h9 => h9) rfl xd_Re_mark_8 ?_
  refine lv_dup2_11 hx hb xd_Re_mark_11 rfl rfl ?_
  refine px_iald (i := n) hx hb hK.1 hP ym1 yc1 0 rfl (by omega) (by decide) xd_Re_mark_12 ?_
  refine lv_iconst (v := 1) hx hb xd_Re_mark_13 (by decide) ?_
  refine lv_aload_n hx hb xd_Re_mark_14 rfl (lv_at hl 1 rfl) ?_
  refine px_get (D := D) (ci := 6) (v := .ref (ad (1 + d) 0)) (C := xR_Me) (T := xT_Me) (N := 6) hx hb hT xi_Me hown hK.1 hP ym2 yc2 rfl 1 (by decide) (hT _ ym_16) (fun _ h9 => h9) rfl xd_Re_mark_15 ?_
  refine px_get (D := D) (ci := 7) (v := .int (nI d)) (C := xR_Ds) (T := xT_Ds) (N := 12) hx hb hT xi_Ds hown hK.1 hP ym4 yc4 rfl 0 (by decide) (hT _ ym_17) (fun _ h9 => h9) rfl xd_Re_mark_18 ?_
  refine lv_ishl hx hb xd_Re_mark_21 ?_
  refine lv_ior hx hb xd_Re_mark_22 ?_
  refine px_iast (i := n) hx hb hK.1 hP hD hS ym1 yc1 0 rfl (by omega) (by decide) xd_Re_mark_23 (fun H locs hP hD hS => ?_)
  have hP : va_P D xcl (rp ad (up2 E b oa (.inl (kA 0, 6, .inl (upd f n ((f n) ||| (1 <<< ((nI d) &&& 31))))))) RL) H := hP
  have hD : va_D A (rp ad (up2 E b oa (.inl (kA 0, 6, .inl (upd f n ((f n) ||| (1 <<< ((nI d) &&& 31))))))) RL) := hD
  generalize hE2 : up2 E b oa (.inl (kA 0, 6, .inl (upd f n ((f n) ||| (1 <<< ((nI d) &&& 31)))))) = E1 at hP hD
  have fE3 : ∀ b2 o2, ¬ (b2 = b ∧ o2 = oa) → E1 b2 o2 = E b2 o2 := fun b2 o2 h9 => by rw [← hE2]; exact up2_ne (by omega)
  have c_4 : E1 b oa = .inl (kA 0, 6, .inl (upd f n ((f n) ||| (1 <<< ((nI d) &&& 31))))) := by rw [← hE2]; exact up2_eq
  have c_5 : E1 b o = .inr (10, [.ref (ad b oa)]) := (fE3 b o (by omega)).trans yc0
  have c_6 : E1 (20 + n) (10 + 10 * k) = .inr (6, [.ref (ad (20 + n) 0), .ref (ad (1 + d) 0), .ref (ad (20 + n) (11 + 10 * k)), .ref (ad (20 + n) (12 + 10 * k)), .ref (ad (20 + n) (13 + 10 * k)), .ref (ad (20 + n) (14 + 10 * k))]) := (fE3 (20 + n) (10 + 10 * k) (by omega)).trans yc2
  have c_7 : E1 (20 + n) 0 = .inr (5, [.int (nI n), pv, .ref (ad (20 + n) 1), .int lo]) := (fE3 (20 + n) 0 (by omega)).trans yc3
  have c_8 : E1 (1 + d) 0 = .inr (7, [.int (nI d), .int fd, .int nm, .ref (ad (1 + d) 1), .ref (ad (1 + d) 9), .ref (ad (1 + d) 10), .ref (ad (1 + d) 2), .ref (ad (1 + d) 11), .ref (ad (1 + d) 12), .ref (ad (1 + d) 3), .ref (ad (1 + d) 4), .int sd]) := (fE3 (1 + d) 0 (by omega)).trans yc4
  exact W.vret hx hb hr (fun t ht hW => ⟨⟨E1, rfl, ⟨(upd f n ((f n) ||| (1 <<< ((nI d) &&& 31)))), rfl, c_4, (fun b2 o2 h09 => by show E1 b2 o2 = _; rw [fE3 b2 o2 (by omega)])⟩, by rw [ht]; exact hP, hD⟩, hS.F ht⟩) hS.2.2 xd_Re_mark_24
set_option maxHeartbeats 4000000 in
set_option maxRecDepth 100000 in
theorem xc_Re_unmark (l : Launch) (D : va_G) (kA : Nat → ClassId) (sz : Nat) (ad : Nat → Nat → Nat) (E : Nat → Nat → va_E) (RL : List (Nat × Nat)) (b : Nat) (o : Nat) (oa : Nat) (f : Nat → Int32) (n : Nat) (k : Nat) (d : Nat) (pv : Value) (lo : Int32) (fd : Int32) (nm : Int32) (sd : Int32) (ym0 : (b, o) ∈ RL) (yc0 : E b o = .inr (10, [.ref (ad b oa)])) (ym1 : (b, oa) ∈ RL) (yc1 : E b oa = .inl (kA 0, 6, .inl f)) (ym2 : (20 + n, 10 + 10 * k) ∈ RL) (yc2 : E (20 + n) (10 + 10 * k) = .inr (6, [.ref (ad (20 + n) 0), .ref (ad (1 + d) 0), .ref (ad (20 + n) (11 + 10 * k)), .ref (ad (20 + n) (12 + 10 * k)), .ref (ad (20 + n) (13 + 10 * k)), .ref (ad (20 + n) (14 + 10 * k))])) (ym3 : (20 + n, 0) ∈ RL) (yc3 : E (20 + n) 0 = .inr (5, [.int (nI n), pv, .ref (ad (20 + n) 1), .int lo])) (ym4 : (1 + d, 0) ∈ RL) (yc4 : E (1 + d) 0 = .inr (7, [.int (nI d), .int fd, .int nm, .ref (ad (1 + d) 1), .ref (ad (1 + d) 9), .ref (ad (1 + d) 10), .ref (ad (1 + d) 2), .ref (ad (1 + d) 11), .ref (ad (1 + d) 12), .ref (ad (1 + d) 3), .ref (ad (1 + d) 4), .int sd])) (hn6 : n ≤ 5) (hoa : o ≠ oa) (hap : ¬ (b = 20 + n ∧ oa = 10 + 10 * k) ∧ ¬ (b = 20 + n ∧ oa = 0) ∧ ¬ (b = 1 + d ∧ oa = 0)) : Met l xy_Re_unmark (.code xy_Re_unmark xb_Re_unmark 2 none :: wT) { frames := 0, cells := 0, slots := 0, locals := 0 } (va_Pc [.ref (ad b o), .ref (ad (20 + n) (10 + 10 * k))] (xPre D kA sz (rp ad E RL))) (va_Qv (fun (u : Nat → Nat → va_E) => ∃ f2 : Nat → Int32, (f2 = upd f n (f n &&& ((1 <<< (nI d &&& 31)) ^^^ (-1)))) ∧ (u b oa = .inl (kA 0, 6, .inl f2)) ∧ ((∀ b2 o2, ¬ (b2 = b ∧ o2 = oa) → u b2 o2 = E b2 o2))) (fun (u : Nat → Nat → va_E) t => va_P D xcl (rp ad u RL) t.heap ∧ va_D (va_A (rp ad E RL) sz) (rp ad u RL)) (va_A (rp ad E RL) sz)) 0 0 (va_A (rp ad E RL) sz) := by
  refine Met.ofW (cc := xb_Re_unmark) (maxL := 2) (ret := none) (by decide) rfl ?_
  intro p e s m args below meth c s₁ B hml hv
  obtain ⟨rfl, hsz, hP, hK, hD0⟩ := hv
  have hx := B.exec
  have hb := B.bytes
  have hr := B.returns
  have hT := x_hT B.pre
  have hown : s.vm.findClass xR_Re = some m.cls := findClass_of_methodNamed B.named
  have hlocks := B.notSynchronized
  subst hsz
  have hD := hD0.self (sz := s.heap.size)
  generalize hAe : va_A (rp ad E RL) s.heap.size = A at hD ⊢
  have hA : ∀ q : Nat, s.heap.size ≤ q → A q := fun q h => by rw [← hAe]; exact Or.inr h
  have hS : va_S A s.heap s.heap [] := va_S.rf
  have hl := lv_entry ([.ref (ad b o), .ref (ad (20 + n) (10 + 10 * k))]) (n := 2) (Nat.le_of_ble_eq_true rfl)
  rw [lg_entry_eq]
  generalize (lg_sl ([.ref (ad b o), .ref (ad (20 + n) (10 + 10 * k))]) ++ List.replicate (2 - (lg_sl ([.ref (ad b o), .ref (ad (20 + n) (10 + 10 * k))])).length) Slot.unset).toArray = ls at hl ⊢
  have hl : lv_has ls 2 [(0, .ref (ad b o)), (1, .ref (ad (20 + n) (10 + 10 * k)))] := hl
  have hP : va_P D xcl (rp ad E RL) s.heap := hP
  refine lv_aload_n hx hb xd_Re_unmark_0 rfl (lv_at hl 0 rfl) ?_
  refine px_get (D := D) (ci := 10) (v := .ref (ad b oa)) (C := xR_Re) (T := xT_Re) (N := 1) hx hb hT xi_Re hown hK.1 hP ym0 yc0 rfl 0 (by decide) (hT _ ym_13) (fun _ h9 => h9) rfl xd_Re_unmark_1 ?_
  refine lv_aload_n hx hb xd_Re_unmark_4 rfl (lv_at hl 1 rfl) ?_
  refine px_get (D := D) (ci := 6) (v := .ref (ad (20 + n) 0)) (C := xR_Me) (T := xT_Me) (N := 6) hx hb hT xi_Me hown hK.1 hP ym2 yc2 rfl 0 (by decide) (hT _ ym_14) (fun _ h9 => h9) rfl xd_Re_unmark_5 ?_
  refine px_get (D := D) (ci := 5) (v := .int (nI n)) (C := xR_Ly) (T := xT_Ly) (N := 4) hx hb hT xi_Ly hown hK.1 hP ym3 yc3 rfl 0 (by decide) (hT _ ym_15) (fun _ h9 => h9) rfl xd_Re_unmark_8 ?_
  refine lv_dup2_11 hx hb xd_Re_unmark_11 rfl rfl ?_
  refine px_iald (i := n) hx hb hK.1 hP ym1 yc1 0 rfl (by omega) (by decide) xd_Re_unmark_12 ?_
  refine lv_iconst (v := 1) hx hb xd_Re_unmark_13 (by decide) ?_
  refine lv_aload_n hx hb xd_Re_unmark_14 rfl (lv_at hl 1 rfl) ?_
  refine px_get (D := D) (ci := 6) (v := .ref (ad (1 + d) 0)) (C := xR_Me) (T := xT_Me) (N := 6) hx hb hT xi_Me hown hK.1 hP ym2 yc2 rfl 1 (by decide) (hT _ ym_16) (fun _ h9 => h9) rfl xd_Re_unmark_15 ?_
  refine px_get (D := D) (ci := 7) (v := .int (nI d)) (C := xR_Ds) (T := xT_Ds) (N := 12) hx hb hT xi_Ds hown hK.1 hP ym4 yc4 rfl 0 (by decide) (hT _ ym_17) (fun _ h9 => h9) rfl xd_Re_unmark_18 ?_
  refine lv_ishl hx hb xd_Re_unmark_21 ?_
  refine lv_iconst (v := (-1)) hx hb xd_Re_unmark_22 (by decide) ?_
  refine lv_ixor hx hb xd_Re_unmark_23 ?_
  refine lv_iand hx hb xd_Re_unmark_24 ?_
  refine px_iast (i := n) hx hb hK.1 hP hD hS ym1 yc1 0 rfl (by omega) (by decide) xd_Re_unmark_25 (fun H locs hP hD hS => ?_)
  have hP : va_P D xcl (rp ad (up2 E b oa (.inl (kA 0, 6, .inl (upd f n ((f n) &&& ((1 <<< ((nI d) &&& 31)) ^^^ (-1))))))) RL) H := hP
  have hD : va_D A (rp ad (up2 E b oa (.inl (kA 0, 6, .inl (upd f n ((f n) &&& ((1 <<< ((nI d) &&& 31)) ^^^ (-1))))))) RL) := hD
  generalize hE2 : up2 E b oa (.inl (kA 0, 6, .inl (upd f n ((f n) &&& ((1 <<< ((nI d) &&& 31)) ^^^ (-1)))))) = E1 at hP hD
  have fE3 : ∀ b2 o2, ¬ (b2 = b ∧ o2 = oa) → E1 b2 o2 = E b2 o2 := fun b2 o2 h9 => by rw [← hE2]; exact up2_ne (by omega)
  have c_4 : E1 b oa = .inl (kA 0, 6, .inl (upd f n ((f n) &&& ((1 <<< ((nI d) &&& 31)) ^^^ (-1))))) := by rw [← hE2]; exact up2_eq
  have c_5 : E1 b o = .inr (10, [.ref (ad b oa)]) := (fE3 b o (by omega)).trans yc0
  have c_6 : E1 (20 + n) (10 + 10 * k) = .inr (6, [.ref (ad (20 + n) 0), .ref (ad (1 + d) 0), .ref (ad (20 + n) (11 + 10 * k)), .ref (ad (20 + n) (12 + 10 * k)), .ref (ad (20 + n) (13 + 10 * k)), .ref (ad (20 + n) (14 + 10 * k))]) := (fE3 (20 + n) (10 + 10 * k) (by omega)).trans yc2
  have c_7 : E1 (20 + n) 0 = .inr (5, [.int (nI n), pv, .ref (ad (20 + n) 1), .int lo]) := (fE3 (20 + n) 0 (by omega)).trans yc3
  have c_8 : E1 (1 + d) 0 = .inr (7, [.int (nI d), .int fd, .int nm, .ref (ad (1 + d) 1), .ref (ad (1 + d) 9), .ref (ad (1 + d) 10), .ref (ad (1 + d) 2), .ref (ad (1 + d) 11), .ref (ad (1 + d) 12), .ref (ad (1 + d) 3), .ref (ad (1 + d) 4), .int sd]) := (fE3 (1 + d) 0 (by omega)).trans yc4
  exact W.vret hx hb hr (fun t ht hW => ⟨⟨E1, rfl, ⟨(upd f n ((f n) &&& ((1 <<< ((nI d) &&& 31)) ^^^ (-1)))), rfl, c_4, (fun b2 o2 h09 => by show E1 b2 o2 = _; rw [fE3 b2 o2 (by omega)])⟩, by rw [ht]; exact hP, hD⟩, hS.F ht⟩) hS.2.2 xd_Re_unmark_26
set_option maxHeartbeats 4000000 in
set_option maxRecDepth 100000 in
theorem xc_Re_join (l : Launch) (D : va_G) (kA : Nat → ClassId) (sz : Nat) (ad : Nat → Nat → Nat) (E : Nat → Nat → va_E) (RL : List (Nat × Nat)) (b : Nat) (o : Nat) (oa : Nat) (f : Nat → Int32) (b3 : Nat) (o3 : Nat) (oa3 : Nat) (f3 : Nat → Int32) (ym0 : (b, o) ∈ RL) (yc0 : E b o = .inr (10, [.ref (ad b oa)])) (ym1 : (b, oa) ∈ RL) (yc1 : E b oa = .inl (kA 0, 6, .inl f)) (ym2 : (b3, o3) ∈ RL) (yc2 : E b3 o3 = .inr (10, [.ref (ad b3 oa3)])) (ym3 : (b3, oa3) ∈ RL) (yc3 : E b3 oa3 = .inl (kA 0, 6, .inl f3)) (hoa : o ≠ oa) (hap : ¬ (b3 = b ∧ o3 = oa) ∧ ¬ (b3 = b ∧ oa3 = oa)) : Met l xy_Re_join (.code xy_Re_join xb_Re_join 3 none :: wT) { frames := 0, cells := 0, slots := 0, locals := 0 } (va_Pc [.ref (ad b o), .ref (ad b3 o3)] (xPre D kA sz (rp ad E RL))) (va_Qv (fun (u : Nat → Nat → va_E) => ∃ f2 : Nat → Int32, (True) ∧ (u b oa = .inl (kA 0, 6, .inl f2)) ∧ ((∀ b2 o2, ¬ (b2 = b ∧ o2 = oa) → u b2 o2 = E b2 o2))) (fun (u : Nat → Nat → va_E) t => va_P D xcl (rp ad u RL) t.heap ∧ va_D (va_A (rp ad E RL) sz) (rp ad u RL)) (va_A (rp ad E RL) sz)) 0 0 (va_A (rp ad E RL) sz) := by
  refine Met.ofW (cc := xb_Re_join) (maxL := 3) (ret := none) (by decide) rfl ?_
  intro p e s m args below meth c s₁ B hml hv
  obtain ⟨rfl, hsz, hP, hK, hD0⟩ := hv
  have hx := B.exec
  have hb := B.bytes
  have hr := B.returns
  have hT := x_hT B.pre
  have hown : s.vm.findClass xR_Re = some m.cls := findClass_of_methodNamed B.named
  have hlocks := B.notSynchronized
  subst hsz
  have hD := hD0.self (sz := s.heap.size)
  generalize hAe : va_A (rp ad E RL) s.heap.size = A at hD ⊢
  have hA : ∀ q : Nat, s.heap.size ≤ q → A q := fun q h => by rw [← hAe]; exact Or.inr h
  have hS : va_S A s.heap s.heap [] := va_S.rf
  have hl := lv_entry ([.ref (ad b o), .ref (ad b3 o3)]) (n := 3) (Nat.le_of_ble_eq_true rfl)
  rw [lg_entry_eq]
  generalize (lg_sl ([.ref (ad b o), .ref (ad b3 o3)]) ++ List.replicate (3 - (lg_sl ([.ref (ad b o), .ref (ad b3 o3)])).length) Slot.unset).toArray = ls at hl ⊢
  have hl : lv_has ls 3 [(0, .ref (ad b o)), (1, .ref (ad b3 o3))] := hl
  have hP : va_P D xcl (rp ad E RL) s.heap := hP
  refine lv_iconst (v := 0) hx hb xd_Re_join_0 (by decide) ?_
  refine lv_istore_n hx hb xd_Re_join_1 rfl hl (Nat.le_of_ble_eq_true rfl) rfl (fun ls hl => ?_)
  have hl : lv_has ls 3 [(2, .int 0), (0, .ref (ad b o)), (1, .ref (ad b3 o3))] := hl
  refine xlab (σ := Nat × (Nat → Nat → va_E) × (Nat → Int32)) (ml := 3) 2 (fun (i, E1, f1) => [(2, .int (nI i)), (0, .ref (ad b o)), (1, .ref (ad b3 o3))]) (fun (i, E1, f1) => []) (fun (i, E1, f1) => rp ad E1 RL) (fun (i, E1, f1) => (i ≤ 6) ∧ (E1 b oa = .inl (kA 0, 6, .inl f1)) ∧ (∀ b2 o2, ¬ (b2 = b ∧ o2 = oa) → E1 b2 o2 = E b2 o2)) (fun (i, E1, f1) => 6 - i) ?_ (0, E, f) _ _ _ (lv_sub hl [0, 1, 2] rfl) hP hD hS ⟨(show 0 ≤ 6 from by first | assumption | omega), (show E b oa = .inl (kA 0, 6, .inl f) from yc1), (show ∀ b2 o2, ¬ (b2 = b ∧ o2 = oa) → E b2 o2 = E b2 o2 from fun b2 o2 _ => rfl)⟩
  intro n9 ih1 a9 ls H locs hμ hl hP hD hS hI
  subst hμ
  obtain ⟨i, E1, f1⟩ := a9
  obtain ⟨hi, hc9, hfr⟩ := hI
  have hi : i ≤ 6 := hi
  have hc9 : E1 b oa = .inl (kA 0, 6, .inl f1) := hc9
  have hfr : ∀ b2 o2, ¬ (b2 = b ∧ o2 = oa) → E1 b2 o2 = E b2 o2 := hfr
  have hl : lv_has ls 3 [(2, .int (nI i)), (0, .ref (ad b o)), (1, .ref (ad b3 o3))] := hl
  have hP : va_P D xcl (rp ad E1 RL) H := hP
  have hD : va_D A (rp ad E1 RL) := hD
  have c_2 : E1 b o = .inr (10, [.ref (ad b oa)]) := (hfr b o (by omega)).trans yc0
  have c_3 : E1 b3 o3 = .inr (10, [.ref (ad b3 oa3)]) := (hfr b3 o3 (by omega)).trans yc2
  have c_4 : E1 b3 oa3 = .inl (kA 0, 6, .inl f3) := (hfr b3 oa3 (by omega)).trans yc3
  refine lv_iload_n hx hb xd_Re_join_2 rfl (lv_at hl 0 rfl) ?_
  refine lv_bipush (v := 6) hx hb xd_Re_join_3 (by decide) ?_
  refine xn_ge (a := i) (b := 6) (tgt := 29) hx hb xd_Re_join_5 (by decide) (by omega) (by omega) (fun hc5 => ?_) (fun hc5 => ?_)
  · exact W.vret hx hb hr (fun t ht hW => ⟨⟨E1, rfl, ⟨f1, trivial, hc9, (fun b2 o2 h09 => by show E1 b2 o2 = _; rw [hfr b2 o2 (by omega)])⟩, by rw [ht]; exact hP, hD⟩, hS.F ht⟩) hS.2.2 xd_Re_join_29
  · refine lv_aload_n hx hb xd_Re_join_8 rfl (lv_at hl 1 rfl) ?_
    refine px_get (D := D) (ci := 10) (v := .ref (ad b oa)) (C := xR_Re) (T := xT_Re) (N := 1) hx hb hT xi_Re hown hK.1 hP ym0 c_2 rfl 0 (by decide) (hT _ ym_13) (fun _ h9 => h9) rfl xd_Re_join_9 ?_
    refine lv_iload_n hx hb xd_Re_join_12 rfl (lv_at hl 0 rfl) ?_
    refine lv_dup2_11 hx hb xd_Re_join_13 rfl rfl ?_
    refine px_iald (i := i) hx hb hK.1 hP ym1 hc9 0 rfl (by omega) (by decide) xd_Re_join_14 ?_
    refine lv_aload_n hx hb xd_Re_join_15 rfl (lv_at hl 2 rfl) ?_
    refine px_get (D := D) (ci := 10) (v := .ref (ad b3 oa3)) (C := xR_Re) (T := xT_Re) (N := 1) hx hb hT xi_Re hown hK.1 hP ym2 c_3 rfl 0 (by decide) (hT _ ym_13) (fun _ h9 => h9) rfl xd_Re_join_16 ?_
    refine lv_iload_n hx hb xd_Re_join_19 rfl (lv_at hl 0 rfl) ?_
    refine px_iald (i := i) hx hb hK.1 hP ym3 c_4 0 rfl (by omega) (by decide) xd_Re_join_20 ?_
    refine lv_ior hx hb xd_Re_join_21 ?_
    refine px_iast (i := i) hx hb hK.1 hP hD hS ym1 hc9 0 rfl (by omega) (by decide) xd_Re_join_22 (fun H locs hP hD hS => ?_)
    have hP : va_P D xcl (rp ad (up2 E1 b oa (.inl (kA 0, 6, .inl (upd f1 i ((f1 i) ||| (f3 i)))))) RL) H := hP
    have hD : va_D A (rp ad (up2 E1 b oa (.inl (kA 0, 6, .inl (upd f1 i ((f1 i) ||| (f3 i)))))) RL) := hD
    generalize hE7 : up2 E1 b oa (.inl (kA 0, 6, .inl (upd f1 i ((f1 i) ||| (f3 i))))) = E6 at hP hD
    have fE8 : ∀ b2 o2, ¬ (b2 = b ∧ o2 = oa) → E6 b2 o2 = E1 b2 o2 := fun b2 o2 h9 => by rw [← hE7]; exact up2_ne (by omega)
    have c_9 : E6 b oa = .inl (kA 0, 6, .inl (upd f1 i ((f1 i) ||| (f3 i)))) := by rw [← hE7]; exact up2_eq
    have c_10 : E6 b o = .inr (10, [.ref (ad b oa)]) := (fE8 b o (by omega)).trans c_2
    have c_11 : E6 b3 o3 = .inr (10, [.ref (ad b3 oa3)]) := (fE8 b3 o3 (by omega)).trans c_3
    have c_12 : E6 b3 oa3 = .inl (kA 0, 6, .inl f3) := (fE8 b3 oa3 (by omega)).trans c_4
    refine lv_iinc (k := 0) (x := (nI i)) (v := (nI (i + 1))) hx hb xd_Re_join_23 hl rfl (xb_inc i 1) (Nat.le_of_ble_eq_true rfl) rfl (fun ls hl => ?_)
    have hl : lv_has ls 3 [(2, .int (nI (i + 1))), (0, .ref (ad b o)), (1, .ref (ad b3 o3))] := hl
    refine lv_goto (tgt := 2) hx hb xd_Re_join_26 (by decide) ?_
    exact ih1 (i + 1, E6, (upd f1 i ((f1 i) ||| (f3 i)))) _ _ _ (show 6 - (i + 1) < 6 - i by omega) (lv_sub hl [0, 1, 2] rfl) hP hD hS ⟨(show (i + 1) ≤ 6 from by first | assumption | omega), (show E6 b oa = .inl (kA 0, 6, .inl (upd f1 i ((f1 i) ||| (f3 i)))) from c_9), (show ∀ b2 o2, ¬ (b2 = b ∧ o2 = oa) → E6 b2 o2 = E b2 o2 from fun b2 o2 h9 => by rw [fE8 b2 o2 (by omega), hfr b2 o2 (by omega)])⟩
set_option maxHeartbeats 4000000 in
set_option maxRecDepth 100000 in
theorem xc_Re_joinS (l : Launch) (D : va_G) (kA : Nat → ClassId) (sz : Nat) (ad : Nat → Nat → Nat) (E : Nat → Nat → va_E) (RL : List (Nat × Nat)) (b : Nat) (o : Nat) (oa : Nat) (f : Nat → Int32) (ym0 : (b, o) ∈ RL) (yc0 : E b o = .inr (10, [.ref (ad b oa)])) (ym1 : (b, oa) ∈ RL) (yc1 : E b oa = .inl (kA 0, 6, .inl f)) (hoa : o ≠ oa) : Met l xy_Re_join (.code xy_Re_join xb_Re_join 3 none :: wT) { frames := 0, cells := 0, slots := 0, locals := 0 } (va_Pc [.ref (ad b o), .ref (ad b o)] (xPre D kA sz (rp ad E RL))) (va_Qv (fun (u : Nat → Nat → va_E) => ∃ f2 : Nat → Int32, (True) ∧ (u b oa = .inl (kA 0, 6, .inl f2)) ∧ ((∀ b2 o2, ¬ (b2 = b ∧ o2 = oa) → u b2 o2 = E b2 o2))) (fun (u : Nat → Nat → va_E) t => va_P D xcl (rp ad u RL) t.heap ∧ va_D (va_A (rp ad E RL) sz) (rp ad u RL)) (va_A (rp ad E RL) sz)) 0 0 (va_A (rp ad E RL) sz) := by
  refine Met.ofW (cc := xb_Re_join) (maxL := 3) (ret := none) (by decide) rfl ?_
  intro p e s m args below meth c s₁ B hml hv
  obtain ⟨rfl, hsz, hP, hK, hD0⟩ := hv
  have hx := B.exec
  have hb := B.bytes
  have hr := B.returns
  have hT := x_hT B.pre
  have hown : s.vm.findClass xR_Re = some m.cls := findClass_of_methodNamed B.named
  have hlocks := B.notSynchronized
  subst hsz
  have hD := hD0.self (sz := s.heap.size)
  generalize hAe : va_A (rp ad E RL) s.heap.size = A at hD ⊢
  have hA : ∀ q : Nat, s.heap.size ≤ q → A q := fun q h => by rw [← hAe]; exact Or.inr h
  have hS : va_S A s.heap s.heap [] := va_S.rf
  have hl := lv_entry ([.ref (ad b o), .ref (ad b o)]) (n := 3) (Nat.le_of_ble_eq_true rfl)
  rw [lg_entry_eq]
  generalize (lg_sl ([.ref (ad b o), .ref (ad b o)]) ++ List.replicate (3 - (lg_sl ([.ref (ad b o), .ref (ad b o)])).length) Slot.unset).toArray = ls at hl ⊢
  have hl : lv_has ls 3 [(0, .ref (ad b o)), (1, .ref (ad b o))] := hl
  have hP : va_P D xcl (rp ad E RL) s.heap := hP
  refine lv_iconst (v := 0) hx hb xd_Re_join_0 (by decide) ?_
  refine lv_istore_n hx hb xd_Re_join_1 rfl hl (Nat.le_of_ble_eq_true rfl) rfl (fun ls hl => ?_)
  have hl : lv_has ls 3 [(2, .int 0), (0, .ref (ad b o)), (1, .ref (ad b o))] := hl
  refine xlab (σ := Nat × (Nat → Nat → va_E) × (Nat → Int32)) (ml := 3) 2 (fun (i, E1, f1) => [(2, .int (nI i)), (0, .ref (ad b o)), (1, .ref (ad b o))]) (fun (i, E1, f1) => []) (fun (i, E1, f1) => rp ad E1 RL) (fun (i, E1, f1) => (i ≤ 6) ∧ (E1 b oa = .inl (kA 0, 6, .inl f1)) ∧ (∀ b2 o2, ¬ (b2 = b ∧ o2 = oa) → E1 b2 o2 = E b2 o2)) (fun (i, E1, f1) => 6 - i) ?_ (0, E, f) _ _ _ (lv_sub hl [0, 1, 2] rfl) hP hD hS ⟨(show 0 ≤ 6 from by first | assumption | omega), (show E b oa = .inl (kA 0, 6, .inl f) from yc1), (show ∀ b2 o2, ¬ (b2 = b ∧ o2 = oa) → E b2 o2 = E b2 o2 from fun b2 o2 _ => rfl)⟩
  intro n9 ih1 a9 ls H locs hμ hl hP hD hS hI
  subst hμ
  obtain ⟨i, E1, f1⟩ := a9
  obtain ⟨hi, hc9, hfr⟩ := hI
  have hi : i ≤ 6 := hi
  have hc9 : E1 b oa = .inl (kA 0, 6, .inl f1) := hc9
  have hfr : ∀ b2 o2, ¬ (b2 = b ∧ o2 = oa) → E1 b2 o2 = E b2 o2 := hfr
  have hl : lv_has ls 3 [(2, .int (nI i)), (0, .ref (ad b o)), (1, .ref (ad b o))] := hl
  have hP : va_P D xcl (rp ad E1 RL) H := hP
  have hD : va_D A (rp ad E1 RL) := hD
  have c_2 : E1 b o = .inr (10, [.ref (ad b oa)]) := (hfr b o (by omega)).trans yc0
  refine lv_iload_n hx hb xd_Re_join_2 rfl (lv_at hl 0 rfl) ?_
  refine lv_bipush (v := 6) hx hb xd_Re_join_3 (by decide) ?_
  refine xn_ge (a := i) (b := 6) (tgt := 29) hx hb xd_Re_join_5 (by decide) (by omega) (by omega) (fun hc3 => ?_) (fun hc3 => ?_)
  · exact W.vret hx hb hr (fun t ht hW => ⟨⟨E1, rfl, ⟨f1, trivial, hc9, (fun b2 o2 h09 => by show E1 b2 o2 = _; rw [hfr b2 o2 (by omega)])⟩, by rw [ht]; exact hP, hD⟩, hS.F ht⟩) hS.2.2 xd_Re_join_29
  · refine lv_aload_n hx hb xd_Re_join_8 rfl (lv_at hl 1 rfl) ?_
    refine px_get (D := D) (ci := 10) (v := .ref (ad b oa)) (C := xR_Re) (T := xT_Re) (N := 1) hx hb hT xi_Re hown hK.1 hP ym0 c_2 rfl 0 (by decide) (hT _ ym_13) (fun _ h9 => h9) rfl xd_Re_join_9 ?_
    refine lv_iload_n hx hb xd_Re_join_12 rfl (lv_at hl 0 rfl) ?_
    refine lv_dup2_11 hx hb xd_Re_join_13 rfl rfl ?_
    refine px_iald (i := i) hx hb hK.1 hP ym1 hc9 0 rfl (by omega) (by decide) xd_Re_join_14 ?_
    refine lv_aload_n hx hb xd_Re_join_15 rfl (lv_at hl 2 rfl) ?_
    refine px_get (D := D) (ci := 10) (v := .ref (ad b oa)) (C := xR_Re) (T := xT_Re) (N := 1) hx hb hT xi_Re hown hK.1 hP ym0 c_2 rfl 0 (by decide) (hT _ ym_13) (fun _ h9 => h9) rfl xd_Re_join_16 ?_
    refine lv_iload_n hx hb xd_Re_join_19 rfl (lv_at hl 0 rfl) ?_
    refine px_iald (i := i) hx hb hK.1 hP ym1 hc9 0 rfl (by omega) (by decide) xd_Re_join_20 ?_
    refine lv_ior hx hb xd_Re_join_21 ?_
    refine px_iast (i := i) hx hb hK.1 hP hD hS ym1 hc9 0 rfl (by omega) (by decide) xd_Re_join_22 (fun H locs hP hD hS => ?_)
    have hP : va_P D xcl (rp ad (up2 E1 b oa (.inl (kA 0, 6, .inl (upd f1 i ((f1 i) ||| (f1 i)))))) RL) H := hP
    have hD : va_D A (rp ad (up2 E1 b oa (.inl (kA 0, 6, .inl (upd f1 i ((f1 i) ||| (f1 i)))))) RL) := hD
    generalize hE5 : up2 E1 b oa (.inl (kA 0, 6, .inl (upd f1 i ((f1 i) ||| (f1 i))))) = E4 at hP hD
    have fE6 : ∀ b2 o2, ¬ (b2 = b ∧ o2 = oa) → E4 b2 o2 = E1 b2 o2 := fun b2 o2 h9 => by rw [← hE5]; exact up2_ne (by omega)
    have c_7 : E4 b oa = .inl (kA 0, 6, .inl (upd f1 i ((f1 i) ||| (f1 i)))) := by rw [← hE5]; exact up2_eq
    have c_8 : E4 b o = .inr (10, [.ref (ad b oa)]) := (fE6 b o (by omega)).trans c_2
    refine lv_iinc (k := 0) (x := (nI i)) (v := (nI (i + 1))) hx hb xd_Re_join_23 hl rfl (xb_inc i 1) (Nat.le_of_ble_eq_true rfl) rfl (fun ls hl => ?_)
    have hl : lv_has ls 3 [(2, .int (nI (i + 1))), (0, .ref (ad b o)), (1, .ref (ad b o))] := hl
    refine lv_goto (tgt := 2) hx hb xd_Re_join_26 (by decide) ?_
    exact ih1 (i + 1, E4, (upd f1 i ((f1 i) ||| (f1 i)))) _ _ _ (show 6 - (i + 1) < 6 - i by omega) (lv_sub hl [0, 1, 2] rfl) hP hD hS ⟨(show (i + 1) ≤ 6 from by first | assumption | omega), (show E4 b oa = .inl (kA 0, 6, .inl (upd f1 i ((f1 i) ||| (f1 i)))) from c_7), (show ∀ b2 o2, ¬ (b2 = b ∧ o2 = oa) → E4 b2 o2 = E b2 o2 from fun b2 o2 h9 => by rw [fE6 b2 o2 (by omega), hfr b2 o2 (by omega)])⟩
