abbrev xb_Ds_exportOf : ByteArray := prog_3_method_4_code
def xy_Ds_exportOf : MethodName := ⟨"LayerDesk$Descriptor", "exportOf", "(I)LLayerDesk$Grant;"⟩
abbrev xb_Ds_openingOf : ByteArray := prog_3_method_5_code
def xy_Ds_openingOf : MethodName := ⟨"LayerDesk$Descriptor", "openingOf", "(I)LLayerDesk$Grant;"⟩
abbrev xb_Ds_exportsTo : ByteArray := prog_3_method_6_code
def xy_Ds_exportsTo : MethodName := ⟨"LayerDesk$Descriptor", "exportsTo", "(II)Z"⟩
abbrev xb_Ds_opensTo : ByteArray := prog_3_method_7_code
def xy_Ds_opensTo : MethodName := ⟨"LayerDesk$Descriptor", "opensTo", "(II)Z"⟩
abbrev xb_Re_marks : ByteArray := prog_9_method_4_code
def xy_Re_marks : MethodName := ⟨"LayerDesk$Reach", "marks", "(LLayerDesk$Member;)Z"⟩
abbrev xb_Re_mark : ByteArray := prog_9_method_2_code
def xy_Re_mark : MethodName := ⟨"LayerDesk$Reach", "mark", "(LLayerDesk$Member;)V"⟩
abbrev xb_Re_unmark : ByteArray := prog_9_method_3_code
def xy_Re_unmark : MethodName := ⟨"LayerDesk$Reach", "unmark", "(LLayerDesk$Member;)V"⟩
abbrev xb_Re_join : ByteArray := prog_9_method_5_code
def xy_Re_join : MethodName := ⟨"LayerDesk$Reach", "join", "(LLayerDesk$Reach;)V"⟩
theorem xd_Ds_exportOf_0 : decode xb_Ds_exportOf 0 = .ok (.aload_n 0, 1) := by decide +kernel
theorem xd_Ds_exportOf_1 : decode xb_Ds_exportOf 1 = .ok (.getfield 14, 3) := by decide +kernel
theorem xd_Ds_exportOf_4 : decode xb_Ds_exportOf 4 = .ok (.iload_n 1, 1) := by decide +kernel
theorem xd_Ds_exportOf_5 : decode xb_Ds_exportOf 5 = .ok (.invokevirtual 68, 3) := by decide +kernel
theorem xd_Ds_exportOf_8 : decode xb_Ds_exportOf 8 = .ok (.istore_n 2, 1) := by decide +kernel
theorem xd_Ds_exportOf_9 : decode xb_Ds_exportOf 9 = .ok (.iload_n 2, 1) := by decide +kernel
theorem xd_Ds_exportOf_10 : decode xb_Ds_exportOf 10 = .ok (.ifCond .ge 7, 3) := by decide +kernel
theorem xd_Ds_exportOf_13 : decode xb_Ds_exportOf 13 = .ok (.aconst_null, 1) := by decide +kernel
theorem xd_Ds_exportOf_14 : decode xb_Ds_exportOf 14 = .ok (.goto 9, 3) := by decide +kernel
theorem xd_Ds_exportOf_17 : decode xb_Ds_exportOf 17 = .ok (.aload_n 0, 1) := by decide +kernel
theorem xd_Ds_exportOf_18 : decode xb_Ds_exportOf 18 = .ok (.getfield 20, 3) := by decide +kernel
theorem xd_Ds_exportOf_21 : decode xb_Ds_exportOf 21 = .ok (.iload_n 2, 1) := by decide +kernel
theorem xd_Ds_exportOf_22 : decode xb_Ds_exportOf 22 = .ok (.aaload, 1) := by decide +kernel
theorem xd_Ds_exportOf_23 : decode xb_Ds_exportOf 23 = .ok (.areturn, 1) := by decide +kernel
theorem xd_Ds_exportsTo_0 : decode xb_Ds_exportsTo 0 = .ok (.aload_n 0, 1) := by decide +kernel
theorem xd_Ds_exportsTo_1 : decode xb_Ds_exportsTo 1 = .ok (.getfield 14, 3) := by decide +kernel
theorem xd_Ds_exportsTo_4 : decode xb_Ds_exportsTo 4 = .ok (.iload_n 1, 1) := by decide +kernel
theorem xd_Ds_exportsTo_5 : decode xb_Ds_exportsTo 5 = .ok (.invokevirtual 68, 3) := by decide +kernel
theorem xd_Ds_exportsTo_8 : decode xb_Ds_exportsTo 8 = .ok (.istore_n 3, 1) := by decide +kernel
theorem xd_Ds_exportsTo_9 : decode xb_Ds_exportsTo 9 = .ok (.iload_n 3, 1) := by decide +kernel
theorem xd_Ds_exportsTo_10 : decode xb_Ds_exportsTo 10 = .ok (.ifCond .lt 20, 3) := by decide +kernel
theorem xd_Ds_exportsTo_13 : decode xb_Ds_exportsTo 13 = .ok (.aload_n 0, 1) := by decide +kernel
theorem xd_Ds_exportsTo_14 : decode xb_Ds_exportsTo 14 = .ok (.getfield 20, 3) := by decide +kernel
theorem xd_Ds_exportsTo_17 : decode xb_Ds_exportsTo 17 = .ok (.iload_n 3, 1) := by decide +kernel
theorem xd_Ds_exportsTo_18 : decode xb_Ds_exportsTo 18 = .ok (.aaload, 1) := by decide +kernel
theorem xd_Ds_exportsTo_19 : decode xb_Ds_exportsTo 19 = .ok (.iload_n 2, 1) := by decide +kernel
theorem xd_Ds_exportsTo_20 : decode xb_Ds_exportsTo 20 = .ok (.invokevirtual 72, 3) := by decide +kernel
theorem xd_Ds_exportsTo_23 : decode xb_Ds_exportsTo 23 = .ok (.ifCond .eq 7, 3) := by decide +kernel
theorem xd_Ds_exportsTo_26 : decode xb_Ds_exportsTo 26 = .ok (.iconst 1, 1) := by decide +kernel
theorem xd_Ds_exportsTo_27 : decode xb_Ds_exportsTo 27 = .ok (.goto 4, 3) := by decide +kernel
theorem xd_Ds_exportsTo_30 : decode xb_Ds_exportsTo 30 = .ok (.iconst 0, 1) := by decide +kernel
theorem xd_Ds_exportsTo_31 : decode xb_Ds_exportsTo 31 = .ok (.ireturn, 1) := by decide +kernel
theorem xd_Ds_openingOf_0 : decode xb_Ds_openingOf 0 = .ok (.aload_n 0, 1) := by decide +kernel
theorem xd_Ds_openingOf_1 : decode xb_Ds_openingOf 1 = .ok (.getfield 14, 3) := by decide +kernel
theorem xd_Ds_openingOf_4 : decode xb_Ds_openingOf 4 = .ok (.iload_n 1, 1) := by decide +kernel
theorem xd_Ds_openingOf_5 : decode xb_Ds_openingOf 5 = .ok (.invokevirtual 68, 3) := by decide +kernel
theorem xd_Ds_openingOf_8 : decode xb_Ds_openingOf 8 = .ok (.istore_n 2, 1) := by decide +kernel
theorem xd_Ds_openingOf_9 : decode xb_Ds_openingOf 9 = .ok (.iload_n 2, 1) := by decide +kernel
theorem xd_Ds_openingOf_10 : decode xb_Ds_openingOf 10 = .ok (.ifCond .ge 7, 3) := by decide +kernel
theorem xd_Ds_openingOf_13 : decode xb_Ds_openingOf 13 = .ok (.aconst_null, 1) := by decide +kernel
theorem xd_Ds_openingOf_14 : decode xb_Ds_openingOf 14 = .ok (.goto 9, 3) := by decide +kernel
theorem xd_Ds_openingOf_17 : decode xb_Ds_openingOf 17 = .ok (.aload_n 0, 1) := by decide +kernel
theorem xd_Ds_openingOf_18 : decode xb_Ds_openingOf 18 = .ok (.getfield 24, 3) := by decide +kernel
theorem xd_Ds_openingOf_21 : decode xb_Ds_openingOf 21 = .ok (.iload_n 2, 1) := by decide +kernel
theorem xd_Ds_openingOf_22 : decode xb_Ds_openingOf 22 = .ok (.aaload, 1) := by decide +kernel
theorem xd_Ds_openingOf_23 : decode xb_Ds_openingOf 23 = .ok (.areturn, 1) := by decide +kernel
theorem xd_Ds_opensTo_0 : decode xb_Ds_opensTo 0 = .ok (.aload_n 0, 1) := by decide +kernel
theorem xd_Ds_opensTo_1 : decode xb_Ds_opensTo 1 = .ok (.getfield 14, 3) := by decide +kernel
theorem xd_Ds_opensTo_4 : decode xb_Ds_opensTo 4 = .ok (.iload_n 1, 1) := by decide +kernel
theorem xd_Ds_opensTo_5 : decode xb_Ds_opensTo 5 = .ok (.invokevirtual 68, 3) := by decide +kernel
theorem xd_Ds_opensTo_8 : decode xb_Ds_opensTo 8 = .ok (.istore_n 3, 1) := by decide +kernel
theorem xd_Ds_opensTo_9 : decode xb_Ds_opensTo 9 = .ok (.iload_n 3, 1) := by decide +kernel
theorem xd_Ds_opensTo_10 : decode xb_Ds_opensTo 10 = .ok (.ifCond .lt 20, 3) := by decide +kernel
theorem xd_Ds_opensTo_13 : decode xb_Ds_opensTo 13 = .ok (.aload_n 0, 1) := by decide +kernel
theorem xd_Ds_opensTo_14 : decode xb_Ds_opensTo 14 = .ok (.getfield 24, 3) := by decide +kernel
theorem xd_Ds_opensTo_17 : decode xb_Ds_opensTo 17 = .ok (.iload_n 3, 1) := by decide +kernel
theorem xd_Ds_opensTo_18 : decode xb_Ds_opensTo 18 = .ok (.aaload, 1) := by decide +kernel
theorem xd_Ds_opensTo_19 : decode xb_Ds_opensTo 19 = .ok (.iload_n 2, 1) := by decide +kernel
theorem xd_Ds_opensTo_20 : decode xb_Ds_opensTo 20 = .ok (.invokevirtual 72, 3) := by decide +kernel
theorem xd_Ds_opensTo_23 : decode xb_Ds_opensTo 23 = .ok (.ifCond .eq 7, 3) := by decide +kernel
theorem xd_Ds_opensTo_26 : decode xb_Ds_opensTo 26 = .ok (.iconst 1, 1) := by decide +kernel
theorem xd_Ds_opensTo_27 : decode xb_Ds_opensTo 27 = .ok (.goto 4, 3) := by decide +kernel
theorem xd_Ds_opensTo_30 : decode xb_Ds_opensTo 30 = .ok (.iconst 0, 1) := by decide +kernel
theorem xd_Ds_opensTo_31 : decode xb_Ds_opensTo 31 = .ok (.ireturn, 1) := by decide +kernel
theorem xd_Re_join_0 : decode xb_Re_join 0 = .ok (.iconst 0, 1) := by decide +kernel
theorem xd_Re_join_1 : decode xb_Re_join 1 = .ok (.istore_n 2, 1) := by decide +kernel
theorem xd_Re_join_2 : decode xb_Re_join 2 = .ok (.iload_n 2, 1) := by decide +kernel
theorem xd_Re_join_3 : decode xb_Re_join 3 = .ok (.bipush 6, 2) := by decide +kernel
theorem xd_Re_join_5 : decode xb_Re_join 5 = .ok (.if_icmp .ge 24, 3) := by decide +kernel
theorem xd_Re_join_8 : decode xb_Re_join 8 = .ok (.aload_n 0, 1) := by decide +kernel
theorem xd_Re_join_9 : decode xb_Re_join 9 = .ok (.getfield 11, 3) := by decide +kernel
theorem xd_Re_join_12 : decode xb_Re_join 12 = .ok (.iload_n 2, 1) := by decide +kernel
theorem xd_Re_join_13 : decode xb_Re_join 13 = .ok (.dup2, 1) := by decide +kernel
theorem xd_Re_join_14 : decode xb_Re_join 14 = .ok (.iaload, 1) := by decide +kernel
theorem xd_Re_join_15 : decode xb_Re_join 15 = .ok (.aload_n 1, 1) := by decide +kernel
theorem xd_Re_join_16 : decode xb_Re_join 16 = .ok (.getfield 11, 3) := by decide +kernel
theorem xd_Re_join_19 : decode xb_Re_join 19 = .ok (.iload_n 2, 1) := by decide +kernel
theorem xd_Re_join_20 : decode xb_Re_join 20 = .ok (.iaload, 1) := by decide +kernel
theorem xd_Re_join_21 : decode xb_Re_join 21 = .ok (.ior, 1) := by decide +kernel
theorem xd_Re_join_22 : decode xb_Re_join 22 = .ok (.iastore, 1) := by decide +kernel
theorem xd_Re_join_23 : decode xb_Re_join 23 = .ok (.iinc 2 1, 3) := by decide +kernel
theorem xd_Re_join_26 : decode xb_Re_join 26 = .ok (.goto (-24), 3) := by decide +kernel
theorem xd_Re_join_29 : decode xb_Re_join 29 = .ok (.return_, 1) := by decide +kernel
theorem xd_Re_mark_0 : decode xb_Re_mark 0 = .ok (.aload_n 0, 1) := by decide +kernel
theorem xd_Re_mark_1 : decode xb_Re_mark 1 = .ok (.getfield 11, 3) := by decide +kernel
theorem xd_Re_mark_4 : decode xb_Re_mark 4 = .ok (.aload_n 1, 1) := by decide +kernel
theorem xd_Re_mark_5 : decode xb_Re_mark 5 = .ok (.getfield 15, 3) := by decide +kernel
theorem xd_Re_mark_8 : decode xb_Re_mark 8 = .ok (.getfield 21, 3) := by decide +kernel
theorem xd_Re_mark_11 : decode xb_Re_mark 11 = .ok (.dup2, 1) := by decide +kernel
theorem xd_Re_mark_12 : decode xb_Re_mark 12 = .ok (.iaload, 1) := by decide +kernel
theorem xd_Re_mark_13 : decode xb_Re_mark 13 = .ok (.iconst 1, 1) := by decide +kernel
theorem xd_Re_mark_14 : decode xb_Re_mark 14 = .ok (.aload_n 1, 1) := by decide +kernel
theorem xd_Re_mark_15 : decode xb_Re_mark 15 = .ok (.getfield 27, 3) := by decide +kernel
theorem xd_Re_mark_18 : decode xb_Re_mark 18 = .ok (.getfield 31, 3) := by decide +kernel
theorem xd_Re_mark_21 : decode xb_Re_mark 21 = .ok (.ishl, 1) := by decide +kernel
theorem xd_Re_mark_22 : decode xb_Re_mark 22 = .ok (.ior, 1) := by decide +kernel
theorem xd_Re_mark_23 : decode xb_Re_mark 23 = .ok (.iastore, 1) := by decide +kernel
theorem xd_Re_mark_24 : decode xb_Re_mark 24 = .ok (.return_, 1) := by decide +kernel
theorem xd_Re_marks_0 : decode xb_Re_marks 0 = .ok (.aload_n 0, 1) := by decide +kernel
theorem xd_Re_marks_1 : decode xb_Re_marks 1 = .ok (.getfield 11, 3) := by decide +kernel
theorem xd_Re_marks_4 : decode xb_Re_marks 4 = .ok (.aload_n 1, 1) := by decide +kernel
theorem xd_Re_marks_5 : decode xb_Re_marks 5 = .ok (.getfield 15, 3) := by decide +kernel
theorem xd_Re_marks_8 : decode xb_Re_marks 8 = .ok (.getfield 21, 3) := by decide +kernel
theorem xd_Re_marks_11 : decode xb_Re_marks 11 = .ok (.iaload, 1) := by decide +kernel
theorem xd_Re_marks_12 : decode xb_Re_marks 12 = .ok (.aload_n 1, 1) := by decide +kernel
theorem xd_Re_marks_13 : decode xb_Re_marks 13 = .ok (.getfield 27, 3) := by decide +kernel
theorem xd_Re_marks_16 : decode xb_Re_marks 16 = .ok (.getfield 31, 3) := by decide +kernel
theorem xd_Re_marks_19 : decode xb_Re_marks 19 = .ok (.ishr, 1) := by decide +kernel
theorem xd_Re_marks_20 : decode xb_Re_marks 20 = .ok (.iconst 1, 1) := by decide +kernel
theorem xd_Re_marks_21 : decode xb_Re_marks 21 = .ok (.iand, 1) := by decide +kernel
theorem xd_Re_marks_22 : decode xb_Re_marks 22 = .ok (.ifCond .eq 7, 3) := by decide +kernel
theorem xd_Re_marks_25 : decode xb_Re_marks 25 = .ok (.iconst 1, 1) := by decide +kernel
theorem xd_Re_marks_26 : decode xb_Re_marks 26 = .ok (.goto 4, 3) := by decide +kernel
theorem xd_Re_marks_29 : decode xb_Re_marks 29 = .ok (.iconst 0, 1) := by decide +kernel
theorem xd_Re_marks_30 : decode xb_Re_marks 30 = .ok (.ireturn, 1) := by decide +kernel
theorem xd_Re_unmark_0 : decode xb_Re_unmark 0 = .ok (.aload_n 0, 1) := by decide +kernel
theorem xd_Re_unmark_1 : decode xb_Re_unmark 1 = .ok (.getfield 11, 3) := by decide +kernel
theorem xd_Re_unmark_4 : decode xb_Re_unmark 4 = .ok (.aload_n 1, 1) := by decide +kernel
theorem xd_Re_unmark_5 : decode xb_Re_unmark 5 = .ok (.getfield 15, 3) := by decide +kernel
theorem xd_Re_unmark_8 : decode xb_Re_unmark 8 = .ok (.getfield 21, 3) := by decide +kernel
theorem xd_Re_unmark_11 : decode xb_Re_unmark 11 = .ok (.dup2, 1) := by decide +kernel
theorem xd_Re_unmark_12 : decode xb_Re_unmark 12 = .ok (.iaload, 1) := by decide +kernel
theorem xd_Re_unmark_13 : decode xb_Re_unmark 13 = .ok (.iconst 1, 1) := by decide +kernel
theorem xd_Re_unmark_14 : decode xb_Re_unmark 14 = .ok (.aload_n 1, 1) := by decide +kernel
theorem xd_Re_unmark_15 : decode xb_Re_unmark 15 = .ok (.getfield 27, 3) := by decide +kernel
theorem xd_Re_unmark_18 : decode xb_Re_unmark 18 = .ok (.getfield 31, 3) := by decide +kernel
theorem xd_Re_unmark_21 : decode xb_Re_unmark 21 = .ok (.ishl, 1) := by decide +kernel
theorem xd_Re_unmark_22 : decode xb_Re_unmark 22 = .ok (.iconst (-1), 1) := by decide +kernel
theorem xd_Re_unmark_23 : decode xb_Re_unmark 23 = .ok (.ixor, 1) := by decide +kernel
theorem xd_Re_unmark_24 : decode xb_Re_unmark 24 = .ok (.iand, 1) := by decide +kernel
theorem xd_Re_unmark_25 : decode xb_Re_unmark 25 = .ok (.iastore, 1) := by decide +kernel
theorem xd_Re_unmark_26 : decode xb_Re_unmark 26 = .ok (.return_, 1) := by decide +kernel
theorem ym_0 : (Cond.fieldLink "LayerDesk$Descriptor" 14 "LayerDesk$Descriptor" "packages" "LLayerDesk$Names;") ∈ wT := wT_t (List.mem_append_right _ (List.mem_append_left _ (List.mem_of_getElem? (i := 60) rfl))) rfl
theorem ym_1 : (Cond.code xy_Na_indexOf xb_Na_indexOf 3 (some .int)) ∈ wT := wT_t (List.mem_append_right _ (List.mem_append_left _ (List.mem_of_getElem? (i := 127) rfl))) rfl
theorem ym_2 : (Cond.methodLink "LayerDesk$Descriptor" 68 xy_Na_indexOf) ∈ wT := wT_t (List.mem_append_right _ (List.mem_append_left _ (List.mem_of_getElem? (i := 167) rfl))) rfl
theorem ym_3 : (Cond.instanceMethod xy_Na_indexOf) ∈ wT := wT_t (List.mem_append_right _ (List.mem_append_left _ (List.mem_of_getElem? (i := 125) rfl))) rfl
theorem ym_4 : (Cond.selects "LayerDesk$Names" xy_Na_indexOf xy_Na_indexOf) ∈ wT := wT_t (List.mem_append_right _ (List.mem_append_left _ (List.mem_of_getElem? (i := 126) rfl))) rfl
theorem ym_5 : (Cond.initialized "LayerDesk$Names") ∈ wT := wT_t (List.mem_append_left _ (List.mem_of_getElem? (i := 11) rfl)) rfl
theorem ym_7 : (Cond.fieldLink "LayerDesk$Descriptor" 24 "LayerDesk$Descriptor" "opened" "[LLayerDesk$Grant;") ∈ wT := wT_t (List.mem_append_right _ (List.mem_append_left _ (List.mem_of_getElem? (i := 65) rfl))) rfl
theorem ym_8 : (Cond.code xy_Gr_covers xb_Gr_covers 2 (some .boolean)) ∈ wT := wT_t (List.mem_append_right _ (List.mem_append_left _ (List.mem_of_getElem? (i := 179) rfl))) rfl
theorem ym_9 : (Cond.methodLink "LayerDesk$Descriptor" 72 xy_Gr_covers) ∈ wT := wT_t (List.mem_append_right _ (List.mem_append_right _ (List.mem_append_right _ (List.mem_append_left _ (List.mem_of_getElem? (i := 21) rfl))))) rfl
theorem ym_10 : (Cond.instanceMethod xy_Gr_covers) ∈ wT := wT_t (List.mem_append_right _ (List.mem_append_left _ (List.mem_of_getElem? (i := 177) rfl))) rfl
theorem ym_11 : (Cond.selects "LayerDesk$Grant" xy_Gr_covers xy_Gr_covers) ∈ wT := wT_t (List.mem_append_right _ (List.mem_append_left _ (List.mem_of_getElem? (i := 178) rfl))) rfl
theorem ym_12 : (Cond.initialized "LayerDesk$Grant") ∈ wT := wT_t (List.mem_append_left _ (List.mem_of_getElem? (i := 12) rfl)) rfl
theorem ym_13 : (Cond.fieldLink "LayerDesk$Reach" 11 "LayerDesk$Reach" "rows" "[I") ∈ wT := wT_t (List.mem_append_right _ (List.mem_append_right _ (List.mem_append_left _ (List.mem_of_getElem? (i := 174) rfl)))) rfl
theorem ym_14 : (Cond.fieldLink "LayerDesk$Reach" 15 "LayerDesk$Member" "home" "LLayerDesk$Layer;") ∈ wT := wT_t (List.mem_append_right _ (List.mem_append_right _ (List.mem_append_left _ (List.mem_of_getElem? (i := 180) rfl)))) rfl
theorem ym_15 : (Cond.fieldLink "LayerDesk$Reach" 21 "LayerDesk$Layer" "number" "I") ∈ wT := wT_t (List.mem_append_right _ (List.mem_append_right _ (List.mem_append_left _ (List.mem_of_getElem? (i := 140) rfl)))) rfl
theorem ym_16 : (Cond.fieldLink "LayerDesk$Reach" 27 "LayerDesk$Member" "descriptor" "LLayerDesk$Descriptor;") ∈ wT := wT_t (List.mem_append_right _ (List.mem_append_right _ (List.mem_append_left _ (List.mem_of_getElem? (i := 182) rfl)))) rfl
theorem ym_17 : (Cond.fieldLink "LayerDesk$Reach" 31 "LayerDesk$Descriptor" "number" "I") ∈ wT := wT_t (List.mem_append_right _ (List.mem_append_left _ (List.mem_of_getElem? (i := 47) rfl))) rfl
set_option maxHeartbeats 4000000 in
set_option maxRecDepth 100000 in
theorem xc_Ds_opensTo (l : Launch) (D : va_G) (kA : Nat → ClassId) (sz : Nat) (ad : Nat → Nat → Nat) (E : Nat → Nat → va_E) (RL : List (Nat × Nat)) (nd : Nat) (d : Nat) (pn : Int32) (rd : Int32) (hDIs : DIs kA ad E RL nd) (hd : d < nd) : Met l xy_Ds_opensTo (.code xy_Ds_opensTo xb_Ds_opensTo 4 (some .boolean) :: wT) { frames := 2, cells := 0, slots := 0, locals := 43 } (va_Pc [.ref (ad (1 + d) 0), .int pn, .int rd] (xPre D kA sz (rp ad E RL))) (va_Qi (fun (r : Int32) (u : Unit) => r = 0 ∨ r = 1) (fun (u : Unit) t => va_P D xcl (rp ad E RL) t.heap ∧ va_D (va_A (rp ad E RL) sz) (rp ad E RL)) (va_A (rp ad E RL) sz)) 0 0 (va_A (rp ad E RL) sz) := by
  refine Met.ofW (cc := xb_Ds_opensTo) (maxL := 4) (ret := (some .boolean)) (by decide) rfl ?_
  intro p e s m args below meth c s₁ B hml hv
  obtain ⟨rfl, hsz, hP, hK, hD0⟩ := hv
  have hx := B.exec
  have hb := B.bytes
  have hr := B.returns
  have hT := x_hT B.pre
  have hown : s.vm.findClass xR_Ds = some m.cls := findClass_of_methodNamed B.named
  have hlocks := B.notSynchronized
  subst hsz
  have hD := hD0.self (sz := s.heap.size)
  generalize hAe : va_A (rp ad E RL) s.heap.size = A at hD ⊢
  have hA : ∀ q : Nat, s.heap.size ≤ q → A q := fun q h => by rw [← hAe]; exact Or.inr h
  have hS : va_S A s.heap s.heap [] := va_S.rf
  have hl := lv_entry ([.ref (ad (1 + d) 0), .int pn, .int rd]) (n := 4) (Nat.le_of_ble_eq_true rfl)
  rw [lg_entry_eq]
  generalize (lg_sl ([.ref (ad (1 + d) 0), .int pn, .int rd]) ++ List.replicate (4 - (lg_sl ([.ref (ad (1 + d) 0), .int pn, .int rd])).length) Slot.unset).toArray = ls at hl ⊢
  have hl : lv_has ls 4 [(0, .ref (ad (1 + d) 0)), (1, .int pn), (2, .int rd)] := hl
  have hP : va_P D xcl (rp ad E RL) s.heap := hP
  refine lv_aload_n hx hb xd_Ds_opensTo_0 rfl (lv_at hl 0 rfl) ?_
  obtain ⟨hm_1, fd_1, nm_1, sd_1, k0_1, k1_1, k2_1, k3_1, f0_1, f1_1, f2_1, f3_1, fe_1, fo_1, tr_1, op_1, hk0_1, hk1_1, hk2_1, hk3_1, q0_1, q1_1, q2_1, q3_1, q4_1, q5_1, q6_1, q7_1, q8_1, q9_1, q10_1, q11_1, q12_1, hg_1⟩ := id (hDIs d (by omega))
  have c_2 : E (1 + d) 0 = .inr (7, [.int (nI d), .int fd_1, .int nm_1, .ref (ad (1 + d) 1), .ref (ad (1 + d) 9), .ref (ad (1 + d) 10), .ref (ad (1 + d) 2), .ref (ad (1 + d) 11), .ref (ad (1 + d) 12), .ref (ad (1 + d) 3), .ref (ad (1 + d) 4), .int sd_1]) := q0_1
  have m_3 : (1 + d, 0) ∈ RL := hm_1 0 (by decide)
  have c_4 : E (1 + d) 1 = .inr (8, [.ref (ad (1 + d) 5), .int (nI k0_1)]) := q1_1
  have m_5 : (1 + d, 1) ∈ RL := hm_1 1 (by decide)
  have c_6 : E (1 + d) 2 = .inr (8, [.ref (ad (1 + d) 6), .int (nI k1_1)]) := q2_1
  have m_7 : (1 + d, 2) ∈ RL := hm_1 2 (by decide)
  have c_8 : E (1 + d) 3 = .inr (8, [.ref (ad (1 + d) 7), .int (nI k2_1)]) := q3_1
  have m_9 : (1 + d, 3) ∈ RL := hm_1 3 (by decide)
  have c_10 : E (1 + d) 4 = .inr (8, [.ref (ad (1 + d) 8), .int (nI k3_1)]) := q4_1
  have m_11 : (1 + d, 4) ∈ RL := hm_1 4 (by decide)
  have c_12 : E (1 + d) 5 = .inl (kA 0, 6, .inl f0_1) := q5_1
  have m_13 : (1 + d, 5) ∈ RL := hm_1 5 (by decide)
  have c_14 : E (1 + d) 6 = .inl (kA 0, 5, .inl f1_1) := q6_1
  have m_15 : (1 + d, 6) ∈ RL := hm_1 6 (by decide)
  have c_16 : E (1 + d) 7 = .inl (kA 0, 3, .inl f2_1) := q7_1
  have m_17 : (1 + d, 7) ∈ RL := hm_1 7 (by decide)
  have c_18 : E (1 + d) 8 = .inl (kA 0, 3, .inl f3_1) := q8_1
  have m_19 : (1 + d, 8) ∈ RL := hm_1 8 (by decide)
  have c_20 : E (1 + d) 9 = .inl (kA 8, 6, .inr (.inr (.inr (.inr fe_1)))) := q9_1
  have m_21 : (1 + d, 9) ∈ RL := hm_1 9 (by decide)
  have c_22 : E (1 + d) 10 = .inl (kA 8, 6, .inr (.inr (.inr (.inr fo_1)))) := q10_1
  have m_23 : (1 + d, 10) ∈ RL := hm_1 10 (by decide)
  have c_24 : E (1 + d) 11 = .inl (kA 2, 5, .inl tr_1) := q11_1
  have m_25 : (1 + d, 11) ∈ RL := hm_1 11 (by decide)
  have c_26 : E (1 + d) 12 = .inl (kA 2, 5, .inl op_1) := q12_1
  have m_27 : (1 + d, 12) ∈ RL := hm_1 12 (by decide)
  have hg_1 : ∀ w9, w9 < k0_1 → fe_1 w9 = some (ad (1 + d) (20 + 3 * w9)) ∧ fo_1 w9 = some (ad (1 + d) (38 + 3 * w9)) ∧ GI kA (ad (1 + d)) (E (1 + d)) (fun o => (1 + d, o) ∈ RL) (20 + 3 * w9) (21 + 3 * w9) (22 + 3 * w9) ∧ GI kA (ad (1 + d)) (E (1 + d)) (fun o => (1 + d, o) ∈ RL) (38 + 3 * w9) (39 + 3 * w9) (40 + 3 * w9) := hg_1
  refine px_get (D := D) (ci := 7) (v := .ref (ad (1 + d) 1)) (C := xR_Ds) (T := xT_Ds) (N := 12) hx hb hT xi_Ds hown hK.1 hP m_3 c_2 rfl 3 (by decide) (hT _ ym_0) (fun _ h9 => h9) rfl xd_Ds_opensTo_1 ?_
  refine lv_iload_n hx hb xd_Ds_opensTo_4 rfl (lv_at hl 1 rfl) ?_
  have hFc := px_free hD hS hA
  refine va_calli (va_runV (As := [.int pn]) (rest := []) ⟨hx, hb, hml, hown, hT⟩ (xc_Na_indexOf l D kA s.heap.size ad E RL (1 + d) 1 5 6 k0_1 f0_1 pn m_5 c_4 m_13 c_12 (by first | assumption | omega) (by first | assumption | omega)) (cwV 1 hT (wT_V ym_2 ym_3 ym_4 ym_5 ym_1) rfl rfl rfl (by decide +kernel) ⟨Nat.le_of_ble_eq_true rfl, Nat.le_of_ble_eq_true rfl⟩) (px_preV hK hP hD m_5 c_4 rfl) rfl rfl hl.1 rfl (lv_room (Nat.le_of_ble_eq_true rfl)) xd_Ds_opensTo_5 ⟨(Nat.le_of_ble_eq_true rfl), (Nat.le_of_ble_eq_true rfl)⟩) hS (fun q _ h => hFc q h) hFc (fun r28 u29 t H1 locs ht hvm hp30 hB hz1 hk1 hS => ?_)
  obtain ⟨hP1, hD1⟩ := hB
  rw [ht] at hP1
  have hD1 := hD1.weaken (fun _ _ _ h => hFc _ h)
  generalize H1 = H at hP1 hS ⊢
  have hP := hP1
  have hD := hD1
  have hP : va_P D xcl (rp ad E RL) H := hP
  have hD : va_D A (rp ad E RL) := hD
  rcases hp30 with ⟨z31, z32, rfl, z33, z34⟩ | ⟨rfl, z35⟩
  · refine W.eq (g2 := F0 m 8 ls [.int (nI z31)]) rfl ?_
    refine lv_istore_n hx hb xd_Ds_opensTo_8 rfl hl (Nat.le_of_ble_eq_true rfl) rfl (fun ls hl => ?_)
    have hl : lv_has ls 4 [(3, .int (nI z31)), (0, .ref (ad (1 + d) 0)), (1, .int pn), (2, .int rd)] := hl
    refine lv_iload_n hx hb xd_Ds_opensTo_9 rfl (lv_at hl 0 rfl) ?_
    refine xz_lt (a := z31) (tgt := 30) hx hb xd_Ds_opensTo_10 (by decide) (by omega) ?_
    refine lv_aload_n hx hb xd_Ds_opensTo_13 rfl (lv_at hl 1 rfl) ?_
    refine px_get (D := D) (ci := 7) (v := .ref (ad (1 + d) 10)) (C := xR_Ds) (T := xT_Ds) (N := 12) hx hb hT xi_Ds hown hK.1 hP m_3 c_2 rfl 5 (by decide) (hT _ ym_7) (fun _ h9 => h9) rfl xd_Ds_opensTo_14 ?_
    refine lv_iload_n hx hb xd_Ds_opensTo_17 rfl (lv_at hl 0 rfl) ?_
    refine px_aald (i := z31) (x := (some (ad (1 + d) (38 + 3 * z31)))) hx hb hK.1 hP m_23 c_22 8 rfl ((hg_1 z31 (by omega)).2.1) (by omega) (by decide) xd_Ds_opensTo_18 ?_
    refine lv_iload_n hx hb xd_Ds_opensTo_19 rfl (lv_at hl 3 rfl) ?_
    obtain ⟨m0_37, m1_37, m2_37, ta_37, n_37, f_37, hn_37, q0_37, q1_37, q2_37⟩ := (hg_1 z31 (by omega)).2.2.2
    have c_38 : E (1 + d) (38 + 3 * z31) = .inr (9, [.ref (ad (1 + d) (39 + 3 * z31)), .int ta_37]) := q0_37
    have m_39 : (1 + d, 38 + 3 * z31) ∈ RL := m0_37
    have c_40 : E (1 + d) (39 + 3 * z31) = .inr (8, [.ref (ad (1 + d) (40 + 3 * z31)), .int (nI n_37)]) := q1_37
    have m_41 : (1 + d, 39 + 3 * z31) ∈ RL := m1_37
    have c_42 : E (1 + d) (40 + 3 * z31) = .inl (kA 0, 3, .inl f_37) := q2_37
    have m_43 : (1 + d, 40 + 3 * z31) ∈ RL := m2_37
    have hFc := px_free hD hS hA
    refine va_calli (va_runV (As := [.int rd]) (rest := []) ⟨hx, hb, hml, hown, hT⟩ (xc_Gr_covers l D kA H.size ad E RL (1 + d) (38 + 3 * z31) (39 + 3 * z31) (40 + 3 * z31) ta_37 n_37 f_37 rd m_39 c_38 m_41 c_40 m_43 c_42 (by first | assumption | omega)) (cwV 1 hT (wT_V ym_9 ym_10 ym_11 ym_12 ym_8) rfl rfl rfl (by decide +kernel) ⟨Nat.le_of_ble_eq_true rfl, Nat.le_of_ble_eq_true rfl⟩) (px_preV hK hP hD m_39 c_38 rfl) rfl rfl hl.1 rfl (lv_room (Nat.le_of_ble_eq_true rfl)) xd_Ds_opensTo_20 ⟨(Nat.le_of_ble_eq_true rfl), (Nat.le_of_ble_eq_true rfl)⟩) hS (fun q _ h => hFc q h) hFc (fun r44 u45 t H1 locs ht hvm hp46 hB hz1 hk1 hS => ?_)
    obtain ⟨hP1, hD1⟩ := hB
    rw [ht] at hP1
    have hD1 := hD1.weaken (fun _ _ _ h => hFc _ h)
    generalize H1 = H at hP1 hS ⊢
    have hP := hP1
    have hD := hD1
    have hP : va_P D xcl (rp ad E RL) H := hP
    have hD : va_D A (rp ad E RL) := hD
    rcases hp46 with ⟨rfl, z47⟩ | ⟨rfl, z48, z49⟩
    · refine W.eq (g2 := F0 m 23 ls [.int 1]) rfl ?_
      refine lv_if_eq (tgt := 30) hx hb xd_Ds_opensTo_23 (by decide) (fun hc50 => absurd hc50 (by decide)) (fun _ => ?_)
      refine lv_iconst (v := 1) hx hb xd_Ds_opensTo_26 (by decide) ?_
      refine lv_goto (tgt := 31) hx hb xd_Ds_opensTo_27 (by decide) ?_
      exact W.zret (v := 1) hx hb hr rfl (fun t ht hW => ⟨⟨1, (), rfl, Or.inr rfl, by rw [ht]; exact hP, hD⟩, hS.F ht⟩) hS.2.2 xd_Ds_opensTo_31
    · refine W.eq (g2 := F0 m 23 ls [.int 0]) rfl ?_
      refine lv_if_eq (tgt := 30) hx hb xd_Ds_opensTo_23 (by decide) (fun _ => ?_) (fun hc51 => absurd (by decide) hc51)
      refine lv_iconst (v := 0) hx hb xd_Ds_opensTo_30 (by decide) ?_
      exact W.zret (v := 0) hx hb hr rfl (fun t ht hW => ⟨⟨0, (), rfl, Or.inl rfl, by rw [ht]; exact hP, hD⟩, hS.F ht⟩) hS.2.2 xd_Ds_opensTo_31
  · refine W.eq (g2 := F0 m 8 ls [.int (-1)]) rfl ?_
    refine lv_istore_n hx hb xd_Ds_opensTo_8 rfl hl (Nat.le_of_ble_eq_true rfl) rfl (fun ls hl => ?_)
    have hl : lv_has ls 4 [(3, .int (-1)), (0, .ref (ad (1 + d) 0)), (1, .int pn), (2, .int rd)] := hl
    refine lv_iload_n hx hb xd_Ds_opensTo_9 rfl (lv_at hl 0 rfl) ?_
    refine lv_if_lt (tgt := 30) hx hb xd_Ds_opensTo_10 (by decide) (fun _ => ?_) (fun hc52 => absurd (by decide) hc52)
    refine lv_iconst (v := 0) hx hb xd_Ds_opensTo_30 (by decide) ?_
    exact W.zret (v := 0) hx hb hr rfl (fun t ht hW => ⟨⟨0, (), rfl, Or.inl rfl, by rw [ht]; exact hP, hD⟩, hS.F ht⟩) hS.2.2 xd_Ds_opensTo_31
set_option maxHeartbeats 4000000 in
set_option maxRecDepth 100000 in
theorem xc_Re_marks (l : Launch) (D : va_G) (kA : Nat → ClassId) (sz : Nat) (ad : Nat → Nat → Nat) (E : Nat → Nat → va_E) (RL : List (Nat × Nat)) (b : Nat) (o : Nat) (oa : Nat) (f : Nat → Int32) (n : Nat) (k : Nat) (d : Nat) (pv : Value) (lo : Int32) (fd : Int32) (nm : Int32) (sd : Int32) (ym0 : (b, o) ∈ RL) (yc0 : E b o = .inr (10, [.ref (ad b oa)])) (ym1 : (b, oa) ∈ RL) (yc1 : E b oa = .inl (kA 0, 6, .inl f)) (ym2 : (20 + n, 10 + 10 * k) ∈ RL) (yc2 : E (20 + n) (10 + 10 * k) = .inr (6, [.ref (ad (20 + n) 0), .ref (ad (1 + d) 0), .ref (ad (20 + n) (11 + 10 * k)), .ref (ad (20 + n) (12 + 10 * k)), .ref (ad (20 + n) (13 + 10 * k)), .ref (ad (20 + n) (14 + 10 * k))])) (ym3 : (20 + n, 0) ∈ RL) (yc3 : E (20 + n) 0 = .inr (5, [.int (nI n), pv, .ref (ad (20 + n) 1), .int lo])) (ym4 : (1 + d, 0) ∈ RL) (yc4 : E (1 + d) 0 = .inr (7, [.int (nI d), .int fd, .int nm, .ref (ad (1 + d) 1), .ref (ad (1 + d) 9), .ref (ad (1 + d) 10), .ref (ad (1 + d) 2), .ref (ad (1 + d) 11), .ref (ad (1 + d) 12), .ref (ad (1 + d) 3), .ref (ad (1 + d) 4), .int sd])) (hn6 : n ≤ 5) : Met l xy_Re_marks (.code xy_Re_marks xb_Re_marks 2 (some .boolean) :: wT) { frames := 0, cells := 0, slots := 0, locals := 0 } (va_Pc [.ref (ad b o), .ref (ad (20 + n) (10 + 10 * k))] (xPre D kA sz (rp ad E RL))) (va_Qi (fun (r : Int32) (u : Unit) => (r = 1 ∧ ¬ ((f n >>> (nI d &&& 31)) &&& 1) = 0) ∨ (r = 0 ∧ ((f n >>> (nI d &&& 31)) &&& 1) = 0)) (fun (u : Unit) t => va_P D xcl (rp ad E RL) t.heap ∧ va_D (va_A (rp ad E RL) sz) (rp ad E RL)) (va_A (rp ad E RL) sz)) 0 0 (va_A (rp ad E RL) sz) := by
  refine Met.ofW (cc := xb_Re_marks) (maxL := 2) (ret := (some .boolean)) (by decide) rfl ?_
  intro p e s m args below meth c s₁ B hml hv
  obtain ⟨rfl, hsz, hP, hK, hD0⟩ := hv
  have hx := B.exec
  have hb := B.bytes
  have hr := B.returns
  have hT := x_hT B.pre
  have hown : s.vm.findClass xR_Re = some m.cls := findClass_of_methodNamed B.named
  have hlocks := B.notSynchronized
  subst hsz
  have hD := hD0.self (sz := s.heap.size)
  generalize hAe : va_A (rp ad E RL) s.heap.size = A at hD ⊢
  have hA : ∀ q : Nat, s.heap.size ≤ q → A q := fun q h => by rw [← hAe]; exact Or.inr h
  have hS : va_S A s.heap s.heap [] := va_S.rf
  have hl := lv_entry ([.ref (ad b o), .ref (ad (20 + n) (10 + 10 * k))]) (n := 2) (Nat.le_of_ble_eq_true rfl)
  rw [lg_entry_eq]
  generalize (lg_sl ([.ref (ad b o), .ref (ad (20 + n) (10 + 10 * k))]) ++ List.replicate (2 - (lg_sl ([.ref (ad b o), .ref (ad (20 + n) (10 + 10 * k))])).length) Slot.unset).toArray = ls at hl ⊢
  have hl : lv_has ls 2 [(0, .ref (ad b o)), (1, .ref (ad (20 + n) (10 + 10 * k)))] := hl
  have hP : va_P D xcl (rp ad E RL) s.heap := hP
  refine lv_aload_n hx hb xd_Re_marks_0 rfl (lv_at hl 0 rfl) ?_
  refine px_get (D := D) (ci := 10) (v := .ref (ad b oa)) (C := xR_Re) (T := xT_Re) (N := 1) hx hb hT xi_Re hown hK.1 hP ym0 yc0 rfl 0 (by decide) (hT _ ym_13) (fun _ h9 => h9) rfl xd_Re_marks_1 ?_
  refine lv_aload_n hx hb xd_Re_marks_4 rfl (lv_at hl 1 rfl) ?_
  refine px_get (D := D) (ci := 6) (v := .ref (ad (20 + n) 0)) (C := xR_Me) (T := xT_Me) (N := 6) hx hb hT xi_Me hown hK.1 hP ym2 yc2 rfl 0 (by decide) (hT _ ym_14) (fun _ h9 => h9) rfl xd_Re_marks_5 ?_
  refine px_get (D := D) (ci := 5) (v := .int (nI n)) (C := xR_Ly) (T := xT_Ly) (N := 4) hx hb hT xi_Ly hown hK.1 hP ym3 yc3 rfl 0 (by decide) (hT _ ym_15) (fun _ h9 => h9) rfl xd_Re_marks_8 ?_
  refine px_iald (i := n) hx hb hK.1 hP ym1 yc1 0 rfl (by omega) (by decide) xd_Re_marks_11 ?_
  refine lv_aload_n hx hb xd_Re_marks_12 rfl (lv_at hl 1 rfl) ?_
  refine px_get (D := D) (ci := 6) (v := .ref (ad (1 + d) 0)) (C := xR_Me) (T := xT_Me) (N := 6) hx hb hT xi_Me hown hK.1 hP ym2 yc2 rfl 1 (by decide) (hT _ ym_16) (fun _ h9 => h9) rfl xd_Re_marks_13 ?_
  refine px_get (D := D) (ci := 7) (v := .int (nI d)) (C := xR_Ds) (T := xT_Ds) (N := 12) hx hb hT xi_Ds hown hK.1 hP ym4 yc4 rfl 0 (by decide) (hT _ ym_17) (fun _ h9 => h9) rfl xd_Re_marks_16 ?_
  refine lv_ishr hx hb xd_Re_marks_19 ?_
  refine lv_iconst (v := 1) hx hb xd_Re_marks_20 (by decide) ?_
  refine lv_iand hx hb xd_Re_marks_21 ?_
  refine lv_if_eq (tgt := 29) hx hb xd_Re_marks_22 (by decide) (fun hc1 => ?_) (fun hc1 => ?_)
  · refine lv_iconst (v := 0) hx hb xd_Re_marks_29 (by decide) ?_
    exact W.zret (v := 0) hx hb hr rfl (fun t ht hW => ⟨⟨0, (), rfl, Or.inr ⟨rfl, hc1⟩, by rw [ht]; exact hP, hD⟩, hS.F ht⟩) hS.2.2 xd_Re_marks_30
  · refine lv_iconst (v := 1) hx hb xd_Re_marks_25 (by decide) ?_
    refine lv_goto (tgt := 30) hx hb xd_Re_marks_26 (by decide) ?_
    exact W.zret (v := 1) hx hb hr rfl (fun t ht hW => ⟨⟨1, (), rfl, Or.inl ⟨rfl, hc1⟩, by rw [ht]; exact hP, hD⟩, hS.F ht⟩) hS.2.2 xd_Re_marks_30
set_option maxHeartbeats 4000000 in
set_option maxRecDepth 100000 in
theorem xc_Re_mark (l : Launch) (D : va_G) (kA : Nat → ClassId) (sz : Nat) (ad : Nat → Nat → Nat) (E : Nat → Nat → va_E) (RL : List (Nat × Nat)) (b : Nat) (o : Nat) (oa : Nat) (f : Nat → Int32) (n : Nat) (k : Nat) (d : Nat) (pv : Value) (lo : Int32) (fd : Int32) (nm : Int32) (sd : Int32) (ym0 : (b, o) ∈ RL) (yc0 : E b o = .inr (10, [.ref (ad b oa)])) (ym1 : (b, oa) ∈ RL) (yc1 : E b oa = .inl (kA 0, 6, .inl f)) (ym2 : (20 + n, 10 + 10 * k) ∈ RL) (yc2 : E (20 + n) (10 + 10 * k) = .inr (6, [.ref (ad (20 + n) 0), .ref (ad (1 + d) 0), .ref (ad (20 + n) (11 + 10 * k)), .ref (ad (20 + n) (12 + 10 * k)), .ref (ad (20 + n) (13 + 10 * k)), .ref (ad (20 + n) (14 + 10 * k))])) (ym3 : (20 + n, 0) ∈ RL) (yc3 : E (20 + n) 0 = .inr (5, [.int (nI n), pv, .ref (ad (20 + n) 1), .int lo])) (ym4 : (1 + d, 0) ∈ RL) (yc4 : E (1 + d) 0 = .inr (7, [.int (nI d), .int fd, .int nm, .ref (ad (1 + d) 1), .ref (ad (1 + d) 9), .ref (ad (1 + d) 10), .ref (ad (1 + d) 2), .ref (ad (1 + d) 11), .ref (ad (1 + d) 12), .ref (ad (1 + d) 3), .ref (ad (1 + d) 4), .int sd])) (hn6 : n ≤ 5) (hoa : o ≠ oa) (hap : ¬ (b = 20 + n ∧ oa = 10 + 10 * k) ∧ ¬ (b = 20 + n ∧ oa = 0) ∧ ¬ (b = 1 + d ∧ oa = 0)) : Met l xy_Re_mark (.code xy_Re_mark xb_Re_mark 2 none :: wT) { frames := 0, cells := 0, slots := 0, locals := 0 } (va_Pc [.ref (ad b o), .ref (ad (20 + n) (10 + 10 * k))] (xPre D kA sz (rp ad E RL))) (va_Qv (fun (u : Nat → Nat → va_E) => ∃ f2 : Nat → Int32, (f2 = upd f n (f n ||| (1 <<< (nI d &&& 31)))) ∧ (u b oa = .inl (kA 0, 6, .inl f2)) ∧ ((∀ b2 o2, ¬ (b2 = b ∧ o2 = oa) → u b2 o2 = E b2 o2))) (fun (u : Nat → Nat → va_E) t => va_P D xcl (rp ad u RL) t.heap ∧ va_D (va_A (rp ad E RL) sz) (rp ad u RL)) (va_A (rp ad E RL) sz)) 0 0 (va_A (rp ad E RL) sz) := by
  refine Met.ofW (cc := xb_Re_mark) (maxL := 2) (ret := none) (by decide) rfl ?_
  intro p e s m args below meth c s₁ B hml hv
  obtain ⟨rfl, hsz, hP, hK, hD0⟩ := hv
  have hx := B.exec
  have hb := B.bytes
  have hr := B.returns
  have hT := x_hT B.pre
  have hown : s.vm.findClass xR_Re = some m.cls := findClass_of_methodNamed B.named
  have hlocks := B.notSynchronized
  subst hsz
  have hD := hD0.self (sz := s.heap.size)
  generalize hAe : va_A (rp ad E RL) s.heap.size = A at hD ⊢
  have hA : ∀ q : Nat, s.heap.size ≤ q → A q := fun q h => by rw [← hAe]; exact Or.inr h
  have hS : va_S A s.heap s.heap [] := va_S.rf
  have hl := lv_entry ([.ref (ad b o), .ref (ad (20 + n) (10 + 10 * k))]) (n := 2) (Nat.le_of_ble_eq_true rfl)
  rw [lg_entry_eq]
  generalize (lg_sl ([.ref (ad b o), .ref (ad (20 + n) (10 + 10 * k))]) ++ List.replicate (2 - (lg_sl ([.ref (ad b o), .ref (ad (20 + n) (10 + 10 * k))])).length) Slot.unset).toArray = ls at hl ⊢
  have hl : lv_has ls 2 [(0, .ref (ad b o)), (1, .ref (ad (20 + n) (10 + 10 * k)))] := hl
  have hP : va_P D xcl (rp ad E RL) s.heap := hP
  refine lv_aload_n hx hb xd_Re_mark_0 rfl (lv_at hl 0 rfl) ?_
  refine px_get (D := D) (ci := 10) (v := .ref (ad b oa)) (C := xR_Re) (T := xT_Re) (N := 1) hx hb hT xi_Re hown hK.1 hP ym0 yc0 rfl 0 (by decide) (hT _ ym_13) (fun _ h9 => h9) rfl xd_Re_mark_1 ?_
  refine lv_aload_n hx hb xd_Re_mark_4 rfl (lv_at hl 1 rfl) ?_
  refine px_get (D := D) (ci := 6) (v := .ref (ad (20 + n) 0)) (C := xR_Me) (T := xT_Me) (N := 6) hx hb hT xi_Me hown hK.1 hP ym2 yc2 rfl 0 (by decide) (hT _ ym_14) (fun _ h9 => h9) rfl xd_Re_mark_5 ?_
  refine px_get (D := D) (ci := 5) (v := .int (nI n)) (C := xR_Ly) (T := xT_Ly) (N := 4) hx hb hT xi_Ly hown hK.1 hP ym3 yc3 rfl 0 (by decide) (hT _ ym_15) (fun _ h9 => h9) rfl xd_Re_mark_8 ?_
  refine lv_dup2_11 hx hb xd_Re_mark_11 rfl rfl ?_
  refine px_iald (i := n) hx hb hK.1 hP ym1 yc1 0 rfl (by omega) (by decide) xd_Re_mark_12 ?_
  refine lv_iconst (v := 1) hx hb xd_Re_mark_13 (by decide) ?_
  refine lv_aload_n hx hb xd_Re_mark_14 rfl (lv_at hl 1 rfl) ?_
  refine px_get (D := D) (ci := 6) (v := .ref (ad (1 + d) 0)) (C := xR_Me) (T := xT_Me) (N := 6) hx hb hT xi_Me hown hK.1 hP ym2 yc2 rfl 1 (by decide) (hT _ ym_16) (fun _ h9 => h9) rfl xd_Re_mark_15 ?_
  refine px_get (D := D) (ci := 7) (v := .int (nI d)) (C := xR_Ds) (T := xT_Ds) (N := 12) hx hb hT xi_Ds hown hK.1 hP ym4 yc4 rfl 0 (by decide) (hT _ ym_17) (fun _ h9 => h9) rfl xd_Re_mark_18 ?_
  refine lv_ishl hx hb xd_Re_mark_21 ?_
  refine lv_ior hx hb xd_Re_mark_22 ?_
  refine px_iast (i := n) hx hb hK.1 hP hD hS ym1 yc1 0 rfl (by omega) (by decide) xd_Re_mark_23 (fun H locs hP hD hS => ?_)
  have hP : va_P D xcl (rp ad (up2 E b oa (.inl (kA 0, 6, .inl (upd f n ((f n) ||| (1 <<< ((nI d) &&& 31))))))) RL) H := hP
  have hD : va_D A (rp ad (up2 E b oa (.inl (kA 0, 6, .inl (upd f n ((f n) ||| (1 <<< ((nI d) &&& 31))))))) RL) := hD
  generalize hE2 : up2 E b oa (.inl (kA 0, 6, .inl (upd f n ((f n) ||| (1 <<< ((nI d) &&& 31)))))) = E1 at hP hD
  have fE3 : ∀ b2 o2, ¬ (b2 = b ∧ o2 = oa) → E1 b2 o2 = E b2 o2 := fun b2 o2 h9 => by rw [← hE2]; exact up2_ne (nr_or h9)
  have c_4 : E1 b oa = .inl (kA 0, 6, .inl (upd f n ((f n) ||| (1 <<< ((nI d) &&& 31))))) := by rw [← hE2]; exact up2_eq
  have c_5 : E1 b o = .inr (10, [.ref (ad b oa)]) := (fE3 b o (by omega)).trans yc0
  have c_6 : E1 (20 + n) (10 + 10 * k) = .inr (6, [.ref (ad (20 + n) 0), .ref (ad (1 + d) 0), .ref (ad (20 + n) (11 + 10 * k)), .ref (ad (20 + n) (12 + 10 * k)), .ref (ad (20 + n) (13 + 10 * k)), .ref (ad (20 + n) (14 + 10 * k))]) := (fE3 (20 + n) (10 + 10 * k) (by omega)).trans yc2
  have c_7 : E1 (20 + n) 0 = .inr (5, [.int (nI n), pv, .ref (ad (20 + n) 1), .int lo]) := (fE3 (20 + n) 0 (by omega)).trans yc3
  have c_8 : E1 (1 + d) 0 = .inr (7, [.int (nI d), .int fd, .int nm, .ref (ad (1 + d) 1), .ref (ad (1 + d) 9), .ref (ad (1 + d) 10), .ref (ad (1 + d) 2), .ref (ad (1 + d) 11), .ref (ad (1 + d) 12), .ref (ad (1 + d) 3), .ref (ad (1 + d) 4), .int sd]) := (fE3 (1 + d) 0 (by omega)).trans yc4
  exact W.vret hx hb hr (fun t ht hW => ⟨⟨E1, rfl, ⟨(upd f n ((f n) ||| (1 <<< ((nI d) &&& 31)))), rfl, c_4, (fun b2 o2 h09 => by show E1 b2 o2 = _; rw [fE3 b2 o2 (by omega)])⟩, by rw [ht]; exact hP, hD⟩, hS.F ht⟩) hS.2.2 xd_Re_mark_24
set_option maxHeartbeats 4000000 in
set_option maxRecDepth 100000 in
theorem xc_Re_unmark (l : Launch) (D : va_G) (kA : Nat → ClassId) (sz : Nat) (ad : Nat → Nat → Nat) (E : Nat → Nat → va_E) (RL : List (Nat × Nat)) (b : Nat) (o : Nat) (oa : Nat) (f : Nat → Int32) (n : Nat) (k : Nat) (d : Nat) (pv : Value) (lo : Int32) (fd : Int32) (nm : Int32) (sd : Int32) (ym0 : (b, o) ∈ RL) (yc0 : E b o = .inr (10, [.ref (ad b oa)])) (ym1 : (b, oa) ∈ RL) (yc1 : E b oa = .inl (kA 0, 6, .inl f)) (ym2 : (20 + n, 10 + 10 * k) ∈ RL) (yc2 : E (20 + n) (10 + 10 * k) = .inr (6, [.ref (ad (20 + n) 0), .ref (ad (1 + d) 0), .ref (ad (20 + n) (11 + 10 * k)), .ref (ad (20 + n) (12 + 10 * k)), .ref (ad (20 + n) (13 + 10 * k)), .ref (ad (20 + n) (14 + 10 * k))])) (ym3 : (20 + n, 0) ∈ RL) (yc3 : E (20 + n) 0 = .inr (5, [.int (nI n), pv, .ref (ad (20 + n) 1), .int lo])) (ym4 : (1 + d, 0) ∈ RL) (yc4 : E (1 + d) 0 = .inr (7, [.int (nI d), .int fd, .int nm, .ref (ad (1 + d) 1), .ref (ad (1 + d) 9), .ref (ad (1 + d) 10), .ref (ad (1 + d) 2), .ref (ad (1 + d) 11), .ref (ad (1 + d) 12), .ref (ad (1 + d) 3), .ref (ad (1 + d) 4), .int sd])) (hn6 : n ≤ 5) (hoa : o ≠ oa) (hap : ¬ (b = 20 + n ∧ oa = 10 + 10 * k) ∧ ¬ (b = 20 + n ∧ oa = 0) ∧ ¬ (b = 1 + d ∧ oa = 0)) : Met l xy_Re_unmark (.code xy_Re_unmark xb_Re_unmark 2 none :: wT) { frames := 0, cells := 0, slots := 0, locals := 0 } (va_Pc [.ref (ad b o), .ref (ad (20 + n) (10 + 10 * k))] (xPre D kA sz (rp ad E RL))) (va_Qv (fun (u : Nat → Nat → va_E) => ∃ f2 : Nat → Int32, (f2 = upd f n (f n &&& ((1 <<< (nI d &&& 31)) ^^^ (-1)))) ∧ (u b oa = .inl (kA 0, 6, .inl f2)) ∧ ((∀ b2 o2, ¬ (b2 = b ∧ o2 = oa) → u b2 o2 = E b2 o2))) (fun (u : Nat → Nat → va_E) t => va_P D xcl (rp ad u RL) t.heap ∧ va_D (va_A (rp ad E RL) sz) (rp ad u RL)) (va_A (rp ad E RL) sz)) 0 0 (va_A (rp ad E RL) sz) := by
  refine Met.ofW (cc := xb_Re_unmark) (maxL := 2) (ret := none) (by decide) rfl ?_
  intro p e s m args below meth c s₁ B hml hv
  obtain ⟨rfl, hsz, hP, hK, hD0⟩ := hv
  have hx := B.exec
  have hb := B.bytes
  have hr := B.returns
  have hT := x_hT B.pre
  have hown : s.vm.findClass xR_Re = some m.cls := findClass_of_methodNamed B.named
  have hlocks := B.notSynchronized
  subst hsz
  have hD := hD0.self (sz := s.heap.size)
  generalize hAe : va_A (rp ad E RL) s.heap.size = A at hD ⊢
  have hA : ∀ q : Nat, s.heap.size ≤ q → A q := fun q h => by rw [← hAe]; exact Or.inr h
  have hS : va_S A s.heap s.heap [] := va_S.rf
  have hl := lv_entry ([.ref (ad b o), .ref (ad (20 + n) (10 + 10 * k))]) (n := 2) (Nat.le_of_ble_eq_true rfl)
  rw [lg_entry_eq]
  generalize (lg_sl ([.ref (ad b o), .ref (ad (20 + n) (10 + 10 * k))]) ++ List.replicate (2 - (lg_sl ([.ref (ad b o), .ref (ad (20 + n) (10 + 10 * k))])).length) Slot.unset).toArray = ls at hl ⊢
  have hl : lv_has ls 2 [(0, .ref (ad b o)), (1, .ref (ad (20 + n) (10 + 10 * k)))] := hl
  have hP : va_P D xcl (rp ad E RL) s.heap := hP
  refine lv_aload_n hx hb xd_Re_unmark_0 rfl (lv_at hl 0 rfl) ?_
  refine px_get (D := D) (ci := 10) (v := .ref (ad b oa)) (C := xR_Re) (T := xT_Re) (N := 1) hx hb hT xi_Re hown hK.1 hP ym0 yc0 rfl 0 (by decide) (hT _ ym_13) (fun _ h9 => h9) rfl xd_Re_unmark_1 ?_
  refine lv_aload_n hx hb xd_Re_unmark_4 rfl (lv_at hl 1 rfl) ?_
  refine px_get (D := D) (ci := 6) (v := .ref (ad (20 + n) 0)) (C := xR_Me) (T := xT_Me) (N := 6) hx hb hT xi_Me hown hK.1 hP ym2 yc2 rfl 0 (by decide) (hT _ ym_14) (fun _ h9 => h9) rfl xd_Re_unmark_5 ?_
  refine px_get (D := D) (ci := 5) (v := .int (nI n)) (C := xR_Ly) (T := xT_Ly) (N := 4) hx hb hT xi_Ly hown hK.1 hP ym3 yc3 rfl 0 (by decide) (hT _ ym_15) (fun _ h9 => h9) rfl xd_Re_unmark_8 ?_
  refine lv_dup2_11 hx hb xd_Re_unmark_11 rfl rfl ?_
  refine px_iald (i := n) hx hb hK.1 hP ym1 yc1 0 rfl (by omega) (by decide) xd_Re_unmark_12 ?_
  refine lv_iconst (v := 1) hx hb xd_Re_unmark_13 (by decide) ?_
  refine lv_aload_n hx hb xd_Re_unmark_14 rfl (lv_at hl 1 rfl) ?_
  refine px_get (D := D) (ci := 6) (v := .ref (ad (1 + d) 0)) (C := xR_Me) (T := xT_Me) (N := 6) hx hb hT xi_Me hown hK.1 hP ym2 yc2 rfl 1 (by decide) (hT _ ym_16) (fun _ h9 => h9) rfl xd_Re_unmark_15 ?_
  refine px_get (D := D) (ci := 7) (v := .int (nI d)) (C := xR_Ds) (T := xT_Ds) (N := 12) hx hb hT xi_Ds hown hK.1 hP ym4 yc4 rfl 0 (by decide) (hT _ ym_17) (fun _ h9 => h9) rfl xd_Re_unmark_18 ?_
  refine lv_ishl hx hb xd_Re_unmark_21 ?_
  refine lv_iconst (v := (-1)) hx hb xd_Re_unmark_22 (by decide) ?_
  refine lv_ixor hx hb xd_Re_unmark_23 ?_
  refine lv_iand hx hb xd_Re_unmark_24 ?_
  refine px_iast (i := n) hx hb hK.1 hP hD hS ym1 yc1 0 rfl (by omega) (by decide) xd_Re_unmark_25 (fun H locs hP hD hS => ?_)
  have hP : va_P D xcl (rp ad (up2 E b oa (.inl (kA 0, 6, .inl (upd f n ((f n) &&& ((1 <<< ((nI d) &&& 31)) ^^^ (-1))))))) RL) H := hP
  have hD : va_D A (rp ad (up2 E b oa (.inl (kA 0, 6, .inl (upd f n ((f n) &&& ((1 <<< ((nI d) &&& 31)) ^^^ (-1))))))) RL) := hD
  generalize hE2 : up2 E b oa (.inl (kA 0, 6, .inl (upd f n ((f n) &&& ((1 <<< ((nI d) &&& 31)) ^^^ (-1)))))) = E1 at hP hD
  have fE3 : ∀ b2 o2, ¬ (b2 = b ∧ o2 = oa) → E1 b2 o2 = E b2 o2 := fun b2 o2 h9 => by rw [← hE2]; exact up2_ne (nr_or h9)
  have c_4 : E1 b oa = .inl (kA 0, 6, .inl (upd f n ((f n) &&& ((1 <<< ((nI d) &&& 31)) ^^^ (-1))))) := by rw [← hE2]; exact up2_eq
  have c_5 : E1 b o = .inr (10, [.ref (ad b oa)]) := (fE3 b o (by omega)).trans yc0
  have c_6 : E1 (20 + n) (10 + 10 * k) = .inr (6, [.ref (ad (20 + n) 0), .ref (ad (1 + d) 0), .ref (ad (20 + n) (11 + 10 * k)), .ref (ad (20 + n) (12 + 10 * k)), .ref (ad (20 + n) (13 + 10 * k)), .ref (ad (20 + n) (14 + 10 * k))]) := (fE3 (20 + n) (10 + 10 * k) (by omega)).trans yc2
  have c_7 : E1 (20 + n) 0 = .inr (5, [.int (nI n), pv, .ref (ad (20 + n) 1), .int lo]) := (fE3 (20 + n) 0 (by omega)).trans yc3
  have c_8 : E1 (1 + d) 0 = .inr (7, [.int (nI d), .int fd, .int nm, .ref (ad (1 + d) 1), .ref (ad (1 + d) 9), .ref (ad (1 + d) 10), .ref (ad (1 + d) 2), .ref (ad (1 + d) 11), .ref (ad (1 + d) 12), .ref (ad (1 + d) 3), .ref (ad (1 + d) 4), .int sd]) := (fE3 (1 + d) 0 (by omega)).trans yc4
  exact W.vret hx hb hr (fun t ht hW => ⟨⟨E1, rfl, ⟨(upd f n ((f n) &&& ((1 <<< ((nI d) &&& 31)) ^^^ (-1)))), rfl, c_4, (fun b2 o2 h09 => by show E1 b2 o2 = _; rw [fE3 b2 o2 (by omega)])⟩, by rw [ht]; exact hP, hD⟩, hS.F ht⟩) hS.2.2 xd_Re_unmark_26
abbrev xb_Ly_lookUp : ByteArray := prog_5_method_2_code
def xy_Ly_lookUp : MethodName := ⟨"LayerDesk$Layer", "lookUp", "(I)LLayerDesk$Member;"⟩
abbrev xb_Ly_withDescriptor : ByteArray := prog_5_method_3_code
def xy_Ly_withDescriptor : MethodName := ⟨"LayerDesk$Layer", "withDescriptor", "(I)LLayerDesk$Member;"⟩
abbrev xb_Ly_providerOf : ByteArray := prog_5_method_4_code
def xy_Ly_providerOf : MethodName := ⟨"LayerDesk$Layer", "providerOf", "(II)LLayerDesk$Member;"⟩
abbrev xb_Me_code : ByteArray := prog_7_method_6_code
def xy_Me_code : MethodName := ⟨"LayerDesk$Member", "code", "()I"⟩
abbrev xb_Me_sourceOf : ByteArray := prog_7_method_4_code
def xy_Me_sourceOf : MethodName := ⟨"LayerDesk$Member", "sourceOf", "(I)LLayerDesk$Member;"⟩
abbrev xb_Me_isSplitBy : ByteArray := prog_7_method_5_code
def xy_Me_isSplitBy : MethodName := ⟨"LayerDesk$Member", "isSplitBy", "(LLayerDesk$Member;)Z"⟩
abbrev xb_Ly_hasCycle : ByteArray := prog_5_method_6_code
def xy_Ly_hasCycle : MethodName := ⟨"LayerDesk$Layer", "hasCycle", "()Z"⟩
abbrev xb_Ly_hasSplit : ByteArray := prog_5_method_7_code
def xy_Ly_hasSplit : MethodName := ⟨"LayerDesk$Layer", "hasSplit", "()Z"⟩
theorem xd_Ly_hasCycle_0 : decode xb_Ly_hasCycle 0 = .ok (.iconst 0, 1) := by decide +kernel
theorem xd_Ly_hasCycle_1 : decode xb_Ly_hasCycle 1 = .ok (.istore_n 1, 1) := by decide +kernel
theorem xd_Ly_hasCycle_2 : decode xb_Ly_hasCycle 2 = .ok (.iload_n 1, 1) := by decide +kernel
theorem xd_Ly_hasCycle_3 : decode xb_Ly_hasCycle 3 = .ok (.aload_n 0, 1) := by decide +kernel
theorem xd_Ly_hasCycle_4 : decode xb_Ly_hasCycle 4 = .ok (.getfield 19, 3) := by decide +kernel
theorem xd_Ly_hasCycle_7 : decode xb_Ly_hasCycle 7 = .ok (.arraylength, 1) := by decide +kernel
theorem xd_Ly_hasCycle_8 : decode xb_Ly_hasCycle 8 = .ok (.if_icmp .ge 32, 3) := by decide +kernel
theorem xd_Ly_hasCycle_11 : decode xb_Ly_hasCycle 11 = .ok (.aload_n 0, 1) := by decide +kernel
theorem xd_Ly_hasCycle_12 : decode xb_Ly_hasCycle 12 = .ok (.getfield 19, 3) := by decide +kernel
theorem xd_Ly_hasCycle_15 : decode xb_Ly_hasCycle 15 = .ok (.iload_n 1, 1) := by decide +kernel
theorem xd_Ly_hasCycle_16 : decode xb_Ly_hasCycle 16 = .ok (.aaload, 1) := by decide +kernel
theorem xd_Ly_hasCycle_17 : decode xb_Ly_hasCycle 17 = .ok (.getfield 52, 3) := by decide +kernel
theorem xd_Ly_hasCycle_20 : decode xb_Ly_hasCycle 20 = .ok (.aload_n 0, 1) := by decide +kernel
theorem xd_Ly_hasCycle_21 : decode xb_Ly_hasCycle 21 = .ok (.getfield 19, 3) := by decide +kernel
theorem xd_Ly_hasCycle_24 : decode xb_Ly_hasCycle 24 = .ok (.iload_n 1, 1) := by decide +kernel
theorem xd_Ly_hasCycle_25 : decode xb_Ly_hasCycle 25 = .ok (.aaload, 1) := by decide +kernel
theorem xd_Ly_hasCycle_26 : decode xb_Ly_hasCycle 26 = .ok (.invokevirtual 66, 3) := by decide +kernel
theorem xd_Ly_hasCycle_29 : decode xb_Ly_hasCycle 29 = .ok (.ifCond .eq 5, 3) := by decide +kernel
theorem xd_Ly_hasCycle_32 : decode xb_Ly_hasCycle 32 = .ok (.iconst 1, 1) := by decide +kernel
theorem xd_Ly_hasCycle_33 : decode xb_Ly_hasCycle 33 = .ok (.ireturn, 1) := by decide +kernel
theorem xd_Ly_hasCycle_34 : decode xb_Ly_hasCycle 34 = .ok (.iinc 1 1, 3) := by decide +kernel
theorem xd_Ly_hasCycle_37 : decode xb_Ly_hasCycle 37 = .ok (.goto (-35), 3) := by decide +kernel
theorem xd_Ly_hasCycle_40 : decode xb_Ly_hasCycle 40 = .ok (.iconst 0, 1) := by decide +kernel
theorem xd_Ly_hasCycle_41 : decode xb_Ly_hasCycle 41 = .ok (.ireturn, 1) := by decide +kernel
theorem xd_Ly_hasSplit_0 : decode xb_Ly_hasSplit 0 = .ok (.iconst 0, 1) := by decide +kernel
theorem xd_Ly_hasSplit_1 : decode xb_Ly_hasSplit 1 = .ok (.istore_n 1, 1) := by decide +kernel
theorem xd_Ly_hasSplit_2 : decode xb_Ly_hasSplit 2 = .ok (.iload_n 1, 1) := by decide +kernel
theorem xd_Ly_hasSplit_3 : decode xb_Ly_hasSplit 3 = .ok (.aload_n 0, 1) := by decide +kernel
theorem xd_Ly_hasSplit_4 : decode xb_Ly_hasSplit 4 = .ok (.getfield 19, 3) := by decide +kernel
theorem xd_Ly_hasSplit_7 : decode xb_Ly_hasSplit 7 = .ok (.arraylength, 1) := by decide +kernel
theorem xd_Ly_hasSplit_8 : decode xb_Ly_hasSplit 8 = .ok (.if_icmp .ge 60, 3) := by decide +kernel
theorem xd_Ly_hasSplit_11 : decode xb_Ly_hasSplit 11 = .ok (.aload_n 0, 1) := by decide +kernel
theorem xd_Ly_hasSplit_12 : decode xb_Ly_hasSplit 12 = .ok (.astore_n 2, 1) := by decide +kernel
theorem xd_Ly_hasSplit_13 : decode xb_Ly_hasSplit 13 = .ok (.aload_n 2, 1) := by decide +kernel
theorem xd_Ly_hasSplit_14 : decode xb_Ly_hasSplit 14 = .ok (.ifnull 48, 3) := by decide +kernel
theorem xd_Ly_hasSplit_17 : decode xb_Ly_hasSplit 17 = .ok (.iconst 0, 1) := by decide +kernel
theorem xd_Ly_hasSplit_18 : decode xb_Ly_hasSplit 18 = .ok (.istore_n 3, 1) := by decide +kernel
theorem xd_Ly_hasSplit_19 : decode xb_Ly_hasSplit 19 = .ok (.iload_n 3, 1) := by decide +kernel
theorem xd_Ly_hasSplit_20 : decode xb_Ly_hasSplit 20 = .ok (.aload_n 2, 1) := by decide +kernel
theorem xd_Ly_hasSplit_21 : decode xb_Ly_hasSplit 21 = .ok (.getfield 19, 3) := by decide +kernel
theorem xd_Ly_hasSplit_24 : decode xb_Ly_hasSplit 24 = .ok (.arraylength, 1) := by decide +kernel
theorem xd_Ly_hasSplit_25 : decode xb_Ly_hasSplit 25 = .ok (.if_icmp .ge 29, 3) := by decide +kernel
theorem xd_Ly_hasSplit_28 : decode xb_Ly_hasSplit 28 = .ok (.aload_n 0, 1) := by decide +kernel
theorem xd_Ly_hasSplit_29 : decode xb_Ly_hasSplit 29 = .ok (.getfield 19, 3) := by decide +kernel
theorem xd_Ly_hasSplit_32 : decode xb_Ly_hasSplit 32 = .ok (.iload_n 1, 1) := by decide +kernel
theorem xd_Ly_hasSplit_33 : decode xb_Ly_hasSplit 33 = .ok (.aaload, 1) := by decide +kernel
theorem xd_Ly_hasSplit_34 : decode xb_Ly_hasSplit 34 = .ok (.aload_n 2, 1) := by decide +kernel
theorem xd_Ly_hasSplit_35 : decode xb_Ly_hasSplit 35 = .ok (.getfield 19, 3) := by decide +kernel
theorem xd_Ly_hasSplit_38 : decode xb_Ly_hasSplit 38 = .ok (.iload_n 3, 1) := by decide +kernel
theorem xd_Ly_hasSplit_39 : decode xb_Ly_hasSplit 39 = .ok (.aaload, 1) := by decide +kernel
theorem xd_Ly_hasSplit_40 : decode xb_Ly_hasSplit 40 = .ok (.invokevirtual 70, 3) := by decide +kernel
theorem xd_Ly_hasSplit_43 : decode xb_Ly_hasSplit 43 = .ok (.ifCond .eq 5, 3) := by decide +kernel
theorem xd_Ly_hasSplit_46 : decode xb_Ly_hasSplit 46 = .ok (.iconst 1, 1) := by decide +kernel
theorem xd_Ly_hasSplit_47 : decode xb_Ly_hasSplit 47 = .ok (.ireturn, 1) := by decide +kernel
theorem xd_Ly_hasSplit_48 : decode xb_Ly_hasSplit 48 = .ok (.iinc 3 1, 3) := by decide +kernel
theorem xd_Ly_hasSplit_51 : decode xb_Ly_hasSplit 51 = .ok (.goto (-32), 3) := by decide +kernel
theorem xd_Ly_hasSplit_54 : decode xb_Ly_hasSplit 54 = .ok (.aload_n 2, 1) := by decide +kernel
theorem xd_Ly_hasSplit_55 : decode xb_Ly_hasSplit 55 = .ok (.getfield 13, 3) := by decide +kernel
theorem xd_Ly_hasSplit_58 : decode xb_Ly_hasSplit 58 = .ok (.astore_n 2, 1) := by decide +kernel
theorem xd_Ly_hasSplit_59 : decode xb_Ly_hasSplit 59 = .ok (.goto (-46), 3) := by decide +kernel
theorem xd_Ly_hasSplit_62 : decode xb_Ly_hasSplit 62 = .ok (.iinc 1 1, 3) := by decide +kernel
theorem xd_Ly_hasSplit_65 : decode xb_Ly_hasSplit 65 = .ok (.goto (-63), 3) := by decide +kernel
theorem xd_Ly_hasSplit_68 : decode xb_Ly_hasSplit 68 = .ok (.iconst 0, 1) := by decide +kernel
theorem xd_Ly_hasSplit_69 : decode xb_Ly_hasSplit 69 = .ok (.ireturn, 1) := by decide +kernel
theorem xd_Ly_lookUp_0 : decode xb_Ly_lookUp 0 = .ok (.aload_n 0, 1) := by decide +kernel
theorem xd_Ly_lookUp_1 : decode xb_Ly_lookUp 1 = .ok (.astore_n 2, 1) := by decide +kernel
theorem xd_Ly_lookUp_2 : decode xb_Ly_lookUp 2 = .ok (.aload_n 2, 1) := by decide +kernel
theorem xd_Ly_lookUp_3 : decode xb_Ly_lookUp 3 = .ok (.ifnull 51, 3) := by decide +kernel
theorem xd_Ly_lookUp_6 : decode xb_Ly_lookUp 6 = .ok (.iconst 0, 1) := by decide +kernel
theorem xd_Ly_lookUp_7 : decode xb_Ly_lookUp 7 = .ok (.istore_n 3, 1) := by decide +kernel
theorem xd_Ly_lookUp_8 : decode xb_Ly_lookUp 8 = .ok (.iload_n 3, 1) := by decide +kernel
theorem xd_Ly_lookUp_9 : decode xb_Ly_lookUp 9 = .ok (.aload_n 2, 1) := by decide +kernel
theorem xd_Ly_lookUp_10 : decode xb_Ly_lookUp 10 = .ok (.getfield 19, 3) := by decide +kernel
theorem xd_Ly_lookUp_13 : decode xb_Ly_lookUp 13 = .ok (.arraylength, 1) := by decide +kernel
theorem xd_Ly_lookUp_14 : decode xb_Ly_lookUp 14 = .ok (.if_icmp .ge 32, 3) := by decide +kernel
theorem xd_Ly_lookUp_17 : decode xb_Ly_lookUp 17 = .ok (.aload_n 2, 1) := by decide +kernel
theorem xd_Ly_lookUp_18 : decode xb_Ly_lookUp 18 = .ok (.getfield 19, 3) := by decide +kernel
theorem xd_Ly_lookUp_21 : decode xb_Ly_lookUp 21 = .ok (.iload_n 3, 1) := by decide +kernel
theorem xd_Ly_lookUp_22 : decode xb_Ly_lookUp 22 = .ok (.aaload, 1) := by decide +kernel
theorem xd_Ly_lookUp_23 : decode xb_Ly_lookUp 23 = .ok (.getfield 27, 3) := by decide +kernel
theorem xd_Ly_lookUp_26 : decode xb_Ly_lookUp 26 = .ok (.getfield 31, 3) := by decide +kernel
theorem xd_Ly_lookUp_29 : decode xb_Ly_lookUp 29 = .ok (.iload_n 1, 1) := by decide +kernel
theorem xd_Ly_lookUp_30 : decode xb_Ly_lookUp 30 = .ok (.if_icmp .ne 10, 3) := by decide +kernel
theorem xd_Ly_lookUp_33 : decode xb_Ly_lookUp 33 = .ok (.aload_n 2, 1) := by decide +kernel
theorem xd_Ly_lookUp_34 : decode xb_Ly_lookUp 34 = .ok (.getfield 19, 3) := by decide +kernel
theorem xd_Ly_lookUp_37 : decode xb_Ly_lookUp 37 = .ok (.iload_n 3, 1) := by decide +kernel
theorem xd_Ly_lookUp_38 : decode xb_Ly_lookUp 38 = .ok (.aaload, 1) := by decide +kernel
theorem xd_Ly_lookUp_39 : decode xb_Ly_lookUp 39 = .ok (.areturn, 1) := by decide +kernel
theorem xd_Ly_lookUp_40 : decode xb_Ly_lookUp 40 = .ok (.iinc 3 1, 3) := by decide +kernel
theorem xd_Ly_lookUp_43 : decode xb_Ly_lookUp 43 = .ok (.goto (-35), 3) := by decide +kernel
theorem xd_Ly_lookUp_46 : decode xb_Ly_lookUp 46 = .ok (.aload_n 2, 1) := by decide +kernel
theorem xd_Ly_lookUp_47 : decode xb_Ly_lookUp 47 = .ok (.getfield 13, 3) := by decide +kernel
theorem xd_Ly_lookUp_50 : decode xb_Ly_lookUp 50 = .ok (.astore_n 2, 1) := by decide +kernel
theorem xd_Ly_lookUp_51 : decode xb_Ly_lookUp 51 = .ok (.goto (-49), 3) := by decide +kernel
theorem xd_Ly_lookUp_54 : decode xb_Ly_lookUp 54 = .ok (.aconst_null, 1) := by decide +kernel
theorem xd_Ly_lookUp_55 : decode xb_Ly_lookUp 55 = .ok (.areturn, 1) := by decide +kernel
theorem xd_Ly_providerOf_0 : decode xb_Ly_providerOf 0 = .ok (.iconst 0, 1) := by decide +kernel
theorem xd_Ly_providerOf_1 : decode xb_Ly_providerOf 1 = .ok (.istore_n 3, 1) := by decide +kernel
theorem xd_Ly_providerOf_2 : decode xb_Ly_providerOf 2 = .ok (.aload_n 0, 1) := by decide +kernel
theorem xd_Ly_providerOf_3 : decode xb_Ly_providerOf 3 = .ok (.astore 4, 2) := by decide +kernel
theorem xd_Ly_providerOf_5 : decode xb_Ly_providerOf 5 = .ok (.aload 4, 2) := by decide +kernel
theorem xd_Ly_providerOf_7 : decode xb_Ly_providerOf 7 = .ok (.ifnull 71, 3) := by decide +kernel
theorem xd_Ly_providerOf_10 : decode xb_Ly_providerOf 10 = .ok (.iconst 0, 1) := by decide +kernel
theorem xd_Ly_providerOf_11 : decode xb_Ly_providerOf 11 = .ok (.istore 5, 2) := by decide +kernel
theorem xd_Ly_providerOf_13 : decode xb_Ly_providerOf 13 = .ok (.iload 5, 2) := by decide +kernel
theorem xd_Ly_providerOf_15 : decode xb_Ly_providerOf 15 = .ok (.aload 4, 2) := by decide +kernel
theorem xd_Ly_providerOf_17 : decode xb_Ly_providerOf 17 = .ok (.getfield 19, 3) := by decide +kernel
theorem xd_Ly_providerOf_20 : decode xb_Ly_providerOf 20 = .ok (.arraylength, 1) := by decide +kernel
theorem xd_Ly_providerOf_21 : decode xb_Ly_providerOf 21 = .ok (.if_icmp .ge 47, 3) := by decide +kernel
theorem xd_Ly_providerOf_24 : decode xb_Ly_providerOf 24 = .ok (.aload 4, 2) := by decide +kernel
theorem xd_Ly_providerOf_26 : decode xb_Ly_providerOf 26 = .ok (.getfield 19, 3) := by decide +kernel
theorem xd_Ly_providerOf_29 : decode xb_Ly_providerOf 29 = .ok (.iload 5, 2) := by decide +kernel
theorem xd_Ly_providerOf_31 : decode xb_Ly_providerOf 31 = .ok (.aaload, 1) := by decide +kernel
theorem xd_Ly_providerOf_32 : decode xb_Ly_providerOf 32 = .ok (.getfield 27, 3) := by decide +kernel
theorem xd_Ly_providerOf_35 : decode xb_Ly_providerOf 35 = .ok (.getfield 37, 3) := by decide +kernel
theorem xd_Ly_providerOf_38 : decode xb_Ly_providerOf 38 = .ok (.iload_n 1, 1) := by decide +kernel
theorem xd_Ly_providerOf_39 : decode xb_Ly_providerOf 39 = .ok (.invokevirtual 41, 3) := by decide +kernel
theorem xd_Ly_providerOf_42 : decode xb_Ly_providerOf 42 = .ok (.ifCond .eq 20, 3) := by decide +kernel
theorem xd_Ly_providerOf_45 : decode xb_Ly_providerOf 45 = .ok (.iload_n 3, 1) := by decide +kernel
theorem xd_Ly_providerOf_46 : decode xb_Ly_providerOf 46 = .ok (.iload_n 2, 1) := by decide +kernel
theorem xd_Ly_providerOf_47 : decode xb_Ly_providerOf 47 = .ok (.if_icmp .ne 12, 3) := by decide +kernel
theorem xd_Ly_providerOf_50 : decode xb_Ly_providerOf 50 = .ok (.aload 4, 2) := by decide +kernel
theorem xd_Ly_providerOf_52 : decode xb_Ly_providerOf 52 = .ok (.getfield 19, 3) := by decide +kernel
theorem xd_Ly_providerOf_55 : decode xb_Ly_providerOf 55 = .ok (.iload 5, 2) := by decide +kernel
theorem xd_Ly_providerOf_57 : decode xb_Ly_providerOf 57 = .ok (.aaload, 1) := by decide +kernel
theorem xd_Ly_providerOf_58 : decode xb_Ly_providerOf 58 = .ok (.areturn, 1) := by decide +kernel
theorem xd_Ly_providerOf_59 : decode xb_Ly_providerOf 59 = .ok (.iinc 3 1, 3) := by decide +kernel
theorem xd_Ly_providerOf_62 : decode xb_Ly_providerOf 62 = .ok (.iinc 5 1, 3) := by decide +kernel
theorem xd_Ly_providerOf_65 : decode xb_Ly_providerOf 65 = .ok (.goto (-52), 3) := by decide +kernel
theorem xd_Ly_providerOf_68 : decode xb_Ly_providerOf 68 = .ok (.aload 4, 2) := by decide +kernel
theorem xd_Ly_providerOf_70 : decode xb_Ly_providerOf 70 = .ok (.getfield 13, 3) := by decide +kernel
theorem xd_Ly_providerOf_73 : decode xb_Ly_providerOf 73 = .ok (.astore 4, 2) := by decide +kernel
theorem xd_Ly_providerOf_75 : decode xb_Ly_providerOf 75 = .ok (.goto (-70), 3) := by decide +kernel
theorem xd_Ly_providerOf_78 : decode xb_Ly_providerOf 78 = .ok (.aconst_null, 1) := by decide +kernel
theorem xd_Ly_providerOf_79 : decode xb_Ly_providerOf 79 = .ok (.areturn, 1) := by decide +kernel
theorem xd_Ly_withDescriptor_0 : decode xb_Ly_withDescriptor 0 = .ok (.iconst 0, 1) := by decide +kernel
theorem xd_Ly_withDescriptor_1 : decode xb_Ly_withDescriptor 1 = .ok (.istore_n 2, 1) := by decide +kernel
theorem xd_Ly_withDescriptor_2 : decode xb_Ly_withDescriptor 2 = .ok (.iload_n 2, 1) := by decide +kernel
theorem xd_Ly_withDescriptor_3 : decode xb_Ly_withDescriptor 3 = .ok (.aload_n 0, 1) := by decide +kernel
theorem xd_Ly_withDescriptor_4 : decode xb_Ly_withDescriptor 4 = .ok (.getfield 19, 3) := by decide +kernel
theorem xd_Ly_withDescriptor_7 : decode xb_Ly_withDescriptor 7 = .ok (.arraylength, 1) := by decide +kernel
theorem xd_Ly_withDescriptor_8 : decode xb_Ly_withDescriptor 8 = .ok (.if_icmp .ge 32, 3) := by decide +kernel
theorem xd_Ly_withDescriptor_11 : decode xb_Ly_withDescriptor 11 = .ok (.aload_n 0, 1) := by decide +kernel
theorem xd_Ly_withDescriptor_12 : decode xb_Ly_withDescriptor 12 = .ok (.getfield 19, 3) := by decide +kernel
theorem xd_Ly_withDescriptor_15 : decode xb_Ly_withDescriptor 15 = .ok (.iload_n 2, 1) := by decide +kernel
theorem xd_Ly_withDescriptor_16 : decode xb_Ly_withDescriptor 16 = .ok (.aaload, 1) := by decide +kernel
theorem xd_Ly_withDescriptor_17 : decode xb_Ly_withDescriptor 17 = .ok (.getfield 27, 3) := by decide +kernel
theorem xd_Ly_withDescriptor_20 : decode xb_Ly_withDescriptor 20 = .ok (.getfield 36, 3) := by decide +kernel
theorem xd_Ly_withDescriptor_23 : decode xb_Ly_withDescriptor 23 = .ok (.iload_n 1, 1) := by decide +kernel
theorem xd_Ly_withDescriptor_24 : decode xb_Ly_withDescriptor 24 = .ok (.if_icmp .ne 10, 3) := by decide +kernel
theorem xd_Ly_withDescriptor_27 : decode xb_Ly_withDescriptor 27 = .ok (.aload_n 0, 1) := by decide +kernel
theorem xd_Ly_withDescriptor_28 : decode xb_Ly_withDescriptor 28 = .ok (.getfield 19, 3) := by decide +kernel
theorem xd_Ly_withDescriptor_31 : decode xb_Ly_withDescriptor 31 = .ok (.iload_n 2, 1) := by decide +kernel
theorem xd_Ly_withDescriptor_32 : decode xb_Ly_withDescriptor 32 = .ok (.aaload, 1) := by decide +kernel
theorem xd_Ly_withDescriptor_33 : decode xb_Ly_withDescriptor 33 = .ok (.areturn, 1) := by decide +kernel
theorem xd_Ly_withDescriptor_34 : decode xb_Ly_withDescriptor 34 = .ok (.iinc 2 1, 3) := by decide +kernel
theorem xd_Ly_withDescriptor_37 : decode xb_Ly_withDescriptor 37 = .ok (.goto (-35), 3) := by decide +kernel
theorem xd_Ly_withDescriptor_40 : decode xb_Ly_withDescriptor 40 = .ok (.aconst_null, 1) := by decide +kernel
theorem xd_Ly_withDescriptor_41 : decode xb_Ly_withDescriptor 41 = .ok (.areturn, 1) := by decide +kernel
theorem xd_Me_code_0 : decode xb_Me_code 0 = .ok (.bipush 16, 2) := by decide +kernel
theorem xd_Me_code_2 : decode xb_Me_code 2 = .ok (.aload_n 0, 1) := by decide +kernel
theorem xd_Me_code_3 : decode xb_Me_code 3 = .ok (.getfield 24, 3) := by decide +kernel
theorem xd_Me_code_6 : decode xb_Me_code 6 = .ok (.getfield 102, 3) := by decide +kernel
theorem xd_Me_code_9 : decode xb_Me_code 9 = .ok (.imul, 1) := by decide +kernel
theorem xd_Me_code_10 : decode xb_Me_code 10 = .ok (.aload_n 0, 1) := by decide +kernel
theorem xd_Me_code_11 : decode xb_Me_code 11 = .ok (.getfield 28, 3) := by decide +kernel
theorem xd_Me_code_14 : decode xb_Me_code 14 = .ok (.getfield 105, 3) := by decide +kernel
theorem xd_Me_code_17 : decode xb_Me_code 17 = .ok (.iadd, 1) := by decide +kernel
theorem xd_Me_code_18 : decode xb_Me_code 18 = .ok (.ireturn, 1) := by decide +kernel
theorem xd_Me_isSplitBy_0 : decode xb_Me_isSplitBy 0 = .ok (.aload_n 0, 1) := by decide +kernel
theorem xd_Me_isSplitBy_1 : decode xb_Me_isSplitBy 1 = .ok (.getfield 21, 3) := by decide +kernel
theorem xd_Me_isSplitBy_4 : decode xb_Me_isSplitBy 4 = .ok (.aload_n 1, 1) := by decide +kernel
theorem xd_Me_isSplitBy_5 : decode xb_Me_isSplitBy 5 = .ok (.invokevirtual 78, 3) := by decide +kernel
theorem xd_Me_isSplitBy_8 : decode xb_Me_isSplitBy 8 = .ok (.ifCond .ne 5, 3) := by decide +kernel
theorem xd_Me_isSplitBy_11 : decode xb_Me_isSplitBy 11 = .ok (.iconst 0, 1) := by decide +kernel
theorem xd_Me_isSplitBy_12 : decode xb_Me_isSplitBy 12 = .ok (.ireturn, 1) := by decide +kernel
theorem xd_Me_isSplitBy_13 : decode xb_Me_isSplitBy 13 = .ok (.aload_n 1, 1) := by decide +kernel
theorem xd_Me_isSplitBy_14 : decode xb_Me_isSplitBy 14 = .ok (.getfield 28, 3) := by decide +kernel
theorem xd_Me_isSplitBy_17 : decode xb_Me_isSplitBy 17 = .ok (.getfield 92, 3) := by decide +kernel
theorem xd_Me_isSplitBy_20 : decode xb_Me_isSplitBy 20 = .ok (.astore_n 2, 1) := by decide +kernel
theorem xd_Me_isSplitBy_21 : decode xb_Me_isSplitBy 21 = .ok (.iconst 0, 1) := by decide +kernel
theorem xd_Me_isSplitBy_22 : decode xb_Me_isSplitBy 22 = .ok (.istore_n 3, 1) := by decide +kernel
theorem xd_Me_isSplitBy_23 : decode xb_Me_isSplitBy 23 = .ok (.iload_n 3, 1) := by decide +kernel
theorem xd_Me_isSplitBy_24 : decode xb_Me_isSplitBy 24 = .ok (.aload_n 2, 1) := by decide +kernel
theorem xd_Me_isSplitBy_25 : decode xb_Me_isSplitBy 25 = .ok (.getfield 38, 3) := by decide +kernel
theorem xd_Me_isSplitBy_28 : decode xb_Me_isSplitBy 28 = .ok (.if_icmp .ge 62, 3) := by decide +kernel
theorem xd_Me_isSplitBy_31 : decode xb_Me_isSplitBy 31 = .ok (.aload_n 2, 1) := by decide +kernel
theorem xd_Me_isSplitBy_32 : decode xb_Me_isSplitBy 32 = .ok (.iload_n 3, 1) := by decide +kernel
theorem xd_Me_isSplitBy_33 : decode xb_Me_isSplitBy 33 = .ok (.invokevirtual 47, 3) := by decide +kernel
theorem xd_Me_isSplitBy_36 : decode xb_Me_isSplitBy 36 = .ok (.istore 4, 2) := by decide +kernel
theorem xd_Me_isSplitBy_38 : decode xb_Me_isSplitBy 38 = .ok (.aload_n 1, 1) := by decide +kernel
theorem xd_Me_isSplitBy_39 : decode xb_Me_isSplitBy 39 = .ok (.getfield 28, 3) := by decide +kernel
theorem xd_Me_isSplitBy_42 : decode xb_Me_isSplitBy 42 = .ok (.iload 4, 2) := by decide +kernel
theorem xd_Me_isSplitBy_44 : decode xb_Me_isSplitBy 44 = .ok (.aload_n 0, 1) := by decide +kernel
theorem xd_Me_isSplitBy_45 : decode xb_Me_isSplitBy 45 = .ok (.getfield 28, 3) := by decide +kernel
theorem xd_Me_isSplitBy_48 : decode xb_Me_isSplitBy 48 = .ok (.getfield 82, 3) := by decide +kernel
theorem xd_Me_isSplitBy_51 : decode xb_Me_isSplitBy 51 = .ok (.invokevirtual 85, 3) := by decide +kernel
theorem xd_Me_isSplitBy_54 : decode xb_Me_isSplitBy 54 = .ok (.ifCond .eq 30, 3) := by decide +kernel
theorem xd_Me_isSplitBy_57 : decode xb_Me_isSplitBy 57 = .ok (.aload_n 0, 1) := by decide +kernel
theorem xd_Me_isSplitBy_58 : decode xb_Me_isSplitBy 58 = .ok (.getfield 28, 3) := by decide +kernel
theorem xd_Me_isSplitBy_61 : decode xb_Me_isSplitBy 61 = .ok (.getfield 92, 3) := by decide +kernel
theorem xd_Me_isSplitBy_64 : decode xb_Me_isSplitBy 64 = .ok (.iload 4, 2) := by decide +kernel
theorem xd_Me_isSplitBy_66 : decode xb_Me_isSplitBy 66 = .ok (.invokevirtual 95, 3) := by decide +kernel
theorem xd_Me_isSplitBy_69 : decode xb_Me_isSplitBy 69 = .ok (.ifCond .ne 13, 3) := by decide +kernel
theorem xd_Me_isSplitBy_72 : decode xb_Me_isSplitBy 72 = .ok (.aload_n 0, 1) := by decide +kernel
theorem xd_Me_isSplitBy_73 : decode xb_Me_isSplitBy 73 = .ok (.iload 4, 2) := by decide +kernel
theorem xd_Me_isSplitBy_75 : decode xb_Me_isSplitBy 75 = .ok (.invokevirtual 99, 3) := by decide +kernel
theorem xd_Me_isSplitBy_78 : decode xb_Me_isSplitBy 78 = .ok (.aload_n 1, 1) := by decide +kernel
theorem xd_Me_isSplitBy_79 : decode xb_Me_isSplitBy 79 = .ok (.if_acmp .eq 5, 3) := by decide +kernel
theorem xd_Me_isSplitBy_82 : decode xb_Me_isSplitBy 82 = .ok (.iconst 1, 1) := by decide +kernel
theorem xd_Me_isSplitBy_83 : decode xb_Me_isSplitBy 83 = .ok (.ireturn, 1) := by decide +kernel
theorem xd_Me_isSplitBy_84 : decode xb_Me_isSplitBy 84 = .ok (.iinc 3 1, 3) := by decide +kernel
theorem xd_Me_isSplitBy_87 : decode xb_Me_isSplitBy 87 = .ok (.goto (-64), 3) := by decide +kernel
theorem xd_Me_isSplitBy_90 : decode xb_Me_isSplitBy 90 = .ok (.iconst 0, 1) := by decide +kernel
theorem xd_Me_isSplitBy_91 : decode xb_Me_isSplitBy 91 = .ok (.ireturn, 1) := by decide +kernel
theorem xd_Me_sourceOf_0 : decode xb_Me_sourceOf 0 = .ok (.aload_n 0, 1) := by decide +kernel
theorem xd_Me_sourceOf_1 : decode xb_Me_sourceOf 1 = .ok (.getfield 24, 3) := by decide +kernel
theorem xd_Me_sourceOf_4 : decode xb_Me_sourceOf 4 = .ok (.astore_n 2, 1) := by decide +kernel
theorem xd_Me_sourceOf_5 : decode xb_Me_sourceOf 5 = .ok (.aload_n 2, 1) := by decide +kernel
theorem xd_Me_sourceOf_6 : decode xb_Me_sourceOf 6 = .ok (.ifnull 70, 3) := by decide +kernel
theorem xd_Me_sourceOf_9 : decode xb_Me_sourceOf 9 = .ok (.iconst 0, 1) := by decide +kernel
theorem xd_Me_sourceOf_10 : decode xb_Me_sourceOf 10 = .ok (.istore_n 3, 1) := by decide +kernel
theorem xd_Me_sourceOf_11 : decode xb_Me_sourceOf 11 = .ok (.iload_n 3, 1) := by decide +kernel
theorem xd_Me_sourceOf_12 : decode xb_Me_sourceOf 12 = .ok (.aload_n 2, 1) := by decide +kernel
theorem xd_Me_sourceOf_13 : decode xb_Me_sourceOf 13 = .ok (.getfield 75, 3) := by decide +kernel
theorem xd_Me_sourceOf_16 : decode xb_Me_sourceOf 16 = .ok (.arraylength, 1) := by decide +kernel
theorem xd_Me_sourceOf_17 : decode xb_Me_sourceOf 17 = .ok (.if_icmp .ge 51, 3) := by decide +kernel
theorem xd_Me_sourceOf_20 : decode xb_Me_sourceOf 20 = .ok (.aload_n 2, 1) := by decide +kernel
theorem xd_Me_sourceOf_21 : decode xb_Me_sourceOf 21 = .ok (.getfield 75, 3) := by decide +kernel
theorem xd_Me_sourceOf_24 : decode xb_Me_sourceOf 24 = .ok (.iload_n 3, 1) := by decide +kernel
theorem xd_Me_sourceOf_25 : decode xb_Me_sourceOf 25 = .ok (.aaload, 1) := by decide +kernel
theorem xd_Me_sourceOf_26 : decode xb_Me_sourceOf 26 = .ok (.astore 4, 2) := by decide +kernel
theorem xd_Me_sourceOf_28 : decode xb_Me_sourceOf 28 = .ok (.aload_n 0, 1) := by decide +kernel
theorem xd_Me_sourceOf_29 : decode xb_Me_sourceOf 29 = .ok (.getfield 21, 3) := by decide +kernel
theorem xd_Me_sourceOf_32 : decode xb_Me_sourceOf 32 = .ok (.aload 4, 2) := by decide +kernel
theorem xd_Me_sourceOf_34 : decode xb_Me_sourceOf 34 = .ok (.invokevirtual 78, 3) := by decide +kernel
theorem xd_Me_sourceOf_37 : decode xb_Me_sourceOf 37 = .ok (.ifCond .eq 25, 3) := by decide +kernel
theorem xd_Me_sourceOf_40 : decode xb_Me_sourceOf 40 = .ok (.aload 4, 2) := by decide +kernel
theorem xd_Me_sourceOf_42 : decode xb_Me_sourceOf 42 = .ok (.getfield 28, 3) := by decide +kernel
theorem xd_Me_sourceOf_45 : decode xb_Me_sourceOf 45 = .ok (.iload_n 1, 1) := by decide +kernel
theorem xd_Me_sourceOf_46 : decode xb_Me_sourceOf 46 = .ok (.aload_n 0, 1) := by decide +kernel
theorem xd_Me_sourceOf_47 : decode xb_Me_sourceOf 47 = .ok (.getfield 28, 3) := by decide +kernel
theorem xd_Me_sourceOf_50 : decode xb_Me_sourceOf 50 = .ok (.getfield 82, 3) := by decide +kernel
theorem xd_Me_sourceOf_53 : decode xb_Me_sourceOf 53 = .ok (.invokevirtual 85, 3) := by decide +kernel
theorem xd_Me_sourceOf_56 : decode xb_Me_sourceOf 56 = .ok (.ifCond .eq 6, 3) := by decide +kernel
theorem xd_Me_sourceOf_59 : decode xb_Me_sourceOf 59 = .ok (.aload 4, 2) := by decide +kernel
theorem xd_Me_sourceOf_61 : decode xb_Me_sourceOf 61 = .ok (.areturn, 1) := by decide +kernel
theorem xd_Me_sourceOf_62 : decode xb_Me_sourceOf 62 = .ok (.iinc 3 1, 3) := by decide +kernel
theorem xd_Me_sourceOf_65 : decode xb_Me_sourceOf 65 = .ok (.goto (-54), 3) := by decide +kernel
theorem xd_Me_sourceOf_68 : decode xb_Me_sourceOf 68 = .ok (.aload_n 2, 1) := by decide +kernel
theorem xd_Me_sourceOf_69 : decode xb_Me_sourceOf 69 = .ok (.getfield 89, 3) := by decide +kernel
theorem xd_Me_sourceOf_72 : decode xb_Me_sourceOf 72 = .ok (.astore_n 2, 1) := by decide +kernel
theorem xd_Me_sourceOf_73 : decode xb_Me_sourceOf 73 = .ok (.goto (-68), 3) := by decide +kernel
theorem xd_Me_sourceOf_76 : decode xb_Me_sourceOf 76 = .ok (.aconst_null, 1) := by decide +kernel
theorem xd_Me_sourceOf_77 : decode xb_Me_sourceOf 77 = .ok (.areturn, 1) := by decide +kernel
theorem yn_0 : (Cond.fieldLink "LayerDesk$Layer" 19 "LayerDesk$Layer" "members" "[LLayerDesk$Member;") ∈ wT := wT_t (List.mem_append_right _ (List.mem_append_right _ (List.mem_append_left _ (List.mem_of_getElem? (i := 147) rfl)))) rfl
theorem yn_1 : (Cond.fieldLink "LayerDesk$Layer" 13 "LayerDesk$Layer" "parent" "LLayerDesk$Layer;") ∈ wT := wT_t (List.mem_append_right _ (List.mem_append_right _ (List.mem_append_left _ (List.mem_of_getElem? (i := 143) rfl)))) rfl
theorem yn_2 : (Cond.fieldLink "LayerDesk$Layer" 27 "LayerDesk$Member" "descriptor" "LLayerDesk$Descriptor;") ∈ wT := wT_t (List.mem_append_right _ (List.mem_append_right _ (List.mem_append_left _ (List.mem_of_getElem? (i := 183) rfl)))) rfl
theorem yn_4 : (Cond.fieldLink "LayerDesk$Layer" 36 "LayerDesk$Descriptor" "number" "I") ∈ wT := wT_t (List.mem_append_right _ (List.mem_append_left _ (List.mem_of_getElem? (i := 48) rfl))) rfl
theorem yn_5 : (Cond.fieldLink "LayerDesk$Layer" 37 "LayerDesk$Descriptor" "provided" "LLayerDesk$Names;") ∈ wT := wT_t (List.mem_append_right _ (List.mem_append_left _ (List.mem_of_getElem? (i := 79) rfl))) rfl
theorem yn_6 : (Cond.code xy_Na_holds xb_Na_holds 2 (some .boolean)) ∈ wT := wT_t (List.mem_append_right _ (List.mem_append_left _ (List.mem_of_getElem? (i := 123) rfl))) rfl
theorem yn_7 : (Cond.methodLink "LayerDesk$Layer" 41 xy_Na_holds) ∈ wT := wT_t (List.mem_append_right _ (List.mem_append_right _ (List.mem_append_right _ (List.mem_append_left _ (List.mem_of_getElem? (i := 77) rfl))))) rfl
theorem yn_8 : (Cond.instanceMethod xy_Na_holds) ∈ wT := wT_t (List.mem_append_right _ (List.mem_append_left _ (List.mem_of_getElem? (i := 121) rfl))) rfl
theorem yn_9 : (Cond.selects "LayerDesk$Names" xy_Na_holds xy_Na_holds) ∈ wT := wT_t (List.mem_append_right _ (List.mem_append_left _ (List.mem_of_getElem? (i := 122) rfl))) rfl
theorem yn_10 : (Cond.initialized "LayerDesk$Names") ∈ wT := wT_t (List.mem_append_left _ (List.mem_of_getElem? (i := 11) rfl)) rfl
theorem yn_11 : (Cond.fieldLink "LayerDesk$Member" 24 "LayerDesk$Member" "home" "LLayerDesk$Layer;") ∈ wT := wT_t (List.mem_append_right _ (List.mem_append_right _ (List.mem_append_left _ (List.mem_of_getElem? (i := 179) rfl)))) rfl
theorem yn_12 : (Cond.fieldLink "LayerDesk$Member" 102 "LayerDesk$Layer" "number" "I") ∈ wT := wT_t (List.mem_append_right _ (List.mem_append_right _ (List.mem_append_left _ (List.mem_of_getElem? (i := 142) rfl)))) rfl
theorem yn_13 : (Cond.fieldLink "LayerDesk$Member" 28 "LayerDesk$Member" "descriptor" "LLayerDesk$Descriptor;") ∈ wT := wT_t (List.mem_append_right _ (List.mem_append_right _ (List.mem_append_left _ (List.mem_of_getElem? (i := 181) rfl)))) rfl
theorem yn_14 : (Cond.fieldLink "LayerDesk$Member" 105 "LayerDesk$Descriptor" "number" "I") ∈ wT := wT_t (List.mem_append_right _ (List.mem_append_left _ (List.mem_of_getElem? (i := 49) rfl))) rfl
set_option maxHeartbeats 4000000 in
set_option maxRecDepth 100000 in
theorem xc_Ly_withDescriptor (l : Launch) (D : va_G) (kA : Nat → ClassId) (sz : Nat) (ad : Nat → Nat → Nat) (E : Nat → Nat → va_E) (RL : List (Nat × Nat)) (nd : Nat) (nL : Nat) (n : Nat) (dx : Int32) (hDIs : DIs kA ad E RL nd) (hLIs : LIs kA ad E RL nd nL) (hnL : nL ≤ 6) (hn : n < nL) : Met l xy_Ly_withDescriptor (.code xy_Ly_withDescriptor xb_Ly_withDescriptor 3 (some (.object "LayerDesk$Member")) :: wT) { frames := 0, cells := 0, slots := 0, locals := 0 } (va_Pc [.ref (ad (20 + n) 0), .int dx] (xPre D kA sz (rp ad E RL))) (va_Qq (fun (r : Option Nat) (u : Unit) => r = none ∨ ∃ x k, x = n ∧ r = some (ad (20 + x) (10 + 10 * k)) ∧ MEI kA ad E RL nd x k) (fun (u : Unit) t => va_P D xcl (rp ad E RL) t.heap ∧ va_D (va_A (rp ad E RL) sz) (rp ad E RL)) (va_A (rp ad E RL) sz)) 0 0 (va_A (rp ad E RL) sz) := by
  refine Met.ofW (cc := xb_Ly_withDescriptor) (maxL := 3) (ret := (some (.object "LayerDesk$Member"))) (by decide) rfl ?_
  intro p e s m args below meth c s₁ B hml hv
  obtain ⟨rfl, hsz, hP, hK, hD0⟩ := hv
  have hx := B.exec
  have hb := B.bytes
  have hr := B.returns
  have hT := x_hT B.pre
  have hown : s.vm.findClass xR_Ly = some m.cls := findClass_of_methodNamed B.named
  have hlocks := B.notSynchronized
  subst hsz
  have hD := hD0.self (sz := s.heap.size)
  generalize hAe : va_A (rp ad E RL) s.heap.size = A at hD ⊢
  have hA : ∀ q : Nat, s.heap.size ≤ q → A q := fun q h => by rw [← hAe]; exact Or.inr h
  have hS : va_S A s.heap s.heap [] := va_S.rf
  have hl := lv_entry ([.ref (ad (20 + n) 0), .int dx]) (n := 3) (Nat.le_of_ble_eq_true rfl)
  rw [lg_entry_eq]
  generalize (lg_sl ([.ref (ad (20 + n) 0), .int dx]) ++ List.replicate (3 - (lg_sl ([.ref (ad (20 + n) 0), .int dx])).length) Slot.unset).toArray = ls at hl ⊢
  have hl : lv_has ls 3 [(0, .ref (ad (20 + n) 0)), (1, .int dx)] := hl
  have hP : va_P D xcl (rp ad E RL) s.heap := hP
  refine lv_iconst (v := 0) hx hb xd_Ly_withDescriptor_0 (by decide) ?_
  refine lv_istore_n hx hb xd_Ly_withDescriptor_1 rfl hl (Nat.le_of_ble_eq_true rfl) rfl (fun ls hl => ?_)
  have hl : lv_has ls 3 [(2, .int 0), (0, .ref (ad (20 + n) 0)), (1, .int dx)] := hl
  obtain ⟨m0_1, m1_1, pv_1, op_1, mk_1, fm_1, hmk_1, hpv_1, q0_1, q1_1, hk_1⟩ := id (hLIs n (by omega))
  have c_2 : E (20 + n) 0 = .inr (5, [.int (nI n), pv_1, .ref (ad (20 + n) 1), .int op_1]) := q0_1
  have m_3 : (20 + n, 0) ∈ RL := m0_1
  have c_4 : E (20 + n) 1 = .inl (kA 6, mk_1, .inr (.inr (.inr (.inr fm_1)))) := q1_1
  have m_5 : (20 + n, 1) ∈ RL := m1_1
  refine xlab (σ := Nat) (ml := 3) 2 (fun (k : Nat) => [(2, .int (nI k)), (0, .ref (ad (20 + n) 0)), (1, .int dx)]) (fun (k : Nat) => []) (fun (k : Nat) => rp ad E RL) (fun (k : Nat) => (k ≤ mk_1)) (fun (k : Nat) => mk_1 - k) ?_ 0 _ _ _ (lv_sub hl [0, 1, 2] rfl) hP hD hS (show 0 ≤ mk_1 from by first | assumption | omega)
  intro n9 ih6 a9 ls H locs hμ hl hP hD hS hI
  subst hμ
  obtain ⟨k, rfl⟩ : ∃ z, z = a9 := ⟨_, rfl⟩
  have hk : k ≤ mk_1 := hI
  have hl : lv_has ls 3 [(2, .int (nI k)), (0, .ref (ad (20 + n) 0)), (1, .int dx)] := hl
  have hP : va_P D xcl (rp ad E RL) H := hP
  have hD : va_D A (rp ad E RL) := hD
  refine lv_iload_n hx hb xd_Ly_withDescriptor_2 rfl (lv_at hl 0 rfl) ?_
  refine lv_aload_n hx hb xd_Ly_withDescriptor_3 rfl (lv_at hl 1 rfl) ?_
  refine px_get (D := D) (ci := 5) (v := .ref (ad (20 + n) 1)) (C := xR_Ly) (T := xT_Ly) (N := 4) hx hb hT xi_Ly hown hK.1 hP m_3 c_2 rfl 2 (by decide) (hT _ yn_0) (fun _ h9 => h9) rfl xd_Ly_withDescriptor_4 ?_
  refine px_alen hx hb hK.1 hP m_5 c_4 6 rfl xd_Ly_withDescriptor_7 ?_
  refine W.eq (g2 := F0 m 8 ls [.int (nI mk_1), .int (nI k)]) rfl ?_
  refine xn_ge (a := k) (b := mk_1) (tgt := 40) hx hb xd_Ly_withDescriptor_8 (by decide) (by omega) (by omega) (fun hc7 => ?_) (fun hc7 => ?_)
  · refine lv_null hx hb xd_Ly_withDescriptor_40 ?_
    exact W.aret (v := .null) hx hb hr (Or.inl ⟨_, rfl⟩) (Or.inl rfl) (fun t ht hW => ⟨⟨none, (), rfl, Or.inl rfl, by rw [ht]; exact hP, hD⟩, hS.F ht⟩) hS.2.2 xd_Ly_withDescriptor_41
  · refine lv_aload_n hx hb xd_Ly_withDescriptor_11 rfl (lv_at hl 1 rfl) ?_
    refine px_get (D := D) (ci := 5) (v := .ref (ad (20 + n) 1)) (C := xR_Ly) (T := xT_Ly) (N := 4) hx hb hT xi_Ly hown hK.1 hP m_3 c_2 rfl 2 (by decide) (hT _ yn_0) (fun _ h9 => h9) rfl xd_Ly_withDescriptor_12 ?_
    refine lv_iload_n hx hb xd_Ly_withDescriptor_15 rfl (lv_at hl 0 rfl) ?_
    refine px_aald (i := k) (x := (some (ad (20 + n) (10 + 10 * k)))) hx hb hK.1 hP m_5 c_4 6 rfl ((hk_1 k (by omega)).1) (by omega) (by omega) xd_Ly_withDescriptor_16 ?_
    obtain ⟨hm_8, d_8, rs_8, fr_8, g2_8, g3_8, g4_8, hd_8, hrs_8, q0_8, q1_8, q2_8, q3_8, q4_8, q5_8, q6_8, q7_8⟩ := (hk_1 k (by omega)).2
    have c_9 : E (20 + n) (10 + 10 * k) = .inr (6, [.ref (ad (20 + n) 0), .ref (ad (1 + d_8) 0), .ref (ad (20 + n) (11 + 10 * k)), .ref (ad (20 + n) (12 + 10 * k)), .ref (ad (20 + n) (13 + 10 * k)), .ref (ad (20 + n) (14 + 10 * k))]) := q0_8
    have m_10 : (20 + n, 10 + 10 * k) ∈ RL := hm_8 0 (by decide)
    have c_11 : E (20 + n) (11 + 10 * k) = .inl (kA 6, rs_8, .inr (.inr (.inr (.inr fr_8)))) := q1_8
    have m_12 : (20 + n, 11 + 10 * k) ∈ RL := hm_8 1 (by decide)
    have c_13 : E (20 + n) (12 + 10 * k) = .inr (10, [.ref (ad (20 + n) (15 + 10 * k))]) := q2_8
    have m_14 : (20 + n, 12 + 10 * k) ∈ RL := hm_8 2 (by decide)
    have c_15 : E (20 + n) (13 + 10 * k) = .inr (10, [.ref (ad (20 + n) (16 + 10 * k))]) := q3_8
    have m_16 : (20 + n, 13 + 10 * k) ∈ RL := hm_8 3 (by decide)
    have c_17 : E (20 + n) (14 + 10 * k) = .inr (10, [.ref (ad (20 + n) (17 + 10 * k))]) := q4_8
    have m_18 : (20 + n, 14 + 10 * k) ∈ RL := hm_8 4 (by decide)
    have c_19 : E (20 + n) (15 + 10 * k) = .inl (kA 0, 6, .inl g2_8) := q5_8
    have m_20 : (20 + n, 15 + 10 * k) ∈ RL := hm_8 5 (by decide)
    have c_21 : E (20 + n) (16 + 10 * k) = .inl (kA 0, 6, .inl g3_8) := q6_8
    have m_22 : (20 + n, 16 + 10 * k) ∈ RL := hm_8 6 (by decide)
    have c_23 : E (20 + n) (17 + 10 * k) = .inl (kA 0, 6, .inl g4_8) := q7_8
    have m_24 : (20 + n, 17 + 10 * k) ∈ RL := hm_8 7 (by decide)
    refine px_get (D := D) (ci := 6) (v := .ref (ad (1 + d_8) 0)) (C := xR_Me) (T := xT_Me) (N := 6) hx hb hT xi_Me hown hK.1 hP m_10 c_9 rfl 1 (by decide) (hT _ yn_2) (fun _ h9 => h9) rfl xd_Ly_withDescriptor_17 ?_
    obtain ⟨hm_25, fd_25, nm_25, sd_25, k0_25, k1_25, k2_25, k3_25, f0_25, f1_25, f2_25, f3_25, fe_25, fo_25, tr_25, op_25, hk0_25, hk1_25, hk2_25, hk3_25, q0_25, q1_25, q2_25, q3_25, q4_25, q5_25, q6_25, q7_25, q8_25, q9_25, q10_25, q11_25, q12_25, hg_25⟩ := id (hDIs d_8 (by omega))
    have c_26 : E (1 + d_8) 0 = .inr (7, [.int (nI d_8), .int fd_25, .int nm_25, .ref (ad (1 + d_8) 1), .ref (ad (1 + d_8) 9), .ref (ad (1 + d_8) 10), .ref (ad (1 + d_8) 2), .ref (ad (1 + d_8) 11), .ref (ad (1 + d_8) 12), .ref (ad (1 + d_8) 3), .ref (ad (1 + d_8) 4), .int sd_25]) := q0_25
    have m_27 : (1 + d_8, 0) ∈ RL := hm_25 0 (by decide)
    have c_28 : E (1 + d_8) 1 = .inr (8, [.ref (ad (1 + d_8) 5), .int (nI k0_25)]) := q1_25
    have m_29 : (1 + d_8, 1) ∈ RL := hm_25 1 (by decide)
    have c_30 : E (1 + d_8) 2 = .inr (8, [.ref (ad (1 + d_8) 6), .int (nI k1_25)]) := q2_25
    have m_31 : (1 + d_8, 2) ∈ RL := hm_25 2 (by decide)
    have c_32 : E (1 + d_8) 3 = .inr (8, [.ref (ad (1 + d_8) 7), .int (nI k2_25)]) := q3_25
    have m_33 : (1 + d_8, 3) ∈ RL := hm_25 3 (by decide)
    have c_34 : E (1 + d_8) 4 = .inr (8, [.ref (ad (1 + d_8) 8), .int (nI k3_25)]) := q4_25
    have m_35 : (1 + d_8, 4) ∈ RL := hm_25 4 (by decide)
    have c_36 : E (1 + d_8) 5 = .inl (kA 0, 6, .inl f0_25) := q5_25
    have m_37 : (1 + d_8, 5) ∈ RL := hm_25 5 (by decide)
    have c_38 : E (1 + d_8) 6 = .inl (kA 0, 5, .inl f1_25) := q6_25
    have m_39 : (1 + d_8, 6) ∈ RL := hm_25 6 (by decide)
    have c_40 : E (1 + d_8) 7 = .inl (kA 0, 3, .inl f2_25) := q7_25
    have m_41 : (1 + d_8, 7) ∈ RL := hm_25 7 (by decide)
    have c_42 : E (1 + d_8) 8 = .inl (kA 0, 3, .inl f3_25) := q8_25
    have m_43 : (1 + d_8, 8) ∈ RL := hm_25 8 (by decide)
    have c_44 : E (1 + d_8) 9 = .inl (kA 8, 6, .inr (.inr (.inr (.inr fe_25)))) := q9_25
    have m_45 : (1 + d_8, 9) ∈ RL := hm_25 9 (by decide)
    have c_46 : E (1 + d_8) 10 = .inl (kA 8, 6, .inr (.inr (.inr (.inr fo_25)))) := q10_25
    have m_47 : (1 + d_8, 10) ∈ RL := hm_25 10 (by decide)
    have c_48 : E (1 + d_8) 11 = .inl (kA 2, 5, .inl tr_25) := q11_25
    have m_49 : (1 + d_8, 11) ∈ RL := hm_25 11 (by decide)
    have c_50 : E (1 + d_8) 12 = .inl (kA 2, 5, .inl op_25) := q12_25
    have m_51 : (1 + d_8, 12) ∈ RL := hm_25 12 (by decide)
    have hg_25 : ∀ w9, w9 < k0_25 → fe_25 w9 = some (ad (1 + d_8) (20 + 3 * w9)) ∧ fo_25 w9 = some (ad (1 + d_8) (38 + 3 * w9)) ∧ GI kA (ad (1 + d_8)) (E (1 + d_8)) (fun o => (1 + d_8, o) ∈ RL) (20 + 3 * w9) (21 + 3 * w9) (22 + 3 * w9) ∧ GI kA (ad (1 + d_8)) (E (1 + d_8)) (fun o => (1 + d_8, o) ∈ RL) (38 + 3 * w9) (39 + 3 * w9) (40 + 3 * w9) := hg_25
    refine px_get (D := D) (ci := 7) (v := .int (nI d_8)) (C := xR_Ds) (T := xT_Ds) (N := 12) hx hb hT xi_Ds hown hK.1 hP m_27 c_26 rfl 0 (by decide) (hT _ yn_4) (fun _ h9 => h9) rfl xd_Ly_withDescriptor_20 ?_
    refine lv_iload_n hx hb xd_Ly_withDescriptor_23 rfl (lv_at hl 2 rfl) ?_
    refine lv_icmp_ne (tgt := 34) hx hb xd_Ly_withDescriptor_24 (by decide) (fun hc52 => ?_) (fun hc52 => ?_)
    · refine lv_iinc (k := 0) (x := (nI k)) (v := (nI (k + 1))) hx hb xd_Ly_withDescriptor_34 hl rfl (xb_inc k 1) (Nat.le_of_ble_eq_true rfl) rfl (fun ls hl => ?_)
      have hl : lv_has ls 3 [(2, .int (nI (k + 1))), (0, .ref (ad (20 + n) 0)), (1, .int dx)] := hl
      refine lv_goto (tgt := 2) hx hb xd_Ly_withDescriptor_37 (by decide) ?_
      exact ih6 (k + 1) _ _ _ (show mk_1 - (k + 1) < mk_1 - k by omega) (lv_sub hl [0, 1, 2] rfl) hP hD hS (show (k + 1) ≤ mk_1 from by first | assumption | omega)
    · refine lv_aload_n hx hb xd_Ly_withDescriptor_27 rfl (lv_at hl 1 rfl) ?_
      refine px_get (D := D) (ci := 5) (v := .ref (ad (20 + n) 1)) (C := xR_Ly) (T := xT_Ly) (N := 4) hx hb hT xi_Ly hown hK.1 hP m_3 c_2 rfl 2 (by decide) (hT _ yn_0) (fun _ h9 => h9) rfl xd_Ly_withDescriptor_28 ?_
      refine lv_iload_n hx hb xd_Ly_withDescriptor_31 rfl (lv_at hl 0 rfl) ?_
      refine px_aald (i := k) (x := (some (ad (20 + n) (10 + 10 * k)))) hx hb hK.1 hP m_5 c_4 6 rfl ((hk_1 k (by omega)).1) (by omega) (by omega) xd_Ly_withDescriptor_32 ?_
      exact W.aret (v := .ref (ad (20 + n) (10 + 10 * k))) hx hb hr (Or.inl ⟨_, rfl⟩) (Or.inr ⟨_, rfl⟩) (fun t ht hW => ⟨⟨(some (ad (20 + n) (10 + 10 * k))), (), rfl, Or.inr ⟨n, k, rfl, rfl, (hk_1 k (by omega)).2⟩, by rw [ht]; exact hP, hD⟩, hS.F ht⟩) hS.2.2 xd_Ly_withDescriptor_33
set_option maxHeartbeats 4000000 in
set_option maxRecDepth 100000 in
theorem xc_Ly_providerOf (l : Launch) (D : va_G) (kA : Nat → ClassId) (sz : Nat) (ad : Nat → Nat → Nat) (E : Nat → Nat → va_E) (RL : List (Nat × Nat)) (nd : Nat) (nL : Nat) (n : Nat) (sv : Int32) (ix : Int32) (hDIs : DIs kA ad E RL nd) (hLIs : LIs kA ad E RL nd nL) (hnL : nL ≤ 6) (hn : n < nL) : Met l xy_Ly_providerOf (.code xy_Ly_providerOf xb_Ly_providerOf 6 (some (.object "LayerDesk$Member")) :: wT) { frames := 2, cells := 0, slots := 0, locals := 43 } (va_Pc [.ref (ad (20 + n) 0), .int sv, .int ix] (xPre D kA sz (rp ad E RL))) (va_Qq (fun (r : Option Nat) (u : Unit) => r = none ∨ ∃ x k, x ≤ n ∧ r = some (ad (20 + x) (10 + 10 * k)) ∧ MEI kA ad E RL nd x k) (fun (u : Unit) t => va_P D xcl (rp ad E RL) t.heap ∧ va_D (va_A (rp ad E RL) sz) (rp ad E RL)) (va_A (rp ad E RL) sz)) 0 0 (va_A (rp ad E RL) sz) := by
  refine Met.ofW (cc := xb_Ly_providerOf) (maxL := 6) (ret := (some (.object "LayerDesk$Member"))) (by decide) rfl ?_
  intro p e s m args below meth c s₁ B hml hv
  obtain ⟨rfl, hsz, hP, hK, hD0⟩ := hv
  have hx := B.exec
  have hb := B.bytes
  have hr := B.returns
  have hT := x_hT B.pre
  have hown : s.vm.findClass xR_Ly = some m.cls := findClass_of_methodNamed B.named
  have hlocks := B.notSynchronized
  subst hsz
  have hD := hD0.self (sz := s.heap.size)
  generalize hAe : va_A (rp ad E RL) s.heap.size = A at hD ⊢
  have hA : ∀ q : Nat, s.heap.size ≤ q → A q := fun q h => by rw [← hAe]; exact Or.inr h
  have hS : va_S A s.heap s.heap [] := va_S.rf
  have hl := lv_entry ([.ref (ad (20 + n) 0), .int sv, .int ix]) (n := 6) (Nat.le_of_ble_eq_true rfl)
  rw [lg_entry_eq]
  generalize (lg_sl ([.ref (ad (20 + n) 0), .int sv, .int ix]) ++ List.replicate (6 - (lg_sl ([.ref (ad (20 + n) 0), .int sv, .int ix])).length) Slot.unset).toArray = ls at hl ⊢
  have hl : lv_has ls 6 [(0, .ref (ad (20 + n) 0)), (1, .int sv), (2, .int ix)] := hl
  have hP : va_P D xcl (rp ad E RL) s.heap := hP
  refine lv_iconst (v := 0) hx hb xd_Ly_providerOf_0 (by decide) ?_
  refine lv_istore_n hx hb xd_Ly_providerOf_1 rfl hl (Nat.le_of_ble_eq_true rfl) rfl (fun ls hl => ?_)
  have hl : lv_has ls 6 [(3, .int 0), (0, .ref (ad (20 + n) 0)), (1, .int sv), (2, .int ix)] := hl
  refine lv_aload_n hx hb xd_Ly_providerOf_2 rfl (lv_at hl 1 rfl) ?_
  refine lv_astore hx hb xd_Ly_providerOf_3 hl (Nat.le_of_ble_eq_true rfl) rfl (fun ls hl => ?_)
  have hl : lv_has ls 6 [(4, .ref (ad (20 + n) 0)), (3, .int 0), (0, .ref (ad (20 + n) 0)), (1, .int sv), (2, .int ix)] := hl
  refine xlab (σ := Nat × Int32) (ml := 6) 5 (fun (y, ps) => [(4, (lyv ad y)), (3, .int ps), (0, .ref (ad (20 + n) 0)), (1, .int sv), (2, .int ix)]) (fun (y, ps) => []) (fun (y, ps) => rp ad E RL) (fun (y, ps) => (y ≤ n + 1)) (fun (y, ps) => y) ?_ (n + 1, 0) _ _ _ (lv_sub hl [0, 1, 2, 3, 4] rfl) hP hD hS (show (n + 1) ≤ n + 1 from by first | assumption | omega)
  intro n9 ih1 a9 ls H locs hμ hl hP hD hS hI
  subst hμ
  obtain ⟨y, ps⟩ := a9
  have hy : y ≤ n + 1 := hI
  have hl : lv_has ls 6 [(4, (lyv ad y)), (3, .int ps), (0, .ref (ad (20 + n) 0)), (1, .int sv), (2, .int ix)] := hl
  have hP : va_P D xcl (rp ad E RL) H := hP
  have hD : va_D A (rp ad E RL) := hD
  rcases y with _ | y
  · have hl : lv_has ls 6 [(4, .null), (3, .int ps), (0, .ref (ad (20 + n) 0)), (1, .int sv), (2, .int ix)] := hl
    refine lv_aloadN hx hb xd_Ly_providerOf_5 (lv_at hl 0 rfl) ?_
    refine lv_ifnullN (tgt := 78) hx hb xd_Ly_providerOf_7 (by decide) ?_
    refine lv_null hx hb xd_Ly_providerOf_78 ?_
    exact W.aret (v := .null) hx hb hr (Or.inl ⟨_, rfl⟩) (Or.inl rfl) (fun t ht hW => ⟨⟨none, (), rfl, Or.inl rfl, by rw [ht]; exact hP, hD⟩, hS.F ht⟩) hS.2.2 xd_Ly_providerOf_79
  · have hl : lv_has ls 6 [(4, .ref (ad (20 + y) 0)), (3, .int ps), (0, .ref (ad (20 + n) 0)), (1, .int sv), (2, .int ix)] := hl
    refine lv_aload hx hb xd_Ly_providerOf_5 (lv_at hl 0 rfl) ?_
    refine lv_ifnull hx hb xd_Ly_providerOf_7 ?_
    refine lv_iconst (v := 0) hx hb xd_Ly_providerOf_10 (by decide) ?_
    refine lv_istore hx hb xd_Ly_providerOf_11 hl (Nat.le_of_ble_eq_true rfl) rfl (fun ls hl => ?_)
    have hl : lv_has ls 6 [(5, .int 0), (4, .ref (ad (20 + y) 0)), (3, .int ps), (0, .ref (ad (20 + n) 0)), (1, .int sv), (2, .int ix)] := hl
    obtain ⟨m0_2, m1_2, pv_2, op_2, mk_2, fm_2, hmk_2, hpv_2, q0_2, q1_2, hk_2⟩ := id (hLIs y (by omega))
    have c_3 : E (20 + y) 0 = .inr (5, [.int (nI y), pv_2, .ref (ad (20 + y) 1), .int op_2]) := q0_2
    have m_4 : (20 + y, 0) ∈ RL := m0_2
    have c_5 : E (20 + y) 1 = .inl (kA 6, mk_2, .inr (.inr (.inr (.inr fm_2)))) := q1_2
    have m_6 : (20 + y, 1) ∈ RL := m1_2
    refine xlab (σ := Nat × Int32) (ml := 6) 13 (fun (k, pt) => [(5, .int (nI k)), (4, .ref (ad (20 + y) 0)), (3, .int pt), (0, .ref (ad (20 + n) 0)), (1, .int sv), (2, .int ix)]) (fun (k, pt) => []) (fun (k, pt) => rp ad E RL) (fun (k, pt) => (k ≤ mk_2)) (fun (k, pt) => mk_2 - k) ?_ (0, ps) _ _ _ (lv_sub hl [0, 1, 2, 3, 4, 5] rfl) hP hD hS (show 0 ≤ mk_2 from by first | assumption | omega)
    intro n9 ih7 a9 ls H locs hμ hl hP hD hS hI
    subst hμ
    obtain ⟨k, pt⟩ := a9
    have hk : k ≤ mk_2 := hI
    have hl : lv_has ls 6 [(5, .int (nI k)), (4, .ref (ad (20 + y) 0)), (3, .int pt), (0, .ref (ad (20 + n) 0)), (1, .int sv), (2, .int ix)] := hl
    have hP : va_P D xcl (rp ad E RL) H := hP
    have hD : va_D A (rp ad E RL) := hD
    refine lv_iload hx hb xd_Ly_providerOf_13 (lv_at hl 0 rfl) ?_
    refine lv_aload hx hb xd_Ly_providerOf_15 (lv_at hl 1 rfl) ?_
    refine px_get (D := D) (ci := 5) (v := .ref (ad (20 + y) 1)) (C := xR_Ly) (T := xT_Ly) (N := 4) hx hb hT xi_Ly hown hK.1 hP m_4 c_3 rfl 2 (by decide) (hT _ yn_0) (fun _ h9 => h9) rfl xd_Ly_providerOf_17 ?_
    refine px_alen hx hb hK.1 hP m_6 c_5 6 rfl xd_Ly_providerOf_20 ?_
    refine W.eq (g2 := F0 m 21 ls [.int (nI mk_2), .int (nI k)]) rfl ?_
    refine xn_ge (a := k) (b := mk_2) (tgt := 68) hx hb xd_Ly_providerOf_21 (by decide) (by omega) (by omega) (fun hc8 => ?_) (fun hc8 => ?_)
    · refine lv_aload hx hb xd_Ly_providerOf_68 (lv_at hl 1 rfl) ?_
      refine px_get (D := D) (ci := 5) (v := pv_2) (C := xR_Ly) (T := xT_Ly) (N := 4) hx hb hT xi_Ly hown hK.1 hP m_4 c_3 rfl 1 (by decide) (hT _ yn_1) (fun _ h9 => h9) rfl xd_Ly_providerOf_70 ?_
      rcases hpv_2 with rfl | ⟨x9, hx10, rfl⟩
      · refine W.eq (g2 := F0 m 73 ls [.null]) rfl ?_
        refine lv_astoreN hx hb xd_Ly_providerOf_73 hl (Nat.le_of_ble_eq_true rfl) rfl (fun ls hl => ?_)
        have hl : lv_has ls 6 [(4, .null), (5, .int (nI k)), (3, .int pt), (0, .ref (ad (20 + n) 0)), (1, .int sv), (2, .int ix)] := hl
        refine lv_goto (tgt := 5) hx hb xd_Ly_providerOf_75 (by decide) ?_
        exact ih1 (0, pt) _ _ _ (show 0 < y + 1 by omega) (lv_sub hl [0, 2, 3, 4, 5] rfl) hP hD hS (show 0 ≤ n + 1 from by first | assumption | omega)
      · refine W.eq (g2 := F0 m 73 ls [.ref (ad (20 + x9) 0)]) rfl ?_
        refine lv_astore hx hb xd_Ly_providerOf_73 hl (Nat.le_of_ble_eq_true rfl) rfl (fun ls hl => ?_)
        have hl : lv_has ls 6 [(4, .ref (ad (20 + x9) 0)), (5, .int (nI k)), (3, .int pt), (0, .ref (ad (20 + n) 0)), (1, .int sv), (2, .int ix)] := hl
        refine lv_goto (tgt := 5) hx hb xd_Ly_providerOf_75 (by decide) ?_
        exact ih1 (x9 + 1, pt) _ _ _ (show (x9 + 1) < y + 1 by omega) (lv_sub hl [0, 2, 3, 4, 5] rfl) hP hD hS (show (x9 + 1) ≤ n + 1 from by first | assumption | omega)
    · refine lv_aload hx hb xd_Ly_providerOf_24 (lv_at hl 1 rfl) ?_
      refine px_get (D := D) (ci := 5) (v := .ref (ad (20 + y) 1)) (C := xR_Ly) (T := xT_Ly) (N := 4) hx hb hT xi_Ly hown hK.1 hP m_4 c_3 rfl 2 (by decide) (hT _ yn_0) (fun _ h9 => h9) rfl xd_Ly_providerOf_26 ?_
      refine lv_iload hx hb xd_Ly_providerOf_29 (lv_at hl 0 rfl) ?_
      refine px_aald (i := k) (x := (some (ad (20 + y) (10 + 10 * k)))) hx hb hK.1 hP m_6 c_5 6 rfl ((hk_2 k (by omega)).1) (by omega) (by omega) xd_Ly_providerOf_31 ?_
      obtain ⟨hm_11, d_11, rs_11, fr_11, g2_11, g3_11, g4_11, hd_11, hrs_11, q0_11, q1_11, q2_11, q3_11, q4_11, q5_11, q6_11, q7_11⟩ := (hk_2 k (by omega)).2
      have c_12 : E (20 + y) (10 + 10 * k) = .inr (6, [.ref (ad (20 + y) 0), .ref (ad (1 + d_11) 0), .ref (ad (20 + y) (11 + 10 * k)), .ref (ad (20 + y) (12 + 10 * k)), .ref (ad (20 + y) (13 + 10 * k)), .ref (ad (20 + y) (14 + 10 * k))]) := q0_11
      have m_13 : (20 + y, 10 + 10 * k) ∈ RL := hm_11 0 (by decide)
      have c_14 : E (20 + y) (11 + 10 * k) = .inl (kA 6, rs_11, .inr (.inr (.inr (.inr fr_11)))) := q1_11
      have m_15 : (20 + y, 11 + 10 * k) ∈ RL := hm_11 1 (by decide)
      have c_16 : E (20 + y) (12 + 10 * k) = .inr (10, [.ref (ad (20 + y) (15 + 10 * k))]) := q2_11
      have m_17 : (20 + y, 12 + 10 * k) ∈ RL := hm_11 2 (by decide)
      have c_18 : E (20 + y) (13 + 10 * k) = .inr (10, [.ref (ad (20 + y) (16 + 10 * k))]) := q3_11
      have m_19 : (20 + y, 13 + 10 * k) ∈ RL := hm_11 3 (by decide)
      have c_20 : E (20 + y) (14 + 10 * k) = .inr (10, [.ref (ad (20 + y) (17 + 10 * k))]) := q4_11
      have m_21 : (20 + y, 14 + 10 * k) ∈ RL := hm_11 4 (by decide)
      have c_22 : E (20 + y) (15 + 10 * k) = .inl (kA 0, 6, .inl g2_11) := q5_11
      have m_23 : (20 + y, 15 + 10 * k) ∈ RL := hm_11 5 (by decide)
      have c_24 : E (20 + y) (16 + 10 * k) = .inl (kA 0, 6, .inl g3_11) := q6_11
      have m_25 : (20 + y, 16 + 10 * k) ∈ RL := hm_11 6 (by decide)
      have c_26 : E (20 + y) (17 + 10 * k) = .inl (kA 0, 6, .inl g4_11) := q7_11
      have m_27 : (20 + y, 17 + 10 * k) ∈ RL := hm_11 7 (by decide)
      refine px_get (D := D) (ci := 6) (v := .ref (ad (1 + d_11) 0)) (C := xR_Me) (T := xT_Me) (N := 6) hx hb hT xi_Me hown hK.1 hP m_13 c_12 rfl 1 (by decide) (hT _ yn_2) (fun _ h9 => h9) rfl xd_Ly_providerOf_32 ?_
      obtain ⟨hm_28, fd_28, nm_28, sd_28, k0_28, k1_28, k2_28, k3_28, f0_28, f1_28, f2_28, f3_28, fe_28, fo_28, tr_28, op_28, hk0_28, hk1_28, hk2_28, hk3_28, q0_28, q1_28, q2_28, q3_28, q4_28, q5_28, q6_28, q7_28, q8_28, q9_28, q10_28, q11_28, q12_28, hg_28⟩ := id (hDIs d_11 (by omega))
      have c_29 : E (1 + d_11) 0 = .inr (7, [.int (nI d_11), .int fd_28, .int nm_28, .ref (ad (1 + d_11) 1), .ref (ad (1 + d_11) 9), .ref (ad (1 + d_11) 10), .ref (ad (1 + d_11) 2), .ref (ad (1 + d_11) 11), .ref (ad (1 + d_11) 12), .ref (ad (1 + d_11) 3), .ref (ad (1 + d_11) 4), .int sd_28]) := q0_28
      have m_30 : (1 + d_11, 0) ∈ RL := hm_28 0 (by decide)
      have c_31 : E (1 + d_11) 1 = .inr (8, [.ref (ad (1 + d_11) 5), .int (nI k0_28)]) := q1_28
      have m_32 : (1 + d_11, 1) ∈ RL := hm_28 1 (by decide)
      have c_33 : E (1 + d_11) 2 = .inr (8, [.ref (ad (1 + d_11) 6), .int (nI k1_28)]) := q2_28
      have m_34 : (1 + d_11, 2) ∈ RL := hm_28 2 (by decide)
      have c_35 : E (1 + d_11) 3 = .inr (8, [.ref (ad (1 + d_11) 7), .int (nI k2_28)]) := q3_28
      have m_36 : (1 + d_11, 3) ∈ RL := hm_28 3 (by decide)
      have c_37 : E (1 + d_11) 4 = .inr (8, [.ref (ad (1 + d_11) 8), .int (nI k3_28)]) := q4_28
      have m_38 : (1 + d_11, 4) ∈ RL := hm_28 4 (by decide)
      have c_39 : E (1 + d_11) 5 = .inl (kA 0, 6, .inl f0_28) := q5_28
      have m_40 : (1 + d_11, 5) ∈ RL := hm_28 5 (by decide)
      have c_41 : E (1 + d_11) 6 = .inl (kA 0, 5, .inl f1_28) := q6_28
      have m_42 : (1 + d_11, 6) ∈ RL := hm_28 6 (by decide)
      have c_43 : E (1 + d_11) 7 = .inl (kA 0, 3, .inl f2_28) := q7_28
      have m_44 : (1 + d_11, 7) ∈ RL := hm_28 7 (by decide)
      have c_45 : E (1 + d_11) 8 = .inl (kA 0, 3, .inl f3_28) := q8_28
      have m_46 : (1 + d_11, 8) ∈ RL := hm_28 8 (by decide)
      have c_47 : E (1 + d_11) 9 = .inl (kA 8, 6, .inr (.inr (.inr (.inr fe_28)))) := q9_28
      have m_48 : (1 + d_11, 9) ∈ RL := hm_28 9 (by decide)
      have c_49 : E (1 + d_11) 10 = .inl (kA 8, 6, .inr (.inr (.inr (.inr fo_28)))) := q10_28
      have m_50 : (1 + d_11, 10) ∈ RL := hm_28 10 (by decide)
      have c_51 : E (1 + d_11) 11 = .inl (kA 2, 5, .inl tr_28) := q11_28
      have m_52 : (1 + d_11, 11) ∈ RL := hm_28 11 (by decide)
      have c_53 : E (1 + d_11) 12 = .inl (kA 2, 5, .inl op_28) := q12_28
      have m_54 : (1 + d_11, 12) ∈ RL := hm_28 12 (by decide)
      have hg_28 : ∀ w9, w9 < k0_28 → fe_28 w9 = some (ad (1 + d_11) (20 + 3 * w9)) ∧ fo_28 w9 = some (ad (1 + d_11) (38 + 3 * w9)) ∧ GI kA (ad (1 + d_11)) (E (1 + d_11)) (fun o => (1 + d_11, o) ∈ RL) (20 + 3 * w9) (21 + 3 * w9) (22 + 3 * w9) ∧ GI kA (ad (1 + d_11)) (E (1 + d_11)) (fun o => (1 + d_11, o) ∈ RL) (38 + 3 * w9) (39 + 3 * w9) (40 + 3 * w9) := hg_28
      refine px_get (D := D) (ci := 7) (v := .ref (ad (1 + d_11) 4)) (C := xR_Ds) (T := xT_Ds) (N := 12) hx hb hT xi_Ds hown hK.1 hP m_30 c_29 rfl 10 (by decide) (hT _ yn_5) (fun _ h9 => h9) rfl xd_Ly_providerOf_35 ?_
      refine lv_iload_n hx hb xd_Ly_providerOf_38 rfl (lv_at hl 4 rfl) ?_
      have hFc := px_free hD hS hA
      refine va_calli (va_runV (As := [.int sv]) (rest := []) ⟨hx, hb, hml, hown, hT⟩ (xc_Na_holds l D kA H.size ad E RL (1 + d_11) 4 8 3 k3_28 f3_28 sv m_38 c_37 m_46 c_45 (by first | assumption | omega) (by first | assumption | omega)) (cwV 1 hT (wT_V yn_7 yn_8 yn_9 yn_10 yn_6) rfl rfl rfl (by decide +kernel) ⟨Nat.le_of_ble_eq_true rfl, Nat.le_of_ble_eq_true rfl⟩) (px_preV hK hP hD m_38 c_37 rfl) rfl rfl hl.1 rfl (lv_room (Nat.le_of_ble_eq_true rfl)) xd_Ly_providerOf_39 ⟨(Nat.le_of_ble_eq_true rfl), (Nat.le_of_ble_eq_true rfl)⟩) hS (fun q _ h => hFc q h) hFc (fun r55 u56 t H1 locs ht hvm hp57 hB hz1 hk1 hS => ?_)
      obtain ⟨hP1, hD1⟩ := hB
      rw [ht] at hP1
      have hD1 := hD1.weaken (fun _ _ _ h => hFc _ h)
      generalize H1 = H at hP1 hS ⊢
      have hP := hP1
      have hD := hD1
      have hP : va_P D xcl (rp ad E RL) H := hP
      have hD : va_D A (rp ad E RL) := hD
      rcases hp57 with ⟨rfl, z58, z59, z60⟩ | ⟨rfl, z61⟩
      · refine W.eq (g2 := F0 m 42 ls [.int 1]) rfl ?_
        refine lv_if_eq (tgt := 62) hx hb xd_Ly_providerOf_42 (by decide) (fun hc62 => absurd hc62 (by decide)) (fun _ => ?_)
        refine lv_iload_n hx hb xd_Ly_providerOf_45 rfl (lv_at hl 2 rfl) ?_
        refine lv_iload_n hx hb xd_Ly_providerOf_46 rfl (lv_at hl 5 rfl) ?_
        refine lv_icmp_ne (tgt := 59) hx hb xd_Ly_providerOf_47 (by decide) (fun hc63 => ?_) (fun hc63 => ?_)
        · refine lv_iinc (k := 2) (x := pt) (v := (pt + Int32.ofInt 1)) hx hb xd_Ly_providerOf_59 hl rfl rfl (Nat.le_of_ble_eq_true rfl) rfl (fun ls hl => ?_)
          have hl : lv_has ls 6 [(3, .int (pt + Int32.ofInt 1)), (5, .int (nI k)), (4, .ref (ad (20 + y) 0)), (0, .ref (ad (20 + n) 0)), (1, .int sv), (2, .int ix)] := hl
          refine lv_iinc (k := 1) (x := (nI k)) (v := (nI (k + 1))) hx hb xd_Ly_providerOf_62 hl rfl (xb_inc k 1) (Nat.le_of_ble_eq_true rfl) rfl (fun ls hl => ?_)
          have hl : lv_has ls 6 [(5, .int (nI (k + 1))), (3, .int (pt + Int32.ofInt 1)), (4, .ref (ad (20 + y) 0)), (0, .ref (ad (20 + n) 0)), (1, .int sv), (2, .int ix)] := hl
          refine lv_goto (tgt := 13) hx hb xd_Ly_providerOf_65 (by decide) ?_
          exact ih7 (k + 1, (pt + Int32.ofInt 1)) _ _ _ (show mk_2 - (k + 1) < mk_2 - k by omega) (lv_sub hl [0, 2, 1, 3, 4, 5] rfl) hP hD hS (show (k + 1) ≤ mk_2 from by first | assumption | omega)
        · refine lv_aload hx hb xd_Ly_providerOf_50 (lv_at hl 1 rfl) ?_
          refine px_get (D := D) (ci := 5) (v := .ref (ad (20 + y) 1)) (C := xR_Ly) (T := xT_Ly) (N := 4) hx hb hT xi_Ly hown hK.1 hP m_4 c_3 rfl 2 (by decide) (hT _ yn_0) (fun _ h9 => h9) rfl xd_Ly_providerOf_52 ?_
          refine lv_iload hx hb xd_Ly_providerOf_55 (lv_at hl 0 rfl) ?_
          refine px_aald (i := k) (x := (some (ad (20 + y) (10 + 10 * k)))) hx hb hK.1 hP m_6 c_5 6 rfl ((hk_2 k (by omega)).1) (by omega) (by omega) xd_Ly_providerOf_57 ?_
          exact W.aret (v := .ref (ad (20 + y) (10 + 10 * k))) hx hb hr (Or.inl ⟨_, rfl⟩) (Or.inr ⟨_, rfl⟩) (fun t ht hW => ⟨⟨(some (ad (20 + y) (10 + 10 * k))), (), rfl, Or.inr ⟨y, k, by omega, rfl, (hk_2 k (by omega)).2⟩, by rw [ht]; exact hP, hD⟩, hS.F ht⟩) hS.2.2 xd_Ly_providerOf_58
      · refine W.eq (g2 := F0 m 42 ls [.int 0]) rfl ?_
        refine lv_if_eq (tgt := 62) hx hb xd_Ly_providerOf_42 (by decide) (fun _ => ?_) (fun hc64 => absurd (by decide) hc64)
        refine lv_iinc (k := 0) (x := (nI k)) (v := (nI (k + 1))) hx hb xd_Ly_providerOf_62 hl rfl (xb_inc k 1) (Nat.le_of_ble_eq_true rfl) rfl (fun ls hl => ?_)
        have hl : lv_has ls 6 [(5, .int (nI (k + 1))), (4, .ref (ad (20 + y) 0)), (3, .int pt), (0, .ref (ad (20 + n) 0)), (1, .int sv), (2, .int ix)] := hl
        refine lv_goto (tgt := 13) hx hb xd_Ly_providerOf_65 (by decide) ?_
        exact ih7 (k + 1, pt) _ _ _ (show mk_2 - (k + 1) < mk_2 - k by omega) (lv_sub hl [0, 1, 2, 3, 4, 5] rfl) hP hD hS (show (k + 1) ≤ mk_2 from by first | assumption | omega)
set_option maxHeartbeats 4000000 in
set_option maxRecDepth 100000 in
theorem xc_Me_code (l : Launch) (D : va_G) (kA : Nat → ClassId) (sz : Nat) (ad : Nat → Nat → Nat) (E : Nat → Nat → va_E) (RL : List (Nat × Nat)) (nd : Nat) (nL : Nat) (n : Nat) (k : Nat) (hDIs : DIs kA ad E RL nd) (hLIs : LIs kA ad E RL nd nL) (hnL : nL ≤ 6) (hn : n < nL) (hME : MEI kA ad E RL nd n k) : Met l xy_Me_code (.code xy_Me_code xb_Me_code 1 (some .int) :: wT) { frames := 0, cells := 0, slots := 0, locals := 0 } (va_Pc [.ref (ad (20 + n) (10 + 10 * k))] (xPre D kA sz (rp ad E RL))) (va_Qi (fun (r : Int32) (u : Unit) => True) (fun (u : Unit) t => va_P D xcl (rp ad E RL) t.heap ∧ va_D (va_A (rp ad E RL) sz) (rp ad E RL)) (va_A (rp ad E RL) sz)) 0 0 (va_A (rp ad E RL) sz) := by
  refine Met.ofW (cc := xb_Me_code) (maxL := 1) (ret := (some .int)) (by decide) rfl ?_
  intro p e s m args below meth c s₁ B hml hv
  obtain ⟨rfl, hsz, hP, hK, hD0⟩ := hv
  have hx := B.exec
  have hb := B.bytes
  have hr := B.returns
  have hT := x_hT B.pre
  have hown : s.vm.findClass xR_Me = some m.cls := findClass_of_methodNamed B.named
  have hlocks := B.notSynchronized
  subst hsz
  have hD := hD0.self (sz := s.heap.size)
  generalize hAe : va_A (rp ad E RL) s.heap.size = A at hD ⊢
  have hA : ∀ q : Nat, s.heap.size ≤ q → A q := fun q h => by rw [← hAe]; exact Or.inr h
  have hS : va_S A s.heap s.heap [] := va_S.rf
  have hl := lv_entry ([.ref (ad (20 + n) (10 + 10 * k))]) (n := 1) (Nat.le_of_ble_eq_true rfl)
  rw [lg_entry_eq]
  generalize (lg_sl ([.ref (ad (20 + n) (10 + 10 * k))]) ++ List.replicate (1 - (lg_sl ([.ref (ad (20 + n) (10 + 10 * k))])).length) Slot.unset).toArray = ls at hl ⊢
  have hl : lv_has ls 1 [(0, .ref (ad (20 + n) (10 + 10 * k)))] := hl
  have hP : va_P D xcl (rp ad E RL) s.heap := hP
  refine lv_bipush (v := 16) hx hb xd_Me_code_0 (by decide) ?_
  refine lv_aload_n hx hb xd_Me_code_2 rfl (lv_at hl 0 rfl) ?_
  obtain ⟨hm_1, d_1, rs_1, fr_1, g2_1, g3_1, g4_1, hd_1, hrs_1, q0_1, q1_1, q2_1, q3_1, q4_1, q5_1, q6_1, q7_1⟩ := id hME
  have c_2 : E (20 + n) (10 + 10 * k) = .inr (6, [.ref (ad (20 + n) 0), .ref (ad (1 + d_1) 0), .ref (ad (20 + n) (11 + 10 * k)), .ref (ad (20 + n) (12 + 10 * k)), .ref (ad (20 + n) (13 + 10 * k)), .ref (ad (20 + n) (14 + 10 * k))]) := q0_1
  have m_3 : (20 + n, 10 + 10 * k) ∈ RL := hm_1 0 (by decide)
  have c_4 : E (20 + n) (11 + 10 * k) = .inl (kA 6, rs_1, .inr (.inr (.inr (.inr fr_1)))) := q1_1
  have m_5 : (20 + n, 11 + 10 * k) ∈ RL := hm_1 1 (by decide)
  have c_6 : E (20 + n) (12 + 10 * k) = .inr (10, [.ref (ad (20 + n) (15 + 10 * k))]) := q2_1
  have m_7 : (20 + n, 12 + 10 * k) ∈ RL := hm_1 2 (by decide)
  have c_8 : E (20 + n) (13 + 10 * k) = .inr (10, [.ref (ad (20 + n) (16 + 10 * k))]) := q3_1
  have m_9 : (20 + n, 13 + 10 * k) ∈ RL := hm_1 3 (by decide)
  have c_10 : E (20 + n) (14 + 10 * k) = .inr (10, [.ref (ad (20 + n) (17 + 10 * k))]) := q4_1
  have m_11 : (20 + n, 14 + 10 * k) ∈ RL := hm_1 4 (by decide)
  have c_12 : E (20 + n) (15 + 10 * k) = .inl (kA 0, 6, .inl g2_1) := q5_1
  have m_13 : (20 + n, 15 + 10 * k) ∈ RL := hm_1 5 (by decide)
  have c_14 : E (20 + n) (16 + 10 * k) = .inl (kA 0, 6, .inl g3_1) := q6_1
  have m_15 : (20 + n, 16 + 10 * k) ∈ RL := hm_1 6 (by decide)
  have c_16 : E (20 + n) (17 + 10 * k) = .inl (kA 0, 6, .inl g4_1) := q7_1
  have m_17 : (20 + n, 17 + 10 * k) ∈ RL := hm_1 7 (by decide)
  refine px_get (D := D) (ci := 6) (v := .ref (ad (20 + n) 0)) (C := xR_Me) (T := xT_Me) (N := 6) hx hb hT xi_Me hown hK.1 hP m_3 c_2 rfl 0 (by decide) (hT _ yn_11) (fun _ h9 => h9) rfl xd_Me_code_3 ?_
  obtain ⟨m0_18, m1_18, pv_18, op_18, mk_18, fm_18, hmk_18, hpv_18, q0_18, q1_18, hk_18⟩ := id (hLIs n (by omega))
  have c_19 : E (20 + n) 0 = .inr (5, [.int (nI n), pv_18, .ref (ad (20 + n) 1), .int op_18]) := q0_18
  have m_20 : (20 + n, 0) ∈ RL := m0_18
  have c_21 : E (20 + n) 1 = .inl (kA 6, mk_18, .inr (.inr (.inr (.inr fm_18)))) := q1_18
  have m_22 : (20 + n, 1) ∈ RL := m1_18
  refine px_get (D := D) (ci := 5) (v := .int (nI n)) (C := xR_Ly) (T := xT_Ly) (N := 4) hx hb hT xi_Ly hown hK.1 hP m_20 c_19 rfl 0 (by decide) (hT _ yn_12) (fun _ h9 => h9) rfl xd_Me_code_6 ?_
  refine lv_imul hx hb xd_Me_code_9 ?_
  refine xn_top (y := nI (16 * n)) (pk_mul 16 n) ?_
  refine lv_aload_n hx hb xd_Me_code_10 rfl (lv_at hl 0 rfl) ?_
  refine px_get (D := D) (ci := 6) (v := .ref (ad (1 + d_1) 0)) (C := xR_Me) (T := xT_Me) (N := 6) hx hb hT xi_Me hown hK.1 hP m_3 c_2 rfl 1 (by decide) (hT _ yn_13) (fun _ h9 => h9) rfl xd_Me_code_11 ?_
  obtain ⟨hm_23, fd_23, nm_23, sd_23, k0_23, k1_23, k2_23, k3_23, f0_23, f1_23, f2_23, f3_23, fe_23, fo_23, tr_23, op_23, hk0_23, hk1_23, hk2_23, hk3_23, q0_23, q1_23, q2_23, q3_23, q4_23, q5_23, q6_23, q7_23, q8_23, q9_23, q10_23, q11_23, q12_23, hg_23⟩ := id (hDIs d_1 (by omega))
  have c_24 : E (1 + d_1) 0 = .inr (7, [.int (nI d_1), .int fd_23, .int nm_23, .ref (ad (1 + d_1) 1), .ref (ad (1 + d_1) 9), .ref (ad (1 + d_1) 10), .ref (ad (1 + d_1) 2), .ref (ad (1 + d_1) 11), .ref (ad (1 + d_1) 12), .ref (ad (1 + d_1) 3), .ref (ad (1 + d_1) 4), .int sd_23]) := q0_23
  have m_25 : (1 + d_1, 0) ∈ RL := hm_23 0 (by decide)
  have c_26 : E (1 + d_1) 1 = .inr (8, [.ref (ad (1 + d_1) 5), .int (nI k0_23)]) := q1_23
  have m_27 : (1 + d_1, 1) ∈ RL := hm_23 1 (by decide)
  have c_28 : E (1 + d_1) 2 = .inr (8, [.ref (ad (1 + d_1) 6), .int (nI k1_23)]) := q2_23
  have m_29 : (1 + d_1, 2) ∈ RL := hm_23 2 (by decide)
  have c_30 : E (1 + d_1) 3 = .inr (8, [.ref (ad (1 + d_1) 7), .int (nI k2_23)]) := q3_23
  have m_31 : (1 + d_1, 3) ∈ RL := hm_23 3 (by decide)
  have c_32 : E (1 + d_1) 4 = .inr (8, [.ref (ad (1 + d_1) 8), .int (nI k3_23)]) := q4_23
  have m_33 : (1 + d_1, 4) ∈ RL := hm_23 4 (by decide)
  have c_34 : E (1 + d_1) 5 = .inl (kA 0, 6, .inl f0_23) := q5_23
  have m_35 : (1 + d_1, 5) ∈ RL := hm_23 5 (by decide)
  have c_36 : E (1 + d_1) 6 = .inl (kA 0, 5, .inl f1_23) := q6_23
  have m_37 : (1 + d_1, 6) ∈ RL := hm_23 6 (by decide)
  have c_38 : E (1 + d_1) 7 = .inl (kA 0, 3, .inl f2_23) := q7_23
  have m_39 : (1 + d_1, 7) ∈ RL := hm_23 7 (by decide)
  have c_40 : E (1 + d_1) 8 = .inl (kA 0, 3, .inl f3_23) := q8_23
  have m_41 : (1 + d_1, 8) ∈ RL := hm_23 8 (by decide)
  have c_42 : E (1 + d_1) 9 = .inl (kA 8, 6, .inr (.inr (.inr (.inr fe_23)))) := q9_23
  have m_43 : (1 + d_1, 9) ∈ RL := hm_23 9 (by decide)
  have c_44 : E (1 + d_1) 10 = .inl (kA 8, 6, .inr (.inr (.inr (.inr fo_23)))) := q10_23
  have m_45 : (1 + d_1, 10) ∈ RL := hm_23 10 (by decide)
  have c_46 : E (1 + d_1) 11 = .inl (kA 2, 5, .inl tr_23) := q11_23
  have m_47 : (1 + d_1, 11) ∈ RL := hm_23 11 (by decide)
  have c_48 : E (1 + d_1) 12 = .inl (kA 2, 5, .inl op_23) := q12_23
  have m_49 : (1 + d_1, 12) ∈ RL := hm_23 12 (by decide)
  have hg_23 : ∀ w9, w9 < k0_23 → fe_23 w9 = some (ad (1 + d_1) (20 + 3 * w9)) ∧ fo_23 w9 = some (ad (1 + d_1) (38 + 3 * w9)) ∧ GI kA (ad (1 + d_1)) (E (1 + d_1)) (fun o => (1 + d_1, o) ∈ RL) (20 + 3 * w9) (21 + 3 * w9) (22 + 3 * w9) ∧ GI kA (ad (1 + d_1)) (E (1 + d_1)) (fun o => (1 + d_1, o) ∈ RL) (38 + 3 * w9) (39 + 3 * w9) (40 + 3 * w9) := hg_23
  refine px_get (D := D) (ci := 7) (v := .int (nI d_1)) (C := xR_Ds) (T := xT_Ds) (N := 12) hx hb hT xi_Ds hown hK.1 hP m_25 c_24 rfl 0 (by decide) (hT _ yn_14) (fun _ h9 => h9) rfl xd_Me_code_14 ?_
  refine lv_iadd hx hb xd_Me_code_17 ?_
  refine xn_top (y := nI ((16 * n) + d_1)) (nI_add (16 * n) d_1) ?_
  exact W.iret (v := (nI ((16 * n) + d_1))) hx hb hr (fun t ht hW => ⟨⟨(nI ((16 * n) + d_1)), (), rfl, trivial, by rw [ht]; exact hP, hD⟩, hS.F ht⟩) hS.2.2 xd_Me_code_18
abbrev xb_De_openLayer : ByteArray := prog_1_method_14_code
def xy_De_openLayer : MethodName := ⟨"LayerDesk", "openLayer", "(I)LLayerDesk$Layer;"⟩
abbrev xb_De_memberAt : ByteArray := prog_1_method_15_code
def xy_De_memberAt : MethodName := ⟨"LayerDesk", "memberAt", "(II)LLayerDesk$Member;"⟩
abbrev xb_De_memberOf : ByteArray := prog_1_method_16_code
def xy_De_memberOf : MethodName := ⟨"LayerDesk", "memberOf", "(II)LLayerDesk$Member;"⟩
abbrev xb_De_isParentOfOpen : ByteArray := prog_1_method_21_code
def xy_De_isParentOfOpen : MethodName := ⟨"LayerDesk", "isParentOfOpen", "(LLayerDesk$Layer;)Z"⟩
abbrev xb_De_countOpen : ByteArray := prog_1_method_22_code
def xy_De_countOpen : MethodName := ⟨"LayerDesk", "countOpen", "()I"⟩
abbrev xb_De_count : ByteArray := prog_1_method_7_code
def xy_De_count : MethodName := ⟨"LayerDesk", "count", "(I)I"⟩
abbrev xb_De_modules : ByteArray := prog_1_method_8_code
def xy_De_modules : MethodName := ⟨"LayerDesk", "modules", "(I)I"⟩
abbrev xb_De_module : ByteArray := prog_1_method_9_code
def xy_De_module : MethodName := ⟨"LayerDesk", "module", "(II)I"⟩
abbrev xb_De_reads : ByteArray := prog_1_method_10_code
def xy_De_reads : MethodName := ⟨"LayerDesk", "reads", "(IIII)Z"⟩
abbrev xb_De_fault : ByteArray := prog_1_method_5_code
def xy_De_fault : MethodName := ⟨"LayerDesk", "fault", "()I"⟩
abbrev xb_Sh_find : ByteArray := prog_10_method_3_code
def xy_Sh_find : MethodName := ⟨"LayerDesk$Shelf", "find", "(II)LLayerDesk$Descriptor;"⟩
abbrev xb_Sh_latest : ByteArray := prog_10_method_5_code
def xy_Sh_latest : MethodName := ⟨"LayerDesk$Shelf", "latest", "()LLayerDesk$Descriptor;"⟩
abbrev xb_Sh_isFinder : ByteArray := prog_10_method_2_code
def xy_Sh_isFinder : MethodName := ⟨"LayerDesk$Shelf", "isFinder", "(I)Z"⟩
abbrev xb_Ch_isChosen : ByteArray := prog_2_method_7_code
def xy_Ch_isChosen : MethodName := ⟨"LayerDesk$Chooser", "isChosen", "(LLayerDesk$Descriptor;)Z"⟩
abbrev xb_Li_nameAt : ByteArray := prog_6_method_6_code
def xy_Li_nameAt : MethodName := ⟨"LayerDesk$Line", "nameAt", "(I)I"⟩
abbrev xb_De_rootsAreNames : ByteArray := prog_1_method_17_code
def xy_De_rootsAreNames : MethodName := ⟨"LayerDesk", "rootsAreNames", "()Z"⟩
theorem xd_Ch_isChosen_0 : decode xb_Ch_isChosen 0 = .ok (.iconst 0, 1) := by decide +kernel
theorem xd_Ch_isChosen_1 : decode xb_Ch_isChosen 1 = .ok (.istore_n 2, 1) := by decide +kernel
theorem xd_Ch_isChosen_2 : decode xb_Ch_isChosen 2 = .ok (.iload_n 2, 1) := by decide +kernel
theorem xd_Ch_isChosen_3 : decode xb_Ch_isChosen 3 = .ok (.aload_n 0, 1) := by decide +kernel
theorem xd_Ch_isChosen_4 : decode xb_Ch_isChosen 4 = .ok (.getfield 17, 3) := by decide +kernel
theorem xd_Ch_isChosen_7 : decode xb_Ch_isChosen 7 = .ok (.if_icmp .ge 21, 3) := by decide +kernel
theorem xd_Ch_isChosen_10 : decode xb_Ch_isChosen 10 = .ok (.aload_n 0, 1) := by decide +kernel
theorem xd_Ch_isChosen_11 : decode xb_Ch_isChosen 11 = .ok (.getfield 11, 3) := by decide +kernel
theorem xd_Ch_isChosen_14 : decode xb_Ch_isChosen 14 = .ok (.iload_n 2, 1) := by decide +kernel
theorem xd_Ch_isChosen_15 : decode xb_Ch_isChosen 15 = .ok (.aaload, 1) := by decide +kernel
theorem xd_Ch_isChosen_16 : decode xb_Ch_isChosen 16 = .ok (.aload_n 1, 1) := by decide +kernel
theorem xd_Ch_isChosen_17 : decode xb_Ch_isChosen 17 = .ok (.if_acmp .ne 5, 3) := by decide +kernel
theorem xd_Ch_isChosen_20 : decode xb_Ch_isChosen 20 = .ok (.iconst 1, 1) := by decide +kernel
theorem xd_Ch_isChosen_21 : decode xb_Ch_isChosen 21 = .ok (.ireturn, 1) := by decide +kernel
theorem xd_Ch_isChosen_22 : decode xb_Ch_isChosen 22 = .ok (.iinc 2 1, 3) := by decide +kernel
theorem xd_Ch_isChosen_25 : decode xb_Ch_isChosen 25 = .ok (.goto (-23), 3) := by decide +kernel
theorem xd_Ch_isChosen_28 : decode xb_Ch_isChosen 28 = .ok (.iconst 0, 1) := by decide +kernel
theorem xd_Ch_isChosen_29 : decode xb_Ch_isChosen 29 = .ok (.ireturn, 1) := by decide +kernel
theorem xd_De_count_0 : decode xb_De_count 0 = .ok (.iload_n 1, 1) := by decide +kernel
theorem xd_De_count_1 : decode xb_De_count 1 = .ok (.tableswitch 45 0 2 #[27, 35, 40], 27) := by decide +kernel
theorem xd_De_count_28 : decode xb_De_count 28 = .ok (.aload_n 0, 1) := by decide +kernel
theorem xd_De_count_29 : decode xb_De_count 29 = .ok (.getfield 19, 3) := by decide +kernel
theorem xd_De_count_32 : decode xb_De_count 32 = .ok (.getfield 121, 3) := by decide +kernel
theorem xd_De_count_35 : decode xb_De_count 35 = .ok (.ireturn, 1) := by decide +kernel
theorem xd_De_count_36 : decode xb_De_count 36 = .ok (.aload_n 0, 1) := by decide +kernel
theorem xd_De_count_37 : decode xb_De_count 37 = .ok (.getfield 38, 3) := by decide +kernel
theorem xd_De_count_40 : decode xb_De_count 40 = .ok (.ireturn, 1) := by decide +kernel
theorem xd_De_count_41 : decode xb_De_count 41 = .ok (.aload_n 0, 1) := by decide +kernel
theorem xd_De_count_42 : decode xb_De_count 42 = .ok (.invokevirtual 124, 3) := by decide +kernel
theorem xd_De_count_45 : decode xb_De_count 45 = .ok (.ireturn, 1) := by decide +kernel
theorem xd_De_count_46 : decode xb_De_count 46 = .ok (.iconst (-1), 1) := by decide +kernel
theorem xd_De_count_47 : decode xb_De_count 47 = .ok (.ireturn, 1) := by decide +kernel
theorem xd_De_countOpen_0 : decode xb_De_countOpen 0 = .ok (.iconst 0, 1) := by decide +kernel
theorem xd_De_countOpen_1 : decode xb_De_countOpen 1 = .ok (.istore_n 1, 1) := by decide +kernel
theorem xd_De_countOpen_2 : decode xb_De_countOpen 2 = .ok (.iconst 0, 1) := by decide +kernel
theorem xd_De_countOpen_3 : decode xb_De_countOpen 3 = .ok (.istore_n 2, 1) := by decide +kernel
theorem xd_De_countOpen_4 : decode xb_De_countOpen 4 = .ok (.iload_n 2, 1) := by decide +kernel
theorem xd_De_countOpen_5 : decode xb_De_countOpen 5 = .ok (.aload_n 0, 1) := by decide +kernel
theorem xd_De_countOpen_6 : decode xb_De_countOpen 6 = .ok (.getfield 38, 3) := by decide +kernel
theorem xd_De_countOpen_9 : decode xb_De_countOpen 9 = .ok (.if_icmp .ge 20, 3) := by decide +kernel
theorem xd_De_countOpen_12 : decode xb_De_countOpen 12 = .ok (.aload_n 0, 1) := by decide +kernel
theorem xd_De_countOpen_13 : decode xb_De_countOpen 13 = .ok (.iload_n 2, 1) := by decide +kernel
theorem xd_De_countOpen_14 : decode xb_De_countOpen 14 = .ok (.invokevirtual 68, 3) := by decide +kernel
theorem xd_De_countOpen_17 : decode xb_De_countOpen 17 = .ok (.ifnull 6, 3) := by decide +kernel
theorem xd_De_countOpen_20 : decode xb_De_countOpen 20 = .ok (.iinc 1 1, 3) := by decide +kernel
theorem xd_De_countOpen_23 : decode xb_De_countOpen 23 = .ok (.iinc 2 1, 3) := by decide +kernel
theorem xd_De_countOpen_26 : decode xb_De_countOpen 26 = .ok (.goto (-22), 3) := by decide +kernel
theorem xd_De_countOpen_29 : decode xb_De_countOpen 29 = .ok (.iload_n 1, 1) := by decide +kernel
theorem xd_De_countOpen_30 : decode xb_De_countOpen 30 = .ok (.ireturn, 1) := by decide +kernel
theorem xd_De_fault_0 : decode xb_De_fault 0 = .ok (.aload_n 0, 1) := by decide +kernel
theorem xd_De_fault_1 : decode xb_De_fault 1 = .ok (.getfield 42, 3) := by decide +kernel
theorem xd_De_fault_4 : decode xb_De_fault 4 = .ok (.ireturn, 1) := by decide +kernel
theorem xd_De_isParentOfOpen_0 : decode xb_De_isParentOfOpen 0 = .ok (.iconst 0, 1) := by decide +kernel
theorem xd_De_isParentOfOpen_1 : decode xb_De_isParentOfOpen 1 = .ok (.istore_n 2, 1) := by decide +kernel
theorem xd_De_isParentOfOpen_2 : decode xb_De_isParentOfOpen 2 = .ok (.iload_n 2, 1) := by decide +kernel
theorem xd_De_isParentOfOpen_3 : decode xb_De_isParentOfOpen 3 = .ok (.aload_n 0, 1) := by decide +kernel
theorem xd_De_isParentOfOpen_4 : decode xb_De_isParentOfOpen 4 = .ok (.getfield 38, 3) := by decide +kernel
theorem xd_De_isParentOfOpen_7 : decode xb_De_isParentOfOpen 7 = .ok (.if_icmp .ge 29, 3) := by decide +kernel
theorem xd_De_isParentOfOpen_10 : decode xb_De_isParentOfOpen 10 = .ok (.aload_n 0, 1) := by decide +kernel
theorem xd_De_isParentOfOpen_11 : decode xb_De_isParentOfOpen 11 = .ok (.iload_n 2, 1) := by decide +kernel
theorem xd_De_isParentOfOpen_12 : decode xb_De_isParentOfOpen 12 = .ok (.invokevirtual 68, 3) := by decide +kernel
theorem xd_De_isParentOfOpen_15 : decode xb_De_isParentOfOpen 15 = .ok (.astore_n 3, 1) := by decide +kernel
theorem xd_De_isParentOfOpen_16 : decode xb_De_isParentOfOpen 16 = .ok (.aload_n 3, 1) := by decide +kernel
theorem xd_De_isParentOfOpen_17 : decode xb_De_isParentOfOpen 17 = .ok (.ifnull 13, 3) := by decide +kernel
theorem xd_De_isParentOfOpen_20 : decode xb_De_isParentOfOpen 20 = .ok (.aload_n 3, 1) := by decide +kernel
theorem xd_De_isParentOfOpen_21 : decode xb_De_isParentOfOpen 21 = .ok (.getfield 217, 3) := by decide +kernel
theorem xd_De_isParentOfOpen_24 : decode xb_De_isParentOfOpen 24 = .ok (.aload_n 1, 1) := by decide +kernel
theorem xd_De_isParentOfOpen_25 : decode xb_De_isParentOfOpen 25 = .ok (.if_acmp .ne 5, 3) := by decide +kernel
theorem xd_De_isParentOfOpen_28 : decode xb_De_isParentOfOpen 28 = .ok (.iconst 1, 1) := by decide +kernel
theorem xd_De_isParentOfOpen_29 : decode xb_De_isParentOfOpen 29 = .ok (.ireturn, 1) := by decide +kernel
theorem xd_De_isParentOfOpen_30 : decode xb_De_isParentOfOpen 30 = .ok (.iinc 2 1, 3) := by decide +kernel
theorem xd_De_isParentOfOpen_33 : decode xb_De_isParentOfOpen 33 = .ok (.goto (-31), 3) := by decide +kernel
theorem xd_De_isParentOfOpen_36 : decode xb_De_isParentOfOpen 36 = .ok (.iconst 0, 1) := by decide +kernel
theorem xd_De_isParentOfOpen_37 : decode xb_De_isParentOfOpen 37 = .ok (.ireturn, 1) := by decide +kernel
theorem xd_De_memberAt_0 : decode xb_De_memberAt 0 = .ok (.aload_n 0, 1) := by decide +kernel
theorem xd_De_memberAt_1 : decode xb_De_memberAt 1 = .ok (.iload_n 1, 1) := by decide +kernel
theorem xd_De_memberAt_2 : decode xb_De_memberAt 2 = .ok (.invokevirtual 68, 3) := by decide +kernel
theorem xd_De_memberAt_5 : decode xb_De_memberAt 5 = .ok (.astore_n 3, 1) := by decide +kernel
theorem xd_De_memberAt_6 : decode xb_De_memberAt 6 = .ok (.aload_n 3, 1) := by decide +kernel
theorem xd_De_memberAt_7 : decode xb_De_memberAt 7 = .ok (.ifnull 16, 3) := by decide +kernel
theorem xd_De_memberAt_10 : decode xb_De_memberAt 10 = .ok (.iload_n 2, 1) := by decide +kernel
theorem xd_De_memberAt_11 : decode xb_De_memberAt 11 = .ok (.ifCond .lt 12, 3) := by decide +kernel
theorem xd_De_memberAt_14 : decode xb_De_memberAt 14 = .ok (.iload_n 2, 1) := by decide +kernel
theorem xd_De_memberAt_15 : decode xb_De_memberAt 15 = .ok (.aload_n 3, 1) := by decide +kernel
theorem xd_De_memberAt_16 : decode xb_De_memberAt 16 = .ok (.getfield 128, 3) := by decide +kernel
theorem xd_De_memberAt_19 : decode xb_De_memberAt 19 = .ok (.arraylength, 1) := by decide +kernel
theorem xd_De_memberAt_20 : decode xb_De_memberAt 20 = .ok (.if_icmp .lt 7, 3) := by decide +kernel
theorem xd_De_memberAt_23 : decode xb_De_memberAt 23 = .ok (.aconst_null, 1) := by decide +kernel
theorem xd_De_memberAt_24 : decode xb_De_memberAt 24 = .ok (.goto 9, 3) := by decide +kernel
theorem xd_De_memberAt_27 : decode xb_De_memberAt 27 = .ok (.aload_n 3, 1) := by decide +kernel
theorem xd_De_memberAt_28 : decode xb_De_memberAt 28 = .ok (.getfield 128, 3) := by decide +kernel
theorem xd_De_memberAt_31 : decode xb_De_memberAt 31 = .ok (.iload_n 2, 1) := by decide +kernel
theorem xd_De_memberAt_32 : decode xb_De_memberAt 32 = .ok (.aaload, 1) := by decide +kernel
theorem xd_De_memberAt_33 : decode xb_De_memberAt 33 = .ok (.areturn, 1) := by decide +kernel
theorem xd_De_memberOf_0 : decode xb_De_memberOf 0 = .ok (.aload_n 0, 1) := by decide +kernel
theorem xd_De_memberOf_1 : decode xb_De_memberOf 1 = .ok (.iload_n 1, 1) := by decide +kernel
theorem xd_De_memberOf_2 : decode xb_De_memberOf 2 = .ok (.invokevirtual 68, 3) := by decide +kernel
theorem xd_De_memberOf_5 : decode xb_De_memberOf 5 = .ok (.astore_n 3, 1) := by decide +kernel
theorem xd_De_memberOf_6 : decode xb_De_memberOf 6 = .ok (.aload_n 3, 1) := by decide +kernel
theorem xd_De_memberOf_7 : decode xb_De_memberOf 7 = .ok (.ifnonnull 7, 3) := by decide +kernel
theorem xd_De_memberOf_10 : decode xb_De_memberOf 10 = .ok (.aconst_null, 1) := by decide +kernel
theorem xd_De_memberOf_11 : decode xb_De_memberOf 11 = .ok (.goto 8, 3) := by decide +kernel
theorem xd_De_memberOf_14 : decode xb_De_memberOf 14 = .ok (.aload_n 3, 1) := by decide +kernel
theorem xd_De_memberOf_15 : decode xb_De_memberOf 15 = .ok (.iload_n 2, 1) := by decide +kernel
theorem xd_De_memberOf_16 : decode xb_De_memberOf 16 = .ok (.invokevirtual 195, 3) := by decide +kernel
theorem xd_De_memberOf_19 : decode xb_De_memberOf 19 = .ok (.areturn, 1) := by decide +kernel
theorem xd_De_module_0 : decode xb_De_module 0 = .ok (.aload_n 0, 1) := by decide +kernel
theorem xd_De_module_1 : decode xb_De_module 1 = .ok (.iload_n 1, 1) := by decide +kernel
theorem xd_De_module_2 : decode xb_De_module 2 = .ok (.iload_n 2, 1) := by decide +kernel
theorem xd_De_module_3 : decode xb_De_module 3 = .ok (.invokevirtual 132, 3) := by decide +kernel
theorem xd_De_module_6 : decode xb_De_module 6 = .ok (.astore_n 3, 1) := by decide +kernel
theorem xd_De_module_7 : decode xb_De_module 7 = .ok (.aload_n 3, 1) := by decide +kernel
theorem xd_De_module_8 : decode xb_De_module 8 = .ok (.ifnonnull 7, 3) := by decide +kernel
theorem xd_De_module_11 : decode xb_De_module 11 = .ok (.iconst (-1), 1) := by decide +kernel
theorem xd_De_module_12 : decode xb_De_module 12 = .ok (.goto 10, 3) := by decide +kernel
theorem xd_De_module_15 : decode xb_De_module 15 = .ok (.aload_n 3, 1) := by decide +kernel
theorem xd_De_module_16 : decode xb_De_module 16 = .ok (.getfield 136, 3) := by decide +kernel
theorem xd_De_module_19 : decode xb_De_module 19 = .ok (.getfield 142, 3) := by decide +kernel
theorem xd_De_module_22 : decode xb_De_module 22 = .ok (.ireturn, 1) := by decide +kernel
theorem xd_De_modules_0 : decode xb_De_modules 0 = .ok (.aload_n 0, 1) := by decide +kernel
theorem xd_De_modules_1 : decode xb_De_modules 1 = .ok (.iload_n 1, 1) := by decide +kernel
theorem xd_De_modules_2 : decode xb_De_modules 2 = .ok (.invokevirtual 68, 3) := by decide +kernel
theorem xd_De_modules_5 : decode xb_De_modules 5 = .ok (.astore_n 2, 1) := by decide +kernel
theorem xd_De_modules_6 : decode xb_De_modules 6 = .ok (.aload_n 2, 1) := by decide +kernel
theorem xd_De_modules_7 : decode xb_De_modules 7 = .ok (.ifnonnull 7, 3) := by decide +kernel
theorem xd_De_modules_10 : decode xb_De_modules 10 = .ok (.iconst (-1), 1) := by decide +kernel
theorem xd_De_modules_11 : decode xb_De_modules 11 = .ok (.goto 8, 3) := by decide +kernel
theorem xd_De_modules_14 : decode xb_De_modules 14 = .ok (.aload_n 2, 1) := by decide +kernel
theorem xd_De_modules_15 : decode xb_De_modules 15 = .ok (.getfield 128, 3) := by decide +kernel
theorem xd_De_modules_18 : decode xb_De_modules 18 = .ok (.arraylength, 1) := by decide +kernel
theorem xd_De_modules_19 : decode xb_De_modules 19 = .ok (.ireturn, 1) := by decide +kernel
theorem xd_De_openLayer_0 : decode xb_De_openLayer 0 = .ok (.iload_n 1, 1) := by decide +kernel
theorem xd_De_openLayer_1 : decode xb_De_openLayer 1 = .ok (.ifCond .lt 11, 3) := by decide +kernel
theorem xd_De_openLayer_4 : decode xb_De_openLayer 4 = .ok (.iload_n 1, 1) := by decide +kernel
theorem xd_De_openLayer_5 : decode xb_De_openLayer 5 = .ok (.aload_n 0, 1) := by decide +kernel
theorem xd_De_openLayer_6 : decode xb_De_openLayer 6 = .ok (.getfield 38, 3) := by decide +kernel
theorem xd_De_openLayer_9 : decode xb_De_openLayer 9 = .ok (.if_icmp .lt 5, 3) := by decide +kernel
theorem xd_De_openLayer_12 : decode xb_De_openLayer 12 = .ok (.aconst_null, 1) := by decide +kernel
theorem xd_De_openLayer_13 : decode xb_De_openLayer 13 = .ok (.areturn, 1) := by decide +kernel
theorem xd_De_openLayer_14 : decode xb_De_openLayer 14 = .ok (.aload_n 0, 1) := by decide +kernel
theorem xd_De_openLayer_15 : decode xb_De_openLayer 15 = .ok (.getfield 34, 3) := by decide +kernel
theorem xd_De_openLayer_18 : decode xb_De_openLayer 18 = .ok (.iload_n 1, 1) := by decide +kernel
theorem xd_De_openLayer_19 : decode xb_De_openLayer 19 = .ok (.aaload, 1) := by decide +kernel
theorem xd_De_openLayer_20 : decode xb_De_openLayer 20 = .ok (.astore_n 2, 1) := by decide +kernel
theorem xd_De_openLayer_21 : decode xb_De_openLayer 21 = .ok (.aload_n 2, 1) := by decide +kernel
theorem xd_De_openLayer_22 : decode xb_De_openLayer 22 = .ok (.ifnull 14, 3) := by decide +kernel
theorem xd_De_openLayer_25 : decode xb_De_openLayer 25 = .ok (.aload_n 2, 1) := by decide +kernel
theorem xd_De_openLayer_26 : decode xb_De_openLayer 26 = .ok (.getfield 117, 3) := by decide +kernel
theorem xd_De_openLayer_29 : decode xb_De_openLayer 29 = .ok (.ifCond .eq 7, 3) := by decide +kernel
theorem xd_De_openLayer_32 : decode xb_De_openLayer 32 = .ok (.aload_n 2, 1) := by decide +kernel
theorem xd_De_openLayer_33 : decode xb_De_openLayer 33 = .ok (.goto 4, 3) := by decide +kernel
theorem xd_De_openLayer_36 : decode xb_De_openLayer 36 = .ok (.aconst_null, 1) := by decide +kernel
theorem xd_De_openLayer_37 : decode xb_De_openLayer 37 = .ok (.areturn, 1) := by decide +kernel
theorem xd_De_reads_0 : decode xb_De_reads 0 = .ok (.aload_n 0, 1) := by decide +kernel
theorem xd_De_reads_1 : decode xb_De_reads 1 = .ok (.iload_n 1, 1) := by decide +kernel
theorem xd_De_reads_2 : decode xb_De_reads 2 = .ok (.iload_n 2, 1) := by decide +kernel
theorem xd_De_reads_3 : decode xb_De_reads 3 = .ok (.invokevirtual 132, 3) := by decide +kernel
theorem xd_De_reads_6 : decode xb_De_reads 6 = .ok (.astore 5, 2) := by decide +kernel
theorem xd_De_reads_8 : decode xb_De_reads 8 = .ok (.aload_n 0, 1) := by decide +kernel
theorem xd_De_reads_9 : decode xb_De_reads 9 = .ok (.iload_n 3, 1) := by decide +kernel
theorem xd_De_reads_10 : decode xb_De_reads 10 = .ok (.iload 4, 2) := by decide +kernel
theorem xd_De_reads_12 : decode xb_De_reads 12 = .ok (.invokevirtual 145, 3) := by decide +kernel
theorem xd_De_reads_15 : decode xb_De_reads 15 = .ok (.astore 6, 2) := by decide +kernel
theorem xd_De_reads_17 : decode xb_De_reads 17 = .ok (.aload 5, 2) := by decide +kernel
theorem xd_De_reads_19 : decode xb_De_reads 19 = .ok (.ifnull 25, 3) := by decide +kernel
theorem xd_De_reads_22 : decode xb_De_reads 22 = .ok (.aload 6, 2) := by decide +kernel
theorem xd_De_reads_24 : decode xb_De_reads 24 = .ok (.ifnull 20, 3) := by decide +kernel
theorem xd_De_reads_27 : decode xb_De_reads 27 = .ok (.aload 5, 2) := by decide +kernel
theorem xd_De_reads_29 : decode xb_De_reads 29 = .ok (.getfield 148, 3) := by decide +kernel
theorem xd_De_reads_32 : decode xb_De_reads 32 = .ok (.aload 6, 2) := by decide +kernel
theorem xd_De_reads_34 : decode xb_De_reads 34 = .ok (.invokevirtual 152, 3) := by decide +kernel
theorem xd_De_reads_37 : decode xb_De_reads 37 = .ok (.ifCond .eq 7, 3) := by decide +kernel
theorem xd_De_reads_40 : decode xb_De_reads 40 = .ok (.iconst 1, 1) := by decide +kernel
theorem xd_De_reads_41 : decode xb_De_reads 41 = .ok (.goto 4, 3) := by decide +kernel
theorem xd_De_reads_44 : decode xb_De_reads 44 = .ok (.iconst 0, 1) := by decide +kernel
theorem xd_De_reads_45 : decode xb_De_reads 45 = .ok (.ireturn, 1) := by decide +kernel
theorem xd_De_rootsAreNames_0 : decode xb_De_rootsAreNames 0 = .ok (.aload_n 0, 1) := by decide +kernel
theorem xd_De_rootsAreNames_1 : decode xb_De_rootsAreNames 1 = .ok (.getfield 10, 3) := by decide +kernel
theorem xd_De_rootsAreNames_4 : decode xb_De_rootsAreNames 4 = .ok (.getfield 198, 3) := by decide +kernel
theorem xd_De_rootsAreNames_7 : decode xb_De_rootsAreNames 7 = .ok (.iconst 1, 1) := by decide +kernel
theorem xd_De_rootsAreNames_8 : decode xb_De_rootsAreNames 8 = .ok (.if_icmp .lt 14, 3) := by decide +kernel
theorem xd_De_rootsAreNames_11 : decode xb_De_rootsAreNames 11 = .ok (.aload_n 0, 1) := by decide +kernel
theorem xd_De_rootsAreNames_12 : decode xb_De_rootsAreNames 12 = .ok (.getfield 10, 3) := by decide +kernel
theorem xd_De_rootsAreNames_15 : decode xb_De_rootsAreNames 15 = .ok (.getfield 198, 3) := by decide +kernel
theorem xd_De_rootsAreNames_18 : decode xb_De_rootsAreNames 18 = .ok (.iconst 3, 1) := by decide +kernel
theorem xd_De_rootsAreNames_19 : decode xb_De_rootsAreNames 19 = .ok (.if_icmp .le 5, 3) := by decide +kernel
theorem xd_De_rootsAreNames_22 : decode xb_De_rootsAreNames 22 = .ok (.iconst 0, 1) := by decide +kernel
theorem xd_De_rootsAreNames_23 : decode xb_De_rootsAreNames 23 = .ok (.ireturn, 1) := by decide +kernel
theorem xd_De_rootsAreNames_24 : decode xb_De_rootsAreNames 24 = .ok (.iconst 0, 1) := by decide +kernel
theorem xd_De_rootsAreNames_25 : decode xb_De_rootsAreNames 25 = .ok (.istore_n 1, 1) := by decide +kernel
theorem xd_De_rootsAreNames_26 : decode xb_De_rootsAreNames 26 = .ok (.iload_n 1, 1) := by decide +kernel
theorem xd_De_rootsAreNames_27 : decode xb_De_rootsAreNames 27 = .ok (.aload_n 0, 1) := by decide +kernel
theorem xd_De_rootsAreNames_28 : decode xb_De_rootsAreNames 28 = .ok (.getfield 10, 3) := by decide +kernel
theorem xd_De_rootsAreNames_31 : decode xb_De_rootsAreNames 31 = .ok (.getfield 198, 3) := by decide +kernel
theorem xd_De_rootsAreNames_34 : decode xb_De_rootsAreNames 34 = .ok (.if_icmp .ge 22, 3) := by decide +kernel
theorem xd_De_rootsAreNames_37 : decode xb_De_rootsAreNames 37 = .ok (.aload_n 0, 1) := by decide +kernel
theorem xd_De_rootsAreNames_38 : decode xb_De_rootsAreNames 38 = .ok (.getfield 10, 3) := by decide +kernel
theorem xd_De_rootsAreNames_41 : decode xb_De_rootsAreNames 41 = .ok (.iload_n 1, 1) := by decide +kernel
theorem xd_De_rootsAreNames_42 : decode xb_De_rootsAreNames 42 = .ok (.invokevirtual 201, 3) := by decide +kernel
theorem xd_De_rootsAreNames_45 : decode xb_De_rootsAreNames 45 = .ok (.ifCond .ne 5, 3) := by decide +kernel
theorem xd_De_rootsAreNames_48 : decode xb_De_rootsAreNames 48 = .ok (.iconst 0, 1) := by decide +kernel
theorem xd_De_rootsAreNames_49 : decode xb_De_rootsAreNames 49 = .ok (.ireturn, 1) := by decide +kernel
theorem xd_De_rootsAreNames_50 : decode xb_De_rootsAreNames 50 = .ok (.iinc 1 1, 3) := by decide +kernel
theorem xd_De_rootsAreNames_53 : decode xb_De_rootsAreNames 53 = .ok (.goto (-27), 3) := by decide +kernel
theorem xd_De_rootsAreNames_56 : decode xb_De_rootsAreNames 56 = .ok (.iconst 1, 1) := by decide +kernel
theorem xd_De_rootsAreNames_57 : decode xb_De_rootsAreNames 57 = .ok (.ireturn, 1) := by decide +kernel
theorem xd_Li_nameAt_0 : decode xb_Li_nameAt 0 = .ok (.iload_n 1, 1) := by decide +kernel
theorem xd_Li_nameAt_1 : decode xb_Li_nameAt 1 = .ok (.ifCond .lt 28, 3) := by decide +kernel
theorem xd_Li_nameAt_4 : decode xb_Li_nameAt 4 = .ok (.iload_n 1, 1) := by decide +kernel
theorem xd_Li_nameAt_5 : decode xb_Li_nameAt 5 = .ok (.aload_n 0, 1) := by decide +kernel
theorem xd_Li_nameAt_6 : decode xb_Li_nameAt 6 = .ok (.getfield 24, 3) := by decide +kernel
theorem xd_Li_nameAt_9 : decode xb_Li_nameAt 9 = .ok (.if_icmp .ge 20, 3) := by decide +kernel
theorem xd_Li_nameAt_12 : decode xb_Li_nameAt 12 = .ok (.aload_n 0, 1) := by decide +kernel
theorem xd_Li_nameAt_13 : decode xb_Li_nameAt 13 = .ok (.getfield 17, 3) := by decide +kernel
theorem xd_Li_nameAt_16 : decode xb_Li_nameAt 16 = .ok (.iload_n 1, 1) := by decide +kernel
theorem xd_Li_nameAt_17 : decode xb_Li_nameAt 17 = .ok (.iaload, 1) := by decide +kernel
theorem xd_Li_nameAt_18 : decode xb_Li_nameAt 18 = .ok (.aload_n 0, 1) := by decide +kernel
theorem xd_Li_nameAt_19 : decode xb_Li_nameAt 19 = .ok (.getfield 13, 3) := by decide +kernel
theorem xd_Li_nameAt_22 : decode xb_Li_nameAt 22 = .ok (.iload_n 1, 1) := by decide +kernel
theorem xd_Li_nameAt_23 : decode xb_Li_nameAt 23 = .ok (.iaload, 1) := by decide +kernel
theorem xd_Li_nameAt_24 : decode xb_Li_nameAt 24 = .ok (.isub, 1) := by decide +kernel
theorem xd_Li_nameAt_25 : decode xb_Li_nameAt 25 = .ok (.iconst 4, 1) := by decide +kernel
theorem xd_Li_nameAt_26 : decode xb_Li_nameAt 26 = .ok (.if_icmp .le 5, 3) := by decide +kernel
theorem xd_Li_nameAt_29 : decode xb_Li_nameAt 29 = .ok (.iconst 0, 1) := by decide +kernel
theorem xd_Li_nameAt_30 : decode xb_Li_nameAt 30 = .ok (.ireturn, 1) := by decide +kernel
theorem xd_Li_nameAt_31 : decode xb_Li_nameAt 31 = .ok (.iconst 0, 1) := by decide +kernel
theorem xd_Li_nameAt_32 : decode xb_Li_nameAt 32 = .ok (.istore_n 2, 1) := by decide +kernel
theorem xd_Li_nameAt_33 : decode xb_Li_nameAt 33 = .ok (.aload_n 0, 1) := by decide +kernel
theorem xd_Li_nameAt_34 : decode xb_Li_nameAt 34 = .ok (.getfield 13, 3) := by decide +kernel
theorem xd_Li_nameAt_37 : decode xb_Li_nameAt 37 = .ok (.iload_n 1, 1) := by decide +kernel
theorem xd_Li_nameAt_38 : decode xb_Li_nameAt 38 = .ok (.iaload, 1) := by decide +kernel
theorem xd_Li_nameAt_39 : decode xb_Li_nameAt 39 = .ok (.istore_n 3, 1) := by decide +kernel
theorem xd_Li_nameAt_40 : decode xb_Li_nameAt 40 = .ok (.iload_n 3, 1) := by decide +kernel
theorem xd_Li_nameAt_41 : decode xb_Li_nameAt 41 = .ok (.aload_n 0, 1) := by decide +kernel
theorem xd_Li_nameAt_42 : decode xb_Li_nameAt 42 = .ok (.getfield 17, 3) := by decide +kernel
theorem xd_Li_nameAt_45 : decode xb_Li_nameAt 45 = .ok (.iload_n 1, 1) := by decide +kernel
theorem xd_Li_nameAt_46 : decode xb_Li_nameAt 46 = .ok (.iaload, 1) := by decide +kernel
theorem xd_Li_nameAt_47 : decode xb_Li_nameAt 47 = .ok (.if_icmp .ge 50, 3) := by decide +kernel
theorem xd_Li_nameAt_50 : decode xb_Li_nameAt 50 = .ok (.aload_n 0, 1) := by decide +kernel
theorem xd_Li_nameAt_51 : decode xb_Li_nameAt 51 = .ok (.getfield 9, 3) := by decide +kernel
theorem xd_Li_nameAt_54 : decode xb_Li_nameAt 54 = .ok (.iload_n 3, 1) := by decide +kernel
theorem xd_Li_nameAt_55 : decode xb_Li_nameAt 55 = .ok (.caload, 1) := by decide +kernel
theorem xd_Li_nameAt_56 : decode xb_Li_nameAt 56 = .ok (.bipush 97, 2) := by decide +kernel
theorem xd_Li_nameAt_58 : decode xb_Li_nameAt 58 = .ok (.if_icmp .lt 14, 3) := by decide +kernel
theorem xd_Li_nameAt_61 : decode xb_Li_nameAt 61 = .ok (.aload_n 0, 1) := by decide +kernel
theorem xd_Li_nameAt_62 : decode xb_Li_nameAt 62 = .ok (.getfield 9, 3) := by decide +kernel
theorem xd_Li_nameAt_65 : decode xb_Li_nameAt 65 = .ok (.iload_n 3, 1) := by decide +kernel
theorem xd_Li_nameAt_66 : decode xb_Li_nameAt 66 = .ok (.caload, 1) := by decide +kernel
theorem xd_Li_nameAt_67 : decode xb_Li_nameAt 67 = .ok (.bipush 122, 2) := by decide +kernel
theorem xd_Li_nameAt_69 : decode xb_Li_nameAt 69 = .ok (.if_icmp .le 5, 3) := by decide +kernel
theorem xd_Li_nameAt_72 : decode xb_Li_nameAt 72 = .ok (.iconst 0, 1) := by decide +kernel
theorem xd_Li_nameAt_73 : decode xb_Li_nameAt 73 = .ok (.ireturn, 1) := by decide +kernel
theorem xd_Li_nameAt_74 : decode xb_Li_nameAt 74 = .ok (.iload_n 2, 1) := by decide +kernel
theorem xd_Li_nameAt_75 : decode xb_Li_nameAt 75 = .ok (.bipush 27, 2) := by decide +kernel
theorem xd_Li_nameAt_77 : decode xb_Li_nameAt 77 = .ok (.imul, 1) := by decide +kernel
theorem xd_Li_nameAt_78 : decode xb_Li_nameAt 78 = .ok (.aload_n 0, 1) := by decide +kernel
theorem xd_Li_nameAt_79 : decode xb_Li_nameAt 79 = .ok (.getfield 9, 3) := by decide +kernel
theorem xd_Li_nameAt_82 : decode xb_Li_nameAt 82 = .ok (.iload_n 3, 1) := by decide +kernel
theorem xd_Li_nameAt_83 : decode xb_Li_nameAt 83 = .ok (.caload, 1) := by decide +kernel
theorem xd_Li_nameAt_84 : decode xb_Li_nameAt 84 = .ok (.bipush 97, 2) := by decide +kernel
theorem xd_Li_nameAt_86 : decode xb_Li_nameAt 86 = .ok (.isub, 1) := by decide +kernel
theorem xd_Li_nameAt_87 : decode xb_Li_nameAt 87 = .ok (.iconst 1, 1) := by decide +kernel
theorem xd_Li_nameAt_88 : decode xb_Li_nameAt 88 = .ok (.iadd, 1) := by decide +kernel
theorem xd_Li_nameAt_89 : decode xb_Li_nameAt 89 = .ok (.iadd, 1) := by decide +kernel
theorem xd_Li_nameAt_90 : decode xb_Li_nameAt 90 = .ok (.istore_n 2, 1) := by decide +kernel
theorem xd_Li_nameAt_91 : decode xb_Li_nameAt 91 = .ok (.iinc 3 1, 3) := by decide +kernel
theorem xd_Li_nameAt_94 : decode xb_Li_nameAt 94 = .ok (.goto (-54), 3) := by decide +kernel
theorem xd_Li_nameAt_97 : decode xb_Li_nameAt 97 = .ok (.iload_n 2, 1) := by decide +kernel
theorem xd_Li_nameAt_98 : decode xb_Li_nameAt 98 = .ok (.ireturn, 1) := by decide +kernel
theorem xd_Sh_find_0 : decode xb_Sh_find 0 = .ok (.iconst 0, 1) := by decide +kernel
theorem xd_Sh_find_1 : decode xb_Sh_find 1 = .ok (.istore_n 3, 1) := by decide +kernel
theorem xd_Sh_find_2 : decode xb_Sh_find 2 = .ok (.iload_n 3, 1) := by decide +kernel
theorem xd_Sh_find_3 : decode xb_Sh_find 3 = .ok (.aload_n 0, 1) := by decide +kernel
theorem xd_Sh_find_4 : decode xb_Sh_find 4 = .ok (.getfield 17, 3) := by decide +kernel
theorem xd_Sh_find_7 : decode xb_Sh_find 7 = .ok (.if_icmp .ge 42, 3) := by decide +kernel
theorem xd_Sh_find_10 : decode xb_Sh_find 10 = .ok (.aload_n 0, 1) := by decide +kernel
theorem xd_Sh_find_11 : decode xb_Sh_find 11 = .ok (.getfield 11, 3) := by decide +kernel
theorem xd_Sh_find_14 : decode xb_Sh_find 14 = .ok (.iload_n 3, 1) := by decide +kernel
theorem xd_Sh_find_15 : decode xb_Sh_find 15 = .ok (.aaload, 1) := by decide +kernel
theorem xd_Sh_find_16 : decode xb_Sh_find 16 = .ok (.getfield 21, 3) := by decide +kernel
theorem xd_Sh_find_19 : decode xb_Sh_find 19 = .ok (.iload_n 1, 1) := by decide +kernel
theorem xd_Sh_find_20 : decode xb_Sh_find 20 = .ok (.if_icmp .ne 23, 3) := by decide +kernel
theorem xd_Sh_find_23 : decode xb_Sh_find 23 = .ok (.aload_n 0, 1) := by decide +kernel
theorem xd_Sh_find_24 : decode xb_Sh_find 24 = .ok (.getfield 11, 3) := by decide +kernel
theorem xd_Sh_find_27 : decode xb_Sh_find 27 = .ok (.iload_n 3, 1) := by decide +kernel
theorem xd_Sh_find_28 : decode xb_Sh_find 28 = .ok (.aaload, 1) := by decide +kernel
theorem xd_Sh_find_29 : decode xb_Sh_find 29 = .ok (.getfield 24, 3) := by decide +kernel
theorem xd_Sh_find_32 : decode xb_Sh_find 32 = .ok (.iload_n 2, 1) := by decide +kernel
theorem xd_Sh_find_33 : decode xb_Sh_find 33 = .ok (.if_icmp .ne 10, 3) := by decide +kernel
theorem xd_Sh_find_36 : decode xb_Sh_find 36 = .ok (.aload_n 0, 1) := by decide +kernel
theorem xd_Sh_find_37 : decode xb_Sh_find 37 = .ok (.getfield 11, 3) := by decide +kernel
theorem xd_Sh_find_40 : decode xb_Sh_find 40 = .ok (.iload_n 3, 1) := by decide +kernel
theorem xd_Sh_find_41 : decode xb_Sh_find 41 = .ok (.aaload, 1) := by decide +kernel
theorem xd_Sh_find_42 : decode xb_Sh_find 42 = .ok (.areturn, 1) := by decide +kernel
theorem xd_Sh_find_43 : decode xb_Sh_find 43 = .ok (.iinc 3 1, 3) := by decide +kernel
theorem xd_Sh_find_46 : decode xb_Sh_find 46 = .ok (.goto (-44), 3) := by decide +kernel
theorem xd_Sh_find_49 : decode xb_Sh_find 49 = .ok (.aconst_null, 1) := by decide +kernel
theorem xd_Sh_find_50 : decode xb_Sh_find 50 = .ok (.areturn, 1) := by decide +kernel
theorem xd_Sh_isFinder_0 : decode xb_Sh_isFinder 0 = .ok (.iload_n 0, 1) := by decide +kernel
theorem xd_Sh_isFinder_1 : decode xb_Sh_isFinder 1 = .ok (.ifCond .eq 8, 3) := by decide +kernel
theorem xd_Sh_isFinder_4 : decode xb_Sh_isFinder 4 = .ok (.iload_n 0, 1) := by decide +kernel
theorem xd_Sh_isFinder_5 : decode xb_Sh_isFinder 5 = .ok (.iconst 1, 1) := by decide +kernel
theorem xd_Sh_isFinder_6 : decode xb_Sh_isFinder 6 = .ok (.if_icmp .ne 7, 3) := by decide +kernel
theorem xd_Sh_isFinder_9 : decode xb_Sh_isFinder 9 = .ok (.iconst 1, 1) := by decide +kernel
theorem xd_Sh_isFinder_10 : decode xb_Sh_isFinder 10 = .ok (.goto 4, 3) := by decide +kernel
theorem xd_Sh_isFinder_13 : decode xb_Sh_isFinder 13 = .ok (.iconst 0, 1) := by decide +kernel
theorem xd_Sh_isFinder_14 : decode xb_Sh_isFinder 14 = .ok (.ireturn, 1) := by decide +kernel
theorem xd_Sh_latest_0 : decode xb_Sh_latest 0 = .ok (.aload_n 0, 1) := by decide +kernel
theorem xd_Sh_latest_1 : decode xb_Sh_latest 1 = .ok (.getfield 17, 3) := by decide +kernel
theorem xd_Sh_latest_4 : decode xb_Sh_latest 4 = .ok (.ifCond .ne 7, 3) := by decide +kernel
theorem xd_Sh_latest_7 : decode xb_Sh_latest 7 = .ok (.aconst_null, 1) := by decide +kernel
theorem xd_Sh_latest_8 : decode xb_Sh_latest 8 = .ok (.goto 14, 3) := by decide +kernel
theorem xd_Sh_latest_11 : decode xb_Sh_latest 11 = .ok (.aload_n 0, 1) := by decide +kernel
theorem xd_Sh_latest_12 : decode xb_Sh_latest 12 = .ok (.getfield 11, 3) := by decide +kernel
theorem xd_Sh_latest_15 : decode xb_Sh_latest 15 = .ok (.aload_n 0, 1) := by decide +kernel
theorem xd_Sh_latest_16 : decode xb_Sh_latest 16 = .ok (.getfield 17, 3) := by decide +kernel
theorem xd_Sh_latest_19 : decode xb_Sh_latest 19 = .ok (.iconst 1, 1) := by decide +kernel
theorem xd_Sh_latest_20 : decode xb_Sh_latest 20 = .ok (.isub, 1) := by decide +kernel
theorem xd_Sh_latest_21 : decode xb_Sh_latest 21 = .ok (.aaload, 1) := by decide +kernel
theorem xd_Sh_latest_22 : decode xb_Sh_latest 22 = .ok (.areturn, 1) := by decide +kernel
theorem yo_0 : (Cond.fieldLink "LayerDesk" 38 "LayerDesk" "made" "I") ∈ wT := wT_t (List.mem_append_left _ (List.mem_of_getElem? (i := 103) rfl)) rfl
theorem yo_1 : (Cond.fieldLink "LayerDesk" 34 "LayerDesk" "layers" "[LLayerDesk$Layer;") ∈ wT := wT_t (List.mem_append_left _ (List.mem_of_getElem? (i := 102) rfl)) rfl
theorem yo_2 : (Cond.fieldLink "LayerDesk" 117 "LayerDesk$Layer" "open" "Z") ∈ wT := wT_t (List.mem_append_right _ (List.mem_append_right _ (List.mem_append_left _ (List.mem_of_getElem? (i := 152) rfl)))) rfl
theorem yo_3 : (Cond.code xy_De_openLayer xb_De_openLayer 3 (some (.object "LayerDesk$Layer"))) ∈ wT := wT_t (List.mem_append_left _ (List.mem_of_getElem? (i := 137) rfl)) rfl
theorem yo_4 : (Cond.methodLink "LayerDesk" 68 xy_De_openLayer) ∈ wT := wT_t (List.mem_append_left _ (List.mem_of_getElem? (i := 134) rfl)) rfl
theorem yo_5 : (Cond.instanceMethod xy_De_openLayer) ∈ wT := wT_t (List.mem_append_left _ (List.mem_of_getElem? (i := 136) rfl)) rfl
theorem yo_6 : (Cond.selects "LayerDesk" xy_De_openLayer xy_De_openLayer) ∈ wT := wT_s (q := (xy_De_openLayer, 6)) (by decide +kernel) rfl
theorem yo_7 : (Cond.initialized "LayerDesk") ∈ wT := wT_t (List.mem_append_left _ (List.mem_of_getElem? (i := 1) rfl)) rfl
theorem yo_8 : (Cond.fieldLink "LayerDesk" 128 "LayerDesk$Layer" "members" "[LLayerDesk$Member;") ∈ wT := wT_t (List.mem_append_right _ (List.mem_append_right _ (List.mem_append_left _ (List.mem_of_getElem? (i := 150) rfl)))) rfl
theorem yo_9 : (Cond.code xy_Ly_withDescriptor xb_Ly_withDescriptor 3 (some (.object "LayerDesk$Member"))) ∈ wT := wT_t (List.mem_append_left _ (List.mem_of_getElem? (i := 173) rfl)) rfl
theorem yo_10 : (Cond.methodLink "LayerDesk" 195 xy_Ly_withDescriptor) ∈ wT := wT_t (List.mem_append_left _ (List.mem_of_getElem? (i := 170) rfl)) rfl
theorem yo_11 : (Cond.instanceMethod xy_Ly_withDescriptor) ∈ wT := wT_t (List.mem_append_left _ (List.mem_of_getElem? (i := 171) rfl)) rfl
theorem yo_12 : (Cond.selects "LayerDesk$Layer" xy_Ly_withDescriptor xy_Ly_withDescriptor) ∈ wT := wT_t (List.mem_append_left _ (List.mem_of_getElem? (i := 172) rfl)) rfl
theorem yo_13 : (Cond.initialized "LayerDesk$Layer") ∈ wT := wT_t (List.mem_append_left _ (List.mem_of_getElem? (i := 19) rfl)) rfl
theorem yo_15 : (Cond.fieldLink "LayerDesk" 19 "LayerDesk" "shelf" "LLayerDesk$Shelf;") ∈ wT := wT_t (List.mem_append_left _ (List.mem_of_getElem? (i := 100) rfl)) rfl
theorem yo_16 : (Cond.fieldLink "LayerDesk" 121 "LayerDesk$Shelf" "size" "I") ∈ wT := wT_t (List.mem_append_left _ (List.mem_of_getElem? (i := 67) rfl)) rfl
theorem yo_17 : (Cond.code xy_De_countOpen xb_De_countOpen 3 (some .int)) ∈ wT := wT_t (List.mem_append_left _ (List.mem_of_getElem? (i := 149) rfl)) rfl
theorem yo_18 : (Cond.methodLink "LayerDesk" 124 xy_De_countOpen) ∈ wT := wT_t (List.mem_append_left _ (List.mem_of_getElem? (i := 146) rfl)) rfl
theorem yo_19 : (Cond.instanceMethod xy_De_countOpen) ∈ wT := wT_t (List.mem_append_left _ (List.mem_of_getElem? (i := 148) rfl)) rfl
theorem yo_20 : (Cond.selects "LayerDesk" xy_De_countOpen xy_De_countOpen) ∈ wT := wT_s (q := (xy_De_countOpen, 6)) (by decide +kernel) rfl
theorem yo_21 : (Cond.code xy_De_memberAt xb_De_memberAt 4 (some (.object "LayerDesk$Member"))) ∈ wT := wT_t (List.mem_append_left _ (List.mem_of_getElem? (i := 161) rfl)) rfl
theorem yo_22 : (Cond.methodLink "LayerDesk" 132 xy_De_memberAt) ∈ wT := wT_t (List.mem_append_left _ (List.mem_of_getElem? (i := 158) rfl)) rfl
theorem yo_23 : (Cond.instanceMethod xy_De_memberAt) ∈ wT := wT_t (List.mem_append_left _ (List.mem_of_getElem? (i := 160) rfl)) rfl
theorem yo_24 : (Cond.selects "LayerDesk" xy_De_memberAt xy_De_memberAt) ∈ wT := wT_s (q := (xy_De_memberAt, 6)) (by decide +kernel) rfl
theorem yo_25 : (Cond.fieldLink "LayerDesk" 136 "LayerDesk$Member" "descriptor" "LLayerDesk$Descriptor;") ∈ wT := wT_t (List.mem_append_right _ (List.mem_append_right _ (List.mem_append_left _ (List.mem_of_getElem? (i := 185) rfl)))) rfl
theorem yo_26 : (Cond.fieldLink "LayerDesk" 142 "LayerDesk$Descriptor" "number" "I") ∈ wT := wT_t (List.mem_append_right _ (List.mem_append_left _ (List.mem_of_getElem? (i := 50) rfl))) rfl
theorem yo_27 : (Cond.code xy_De_memberOf xb_De_memberOf 4 (some (.object "LayerDesk$Member"))) ∈ wT := wT_t (List.mem_append_left _ (List.mem_of_getElem? (i := 169) rfl)) rfl
theorem yo_28 : (Cond.methodLink "LayerDesk" 145 xy_De_memberOf) ∈ wT := wT_t (List.mem_append_left _ (List.mem_of_getElem? (i := 166) rfl)) rfl
theorem yo_29 : (Cond.instanceMethod xy_De_memberOf) ∈ wT := wT_t (List.mem_append_left _ (List.mem_of_getElem? (i := 168) rfl)) rfl
theorem yo_30 : (Cond.selects "LayerDesk" xy_De_memberOf xy_De_memberOf) ∈ wT := wT_s (q := (xy_De_memberOf, 6)) (by decide +kernel) rfl
theorem yo_31 : (Cond.fieldLink "LayerDesk" 148 "LayerDesk$Member" "reading" "LLayerDesk$Reach;") ∈ wT := wT_t (List.mem_append_right _ (List.mem_append_right _ (List.mem_append_left _ (List.mem_of_getElem? (i := 192) rfl)))) rfl
theorem yo_32 : (Cond.code xy_Re_marks xb_Re_marks 2 (some .boolean)) ∈ wT := wT_t (List.mem_append_left _ (List.mem_of_getElem? (i := 177) rfl)) rfl
theorem yo_33 : (Cond.methodLink "LayerDesk" 152 xy_Re_marks) ∈ wT := wT_t (List.mem_append_left _ (List.mem_of_getElem? (i := 174) rfl)) rfl
theorem yo_34 : (Cond.instanceMethod xy_Re_marks) ∈ wT := wT_t (List.mem_append_left _ (List.mem_of_getElem? (i := 175) rfl)) rfl
theorem yo_35 : (Cond.selects "LayerDesk$Reach" xy_Re_marks xy_Re_marks) ∈ wT := wT_t (List.mem_append_left _ (List.mem_of_getElem? (i := 176) rfl)) rfl
theorem yo_36 : (Cond.initialized "LayerDesk$Reach") ∈ wT := wT_t (List.mem_append_left _ (List.mem_of_getElem? (i := 21) rfl)) rfl
theorem yo_37 : (Cond.fieldLink "LayerDesk" 42 "LayerDesk" "latestFault" "I") ∈ wT := wT_t (List.mem_append_left _ (List.mem_of_getElem? (i := 104) rfl)) rfl
set_option maxHeartbeats 4000000 in
set_option maxRecDepth 100000 in
theorem xc_De_openLayer (l : Launch) (D : va_G) (kA : Nat → ClassId) (sz : Nat) (ad : Nat → Nat → Nat) (E : Nat → Nat → va_E) (RL : List (Nat × Nat)) (ml : Nat) (nd : Nat) (len : Nat) (wn : Nat) (cs : Nat) (ix : Int32) (hCI : CI kA ad E RL ml nd len wn cs) : Met l xy_De_openLayer (.code xy_De_openLayer xb_De_openLayer 3 (some (.object "LayerDesk$Layer")) :: wT) { frames := 0, cells := 0, slots := 0, locals := 0 } (va_Pc [.ref (ad 0 0), .int ix] (xPre D kA sz (rp ad E RL))) (va_Qq (fun (r : Option Nat) (u : Unit) => r = none ∨ ∃ x, x < ml ∧ ix = nI x ∧ r = some (ad (20 + x) 0)) (fun (u : Unit) t => va_P D xcl (rp ad E RL) t.heap ∧ va_D (va_A (rp ad E RL) sz) (rp ad E RL)) (va_A (rp ad E RL) sz)) 0 0 (va_A (rp ad E RL) sz) := by
  refine Met.ofW (cc := xb_De_openLayer) (maxL := 3) (ret := (some (.object "LayerDesk$Layer"))) (by decide) rfl ?_
  intro p e s m args below meth c s₁ B hml hv
  obtain ⟨rfl, hsz, hP, hK, hD0⟩ := hv
  have hx := B.exec
  have hb := B.bytes
  have hr := B.returns
  have hT := x_hT B.pre
  have hown : s.vm.findClass xR_De = some m.cls := findClass_of_methodNamed B.named
  have hlocks := B.notSynchronized
  subst hsz
  have hD := hD0.self (sz := s.heap.size)
  generalize hAe : va_A (rp ad E RL) s.heap.size = A at hD ⊢
  have hA : ∀ q : Nat, s.heap.size ≤ q → A q := fun q h => by rw [← hAe]; exact Or.inr h
  have hS : va_S A s.heap s.heap [] := va_S.rf
  have hl := lv_entry ([.ref (ad 0 0), .int ix]) (n := 3) (Nat.le_of_ble_eq_true rfl)
  rw [lg_entry_eq]
  generalize (lg_sl ([.ref (ad 0 0), .int ix]) ++ List.replicate (3 - (lg_sl ([.ref (ad 0 0), .int ix])).length) Slot.unset).toArray = ls at hl ⊢
  have hl : lv_has ls 3 [(0, .ref (ad 0 0)), (1, .int ix)] := hl
  have hP : va_P D xcl (rp ad E RL) s.heap := hP
  obtain ⟨hmB, hDk, hLi, hSh, hCh, hLa, hDIs, hLIs⟩ := id hCI
  obtain ⟨lf_1, q_1⟩ := id (hDk)
  have c_2 : E 0 0 = .inr (0, [.ref (ad 0 1), .ref (ad 0 5), .ref (ad 0 7), .ref (ad 0 9), .int (nI ml), .int lf_1]) := q_1
  have m_3 : (0, 0) ∈ RL := hmB 0 (by decide)
  obtain ⟨fl_4, hml_4, q9_4, hla_4⟩ := id (hLa)
  have c_5 : E 0 9 = .inl (kA 5, 5, .inr (.inr (.inr (.inr fl_4)))) := q9_4
  have m_6 : (0, 9) ∈ RL := hmB 9 (by decide)
  refine lv_iload_n hx hb xd_De_openLayer_0 rfl (lv_at hl 1 rfl) ?_
  refine lv_if_lt (tgt := 12) hx hb xd_De_openLayer_1 (by decide) (fun hc7 => ?_) (fun hc7 => ?_)
  · refine lv_null hx hb xd_De_openLayer_12 ?_
    exact W.aret (v := .null) hx hb hr (Or.inl ⟨_, rfl⟩) (Or.inl rfl) (fun t ht hW => ⟨⟨none, (), rfl, Or.inl rfl, by rw [ht]; exact hP, hD⟩, hS.F ht⟩) hS.2.2 xd_De_openLayer_13
  · obtain ⟨x, hx31, hix⟩ := nI_of hc7
    rw [xb_31] at hx31
    rw [hix] at hl
    refine lv_iload_n hx hb xd_De_openLayer_4 rfl (lv_at hl 1 rfl) ?_
    refine lv_aload_n hx hb xd_De_openLayer_5 rfl (lv_at hl 0 rfl) ?_
    refine px_get (D := D) (ci := 0) (v := .int (nI ml)) (C := xR_De) (T := xT_De) (N := 6) hx hb hT xi_De hown hK.1 hP m_3 c_2 rfl 4 (by decide) (hT _ yo_0) (fun _ h9 => h9) rfl xd_De_openLayer_6 ?_
    refine xn_lt (a := x) (b := ml) (tgt := 14) hx hb xd_De_openLayer_9 (by decide) (by omega) (by omega) (fun hc8 => ?_) (fun hc8 => ?_)
    · refine lv_aload_n hx hb xd_De_openLayer_14 rfl (lv_at hl 0 rfl) ?_
      refine px_get (D := D) (ci := 0) (v := .ref (ad 0 9)) (C := xR_De) (T := xT_De) (N := 6) hx hb hT xi_De hown hK.1 hP m_3 c_2 rfl 3 (by decide) (hT _ yo_1) (fun _ h9 => h9) rfl xd_De_openLayer_15 ?_
      refine lv_iload_n hx hb xd_De_openLayer_18 rfl (lv_at hl 1 rfl) ?_
      refine px_aald (i := x) (x := (some (ad (20 + x) 0))) hx hb hK.1 hP m_6 c_5 5 rfl (hla_4 x (by omega)) (by omega) (by decide) xd_De_openLayer_19 ?_
      refine lv_astore_n hx hb xd_De_openLayer_20 rfl hl (Nat.le_of_ble_eq_true rfl) rfl (fun ls hl => ?_)
      have hl : lv_has ls 3 [(2, .ref (ad (20 + x) 0)), (0, .ref (ad 0 0)), (1, .int (nI x))] := hl
      refine lv_aload_n hx hb xd_De_openLayer_21 rfl (lv_at hl 0 rfl) ?_
      refine lv_ifnull hx hb xd_De_openLayer_22 ?_
      refine lv_aload_n hx hb xd_De_openLayer_25 rfl (lv_at hl 0 rfl) ?_
      obtain ⟨m0_9, m1_9, pv_9, op_9, mk_9, fm_9, hmk_9, hpv_9, q0_9, q1_9, hk_9⟩ := id (hLIs x (by omega))
      have c_10 : E (20 + x) 0 = .inr (5, [.int (nI x), pv_9, .ref (ad (20 + x) 1), .int op_9]) := q0_9
      have m_11 : (20 + x, 0) ∈ RL := m0_9
      have c_12 : E (20 + x) 1 = .inl (kA 6, mk_9, .inr (.inr (.inr (.inr fm_9)))) := q1_9
      have m_13 : (20 + x, 1) ∈ RL := m1_9
      refine px_get (D := D) (ci := 5) (v := .int op_9) (C := xR_Ly) (T := xT_Ly) (N := 4) hx hb hT xi_Ly hown hK.1 hP m_11 c_10 rfl 3 (by decide) (hT _ yo_2) (fun _ h9 => h9) rfl xd_De_openLayer_26 ?_
      refine lv_if_eq (tgt := 36) hx hb xd_De_openLayer_29 (by decide) (fun hc14 => ?_) (fun hc14 => ?_)
      · refine lv_null hx hb xd_De_openLayer_36 ?_
        exact W.aret (v := .null) hx hb hr (Or.inl ⟨_, rfl⟩) (Or.inl rfl) (fun t ht hW => ⟨⟨none, (), rfl, Or.inl rfl, by rw [ht]; exact hP, hD⟩, hS.F ht⟩) hS.2.2 xd_De_openLayer_37
      · refine lv_aload_n hx hb xd_De_openLayer_32 rfl (lv_at hl 0 rfl) ?_
        refine lv_goto (tgt := 37) hx hb xd_De_openLayer_33 (by decide) ?_
        exact W.aret (v := .ref (ad (20 + x) 0)) hx hb hr (Or.inl ⟨_, rfl⟩) (Or.inr ⟨_, rfl⟩) (fun t ht hW => ⟨⟨(some (ad (20 + x) 0)), (), rfl, Or.inr ⟨x, by omega, hix, rfl⟩, by rw [ht]; exact hP, hD⟩, hS.F ht⟩) hS.2.2 xd_De_openLayer_37
    · refine lv_null hx hb xd_De_openLayer_12 ?_
      exact W.aret (v := .null) hx hb hr (Or.inl ⟨_, rfl⟩) (Or.inl rfl) (fun t ht hW => ⟨⟨none, (), rfl, Or.inl rfl, by rw [ht]; exact hP, hD⟩, hS.F ht⟩) hS.2.2 xd_De_openLayer_13
set_option maxHeartbeats 4000000 in
set_option maxRecDepth 100000 in
theorem xc_De_memberAt (l : Launch) (D : va_G) (kA : Nat → ClassId) (sz : Nat) (ad : Nat → Nat → Nat) (E : Nat → Nat → va_E) (RL : List (Nat × Nat)) (ml : Nat) (nd : Nat) (len : Nat) (wn : Nat) (cs : Nat) (ix : Int32) (kx : Int32) (hCI : CI kA ad E RL ml nd len wn cs) : Met l xy_De_memberAt (.code xy_De_memberAt xb_De_memberAt 4 (some (.object "LayerDesk$Member")) :: wT) { frames := 1, cells := 0, slots := 0, locals := 22 } (va_Pc [.ref (ad 0 0), .int ix, .int kx] (xPre D kA sz (rp ad E RL))) (va_Qq (fun (r : Option Nat) (u : Unit) => r = none ∨ ∃ x k, x < ml ∧ r = some (ad (20 + x) (10 + 10 * k)) ∧ MEI kA ad E RL nd x k) (fun (u : Unit) t => va_P D xcl (rp ad E RL) t.heap ∧ va_D (va_A (rp ad E RL) sz) (rp ad E RL)) (va_A (rp ad E RL) sz)) 0 0 (va_A (rp ad E RL) sz) := by
  refine Met.ofW (cc := xb_De_memberAt) (maxL := 4) (ret := (some (.object "LayerDesk$Member"))) (by decide) rfl ?_
  intro p e s m args below meth c s₁ B hml hv
  obtain ⟨rfl, hsz, hP, hK, hD0⟩ := hv
  have hx := B.exec
  have hb := B.bytes
  have hr := B.returns
  have hT := x_hT B.pre
  have hown : s.vm.findClass xR_De = some m.cls := findClass_of_methodNamed B.named
  have hlocks := B.notSynchronized
  subst hsz
  have hD := hD0.self (sz := s.heap.size)
  generalize hAe : va_A (rp ad E RL) s.heap.size = A at hD ⊢
  have hA : ∀ q : Nat, s.heap.size ≤ q → A q := fun q h => by rw [← hAe]; exact Or.inr h
  have hS : va_S A s.heap s.heap [] := va_S.rf
  have hl := lv_entry ([.ref (ad 0 0), .int ix, .int kx]) (n := 4) (Nat.le_of_ble_eq_true rfl)
  rw [lg_entry_eq]
  generalize (lg_sl ([.ref (ad 0 0), .int ix, .int kx]) ++ List.replicate (4 - (lg_sl ([.ref (ad 0 0), .int ix, .int kx])).length) Slot.unset).toArray = ls at hl ⊢
  have hl : lv_has ls 4 [(0, .ref (ad 0 0)), (1, .int ix), (2, .int kx)] := hl
  have hP : va_P D xcl (rp ad E RL) s.heap := hP
  obtain ⟨hmB, hDk, hLi, hSh, hCh, hLa, hDIs, hLIs⟩ := id hCI
  obtain ⟨fl_1, hml_1, q9_1, hla_1⟩ := id (hLa)
  have c_2 : E 0 9 = .inl (kA 5, 5, .inr (.inr (.inr (.inr fl_1)))) := q9_1
  have m_3 : (0, 9) ∈ RL := hmB 9 (by decide)
  refine lv_aload_n hx hb xd_De_memberAt_0 rfl (lv_at hl 0 rfl) ?_
  refine lv_iload_n hx hb xd_De_memberAt_1 rfl (lv_at hl 1 rfl) ?_
  have hFc := px_free hD hS hA
  obtain ⟨lf_4, q_4⟩ := id (hDk)
  have c_5 : E 0 0 = .inr (0, [.ref (ad 0 1), .ref (ad 0 5), .ref (ad 0 7), .ref (ad 0 9), .int (nI ml), .int lf_4]) := q_4
  have m_6 : (0, 0) ∈ RL := hmB 0 (by decide)
  refine va_callq (va_runV (As := [.int ix]) (rest := []) ⟨hx, hb, hml, hown, hT⟩ (xc_De_openLayer l D kA s.heap.size ad E RL ml nd len wn cs ix (by first | assumption | omega)) (cwV 1 hT (wT_V yo_4 yo_5 yo_6 yo_7 yo_3) rfl rfl rfl (by decide +kernel) ⟨Nat.le_of_ble_eq_true rfl, Nat.le_of_ble_eq_true rfl⟩) (px_preV hK hP hD m_6 c_5 rfl) rfl rfl hl.1 rfl (lv_room (Nat.le_of_ble_eq_true rfl)) xd_De_memberAt_2 ⟨(Nat.le_of_ble_eq_true rfl), (Nat.le_of_ble_eq_true rfl)⟩) hS (fun q _ h => hFc q h) hFc (fun r7 u8 t H1 locs ht hvm hp9 hB hz1 hk1 hS => ?_)
  obtain ⟨hP1, hD1⟩ := hB
  rw [ht] at hP1
  have hD1 := hD1.weaken (fun _ _ _ h => hFc _ h)
  generalize H1 = H at hP1 hS ⊢
  have hP := hP1
  have hD := hD1
  have hP : va_P D xcl (rp ad E RL) H := hP
  have hD : va_D A (rp ad E RL) := hD
  rcases hp9 with rfl | ⟨z10, z11, z12, rfl⟩
  · refine W.eq (g2 := F0 m 5 ls [.null]) rfl ?_
    refine lv_astore_nN hx hb xd_De_memberAt_5 rfl hl (Nat.le_of_ble_eq_true rfl) rfl (fun ls hl => ?_)
    have hl : lv_has ls 4 [(3, .null), (0, .ref (ad 0 0)), (1, .int ix), (2, .int kx)] := hl
    refine lv_aload_nN hx hb xd_De_memberAt_6 rfl (lv_at hl 0 rfl) ?_
    refine lv_ifnullN (tgt := 23) hx hb xd_De_memberAt_7 (by decide) ?_
    refine lv_null hx hb xd_De_memberAt_23 ?_
    refine lv_goto (tgt := 33) hx hb xd_De_memberAt_24 (by decide) ?_
    exact W.aret (v := .null) hx hb hr (Or.inl ⟨_, rfl⟩) (Or.inl rfl) (fun t ht hW => ⟨⟨none, (), rfl, Or.inl rfl, by rw [ht]; exact hP, hD⟩, hS.F ht⟩) hS.2.2 xd_De_memberAt_33
  · refine W.eq (g2 := F0 m 5 ls [.ref (ad (20 + z10) 0)]) rfl ?_
    refine lv_astore_n hx hb xd_De_memberAt_5 rfl hl (Nat.le_of_ble_eq_true rfl) rfl (fun ls hl => ?_)
    have hl : lv_has ls 4 [(3, .ref (ad (20 + z10) 0)), (0, .ref (ad 0 0)), (1, .int ix), (2, .int kx)] := hl
    refine lv_aload_n hx hb xd_De_memberAt_6 rfl (lv_at hl 0 rfl) ?_
    refine lv_ifnull hx hb xd_De_memberAt_7 ?_
    refine lv_iload_n hx hb xd_De_memberAt_10 rfl (lv_at hl 3 rfl) ?_
    refine lv_if_lt (tgt := 23) hx hb xd_De_memberAt_11 (by decide) (fun hc13 => ?_) (fun hc13 => ?_)
    · refine lv_null hx hb xd_De_memberAt_23 ?_
      refine lv_goto (tgt := 33) hx hb xd_De_memberAt_24 (by decide) ?_
      exact W.aret (v := .null) hx hb hr (Or.inl ⟨_, rfl⟩) (Or.inl rfl) (fun t ht hW => ⟨⟨none, (), rfl, Or.inl rfl, by rw [ht]; exact hP, hD⟩, hS.F ht⟩) hS.2.2 xd_De_memberAt_33
    · obtain ⟨kn, hkn31, hkn⟩ := nI_of hc13
      rw [xb_31] at hkn31
      rw [hkn] at hl
      refine lv_iload_n hx hb xd_De_memberAt_14 rfl (lv_at hl 3 rfl) ?_
      refine lv_aload_n hx hb xd_De_memberAt_15 rfl (lv_at hl 0 rfl) ?_
      obtain ⟨m0_14, m1_14, pv_14, op_14, mk_14, fm_14, hmk_14, hpv_14, q0_14, q1_14, hk_14⟩ := id (hLIs z10 (by omega))
      have c_15 : E (20 + z10) 0 = .inr (5, [.int (nI z10), pv_14, .ref (ad (20 + z10) 1), .int op_14]) := q0_14
      have m_16 : (20 + z10, 0) ∈ RL := m0_14
      have c_17 : E (20 + z10) 1 = .inl (kA 6, mk_14, .inr (.inr (.inr (.inr fm_14)))) := q1_14
      have m_18 : (20 + z10, 1) ∈ RL := m1_14
      refine px_get (D := D) (ci := 5) (v := .ref (ad (20 + z10) 1)) (C := xR_Ly) (T := xT_Ly) (N := 4) hx hb hT xi_Ly hown hK.1 hP m_16 c_15 rfl 2 (by decide) (hT _ yo_8) (fun _ h9 => h9) rfl xd_De_memberAt_16 ?_
      refine px_alen hx hb hK.1 hP m_18 c_17 6 rfl xd_De_memberAt_19 ?_
      refine W.eq (g2 := F0 m 20 ls [.int (nI mk_14), .int (nI kn)]) rfl ?_
      refine xn_lt (a := kn) (b := mk_14) (tgt := 27) hx hb xd_De_memberAt_20 (by decide) (by omega) (by omega) (fun hc19 => ?_) (fun hc19 => ?_)
      · refine lv_aload_n hx hb xd_De_memberAt_27 rfl (lv_at hl 0 rfl) ?_
        refine px_get (D := D) (ci := 5) (v := .ref (ad (20 + z10) 1)) (C := xR_Ly) (T := xT_Ly) (N := 4) hx hb hT xi_Ly hown hK.1 hP m_16 c_15 rfl 2 (by decide) (hT _ yo_8) (fun _ h9 => h9) rfl xd_De_memberAt_28 ?_
        refine lv_iload_n hx hb xd_De_memberAt_31 rfl (lv_at hl 3 rfl) ?_
        refine px_aald (i := kn) (x := (some (ad (20 + z10) (10 + 10 * kn)))) hx hb hK.1 hP m_18 c_17 6 rfl ((hk_14 kn (by omega)).1) (by omega) (by omega) xd_De_memberAt_32 ?_
        exact W.aret (v := .ref (ad (20 + z10) (10 + 10 * kn))) hx hb hr (Or.inl ⟨_, rfl⟩) (Or.inr ⟨_, rfl⟩) (fun t ht hW => ⟨⟨(some (ad (20 + z10) (10 + 10 * kn))), (), rfl, Or.inr ⟨z10, kn, by omega, rfl, (hk_14 kn (by omega)).2⟩, by rw [ht]; exact hP, hD⟩, hS.F ht⟩) hS.2.2 xd_De_memberAt_33
      · refine lv_null hx hb xd_De_memberAt_23 ?_
        refine lv_goto (tgt := 33) hx hb xd_De_memberAt_24 (by decide) ?_
        exact W.aret (v := .null) hx hb hr (Or.inl ⟨_, rfl⟩) (Or.inl rfl) (fun t ht hW => ⟨⟨none, (), rfl, Or.inl rfl, by rw [ht]; exact hP, hD⟩, hS.F ht⟩) hS.2.2 xd_De_memberAt_33
set_option maxHeartbeats 4000000 in
set_option maxRecDepth 100000 in
theorem xc_De_memberOf (l : Launch) (D : va_G) (kA : Nat → ClassId) (sz : Nat) (ad : Nat → Nat → Nat) (E : Nat → Nat → va_E) (RL : List (Nat × Nat)) (ml : Nat) (nd : Nat) (len : Nat) (wn : Nat) (cs : Nat) (ix : Int32) (dx : Int32) (hCI : CI kA ad E RL ml nd len wn cs) : Met l xy_De_memberOf (.code xy_De_memberOf xb_De_memberOf 4 (some (.object "LayerDesk$Member")) :: wT) { frames := 1, cells := 0, slots := 0, locals := 22 } (va_Pc [.ref (ad 0 0), .int ix, .int dx] (xPre D kA sz (rp ad E RL))) (va_Qq (fun (r : Option Nat) (u : Unit) => r = none ∨ ∃ x k, x < ml ∧ r = some (ad (20 + x) (10 + 10 * k)) ∧ MEI kA ad E RL nd x k) (fun (u : Unit) t => va_P D xcl (rp ad E RL) t.heap ∧ va_D (va_A (rp ad E RL) sz) (rp ad E RL)) (va_A (rp ad E RL) sz)) 0 0 (va_A (rp ad E RL) sz) := by
  refine Met.ofW (cc := xb_De_memberOf) (maxL := 4) (ret := (some (.object "LayerDesk$Member"))) (by decide) rfl ?_
  intro p e s m args below meth c s₁ B hml hv
  obtain ⟨rfl, hsz, hP, hK, hD0⟩ := hv
  have hx := B.exec
  have hb := B.bytes
  have hr := B.returns
  have hT := x_hT B.pre
  have hown : s.vm.findClass xR_De = some m.cls := findClass_of_methodNamed B.named
  have hlocks := B.notSynchronized
  subst hsz
  have hD := hD0.self (sz := s.heap.size)
  generalize hAe : va_A (rp ad E RL) s.heap.size = A at hD ⊢
  have hA : ∀ q : Nat, s.heap.size ≤ q → A q := fun q h => by rw [← hAe]; exact Or.inr h
  have hS : va_S A s.heap s.heap [] := va_S.rf
  have hl := lv_entry ([.ref (ad 0 0), .int ix, .int dx]) (n := 4) (Nat.le_of_ble_eq_true rfl)
  rw [lg_entry_eq]
  generalize (lg_sl ([.ref (ad 0 0), .int ix, .int dx]) ++ List.replicate (4 - (lg_sl ([.ref (ad 0 0), .int ix, .int dx])).length) Slot.unset).toArray = ls at hl ⊢
  have hl : lv_has ls 4 [(0, .ref (ad 0 0)), (1, .int ix), (2, .int dx)] := hl
  have hP : va_P D xcl (rp ad E RL) s.heap := hP
  obtain ⟨hmB, hDk, hLi, hSh, hCh, hLa, hDIs, hLIs⟩ := id hCI
  obtain ⟨fl_1, hml_1, q9_1, hla_1⟩ := id (hLa)
  have c_2 : E 0 9 = .inl (kA 5, 5, .inr (.inr (.inr (.inr fl_1)))) := q9_1
  have m_3 : (0, 9) ∈ RL := hmB 9 (by decide)
  refine lv_aload_n hx hb xd_De_memberOf_0 rfl (lv_at hl 0 rfl) ?_
  refine lv_iload_n hx hb xd_De_memberOf_1 rfl (lv_at hl 1 rfl) ?_
  have hFc := px_free hD hS hA
  obtain ⟨lf_4, q_4⟩ := id (hDk)
  have c_5 : E 0 0 = .inr (0, [.ref (ad 0 1), .ref (ad 0 5), .ref (ad 0 7), .ref (ad 0 9), .int (nI ml), .int lf_4]) := q_4
  have m_6 : (0, 0) ∈ RL := hmB 0 (by decide)
  refine va_callq (va_runV (As := [.int ix]) (rest := []) ⟨hx, hb, hml, hown, hT⟩ (xc_De_openLayer l D kA s.heap.size ad E RL ml nd len wn cs ix (by first | assumption | omega)) (cwV 1 hT (wT_V yo_4 yo_5 yo_6 yo_7 yo_3) rfl rfl rfl (by decide +kernel) ⟨Nat.le_of_ble_eq_true rfl, Nat.le_of_ble_eq_true rfl⟩) (px_preV hK hP hD m_6 c_5 rfl) rfl rfl hl.1 rfl (lv_room (Nat.le_of_ble_eq_true rfl)) xd_De_memberOf_2 ⟨(Nat.le_of_ble_eq_true rfl), (Nat.le_of_ble_eq_true rfl)⟩) hS (fun q _ h => hFc q h) hFc (fun r7 u8 t H1 locs ht hvm hp9 hB hz1 hk1 hS => ?_)
  obtain ⟨hP1, hD1⟩ := hB
  rw [ht] at hP1
  have hD1 := hD1.weaken (fun _ _ _ h => hFc _ h)
  generalize H1 = H at hP1 hS ⊢
  have hP := hP1
  have hD := hD1
  have hP : va_P D xcl (rp ad E RL) H := hP
  have hD : va_D A (rp ad E RL) := hD
  rcases hp9 with rfl | ⟨z10, z11, z12, rfl⟩
  · refine W.eq (g2 := F0 m 5 ls [.null]) rfl ?_
    refine lv_astore_nN hx hb xd_De_memberOf_5 rfl hl (Nat.le_of_ble_eq_true rfl) rfl (fun ls hl => ?_)
    have hl : lv_has ls 4 [(3, .null), (0, .ref (ad 0 0)), (1, .int ix), (2, .int dx)] := hl
    refine lv_aload_nN hx hb xd_De_memberOf_6 rfl (lv_at hl 0 rfl) ?_
    refine lv_ifnonnullN hx hb xd_De_memberOf_7 ?_
    refine lv_null hx hb xd_De_memberOf_10 ?_
    refine lv_goto (tgt := 19) hx hb xd_De_memberOf_11 (by decide) ?_
    exact W.aret (v := .null) hx hb hr (Or.inl ⟨_, rfl⟩) (Or.inl rfl) (fun t ht hW => ⟨⟨none, (), rfl, Or.inl rfl, by rw [ht]; exact hP, hD⟩, hS.F ht⟩) hS.2.2 xd_De_memberOf_19
  · refine W.eq (g2 := F0 m 5 ls [.ref (ad (20 + z10) 0)]) rfl ?_
    refine lv_astore_n hx hb xd_De_memberOf_5 rfl hl (Nat.le_of_ble_eq_true rfl) rfl (fun ls hl => ?_)
    have hl : lv_has ls 4 [(3, .ref (ad (20 + z10) 0)), (0, .ref (ad 0 0)), (1, .int ix), (2, .int dx)] := hl
    refine lv_aload_n hx hb xd_De_memberOf_6 rfl (lv_at hl 0 rfl) ?_
    refine lv_ifnonnull (tgt := 14) hx hb xd_De_memberOf_7 (by decide) ?_
    refine lv_aload_n hx hb xd_De_memberOf_14 rfl (lv_at hl 0 rfl) ?_
    refine lv_iload_n hx hb xd_De_memberOf_15 rfl (lv_at hl 3 rfl) ?_
    have hFc := px_free hD hS hA
    obtain ⟨m0_13, m1_13, pv_13, op_13, mk_13, fm_13, hmk_13, hpv_13, q0_13, q1_13, hk_13⟩ := id (hLIs z10 (by omega))
    have c_14 : E (20 + z10) 0 = .inr (5, [.int (nI z10), pv_13, .ref (ad (20 + z10) 1), .int op_13]) := q0_13
    have m_15 : (20 + z10, 0) ∈ RL := m0_13
    have c_16 : E (20 + z10) 1 = .inl (kA 6, mk_13, .inr (.inr (.inr (.inr fm_13)))) := q1_13
    have m_17 : (20 + z10, 1) ∈ RL := m1_13
    refine va_callq (va_runV (As := [.int dx]) (rest := []) ⟨hx, hb, hml, hown, hT⟩ (xc_Ly_withDescriptor l D kA H.size ad E RL nd ml z10 dx (by first | assumption | omega) (by first | assumption | omega) (by first | assumption | omega) (by first | assumption | omega)) (cwV 1 hT (wT_V yo_10 yo_11 yo_12 yo_13 yo_9) rfl rfl rfl (by decide +kernel) ⟨Nat.le_of_ble_eq_true rfl, Nat.le_of_ble_eq_true rfl⟩) (px_preV hK hP hD m_15 c_14 rfl) rfl rfl hl.1 rfl (lv_room (Nat.le_of_ble_eq_true rfl)) xd_De_memberOf_16 ⟨(Nat.le_of_ble_eq_true rfl), (Nat.le_of_ble_eq_true rfl)⟩) hS (fun q _ h => hFc q h) hFc (fun r18 u19 t H1 locs ht hvm hp20 hB hz1 hk1 hS => ?_)
    obtain ⟨hP1, hD1⟩ := hB
    rw [ht] at hP1
    have hD1 := hD1.weaken (fun _ _ _ h => hFc _ h)
    generalize H1 = H at hP1 hS ⊢
    have hP := hP1
    have hD := hD1
    have hP : va_P D xcl (rp ad E RL) H := hP
    have hD : va_D A (rp ad E RL) := hD
    rcases hp20 with rfl | ⟨z21, z22, z23, rfl, z24⟩
    · refine W.eq (g2 := F0 m 19 ls [.null]) rfl ?_
      exact W.aret (v := .null) hx hb hr (Or.inl ⟨_, rfl⟩) (Or.inl rfl) (fun t ht hW => ⟨⟨none, (), rfl, Or.inl rfl, by rw [ht]; exact hP, hD⟩, hS.F ht⟩) hS.2.2 xd_De_memberOf_19
    · refine W.eq (g2 := F0 m 19 ls [.ref (ad (20 + z21) (10 + 10 * z22))]) rfl ?_
      exact W.aret (v := .ref (ad (20 + z21) (10 + 10 * z22))) hx hb hr (Or.inl ⟨_, rfl⟩) (Or.inr ⟨_, rfl⟩) (fun t ht hW => ⟨⟨(some (ad (20 + z21) (10 + 10 * z22))), (), rfl, Or.inr ⟨z21, z22, by omega, rfl, z24⟩, by rw [ht]; exact hP, hD⟩, hS.F ht⟩) hS.2.2 xd_De_memberOf_19
set_option maxHeartbeats 4000000 in
set_option maxRecDepth 100000 in
theorem xc_De_countOpen (l : Launch) (D : va_G) (kA : Nat → ClassId) (sz : Nat) (ad : Nat → Nat → Nat) (E : Nat → Nat → va_E) (RL : List (Nat × Nat)) (ml : Nat) (nd : Nat) (len : Nat) (wn : Nat) (cs : Nat) (hCI : CI kA ad E RL ml nd len wn cs) : Met l xy_De_countOpen (.code xy_De_countOpen xb_De_countOpen 3 (some .int) :: wT) { frames := 1, cells := 0, slots := 0, locals := 22 } (va_Pc [.ref (ad 0 0)] (xPre D kA sz (rp ad E RL))) (va_Qi (fun (r : Int32) (u : Unit) => True) (fun (u : Unit) t => va_P D xcl (rp ad E RL) t.heap ∧ va_D (va_A (rp ad E RL) sz) (rp ad E RL)) (va_A (rp ad E RL) sz)) 0 0 (va_A (rp ad E RL) sz) := by
  refine Met.ofW (cc := xb_De_countOpen) (maxL := 3) (ret := (some .int)) (by decide) rfl ?_
  intro p e s m args below meth c s₁ B hml hv
  obtain ⟨rfl, hsz, hP, hK, hD0⟩ := hv
  have hx := B.exec
  have hb := B.bytes
  have hr := B.returns
  have hT := x_hT B.pre
  have hown : s.vm.findClass xR_De = some m.cls := findClass_of_methodNamed B.named
  have hlocks := B.notSynchronized
  subst hsz
  have hD := hD0.self (sz := s.heap.size)
  generalize hAe : va_A (rp ad E RL) s.heap.size = A at hD ⊢
  have hA : ∀ q : Nat, s.heap.size ≤ q → A q := fun q h => by rw [← hAe]; exact Or.inr h
  have hS : va_S A s.heap s.heap [] := va_S.rf
  have hl := lv_entry ([.ref (ad 0 0)]) (n := 3) (Nat.le_of_ble_eq_true rfl)
  rw [lg_entry_eq]
  generalize (lg_sl ([.ref (ad 0 0)]) ++ List.replicate (3 - (lg_sl ([.ref (ad 0 0)])).length) Slot.unset).toArray = ls at hl ⊢
  have hl : lv_has ls 3 [(0, .ref (ad 0 0))] := hl
  have hP : va_P D xcl (rp ad E RL) s.heap := hP
  obtain ⟨hmB, hDk, hLi, hSh, hCh, hLa, hDIs, hLIs⟩ := id hCI
  obtain ⟨lf_1, q_1⟩ := id (hDk)
  have c_2 : E 0 0 = .inr (0, [.ref (ad 0 1), .ref (ad 0 5), .ref (ad 0 7), .ref (ad 0 9), .int (nI ml), .int lf_1]) := q_1
  have m_3 : (0, 0) ∈ RL := hmB 0 (by decide)
  obtain ⟨fl_4, hml_4, q9_4, hla_4⟩ := id (hLa)
  have c_5 : E 0 9 = .inl (kA 5, 5, .inr (.inr (.inr (.inr fl_4)))) := q9_4
  have m_6 : (0, 9) ∈ RL := hmB 9 (by decide)
  refine lv_iconst (v := 0) hx hb xd_De_countOpen_0 (by decide) ?_
  refine lv_istore_n hx hb xd_De_countOpen_1 rfl hl (Nat.le_of_ble_eq_true rfl) rfl (fun ls hl => ?_)
  have hl : lv_has ls 3 [(1, .int 0), (0, .ref (ad 0 0))] := hl
  refine lv_iconst (v := 0) hx hb xd_De_countOpen_2 (by decide) ?_
  refine lv_istore_n hx hb xd_De_countOpen_3 rfl hl (Nat.le_of_ble_eq_true rfl) rfl (fun ls hl => ?_)
  have hl : lv_has ls 3 [(2, .int 0), (1, .int 0), (0, .ref (ad 0 0))] := hl
  refine xlab (σ := Nat × Int32) (ml := 3) 4 (fun (i, cn9) => [(2, .int (nI i)), (1, .int cn9), (0, .ref (ad 0 0))]) (fun (i, cn9) => []) (fun (i, cn9) => rp ad E RL) (fun (i, cn9) => (i ≤ ml)) (fun (i, cn9) => ml - i) ?_ (0, 0) _ _ _ (lv_sub hl [0, 1, 2] rfl) hP hD hS (show 0 ≤ ml from by first | assumption | omega)
  intro n9 ih7 a9 ls H locs hμ hl hP hD hS hI
  subst hμ
  obtain ⟨i, cn9⟩ := a9
  have hi : i ≤ ml := hI
  have hl : lv_has ls 3 [(2, .int (nI i)), (1, .int cn9), (0, .ref (ad 0 0))] := hl
  have hP : va_P D xcl (rp ad E RL) H := hP
  have hD : va_D A (rp ad E RL) := hD
  refine lv_iload_n hx hb xd_De_countOpen_4 rfl (lv_at hl 0 rfl) ?_
  refine lv_aload_n hx hb xd_De_countOpen_5 rfl (lv_at hl 2 rfl) ?_
  refine px_get (D := D) (ci := 0) (v := .int (nI ml)) (C := xR_De) (T := xT_De) (N := 6) hx hb hT xi_De hown hK.1 hP m_3 c_2 rfl 4 (by decide) (hT _ yo_0) (fun _ h9 => h9) rfl xd_De_countOpen_6 ?_
  refine xn_ge (a := i) (b := ml) (tgt := 29) hx hb xd_De_countOpen_9 (by decide) (by omega) (by omega) (fun hc8 => ?_) (fun hc8 => ?_)
  · refine lv_iload_n hx hb xd_De_countOpen_29 rfl (lv_at hl 1 rfl) ?_
    exact W.iret (v := cn9) hx hb hr (fun t ht hW => ⟨⟨cn9, (), rfl, trivial, by rw [ht]; exact hP, hD⟩, hS.F ht⟩) hS.2.2 xd_De_countOpen_30
  · refine lv_aload_n hx hb xd_De_countOpen_12 rfl (lv_at hl 2 rfl) ?_
    refine lv_iload_n hx hb xd_De_countOpen_13 rfl (lv_at hl 0 rfl) ?_
    have hFc := px_free hD hS hA
    refine va_callq (va_runV (As := [.int (nI i)]) (rest := []) ⟨hx, hb, hml, hown, hT⟩ (xc_De_openLayer l D kA H.size ad E RL ml nd len wn cs (nI i) (by first | assumption | omega)) (cwV 1 hT (wT_V yo_4 yo_5 yo_6 yo_7 yo_3) rfl rfl rfl (by decide +kernel) ⟨Nat.le_of_ble_eq_true rfl, Nat.le_of_ble_eq_true rfl⟩) (px_preV hK hP hD m_3 c_2 rfl) rfl rfl hl.1 rfl (lv_room (Nat.le_of_ble_eq_true rfl)) xd_De_countOpen_14 ⟨(Nat.le_of_ble_eq_true rfl), (Nat.le_of_ble_eq_true rfl)⟩) hS (fun q _ h => hFc q h) hFc (fun r9 u10 t H1 locs ht hvm hp11 hB hz1 hk1 hS => ?_)
    obtain ⟨hP1, hD1⟩ := hB
    rw [ht] at hP1
    have hD1 := hD1.weaken (fun _ _ _ h => hFc _ h)
    generalize H1 = H at hP1 hS ⊢
    have hP := hP1
    have hD := hD1
    have hP : va_P D xcl (rp ad E RL) H := hP
    have hD : va_D A (rp ad E RL) := hD
    rcases hp11 with rfl | ⟨z12, z13, z14, rfl⟩
    · refine W.eq (g2 := F0 m 17 ls [.null]) rfl ?_
      refine lv_ifnullN (tgt := 23) hx hb xd_De_countOpen_17 (by decide) ?_
      refine lv_iinc (k := 0) (x := (nI i)) (v := (nI (i + 1))) hx hb xd_De_countOpen_23 hl rfl (xb_inc i 1) (Nat.le_of_ble_eq_true rfl) rfl (fun ls hl => ?_)
      have hl : lv_has ls 3 [(2, .int (nI (i + 1))), (1, .int cn9), (0, .ref (ad 0 0))] := hl
      refine lv_goto (tgt := 4) hx hb xd_De_countOpen_26 (by decide) ?_
      exact ih7 (i + 1, cn9) _ _ _ (show ml - (i + 1) < ml - i by omega) (lv_sub hl [0, 1, 2] rfl) hP hD hS (show (i + 1) ≤ ml from by first | assumption | omega)
    · refine W.eq (g2 := F0 m 17 ls [.ref (ad (20 + z12) 0)]) rfl ?_
      refine lv_ifnull hx hb xd_De_countOpen_17 ?_
      refine lv_iinc (k := 1) (x := cn9) (v := (cn9 + Int32.ofInt 1)) hx hb xd_De_countOpen_20 hl rfl rfl (Nat.le_of_ble_eq_true rfl) rfl (fun ls hl => ?_)
      have hl : lv_has ls 3 [(1, .int (cn9 + Int32.ofInt 1)), (2, .int (nI i)), (0, .ref (ad 0 0))] := hl
      refine lv_iinc (k := 1) (x := (nI i)) (v := (nI (i + 1))) hx hb xd_De_countOpen_23 hl rfl (xb_inc i 1) (Nat.le_of_ble_eq_true rfl) rfl (fun ls hl => ?_)
      have hl : lv_has ls 3 [(2, .int (nI (i + 1))), (1, .int (cn9 + Int32.ofInt 1)), (0, .ref (ad 0 0))] := hl
      refine lv_goto (tgt := 4) hx hb xd_De_countOpen_26 (by decide) ?_
      exact ih7 (i + 1, (cn9 + Int32.ofInt 1)) _ _ _ (show ml - (i + 1) < ml - i by omega) (lv_sub hl [0, 1, 2] rfl) hP hD hS (show (i + 1) ≤ ml from by first | assumption | omega)
set_option maxHeartbeats 4000000 in
set_option maxRecDepth 100000 in
theorem xc_De_count (l : Launch) (D : va_G) (kA : Nat → ClassId) (sz : Nat) (ad : Nat → Nat → Nat) (E : Nat → Nat → va_E) (RL : List (Nat × Nat)) (ml : Nat) (nd : Nat) (len : Nat) (wn : Nat) (cs : Nat) (wh : Int32) (hCI : CI kA ad E RL ml nd len wn cs) : Met l xy_De_count (.code xy_De_count xb_De_count 2 (some .int) :: wT) { frames := 2, cells := 0, slots := 0, locals := 44 } (va_Pc [.ref (ad 0 0), .int wh] (xPre D kA sz (rp ad E RL))) (va_Qi (fun (r : Int32) (u : Unit) => True) (fun (u : Unit) t => va_P D xcl (rp ad E RL) t.heap ∧ va_D (va_A (rp ad E RL) sz) (rp ad E RL)) (va_A (rp ad E RL) sz)) 0 0 (va_A (rp ad E RL) sz) := by
  refine Met.ofW (cc := xb_De_count) (maxL := 2) (ret := (some .int)) (by decide) rfl ?_
  intro p e s m args below meth c s₁ B hml hv
  obtain ⟨rfl, hsz, hP, hK, hD0⟩ := hv
  have hx := B.exec
  have hb := B.bytes
  have hr := B.returns
  have hT := x_hT B.pre
  have hown : s.vm.findClass xR_De = some m.cls := findClass_of_methodNamed B.named
  have hlocks := B.notSynchronized
  subst hsz
  have hD := hD0.self (sz := s.heap.size)
  generalize hAe : va_A (rp ad E RL) s.heap.size = A at hD ⊢
  have hA : ∀ q : Nat, s.heap.size ≤ q → A q := fun q h => by rw [← hAe]; exact Or.inr h
  have hS : va_S A s.heap s.heap [] := va_S.rf
  have hl := lv_entry ([.ref (ad 0 0), .int wh]) (n := 2) (Nat.le_of_ble_eq_true rfl)
  rw [lg_entry_eq]
  generalize (lg_sl ([.ref (ad 0 0), .int wh]) ++ List.replicate (2 - (lg_sl ([.ref (ad 0 0), .int wh])).length) Slot.unset).toArray = ls at hl ⊢
  have hl : lv_has ls 2 [(0, .ref (ad 0 0)), (1, .int wh)] := hl
  have hP : va_P D xcl (rp ad E RL) s.heap := hP
  obtain ⟨hmB, hDk, hLi, hSh, hCh, hLa, hDIs, hLIs⟩ := id hCI
  obtain ⟨lf_1, q_1⟩ := id (hDk)
  have c_2 : E 0 0 = .inr (0, [.ref (ad 0 1), .ref (ad 0 5), .ref (ad 0 7), .ref (ad 0 9), .int (nI ml), .int lf_1]) := q_1
  have m_3 : (0, 0) ∈ RL := hmB 0 (by decide)
  refine lv_iload_n hx hb xd_De_count_0 rfl (lv_at hl 1 rfl) ?_
  by_cases hw4 : wh = 0
  · refine lv_tableIn (off := 27) (tgt := 28) hx hb xd_De_count_1 (by rw [hw4]; decide) (by rw [hw4]; decide) (by rw [hw4]; rfl) (by decide) ?_
    refine lv_aload_n hx hb xd_De_count_28 rfl (lv_at hl 0 rfl) ?_
    refine px_get (D := D) (ci := 0) (v := .ref (ad 0 5)) (C := xR_De) (T := xT_De) (N := 6) hx hb hT xi_De hown hK.1 hP m_3 c_2 rfl 1 (by decide) (hT _ yo_15) (fun _ h9 => h9) rfl xd_De_count_29 ?_
    obtain ⟨fd_5, hnd_5, q5_5, q6_5, hds_5⟩ := id (hSh)
    have c_6 : E 0 5 = .inr (2, [.ref (ad 0 6), .int (nI nd)]) := q5_5
    have m_7 : (0, 5) ∈ RL := hmB 5 (by decide)
    have c_8 : E 0 6 = .inl (kA 4, 12, .inr (.inr (.inr (.inr fd_5)))) := q6_5
    have m_9 : (0, 6) ∈ RL := hmB 6 (by decide)
    refine px_get (D := D) (ci := 2) (v := .int (nI nd)) (C := xR_Sh) (T := xT_Sh) (N := 2) hx hb hT xi_Sh hown hK.1 hP m_7 c_6 rfl 1 (by decide) (hT _ yo_16) (fun _ h9 => h9) rfl xd_De_count_32 ?_
    exact W.iret (v := (nI nd)) hx hb hr (fun t ht hW => ⟨⟨(nI nd), (), rfl, trivial, by rw [ht]; exact hP, hD⟩, hS.F ht⟩) hS.2.2 xd_De_count_35
  by_cases hw10 : wh = 1
  · refine lv_tableIn (off := 35) (tgt := 36) hx hb xd_De_count_1 (by rw [hw10]; decide) (by rw [hw10]; decide) (by rw [hw10]; rfl) (by decide) ?_
    refine lv_aload_n hx hb xd_De_count_36 rfl (lv_at hl 0 rfl) ?_
    refine px_get (D := D) (ci := 0) (v := .int (nI ml)) (C := xR_De) (T := xT_De) (N := 6) hx hb hT xi_De hown hK.1 hP m_3 c_2 rfl 4 (by decide) (hT _ yo_0) (fun _ h9 => h9) rfl xd_De_count_37 ?_
    exact W.iret (v := (nI ml)) hx hb hr (fun t ht hW => ⟨⟨(nI ml), (), rfl, trivial, by rw [ht]; exact hP, hD⟩, hS.F ht⟩) hS.2.2 xd_De_count_40
  by_cases hw11 : wh = 2
  · refine lv_tableIn (off := 40) (tgt := 41) hx hb xd_De_count_1 (by rw [hw11]; decide) (by rw [hw11]; decide) (by rw [hw11]; rfl) (by decide) ?_
    refine lv_aload_n hx hb xd_De_count_41 rfl (lv_at hl 0 rfl) ?_
    have hFc := px_free hD hS hA
    refine va_calli (va_runV (As := []) (rest := []) ⟨hx, hb, hml, hown, hT⟩ (xc_De_countOpen l D kA s.heap.size ad E RL ml nd len wn cs (by first | assumption | omega)) (cwV 0 hT (wT_V yo_18 yo_19 yo_20 yo_7 yo_17) rfl rfl rfl (by decide +kernel) ⟨Nat.le_of_ble_eq_true rfl, Nat.le_of_ble_eq_true rfl⟩) (px_preV hK hP hD m_3 c_2 rfl) rfl rfl hl.1 rfl (lv_room (Nat.le_of_ble_eq_true rfl)) xd_De_count_42 ⟨(Nat.le_of_ble_eq_true rfl), (Nat.le_of_ble_eq_true rfl)⟩) hS (fun q _ h => hFc q h) hFc (fun r12 u13 t H1 locs ht hvm hp14 hB hz1 hk1 hS => ?_)
    obtain ⟨hP1, hD1⟩ := hB
    rw [ht] at hP1
    have hD1 := hD1.weaken (fun _ _ _ h => hFc _ h)
    generalize H1 = H at hP1 hS ⊢
    have hP := hP1
    have hD := hD1
    have hP : va_P D xcl (rp ad E RL) H := hP
    have hD : va_D A (rp ad E RL) := hD
    exact W.iret (v := r12) hx hb hr (fun t ht hW => ⟨⟨r12, (), rfl, trivial, by rw [ht]; exact hP, hD⟩, hS.F ht⟩) hS.2.2 xd_De_count_45
  refine lv_tableOut (tgt := 46) hx hb xd_De_count_1 (by have a0 := lv_neT hw4 (show (0 : Int32).toInt = 0 by decide); have a1 := lv_neT hw10 (show (1 : Int32).toInt = 1 by decide); have a2 := lv_neT hw11 (show (2 : Int32).toInt = 2 by decide); omega) (by decide) ?_
  refine lv_iconst (v := (-1)) hx hb xd_De_count_46 (by decide) ?_
  exact W.iret (v := (-1)) hx hb hr (fun t ht hW => ⟨⟨(-1), (), rfl, trivial, by rw [ht]; exact hP, hD⟩, hS.F ht⟩) hS.2.2 xd_De_count_47
set_option maxHeartbeats 4000000 in
set_option maxRecDepth 100000 in
theorem xc_De_modules (l : Launch) (D : va_G) (kA : Nat → ClassId) (sz : Nat) (ad : Nat → Nat → Nat) (E : Nat → Nat → va_E) (RL : List (Nat × Nat)) (ml : Nat) (nd : Nat) (len : Nat) (wn : Nat) (cs : Nat) (ix : Int32) (hCI : CI kA ad E RL ml nd len wn cs) : Met l xy_De_modules (.code xy_De_modules xb_De_modules 3 (some .int) :: wT) { frames := 1, cells := 0, slots := 0, locals := 22 } (va_Pc [.ref (ad 0 0), .int ix] (xPre D kA sz (rp ad E RL))) (va_Qi (fun (r : Int32) (u : Unit) => True) (fun (u : Unit) t => va_P D xcl (rp ad E RL) t.heap ∧ va_D (va_A (rp ad E RL) sz) (rp ad E RL)) (va_A (rp ad E RL) sz)) 0 0 (va_A (rp ad E RL) sz) := by
  refine Met.ofW (cc := xb_De_modules) (maxL := 3) (ret := (some .int)) (by decide) rfl ?_
  intro p e s m args below meth c s₁ B hml hv
  obtain ⟨rfl, hsz, hP, hK, hD0⟩ := hv
  have hx := B.exec
  have hb := B.bytes
  have hr := B.returns
  have hT := x_hT B.pre
  have hown : s.vm.findClass xR_De = some m.cls := findClass_of_methodNamed B.named
  have hlocks := B.notSynchronized
  subst hsz
  have hD := hD0.self (sz := s.heap.size)
  generalize hAe : va_A (rp ad E RL) s.heap.size = A at hD ⊢
  have hA : ∀ q : Nat, s.heap.size ≤ q → A q := fun q h => by rw [← hAe]; exact Or.inr h
  have hS : va_S A s.heap s.heap [] := va_S.rf
  have hl := lv_entry ([.ref (ad 0 0), .int ix]) (n := 3) (Nat.le_of_ble_eq_true rfl)
  rw [lg_entry_eq]
  generalize (lg_sl ([.ref (ad 0 0), .int ix]) ++ List.replicate (3 - (lg_sl ([.ref (ad 0 0), .int ix])).length) Slot.unset).toArray = ls at hl ⊢
  have hl : lv_has ls 3 [(0, .ref (ad 0 0)), (1, .int ix)] := hl
  have hP : va_P D xcl (rp ad E RL) s.heap := hP
  obtain ⟨hmB, hDk, hLi, hSh, hCh, hLa, hDIs, hLIs⟩ := id hCI
  obtain ⟨fl_1, hml_1, q9_1, hla_1⟩ := id (hLa)
  have c_2 : E 0 9 = .inl (kA 5, 5, .inr (.inr (.inr (.inr fl_1)))) := q9_1
  have m_3 : (0, 9) ∈ RL := hmB 9 (by decide)
  refine lv_aload_n hx hb xd_De_modules_0 rfl (lv_at hl 0 rfl) ?_
  refine lv_iload_n hx hb xd_De_modules_1 rfl (lv_at hl 1 rfl) ?_
  have hFc := px_free hD hS hA
  obtain ⟨lf_4, q_4⟩ := id (hDk)
  have c_5 : E 0 0 = .inr (0, [.ref (ad 0 1), .ref (ad 0 5), .ref (ad 0 7), .ref (ad 0 9), .int (nI ml), .int lf_4]) := q_4
  have m_6 : (0, 0) ∈ RL := hmB 0 (by decide)
  refine va_callq (va_runV (As := [.int ix]) (rest := []) ⟨hx, hb, hml, hown, hT⟩ (xc_De_openLayer l D kA s.heap.size ad E RL ml nd len wn cs ix (by first | assumption | omega)) (cwV 1 hT (wT_V yo_4 yo_5 yo_6 yo_7 yo_3) rfl rfl rfl (by decide +kernel) ⟨Nat.le_of_ble_eq_true rfl, Nat.le_of_ble_eq_true rfl⟩) (px_preV hK hP hD m_6 c_5 rfl) rfl rfl hl.1 rfl (lv_room (Nat.le_of_ble_eq_true rfl)) xd_De_modules_2 ⟨(Nat.le_of_ble_eq_true rfl), (Nat.le_of_ble_eq_true rfl)⟩) hS (fun q _ h => hFc q h) hFc (fun r7 u8 t H1 locs ht hvm hp9 hB hz1 hk1 hS => ?_)
  obtain ⟨hP1, hD1⟩ := hB
  rw [ht] at hP1
  have hD1 := hD1.weaken (fun _ _ _ h => hFc _ h)
  generalize H1 = H at hP1 hS ⊢
  have hP := hP1
  have hD := hD1
  have hP : va_P D xcl (rp ad E RL) H := hP
  have hD : va_D A (rp ad E RL) := hD
  rcases hp9 with rfl | ⟨z10, z11, z12, rfl⟩
  · refine W.eq (g2 := F0 m 5 ls [.null]) rfl ?_
    refine lv_astore_nN hx hb xd_De_modules_5 rfl hl (Nat.le_of_ble_eq_true rfl) rfl (fun ls hl => ?_)
    have hl : lv_has ls 3 [(2, .null), (0, .ref (ad 0 0)), (1, .int ix)] := hl
    refine lv_aload_nN hx hb xd_De_modules_6 rfl (lv_at hl 0 rfl) ?_
    refine lv_ifnonnullN hx hb xd_De_modules_7 ?_
    refine lv_iconst (v := (-1)) hx hb xd_De_modules_10 (by decide) ?_
    refine lv_goto (tgt := 19) hx hb xd_De_modules_11 (by decide) ?_
    exact W.iret (v := (-1)) hx hb hr (fun t ht hW => ⟨⟨(-1), (), rfl, trivial, by rw [ht]; exact hP, hD⟩, hS.F ht⟩) hS.2.2 xd_De_modules_19
  · refine W.eq (g2 := F0 m 5 ls [.ref (ad (20 + z10) 0)]) rfl ?_
    refine lv_astore_n hx hb xd_De_modules_5 rfl hl (Nat.le_of_ble_eq_true rfl) rfl (fun ls hl => ?_)
    have hl : lv_has ls 3 [(2, .ref (ad (20 + z10) 0)), (0, .ref (ad 0 0)), (1, .int ix)] := hl
    refine lv_aload_n hx hb xd_De_modules_6 rfl (lv_at hl 0 rfl) ?_
    refine lv_ifnonnull (tgt := 14) hx hb xd_De_modules_7 (by decide) ?_
    refine lv_aload_n hx hb xd_De_modules_14 rfl (lv_at hl 0 rfl) ?_
    obtain ⟨m0_13, m1_13, pv_13, op_13, mk_13, fm_13, hmk_13, hpv_13, q0_13, q1_13, hk_13⟩ := id (hLIs z10 (by omega))
    have c_14 : E (20 + z10) 0 = .inr (5, [.int (nI z10), pv_13, .ref (ad (20 + z10) 1), .int op_13]) := q0_13
    have m_15 : (20 + z10, 0) ∈ RL := m0_13
    have c_16 : E (20 + z10) 1 = .inl (kA 6, mk_13, .inr (.inr (.inr (.inr fm_13)))) := q1_13
    have m_17 : (20 + z10, 1) ∈ RL := m1_13
    refine px_get (D := D) (ci := 5) (v := .ref (ad (20 + z10) 1)) (C := xR_Ly) (T := xT_Ly) (N := 4) hx hb hT xi_Ly hown hK.1 hP m_15 c_14 rfl 2 (by decide) (hT _ yo_8) (fun _ h9 => h9) rfl xd_De_modules_15 ?_
    refine px_alen hx hb hK.1 hP m_17 c_16 6 rfl xd_De_modules_18 ?_
    refine W.eq (g2 := F0 m 19 ls [.int (nI mk_13)]) rfl ?_
    exact W.iret (v := (nI mk_13)) hx hb hr (fun t ht hW => ⟨⟨(nI mk_13), (), rfl, trivial, by rw [ht]; exact hP, hD⟩, hS.F ht⟩) hS.2.2 xd_De_modules_19
set_option maxHeartbeats 4000000 in
set_option maxRecDepth 100000 in
theorem xc_De_module (l : Launch) (D : va_G) (kA : Nat → ClassId) (sz : Nat) (ad : Nat → Nat → Nat) (E : Nat → Nat → va_E) (RL : List (Nat × Nat)) (ml : Nat) (nd : Nat) (len : Nat) (wn : Nat) (cs : Nat) (ix : Int32) (kx : Int32) (hCI : CI kA ad E RL ml nd len wn cs) : Met l xy_De_module (.code xy_De_module xb_De_module 4 (some .int) :: wT) { frames := 2, cells := 0, slots := 0, locals := 45 } (va_Pc [.ref (ad 0 0), .int ix, .int kx] (xPre D kA sz (rp ad E RL))) (va_Qi (fun (r : Int32) (u : Unit) => True) (fun (u : Unit) t => va_P D xcl (rp ad E RL) t.heap ∧ va_D (va_A (rp ad E RL) sz) (rp ad E RL)) (va_A (rp ad E RL) sz)) 0 0 (va_A (rp ad E RL) sz) := by
  refine Met.ofW (cc := xb_De_module) (maxL := 4) (ret := (some .int)) (by decide) rfl ?_
  intro p e s m args below meth c s₁ B hml hv
  obtain ⟨rfl, hsz, hP, hK, hD0⟩ := hv
  have hx := B.exec
  have hb := B.bytes
  have hr := B.returns
  have hT := x_hT B.pre
  have hown : s.vm.findClass xR_De = some m.cls := findClass_of_methodNamed B.named
  have hlocks := B.notSynchronized
  subst hsz
  have hD := hD0.self (sz := s.heap.size)
  generalize hAe : va_A (rp ad E RL) s.heap.size = A at hD ⊢
  have hA : ∀ q : Nat, s.heap.size ≤ q → A q := fun q h => by rw [← hAe]; exact Or.inr h
  have hS : va_S A s.heap s.heap [] := va_S.rf
  have hl := lv_entry ([.ref (ad 0 0), .int ix, .int kx]) (n := 4) (Nat.le_of_ble_eq_true rfl)
  rw [lg_entry_eq]
  generalize (lg_sl ([.ref (ad 0 0), .int ix, .int kx]) ++ List.replicate (4 - (lg_sl ([.ref (ad 0 0), .int ix, .int kx])).length) Slot.unset).toArray = ls at hl ⊢
  have hl : lv_has ls 4 [(0, .ref (ad 0 0)), (1, .int ix), (2, .int kx)] := hl
  have hP : va_P D xcl (rp ad E RL) s.heap := hP
  obtain ⟨hmB, hDk, hLi, hSh, hCh, hLa, hDIs, hLIs⟩ := id hCI
  obtain ⟨fl_1, hml_1, q9_1, hla_1⟩ := id (hLa)
  have c_2 : E 0 9 = .inl (kA 5, 5, .inr (.inr (.inr (.inr fl_1)))) := q9_1
  have m_3 : (0, 9) ∈ RL := hmB 9 (by decide)
  refine lv_aload_n hx hb xd_De_module_0 rfl (lv_at hl 0 rfl) ?_
  refine lv_iload_n hx hb xd_De_module_1 rfl (lv_at hl 1 rfl) ?_
  refine lv_iload_n hx hb xd_De_module_2 rfl (lv_at hl 2 rfl) ?_
  have hFc := px_free hD hS hA
  obtain ⟨lf_4, q_4⟩ := id (hDk)
  have c_5 : E 0 0 = .inr (0, [.ref (ad 0 1), .ref (ad 0 5), .ref (ad 0 7), .ref (ad 0 9), .int (nI ml), .int lf_4]) := q_4
  have m_6 : (0, 0) ∈ RL := hmB 0 (by decide)
  refine va_callq (va_runV (As := [.int ix, .int kx]) (rest := []) ⟨hx, hb, hml, hown, hT⟩ (xc_De_memberAt l D kA s.heap.size ad E RL ml nd len wn cs ix kx (by first | assumption | omega)) (cwV 2 hT (wT_V yo_22 yo_23 yo_24 yo_7 yo_21) rfl rfl rfl (by decide +kernel) ⟨Nat.le_of_ble_eq_true rfl, Nat.le_of_ble_eq_true rfl⟩) (px_preV hK hP hD m_6 c_5 rfl) rfl rfl hl.1 rfl (lv_room (Nat.le_of_ble_eq_true rfl)) xd_De_module_3 ⟨(Nat.le_of_ble_eq_true rfl), (Nat.le_of_ble_eq_true rfl)⟩) hS (fun q _ h => hFc q h) hFc (fun r7 u8 t H1 locs ht hvm hp9 hB hz1 hk1 hS => ?_)
  obtain ⟨hP1, hD1⟩ := hB
  rw [ht] at hP1
  have hD1 := hD1.weaken (fun _ _ _ h => hFc _ h)
  generalize H1 = H at hP1 hS ⊢
  have hP := hP1
  have hD := hD1
  have hP : va_P D xcl (rp ad E RL) H := hP
  have hD : va_D A (rp ad E RL) := hD
  rcases hp9 with rfl | ⟨z10, z11, z12, rfl, z13⟩
  · refine W.eq (g2 := F0 m 6 ls [.null]) rfl ?_
    refine lv_astore_nN hx hb xd_De_module_6 rfl hl (Nat.le_of_ble_eq_true rfl) rfl (fun ls hl => ?_)
    have hl : lv_has ls 4 [(3, .null), (0, .ref (ad 0 0)), (1, .int ix), (2, .int kx)] := hl
    refine lv_aload_nN hx hb xd_De_module_7 rfl (lv_at hl 0 rfl) ?_
    refine lv_ifnonnullN hx hb xd_De_module_8 ?_
    refine lv_iconst (v := (-1)) hx hb xd_De_module_11 (by decide) ?_
    refine lv_goto (tgt := 22) hx hb xd_De_module_12 (by decide) ?_
    exact W.iret (v := (-1)) hx hb hr (fun t ht hW => ⟨⟨(-1), (), rfl, trivial, by rw [ht]; exact hP, hD⟩, hS.F ht⟩) hS.2.2 xd_De_module_22
  · refine W.eq (g2 := F0 m 6 ls [.ref (ad (20 + z10) (10 + 10 * z11))]) rfl ?_
    refine lv_astore_n hx hb xd_De_module_6 rfl hl (Nat.le_of_ble_eq_true rfl) rfl (fun ls hl => ?_)
    have hl : lv_has ls 4 [(3, .ref (ad (20 + z10) (10 + 10 * z11))), (0, .ref (ad 0 0)), (1, .int ix), (2, .int kx)] := hl
    refine lv_aload_n hx hb xd_De_module_7 rfl (lv_at hl 0 rfl) ?_
    refine lv_ifnonnull (tgt := 15) hx hb xd_De_module_8 (by decide) ?_
    refine lv_aload_n hx hb xd_De_module_15 rfl (lv_at hl 0 rfl) ?_
    obtain ⟨hm_14, d_14, rs_14, fr_14, g2_14, g3_14, g4_14, hd_14, hrs_14, q0_14, q1_14, q2_14, q3_14, q4_14, q5_14, q6_14, q7_14⟩ := id z13
    have c_15 : E (20 + z10) (10 + 10 * z11) = .inr (6, [.ref (ad (20 + z10) 0), .ref (ad (1 + d_14) 0), .ref (ad (20 + z10) (11 + 10 * z11)), .ref (ad (20 + z10) (12 + 10 * z11)), .ref (ad (20 + z10) (13 + 10 * z11)), .ref (ad (20 + z10) (14 + 10 * z11))]) := q0_14
    have m_16 : (20 + z10, 10 + 10 * z11) ∈ RL := hm_14 0 (by decide)
    have c_17 : E (20 + z10) (11 + 10 * z11) = .inl (kA 6, rs_14, .inr (.inr (.inr (.inr fr_14)))) := q1_14
    have m_18 : (20 + z10, 11 + 10 * z11) ∈ RL := hm_14 1 (by decide)
    have c_19 : E (20 + z10) (12 + 10 * z11) = .inr (10, [.ref (ad (20 + z10) (15 + 10 * z11))]) := q2_14
    have m_20 : (20 + z10, 12 + 10 * z11) ∈ RL := hm_14 2 (by decide)
    have c_21 : E (20 + z10) (13 + 10 * z11) = .inr (10, [.ref (ad (20 + z10) (16 + 10 * z11))]) := q3_14
    have m_22 : (20 + z10, 13 + 10 * z11) ∈ RL := hm_14 3 (by decide)
    have c_23 : E (20 + z10) (14 + 10 * z11) = .inr (10, [.ref (ad (20 + z10) (17 + 10 * z11))]) := q4_14
    have m_24 : (20 + z10, 14 + 10 * z11) ∈ RL := hm_14 4 (by decide)
    have c_25 : E (20 + z10) (15 + 10 * z11) = .inl (kA 0, 6, .inl g2_14) := q5_14
    have m_26 : (20 + z10, 15 + 10 * z11) ∈ RL := hm_14 5 (by decide)
    have c_27 : E (20 + z10) (16 + 10 * z11) = .inl (kA 0, 6, .inl g3_14) := q6_14
    have m_28 : (20 + z10, 16 + 10 * z11) ∈ RL := hm_14 6 (by decide)
    have c_29 : E (20 + z10) (17 + 10 * z11) = .inl (kA 0, 6, .inl g4_14) := q7_14
    have m_30 : (20 + z10, 17 + 10 * z11) ∈ RL := hm_14 7 (by decide)
    refine px_get (D := D) (ci := 6) (v := .ref (ad (1 + d_14) 0)) (C := xR_Me) (T := xT_Me) (N := 6) hx hb hT xi_Me hown hK.1 hP m_16 c_15 rfl 1 (by decide) (hT _ yo_25) (fun _ h9 => h9) rfl xd_De_module_16 ?_
    obtain ⟨hm_31, fd_31, nm_31, sd_31, k0_31, k1_31, k2_31, k3_31, f0_31, f1_31, f2_31, f3_31, fe_31, fo_31, tr_31, op_31, hk0_31, hk1_31, hk2_31, hk3_31, q0_31, q1_31, q2_31, q3_31, q4_31, q5_31, q6_31, q7_31, q8_31, q9_31, q10_31, q11_31, q12_31, hg_31⟩ := id (hDIs d_14 (by omega))
    have c_32 : E (1 + d_14) 0 = .inr (7, [.int (nI d_14), .int fd_31, .int nm_31, .ref (ad (1 + d_14) 1), .ref (ad (1 + d_14) 9), .ref (ad (1 + d_14) 10), .ref (ad (1 + d_14) 2), .ref (ad (1 + d_14) 11), .ref (ad (1 + d_14) 12), .ref (ad (1 + d_14) 3), .ref (ad (1 + d_14) 4), .int sd_31]) := q0_31
    have m_33 : (1 + d_14, 0) ∈ RL := hm_31 0 (by decide)
    have c_34 : E (1 + d_14) 1 = .inr (8, [.ref (ad (1 + d_14) 5), .int (nI k0_31)]) := q1_31
    have m_35 : (1 + d_14, 1) ∈ RL := hm_31 1 (by decide)
    have c_36 : E (1 + d_14) 2 = .inr (8, [.ref (ad (1 + d_14) 6), .int (nI k1_31)]) := q2_31
    have m_37 : (1 + d_14, 2) ∈ RL := hm_31 2 (by decide)
    have c_38 : E (1 + d_14) 3 = .inr (8, [.ref (ad (1 + d_14) 7), .int (nI k2_31)]) := q3_31
    have m_39 : (1 + d_14, 3) ∈ RL := hm_31 3 (by decide)
    have c_40 : E (1 + d_14) 4 = .inr (8, [.ref (ad (1 + d_14) 8), .int (nI k3_31)]) := q4_31
    have m_41 : (1 + d_14, 4) ∈ RL := hm_31 4 (by decide)
    have c_42 : E (1 + d_14) 5 = .inl (kA 0, 6, .inl f0_31) := q5_31
    have m_43 : (1 + d_14, 5) ∈ RL := hm_31 5 (by decide)
    have c_44 : E (1 + d_14) 6 = .inl (kA 0, 5, .inl f1_31) := q6_31
    have m_45 : (1 + d_14, 6) ∈ RL := hm_31 6 (by decide)
    have c_46 : E (1 + d_14) 7 = .inl (kA 0, 3, .inl f2_31) := q7_31
    have m_47 : (1 + d_14, 7) ∈ RL := hm_31 7 (by decide)
    have c_48 : E (1 + d_14) 8 = .inl (kA 0, 3, .inl f3_31) := q8_31
    have m_49 : (1 + d_14, 8) ∈ RL := hm_31 8 (by decide)
    have c_50 : E (1 + d_14) 9 = .inl (kA 8, 6, .inr (.inr (.inr (.inr fe_31)))) := q9_31
    have m_51 : (1 + d_14, 9) ∈ RL := hm_31 9 (by decide)
    have c_52 : E (1 + d_14) 10 = .inl (kA 8, 6, .inr (.inr (.inr (.inr fo_31)))) := q10_31
    have m_53 : (1 + d_14, 10) ∈ RL := hm_31 10 (by decide)
    have c_54 : E (1 + d_14) 11 = .inl (kA 2, 5, .inl tr_31) := q11_31
    have m_55 : (1 + d_14, 11) ∈ RL := hm_31 11 (by decide)
    have c_56 : E (1 + d_14) 12 = .inl (kA 2, 5, .inl op_31) := q12_31
    have m_57 : (1 + d_14, 12) ∈ RL := hm_31 12 (by decide)
    have hg_31 : ∀ w9, w9 < k0_31 → fe_31 w9 = some (ad (1 + d_14) (20 + 3 * w9)) ∧ fo_31 w9 = some (ad (1 + d_14) (38 + 3 * w9)) ∧ GI kA (ad (1 + d_14)) (E (1 + d_14)) (fun o => (1 + d_14, o) ∈ RL) (20 + 3 * w9) (21 + 3 * w9) (22 + 3 * w9) ∧ GI kA (ad (1 + d_14)) (E (1 + d_14)) (fun o => (1 + d_14, o) ∈ RL) (38 + 3 * w9) (39 + 3 * w9) (40 + 3 * w9) := hg_31
    refine px_get (D := D) (ci := 7) (v := .int (nI d_14)) (C := xR_Ds) (T := xT_Ds) (N := 12) hx hb hT xi_Ds hown hK.1 hP m_33 c_32 rfl 0 (by decide) (hT _ yo_26) (fun _ h9 => h9) rfl xd_De_module_19 ?_
    exact W.iret (v := (nI d_14)) hx hb hr (fun t ht hW => ⟨⟨(nI d_14), (), rfl, trivial, by rw [ht]; exact hP, hD⟩, hS.F ht⟩) hS.2.2 xd_De_module_22
set_option maxHeartbeats 4000000 in
set_option maxRecDepth 100000 in
theorem xc_De_reads (l : Launch) (D : va_G) (kA : Nat → ClassId) (sz : Nat) (ad : Nat → Nat → Nat) (E : Nat → Nat → va_E) (RL : List (Nat × Nat)) (ml : Nat) (nd : Nat) (len : Nat) (wn : Nat) (cs : Nat) (ix : Int32) (kx : Int32) (tx : Int32) (dx : Int32) (hCI : CI kA ad E RL ml nd len wn cs) : Met l xy_De_reads (.code xy_De_reads xb_De_reads 7 (some .boolean) :: wT) { frames := 2, cells := 0, slots := 0, locals := 45 } (va_Pc [.ref (ad 0 0), .int ix, .int kx, .int tx, .int dx] (xPre D kA sz (rp ad E RL))) (va_Qi (fun (r : Int32) (u : Unit) => r = 0 ∨ r = 1) (fun (u : Unit) t => va_P D xcl (rp ad E RL) t.heap ∧ va_D (va_A (rp ad E RL) sz) (rp ad E RL)) (va_A (rp ad E RL) sz)) 0 0 (va_A (rp ad E RL) sz) := by
  refine Met.ofW (cc := xb_De_reads) (maxL := 7) (ret := (some .boolean)) (by decide) rfl ?_
  intro p e s m args below meth c s₁ B hml hv
  obtain ⟨rfl, hsz, hP, hK, hD0⟩ := hv
  have hx := B.exec
  have hb := B.bytes
  have hr := B.returns
  have hT := x_hT B.pre
  have hown : s.vm.findClass xR_De = some m.cls := findClass_of_methodNamed B.named
  have hlocks := B.notSynchronized
  subst hsz
  have hD := hD0.self (sz := s.heap.size)
  generalize hAe : va_A (rp ad E RL) s.heap.size = A at hD ⊢
  have hA : ∀ q : Nat, s.heap.size ≤ q → A q := fun q h => by rw [← hAe]; exact Or.inr h
  have hS : va_S A s.heap s.heap [] := va_S.rf
  have hl := lv_entry ([.ref (ad 0 0), .int ix, .int kx, .int tx, .int dx]) (n := 7) (Nat.le_of_ble_eq_true rfl)
  rw [lg_entry_eq]
  generalize (lg_sl ([.ref (ad 0 0), .int ix, .int kx, .int tx, .int dx]) ++ List.replicate (7 - (lg_sl ([.ref (ad 0 0), .int ix, .int kx, .int tx, .int dx])).length) Slot.unset).toArray = ls at hl ⊢
  have hl : lv_has ls 7 [(0, .ref (ad 0 0)), (1, .int ix), (2, .int kx), (3, .int tx), (4, .int dx)] := hl
  have hP : va_P D xcl (rp ad E RL) s.heap := hP
  obtain ⟨hmB, hDk, hLi, hSh, hCh, hLa, hDIs, hLIs⟩ := id hCI
  obtain ⟨fl_1, hml_1, q9_1, hla_1⟩ := id (hLa)
  have c_2 : E 0 9 = .inl (kA 5, 5, .inr (.inr (.inr (.inr fl_1)))) := q9_1
  have m_3 : (0, 9) ∈ RL := hmB 9 (by decide)
  refine lv_aload_n hx hb xd_De_reads_0 rfl (lv_at hl 0 rfl) ?_
  refine lv_iload_n hx hb xd_De_reads_1 rfl (lv_at hl 1 rfl) ?_
  refine lv_iload_n hx hb xd_De_reads_2 rfl (lv_at hl 2 rfl) ?_
  have hFc := px_free hD hS hA
  obtain ⟨lf_4, q_4⟩ := id (hDk)
  have c_5 : E 0 0 = .inr (0, [.ref (ad 0 1), .ref (ad 0 5), .ref (ad 0 7), .ref (ad 0 9), .int (nI ml), .int lf_4]) := q_4
  have m_6 : (0, 0) ∈ RL := hmB 0 (by decide)
  refine va_callq (va_runV (As := [.int ix, .int kx]) (rest := []) ⟨hx, hb, hml, hown, hT⟩ (xc_De_memberAt l D kA s.heap.size ad E RL ml nd len wn cs ix kx (by first | assumption | omega)) (cwV 2 hT (wT_V yo_22 yo_23 yo_24 yo_7 yo_21) rfl rfl rfl (by decide +kernel) ⟨Nat.le_of_ble_eq_true rfl, Nat.le_of_ble_eq_true rfl⟩) (px_preV hK hP hD m_6 c_5 rfl) rfl rfl hl.1 rfl (lv_room (Nat.le_of_ble_eq_true rfl)) xd_De_reads_3 ⟨(Nat.le_of_ble_eq_true rfl), (Nat.le_of_ble_eq_true rfl)⟩) hS (fun q _ h => hFc q h) hFc (fun r7 u8 t H1 locs ht hvm hp9 hB hz1 hk1 hS => ?_)
  obtain ⟨hP1, hD1⟩ := hB
  rw [ht] at hP1
  have hD1 := hD1.weaken (fun _ _ _ h => hFc _ h)
  generalize H1 = H at hP1 hS ⊢
  have hP := hP1
  have hD := hD1
  have hP : va_P D xcl (rp ad E RL) H := hP
  have hD : va_D A (rp ad E RL) := hD
  rcases hp9 with rfl | ⟨z10, z11, z12, rfl, z13⟩
  · refine W.eq (g2 := F0 m 6 ls [.null]) rfl ?_
    refine lv_astoreN hx hb xd_De_reads_6 hl (Nat.le_of_ble_eq_true rfl) rfl (fun ls hl => ?_)
    have hl : lv_has ls 7 [(5, .null), (0, .ref (ad 0 0)), (1, .int ix), (2, .int kx), (3, .int tx), (4, .int dx)] := hl
    refine lv_aload_n hx hb xd_De_reads_8 rfl (lv_at hl 1 rfl) ?_
    refine lv_iload_n hx hb xd_De_reads_9 rfl (lv_at hl 4 rfl) ?_
    refine lv_iload hx hb xd_De_reads_10 (lv_at hl 5 rfl) ?_
    have hFc := px_free hD hS hA
    refine va_callq (va_runV (As := [.int tx, .int dx]) (rest := []) ⟨hx, hb, hml, hown, hT⟩ (xc_De_memberOf l D kA H.size ad E RL ml nd len wn cs tx dx (by first | assumption | omega)) (cwV 2 hT (wT_V yo_28 yo_29 yo_30 yo_7 yo_27) rfl rfl rfl (by decide +kernel) ⟨Nat.le_of_ble_eq_true rfl, Nat.le_of_ble_eq_true rfl⟩) (px_preV hK hP hD m_6 c_5 rfl) rfl rfl hl.1 rfl (lv_room (Nat.le_of_ble_eq_true rfl)) xd_De_reads_12 ⟨(Nat.le_of_ble_eq_true rfl), (Nat.le_of_ble_eq_true rfl)⟩) hS (fun q _ h => hFc q h) hFc (fun r14 u15 t H1 locs ht hvm hp16 hB hz1 hk1 hS => ?_)
    obtain ⟨hP1, hD1⟩ := hB
    rw [ht] at hP1
    have hD1 := hD1.weaken (fun _ _ _ h => hFc _ h)
    generalize H1 = H at hP1 hS ⊢
    have hP := hP1
    have hD := hD1
    have hP : va_P D xcl (rp ad E RL) H := hP
    have hD : va_D A (rp ad E RL) := hD
    rcases hp16 with rfl | ⟨z17, z18, z19, rfl, z20⟩
    · refine W.eq (g2 := F0 m 15 ls [.null]) rfl ?_
      refine lv_astoreN hx hb xd_De_reads_15 hl (Nat.le_of_ble_eq_true rfl) rfl (fun ls hl => ?_)
      have hl : lv_has ls 7 [(6, .null), (5, .null), (0, .ref (ad 0 0)), (1, .int ix), (2, .int kx), (3, .int tx), (4, .int dx)] := hl
      refine lv_aloadN hx hb xd_De_reads_17 (lv_at hl 1 rfl) ?_
      refine lv_ifnullN (tgt := 44) hx hb xd_De_reads_19 (by decide) ?_
      refine lv_iconst (v := 0) hx hb xd_De_reads_44 (by decide) ?_
      exact W.zret (v := 0) hx hb hr rfl (fun t ht hW => ⟨⟨0, (), rfl, Or.inl rfl, by rw [ht]; exact hP, hD⟩, hS.F ht⟩) hS.2.2 xd_De_reads_45
    · refine W.eq (g2 := F0 m 15 ls [.ref (ad (20 + z17) (10 + 10 * z18))]) rfl ?_
      refine lv_astore hx hb xd_De_reads_15 hl (Nat.le_of_ble_eq_true rfl) rfl (fun ls hl => ?_)
      have hl : lv_has ls 7 [(6, .ref (ad (20 + z17) (10 + 10 * z18))), (5, .null), (0, .ref (ad 0 0)), (1, .int ix), (2, .int kx), (3, .int tx), (4, .int dx)] := hl
      refine lv_aloadN hx hb xd_De_reads_17 (lv_at hl 1 rfl) ?_
      refine lv_ifnullN (tgt := 44) hx hb xd_De_reads_19 (by decide) ?_
      refine lv_iconst (v := 0) hx hb xd_De_reads_44 (by decide) ?_
      exact W.zret (v := 0) hx hb hr rfl (fun t ht hW => ⟨⟨0, (), rfl, Or.inl rfl, by rw [ht]; exact hP, hD⟩, hS.F ht⟩) hS.2.2 xd_De_reads_45
  · refine W.eq (g2 := F0 m 6 ls [.ref (ad (20 + z10) (10 + 10 * z11))]) rfl ?_
    refine lv_astore hx hb xd_De_reads_6 hl (Nat.le_of_ble_eq_true rfl) rfl (fun ls hl => ?_)
    have hl : lv_has ls 7 [(5, .ref (ad (20 + z10) (10 + 10 * z11))), (0, .ref (ad 0 0)), (1, .int ix), (2, .int kx), (3, .int tx), (4, .int dx)] := hl
    refine lv_aload_n hx hb xd_De_reads_8 rfl (lv_at hl 1 rfl) ?_
    refine lv_iload_n hx hb xd_De_reads_9 rfl (lv_at hl 4 rfl) ?_
    refine lv_iload hx hb xd_De_reads_10 (lv_at hl 5 rfl) ?_
    have hFc := px_free hD hS hA
    refine va_callq (va_runV (As := [.int tx, .int dx]) (rest := []) ⟨hx, hb, hml, hown, hT⟩ (xc_De_memberOf l D kA H.size ad E RL ml nd len wn cs tx dx (by first | assumption | omega)) (cwV 2 hT (wT_V yo_28 yo_29 yo_30 yo_7 yo_27) rfl rfl rfl (by decide +kernel) ⟨Nat.le_of_ble_eq_true rfl, Nat.le_of_ble_eq_true rfl⟩) (px_preV hK hP hD m_6 c_5 rfl) rfl rfl hl.1 rfl (lv_room (Nat.le_of_ble_eq_true rfl)) xd_De_reads_12 ⟨(Nat.le_of_ble_eq_true rfl), (Nat.le_of_ble_eq_true rfl)⟩) hS (fun q _ h => hFc q h) hFc (fun r21 u22 t H1 locs ht hvm hp23 hB hz1 hk1 hS => ?_)
    obtain ⟨hP1, hD1⟩ := hB
    rw [ht] at hP1
    have hD1 := hD1.weaken (fun _ _ _ h => hFc _ h)
    generalize H1 = H at hP1 hS ⊢
    have hP := hP1
    have hD := hD1
    have hP : va_P D xcl (rp ad E RL) H := hP
    have hD : va_D A (rp ad E RL) := hD
    rcases hp23 with rfl | ⟨z24, z25, z26, rfl, z27⟩
    · refine W.eq (g2 := F0 m 15 ls [.null]) rfl ?_
      refine lv_astoreN hx hb xd_De_reads_15 hl (Nat.le_of_ble_eq_true rfl) rfl (fun ls hl => ?_)
      have hl : lv_has ls 7 [(6, .null), (5, .ref (ad (20 + z10) (10 + 10 * z11))), (0, .ref (ad 0 0)), (1, .int ix), (2, .int kx), (3, .int tx), (4, .int dx)] := hl
      refine lv_aload hx hb xd_De_reads_17 (lv_at hl 1 rfl) ?_
      refine lv_ifnull hx hb xd_De_reads_19 ?_
      refine lv_aloadN hx hb xd_De_reads_22 (lv_at hl 0 rfl) ?_
      refine lv_ifnullN (tgt := 44) hx hb xd_De_reads_24 (by decide) ?_
      refine lv_iconst (v := 0) hx hb xd_De_reads_44 (by decide) ?_
      exact W.zret (v := 0) hx hb hr rfl (fun t ht hW => ⟨⟨0, (), rfl, Or.inl rfl, by rw [ht]; exact hP, hD⟩, hS.F ht⟩) hS.2.2 xd_De_reads_45
    · refine W.eq (g2 := F0 m 15 ls [.ref (ad (20 + z24) (10 + 10 * z25))]) rfl ?_
      refine lv_astore hx hb xd_De_reads_15 hl (Nat.le_of_ble_eq_true rfl) rfl (fun ls hl => ?_)
      have hl : lv_has ls 7 [(6, .ref (ad (20 + z24) (10 + 10 * z25))), (5, .ref (ad (20 + z10) (10 + 10 * z11))), (0, .ref (ad 0 0)), (1, .int ix), (2, .int kx), (3, .int tx), (4, .int dx)] := hl
      refine lv_aload hx hb xd_De_reads_17 (lv_at hl 1 rfl) ?_
      refine lv_ifnull hx hb xd_De_reads_19 ?_
      refine lv_aload hx hb xd_De_reads_22 (lv_at hl 0 rfl) ?_
      refine lv_ifnull hx hb xd_De_reads_24 ?_
      refine lv_aload hx hb xd_De_reads_27 (lv_at hl 1 rfl) ?_
      obtain ⟨hm_28, d_28, rs_28, fr_28, g2_28, g3_28, g4_28, hd_28, hrs_28, q0_28, q1_28, q2_28, q3_28, q4_28, q5_28, q6_28, q7_28⟩ := id z13
      have c_29 : E (20 + z10) (10 + 10 * z11) = .inr (6, [.ref (ad (20 + z10) 0), .ref (ad (1 + d_28) 0), .ref (ad (20 + z10) (11 + 10 * z11)), .ref (ad (20 + z10) (12 + 10 * z11)), .ref (ad (20 + z10) (13 + 10 * z11)), .ref (ad (20 + z10) (14 + 10 * z11))]) := q0_28
      have m_30 : (20 + z10, 10 + 10 * z11) ∈ RL := hm_28 0 (by decide)
      have c_31 : E (20 + z10) (11 + 10 * z11) = .inl (kA 6, rs_28, .inr (.inr (.inr (.inr fr_28)))) := q1_28
      have m_32 : (20 + z10, 11 + 10 * z11) ∈ RL := hm_28 1 (by decide)
      have c_33 : E (20 + z10) (12 + 10 * z11) = .inr (10, [.ref (ad (20 + z10) (15 + 10 * z11))]) := q2_28
      have m_34 : (20 + z10, 12 + 10 * z11) ∈ RL := hm_28 2 (by decide)
      have c_35 : E (20 + z10) (13 + 10 * z11) = .inr (10, [.ref (ad (20 + z10) (16 + 10 * z11))]) := q3_28
      have m_36 : (20 + z10, 13 + 10 * z11) ∈ RL := hm_28 3 (by decide)
      have c_37 : E (20 + z10) (14 + 10 * z11) = .inr (10, [.ref (ad (20 + z10) (17 + 10 * z11))]) := q4_28
      have m_38 : (20 + z10, 14 + 10 * z11) ∈ RL := hm_28 4 (by decide)
      have c_39 : E (20 + z10) (15 + 10 * z11) = .inl (kA 0, 6, .inl g2_28) := q5_28
      have m_40 : (20 + z10, 15 + 10 * z11) ∈ RL := hm_28 5 (by decide)
      have c_41 : E (20 + z10) (16 + 10 * z11) = .inl (kA 0, 6, .inl g3_28) := q6_28
      have m_42 : (20 + z10, 16 + 10 * z11) ∈ RL := hm_28 6 (by decide)
      have c_43 : E (20 + z10) (17 + 10 * z11) = .inl (kA 0, 6, .inl g4_28) := q7_28
      have m_44 : (20 + z10, 17 + 10 * z11) ∈ RL := hm_28 7 (by decide)
      refine px_get (D := D) (ci := 6) (v := .ref (ad (20 + z10) (14 + 10 * z11))) (C := xR_Me) (T := xT_Me) (N := 6) hx hb hT xi_Me hown hK.1 hP m_30 c_29 rfl 5 (by decide) (hT _ yo_31) (fun _ h9 => h9) rfl xd_De_reads_29 ?_
      refine lv_aload hx hb xd_De_reads_32 (lv_at hl 0 rfl) ?_
      obtain ⟨hm_45, d_45, rs_45, fr_45, g2_45, g3_45, g4_45, hd_45, hrs_45, q0_45, q1_45, q2_45, q3_45, q4_45, q5_45, q6_45, q7_45⟩ := id z27
      have c_46 : E (20 + z24) (10 + 10 * z25) = .inr (6, [.ref (ad (20 + z24) 0), .ref (ad (1 + d_45) 0), .ref (ad (20 + z24) (11 + 10 * z25)), .ref (ad (20 + z24) (12 + 10 * z25)), .ref (ad (20 + z24) (13 + 10 * z25)), .ref (ad (20 + z24) (14 + 10 * z25))]) := q0_45
      have m_47 : (20 + z24, 10 + 10 * z25) ∈ RL := hm_45 0 (by decide)
      have c_48 : E (20 + z24) (11 + 10 * z25) = .inl (kA 6, rs_45, .inr (.inr (.inr (.inr fr_45)))) := q1_45
      have m_49 : (20 + z24, 11 + 10 * z25) ∈ RL := hm_45 1 (by decide)
      have c_50 : E (20 + z24) (12 + 10 * z25) = .inr (10, [.ref (ad (20 + z24) (15 + 10 * z25))]) := q2_45
      have m_51 : (20 + z24, 12 + 10 * z25) ∈ RL := hm_45 2 (by decide)
      have c_52 : E (20 + z24) (13 + 10 * z25) = .inr (10, [.ref (ad (20 + z24) (16 + 10 * z25))]) := q3_45
      have m_53 : (20 + z24, 13 + 10 * z25) ∈ RL := hm_45 3 (by decide)
      have c_54 : E (20 + z24) (14 + 10 * z25) = .inr (10, [.ref (ad (20 + z24) (17 + 10 * z25))]) := q4_45
      have m_55 : (20 + z24, 14 + 10 * z25) ∈ RL := hm_45 4 (by decide)
      have c_56 : E (20 + z24) (15 + 10 * z25) = .inl (kA 0, 6, .inl g2_45) := q5_45
      have m_57 : (20 + z24, 15 + 10 * z25) ∈ RL := hm_45 5 (by decide)
      have c_58 : E (20 + z24) (16 + 10 * z25) = .inl (kA 0, 6, .inl g3_45) := q6_45
      have m_59 : (20 + z24, 16 + 10 * z25) ∈ RL := hm_45 6 (by decide)
      have c_60 : E (20 + z24) (17 + 10 * z25) = .inl (kA 0, 6, .inl g4_45) := q7_45
      have m_61 : (20 + z24, 17 + 10 * z25) ∈ RL := hm_45 7 (by decide)
      obtain ⟨m0_62, m1_62, pv_62, op_62, mk_62, fm_62, hmk_62, hpv_62, q0_62, q1_62, hk_62⟩ := id (hLIs z24 (by omega))
      have c_63 : E (20 + z24) 0 = .inr (5, [.int (nI z24), pv_62, .ref (ad (20 + z24) 1), .int op_62]) := q0_62
      have m_64 : (20 + z24, 0) ∈ RL := m0_62
      have c_65 : E (20 + z24) 1 = .inl (kA 6, mk_62, .inr (.inr (.inr (.inr fm_62)))) := q1_62
      have m_66 : (20 + z24, 1) ∈ RL := m1_62
      obtain ⟨hm_67, fd_67, nm_67, sd_67, k0_67, k1_67, k2_67, k3_67, f0_67, f1_67, f2_67, f3_67, fe_67, fo_67, tr_67, op_67, hk0_67, hk1_67, hk2_67, hk3_67, q0_67, q1_67, q2_67, q3_67, q4_67, q5_67, q6_67, q7_67, q8_67, q9_67, q10_67, q11_67, q12_67, hg_67⟩ := id (hDIs d_45 (by omega))
      have c_68 : E (1 + d_45) 0 = .inr (7, [.int (nI d_45), .int fd_67, .int nm_67, .ref (ad (1 + d_45) 1), .ref (ad (1 + d_45) 9), .ref (ad (1 + d_45) 10), .ref (ad (1 + d_45) 2), .ref (ad (1 + d_45) 11), .ref (ad (1 + d_45) 12), .ref (ad (1 + d_45) 3), .ref (ad (1 + d_45) 4), .int sd_67]) := q0_67
      have m_69 : (1 + d_45, 0) ∈ RL := hm_67 0 (by decide)
      have c_70 : E (1 + d_45) 1 = .inr (8, [.ref (ad (1 + d_45) 5), .int (nI k0_67)]) := q1_67
      have m_71 : (1 + d_45, 1) ∈ RL := hm_67 1 (by decide)
      have c_72 : E (1 + d_45) 2 = .inr (8, [.ref (ad (1 + d_45) 6), .int (nI k1_67)]) := q2_67
      have m_73 : (1 + d_45, 2) ∈ RL := hm_67 2 (by decide)
      have c_74 : E (1 + d_45) 3 = .inr (8, [.ref (ad (1 + d_45) 7), .int (nI k2_67)]) := q3_67
      have m_75 : (1 + d_45, 3) ∈ RL := hm_67 3 (by decide)
      have c_76 : E (1 + d_45) 4 = .inr (8, [.ref (ad (1 + d_45) 8), .int (nI k3_67)]) := q4_67
      have m_77 : (1 + d_45, 4) ∈ RL := hm_67 4 (by decide)
      have c_78 : E (1 + d_45) 5 = .inl (kA 0, 6, .inl f0_67) := q5_67
      have m_79 : (1 + d_45, 5) ∈ RL := hm_67 5 (by decide)
      have c_80 : E (1 + d_45) 6 = .inl (kA 0, 5, .inl f1_67) := q6_67
      have m_81 : (1 + d_45, 6) ∈ RL := hm_67 6 (by decide)
      have c_82 : E (1 + d_45) 7 = .inl (kA 0, 3, .inl f2_67) := q7_67
      have m_83 : (1 + d_45, 7) ∈ RL := hm_67 7 (by decide)
      have c_84 : E (1 + d_45) 8 = .inl (kA 0, 3, .inl f3_67) := q8_67
      have m_85 : (1 + d_45, 8) ∈ RL := hm_67 8 (by decide)
      have c_86 : E (1 + d_45) 9 = .inl (kA 8, 6, .inr (.inr (.inr (.inr fe_67)))) := q9_67
      have m_87 : (1 + d_45, 9) ∈ RL := hm_67 9 (by decide)
      have c_88 : E (1 + d_45) 10 = .inl (kA 8, 6, .inr (.inr (.inr (.inr fo_67)))) := q10_67
      have m_89 : (1 + d_45, 10) ∈ RL := hm_67 10 (by decide)
      have c_90 : E (1 + d_45) 11 = .inl (kA 2, 5, .inl tr_67) := q11_67
      have m_91 : (1 + d_45, 11) ∈ RL := hm_67 11 (by decide)
      have c_92 : E (1 + d_45) 12 = .inl (kA 2, 5, .inl op_67) := q12_67
      have m_93 : (1 + d_45, 12) ∈ RL := hm_67 12 (by decide)
      have hg_67 : ∀ w9, w9 < k0_67 → fe_67 w9 = some (ad (1 + d_45) (20 + 3 * w9)) ∧ fo_67 w9 = some (ad (1 + d_45) (38 + 3 * w9)) ∧ GI kA (ad (1 + d_45)) (E (1 + d_45)) (fun o => (1 + d_45, o) ∈ RL) (20 + 3 * w9) (21 + 3 * w9) (22 + 3 * w9) ∧ GI kA (ad (1 + d_45)) (E (1 + d_45)) (fun o => (1 + d_45, o) ∈ RL) (38 + 3 * w9) (39 + 3 * w9) (40 + 3 * w9) := hg_67
      have hFc := px_free hD hS hA
      refine va_calli (va_runV (As := [.ref (ad (20 + z24) (10 + 10 * z25))]) (rest := []) ⟨hx, hb, hml, hown, hT⟩ (xc_Re_marks l D kA H.size ad E RL (20 + z10) (14 + 10 * z11) (17 + 10 * z11) g4_28 z24 z25 d_45 pv_62 op_62 fd_67 nm_67 sd_67 m_38 c_37 m_44 c_43 m_47 c_46 m_64 c_63 m_69 c_68 (by first | assumption | omega)) (cwV 1 hT (wT_V yo_33 yo_34 yo_35 yo_36 yo_32) rfl rfl rfl (by decide +kernel) ⟨Nat.le_of_ble_eq_true rfl, Nat.le_of_ble_eq_true rfl⟩) (px_preV hK hP hD m_38 c_37 rfl) rfl rfl hl.1 rfl (lv_room (Nat.le_of_ble_eq_true rfl)) xd_De_reads_34 ⟨(Nat.le_of_ble_eq_true rfl), (Nat.le_of_ble_eq_true rfl)⟩) hS (fun q _ h => hFc q h) hFc (fun r94 u95 t H1 locs ht hvm hp96 hB hz1 hk1 hS => ?_)
      obtain ⟨hP1, hD1⟩ := hB
      rw [ht] at hP1
      have hD1 := hD1.weaken (fun _ _ _ h => hFc _ h)
      generalize H1 = H at hP1 hS ⊢
      have hP := hP1
      have hD := hD1
      have hP : va_P D xcl (rp ad E RL) H := hP
      have hD : va_D A (rp ad E RL) := hD
      rcases hp96 with ⟨rfl, z97⟩ | ⟨rfl, z98⟩
      · refine W.eq (g2 := F0 m 37 ls [.int 1]) rfl ?_
        refine lv_if_eq (tgt := 44) hx hb xd_De_reads_37 (by decide) (fun hc99 => absurd hc99 (by decide)) (fun _ => ?_)
        refine lv_iconst (v := 1) hx hb xd_De_reads_40 (by decide) ?_
        refine lv_goto (tgt := 45) hx hb xd_De_reads_41 (by decide) ?_
        exact W.zret (v := 1) hx hb hr rfl (fun t ht hW => ⟨⟨1, (), rfl, Or.inr rfl, by rw [ht]; exact hP, hD⟩, hS.F ht⟩) hS.2.2 xd_De_reads_45
      · refine W.eq (g2 := F0 m 37 ls [.int 0]) rfl ?_
        refine lv_if_eq (tgt := 44) hx hb xd_De_reads_37 (by decide) (fun _ => ?_) (fun hc100 => absurd (by decide) hc100)
        refine lv_iconst (v := 0) hx hb xd_De_reads_44 (by decide) ?_
        exact W.zret (v := 0) hx hb hr rfl (fun t ht hW => ⟨⟨0, (), rfl, Or.inl rfl, by rw [ht]; exact hP, hD⟩, hS.F ht⟩) hS.2.2 xd_De_reads_45
set_option maxHeartbeats 4000000 in
set_option maxRecDepth 100000 in
theorem xc_De_fault (l : Launch) (D : va_G) (kA : Nat → ClassId) (sz : Nat) (ad : Nat → Nat → Nat) (E : Nat → Nat → va_E) (RL : List (Nat × Nat)) (ml : Nat) (nd : Nat) (len : Nat) (wn : Nat) (cs : Nat) (hCI : CI kA ad E RL ml nd len wn cs) : Met l xy_De_fault (.code xy_De_fault xb_De_fault 1 (some .int) :: wT) { frames := 0, cells := 0, slots := 0, locals := 0 } (va_Pc [.ref (ad 0 0)] (xPre D kA sz (rp ad E RL))) (va_Qi (fun (r : Int32) (u : Unit) => True) (fun (u : Unit) t => va_P D xcl (rp ad E RL) t.heap ∧ va_D (va_A (rp ad E RL) sz) (rp ad E RL)) (va_A (rp ad E RL) sz)) 0 0 (va_A (rp ad E RL) sz) := by
  refine Met.ofW (cc := xb_De_fault) (maxL := 1) (ret := (some .int)) (by decide) rfl ?_
  intro p e s m args below meth c s₁ B hml hv
  obtain ⟨rfl, hsz, hP, hK, hD0⟩ := hv
  have hx := B.exec
  have hb := B.bytes
  have hr := B.returns
  have hT := x_hT B.pre
  have hown : s.vm.findClass xR_De = some m.cls := findClass_of_methodNamed B.named
  have hlocks := B.notSynchronized
  subst hsz
  have hD := hD0.self (sz := s.heap.size)
  generalize hAe : va_A (rp ad E RL) s.heap.size = A at hD ⊢
  have hA : ∀ q : Nat, s.heap.size ≤ q → A q := fun q h => by rw [← hAe]; exact Or.inr h
  have hS : va_S A s.heap s.heap [] := va_S.rf
  have hl := lv_entry ([.ref (ad 0 0)]) (n := 1) (Nat.le_of_ble_eq_true rfl)
  rw [lg_entry_eq]
  generalize (lg_sl ([.ref (ad 0 0)]) ++ List.replicate (1 - (lg_sl ([.ref (ad 0 0)])).length) Slot.unset).toArray = ls at hl ⊢
  have hl : lv_has ls 1 [(0, .ref (ad 0 0))] := hl
  have hP : va_P D xcl (rp ad E RL) s.heap := hP
  obtain ⟨hmB, hDk, hLi, hSh, hCh, hLa, hDIs, hLIs⟩ := id hCI
  obtain ⟨lf_1, q_1⟩ := id (hDk)
  have c_2 : E 0 0 = .inr (0, [.ref (ad 0 1), .ref (ad 0 5), .ref (ad 0 7), .ref (ad 0 9), .int (nI ml), .int lf_1]) := q_1
  have m_3 : (0, 0) ∈ RL := hmB 0 (by decide)
  refine lv_aload_n hx hb xd_De_fault_0 rfl (lv_at hl 0 rfl) ?_
  refine px_get (D := D) (ci := 0) (v := .int lf_1) (C := xR_De) (T := xT_De) (N := 6) hx hb hT xi_De hown hK.1 hP m_3 c_2 rfl 5 (by decide) (hT _ yo_37) (fun _ h9 => h9) rfl xd_De_fault_1 ?_
  exact W.iret (v := lf_1) hx hb hr (fun t ht hW => ⟨⟨lf_1, (), rfl, trivial, by rw [ht]; exact hP, hD⟩, hS.F ht⟩) hS.2.2 xd_De_fault_4
def WP (wn : Nat) (fb fe : Nat → Int32) : Prop := ∀ w, w < wn → ∃ b9 e9, b9 < e9 ∧ e9 ≤ 40 ∧ fb w = nI b9 ∧ fe w = nI e9
theorem GI_at {kA : Nat → ClassId} {a a' : Nat → Nat} {e e' : Nat → va_E} {m m' : Nat → Prop} {g gn ga : Nat} (h0 : e' g = e g) (h1 : e' gn = e gn) (h2 : e' ga = e ga) (ha1 : a' gn = a gn) (ha2 : a' ga = a ga) (hm : ∀ o, m o → m' o) (h : GI kA a e m g gn ga) : GI kA a' e' m' g gn ga := by
  obtain ⟨m0, m1, m2, ta, n, f, hn, c0, c1, c2⟩ := h
  exact ⟨hm _ m0, hm _ m1, hm _ m2, ta, n, f, hn, by rw [h0, ha1]; exact c0, by rw [h1, ha2]; exact c1, by rw [h2]; exact c2⟩
theorem DI_gr {kA : Nat → ClassId} {d : Nat} {a : Nat → Nat} {e e' : Nat → va_E} {m : Nat → Prop} {i o0 : Nat} (h : DI kA d a e m) (hi : i < 6) (ho : o0 = 20 ∨ o0 = 38) (he : ∀ o, ¬ o = o0 + 3 * i → ¬ o = o0 + 1 + 3 * i → ¬ o = o0 + 2 + 3 * i → e' o = e o) (hG : GI kA a e' m (o0 + 3 * i) (o0 + 1 + 3 * i) (o0 + 2 + 3 * i)) : DI kA d a e' m := by
  obtain ⟨h1, fd, nm, st, k0, k1, k2, k3, f0, f1, f2, f3, fe, fo, tr, op, g0, g1, g2, g3, c0, c1, c2, c3, c4, c5, c6, c7, c8, c9, c10, c11, c12, hg⟩ := h
  have L : ∀ j, j < 13 → e' j = e j := fun j hj => he j (by omega) (by omega) (by omega)
  refine ⟨h1, fd, nm, st, k0, k1, k2, k3, f0, f1, f2, f3, fe, fo, tr, op, g0, g1, g2, g3, (L 0 (by omega)).trans c0, (L 1 (by omega)).trans c1, (L 2 (by omega)).trans c2, (L 3 (by omega)).trans c3, (L 4 (by omega)).trans c4, (L 5 (by omega)).trans c5, (L 6 (by omega)).trans c6, (L 7 (by omega)).trans c7, (L 8 (by omega)).trans c8, (L 9 (by omega)).trans c9, (L 10 (by omega)).trans c10, (L 11 (by omega)).trans c11, (L 12 (by omega)).trans c12, fun i2 hi2 => ⟨(hg i2 hi2).1, (hg i2 hi2).2.1, ?_, ?_⟩⟩
  · by_cases h9 : o0 = 20 ∧ i2 = i
    · obtain ⟨rfl, rfl⟩ := h9
      exact hG
    · exact GI_at (he _ (by omega) (by omega) (by omega)) (he _ (by omega) (by omega) (by omega)) (he _ (by omega) (by omega) (by omega)) rfl rfl (fun _ h => h) (hg i2 hi2).2.2.1
  · by_cases h9 : o0 = 38 ∧ i2 = i
    · obtain ⟨rfl, rfl⟩ := h9
      exact hG
    · exact GI_at (he _ (by omega) (by omega) (by omega)) (he _ (by omega) (by omega) (by omega)) (he _ (by omega) (by omega) (by omega)) rfl rfl (fun _ h => h) (hg i2 hi2).2.2.2
theorem DI_set0 {kA : Nat → ClassId} {d : Nat} {a : Nat → Nat} {e e' : Nat → va_E} {m : Nat → Prop} {fd' nm' st' : Int32} (h : DI kA d a e m) (he : ∀ o, ¬ o = 0 → e' o = e o) (h0 : e' 0 = .inr (7, [.int (nI d), .int fd', .int nm', .ref (a 1), .ref (a 9), .ref (a 10), .ref (a 2), .ref (a 11), .ref (a 12), .ref (a 3), .ref (a 4), .int st'])) : DI kA d a e' m := by
  obtain ⟨h1, fd, nm, st, k0, k1, k2, k3, f0, f1, f2, f3, fe, fo, tr, op, g0, g1, g2, g3, c0, c1, c2, c3, c4, c5, c6, c7, c8, c9, c10, c11, c12, hg⟩ := h
  exact ⟨h1, fd', nm', st', k0, k1, k2, k3, f0, f1, f2, f3, fe, fo, tr, op, g0, g1, g2, g3, h0, (he 1 (by omega)).trans c1, (he 2 (by omega)).trans c2, (he 3 (by omega)).trans c3, (he 4 (by omega)).trans c4, (he 5 (by omega)).trans c5, (he 6 (by omega)).trans c6, (he 7 (by omega)).trans c7, (he 8 (by omega)).trans c8, (he 9 (by omega)).trans c9, (he 10 (by omega)).trans c10, (he 11 (by omega)).trans c11, (he 12 (by omega)).trans c12, fun i hi => ⟨(hg i hi).1, (hg i hi).2.1, GI_at (he _ (by omega)) (he _ (by omega)) (he _ (by omega)) rfl rfl (fun _ h => h) (hg i hi).2.2.1, GI_at (he _ (by omega)) (he _ (by omega)) (he _ (by omega)) rfl rfl (fun _ h => h) (hg i hi).2.2.2⟩⟩
theorem DIs_set {kA : Nat → ClassId} {ad ad' : Nat → Nat → Nat} {E E' : Nat → Nat → va_E} {RL RL' : List (Nat × Nat)} {nd x : Nat} (hE : ∀ d, d < nd → ¬ d = x → E' (1 + d) = E (1 + d)) (ha : ∀ d, d < nd → ¬ d = x → ad' (1 + d) = ad (1 + d)) (hm : ∀ y ∈ RL, y ∈ RL') (hx : DI kA x (ad' (1 + x)) (E' (1 + x)) (fun o => (1 + x, o) ∈ RL')) (h : DIs kA ad E RL nd) : DIs kA ad' E' RL' nd := fun d hd => by
  by_cases h9 : d = x
  · subst h9
    exact hx
  · rw [hE d hd h9, ha d hd h9]
    exact DI_mono (fun o ho => hm _ ho) (h d hd)
theorem DIs_add {kA : Nat → ClassId} {ad ad' : Nat → Nat → Nat} {E E' : Nat → Nat → va_E} {RL RL' : List (Nat × Nat)} {nd : Nat} (hE : ∀ d, d < nd → E' (1 + d) = E (1 + d)) (ha : ∀ d, d < nd → ad' (1 + d) = ad (1 + d)) (hm : ∀ y ∈ RL, y ∈ RL') (hx : DI kA nd (ad' (1 + nd)) (E' (1 + nd)) (fun o => (1 + nd, o) ∈ RL')) (h : DIs kA ad E RL nd) : DIs kA ad' E' RL' (nd + 1) := fun d hd => by
  by_cases h9 : d = nd
  · subst h9
    exact hx
  · rw [hE d (by omega), ha d (by omega)]
    exact DI_mono (fun o ho => hm _ ho) (h d (by omega))
theorem MEI_ext {kA : Nat → ClassId} {ad : Nat → Nat → Nat} {E E' : Nat → Nat → va_E} {RL : List (Nat × Nat)} {nd n k : Nat} (hE : ∀ o, 10 ≤ o → E' (20 + n) o = E (20 + n) o) (h : MEI kA ad E RL nd n k) : MEI kA ad E' RL nd n k := by
  obtain ⟨h1, d, rs, fr, g2, g3, g4, hd, hrs, c0, c1, c2, c3, c4, c5, c6, c7⟩ := h
  exact ⟨h1, d, rs, fr, g2, g3, g4, hd, hrs, (hE _ (by omega)).trans c0, (hE _ (by omega)).trans c1, (hE _ (by omega)).trans c2, (hE _ (by omega)).trans c3, (hE _ (by omega)).trans c4, (hE _ (by omega)).trans c5, (hE _ (by omega)).trans c6, (hE _ (by omega)).trans c7⟩
theorem LIs_set {kA : Nat → ClassId} {ad : Nat → Nat → Nat} {E E' : Nat → Nat → va_E} {RL : List (Nat × Nat)} {nd nL x : Nat} (hE : ∀ n, n < nL → ¬ n = x → E' (20 + n) = E (20 + n)) (hx : LI kA ad E' RL nd x) (h : LIs kA ad E RL nd nL) : LIs kA ad E' RL nd nL := fun n hn => by
  by_cases h9 : n = x
  · subst h9
    exact hx
  · exact LI_same (Nat.le_refl _) (hE n hn h9) rfl (fun _ _ => rfl) (fun _ _ => rfl) (fun _ h => h) (h n hn)
theorem LIs_add {kA : Nat → ClassId} {ad : Nat → Nat → Nat} {E : Nat → Nat → va_E} {RL : List (Nat × Nat)} {nd nL : Nat} (h : LIs kA ad E RL nd nL) (hx : LI kA ad E RL nd nL) : LIs kA ad E RL nd (nL + 1) := fun n hn => by
  by_cases h9 : n = nL
  · subst h9
    exact hx
  · exact h n (by omega)
def RU (kA : Nat → ClassId) (E E' : Nat → Nat → va_E) : Prop := ∀ b o, E' b o = E b o ∨ (∃ f f' : Nat → Int32, E b o = .inl (kA 0, 6, .inl f) ∧ E' b o = .inl (kA 0, 6, .inl f')) ∨ (20 ≤ b ∧ (∃ k, o = 11 + 10 * k) ∧ ∃ (rs : Nat) (f f' : Nat → Option Nat), E b o = .inl (kA 6, rs, .inr (.inr (.inr (.inr f)))) ∧ E' b o = .inl (kA 6, rs, .inr (.inr (.inr (.inr f')))))
theorem RU.rfl' {kA : Nat → ClassId} {E : Nat → Nat → va_E} : RU kA E E := fun _ _ => Or.inl rfl
theorem RU.trans' {kA : Nat → ClassId} {E E1 E2 : Nat → Nat → va_E} (h1 : RU kA E E1) (h2 : RU kA E1 E2) : RU kA E E2 := fun b o => by
  rcases h2 b o with e2 | ⟨f, f', e2, e3⟩ | ⟨hb, hk, rs, f, f', e2, e3⟩
  · rw [e2]; exact h1 b o
  · rcases h1 b o with e1 | ⟨g, g', e4, e5⟩ | ⟨hb, hk, rs, g, g', e4, e5⟩
    · exact Or.inr (Or.inl ⟨f, f', e1 ▸ e2, e3⟩)
    · exact Or.inr (Or.inl ⟨g, f', e4, e3⟩)
    · rw [e5] at e2; simp at e2
  · rcases h1 b o with e1 | ⟨g, g', e4, e5⟩ | ⟨hb, hk, rs2, g, g', e4, e5⟩
    · exact Or.inr (Or.inr ⟨hb, hk, rs, f, f', e1 ▸ e2, e3⟩)
    · rw [e5] at e2; simp at e2
    · rw [e5] at e2
      have hr : rs2 = rs := by injection e2 with e2; injection e2 with _ e2; injection e2
      subst hr
      exact Or.inr (Or.inr ⟨hb, hk, rs2, g, f', e4, e3⟩)
theorem RU.row {kA : Nat → ClassId} {E E' : Nat → Nat → va_E} {b o : Nat} {f f' : Nat → Int32} (h0 : E b o = .inl (kA 0, 6, .inl f)) (h1 : E' b o = .inl (kA 0, 6, .inl f')) (h2 : ∀ b2 o2, ¬ (b2 = b ∧ o2 = o) → E' b2 o2 = E b2 o2) : RU kA E E' := fun b2 o2 => by
  by_cases h : b2 = b ∧ o2 = o
  · obtain ⟨rfl, rfl⟩ := h
    exact Or.inr (Or.inl ⟨f, f', h0, h1⟩)
  · exact Or.inl (h2 b2 o2 h)
theorem RU.obj {kA : Nat → ClassId} {E E' : Nat → Nat → va_E} (h : RU kA E E') {b o : Nat} {x : Nat × List Value} (e : E b o = .inr x) : E' b o = .inr x := by
  rcases h b o with e1 | ⟨f, f', e1, _⟩ | ⟨_, _, rs, f, f', e1, _⟩
  · rw [e1]; exact e
  · rw [e1] at e; cases e
  · rw [e1] at e; cases e
theorem RU.int {kA : Nat → ClassId} {E E' : Nat → Nat → va_E} (h : RU kA E E') {b o n : Nat} {c : ClassId} {f : Nat → Int32} (e : E b o = .inl (c, n, .inl f)) : ∃ f', E' b o = .inl (c, n, .inl f') := by
  rcases h b o with e1 | ⟨g, g', e1, e2⟩ | ⟨_, _, rs, g, g', e1, _⟩
  · exact ⟨f, by rw [e1]; exact e⟩
  · rw [e1] at e
    injection e with e; injection e with e3 e; injection e with e4 e
    subst e3; subst e4
    exact ⟨g', e2⟩
  · rw [e1] at e; cases e
theorem RU.reqs {kA : Nat → ClassId} {E E' : Nat → Nat → va_E} (h : RU kA E E') {b o n : Nat} {c : ClassId} {f : Nat → Option Nat} (e : E b o = .inl (c, n, .inr (.inr (.inr (.inr f))))) : ∃ f', E' b o = .inl (c, n, .inr (.inr (.inr (.inr f')))) := by
  rcases h b o with e1 | ⟨g, g', e1, e2⟩ | ⟨_, _, rs, g, g', e1, e2⟩
  · exact ⟨f, by rw [e1]; exact e⟩
  · rw [e1] at e; cases e
  · rw [e1] at e
    injection e with e; injection e with e3 e; injection e with e4 e
    subst e3; subst e4
    exact ⟨g', e2⟩
theorem RU.arr {kA : Nat → ClassId} {E E' : Nat → Nat → va_E} (h : RU kA E E') {b o n : Nat} {c : ClassId} {f : Nat → Option Nat} (hb : b < 20 ∨ o < 11) (e : E b o = .inl (c, n, .inr (.inr (.inr (.inr f))))) : E' b o = .inl (c, n, .inr (.inr (.inr (.inr f)))) := by
  rcases h b o with e1 | ⟨g, g', e1, e2⟩ | ⟨h1, ⟨k, h2⟩, rs, g, g', e1, e2⟩
  · rw [e1]; exact e
  · rw [e1] at e; cases e
  · omega
theorem MEI_RU {kA : Nat → ClassId} {ad : Nat → Nat → Nat} {E E' : Nat → Nat → va_E} {RL : List (Nat × Nat)} {nd n k : Nat} (hR : RU kA E E') (h : MEI kA ad E RL nd n k) : MEI kA ad E' RL nd n k := by
  obtain ⟨h1, d, rs, fr, g2, g3, g4, hd, hrs, c0, c1, c2, c3, c4, c5, c6, c7⟩ := h
  obtain ⟨fr', c1⟩ := hR.reqs c1
  obtain ⟨g2', c5⟩ := hR.int c5
  obtain ⟨g3', c6⟩ := hR.int c6
  obtain ⟨g4', c7⟩ := hR.int c7
  exact ⟨h1, d, rs, fr', g2', g3', g4', hd, hrs, hR.obj c0, c1, hR.obj c2, hR.obj c3, hR.obj c4, c5, c6, c7⟩
theorem LI_RU {kA : Nat → ClassId} {ad : Nat → Nat → Nat} {E E' : Nat → Nat → va_E} {RL : List (Nat × Nat)} {nd n : Nat} (hR : RU kA E E') (h : LI kA ad E RL nd n) : LI kA ad E' RL nd n := by
  obtain ⟨h1, h2, pv, op, mk, fm, hmk, hpv, c0, c1, hk⟩ := h
  exact ⟨h1, h2, pv, op, mk, fm, hmk, hpv, hR.obj c0, hR.arr (Or.inr (by omega)) c1, fun k hk9 => ⟨(hk k hk9).1, MEI_RU hR (hk k hk9).2⟩⟩
theorem LIs_RU {kA : Nat → ClassId} {ad : Nat → Nat → Nat} {E E' : Nat → Nat → va_E} {RL : List (Nat × Nat)} {nd nL : Nat} (hR : RU kA E E') (h : LIs kA ad E RL nd nL) : LIs kA ad E' RL nd nL := fun n hn => LI_RU hR (h n hn)
theorem GI_RU {kA : Nat → ClassId} {a : Nat → Nat} {E E' : Nat → Nat → va_E} {m : Nat → Prop} {b g gn ga : Nat} (hR : RU kA E E') (h : GI kA a (E b) m g gn ga) : GI kA a (E' b) m g gn ga := by
  obtain ⟨m0, m1, m2, ta, n, f, hn, c0, c1, c2⟩ := h
  obtain ⟨f', c2⟩ := hR.int c2
  exact ⟨m0, m1, m2, ta, n, f', hn, hR.obj c0, hR.obj c1, c2⟩
theorem DI_RU {kA : Nat → ClassId} {d b : Nat} {a : Nat → Nat} {E E' : Nat → Nat → va_E} {m : Nat → Prop} (hR : RU kA E E') (hb : b < 20) (h : DI kA d a (E b) m) : DI kA d a (E' b) m := by
  obtain ⟨h1, fd, nm, st, k0, k1, k2, k3, f0, f1, f2, f3, fe, fo, tr, op, g0, g1, g2, g3, c0, c1, c2, c3, c4, c5, c6, c7, c8, c9, c10, c11, c12, hg⟩ := h
  obtain ⟨f0', c5⟩ := hR.int c5
  obtain ⟨f1', c6⟩ := hR.int c6
  obtain ⟨f2', c7⟩ := hR.int c7
  obtain ⟨f3', c8⟩ := hR.int c8
  obtain ⟨tr', c11⟩ := hR.int c11
  obtain ⟨op', c12⟩ := hR.int c12
  exact ⟨h1, fd, nm, st, k0, k1, k2, k3, f0', f1', f2', f3', fe, fo, tr', op', g0, g1, g2, g3, hR.obj c0, hR.obj c1, hR.obj c2, hR.obj c3, hR.obj c4, c5, c6, c7, c8, hR.arr (Or.inl hb) c9, hR.arr (Or.inl hb) c10, c11, c12, fun i hi => ⟨(hg i hi).1, (hg i hi).2.1, GI_RU hR (hg i hi).2.2.1, GI_RU hR (hg i hi).2.2.2⟩⟩
theorem DIs_RU {kA : Nat → ClassId} {ad : Nat → Nat → Nat} {E E' : Nat → Nat → va_E} {RL : List (Nat × Nat)} {nd : Nat} (hR : RU kA E E') (hn : nd ≤ 12) (h : DIs kA ad E RL nd) : DIs kA ad E' RL nd := fun d hd => DI_RU hR (by omega) (h d hd)
theorem vu_eq {α : Type} {f : Nat → α} {i : Nat} {x : α} : va_up f i x i = x := by simp [va_up]
theorem vu_ne {α : Type} {f : Nat → α} {i j : Nat} {x : α} (h : ¬ j = i) : va_up f i x j = f j := by simp [va_up, h]
theorem FC_add {ad : Nat → Nat → Nat} {nd cs d0 : Nat} {fc : Nat → Option Nat} (h : ∀ k, k < cs → ∃ d, d < nd ∧ fc k = some (ad (1 + d) 0)) (hd : d0 < nd) : ∀ k, k < cs + 1 → ∃ d, d < nd ∧ va_up fc cs (some (ad (1 + d0) 0)) k = some (ad (1 + d) 0) := fun k hk => by
  by_cases h9 : k = cs
  · subst h9
    exact ⟨d0, hd, vu_eq⟩
  · obtain ⟨d2, h1, h2⟩ := h k (by omega)
    exact ⟨d2, h1, by rw [vu_ne h9]; exact h2⟩
theorem FC_le {ad : Nat → Nat → Nat} {nd cs cs2 : Nat} {fc : Nat → Option Nat} (h : ∀ k, k < cs2 → ∃ d, d < nd ∧ fc k = some (ad (1 + d) 0)) (hd : cs ≤ cs2) : ∀ k, k < cs → ∃ d, d < nd ∧ fc k = some (ad (1 + d) 0) := fun k hk => h k (by omega)
theorem RU3 {kA : Nat → ClassId} {E E' : Nat → Nat → va_E} {b k rs : Nat} {fr fr' : Nat → Option Nat} {f f' g g' : Nat → Int32} (hb : 20 ≤ b) (h1 : E b (11 + 10 * k) = .inl (kA 6, rs, .inr (.inr (.inr (.inr fr))))) (h2 : E b (15 + 10 * k) = .inl (kA 0, 6, .inl f)) (h3 : E b (16 + 10 * k) = .inl (kA 0, 6, .inl g)) (h4 : E' b (11 + 10 * k) = .inl (kA 6, rs, .inr (.inr (.inr (.inr fr'))))) (h5 : E' b (15 + 10 * k) = .inl (kA 0, 6, .inl f')) (h6 : E' b (16 + 10 * k) = .inl (kA 0, 6, .inl g')) (h : ∀ b2 o2, ¬ (b2 = b ∧ o2 = 11 + 10 * k) → ¬ (b2 = b ∧ o2 = 15 + 10 * k) → ¬ (b2 = b ∧ o2 = 16 + 10 * k) → E' b2 o2 = E b2 o2) : RU kA E E' := fun b2 o2 => by
  by_cases q1 : b2 = b ∧ o2 = 11 + 10 * k
  · obtain ⟨rfl, rfl⟩ := q1
    exact Or.inr (Or.inr ⟨hb, ⟨k, rfl⟩, rs, fr, fr', h1, h4⟩)
  · by_cases q2 : b2 = b ∧ o2 = 15 + 10 * k
    · obtain ⟨rfl, rfl⟩ := q2
      exact Or.inr (Or.inl ⟨f, f', h2, h5⟩)
    · by_cases q3 : b2 = b ∧ o2 = 16 + 10 * k
      · obtain ⟨rfl, rfl⟩ := q3
        exact Or.inr (Or.inl ⟨g, g', h3, h6⟩)
      · exact Or.inl (h b2 o2 q1 q2 q3)
def RI (kA : Nat → ClassId) (B : Nat) (E E' : Nat → Nat → va_E) : Prop := ∀ b o, E' b o = E b o ∨ (b = B ∧ ∃ f f' : Nat → Int32, E b o = .inl (kA 0, 6, .inl f) ∧ E' b o = .inl (kA 0, 6, .inl f'))
theorem RI.ru {kA : Nat → ClassId} {B : Nat} {E E' : Nat → Nat → va_E} (h : RI kA B E E') : RU kA E E' := fun b o => (h b o).elim Or.inl (fun q => Or.inr (Or.inl q.2))
theorem RI.rfl' {kA : Nat → ClassId} {B : Nat} {E : Nat → Nat → va_E} : RI kA B E E := fun _ _ => Or.inl rfl
theorem RI.trans' {kA : Nat → ClassId} {B : Nat} {E E1 E2 : Nat → Nat → va_E} (h1 : RI kA B E E1) (h2 : RI kA B E1 E2) : RI kA B E E2 := fun b o => by
  rcases h2 b o with e2 | ⟨hb, f, f', e2, e3⟩
  · rw [e2]; exact h1 b o
  · rcases h1 b o with e1 | ⟨_, g, g', e4, e5⟩
    · exact Or.inr ⟨hb, f, f', e1 ▸ e2, e3⟩
    · exact Or.inr ⟨hb, g, f', e4, e3⟩
theorem RI.row {kA : Nat → ClassId} {E E' : Nat → Nat → va_E} {b o : Nat} {f f' : Nat → Int32} (h0 : E b o = .inl (kA 0, 6, .inl f)) (h1 : E' b o = .inl (kA 0, 6, .inl f')) (h2 : ∀ b2 o2, ¬ (b2 = b ∧ o2 = o) → E' b2 o2 = E b2 o2) : RI kA b E E' := fun b2 o2 => by
  by_cases h : b2 = b ∧ o2 = o
  · obtain ⟨rfl, rfl⟩ := h
    exact Or.inr ⟨rfl, f, f', h0, h1⟩
  · exact Or.inl (h2 b2 o2 h)
theorem RI.obj {kA : Nat → ClassId} {B : Nat} {E E' : Nat → Nat → va_E} (h : RI kA B E E') {b o : Nat} {x : Nat × List Value} (e : E b o = .inr x) : E' b o = .inr x := h.ru.obj e
theorem RI.arr {kA : Nat → ClassId} {B : Nat} {E E' : Nat → Nat → va_E} (h : RI kA B E E') {b o n : Nat} {c : ClassId} {f : Nat → Option Nat} (e : E b o = .inl (c, n, .inr (.inr (.inr (.inr f))))) : E' b o = .inl (c, n, .inr (.inr (.inr (.inr f)))) := by
  rcases h b o with e1 | ⟨_, g, g', e1, e2⟩
  · rw [e1]; exact e
  · rw [e1] at e; cases e
theorem RI.out {kA : Nat → ClassId} {B : Nat} {E E' : Nat → Nat → va_E} (h : RI kA B E E') {b o : Nat} (hb : ¬ b = B) : E' b o = E b o := by
  rcases h b o with e1 | ⟨q, _⟩
  · exact e1
  · exact absurd q hb
theorem MEI_at {kA : Nat → ClassId} {ad ad' : Nat → Nat → Nat} {E E' : Nat → Nat → va_E} {RL RL' : List (Nat × Nat)} {nd n k : Nat} (hE : ∀ j, j < 8 → E' (20 + n) (10 + j + 10 * k) = E (20 + n) (10 + j + 10 * k)) (ha : ∀ j, j < 8 → ad' (20 + n) (10 + j + 10 * k) = ad (20 + n) (10 + j + 10 * k)) (h0 : ad' (20 + n) 0 = ad (20 + n) 0) (had : ∀ d, d < nd → ad' (1 + d) 0 = ad (1 + d) 0) (hm : ∀ x ∈ RL, x ∈ RL') (h : MEI kA ad E RL nd n k) : MEI kA ad' E' RL' nd n k := by
  obtain ⟨h1, d, rs, fr, g2, g3, g4, hd, hrs, c0, c1, c2, c3, c4, c5, c6, c7⟩ := h
  have e0 := hE 0 (by omega)
  have e1 := hE 1 (by omega)
  have e2 := hE 2 (by omega)
  have e3 := hE 3 (by omega)
  have e4 := hE 4 (by omega)
  have e5 := hE 5 (by omega)
  have e6 := hE 6 (by omega)
  have e7 := hE 7 (by omega)
  have a1 := ha 1 (by omega)
  have a2 := ha 2 (by omega)
  have a3 := ha 3 (by omega)
  have a4 := ha 4 (by omega)
  have a5 := ha 5 (by omega)
  have a6 := ha 6 (by omega)
  have a7 := ha 7 (by omega)
  simp only [Nat.add_zero, Nat.reduceAdd] at e0 e1 e2 e3 e4 e5 e6 e7 a1 a2 a3 a4 a5 a6 a7
  exact ⟨fun j hj => hm _ (h1 j hj), d, rs, fr, g2, g3, g4, hd, hrs, by rw [e0, h0, had d hd, a1, a2, a3, a4]; exact c0, by rw [e1]; exact c1, by rw [e2, a5]; exact c2, by rw [e3, a6]; exact c3, by rw [e4, a7]; exact c4, by rw [e5]; exact c5, by rw [e6]; exact c6, by rw [e7]; exact c7⟩
def R23 {α : Type} (n : Nat) (E E' : Nat → Nat → α) : Prop := ∀ b o, ¬ (b = 20 + n ∧ (o = 2 ∨ o = 3)) → E' b o = E b o
theorem MEI_23 {kA : Nat → ClassId} {ad ad' : Nat → Nat → Nat} {E E' : Nat → Nat → va_E} {RL RL' : List (Nat × Nat)} {nd n x k : Nat} (hE : R23 n E E') (ha : R23 n ad ad') (hm : ∀ y ∈ RL, y ∈ RL') (h : MEI kA ad E RL nd x k) : MEI kA ad' E' RL' nd x k := MEI_at (fun j hj => hE _ _ (by omega)) (fun j hj => ha _ _ (by omega)) (ha _ _ (by omega)) (fun d hd => ha _ _ (by omega)) hm h
theorem LIs_23 {kA : Nat → ClassId} {ad ad' : Nat → Nat → Nat} {E E' : Nat → Nat → va_E} {RL RL' : List (Nat × Nat)} {nd n nL : Nat} (hE : R23 n E E') (ha : R23 n ad ad') (hm : ∀ y ∈ RL, y ∈ RL') (h : LIs kA ad E RL nd nL) : LIs kA ad' E' RL' nd nL := fun x hx => by
  obtain ⟨h1, h2, pv, op, mk, fm, hmk, hpv, c0, c1, hk⟩ := h x hx
  refine ⟨hm _ h1, hm _ h2, pv, op, mk, fm, hmk, ?_, ?_, ?_, fun k hk9 => ⟨?_, MEI_23 hE ha hm (hk k hk9).2⟩⟩
  · rcases hpv with h | ⟨y, hy, h⟩
    · exact Or.inl h
    · exact Or.inr ⟨y, hy, by rw [ha _ _ (by omega)]; exact h⟩
  · rw [hE _ _ (by omega), ha _ _ (by omega)]; exact c0
  · rw [hE _ _ (by omega)]; exact c1
  · rw [ha _ _ (by omega)]; exact (hk k hk9).1
theorem DIs_23 {kA : Nat → ClassId} {ad ad' : Nat → Nat → Nat} {E E' : Nat → Nat → va_E} {RL RL' : List (Nat × Nat)} {nd n : Nat} (hE : R23 n E E') (ha : R23 n ad ad') (hm : ∀ y ∈ RL, y ∈ RL') (hn : nd ≤ 12) (h : DIs kA ad E RL nd) : DIs kA ad' E' RL' nd := DIs_same (fun d hd => fun2 fun o => hE _ _ (by omega)) (fun d hd => fun2 fun o => ha _ _ (by omega)) hm h
theorem LA_add {ad : Nat → Nat → Nat} {ml : Nat} {fl : Nat → Option Nat} (h : ∀ n, n < ml → fl n = some (ad (20 + n) 0)) : ∀ n, n < ml + 1 → va_up fl ml (some (ad (20 + ml) 0)) n = some (ad (20 + n) 0) := fun n hn => by
  by_cases q : n = ml
  · subst q
    exact vu_eq
  · rw [vu_ne q]; exact h n (by omega)
theorem PV_le {ad : Nat → Nat → Nat} {pv : Value} {n m : Nat} (h : pv = .null ∨ ∃ x, x < n ∧ pv = .ref (ad (20 + x) 0)) (hn : n ≤ m) : pv = .null ∨ ∃ x, x < m ∧ pv = .ref (ad (20 + x) 0) := h.elim Or.inl (fun ⟨x, h1, h2⟩ => Or.inr ⟨x, by omega, h2⟩)
theorem DS_add {ad ad' : Nat → Nat → Nat} {nd : Nat} {fd : Nat → Option Nat} (h : ∀ d, d < nd → fd d = some (ad (1 + d) 0)) (ha : ∀ d, d < nd → ad' (1 + d) 0 = ad (1 + d) 0) : ∀ d, d < nd + 1 → va_up fd nd (some (ad' (1 + nd) 0)) d = some (ad' (1 + d) 0) := fun d hd => by
  by_cases q : d = nd
  · subst q
    exact vu_eq
  · rw [vu_ne q, ha d (by omega)]; exact h d (by omega)
theorem DS_ad {ad ad' : Nat → Nat → Nat} {nd : Nat} {fd : Nat → Option Nat} (h : ∀ d, d < nd → fd d = some (ad (1 + d) 0)) (ha : ∀ d, d < nd → ad' (1 + d) 0 = ad (1 + d) 0) : ∀ d, d < nd → fd d = some (ad' (1 + d) 0) := fun d hd => by rw [ha d hd]; exact h d hd
theorem FC_ad {ad ad' : Nat → Nat → Nat} {nd nd' cs : Nat} {fc : Nat → Option Nat} (h : ∀ k, k < cs → ∃ d, d < nd ∧ fc k = some (ad (1 + d) 0)) (ha : ∀ d, d < nd → ad' (1 + d) 0 = ad (1 + d) 0) (hn : nd ≤ nd') : ∀ k, k < cs → ∃ d, d < nd' ∧ fc k = some (ad' (1 + d) 0) := fun k hk => by
  obtain ⟨d, h1, h2⟩ := h k hk
  exact ⟨d, by omega, by rw [ha d h1]; exact h2⟩
theorem PV_ad {ad ad' : Nat → Nat → Nat} {pv : Value} {n : Nat} (h : pv = .null ∨ ∃ x, x < n ∧ pv = .ref (ad (20 + x) 0)) (ha : ∀ x, x < n → ad' (20 + x) 0 = ad (20 + x) 0) : pv = .null ∨ ∃ x, x < n ∧ pv = .ref (ad' (20 + x) 0) := h.elim Or.inl (fun ⟨x, h1, h2⟩ => Or.inr ⟨x, h1, by rw [ha x h1]; exact h2⟩)
theorem LA_ad {ad ad' : Nat → Nat → Nat} {ml : Nat} {fl : Nat → Option Nat} (h : ∀ n, n < ml → fl n = some (ad (20 + n) 0)) (ha : ∀ x, x < ml → ad' (20 + x) 0 = ad (20 + x) 0) : ∀ n, n < ml → fl n = some (ad' (20 + n) 0) := fun n hn => by rw [ha n hn]; exact h n hn
abbrev xb_Li_append : ByteArray := prog_6_method_2_code
def xy_Li_append : MethodName := ⟨"LayerDesk$Line", "append", "(C)Z"⟩
abbrev xb_Li_take : ByteArray := prog_6_method_3_code
def xy_Li_take : MethodName := ⟨"LayerDesk$Line", "take", "()V"⟩
abbrev xb_Li_takeName : ByteArray := prog_6_method_4_code
def xy_Li_takeName : MethodName := ⟨"LayerDesk$Line", "takeName", "()I"⟩
abbrev xb_De_write : ByteArray := prog_1_method_2_code
def xy_De_write : MethodName := ⟨"LayerDesk", "write", "(C)Z"⟩
abbrev xb_De_close : ByteArray := prog_1_method_6_code
def xy_De_close : MethodName := ⟨"LayerDesk", "close", "(I)Z"⟩
theorem xd_De_close_0 : decode xb_De_close 0 = .ok (.aload_n 0, 1) := by decide +kernel
theorem xd_De_close_1 : decode xb_De_close 1 = .ok (.iload_n 1, 1) := by decide +kernel
theorem xd_De_close_2 : decode xb_De_close 2 = .ok (.invokevirtual 68, 3) := by decide +kernel
theorem xd_De_close_5 : decode xb_De_close 5 = .ok (.astore_n 2, 1) := by decide +kernel
theorem xd_De_close_6 : decode xb_De_close 6 = .ok (.aload_n 2, 1) := by decide +kernel
theorem xd_De_close_7 : decode xb_De_close 7 = .ok (.ifnull 11, 3) := by decide +kernel
theorem xd_De_close_10 : decode xb_De_close 10 = .ok (.aload_n 0, 1) := by decide +kernel
theorem xd_De_close_11 : decode xb_De_close 11 = .ok (.aload_n 2, 1) := by decide +kernel
theorem xd_De_close_12 : decode xb_De_close 12 = .ok (.invokevirtual 113, 3) := by decide +kernel
theorem xd_De_close_15 : decode xb_De_close 15 = .ok (.ifCond .eq 5, 3) := by decide +kernel
theorem xd_De_close_18 : decode xb_De_close 18 = .ok (.iconst 0, 1) := by decide +kernel
theorem xd_De_close_19 : decode xb_De_close 19 = .ok (.ireturn, 1) := by decide +kernel
theorem xd_De_close_20 : decode xb_De_close 20 = .ok (.aload_n 2, 1) := by decide +kernel
theorem xd_De_close_21 : decode xb_De_close 21 = .ok (.iconst 0, 1) := by decide +kernel
theorem xd_De_close_22 : decode xb_De_close 22 = .ok (.putfield 117, 3) := by decide +kernel
theorem xd_De_close_25 : decode xb_De_close 25 = .ok (.iconst 1, 1) := by decide +kernel
theorem xd_De_close_26 : decode xb_De_close 26 = .ok (.ireturn, 1) := by decide +kernel
theorem xd_De_write_0 : decode xb_De_write 0 = .ok (.aload_n 0, 1) := by decide +kernel
theorem xd_De_write_1 : decode xb_De_write 1 = .ok (.getfield 10, 3) := by decide +kernel
theorem xd_De_write_4 : decode xb_De_write 4 = .ok (.iload_n 1, 1) := by decide +kernel
theorem xd_De_write_5 : decode xb_De_write 5 = .ok (.invokevirtual 45, 3) := by decide +kernel
theorem xd_De_write_8 : decode xb_De_write 8 = .ok (.ireturn, 1) := by decide +kernel
theorem xd_Li_append_0 : decode xb_Li_append 0 = .ok (.aload_n 0, 1) := by decide +kernel
theorem xd_Li_append_1 : decode xb_Li_append 1 = .ok (.getfield 20, 3) := by decide +kernel
theorem xd_Li_append_4 : decode xb_Li_append 4 = .ok (.bipush 40, 2) := by decide +kernel
theorem xd_Li_append_6 : decode xb_Li_append 6 = .ok (.if_icmp .ge 15, 3) := by decide +kernel
theorem xd_Li_append_9 : decode xb_Li_append 9 = .ok (.iload_n 1, 1) := by decide +kernel
theorem xd_Li_append_10 : decode xb_Li_append 10 = .ok (.bipush 32, 2) := by decide +kernel
theorem xd_Li_append_12 : decode xb_Li_append 12 = .ok (.if_icmp .lt 9, 3) := by decide +kernel
theorem xd_Li_append_15 : decode xb_Li_append 15 = .ok (.iload_n 1, 1) := by decide +kernel
theorem xd_Li_append_16 : decode xb_Li_append 16 = .ok (.bipush 126, 2) := by decide +kernel
theorem xd_Li_append_18 : decode xb_Li_append 18 = .ok (.if_icmp .le 5, 3) := by decide +kernel
theorem xd_Li_append_21 : decode xb_Li_append 21 = .ok (.iconst 0, 1) := by decide +kernel
theorem xd_Li_append_22 : decode xb_Li_append 22 = .ok (.ireturn, 1) := by decide +kernel
theorem xd_Li_append_23 : decode xb_Li_append 23 = .ok (.aload_n 0, 1) := by decide +kernel
theorem xd_Li_append_24 : decode xb_Li_append 24 = .ok (.getfield 9, 3) := by decide +kernel
theorem xd_Li_append_27 : decode xb_Li_append 27 = .ok (.aload_n 0, 1) := by decide +kernel
theorem xd_Li_append_28 : decode xb_Li_append 28 = .ok (.getfield 20, 3) := by decide +kernel
theorem xd_Li_append_31 : decode xb_Li_append 31 = .ok (.iload_n 1, 1) := by decide +kernel
theorem xd_Li_append_32 : decode xb_Li_append 32 = .ok (.castore, 1) := by decide +kernel
theorem xd_Li_append_33 : decode xb_Li_append 33 = .ok (.aload_n 0, 1) := by decide +kernel
theorem xd_Li_append_34 : decode xb_Li_append 34 = .ok (.dup, 1) := by decide +kernel
theorem xd_Li_append_35 : decode xb_Li_append 35 = .ok (.getfield 20, 3) := by decide +kernel
theorem xd_Li_append_38 : decode xb_Li_append 38 = .ok (.iconst 1, 1) := by decide +kernel
theorem xd_Li_append_39 : decode xb_Li_append 39 = .ok (.iadd, 1) := by decide +kernel
theorem xd_Li_append_40 : decode xb_Li_append 40 = .ok (.putfield 20, 3) := by decide +kernel
theorem xd_Li_append_43 : decode xb_Li_append 43 = .ok (.iconst 1, 1) := by decide +kernel
theorem xd_Li_append_44 : decode xb_Li_append 44 = .ok (.ireturn, 1) := by decide +kernel
theorem xd_Li_take_0 : decode xb_Li_take 0 = .ok (.aload_n 0, 1) := by decide +kernel
theorem xd_Li_take_1 : decode xb_Li_take 1 = .ok (.iconst 0, 1) := by decide +kernel
theorem xd_Li_take_2 : decode xb_Li_take 2 = .ok (.putfield 24, 3) := by decide +kernel
theorem xd_Li_take_5 : decode xb_Li_take 5 = .ok (.iconst 0, 1) := by decide +kernel
theorem xd_Li_take_6 : decode xb_Li_take 6 = .ok (.istore_n 1, 1) := by decide +kernel
theorem xd_Li_take_7 : decode xb_Li_take 7 = .ok (.iconst 0, 1) := by decide +kernel
theorem xd_Li_take_8 : decode xb_Li_take 8 = .ok (.istore_n 2, 1) := by decide +kernel
theorem xd_Li_take_9 : decode xb_Li_take 9 = .ok (.iload_n 2, 1) := by decide +kernel
theorem xd_Li_take_10 : decode xb_Li_take 10 = .ok (.aload_n 0, 1) := by decide +kernel
theorem xd_Li_take_11 : decode xb_Li_take 11 = .ok (.getfield 20, 3) := by decide +kernel
theorem xd_Li_take_14 : decode xb_Li_take 14 = .ok (.if_icmp .gt 76, 3) := by decide +kernel
theorem xd_Li_take_17 : decode xb_Li_take 17 = .ok (.iload_n 2, 1) := by decide +kernel
theorem xd_Li_take_18 : decode xb_Li_take 18 = .ok (.aload_n 0, 1) := by decide +kernel
theorem xd_Li_take_19 : decode xb_Li_take 19 = .ok (.getfield 20, 3) := by decide +kernel
theorem xd_Li_take_22 : decode xb_Li_take 22 = .ok (.if_icmp .eq 14, 3) := by decide +kernel
theorem xd_Li_take_25 : decode xb_Li_take 25 = .ok (.aload_n 0, 1) := by decide +kernel
theorem xd_Li_take_26 : decode xb_Li_take 26 = .ok (.getfield 9, 3) := by decide +kernel
theorem xd_Li_take_29 : decode xb_Li_take 29 = .ok (.iload_n 2, 1) := by decide +kernel
theorem xd_Li_take_30 : decode xb_Li_take 30 = .ok (.caload, 1) := by decide +kernel
theorem xd_Li_take_31 : decode xb_Li_take 31 = .ok (.bipush 32, 2) := by decide +kernel
theorem xd_Li_take_33 : decode xb_Li_take 33 = .ok (.if_icmp .ne 51, 3) := by decide +kernel
theorem xd_Li_take_36 : decode xb_Li_take 36 = .ok (.iload_n 2, 1) := by decide +kernel
theorem xd_Li_take_37 : decode xb_Li_take 37 = .ok (.iload_n 1, 1) := by decide +kernel
theorem xd_Li_take_38 : decode xb_Li_take 38 = .ok (.if_icmp .le 42, 3) := by decide +kernel
theorem xd_Li_take_41 : decode xb_Li_take 41 = .ok (.aload_n 0, 1) := by decide +kernel
theorem xd_Li_take_42 : decode xb_Li_take 42 = .ok (.getfield 24, 3) := by decide +kernel
theorem xd_Li_take_45 : decode xb_Li_take 45 = .ok (.bipush 20, 2) := by decide +kernel
theorem xd_Li_take_47 : decode xb_Li_take 47 = .ok (.if_icmp .ge 33, 3) := by decide +kernel
theorem xd_Li_take_50 : decode xb_Li_take 50 = .ok (.aload_n 0, 1) := by decide +kernel
theorem xd_Li_take_51 : decode xb_Li_take 51 = .ok (.getfield 13, 3) := by decide +kernel
theorem xd_Li_take_54 : decode xb_Li_take 54 = .ok (.aload_n 0, 1) := by decide +kernel
theorem xd_Li_take_55 : decode xb_Li_take 55 = .ok (.getfield 24, 3) := by decide +kernel
theorem xd_Li_take_58 : decode xb_Li_take 58 = .ok (.iload_n 1, 1) := by decide +kernel
theorem xd_Li_take_59 : decode xb_Li_take 59 = .ok (.iastore, 1) := by decide +kernel
theorem xd_Li_take_60 : decode xb_Li_take 60 = .ok (.aload_n 0, 1) := by decide +kernel
theorem xd_Li_take_61 : decode xb_Li_take 61 = .ok (.getfield 17, 3) := by decide +kernel
theorem xd_Li_take_64 : decode xb_Li_take 64 = .ok (.aload_n 0, 1) := by decide +kernel
theorem xd_Li_take_65 : decode xb_Li_take 65 = .ok (.getfield 24, 3) := by decide +kernel
theorem xd_Li_take_68 : decode xb_Li_take 68 = .ok (.iload_n 2, 1) := by decide +kernel
theorem xd_Li_take_69 : decode xb_Li_take 69 = .ok (.iastore, 1) := by decide +kernel
theorem xd_Li_take_70 : decode xb_Li_take 70 = .ok (.aload_n 0, 1) := by decide +kernel
theorem xd_Li_take_71 : decode xb_Li_take 71 = .ok (.dup, 1) := by decide +kernel
theorem xd_Li_take_72 : decode xb_Li_take 72 = .ok (.getfield 24, 3) := by decide +kernel
theorem xd_Li_take_75 : decode xb_Li_take 75 = .ok (.iconst 1, 1) := by decide +kernel
theorem xd_Li_take_76 : decode xb_Li_take 76 = .ok (.iadd, 1) := by decide +kernel
theorem xd_Li_take_77 : decode xb_Li_take 77 = .ok (.putfield 24, 3) := by decide +kernel
theorem xd_Li_take_80 : decode xb_Li_take 80 = .ok (.iload_n 2, 1) := by decide +kernel
theorem xd_Li_take_81 : decode xb_Li_take 81 = .ok (.iconst 1, 1) := by decide +kernel
theorem xd_Li_take_82 : decode xb_Li_take 82 = .ok (.iadd, 1) := by decide +kernel
theorem xd_Li_take_83 : decode xb_Li_take 83 = .ok (.istore_n 1, 1) := by decide +kernel
theorem xd_Li_take_84 : decode xb_Li_take 84 = .ok (.iinc 2 1, 3) := by decide +kernel
theorem xd_Li_take_87 : decode xb_Li_take 87 = .ok (.goto (-78), 3) := by decide +kernel
theorem xd_Li_take_90 : decode xb_Li_take 90 = .ok (.aload_n 0, 1) := by decide +kernel
theorem xd_Li_take_91 : decode xb_Li_take 91 = .ok (.iconst 0, 1) := by decide +kernel
theorem xd_Li_take_92 : decode xb_Li_take 92 = .ok (.putfield 20, 3) := by decide +kernel
theorem xd_Li_take_95 : decode xb_Li_take 95 = .ok (.return_, 1) := by decide +kernel
theorem xd_Li_takeName_0 : decode xb_Li_takeName 0 = .ok (.aload_n 0, 1) := by decide +kernel
theorem xd_Li_takeName_1 : decode xb_Li_takeName 1 = .ok (.invokevirtual 27, 3) := by decide +kernel
theorem xd_Li_takeName_4 : decode xb_Li_takeName 4 = .ok (.aload_n 0, 1) := by decide +kernel
theorem xd_Li_takeName_5 : decode xb_Li_takeName 5 = .ok (.getfield 24, 3) := by decide +kernel
theorem xd_Li_takeName_8 : decode xb_Li_takeName 8 = .ok (.iconst 1, 1) := by decide +kernel
theorem xd_Li_takeName_9 : decode xb_Li_takeName 9 = .ok (.if_icmp .ne 11, 3) := by decide +kernel
theorem xd_Li_takeName_12 : decode xb_Li_takeName 12 = .ok (.aload_n 0, 1) := by decide +kernel
theorem xd_Li_takeName_13 : decode xb_Li_takeName 13 = .ok (.iconst 0, 1) := by decide +kernel
theorem xd_Li_takeName_14 : decode xb_Li_takeName 14 = .ok (.invokevirtual 30, 3) := by decide +kernel
theorem xd_Li_takeName_17 : decode xb_Li_takeName 17 = .ok (.goto 4, 3) := by decide +kernel
theorem xd_Li_takeName_20 : decode xb_Li_takeName 20 = .ok (.iconst 0, 1) := by decide +kernel
theorem xd_Li_takeName_21 : decode xb_Li_takeName 21 = .ok (.ireturn, 1) := by decide +kernel
