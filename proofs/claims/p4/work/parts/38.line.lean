abbrev xb_Li_append : ByteArray := prog_6_method_2_code
def xy_Li_append : MethodName := ⟨"LayerDesk$Line", "append", "(C)Z"⟩
abbrev xb_Li_take : ByteArray := prog_6_method_3_code
def xy_Li_take : MethodName := ⟨"LayerDesk$Line", "take", "()V"⟩
abbrev xb_Li_takeName : ByteArray := prog_6_method_4_code
def xy_Li_takeName : MethodName := ⟨"LayerDesk$Line", "takeName", "()I"⟩
abbrev xb_De_write : ByteArray := prog_1_method_2_code
def xy_De_write : MethodName := ⟨"LayerDesk", "write", "(C)Z"⟩
abbrev xb_De_close : ByteArray := prog_1_method_6_code
def xy_De_close : MethodName := ⟨"LayerDesk", "close", "(I)Z"⟩
theorem xd_De_close_0 : decode xb_De_close 0 = .ok (.aload_n 0, 1) := by decide +kernel
theorem xd_De_close_1 : decode xb_De_close 1 = .ok (.iload_n 1, 1) := by decide +kernel
theorem xd_De_close_2 : decode xb_De_close 2 = .ok (.invokevirtual 68, 3) := by decide +kernel
theorem xd_De_close_5 : decode xb_De_close 5 = .ok (.astore_n 2, 1) := by decide +kernel
theorem xd_De_close_6 : decode xb_De_close 6 = .ok (.aload_n 2, 1) := by decide +kernel
theorem xd_De_close_7 : decode xb_De_close 7 = .ok (.ifnull 11, 3) := by decide +kernel
theorem xd_De_close_10 : decode xb_De_close 10 = .ok (.aload_n 0, 1) := by decide +kernel
theorem xd_De_close_11 : decode xb_De_close 11 = .ok (.aload_n 2, 1) := by decide +kernel
theorem xd_De_close_12 : decode xb_De_close 12 = .ok (.invokevirtual 113, 3) := by decide +kernel
theorem xd_De_close_15 : decode xb_De_close 15 = .ok (.ifCond .eq 5, 3) := by decide +kernel
theorem xd_De_close_18 : decode xb_De_close 18 = .ok (.iconst 0, 1) := by decide +kernel
theorem xd_De_close_19 : decode xb_De_close 19 = .ok (.ireturn, 1) := by decide +kernel
theorem xd_De_close_20 : decode xb_De_close 20 = .ok (.aload_n 2, 1) := by decide +kernel
theorem xd_De_close_21 : decode xb_De_close 21 = .ok (.iconst 0, 1) := by decide +kernel
theorem xd_De_close_22 : decode xb_De_close 22 = .ok (.putfield 117, 3) := by decide +kernel
theorem xd_De_close_25 : decode xb_De_close 25 = .ok (.iconst 1, 1) := by decide +kernel
theorem xd_De_close_26 : decode xb_De_close 26 = .ok (.ireturn, 1) := by decide +kernel
theorem xd_De_write_0 : decode xb_De_write 0 = .ok (.aload_n 0, 1) := by decide +kernel
theorem xd_De_write_1 : decode xb_De_write 1 = .ok (.getfield 10, 3) := by decide +kernel
theorem xd_De_write_4 : decode xb_De_write 4 = .ok (.iload_n 1, 1) := by decide +kernel
theorem xd_De_write_5 : decode xb_De_write 5 = .ok (.invokevirtual 45, 3) := by decide +kernel
theorem xd_De_write_8 : decode xb_De_write 8 = .ok (.ireturn, 1) := by decide +kernel
theorem xd_Li_append_0 : decode xb_Li_append 0 = .ok (.aload_n 0, 1) := by decide +kernel
theorem xd_Li_append_1 : decode xb_Li_append 1 = .ok (.getfield 20, 3) := by decide +kernel
theorem xd_Li_append_4 : decode xb_Li_append 4 = .ok (.bipush 40, 2) := by decide +kernel
theorem xd_Li_append_6 : decode xb_Li_append 6 = .ok (.if_icmp .ge 15, 3) := by decide +kernel
theorem xd_Li_append_9 : decode xb_Li_append 9 = .ok (.iload_n 1, 1) := by decide +kernel
theorem xd_Li_append_10 : decode xb_Li_append 10 = .ok (.bipush 32, 2) := by decide +kernel
theorem xd_Li_append_12 : decode xb_Li_append 12 = .ok (.if_icmp .lt 9, 3) := by decide +kernel
theorem xd_Li_append_15 : decode xb_Li_append 15 = .ok (.iload_n 1, 1) := by decide +kernel
theorem xd_Li_append_16 : decode xb_Li_append 16 = .ok (.bipush 126, 2) := by decide +kernel
theorem xd_Li_append_18 : decode xb_Li_append 18 = .ok (.if_icmp .le 5, 3) := by decide +kernel
theorem xd_Li_append_21 : decode xb_Li_append 21 = .ok (.iconst 0, 1) := by decide +kernel
theorem xd_Li_append_22 : decode xb_Li_append 22 = .ok (.ireturn, 1) := by decide +kernel
theorem xd_Li_append_23 : decode xb_Li_append 23 = .ok (.aload_n 0, 1) := by decide +kernel
theorem xd_Li_append_24 : decode xb_Li_append 24 = .ok (.getfield 9, 3) := by decide +kernel
theorem xd_Li_append_27 : decode xb_Li_append 27 = .ok (.aload_n 0, 1) := by decide +kernel
theorem xd_Li_append_28 : decode xb_Li_append 28 = .ok (.getfield 20, 3) := by decide +kernel
theorem xd_Li_append_31 : decode xb_Li_append 31 = .ok (.iload_n 1, 1) := by decide +kernel
theorem xd_Li_append_32 : decode xb_Li_append 32 = .ok (.castore, 1) := by decide +kernel
theorem xd_Li_append_33 : decode xb_Li_append 33 = .ok (.aload_n 0, 1) := by decide +kernel
theorem xd_Li_append_34 : decode xb_Li_append 34 = .ok (.dup, 1) := by decide +kernel
theorem xd_Li_append_35 : decode xb_Li_append 35 = .ok (.getfield 20, 3) := by decide +kernel
theorem xd_Li_append_38 : decode xb_Li_append 38 = .ok (.iconst 1, 1) := by decide +kernel
theorem xd_Li_append_39 : decode xb_Li_append 39 = .ok (.iadd, 1) := by decide +kernel
theorem xd_Li_append_40 : decode xb_Li_append 40 = .ok (.putfield 20, 3) := by decide +kernel
theorem xd_Li_append_43 : decode xb_Li_append 43 = .ok (.iconst 1, 1) := by decide +kernel
theorem xd_Li_append_44 : decode xb_Li_append 44 = .ok (.ireturn, 1) := by decide +kernel
theorem xd_Li_take_0 : decode xb_Li_take 0 = .ok (.aload_n 0, 1) := by decide +kernel
theorem xd_Li_take_1 : decode xb_Li_take 1 = .ok (.iconst 0, 1) := by decide +kernel
theorem xd_Li_take_2 : decode xb_Li_take 2 = .ok (.putfield 24, 3) := by decide +kernel
theorem xd_Li_take_5 : decode xb_Li_take 5 = .ok (.iconst 0, 1) := by decide +kernel
theorem xd_Li_take_6 : decode xb_Li_take 6 = .ok (.istore_n 1, 1) := by decide +kernel
theorem xd_Li_take_7 : decode xb_Li_take 7 = .ok (.iconst 0, 1) := by decide +kernel
theorem xd_Li_take_8 : decode xb_Li_take 8 = .ok (.istore_n 2, 1) := by decide +kernel
theorem xd_Li_take_9 : decode xb_Li_take 9 = .ok (.iload_n 2, 1) := by decide +kernel
theorem xd_Li_take_10 : decode xb_Li_take 10 = .ok (.aload_n 0, 1) := by decide +kernel
theorem xd_Li_take_11 : decode xb_Li_take 11 = .ok (.getfield 20, 3) := by decide +kernel
theorem xd_Li_take_14 : decode xb_Li_take 14 = .ok (.if_icmp .gt 76, 3) := by decide +kernel
theorem xd_Li_take_17 : decode xb_Li_take 17 = .ok (.iload_n 2, 1) := by decide +kernel
theorem xd_Li_take_18 : decode xb_Li_take 18 = .ok (.aload_n 0, 1) := by decide +kernel
theorem xd_Li_take_19 : decode xb_Li_take 19 = .ok (.getfield 20, 3) := by decide +kernel
theorem xd_Li_take_22 : decode xb_Li_take 22 = .ok (.if_icmp .eq 14, 3) := by decide +kernel
theorem xd_Li_take_25 : decode xb_Li_take 25 = .ok (.aload_n 0, 1) := by decide +kernel
theorem xd_Li_take_26 : decode xb_Li_take 26 = .ok (.getfield 9, 3) := by decide +kernel
theorem xd_Li_take_29 : decode xb_Li_take 29 = .ok (.iload_n 2, 1) := by decide +kernel
theorem xd_Li_take_30 : decode xb_Li_take 30 = .ok (.caload, 1) := by decide +kernel
theorem xd_Li_take_31 : decode xb_Li_take 31 = .ok (.bipush 32, 2) := by decide +kernel
theorem xd_Li_take_33 : decode xb_Li_take 33 = .ok (.if_icmp .ne 51, 3) := by decide +kernel
theorem xd_Li_take_36 : decode xb_Li_take 36 = .ok (.iload_n 2, 1) := by decide +kernel
theorem xd_Li_take_37 : decode xb_Li_take 37 = .ok (.iload_n 1, 1) := by decide +kernel
theorem xd_Li_take_38 : decode xb_Li_take 38 = .ok (.if_icmp .le 42, 3) := by decide +kernel
theorem xd_Li_take_41 : decode xb_Li_take 41 = .ok (.aload_n 0, 1) := by decide +kernel
theorem xd_Li_take_42 : decode xb_Li_take 42 = .ok (.getfield 24, 3) := by decide +kernel
theorem xd_Li_take_45 : decode xb_Li_take 45 = .ok (.bipush 20, 2) := by decide +kernel
theorem xd_Li_take_47 : decode xb_Li_take 47 = .ok (.if_icmp .ge 33, 3) := by decide +kernel
theorem xd_Li_take_50 : decode xb_Li_take 50 = .ok (.aload_n 0, 1) := by decide +kernel
theorem xd_Li_take_51 : decode xb_Li_take 51 = .ok (.getfield 13, 3) := by decide +kernel
theorem xd_Li_take_54 : decode xb_Li_take 54 = .ok (.aload_n 0, 1) := by decide +kernel
theorem xd_Li_take_55 : decode xb_Li_take 55 = .ok (.getfield 24, 3) := by decide +kernel
theorem xd_Li_take_58 : decode xb_Li_take 58 = .ok (.iload_n 1, 1) := by decide +kernel
theorem xd_Li_take_59 : decode xb_Li_take 59 = .ok (.iastore, 1) := by decide +kernel
theorem xd_Li_take_60 : decode xb_Li_take 60 = .ok (.aload_n 0, 1) := by decide +kernel
theorem xd_Li_take_61 : decode xb_Li_take 61 = .ok (.getfield 17, 3) := by decide +kernel
theorem xd_Li_take_64 : decode xb_Li_take 64 = .ok (.aload_n 0, 1) := by decide +kernel
theorem xd_Li_take_65 : decode xb_Li_take 65 = .ok (.getfield 24, 3) := by decide +kernel
theorem xd_Li_take_68 : decode xb_Li_take 68 = .ok (.iload_n 2, 1) := by decide +kernel
theorem xd_Li_take_69 : decode xb_Li_take 69 = .ok (.iastore, 1) := by decide +kernel
theorem xd_Li_take_70 : decode xb_Li_take 70 = .ok (.aload_n 0, 1) := by decide +kernel
theorem xd_Li_take_71 : decode xb_Li_take 71 = .ok (.dup, 1) := by decide +kernel
theorem xd_Li_take_72 : decode xb_Li_take 72 = .ok (.getfield 24, 3) := by decide +kernel
theorem xd_Li_take_75 : decode xb_Li_take 75 = .ok (.iconst 1, 1) := by decide +kernel
theorem xd_Li_take_76 : decode xb_Li_take 76 = .ok (.iadd, 1) := by decide +kernel
theorem xd_Li_take_77 : decode xb_Li_take 77 = .ok (.putfield 24, 3) := by decide +kernel
theorem xd_Li_take_80 : decode xb_Li_take 80 = .ok (.iload_n 2, 1) := by decide +kernel
theorem xd_Li_take_81 : decode xb_Li_take 81 = .ok (.iconst 1, 1) := by decide +kernel
theorem xd_Li_take_82 : decode xb_Li_take 82 = .ok (.iadd, 1) := by decide +kernel
theorem xd_Li_take_83 : decode xb_Li_take 83 = .ok (.istore_n 1, 1) := by decide +kernel
theorem xd_Li_take_84 : decode xb_Li_take 84 = .ok (.iinc 2 1, 3) := by decide +kernel
theorem xd_Li_take_87 : decode xb_Li_take 87 = .ok (.goto (-78), 3) := by decide +kernel
theorem xd_Li_take_90 : decode xb_Li_take 90 = .ok (.aload_n 0, 1) := by decide +kernel
theorem xd_Li_take_91 : decode xb_Li_take 91 = .ok (.iconst 0, 1) := by decide +kernel
theorem xd_Li_take_92 : decode xb_Li_take 92 = .ok (.putfield 20, 3) := by decide +kernel
theorem xd_Li_take_95 : decode xb_Li_take 95 = .ok (.return_, 1) := by decide +kernel
theorem xd_Li_takeName_0 : decode xb_Li_takeName 0 = .ok (.aload_n 0, 1) := by decide +kernel
theorem xd_Li_takeName_1 : decode xb_Li_takeName 1 = .ok (.invokevirtual 27, 3) := by decide +kernel
theorem xd_Li_takeName_4 : decode xb_Li_takeName 4 = .ok (.aload_n 0, 1) := by decide +kernel
theorem xd_Li_takeName_5 : decode xb_Li_takeName 5 = .ok (.getfield 24, 3) := by decide +kernel
theorem xd_Li_takeName_8 : decode xb_Li_takeName 8 = .ok (.iconst 1, 1) := by decide +kernel
theorem xd_Li_takeName_9 : decode xb_Li_takeName 9 = .ok (.if_icmp .ne 11, 3) := by decide +kernel
theorem xd_Li_takeName_12 : decode xb_Li_takeName 12 = .ok (.aload_n 0, 1) := by decide +kernel
theorem xd_Li_takeName_13 : decode xb_Li_takeName 13 = .ok (.iconst 0, 1) := by decide +kernel
theorem xd_Li_takeName_14 : decode xb_Li_takeName 14 = .ok (.invokevirtual 30, 3) := by decide +kernel
theorem xd_Li_takeName_17 : decode xb_Li_takeName 17 = .ok (.goto 4, 3) := by decide +kernel
theorem xd_Li_takeName_20 : decode xb_Li_takeName 20 = .ok (.iconst 0, 1) := by decide +kernel
theorem xd_Li_takeName_21 : decode xb_Li_takeName 21 = .ok (.ireturn, 1) := by decide +kernel
theorem yp_0 : (Cond.fieldLink "LayerDesk$Line" 20 "LayerDesk$Line" "length" "I") ∈ wT := wT_t (List.mem_append_left _ (List.mem_of_getElem? (i := 39) rfl)) rfl
theorem yp_1 : (Cond.fieldLink "LayerDesk$Line" 9 "LayerDesk$Line" "text" "[C") ∈ wT := wT_t (List.mem_append_left _ (List.mem_of_getElem? (i := 36) rfl)) rfl
theorem yp_2 : (Cond.fieldLink "LayerDesk$Line" 24 "LayerDesk$Line" "words" "I") ∈ wT := wT_t (List.mem_append_left _ (List.mem_of_getElem? (i := 40) rfl)) rfl
theorem yp_3 : (Cond.fieldLink "LayerDesk$Line" 13 "LayerDesk$Line" "starts" "[I") ∈ wT := wT_t (List.mem_append_left _ (List.mem_of_getElem? (i := 37) rfl)) rfl
theorem yp_4 : (Cond.fieldLink "LayerDesk$Line" 17 "LayerDesk$Line" "ends" "[I") ∈ wT := wT_t (List.mem_append_left _ (List.mem_of_getElem? (i := 38) rfl)) rfl
theorem yp_5 : (Cond.code xy_Li_take xb_Li_take 3 none) ∈ wT := wT_t (List.mem_append_left _ (List.mem_of_getElem? (i := 190) rfl)) rfl
theorem yp_6 : (Cond.methodLink "LayerDesk$Line" 27 xy_Li_take) ∈ wT := wT_t (List.mem_append_right _ (List.mem_append_right _ (List.mem_append_right _ (List.mem_append_left _ (List.mem_of_getElem? (i := 43) rfl))))) rfl
theorem yp_7 : (Cond.instanceMethod xy_Li_take) ∈ wT := wT_t (List.mem_append_left _ (List.mem_of_getElem? (i := 188) rfl)) rfl
theorem yp_8 : (Cond.selects "LayerDesk$Line" xy_Li_take xy_Li_take) ∈ wT := wT_t (List.mem_append_left _ (List.mem_of_getElem? (i := 189) rfl)) rfl
theorem yp_9 : (Cond.initialized "LayerDesk$Line") ∈ wT := wT_t (List.mem_append_left _ (List.mem_of_getElem? (i := 2) rfl)) rfl
theorem yp_10 : (Cond.code xy_Li_nameAt xb_Li_nameAt 4 (some .int)) ∈ wT := wT_t (List.mem_append_right _ (List.mem_append_left _ (List.mem_of_getElem? (i := 17) rfl))) rfl
theorem yp_11 : (Cond.methodLink "LayerDesk$Line" 30 xy_Li_nameAt) ∈ wT := wT_t (List.mem_append_right _ (List.mem_append_right _ (List.mem_append_right _ (List.mem_append_left _ (List.mem_of_getElem? (i := 44) rfl))))) rfl
theorem yp_12 : (Cond.instanceMethod xy_Li_nameAt) ∈ wT := wT_t (List.mem_append_right _ (List.mem_append_left _ (List.mem_of_getElem? (i := 15) rfl))) rfl
theorem yp_13 : (Cond.selects "LayerDesk$Line" xy_Li_nameAt xy_Li_nameAt) ∈ wT := wT_t (List.mem_append_right _ (List.mem_append_left _ (List.mem_of_getElem? (i := 16) rfl))) rfl
theorem yp_14 : (Cond.fieldLink "LayerDesk" 10 "LayerDesk" "written" "LLayerDesk$Line;") ∈ wT := wT_t (List.mem_append_left _ (List.mem_of_getElem? (i := 99) rfl)) rfl
theorem yp_15 : (Cond.code xy_Li_append xb_Li_append 2 (some .boolean)) ∈ wT := wT_t (List.mem_append_left _ (List.mem_of_getElem? (i := 125) rfl)) rfl
theorem yp_16 : (Cond.methodLink "LayerDesk" 45 xy_Li_append) ∈ wT := wT_t (List.mem_append_left _ (List.mem_of_getElem? (i := 122) rfl)) rfl
theorem yp_17 : (Cond.instanceMethod xy_Li_append) ∈ wT := wT_t (List.mem_append_left _ (List.mem_of_getElem? (i := 123) rfl)) rfl
theorem yp_18 : (Cond.selects "LayerDesk$Line" xy_Li_append xy_Li_append) ∈ wT := wT_t (List.mem_append_left _ (List.mem_of_getElem? (i := 124) rfl)) rfl
theorem yp_19 : (Cond.code xy_De_openLayer xb_De_openLayer 3 (some (.object "LayerDesk$Layer"))) ∈ wT := wT_t (List.mem_append_left _ (List.mem_of_getElem? (i := 137) rfl)) rfl
theorem yp_20 : (Cond.methodLink "LayerDesk" 68 xy_De_openLayer) ∈ wT := wT_t (List.mem_append_left _ (List.mem_of_getElem? (i := 134) rfl)) rfl
theorem yp_21 : (Cond.instanceMethod xy_De_openLayer) ∈ wT := wT_t (List.mem_append_left _ (List.mem_of_getElem? (i := 136) rfl)) rfl
theorem yp_22 : (Cond.selects "LayerDesk" xy_De_openLayer xy_De_openLayer) ∈ wT := wT_s (q := (xy_De_openLayer, 6)) (by decide +kernel) rfl
theorem yp_23 : (Cond.initialized "LayerDesk") ∈ wT := wT_t (List.mem_append_left _ (List.mem_of_getElem? (i := 1) rfl)) rfl
theorem yp_24 : (Cond.code xy_De_isParentOfOpen xb_De_isParentOfOpen 4 (some .boolean)) ∈ wT := wT_t (List.mem_append_left _ (List.mem_of_getElem? (i := 141) rfl)) rfl
theorem yp_25 : (Cond.methodLink "LayerDesk" 113 xy_De_isParentOfOpen) ∈ wT := wT_t (List.mem_append_left _ (List.mem_of_getElem? (i := 138) rfl)) rfl
theorem yp_26 : (Cond.instanceMethod xy_De_isParentOfOpen) ∈ wT := wT_t (List.mem_append_left _ (List.mem_of_getElem? (i := 140) rfl)) rfl
theorem yp_27 : (Cond.selects "LayerDesk" xy_De_isParentOfOpen xy_De_isParentOfOpen) ∈ wT := wT_s (q := (xy_De_isParentOfOpen, 6)) (by decide +kernel) rfl
theorem yp_28 : (Cond.fieldLink "LayerDesk" 117 "LayerDesk$Layer" "open" "Z") ∈ wT := wT_t (List.mem_append_right _ (List.mem_append_right _ (List.mem_append_left _ (List.mem_of_getElem? (i := 152) rfl)))) rfl
set_option maxHeartbeats 4000000 in
set_option maxRecDepth 100000 in
theorem xc_Li_append (l : Launch) (D : va_G) (kA : Nat → ClassId) (sz : Nat) (ad : Nat → Nat → Nat) (E : Nat → Nat → va_E) (RL : List (Nat × Nat)) (len : Nat) (wn : Nat) (tx : Nat → Int32) (cc9 : Int32) (ym0 : (0, 1) ∈ RL) (yc0 : E 0 1 = .inr (1, [.ref (ad 0 2), .ref (ad 0 3), .ref (ad 0 4), .int (nI len), .int (nI wn)])) (ym1 : (0, 2) ∈ RL) (yc1 : E 0 2 = .inl (kA 1, 40, .inl tx)) (hl40 : len ≤ 40) : Met l xy_Li_append (.code xy_Li_append xb_Li_append 2 (some .boolean) :: wT) { frames := 0, cells := 0, slots := 0, locals := 0 } (va_Pc [.ref (ad 0 1), .int cc9] (xPre D kA sz (rp ad E RL))) (va_Qi (fun (r : Int32) (u : Nat → Nat → va_E) => ∃ len2 : Nat, ∃ tx2 : Nat → Int32, ((r = 0 ∧ len2 = len ∧ (cc9 < 32 ∨ 126 < cc9 ∨ len = 40)) ∨ (r = 1 ∧ len2 = len + 1 ∧ len < 40 ∧ ¬ cc9 < 32 ∧ ¬ 126 < cc9)) ∧ (u 0 1 = .inr (1, [.ref (ad 0 2), .ref (ad 0 3), .ref (ad 0 4), .int (nI len2), .int (nI wn)])) ∧ (u 0 2 = .inl (kA 1, 40, .inl tx2)) ∧ ((∀ b2 o2, ¬ (b2 = 0 ∧ o2 = 1) → ¬ (b2 = 0 ∧ o2 = 2) → u b2 o2 = E b2 o2))) (fun (u : Nat → Nat → va_E) t => va_P D xcl (rp ad u RL) t.heap ∧ va_D (va_A (rp ad E RL) sz) (rp ad u RL)) (va_A (rp ad E RL) sz)) 0 0 (va_A (rp ad E RL) sz) := by
  refine Met.ofW (cc := xb_Li_append) (maxL := 2) (ret := (some .boolean)) (by decide) rfl ?_
  intro p e s m args below meth c s₁ B hml hv
  obtain ⟨rfl, hsz, hP, hK, hD0⟩ := hv
  have hx := B.exec
  have hb := B.bytes
  have hr := B.returns
  have hT := x_hT B.pre
  have hown : s.vm.findClass xR_Li = some m.cls := findClass_of_methodNamed B.named
  have hlocks := B.notSynchronized
  subst hsz
  have hD := hD0.self (sz := s.heap.size)
  generalize hAe : va_A (rp ad E RL) s.heap.size = A at hD ⊢
  have hA : ∀ q : Nat, s.heap.size ≤ q → A q := fun q h => by rw [← hAe]; exact Or.inr h
  have hS : va_S A s.heap s.heap [] := va_S.rf
  have hl := lv_entry ([.ref (ad 0 1), .int cc9]) (n := 2) (Nat.le_of_ble_eq_true rfl)
  rw [lg_entry_eq]
  generalize (lg_sl ([.ref (ad 0 1), .int cc9]) ++ List.replicate (2 - (lg_sl ([.ref (ad 0 1), .int cc9])).length) Slot.unset).toArray = ls at hl ⊢
  have hl : lv_has ls 2 [(0, .ref (ad 0 1)), (1, .int cc9)] := hl
  have hP : va_P D xcl (rp ad E RL) s.heap := hP
  refine lv_aload_n hx hb xd_Li_append_0 rfl (lv_at hl 0 rfl) ?_
  refine px_get (D := D) (ci := 1) (v := .int (nI len)) (C := xR_Li) (T := xT_Li) (N := 5) hx hb hT xi_Li hown hK.1 hP ym0 yc0 rfl 3 (by decide) (hT _ yp_0) (fun _ h9 => h9) rfl xd_Li_append_1 ?_
  refine lv_bipush (v := 40) hx hb xd_Li_append_4 (by decide) ?_
  refine xn_ge (a := len) (b := 40) (tgt := 21) hx hb xd_Li_append_6 (by decide) (by omega) (by omega) (fun hc1 => ?_) (fun hc1 => ?_)
  · refine lv_iconst (v := 0) hx hb xd_Li_append_21 (by decide) ?_
    exact W.zret (v := 0) hx hb hr rfl (fun t ht hW => ⟨⟨0, E, rfl, ⟨len, tx, (Or.inl ⟨rfl, rfl, Or.inr (Or.inr (by omega))⟩), yc0, yc1, (fun b2 o2 h09 h19 => rfl)⟩, by rw [ht]; exact hP, hD⟩, hS.F ht⟩) hS.2.2 xd_Li_append_22
  · refine lv_iload_n hx hb xd_Li_append_9 rfl (lv_at hl 1 rfl) ?_
    refine lv_bipush (v := 32) hx hb xd_Li_append_10 (by decide) ?_
    refine lv_icmp_lt (tgt := 21) hx hb xd_Li_append_12 (by decide) (fun hc2 => ?_) (fun hc2 => ?_)
    · refine lv_iconst (v := 0) hx hb xd_Li_append_21 (by decide) ?_
      exact W.zret (v := 0) hx hb hr rfl (fun t ht hW => ⟨⟨0, E, rfl, ⟨len, tx, (Or.inl ⟨rfl, rfl, Or.inl hc2⟩), yc0, yc1, (fun b2 o2 h09 h19 => rfl)⟩, by rw [ht]; exact hP, hD⟩, hS.F ht⟩) hS.2.2 xd_Li_append_22
    · refine lv_iload_n hx hb xd_Li_append_15 rfl (lv_at hl 1 rfl) ?_
      refine lv_bipush (v := 126) hx hb xd_Li_append_16 (by decide) ?_
      refine lv_icmp_le (tgt := 23) hx hb xd_Li_append_18 (by decide) (fun hc3 => ?_) (fun hc3 => ?_)
      · refine lv_aload_n hx hb xd_Li_append_23 rfl (lv_at hl 0 rfl) ?_
        refine px_get (D := D) (ci := 1) (v := .ref (ad 0 2)) (C := xR_Li) (T := xT_Li) (N := 5) hx hb hT xi_Li hown hK.1 hP ym0 yc0 rfl 0 (by decide) (hT _ yp_1) (fun _ h9 => h9) rfl xd_Li_append_24 ?_
        refine lv_aload_n hx hb xd_Li_append_27 rfl (lv_at hl 0 rfl) ?_
        refine px_get (D := D) (ci := 1) (v := .int (nI len)) (C := xR_Li) (T := xT_Li) (N := 5) hx hb hT xi_Li hown hK.1 hP ym0 yc0 rfl 3 (by decide) (hT _ yp_0) (fun _ h9 => h9) rfl xd_Li_append_28 ?_
        refine lv_iload_n hx hb xd_Li_append_31 rfl (lv_at hl 1 rfl) ?_
        refine px_cast (i := len) hx hb hK.1 hP hD hS ym1 yc1 1 rfl (by omega) (by decide) xd_Li_append_32 (fun H locs hP hD hS => ?_)
        have hP : va_P D xcl (rp ad (up2 E 0 2 (.inl (kA 1, 40, .inl (upd tx len (vp_nar .char cc9))))) RL) H := hP
        have hD : va_D A (rp ad (up2 E 0 2 (.inl (kA 1, 40, .inl (upd tx len (vp_nar .char cc9))))) RL) := hD
        generalize hE5 : up2 E 0 2 (.inl (kA 1, 40, .inl (upd tx len (vp_nar .char cc9)))) = E4 at hP hD
        have fE6 : ∀ b2 o2, ¬ (b2 = 0 ∧ o2 = 2) → E4 b2 o2 = E b2 o2 := fun b2 o2 h9 => by rw [← hE5]; exact up2_ne (by omega)
        have c_7 : E4 0 2 = .inl (kA 1, 40, .inl (upd tx len (vp_nar .char cc9))) := by rw [← hE5]; exact up2_eq
        have c_8 : E4 0 1 = .inr (1, [.ref (ad 0 2), .ref (ad 0 3), .ref (ad 0 4), .int (nI len), .int (nI wn)]) := (fE6 0 1 (by omega)).trans yc0
        refine lv_aload_n hx hb xd_Li_append_33 rfl (lv_at hl 0 rfl) ?_
        refine lv_dup hx hb xd_Li_append_34 rfl ?_
        refine px_get (D := D) (ci := 1) (v := .int (nI len)) (C := xR_Li) (T := xT_Li) (N := 5) hx hb hT xi_Li hown hK.1 hP ym0 c_8 rfl 3 (by decide) (hT _ yp_0) (fun _ h9 => h9) rfl xd_Li_append_35 ?_
        refine lv_iconst (v := 1) hx hb xd_Li_append_38 (by decide) ?_
        refine lv_iadd hx hb xd_Li_append_39 ?_
        refine xn_top (y := nI (len + 1)) (nI_add len 1) ?_
        refine px_put (D := D) (ci := 1) (v := .int (nI (len + 1))) (ty := .int) (C := xR_Li) (T := xT_Li) (N := 5) hx hb hT xi_Li xt_Li xt_Li_ok xn_Li hown hK.1 hP hD hS ym0 c_8 rfl 3 (by decide) (hT _ yp_0) (fun _ h9 => h9) rfl (by decide +kernel) rfl rfl (Nat.le_of_ble_eq_true rfl) xd_Li_append_40 (fun H locs hP hD hS => ?_)
        have hP : va_P D xcl (rp ad (up2 E4 0 1 (.inr (1, [.ref (ad 0 2), .ref (ad 0 3), .ref (ad 0 4), .int (nI (len + 1)), .int (nI wn)]))) RL) H := hP
        have hD : va_D A (rp ad (up2 E4 0 1 (.inr (1, [.ref (ad 0 2), .ref (ad 0 3), .ref (ad 0 4), .int (nI (len + 1)), .int (nI wn)]))) RL) := hD
        generalize hE10 : up2 E4 0 1 (.inr (1, [.ref (ad 0 2), .ref (ad 0 3), .ref (ad 0 4), .int (nI (len + 1)), .int (nI wn)])) = E9 at hP hD
        have fE11 : ∀ b2 o2, ¬ (b2 = 0 ∧ o2 = 1) → E9 b2 o2 = E4 b2 o2 := fun b2 o2 h9 => by rw [← hE10]; exact up2_ne (by omega)
        have c_12 : E9 0 1 = .inr (1, [.ref (ad 0 2), .ref (ad 0 3), .ref (ad 0 4), .int (nI (len + 1)), .int (nI wn)]) := by rw [← hE10]; exact up2_eq
        have c_13 : E9 0 2 = .inl (kA 1, 40, .inl (upd tx len (vp_nar .char cc9))) := (fE11 0 2 (by omega)).trans c_7
        refine lv_iconst (v := 1) hx hb xd_Li_append_43 (by decide) ?_
        exact W.zret (v := 1) hx hb hr rfl (fun t ht hW => ⟨⟨1, E9, rfl, ⟨len + 1, (upd tx len (vp_nar .char cc9)), (Or.inr ⟨rfl, rfl, by omega, hc2, Int32.not_lt.mpr hc3⟩), c_12, c_13, (fun b2 o2 h09 h19 => by show E9 b2 o2 = _; rw [fE11 b2 o2 (by omega), fE6 b2 o2 (by omega)])⟩, by rw [ht]; exact hP, hD⟩, hS.F ht⟩) hS.2.2 xd_Li_append_44
      · refine lv_iconst (v := 0) hx hb xd_Li_append_21 (by decide) ?_
        exact W.zret (v := 0) hx hb hr rfl (fun t ht hW => ⟨⟨0, E, rfl, ⟨len, tx, (Or.inl ⟨rfl, rfl, Or.inr (Or.inl (Int32.not_le.mp hc3))⟩), yc0, yc1, (fun b2 o2 h09 h19 => rfl)⟩, by rw [ht]; exact hP, hD⟩, hS.F ht⟩) hS.2.2 xd_Li_append_22
set_option maxHeartbeats 4000000 in
set_option maxRecDepth 100000 in
theorem xc_Li_take (l : Launch) (D : va_G) (kA : Nat → ClassId) (sz : Nat) (ad : Nat → Nat → Nat) (E : Nat → Nat → va_E) (RL : List (Nat × Nat)) (len : Nat) (wn : Nat) (tx : Nat → Int32) (fb : Nat → Int32) (fe : Nat → Int32) (ym0 : (0, 1) ∈ RL) (yc0 : E 0 1 = .inr (1, [.ref (ad 0 2), .ref (ad 0 3), .ref (ad 0 4), .int (nI len), .int (nI wn)])) (ym1 : (0, 2) ∈ RL) (yc1 : E 0 2 = .inl (kA 1, 40, .inl tx)) (ym2 : (0, 3) ∈ RL) (yc2 : E 0 3 = .inl (kA 0, 20, .inl fb)) (ym3 : (0, 4) ∈ RL) (yc3 : E 0 4 = .inl (kA 0, 20, .inl fe)) (hl40 : len ≤ 40) : Met l xy_Li_take (.code xy_Li_take xb_Li_take 3 none :: wT) { frames := 0, cells := 0, slots := 0, locals := 0 } (va_Pc [.ref (ad 0 1)] (xPre D kA sz (rp ad E RL))) (va_Qv (fun (u : Nat → Nat → va_E) => ∃ wn2 : Nat, ∃ fb2 : Nat → Int32, ∃ fe2 : Nat → Int32, (wn2 ≤ 20 ∧ WP wn2 fb2 fe2) ∧ (u 0 1 = .inr (1, [.ref (ad 0 2), .ref (ad 0 3), .ref (ad 0 4), .int 0, .int (nI wn2)])) ∧ (u 0 3 = .inl (kA 0, 20, .inl fb2)) ∧ (u 0 4 = .inl (kA 0, 20, .inl fe2)) ∧ ((∀ b2 o2, ¬ (b2 = 0 ∧ o2 = 1) → ¬ (b2 = 0 ∧ o2 = 3) → ¬ (b2 = 0 ∧ o2 = 4) → u b2 o2 = E b2 o2))) (fun (u : Nat → Nat → va_E) t => va_P D xcl (rp ad u RL) t.heap ∧ va_D (va_A (rp ad E RL) sz) (rp ad u RL)) (va_A (rp ad E RL) sz)) 0 0 (va_A (rp ad E RL) sz) := by
  refine Met.ofW (cc := xb_Li_take) (maxL := 3) (ret := none) (by decide) rfl ?_
  intro p e s m args below meth c s₁ B hml hv
  obtain ⟨rfl, hsz, hP, hK, hD0⟩ := hv
  have hx := B.exec
  have hb := B.bytes
  have hr := B.returns
  have hT := x_hT B.pre
  have hown : s.vm.findClass xR_Li = some m.cls := findClass_of_methodNamed B.named
  have hlocks := B.notSynchronized
  subst hsz
  have hD := hD0.self (sz := s.heap.size)
  generalize hAe : va_A (rp ad E RL) s.heap.size = A at hD ⊢
  have hA : ∀ q : Nat, s.heap.size ≤ q → A q := fun q h => by rw [← hAe]; exact Or.inr h
  have hS : va_S A s.heap s.heap [] := va_S.rf
  have hl := lv_entry ([.ref (ad 0 1)]) (n := 3) (Nat.le_of_ble_eq_true rfl)
  rw [lg_entry_eq]
  generalize (lg_sl ([.ref (ad 0 1)]) ++ List.replicate (3 - (lg_sl ([.ref (ad 0 1)])).length) Slot.unset).toArray = ls at hl ⊢
  have hl : lv_has ls 3 [(0, .ref (ad 0 1))] := hl
  have hP : va_P D xcl (rp ad E RL) s.heap := hP
  refine lv_aload_n hx hb xd_Li_take_0 rfl (lv_at hl 0 rfl) ?_
  refine lv_iconst (v := 0) hx hb xd_Li_take_1 (by decide) ?_
  refine px_put (D := D) (ci := 1) (v := .int 0) (ty := .int) (C := xR_Li) (T := xT_Li) (N := 5) hx hb hT xi_Li xt_Li xt_Li_ok xn_Li hown hK.1 hP hD hS ym0 yc0 rfl 4 (by decide) (hT _ yp_2) (fun _ h9 => h9) rfl (by decide +kernel) rfl rfl (Nat.le_of_ble_eq_true rfl) xd_Li_take_2 (fun H locs hP hD hS => ?_)
  have hP : va_P D xcl (rp ad (up2 E 0 1 (.inr (1, [.ref (ad 0 2), .ref (ad 0 3), .ref (ad 0 4), .int (nI len), .int 0]))) RL) H := hP
  have hD : va_D A (rp ad (up2 E 0 1 (.inr (1, [.ref (ad 0 2), .ref (ad 0 3), .ref (ad 0 4), .int (nI len), .int 0]))) RL) := hD
  generalize hE2 : up2 E 0 1 (.inr (1, [.ref (ad 0 2), .ref (ad 0 3), .ref (ad 0 4), .int (nI len), .int 0])) = E1 at hP hD
  have fE3 : ∀ b2 o2, ¬ (b2 = 0 ∧ o2 = 1) → E1 b2 o2 = E b2 o2 := fun b2 o2 h9 => by rw [← hE2]; exact up2_ne (by omega)
  have c_4 : E1 0 1 = .inr (1, [.ref (ad 0 2), .ref (ad 0 3), .ref (ad 0 4), .int (nI len), .int 0]) := by rw [← hE2]; exact up2_eq
  have c_5 : E1 0 2 = .inl (kA 1, 40, .inl tx) := (fE3 0 2 (by omega)).trans yc1
  have c_6 : E1 0 3 = .inl (kA 0, 20, .inl fb) := (fE3 0 3 (by omega)).trans yc2
  have c_7 : E1 0 4 = .inl (kA 0, 20, .inl fe) := (fE3 0 4 (by omega)).trans yc3
  refine lv_iconst (v := 0) hx hb xd_Li_take_5 (by decide) ?_
  refine lv_istore_n hx hb xd_Li_take_6 rfl hl (Nat.le_of_ble_eq_true rfl) rfl (fun ls hl => ?_)
  have hl : lv_has ls 3 [(1, .int 0), (0, .ref (ad 0 1))] := hl
  refine lv_iconst (v := 0) hx hb xd_Li_take_7 (by decide) ?_
  refine lv_istore_n hx hb xd_Li_take_8 rfl hl (Nat.le_of_ble_eq_true rfl) rfl (fun ls hl => ?_)
  have hl : lv_has ls 3 [(2, .int 0), (1, .int 0), (0, .ref (ad 0 1))] := hl
  refine xlab (σ := Nat × Nat × (Nat → Nat → va_E) × Nat × (Nat → Int32) × (Nat → Int32)) (ml := 3) 9 (fun (i, stt, E1, wn1, fb1, fe1) => [(2, .int (nI i)), (1, .int (nI stt)), (0, .ref (ad 0 1))]) (fun (i, stt, E1, wn1, fb1, fe1) => []) (fun (i, stt, E1, wn1, fb1, fe1) => rp ad E1 RL) (fun (i, stt, E1, wn1, fb1, fe1) => (i ≤ len + 1) ∧ (stt ≤ i) ∧ (wn1 ≤ 20) ∧ (WP wn1 fb1 fe1) ∧ (E1 0 1 = .inr (1, [.ref (ad 0 2), .ref (ad 0 3), .ref (ad 0 4), .int (nI len), .int (nI wn1)])) ∧ (E1 0 3 = .inl (kA 0, 20, .inl fb1)) ∧ (E1 0 4 = .inl (kA 0, 20, .inl fe1)) ∧ (∀ b2 o2, ¬ (b2 = 0 ∧ o2 = 1) → ¬ (b2 = 0 ∧ o2 = 3) → ¬ (b2 = 0 ∧ o2 = 4) → E1 b2 o2 = E b2 o2)) (fun (i, stt, E1, wn1, fb1, fe1) => len + 1 - i) ?_ (0, 0, E1, 0, fb, fe) _ _ _ (lv_sub hl [0, 1, 2] rfl) hP hD hS ⟨(show 0 ≤ len + 1 from by first | assumption | omega), (show 0 ≤ 0 from by first | assumption | omega), (show 0 ≤ 20 from by first | assumption | omega), (show WP 0 fb fe from fun w hw => absurd hw (by omega)), (show E1 0 1 = .inr (1, [.ref (ad 0 2), .ref (ad 0 3), .ref (ad 0 4), .int (nI len), .int (nI 0)]) from c_4), (show E1 0 3 = .inl (kA 0, 20, .inl fb) from c_6), (show E1 0 4 = .inl (kA 0, 20, .inl fe) from c_7), (show ∀ b2 o2, ¬ (b2 = 0 ∧ o2 = 1) → ¬ (b2 = 0 ∧ o2 = 3) → ¬ (b2 = 0 ∧ o2 = 4) → E1 b2 o2 = E b2 o2 from fun b2 o2 h09 h19 h29 => by rw [fE3 b2 o2 (by omega)])⟩
  intro n9 ih8 a9 ls H locs hμ hl hP hD hS hI
  subst hμ
  obtain ⟨i, stt, E1, wn1, fb1, fe1⟩ := a9
  obtain ⟨hi, hst, hwn, hWP, hc1, hc3, hc4, hfr⟩ := hI
  have hi : i ≤ len + 1 := hi
  have hst : stt ≤ i := hst
  have hwn : wn1 ≤ 20 := hwn
  have hWP : WP wn1 fb1 fe1 := hWP
  have hc1 : E1 0 1 = .inr (1, [.ref (ad 0 2), .ref (ad 0 3), .ref (ad 0 4), .int (nI len), .int (nI wn1)]) := hc1
  have hc3 : E1 0 3 = .inl (kA 0, 20, .inl fb1) := hc3
  have hc4 : E1 0 4 = .inl (kA 0, 20, .inl fe1) := hc4
  have hfr : ∀ b2 o2, ¬ (b2 = 0 ∧ o2 = 1) → ¬ (b2 = 0 ∧ o2 = 3) → ¬ (b2 = 0 ∧ o2 = 4) → E1 b2 o2 = E b2 o2 := hfr
  have hl : lv_has ls 3 [(2, .int (nI i)), (1, .int (nI stt)), (0, .ref (ad 0 1))] := hl
  have hP : va_P D xcl (rp ad E1 RL) H := hP
  have hD : va_D A (rp ad E1 RL) := hD
  have c_9 : E1 0 2 = .inl (kA 1, 40, .inl tx) := (hfr 0 2 (by omega) (by omega) (by omega)).trans yc1
  refine lv_iload_n hx hb xd_Li_take_9 rfl (lv_at hl 0 rfl) ?_
  refine lv_aload_n hx hb xd_Li_take_10 rfl (lv_at hl 2 rfl) ?_
  refine px_get (D := D) (ci := 1) (v := .int (nI len)) (C := xR_Li) (T := xT_Li) (N := 5) hx hb hT xi_Li hown hK.1 hP ym0 hc1 rfl 3 (by decide) (hT _ yp_0) (fun _ h9 => h9) rfl xd_Li_take_11 ?_
  refine xn_gt (a := i) (b := len) (tgt := 90) hx hb xd_Li_take_14 (by decide) (by omega) (by omega) (fun hc10 => ?_) (fun hc10 => ?_)
  · refine lv_aload_n hx hb xd_Li_take_90 rfl (lv_at hl 2 rfl) ?_
    refine lv_iconst (v := 0) hx hb xd_Li_take_91 (by decide) ?_
    refine px_put (D := D) (ci := 1) (v := .int 0) (ty := .int) (C := xR_Li) (T := xT_Li) (N := 5) hx hb hT xi_Li xt_Li xt_Li_ok xn_Li hown hK.1 hP hD hS ym0 hc1 rfl 3 (by decide) (hT _ yp_0) (fun _ h9 => h9) rfl (by decide +kernel) rfl rfl (Nat.le_of_ble_eq_true rfl) xd_Li_take_92 (fun H locs hP hD hS => ?_)
    have hP : va_P D xcl (rp ad (up2 E1 0 1 (.inr (1, [.ref (ad 0 2), .ref (ad 0 3), .ref (ad 0 4), .int 0, .int (nI wn1)]))) RL) H := hP
    have hD : va_D A (rp ad (up2 E1 0 1 (.inr (1, [.ref (ad 0 2), .ref (ad 0 3), .ref (ad 0 4), .int 0, .int (nI wn1)]))) RL) := hD
    generalize hE12 : up2 E1 0 1 (.inr (1, [.ref (ad 0 2), .ref (ad 0 3), .ref (ad 0 4), .int 0, .int (nI wn1)])) = E11 at hP hD
    have fE13 : ∀ b2 o2, ¬ (b2 = 0 ∧ o2 = 1) → E11 b2 o2 = E1 b2 o2 := fun b2 o2 h9 => by rw [← hE12]; exact up2_ne (by omega)
    have c_14 : E11 0 1 = .inr (1, [.ref (ad 0 2), .ref (ad 0 3), .ref (ad 0 4), .int 0, .int (nI wn1)]) := by rw [← hE12]; exact up2_eq
    have c_15 : E11 0 3 = .inl (kA 0, 20, .inl fb1) := (fE13 0 3 (by omega)).trans hc3
    have c_16 : E11 0 4 = .inl (kA 0, 20, .inl fe1) := (fE13 0 4 (by omega)).trans hc4
    have c_17 : E11 0 2 = .inl (kA 1, 40, .inl tx) := (fE13 0 2 (by omega)).trans c_9
    exact W.vret hx hb hr (fun t ht hW => ⟨⟨E11, rfl, ⟨wn1, fb1, fe1, ⟨by omega, hWP⟩, c_14, c_15, c_16, (fun b2 o2 h09 h19 h29 => by show E11 b2 o2 = _; rw [fE13 b2 o2 (by omega), hfr b2 o2 (by omega) (by omega) (by omega)])⟩, by rw [ht]; exact hP, hD⟩, hS.F ht⟩) hS.2.2 xd_Li_take_95
  · refine lv_iload_n hx hb xd_Li_take_17 rfl (lv_at hl 0 rfl) ?_
    refine lv_aload_n hx hb xd_Li_take_18 rfl (lv_at hl 2 rfl) ?_
    refine px_get (D := D) (ci := 1) (v := .int (nI len)) (C := xR_Li) (T := xT_Li) (N := 5) hx hb hT xi_Li hown hK.1 hP ym0 hc1 rfl 3 (by decide) (hT _ yp_0) (fun _ h9 => h9) rfl xd_Li_take_19 ?_
    refine xn_eq (a := i) (b := len) (tgt := 36) hx hb xd_Li_take_22 (by decide) (by omega) (by omega) (fun hc18 => ?_) (fun hc18 => ?_)
    · refine lv_iload_n hx hb xd_Li_take_36 rfl (lv_at hl 0 rfl) ?_
      refine lv_iload_n hx hb xd_Li_take_37 rfl (lv_at hl 1 rfl) ?_
      refine xn_le (a := i) (b := stt) (tgt := 80) hx hb xd_Li_take_38 (by decide) (by omega) (by omega) (fun hc19 => ?_) (fun hc19 => ?_)
      · refine lv_iload_n hx hb xd_Li_take_80 rfl (lv_at hl 0 rfl) ?_
        refine lv_iconst (v := 1) hx hb xd_Li_take_81 (by decide) ?_
        refine lv_iadd hx hb xd_Li_take_82 ?_
        refine xn_top (y := nI (i + 1)) (nI_add i 1) ?_
        refine lv_istore_n hx hb xd_Li_take_83 rfl hl (Nat.le_of_ble_eq_true rfl) rfl (fun ls hl => ?_)
        have hl : lv_has ls 3 [(1, .int (nI (i + 1))), (2, .int (nI i)), (0, .ref (ad 0 1))] := hl
        refine lv_iinc (k := 1) (x := (nI i)) (v := (nI (i + 1))) hx hb xd_Li_take_84 hl rfl (xb_inc i 1) (Nat.le_of_ble_eq_true rfl) rfl (fun ls hl => ?_)
        have hl : lv_has ls 3 [(2, .int (nI (i + 1))), (1, .int (nI (i + 1))), (0, .ref (ad 0 1))] := hl
        refine lv_goto (tgt := 9) hx hb xd_Li_take_87 (by decide) ?_
        exact ih8 (i + 1, i + 1, E1, wn1, fb1, fe1) _ _ _ (show len + 1 - (i + 1) < len + 1 - i by omega) (lv_sub hl [0, 1, 2] rfl) hP hD hS ⟨(show (i + 1) ≤ len + 1 from by first | assumption | omega), (show (i + 1) ≤ (i + 1) from by first | assumption | omega), (show wn1 ≤ 20 from by first | assumption | omega), (show WP wn1 fb1 fe1 from hWP), (show E1 0 1 = .inr (1, [.ref (ad 0 2), .ref (ad 0 3), .ref (ad 0 4), .int (nI len), .int (nI wn1)]) from hc1), (show E1 0 3 = .inl (kA 0, 20, .inl fb1) from hc3), (show E1 0 4 = .inl (kA 0, 20, .inl fe1) from hc4), (show ∀ b2 o2, ¬ (b2 = 0 ∧ o2 = 1) → ¬ (b2 = 0 ∧ o2 = 3) → ¬ (b2 = 0 ∧ o2 = 4) → E1 b2 o2 = E b2 o2 from fun b2 o2 h09 h19 h29 => by rw [hfr b2 o2 (by omega) (by omega) (by omega)])⟩
      · refine lv_aload_n hx hb xd_Li_take_41 rfl (lv_at hl 2 rfl) ?_
        refine px_get (D := D) (ci := 1) (v := .int (nI wn1)) (C := xR_Li) (T := xT_Li) (N := 5) hx hb hT xi_Li hown hK.1 hP ym0 hc1 rfl 4 (by decide) (hT _ yp_2) (fun _ h9 => h9) rfl xd_Li_take_42 ?_
        refine lv_bipush (v := 20) hx hb xd_Li_take_45 (by decide) ?_
        refine xn_ge (a := wn1) (b := 20) (tgt := 80) hx hb xd_Li_take_47 (by decide) (by omega) (by omega) (fun hc20 => ?_) (fun hc20 => ?_)
        · refine lv_iload_n hx hb xd_Li_take_80 rfl (lv_at hl 0 rfl) ?_
          refine lv_iconst (v := 1) hx hb xd_Li_take_81 (by decide) ?_
          refine lv_iadd hx hb xd_Li_take_82 ?_
          refine xn_top (y := nI (i + 1)) (nI_add i 1) ?_
          refine lv_istore_n hx hb xd_Li_take_83 rfl hl (Nat.le_of_ble_eq_true rfl) rfl (fun ls hl => ?_)
          have hl : lv_has ls 3 [(1, .int (nI (i + 1))), (2, .int (nI i)), (0, .ref (ad 0 1))] := hl
          refine lv_iinc (k := 1) (x := (nI i)) (v := (nI (i + 1))) hx hb xd_Li_take_84 hl rfl (xb_inc i 1) (Nat.le_of_ble_eq_true rfl) rfl (fun ls hl => ?_)
          have hl : lv_has ls 3 [(2, .int (nI (i + 1))), (1, .int (nI (i + 1))), (0, .ref (ad 0 1))] := hl
          refine lv_goto (tgt := 9) hx hb xd_Li_take_87 (by decide) ?_
          exact ih8 (i + 1, i + 1, E1, wn1, fb1, fe1) _ _ _ (show len + 1 - (i + 1) < len + 1 - i by omega) (lv_sub hl [0, 1, 2] rfl) hP hD hS ⟨(show (i + 1) ≤ len + 1 from by first | assumption | omega), (show (i + 1) ≤ (i + 1) from by first | assumption | omega), (show wn1 ≤ 20 from by first | assumption | omega), (show WP wn1 fb1 fe1 from hWP), (show E1 0 1 = .inr (1, [.ref (ad 0 2), .ref (ad 0 3), .ref (ad 0 4), .int (nI len), .int (nI wn1)]) from hc1), (show E1 0 3 = .inl (kA 0, 20, .inl fb1) from hc3), (show E1 0 4 = .inl (kA 0, 20, .inl fe1) from hc4), (show ∀ b2 o2, ¬ (b2 = 0 ∧ o2 = 1) → ¬ (b2 = 0 ∧ o2 = 3) → ¬ (b2 = 0 ∧ o2 = 4) → E1 b2 o2 = E b2 o2 from fun b2 o2 h09 h19 h29 => by rw [hfr b2 o2 (by omega) (by omega) (by omega)])⟩
        · refine lv_aload_n hx hb xd_Li_take_50 rfl (lv_at hl 2 rfl) ?_
          refine px_get (D := D) (ci := 1) (v := .ref (ad 0 3)) (C := xR_Li) (T := xT_Li) (N := 5) hx hb hT xi_Li hown hK.1 hP ym0 hc1 rfl 1 (by decide) (hT _ yp_3) (fun _ h9 => h9) rfl xd_Li_take_51 ?_
          refine lv_aload_n hx hb xd_Li_take_54 rfl (lv_at hl 2 rfl) ?_
          refine px_get (D := D) (ci := 1) (v := .int (nI wn1)) (C := xR_Li) (T := xT_Li) (N := 5) hx hb hT xi_Li hown hK.1 hP ym0 hc1 rfl 4 (by decide) (hT _ yp_2) (fun _ h9 => h9) rfl xd_Li_take_55 ?_
          refine lv_iload_n hx hb xd_Li_take_58 rfl (lv_at hl 1 rfl) ?_
          refine px_iast (i := wn1) hx hb hK.1 hP hD hS ym2 hc3 0 rfl (by omega) (by decide) xd_Li_take_59 (fun H locs hP hD hS => ?_)
          have hP : va_P D xcl (rp ad (up2 E1 0 3 (.inl (kA 0, 20, .inl (upd fb1 wn1 (nI stt))))) RL) H := hP
          have hD : va_D A (rp ad (up2 E1 0 3 (.inl (kA 0, 20, .inl (upd fb1 wn1 (nI stt))))) RL) := hD
          generalize hE22 : up2 E1 0 3 (.inl (kA 0, 20, .inl (upd fb1 wn1 (nI stt)))) = E21 at hP hD
          have fE23 : ∀ b2 o2, ¬ (b2 = 0 ∧ o2 = 3) → E21 b2 o2 = E1 b2 o2 := fun b2 o2 h9 => by rw [← hE22]; exact up2_ne (by omega)
          have c_24 : E21 0 3 = .inl (kA 0, 20, .inl (upd fb1 wn1 (nI stt))) := by rw [← hE22]; exact up2_eq
          have c_25 : E21 0 1 = .inr (1, [.ref (ad 0 2), .ref (ad 0 3), .ref (ad 0 4), .int (nI len), .int (nI wn1)]) := (fE23 0 1 (by omega)).trans hc1
          have c_26 : E21 0 4 = .inl (kA 0, 20, .inl fe1) := (fE23 0 4 (by omega)).trans hc4
          have c_27 : E21 0 2 = .inl (kA 1, 40, .inl tx) := (fE23 0 2 (by omega)).trans c_9
          refine lv_aload_n hx hb xd_Li_take_60 rfl (lv_at hl 2 rfl) ?_
          refine px_get (D := D) (ci := 1) (v := .ref (ad 0 4)) (C := xR_Li) (T := xT_Li) (N := 5) hx hb hT xi_Li hown hK.1 hP ym0 c_25 rfl 2 (by decide) (hT _ yp_4) (fun _ h9 => h9) rfl xd_Li_take_61 ?_
          refine lv_aload_n hx hb xd_Li_take_64 rfl (lv_at hl 2 rfl) ?_
          refine px_get (D := D) (ci := 1) (v := .int (nI wn1)) (C := xR_Li) (T := xT_Li) (N := 5) hx hb hT xi_Li hown hK.1 hP ym0 c_25 rfl 4 (by decide) (hT _ yp_2) (fun _ h9 => h9) rfl xd_Li_take_65 ?_
          refine lv_iload_n hx hb xd_Li_take_68 rfl (lv_at hl 0 rfl) ?_
          refine px_iast (i := wn1) hx hb hK.1 hP hD hS ym3 c_26 0 rfl (by omega) (by decide) xd_Li_take_69 (fun H locs hP hD hS => ?_)
          have hP : va_P D xcl (rp ad (up2 E21 0 4 (.inl (kA 0, 20, .inl (upd fe1 wn1 (nI i))))) RL) H := hP
          have hD : va_D A (rp ad (up2 E21 0 4 (.inl (kA 0, 20, .inl (upd fe1 wn1 (nI i))))) RL) := hD
          generalize hE29 : up2 E21 0 4 (.inl (kA 0, 20, .inl (upd fe1 wn1 (nI i)))) = E28 at hP hD
          have fE30 : ∀ b2 o2, ¬ (b2 = 0 ∧ o2 = 4) → E28 b2 o2 = E21 b2 o2 := fun b2 o2 h9 => by rw [← hE29]; exact up2_ne (by omega)
          have c_31 : E28 0 4 = .inl (kA 0, 20, .inl (upd fe1 wn1 (nI i))) := by rw [← hE29]; exact up2_eq
          have c_32 : E28 0 3 = .inl (kA 0, 20, .inl (upd fb1 wn1 (nI stt))) := (fE30 0 3 (by omega)).trans c_24
          have c_33 : E28 0 1 = .inr (1, [.ref (ad 0 2), .ref (ad 0 3), .ref (ad 0 4), .int (nI len), .int (nI wn1)]) := (fE30 0 1 (by omega)).trans c_25
          have c_34 : E28 0 2 = .inl (kA 1, 40, .inl tx) := (fE30 0 2 (by omega)).trans c_27
          refine lv_aload_n hx hb xd_Li_take_70 rfl (lv_at hl 2 rfl) ?_
          refine lv_dup hx hb xd_Li_take_71 rfl ?_
          refine px_get (D := D) (ci := 1) (v := .int (nI wn1)) (C := xR_Li) (T := xT_Li) (N := 5) hx hb hT xi_Li hown hK.1 hP ym0 c_33 rfl 4 (by decide) (hT _ yp_2) (fun _ h9 => h9) rfl xd_Li_take_72 ?_
          refine lv_iconst (v := 1) hx hb xd_Li_take_75 (by decide) ?_
          refine lv_iadd hx hb xd_Li_take_76 ?_
          refine xn_top (y := nI (wn1 + 1)) (nI_add wn1 1) ?_
          refine px_put (D := D) (ci := 1) (v := .int (nI (wn1 + 1))) (ty := .int) (C := xR_Li) (T := xT_Li) (N := 5) hx hb hT xi_Li xt_Li xt_Li_ok xn_Li hown hK.1 hP hD hS ym0 c_33 rfl 4 (by decide) (hT _ yp_2) (fun _ h9 => h9) rfl (by decide +kernel) rfl rfl (Nat.le_of_ble_eq_true rfl) xd_Li_take_77 (fun H locs hP hD hS => ?_)
          have hP : va_P D xcl (rp ad (up2 E28 0 1 (.inr (1, [.ref (ad 0 2), .ref (ad 0 3), .ref (ad 0 4), .int (nI len), .int (nI (wn1 + 1))]))) RL) H := hP
          have hD : va_D A (rp ad (up2 E28 0 1 (.inr (1, [.ref (ad 0 2), .ref (ad 0 3), .ref (ad 0 4), .int (nI len), .int (nI (wn1 + 1))]))) RL) := hD
          generalize hE36 : up2 E28 0 1 (.inr (1, [.ref (ad 0 2), .ref (ad 0 3), .ref (ad 0 4), .int (nI len), .int (nI (wn1 + 1))])) = E35 at hP hD
          have fE37 : ∀ b2 o2, ¬ (b2 = 0 ∧ o2 = 1) → E35 b2 o2 = E28 b2 o2 := fun b2 o2 h9 => by rw [← hE36]; exact up2_ne (by omega)
          have c_38 : E35 0 1 = .inr (1, [.ref (ad 0 2), .ref (ad 0 3), .ref (ad 0 4), .int (nI len), .int (nI (wn1 + 1))]) := by rw [← hE36]; exact up2_eq
          have c_39 : E35 0 4 = .inl (kA 0, 20, .inl (upd fe1 wn1 (nI i))) := (fE37 0 4 (by omega)).trans c_31
          have c_40 : E35 0 3 = .inl (kA 0, 20, .inl (upd fb1 wn1 (nI stt))) := (fE37 0 3 (by omega)).trans c_32
          have c_41 : E35 0 2 = .inl (kA 1, 40, .inl tx) := (fE37 0 2 (by omega)).trans c_34
          refine lv_iload_n hx hb xd_Li_take_80 rfl (lv_at hl 0 rfl) ?_
          refine lv_iconst (v := 1) hx hb xd_Li_take_81 (by decide) ?_
          refine lv_iadd hx hb xd_Li_take_82 ?_
          refine xn_top (y := nI (i + 1)) (nI_add i 1) ?_
          refine lv_istore_n hx hb xd_Li_take_83 rfl hl (Nat.le_of_ble_eq_true rfl) rfl (fun ls hl => ?_)
          have hl : lv_has ls 3 [(1, .int (nI (i + 1))), (2, .int (nI i)), (0, .ref (ad 0 1))] := hl
          refine lv_iinc (k := 1) (x := (nI i)) (v := (nI (i + 1))) hx hb xd_Li_take_84 hl rfl (xb_inc i 1) (Nat.le_of_ble_eq_true rfl) rfl (fun ls hl => ?_)
          have hl : lv_has ls 3 [(2, .int (nI (i + 1))), (1, .int (nI (i + 1))), (0, .ref (ad 0 1))] := hl
          refine lv_goto (tgt := 9) hx hb xd_Li_take_87 (by decide) ?_
          exact ih8 (i + 1, i + 1, E35, wn1 + 1, (upd fb1 wn1 (nI stt)), (upd fe1 wn1 (nI i))) _ _ _ (show len + 1 - (i + 1) < len + 1 - i by omega) (lv_sub hl [0, 1, 2] rfl) hP hD hS ⟨(show (i + 1) ≤ len + 1 from by first | assumption | omega), (show (i + 1) ≤ (i + 1) from by first | assumption | omega), (show (wn1 + 1) ≤ 20 from by first | assumption | omega), (show WP (wn1 + 1) (upd fb1 wn1 (nI stt)) (upd fe1 wn1 (nI i)) from WP_add hWP (by omega) (by omega)), (show E35 0 1 = .inr (1, [.ref (ad 0 2), .ref (ad 0 3), .ref (ad 0 4), .int (nI len), .int (nI (wn1 + 1))]) from c_38), (show E35 0 3 = .inl (kA 0, 20, .inl (upd fb1 wn1 (nI stt))) from c_40), (show E35 0 4 = .inl (kA 0, 20, .inl (upd fe1 wn1 (nI i))) from c_39), (show ∀ b2 o2, ¬ (b2 = 0 ∧ o2 = 1) → ¬ (b2 = 0 ∧ o2 = 3) → ¬ (b2 = 0 ∧ o2 = 4) → E35 b2 o2 = E b2 o2 from fun b2 o2 h09 h19 h29 => by rw [fE37 b2 o2 (by omega), fE30 b2 o2 (by omega), fE23 b2 o2 (by omega), hfr b2 o2 (by omega) (by omega) (by omega)])⟩
    · refine lv_aload_n hx hb xd_Li_take_25 rfl (lv_at hl 2 rfl) ?_
      refine px_get (D := D) (ci := 1) (v := .ref (ad 0 2)) (C := xR_Li) (T := xT_Li) (N := 5) hx hb hT xi_Li hown hK.1 hP ym0 hc1 rfl 0 (by decide) (hT _ yp_1) (fun _ h9 => h9) rfl xd_Li_take_26 ?_
      refine lv_iload_n hx hb xd_Li_take_29 rfl (lv_at hl 0 rfl) ?_
      refine px_cald (i := i) hx hb hK.1 hP ym1 c_9 1 rfl (by omega) (by decide) xd_Li_take_30 ?_
      refine lv_bipush (v := 32) hx hb xd_Li_take_31 (by decide) ?_
      refine lv_icmp_ne (tgt := 84) hx hb xd_Li_take_33 (by decide) (fun hc42 => ?_) (fun hc42 => ?_)
      · refine lv_iinc (k := 0) (x := (nI i)) (v := (nI (i + 1))) hx hb xd_Li_take_84 hl rfl (xb_inc i 1) (Nat.le_of_ble_eq_true rfl) rfl (fun ls hl => ?_)
        have hl : lv_has ls 3 [(2, .int (nI (i + 1))), (1, .int (nI stt)), (0, .ref (ad 0 1))] := hl
        refine lv_goto (tgt := 9) hx hb xd_Li_take_87 (by decide) ?_
        exact ih8 (i + 1, stt, E1, wn1, fb1, fe1) _ _ _ (show len + 1 - (i + 1) < len + 1 - i by omega) (lv_sub hl [0, 1, 2] rfl) hP hD hS ⟨(show (i + 1) ≤ len + 1 from by first | assumption | omega), (show stt ≤ (i + 1) from by first | assumption | omega), (show wn1 ≤ 20 from by first | assumption | omega), (show WP wn1 fb1 fe1 from hWP), (show E1 0 1 = .inr (1, [.ref (ad 0 2), .ref (ad 0 3), .ref (ad 0 4), .int (nI len), .int (nI wn1)]) from hc1), (show E1 0 3 = .inl (kA 0, 20, .inl fb1) from hc3), (show E1 0 4 = .inl (kA 0, 20, .inl fe1) from hc4), (show ∀ b2 o2, ¬ (b2 = 0 ∧ o2 = 1) → ¬ (b2 = 0 ∧ o2 = 3) → ¬ (b2 = 0 ∧ o2 = 4) → E1 b2 o2 = E b2 o2 from fun b2 o2 h09 h19 h29 => by rw [hfr b2 o2 (by omega) (by omega) (by omega)])⟩
      · refine lv_iload_n hx hb xd_Li_take_36 rfl (lv_at hl 0 rfl) ?_
        refine lv_iload_n hx hb xd_Li_take_37 rfl (lv_at hl 1 rfl) ?_
        refine xn_le (a := i) (b := stt) (tgt := 80) hx hb xd_Li_take_38 (by decide) (by omega) (by omega) (fun hc43 => ?_) (fun hc43 => ?_)
        · refine lv_iload_n hx hb xd_Li_take_80 rfl (lv_at hl 0 rfl) ?_
          refine lv_iconst (v := 1) hx hb xd_Li_take_81 (by decide) ?_
          refine lv_iadd hx hb xd_Li_take_82 ?_
          refine xn_top (y := nI (i + 1)) (nI_add i 1) ?_
          refine lv_istore_n hx hb xd_Li_take_83 rfl hl (Nat.le_of_ble_eq_true rfl) rfl (fun ls hl => ?_)
          have hl : lv_has ls 3 [(1, .int (nI (i + 1))), (2, .int (nI i)), (0, .ref (ad 0 1))] := hl
          refine lv_iinc (k := 1) (x := (nI i)) (v := (nI (i + 1))) hx hb xd_Li_take_84 hl rfl (xb_inc i 1) (Nat.le_of_ble_eq_true rfl) rfl (fun ls hl => ?_)
          have hl : lv_has ls 3 [(2, .int (nI (i + 1))), (1, .int (nI (i + 1))), (0, .ref (ad 0 1))] := hl
          refine lv_goto (tgt := 9) hx hb xd_Li_take_87 (by decide) ?_
          exact ih8 (i + 1, i + 1, E1, wn1, fb1, fe1) _ _ _ (show len + 1 - (i + 1) < len + 1 - i by omega) (lv_sub hl [0, 1, 2] rfl) hP hD hS ⟨(show (i + 1) ≤ len + 1 from by first | assumption | omega), (show (i + 1) ≤ (i + 1) from by first | assumption | omega), (show wn1 ≤ 20 from by first | assumption | omega), (show WP wn1 fb1 fe1 from hWP), (show E1 0 1 = .inr (1, [.ref (ad 0 2), .ref (ad 0 3), .ref (ad 0 4), .int (nI len), .int (nI wn1)]) from hc1), (show E1 0 3 = .inl (kA 0, 20, .inl fb1) from hc3), (show E1 0 4 = .inl (kA 0, 20, .inl fe1) from hc4), (show ∀ b2 o2, ¬ (b2 = 0 ∧ o2 = 1) → ¬ (b2 = 0 ∧ o2 = 3) → ¬ (b2 = 0 ∧ o2 = 4) → E1 b2 o2 = E b2 o2 from fun b2 o2 h09 h19 h29 => by rw [hfr b2 o2 (by omega) (by omega) (by omega)])⟩
        · refine lv_aload_n hx hb xd_Li_take_41 rfl (lv_at hl 2 rfl) ?_
          refine px_get (D := D) (ci := 1) (v := .int (nI wn1)) (C := xR_Li) (T := xT_Li) (N := 5) hx hb hT xi_Li hown hK.1 hP ym0 hc1 rfl 4 (by decide) (hT _ yp_2) (fun _ h9 => h9) rfl xd_Li_take_42 ?_
          refine lv_bipush (v := 20) hx hb xd_Li_take_45 (by decide) ?_
          refine xn_ge (a := wn1) (b := 20) (tgt := 80) hx hb xd_Li_take_47 (by decide) (by omega) (by omega) (fun hc44 => ?_) (fun hc44 => ?_)
          · refine lv_iload_n hx hb xd_Li_take_80 rfl (lv_at hl 0 rfl) ?_
            refine lv_iconst (v := 1) hx hb xd_Li_take_81 (by decide) ?_
            refine lv_iadd hx hb xd_Li_take_82 ?_
            refine xn_top (y := nI (i + 1)) (nI_add i 1) ?_
            refine lv_istore_n hx hb xd_Li_take_83 rfl hl (Nat.le_of_ble_eq_true rfl) rfl (fun ls hl => ?_)
            have hl : lv_has ls 3 [(1, .int (nI (i + 1))), (2, .int (nI i)), (0, .ref (ad 0 1))] := hl
            refine lv_iinc (k := 1) (x := (nI i)) (v := (nI (i + 1))) hx hb xd_Li_take_84 hl rfl (xb_inc i 1) (Nat.le_of_ble_eq_true rfl) rfl (fun ls hl => ?_)
            have hl : lv_has ls 3 [(2, .int (nI (i + 1))), (1, .int (nI (i + 1))), (0, .ref (ad 0 1))] := hl
            refine lv_goto (tgt := 9) hx hb xd_Li_take_87 (by decide) ?_
            exact ih8 (i + 1, i + 1, E1, wn1, fb1, fe1) _ _ _ (show len + 1 - (i + 1) < len + 1 - i by omega) (lv_sub hl [0, 1, 2] rfl) hP hD hS ⟨(show (i + 1) ≤ len + 1 from by first | assumption | omega), (show (i + 1) ≤ (i + 1) from by first | assumption | omega), (show wn1 ≤ 20 from by first | assumption | omega), (show WP wn1 fb1 fe1 from hWP), (show E1 0 1 = .inr (1, [.ref (ad 0 2), .ref (ad 0 3), .ref (ad 0 4), .int (nI len), .int (nI wn1)]) from hc1), (show E1 0 3 = .inl (kA 0, 20, .inl fb1) from hc3), (show E1 0 4 = .inl (kA 0, 20, .inl fe1) from hc4), (show ∀ b2 o2, ¬ (b2 = 0 ∧ o2 = 1) → ¬ (b2 = 0 ∧ o2 = 3) → ¬ (b2 = 0 ∧ o2 = 4) → E1 b2 o2 = E b2 o2 from fun b2 o2 h09 h19 h29 => by rw [hfr b2 o2 (by omega) (by omega) (by omega)])⟩
          · refine lv_aload_n hx hb xd_Li_take_50 rfl (lv_at hl 2 rfl) ?_
            refine px_get (D := D) (ci := 1) (v := .ref (ad 0 3)) (C := xR_Li) (T := xT_Li) (N := 5) hx hb hT xi_Li hown hK.1 hP ym0 hc1 rfl 1 (by decide) (hT _ yp_3) (fun _ h9 => h9) rfl xd_Li_take_51 ?_
            refine lv_aload_n hx hb xd_Li_take_54 rfl (lv_at hl 2 rfl) ?_
            refine px_get (D := D) (ci := 1) (v := .int (nI wn1)) (C := xR_Li) (T := xT_Li) (N := 5) hx hb hT xi_Li hown hK.1 hP ym0 hc1 rfl 4 (by decide) (hT _ yp_2) (fun _ h9 => h9) rfl xd_Li_take_55 ?_
            refine lv_iload_n hx hb xd_Li_take_58 rfl (lv_at hl 1 rfl) ?_
            refine px_iast (i := wn1) hx hb hK.1 hP hD hS ym2 hc3 0 rfl (by omega) (by decide) xd_Li_take_59 (fun H locs hP hD hS => ?_)
            have hP : va_P D xcl (rp ad (up2 E1 0 3 (.inl (kA 0, 20, .inl (upd fb1 wn1 (nI stt))))) RL) H := hP
            have hD : va_D A (rp ad (up2 E1 0 3 (.inl (kA 0, 20, .inl (upd fb1 wn1 (nI stt))))) RL) := hD
            generalize hE46 : up2 E1 0 3 (.inl (kA 0, 20, .inl (upd fb1 wn1 (nI stt)))) = E45 at hP hD
            have fE47 : ∀ b2 o2, ¬ (b2 = 0 ∧ o2 = 3) → E45 b2 o2 = E1 b2 o2 := fun b2 o2 h9 => by rw [← hE46]; exact up2_ne (by omega)
            have c_48 : E45 0 3 = .inl (kA 0, 20, .inl (upd fb1 wn1 (nI stt))) := by rw [← hE46]; exact up2_eq
            have c_49 : E45 0 1 = .inr (1, [.ref (ad 0 2), .ref (ad 0 3), .ref (ad 0 4), .int (nI len), .int (nI wn1)]) := (fE47 0 1 (by omega)).trans hc1
            have c_50 : E45 0 4 = .inl (kA 0, 20, .inl fe1) := (fE47 0 4 (by omega)).trans hc4
            have c_51 : E45 0 2 = .inl (kA 1, 40, .inl tx) := (fE47 0 2 (by omega)).trans c_9
            refine lv_aload_n hx hb xd_Li_take_60 rfl (lv_at hl 2 rfl) ?_
            refine px_get (D := D) (ci := 1) (v := .ref (ad 0 4)) (C := xR_Li) (T := xT_Li) (N := 5) hx hb hT xi_Li hown hK.1 hP ym0 c_49 rfl 2 (by decide) (hT _ yp_4) (fun _ h9 => h9) rfl xd_Li_take_61 ?_
            refine lv_aload_n hx hb xd_Li_take_64 rfl (lv_at hl 2 rfl) ?_
            refine px_get (D := D) (ci := 1) (v := .int (nI wn1)) (C := xR_Li) (T := xT_Li) (N := 5) hx hb hT xi_Li hown hK.1 hP ym0 c_49 rfl 4 (by decide) (hT _ yp_2) (fun _ h9 => h9) rfl xd_Li_take_65 ?_
            refine lv_iload_n hx hb xd_Li_take_68 rfl (lv_at hl 0 rfl) ?_
            refine px_iast (i := wn1) hx hb hK.1 hP hD hS ym3 c_50 0 rfl (by omega) (by decide) xd_Li_take_69 (fun H locs hP hD hS => ?_)
            have hP : va_P D xcl (rp ad (up2 E45 0 4 (.inl (kA 0, 20, .inl (upd fe1 wn1 (nI i))))) RL) H := hP
            have hD : va_D A (rp ad (up2 E45 0 4 (.inl (kA 0, 20, .inl (upd fe1 wn1 (nI i))))) RL) := hD
            generalize hE53 : up2 E45 0 4 (.inl (kA 0, 20, .inl (upd fe1 wn1 (nI i)))) = E52 at hP hD
            have fE54 : ∀ b2 o2, ¬ (b2 = 0 ∧ o2 = 4) → E52 b2 o2 = E45 b2 o2 := fun b2 o2 h9 => by rw [← hE53]; exact up2_ne (by omega)
            have c_55 : E52 0 4 = .inl (kA 0, 20, .inl (upd fe1 wn1 (nI i))) := by rw [← hE53]; exact up2_eq
            have c_56 : E52 0 3 = .inl (kA 0, 20, .inl (upd fb1 wn1 (nI stt))) := (fE54 0 3 (by omega)).trans c_48
            have c_57 : E52 0 1 = .inr (1, [.ref (ad 0 2), .ref (ad 0 3), .ref (ad 0 4), .int (nI len), .int (nI wn1)]) := (fE54 0 1 (by omega)).trans c_49
            have c_58 : E52 0 2 = .inl (kA 1, 40, .inl tx) := (fE54 0 2 (by omega)).trans c_51
            refine lv_aload_n hx hb xd_Li_take_70 rfl (lv_at hl 2 rfl) ?_
            refine lv_dup hx hb xd_Li_take_71 rfl ?_
            refine px_get (D := D) (ci := 1) (v := .int (nI wn1)) (C := xR_Li) (T := xT_Li) (N := 5) hx hb hT xi_Li hown hK.1 hP ym0 c_57 rfl 4 (by decide) (hT _ yp_2) (fun _ h9 => h9) rfl xd_Li_take_72 ?_
            refine lv_iconst (v := 1) hx hb xd_Li_take_75 (by decide) ?_
            refine lv_iadd hx hb xd_Li_take_76 ?_
            refine xn_top (y := nI (wn1 + 1)) (nI_add wn1 1) ?_
            refine px_put (D := D) (ci := 1) (v := .int (nI (wn1 + 1))) (ty := .int) (C := xR_Li) (T := xT_Li) (N := 5) hx hb hT xi_Li xt_Li xt_Li_ok xn_Li hown hK.1 hP hD hS ym0 c_57 rfl 4 (by decide) (hT _ yp_2) (fun _ h9 => h9) rfl (by decide +kernel) rfl rfl (Nat.le_of_ble_eq_true rfl) xd_Li_take_77 (fun H locs hP hD hS => ?_)
            have hP : va_P D xcl (rp ad (up2 E52 0 1 (.inr (1, [.ref (ad 0 2), .ref (ad 0 3), .ref (ad 0 4), .int (nI len), .int (nI (wn1 + 1))]))) RL) H := hP
            have hD : va_D A (rp ad (up2 E52 0 1 (.inr (1, [.ref (ad 0 2), .ref (ad 0 3), .ref (ad 0 4), .int (nI len), .int (nI (wn1 + 1))]))) RL) := hD
            generalize hE60 : up2 E52 0 1 (.inr (1, [.ref (ad 0 2), .ref (ad 0 3), .ref (ad 0 4), .int (nI len), .int (nI (wn1 + 1))])) = E59 at hP hD
            have fE61 : ∀ b2 o2, ¬ (b2 = 0 ∧ o2 = 1) → E59 b2 o2 = E52 b2 o2 := fun b2 o2 h9 => by rw [← hE60]; exact up2_ne (by omega)
            have c_62 : E59 0 1 = .inr (1, [.ref (ad 0 2), .ref (ad 0 3), .ref (ad 0 4), .int (nI len), .int (nI (wn1 + 1))]) := by rw [← hE60]; exact up2_eq
            have c_63 : E59 0 4 = .inl (kA 0, 20, .inl (upd fe1 wn1 (nI i))) := (fE61 0 4 (by omega)).trans c_55
            have c_64 : E59 0 3 = .inl (kA 0, 20, .inl (upd fb1 wn1 (nI stt))) := (fE61 0 3 (by omega)).trans c_56
            have c_65 : E59 0 2 = .inl (kA 1, 40, .inl tx) := (fE61 0 2 (by omega)).trans c_58
            refine lv_iload_n hx hb xd_Li_take_80 rfl (lv_at hl 0 rfl) ?_
            refine lv_iconst (v := 1) hx hb xd_Li_take_81 (by decide) ?_
            refine lv_iadd hx hb xd_Li_take_82 ?_
            refine xn_top (y := nI (i + 1)) (nI_add i 1) ?_
            refine lv_istore_n hx hb xd_Li_take_83 rfl hl (Nat.le_of_ble_eq_true rfl) rfl (fun ls hl => ?_)
            have hl : lv_has ls 3 [(1, .int (nI (i + 1))), (2, .int (nI i)), (0, .ref (ad 0 1))] := hl
            refine lv_iinc (k := 1) (x := (nI i)) (v := (nI (i + 1))) hx hb xd_Li_take_84 hl rfl (xb_inc i 1) (Nat.le_of_ble_eq_true rfl) rfl (fun ls hl => ?_)
            have hl : lv_has ls 3 [(2, .int (nI (i + 1))), (1, .int (nI (i + 1))), (0, .ref (ad 0 1))] := hl
            refine lv_goto (tgt := 9) hx hb xd_Li_take_87 (by decide) ?_
            exact ih8 (i + 1, i + 1, E59, wn1 + 1, (upd fb1 wn1 (nI stt)), (upd fe1 wn1 (nI i))) _ _ _ (show len + 1 - (i + 1) < len + 1 - i by omega) (lv_sub hl [0, 1, 2] rfl) hP hD hS ⟨(show (i + 1) ≤ len + 1 from by first | assumption | omega), (show (i + 1) ≤ (i + 1) from by first | assumption | omega), (show (wn1 + 1) ≤ 20 from by first | assumption | omega), (show WP (wn1 + 1) (upd fb1 wn1 (nI stt)) (upd fe1 wn1 (nI i)) from WP_add hWP (by omega) (by omega)), (show E59 0 1 = .inr (1, [.ref (ad 0 2), .ref (ad 0 3), .ref (ad 0 4), .int (nI len), .int (nI (wn1 + 1))]) from c_62), (show E59 0 3 = .inl (kA 0, 20, .inl (upd fb1 wn1 (nI stt))) from c_64), (show E59 0 4 = .inl (kA 0, 20, .inl (upd fe1 wn1 (nI i))) from c_63), (show ∀ b2 o2, ¬ (b2 = 0 ∧ o2 = 1) → ¬ (b2 = 0 ∧ o2 = 3) → ¬ (b2 = 0 ∧ o2 = 4) → E59 b2 o2 = E b2 o2 from fun b2 o2 h09 h19 h29 => by rw [fE61 b2 o2 (by omega), fE54 b2 o2 (by omega), fE47 b2 o2 (by omega), hfr b2 o2 (by omega) (by omega) (by omega)])⟩
set_option maxHeartbeats 4000000 in
set_option maxRecDepth 100000 in
theorem xc_Li_takeName (l : Launch) (D : va_G) (kA : Nat → ClassId) (sz : Nat) (ad : Nat → Nat → Nat) (E : Nat → Nat → va_E) (RL : List (Nat × Nat)) (ml : Nat) (nd : Nat) (len : Nat) (wn : Nat) (cs : Nat) (hCI : CI kA ad E RL ml nd len wn cs) : Met l xy_Li_takeName (.code xy_Li_takeName xb_Li_takeName 1 (some .int) :: wT) { frames := 1, cells := 0, slots := 0, locals := 23 } (va_Pc [.ref (ad 0 1)] (xPre D kA sz (rp ad E RL))) (va_Qi (fun (r : Int32) (u : Nat → Nat → va_E) => ∃ wn2, CI kA ad u RL ml nd 0 wn2 cs) (fun (u : Nat → Nat → va_E) t => va_P D xcl (rp ad u RL) t.heap ∧ va_D (va_A (rp ad E RL) sz) (rp ad u RL)) (va_A (rp ad E RL) sz)) 0 0 (va_A (rp ad E RL) sz) := by
  refine Met.ofW (cc := xb_Li_takeName) (maxL := 1) (ret := (some .int)) (by decide) rfl ?_
  intro p e s m args below meth c s₁ B hml hv
  obtain ⟨rfl, hsz, hP, hK, hD0⟩ := hv
  have hx := B.exec
  have hb := B.bytes
  have hr := B.returns
  have hT := x_hT B.pre
  have hown : s.vm.findClass xR_Li = some m.cls := findClass_of_methodNamed B.named
  have hlocks := B.notSynchronized
  subst hsz
  have hD := hD0.self (sz := s.heap.size)
  generalize hAe : va_A (rp ad E RL) s.heap.size = A at hD ⊢
  have hA : ∀ q : Nat, s.heap.size ≤ q → A q := fun q h => by rw [← hAe]; exact Or.inr h
  have hS : va_S A s.heap s.heap [] := va_S.rf
  have hl := lv_entry ([.ref (ad 0 1)]) (n := 1) (Nat.le_of_ble_eq_true rfl)
  rw [lg_entry_eq]
  generalize (lg_sl ([.ref (ad 0 1)]) ++ List.replicate (1 - (lg_sl ([.ref (ad 0 1)])).length) Slot.unset).toArray = ls at hl ⊢
  have hl : lv_has ls 1 [(0, .ref (ad 0 1))] := hl
  have hP : va_P D xcl (rp ad E RL) s.heap := hP
  obtain ⟨hmB, hDk, hLi, hSh, hCh, hLa, hDIs, hLIs⟩ := id hCI
  obtain ⟨lf_1, q_1⟩ := id (hDk)
  have c_2 : E 0 0 = .inr (0, [.ref (ad 0 1), .ref (ad 0 5), .ref (ad 0 7), .ref (ad 0 9), .int (nI ml), .int lf_1]) := q_1
  have m_3 : (0, 0) ∈ RL := hmB 0 (by omega)
  obtain ⟨tx_4, fb_4, fe_4, hl1_4, hw2_4, q1_4, q2_4, q3_4, q4_4, hws_4⟩ := id (hLi)
  have c_5 : E 0 1 = .inr (1, [.ref (ad 0 2), .ref (ad 0 3), .ref (ad 0 4), .int (nI len), .int (nI wn)]) := q1_4
  have m_6 : (0, 1) ∈ RL := hmB 1 (by omega)
  have c_7 : E 0 2 = .inl (kA 1, 40, .inl tx_4) := q2_4
  have m_8 : (0, 2) ∈ RL := hmB 2 (by omega)
  have c_9 : E 0 3 = .inl (kA 0, 20, .inl fb_4) := q3_4
  have m_10 : (0, 3) ∈ RL := hmB 3 (by omega)
  have c_11 : E 0 4 = .inl (kA 0, 20, .inl fe_4) := q4_4
  have m_12 : (0, 4) ∈ RL := hmB 4 (by omega)
  obtain ⟨fd_13, hnd_13, q5_13, q6_13, hds_13⟩ := id (hSh)
  have c_14 : E 0 5 = .inr (2, [.ref (ad 0 6), .int (nI nd)]) := q5_13
  have m_15 : (0, 5) ∈ RL := hmB 5 (by omega)
  have c_16 : E 0 6 = .inl (kA 4, 12, .inr (.inr (.inr (.inr fd_13)))) := q6_13
  have m_17 : (0, 6) ∈ RL := hmB 6 (by omega)
  obtain ⟨cf_18, pv_18, fc_18, hcs_18, hpv_18, q7_18, q8_18, hfc_18⟩ := id (hCh)
  have c_19 : E 0 7 = .inr (3, [.ref (ad 0 5), .ref (ad 0 8), .int (nI cs), .int cf_18, pv_18]) := q7_18
  have m_20 : (0, 7) ∈ RL := hmB 7 (by omega)
  have c_21 : E 0 8 = .inl (kA 4, 12, .inr (.inr (.inr (.inr fc_18)))) := q8_18
  have m_22 : (0, 8) ∈ RL := hmB 8 (by omega)
  obtain ⟨fl_23, hml_23, q9_23, hla_23⟩ := id (hLa)
  have c_24 : E 0 9 = .inl (kA 5, 5, .inr (.inr (.inr (.inr fl_23)))) := q9_23
  have m_25 : (0, 9) ∈ RL := hmB 9 (by omega)
  refine lv_aload_n hx hb xd_Li_takeName_0 rfl (lv_at hl 0 rfl) ?_
  have hFc := px_free hD hS hA
  refine va_callv (va_runV (As := []) (rest := []) ⟨hx, hb, hml, hown, hT⟩ (xc_Li_take l D kA s.heap.size ad E RL len wn tx_4 fb_4 fe_4 m_6 c_5 m_8 c_7 m_10 c_9 m_12 c_11 (by first | assumption | omega)) (cwV 0 hT (wT_V yp_6 yp_7 yp_8 yp_9 yp_5) rfl rfl rfl (by decide +kernel) ⟨Nat.le_of_ble_eq_true rfl, Nat.le_of_ble_eq_true rfl⟩) (px_preV hK hP hD m_6 c_5 rfl) rfl rfl hl.1 rfl (lv_room (Nat.le_of_ble_eq_true rfl)) xd_Li_takeName_1 ⟨(Nat.le_of_ble_eq_true rfl), (Nat.le_of_ble_eq_true rfl)⟩) hS (fun q _ h => hFc q h) hFc (fun u27 t H1 locs ht hvm hp28 hB hz1 hk1 hS => ?_)
  obtain ⟨hP1, hD1⟩ := hB
  rw [ht] at hP1
  have hD1 := hD1.weaken (fun _ _ _ h => hFc _ h)
  generalize H1 = H at hP1 hS ⊢
  have hP := hP1
  have hD := hD1
  obtain ⟨E29, rfl⟩ : ∃ z, z = u27 := ⟨_, rfl⟩
  obtain ⟨w30, w31, w32, hp37, p_33, p_34, p_35, p_36⟩ := hp28
  have p_33 : E29 0 1 = .inr (1, [.ref (ad 0 2), .ref (ad 0 3), .ref (ad 0 4), .int 0, .int (nI w30)]) := p_33
  have p_34 : E29 0 3 = .inl (kA 0, 20, .inl w31) := p_34
  have p_35 : E29 0 4 = .inl (kA 0, 20, .inl w32) := p_35
  have p_36 : (∀ b2 o2, ¬ (b2 = 0 ∧ o2 = 1) → ¬ (b2 = 0 ∧ o2 = 3) → ¬ (b2 = 0 ∧ o2 = 4) → E29 b2 o2 = E b2 o2) := p_36
  have c_38 : E29 0 0 = .inr (0, [.ref (ad 0 1), .ref (ad 0 5), .ref (ad 0 7), .ref (ad 0 9), .int (nI ml), .int lf_1]) := (p_36 0 0 (by omega) (by omega) (by omega)).trans c_2
  have c_39 : E29 0 2 = .inl (kA 1, 40, .inl tx_4) := (p_36 0 2 (by omega) (by omega) (by omega)).trans c_7
  have c_40 : E29 0 5 = .inr (2, [.ref (ad 0 6), .int (nI nd)]) := (p_36 0 5 (by omega) (by omega) (by omega)).trans c_14
  have c_41 : E29 0 6 = .inl (kA 4, 12, .inr (.inr (.inr (.inr fd_13)))) := (p_36 0 6 (by omega) (by omega) (by omega)).trans c_16
  have c_42 : E29 0 7 = .inr (3, [.ref (ad 0 5), .ref (ad 0 8), .int (nI cs), .int cf_18, pv_18]) := (p_36 0 7 (by omega) (by omega) (by omega)).trans c_19
  have c_43 : E29 0 8 = .inl (kA 4, 12, .inr (.inr (.inr (.inr fc_18)))) := (p_36 0 8 (by omega) (by omega) (by omega)).trans c_21
  have c_44 : E29 0 9 = .inl (kA 5, 5, .inr (.inr (.inr (.inr fl_23)))) := (p_36 0 9 (by omega) (by omega) (by omega)).trans c_24
  have hP : va_P D xcl (rp ad E29 RL) H := hP
  have hD : va_D A (rp ad E29 RL) := hD
  obtain ⟨hw20, hWP⟩ := hp37
  have hCI : CI kA ad E29 RL ml nd 0 w30 cs := ⟨hmB, ⟨lf_1, c_38⟩, ⟨tx_4, w31, w32, (by omega), (by omega), p_33, c_39, p_34, p_35, hWP⟩, ⟨fd_13, (by omega), c_40, c_41, hds_13⟩, ⟨cf_18, pv_18, fc_18, (by omega), hpv_18, c_42, c_43, hfc_18⟩, ⟨fl_23, (by omega), c_44, hla_23⟩, (DIs_same (fun d9 hd9 => fun2 fun o9 => by show E29 (1 + d9) o9 = _; rw [p_36 (1 + d9) o9 (by omega) (by omega) (by omega)]) (fun _ _ => rfl) (fun _ h9 => h9) hDIs), (LIs_same (Nat.le_refl _) (fun n9 hn9 => fun2 fun o9 => by show E29 (20 + n9) o9 = _; rw [p_36 (20 + n9) o9 (by omega) (by omega) (by omega)]) (fun _ _ => rfl) (fun _ _ => rfl) (fun _ h9 => h9) hLIs)⟩
  obtain ⟨hmB, hDk, hLi, hSh, hCh, hLa, hDIs, hLIs⟩ := id hCI
  obtain ⟨tx_45, fb_45, fe_45, hl1_45, hw2_45, q1_45, q2_45, q3_45, q4_45, hws_45⟩ := id (hLi)
  have c_46 : E29 0 1 = .inr (1, [.ref (ad 0 2), .ref (ad 0 3), .ref (ad 0 4), .int (nI 0), .int (nI w30)]) := q1_45
  have m_47 : (0, 1) ∈ RL := hmB 1 (by omega)
  have c_48 : E29 0 2 = .inl (kA 1, 40, .inl tx_45) := q2_45
  have m_49 : (0, 2) ∈ RL := hmB 2 (by omega)
  have c_50 : E29 0 3 = .inl (kA 0, 20, .inl fb_45) := q3_45
  have m_51 : (0, 3) ∈ RL := hmB 3 (by omega)
  have c_52 : E29 0 4 = .inl (kA 0, 20, .inl fe_45) := q4_45
  have m_53 : (0, 4) ∈ RL := hmB 4 (by omega)
  refine lv_aload_n hx hb xd_Li_takeName_4 rfl (lv_at hl 0 rfl) ?_
  refine px_get (D := D) (ci := 1) (v := .int (nI w30)) (C := xR_Li) (T := xT_Li) (N := 5) hx hb hT xi_Li hown hK.1 hP m_47 c_46 rfl 4 (by decide) (hT _ yp_2) (fun _ h9 => h9) rfl xd_Li_takeName_5 ?_
  refine lv_iconst (v := 1) hx hb xd_Li_takeName_8 (by decide) ?_
  refine xn_ne (a := w30) (b := 1) (tgt := 20) hx hb xd_Li_takeName_9 (by decide) (by omega) (by omega) (fun hc54 => ?_) (fun hc54 => ?_)
  · refine lv_iconst (v := 0) hx hb xd_Li_takeName_20 (by decide) ?_
    exact W.iret (v := 0) hx hb hr (fun t ht hW => ⟨⟨0, E29, rfl, ⟨w30, hCI⟩, by rw [ht]; exact hP, hD⟩, hS.F ht⟩) hS.2.2 xd_Li_takeName_21
  · refine lv_aload_n hx hb xd_Li_takeName_12 rfl (lv_at hl 0 rfl) ?_
    refine lv_iconst (v := 0) hx hb xd_Li_takeName_13 (by decide) ?_
    have hFc := px_free hD hS hA
    refine va_calli (va_runV (As := [.int 0]) (rest := []) ⟨hx, hb, hml, hown, hT⟩ (xc_Li_nameAt l D kA H.size ad E29 RL ml nd 0 w30 cs 0 (by first | assumption | omega)) (cwV 1 hT (wT_V yp_11 yp_12 yp_13 yp_9 yp_10) rfl rfl rfl (by decide +kernel) ⟨Nat.le_of_ble_eq_true rfl, Nat.le_of_ble_eq_true rfl⟩) (px_preV hK hP hD m_47 c_46 rfl) rfl rfl hl.1 rfl (lv_room (Nat.le_of_ble_eq_true rfl)) xd_Li_takeName_14 ⟨(Nat.le_of_ble_eq_true rfl), (Nat.le_of_ble_eq_true rfl)⟩) hS (fun q _ h => hFc q h) hFc (fun r55 u56 t H1 locs ht hvm hp57 hB hz1 hk1 hS => ?_)
    obtain ⟨hP1, hD1⟩ := hB
    rw [ht] at hP1
    have hD1 := hD1.weaken (fun _ _ _ h => hFc _ h)
    generalize H1 = H at hP1 hS ⊢
    have hP := hP1
    have hD := hD1
    have hP : va_P D xcl (rp ad E29 RL) H := hP
    have hD : va_D A (rp ad E29 RL) := hD
    refine lv_goto (tgt := 21) hx hb xd_Li_takeName_17 (by decide) ?_
    exact W.iret (v := r55) hx hb hr (fun t ht hW => ⟨⟨r55, E29, rfl, ⟨w30, hCI⟩, by rw [ht]; exact hP, hD⟩, hS.F ht⟩) hS.2.2 xd_Li_takeName_21
set_option maxHeartbeats 4000000 in
set_option maxRecDepth 100000 in
theorem xc_De_write (l : Launch) (D : va_G) (kA : Nat → ClassId) (sz : Nat) (ad : Nat → Nat → Nat) (E : Nat → Nat → va_E) (RL : List (Nat × Nat)) (ml : Nat) (nd : Nat) (len : Nat) (wn : Nat) (cs : Nat) (cc9 : Int32) (hCI : CI kA ad E RL ml nd len wn cs) : Met l xy_De_write (.code xy_De_write xb_De_write 2 (some .boolean) :: wT) { frames := 1, cells := 0, slots := 0, locals := 21 } (va_Pc [.ref (ad 0 0), .int cc9] (xPre D kA sz (rp ad E RL))) (va_Qi (fun (r : Int32) (u : Nat → Nat → va_E) => ∃ len2, CI kA ad u RL ml nd len2 wn cs ∧ ((r = 0 ∧ len2 = len ∧ (cc9 < 32 ∨ 126 < cc9 ∨ len = 40)) ∨ (r = 1 ∧ len2 = len + 1 ∧ len < 40 ∧ ¬ cc9 < 32 ∧ ¬ 126 < cc9))) (fun (u : Nat → Nat → va_E) t => va_P D xcl (rp ad u RL) t.heap ∧ va_D (va_A (rp ad E RL) sz) (rp ad u RL)) (va_A (rp ad E RL) sz)) 0 0 (va_A (rp ad E RL) sz) := by
  refine Met.ofW (cc := xb_De_write) (maxL := 2) (ret := (some .boolean)) (by decide) rfl ?_
  intro p e s m args below meth c s₁ B hml hv
  obtain ⟨rfl, hsz, hP, hK, hD0⟩ := hv
  have hx := B.exec
  have hb := B.bytes
  have hr := B.returns
  have hT := x_hT B.pre
  have hown : s.vm.findClass xR_De = some m.cls := findClass_of_methodNamed B.named
  have hlocks := B.notSynchronized
  subst hsz
  have hD := hD0.self (sz := s.heap.size)
  generalize hAe : va_A (rp ad E RL) s.heap.size = A at hD ⊢
  have hA : ∀ q : Nat, s.heap.size ≤ q → A q := fun q h => by rw [← hAe]; exact Or.inr h
  have hS : va_S A s.heap s.heap [] := va_S.rf
  have hl := lv_entry ([.ref (ad 0 0), .int cc9]) (n := 2) (Nat.le_of_ble_eq_true rfl)
  rw [lg_entry_eq]
  generalize (lg_sl ([.ref (ad 0 0), .int cc9]) ++ List.replicate (2 - (lg_sl ([.ref (ad 0 0), .int cc9])).length) Slot.unset).toArray = ls at hl ⊢
  have hl : lv_has ls 2 [(0, .ref (ad 0 0)), (1, .int cc9)] := hl
  have hP : va_P D xcl (rp ad E RL) s.heap := hP
  obtain ⟨hmB, hDk, hLi, hSh, hCh, hLa, hDIs, hLIs⟩ := id hCI
  obtain ⟨lf_1, q_1⟩ := id (hDk)
  have c_2 : E 0 0 = .inr (0, [.ref (ad 0 1), .ref (ad 0 5), .ref (ad 0 7), .ref (ad 0 9), .int (nI ml), .int lf_1]) := q_1
  have m_3 : (0, 0) ∈ RL := hmB 0 (by omega)
  obtain ⟨tx_4, fb_4, fe_4, hl1_4, hw2_4, q1_4, q2_4, q3_4, q4_4, hws_4⟩ := id (hLi)
  have c_5 : E 0 1 = .inr (1, [.ref (ad 0 2), .ref (ad 0 3), .ref (ad 0 4), .int (nI len), .int (nI wn)]) := q1_4
  have m_6 : (0, 1) ∈ RL := hmB 1 (by omega)
  have c_7 : E 0 2 = .inl (kA 1, 40, .inl tx_4) := q2_4
  have m_8 : (0, 2) ∈ RL := hmB 2 (by omega)
  have c_9 : E 0 3 = .inl (kA 0, 20, .inl fb_4) := q3_4
  have m_10 : (0, 3) ∈ RL := hmB 3 (by omega)
  have c_11 : E 0 4 = .inl (kA 0, 20, .inl fe_4) := q4_4
  have m_12 : (0, 4) ∈ RL := hmB 4 (by omega)
  obtain ⟨fd_13, hnd_13, q5_13, q6_13, hds_13⟩ := id (hSh)
  have c_14 : E 0 5 = .inr (2, [.ref (ad 0 6), .int (nI nd)]) := q5_13
  have m_15 : (0, 5) ∈ RL := hmB 5 (by omega)
  have c_16 : E 0 6 = .inl (kA 4, 12, .inr (.inr (.inr (.inr fd_13)))) := q6_13
  have m_17 : (0, 6) ∈ RL := hmB 6 (by omega)
  obtain ⟨cf_18, pv_18, fc_18, hcs_18, hpv_18, q7_18, q8_18, hfc_18⟩ := id (hCh)
  have c_19 : E 0 7 = .inr (3, [.ref (ad 0 5), .ref (ad 0 8), .int (nI cs), .int cf_18, pv_18]) := q7_18
  have m_20 : (0, 7) ∈ RL := hmB 7 (by omega)
  have c_21 : E 0 8 = .inl (kA 4, 12, .inr (.inr (.inr (.inr fc_18)))) := q8_18
  have m_22 : (0, 8) ∈ RL := hmB 8 (by omega)
  obtain ⟨fl_23, hml_23, q9_23, hla_23⟩ := id (hLa)
  have c_24 : E 0 9 = .inl (kA 5, 5, .inr (.inr (.inr (.inr fl_23)))) := q9_23
  have m_25 : (0, 9) ∈ RL := hmB 9 (by omega)
  refine lv_aload_n hx hb xd_De_write_0 rfl (lv_at hl 0 rfl) ?_
  refine px_get (D := D) (ci := 0) (v := .ref (ad 0 1)) (C := xR_De) (T := xT_De) (N := 6) hx hb hT xi_De hown hK.1 hP m_3 c_2 rfl 0 (by decide) (hT _ yp_14) (fun _ h9 => h9) rfl xd_De_write_1 ?_
  refine lv_iload_n hx hb xd_De_write_4 rfl (lv_at hl 1 rfl) ?_
  have hFc := px_free hD hS hA
  refine va_calli (va_runV (As := [.int cc9]) (rest := []) ⟨hx, hb, hml, hown, hT⟩ (xc_Li_append l D kA s.heap.size ad E RL len wn tx_4 cc9 m_6 c_5 m_8 c_7 (by first | assumption | omega)) (cwV 1 hT (wT_V yp_16 yp_17 yp_18 yp_9 yp_15) rfl rfl rfl (by decide +kernel) ⟨Nat.le_of_ble_eq_true rfl, Nat.le_of_ble_eq_true rfl⟩) (px_preV hK hP hD m_6 c_5 rfl) rfl rfl hl.1 rfl (lv_room (Nat.le_of_ble_eq_true rfl)) xd_De_write_5 ⟨(Nat.le_of_ble_eq_true rfl), (Nat.le_of_ble_eq_true rfl)⟩) hS (fun q _ h => hFc q h) hFc (fun r26 u27 t H1 locs ht hvm hp28 hB hz1 hk1 hS => ?_)
  obtain ⟨hP1, hD1⟩ := hB
  rw [ht] at hP1
  have hD1 := hD1.weaken (fun _ _ _ h => hFc _ h)
  generalize H1 = H at hP1 hS ⊢
  have hP := hP1
  have hD := hD1
  obtain ⟨E29, rfl⟩ : ∃ z, z = u27 := ⟨_, rfl⟩
  obtain ⟨w30, w31, hp35, p_32, p_33, p_34⟩ := hp28
  have p_32 : E29 0 1 = .inr (1, [.ref (ad 0 2), .ref (ad 0 3), .ref (ad 0 4), .int (nI w30), .int (nI wn)]) := p_32
  have p_33 : E29 0 2 = .inl (kA 1, 40, .inl w31) := p_33
  have p_34 : (∀ b2 o2, ¬ (b2 = 0 ∧ o2 = 1) → ¬ (b2 = 0 ∧ o2 = 2) → E29 b2 o2 = E b2 o2) := p_34
  have c_36 : E29 0 0 = .inr (0, [.ref (ad 0 1), .ref (ad 0 5), .ref (ad 0 7), .ref (ad 0 9), .int (nI ml), .int lf_1]) := (p_34 0 0 (by omega) (by omega)).trans c_2
  have c_37 : E29 0 3 = .inl (kA 0, 20, .inl fb_4) := (p_34 0 3 (by omega) (by omega)).trans c_9
  have c_38 : E29 0 4 = .inl (kA 0, 20, .inl fe_4) := (p_34 0 4 (by omega) (by omega)).trans c_11
  have c_39 : E29 0 5 = .inr (2, [.ref (ad 0 6), .int (nI nd)]) := (p_34 0 5 (by omega) (by omega)).trans c_14
  have c_40 : E29 0 6 = .inl (kA 4, 12, .inr (.inr (.inr (.inr fd_13)))) := (p_34 0 6 (by omega) (by omega)).trans c_16
  have c_41 : E29 0 7 = .inr (3, [.ref (ad 0 5), .ref (ad 0 8), .int (nI cs), .int cf_18, pv_18]) := (p_34 0 7 (by omega) (by omega)).trans c_19
  have c_42 : E29 0 8 = .inl (kA 4, 12, .inr (.inr (.inr (.inr fc_18)))) := (p_34 0 8 (by omega) (by omega)).trans c_21
  have c_43 : E29 0 9 = .inl (kA 5, 5, .inr (.inr (.inr (.inr fl_23)))) := (p_34 0 9 (by omega) (by omega)).trans c_24
  have hP : va_P D xcl (rp ad E29 RL) H := hP
  have hD : va_D A (rp ad E29 RL) := hD
  have hap := hp35
  have hCI : CI kA ad E29 RL ml nd w30 wn cs := ⟨hmB, ⟨lf_1, c_36⟩, ⟨w31, fb_4, fe_4, (by omega), (by omega), p_32, p_33, c_37, c_38, hws_4⟩, ⟨fd_13, (by omega), c_39, c_40, hds_13⟩, ⟨cf_18, pv_18, fc_18, (by omega), hpv_18, c_41, c_42, hfc_18⟩, ⟨fl_23, (by omega), c_43, hla_23⟩, (DIs_same (fun d9 hd9 => fun2 fun o9 => by show E29 (1 + d9) o9 = _; rw [p_34 (1 + d9) o9 (by omega) (by omega)]) (fun _ _ => rfl) (fun _ h9 => h9) hDIs), (LIs_same (Nat.le_refl _) (fun n9 hn9 => fun2 fun o9 => by show E29 (20 + n9) o9 = _; rw [p_34 (20 + n9) o9 (by omega) (by omega)]) (fun _ _ => rfl) (fun _ _ => rfl) (fun _ h9 => h9) hLIs)⟩
  obtain ⟨hmB, hDk, hLi, hSh, hCh, hLa, hDIs, hLIs⟩ := id hCI
  exact W.zret (v := r26) hx hb hr (by rcases hap with ⟨h, _⟩ | ⟨h, _⟩ <;> rw [h] <;> rfl) (fun t ht hW => ⟨⟨r26, E29, rfl, ⟨w30, hCI, hap⟩, by rw [ht]; exact hP, hD⟩, hS.F ht⟩) hS.2.2 xd_De_write_8
set_option maxHeartbeats 4000000 in
set_option maxRecDepth 100000 in
theorem xc_De_close (l : Launch) (D : va_G) (kA : Nat → ClassId) (sz : Nat) (ad : Nat → Nat → Nat) (E : Nat → Nat → va_E) (RL : List (Nat × Nat)) (ml : Nat) (nd : Nat) (len : Nat) (wn : Nat) (cs : Nat) (ix : Int32) (hCI : CI kA ad E RL ml nd len wn cs) : Met l xy_De_close (.code xy_De_close xb_De_close 3 (some .boolean) :: wT) { frames := 2, cells := 0, slots := 0, locals := 45 } (va_Pc [.ref (ad 0 0), .int ix] (xPre D kA sz (rp ad E RL))) (va_Qi (fun (r : Int32) (u : Nat → Nat → va_E) => (r = 0 ∨ r = 1) ∧ CI kA ad u RL ml nd len wn cs) (fun (u : Nat → Nat → va_E) t => va_P D xcl (rp ad u RL) t.heap ∧ va_D (va_A (rp ad E RL) sz) (rp ad u RL)) (va_A (rp ad E RL) sz)) 0 0 (va_A (rp ad E RL) sz) := by
  refine Met.ofW (cc := xb_De_close) (maxL := 3) (ret := (some .boolean)) (by decide) rfl ?_
  intro p e s m args below meth c s₁ B hml hv
  obtain ⟨rfl, hsz, hP, hK, hD0⟩ := hv
  have hx := B.exec
  have hb := B.bytes
  have hr := B.returns
  have hT := x_hT B.pre
  have hown : s.vm.findClass xR_De = some m.cls := findClass_of_methodNamed B.named
  have hlocks := B.notSynchronized
  subst hsz
  have hD := hD0.self (sz := s.heap.size)
  generalize hAe : va_A (rp ad E RL) s.heap.size = A at hD ⊢
  have hA : ∀ q : Nat, s.heap.size ≤ q → A q := fun q h => by rw [← hAe]; exact Or.inr h
  have hS : va_S A s.heap s.heap [] := va_S.rf
  have hl := lv_entry ([.ref (ad 0 0), .int ix]) (n := 3) (Nat.le_of_ble_eq_true rfl)
  rw [lg_entry_eq]
  generalize (lg_sl ([.ref (ad 0 0), .int ix]) ++ List.replicate (3 - (lg_sl ([.ref (ad 0 0), .int ix])).length) Slot.unset).toArray = ls at hl ⊢
  have hl : lv_has ls 3 [(0, .ref (ad 0 0)), (1, .int ix)] := hl
  have hP : va_P D xcl (rp ad E RL) s.heap := hP
  obtain ⟨hmB, hDk, hLi, hSh, hCh, hLa, hDIs, hLIs⟩ := id hCI
  obtain ⟨lf_1, q_1⟩ := id (hDk)
  have c_2 : E 0 0 = .inr (0, [.ref (ad 0 1), .ref (ad 0 5), .ref (ad 0 7), .ref (ad 0 9), .int (nI ml), .int lf_1]) := q_1
  have m_3 : (0, 0) ∈ RL := hmB 0 (by omega)
  obtain ⟨tx_4, fb_4, fe_4, hl1_4, hw2_4, q1_4, q2_4, q3_4, q4_4, hws_4⟩ := id (hLi)
  have c_5 : E 0 1 = .inr (1, [.ref (ad 0 2), .ref (ad 0 3), .ref (ad 0 4), .int (nI len), .int (nI wn)]) := q1_4
  have m_6 : (0, 1) ∈ RL := hmB 1 (by omega)
  have c_7 : E 0 2 = .inl (kA 1, 40, .inl tx_4) := q2_4
  have m_8 : (0, 2) ∈ RL := hmB 2 (by omega)
  have c_9 : E 0 3 = .inl (kA 0, 20, .inl fb_4) := q3_4
  have m_10 : (0, 3) ∈ RL := hmB 3 (by omega)
  have c_11 : E 0 4 = .inl (kA 0, 20, .inl fe_4) := q4_4
  have m_12 : (0, 4) ∈ RL := hmB 4 (by omega)
  obtain ⟨fd_13, hnd_13, q5_13, q6_13, hds_13⟩ := id (hSh)
  have c_14 : E 0 5 = .inr (2, [.ref (ad 0 6), .int (nI nd)]) := q5_13
  have m_15 : (0, 5) ∈ RL := hmB 5 (by omega)
  have c_16 : E 0 6 = .inl (kA 4, 12, .inr (.inr (.inr (.inr fd_13)))) := q6_13
  have m_17 : (0, 6) ∈ RL := hmB 6 (by omega)
  obtain ⟨cf_18, pv_18, fc_18, hcs_18, hpv_18, q7_18, q8_18, hfc_18⟩ := id (hCh)
  have c_19 : E 0 7 = .inr (3, [.ref (ad 0 5), .ref (ad 0 8), .int (nI cs), .int cf_18, pv_18]) := q7_18
  have m_20 : (0, 7) ∈ RL := hmB 7 (by omega)
  have c_21 : E 0 8 = .inl (kA 4, 12, .inr (.inr (.inr (.inr fc_18)))) := q8_18
  have m_22 : (0, 8) ∈ RL := hmB 8 (by omega)
  obtain ⟨fl_23, hml_23, q9_23, hla_23⟩ := id (hLa)
  have c_24 : E 0 9 = .inl (kA 5, 5, .inr (.inr (.inr (.inr fl_23)))) := q9_23
  have m_25 : (0, 9) ∈ RL := hmB 9 (by omega)
  refine lv_aload_n hx hb xd_De_close_0 rfl (lv_at hl 0 rfl) ?_
  refine lv_iload_n hx hb xd_De_close_1 rfl (lv_at hl 1 rfl) ?_
  have hFc := px_free hD hS hA
  refine va_callq (va_runV (As := [.int ix]) (rest := []) ⟨hx, hb, hml, hown, hT⟩ (xc_De_openLayer l D kA s.heap.size ad E RL ml nd len wn cs ix (by first | assumption | omega)) (cwV 1 hT (wT_V yp_20 yp_21 yp_22 yp_23 yp_19) rfl rfl rfl (by decide +kernel) ⟨Nat.le_of_ble_eq_true rfl, Nat.le_of_ble_eq_true rfl⟩) (px_preV hK hP hD m_3 c_2 rfl) rfl rfl hl.1 rfl (lv_room (Nat.le_of_ble_eq_true rfl)) xd_De_close_2 ⟨(Nat.le_of_ble_eq_true rfl), (Nat.le_of_ble_eq_true rfl)⟩) hS (fun q _ h => hFc q h) hFc (fun r26 u27 t H1 locs ht hvm hp28 hB hz1 hk1 hS => ?_)
  obtain ⟨hP1, hD1⟩ := hB
  rw [ht] at hP1
  have hD1 := hD1.weaken (fun _ _ _ h => hFc _ h)
  generalize H1 = H at hP1 hS ⊢
  have hP := hP1
  have hD := hD1
  have hP : va_P D xcl (rp ad E RL) H := hP
  have hD : va_D A (rp ad E RL) := hD
  rcases hp28 with rfl | ⟨z29, z30, z31, rfl⟩
  · refine W.eq (g2 := F0 m 5 ls [.null]) rfl ?_
    refine lv_astore_nN hx hb xd_De_close_5 rfl hl (Nat.le_of_ble_eq_true rfl) rfl (fun ls hl => ?_)
    have hl : lv_has ls 3 [(2, .null), (0, .ref (ad 0 0)), (1, .int ix)] := hl
    refine lv_aload_nN hx hb xd_De_close_6 rfl (lv_at hl 0 rfl) ?_
    refine lv_ifnullN (tgt := 18) hx hb xd_De_close_7 (by decide) ?_
    refine lv_iconst (v := 0) hx hb xd_De_close_18 (by decide) ?_
    exact W.zret (v := 0) hx hb hr rfl (fun t ht hW => ⟨⟨0, E, rfl, ⟨Or.inl rfl, hCI⟩, by rw [ht]; exact hP, hD⟩, hS.F ht⟩) hS.2.2 xd_De_close_19
  · refine W.eq (g2 := F0 m 5 ls [.ref (ad (20 + z29) 0)]) rfl ?_
    refine lv_astore_n hx hb xd_De_close_5 rfl hl (Nat.le_of_ble_eq_true rfl) rfl (fun ls hl => ?_)
    have hl : lv_has ls 3 [(2, .ref (ad (20 + z29) 0)), (0, .ref (ad 0 0)), (1, .int ix)] := hl
    refine lv_aload_n hx hb xd_De_close_6 rfl (lv_at hl 0 rfl) ?_
    refine lv_ifnull hx hb xd_De_close_7 ?_
    refine lv_aload_n hx hb xd_De_close_10 rfl (lv_at hl 1 rfl) ?_
    refine lv_aload_n hx hb xd_De_close_11 rfl (lv_at hl 0 rfl) ?_
    have hFc := px_free hD hS hA
    refine va_calli (va_runV (As := [.ref (ad (20 + z29) 0)]) (rest := []) ⟨hx, hb, hml, hown, hT⟩ (xc_De_isParentOfOpen l D kA H.size ad E RL ml nd len wn cs z29 (by first | assumption | omega)) (cwV 1 hT (wT_V yp_25 yp_26 yp_27 yp_23 yp_24) rfl rfl rfl (by decide +kernel) ⟨Nat.le_of_ble_eq_true rfl, Nat.le_of_ble_eq_true rfl⟩) (px_preV hK hP hD m_3 c_2 rfl) rfl rfl hl.1 rfl (lv_room (Nat.le_of_ble_eq_true rfl)) xd_De_close_12 ⟨(Nat.le_of_ble_eq_true rfl), (Nat.le_of_ble_eq_true rfl)⟩) hS (fun q _ h => hFc q h) hFc (fun r32 u33 t H1 locs ht hvm hp34 hB hz1 hk1 hS => ?_)
    obtain ⟨hP1, hD1⟩ := hB
    rw [ht] at hP1
    have hD1 := hD1.weaken (fun _ _ _ h => hFc _ h)
    generalize H1 = H at hP1 hS ⊢
    have hP := hP1
    have hD := hD1
    have hP : va_P D xcl (rp ad E RL) H := hP
    have hD : va_D A (rp ad E RL) := hD
    rcases hp34 with rfl | rfl
    · refine W.eq (g2 := F0 m 15 ls [.int 0]) rfl ?_
      refine lv_if_eq (tgt := 20) hx hb xd_De_close_15 (by decide) (fun _ => ?_) (fun hc35 => absurd (by decide) hc35)
      obtain ⟨m0_36, m1_36, pv_36, op_36, mk_36, fm_36, hmk_36, hpv_36, q0_36, q1_36, hk_36⟩ := id (hLIs z29 (by omega))
      have c_37 : E (20 + z29) 0 = .inr (5, [.int (nI z29), pv_36, .ref (ad (20 + z29) 1), .int op_36]) := q0_36
      have m_38 : (20 + z29, 0) ∈ RL := m0_36
      have c_39 : E (20 + z29) 1 = .inl (kA 6, mk_36, .inr (.inr (.inr (.inr fm_36)))) := q1_36
      have m_40 : (20 + z29, 1) ∈ RL := m1_36
      refine lv_aload_n hx hb xd_De_close_20 rfl (lv_at hl 0 rfl) ?_
      refine lv_iconst (v := 0) hx hb xd_De_close_21 (by decide) ?_
      refine px_put (D := D) (ci := 5) (v := .int 0) (ty := .boolean) (C := xR_Ly) (T := xT_Ly) (N := 4) hx hb hT xi_Ly xt_Ly xt_Ly_ok xn_Ly hown hK.1 hP hD hS m_38 c_37 rfl 3 (by decide) (hT _ yp_28) (fun _ h9 => h9) rfl (by decide +kernel) rfl rfl (Nat.le_of_ble_eq_true rfl) xd_De_close_22 (fun H locs hP hD hS => ?_)
      have hP : va_P D xcl (rp ad (up2 E (20 + z29) 0 (.inr (5, [.int (nI z29), pv_36, .ref (ad (20 + z29) 1), .int 0]))) RL) H := hP
      have hD : va_D A (rp ad (up2 E (20 + z29) 0 (.inr (5, [.int (nI z29), pv_36, .ref (ad (20 + z29) 1), .int 0]))) RL) := hD
      generalize hE42 : up2 E (20 + z29) 0 (.inr (5, [.int (nI z29), pv_36, .ref (ad (20 + z29) 1), .int 0])) = E41 at hP hD
      have fE43 : ∀ b2 o2, ¬ (b2 = 20 + z29 ∧ o2 = 0) → E41 b2 o2 = E b2 o2 := fun b2 o2 h9 => by rw [← hE42]; exact up2_ne (by omega)
      have c_44 : E41 (20 + z29) 0 = .inr (5, [.int (nI z29), pv_36, .ref (ad (20 + z29) 1), .int 0]) := by rw [← hE42]; exact up2_eq
      have c_45 : E41 0 0 = .inr (0, [.ref (ad 0 1), .ref (ad 0 5), .ref (ad 0 7), .ref (ad 0 9), .int (nI ml), .int lf_1]) := (fE43 0 0 (by omega)).trans c_2
      have c_46 : E41 0 1 = .inr (1, [.ref (ad 0 2), .ref (ad 0 3), .ref (ad 0 4), .int (nI len), .int (nI wn)]) := (fE43 0 1 (by omega)).trans c_5
      have c_47 : E41 0 2 = .inl (kA 1, 40, .inl tx_4) := (fE43 0 2 (by omega)).trans c_7
      have c_48 : E41 0 3 = .inl (kA 0, 20, .inl fb_4) := (fE43 0 3 (by omega)).trans c_9
      have c_49 : E41 0 4 = .inl (kA 0, 20, .inl fe_4) := (fE43 0 4 (by omega)).trans c_11
      have c_50 : E41 0 5 = .inr (2, [.ref (ad 0 6), .int (nI nd)]) := (fE43 0 5 (by omega)).trans c_14
      have c_51 : E41 0 6 = .inl (kA 4, 12, .inr (.inr (.inr (.inr fd_13)))) := (fE43 0 6 (by omega)).trans c_16
      have c_52 : E41 0 7 = .inr (3, [.ref (ad 0 5), .ref (ad 0 8), .int (nI cs), .int cf_18, pv_18]) := (fE43 0 7 (by omega)).trans c_19
      have c_53 : E41 0 8 = .inl (kA 4, 12, .inr (.inr (.inr (.inr fc_18)))) := (fE43 0 8 (by omega)).trans c_21
      have c_54 : E41 0 9 = .inl (kA 5, 5, .inr (.inr (.inr (.inr fl_23)))) := (fE43 0 9 (by omega)).trans c_24
      have c_55 : E41 (20 + z29) 1 = .inl (kA 6, mk_36, .inr (.inr (.inr (.inr fm_36)))) := (fE43 (20 + z29) 1 (by omega)).trans c_39
      have hCI : CI kA ad E41 RL ml nd len wn cs := ⟨hmB, ⟨lf_1, c_45⟩, ⟨tx_4, fb_4, fe_4, (by omega), (by omega), c_46, c_47, c_48, c_49, hws_4⟩, ⟨fd_13, (by omega), c_50, c_51, hds_13⟩, ⟨cf_18, pv_18, fc_18, (by omega), hpv_18, c_52, c_53, hfc_18⟩, ⟨fl_23, (by omega), c_54, hla_23⟩, (DIs_same (fun d9 hd9 => fun2 fun o9 => by show E41 (1 + d9) o9 = _; rw [fE43 (1 + d9) o9 (by omega)]) (fun _ _ => rfl) (fun _ h9 => h9) hDIs), (LIs_set (x := z29) (fun n9 hn9 hx9 => fun2 fun o9 => by show E41 (20 + n9) o9 = _; rw [fE43 (20 + n9) o9 (by omega)]) ⟨m0_36, m1_36, pv_36, 0, mk_36, fm_36, hmk_36, hpv_36, c_44, c_55, fun k9 hk9 => ⟨(hk_36 k9 hk9).1, MEI_ext (fun o9 ho9 => by show E41 (20 + z29) o9 = _; rw [fE43 (20 + z29) o9 (by omega)]) (hk_36 k9 hk9).2⟩⟩ hLIs)⟩
      obtain ⟨hmB, hDk, hLi, hSh, hCh, hLa, hDIs, hLIs⟩ := id hCI
      refine lv_iconst (v := 1) hx hb xd_De_close_25 (by decide) ?_
      exact W.zret (v := 1) hx hb hr rfl (fun t ht hW => ⟨⟨1, E41, rfl, ⟨Or.inr rfl, hCI⟩, by rw [ht]; exact hP, hD⟩, hS.F ht⟩) hS.2.2 xd_De_close_26
    · refine W.eq (g2 := F0 m 15 ls [.int 1]) rfl ?_
      refine lv_if_eq (tgt := 20) hx hb xd_De_close_15 (by decide) (fun hc56 => absurd hc56 (by decide)) (fun _ => ?_)
      refine lv_iconst (v := 0) hx hb xd_De_close_18 (by decide) ?_
      exact W.zret (v := 0) hx hb hr rfl (fun t ht hW => ⟨⟨0, E, rfl, ⟨Or.inl rfl, hCI⟩, by rw [ht]; exact hP, hD⟩, hS.F ht⟩) hS.2.2 xd_De_close_19
