abbrev xb_JS_coder : ByteArray := prog_17_method_152_code
def xy_JS_coder : MethodName := ⟨"java/lang/String", "coder", "()B"⟩
abbrev xb_JS_isLatin1 : ByteArray := prog_17_method_154_code
def xy_JS_isLatin1 : MethodName := ⟨"java/lang/String", "isLatin1", "()Z"⟩
abbrev xb_JS_length : ByteArray := prog_17_method_54_code
def xy_JS_length : MethodName := ⟨"java/lang/String", "length", "()I"⟩
abbrev xb_JP_checkIndex : ByteArray := prog_22_method_11_code
def xy_JP_checkIndex : MethodName := ⟨"jdk/internal/util/Preconditions", "checkIndex", "(IILjava/util/function/BiFunction;)I"⟩
abbrev xb_JS_checkIndex : ByteArray := prog_17_method_155_code
def xy_JS_checkIndex : MethodName := ⟨"java/lang/String", "checkIndex", "(II)V"⟩
abbrev xb_JL_charAt : ByteArray := prog_18_method_2_code
def xy_JL_charAt : MethodName := ⟨"java/lang/StringLatin1", "charAt", "([BI)C"⟩
abbrev xb_JS_charAt : ByteArray := prog_17_method_56_code
def xy_JS_charAt : MethodName := ⟨"java/lang/String", "charAt", "(I)C"⟩
theorem xd_JL_charAt_0 : decode xb_JL_charAt 0 = .ok (.iload_n 1, 1) := by decide +kernel
theorem xd_JL_charAt_1 : decode xb_JL_charAt 1 = .ok (.aload_n 0, 1) := by decide +kernel
theorem xd_JL_charAt_2 : decode xb_JL_charAt 2 = .ok (.arraylength, 1) := by decide +kernel
theorem xd_JL_charAt_3 : decode xb_JL_charAt 3 = .ok (.invokestatic 9, 3) := by decide +kernel
theorem xd_JL_charAt_6 : decode xb_JL_charAt 6 = .ok (.aload_n 0, 1) := by decide +kernel
theorem xd_JL_charAt_7 : decode xb_JL_charAt 7 = .ok (.iload_n 1, 1) := by decide +kernel
theorem xd_JL_charAt_8 : decode xb_JL_charAt 8 = .ok (.baload, 1) := by decide +kernel
theorem xd_JL_charAt_9 : decode xb_JL_charAt 9 = .ok (.sipush 255, 3) := by decide +kernel
theorem xd_JL_charAt_12 : decode xb_JL_charAt 12 = .ok (.iand, 1) := by decide +kernel
theorem xd_JL_charAt_13 : decode xb_JL_charAt 13 = .ok (.i2c, 1) := by decide +kernel
theorem xd_JL_charAt_14 : decode xb_JL_charAt 14 = .ok (.ireturn, 1) := by decide +kernel
theorem xd_JP_checkIndex_0 : decode xb_JP_checkIndex 0 = .ok (.iload_n 0, 1) := by decide +kernel
theorem xd_JP_checkIndex_1 : decode xb_JP_checkIndex 1 = .ok (.ifCond .lt 8, 3) := by decide +kernel
theorem xd_JP_checkIndex_4 : decode xb_JP_checkIndex 4 = .ok (.iload_n 0, 1) := by decide +kernel
theorem xd_JP_checkIndex_5 : decode xb_JP_checkIndex 5 = .ok (.iload_n 1, 1) := by decide +kernel
theorem xd_JP_checkIndex_6 : decode xb_JP_checkIndex 6 = .ok (.if_icmp .lt 10, 3) := by decide +kernel
theorem xd_JP_checkIndex_16 : decode xb_JP_checkIndex 16 = .ok (.iload_n 0, 1) := by decide +kernel
theorem xd_JP_checkIndex_17 : decode xb_JP_checkIndex 17 = .ok (.ireturn, 1) := by decide +kernel
theorem xd_JS_charAt_0 : decode xb_JS_charAt 0 = .ok (.aload_n 0, 1) := by decide +kernel
theorem xd_JS_charAt_1 : decode xb_JS_charAt 1 = .ok (.invokevirtual 492, 3) := by decide +kernel
theorem xd_JS_charAt_4 : decode xb_JS_charAt 4 = .ok (.ifCond .eq 12, 3) := by decide +kernel
theorem xd_JS_charAt_7 : decode xb_JS_charAt 7 = .ok (.aload_n 0, 1) := by decide +kernel
theorem xd_JS_charAt_8 : decode xb_JS_charAt 8 = .ok (.getfield 9, 3) := by decide +kernel
theorem xd_JS_charAt_11 : decode xb_JS_charAt 11 = .ok (.iload_n 1, 1) := by decide +kernel
theorem xd_JS_charAt_12 : decode xb_JS_charAt 12 = .ok (.invokestatic 495, 3) := by decide +kernel
theorem xd_JS_charAt_15 : decode xb_JS_charAt 15 = .ok (.ireturn, 1) := by decide +kernel
theorem xd_JS_checkIndex_0 : decode xb_JS_checkIndex 0 = .ok (.iload_n 0, 1) := by decide +kernel
theorem xd_JS_checkIndex_1 : decode xb_JS_checkIndex 1 = .ok (.iload_n 1, 1) := by decide +kernel
theorem xd_JS_checkIndex_2 : decode xb_JS_checkIndex 2 = .ok (.getstatic 1053, 3) := by decide +kernel
theorem xd_JS_checkIndex_5 : decode xb_JS_checkIndex 5 = .ok (.invokestatic 1059, 3) := by decide +kernel
theorem xd_JS_checkIndex_8 : decode xb_JS_checkIndex 8 = .ok (.pop, 1) := by decide +kernel
theorem xd_JS_checkIndex_9 : decode xb_JS_checkIndex 9 = .ok (.return_, 1) := by decide +kernel
theorem xd_JS_coder_0 : decode xb_JS_coder 0 = .ok (.getstatic 38, 3) := by decide +kernel
theorem xd_JS_coder_3 : decode xb_JS_coder 3 = .ok (.ifCond .eq 10, 3) := by decide +kernel
theorem xd_JS_coder_6 : decode xb_JS_coder 6 = .ok (.aload_n 0, 1) := by decide +kernel
theorem xd_JS_coder_7 : decode xb_JS_coder 7 = .ok (.getfield 15, 3) := by decide +kernel
theorem xd_JS_coder_10 : decode xb_JS_coder 10 = .ok (.goto 4, 3) := by decide +kernel
theorem xd_JS_coder_14 : decode xb_JS_coder 14 = .ok (.ireturn, 1) := by decide +kernel
theorem xd_JS_isLatin1_0 : decode xb_JS_isLatin1 0 = .ok (.getstatic 38, 3) := by decide +kernel
theorem xd_JS_isLatin1_3 : decode xb_JS_isLatin1 3 = .ok (.ifCond .eq 14, 3) := by decide +kernel
theorem xd_JS_isLatin1_6 : decode xb_JS_isLatin1 6 = .ok (.aload_n 0, 1) := by decide +kernel
theorem xd_JS_isLatin1_7 : decode xb_JS_isLatin1 7 = .ok (.getfield 15, 3) := by decide +kernel
theorem xd_JS_isLatin1_10 : decode xb_JS_isLatin1 10 = .ok (.ifCond .ne 7, 3) := by decide +kernel
theorem xd_JS_isLatin1_13 : decode xb_JS_isLatin1 13 = .ok (.iconst 1, 1) := by decide +kernel
theorem xd_JS_isLatin1_14 : decode xb_JS_isLatin1 14 = .ok (.goto 4, 3) := by decide +kernel
theorem xd_JS_isLatin1_18 : decode xb_JS_isLatin1 18 = .ok (.ireturn, 1) := by decide +kernel
theorem xd_JS_length_0 : decode xb_JS_length 0 = .ok (.aload_n 0, 1) := by decide +kernel
theorem xd_JS_length_1 : decode xb_JS_length 1 = .ok (.getfield 9, 3) := by decide +kernel
theorem xd_JS_length_4 : decode xb_JS_length 4 = .ok (.arraylength, 1) := by decide +kernel
theorem xd_JS_length_5 : decode xb_JS_length 5 = .ok (.aload_n 0, 1) := by decide +kernel
theorem xd_JS_length_6 : decode xb_JS_length 6 = .ok (.invokevirtual 335, 3) := by decide +kernel
theorem xd_JS_length_9 : decode xb_JS_length 9 = .ok (.ishr, 1) := by decide +kernel
theorem xd_JS_length_10 : decode xb_JS_length 10 = .ok (.ireturn, 1) := by decide +kernel
theorem yv_0 : (Cond.fieldLink "java/lang/String" 38 "java/lang/String" "COMPACT_STRINGS" "Z") ∈ wT := wT_t (List.mem_append_left _ (List.mem_of_getElem? (i := 208) rfl)) rfl
theorem yv_1 : (Cond.fieldLink "java/lang/String" 15 "java/lang/String" "coder" "B") ∈ wT := wT_t (List.mem_append_right _ (List.mem_append_right _ (List.mem_append_right _ (List.mem_append_right _ (List.mem_of_getElem? (i := 112) rfl))))) rfl
theorem yv_2 : (Cond.fieldLink "java/lang/String" 9 "java/lang/String" "value" "[B") ∈ wT := wT_t (List.mem_append_right _ (List.mem_append_right _ (List.mem_append_right _ (List.mem_append_right _ (List.mem_of_getElem? (i := 111) rfl))))) rfl
theorem yv_3 : (Cond.code xy_JS_coder xb_JS_coder 1 (some .byte)) ∈ wT := wT_t (List.mem_append_left _ (List.mem_of_getElem? (i := 207) rfl)) rfl
theorem yv_4 : (Cond.methodLink "java/lang/String" 335 xy_JS_coder) ∈ wT := wT_t (List.mem_append_left _ (List.mem_of_getElem? (i := 204) rfl)) rfl
theorem yv_5 : (Cond.instanceMethod xy_JS_coder) ∈ wT := wT_t (List.mem_append_left _ (List.mem_of_getElem? (i := 205) rfl)) rfl
theorem yv_6 : (Cond.selects "java/lang/String" xy_JS_coder xy_JS_coder) ∈ wT := wT_t (List.mem_append_left _ (List.mem_of_getElem? (i := 206) rfl)) rfl
theorem yv_7 : (Cond.initialized "java/lang/String") ∈ wT := wT_t (List.mem_append_left _ (List.mem_of_getElem? (i := 6) rfl)) rfl
theorem yv_8 : (Cond.fieldLink "java/lang/String" 1053 "jdk/internal/util/Preconditions" "SIOOBE_FORMATTER" "Ljava/util/function/BiFunction;") ∈ wT := wT_t (List.mem_append_left _ (List.mem_of_getElem? (i := 224) rfl)) rfl
theorem yv_9 : (Cond.code xy_JP_checkIndex xb_JP_checkIndex 3 (some .int)) ∈ wT := wT_t (List.mem_append_left _ (List.mem_of_getElem? (i := 228) rfl)) rfl
theorem yv_10 : (Cond.methodLink "java/lang/String" 1059 xy_JP_checkIndex) ∈ wT := wT_t (List.mem_append_left _ (List.mem_of_getElem? (i := 226) rfl)) rfl
theorem yv_11 : (Cond.static xy_JP_checkIndex) ∈ wT := wT_t (List.mem_append_left _ (List.mem_of_getElem? (i := 227) rfl)) rfl
theorem yv_12 : (Cond.initialized "jdk/internal/util/Preconditions") ∈ wT := wT_t (List.mem_append_left _ (List.mem_of_getElem? (i := 8) rfl)) rfl
theorem yv_13 : (Cond.code xy_JS_checkIndex xb_JS_checkIndex 2 none) ∈ wT := wT_t (List.mem_append_left _ (List.mem_of_getElem? (i := 223) rfl)) rfl
theorem yv_14 : (Cond.methodLink "java/lang/StringLatin1" 9 xy_JS_checkIndex) ∈ wT := wT_t (List.mem_append_left _ (List.mem_of_getElem? (i := 221) rfl)) rfl
theorem yv_15 : (Cond.static xy_JS_checkIndex) ∈ wT := wT_t (List.mem_append_left _ (List.mem_of_getElem? (i := 222) rfl)) rfl
theorem yv_16 : (Cond.code xy_JS_isLatin1 xb_JS_isLatin1 1 (some .boolean)) ∈ wT := wT_t (List.mem_append_left _ (List.mem_of_getElem? (i := 217) rfl)) rfl
theorem yv_17 : (Cond.methodLink "java/lang/String" 492 xy_JS_isLatin1) ∈ wT := wT_t (List.mem_append_left _ (List.mem_of_getElem? (i := 214) rfl)) rfl
theorem yv_18 : (Cond.instanceMethod xy_JS_isLatin1) ∈ wT := wT_t (List.mem_append_left _ (List.mem_of_getElem? (i := 215) rfl)) rfl
theorem yv_19 : (Cond.selects "java/lang/String" xy_JS_isLatin1 xy_JS_isLatin1) ∈ wT := wT_t (List.mem_append_left _ (List.mem_of_getElem? (i := 216) rfl)) rfl
theorem yv_20 : (Cond.code xy_JL_charAt xb_JL_charAt 2 (some .char)) ∈ wT := wT_t (List.mem_append_left _ (List.mem_of_getElem? (i := 220) rfl)) rfl
theorem yv_21 : (Cond.methodLink "java/lang/String" 495 xy_JL_charAt) ∈ wT := wT_t (List.mem_append_left _ (List.mem_of_getElem? (i := 218) rfl)) rfl
theorem yv_22 : (Cond.static xy_JL_charAt) ∈ wT := wT_t (List.mem_append_left _ (List.mem_of_getElem? (i := 219) rfl)) rfl
theorem yv_23 : (Cond.initialized "java/lang/StringLatin1") ∈ wT := wT_t (List.mem_append_left _ (List.mem_of_getElem? (i := 7) rfl)) rfl
set_option maxHeartbeats 4000000 in
set_option maxRecDepth 100000 in
theorem xc_JS_coder (l : Launch) (D : va_G) (kA : Nat → ClassId) (sz : Nat) (ad : Nat → Nat → Nat) (E : Nat → Nat → va_E) (RL : List (Nat × Nat)) (Z : zT) (si : Nat) (hsi : si < 12) : Met l xy_JS_coder (.code xy_JS_coder xb_JS_coder 1 (some .byte) :: wT) { frames := 0, cells := 0, slots := 0, locals := 0 } (va_Pc [.ref (Z.1 si)] (xPreZ D kA sz (rp ad E RL) Z)) (va_Qi (fun (r : Int32) (u : Unit) => r = 0) (fun (u : Unit) t => va_P D xcl (rp ad E RL) t.heap ∧ va_D (va_A (rp ad E RL) sz) (rp ad E RL)) (va_A (rp ad E RL) sz)) 0 0 (va_A (rp ad E RL) sz) := by
  refine Met.ofW (cc := xb_JS_coder) (maxL := 1) (ret := (some .byte)) (by decide) rfl ?_
  intro p e s m args below meth c s₁ B hml hv
  obtain ⟨rfl, ⟨hsz, hP, hK, hD0⟩, hZ⟩ := hv
  have hx := B.exec
  have hb := B.bytes
  have hr := B.returns
  have hT := x_hT B.pre
  have hown : s.vm.findClass xR_JS = some m.cls := findClass_of_methodNamed B.named
  have hlocks := B.notSynchronized
  subst hsz
  have hD := hD0.self (sz := s.heap.size)
  generalize hAe : va_A (rp ad E RL) s.heap.size = A at hD hZ ⊢
  have hA : ∀ q : Nat, s.heap.size ≤ q → A q := fun q h => by rw [← hAe]; exact Or.inr h
  have hS : va_S A s.heap s.heap [] := va_S.rf
  have hl := lv_entry ([.ref (Z.1 si)]) (n := 1) (Nat.le_of_ble_eq_true rfl)
  rw [lg_entry_eq]
  generalize (lg_sl ([.ref (Z.1 si)]) ++ List.replicate (1 - (lg_sl ([.ref (Z.1 si)])).length) Slot.unset).toArray = ls at hl ⊢
  have hl : lv_has ls 1 [(0, .ref (Z.1 si))] := hl
  have hP : va_P D xcl (rp ad E RL) s.heap := hP
  refine va_gets (C := "java/lang/String") (n := "COMPACT_STRINGS") (d := "Z") (ref := "java/lang/String") hx hb hZ.2.2.1.1 hS hown (hT _ yv_0) (fun _ h9 => h9) xd_JS_coder_0 ?_
  refine lv_if_eq (tgt := 13) hx hb xd_JS_coder_3 (by decide) (fun hc1 => absurd hc1 (by decide)) (fun _ => ?_)
  refine lv_aload_n hx hb xd_JS_coder_6 rfl (lv_at hl 0 rfl) ?_
  refine vk_getf (o := "java/lang/String") (n := "coder") (d := "B") (ref := "java/lang/String") hx hb (hZ.2.1.1 si hsi).2.1 hS hown (hT _ yv_1) (fun _ h9 => h9) xd_JS_coder_7 ?_
  refine lv_goto (tgt := 14) hx hb xd_JS_coder_10 (by decide) ?_
  exact W.zret (v := 0) hx hb hr rfl (fun t ht hW => ⟨⟨0, (), rfl, rfl, by rw [ht]; exact hP, hD⟩, hS.F ht⟩) hS.2.2 xd_JS_coder_14
set_option maxHeartbeats 4000000 in
set_option maxRecDepth 100000 in
theorem xc_JS_isLatin1 (l : Launch) (D : va_G) (kA : Nat → ClassId) (sz : Nat) (ad : Nat → Nat → Nat) (E : Nat → Nat → va_E) (RL : List (Nat × Nat)) (Z : zT) (si : Nat) (hsi : si < 12) : Met l xy_JS_isLatin1 (.code xy_JS_isLatin1 xb_JS_isLatin1 1 (some .boolean) :: wT) { frames := 0, cells := 0, slots := 0, locals := 0 } (va_Pc [.ref (Z.1 si)] (xPreZ D kA sz (rp ad E RL) Z)) (va_Qi (fun (r : Int32) (u : Unit) => r = 1) (fun (u : Unit) t => va_P D xcl (rp ad E RL) t.heap ∧ va_D (va_A (rp ad E RL) sz) (rp ad E RL)) (va_A (rp ad E RL) sz)) 0 0 (va_A (rp ad E RL) sz) := by
  refine Met.ofW (cc := xb_JS_isLatin1) (maxL := 1) (ret := (some .boolean)) (by decide) rfl ?_
  intro p e s m args below meth c s₁ B hml hv
  obtain ⟨rfl, ⟨hsz, hP, hK, hD0⟩, hZ⟩ := hv
  have hx := B.exec
  have hb := B.bytes
  have hr := B.returns
  have hT := x_hT B.pre
  have hown : s.vm.findClass xR_JS = some m.cls := findClass_of_methodNamed B.named
  have hlocks := B.notSynchronized
  subst hsz
  have hD := hD0.self (sz := s.heap.size)
  generalize hAe : va_A (rp ad E RL) s.heap.size = A at hD hZ ⊢
  have hA : ∀ q : Nat, s.heap.size ≤ q → A q := fun q h => by rw [← hAe]; exact Or.inr h
  have hS : va_S A s.heap s.heap [] := va_S.rf
  have hl := lv_entry ([.ref (Z.1 si)]) (n := 1) (Nat.le_of_ble_eq_true rfl)
  rw [lg_entry_eq]
  generalize (lg_sl ([.ref (Z.1 si)]) ++ List.replicate (1 - (lg_sl ([.ref (Z.1 si)])).length) Slot.unset).toArray = ls at hl ⊢
  have hl : lv_has ls 1 [(0, .ref (Z.1 si))] := hl
  have hP : va_P D xcl (rp ad E RL) s.heap := hP
  refine va_gets (C := "java/lang/String") (n := "COMPACT_STRINGS") (d := "Z") (ref := "java/lang/String") hx hb hZ.2.2.1.1 hS hown (hT _ yv_0) (fun _ h9 => h9) xd_JS_isLatin1_0 ?_
  refine lv_if_eq (tgt := 17) hx hb xd_JS_isLatin1_3 (by decide) (fun hc1 => absurd hc1 (by decide)) (fun _ => ?_)
  refine lv_aload_n hx hb xd_JS_isLatin1_6 rfl (lv_at hl 0 rfl) ?_
  refine vk_getf (o := "java/lang/String") (n := "coder") (d := "B") (ref := "java/lang/String") hx hb (hZ.2.1.1 si hsi).2.1 hS hown (hT _ yv_1) (fun _ h9 => h9) xd_JS_isLatin1_7 ?_
  refine lv_if_ne (tgt := 17) hx hb xd_JS_isLatin1_10 (by decide) (fun hc2 => absurd (by decide) hc2) (fun _ => ?_)
  refine lv_iconst (v := 1) hx hb xd_JS_isLatin1_13 (by decide) ?_
  refine lv_goto (tgt := 18) hx hb xd_JS_isLatin1_14 (by decide) ?_
  exact W.zret (v := 1) hx hb hr rfl (fun t ht hW => ⟨⟨1, (), rfl, rfl, by rw [ht]; exact hP, hD⟩, hS.F ht⟩) hS.2.2 xd_JS_isLatin1_18
set_option maxHeartbeats 4000000 in
set_option maxRecDepth 100000 in
theorem xc_JS_length (l : Launch) (D : va_G) (kA : Nat → ClassId) (sz : Nat) (ad : Nat → Nat → Nat) (E : Nat → Nat → va_E) (RL : List (Nat × Nat)) (Z : zT) (si : Nat) (hsi : si < 12) : Met l xy_JS_length (.code xy_JS_length xb_JS_length 1 (some .int) :: wT) { frames := 1, cells := 0, slots := 0, locals := 20 } (va_Pc [.ref (Z.1 si)] (xPreZ D kA sz (rp ad E RL) Z)) (va_Qi (fun (r : Int32) (u : Unit) => r = nI (zL.getD si 0)) (fun (u : Unit) t => va_P D xcl (rp ad E RL) t.heap ∧ va_D (va_A (rp ad E RL) sz) (rp ad E RL)) (va_A (rp ad E RL) sz)) 0 0 (va_A (rp ad E RL) sz) := by
  refine Met.ofW (cc := xb_JS_length) (maxL := 1) (ret := (some .int)) (by decide) rfl ?_
  intro p e s m args below meth c s₁ B hml hv
  obtain ⟨rfl, ⟨hsz, hP, hK, hD0⟩, hZ⟩ := hv
  have hx := B.exec
  have hb := B.bytes
  have hr := B.returns
  have hT := x_hT B.pre
  have hown : s.vm.findClass xR_JS = some m.cls := findClass_of_methodNamed B.named
  have hlocks := B.notSynchronized
  subst hsz
  have hD := hD0.self (sz := s.heap.size)
  generalize hAe : va_A (rp ad E RL) s.heap.size = A at hD hZ ⊢
  have hA : ∀ q : Nat, s.heap.size ≤ q → A q := fun q h => by rw [← hAe]; exact Or.inr h
  have hS : va_S A s.heap s.heap [] := va_S.rf
  have hl := lv_entry ([.ref (Z.1 si)]) (n := 1) (Nat.le_of_ble_eq_true rfl)
  rw [lg_entry_eq]
  generalize (lg_sl ([.ref (Z.1 si)]) ++ List.replicate (1 - (lg_sl ([.ref (Z.1 si)])).length) Slot.unset).toArray = ls at hl ⊢
  have hl : lv_has ls 1 [(0, .ref (Z.1 si))] := hl
  have hP : va_P D xcl (rp ad E RL) s.heap := hP
  refine lv_aload_n hx hb xd_JS_length_0 rfl (lv_at hl 0 rfl) ?_
  refine vk_getf (o := "java/lang/String") (n := "value") (d := "[B") (ref := "java/lang/String") hx hb (hZ.2.1.1 si hsi).2.2.1 hS hown (hT _ yv_2) (fun _ h9 => h9) xd_JS_length_1 ?_
  refine va_tlen (v := nI (zL.getD si 0)) hx hb (hZ.2.1.1 si hsi).2.2.2 hS rfl xd_JS_length_4 ?_
  refine lv_aload_n hx hb xd_JS_length_5 rfl (lv_at hl 0 rfl) ?_
  have hFc := px_free hD hS hA
  refine va_calli (va_runV (As := []) (rest := [.int (nI ((zL.getD si 0)))]) ⟨hx, hb, hml, hown, hT⟩ (xc_JS_coder l D kA s.heap.size ad E RL Z si (by first | assumption | omega)) (cwV 0 hT (wT_V yv_4 yv_5 yv_6 yv_7 yv_3) rfl rfl rfl (by decide +kernel) ⟨Nat.le_of_ble_eq_true rfl, Nat.le_of_ble_eq_true rfl⟩) (x_preTZ (vk_recv hZ.2.1 hsi hS) hK hP hD hFc (hZ.kept hS)) rfl rfl hl.1 rfl (lv_room (Nat.le_of_ble_eq_true rfl)) xd_JS_length_6 ⟨(Nat.le_of_ble_eq_true rfl), (Nat.le_of_ble_eq_true rfl)⟩) hS (fun q _ h => hFc q h) hFc (fun r1 u2 t H1 locs ht hvm hp3 hB hz1 hk1 hS => ?_)
  obtain ⟨hP1, hD1⟩ := hB
  rw [ht] at hP1
  have hD1 := hD1.weaken (fun _ _ _ h => hFc _ h)
  generalize H1 = H at hP1 hS ⊢
  have hP := hP1
  have hD := hD1
  have hP : va_P D xcl (rp ad E RL) H := hP
  have hD : va_D A (rp ad E RL) := hD
  rcases hp3 with rfl
  · refine W.eq (g2 := F0 m 9 ls [.int 0, .int (nI ((zL.getD si 0)))]) rfl ?_
    refine lv_ishr hx hb xd_JS_length_9 ?_
    refine xn_top (y := nI (zL.getD si 0)) (sc_shr0 (by have := z_len si hsi; omega)) ?_
    exact W.iret (v := (nI ((zL.getD si 0)))) hx hb hr (fun t ht hW => ⟨⟨(nI ((zL.getD si 0))), (), rfl, rfl, by rw [ht]; exact hP, hD⟩, hS.F ht⟩) hS.2.2 xd_JS_length_10
set_option maxHeartbeats 4000000 in
set_option maxRecDepth 100000 in
theorem xc_JP_ckN (l : Launch) (D : va_G) (kA : Nat → ClassId) (sz : Nat) (ad : Nat → Nat → Nat) (E : Nat → Nat → va_E) (RL : List (Nat × Nat)) (k : Nat) (n : Nat) (hkn : k < n) (hn9 : n ≤ 100) : Met l xy_JP_checkIndex (.code xy_JP_checkIndex xb_JP_checkIndex 3 (some .int) :: wT) { frames := 0, cells := 0, slots := 0, locals := 0 } (va_Pc [.int (nI k), .int (nI n), .null] (xPre D kA sz (rp ad E RL))) (va_Qi (fun (r : Int32) (u : Unit) => True) (fun (u : Unit) t => va_P D xcl (rp ad E RL) t.heap ∧ va_D (va_A (rp ad E RL) sz) (rp ad E RL)) (va_A (rp ad E RL) sz)) 0 0 (va_A (rp ad E RL) sz) := by
  refine Met.ofW (cc := xb_JP_checkIndex) (maxL := 3) (ret := (some .int)) (by decide) rfl ?_
  intro p e s m args below meth c s₁ B hml hv
  obtain ⟨rfl, hsz, hP, hK, hD0⟩ := hv
  have hx := B.exec
  have hb := B.bytes
  have hr := B.returns
  have hT := x_hT B.pre
  have hown : s.vm.findClass xR_JP = some m.cls := findClass_of_methodNamed B.named
  have hlocks := B.notSynchronized
  subst hsz
  have hD := hD0.self (sz := s.heap.size)
  generalize hAe : va_A (rp ad E RL) s.heap.size = A at hD ⊢
  have hA : ∀ q : Nat, s.heap.size ≤ q → A q := fun q h => by rw [← hAe]; exact Or.inr h
  have hS : va_S A s.heap s.heap [] := va_S.rf
  have hl := lv_entry ([.int (nI k), .int (nI n), .null]) (n := 3) (Nat.le_of_ble_eq_true rfl)
  rw [lg_entry_eq]
  generalize (lg_sl ([.int (nI k), .int (nI n), .null]) ++ List.replicate (3 - (lg_sl ([.int (nI k), .int (nI n), .null])).length) Slot.unset).toArray = ls at hl ⊢
  have hl : lv_has ls 3 [(0, .int (nI k)), (1, .int (nI n)), (2, .null)] := hl
  have hP : va_P D xcl (rp ad E RL) s.heap := hP
  refine lv_iload_n hx hb xd_JP_checkIndex_0 rfl (lv_at hl 0 rfl) ?_
  refine xz_lt (a := k) (tgt := 9) hx hb xd_JP_checkIndex_1 (by decide) (by omega) ?_
  refine lv_iload_n hx hb xd_JP_checkIndex_4 rfl (lv_at hl 0 rfl) ?_
  refine lv_iload_n hx hb xd_JP_checkIndex_5 rfl (lv_at hl 1 rfl) ?_
  refine xn_lt (a := k) (b := n) (tgt := 16) hx hb xd_JP_checkIndex_6 (by decide) (by omega) (by omega) (fun _ => ?_) (fun hc2 => absurd hc2 (by omega))
  refine lv_iload_n hx hb xd_JP_checkIndex_16 rfl (lv_at hl 0 rfl) ?_
  exact W.iret (v := (nI k)) hx hb hr (fun t ht hW => ⟨⟨(nI k), (), rfl, trivial, by rw [ht]; exact hP, hD⟩, hS.F ht⟩) hS.2.2 xd_JP_checkIndex_17
set_option maxHeartbeats 4000000 in
set_option maxRecDepth 100000 in
theorem xc_JP_ckR (l : Launch) (D : va_G) (kA : Nat → ClassId) (sz : Nat) (ad : Nat → Nat → Nat) (E : Nat → Nat → va_E) (RL : List (Nat × Nat)) (k : Nat) (n : Nat) (pa : Nat) (hkn : k < n) (hn9 : n ≤ 100) : Met l xy_JP_checkIndex (.code xy_JP_checkIndex xb_JP_checkIndex 3 (some .int) :: wT) { frames := 0, cells := 0, slots := 0, locals := 0 } (va_Pc [.int (nI k), .int (nI n), .ref pa] (xPre D kA sz (rp ad E RL))) (va_Qi (fun (r : Int32) (u : Unit) => True) (fun (u : Unit) t => va_P D xcl (rp ad E RL) t.heap ∧ va_D (va_A (rp ad E RL) sz) (rp ad E RL)) (va_A (rp ad E RL) sz)) 0 0 (va_A (rp ad E RL) sz) := by
  refine Met.ofW (cc := xb_JP_checkIndex) (maxL := 3) (ret := (some .int)) (by decide) rfl ?_
  intro p e s m args below meth c s₁ B hml hv
  obtain ⟨rfl, hsz, hP, hK, hD0⟩ := hv
  have hx := B.exec
  have hb := B.bytes
  have hr := B.returns
  have hT := x_hT B.pre
  have hown : s.vm.findClass xR_JP = some m.cls := findClass_of_methodNamed B.named
  have hlocks := B.notSynchronized
  subst hsz
  have hD := hD0.self (sz := s.heap.size)
  generalize hAe : va_A (rp ad E RL) s.heap.size = A at hD ⊢
  have hA : ∀ q : Nat, s.heap.size ≤ q → A q := fun q h => by rw [← hAe]; exact Or.inr h
  have hS : va_S A s.heap s.heap [] := va_S.rf
  have hl := lv_entry ([.int (nI k), .int (nI n), .ref pa]) (n := 3) (Nat.le_of_ble_eq_true rfl)
  rw [lg_entry_eq]
  generalize (lg_sl ([.int (nI k), .int (nI n), .ref pa]) ++ List.replicate (3 - (lg_sl ([.int (nI k), .int (nI n), .ref pa])).length) Slot.unset).toArray = ls at hl ⊢
  have hl : lv_has ls 3 [(0, .int (nI k)), (1, .int (nI n)), (2, .ref pa)] := hl
  have hP : va_P D xcl (rp ad E RL) s.heap := hP
  refine lv_iload_n hx hb xd_JP_checkIndex_0 rfl (lv_at hl 0 rfl) ?_
  refine xz_lt (a := k) (tgt := 9) hx hb xd_JP_checkIndex_1 (by decide) (by omega) ?_
  refine lv_iload_n hx hb xd_JP_checkIndex_4 rfl (lv_at hl 0 rfl) ?_
  refine lv_iload_n hx hb xd_JP_checkIndex_5 rfl (lv_at hl 1 rfl) ?_
  refine xn_lt (a := k) (b := n) (tgt := 16) hx hb xd_JP_checkIndex_6 (by decide) (by omega) (by omega) (fun _ => ?_) (fun hc2 => absurd hc2 (by omega))
  refine lv_iload_n hx hb xd_JP_checkIndex_16 rfl (lv_at hl 0 rfl) ?_
  exact W.iret (v := (nI k)) hx hb hr (fun t ht hW => ⟨⟨(nI k), (), rfl, trivial, by rw [ht]; exact hP, hD⟩, hS.F ht⟩) hS.2.2 xd_JP_checkIndex_17
set_option maxHeartbeats 4000000 in
set_option maxRecDepth 100000 in
theorem xc_JS_checkIndex (l : Launch) (D : va_G) (kA : Nat → ClassId) (sz : Nat) (ad : Nat → Nat → Nat) (E : Nat → Nat → va_E) (RL : List (Nat × Nat)) (Z : zT) (k : Nat) (n : Nat) (hkn : k < n) (hn9 : n ≤ 100) : Met l xy_JS_checkIndex (.code xy_JS_checkIndex xb_JS_checkIndex 2 none :: wT) { frames := 1, cells := 0, slots := 0, locals := 22 } (va_Pc [.int (nI k), .int (nI n)] (xPreZ D kA sz (rp ad E RL) Z)) (va_Qv (fun (u : Unit) => True) (fun (u : Unit) t => va_P D xcl (rp ad E RL) t.heap ∧ va_D (va_A (rp ad E RL) sz) (rp ad E RL)) (va_A (rp ad E RL) sz)) 0 0 (va_A (rp ad E RL) sz) := by
  refine Met.ofW (cc := xb_JS_checkIndex) (maxL := 2) (ret := none) (by decide) rfl ?_
  intro p e s m args below meth c s₁ B hml hv
  obtain ⟨rfl, ⟨hsz, hP, hK, hD0⟩, hZ⟩ := hv
  have hx := B.exec
  have hb := B.bytes
  have hr := B.returns
  have hT := x_hT B.pre
  have hown : s.vm.findClass xR_JS = some m.cls := findClass_of_methodNamed B.named
  have hlocks := B.notSynchronized
  subst hsz
  have hD := hD0.self (sz := s.heap.size)
  generalize hAe : va_A (rp ad E RL) s.heap.size = A at hD hZ ⊢
  have hA : ∀ q : Nat, s.heap.size ≤ q → A q := fun q h => by rw [← hAe]; exact Or.inr h
  have hS : va_S A s.heap s.heap [] := va_S.rf
  have hl := lv_entry ([.int (nI k), .int (nI n)]) (n := 2) (Nat.le_of_ble_eq_true rfl)
  rw [lg_entry_eq]
  generalize (lg_sl ([.int (nI k), .int (nI n)]) ++ List.replicate (2 - (lg_sl ([.int (nI k), .int (nI n)])).length) Slot.unset).toArray = ls at hl ⊢
  have hl : lv_has ls 2 [(0, .int (nI k)), (1, .int (nI n))] := hl
  have hP : va_P D xcl (rp ad E RL) s.heap := hP
  refine lv_iload_n hx hb xd_JS_checkIndex_0 rfl (lv_at hl 0 rfl) ?_
  refine lv_iload_n hx hb xd_JS_checkIndex_1 rfl (lv_at hl 1 rfl) ?_
  rcases hZ.2.2.1.2.1 with hz8 | ⟨t8, hz8⟩
  · refine va_gets (C := "jdk/internal/util/Preconditions") (n := "SIOOBE_FORMATTER") (d := "Ljava/util/function/BiFunction;") (ref := "jdk/internal/util/Preconditions") hx hb hz8 hS hown (hT _ yv_8) (fun _ h9 => h9) xd_JS_checkIndex_2 ?_
    have hFc := px_free hD hS hA
    refine va_calli (va_runS (As := [.int (nI k), .int (nI n), .null]) (rest := []) ⟨hx, hb, hml, hown, hT⟩ (xc_JP_ckN l D kA s.heap.size ad E RL k n (by first | assumption | omega) (by first | assumption | omega)) (va_cwS 3 hT (wT_S yv_10 yv_11 yv_12 yv_9) rfl rfl rfl (by decide +kernel) ⟨Nat.le_of_ble_eq_true rfl, Nat.le_of_ble_eq_true rfl⟩) (x_preS hK hP hD) rfl rfl hl.1 rfl (lv_room (Nat.le_of_ble_eq_true rfl)) xd_JS_checkIndex_5 ⟨(Nat.le_of_ble_eq_true rfl), (Nat.le_of_ble_eq_true rfl)⟩) hS (fun q _ h => hFc q h) hFc (fun r1 u2 t H1 locs ht hvm hp3 hB hz1 hk1 hS => ?_)
    obtain ⟨hP1, hD1⟩ := hB
    rw [ht] at hP1
    have hD1 := hD1.weaken (fun _ _ _ h => hFc _ h)
    generalize H1 = H at hP1 hS ⊢
    have hP := hP1
    have hD := hD1
    have hP : va_P D xcl (rp ad E RL) H := hP
    have hD : va_D A (rp ad E RL) := hD
    refine lv_pop hx hb xd_JS_checkIndex_8 rfl ?_
    exact W.vret hx hb hr (fun t ht hW => ⟨⟨(), rfl, trivial, by rw [ht]; exact hP, hD⟩, hS.F ht⟩) hS.2.2 xd_JS_checkIndex_9
  · refine va_gets (C := "jdk/internal/util/Preconditions") (n := "SIOOBE_FORMATTER") (d := "Ljava/util/function/BiFunction;") (ref := "jdk/internal/util/Preconditions") hx hb hz8 hS hown (hT _ yv_8) (fun _ h9 => h9) xd_JS_checkIndex_2 ?_
    have hFc := px_free hD hS hA
    refine va_calli (va_runS (As := [.int (nI k), .int (nI n), .ref t8]) (rest := []) ⟨hx, hb, hml, hown, hT⟩ (xc_JP_ckR l D kA s.heap.size ad E RL k n t8 (by first | assumption | omega) (by first | assumption | omega)) (va_cwS 3 hT (wT_S yv_10 yv_11 yv_12 yv_9) rfl rfl rfl (by decide +kernel) ⟨Nat.le_of_ble_eq_true rfl, Nat.le_of_ble_eq_true rfl⟩) (x_preS hK hP hD) rfl rfl hl.1 rfl (lv_room (Nat.le_of_ble_eq_true rfl)) xd_JS_checkIndex_5 ⟨(Nat.le_of_ble_eq_true rfl), (Nat.le_of_ble_eq_true rfl)⟩) hS (fun q _ h => hFc q h) hFc (fun r4 u5 t H1 locs ht hvm hp6 hB hz1 hk1 hS => ?_)
    obtain ⟨hP1, hD1⟩ := hB
    rw [ht] at hP1
    have hD1 := hD1.weaken (fun _ _ _ h => hFc _ h)
    generalize H1 = H at hP1 hS ⊢
    have hP := hP1
    have hD := hD1
    have hP : va_P D xcl (rp ad E RL) H := hP
    have hD : va_D A (rp ad E RL) := hD
    refine lv_pop hx hb xd_JS_checkIndex_8 rfl ?_
    exact W.vret hx hb hr (fun t ht hW => ⟨⟨(), rfl, trivial, by rw [ht]; exact hP, hD⟩, hS.F ht⟩) hS.2.2 xd_JS_checkIndex_9
set_option maxHeartbeats 4000000 in
set_option maxRecDepth 100000 in
theorem xc_JL_charAt (l : Launch) (D : va_G) (kA : Nat → ClassId) (sz : Nat) (ad : Nat → Nat → Nat) (E : Nat → Nat → va_E) (RL : List (Nat × Nat)) (Z : zT) (si : Nat) (k : Nat) (hsi : si < 12) (hk : k < zL.getD si 0) : Met l xy_JL_charAt (.code xy_JL_charAt xb_JL_charAt 2 (some .char) :: wT) { frames := 2, cells := 0, slots := 0, locals := 43 } (va_Pc [.ref (Z.2.1 si), .int (nI k)] (xPreZ D kA sz (rp ad E RL) Z)) (va_Qi (fun (r : Int32) (u : Unit) => ∃ b : Int32, r = b &&& 255) (fun (u : Unit) t => va_P D xcl (rp ad E RL) t.heap ∧ va_D (va_A (rp ad E RL) sz) (rp ad E RL)) (va_A (rp ad E RL) sz)) 0 0 (va_A (rp ad E RL) sz) := by
  refine Met.ofW (cc := xb_JL_charAt) (maxL := 2) (ret := (some .char)) (by decide) rfl ?_
  intro p e s m args below meth c s₁ B hml hv
  obtain ⟨rfl, ⟨hsz, hP, hK, hD0⟩, hZ⟩ := hv
  have hx := B.exec
  have hb := B.bytes
  have hr := B.returns
  have hT := x_hT B.pre
  have hown : s.vm.findClass xR_JL = some m.cls := findClass_of_methodNamed B.named
  have hlocks := B.notSynchronized
  subst hsz
  have hD := hD0.self (sz := s.heap.size)
  generalize hAe : va_A (rp ad E RL) s.heap.size = A at hD hZ ⊢
  have hA : ∀ q : Nat, s.heap.size ≤ q → A q := fun q h => by rw [← hAe]; exact Or.inr h
  have hS : va_S A s.heap s.heap [] := va_S.rf
  have hl := lv_entry ([.ref (Z.2.1 si), .int (nI k)]) (n := 2) (Nat.le_of_ble_eq_true rfl)
  rw [lg_entry_eq]
  generalize (lg_sl ([.ref (Z.2.1 si), .int (nI k)]) ++ List.replicate (2 - (lg_sl ([.ref (Z.2.1 si), .int (nI k)])).length) Slot.unset).toArray = ls at hl ⊢
  have hl : lv_has ls 2 [(0, .ref (Z.2.1 si)), (1, .int (nI k))] := hl
  have hP : va_P D xcl (rp ad E RL) s.heap := hP
  have hz9 := z_len si hsi
  refine lv_iload_n hx hb xd_JL_charAt_0 rfl (lv_at hl 1 rfl) ?_
  refine lv_aload_n hx hb xd_JL_charAt_1 rfl (lv_at hl 0 rfl) ?_
  refine va_tlen (v := nI (zL.getD si 0)) hx hb (hZ.2.1.1 si hsi).2.2.2 hS rfl xd_JL_charAt_2 ?_
  have hFc := px_free hD hS hA
  refine va_callv (va_runS (As := [.int (nI k), .int (nI ((zL.getD si 0)))]) (rest := []) ⟨hx, hb, hml, hown, hT⟩ (xc_JS_checkIndex l D kA s.heap.size ad E RL Z k (zL.getD si 0) (by first | assumption | omega) (by first | assumption | omega)) (va_cwS 2 hT (wT_S yv_14 yv_15 yv_7 yv_13) rfl rfl rfl (by decide +kernel) ⟨Nat.le_of_ble_eq_true rfl, Nat.le_of_ble_eq_true rfl⟩) (x_preSZ hK hP hD hFc (hZ.kept hS)) rfl rfl hl.1 rfl (lv_room (Nat.le_of_ble_eq_true rfl)) xd_JL_charAt_3 ⟨(Nat.le_of_ble_eq_true rfl), (Nat.le_of_ble_eq_true rfl)⟩) hS (fun q _ h => hFc q h) hFc (fun u2 t H1 locs ht hvm hp3 hB hz1 hk1 hS => ?_)
  obtain ⟨hP1, hD1⟩ := hB
  rw [ht] at hP1
  have hD1 := hD1.weaken (fun _ _ _ h => hFc _ h)
  generalize H1 = H at hP1 hS ⊢
  have hP := hP1
  have hD := hD1
  have hP : va_P D xcl (rp ad E RL) H := hP
  have hD : va_D A (rp ad E RL) := hD
  refine lv_aload_n hx hb xd_JL_charAt_6 rfl (lv_at hl 0 rfl) ?_
  refine lv_iload_n hx hb xd_JL_charAt_7 rfl (lv_at hl 1 rfl) ?_
  refine va_tb (i := nI k) (v := .int ((zB.getD si []).getD k 0)) hx hb (hZ.2.1.1 si hsi).2.2.2 hS (vp_in_nI (by omega) (by have := z_len si hsi; omega)) (by rw [nI_clamp (by have := z_len si hsi; omega)]) xd_JL_charAt_8 ?_
  refine lv_sipush (v := 255) hx hb xd_JL_charAt_9 (by decide) ?_
  refine lv_iand hx hb xd_JL_charAt_12 ?_
  refine lv_i2c (v := ((zB.getD si []).getD k 0 &&& 255)) hx hb xd_JL_charAt_13 (sc_c2 _) ?_
  exact W.zret (v := ((zB.getD si []).getD k 0 &&& 255)) hx hb hr (sc_nar _) (fun t ht hW => ⟨⟨((zB.getD si []).getD k 0 &&& 255), (), rfl, ⟨_, rfl⟩, by rw [ht]; exact hP, hD⟩, hS.F ht⟩) hS.2.2 xd_JL_charAt_14
set_option maxHeartbeats 4000000 in
set_option maxRecDepth 100000 in
theorem xc_JS_charAt (l : Launch) (D : va_G) (kA : Nat → ClassId) (sz : Nat) (ad : Nat → Nat → Nat) (E : Nat → Nat → va_E) (RL : List (Nat × Nat)) (Z : zT) (si : Nat) (k : Nat) (hsi : si < 12) (hk : k < zL.getD si 0) : Met l xy_JS_charAt (.code xy_JS_charAt xb_JS_charAt 2 (some .char) :: wT) { frames := 3, cells := 0, slots := 0, locals := 64 } (va_Pc [.ref (Z.1 si), .int (nI k)] (xPreZ D kA sz (rp ad E RL) Z)) (va_Qi (fun (r : Int32) (u : Unit) => True) (fun (u : Unit) t => va_P D xcl (rp ad E RL) t.heap ∧ va_D (va_A (rp ad E RL) sz) (rp ad E RL)) (va_A (rp ad E RL) sz)) 0 0 (va_A (rp ad E RL) sz) := by
  refine Met.ofW (cc := xb_JS_charAt) (maxL := 2) (ret := (some .char)) (by decide) rfl ?_
  intro p e s m args below meth c s₁ B hml hv
  obtain ⟨rfl, ⟨hsz, hP, hK, hD0⟩, hZ⟩ := hv
  have hx := B.exec
  have hb := B.bytes
  have hr := B.returns
  have hT := x_hT B.pre
  have hown : s.vm.findClass xR_JS = some m.cls := findClass_of_methodNamed B.named
  have hlocks := B.notSynchronized
  subst hsz
  have hD := hD0.self (sz := s.heap.size)
  generalize hAe : va_A (rp ad E RL) s.heap.size = A at hD hZ ⊢
  have hA : ∀ q : Nat, s.heap.size ≤ q → A q := fun q h => by rw [← hAe]; exact Or.inr h
  have hS : va_S A s.heap s.heap [] := va_S.rf
  have hl := lv_entry ([.ref (Z.1 si), .int (nI k)]) (n := 2) (Nat.le_of_ble_eq_true rfl)
  rw [lg_entry_eq]
  generalize (lg_sl ([.ref (Z.1 si), .int (nI k)]) ++ List.replicate (2 - (lg_sl ([.ref (Z.1 si), .int (nI k)])).length) Slot.unset).toArray = ls at hl ⊢
  have hl : lv_has ls 2 [(0, .ref (Z.1 si)), (1, .int (nI k))] := hl
  have hP : va_P D xcl (rp ad E RL) s.heap := hP
  refine lv_aload_n hx hb xd_JS_charAt_0 rfl (lv_at hl 0 rfl) ?_
  have hFc := px_free hD hS hA
  refine va_calli (va_runV (As := []) (rest := []) ⟨hx, hb, hml, hown, hT⟩ (xc_JS_isLatin1 l D kA s.heap.size ad E RL Z si (by first | assumption | omega)) (cwV 0 hT (wT_V yv_17 yv_18 yv_19 yv_7 yv_16) rfl rfl rfl (by decide +kernel) ⟨Nat.le_of_ble_eq_true rfl, Nat.le_of_ble_eq_true rfl⟩) (x_preTZ (vk_recv hZ.2.1 hsi hS) hK hP hD hFc (hZ.kept hS)) rfl rfl hl.1 rfl (lv_room (Nat.le_of_ble_eq_true rfl)) xd_JS_charAt_1 ⟨(Nat.le_of_ble_eq_true rfl), (Nat.le_of_ble_eq_true rfl)⟩) hS (fun q _ h => hFc q h) hFc (fun r1 u2 t H1 locs ht hvm hp3 hB hz1 hk1 hS => ?_)
  obtain ⟨hP1, hD1⟩ := hB
  rw [ht] at hP1
  have hD1 := hD1.weaken (fun _ _ _ h => hFc _ h)
  generalize H1 = H at hP1 hS ⊢
  have hP := hP1
  have hD := hD1
  have hP : va_P D xcl (rp ad E RL) H := hP
  have hD : va_D A (rp ad E RL) := hD
  rcases hp3 with rfl
  · refine W.eq (g2 := F0 m 4 ls [.int 1]) rfl ?_
    refine lv_if_eq (tgt := 16) hx hb xd_JS_charAt_4 (by decide) (fun hc4 => absurd hc4 (by decide)) (fun _ => ?_)
    refine lv_aload_n hx hb xd_JS_charAt_7 rfl (lv_at hl 0 rfl) ?_
    refine vk_getf (o := "java/lang/String") (n := "value") (d := "[B") (ref := "java/lang/String") hx hb (hZ.2.1.1 si hsi).2.2.1 hS hown (hT _ yv_2) (fun _ h9 => h9) xd_JS_charAt_8 ?_
    refine lv_iload_n hx hb xd_JS_charAt_11 rfl (lv_at hl 1 rfl) ?_
    have hFc := px_free hD hS hA
    refine va_calli (va_runS (As := [.ref (Z.2.1 si), .int (nI k)]) (rest := []) ⟨hx, hb, hml, hown, hT⟩ (xc_JL_charAt l D kA H.size ad E RL Z si k (by first | assumption | omega) (by first | assumption | omega)) (va_cwS 2 hT (wT_S yv_21 yv_22 yv_23 yv_20) rfl rfl rfl (by decide +kernel) ⟨Nat.le_of_ble_eq_true rfl, Nat.le_of_ble_eq_true rfl⟩) (x_preSZ hK hP hD hFc (hZ.kept hS)) rfl rfl hl.1 rfl (lv_room (Nat.le_of_ble_eq_true rfl)) xd_JS_charAt_12 ⟨(Nat.le_of_ble_eq_true rfl), (Nat.le_of_ble_eq_true rfl)⟩) hS (fun q _ h => hFc q h) hFc (fun r5 u6 t H1 locs ht hvm hp7 hB hz1 hk1 hS => ?_)
    obtain ⟨hP1, hD1⟩ := hB
    rw [ht] at hP1
    have hD1 := hD1.weaken (fun _ _ _ h => hFc _ h)
    generalize H1 = H at hP1 hS ⊢
    have hP := hP1
    have hD := hD1
    have hP : va_P D xcl (rp ad E RL) H := hP
    have hD : va_D A (rp ad E RL) := hD
    obtain ⟨b8, hb8⟩ := hp7
    exact W.zret (v := r5) hx hb hr (by rw [hb8]; exact sc_nar _) (fun t ht hW => ⟨⟨r5, (), rfl, trivial, by rw [ht]; exact hP, hD⟩, hS.F ht⟩) hS.2.2 xd_JS_charAt_15
