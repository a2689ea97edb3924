abbrev xb_Na_init : ByteArray := prog_8_method_1_code
def xy_Na_init : MethodName := ⟨"LayerDesk$Names", "<init>", "(I)V"⟩
abbrev xb_Gr_init : ByteArray := prog_4_method_1_code
def xy_Gr_init : MethodName := ⟨"LayerDesk$Grant", "<init>", "()V"⟩
abbrev xb_Ds_init : ByteArray := prog_3_method_1_code
def xy_Ds_init : MethodName := ⟨"LayerDesk$Descriptor", "<init>", "(III)V"⟩
theorem xd_Ds_init_0 : decode xb_Ds_init 0 = .ok (.aload_n 0, 1) := by decide +kernel
theorem xd_Ds_init_1 : decode xb_Ds_init 1 = .ok (.invokespecial 1, 3) := by decide +kernel
theorem xd_Ds_init_4 : decode xb_Ds_init 4 = .ok (.aload_n 0, 1) := by decide +kernel
theorem xd_Ds_init_5 : decode xb_Ds_init 5 = .ok (.new 7, 3) := by decide +kernel
theorem xd_Ds_init_8 : decode xb_Ds_init 8 = .ok (.dup, 1) := by decide +kernel
theorem xd_Ds_init_9 : decode xb_Ds_init 9 = .ok (.bipush 6, 2) := by decide +kernel
theorem xd_Ds_init_11 : decode xb_Ds_init 11 = .ok (.invokespecial 11, 3) := by decide +kernel
theorem xd_Ds_init_14 : decode xb_Ds_init 14 = .ok (.putfield 14, 3) := by decide +kernel
theorem xd_Ds_init_17 : decode xb_Ds_init 17 = .ok (.aload_n 0, 1) := by decide +kernel
theorem xd_Ds_init_18 : decode xb_Ds_init 18 = .ok (.bipush 6, 2) := by decide +kernel
theorem xd_Ds_init_20 : decode xb_Ds_init 20 = .ok (.anewarray 18, 3) := by decide +kernel
theorem xd_Ds_init_23 : decode xb_Ds_init 23 = .ok (.putfield 20, 3) := by decide +kernel
theorem xd_Ds_init_26 : decode xb_Ds_init 26 = .ok (.aload_n 0, 1) := by decide +kernel
theorem xd_Ds_init_27 : decode xb_Ds_init 27 = .ok (.bipush 6, 2) := by decide +kernel
theorem xd_Ds_init_29 : decode xb_Ds_init 29 = .ok (.anewarray 18, 3) := by decide +kernel
theorem xd_Ds_init_32 : decode xb_Ds_init 32 = .ok (.putfield 24, 3) := by decide +kernel
theorem xd_Ds_init_35 : decode xb_Ds_init 35 = .ok (.aload_n 0, 1) := by decide +kernel
theorem xd_Ds_init_36 : decode xb_Ds_init 36 = .ok (.new 7, 3) := by decide +kernel
theorem xd_Ds_init_39 : decode xb_Ds_init 39 = .ok (.dup, 1) := by decide +kernel
theorem xd_Ds_init_40 : decode xb_Ds_init 40 = .ok (.iconst 5, 1) := by decide +kernel
theorem xd_Ds_init_41 : decode xb_Ds_init 41 = .ok (.invokespecial 11, 3) := by decide +kernel
theorem xd_Ds_init_44 : decode xb_Ds_init 44 = .ok (.putfield 27, 3) := by decide +kernel
theorem xd_Ds_init_47 : decode xb_Ds_init 47 = .ok (.aload_n 0, 1) := by decide +kernel
theorem xd_Ds_init_48 : decode xb_Ds_init 48 = .ok (.iconst 5, 1) := by decide +kernel
theorem xd_Ds_init_49 : decode xb_Ds_init 49 = .ok (.newarray .boolean, 2) := by decide +kernel
theorem xd_Ds_init_51 : decode xb_Ds_init 51 = .ok (.putfield 30, 3) := by decide +kernel
theorem xd_Ds_init_54 : decode xb_Ds_init 54 = .ok (.aload_n 0, 1) := by decide +kernel
theorem xd_Ds_init_55 : decode xb_Ds_init 55 = .ok (.iconst 5, 1) := by decide +kernel
theorem xd_Ds_init_56 : decode xb_Ds_init 56 = .ok (.newarray .boolean, 2) := by decide +kernel
theorem xd_Ds_init_58 : decode xb_Ds_init 58 = .ok (.putfield 34, 3) := by decide +kernel
theorem xd_Ds_init_61 : decode xb_Ds_init 61 = .ok (.aload_n 0, 1) := by decide +kernel
theorem xd_Ds_init_62 : decode xb_Ds_init 62 = .ok (.new 7, 3) := by decide +kernel
theorem xd_Ds_init_65 : decode xb_Ds_init 65 = .ok (.dup, 1) := by decide +kernel
theorem xd_Ds_init_66 : decode xb_Ds_init 66 = .ok (.iconst 3, 1) := by decide +kernel
theorem xd_Ds_init_67 : decode xb_Ds_init 67 = .ok (.invokespecial 11, 3) := by decide +kernel
theorem xd_Ds_init_70 : decode xb_Ds_init 70 = .ok (.putfield 37, 3) := by decide +kernel
theorem xd_Ds_init_73 : decode xb_Ds_init 73 = .ok (.aload_n 0, 1) := by decide +kernel
theorem xd_Ds_init_74 : decode xb_Ds_init 74 = .ok (.new 7, 3) := by decide +kernel
theorem xd_Ds_init_77 : decode xb_Ds_init 77 = .ok (.dup, 1) := by decide +kernel
theorem xd_Ds_init_78 : decode xb_Ds_init 78 = .ok (.iconst 3, 1) := by decide +kernel
theorem xd_Ds_init_79 : decode xb_Ds_init 79 = .ok (.invokespecial 11, 3) := by decide +kernel
theorem xd_Ds_init_82 : decode xb_Ds_init 82 = .ok (.putfield 40, 3) := by decide +kernel
theorem xd_Ds_init_85 : decode xb_Ds_init 85 = .ok (.aload_n 0, 1) := by decide +kernel
theorem xd_Ds_init_86 : decode xb_Ds_init 86 = .ok (.iconst 0, 1) := by decide +kernel
theorem xd_Ds_init_87 : decode xb_Ds_init 87 = .ok (.putfield 43, 3) := by decide +kernel
theorem xd_Ds_init_90 : decode xb_Ds_init 90 = .ok (.aload_n 0, 1) := by decide +kernel
theorem xd_Ds_init_91 : decode xb_Ds_init 91 = .ok (.iload_n 1, 1) := by decide +kernel
theorem xd_Ds_init_92 : decode xb_Ds_init 92 = .ok (.putfield 47, 3) := by decide +kernel
theorem xd_Ds_init_95 : decode xb_Ds_init 95 = .ok (.aload_n 0, 1) := by decide +kernel
theorem xd_Ds_init_96 : decode xb_Ds_init 96 = .ok (.iload_n 2, 1) := by decide +kernel
theorem xd_Ds_init_97 : decode xb_Ds_init 97 = .ok (.putfield 51, 3) := by decide +kernel
theorem xd_Ds_init_100 : decode xb_Ds_init 100 = .ok (.aload_n 0, 1) := by decide +kernel
theorem xd_Ds_init_101 : decode xb_Ds_init 101 = .ok (.iload_n 3, 1) := by decide +kernel
theorem xd_Ds_init_102 : decode xb_Ds_init 102 = .ok (.putfield 54, 3) := by decide +kernel
theorem xd_Ds_init_105 : decode xb_Ds_init 105 = .ok (.return_, 1) := by decide +kernel
theorem xd_Gr_init_0 : decode xb_Gr_init 0 = .ok (.aload_n 0, 1) := by decide +kernel
theorem xd_Gr_init_1 : decode xb_Gr_init 1 = .ok (.invokespecial 3, 3) := by decide +kernel
theorem xd_Gr_init_4 : decode xb_Gr_init 4 = .ok (.aload_n 0, 1) := by decide +kernel
theorem xd_Gr_init_5 : decode xb_Gr_init 5 = .ok (.new 9, 3) := by decide +kernel
theorem xd_Gr_init_8 : decode xb_Gr_init 8 = .ok (.dup, 1) := by decide +kernel
theorem xd_Gr_init_9 : decode xb_Gr_init 9 = .ok (.iconst 3, 1) := by decide +kernel
theorem xd_Gr_init_10 : decode xb_Gr_init 10 = .ok (.invokespecial 13, 3) := by decide +kernel
theorem xd_Gr_init_13 : decode xb_Gr_init 13 = .ok (.putfield 16, 3) := by decide +kernel
theorem xd_Gr_init_16 : decode xb_Gr_init 16 = .ok (.aload_n 0, 1) := by decide +kernel
theorem xd_Gr_init_17 : decode xb_Gr_init 17 = .ok (.iconst 0, 1) := by decide +kernel
theorem xd_Gr_init_18 : decode xb_Gr_init 18 = .ok (.putfield 20, 3) := by decide +kernel
theorem xd_Gr_init_21 : decode xb_Gr_init 21 = .ok (.return_, 1) := by decide +kernel
theorem xd_Na_init_0 : decode xb_Na_init 0 = .ok (.aload_n 0, 1) := by decide +kernel
theorem xd_Na_init_1 : decode xb_Na_init 1 = .ok (.invokespecial 1, 3) := by decide +kernel
theorem xd_Na_init_4 : decode xb_Na_init 4 = .ok (.aload_n 0, 1) := by decide +kernel
theorem xd_Na_init_5 : decode xb_Na_init 5 = .ok (.iload_n 1, 1) := by decide +kernel
theorem xd_Na_init_6 : decode xb_Na_init 6 = .ok (.newarray .int, 2) := by decide +kernel
theorem xd_Na_init_8 : decode xb_Na_init 8 = .ok (.putfield 7, 3) := by decide +kernel
theorem xd_Na_init_11 : decode xb_Na_init 11 = .ok (.aload_n 0, 1) := by decide +kernel
theorem xd_Na_init_12 : decode xb_Na_init 12 = .ok (.iconst 0, 1) := by decide +kernel
theorem xd_Na_init_13 : decode xb_Na_init 13 = .ok (.putfield 13, 3) := by decide +kernel
theorem xd_Na_init_16 : decode xb_Na_init 16 = .ok (.return_, 1) := by decide +kernel
theorem yq_0 : (Cond.methodLink "LayerDesk$Names" 1 ⟨"java/lang/Object", "<init>", "()V"⟩) ∈ wT := wT_t (List.mem_append_right _ (List.mem_append_left _ (List.mem_of_getElem? (i := 32) rfl))) rfl
theorem yq_1 : (Cond.instanceMethod ⟨"java/lang/Object", "<init>", "()V"⟩) ∈ wT := wT_t (List.mem_append_left _ (List.mem_of_getElem? (i := 28) rfl)) rfl
theorem yq_2 : (Cond.code ⟨"java/lang/Object", "<init>", "()V"⟩ object_method_1_code 1 none) ∈ wT := wT_t (List.mem_append_left _ (List.mem_of_getElem? (i := 29) rfl)) rfl
theorem yq_3 : (Cond.arrayClass .int) ∈ wT := wT_t (List.mem_append_left _ (List.mem_of_getElem? (i := 55) rfl)) rfl
theorem yq_4 : (Cond.fieldLink "LayerDesk$Names" 7 "LayerDesk$Names" "entries" "[I") ∈ wT := wT_t (List.mem_append_right _ (List.mem_append_left _ (List.mem_of_getElem? (i := 33) rfl))) rfl
theorem yq_5 : (Cond.fieldLink "LayerDesk$Names" 13 "LayerDesk$Names" "size" "I") ∈ wT := wT_t (List.mem_append_right _ (List.mem_append_left _ (List.mem_of_getElem? (i := 34) rfl))) rfl
theorem yq_6 : (Cond.methodLink "LayerDesk$Grant" 3 ⟨"java/lang/Object", "<init>", "()V"⟩) ∈ wT := wT_t (List.mem_append_right _ (List.mem_append_left _ (List.mem_of_getElem? (i := 141) rfl))) rfl
theorem yq_7 : (Cond.classLink "LayerDesk$Grant" 9 "LayerDesk$Names") ∈ wT := wT_t (List.mem_append_right _ (List.mem_append_left _ (List.mem_of_getElem? (i := 142) rfl))) rfl
theorem yq_8 : (Cond.instantiable "LayerDesk$Names" 2) ∈ wT := wT_t (List.mem_append_right _ (List.mem_append_left _ (List.mem_of_getElem? (i := 28) rfl))) rfl
theorem yq_9 : (Cond.initialized "LayerDesk$Names") ∈ wT := wT_t (List.mem_append_left _ (List.mem_of_getElem? (i := 11) rfl)) rfl
theorem yq_10 : (Cond.code xy_Na_init xb_Na_init 2 none) ∈ wT := wT_t (List.mem_append_right _ (List.mem_append_left _ (List.mem_of_getElem? (i := 31) rfl))) rfl
theorem yq_11 : (Cond.methodLink "LayerDesk$Grant" 13 xy_Na_init) ∈ wT := wT_t (List.mem_append_right _ (List.mem_append_left _ (List.mem_of_getElem? (i := 143) rfl))) rfl
theorem yq_12 : (Cond.instanceMethod xy_Na_init) ∈ wT := wT_t (List.mem_append_right _ (List.mem_append_left _ (List.mem_of_getElem? (i := 30) rfl))) rfl
theorem yq_13 : (Cond.fieldLink "LayerDesk$Grant" 16 "LayerDesk$Grant" "names" "LLayerDesk$Names;") ∈ wT := wT_t (List.mem_append_right _ (List.mem_append_left _ (List.mem_of_getElem? (i := 144) rfl))) rfl
theorem yq_14 : (Cond.fieldLink "LayerDesk$Grant" 20 "LayerDesk$Grant" "toAll" "Z") ∈ wT := wT_t (List.mem_append_right _ (List.mem_append_left _ (List.mem_of_getElem? (i := 145) rfl))) rfl
theorem yq_15 : (Cond.methodLink "LayerDesk$Descriptor" 1 ⟨"java/lang/Object", "<init>", "()V"⟩) ∈ wT := wT_t (List.mem_append_right _ (List.mem_append_left _ (List.mem_of_getElem? (i := 26) rfl))) rfl
theorem yq_16 : (Cond.classLink "LayerDesk$Descriptor" 7 "LayerDesk$Names") ∈ wT := wT_t (List.mem_append_right _ (List.mem_append_left _ (List.mem_of_getElem? (i := 27) rfl))) rfl
theorem yq_17 : (Cond.methodLink "LayerDesk$Descriptor" 11 xy_Na_init) ∈ wT := wT_t (List.mem_append_right _ (List.mem_append_left _ (List.mem_of_getElem? (i := 29) rfl))) rfl
theorem yq_18 : (Cond.fieldLink "LayerDesk$Descriptor" 14 "LayerDesk$Descriptor" "packages" "LLayerDesk$Names;") ∈ wT := wT_t (List.mem_append_right _ (List.mem_append_left _ (List.mem_of_getElem? (i := 60) rfl))) rfl
theorem yq_19 : (Cond.classLink "LayerDesk$Descriptor" 18 "LayerDesk$Grant") ∈ wT := wT_t (List.mem_append_right _ (List.mem_append_left _ (List.mem_of_getElem? (i := 44) rfl))) rfl
theorem yq_20 : (Cond.fieldLink "LayerDesk$Descriptor" 20 "LayerDesk$Descriptor" "exported" "[LLayerDesk$Grant;") ∈ wT := wT_t (List.mem_append_right _ (List.mem_append_left _ (List.mem_of_getElem? (i := 64) rfl))) rfl
theorem yq_21 : (Cond.fieldLink "LayerDesk$Descriptor" 24 "LayerDesk$Descriptor" "opened" "[LLayerDesk$Grant;") ∈ wT := wT_t (List.mem_append_right _ (List.mem_append_left _ (List.mem_of_getElem? (i := 65) rfl))) rfl
theorem yq_22 : (Cond.fieldLink "LayerDesk$Descriptor" 27 "LayerDesk$Descriptor" "required" "LLayerDesk$Names;") ∈ wT := wT_t (List.mem_append_right _ (List.mem_append_left _ (List.mem_of_getElem? (i := 66) rfl))) rfl
theorem yq_23 : (Cond.arrayClass .boolean) ∈ wT := wT_t (List.mem_append_right _ (List.mem_append_left _ (List.mem_of_getElem? (i := 110) rfl))) rfl
theorem yq_24 : (Cond.fieldLink "LayerDesk$Descriptor" 30 "LayerDesk$Descriptor" "transitive" "[Z") ∈ wT := wT_t (List.mem_append_right _ (List.mem_append_left _ (List.mem_of_getElem? (i := 70) rfl))) rfl
theorem yq_25 : (Cond.fieldLink "LayerDesk$Descriptor" 34 "LayerDesk$Descriptor" "optional" "[Z") ∈ wT := wT_t (List.mem_append_right _ (List.mem_append_left _ (List.mem_of_getElem? (i := 72) rfl))) rfl
theorem yq_26 : (Cond.fieldLink "LayerDesk$Descriptor" 37 "LayerDesk$Descriptor" "used" "LLayerDesk$Names;") ∈ wT := wT_t (List.mem_append_right _ (List.mem_append_left _ (List.mem_of_getElem? (i := 75) rfl))) rfl
theorem yq_27 : (Cond.fieldLink "LayerDesk$Descriptor" 40 "LayerDesk$Descriptor" "provided" "LLayerDesk$Names;") ∈ wT := wT_t (List.mem_append_right _ (List.mem_append_left _ (List.mem_of_getElem? (i := 78) rfl))) rfl
theorem yq_28 : (Cond.fieldLink "LayerDesk$Descriptor" 43 "LayerDesk$Descriptor" "settled" "Z") ∈ wT := wT_t (List.mem_append_right _ (List.mem_append_left _ (List.mem_of_getElem? (i := 82) rfl))) rfl
theorem yq_29 : (Cond.fieldLink "LayerDesk$Descriptor" 47 "LayerDesk$Descriptor" "number" "I") ∈ wT := wT_t (List.mem_append_right _ (List.mem_append_left _ (List.mem_of_getElem? (i := 46) rfl))) rfl
theorem yq_30 : (Cond.fieldLink "LayerDesk$Descriptor" 51 "LayerDesk$Descriptor" "finder" "I") ∈ wT := wT_t (List.mem_append_right _ (List.mem_append_left _ (List.mem_of_getElem? (i := 51) rfl))) rfl
theorem yq_31 : (Cond.fieldLink "LayerDesk$Descriptor" 54 "LayerDesk$Descriptor" "name" "I") ∈ wT := wT_t (List.mem_append_right _ (List.mem_append_left _ (List.mem_of_getElem? (i := 54) rfl))) rfl
set_option maxHeartbeats 4000000 in
set_option maxRecDepth 100000 in
theorem xc_Na_init (l : Launch) (D : va_G) (kA : Nat → ClassId) (sz : Nat) (ad : Nat → Nat → Nat) (E : Nat → Nat → va_E) (RL : List (Nat × Nat)) (b : Nat) (o : Nat) (oa : Nat) (cp : Nat) (ym0 : (b, o) ∈ RL) (yc0 : E b o = .inr (8, [.null, .int 0])) (hcp : cp ≤ 6) (hoa : o ≠ oa) : Met l xy_Na_init (.code xy_Na_init xb_Na_init 2 none :: wT) { frames := 1, cells := 1, slots := 6, locals := 14 } (va_Pc [.ref (ad b o), .int (nI cp)] (xPre D kA sz (rp ad E RL))) (va_Qv (fun (u : (Nat → Nat → Nat) × (Nat → Nat → va_E) × List (Nat × Nat)) => (True) ∧ (u.2.1 b o = .inr (8, [.ref (u.1 b oa), .int 0])) ∧ (u.2.1 b oa = .inl (kA 0, cp, .inl (fun _ => 0))) ∧ ((∀ b2 o2, ¬ (b2 = b ∧ o2 = o) → ¬ (b2 = b ∧ o2 = oa) → u.2.1 b2 o2 = E b2 o2)) ∧ ((∀ b2 o2, ¬ (b2 = b ∧ o2 = oa) → u.1 b2 o2 = ad b2 o2)) ∧ ((∀ x ∈ RL, x ∈ u.2.2)) ∧ ((b, oa) ∈ u.2.2)) (fun (u : (Nat → Nat → Nat) × (Nat → Nat → va_E) × List (Nat × Nat)) t => va_P D xcl (rp u.1 u.2.1 u.2.2) t.heap ∧ va_D (va_A (rp ad E RL) sz) (rp u.1 u.2.1 u.2.2)) (va_A (rp ad E RL) sz)) 1 6 (va_A (rp ad E RL) sz) := by
  refine Met.ofW (cc := xb_Na_init) (maxL := 2) (ret := none) (by decide) rfl ?_
  intro p e s m args below meth c s₁ B hml hv
  obtain ⟨rfl, hsz, hP, hK, hD0⟩ := hv
  have hx := B.exec
  have hb := B.bytes
  have hr := B.returns
  have hT := x_hT B.pre
  have hown : s.vm.findClass xR_Na = some m.cls := findClass_of_methodNamed B.named
  have hlocks := B.notSynchronized
  have hin : meth.name = "<init>" := (name_of_methodNamed B.named B.method).1
  subst hsz
  have hD := hD0.self (sz := s.heap.size)
  generalize hAe : va_A (rp ad E RL) s.heap.size = A at hD ⊢
  have hA : ∀ q : Nat, s.heap.size ≤ q → A q := fun q h => by rw [← hAe]; exact Or.inr h
  have hS : va_S A s.heap s.heap [] := va_S.rf
  have hl := lv_entry ([.ref (ad b o), .int (nI cp)]) (n := 2) (Nat.le_of_ble_eq_true rfl)
  rw [lg_entry_eq]
  generalize (lg_sl ([.ref (ad b o), .int (nI cp)]) ++ List.replicate (2 - (lg_sl ([.ref (ad b o), .int (nI cp)])).length) Slot.unset).toArray = ls at hl ⊢
  have hl : lv_has ls 2 [(0, .ref (ad b o)), (1, .int (nI cp))] := hl
  have hP : va_P D xcl (rp ad E RL) s.heap := hP
  refine lv_aload_n hx hb xd_Na_init_0 rfl (lv_at hl 0 rfl) ?_
  refine W.objInit hx hb hown (hT _ yq_0) (hT _ yq_1) (hT _ yq_2) rfl (by rw [hml]; exact hl.1) rfl xd_Na_init_1 (Nat.le_of_ble_eq_true rfl) (Nat.le_of_ble_eq_true rfl) ?_
  refine W.eq (g2 := F0 m 4 ls []) rfl ?_
  refine lv_aload_n hx hb xd_Na_init_4 rfl (lv_at hl 0 rfl) ?_
  refine lv_iload_n hx hb xd_Na_init_5 rfl (lv_at hl 1 rfl) ?_
  refine W.eq (g2 := F0 m 6 ls [.int (nI cp), .ref (ad b o)]) rfl ?_
  refine px_newa (atype := .int) (a0 := (cp, Sum.inl (fun _ => 0))) (ty := .int) (N' := cp) b oa hx hb (hT _ yq_3) rfl (fun _ h9 => h9) hK.1 0 rfl hP hD hS hA (fun _ => rfl) (by omega) (show cp * 4 ≤ 536870912 by omega) (Nat.le_of_ble_eq_true rfl) (show 0 + cp ≤ 6 by omega) xd_Na_init_6 (fun ad1 E2 RL3 H hA1 hE1 hs1 hm1 hP hD hS => ?_)
  refine W.widen (k := 1) (n := 6) (by omega) (by omega) ?_
  have fE4 : ∀ b2 o2, ¬ (b2 = b ∧ o2 = oa) → E2 b2 o2 = E b2 o2 := fun b2 o2 h9 => by rw [hE1]; exact up2_ne (by omega)
  have fA5 : ∀ b2 o2, ¬ (b2 = b ∧ o2 = oa) → ad1 b2 o2 = ad b2 o2 := fun b2 o2 h9 => by rw [hA1]; exact up2_ne (by omega)
  have hs6 := hs1
  refine W.eq (g2 := F0 m _ ls [.ref (ad1 b oa), .ref (ad1 b o)]) (by rw [fA5 b o (by omega)]) ?_
  have c_7 : E2 b oa = .inl (kA 0, cp, .inl (fun _ => 0)) := by rw [hE1]; exact up2_eq
  have hl : lv_has ls 2 [(0, .ref (ad1 b o)), (1, .int (nI cp))] := by
    rw [fA5 b o (by omega)]; exact hl
  have m_9 : (b, o) ∈ RL3 := hs6 _ ym0
  have c_10 : E2 b o = .inr (8, [.null, .int 0]) := by rw [fE4 b o (by omega)]; exact yc0
  have m_8 : (b, oa) ∈ RL3 := hm1
  have hP : va_P D xcl (rp ad1 E2 RL3) H := hP
  have hD : va_D A (rp ad1 E2 RL3) := hD
  refine px_putF (D := D) (ci := 8) (v := .ref (ad1 b oa)) (ty := .array .int) (C := xR_Na) (T := xT_Na) (N := 2) hx hb hT xi_Na xt_Na xt_Na_ok xn_Na hown hK.1 hP hD hS m_9 c_10 rfl 0 (by decide) (hT _ yq_4) (fun _ h9 => h9) rfl hin rfl (by decide +kernel) rfl rfl (Nat.le_of_ble_eq_true rfl) xd_Na_init_8 (fun H locs hP hD hS => ?_)
  have hP : va_P D xcl (rp ad1 (up2 E2 b o (.inr (8, [.ref (ad1 b oa), .int 0]))) RL3) H := hP
  have hD : va_D A (rp ad1 (up2 E2 b o (.inr (8, [.ref (ad1 b oa), .int 0]))) RL3) := hD
  generalize hE12 : up2 E2 b o (.inr (8, [.ref (ad1 b oa), .int 0])) = E11 at hP hD
  have fE13 : ∀ b2 o2, ¬ (b2 = b ∧ o2 = o) → E11 b2 o2 = E2 b2 o2 := fun b2 o2 h9 => by rw [← hE12]; exact up2_ne (by omega)
  have c_14 : E11 b o = .inr (8, [.ref (ad1 b oa), .int 0]) := by rw [← hE12]; exact up2_eq
  have c_15 : E11 b oa = .inl (kA 0, cp, .inl (fun _ => 0)) := (fE13 b oa (by omega)).trans c_7
  refine lv_aload_n hx hb xd_Na_init_11 rfl (lv_at hl 0 rfl) ?_
  refine lv_iconst (v := 0) hx hb xd_Na_init_12 (by decide) ?_
  refine px_put (D := D) (ci := 8) (v := .int 0) (ty := .int) (C := xR_Na) (T := xT_Na) (N := 2) hx hb hT xi_Na xt_Na xt_Na_ok xn_Na hown hK.1 hP hD hS m_9 c_14 rfl 1 (by decide) (hT _ yq_5) (fun _ h9 => h9) rfl (by decide +kernel) rfl rfl (Nat.le_of_ble_eq_true rfl) xd_Na_init_13 (fun H locs hP hD hS => ?_)
  have hP : va_P D xcl (rp ad1 (up2 E11 b o (.inr (8, [.ref (ad1 b oa), .int 0]))) RL3) H := hP
  have hD : va_D A (rp ad1 (up2 E11 b o (.inr (8, [.ref (ad1 b oa), .int 0]))) RL3) := hD
  generalize hE17 : up2 E11 b o (.inr (8, [.ref (ad1 b oa), .int 0])) = E16 at hP hD
  have fE18 : ∀ b2 o2, ¬ (b2 = b ∧ o2 = o) → E16 b2 o2 = E11 b2 o2 := fun b2 o2 h9 => by rw [← hE17]; exact up2_ne (by omega)
  have c_19 : E16 b o = .inr (8, [.ref (ad1 b oa), .int 0]) := by rw [← hE17]; exact up2_eq
  have c_20 : E16 b oa = .inl (kA 0, cp, .inl (fun _ => 0)) := (fE18 b oa (by omega)).trans c_15
  refine W.widen (k := 1) (n := 6) (Nat.le_of_ble_eq_true rfl) (Nat.le_of_ble_eq_true rfl) ?_
  exact W.vret hx hb hr (fun t ht hW => ⟨⟨(ad1, E16, RL3), rfl, ⟨trivial, c_19, c_20, (fun b2 o2 h09 h19 => by show E16 b2 o2 = _; rw [fE18 b2 o2 (by omega), fE13 b2 o2 (by omega), fE4 b2 o2 (by omega)]), (fun b2 o2 h09 => by show ad1 b2 o2 = _; rw [fA5 b2 o2 (by omega)]), (fun x9 hx9 => hs6 _ hx9), m_8⟩, by rw [ht]; exact hP, hD⟩, hS.F ht⟩) hS.2.2 xd_Na_init_16
set_option maxHeartbeats 4000000 in
set_option maxRecDepth 100000 in
theorem xc_Gr_init (l : Launch) (D : va_G) (kA : Nat → ClassId) (sz : Nat) (ad : Nat → Nat → Nat) (E : Nat → Nat → va_E) (RL : List (Nat × Nat)) (b : Nat) (g : Nat) (gn : Nat) (ga : Nat) (ym0 : (b, g) ∈ RL) (yc0 : E b g = .inr (9, [.null, .int 0])) (hgd : g ≠ gn ∧ gn ≠ ga ∧ g ≠ ga) : Met l xy_Gr_init (.code xy_Gr_init xb_Gr_init 1 none :: wT) { frames := 2, cells := 2, slots := 8, locals := 35 } (va_Pc [.ref (ad b g)] (xPre D kA sz (rp ad E RL))) (va_Qv (fun (u : (Nat → Nat → Nat) × (Nat → Nat → va_E) × List (Nat × Nat)) => (True) ∧ (u.2.1 b g = .inr (9, [.ref (u.1 b gn), .int 0])) ∧ (u.2.1 b gn = .inr (8, [.ref (u.1 b ga), .int 0])) ∧ (u.2.1 b ga = .inl (kA 0, 3, .inl (fun _ => 0))) ∧ ((∀ b2 o2, ¬ (b2 = b ∧ o2 = g) → ¬ (b2 = b ∧ o2 = gn) → ¬ (b2 = b ∧ o2 = ga) → u.2.1 b2 o2 = E b2 o2)) ∧ ((∀ b2 o2, ¬ (b2 = b ∧ o2 = gn) → ¬ (b2 = b ∧ o2 = ga) → u.1 b2 o2 = ad b2 o2)) ∧ ((∀ x ∈ RL, x ∈ u.2.2)) ∧ ((b, gn) ∈ u.2.2) ∧ ((b, ga) ∈ u.2.2)) (fun (u : (Nat → Nat → Nat) × (Nat → Nat → va_E) × List (Nat × Nat)) t => va_P D xcl (rp u.1 u.2.1 u.2.2) t.heap ∧ va_D (va_A (rp ad E RL) sz) (rp u.1 u.2.1 u.2.2)) (va_A (rp ad E RL) sz)) 2 8 (va_A (rp ad E RL) sz) := by
  refine Met.ofW (cc := xb_Gr_init) (maxL := 1) (ret := none) (by decide) rfl ?_
  intro p e s m args below meth c s₁ B hml hv
  obtain ⟨rfl, hsz, hP, hK, hD0⟩ := hv
  have hx := B.exec
  have hb := B.bytes
  have hr := B.returns
  have hT := x_hT B.pre
  have hown : s.vm.findClass xR_Gr = some m.cls := findClass_of_methodNamed B.named
  have hlocks := B.notSynchronized
  have hin : meth.name = "<init>" := (name_of_methodNamed B.named B.method).1
  subst hsz
  have hD := hD0.self (sz := s.heap.size)
  generalize hAe : va_A (rp ad E RL) s.heap.size = A at hD ⊢
  have hA : ∀ q : Nat, s.heap.size ≤ q → A q := fun q h => by rw [← hAe]; exact Or.inr h
  have hS : va_S A s.heap s.heap [] := va_S.rf
  have hl := lv_entry ([.ref (ad b g)]) (n := 1) (Nat.le_of_ble_eq_true rfl)
  rw [lg_entry_eq]
  generalize (lg_sl ([.ref (ad b g)]) ++ List.replicate (1 - (lg_sl ([.ref (ad b g)])).length) Slot.unset).toArray = ls at hl ⊢
  have hl : lv_has ls 1 [(0, .ref (ad b g))] := hl
  have hP : va_P D xcl (rp ad E RL) s.heap := hP
  refine lv_aload_n hx hb xd_Gr_init_0 rfl (lv_at hl 0 rfl) ?_
  refine W.objInit hx hb hown (hT _ yq_6) (hT _ yq_1) (hT _ yq_2) rfl (by rw [hml]; exact hl.1) rfl xd_Gr_init_1 (Nat.le_of_ble_eq_true rfl) (Nat.le_of_ble_eq_true rfl) ?_
  refine W.eq (g2 := F0 m 4 ls []) rfl ?_
  refine lv_aload_n hx hb xd_Gr_init_4 rfl (lv_at hl 0 rfl) ?_
  refine px_new (ci := 8) (fs := [.null, .int 0]) (C := xR_Na) (T := xT_Na) (N := 2) b gn hx hb hT xi_Na xt_Na xt_Na_ok hown (hT _ yq_7) (hT _ yq_8) (hT _ yq_9) hK.1 hP hD hS hA rfl (by decide +kernel) (Nat.le_of_ble_eq_true rfl) (Nat.le_of_ble_eq_true rfl) xd_Gr_init_5 (fun ad1 E2 RL3 H hA1 hE1 hs1 hm1 hP hD hS => ?_)
  have fE4 : ∀ b2 o2, ¬ (b2 = b ∧ o2 = gn) → E2 b2 o2 = E b2 o2 := fun b2 o2 h9 => by rw [hE1]; exact up2_ne (by omega)
  have fA5 : ∀ b2 o2, ¬ (b2 = b ∧ o2 = gn) → ad1 b2 o2 = ad b2 o2 := fun b2 o2 h9 => by rw [hA1]; exact up2_ne (by omega)
  have hs6 := hs1
  refine W.eq (g2 := F0 m _ ls [.ref (ad1 b gn), .ref (ad1 b g)]) (by rw [fA5 b g (by omega)]) ?_
  have c_7 : E2 b gn = .inr (8, [.null, .int 0]) := by rw [hE1]; exact up2_eq
  have hl : lv_has ls 1 [(0, .ref (ad1 b g))] := by
    rw [fA5 b g (by omega)]; exact hl
  have m_9 : (b, g) ∈ RL3 := hs6 _ ym0
  have c_10 : E2 b g = .inr (9, [.null, .int 0]) := by rw [fE4 b g (by omega)]; exact yc0
  have m_8 : (b, gn) ∈ RL3 := hm1
  have hP : va_P D xcl (rp ad1 E2 RL3) H := hP
  have hD : va_D A (rp ad1 E2 RL3) := hD
  refine lv_dup hx hb xd_Gr_init_8 rfl ?_
  refine lv_iconst (v := 3) hx hb xd_Gr_init_9 (by decide) ?_
  have hFc := px_free hD hS hA
  refine va_callv (va_runI (As := [.int 3]) (rest := [.ref (ad1 b gn), .ref (ad1 b g)]) ⟨hx, hb, hml, hown, hT⟩ (xc_Na_init l D kA H.size ad1 E2 RL3 b gn ga 3 m_8 c_7 (by first | assumption | omega) (by first | assumption | omega)) (cwI 1 hT (wT_I yq_10) rfl rfl rfl (hT _ yq_9) (hT _ yq_11) (hT _ yq_12) rfl (by decide +kernel) ⟨Nat.le_of_ble_eq_true rfl, Nat.le_of_ble_eq_true rfl⟩) (x_preS hK hP hD) rfl rfl hl.1 rfl (lv_room (Nat.le_of_ble_eq_true rfl)) xd_Gr_init_10 ⟨(Nat.le_of_ble_eq_true rfl), (Nat.le_of_ble_eq_true rfl)⟩) hS (fun q _ h => hFc q h) hFc (fun u12 t H1 locs ht hvm hp13 hB hz1 hk1 hS => ?_)
  obtain ⟨hP1, hD1⟩ := hB
  rw [ht] at hP1
  have hD1 := hD1.weaken (fun _ _ _ h => hFc _ h)
  generalize H1 = H at hP1 hS ⊢
  have hP := hP1
  have hD := hD1
  obtain ⟨ad14, E15, RL16⟩ := u12
  obtain ⟨hp23, p_17, p_18, p_19, p_20, p_21, p_22⟩ := hp13
  have p_17 : E15 b gn = .inr (8, [.ref (ad14 b ga), .int 0]) := p_17
  have p_18 : E15 b ga = .inl (kA 0, 3, .inl (fun _ => 0)) := p_18
  have p_19 : (∀ b2 o2, ¬ (b2 = b ∧ o2 = gn) → ¬ (b2 = b ∧ o2 = ga) → E15 b2 o2 = E2 b2 o2) := p_19
  have p_20 : (∀ b2 o2, ¬ (b2 = b ∧ o2 = ga) → ad14 b2 o2 = ad1 b2 o2) := p_20
  have p_21 : (∀ x ∈ RL3, x ∈ RL16) := p_21
  have p_22 : (b, ga) ∈ RL16 := p_22
  refine W.eq (g2 := F0 m 13 ls [.ref (ad14 b gn), .ref (ad14 b g)]) (by rw [p_20 b gn (by omega), p_20 b g (by omega)]) ?_
  have hl : lv_has ls 1 [(0, .ref (ad14 b g))] := by
    rw [p_20 b g (by omega)]; exact hl
  have m_24 : (b, g) ∈ RL16 := p_21 _ m_9
  have m_25 : (b, gn) ∈ RL16 := p_21 _ m_8
  have c_26 : E15 b g = .inr (9, [.null, .int 0]) := by rw [p_19 b g (by omega) (by omega)]; exact c_10
  have hP : va_P D xcl (rp ad14 E15 RL16) H := hP
  have hD : va_D A (rp ad14 E15 RL16) := hD
  refine px_putF (D := D) (ci := 9) (v := .ref (ad14 b gn)) (ty := .object "LayerDesk$Names") (C := xR_Gr) (T := xT_Gr) (N := 2) hx hb hT xi_Gr xt_Gr xt_Gr_ok xn_Gr hown hK.1 hP hD hS m_24 c_26 rfl 0 (by decide) (hT _ yq_13) (fun _ h9 => h9) rfl hin rfl (by decide +kernel) rfl rfl (Nat.le_of_ble_eq_true rfl) xd_Gr_init_13 (fun H locs hP hD hS => ?_)
  have hP : va_P D xcl (rp ad14 (up2 E15 b g (.inr (9, [.ref (ad14 b gn), .int 0]))) RL16) H := hP
  have hD : va_D A (rp ad14 (up2 E15 b g (.inr (9, [.ref (ad14 b gn), .int 0]))) RL16) := hD
  generalize hE28 : up2 E15 b g (.inr (9, [.ref (ad14 b gn), .int 0])) = E27 at hP hD
  have fE29 : ∀ b2 o2, ¬ (b2 = b ∧ o2 = g) → E27 b2 o2 = E15 b2 o2 := fun b2 o2 h9 => by rw [← hE28]; exact up2_ne (by omega)
  have c_30 : E27 b g = .inr (9, [.ref (ad14 b gn), .int 0]) := by rw [← hE28]; exact up2_eq
  have c_31 : E27 b gn = .inr (8, [.ref (ad14 b ga), .int 0]) := (fE29 b gn (by omega)).trans p_17
  have c_32 : E27 b ga = .inl (kA 0, 3, .inl (fun _ => 0)) := (fE29 b ga (by omega)).trans p_18
  refine lv_aload_n hx hb xd_Gr_init_16 rfl (lv_at hl 0 rfl) ?_
  refine lv_iconst (v := 0) hx hb xd_Gr_init_17 (by decide) ?_
  refine px_put (D := D) (ci := 9) (v := .int 0) (ty := .boolean) (C := xR_Gr) (T := xT_Gr) (N := 2) hx hb hT xi_Gr xt_Gr xt_Gr_ok xn_Gr hown hK.1 hP hD hS m_24 c_30 rfl 1 (by decide) (hT _ yq_14) (fun _ h9 => h9) rfl (by decide +kernel) rfl rfl (Nat.le_of_ble_eq_true rfl) xd_Gr_init_18 (fun H locs hP hD hS => ?_)
  have hP : va_P D xcl (rp ad14 (up2 E27 b g (.inr (9, [.ref (ad14 b gn), .int 0]))) RL16) H := hP
  have hD : va_D A (rp ad14 (up2 E27 b g (.inr (9, [.ref (ad14 b gn), .int 0]))) RL16) := hD
  generalize hE34 : up2 E27 b g (.inr (9, [.ref (ad14 b gn), .int 0])) = E33 at hP hD
  have fE35 : ∀ b2 o2, ¬ (b2 = b ∧ o2 = g) → E33 b2 o2 = E27 b2 o2 := fun b2 o2 h9 => by rw [← hE34]; exact up2_ne (by omega)
  have c_36 : E33 b g = .inr (9, [.ref (ad14 b gn), .int 0]) := by rw [← hE34]; exact up2_eq
  have c_37 : E33 b gn = .inr (8, [.ref (ad14 b ga), .int 0]) := (fE35 b gn (by omega)).trans c_31
  have c_38 : E33 b ga = .inl (kA 0, 3, .inl (fun _ => 0)) := (fE35 b ga (by omega)).trans c_32
  refine W.widen (k := 2) (n := 8) (Nat.le_of_ble_eq_true rfl) (Nat.le_of_ble_eq_true rfl) ?_
  exact W.vret hx hb hr (fun t ht hW => ⟨⟨(ad14, E33, RL16), rfl, ⟨trivial, c_36, c_37, c_38, (fun b2 o2 h09 h19 h29 => by show E33 b2 o2 = _; rw [fE35 b2 o2 (by omega), fE29 b2 o2 (by omega), p_19 b2 o2 (by omega) (by omega), fE4 b2 o2 (by omega)]), (fun b2 o2 h09 h19 => by show ad14 b2 o2 = _; rw [p_20 b2 o2 (by omega), fA5 b2 o2 (by omega)]), (fun x9 hx9 => p_21 _ (hs6 _ hx9)), m_25, p_22⟩, by rw [ht]; exact hP, hD⟩, hS.F ht⟩) hS.2.2 xd_Gr_init_21
set_option maxHeartbeats 4000000 in
set_option maxRecDepth 100000 in
theorem xc_Ds_init (l : Launch) (D : va_G) (kA : Nat → ClassId) (sz : Nat) (ad : Nat → Nat → Nat) (E : Nat → Nat → va_E) (RL : List (Nat × Nat)) (d : Nat) (fi : Int32) (nm : Int32) (ym0 : (1 + d, 0) ∈ RL) (yc0 : E (1 + d) 0 = .inr (7, [.int 0, .int 0, .int 0, .null, .null, .null, .null, .null, .null, .null, .null, .int 0])) : Met l xy_Ds_init (.code xy_Ds_init xb_Ds_init 4 none :: wT) { frames := 2, cells := 12, slots := 54, locals := 35 } (va_Pc [.ref (ad (1 + d) 0), .int (nI d), .int fi, .int nm] (xPre D kA sz (rp ad E RL))) (va_Qv (fun (u : (Nat → Nat → Nat) × (Nat → Nat → va_E) × List (Nat × Nat)) => (True) ∧ (u.2.1 (1 + d) 0 = .inr (7, [.int (nI d), .int fi, .int nm, .ref (u.1 (1 + d) 1), .ref (u.1 (1 + d) 9), .ref (u.1 (1 + d) 10), .ref (u.1 (1 + d) 2), .ref (u.1 (1 + d) 11), .ref (u.1 (1 + d) 12), .ref (u.1 (1 + d) 3), .ref (u.1 (1 + d) 4), .int 0])) ∧ (u.2.1 (1 + d) 1 = .inr (8, [.ref (u.1 (1 + d) 5), .int 0])) ∧ (u.2.1 (1 + d) 2 = .inr (8, [.ref (u.1 (1 + d) 6), .int 0])) ∧ (u.2.1 (1 + d) 3 = .inr (8, [.ref (u.1 (1 + d) 7), .int 0])) ∧ (u.2.1 (1 + d) 4 = .inr (8, [.ref (u.1 (1 + d) 8), .int 0])) ∧ (u.2.1 (1 + d) 5 = .inl (kA 0, 6, .inl (fun _ => 0))) ∧ (u.2.1 (1 + d) 6 = .inl (kA 0, 5, .inl (fun _ => 0))) ∧ (u.2.1 (1 + d) 7 = .inl (kA 0, 3, .inl (fun _ => 0))) ∧ (u.2.1 (1 + d) 8 = .inl (kA 0, 3, .inl (fun _ => 0))) ∧ (u.2.1 (1 + d) 9 = .inl (kA 8, 6, .inr (.inr (.inr (.inr (fun _ => none)))))) ∧ (u.2.1 (1 + d) 10 = .inl (kA 8, 6, .inr (.inr (.inr (.inr (fun _ => none)))))) ∧ (u.2.1 (1 + d) 11 = .inl (kA 2, 5, .inl (fun _ => 0))) ∧ (u.2.1 (1 + d) 12 = .inl (kA 2, 5, .inl (fun _ => 0))) ∧ ((∀ b2 o2, ¬ (b2 = 1 + d ∧ o2 = 0) → ¬ (b2 = 1 + d ∧ o2 = 1) → ¬ (b2 = 1 + d ∧ o2 = 2) → ¬ (b2 = 1 + d ∧ o2 = 3) → ¬ (b2 = 1 + d ∧ o2 = 4) → ¬ (b2 = 1 + d ∧ o2 = 5) → ¬ (b2 = 1 + d ∧ o2 = 6) → ¬ (b2 = 1 + d ∧ o2 = 7) → ¬ (b2 = 1 + d ∧ o2 = 8) → ¬ (b2 = 1 + d ∧ o2 = 9) → ¬ (b2 = 1 + d ∧ o2 = 10) → ¬ (b2 = 1 + d ∧ o2 = 11) → ¬ (b2 = 1 + d ∧ o2 = 12) → u.2.1 b2 o2 = E b2 o2)) ∧ ((∀ b2 o2, ¬ (b2 = 1 + d ∧ o2 = 1) → ¬ (b2 = 1 + d ∧ o2 = 2) → ¬ (b2 = 1 + d ∧ o2 = 3) → ¬ (b2 = 1 + d ∧ o2 = 4) → ¬ (b2 = 1 + d ∧ o2 = 5) → ¬ (b2 = 1 + d ∧ o2 = 6) → ¬ (b2 = 1 + d ∧ o2 = 7) → ¬ (b2 = 1 + d ∧ o2 = 8) → ¬ (b2 = 1 + d ∧ o2 = 9) → ¬ (b2 = 1 + d ∧ o2 = 10) → ¬ (b2 = 1 + d ∧ o2 = 11) → ¬ (b2 = 1 + d ∧ o2 = 12) → u.1 b2 o2 = ad b2 o2)) ∧ ((∀ x ∈ RL, x ∈ u.2.2)) ∧ ((1 + d, 1) ∈ u.2.2) ∧ ((1 + d, 2) ∈ u.2.2) ∧ ((1 + d, 3) ∈ u.2.2) ∧ ((1 + d, 4) ∈ u.2.2) ∧ ((1 + d, 5) ∈ u.2.2) ∧ ((1 + d, 6) ∈ u.2.2) ∧ ((1 + d, 7) ∈ u.2.2) ∧ ((1 + d, 8) ∈ u.2.2) ∧ ((1 + d, 9) ∈ u.2.2) ∧ ((1 + d, 10) ∈ u.2.2) ∧ ((1 + d, 11) ∈ u.2.2) ∧ ((1 + d, 12) ∈ u.2.2)) (fun (u : (Nat → Nat → Nat) × (Nat → Nat → va_E) × List (Nat × Nat)) t => va_P D xcl (rp u.1 u.2.1 u.2.2) t.heap ∧ va_D (va_A (rp ad E RL) sz) (rp u.1 u.2.1 u.2.2)) (va_A (rp ad E RL) sz)) 12 54 (va_A (rp ad E RL) sz) := by
  refine Met.ofW (cc := xb_Ds_init) (maxL := 4) (ret := none) (by decide) rfl ?_
  intro p e s m args below meth c s₁ B hml hv
  obtain ⟨rfl, hsz, hP, hK, hD0⟩ := hv
  have hx := B.exec
  have hb := B.bytes
  have hr := B.returns
  have hT := x_hT B.pre
  have hown : s.vm.findClass xR_Ds = some m.cls := findClass_of_methodNamed B.named
  have hlocks := B.notSynchronized
  have hin : meth.name = "<init>" := (name_of_methodNamed B.named B.method).1
  subst hsz
  have hD := hD0.self (sz := s.heap.size)
  generalize hAe : va_A (rp ad E RL) s.heap.size = A at hD ⊢
  have hA : ∀ q : Nat, s.heap.size ≤ q → A q := fun q h => by rw [← hAe]; exact Or.inr h
  have hS : va_S A s.heap s.heap [] := va_S.rf
  have hl := lv_entry ([.ref (ad (1 + d) 0), .int (nI d), .int fi, .int nm]) (n := 4) (Nat.le_of_ble_eq_true rfl)
  rw [lg_entry_eq]
  generalize (lg_sl ([.ref (ad (1 + d) 0), .int (nI d), .int fi, .int nm]) ++ List.replicate (4 - (lg_sl ([.ref (ad (1 + d) 0), .int (nI d), .int fi, .int nm])).length) Slot.unset).toArray = ls at hl ⊢
  have hl : lv_has ls 4 [(0, .ref (ad (1 + d) 0)), (1, .int (nI d)), (2, .int fi), (3, .int nm)] := hl
  have hP : va_P D xcl (rp ad E RL) s.heap := hP
  refine lv_aload_n hx hb xd_Ds_init_0 rfl (lv_at hl 0 rfl) ?_
  refine W.objInit hx hb hown (hT _ yq_15) (hT _ yq_1) (hT _ yq_2) rfl (by rw [hml]; exact hl.1) rfl xd_Ds_init_1 (Nat.le_of_ble_eq_true rfl) (Nat.le_of_ble_eq_true rfl) ?_
  refine W.eq (g2 := F0 m 4 ls []) rfl ?_
  refine lv_aload_n hx hb xd_Ds_init_4 rfl (lv_at hl 0 rfl) ?_
  refine px_new (ci := 8) (fs := [.null, .int 0]) (C := xR_Na) (T := xT_Na) (N := 2) (1 + d) 1 hx hb hT xi_Na xt_Na xt_Na_ok hown (hT _ yq_16) (hT _ yq_8) (hT _ yq_9) hK.1 hP hD hS hA rfl (by decide +kernel) (Nat.le_of_ble_eq_true rfl) (Nat.le_of_ble_eq_true rfl) xd_Ds_init_5 (fun ad1 E2 RL3 H hA1 hE1 hs1 hm1 hP hD hS => ?_)
  have fE4 : ∀ b2 o2, ¬ (b2 = 1 + d ∧ o2 = 1) → E2 b2 o2 = E b2 o2 := fun b2 o2 h9 => by rw [hE1]; exact up2_ne (by omega)
  have fA5 : ∀ b2 o2, ¬ (b2 = 1 + d ∧ o2 = 1) → ad1 b2 o2 = ad b2 o2 := fun b2 o2 h9 => by rw [hA1]; exact up2_ne (by omega)
  have hs6 := hs1
  refine W.eq (g2 := F0 m _ ls [.ref (ad1 (1 + d) 1), .ref (ad1 (1 + d) 0)]) (by rw [fA5 (1 + d) 0 (by omega)]) ?_
  have c_7 : E2 (1 + d) 1 = .inr (8, [.null, .int 0]) := by rw [hE1]; exact up2_eq
  have hl : lv_has ls 4 [(0, .ref (ad1 (1 + d) 0)), (1, .int (nI d)), (2, .int fi), (3, .int nm)] := by
    rw [fA5 (1 + d) 0 (by omega)]; exact hl
  have m_9 : (1 + d, 0) ∈ RL3 := hs6 _ ym0
  have c_10 : E2 (1 + d) 0 = .inr (7, [.int 0, .int 0, .int 0, .null, .null, .null, .null, .null, .null, .null, .null, .int 0]) := by rw [fE4 (1 + d) 0 (by omega)]; exact yc0
  have m_8 : (1 + d, 1) ∈ RL3 := hm1
  have hP : va_P D xcl (rp ad1 E2 RL3) H := hP
  have hD : va_D A (rp ad1 E2 RL3) := hD
  refine lv_dup hx hb xd_Ds_init_8 rfl ?_
  refine lv_bipush (v := 6) hx hb xd_Ds_init_9 (by decide) ?_
  have hFc := px_free hD hS hA
  refine va_callv (va_runI (As := [.int 6]) (rest := [.ref (ad1 (1 + d) 1), .ref (ad1 (1 + d) 0)]) ⟨hx, hb, hml, hown, hT⟩ (xc_Na_init l D kA H.size ad1 E2 RL3 (1 + d) 1 5 6 m_8 c_7 (by first | assumption | omega) (by first | assumption | omega)) (cwI 1 hT (wT_I yq_10) rfl rfl rfl (hT _ yq_9) (hT _ yq_17) (hT _ yq_12) rfl (by decide +kernel) ⟨Nat.le_of_ble_eq_true rfl, Nat.le_of_ble_eq_true rfl⟩) (x_preS hK hP hD) rfl rfl hl.1 rfl (lv_room (Nat.le_of_ble_eq_true rfl)) xd_Ds_init_11 ⟨(Nat.le_of_ble_eq_true rfl), (Nat.le_of_ble_eq_true rfl)⟩) hS (fun q _ h => hFc q h) hFc (fun u12 t H1 locs ht hvm hp13 hB hz1 hk1 hS => ?_)
  obtain ⟨hP1, hD1⟩ := hB
  rw [ht] at hP1
  have hD1 := hD1.weaken (fun _ _ _ h => hFc _ h)
  generalize H1 = H at hP1 hS ⊢
  have hP := hP1
  have hD := hD1
  obtain ⟨ad14, E15, RL16⟩ := u12
  obtain ⟨hp23, p_17, p_18, p_19, p_20, p_21, p_22⟩ := hp13
  have p_17 : E15 (1 + d) 1 = .inr (8, [.ref (ad14 (1 + d) 5), .int 0]) := p_17
  have p_18 : E15 (1 + d) 5 = .inl (kA 0, 6, .inl (fun _ => 0)) := p_18
  have p_19 : (∀ b2 o2, ¬ (b2 = (1 + d) ∧ o2 = 1) → ¬ (b2 = (1 + d) ∧ o2 = 5) → E15 b2 o2 = E2 b2 o2) := p_19
  have p_20 : (∀ b2 o2, ¬ (b2 = (1 + d) ∧ o2 = 5) → ad14 b2 o2 = ad1 b2 o2) := p_20
  have p_21 : (∀ x ∈ RL3, x ∈ RL16) := p_21
  have p_22 : ((1 + d), 5) ∈ RL16 := p_22
  refine W.eq (g2 := F0 m 14 ls [.ref (ad14 (1 + d) 1), .ref (ad14 (1 + d) 0)]) (by rw [p_20 (1 + d) 1 (by omega), p_20 (1 + d) 0 (by omega)]) ?_
  have hl : lv_has ls 4 [(0, .ref (ad14 (1 + d) 0)), (1, .int (nI d)), (2, .int fi), (3, .int nm)] := by
    rw [p_20 (1 + d) 0 (by omega)]; exact hl
  have m_24 : (1 + d, 0) ∈ RL16 := p_21 _ m_9
  have m_25 : (1 + d, 1) ∈ RL16 := p_21 _ m_8
  have c_26 : E15 (1 + d) 0 = .inr (7, [.int 0, .int 0, .int 0, .null, .null, .null, .null, .null, .null, .null, .null, .int 0]) := by rw [p_19 (1 + d) 0 (by omega) (by omega)]; exact c_10
  have hP : va_P D xcl (rp ad14 E15 RL16) H := hP
  have hD : va_D A (rp ad14 E15 RL16) := hD
  refine px_putF (D := D) (ci := 7) (v := .ref (ad14 (1 + d) 1)) (ty := .object "LayerDesk$Names") (C := xR_Ds) (T := xT_Ds) (N := 12) hx hb hT xi_Ds xt_Ds xt_Ds_ok xn_Ds hown hK.1 hP hD hS m_24 c_26 rfl 3 (by decide) (hT _ yq_18) (fun _ h9 => h9) rfl hin rfl (by decide +kernel) rfl rfl (Nat.le_of_ble_eq_true rfl) xd_Ds_init_14 (fun H locs hP hD hS => ?_)
  have hP : va_P D xcl (rp ad14 (up2 E15 (1 + d) 0 (.inr (7, [.int 0, .int 0, .int 0, .ref (ad14 (1 + d) 1), .null, .null, .null, .null, .null, .null, .null, .int 0]))) RL16) H := hP
  have hD : va_D A (rp ad14 (up2 E15 (1 + d) 0 (.inr (7, [.int 0, .int 0, .int 0, .ref (ad14 (1 + d) 1), .null, .null, .null, .null, .null, .null, .null, .int 0]))) RL16) := hD
  generalize hE28 : up2 E15 (1 + d) 0 (.inr (7, [.int 0, .int 0, .int 0, .ref (ad14 (1 + d) 1), .null, .null, .null, .null, .null, .null, .null, .int 0])) = E27 at hP hD
  have fE29 : ∀ b2 o2, ¬ (b2 = 1 + d ∧ o2 = 0) → E27 b2 o2 = E15 b2 o2 := fun b2 o2 h9 => by rw [← hE28]; exact up2_ne (by omega)
  have c_30 : E27 (1 + d) 0 = .inr (7, [.int 0, .int 0, .int 0, .ref (ad14 (1 + d) 1), .null, .null, .null, .null, .null, .null, .null, .int 0]) := by rw [← hE28]; exact up2_eq
  have c_31 : E27 (1 + d) 1 = .inr (8, [.ref (ad14 (1 + d) 5), .int 0]) := (fE29 (1 + d) 1 (by omega)).trans p_17
  have c_32 : E27 (1 + d) 5 = .inl (kA 0, 6, .inl (fun _ => 0)) := (fE29 (1 + d) 5 (by omega)).trans p_18
  refine lv_aload_n hx hb xd_Ds_init_17 rfl (lv_at hl 0 rfl) ?_
  refine lv_bipush (v := 6) hx hb xd_Ds_init_18 (by decide) ?_
  refine W.eq (g2 := F0 m 20 ls [.int (nI 6), .ref (ad14 (1 + d) 0)]) rfl ?_
  refine px_newq (C := "LayerDesk$Grant") (N' := 6) (1 + d) 9 hx hb hown (hT _ yq_19) hK.2.1.2.2.2.2.2.2.2.2 hK.1 8 rfl hP hD hS hA (by omega) (Nat.le_of_ble_eq_true rfl) (Nat.le_of_ble_eq_true rfl) (Nat.le_of_ble_eq_true rfl) xd_Ds_init_20 (fun ad33 E34 RL35 H hA1 hE1 hs1 hm1 hP hD hS => ?_)
  have fE36 : ∀ b2 o2, ¬ (b2 = 1 + d ∧ o2 = 9) → E34 b2 o2 = E27 b2 o2 := fun b2 o2 h9 => by rw [hE1]; exact up2_ne (by omega)
  have fA37 : ∀ b2 o2, ¬ (b2 = 1 + d ∧ o2 = 9) → ad33 b2 o2 = ad14 b2 o2 := fun b2 o2 h9 => by rw [hA1]; exact up2_ne (by omega)
  have hs38 := hs1
  refine W.eq (g2 := F0 m _ ls [.ref (ad33 (1 + d) 9), .ref (ad33 (1 + d) 0)]) (by rw [fA37 (1 + d) 0 (by omega)]) ?_
  have c_39 : E34 (1 + d) 9 = .inl (kA 8, 6, .inr (.inr (.inr (.inr (fun _ => none))))) := by rw [hE1]; exact up2_eq
  have hl : lv_has ls 4 [(0, .ref (ad33 (1 + d) 0)), (1, .int (nI d)), (2, .int fi), (3, .int nm)] := by
    rw [fA37 (1 + d) 0 (by omega)]; exact hl
  have m_41 : (1 + d, 0) ∈ RL35 := hs38 _ m_24
  have m_42 : (1 + d, 1) ∈ RL35 := hs38 _ m_25
  have m_43 : (1 + d, 5) ∈ RL35 := hs38 _ p_22
  have c_44 : E34 (1 + d) 0 = .inr (7, [.int 0, .int 0, .int 0, .ref (ad33 (1 + d) 1), .null, .null, .null, .null, .null, .null, .null, .int 0]) := by rw [fE36 (1 + d) 0 (by omega), fA37 (1 + d) 1 (by omega)]; exact c_30
  have c_45 : E34 (1 + d) 1 = .inr (8, [.ref (ad33 (1 + d) 5), .int 0]) := by rw [fE36 (1 + d) 1 (by omega), fA37 (1 + d) 5 (by omega)]; exact c_31
  have c_46 : E34 (1 + d) 5 = .inl (kA 0, 6, .inl (fun _ => 0)) := by rw [fE36 (1 + d) 5 (by omega)]; exact c_32
  have m_40 : (1 + d, 9) ∈ RL35 := hm1
  have hP : va_P D xcl (rp ad33 E34 RL35) H := hP
  have hD : va_D A (rp ad33 E34 RL35) := hD
  refine px_putF (D := D) (ci := 7) (v := .ref (ad33 (1 + d) 9)) (ty := .array (.object "LayerDesk$Grant")) (C := xR_Ds) (T := xT_Ds) (N := 12) hx hb hT xi_Ds xt_Ds xt_Ds_ok xn_Ds hown hK.1 hP hD hS m_41 c_44 rfl 4 (by decide) (hT _ yq_20) (fun _ h9 => h9) rfl hin rfl (by decide +kernel) rfl rfl (Nat.le_of_ble_eq_true rfl) xd_Ds_init_23 (fun H locs hP hD hS => ?_)
  have hP : va_P D xcl (rp ad33 (up2 E34 (1 + d) 0 (.inr (7, [.int 0, .int 0, .int 0, .ref (ad33 (1 + d) 1), .ref (ad33 (1 + d) 9), .null, .null, .null, .null, .null, .null, .int 0]))) RL35) H := hP
  have hD : va_D A (rp ad33 (up2 E34 (1 + d) 0 (.inr (7, [.int 0, .int 0, .int 0, .ref (ad33 (1 + d) 1), .ref (ad33 (1 + d) 9), .null, .null, .null, .null, .null, .null, .int 0]))) RL35) := hD
  generalize hE48 : up2 E34 (1 + d) 0 (.inr (7, [.int 0, .int 0, .int 0, .ref (ad33 (1 + d) 1), .ref (ad33 (1 + d) 9), .null, .null, .null, .null, .null, .null, .int 0])) = E47 at hP hD
  have fE49 : ∀ b2 o2, ¬ (b2 = 1 + d ∧ o2 = 0) → E47 b2 o2 = E34 b2 o2 := fun b2 o2 h9 => by rw [← hE48]; exact up2_ne (by omega)
  have c_50 : E47 (1 + d) 0 = .inr (7, [.int 0, .int 0, .int 0, .ref (ad33 (1 + d) 1), .ref (ad33 (1 + d) 9), .null, .null, .null, .null, .null, .null, .int 0]) := by rw [← hE48]; exact up2_eq
  have c_51 : E47 (1 + d) 9 = .inl (kA 8, 6, .inr (.inr (.inr (.inr (fun _ => none))))) := (fE49 (1 + d) 9 (by omega)).trans c_39
  have c_52 : E47 (1 + d) 1 = .inr (8, [.ref (ad33 (1 + d) 5), .int 0]) := (fE49 (1 + d) 1 (by omega)).trans c_45
  have c_53 : E47 (1 + d) 5 = .inl (kA 0, 6, .inl (fun _ => 0)) := (fE49 (1 + d) 5 (by omega)).trans c_46
  refine lv_aload_n hx hb xd_Ds_init_26 rfl (lv_at hl 0 rfl) ?_
  refine lv_bipush (v := 6) hx hb xd_Ds_init_27 (by decide) ?_
  refine W.eq (g2 := F0 m 29 ls [.int (nI 6), .ref (ad33 (1 + d) 0)]) rfl ?_
  refine px_newq (C := "LayerDesk$Grant") (N' := 6) (1 + d) 10 hx hb hown (hT _ yq_19) hK.2.1.2.2.2.2.2.2.2.2 hK.1 8 rfl hP hD hS hA (by omega) (Nat.le_of_ble_eq_true rfl) (Nat.le_of_ble_eq_true rfl) (Nat.le_of_ble_eq_true rfl) xd_Ds_init_29 (fun ad54 E55 RL56 H hA1 hE1 hs1 hm1 hP hD hS => ?_)
  have fE57 : ∀ b2 o2, ¬ (b2 = 1 + d ∧ o2 = 10) → E55 b2 o2 = E47 b2 o2 := fun b2 o2 h9 => by rw [hE1]; exact up2_ne (by omega)
  have fA58 : ∀ b2 o2, ¬ (b2 = 1 + d ∧ o2 = 10) → ad54 b2 o2 = ad33 b2 o2 := fun b2 o2 h9 => by rw [hA1]; exact up2_ne (by omega)
  have hs59 := hs1
  refine W.eq (g2 := F0 m _ ls [.ref (ad54 (1 + d) 10), .ref (ad54 (1 + d) 0)]) (by rw [fA58 (1 + d) 0 (by omega)]) ?_
  have c_60 : E55 (1 + d) 10 = .inl (kA 8, 6, .inr (.inr (.inr (.inr (fun _ => none))))) := by rw [hE1]; exact up2_eq
  have hl : lv_has ls 4 [(0, .ref (ad54 (1 + d) 0)), (1, .int (nI d)), (2, .int fi), (3, .int nm)] := by
    rw [fA58 (1 + d) 0 (by omega)]; exact hl
  have m_62 : (1 + d, 0) ∈ RL56 := hs59 _ m_41
  have m_63 : (1 + d, 1) ∈ RL56 := hs59 _ m_42
  have m_64 : (1 + d, 5) ∈ RL56 := hs59 _ m_43
  have m_65 : (1 + d, 9) ∈ RL56 := hs59 _ m_40
  have c_66 : E55 (1 + d) 0 = .inr (7, [.int 0, .int 0, .int 0, .ref (ad54 (1 + d) 1), .ref (ad54 (1 + d) 9), .null, .null, .null, .null, .null, .null, .int 0]) := by rw [fE57 (1 + d) 0 (by omega), fA58 (1 + d) 1 (by omega), fA58 (1 + d) 9 (by omega)]; exact c_50
  have c_67 : E55 (1 + d) 9 = .inl (kA 8, 6, .inr (.inr (.inr (.inr (fun _ => none))))) := by rw [fE57 (1 + d) 9 (by omega)]; exact c_51
  have c_68 : E55 (1 + d) 1 = .inr (8, [.ref (ad54 (1 + d) 5), .int 0]) := by rw [fE57 (1 + d) 1 (by omega), fA58 (1 + d) 5 (by omega)]; exact c_52
  have c_69 : E55 (1 + d) 5 = .inl (kA 0, 6, .inl (fun _ => 0)) := by rw [fE57 (1 + d) 5 (by omega)]; exact c_53
  have m_61 : (1 + d, 10) ∈ RL56 := hm1
  have hP : va_P D xcl (rp ad54 E55 RL56) H := hP
  have hD : va_D A (rp ad54 E55 RL56) := hD
  refine px_putF (D := D) (ci := 7) (v := .ref (ad54 (1 + d) 10)) (ty := .array (.object "LayerDesk$Grant")) (C := xR_Ds) (T := xT_Ds) (N := 12) hx hb hT xi_Ds xt_Ds xt_Ds_ok xn_Ds hown hK.1 hP hD hS m_62 c_66 rfl 5 (by decide) (hT _ yq_21) (fun _ h9 => h9) rfl hin rfl (by decide +kernel) rfl rfl (Nat.le_of_ble_eq_true rfl) xd_Ds_init_32 (fun H locs hP hD hS => ?_)
  have hP : va_P D xcl (rp ad54 (up2 E55 (1 + d) 0 (.inr (7, [.int 0, .int 0, .int 0, .ref (ad54 (1 + d) 1), .ref (ad54 (1 + d) 9), .ref (ad54 (1 + d) 10), .null, .null, .null, .null, .null, .int 0]))) RL56) H := hP
  have hD : va_D A (rp ad54 (up2 E55 (1 + d) 0 (.inr (7, [.int 0, .int 0, .int 0, .ref (ad54 (1 + d) 1), .ref (ad54 (1 + d) 9), .ref (ad54 (1 + d) 10), .null, .null, .null, .null, .null, .int 0]))) RL56) := hD
  generalize hE71 : up2 E55 (1 + d) 0 (.inr (7, [.int 0, .int 0, .int 0, .ref (ad54 (1 + d) 1), .ref (ad54 (1 + d) 9), .ref (ad54 (1 + d) 10), .null, .null, .null, .null, .null, .int 0])) = E70 at hP hD
  have fE72 : ∀ b2 o2, ¬ (b2 = 1 + d ∧ o2 = 0) → E70 b2 o2 = E55 b2 o2 := fun b2 o2 h9 => by rw [← hE71]; exact up2_ne (by omega)
  have c_73 : E70 (1 + d) 0 = .inr (7, [.int 0, .int 0, .int 0, .ref (ad54 (1 + d) 1), .ref (ad54 (1 + d) 9), .ref (ad54 (1 + d) 10), .null, .null, .null, .null, .null, .int 0]) := by rw [← hE71]; exact up2_eq
  have c_74 : E70 (1 + d) 10 = .inl (kA 8, 6, .inr (.inr (.inr (.inr (fun _ => none))))) := (fE72 (1 + d) 10 (by omega)).trans c_60
  have c_75 : E70 (1 + d) 9 = .inl (kA 8, 6, .inr (.inr (.inr (.inr (fun _ => none))))) := (fE72 (1 + d) 9 (by omega)).trans c_67
  have c_76 : E70 (1 + d) 1 = .inr (8, [.ref (ad54 (1 + d) 5), .int 0]) := (fE72 (1 + d) 1 (by omega)).trans c_68
  have c_77 : E70 (1 + d) 5 = .inl (kA 0, 6, .inl (fun _ => 0)) := (fE72 (1 + d) 5 (by omega)).trans c_69
  refine lv_aload_n hx hb xd_Ds_init_35 rfl (lv_at hl 0 rfl) ?_
  refine px_new (ci := 8) (fs := [.null, .int 0]) (C := xR_Na) (T := xT_Na) (N := 2) (1 + d) 2 hx hb hT xi_Na xt_Na xt_Na_ok hown (hT _ yq_16) (hT _ yq_8) (hT _ yq_9) hK.1 hP hD hS hA rfl (by decide +kernel) (Nat.le_of_ble_eq_true rfl) (Nat.le_of_ble_eq_true rfl) xd_Ds_init_36 (fun ad78 E79 RL80 H hA1 hE1 hs1 hm1 hP hD hS => ?_)
  have fE81 : ∀ b2 o2, ¬ (b2 = 1 + d ∧ o2 = 2) → E79 b2 o2 = E70 b2 o2 := fun b2 o2 h9 => by rw [hE1]; exact up2_ne (by omega)
  have fA82 : ∀ b2 o2, ¬ (b2 = 1 + d ∧ o2 = 2) → ad78 b2 o2 = ad54 b2 o2 := fun b2 o2 h9 => by rw [hA1]; exact up2_ne (by omega)
  have hs83 := hs1
  refine W.eq (g2 := F0 m _ ls [.ref (ad78 (1 + d) 2), .ref (ad78 (1 + d) 0)]) (by rw [fA82 (1 + d) 0 (by omega)]) ?_
  have c_84 : E79 (1 + d) 2 = .inr (8, [.null, .int 0]) := by rw [hE1]; exact up2_eq
  have hl : lv_has ls 4 [(0, .ref (ad78 (1 + d) 0)), (1, .int (nI d)), (2, .int fi), (3, .int nm)] := by
    rw [fA82 (1 + d) 0 (by omega)]; exact hl
  have m_86 : (1 + d, 0) ∈ RL80 := hs83 _ m_62
  have m_87 : (1 + d, 1) ∈ RL80 := hs83 _ m_63
  have m_88 : (1 + d, 5) ∈ RL80 := hs83 _ m_64
  have m_89 : (1 + d, 9) ∈ RL80 := hs83 _ m_65
  have m_90 : (1 + d, 10) ∈ RL80 := hs83 _ m_61
  have c_91 : E79 (1 + d) 0 = .inr (7, [.int 0, .int 0, .int 0, .ref (ad78 (1 + d) 1), .ref (ad78 (1 + d) 9), .ref (ad78 (1 + d) 10), .null, .null, .null, .null, .null, .int 0]) := by rw [fE81 (1 + d) 0 (by omega), fA82 (1 + d) 1 (by omega), fA82 (1 + d) 9 (by omega), fA82 (1 + d) 10 (by omega)]; exact c_73
  have c_92 : E79 (1 + d) 10 = .inl (kA 8, 6, .inr (.inr (.inr (.inr (fun _ => none))))) := by rw [fE81 (1 + d) 10 (by omega)]; exact c_74
  have c_93 : E79 (1 + d) 9 = .inl (kA 8, 6, .inr (.inr (.inr (.inr (fun _ => none))))) := by rw [fE81 (1 + d) 9 (by omega)]; exact c_75
  have c_94 : E79 (1 + d) 1 = .inr (8, [.ref (ad78 (1 + d) 5), .int 0]) := by rw [fE81 (1 + d) 1 (by omega), fA82 (1 + d) 5 (by omega)]; exact c_76
  have c_95 : E79 (1 + d) 5 = .inl (kA 0, 6, .inl (fun _ => 0)) := by rw [fE81 (1 + d) 5 (by omega)]; exact c_77
  have m_85 : (1 + d, 2) ∈ RL80 := hm1
  have hP : va_P D xcl (rp ad78 E79 RL80) H := hP
  have hD : va_D A (rp ad78 E79 RL80) := hD
  refine lv_dup hx hb xd_Ds_init_39 rfl ?_
  refine lv_iconst (v := 5) hx hb xd_Ds_init_40 (by decide) ?_
  have hFc := px_free hD hS hA
  refine va_callv (va_runI (As := [.int 5]) (rest := [.ref (ad78 (1 + d) 2), .ref (ad78 (1 + d) 0)]) ⟨hx, hb, hml, hown, hT⟩ (xc_Na_init l D kA H.size ad78 E79 RL80 (1 + d) 2 6 5 m_85 c_84 (by first | assumption | omega) (by first | assumption | omega)) (cwI 1 hT (wT_I yq_10) rfl rfl rfl (hT _ yq_9) (hT _ yq_17) (hT _ yq_12) rfl (by decide +kernel) ⟨Nat.le_of_ble_eq_true rfl, Nat.le_of_ble_eq_true rfl⟩) (x_preS hK hP hD) rfl rfl hl.1 rfl (lv_room (Nat.le_of_ble_eq_true rfl)) xd_Ds_init_41 ⟨(Nat.le_of_ble_eq_true rfl), (Nat.le_of_ble_eq_true rfl)⟩) hS (fun q _ h => hFc q h) hFc (fun u97 t H1 locs ht hvm hp98 hB hz1 hk1 hS => ?_)
  obtain ⟨hP1, hD1⟩ := hB
  rw [ht] at hP1
  have hD1 := hD1.weaken (fun _ _ _ h => hFc _ h)
  generalize H1 = H at hP1 hS ⊢
  have hP := hP1
  have hD := hD1
  obtain ⟨ad99, E100, RL101⟩ := u97
  obtain ⟨hp108, p_102, p_103, p_104, p_105, p_106, p_107⟩ := hp98
  have p_102 : E100 (1 + d) 2 = .inr (8, [.ref (ad99 (1 + d) 6), .int 0]) := p_102
  have p_103 : E100 (1 + d) 6 = .inl (kA 0, 5, .inl (fun _ => 0)) := p_103
  have p_104 : (∀ b2 o2, ¬ (b2 = (1 + d) ∧ o2 = 2) → ¬ (b2 = (1 + d) ∧ o2 = 6) → E100 b2 o2 = E79 b2 o2) := p_104
  have p_105 : (∀ b2 o2, ¬ (b2 = (1 + d) ∧ o2 = 6) → ad99 b2 o2 = ad78 b2 o2) := p_105
  have p_106 : (∀ x ∈ RL80, x ∈ RL101) := p_106
  have p_107 : ((1 + d), 6) ∈ RL101 := p_107
  refine W.eq (g2 := F0 m 44 ls [.ref (ad99 (1 + d) 2), .ref (ad99 (1 + d) 0)]) (by rw [p_105 (1 + d) 2 (by omega), p_105 (1 + d) 0 (by omega)]) ?_
  have hl : lv_has ls 4 [(0, .ref (ad99 (1 + d) 0)), (1, .int (nI d)), (2, .int fi), (3, .int nm)] := by
    rw [p_105 (1 + d) 0 (by omega)]; exact hl
  have m_109 : (1 + d, 0) ∈ RL101 := p_106 _ m_86
  have m_110 : (1 + d, 1) ∈ RL101 := p_106 _ m_87
  have m_111 : (1 + d, 5) ∈ RL101 := p_106 _ m_88
  have m_112 : (1 + d, 9) ∈ RL101 := p_106 _ m_89
  have m_113 : (1 + d, 10) ∈ RL101 := p_106 _ m_90
  have m_114 : (1 + d, 2) ∈ RL101 := p_106 _ m_85
  have c_115 : E100 (1 + d) 0 = .inr (7, [.int 0, .int 0, .int 0, .ref (ad99 (1 + d) 1), .ref (ad99 (1 + d) 9), .ref (ad99 (1 + d) 10), .null, .null, .null, .null, .null, .int 0]) := by rw [p_104 (1 + d) 0 (by omega) (by omega), p_105 (1 + d) 1 (by omega), p_105 (1 + d) 9 (by omega), p_105 (1 + d) 10 (by omega)]; exact c_91
  have c_116 : E100 (1 + d) 10 = .inl (kA 8, 6, .inr (.inr (.inr (.inr (fun _ => none))))) := by rw [p_104 (1 + d) 10 (by omega) (by omega)]; exact c_92
  have c_117 : E100 (1 + d) 9 = .inl (kA 8, 6, .inr (.inr (.inr (.inr (fun _ => none))))) := by rw [p_104 (1 + d) 9 (by omega) (by omega)]; exact c_93
  have c_118 : E100 (1 + d) 1 = .inr (8, [.ref (ad99 (1 + d) 5), .int 0]) := by rw [p_104 (1 + d) 1 (by omega) (by omega), p_105 (1 + d) 5 (by omega)]; exact c_94
  have c_119 : E100 (1 + d) 5 = .inl (kA 0, 6, .inl (fun _ => 0)) := by rw [p_104 (1 + d) 5 (by omega) (by omega)]; exact c_95
  have hP : va_P D xcl (rp ad99 E100 RL101) H := hP
  have hD : va_D A (rp ad99 E100 RL101) := hD
  refine px_putF (D := D) (ci := 7) (v := .ref (ad99 (1 + d) 2)) (ty := .object "LayerDesk$Names") (C := xR_Ds) (T := xT_Ds) (N := 12) hx hb hT xi_Ds xt_Ds xt_Ds_ok xn_Ds hown hK.1 hP hD hS m_109 c_115 rfl 6 (by decide) (hT _ yq_22) (fun _ h9 => h9) rfl hin rfl (by decide +kernel) rfl rfl (Nat.le_of_ble_eq_true rfl) xd_Ds_init_44 (fun H locs hP hD hS => ?_)
  have hP : va_P D xcl (rp ad99 (up2 E100 (1 + d) 0 (.inr (7, [.int 0, .int 0, .int 0, .ref (ad99 (1 + d) 1), .ref (ad99 (1 + d) 9), .ref (ad99 (1 + d) 10), .ref (ad99 (1 + d) 2), .null, .null, .null, .null, .int 0]))) RL101) H := hP
  have hD : va_D A (rp ad99 (up2 E100 (1 + d) 0 (.inr (7, [.int 0, .int 0, .int 0, .ref (ad99 (1 + d) 1), .ref (ad99 (1 + d) 9), .ref (ad99 (1 + d) 10), .ref (ad99 (1 + d) 2), .null, .null, .null, .null, .int 0]))) RL101) := hD
  generalize hE121 : up2 E100 (1 + d) 0 (.inr (7, [.int 0, .int 0, .int 0, .ref (ad99 (1 + d) 1), .ref (ad99 (1 + d) 9), .ref (ad99 (1 + d) 10), .ref (ad99 (1 + d) 2), .null, .null, .null, .null, .int 0])) = E120 at hP hD
  have fE122 : ∀ b2 o2, ¬ (b2 = 1 + d ∧ o2 = 0) → E120 b2 o2 = E100 b2 o2 := fun b2 o2 h9 => by rw [← hE121]; exact up2_ne (by omega)
  have c_123 : E120 (1 + d) 0 = .inr (7, [.int 0, .int 0, .int 0, .ref (ad99 (1 + d) 1), .ref (ad99 (1 + d) 9), .ref (ad99 (1 + d) 10), .ref (ad99 (1 + d) 2), .null, .null, .null, .null, .int 0]) := by rw [← hE121]; exact up2_eq
  have c_124 : E120 (1 + d) 2 = .inr (8, [.ref (ad99 (1 + d) 6), .int 0]) := (fE122 (1 + d) 2 (by omega)).trans p_102
  have c_125 : E120 (1 + d) 6 = .inl (kA 0, 5, .inl (fun _ => 0)) := (fE122 (1 + d) 6 (by omega)).trans p_103
  have c_126 : E120 (1 + d) 10 = .inl (kA 8, 6, .inr (.inr (.inr (.inr (fun _ => none))))) := (fE122 (1 + d) 10 (by omega)).trans c_116
  have c_127 : E120 (1 + d) 9 = .inl (kA 8, 6, .inr (.inr (.inr (.inr (fun _ => none))))) := (fE122 (1 + d) 9 (by omega)).trans c_117
  have c_128 : E120 (1 + d) 1 = .inr (8, [.ref (ad99 (1 + d) 5), .int 0]) := (fE122 (1 + d) 1 (by omega)).trans c_118
  have c_129 : E120 (1 + d) 5 = .inl (kA 0, 6, .inl (fun _ => 0)) := (fE122 (1 + d) 5 (by omega)).trans c_119
  refine lv_aload_n hx hb xd_Ds_init_47 rfl (lv_at hl 0 rfl) ?_
  refine lv_iconst (v := 5) hx hb xd_Ds_init_48 (by decide) ?_
  refine W.eq (g2 := F0 m 49 ls [.int (nI 5), .ref (ad99 (1 + d) 0)]) rfl ?_
  refine px_newa (atype := .boolean) (a0 := (5, Sum.inl (fun _ => 0))) (ty := .boolean) (N' := 5) (1 + d) 11 hx hb (hT _ yq_23) rfl (fun _ h9 => h9) hK.1 2 rfl hP hD hS hA (fun _ => rfl) (by omega) (Nat.le_of_ble_eq_true rfl) (Nat.le_of_ble_eq_true rfl) (Nat.le_of_ble_eq_true rfl) xd_Ds_init_49 (fun ad130 E131 RL132 H hA1 hE1 hs1 hm1 hP hD hS => ?_)
  have fE133 : ∀ b2 o2, ¬ (b2 = 1 + d ∧ o2 = 11) → E131 b2 o2 = E120 b2 o2 := fun b2 o2 h9 => by rw [hE1]; exact up2_ne (by omega)
  have fA134 : ∀ b2 o2, ¬ (b2 = 1 + d ∧ o2 = 11) → ad130 b2 o2 = ad99 b2 o2 := fun b2 o2 h9 => by rw [hA1]; exact up2_ne (by omega)
  have hs135 := hs1
  refine W.eq (g2 := F0 m _ ls [.ref (ad130 (1 + d) 11), .ref (ad130 (1 + d) 0)]) (by rw [fA134 (1 + d) 0 (by omega)]) ?_
  have c_136 : E131 (1 + d) 11 = .inl (kA 2, 5, .inl (fun _ => 0)) := by rw [hE1]; exact up2_eq
  have hl : lv_has ls 4 [(0, .ref (ad130 (1 + d) 0)), (1, .int (nI d)), (2, .int fi), (3, .int nm)] := by
    rw [fA134 (1 + d) 0 (by omega)]; exact hl
  have m_138 : (1 + d, 0) ∈ RL132 := hs135 _ m_109
  have m_139 : (1 + d, 1) ∈ RL132 := hs135 _ m_110
  have m_140 : (1 + d, 5) ∈ RL132 := hs135 _ m_111
  have m_141 : (1 + d, 9) ∈ RL132 := hs135 _ m_112
  have m_142 : (1 + d, 10) ∈ RL132 := hs135 _ m_113
  have m_143 : (1 + d, 2) ∈ RL132 := hs135 _ m_114
  have m_144 : (1 + d, 6) ∈ RL132 := hs135 _ p_107
  have c_145 : E131 (1 + d) 0 = .inr (7, [.int 0, .int 0, .int 0, .ref (ad130 (1 + d) 1), .ref (ad130 (1 + d) 9), .ref (ad130 (1 + d) 10), .ref (ad130 (1 + d) 2), .null, .null, .null, .null, .int 0]) := by rw [fE133 (1 + d) 0 (by omega), fA134 (1 + d) 1 (by omega), fA134 (1 + d) 9 (by omega), fA134 (1 + d) 10 (by omega), fA134 (1 + d) 2 (by omega)]; exact c_123
  have c_146 : E131 (1 + d) 2 = .inr (8, [.ref (ad130 (1 + d) 6), .int 0]) := by rw [fE133 (1 + d) 2 (by omega), fA134 (1 + d) 6 (by omega)]; exact c_124
  have c_147 : E131 (1 + d) 6 = .inl (kA 0, 5, .inl (fun _ => 0)) := by rw [fE133 (1 + d) 6 (by omega)]; exact c_125
  have c_148 : E131 (1 + d) 10 = .inl (kA 8, 6, .inr (.inr (.inr (.inr (fun _ => none))))) := by rw [fE133 (1 + d) 10 (by omega)]; exact c_126
  have c_149 : E131 (1 + d) 9 = .inl (kA 8, 6, .inr (.inr (.inr (.inr (fun _ => none))))) := by rw [fE133 (1 + d) 9 (by omega)]; exact c_127
  have c_150 : E131 (1 + d) 1 = .inr (8, [.ref (ad130 (1 + d) 5), .int 0]) := by rw [fE133 (1 + d) 1 (by omega), fA134 (1 + d) 5 (by omega)]; exact c_128
  have c_151 : E131 (1 + d) 5 = .inl (kA 0, 6, .inl (fun _ => 0)) := by rw [fE133 (1 + d) 5 (by omega)]; exact c_129
  have m_137 : (1 + d, 11) ∈ RL132 := hm1
  have hP : va_P D xcl (rp ad130 E131 RL132) H := hP
  have hD : va_D A (rp ad130 E131 RL132) := hD
  refine px_putF (D := D) (ci := 7) (v := .ref (ad130 (1 + d) 11)) (ty := .array .boolean) (C := xR_Ds) (T := xT_Ds) (N := 12) hx hb hT xi_Ds xt_Ds xt_Ds_ok xn_Ds hown hK.1 hP hD hS m_138 c_145 rfl 7 (by decide) (hT _ yq_24) (fun _ h9 => h9) rfl hin rfl (by decide +kernel) rfl rfl (Nat.le_of_ble_eq_true rfl) xd_Ds_init_51 (fun H locs hP hD hS => ?_)
  have hP : va_P D xcl (rp ad130 (up2 E131 (1 + d) 0 (.inr (7, [.int 0, .int 0, .int 0, .ref (ad130 (1 + d) 1), .ref (ad130 (1 + d) 9), .ref (ad130 (1 + d) 10), .ref (ad130 (1 + d) 2), .ref (ad130 (1 + d) 11), .null, .null, .null, .int 0]))) RL132) H := hP
  have hD : va_D A (rp ad130 (up2 E131 (1 + d) 0 (.inr (7, [.int 0, .int 0, .int 0, .ref (ad130 (1 + d) 1), .ref (ad130 (1 + d) 9), .ref (ad130 (1 + d) 10), .ref (ad130 (1 + d) 2), .ref (ad130 (1 + d) 11), .null, .null, .null, .int 0]))) RL132) := hD
  generalize hE153 : up2 E131 (1 + d) 0 (.inr (7, [.int 0, .int 0, .int 0, .ref (ad130 (1 + d) 1), .ref (ad130 (1 + d) 9), .ref (ad130 (1 + d) 10), .ref (ad130 (1 + d) 2), .ref (ad130 (1 + d) 11), .null, .null, .null, .int 0])) = E152 at hP hD
  have fE154 : ∀ b2 o2, ¬ (b2 = 1 + d ∧ o2 = 0) → E152 b2 o2 = E131 b2 o2 := fun b2 o2 h9 => by rw [← hE153]; exact up2_ne (by omega)
  have c_155 : E152 (1 + d) 0 = .inr (7, [.int 0, .int 0, .int 0, .ref (ad130 (1 + d) 1), .ref (ad130 (1 + d) 9), .ref (ad130 (1 + d) 10), .ref (ad130 (1 + d) 2), .ref (ad130 (1 + d) 11), .null, .null, .null, .int 0]) := by rw [← hE153]; exact up2_eq
  have c_156 : E152 (1 + d) 11 = .inl (kA 2, 5, .inl (fun _ => 0)) := (fE154 (1 + d) 11 (by omega)).trans c_136
  have c_157 : E152 (1 + d) 2 = .inr (8, [.ref (ad130 (1 + d) 6), .int 0]) := (fE154 (1 + d) 2 (by omega)).trans c_146
  have c_158 : E152 (1 + d) 6 = .inl (kA 0, 5, .inl (fun _ => 0)) := (fE154 (1 + d) 6 (by omega)).trans c_147
  have c_159 : E152 (1 + d) 10 = .inl (kA 8, 6, .inr (.inr (.inr (.inr (fun _ => none))))) := (fE154 (1 + d) 10 (by omega)).trans c_148
  have c_160 : E152 (1 + d) 9 = .inl (kA 8, 6, .inr (.inr (.inr (.inr (fun _ => none))))) := (fE154 (1 + d) 9 (by omega)).trans c_149
  have c_161 : E152 (1 + d) 1 = .inr (8, [.ref (ad130 (1 + d) 5), .int 0]) := (fE154 (1 + d) 1 (by omega)).trans c_150
  have c_162 : E152 (1 + d) 5 = .inl (kA 0, 6, .inl (fun _ => 0)) := (fE154 (1 + d) 5 (by omega)).trans c_151
  refine lv_aload_n hx hb xd_Ds_init_54 rfl (lv_at hl 0 rfl) ?_
  refine lv_iconst (v := 5) hx hb xd_Ds_init_55 (by decide) ?_
  refine W.eq (g2 := F0 m 56 ls [.int (nI 5), .ref (ad130 (1 + d) 0)]) rfl ?_
  refine px_newa (atype := .boolean) (a0 := (5, Sum.inl (fun _ => 0))) (ty := .boolean) (N' := 5) (1 + d) 12 hx hb (hT _ yq_23) rfl (fun _ h9 => h9) hK.1 2 rfl hP hD hS hA (fun _ => rfl) (by omega) (Nat.le_of_ble_eq_true rfl) (Nat.le_of_ble_eq_true rfl) (Nat.le_of_ble_eq_true rfl) xd_Ds_init_56 (fun ad163 E164 RL165 H hA1 hE1 hs1 hm1 hP hD hS => ?_)
  have fE166 : ∀ b2 o2, ¬ (b2 = 1 + d ∧ o2 = 12) → E164 b2 o2 = E152 b2 o2 := fun b2 o2 h9 => by rw [hE1]; exact up2_ne (by omega)
  have fA167 : ∀ b2 o2, ¬ (b2 = 1 + d ∧ o2 = 12) → ad163 b2 o2 = ad130 b2 o2 := fun b2 o2 h9 => by rw [hA1]; exact up2_ne (by omega)
  have hs168 := hs1
  refine W.eq (g2 := F0 m _ ls [.ref (ad163 (1 + d) 12), .ref (ad163 (1 + d) 0)]) (by rw [fA167 (1 + d) 0 (by omega)]) ?_
  have c_169 : E164 (1 + d) 12 = .inl (kA 2, 5, .inl (fun _ => 0)) := by rw [hE1]; exact up2_eq
  have hl : lv_has ls 4 [(0, .ref (ad163 (1 + d) 0)), (1, .int (nI d)), (2, .int fi), (3, .int nm)] := by
    rw [fA167 (1 + d) 0 (by omega)]; exact hl
  have m_171 : (1 + d, 0) ∈ RL165 := hs168 _ m_138
  have m_172 : (1 + d, 1) ∈ RL165 := hs168 _ m_139
  have m_173 : (1 + d, 5) ∈ RL165 := hs168 _ m_140
  have m_174 : (1 + d, 9) ∈ RL165 := hs168 _ m_141
  have m_175 : (1 + d, 10) ∈ RL165 := hs168 _ m_142
  have m_176 : (1 + d, 2) ∈ RL165 := hs168 _ m_143
  have m_177 : (1 + d, 6) ∈ RL165 := hs168 _ m_144
  have m_178 : (1 + d, 11) ∈ RL165 := hs168 _ m_137
  have c_179 : E164 (1 + d) 0 = .inr (7, [.int 0, .int 0, .int 0, .ref (ad163 (1 + d) 1), .ref (ad163 (1 + d) 9), .ref (ad163 (1 + d) 10), .ref (ad163 (1 + d) 2), .ref (ad163 (1 + d) 11), .null, .null, .null, .int 0]) := by rw [fE166 (1 + d) 0 (by omega), fA167 (1 + d) 1 (by omega), fA167 (1 + d) 9 (by omega), fA167 (1 + d) 10 (by omega), fA167 (1 + d) 2 (by omega), fA167 (1 + d) 11 (by omega)]; exact c_155
  have c_180 : E164 (1 + d) 11 = .inl (kA 2, 5, .inl (fun _ => 0)) := by rw [fE166 (1 + d) 11 (by omega)]; exact c_156
  have c_181 : E164 (1 + d) 2 = .inr (8, [.ref (ad163 (1 + d) 6), .int 0]) := by rw [fE166 (1 + d) 2 (by omega), fA167 (1 + d) 6 (by omega)]; exact c_157
  have c_182 : E164 (1 + d) 6 = .inl (kA 0, 5, .inl (fun _ => 0)) := by rw [fE166 (1 + d) 6 (by omega)]; exact c_158
  have c_183 : E164 (1 + d) 10 = .inl (kA 8, 6, .inr (.inr (.inr (.inr (fun _ => none))))) := by rw [fE166 (1 + d) 10 (by omega)]; exact c_159
  have c_184 : E164 (1 + d) 9 = .inl (kA 8, 6, .inr (.inr (.inr (.inr (fun _ => none))))) := by rw [fE166 (1 + d) 9 (by omega)]; exact c_160
  have c_185 : E164 (1 + d) 1 = .inr (8, [.ref (ad163 (1 + d) 5), .int 0]) := by rw [fE166 (1 + d) 1 (by omega), fA167 (1 + d) 5 (by omega)]; exact c_161
  have c_186 : E164 (1 + d) 5 = .inl (kA 0, 6, .inl (fun _ => 0)) := by rw [fE166 (1 + d) 5 (by omega)]; exact c_162
  have m_170 : (1 + d, 12) ∈ RL165 := hm1
  have hP : va_P D xcl (rp ad163 E164 RL165) H := hP
  have hD : va_D A (rp ad163 E164 RL165) := hD
  refine px_putF (D := D) (ci := 7) (v := .ref (ad163 (1 + d) 12)) (ty := .array .boolean) (C := xR_Ds) (T := xT_Ds) (N := 12) hx hb hT xi_Ds xt_Ds xt_Ds_ok xn_Ds hown hK.1 hP hD hS m_171 c_179 rfl 8 (by decide) (hT _ yq_25) (fun _ h9 => h9) rfl hin rfl (by decide +kernel) rfl rfl (Nat.le_of_ble_eq_true rfl) xd_Ds_init_58 (fun H locs hP hD hS => ?_)
  have hP : va_P D xcl (rp ad163 (up2 E164 (1 + d) 0 (.inr (7, [.int 0, .int 0, .int 0, .ref (ad163 (1 + d) 1), .ref (ad163 (1 + d) 9), .ref (ad163 (1 + d) 10), .ref (ad163 (1 + d) 2), .ref (ad163 (1 + d) 11), .ref (ad163 (1 + d) 12), .null, .null, .int 0]))) RL165) H := hP
  have hD : va_D A (rp ad163 (up2 E164 (1 + d) 0 (.inr (7, [.int 0, .int 0, .int 0, .ref (ad163 (1 + d) 1), .ref (ad163 (1 + d) 9), .ref (ad163 (1 + d) 10), .ref (ad163 (1 + d) 2), .ref (ad163 (1 + d) 11), .ref (ad163 (1 + d) 12), .null, .null, .int 0]))) RL165) := hD
  generalize hE188 : up2 E164 (1 + d) 0 (.inr (7, [.int 0, .int 0, .int 0, .ref (ad163 (1 + d) 1), .ref (ad163 (1 + d) 9), .ref (ad163 (1 + d) 10), .ref (ad163 (1 + d) 2), .ref (ad163 (1 + d) 11), .ref (ad163 (1 + d) 12), .null, .null, .int 0])) = E187 at hP hD
  have fE189 : ∀ b2 o2, ¬ (b2 = 1 + d ∧ o2 = 0) → E187 b2 o2 = E164 b2 o2 := fun b2 o2 h9 => by rw [← hE188]; exact up2_ne (by omega)
  have c_190 : E187 (1 + d) 0 = .inr (7, [.int 0, .int 0, .int 0, .ref (ad163 (1 + d) 1), .ref (ad163 (1 + d) 9), .ref (ad163 (1 + d) 10), .ref (ad163 (1 + d) 2), .ref (ad163 (1 + d) 11), .ref (ad163 (1 + d) 12), .null, .null, .int 0]) := by rw [← hE188]; exact up2_eq
  have c_191 : E187 (1 + d) 12 = .inl (kA 2, 5, .inl (fun _ => 0)) := (fE189 (1 + d) 12 (by omega)).trans c_169
  have c_192 : E187 (1 + d) 11 = .inl (kA 2, 5, .inl (fun _ => 0)) := (fE189 (1 + d) 11 (by omega)).trans c_180
  have c_193 : E187 (1 + d) 2 = .inr (8, [.ref (ad163 (1 + d) 6), .int 0]) := (fE189 (1 + d) 2 (by omega)).trans c_181
  have c_194 : E187 (1 + d) 6 = .inl (kA 0, 5, .inl (fun _ => 0)) := (fE189 (1 + d) 6 (by omega)).trans c_182
  have c_195 : E187 (1 + d) 10 = .inl (kA 8, 6, .inr (.inr (.inr (.inr (fun _ => none))))) := (fE189 (1 + d) 10 (by omega)).trans c_183
  have c_196 : E187 (1 + d) 9 = .inl (kA 8, 6, .inr (.inr (.inr (.inr (fun _ => none))))) := (fE189 (1 + d) 9 (by omega)).trans c_184
  have c_197 : E187 (1 + d) 1 = .inr (8, [.ref (ad163 (1 + d) 5), .int 0]) := (fE189 (1 + d) 1 (by omega)).trans c_185
  have c_198 : E187 (1 + d) 5 = .inl (kA 0, 6, .inl (fun _ => 0)) := (fE189 (1 + d) 5 (by omega)).trans c_186
  refine lv_aload_n hx hb xd_Ds_init_61 rfl (lv_at hl 0 rfl) ?_
  refine px_new (ci := 8) (fs := [.null, .int 0]) (C := xR_Na) (T := xT_Na) (N := 2) (1 + d) 3 hx hb hT xi_Na xt_Na xt_Na_ok hown (hT _ yq_16) (hT _ yq_8) (hT _ yq_9) hK.1 hP hD hS hA rfl (by decide +kernel) (Nat.le_of_ble_eq_true rfl) (Nat.le_of_ble_eq_true rfl) xd_Ds_init_62 (fun ad199 E200 RL201 H hA1 hE1 hs1 hm1 hP hD hS => ?_)
  have fE202 : ∀ b2 o2, ¬ (b2 = 1 + d ∧ o2 = 3) → E200 b2 o2 = E187 b2 o2 := fun b2 o2 h9 => by rw [hE1]; exact up2_ne (by omega)
  have fA203 : ∀ b2 o2, ¬ (b2 = 1 + d ∧ o2 = 3) → ad199 b2 o2 = ad163 b2 o2 := fun b2 o2 h9 => by rw [hA1]; exact up2_ne (by omega)
  have hs204 := hs1
  refine W.eq (g2 := F0 m _ ls [.ref (ad199 (1 + d) 3), .ref (ad199 (1 + d) 0)]) (by rw [fA203 (1 + d) 0 (by omega)]) ?_
  have c_205 : E200 (1 + d) 3 = .inr (8, [.null, .int 0]) := by rw [hE1]; exact up2_eq
  have hl : lv_has ls 4 [(0, .ref (ad199 (1 + d) 0)), (1, .int (nI d)), (2, .int fi), (3, .int nm)] := by
    rw [fA203 (1 + d) 0 (by omega)]; exact hl
  have m_207 : (1 + d, 0) ∈ RL201 := hs204 _ m_171
  have m_208 : (1 + d, 1) ∈ RL201 := hs204 _ m_172
  have m_209 : (1 + d, 5) ∈ RL201 := hs204 _ m_173
  have m_210 : (1 + d, 9) ∈ RL201 := hs204 _ m_174
  have m_211 : (1 + d, 10) ∈ RL201 := hs204 _ m_175
  have m_212 : (1 + d, 2) ∈ RL201 := hs204 _ m_176
  have m_213 : (1 + d, 6) ∈ RL201 := hs204 _ m_177
  have m_214 : (1 + d, 11) ∈ RL201 := hs204 _ m_178
  have m_215 : (1 + d, 12) ∈ RL201 := hs204 _ m_170
  have c_216 : E200 (1 + d) 0 = .inr (7, [.int 0, .int 0, .int 0, .ref (ad199 (1 + d) 1), .ref (ad199 (1 + d) 9), .ref (ad199 (1 + d) 10), .ref (ad199 (1 + d) 2), .ref (ad199 (1 + d) 11), .ref (ad199 (1 + d) 12), .null, .null, .int 0]) := by rw [fE202 (1 + d) 0 (by omega), fA203 (1 + d) 1 (by omega), fA203 (1 + d) 9 (by omega), fA203 (1 + d) 10 (by omega), fA203 (1 + d) 2 (by omega), fA203 (1 + d) 11 (by omega), fA203 (1 + d) 12 (by omega)]; exact c_190
  have c_217 : E200 (1 + d) 12 = .inl (kA 2, 5, .inl (fun _ => 0)) := by rw [fE202 (1 + d) 12 (by omega)]; exact c_191
  have c_218 : E200 (1 + d) 11 = .inl (kA 2, 5, .inl (fun _ => 0)) := by rw [fE202 (1 + d) 11 (by omega)]; exact c_192
  have c_219 : E200 (1 + d) 2 = .inr (8, [.ref (ad199 (1 + d) 6), .int 0]) := by rw [fE202 (1 + d) 2 (by omega), fA203 (1 + d) 6 (by omega)]; exact c_193
  have c_220 : E200 (1 + d) 6 = .inl (kA 0, 5, .inl (fun _ => 0)) := by rw [fE202 (1 + d) 6 (by omega)]; exact c_194
  have c_221 : E200 (1 + d) 10 = .inl (kA 8, 6, .inr (.inr (.inr (.inr (fun _ => none))))) := by rw [fE202 (1 + d) 10 (by omega)]; exact c_195
  have c_222 : E200 (1 + d) 9 = .inl (kA 8, 6, .inr (.inr (.inr (.inr (fun _ => none))))) := by rw [fE202 (1 + d) 9 (by omega)]; exact c_196
  have c_223 : E200 (1 + d) 1 = .inr (8, [.ref (ad199 (1 + d) 5), .int 0]) := by rw [fE202 (1 + d) 1 (by omega), fA203 (1 + d) 5 (by omega)]; exact c_197
  have c_224 : E200 (1 + d) 5 = .inl (kA 0, 6, .inl (fun _ => 0)) := by rw [fE202 (1 + d) 5 (by omega)]; exact c_198
  have m_206 : (1 + d, 3) ∈ RL201 := hm1
  have hP : va_P D xcl (rp ad199 E200 RL201) H := hP
  have hD : va_D A (rp ad199 E200 RL201) := hD
  refine lv_dup hx hb xd_Ds_init_65 rfl ?_
  refine lv_iconst (v := 3) hx hb xd_Ds_init_66 (by decide) ?_
  have hFc := px_free hD hS hA
  refine va_callv (va_runI (As := [.int 3]) (rest := [.ref (ad199 (1 + d) 3), .ref (ad199 (1 + d) 0)]) ⟨hx, hb, hml, hown, hT⟩ (xc_Na_init l D kA H.size ad199 E200 RL201 (1 + d) 3 7 3 m_206 c_205 (by first | assumption | omega) (by first | assumption | omega)) (cwI 1 hT (wT_I yq_10) rfl rfl rfl (hT _ yq_9) (hT _ yq_17) (hT _ yq_12) rfl (by decide +kernel) ⟨Nat.le_of_ble_eq_true rfl, Nat.le_of_ble_eq_true rfl⟩) (x_preS hK hP hD) rfl rfl hl.1 rfl (lv_room (Nat.le_of_ble_eq_true rfl)) xd_Ds_init_67 ⟨(Nat.le_of_ble_eq_true rfl), (Nat.le_of_ble_eq_true rfl)⟩) hS (fun q _ h => hFc q h) hFc (fun u226 t H1 locs ht hvm hp227 hB hz1 hk1 hS => ?_)
  obtain ⟨hP1, hD1⟩ := hB
  rw [ht] at hP1
  have hD1 := hD1.weaken (fun _ _ _ h => hFc _ h)
  generalize H1 = H at hP1 hS ⊢
  have hP := hP1
  have hD := hD1
  obtain ⟨ad228, E229, RL230⟩ := u226
  obtain ⟨hp237, p_231, p_232, p_233, p_234, p_235, p_236⟩ := hp227
  have p_231 : E229 (1 + d) 3 = .inr (8, [.ref (ad228 (1 + d) 7), .int 0]) := p_231
  have p_232 : E229 (1 + d) 7 = .inl (kA 0, 3, .inl (fun _ => 0)) := p_232
  have p_233 : (∀ b2 o2, ¬ (b2 = (1 + d) ∧ o2 = 3) → ¬ (b2 = (1 + d) ∧ o2 = 7) → E229 b2 o2 = E200 b2 o2) := p_233
  have p_234 : (∀ b2 o2, ¬ (b2 = (1 + d) ∧ o2 = 7) → ad228 b2 o2 = ad199 b2 o2) := p_234
  have p_235 : (∀ x ∈ RL201, x ∈ RL230) := p_235
  have p_236 : ((1 + d), 7) ∈ RL230 := p_236
  refine W.eq (g2 := F0 m 70 ls [.ref (ad228 (1 + d) 3), .ref (ad228 (1 + d) 0)]) (by rw [p_234 (1 + d) 3 (by omega), p_234 (1 + d) 0 (by omega)]) ?_
  have hl : lv_has ls 4 [(0, .ref (ad228 (1 + d) 0)), (1, .int (nI d)), (2, .int fi), (3, .int nm)] := by
    rw [p_234 (1 + d) 0 (by omega)]; exact hl
  have m_238 : (1 + d, 0) ∈ RL230 := p_235 _ m_207
  have m_239 : (1 + d, 1) ∈ RL230 := p_235 _ m_208
  have m_240 : (1 + d, 5) ∈ RL230 := p_235 _ m_209
  have m_241 : (1 + d, 9) ∈ RL230 := p_235 _ m_210
  have m_242 : (1 + d, 10) ∈ RL230 := p_235 _ m_211
  have m_243 : (1 + d, 2) ∈ RL230 := p_235 _ m_212
  have m_244 : (1 + d, 6) ∈ RL230 := p_235 _ m_213
  have m_245 : (1 + d, 11) ∈ RL230 := p_235 _ m_214
  have m_246 : (1 + d, 12) ∈ RL230 := p_235 _ m_215
  have m_247 : (1 + d, 3) ∈ RL230 := p_235 _ m_206
  have c_248 : E229 (1 + d) 0 = .inr (7, [.int 0, .int 0, .int 0, .ref (ad228 (1 + d) 1), .ref (ad228 (1 + d) 9), .ref (ad228 (1 + d) 10), .ref (ad228 (1 + d) 2), .ref (ad228 (1 + d) 11), .ref (ad228 (1 + d) 12), .null, .null, .int 0]) := by rw [p_233 (1 + d) 0 (by omega) (by omega), p_234 (1 + d) 1 (by omega), p_234 (1 + d) 9 (by omega), p_234 (1 + d) 10 (by omega), p_234 (1 + d) 2 (by omega), p_234 (1 + d) 11 (by omega), p_234 (1 + d) 12 (by omega)]; exact c_216
  have c_249 : E229 (1 + d) 12 = .inl (kA 2, 5, .inl (fun _ => 0)) := by rw [p_233 (1 + d) 12 (by omega) (by omega)]; exact c_217
  have c_250 : E229 (1 + d) 11 = .inl (kA 2, 5, .inl (fun _ => 0)) := by rw [p_233 (1 + d) 11 (by omega) (by omega)]; exact c_218
  have c_251 : E229 (1 + d) 2 = .inr (8, [.ref (ad228 (1 + d) 6), .int 0]) := by rw [p_233 (1 + d) 2 (by omega) (by omega), p_234 (1 + d) 6 (by omega)]; exact c_219
  have c_252 : E229 (1 + d) 6 = .inl (kA 0, 5, .inl (fun _ => 0)) := by rw [p_233 (1 + d) 6 (by omega) (by omega)]; exact c_220
  have c_253 : E229 (1 + d) 10 = .inl (kA 8, 6, .inr (.inr (.inr (.inr (fun _ => none))))) := by rw [p_233 (1 + d) 10 (by omega) (by omega)]; exact c_221
  have c_254 : E229 (1 + d) 9 = .inl (kA 8, 6, .inr (.inr (.inr (.inr (fun _ => none))))) := by rw [p_233 (1 + d) 9 (by omega) (by omega)]; exact c_222
  have c_255 : E229 (1 + d) 1 = .inr (8, [.ref (ad228 (1 + d) 5), .int 0]) := by rw [p_233 (1 + d) 1 (by omega) (by omega), p_234 (1 + d) 5 (by omega)]; exact c_223
  have c_256 : E229 (1 + d) 5 = .inl (kA 0, 6, .inl (fun _ => 0)) := by rw [p_233 (1 + d) 5 (by omega) (by omega)]; exact c_224
  have hP : va_P D xcl (rp ad228 E229 RL230) H := hP
  have hD : va_D A (rp ad228 E229 RL230) := hD
  refine px_putF (D := D) (ci := 7) (v := .ref (ad228 (1 + d) 3)) (ty := .object "LayerDesk$Names") (C := xR_Ds) (T := xT_Ds) (N := 12) hx hb hT xi_Ds xt_Ds xt_Ds_ok xn_Ds hown hK.1 hP hD hS m_238 c_248 rfl 9 (by decide) (hT _ yq_26) (fun _ h9 => h9) rfl hin rfl (by decide +kernel) rfl rfl (Nat.le_of_ble_eq_true rfl) xd_Ds_init_70 (fun H locs hP hD hS => ?_)
  have hP : va_P D xcl (rp ad228 (up2 E229 (1 + d) 0 (.inr (7, [.int 0, .int 0, .int 0, .ref (ad228 (1 + d) 1), .ref (ad228 (1 + d) 9), .ref (ad228 (1 + d) 10), .ref (ad228 (1 + d) 2), .ref (ad228 (1 + d) 11), .ref (ad228 (1 + d) 12), .ref (ad228 (1 + d) 3), .null, .int 0]))) RL230) H := hP
  have hD : va_D A (rp ad228 (up2 E229 (1 + d) 0 (.inr (7, [.int 0, .int 0, .int 0, .ref (ad228 (1 + d) 1), .ref (ad228 (1 + d) 9), .ref (ad228 (1 + d) 10), .ref (ad228 (1 + d) 2), .ref (ad228 (1 + d) 11), .ref (ad228 (1 + d) 12), .ref (ad228 (1 + d) 3), .null, .int 0]))) RL230) := hD
  generalize hE258 : up2 E229 (1 + d) 0 (.inr (7, [.int 0, .int 0, .int 0, .ref (ad228 (1 + d) 1), .ref (ad228 (1 + d) 9), .ref (ad228 (1 + d) 10), .ref (ad228 (1 + d) 2), .ref (ad228 (1 + d) 11), .ref (ad228 (1 + d) 12), .ref (ad228 (1 + d) 3), .null, .int 0])) = E257 at hP hD
  have fE259 : ∀ b2 o2, ¬ (b2 = 1 + d ∧ o2 = 0) → E257 b2 o2 = E229 b2 o2 := fun b2 o2 h9 => by rw [← hE258]; exact up2_ne (by omega)
  have c_260 : E257 (1 + d) 0 = .inr (7, [.int 0, .int 0, .int 0, .ref (ad228 (1 + d) 1), .ref (ad228 (1 + d) 9), .ref (ad228 (1 + d) 10), .ref (ad228 (1 + d) 2), .ref (ad228 (1 + d) 11), .ref (ad228 (1 + d) 12), .ref (ad228 (1 + d) 3), .null, .int 0]) := by rw [← hE258]; exact up2_eq
  have c_261 : E257 (1 + d) 3 = .inr (8, [.ref (ad228 (1 + d) 7), .int 0]) := (fE259 (1 + d) 3 (by omega)).trans p_231
  have c_262 : E257 (1 + d) 7 = .inl (kA 0, 3, .inl (fun _ => 0)) := (fE259 (1 + d) 7 (by omega)).trans p_232
  have c_263 : E257 (1 + d) 12 = .inl (kA 2, 5, .inl (fun _ => 0)) := (fE259 (1 + d) 12 (by omega)).trans c_249
  have c_264 : E257 (1 + d) 11 = .inl (kA 2, 5, .inl (fun _ => 0)) := (fE259 (1 + d) 11 (by omega)).trans c_250
  have c_265 : E257 (1 + d) 2 = .inr (8, [.ref (ad228 (1 + d) 6), .int 0]) := (fE259 (1 + d) 2 (by omega)).trans c_251
  have c_266 : E257 (1 + d) 6 = .inl (kA 0, 5, .inl (fun _ => 0)) := (fE259 (1 + d) 6 (by omega)).trans c_252
  have c_267 : E257 (1 + d) 10 = .inl (kA 8, 6, .inr (.inr (.inr (.inr (fun _ => none))))) := (fE259 (1 + d) 10 (by omega)).trans c_253
  have c_268 : E257 (1 + d) 9 = .inl (kA 8, 6, .inr (.inr (.inr (.inr (fun _ => none))))) := (fE259 (1 + d) 9 (by omega)).trans c_254
  have c_269 : E257 (1 + d) 1 = .inr (8, [.ref (ad228 (1 + d) 5), .int 0]) := (fE259 (1 + d) 1 (by omega)).trans c_255
  have c_270 : E257 (1 + d) 5 = .inl (kA 0, 6, .inl (fun _ => 0)) := (fE259 (1 + d) 5 (by omega)).trans c_256
  refine lv_aload_n hx hb xd_Ds_init_73 rfl (lv_at hl 0 rfl) ?_
  refine px_new (ci := 8) (fs := [.null, .int 0]) (C := xR_Na) (T := xT_Na) (N := 2) (1 + d) 4 hx hb hT xi_Na xt_Na xt_Na_ok hown (hT _ yq_16) (hT _ yq_8) (hT _ yq_9) hK.1 hP hD hS hA rfl (by decide +kernel) (Nat.le_of_ble_eq_true rfl) (Nat.le_of_ble_eq_true rfl) xd_Ds_init_74 (fun ad271 E272 RL273 H hA1 hE1 hs1 hm1 hP hD hS => ?_)
  have fE274 : ∀ b2 o2, ¬ (b2 = 1 + d ∧ o2 = 4) → E272 b2 o2 = E257 b2 o2 := fun b2 o2 h9 => by rw [hE1]; exact up2_ne (by omega)
  have fA275 : ∀ b2 o2, ¬ (b2 = 1 + d ∧ o2 = 4) → ad271 b2 o2 = ad228 b2 o2 := fun b2 o2 h9 => by rw [hA1]; exact up2_ne (by omega)
  have hs276 := hs1
  refine W.eq (g2 := F0 m _ ls [.ref (ad271 (1 + d) 4), .ref (ad271 (1 + d) 0)]) (by rw [fA275 (1 + d) 0 (by omega)]) ?_
  have c_277 : E272 (1 + d) 4 = .inr (8, [.null, .int 0]) := by rw [hE1]; exact up2_eq
  have hl : lv_has ls 4 [(0, .ref (ad271 (1 + d) 0)), (1, .int (nI d)), (2, .int fi), (3, .int nm)] := by
    rw [fA275 (1 + d) 0 (by omega)]; exact hl
  have m_279 : (1 + d, 0) ∈ RL273 := hs276 _ m_238
  have m_280 : (1 + d, 1) ∈ RL273 := hs276 _ m_239
  have m_281 : (1 + d, 5) ∈ RL273 := hs276 _ m_240
  have m_282 : (1 + d, 9) ∈ RL273 := hs276 _ m_241
  have m_283 : (1 + d, 10) ∈ RL273 := hs276 _ m_242
  have m_284 : (1 + d, 2) ∈ RL273 := hs276 _ m_243
  have m_285 : (1 + d, 6) ∈ RL273 := hs276 _ m_244
  have m_286 : (1 + d, 11) ∈ RL273 := hs276 _ m_245
  have m_287 : (1 + d, 12) ∈ RL273 := hs276 _ m_246
  have m_288 : (1 + d, 3) ∈ RL273 := hs276 _ m_247
  have m_289 : (1 + d, 7) ∈ RL273 := hs276 _ p_236
  have c_290 : E272 (1 + d) 0 = .inr (7, [.int 0, .int 0, .int 0, .ref (ad271 (1 + d) 1), .ref (ad271 (1 + d) 9), .ref (ad271 (1 + d) 10), .ref (ad271 (1 + d) 2), .ref (ad271 (1 + d) 11), .ref (ad271 (1 + d) 12), .ref (ad271 (1 + d) 3), .null, .int 0]) := by rw [fE274 (1 + d) 0 (by omega), fA275 (1 + d) 1 (by omega), fA275 (1 + d) 9 (by omega), fA275 (1 + d) 10 (by omega), fA275 (1 + d) 2 (by omega), fA275 (1 + d) 11 (by omega), fA275 (1 + d) 12 (by omega), fA275 (1 + d) 3 (by omega)]; exact c_260
  have c_291 : E272 (1 + d) 3 = .inr (8, [.ref (ad271 (1 + d) 7), .int 0]) := by rw [fE274 (1 + d) 3 (by omega), fA275 (1 + d) 7 (by omega)]; exact c_261
  have c_292 : E272 (1 + d) 7 = .inl (kA 0, 3, .inl (fun _ => 0)) := by rw [fE274 (1 + d) 7 (by omega)]; exact c_262
  have c_293 : E272 (1 + d) 12 = .inl (kA 2, 5, .inl (fun _ => 0)) := by rw [fE274 (1 + d) 12 (by omega)]; exact c_263
  have c_294 : E272 (1 + d) 11 = .inl (kA 2, 5, .inl (fun _ => 0)) := by rw [fE274 (1 + d) 11 (by omega)]; exact c_264
  have c_295 : E272 (1 + d) 2 = .inr (8, [.ref (ad271 (1 + d) 6), .int 0]) := by rw [fE274 (1 + d) 2 (by omega), fA275 (1 + d) 6 (by omega)]; exact c_265
  have c_296 : E272 (1 + d) 6 = .inl (kA 0, 5, .inl (fun _ => 0)) := by rw [fE274 (1 + d) 6 (by omega)]; exact c_266
  have c_297 : E272 (1 + d) 10 = .inl (kA 8, 6, .inr (.inr (.inr (.inr (fun _ => none))))) := by rw [fE274 (1 + d) 10 (by omega)]; exact c_267
  have c_298 : E272 (1 + d) 9 = .inl (kA 8, 6, .inr (.inr (.inr (.inr (fun _ => none))))) := by rw [fE274 (1 + d) 9 (by omega)]; exact c_268
  have c_299 : E272 (1 + d) 1 = .inr (8, [.ref (ad271 (1 + d) 5), .int 0]) := by rw [fE274 (1 + d) 1 (by omega), fA275 (1 + d) 5 (by omega)]; exact c_269
  have c_300 : E272 (1 + d) 5 = .inl (kA 0, 6, .inl (fun _ => 0)) := by rw [fE274 (1 + d) 5 (by omega)]; exact c_270
  have m_278 : (1 + d, 4) ∈ RL273 := hm1
  have hP : va_P D xcl (rp ad271 E272 RL273) H := hP
  have hD : va_D A (rp ad271 E272 RL273) := hD
  refine lv_dup hx hb xd_Ds_init_77 rfl ?_
  refine lv_iconst (v := 3) hx hb xd_Ds_init_78 (by decide) ?_
  have hFc := px_free hD hS hA
  refine va_callv (va_runI (As := [.int 3]) (rest := [.ref (ad271 (1 + d) 4), .ref (ad271 (1 + d) 0)]) ⟨hx, hb, hml, hown, hT⟩ (xc_Na_init l D kA H.size ad271 E272 RL273 (1 + d) 4 8 3 m_278 c_277 (by first | assumption | omega) (by first | assumption | omega)) (cwI 1 hT (wT_I yq_10) rfl rfl rfl (hT _ yq_9) (hT _ yq_17) (hT _ yq_12) rfl (by decide +kernel) ⟨Nat.le_of_ble_eq_true rfl, Nat.le_of_ble_eq_true rfl⟩) (x_preS hK hP hD) rfl rfl hl.1 rfl (lv_room (Nat.le_of_ble_eq_true rfl)) xd_Ds_init_79 ⟨(Nat.le_of_ble_eq_true rfl), (Nat.le_of_ble_eq_true rfl)⟩) hS (fun q _ h => hFc q h) hFc (fun u302 t H1 locs ht hvm hp303 hB hz1 hk1 hS => ?_)
  obtain ⟨hP1, hD1⟩ := hB
  rw [ht] at hP1
  have hD1 := hD1.weaken (fun _ _ _ h => hFc _ h)
  generalize H1 = H at hP1 hS ⊢
  have hP := hP1
  have hD := hD1
  obtain ⟨ad304, E305, RL306⟩ := u302
  obtain ⟨hp313, p_307, p_308, p_309, p_310, p_311, p_312⟩ := hp303
  have p_307 : E305 (1 + d) 4 = .inr (8, [.ref (ad304 (1 + d) 8), .int 0]) := p_307
  have p_308 : E305 (1 + d) 8 = .inl (kA 0, 3, .inl (fun _ => 0)) := p_308
  have p_309 : (∀ b2 o2, ¬ (b2 = (1 + d) ∧ o2 = 4) → ¬ (b2 = (1 + d) ∧ o2 = 8) → E305 b2 o2 = E272 b2 o2) := p_309
  have p_310 : (∀ b2 o2, ¬ (b2 = (1 + d) ∧ o2 = 8) → ad304 b2 o2 = ad271 b2 o2) := p_310
  have p_311 : (∀ x ∈ RL273, x ∈ RL306) := p_311
  have p_312 : ((1 + d), 8) ∈ RL306 := p_312
  refine W.eq (g2 := F0 m 82 ls [.ref (ad304 (1 + d) 4), .ref (ad304 (1 + d) 0)]) (by rw [p_310 (1 + d) 4 (by omega), p_310 (1 + d) 0 (by omega)]) ?_
  have hl : lv_has ls 4 [(0, .ref (ad304 (1 + d) 0)), (1, .int (nI d)), (2, .int fi), (3, .int nm)] := by
    rw [p_310 (1 + d) 0 (by omega)]; exact hl
  have m_314 : (1 + d, 0) ∈ RL306 := p_311 _ m_279
  have m_315 : (1 + d, 1) ∈ RL306 := p_311 _ m_280
  have m_316 : (1 + d, 5) ∈ RL306 := p_311 _ m_281
  have m_317 : (1 + d, 9) ∈ RL306 := p_311 _ m_282
  have m_318 : (1 + d, 10) ∈ RL306 := p_311 _ m_283
  have m_319 : (1 + d, 2) ∈ RL306 := p_311 _ m_284
  have m_320 : (1 + d, 6) ∈ RL306 := p_311 _ m_285
  have m_321 : (1 + d, 11) ∈ RL306 := p_311 _ m_286
  have m_322 : (1 + d, 12) ∈ RL306 := p_311 _ m_287
  have m_323 : (1 + d, 3) ∈ RL306 := p_311 _ m_288
  have m_324 : (1 + d, 7) ∈ RL306 := p_311 _ m_289
  have m_325 : (1 + d, 4) ∈ RL306 := p_311 _ m_278
  have c_326 : E305 (1 + d) 0 = .inr (7, [.int 0, .int 0, .int 0, .ref (ad304 (1 + d) 1), .ref (ad304 (1 + d) 9), .ref (ad304 (1 + d) 10), .ref (ad304 (1 + d) 2), .ref (ad304 (1 + d) 11), .ref (ad304 (1 + d) 12), .ref (ad304 (1 + d) 3), .null, .int 0]) := by rw [p_309 (1 + d) 0 (by omega) (by omega), p_310 (1 + d) 1 (by omega), p_310 (1 + d) 9 (by omega), p_310 (1 + d) 10 (by omega), p_310 (1 + d) 2 (by omega), p_310 (1 + d) 11 (by omega), p_310 (1 + d) 12 (by omega), p_310 (1 + d) 3 (by omega)]; exact c_290
  have c_327 : E305 (1 + d) 3 = .inr (8, [.ref (ad304 (1 + d) 7), .int 0]) := by rw [p_309 (1 + d) 3 (by omega) (by omega), p_310 (1 + d) 7 (by omega)]; exact c_291
  have c_328 : E305 (1 + d) 7 = .inl (kA 0, 3, .inl (fun _ => 0)) := by rw [p_309 (1 + d) 7 (by omega) (by omega)]; exact c_292
  have c_329 : E305 (1 + d) 12 = .inl (kA 2, 5, .inl (fun _ => 0)) := by rw [p_309 (1 + d) 12 (by omega) (by omega)]; exact c_293
  have c_330 : E305 (1 + d) 11 = .inl (kA 2, 5, .inl (fun _ => 0)) := by rw [p_309 (1 + d) 11 (by omega) (by omega)]; exact c_294
  have c_331 : E305 (1 + d) 2 = .inr (8, [.ref (ad304 (1 + d) 6), .int 0]) := by rw [p_309 (1 + d) 2 (by omega) (by omega), p_310 (1 + d) 6 (by omega)]; exact c_295
  have c_332 : E305 (1 + d) 6 = .inl (kA 0, 5, .inl (fun _ => 0)) := by rw [p_309 (1 + d) 6 (by omega) (by omega)]; exact c_296
  have c_333 : E305 (1 + d) 10 = .inl (kA 8, 6, .inr (.inr (.inr (.inr (fun _ => none))))) := by rw [p_309 (1 + d) 10 (by omega) (by omega)]; exact c_297
  have c_334 : E305 (1 + d) 9 = .inl (kA 8, 6, .inr (.inr (.inr (.inr (fun _ => none))))) := by rw [p_309 (1 + d) 9 (by omega) (by omega)]; exact c_298
  have c_335 : E305 (1 + d) 1 = .inr (8, [.ref (ad304 (1 + d) 5), .int 0]) := by rw [p_309 (1 + d) 1 (by omega) (by omega), p_310 (1 + d) 5 (by omega)]; exact c_299
  have c_336 : E305 (1 + d) 5 = .inl (kA 0, 6, .inl (fun _ => 0)) := by rw [p_309 (1 + d) 5 (by omega) (by omega)]; exact c_300
  have hP : va_P D xcl (rp ad304 E305 RL306) H := hP
  have hD : va_D A (rp ad304 E305 RL306) := hD
  refine px_putF (D := D) (ci := 7) (v := .ref (ad304 (1 + d) 4)) (ty := .object "LayerDesk$Names") (C := xR_Ds) (T := xT_Ds) (N := 12) hx hb hT xi_Ds xt_Ds xt_Ds_ok xn_Ds hown hK.1 hP hD hS m_314 c_326 rfl 10 (by decide) (hT _ yq_27) (fun _ h9 => h9) rfl hin rfl (by decide +kernel) rfl rfl (Nat.le_of_ble_eq_true rfl) xd_Ds_init_82 (fun H locs hP hD hS => ?_)
  have hP : va_P D xcl (rp ad304 (up2 E305 (1 + d) 0 (.inr (7, [.int 0, .int 0, .int 0, .ref (ad304 (1 + d) 1), .ref (ad304 (1 + d) 9), .ref (ad304 (1 + d) 10), .ref (ad304 (1 + d) 2), .ref (ad304 (1 + d) 11), .ref (ad304 (1 + d) 12), .ref (ad304 (1 + d) 3), .ref (ad304 (1 + d) 4), .int 0]))) RL306) H := hP
  have hD : va_D A (rp ad304 (up2 E305 (1 + d) 0 (.inr (7, [.int 0, .int 0, .int 0, .ref (ad304 (1 + d) 1), .ref (ad304 (1 + d) 9), .ref (ad304 (1 + d) 10), .ref (ad304 (1 + d) 2), .ref (ad304 (1 + d) 11), .ref (ad304 (1 + d) 12), .ref (ad304 (1 + d) 3), .ref (ad304 (1 + d) 4), .int 0]))) RL306) := hD
  generalize hE338 : up2 E305 (1 + d) 0 (.inr (7, [.int 0, .int 0, .int 0, .ref (ad304 (1 + d) 1), .ref (ad304 (1 + d) 9), .ref (ad304 (1 + d) 10), .ref (ad304 (1 + d) 2), .ref (ad304 (1 + d) 11), .ref (ad304 (1 + d) 12), .ref (ad304 (1 + d) 3), .ref (ad304 (1 + d) 4), .int 0])) = E337 at hP hD
  have fE339 : ∀ b2 o2, ¬ (b2 = 1 + d ∧ o2 = 0) → E337 b2 o2 = E305 b2 o2 := fun b2 o2 h9 => by rw [← hE338]; exact up2_ne (by omega)
  have c_340 : E337 (1 + d) 0 = .inr (7, [.int 0, .int 0, .int 0, .ref (ad304 (1 + d) 1), .ref (ad304 (1 + d) 9), .ref (ad304 (1 + d) 10), .ref (ad304 (1 + d) 2), .ref (ad304 (1 + d) 11), .ref (ad304 (1 + d) 12), .ref (ad304 (1 + d) 3), .ref (ad304 (1 + d) 4), .int 0]) := by rw [← hE338]; exact up2_eq
  have c_341 : E337 (1 + d) 4 = .inr (8, [.ref (ad304 (1 + d) 8), .int 0]) := (fE339 (1 + d) 4 (by omega)).trans p_307
  have c_342 : E337 (1 + d) 8 = .inl (kA 0, 3, .inl (fun _ => 0)) := (fE339 (1 + d) 8 (by omega)).trans p_308
  have c_343 : E337 (1 + d) 3 = .inr (8, [.ref (ad304 (1 + d) 7), .int 0]) := (fE339 (1 + d) 3 (by omega)).trans c_327
  have c_344 : E337 (1 + d) 7 = .inl (kA 0, 3, .inl (fun _ => 0)) := (fE339 (1 + d) 7 (by omega)).trans c_328
  have c_345 : E337 (1 + d) 12 = .inl (kA 2, 5, .inl (fun _ => 0)) := (fE339 (1 + d) 12 (by omega)).trans c_329
  have c_346 : E337 (1 + d) 11 = .inl (kA 2, 5, .inl (fun _ => 0)) := (fE339 (1 + d) 11 (by omega)).trans c_330
  have c_347 : E337 (1 + d) 2 = .inr (8, [.ref (ad304 (1 + d) 6), .int 0]) := (fE339 (1 + d) 2 (by omega)).trans c_331
  have c_348 : E337 (1 + d) 6 = .inl (kA 0, 5, .inl (fun _ => 0)) := (fE339 (1 + d) 6 (by omega)).trans c_332
  have c_349 : E337 (1 + d) 10 = .inl (kA 8, 6, .inr (.inr (.inr (.inr (fun _ => none))))) := (fE339 (1 + d) 10 (by omega)).trans c_333
  have c_350 : E337 (1 + d) 9 = .inl (kA 8, 6, .inr (.inr (.inr (.inr (fun _ => none))))) := (fE339 (1 + d) 9 (by omega)).trans c_334
  have c_351 : E337 (1 + d) 1 = .inr (8, [.ref (ad304 (1 + d) 5), .int 0]) := (fE339 (1 + d) 1 (by omega)).trans c_335
  have c_352 : E337 (1 + d) 5 = .inl (kA 0, 6, .inl (fun _ => 0)) := (fE339 (1 + d) 5 (by omega)).trans c_336
  refine lv_aload_n hx hb xd_Ds_init_85 rfl (lv_at hl 0 rfl) ?_
  refine lv_iconst (v := 0) hx hb xd_Ds_init_86 (by decide) ?_
  refine px_put (D := D) (ci := 7) (v := .int 0) (ty := .boolean) (C := xR_Ds) (T := xT_Ds) (N := 12) hx hb hT xi_Ds xt_Ds xt_Ds_ok xn_Ds hown hK.1 hP hD hS m_314 c_340 rfl 11 (by decide) (hT _ yq_28) (fun _ h9 => h9) rfl (by decide +kernel) rfl rfl (Nat.le_of_ble_eq_true rfl) xd_Ds_init_87 (fun H locs hP hD hS => ?_)
  have hP : va_P D xcl (rp ad304 (up2 E337 (1 + d) 0 (.inr (7, [.int 0, .int 0, .int 0, .ref (ad304 (1 + d) 1), .ref (ad304 (1 + d) 9), .ref (ad304 (1 + d) 10), .ref (ad304 (1 + d) 2), .ref (ad304 (1 + d) 11), .ref (ad304 (1 + d) 12), .ref (ad304 (1 + d) 3), .ref (ad304 (1 + d) 4), .int 0]))) RL306) H := hP
  have hD : va_D A (rp ad304 (up2 E337 (1 + d) 0 (.inr (7, [.int 0, .int 0, .int 0, .ref (ad304 (1 + d) 1), .ref (ad304 (1 + d) 9), .ref (ad304 (1 + d) 10), .ref (ad304 (1 + d) 2), .ref (ad304 (1 + d) 11), .ref (ad304 (1 + d) 12), .ref (ad304 (1 + d) 3), .ref (ad304 (1 + d) 4), .int 0]))) RL306) := hD
  generalize hE354 : up2 E337 (1 + d) 0 (.inr (7, [.int 0, .int 0, .int 0, .ref (ad304 (1 + d) 1), .ref (ad304 (1 + d) 9), .ref (ad304 (1 + d) 10), .ref (ad304 (1 + d) 2), .ref (ad304 (1 + d) 11), .ref (ad304 (1 + d) 12), .ref (ad304 (1 + d) 3), .ref (ad304 (1 + d) 4), .int 0])) = E353 at hP hD
  have fE355 : ∀ b2 o2, ¬ (b2 = 1 + d ∧ o2 = 0) → E353 b2 o2 = E337 b2 o2 := fun b2 o2 h9 => by rw [← hE354]; exact up2_ne (by omega)
  have c_356 : E353 (1 + d) 0 = .inr (7, [.int 0, .int 0, .int 0, .ref (ad304 (1 + d) 1), .ref (ad304 (1 + d) 9), .ref (ad304 (1 + d) 10), .ref (ad304 (1 + d) 2), .ref (ad304 (1 + d) 11), .ref (ad304 (1 + d) 12), .ref (ad304 (1 + d) 3), .ref (ad304 (1 + d) 4), .int 0]) := by rw [← hE354]; exact up2_eq
  have c_357 : E353 (1 + d) 4 = .inr (8, [.ref (ad304 (1 + d) 8), .int 0]) := (fE355 (1 + d) 4 (by omega)).trans c_341
  have c_358 : E353 (1 + d) 8 = .inl (kA 0, 3, .inl (fun _ => 0)) := (fE355 (1 + d) 8 (by omega)).trans c_342
  have c_359 : E353 (1 + d) 3 = .inr (8, [.ref (ad304 (1 + d) 7), .int 0]) := (fE355 (1 + d) 3 (by omega)).trans c_343
  have c_360 : E353 (1 + d) 7 = .inl (kA 0, 3, .inl (fun _ => 0)) := (fE355 (1 + d) 7 (by omega)).trans c_344
  have c_361 : E353 (1 + d) 12 = .inl (kA 2, 5, .inl (fun _ => 0)) := (fE355 (1 + d) 12 (by omega)).trans c_345
  have c_362 : E353 (1 + d) 11 = .inl (kA 2, 5, .inl (fun _ => 0)) := (fE355 (1 + d) 11 (by omega)).trans c_346
  have c_363 : E353 (1 + d) 2 = .inr (8, [.ref (ad304 (1 + d) 6), .int 0]) := (fE355 (1 + d) 2 (by omega)).trans c_347
  have c_364 : E353 (1 + d) 6 = .inl (kA 0, 5, .inl (fun _ => 0)) := (fE355 (1 + d) 6 (by omega)).trans c_348
  have c_365 : E353 (1 + d) 10 = .inl (kA 8, 6, .inr (.inr (.inr (.inr (fun _ => none))))) := (fE355 (1 + d) 10 (by omega)).trans c_349
  have c_366 : E353 (1 + d) 9 = .inl (kA 8, 6, .inr (.inr (.inr (.inr (fun _ => none))))) := (fE355 (1 + d) 9 (by omega)).trans c_350
  have c_367 : E353 (1 + d) 1 = .inr (8, [.ref (ad304 (1 + d) 5), .int 0]) := (fE355 (1 + d) 1 (by omega)).trans c_351
  have c_368 : E353 (1 + d) 5 = .inl (kA 0, 6, .inl (fun _ => 0)) := (fE355 (1 + d) 5 (by omega)).trans c_352
  refine lv_aload_n hx hb xd_Ds_init_90 rfl (lv_at hl 0 rfl) ?_
  refine lv_iload_n hx hb xd_Ds_init_91 rfl (lv_at hl 1 rfl) ?_
  refine px_putF (D := D) (ci := 7) (v := .int (nI d)) (ty := .int) (C := xR_Ds) (T := xT_Ds) (N := 12) hx hb hT xi_Ds xt_Ds xt_Ds_ok xn_Ds hown hK.1 hP hD hS m_314 c_356 rfl 0 (by decide) (hT _ yq_29) (fun _ h9 => h9) rfl hin rfl (by decide +kernel) rfl rfl (Nat.le_of_ble_eq_true rfl) xd_Ds_init_92 (fun H locs hP hD hS => ?_)
  have hP : va_P D xcl (rp ad304 (up2 E353 (1 + d) 0 (.inr (7, [.int (nI d), .int 0, .int 0, .ref (ad304 (1 + d) 1), .ref (ad304 (1 + d) 9), .ref (ad304 (1 + d) 10), .ref (ad304 (1 + d) 2), .ref (ad304 (1 + d) 11), .ref (ad304 (1 + d) 12), .ref (ad304 (1 + d) 3), .ref (ad304 (1 + d) 4), .int 0]))) RL306) H := hP
  have hD : va_D A (rp ad304 (up2 E353 (1 + d) 0 (.inr (7, [.int (nI d), .int 0, .int 0, .ref (ad304 (1 + d) 1), .ref (ad304 (1 + d) 9), .ref (ad304 (1 + d) 10), .ref (ad304 (1 + d) 2), .ref (ad304 (1 + d) 11), .ref (ad304 (1 + d) 12), .ref (ad304 (1 + d) 3), .ref (ad304 (1 + d) 4), .int 0]))) RL306) := hD
  generalize hE370 : up2 E353 (1 + d) 0 (.inr (7, [.int (nI d), .int 0, .int 0, .ref (ad304 (1 + d) 1), .ref (ad304 (1 + d) 9), .ref (ad304 (1 + d) 10), .ref (ad304 (1 + d) 2), .ref (ad304 (1 + d) 11), .ref (ad304 (1 + d) 12), .ref (ad304 (1 + d) 3), .ref (ad304 (1 + d) 4), .int 0])) = E369 at hP hD
  have fE371 : ∀ b2 o2, ¬ (b2 = 1 + d ∧ o2 = 0) → E369 b2 o2 = E353 b2 o2 := fun b2 o2 h9 => by rw [← hE370]; exact up2_ne (by omega)
  have c_372 : E369 (1 + d) 0 = .inr (7, [.int (nI d), .int 0, .int 0, .ref (ad304 (1 + d) 1), .ref (ad304 (1 + d) 9), .ref (ad304 (1 + d) 10), .ref (ad304 (1 + d) 2), .ref (ad304 (1 + d) 11), .ref (ad304 (1 + d) 12), .ref (ad304 (1 + d) 3), .ref (ad304 (1 + d) 4), .int 0]) := by rw [← hE370]; exact up2_eq
  have c_373 : E369 (1 + d) 4 = .inr (8, [.ref (ad304 (1 + d) 8), .int 0]) := (fE371 (1 + d) 4 (by omega)).trans c_357
  have c_374 : E369 (1 + d) 8 = .inl (kA 0, 3, .inl (fun _ => 0)) := (fE371 (1 + d) 8 (by omega)).trans c_358
  have c_375 : E369 (1 + d) 3 = .inr (8, [.ref (ad304 (1 + d) 7), .int 0]) := (fE371 (1 + d) 3 (by omega)).trans c_359
  have c_376 : E369 (1 + d) 7 = .inl (kA 0, 3, .inl (fun _ => 0)) := (fE371 (1 + d) 7 (by omega)).trans c_360
  have c_377 : E369 (1 + d) 12 = .inl (kA 2, 5, .inl (fun _ => 0)) := (fE371 (1 + d) 12 (by omega)).trans c_361
  have c_378 : E369 (1 + d) 11 = .inl (kA 2, 5, .inl (fun _ => 0)) := (fE371 (1 + d) 11 (by omega)).trans c_362
  have c_379 : E369 (1 + d) 2 = .inr (8, [.ref (ad304 (1 + d) 6), .int 0]) := (fE371 (1 + d) 2 (by omega)).trans c_363
  have c_380 : E369 (1 + d) 6 = .inl (kA 0, 5, .inl (fun _ => 0)) := (fE371 (1 + d) 6 (by omega)).trans c_364
  have c_381 : E369 (1 + d) 10 = .inl (kA 8, 6, .inr (.inr (.inr (.inr (fun _ => none))))) := (fE371 (1 + d) 10 (by omega)).trans c_365
  have c_382 : E369 (1 + d) 9 = .inl (kA 8, 6, .inr (.inr (.inr (.inr (fun _ => none))))) := (fE371 (1 + d) 9 (by omega)).trans c_366
  have c_383 : E369 (1 + d) 1 = .inr (8, [.ref (ad304 (1 + d) 5), .int 0]) := (fE371 (1 + d) 1 (by omega)).trans c_367
  have c_384 : E369 (1 + d) 5 = .inl (kA 0, 6, .inl (fun _ => 0)) := (fE371 (1 + d) 5 (by omega)).trans c_368
  refine lv_aload_n hx hb xd_Ds_init_95 rfl (lv_at hl 0 rfl) ?_
  refine lv_iload_n hx hb xd_Ds_init_96 rfl (lv_at hl 2 rfl) ?_
  refine px_putF (D := D) (ci := 7) (v := .int fi) (ty := .int) (C := xR_Ds) (T := xT_Ds) (N := 12) hx hb hT xi_Ds xt_Ds xt_Ds_ok xn_Ds hown hK.1 hP hD hS m_314 c_372 rfl 1 (by decide) (hT _ yq_30) (fun _ h9 => h9) rfl hin rfl (by decide +kernel) rfl rfl (Nat.le_of_ble_eq_true rfl) xd_Ds_init_97 (fun H locs hP hD hS => ?_)
  have hP : va_P D xcl (rp ad304 (up2 E369 (1 + d) 0 (.inr (7, [.int (nI d), .int fi, .int 0, .ref (ad304 (1 + d) 1), .ref (ad304 (1 + d) 9), .ref (ad304 (1 + d) 10), .ref (ad304 (1 + d) 2), .ref (ad304 (1 + d) 11), .ref (ad304 (1 + d) 12), .ref (ad304 (1 + d) 3), .ref (ad304 (1 + d) 4), .int 0]))) RL306) H := hP
  have hD : va_D A (rp ad304 (up2 E369 (1 + d) 0 (.inr (7, [.int (nI d), .int fi, .int 0, .ref (ad304 (1 + d) 1), .ref (ad304 (1 + d) 9), .ref (ad304 (1 + d) 10), .ref (ad304 (1 + d) 2), .ref (ad304 (1 + d) 11), .ref (ad304 (1 + d) 12), .ref (ad304 (1 + d) 3), .ref (ad304 (1 + d) 4), .int 0]))) RL306) := hD
  generalize hE386 : up2 E369 (1 + d) 0 (.inr (7, [.int (nI d), .int fi, .int 0, .ref (ad304 (1 + d) 1), .ref (ad304 (1 + d) 9), .ref (ad304 (1 + d) 10), .ref (ad304 (1 + d) 2), .ref (ad304 (1 + d) 11), .ref (ad304 (1 + d) 12), .ref (ad304 (1 + d) 3), .ref (ad304 (1 + d) 4), .int 0])) = E385 at hP hD
  have fE387 : ∀ b2 o2, ¬ (b2 = 1 + d ∧ o2 = 0) → E385 b2 o2 = E369 b2 o2 := fun b2 o2 h9 => by rw [← hE386]; exact up2_ne (by omega)
  have c_388 : E385 (1 + d) 0 = .inr (7, [.int (nI d), .int fi, .int 0, .ref (ad304 (1 + d) 1), .ref (ad304 (1 + d) 9), .ref (ad304 (1 + d) 10), .ref (ad304 (1 + d) 2), .ref (ad304 (1 + d) 11), .ref (ad304 (1 + d) 12), .ref (ad304 (1 + d) 3), .ref (ad304 (1 + d) 4), .int 0]) := by rw [← hE386]; exact up2_eq
  have c_389 : E385 (1 + d) 4 = .inr (8, [.ref (ad304 (1 + d) 8), .int 0]) := (fE387 (1 + d) 4 (by omega)).trans c_373
  have c_390 : E385 (1 + d) 8 = .inl (kA 0, 3, .inl (fun _ => 0)) := (fE387 (1 + d) 8 (by omega)).trans c_374
  have c_391 : E385 (1 + d) 3 = .inr (8, [.ref (ad304 (1 + d) 7), .int 0]) := (fE387 (1 + d) 3 (by omega)).trans c_375
  have c_392 : E385 (1 + d) 7 = .inl (kA 0, 3, .inl (fun _ => 0)) := (fE387 (1 + d) 7 (by omega)).trans c_376
  have c_393 : E385 (1 + d) 12 = .inl (kA 2, 5, .inl (fun _ => 0)) := (fE387 (1 + d) 12 (by omega)).trans c_377
  have c_394 : E385 (1 + d) 11 = .inl (kA 2, 5, .inl (fun _ => 0)) := (fE387 (1 + d) 11 (by omega)).trans c_378
  have c_395 : E385 (1 + d) 2 = .inr (8, [.ref (ad304 (1 + d) 6), .int 0]) := (fE387 (1 + d) 2 (by omega)).trans c_379
  have c_396 : E385 (1 + d) 6 = .inl (kA 0, 5, .inl (fun _ => 0)) := (fE387 (1 + d) 6 (by omega)).trans c_380
  have c_397 : E385 (1 + d) 10 = .inl (kA 8, 6, .inr (.inr (.inr (.inr (fun _ => none))))) := (fE387 (1 + d) 10 (by omega)).trans c_381
  have c_398 : E385 (1 + d) 9 = .inl (kA 8, 6, .inr (.inr (.inr (.inr (fun _ => none))))) := (fE387 (1 + d) 9 (by omega)).trans c_382
  have c_399 : E385 (1 + d) 1 = .inr (8, [.ref (ad304 (1 + d) 5), .int 0]) := (fE387 (1 + d) 1 (by omega)).trans c_383
  have c_400 : E385 (1 + d) 5 = .inl (kA 0, 6, .inl (fun _ => 0)) := (fE387 (1 + d) 5 (by omega)).trans c_384
  refine lv_aload_n hx hb xd_Ds_init_100 rfl (lv_at hl 0 rfl) ?_
  refine lv_iload_n hx hb xd_Ds_init_101 rfl (lv_at hl 3 rfl) ?_
  refine px_putF (D := D) (ci := 7) (v := .int nm) (ty := .int) (C := xR_Ds) (T := xT_Ds) (N := 12) hx hb hT xi_Ds xt_Ds xt_Ds_ok xn_Ds hown hK.1 hP hD hS m_314 c_388 rfl 2 (by decide) (hT _ yq_31) (fun _ h9 => h9) rfl hin rfl (by decide +kernel) rfl rfl (Nat.le_of_ble_eq_true rfl) xd_Ds_init_102 (fun H locs hP hD hS => ?_)
  have hP : va_P D xcl (rp ad304 (up2 E385 (1 + d) 0 (.inr (7, [.int (nI d), .int fi, .int nm, .ref (ad304 (1 + d) 1), .ref (ad304 (1 + d) 9), .ref (ad304 (1 + d) 10), .ref (ad304 (1 + d) 2), .ref (ad304 (1 + d) 11), .ref (ad304 (1 + d) 12), .ref (ad304 (1 + d) 3), .ref (ad304 (1 + d) 4), .int 0]))) RL306) H := hP
  have hD : va_D A (rp ad304 (up2 E385 (1 + d) 0 (.inr (7, [.int (nI d), .int fi, .int nm, .ref (ad304 (1 + d) 1), .ref (ad304 (1 + d) 9), .ref (ad304 (1 + d) 10), .ref (ad304 (1 + d) 2), .ref (ad304 (1 + d) 11), .ref (ad304 (1 + d) 12), .ref (ad304 (1 + d) 3), .ref (ad304 (1 + d) 4), .int 0]))) RL306) := hD
  generalize hE402 : up2 E385 (1 + d) 0 (.inr (7, [.int (nI d), .int fi, .int nm, .ref (ad304 (1 + d) 1), .ref (ad304 (1 + d) 9), .ref (ad304 (1 + d) 10), .ref (ad304 (1 + d) 2), .ref (ad304 (1 + d) 11), .ref (ad304 (1 + d) 12), .ref (ad304 (1 + d) 3), .ref (ad304 (1 + d) 4), .int 0])) = E401 at hP hD
  have fE403 : ∀ b2 o2, ¬ (b2 = 1 + d ∧ o2 = 0) → E401 b2 o2 = E385 b2 o2 := fun b2 o2 h9 => by rw [← hE402]; exact up2_ne (by omega)
  have c_404 : E401 (1 + d) 0 = .inr (7, [.int (nI d), .int fi, .int nm, .ref (ad304 (1 + d) 1), .ref (ad304 (1 + d) 9), .ref (ad304 (1 + d) 10), .ref (ad304 (1 + d) 2), .ref (ad304 (1 + d) 11), .ref (ad304 (1 + d) 12), .ref (ad304 (1 + d) 3), .ref (ad304 (1 + d) 4), .int 0]) := by rw [← hE402]; exact up2_eq
  have c_405 : E401 (1 + d) 4 = .inr (8, [.ref (ad304 (1 + d) 8), .int 0]) := (fE403 (1 + d) 4 (by omega)).trans c_389
  have c_406 : E401 (1 + d) 8 = .inl (kA 0, 3, .inl (fun _ => 0)) := (fE403 (1 + d) 8 (by omega)).trans c_390
  have c_407 : E401 (1 + d) 3 = .inr (8, [.ref (ad304 (1 + d) 7), .int 0]) := (fE403 (1 + d) 3 (by omega)).trans c_391
  have c_408 : E401 (1 + d) 7 = .inl (kA 0, 3, .inl (fun _ => 0)) := (fE403 (1 + d) 7 (by omega)).trans c_392
  have c_409 : E401 (1 + d) 12 = .inl (kA 2, 5, .inl (fun _ => 0)) := (fE403 (1 + d) 12 (by omega)).trans c_393
  have c_410 : E401 (1 + d) 11 = .inl (kA 2, 5, .inl (fun _ => 0)) := (fE403 (1 + d) 11 (by omega)).trans c_394
  have c_411 : E401 (1 + d) 2 = .inr (8, [.ref (ad304 (1 + d) 6), .int 0]) := (fE403 (1 + d) 2 (by omega)).trans c_395
  have c_412 : E401 (1 + d) 6 = .inl (kA 0, 5, .inl (fun _ => 0)) := (fE403 (1 + d) 6 (by omega)).trans c_396
  have c_413 : E401 (1 + d) 10 = .inl (kA 8, 6, .inr (.inr (.inr (.inr (fun _ => none))))) := (fE403 (1 + d) 10 (by omega)).trans c_397
  have c_414 : E401 (1 + d) 9 = .inl (kA 8, 6, .inr (.inr (.inr (.inr (fun _ => none))))) := (fE403 (1 + d) 9 (by omega)).trans c_398
  have c_415 : E401 (1 + d) 1 = .inr (8, [.ref (ad304 (1 + d) 5), .int 0]) := (fE403 (1 + d) 1 (by omega)).trans c_399
  have c_416 : E401 (1 + d) 5 = .inl (kA 0, 6, .inl (fun _ => 0)) := (fE403 (1 + d) 5 (by omega)).trans c_400
  refine W.widen (k := 12) (n := 54) (Nat.le_of_ble_eq_true rfl) (Nat.le_of_ble_eq_true rfl) ?_
  exact W.vret hx hb hr (fun t ht hW => ⟨⟨(ad304, E401, RL306), rfl, ⟨trivial, c_404, c_415, c_411, c_407, c_405, c_416, c_412, c_408, c_406, c_414, c_413, c_410, c_409, (fun b2 o2 h09 h19 h29 h39 h49 h59 h69 h79 h89 h99 h109 h119 h129 => by show E401 b2 o2 = _; rw [fE403 b2 o2 (by omega), fE387 b2 o2 (by omega), fE371 b2 o2 (by omega), fE355 b2 o2 (by omega), fE339 b2 o2 (by omega), p_309 b2 o2 (by omega) (by omega), fE274 b2 o2 (by omega), fE259 b2 o2 (by omega), p_233 b2 o2 (by omega) (by omega), fE202 b2 o2 (by omega), fE189 b2 o2 (by omega), fE166 b2 o2 (by omega), fE154 b2 o2 (by omega), fE133 b2 o2 (by omega), fE122 b2 o2 (by omega), p_104 b2 o2 (by omega) (by omega), fE81 b2 o2 (by omega), fE72 b2 o2 (by omega), fE57 b2 o2 (by omega), fE49 b2 o2 (by omega), fE36 b2 o2 (by omega), fE29 b2 o2 (by omega), p_19 b2 o2 (by omega) (by omega), fE4 b2 o2 (by omega)]), (fun b2 o2 h09 h19 h29 h39 h49 h59 h69 h79 h89 h99 h109 h119 => by show ad304 b2 o2 = _; rw [p_310 b2 o2 (by omega), fA275 b2 o2 (by omega), p_234 b2 o2 (by omega), fA203 b2 o2 (by omega), fA167 b2 o2 (by omega), fA134 b2 o2 (by omega), p_105 b2 o2 (by omega), fA82 b2 o2 (by omega), fA58 b2 o2 (by omega), fA37 b2 o2 (by omega), p_20 b2 o2 (by omega), fA5 b2 o2 (by omega)]), (fun x9 hx9 => p_311 _ (hs276 _ (p_235 _ (hs204 _ (hs168 _ (hs135 _ (p_106 _ (hs83 _ (hs59 _ (hs38 _ (p_21 _ (hs6 _ hx9)))))))))))), m_315, m_319, m_323, m_325, m_316, m_320, m_324, p_312, m_317, m_318, m_321, m_322⟩, by rw [ht]; exact hP, hD⟩, hS.F ht⟩) hS.2.2 xd_Ds_init_105
