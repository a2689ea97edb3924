abbrev xb_Na_init : ByteArray := prog_8_method_1_code
def xy_Na_init : MethodName := ⟨"LayerDesk$Names", "<init>", "(I)V"⟩
abbrev xb_Gr_init : ByteArray := prog_4_method_1_code
def xy_Gr_init : MethodName := ⟨"LayerDesk$Grant", "<init>", "()V"⟩
abbrev xb_Ds_init : ByteArray := prog_3_method_1_code
def xy_Ds_init : MethodName := ⟨"LayerDesk$Descriptor", "<init>", "(III)V"⟩
theorem xd_Ds_init_0 : decode xb_Ds_init 0 = .ok (.aload_n 0, 1) := by decide +kernel
theorem xd_Ds_init_1 : decode xb_Ds_init 1 = .ok (.invokespecial 1, 3) := by decide +kernel
theorem xd_Ds_init_4 : decode xb_Ds_init 4 = .ok (.aload_n 0, 1) := by decide +kernel
theorem xd_Ds_init_5 : decode xb_Ds_init 5 = .ok (.new 7, 3) := by decide +kernel
theorem xd_Ds_init_8 : decode xb_Ds_init 8 = .ok (.dup, 1) := by decide +kernel
theorem xd_Ds_init_9 : decode xb_Ds_init 9 = .ok (.bipush 6, 2) := by decide +kernel
theorem xd_Ds_init_11 : decode xb_Ds_init 11 = .ok (.invokespecial 11, 3) := by decide +kernel
theorem xd_Ds_init_14 : decode xb_Ds_init 14 = .ok (.putfield 14, 3) := by decide +kernel
theorem xd_Ds_init_17 : decode xb_Ds_init 17 = .ok (.aload_n 0, 1) := by decide +kernel
theorem xd_Ds_init_18 : decode xb_Ds_init 18 = .ok (.bipush 6, 2) := by decide +kernel
theorem xd_Ds_init_20 : decode xb_Ds_init 20 = .ok (.anewarray 18, 3) := by decide +kernel
theorem xd_Ds_init_23 : decode xb_Ds_init 23 = .ok (.putfield 20, 3) := by decide +kernel
theorem xd_Ds_init_26 : decode xb_Ds_init 26 = .ok (.aload_n 0, 1) := by decide +kernel
theorem xd_Ds_init_27 : decode xb_Ds_init 27 = .ok (.bipush 6, 2) := by decide +kernel
theorem xd_Ds_init_29 : decode xb_Ds_init 29 = .ok (.anewarray 18, 3) := by decide +kernel
theorem xd_Ds_init_32 : decode xb_Ds_init 32 = .ok (.putfield 24, 3) := by decide +kernel
theorem xd_Ds_init_35 : decode xb_Ds_init 35 = .ok (.aload_n 0, 1) := by decide +kernel
theorem xd_Ds_init_36 : decode xb_Ds_init 36 = .ok (.new 7, 3) := by decide +kernel
theorem xd_Ds_init_39 : decode xb_Ds_init 39 = .ok (.dup, 1) := by decide +kernel
theorem xd_Ds_init_40 : decode xb_Ds_init 40 = .ok (.iconst 5, 1) := by decide +kernel
theorem xd_Ds_init_41 : decode xb_Ds_init 41 = .ok (.invokespecial 11, 3) := by decide +kernel
theorem xd_Ds_init_44 : decode xb_Ds_init 44 = .ok (.putfield 27, 3) := by decide +kernel
theorem xd_Ds_init_47 : decode xb_Ds_init 47 = .ok (.aload_n 0, 1) := by decide +kernel
theorem xd_Ds_init_48 : decode xb_Ds_init 48 = .ok (.iconst 5, 1) := by decide +kernel
theorem xd_Ds_init_49 : decode xb_Ds_init 49 = .ok (.newarray .boolean, 2) := by decide +kernel
theorem xd_Ds_init_51 : decode xb_Ds_init 51 = .ok (.putfield 30, 3) := by decide +kernel
theorem xd_Ds_init_54 : decode xb_Ds_init 54 = .ok (.aload_n 0, 1) := by decide +kernel
theorem xd_Ds_init_55 : decode xb_Ds_init 55 = .ok (.iconst 5, 1) := by decide +kernel
theorem xd_Ds_init_56 : decode xb_Ds_init 56 = .ok (.newarray .boolean, 2) := by decide +kernel
theorem xd_Ds_init_58 : decode xb_Ds_init 58 = .ok (.putfield 34, 3) := by decide +kernel
theorem xd_Ds_init_61 : decode xb_Ds_init 61 = .ok (.aload_n 0, 1) := by decide +kernel
theorem xd_Ds_init_62 : decode xb_Ds_init 62 = .ok (.new 7, 3) := by decide +kernel
theorem xd_Ds_init_65 : decode xb_Ds_init 65 = .ok (.dup, 1) := by decide +kernel
theorem xd_Ds_init_66 : decode xb_Ds_init 66 = .ok (.iconst 3, 1) := by decide +kernel
theorem xd_Ds_init_67 : decode xb_Ds_init 67 = .ok (.invokespecial 11, 3) := by decide +kernel
theorem xd_Ds_init_70 : decode xb_Ds_init 70 = .ok (.putfield 37, 3) := by decide +kernel
theorem xd_Ds_init_73 : decode xb_Ds_init 73 = .ok (.aload_n 0, 1) := by decide +kernel
theorem xd_Ds_init_74 : decode xb_Ds_init 74 = .ok (.new 7, 3) := by decide +kernel
theorem xd_Ds_init_77 : decode xb_Ds_init 77 = .ok (.dup, 1) := by decide +kernel
theorem xd_Ds_init_78 : decode xb_Ds_init 78 = .ok (.iconst 3, 1) := by decide +kernel
theorem xd_Ds_init_79 : decode xb_Ds_init 79 = .ok (.invokespecial 11, 3) := by decide +kernel
theorem xd_Ds_init_82 : decode xb_Ds_init 82 = .ok (.putfield 40, 3) := by decide +kernel
theorem xd_Ds_init_85 : decode xb_Ds_init 85 = .ok (.aload_n 0, 1) := by decide +kernel
theorem xd_Ds_init_86 : decode xb_Ds_init 86 = .ok (.iconst 0, 1) := by decide +kernel
theorem xd_Ds_init_87 : decode xb_Ds_init 87 = .ok (.putfield 43, 3) := by decide +kernel
theorem xd_Ds_init_90 : decode xb_Ds_init 90 = .ok (.aload_n 0, 1) := by decide +kernel
theorem xd_Ds_init_91 : decode xb_Ds_init 91 = .ok (.iload_n 1, 1) := by decide +kernel
theorem xd_Ds_init_92 : decode xb_Ds_init 92 = .ok (.putfield 47, 3) := by decide +kernel
theorem xd_Ds_init_95 : decode xb_Ds_init 95 = .ok (.aload_n 0, 1) := by decide +kernel
theorem xd_Ds_init_96 : decode xb_Ds_init 96 = .ok (.iload_n 2, 1) := by decide +kernel
theorem xd_Ds_init_97 : decode xb_Ds_init 97 = .ok (.putfield 51, 3) := by decide +kernel
theorem xd_Ds_init_100 : decode xb_Ds_init 100 = .ok (.aload_n 0, 1) := by decide +kernel
theorem xd_Ds_init_101 : decode xb_Ds_init 101 = .ok (.iload_n 3, 1) := by decide +kernel
theorem xd_Ds_init_102 : decode xb_Ds_init 102 = .ok (.putfield 54, 3) := by decide +kernel
theorem xd_Ds_init_105 : decode xb_Ds_init 105 = .ok (.return_, 1) := by decide +kernel
theorem xd_Gr_init_0 : decode xb_Gr_init 0 = .ok (.aload_n 0, 1) := by decide +kernel
theorem xd_Gr_init_1 : decode xb_Gr_init 1 = .ok (.invokespecial 3, 3) := by decide +kernel
theorem xd_Gr_init_4 : decode xb_Gr_init 4 = .ok (.aload_n 0, 1) := by decide +kernel
theorem xd_Gr_init_5 : decode xb_Gr_init 5 = .ok (.new 9, 3) := by decide +kernel
theorem xd_Gr_init_8 : decode xb_Gr_init 8 = .ok (.dup, 1) := by decide +kernel
theorem xd_Gr_init_9 : decode xb_Gr_init 9 = .ok (.iconst 3, 1) := by decide +kernel
theorem xd_Gr_init_10 : decode xb_Gr_init 10 = .ok (.invokespecial 13, 3) := by decide +kernel
theorem xd_Gr_init_13 : decode xb_Gr_init 13 = .ok (.putfield 16, 3) := by decide +kernel
theorem xd_Gr_init_16 : decode xb_Gr_init 16 = .ok (.aload_n 0, 1) := by decide +kernel
theorem xd_Gr_init_17 : decode xb_Gr_init 17 = .ok (.iconst 0, 1) := by decide +kernel
theorem xd_Gr_init_18 : decode xb_Gr_init 18 = .ok (.putfield 20, 3) := by decide +kernel
theorem xd_Gr_init_21 : decode xb_Gr_init 21 = .ok (.return_, 1) := by decide +kernel
theorem xd_Na_init_0 : decode xb_Na_init 0 = .ok (.aload_n 0, 1) := by decide +kernel
theorem xd_Na_init_1 : decode xb_Na_init 1 = .ok (.invokespecial 1, 3) := by decide +kernel
theorem xd_Na_init_4 : decode xb_Na_init 4 = .ok (.aload_n 0, 1) := by decide +kernel
theorem xd_Na_init_5 : decode xb_Na_init 5 = .ok (.iload_n 1, 1) := by decide +kernel
theorem xd_Na_init_6 : decode xb_Na_init 6 = .ok (.newarray .int, 2) := by decide +kernel
theorem xd_Na_init_8 : decode xb_Na_init 8 = .ok (.putfield 7, 3) := by decide +kernel
theorem xd_Na_init_11 : decode xb_Na_init 11 = .ok (.aload_n 0, 1) := by decide +kernel
theorem xd_Na_init_12 : decode xb_Na_init 12 = .ok (.iconst 0, 1) := by decide +kernel
theorem xd_Na_init_13 : decode xb_Na_init 13 = .ok (.putfield 13, 3) := by decide +kernel
theorem xd_Na_init_16 : decode xb_Na_init 16 = .ok (.return_, 1) := by decide +kernel
theorem yq_0 : (Cond.methodLink "LayerDesk$Names" 1 ⟨"java/lang/Object", "<init>", "()V"⟩) ∈ wT := wT_t (List.mem_append_right _ (List.mem_append_left _ (List.mem_of_getElem? (i := 32) rfl))) rfl
theorem yq_1 : (Cond.instanceMethod ⟨"java/lang/Object", "<init>", "()V"⟩) ∈ wT := wT_t (List.mem_append_left _ (List.mem_of_getElem? (i := 28) rfl)) rfl
theorem yq_2 : (Cond.code ⟨"java/lang/Object", "<init>", "()V"⟩ object_method_1_code 1 none) ∈ wT := wT_t (List.mem_append_left _ (List.mem_of_getElem? (i := 29) rfl)) rfl
theorem yq_3 : (Cond.arrayClass .int) ∈ wT := wT_t (List.mem_append_left _ (List.mem_of_getElem? (i := 55) rfl)) rfl
theorem yq_4 : (Cond.fieldLink "LayerDesk$Names" 7 "LayerDesk$Names" "entries" "[I") ∈ wT := wT_t (List.mem_append_right _ (List.mem_append_left _ (List.mem_of_getElem? (i := 33) rfl))) rfl
theorem yq_5 : (Cond.fieldLink "LayerDesk$Names" 13 "LayerDesk$Names" "size" "I") ∈ wT := wT_t (List.mem_append_right _ (List.mem_append_left _ (List.mem_of_getElem? (i := 34) rfl))) rfl
theorem yq_6 : (Cond.methodLink "LayerDesk$Grant" 3 ⟨"java/lang/Object", "<init>", "()V"⟩) ∈ wT := wT_t (List.mem_append_right _ (List.mem_append_left _ (List.mem_of_getElem? (i := 141) rfl))) rfl
theorem yq_7 : (Cond.classLink "LayerDesk$Grant" 9 "LayerDesk$Names") ∈ wT := wT_t (List.mem_append_right _ (List.mem_append_left _ (List.mem_of_getElem? (i := 142) rfl))) rfl
theorem yq_8 : (Cond.instantiable "LayerDesk$Names" 2) ∈ wT := wT_t (List.mem_append_right _ (List.mem_append_left _ (List.mem_of_getElem? (i := 28) rfl))) rfl
theorem yq_9 : (Cond.initialized "LayerDesk$Names") ∈ wT := wT_t (List.mem_append_left _ (List.mem_of_getElem? (i := 11) rfl)) rfl
theorem yq_10 : (Cond.code xy_Na_init xb_Na_init 2 none) ∈ wT := wT_t (List.mem_append_right _ (List.mem_append_left _ (List.mem_of_getElem? (i := 31) rfl))) rfl
theorem yq_11 : (Cond.methodLink "LayerDesk$Grant" 13 xy_Na_init) ∈ wT := wT_t (List.mem_append_right _ (List.mem_append_left _ (List.mem_of_getElem? (i := 143) rfl))) rfl
theorem yq_12 : (Cond.instanceMethod xy_Na_init) ∈ wT := wT_t (List.mem_append_right _ (List.mem_append_left _ (List.mem_of_getElem? (i := 30) rfl))) rfl
theorem yq_13 : (Cond.fieldLink "LayerDesk$Grant" 16 "LayerDesk$Grant" "names" "LLayerDesk$Names;") ∈ wT := wT_t (List.mem_append_right _ (List.mem_append_left _ (List.mem_of_getElem? (i := 144) rfl))) rfl
theorem yq_14 : (Cond.fieldLink "LayerDesk$Grant" 20 "LayerDesk$Grant" "toAll" "Z") ∈ wT := wT_t (List.mem_append_right _ (List.mem_append_left _ (List.mem_of_getElem? (i := 145) rfl))) rfl
theorem yq_15 : (Cond.methodLink "LayerDesk$Descriptor" 1 ⟨"java/lang/Object", "<init>", "()V"⟩) ∈ wT := wT_t (List.mem_append_right _ (List.mem_append_left _ (List.mem_of_getElem? (i := 26) rfl))) rfl
theorem yq_16 : (Cond.classLink "LayerDesk$Descriptor" 7 "LayerDesk$Names") ∈ wT := wT_t (List.mem_append_right _ (List.mem_append_left _ (List.mem_of_getElem? (i := 27) rfl))) rfl
theorem yq_17 : (Cond.methodLink "LayerDesk$Descriptor" 11 xy_Na_init) ∈ wT := wT_t (List.mem_append_right _ (List.mem_append_left _ (List.mem_of_getElem? (i := 29) rfl))) rfl
theorem yq_18 : (Cond.fieldLink "LayerDesk$Descriptor" 14 "LayerDesk$Descriptor" "packages" "LLayerDesk$Names;") ∈ wT := wT_t (List.mem_append_right _ (List.mem_append_left _ (List.mem_of_getElem? (i := 60) rfl))) rfl
theorem yq_19 : (Cond.classLink "LayerDesk$Descriptor" 18 "LayerDesk$Grant") ∈ wT := wT_t (List.mem_append_right _ (List.mem_append_left _ (List.mem_of_getElem? (i := 44) rfl))) rfl
theorem yq_20 : (Cond.fieldLink "LayerDesk$Descriptor" 20 "LayerDesk$Descriptor" "exported" "[LLayerDesk$Grant;") ∈ wT := wT_t (List.mem_append_right _ (List.mem_append_left _ (List.mem_of_getElem? (i := 64) rfl))) rfl
theorem yq_21 : (Cond.fieldLink "LayerDesk$Descriptor" 24 "LayerDesk$Descriptor" "opened" "[LLayerDesk$Grant;") ∈ wT := wT_t (List.mem_append_right _ (List.mem_append_left _ (List.mem_of_getElem? (i := 65) rfl))) rfl
theorem yq_22 : (Cond.fieldLink "LayerDesk$Descriptor" 27 "LayerDesk$Descriptor" "required" "LLayerDesk$Names;") ∈ wT := wT_t (List.mem_append_right _ (List.mem_append_left _ (List.mem_of_getElem? (i := 66) rfl))) rfl
theorem yq_23 : (Cond.arrayClass .boolean) ∈ wT := wT_t (List.mem_append_right _ (List.mem_append_left _ (List.mem_of_getElem? (i := 110) rfl))) rfl
theorem yq_24 : (Cond.fieldLink "LayerDesk$Descriptor" 30 "LayerDesk$Descriptor" "transitive" "[Z") ∈ wT := wT_t (List.mem_append_right _ (List.mem_append_left _ (List.mem_of_getElem? (i := 70) rfl))) rfl
theorem yq_25 : (Cond.fieldLink "LayerDesk$Descriptor" 34 "LayerDesk$Descriptor" "optional" "[Z") ∈ wT := wT_t (List.mem_append_right _ (List.mem_append_left _ (List.mem_of_getElem? (i := 72) rfl))) rfl
theorem yq_26 : (Cond.fieldLink "LayerDesk$Descriptor" 37 "LayerDesk$Descriptor" "used" "LLayerDesk$Names;") ∈ wT := wT_t (List.mem_append_right _ (List.mem_append_left _ (List.mem_of_getElem? (i := 75) rfl))) rfl
theorem yq_27 : (Cond.fieldLink "LayerDesk$Descriptor" 40 "LayerDesk$Descriptor" "provided" "LLayerDesk$Names;") ∈ wT := wT_t (List.mem_append_right _ (List.mem_append_left _ (List.mem_of_getElem? (i := 78) rfl))) rfl
theorem yq_28 : (Cond.fieldLink "LayerDesk$Descriptor" 43 "LayerDesk$Descriptor" "settled" "Z") ∈ wT := wT_t (List.mem_append_right _ (List.mem_append_left _ (List.mem_of_getElem? (i := 82) rfl))) rfl
theorem yq_29 : (Cond.fieldLink "LayerDesk$Descriptor" 47 "LayerDesk$Descriptor" "number" "I") ∈ wT := wT_t (List.mem_append_right _ (List.mem_append_left _ (List.mem_of_getElem? (i := 46) rfl))) rfl
theorem yq_30 : (Cond.fieldLink "LayerDesk$Descriptor" 51 "LayerDesk$Descriptor" "finder" "I") ∈ wT := wT_t (List.mem_append_right _ (List.mem_append_left _ (List.mem_of_getElem? (i := 51) rfl))) rfl
theorem yq_31 : (Cond.fieldLink "LayerDesk$Descriptor" 54 "LayerDesk$Descriptor" "name" "I") ∈ wT := wT_t (List.mem_append_right _ (List.mem_append_left _ (List.mem_of_getElem? (i := 54) rfl))) rfl
set_option maxHeartbeats 4000000 in
set_option maxRecDepth 100000 in
theorem xc_Na_init (l : Launch) (D : va_G) (kA : Nat → ClassId) (sz : Nat) (ad : Nat → Nat → Nat) (E : Nat → Nat → va_E) (RL : List (Nat × Nat)) (b : Nat) (o : Nat) (oa : Nat) (cp : Nat) (ym0 : (b, o) ∈ RL) (yc0 : E b o = .inr (8, [.null, .int 0])) (hcp : cp ≤ 6) (hoa : o ≠ oa) : Met l xy_Na_init (.code xy_Na_init xb_Na_init 2 none :: wT) { frames := 1, cells := 1, slots := 6, locals := 14 } (va_Pc [.ref (ad b o), .int (nI cp)] (xPre D kA sz (rp ad E RL))) (va_Qv (fun (u : (Nat → Nat → Nat) × (Nat → Nat → va_E) × List (Nat × Nat)) => (True) ∧ (u.2.1 b o = .inr (8, [.ref (u.1 b oa), .int 0])) ∧ (u.2.1 b oa = .inl (kA 0, cp, .inl (fun _ => 0))) ∧ ((∀ b2 o2, ¬ (b2 = b ∧ o2 = o) → ¬ (b2 = b ∧ o2 = oa) → u.2.1 b2 o2 = E b2 o2)) ∧ ((∀ b2 o2, ¬ (b2 = b ∧ o2 = oa) → u.1 b2 o2 = ad b2 o2)) ∧ ((∀ x ∈ RL, x ∈ u.2.2)) ∧ ((b, oa) ∈ u.2.2)) (fun (u : (Nat → Nat → Nat) × (Nat → Nat → va_E) × List (Nat × Nat)) t => va_P D xcl (rp u.1 u.2.1 u.2.2) t.heap ∧ va_D (va_A (rp ad E RL) sz) (rp u.1 u.2.1 u.2.2)) (va_A (rp ad E RL) sz)) 1 6 (va_A (rp ad E RL) sz) := by
  refine Met.ofW (cc := xb_Na_init) (maxL := 2) (ret := none) (by decide) rfl ?_
  intro p e s m args below meth c s₁ B hml hv
  obtain ⟨rfl, hsz, hP, hK, hD0⟩ := hv
  have hx := B.exec
  have hb := B.bytes
  have hr := B.returns
  have hT := x_hT B.pre
  have hown : s.vm.findClass xR_Na = some m.cls := findClass_of_methodNamed B.named
  have hlocks := B.notSynchronized
  have hin : meth.name = "<init>" := (name_of_methodNamed B.named B.method).1
  subst hsz
  have hD := hD0.self (sz := s.heap.size)
  generalize hAe : va_A (rp ad E RL) s.heap.size = A at hD ⊢
  have hA : ∀ q : Nat, s.heap.size ≤ q → A q := fun q h => by rw [← hAe]; exact Or.inr h
  have hS : va_S A s.heap s.heap [] := va_S.rf
  have hl := lv_entry ([.ref (ad b o), .int (nI cp)]) (n := 2) (Nat.le_of_ble_eq_true rfl)
  rw [lg_entry_eq]
  generalize (lg_sl ([.ref (ad b o), .int (nI cp)]) ++ List.replicate (2 - (lg_sl ([.ref (ad b o), .int (nI cp)])).length) Slot.unset).toArray = ls at hl ⊢
  have hl : lv_has ls 2 [(0, .ref (ad b o)), (1, .int (nI cp))] := hl
  have hP : va_P D xcl (rp ad E RL) s.heap := hP
  refine lv_aload_n hx hb xd_Na_init_0 rfl (lv_at hl 0 rfl) ?_
  refine W.objInit hx hb hown (hT _ yq_0) (hT _ yq_1) (hT _ yq_2) rfl (by rw [hml]; exact hl.1) rfl xd_Na_init_1 (Nat.le_of_ble_eq_true rfl) (Nat.le_of_ble_eq_true rfl) ?_
  refine W.eq (g2 := F0 m 4 ls []) rfl ?_
  refine lv_aload_n hx hb xd_Na_init_4 rfl (lv_at hl 0 rfl) ?_
  refine lv_iload_n hx hb xd_Na_init_5 rfl (lv_at hl 1 rfl) ?_
  refine W.eq (g2 := F0 m 6 ls [.int (nI cp), .ref (ad b o)]) rfl ?_
  refine px_newa (atype := .int) (a0 := (cp, Sum.inl (fun _ => 0))) (ty := .int) (N' := cp) b oa hx hb (hT _ yq_3) rfl (fun _ h9 => h9) hK.1 0 rfl hP hD hS hA (fun _ => rfl) (by omega) (show cp * 4 ≤ 536870912 by omega) (Nat.le_of_ble_eq_true rfl) (show 0 + cp ≤ 6 by omega) xd_Na_init_6 (fun ad1 E2 RL3 H hA1 hE1 hs1 hm1 hP hD hS => ?_)
  refine W.widen (k := 1) (n := 6) (by omega) (by omega) ?_
  have fE4 : ∀ b2 o2, ¬ (b2 = b ∧ o2 = oa) → E2 b2 o2 = E b2 o2 := fun b2 o2 h9 => by rw [hE1]; exact up2_ne (nr_or h9)
  have fA5 : ∀ b2 o2, ¬ (b2 = b ∧ o2 = oa) → ad1 b2 o2 = ad b2 o2 := fun b2 o2 h9 => by rw [hA1]; exact up2_ne (nr_or h9)
  have hs6 := hs1
  refine W.eq (g2 := F0 m _ ls [.ref (ad1 b oa), .ref (ad1 b o)]) (by rw [fA5 b o (by omega)]) ?_
  have c_7 : E2 b oa = .inl (kA 0, cp, .inl (fun _ => 0)) := by rw [hE1]; exact up2_eq
  have hl : lv_has ls 2 [(0, .ref (ad1 b o)), (1, .int (nI cp))] := by
    rw [fA5 b o (by omega)]; exact hl
  have m_9 : (b, o) ∈ RL3 := hs6 _ ym0
  have c_10 : E2 b o = .inr (8, [.null, .int 0]) := by rw [fE4 b o (by omega)]; exact yc0
  have m_8 : (b, oa) ∈ RL3 := hm1
  have hP : va_P D xcl (rp ad1 E2 RL3) H := hP
  have hD : va_D A (rp ad1 E2 RL3) := hD
  refine px_putF (D := D) (ci := 8) (v := .ref (ad1 b oa)) (ty := .array .int) (C := xR_Na) (T := xT_Na) (N := 2) hx hb hT xi_Na xt_Na xt_Na_ok xn_Na hown hK.1 hP hD hS m_9 c_10 rfl 0 (by decide) (hT _ yq_4) (fun _ h9 => h9) rfl hin rfl (by decide +kernel) rfl rfl (Nat.le_of_ble_eq_true rfl) xd_Na_init_8 (fun H locs hP hD hS => ?_)
  have hP : va_P D xcl (rp ad1 (up2 E2 b o (.inr (8, [.ref (ad1 b oa), .int 0]))) RL3) H := hP
  have hD : va_D A (rp ad1 (up2 E2 b o (.inr (8, [.ref (ad1 b oa), .int 0]))) RL3) := hD
  generalize hE12 : up2 E2 b o (.inr (8, [.ref (ad1 b oa), .int 0])) = E11 at hP hD
  have fE13 : ∀ b2 o2, ¬ (b2 = b ∧ o2 = o) → E11 b2 o2 = E2 b2 o2 := fun b2 o2 h9 => by rw [← hE12]; exact up2_ne (nr_or h9)
  have c_14 : E11 b o = .inr (8, [.ref (ad1 b oa), .int 0]) := by rw [← hE12]; exact up2_eq
  have c_15 : E11 b oa = .inl (kA 0, cp, .inl (fun _ => 0)) := (fE13 b oa (by omega)).trans c_7
  refine lv_aload_n hx hb xd_Na_init_11 rfl (lv_at hl 0 rfl) ?_
  refine lv_iconst (v := 0) hx hb xd_Na_init_12 (by decide) ?_
  refine px_put (D := D) (ci := 8) (v := .int 0) (ty := .int) (C := xR_Na) (T := xT_Na) (N := 2) hx hb hT xi_Na xt_Na xt_Na_ok xn_Na hown hK.1 hP hD hS m_9 c_14 rfl 1 (by decide) (hT _ yq_5) (fun _ h9 => h9) rfl (by decide +kernel) rfl rfl (Nat.le_of_ble_eq_true rfl) xd_Na_init_13 (fun H locs hP hD hS => ?_)
  have hP : va_P D xcl (rp ad1 (up2 E11 b o (.inr (8, [.ref (ad1 b oa), .int 0]))) RL3) H := hP
  have hD : va_D A (rp ad1 (up2 E11 b o (.inr (8, [.ref (ad1 b oa), .int 0]))) RL3) := hD
  generalize hE17 : up2 E11 b o (.inr (8, [.ref (ad1 b oa), .int 0])) = E16 at hP hD
  have fE18 : ∀ b2 o2, ¬ (b2 = b ∧ o2 = o) → E16 b2 o2 = E11 b2 o2 := fun b2 o2 h9 => by rw [← hE17]; exact up2_ne (nr_or h9)
  have c_19 : E16 b o = .inr (8, [.ref (ad1 b oa), .int 0]) := by rw [← hE17]; exact up2_eq
  have c_20 : E16 b oa = .inl (kA 0, cp, .inl (fun _ => 0)) := (fE18 b oa (by omega)).trans c_15
  refine W.widen (k := 1) (n := 6) (Nat.le_of_ble_eq_true rfl) (Nat.le_of_ble_eq_true rfl) ?_
  exact W.vret hx hb hr (fun t ht hW => ⟨⟨(ad1, E16, RL3), rfl, ⟨trivial, c_19, c_20, (fun b2 o2 h09 h19 => by show E16 b2 o2 = _; rw [fE18 b2 o2 (by omega), fE13 b2 o2 (by omega), fE4 b2 o2 (by omega)]), (fun b2 o2 h09 => by show ad1 b2 o2 = _; rw [fA5 b2 o2 (by omega)]), (fun x9 hx9 => hs6 _ hx9), m_8⟩, by rw [ht]; exact hP, hD⟩, hS.F ht⟩) hS.2.2 xd_Na_init_16
set_option maxHeartbeats 4000000 in
set_option maxRecDepth 100000 in
theorem xc_Gr_init (l : Launch) (D : va_G) (kA : Nat → ClassId) (sz : Nat) (ad : Nat → Nat → Nat) (E : Nat → Nat → va_E) (RL : List (Nat × Nat)) (b : Nat) (g : Nat) (gn : Nat) (ga : Nat) (ym0 : (b, g) ∈ RL) (yc0 : E b g = .inr (9, [.null, .int 0])) (hgd : g ≠ gn ∧ gn ≠ ga ∧ g ≠ ga) : Met l xy_Gr_init (.code xy_Gr_init xb_Gr_init 1 none :: wT) { frames := 2, cells := 2, slots := 8, locals := 35 } (va_Pc [.ref (ad b g)] (xPre D kA sz (rp ad E RL))) (va_Qv (fun (u : (Nat → Nat → Nat) × (Nat → Nat → va_E) × List (Nat × Nat)) => (True) ∧ (u.2.1 b g = .inr (9, [.ref (u.1 b gn), .int 0])) ∧ (u.2.1 b gn = .inr (8, [.ref (u.1 b ga), .int 0])) ∧ (u.2.1 b ga = .inl (kA 0, 3, .inl (fun _ => 0))) ∧ ((∀ b2 o2, ¬ (b2 = b ∧ o2 = g) → ¬ (b2 = b ∧ o2 = gn) → ¬ (b2 = b ∧ o2 = ga) → u.2.1 b2 o2 = E b2 o2)) ∧ ((∀ b2 o2, ¬ (b2 = b ∧ o2 = gn) → ¬ (b2 = b ∧ o2 = ga) → u.1 b2 o2 = ad b2 o2)) ∧ ((∀ x ∈ RL, x ∈ u.2.2)) ∧ ((b, gn) ∈ u.2.2) ∧ ((b, ga) ∈ u.2.2)) (fun (u : (Nat → Nat → Nat) × (Nat → Nat → va_E) × List (Nat × Nat)) t => va_P D xcl (rp u.1 u.2.1 u.2.2) t.heap ∧ va_D (va_A (rp ad E RL) sz) (rp u.1 u.2.1 u.2.2)) (va_A (rp ad E RL) sz)) 2 8 (va_A (rp ad E RL) sz) := by
  refine Met.ofW (cc := xb_Gr_init) (maxL := 1) (ret := none) (by decide) rfl ?_
  intro p e s m args below meth c s₁ B hml hv
  obtain ⟨rfl, hsz, hP, hK, hD0⟩ := hv
  have hx := B.exec
  have hb := B.bytes
  have hr := B.returns
  have hT := x_hT B.pre
  have hown : s.vm.findClass xR_Gr = some m.cls := findClass_of_methodNamed B.named
  have hlocks := B.notSynchronized
  have hin : meth.name = "<init>" := (name_of_methodNamed B.named B.method).1
  subst hsz
  have hD := hD0.self (sz := s.heap.size)
  generalize hAe : va_A (rp ad E RL) s.heap.size = A at hD ⊢
  have hA : ∀ q : Nat, s.heap.size ≤ q → A q := fun q h => by rw [← hAe]; exact Or.inr h
  have hS : va_S A s.heap s.heap [] := va_S.rf
  have hl := lv_entry ([.ref (ad b g)]) (n := 1) (Nat.le_of_ble_eq_true rfl)
  rw [lg_entry_eq]
  generalize (lg_sl ([.ref (ad b g)]) ++ List.replicate (1 - (lg_sl ([.ref (ad b g)])).length) Slot.unset).toArray = ls at hl ⊢
  have hl : lv_has ls 1 [(0, .ref (ad b g))] := hl
  have hP : va_P D xcl (rp ad E RL) s.heap := hP
  refine lv_aload_n hx hb xd_Gr_init_0 rfl (lv_at hl 0 rfl) ?_
  refine W.objInit hx hb hown (hT _ yq_6) (hT _ yq_1) (hT _ yq_2) rfl (by rw [hml]; exact hl.1) rfl xd_Gr_init_1 (Nat.le_of_ble_eq_true rfl) (Nat.le_of_ble_eq_true rfl) ?_
  refine W.eq (g2 := F0 m 4 ls []) rfl ?_
  refine lv_aload_n hx hb xd_Gr_init_4 rfl (lv_at hl 0 rfl) ?_
  refine px_new (ci := 8) (fs := [.null, .int 0]) (C := xR_Na) (T := xT_Na) (N := 2) b gn hx hb hT xi_Na xt_Na xt_Na_ok hown (hT _ yq_7) (hT _ yq_8) (hT _ yq_9) hK.1 hP hD hS hA rfl (by decide +kernel) (Nat.le_of_ble_eq_true rfl) (Nat.le_of_ble_eq_true rfl) xd_Gr_init_5 (fun ad1 E2 RL3 H hA1 hE1 hs1 hm1 hP hD hS => ?_)
  have fE4 : ∀ b2 o2, ¬ (b2 = b ∧ o2 = gn) → E2 b2 o2 = E b2 o2 := fun b2 o2 h9 => by rw [hE1]; exact up2_ne (nr_or h9)
  have fA5 : ∀ b2 o2, ¬ (b2 = b ∧ o2 = gn) → ad1 b2 o2 = ad b2 o2 := fun b2 o2 h9 => by rw [hA1]; exact up2_ne (nr_or h9)
  have hs6 := hs1
  refine W.eq (g2 := F0 m _ ls [.ref (ad1 b gn), .ref (ad1 b g)]) (by rw [fA5 b g (by omega)]) ?_
  have c_7 : E2 b gn = .inr (8, [.null, .int 0]) := by rw [hE1]; exact up2_eq
  have hl : lv_has ls 1 [(0, .ref (ad1 b g))] := by
    rw [fA5 b g (by omega)]; exact hl
  have m_9 : (b, g) ∈ RL3 := hs6 _ ym0
  have c_10 : E2 b g = .inr (9, [.null, .int 0]) := by rw [fE4 b g (by omega)]; exact yc0
  have m_8 : (b, gn) ∈ RL3 := hm1
  have hP : va_P D xcl (rp ad1 E2 RL3) H := hP
  have hD : va_D A (rp ad1 E2 RL3) := hD
  refine lv_dup hx hb xd_Gr_init_8 rfl ?_
  refine lv_iconst (v := 3) hx hb xd_Gr_init_9 (by decide) ?_
  have hFc := px_free hD hS hA
  refine va_callv (va_runI (As := [.int 3]) (rest := [.ref (ad1 b gn), .ref (ad1 b g)]) ⟨hx, hb, hml, hown, hT⟩ (xc_Na_init l D kA H.size ad1 E2 RL3 b gn ga 3 m_8 c_7 (by first | assumption | omega) (by first | assumption | omega)) (cwI 1 hT (wT_I yq_10) rfl rfl rfl (hT _ yq_9) (hT _ yq_11) (hT _ yq_12) rfl (by decide +kernel) ⟨Nat.le_of_ble_eq_true rfl, Nat.le_of_ble_eq_true rfl⟩) (x_preS hK hP hD) rfl rfl hl.1 rfl (lv_room (Nat.le_of_ble_eq_true rfl)) xd_Gr_init_10 ⟨(Nat.le_of_ble_eq_true rfl), (Nat.le_of_ble_eq_true rfl)⟩) hS (fun q _ h => hFc q h) hFc (fun u12 t H1 locs ht hvm hp13 hB hz1 hk1 hS => ?_)
  obtain ⟨hP1, hD1⟩ := hB
  rw [ht] at hP1
  have hD1 := hD1.weaken (fun _ _ _ h => hFc _ h)
  generalize H1 = H at hP1 hS ⊢
  have hP := hP1
  have hD := hD1
  obtain ⟨ad14, E15, RL16⟩ := u12
  obtain ⟨hp23, p_17, p_18, p_19, p_20, p_21, p_22⟩ := hp13
  have p_17 : E15 b gn = .inr (8, [.ref (ad14 b ga), .int 0]) := p_17
  have p_18 : E15 b ga = .inl (kA 0, 3, .inl (fun _ => 0)) := p_18
  have p_19 : (∀ b2 o2, ¬ (b2 = b ∧ o2 = gn) → ¬ (b2 = b ∧ o2 = ga) → E15 b2 o2 = E2 b2 o2) := p_19
  have p_20 : (∀ b2 o2, ¬ (b2 = b ∧ o2 = ga) → ad14 b2 o2 = ad1 b2 o2) := p_20
  have p_21 : (∀ x ∈ RL3, x ∈ RL16) := p_21
  have p_22 : (b, ga) ∈ RL16 := p_22
  refine W.eq (g2 := F0 m 13 ls [.ref (ad14 b gn), .ref (ad14 b g)]) (by rw [p_20 b gn (by omega), p_20 b g (by omega)]) ?_
  have hl : lv_has ls 1 [(0, .ref (ad14 b g))] := by
    rw [p_20 b g (by omega)]; exact hl
  have m_24 : (b, g) ∈ RL16 := p_21 _ m_9
  have m_25 : (b, gn) ∈ RL16 := p_21 _ m_8
  have c_26 : E15 b g = .inr (9, [.null, .int 0]) := by rw [p_19 b g (by omega) (by omega)]; exact c_10
  have hP : va_P D xcl (rp ad14 E15 RL16) H := hP
  have hD : va_D A (rp ad14 E15 RL16) := hD
  refine px_putF (D := D) (ci := 9) (v := .ref (ad14 b gn)) (ty := .object "LayerDesk$Names") (C := xR_Gr) (T := xT_Gr) (N := 2) hx hb hT xi_Gr xt_Gr xt_Gr_ok xn_Gr hown hK.1 hP hD hS m_24 c_26 rfl 0 (by decide) (hT _ yq_13) (fun _ h9 => h9) rfl hin rfl (by decide +kernel) rfl rfl (Nat.le_of_ble_eq_true rfl) xd_Gr_init_13 (fun H locs hP hD hS => ?_)
  have hP : va_P D xcl (rp ad14 (up2 E15 b g (.inr (9, [.ref (ad14 b gn), .int 0]))) RL16) H := hP
  have hD : va_D A (rp ad14 (up2 E15 b g (.inr (9, [.ref (ad14 b gn), .int 0]))) RL16) := hD
  generalize hE28 : up2 E15 b g (.inr (9, [.ref (ad14 b gn), .int 0])) = E27 at hP hD
  have fE29 : ∀ b2 o2, ¬ (b2 = b ∧ o2 = g) → E27 b2 o2 = E15 b2 o2 := fun b2 o2 h9 => by rw [← hE28]; exact up2_ne (nr_or h9)
  have c_30 : E27 b g = .inr (9, [.ref (ad14 b gn), .int 0]) := by rw [← hE28]; exact up2_eq
  have c_31 : E27 b gn = .inr (8, [.ref (ad14 b ga), .int 0]) := (fE29 b gn (by omega)).trans p_17
  have c_32 : E27 b ga = .inl (kA 0, 3, .inl (fun _ => 0)) := (fE29 b ga (by omega)).trans p_18
  refine lv_aload_n hx hb xd_Gr_init_16 rfl (lv_at hl 0 rfl) ?_
  refine lv_iconst (v := 0) hx hb xd_Gr_init_17 (by decide) ?_
  refine px_put (D := D) (ci := 9) (v := .int 0) (ty := .boolean) (C := xR_Gr) (T := xT_Gr) (N := 2) hx hb hT xi_Gr xt_Gr xt_Gr_ok xn_Gr hown hK.1 hP hD hS m_24 c_30 rfl 1 (by decide) (hT _ yq_14) (fun _ h9 => h9) rfl (by decide +kernel) rfl rfl (Nat.le_of_ble_eq_true rfl) xd_Gr_init_18 (fun H locs hP hD hS => ?_)
  have hP : va_P D xcl (rp ad14 (up2 E27 b g (.inr (9, [.ref (ad14 b gn), .int 0]))) RL16) H := hP
  have hD : va_D A (rp ad14 (up2 E27 b g (.inr (9, [.ref (ad14 b gn), .int 0]))) RL16) := hD
  generalize hE34 : up2 E27 b g (.inr (9, [.ref (ad14 b gn), .int 0])) = E33 at hP hD
  have fE35 : ∀ b2 o2, ¬ (b2 = b ∧ o2 = g) → E33 b2 o2 = E27 b2 o2 := fun b2 o2 h9 => by rw [← hE34]; exact up2_ne (nr_or h9)
  have c_36 : E33 b g = .inr (9, [.ref (ad14 b gn), .int 0]) := by rw [← hE34]; exact up2_eq
  have c_37 : E33 b gn = .inr (8, [.ref (ad14 b ga), .int 0]) := (fE35 b gn (by omega)).trans c_31
  have c_38 : E33 b ga = .inl (kA 0, 3, .inl (fun _ => 0)) := (fE35 b ga (by omega)).trans c_32
  refine W.widen (k := 2) (n := 8) (Nat.le_of_ble_eq_true rfl) (Nat.le_of_ble_eq_true rfl) ?_
  exact W.vret hx hb hr (fun t ht hW => ⟨⟨(ad14, E33, RL16), rfl, ⟨trivial, c_36, c_37, c_38, (fun b2 o2 h09 h19 h29 => by show E33 b2 o2 = _; rw [fE35 b2 o2 (by omega), fE29 b2 o2 (by omega), p_19 b2 o2 (by omega) (by omega), fE4 b2 o2 (by omega)]), (fun b2 o2 h09 h19 => by show ad14 b2 o2 = _; rw [p_20 b2 o2 (by omega), fA5 b2 o2 (by omega)]), (fun x9 hx9 => p_21 _ (hs6 _ hx9)), m_25, p_22⟩, by rw [ht]; exact hP, hD⟩, hS.F ht⟩) hS.2.2 xd_Gr_init_21
set_option maxHeartbeats 4000000 in
set_option maxRecDepth 100000 in
theorem xc_Ds_init (l : Launch) (D : va_G) (kA : Nat → ClassId) (sz : Nat) (ad : Nat → Nat → Nat) (E : Nat → Nat → va_E) (RL : List (Nat × Nat)) (d : Nat) (fi : Int32) (nm : Int32) (ym0 : (1 + d, 0) ∈ RL) (yc0 : E (1 + d) 0 = .inr (7, [.int 0, .int 0, .int 0, .null, .null, .null, .null, .null, .null, .null, .null, .int 0])) : Met l xy_Ds_init (.code xy_Ds_init xb_Ds_init 4 none :: wT) { frames := 2, cells := 12, slots := 54, locals := 35 } (va_Pc [.ref (ad (1 + d) 0), .int (nI d), .int fi, .int nm] (xPre D kA sz (rp ad E RL))) (va_Qv (fun (u : (Nat → Nat → Nat) × (Nat → Nat → va_E) × List (Nat × Nat)) => (True) ∧ (u.2.1 (1 + d) 0 = .inr (7, [.int (nI d), .int fi, .int nm, .ref (u.1 (1 + d) 1), .ref (u.1 (1 + d) 9), .ref (u.1 (1 + d) 10), .ref (u.1 (1 + d) 2), .ref (u.1 (1 + d) 11), .ref (u.1 (1 + d) 12), .ref (u.1 (1 + d) 3), .ref (u.1 (1 + d) 4), .int 0])) ∧ (u.2.1 (1 + d) 1 = .inr (8, [.ref (u.1 (1 + d) 5), .int 0])) ∧ (u.2.1 (1 + d) 2 = .inr (8, [.ref (u.1 (1 + d) 6), .int 0])) ∧ (u.2.1 (1 + d) 3 = .inr (8, [.ref (u.1 (1 + d) 7), .int 0])) ∧ (u.2.1 (1 + d) 4 = .inr (8, [.ref (u.1 (1 + d) 8), .int 0])) ∧ (u.2.1 (1 + d) 5 = .inl (kA 0, 6, .inl (fun _ => 0))) ∧ (u.2.1 (1 + d) 6 = .inl (kA 0, 5, .inl (fun _ => 0))) ∧ (u.2.1 (1 + d) 7 = .inl (kA 0, 3, .inl (fun _ => 0))) ∧ (u.2.1 (1 + d) 8 = .inl (kA 0, 3, .inl (fun _ => 0))) ∧ (u.2.1 (1 + d) 9 = .inl (kA 8, 6, .inr (.inr (.inr (.inr (fun _ => none)))))) ∧ (u.2.1 (1 + d) 10 = .inl (kA 8, 6, .inr (.inr (.inr (.inr (fun _ => none)))))) ∧ (u.2.1 (1 + d) 11 = .inl (kA 2, 5, .inl (fun _ => 0))) ∧ (u.2.1 (1 + d) 12 = .inl (kA 2, 5, .inl (fun _ => 0))) ∧ ((∀ b2 o2, ¬ (b2 = 1 + d ∧ o2 = 0) → ¬ (b2 = 1 + d ∧ o2 = 1) → ¬ (b2 = 1 + d ∧ o2 = 2) → ¬ (b2 = 1 + d ∧ o2 = 3) → ¬ (b2 = 1 + d ∧ o2 = 4) → ¬ (b2 = 1 + d ∧ o2 = 5) → ¬ (b2 = 1 + d ∧ o2 = 6) → ¬ (b2 = 1 + d ∧ o2 = 7) → ¬ (b2 = 1 + d ∧ o2 = 8) → ¬ (b2 = 1 + d ∧ o2 = 9) → ¬ (b2 = 1 + d ∧ o2 = 10) → ¬ (b2 = 1 + d ∧ o2 = 11) → ¬ (b2 = 1 + d ∧ o2 = 12) → u.2.1 b2 o2 = E b2 o2)) ∧ ((∀ b2 o2, ¬ (b2 = 1 + d ∧ o2 = 1) → ¬ (b2 = 1 + d ∧ o2 = 2) → ¬ (b2 = 1 + d ∧ o2 = 3) → ¬ (b2 = 1 + d ∧ o2 = 4) → ¬ (b2 = 1 + d ∧ o2 = 5) → ¬ (b2 = 1 + d ∧ o2 = 6) → ¬ (b2 = 1 + d ∧ o2 = 7) → ¬ (b2 = 1 + d ∧ o2 = 8) → ¬ (b2 = 1 + d ∧ o2 = 9) → ¬ (b2 = 1 + d ∧ o2 = 10) → ¬ (b2 = 1 + d ∧ o2 = 11) → ¬ (b2 = 1 + d ∧ o2 = 12) → u.1 b2 o2 = ad b2 o2)) ∧ ((∀ x ∈ RL, x ∈ u.2.2)) ∧ ((1 + d, 1) ∈ u.2.2) ∧ ((1 + d, 2) ∈ u.2.2) ∧ ((1 + d, 3) ∈ u.2.2) ∧ ((1 + d, 4) ∈ u.2.2) ∧ ((1 + d, 5) ∈ u.2.2) ∧ ((1 + d, 6) ∈ u.2.2) ∧ ((1 + d, 7) ∈ u.2.2) ∧ ((1 + d, 8) ∈ u.2.2) ∧ ((1 + d, 9) ∈ u.2.2) ∧ ((1 + d, 10) ∈ u.2.2) ∧ ((1 + d, 11) ∈ u.2.2) ∧ ((1 + d, 12) ∈ u.2.2)) (fun (u : (Nat → Nat → Nat) × (Nat → Nat → va_E) × List (Nat × Nat)) t => va_P D xcl (rp u.1 u.2.1 u.2.2) t.heap ∧ va_D (va_A (rp ad E RL) sz) (rp u.1 u.2.1 u.2.2)) (va_A (rp ad E RL) sz)) 12 54 (va_A (rp ad E RL) sz) := by
  refine Met.ofW (cc := xb_Ds_init) (maxL := 4) (ret := none) (by decide) rfl ?_
  intro p e s m args below meth c s₁ B hml hv
  obtain ⟨rfl, hsz, hP, hK, hD0⟩ := hv
  have hx := B.exec
  have hb := B.bytes
  have hr := B.returns
  have hT := x_hT B.pre
  have hown : s.vm.findClass xR_Ds = some m.cls := findClass_of_methodNamed B.named
  have hlocks := B.notSynchronized
  have hin : meth.name = "<init>" := (name_of_methodNamed B.named B.method).1
  subst hsz
  have hD := hD0.self (sz := s.heap.size)
  generalize hAe : va_A (rp ad E RL) s.heap.size = A at hD ⊢
  have hA : ∀ q : Nat, s.heap.size ≤ q → A q := fun q h => by rw [← hAe]; exact Or.inr h
  have hS : va_S A s.heap s.heap [] := va_S.rf
  have hl := lv_entry ([.ref (ad (1 + d) 0), .int (nI d), .int fi, .int nm]) (n := 4) (Nat.le_of_ble_eq_true rfl)
  rw [lg_entry_eq]
  generalize (lg_sl ([.ref (ad (1 + d) 0), .int (nI d), .int fi, .int nm]) ++ List.replicate (4 - (lg_sl ([.ref (ad (1 + d) 0), .int (nI d), .int fi, .int nm])).length) Slot.unset).toArray = ls at hl ⊢
  have hl : lv_has ls 4 [(0, .ref (ad (1 + d) 0)), (1, .int (nI d)), (2, .int fi), (3, .int nm)] := hl
  have hP : va_P D xcl (rp ad E RL) s.heap := hP
  refine lv_aload_n hx hb xd_Ds_init_0 rfl (lv_at hl 0 rfl) ?_
  refine W.objInit hx hb hown (hT _ yq_15) (hT _ yq_1) (hT _ yq_2) rfl (by rw [hml]; exact hl.1) rfl xd_Ds_init_1 (Nat.le_of_ble_eq_true rfl) (Nat.le_of_ble_eq_true rfl) ?_
  refine W.eq (g2 := F0 m 4 ls []) rfl ?_
  refine lv_aload_n hx hb xd_Ds_init_4 rfl (lv_at hl 0 rfl) ?_
  refine px_new (ci := 8) (fs := [.null, .int 0]) (C := xR_Na) (T := xT_Na) (N := 2) (1 + d) 1 hx hb hT xi_Na xt_Na xt_Na_ok hown (hT _ yq_16) (hT _ yq_8) (hT _ yq_9) hK.1 hP hD hS hA rfl (by decide +kernel) (Nat.le_of_ble_eq_true rfl) (Nat.le_of_ble_eq_true rfl) xd_Ds_init_5 (fun ad1 E2 RL3 H hA1 hE1 hs1 hm1 hP hD hS => ?_)
  have fE4 : ∀ b2 o2, ¬ (b2 = 1 + d ∧ o2 = 1) → E2 b2 o2 = E b2 o2 := fun b2 o2 h9 => by rw [hE1]; exact up2_ne (nr_or h9)
  have fA5 : ∀ b2 o2, ¬ (b2 = 1 + d ∧ o2 = 1) → ad1 b2 o2 = ad b2 o2 := fun b2 o2 h9 => by rw [hA1]; exact up2_ne (nr_or h9)
  have hs6 := hs1
  refine W.eq (g2 := F0 m _ ls [.ref (ad1 (1 + d) 1), .ref (ad1 (1 + d) 0)]) (by rw [fA5 (1 + d) 0 (fun q9 => absurd q9.2 (by decide))]) ?_
  have c_7 : E2 (1 + d) 1 = .inr (8, [.null, .int 0]) := by rw [hE1]; exact up2_eq
  have hl : lv_has ls 4 [(0, .ref (ad1 (1 + d) 0)), (1, .int (nI d)), (2, .int fi), (3, .int nm)] := by
    rw [fA5 (1 + d) 0 (fun q9 => absurd q9.2 (by decide))]; exact hl
  have m_9 : (1 + d, 0) ∈ RL3 := hs6 _ ym0
  have c_10 : E2 (1 + d) 0 = .inr (7, [.int 0, .int 0, .int 0, .null, .null, .null, .null, .null, .null, .null, .null, .int 0]) := by rw [fE4 (1 + d) 0 (fun q9 => absurd q9.2 (by decide))]; exact yc0
  have m_8 : (1 + d, 1) ∈ RL3 := hm1
  have hP : va_P D xcl (rp ad1 E2 RL3) H := hP
  have hD : va_D A (rp ad1 E2 RL3) := hD
  refine lv_dup hx hb xd_Ds_init_8 rfl ?_
  refine lv_bipush (v := 6) hx hb xd_Ds_init_9 (by decide) ?_
  have hFc := px_free hD hS hA
  refine va_callv (va_runI (As := [.int 6]) (rest := [.ref (ad1 (1 + d) 1), .ref (ad1 (1 + d) 0)]) ⟨hx, hb, hml, hown, hT⟩ (xc_Na_init l D kA H.size ad1 E2 RL3 (1 + d) 1 5 6 m_8 c_7 (by first | assumption | omega) (by first | assumption | omega)) (cwI 1 hT (wT_I yq_10) rfl rfl rfl (hT _ yq_9) (hT _ yq_17) (hT _ yq_12) rfl (by decide +kernel) ⟨Nat.le_of_ble_eq_true rfl, Nat.le_of_ble_eq_true rfl⟩) (x_preS hK hP hD) rfl rfl hl.1 rfl (lv_room (Nat.le_of_ble_eq_true rfl)) xd_Ds_init_11 ⟨(Nat.le_of_ble_eq_true rfl), (Nat.le_of_ble_eq_true rfl)⟩) hS (fun q _ h => hFc q h) hFc (fun u12 t H1 locs ht hvm hp13 hB hz1 hk1 hS => ?_)
  obtain ⟨hP1, hD1⟩ := hB
  rw [ht] at hP1
  have hD1 := hD1.weaken (fun _ _ _ h => hFc _ h)
  generalize H1 = H at hP1 hS ⊢
  have hP := hP1
  have hD := hD1
  obtain ⟨ad14, E15, RL16⟩ := u12
  obtain ⟨hp23, p_17, p_18, p_19, p_20, p_21, p_22⟩ := hp13
  have p_17 : E15 (1 + d) 1 = .inr (8, [.ref (ad14 (1 + d) 5), .int 0]) := p_17
  have p_18 : E15 (1 + d) 5 = .inl (kA 0, 6, .inl (fun _ => 0)) := p_18
  have p_19 : (∀ b2 o2, ¬ (b2 = (1 + d) ∧ o2 = 1) → ¬ (b2 = (1 + d) ∧ o2 = 5) → E15 b2 o2 = E2 b2 o2) := p_19
  have p_20 : (∀ b2 o2, ¬ (b2 = (1 + d) ∧ o2 = 5) → ad14 b2 o2 = ad1 b2 o2) := p_20
  have p_21 : (∀ x ∈ RL3, x ∈ RL16) := p_21
  have p_22 : ((1 + d), 5) ∈ RL16 := p_22
  refine W.eq (g2 := F0 m 14 ls [.ref (ad14 (1 + d) 1), .ref (ad14 (1 + d) 0)]) (by rw [p_20 (1 + d) 1 (fun q9 => absurd q9.2 (by decide)), p_20 (1 + d) 0 (fun q9 => absurd q9.2 (by decide))]) ?_
  have hl : lv_has ls 4 [(0, .ref (ad14 (1 + d) 0)), (1, .int (nI d)), (2, .int fi), (3, .int nm)] := by
    rw [p_20 (1 + d) 0 (fun q9 => absurd q9.2 (by decide))]; exact hl
  have m_24 : (1 + d, 0) ∈ RL16 := p_21 _ m_9
  have m_25 : (1 + d, 1) ∈ RL16 := p_21 _ m_8
  have c_26 : E15 (1 + d) 0 = .inr (7, [.int 0, .int 0, .int 0, .null, .null, .null, .null, .null, .null, .null, .null, .int 0]) := by rw [p_19 (1 + d) 0 (fun q9 => absurd q9.2 (by decide)) (fun q9 => absurd q9.2 (by decide))]; exact c_10
  have hP : va_P D xcl (rp ad14 E15 RL16) H := hP
  have hD : va_D A (rp ad14 E15 RL16) := hD
  refine px_putF (D := D) (ci := 7) (v := .ref (ad14 (1 + d) 1)) (ty := .object "LayerDesk$Names") (C := xR_Ds) (T := xT_Ds) (N := 12) hx hb hT xi_Ds xt_Ds xt_Ds_ok xn_Ds hown hK.1 hP hD hS m_24 c_26 rfl 3 (by decide) (hT _ yq_18) (fun _ h9 => h9) rfl hin rfl (by decide +kernel) rfl rfl (Nat.le_of_ble_eq_true rfl) xd_Ds_init_14 (fun H locs hP hD hS => ?_)
  have hP : va_P D xcl (rp ad14 (up2 E15 (1 + d) 0 (.inr (7, [.int 0, .int 0, .int 0, .ref (ad14 (1 + d) 1), .null, .null, .null, .null, .null, .null, .null, .int 0]))) RL16) H := hP
  have hD : va_D A (rp ad14 (up2 E15 (1 + d) 0 (.inr (7, [.int 0, .int 0, .int 0, .ref (ad14 (1 + d) 1), .null, .null, .null, .null, .null, .null, .null, .int 0]))) RL16) := hD
  generalize hE28 : up2 E15 (1 + d) 0 (.inr (7, [.int 0, .int 0, .int 0, .ref (ad14 (1 + d) 1), .null, .null, .null, .null, .null, .null, .null, .int 0])) = E27 at hP hD
  have fE29 : ∀ b2 o2, ¬ (b2 = 1 + d ∧ o2 = 0) → E27 b2 o2 = E15 b2 o2 := fun b2 o2 h9 => by rw [← hE28]; exact up2_ne (nr_or h9)
  have c_30 : E27 (1 + d) 0 = .inr (7, [.int 0, .int 0, .int 0, .ref (ad14 (1 + d) 1), .null, .null, .null, .null, .null, .null, .null, .int 0]) := by rw [← hE28]; exact up2_eq
  have c_31 : E27 (1 + d) 1 = .inr (8, [.ref (ad14 (1 + d) 5), .int 0]) := (fE29 (1 + d) 1 (fun q9 => absurd q9.2 (by decide))).trans p_17
  have c_32 : E27 (1 + d) 5 = .inl (kA 0, 6, .inl (fun _ => 0)) := (fE29 (1 + d) 5 (fun q9 => absurd q9.2 (by decide))).trans p_18
  refine lv_aload_n hx hb xd_Ds_init_17 rfl (lv_at hl 0 rfl) ?_
  refine lv_bipush (v := 6) hx hb xd_Ds_init_18 (by decide) ?_
  refine W.eq (g2 := F0 m 20 ls [.int (nI 6), .ref (ad14 (1 + d) 0)]) rfl ?_
  refine px_newq (C := "LayerDesk$Grant") (N' := 6) (1 + d) 9 hx hb hown (hT _ yq_19) hK.2.1.2.2.2.2.2.2.2.2 hK.1 8 rfl hP hD hS hA (by omega) (Nat.le_of_ble_eq_true rfl) (Nat.le_of_ble_eq_true rfl) (Nat.le_of_ble_eq_true rfl) xd_Ds_init_20 (fun ad33 E34 RL35 H hA1 hE1 hs1 hm1 hP hD hS => ?_)
  have fE36 : ∀ b2 o2, ¬ (b2 = 1 + d ∧ o2 = 9) → E34 b2 o2 = E27 b2 o2 := fun b2 o2 h9 => by rw [hE1]; exact up2_ne (nr_or h9)
  have fA37 : ∀ b2 o2, ¬ (b2 = 1 + d ∧ o2 = 9) → ad33 b2 o2 = ad14 b2 o2 := fun b2 o2 h9 => by rw [hA1]; exact up2_ne (nr_or h9)
  have hs38 := hs1
  refine W.eq (g2 := F0 m _ ls [.ref (ad33 (1 + d) 9), .ref (ad33 (1 + d) 0)]) (by rw [fA37 (1 + d) 0 (fun q9 => absurd q9.2 (by decide))]) ?_
  have c_39 : E34 (1 + d) 9 = .inl (kA 8, 6, .inr (.inr (.inr (.inr (fun _ => none))))) := by rw [hE1]; exact up2_eq
  have hl : lv_has ls 4 [(0, .ref (ad33 (1 + d) 0)), (1, .int (nI d)), (2, .int fi), (3, .int nm)] := by
    rw [fA37 (1 + d) 0 (fun q9 => absurd q9.2 (by decide))]; exact hl
  have m_41 : (1 + d, 0) ∈ RL35 := hs38 _ m_24
  have m_42 : (1 + d, 1) ∈ RL35 := hs38 _ m_25
  have m_43 : (1 + d, 5) ∈ RL35 := hs38 _ p_22
  have c_44 : E34 (1 + d) 0 = .inr (7, [.int 0, .int 0, .int 0, .ref (ad33 (1 + d) 1), .null, .null, .null, .null, .null, .null, .null, .int 0]) := by rw [fE36 (1 + d) 0 (fun q9 => absurd q9.2 (by decide)), fA37 (1 + d) 1 (fun q9 => absurd q9.2 (by decide))]; exact c_30
  have c_45 : E34 (1 + d) 1 = .inr (8, [.ref (ad33 (1 + d) 5), .int 0]) := by rw [fE36 (1 + d) 1 (fun q9 => absurd q9.2 (by decide)), fA37 (1 + d) 5 (fun q9 => absurd q9.2 (by decide))]; exact c_31
  have c_46 : E34 (1 + d) 5 = .inl (kA 0, 6, .inl (fun _ => 0)) := by rw [fE36 (1 + d) 5 (fun q9 => absurd q9.2 (by decide))]; exact c_32
  have m_40 : (1 + d, 9) ∈ RL35 := hm1
  have hP : va_P D xcl (rp ad33 E34 RL35) H := hP
  have hD : va_D A (rp ad33 E34 RL35) := hD
  refine px_putF (D := D) (ci := 7) (v := .ref (ad33 (1 + d) 9)) (ty := .array (.object "LayerDesk$Grant")) (C := xR_Ds) (T := xT_Ds) (N := 12) hx hb hT xi_Ds xt_Ds xt_Ds_ok xn_Ds hown hK.1 hP hD hS m_41 c_44 rfl 4 (by decide) (hT _ yq_20) (fun _ h9 => h9) rfl hin rfl (by decide +kernel) rfl rfl (Nat.le_of_ble_eq_true rfl) xd_Ds_init_23 (fun H locs hP hD hS => ?_)
  have hP : va_P D xcl (rp ad33 (up2 E34 (1 + d) 0 (.inr (7, [.int 0, .int 0, .int 0, .ref (ad33 (1 + d) 1), .ref (ad33 (1 + d) 9), .null, .null, .null, .null, .null, .null, .int 0]))) RL35) H := hP
  have hD : va_D A (rp ad33 (up2 E34 (1 + d) 0 (.inr (7, [.int 0, .int 0, .int 0, .ref (ad33 (1 + d) 1), .ref (ad33 (1 + d) 9), .null, .null, .null, .null, .null, .null, .int 0]))) RL35) := hD
  generalize hE48 : up2 E34 (1 + d) 0 (.inr (7, [.int 0, .int 0, .int 0, .ref (ad33 (1 + d) 1), .ref (ad33 (1 + d) 9), .null, .null, .null, .null, .null, .null, .int 0])) = E47 at hP hD
  have fE49 : ∀ b2 o2, ¬ (b2 = 1 + d ∧ o2 = 0) → E47 b2 o2 = E34 b2 o2 := fun b2 o2 h9 => by rw [← hE48]; exact up2_ne (nr_or h9)
  have c_50 : E47 (1 + d) 0 = .inr (7, [.int 0, .int 0, .int 0, .ref (ad33 (1 + d) 1), .ref (ad33 (1 + d) 9), .null, .null, .null, .null, .null, .null, .int 0]) := by rw [← hE48]; exact up2_eq
  have c_51 : E47 (1 + d) 9 = .inl (kA 8, 6, .inr (.inr (.inr (.inr (fun _ => none))))) := (fE49 (1 + d) 9 (fun q9 => absurd q9.2 (by decide))).trans c_39
  have c_52 : E47 (1 + d) 1 = .inr (8, [.ref (ad33 (1 + d) 5), .int 0]) := (fE49 (1 + d) 1 (fun q9 => absurd q9.2 (by decide))).trans c_45
  have c_53 : E47 (1 + d) 5 = .inl (kA 0, 6, .inl (fun _ => 0)) := (fE49 (1 + d) 5 (fun q9 => absurd q9.2 (by decide))).trans c_46
  refine lv_aload_n hx hb xd_Ds_init_26 rfl (lv_at hl 0 rfl) ?_
  refine lv_bipush (v := 6) hx hb xd_Ds_init_27 (by decide) ?_
  refine W.eq (g2 := F0 m 29 ls [.int (nI 6), .ref (ad33 (1 + d) 0)]) rfl ?_
  refine px_newq (C := "LayerDesk$Grant") (N' := 6) (1 + d) 10 hx hb hown (hT _ yq_19) hK.2.1.2.2.2.2.2.2.2.2 hK.1 8 rfl hP hD hS hA (by omega) (Nat.le_of_ble_eq_true rfl) (Nat.le_of_ble_eq_true rfl) (Nat.le_of_ble_eq_true rfl) xd_Ds_init_29 (fun ad54 E55 RL56 H hA1 hE1 hs1 hm1 hP hD hS => ?_)
  have fE57 : ∀ b2 o2, ¬ (b2 = 1 + d ∧ o2 = 10) → E55 b2 o2 = E47 b2 o2 := fun b2 o2 h9 => by rw [hE1]; exact up2_ne (nr_or h9)
  have fA58 : ∀ b2 o2, ¬ (b2 = 1 + d ∧ o2 = 10) → ad54 b2 o2 = ad33 b2 o2 := fun b2 o2 h9 => by rw [hA1]; exact up2_ne (nr_or h9)
  have hs59 := hs1
  refine W.eq (g2 := F0 m _ ls [.ref (ad54 (1 + d) 10), .ref (ad54 (1 + d) 0)]) (by rw [fA58 (1 + d) 0 (fun q9 => absurd q9.2 (by decide))]) ?_
  have c_60 : E55 (1 + d) 10 = .inl (kA 8, 6, .inr (.inr (.inr (.inr (fun _ => none))))) := by rw [hE1]; exact up2_eq
  have hl : lv_has ls 4 [(0, .ref (ad54 (1 + d) 0)), (1, .int (nI d)), (2, .int fi), (3, .int nm)] := by
    rw [fA58 (1 + d) 0 (fun q9 => absurd q9.2 (by decide))]; exact hl
  have m_62 : (1 + d, 0) ∈ RL56 := hs59 _ m_41
  have m_63 : (1 + d, 1) ∈ RL56 := hs59 _ m_42
  have m_64 : (1 + d, 5) ∈ RL56 := hs59 _ m_43
  have m_65 : (1 + d, 9) ∈ RL56 := hs59 _ m_40
  have c_66 : E55 (1 + d) 0 = .inr (7, [.int 0, .int 0, .int 0, .ref (ad54 (1 + d) 1), .ref (ad54 (1 + d) 9), .null, .null, .null, .null, .null, .null, .int 0]) := by rw [fE57 (1 + d) 0 (fun q9 => absurd q9.2 (by decide)), fA58 (1 + d) 1 (fun q9 => absurd q9.2 (by decide)), fA58 (1 + d) 9 (fun q9 => absurd q9.2 (by decide))]; exact c_50
  have c_67 : E55 (1 + d) 9 = .inl (kA 8, 6, .inr (.inr (.inr (.inr (fun _ => none))))) := by rw [fE57 (1 + d) 9 (fun q9 => absurd q9.2 (by decide))]; exact c_51
  have c_68 : E55 (1 + d) 1 = .inr (8, [.ref (ad54 (1 + d) 5), .int 0]) := by rw [fE57 (1 + d) 1 (fun q9 => absurd q9.2 (by decide)), fA58 (1 + d) 5 (fun q9 => absurd q9.2 (by decide))]; exact c_52
  have c_69 : E55 (1 + d) 5 = .inl (kA 0, 6, .inl (fun _ => 0)) := by rw [fE57 (1 + d) 5 (fun q9 => absurd q9.2 (by decide))]; exact c_53
  have m_61 : (1 + d, 10) ∈ RL56 := hm1
  have hP : va_P D xcl (rp ad54 E55 RL56) H := hP
  have hD : va_D A (rp ad54 E55 RL56) := hD
  refine px_putF (D := D) (ci := 7) (v := .ref (ad54 (1 + d) 10)) (ty := .array (.object "LayerDesk$Grant")) (C := xR_Ds) (T := xT_Ds) (N := 12) hx hb hT xi_Ds xt_Ds xt_Ds_ok xn_Ds hown hK.1 hP hD hS m_62 c_66 rfl 5 (by decide) (hT _ yq_21) (fun _ h9 => h9) rfl hin rfl (by decide +kernel) rfl rfl (Nat.le_of_ble_eq_true rfl) xd_Ds_init_32 (fun H locs hP hD hS => ?_)
  have hP : va_P D xcl (rp ad54 (up2 E55 (1 + d) 0 (.inr (7, [.int 0, .int 0, .int 0, .ref (ad54 (1 + d) 1), .ref (ad54 (1 + d) 9), .ref (ad54 (1 + d) 10), .null, .null, .null, .null, .null, .int 0]))) RL56) H := hP
  have hD : va_D A (rp ad54 (up2 E55 (1 + d) 0 (.inr (7, [.int 0, .int 0, .int 0, .ref (ad54 (1 + d) 1), .ref (ad54 (1 + d) 9), .ref (ad54 (1 + d) 10), .null, .null, .null, .null, .null, .int 0]))) RL56) := hD
  generalize hE71 : up2 E55 (1 + d) 0 (.inr (7, [.int 0, .int 0, .int 0, .ref (ad54 (1 + d) 1), .ref (ad54 (1 + d) 9), .ref (ad54 (1 + d) 10), .null, .null, .null, .null, .null, .int 0])) = E70 at hP hD
  have fE72 : ∀ b2 o2, ¬ (b2 = 1 + d ∧ o2 = 0) → E70 b2 o2 = E55 b2 o2 := fun b2 o2 h9 => by rw [← hE71]; exact up2_ne (nr_or h9)
  have c_73 : E70 (1 + d) 0 = .inr (7, [.int 0, .int 0, .int 0, .ref (ad54 (1 + d) 1), .ref (ad54 (1 + d) 9), .ref (ad54 (1 + d) 10), .null, .null, .null, .null, .null, .int 0]) := by rw [← hE71]; exact up2_eq
  have c_74 : E70 (1 + d) 10 = .inl (kA 8, 6, .inr (.inr (.inr (.inr (fun _ => none))))) := (fE72 (1 + d) 10 (fun q9 => absurd q9.2 (by decide))).trans c_60
  have c_75 : E70 (1 + d) 9 = .inl (kA 8, 6, .inr (.inr (.inr (.inr (fun _ => none))))) := (fE72 (1 + d) 9 (fun q9 => absurd q9.2 (by decide))).trans c_67
  have c_76 : E70 (1 + d) 1 = .inr (8, [.ref (ad54 (1 + d) 5), .int 0]) := (fE72 (1 + d) 1 (fun q9 => absurd q9.2 (by decide))).trans c_68
  have c_77 : E70 (1 + d) 5 = .inl (kA 0, 6, .inl (fun _ => 0)) := (fE72 (1 + d) 5 (fun q9 => absurd q9.2 (by decide))).trans c_69
  refine lv_aload_n hx hb xd_Ds_init_35 rfl (lv_at hl 0 rfl) ?_
  refine px_new (ci := 8) (fs := [.null, .int 0]) (C := xR_Na) (T := xT_Na) (N := 2) (1 + d) 2 hx hb hT xi_Na xt_Na xt_Na_ok hown (hT _ yq_16) (hT _ yq_8) (hT _ yq_9) hK.1 hP hD hS hA rfl (by decide +kernel) (Nat.le_of_ble_eq_true rfl) (Nat.le_of_ble_eq_true rfl) xd_Ds_init_36 (fun ad78 E79 RL80 H hA1 hE1 hs1 hm1 hP hD hS => ?_)
  have fE81 : ∀ b2 o2, ¬ (b2 = 1 + d ∧ o2 = 2) → E79 b2 o2 = E70 b2 o2 := fun b2 o2 h9 => by rw [hE1]; exact up2_ne (nr_or h9)
  have fA82 : ∀ b2 o2, ¬ (b2 = 1 + d ∧ o2 = 2) → ad78 b2 o2 = ad54 b2 o2 := fun b2 o2 h9 => by rw [hA1]; exact up2_ne (nr_or h9)
  have hs83 := hs1
  refine W.eq (g2 := F0 m _ ls [.ref (ad78 (1 + d) 2), .ref (ad78 (1 + d) 0)]) (by rw [fA82 (1 + d) 0 (fun q9 => absurd q9.2 (by decide))]) ?_
  have c_84 : E79 (1 + d) 2 = .inr (8, [.null, .int 0]) := by rw [hE1]; exact up2_eq
  have hl : lv_has ls 4 [(0, .ref (ad78 (1 + d) 0)), (1, .int (nI d)), (2, .int fi), (3, .int nm)] := by
    rw [fA82 (1 + d) 0 (fun q9 => absurd q9.2 (by decide))]; exact hl
  have m_86 : (1 + d, 0) ∈ RL80 := hs83 _ m_62
  have m_87 : (1 + d, 1) ∈ RL80 := hs83 _ m_63
  have m_88 : (1 + d, 5) ∈ RL80 := hs83 _ m_64
  have m_89 : (1 + d, 9) ∈ RL80 := hs83 _ m_65
  have m_90 : (1 + d, 10) ∈ RL80 := hs83 _ m_61
  have c_91 : E79 (1 + d) 0 = .inr (7, [.int 0, .int 0, .int 0, .ref (ad78 (1 + d) 1), .ref (ad78 (1 + d) 9), .ref (ad78 (1 + d) 10), .null, .null, .null, .null, .null, .int 0]) := by rw [fE81 (1 + d) 0 (fun q9 => absurd q9.2 (by decide)), fA82 (1 + d) 1 (fun q9 => absurd q9.2 (by decide)), fA82 (1 + d) 9 (fun q9 => absurd q9.2 (by decide)), fA82 (1 + d) 10 (fun q9 => absurd q9.2 (by decide))]; exact c_73
  have c_92 : E79 (1 + d) 10 = .inl (kA 8, 6, .inr (.inr (.inr (.inr (fun _ => none))))) := by rw [fE81 (1 + d) 10 (fun q9 => absurd q9.2 (by decide))]; exact c_74
  have c_93 : E79 (1 + d) 9 = .inl (kA 8, 6, .inr (.inr (.inr (.inr (fun _ => none))))) := by rw [fE81 (1 + d) 9 (fun q9 => absurd q9.2 (by decide))]; exact c_75
  have c_94 : E79 (1 + d) 1 = .inr (8, [.ref (ad78 (1 + d) 5), .int 0]) := by rw [fE81 (1 + d) 1 (fun q9 => absurd q9.2 (by decide)), fA82 (1 + d) 5 (fun q9 => absurd q9.2 (by decide))]; exact c_76
  have c_95 : E79 (1 + d) 5 = .inl (kA 0, 6, .inl (fun _ => 0)) := by rw [fE81 (1 + d) 5 (fun q9 => absurd q9.2 (by decide))]; exact c_77
  have m_85 : (1 + d, 2) ∈ RL80 := hm1
  have hP : va_P D xcl (rp ad78 E79 RL80) H := hP
  have hD : va_D A (rp ad78 E79 RL80) := hD
  refine lv_dup hx hb xd_Ds_init_39 rfl ?_
  refine lv_iconst (v := 5) hx hb xd_Ds_init_40 (by decide) ?_
  have hFc := px_free hD hS hA
  refine va_callv (va_runI (As := [.int 5]) (rest := [.ref (ad78 (1 + d) 2), .ref (ad78 (1 + d) 0)]) ⟨hx, hb, hml, hown, hT⟩ (xc_Na_init l D kA H.size ad78 E79 RL80 (1 + d) 2 6 5 m_85 c_84 (by first | assumption | omega) (by first | assumption | omega)) (cwI 1 hT (wT_I yq_10) rfl rfl rfl (hT _ yq_9) (hT _ yq_17) (hT _ yq_12) rfl (by decide +kernel) ⟨Nat.le_of_ble_eq_true rfl, Nat.le_of_ble_eq_true rfl⟩) (x_preS hK hP hD) rfl rfl hl.1 rfl (lv_room (Nat.le_of_ble_eq_true rfl)) xd_Ds_init_41 ⟨(Nat.le_of_ble_eq_true rfl), (Nat.le_of_ble_eq_true rfl)⟩) hS (fun q _ h => hFc q h) hFc (fun u97 t H1 locs ht hvm hp98 hB hz1 hk1 hS => ?_)
  obtain ⟨hP1, hD1⟩ := hB
  rw [ht] at hP1
  have hD1 := hD1.weaken (fun _ _ _ h => hFc _ h)
  generalize H1 = H at hP1 hS ⊢
  have hP := hP1
  have hD := hD1
  obtain ⟨ad99, E100, RL101⟩ := u97
  obtain ⟨hp108, p_102, p_103, p_104, p_105, p_106, p_107⟩ := hp98
  have p_102 : E100 (1 + d) 2 = .inr (8, [.ref (ad99 (1 + d) 6), .int 0]) := p_102
  have p_103 : E100 (1 + d) 6 = .inl (kA 0, 5, .inl (fun _ => 0)) := p_103
  have p_104 : (∀ b2 o2, ¬ (b2 = (1 + d) ∧ o2 = 2) → ¬ (b2 = (1 + d) ∧ o2 = 6) → E100 b2 o2 = E79 b2 o2) := p_104
  have p_105 : (∀ b2 o2, ¬ (b2 = (1 + d) ∧ o2 = 6) → ad99 b2 o2 = ad78 b2 o2) := p_105
  have p_106 : (∀ x ∈ RL80, x ∈ RL101) := p_106
  have p_107 : ((1 + d), 6) ∈ RL101 := p_107
  refine W.eq (g2 := F0 m 44 ls [.ref (ad99 (1 + d) 2), .ref (ad99 (1 + d) 0)]) (by rw [p_105 (1 + d) 2 (fun q9 => absurd q9.2 (by decide)), p_105 (1 + d) 0 (fun q9 => absurd q9.2 (by decide))]) ?_
  have hl : lv_has ls 4 [(0, .ref (ad99 (1 + d) 0)), (1, .int (nI d)), (2, .int fi), (3, .int nm)] := by
    rw [p_105 (1 + d) 0 (fun q9 => absurd q9.2 (by decide))]; exact hl
  have m_109 : (1 + d, 0) ∈ RL101 := p_106 _ m_86
  have m_110 : (1 + d, 1) ∈ RL101 := p_106 _ m_87
  have m_111 : (1 + d, 5) ∈ RL101 := p_106 _ m_88
  have m_112 : (1 + d, 9) ∈ RL101 := p_106 _ m_89
  have m_113 : (1 + d, 10) ∈ RL101 := p_106 _ m_90
  have m_114 : (1 + d, 2) ∈ RL101 := p_106 _ m_85
  have c_115 : E100 (1 + d) 0 = .inr (7, [.int 0, .int 0, .int 0, .ref (ad99 (1 + d) 1), .ref (ad99 (1 + d) 9), .ref (ad99 (1 + d) 10), .null, .null, .null, .null, .null, .int 0]) := by rw [p_104 (1 + d) 0 (fun q9 => absurd q9.2 (by decide)) (fun q9 => absurd q9.2 (by decide)), p_105 (1 + d) 1 (fun q9 => absurd q9.2 (by decide)), p_105 (1 + d) 9 (fun q9 => absurd q9.2 (by decide)), p_105 (1 + d) 10 (fun q9 => absurd q9.2 (by decide))]; exact c_91
  have c_116 : E100 (1 + d) 10 = .inl (kA 8, 6, .inr (.inr (.inr (.inr (fun _ => none))))) := by rw [p_104 (1 + d) 10 (fun q9 => absurd q9.2 (by decide)) (fun q9 => absurd q9.2 (by decide))]; exact c_92
  have c_117 : E100 (1 + d) 9 = .inl (kA 8, 6, .inr (.inr (.inr (.inr (fun _ => none))))) := by rw [p_104 (1 + d) 9 (fun q9 => absurd q9.2 (by decide)) (fun q9 => absurd q9.2 (by decide))]; exact c_93
  have c_118 : E100 (1 + d) 1 = .inr (8, [.ref (ad99 (1 + d) 5), .int 0]) := by rw [p_104 (1 + d) 1 (fun q9 => absurd q9.2 (by decide)) (fun q9 => absurd q9.2 (by decide)), p_105 (1 + d) 5 (fun q9 => absurd q9.2 (by decide))]; exact c_94
  have c_119 : E100 (1 + d) 5 = .inl (kA 0, 6, .inl (fun _ => 0)) := by rw [p_104 (1 + d) 5 (fun q9 => absurd q9.2 (by decide)) (fun q9 => absurd q9.2 (by decide))]; exact c_95
  have hP : va_P D xcl (rp ad99 E100 RL101) H := hP
  have hD : va_D A (rp ad99 E100 RL101) := hD
  refine px_putF (D := D) (ci := 7) (v := .ref (ad99 (1 + d) 2)) (ty := .object "LayerDesk$Names") (C := xR_Ds) (T := xT_Ds) (N := 12) hx hb hT xi_Ds xt_Ds xt_Ds_ok xn_Ds hown hK.1 hP hD hS m_109 c_115 rfl 6 (by decide) (hT _ yq_22) (fun _ h9 => h9) rfl hin rfl (by decide +kernel) rfl rfl (Nat.le_of_ble_eq_true rfl) xd_Ds_init_44 (fun H locs hP hD hS => ?_)
  have hP : va_P D xcl (rp ad99 (up2 E100 (1 + d) 0 (.inr (7, [.int 0, .int 0, .int 0, .ref (ad99 (1 + d) 1), .ref (ad99 (1 + d) 9), .ref (ad99 (1 + d) 10), .ref (ad99 (1 + d) 2), .null, .null, .null, .null, .int 0]))) RL101) H := hP
  have hD : va_D A (rp ad99 (up2 E100 (1 + d) 0 (.inr (7, [.int 0, .int 0, .int 0, .ref (ad99 (1 + d) 1), .ref (ad99 (1 + d) 9), .ref (ad99 (1 + d) 10), .ref (ad99 (1 + d) 2), .null, .null, .null, .null, .int 0]))) RL101) := hD
  generalize hE121 : up2 E100 (1 + d) 0 (.inr (7, [.int 0, .int 0, .int 0, .ref (ad99 (1 + d) 1), .ref (ad99 (1 + d) 9), .ref (ad99 (1 + d) 10), .ref (ad99 (1 + d) 2), .null, .null, .null, .null, .int 0])) = E120 at hP hD
  have fE122 : ∀ b2 o2, ¬ (b2 = 1 + d ∧ o2 = 0) → E120 b2 o2 = E100 b2 o2 := fun b2 o2 h9 => by rw [← hE121]; exact up2_ne (nr_or h9)
  have c_123 : E120 (1 + d) 0 = .inr (7, [.int 0, .int 0, .int 0, .ref (ad99 (1 + d) 1), .ref (ad99 (1 + d) 9), .ref (ad99 (1 + d) 10), .ref (ad99 (1 + d) 2), .null, .null, .null, .null, .int 0]) := by rw [← hE121]; exact up2_eq
  have c_124 : E120 (1 + d) 2 = .inr (8, [.ref (ad99 (1 + d) 6), .int 0]) := (fE122 (1 + d) 2 (fun q9 => absurd q9.2 (by decide))).trans p_102
  have c_125 : E120 (1 + d) 6 = .inl (kA 0, 5, .inl (fun _ => 0)) := (fE122 (1 + d) 6 (fun q9 => absurd q9.2 (by decide))).trans p_103
  have c_126 : E120 (1 + d) 10 = .inl (kA 8, 6, .inr (.inr (.inr (.inr (fun _ => none))))) := (fE122 (1 + d) 10 (fun q9 => absurd q9.2 (by decide))).trans c_116
  have c_127 : E120 (1 + d) 9 = .inl (kA 8, 6, .inr (.inr (.inr (.inr (fun _ => none))))) := (fE122 (1 + d) 9 (fun q9 => absurd q9.2 (by decide))).trans c_117
  have c_128 : E120 (1 + d) 1 = .inr (8, [.ref (ad99 (1 + d) 5), .int 0]) := (fE122 (1 + d) 1 (fun q9 => absurd q9.2 (by decide))).trans c_118
  have c_129 : E120 (1 + d) 5 = .inl (kA 0, 6, .inl (fun _ => 0)) := (fE122 (1 + d) 5 (fun q9 => absurd q9.2 (by decide))).trans c_119
  refine lv_aload_n hx hb xd_Ds_init_47 rfl (lv_at hl 0 rfl) ?_
  refine lv_iconst (v := 5) hx hb xd_Ds_init_48 (by decide) ?_
  refine W.eq (g2 := F0 m 49 ls [.int (nI 5), .ref (ad99 (1 + d) 0)]) rfl ?_
  refine px_newa (atype := .boolean) (a0 := (5, Sum.inl (fun _ => 0))) (ty := .boolean) (N' := 5) (1 + d) 11 hx hb (hT _ yq_23) rfl (fun _ h9 => h9) hK.1 2 rfl hP hD hS hA (fun _ => rfl) (by omega) (Nat.le_of_ble_eq_true rfl) (Nat.le_of_ble_eq_true rfl) (Nat.le_of_ble_eq_true rfl) xd_Ds_init_49 (fun ad130 E131 RL132 H hA1 hE1 hs1 hm1 hP hD hS => ?_)
  have fE133 : ∀ b2 o2, ¬ (b2 = 1 + d ∧ o2 = 11) → E131 b2 o2 = E120 b2 o2 := fun b2 o2 h9 => by rw [hE1]; exact up2_ne (nr_or h9)
  have fA134 : ∀ b2 o2, ¬ (b2 = 1 + d ∧ o2 = 11) → ad130 b2 o2 = ad99 b2 o2 := fun b2 o2 h9 => by rw [hA1]; exact up2_ne (nr_or h9)
  have hs135 := hs1
  refine W.eq (g2 := F0 m _ ls [.ref (ad130 (1 + d) 11), .ref (ad130 (1 + d) 0)]) (by rw [fA134 (1 + d) 0 (fun q9 => absurd q9.2 (by decide))]) ?_
  have c_136 : E131 (1 + d) 11 = .inl (kA 2, 5, .inl (fun _ => 0)) := by rw [hE1]; exact up2_eq
  have hl : lv_has ls 4 [(0, .ref (ad130 (1 + d) 0)), (1, .int (nI d)), (2, .int fi), (3, .int nm)] := by
    rw [fA134 (1 + d) 0 (fun q9 => absurd q9.2 (by decide))]; exact hl
  have m_138 : (1 + d, 0) ∈ RL132 := hs135 _ m_109
  have m_139 : (1 + d, 1) ∈ RL132 := hs135 _ m_110
  have m_140 : (1 + d, 5) ∈ RL132 := hs135 _ m_111
  have m_141 : (1 + d, 9) ∈ RL132 := hs135 _ m_112
  have m_142 : (1 + d, 10) ∈ RL132 := hs135 _ m_113
  have m_143 : (1 + d, 2) ∈ RL132 := hs135 _ m_114
  have m_144 : (1 + d, 6) ∈ RL132 := hs135 _ p_107
  have c_145 : E131 (1 + d) 0 = .inr (7, [.int 0, .int 0, .int 0, .ref (ad130 (1 + d) 1), .ref (ad130 (1 + d) 9), .ref (ad130 (1 + d) 10), .ref (ad130 (1 + d) 2), .null, .null, .null, .null, .int 0]) := by rw [fE133 (1 + d) 0 (fun q9 => absurd q9.2 (by decide)), fA134 (1 + d) 1 (fun q9 => absurd q9.2 (by decide)), fA134 (1 + d) 9 (fun q9 => absurd q9.2 (by decide)), fA134 (1 + d) 10 (fun q9 => absurd q9.2 (by decide)), fA134 (1 + d) 2 (fun q9 => absurd q9.2 (by decide))]; exact c_123
  have c_146 : E131 (1 + d) 2 = .inr (8, [.ref (ad130 (1 + d) 6), .int 0]) := by rw [fE133 (1 + d) 2 (fun q9 => absurd q9.2 (by decide)), fA134 (1 + d) 6 (fun q9 => absurd q9.2 (by decide))]; exact c_124
  have c_147 : E131 (1 + d) 6 = .inl (kA 0, 5, .inl (fun _ => 0)) := by rw [fE133 (1 + d) 6 (fun q9 => absurd q9.2 (by decide))]; exact c_125
  have c_148 : E131 (1 + d) 10 = .inl (kA 8, 6, .inr (.inr (.inr (.inr (fun _ => none))))) := by rw [fE133 (1 + d) 10 (fun q9 => absurd q9.2 (by decide))]; exact c_126
  have c_149 : E131 (1 + d) 9 = .inl (kA 8, 6, .inr (.inr (.inr (.inr (fun _ => none))))) := by rw [fE133 (1 + d) 9 (fun q9 => absurd q9.2 (by decide))]; exact c_127
  have c_150 : E131 (1 + d) 1 = .inr (8, [.ref (ad130 (1 + d) 5), .int 0]) := by rw [fE133 (1 + d) 1 (fun q9 => absurd q9.2 (by decide)), fA134 (1 + d) 5 (fun q9 => absurd q9.2 (by decide))]; exact c_128
  have c_151 : E131 (1 + d) 5 = .inl (kA 0, 6, .inl (fun _ => 0)) := by rw [fE133 (1 + d) 5 (fun q9 => absurd q9.2 (by decide))]; exact c_129
  have m_137 : (1 + d, 11) ∈ RL132 := hm1
  have hP : va_P D xcl (rp ad130 E131 RL132) H := hP
  have hD : va_D A (rp ad130 E131 RL132) := hD
  refine px_putF (D := D) (ci := 7) (v := .ref (ad130 (1 + d) 11)) (ty := .array .boolean) (C := xR_Ds) (T := xT_Ds) (N := 12) hx hb hT xi_Ds xt_Ds xt_Ds_ok xn_Ds hown hK.1 hP hD hS m_138 c_145 rfl 7 (by decide) (hT _ yq_24) (fun _ h9 => h9) rfl hin rfl (by decide +kernel) rfl rfl (Nat.le_of_ble_eq_true rfl) xd_Ds_init_51 (fun H locs hP hD hS => ?_)
  have hP : va_P D xcl (rp ad130 (up2 E131 (1 + d) 0 (.inr (7, [.int 0, .int 0, .int 0, .ref (ad130 (1 + d) 1), .ref (ad130 (1 + d) 9), .ref (ad130 (1 + d) 10), .ref (ad130 (1 + d) 2), .ref (ad130 (1 + d) 11), .null, .null, .null, .int 0]))) RL132) H := hP
  have hD : va_D A (rp ad130 (up2 E131 (1 + d) 0 (.inr (7, [.int 0, .int 0, .int 0, .ref (ad130 (1 + d) 1), .ref (ad130 (1 + d) 9), .ref (ad130 (1 + d) 10), .ref (ad130 (1 + d) 2), .ref (ad130 (1 + d) 11), .null, .null, .null, .int 0]))) RL132) := hD
  generalize hE153 : up2 E131 (1 + d) 0 (.inr (7, [.int 0, .int 0, .int 0, .ref (ad130 (1 + d) 1), .ref (ad130 (1 + d) 9), .ref (ad130 (1 + d) 10), .ref (ad130 (1 + d) 2), .ref (ad130 (1 + d) 11), .null, .null, .null, .int 0])) = E152 at hP hD
  have fE154 : ∀ b2 o2, ¬ (b2 = 1 + d ∧ o2 = 0) → E152 b2 o2 = E131 b2 o2 := fun b2 o2 h9 => by rw [← hE153]; exact up2_ne (nr_or h9)
  have c_155 : E152 (1 + d) 0 = .inr (7, [.int 0, .int 0, .int 0, .ref (ad130 (1 + d) 1), .ref (ad130 (1 + d) 9), .ref (ad130 (1 + d) 10), .ref (ad130 (1 + d) 2), .ref (ad130 (1 + d) 11), .null, .null, .null, .int 0]) := by rw [← hE153]; exact up2_eq
  have c_156 : E152 (1 + d) 11 = .inl (kA 2, 5, .inl (fun _ => 0)) := (fE154 (1 + d) 11 (fun q9 => absurd q9.2 (by decide))).trans c_136
  have c_157 : E152 (1 + d) 2 = .inr (8, [.ref (ad130 (1 + d) 6), .int 0]) := (fE154 (1 + d) 2 (fun q9 => absurd q9.2 (by decide))).trans c_146
  have c_158 : E152 (1 + d) 6 = .inl (kA 0, 5, .inl (fun _ => 0)) := (fE154 (1 + d) 6 (fun q9 => absurd q9.2 (by decide))).trans c_147
  have c_159 : E152 (1 + d) 10 = .inl (kA 8, 6, .inr (.inr (.inr (.inr (fun _ => none))))) := (fE154 (1 + d) 10 (fun q9 => absurd q9.2 (by decide))).trans c_148
  have c_160 : E152 (1 + d) 9 = .inl (kA 8, 6, .inr (.inr (.inr (.inr (fun _ => none))))) := (fE154 (1 + d) 9 (fun q9 => absurd q9.2 (by decide))).trans c_149
  have c_161 : E152 (1 + d) 1 = .inr (8, [.ref (ad130 (1 + d) 5), .int 0]) := (fE154 (1 + d) 1 (fun q9 => absurd q9.2 (by decide))).trans c_150
  have c_162 : E152 (1 + d) 5 = .inl (kA 0, 6, .inl (fun _ => 0)) := (fE154 (1 + d) 5 (fun q9 => absurd q9.2 (by decide))).trans c_151
  refine lv_aload_n hx hb xd_Ds_init_54 rfl (lv_at hl 0 rfl) ?_
  refine lv_iconst (v := 5) hx hb xd_Ds_init_55 (by decide) ?_
  refine W.eq (g2 := F0 m 56 ls [.int (nI 5), .ref (ad130 (1 + d) 0)]) rfl ?_
  refine px_newa (atype := .boolean) (a0 := (5, Sum.inl (fun _ => 0))) (ty := .boolean) (N' := 5) (1 + d) 12 hx hb (hT _ yq_23) rfl (fun _ h9 => h9) hK.1 2 rfl hP hD hS hA (fun _ => rfl) (by omega) (Nat.le_of_ble_eq_true rfl) (Nat.le_of_ble_eq_true rfl) (Nat.le_of_ble_eq_true rfl) xd_Ds_init_56 (fun ad163 E164 RL165 H hA1 hE1 hs1 hm1 hP hD hS => ?_)
  have fE166 : ∀ b2 o2, ¬ (b2 = 1 + d ∧ o2 = 12) → E164 b2 o2 = E152 b2 o2 := fun b2 o2 h9 => by rw [hE1]; exact up2_ne (nr_or h9)
  have fA167 : ∀ b2 o2, ¬ (b2 = 1 + d ∧ o2 = 12) → ad163 b2 o2 = ad130 b2 o2 := fun b2 o2 h9 => by rw [hA1]; exact up2_ne (nr_or h9)
  have hs168 := hs1
  refine W.eq (g2 := F0 m _ ls [.ref (ad163 (1 + d) 12), .ref (ad163 (1 + d) 0)]) (by rw [fA167 (1 + d) 0 (fun q9 => absurd q9.2 (by decide))]) ?_
  have c_169 : E164 (1 + d) 12 = .inl (kA 2, 5, .inl (fun _ => 0)) := by rw [hE1]; exact up2_eq
  have hl : lv_has ls 4 [(0, .ref (ad163 (1 + d) 0)), (1, .int (nI d)), (2, .int fi), (3, .int nm)] := by
    rw [fA167 (1 + d) 0 (fun q9 => absurd q9.2 (by decide))]; exact hl
  have m_171 : (1 + d, 0) ∈ RL165 := hs168 _ m_138
  have m_172 : (1 + d, 1) ∈ RL165 := hs168 _ m_139
  have m_173 : (1 + d, 5) ∈ RL165 := hs168 _ m_140
  have m_174 : (1 + d, 9) ∈ RL165 := hs168 _ m_141
  have m_175 : (1 + d, 10) ∈ RL165 := hs168 _ m_142
  have m_176 : (1 + d, 2) ∈ RL165 := hs168 _ m_143
  have m_177 : (1 + d, 6) ∈ RL165 := hs168 _ m_144
  have m_178 : (1 + d, 11) ∈ RL165 := hs168 _ m_137
  have c_179 : E164 (1 + d) 0 = .inr (7, [.int 0, .int 0, .int 0, .ref (ad163 (1 + d) 1), .ref (ad163 (1 + d) 9), .ref (ad163 (1 + d) 10), .ref (ad163 (1 + d) 2), .ref (ad163 (1 + d) 11), .null, .null, .null, .int 0]) := by rw [fE166 (1 + d) 0 (fun q9 => absurd q9.2 (by decide)), fA167 (1 + d) 1 (fun q9 => absurd q9.2 (by decide)), fA167 (1 + d) 9 (fun q9 => absurd q9.2 (by decide)), fA167 (1 + d) 10 (fun q9 => absurd q9.2 (by decide)), fA167 (1 + d) 2 (fun q9 => absurd q9.2 (by decide)), fA167 (1 + d) 11 (fun q9 => absurd q9.2 (by decide))]; exact c_155
  have c_180 : E164 (1 + d) 11 = .inl (kA 2, 5, .inl (fun _ => 0)) := by rw [fE166 (1 + d) 11 (fun q9 => absurd q9.2 (by decide))]; exact c_156
  have c_181 : E164 (1 + d) 2 = .inr (8, [.ref (ad163 (1 + d) 6), .int 0]) := by rw [fE166 (1 + d) 2 (fun q9 => absurd q9.2 (by decide)), fA167 (1 + d) 6 (fun q9 => absurd q9.2 (by decide))]; exact c_157
  have c_182 : E164 (1 + d) 6 = .inl (kA 0, 5, .inl (fun _ => 0)) := by rw [fE166 (1 + d) 6 (fun q9 => absurd q9.2 (by decide))]; exact c_158
  have c_183 : E164 (1 + d) 10 = .inl (kA 8, 6, .inr (.inr (.inr (.inr (fun _ => none))))) := by rw [fE166 (1 + d) 10 (fun q9 => absurd q9.2 (by decide))]; exact c_159
  have c_184 : E164 (1 + d) 9 = .inl (kA 8, 6, .inr (.inr (.inr (.inr (fun _ => none))))) := by rw [fE166 (1 + d) 9 (fun q9 => absurd q9.2 (by decide))]; exact c_160
  have c_185 : E164 (1 + d) 1 = .inr (8, [.ref (ad163 (1 + d) 5), .int 0]) := by rw [fE166 (1 + d) 1 (fun q9 => absurd q9.2 (by decide)), fA167 (1 + d) 5 (fun q9 => absurd q9.2 (by decide))]; exact c_161
  have c_186 : E164 (1 + d) 5 = .inl (kA 0, 6, .inl (fun _ => 0)) := by rw [fE166 (1 + d) 5 (fun q9 => absurd q9.2 (by decide))]; exact c_162
  have m_170 : (1 + d, 12) ∈ RL165 := hm1
  have hP : va_P D xcl (rp ad163 E164 RL165) H := hP
  have hD : va_D A (rp ad163 E164 RL165) := hD
  refine px_putF (D := D) (ci := 7) (v := .ref (ad163 (1 + d) 12)) (ty := .array .boolean) (C := xR_Ds) (T := xT_Ds) (N := 12) hx hb hT xi_Ds xt_Ds xt_Ds_ok xn_Ds hown hK.1 hP hD hS m_171 c_179 rfl 8 (by decide) (hT _ yq_25) (fun _ h9 => h9) rfl hin rfl (by decide +kernel) rfl rfl (Nat.le_of_ble_eq_true rfl) xd_Ds_init_58 (fun H locs hP hD hS => ?_)
  have hP : va_P D xcl (rp ad163 (up2 E164 (1 + d) 0 (.inr (7, [.int 0, .int 0, .int 0, .ref (ad163 (1 + d) 1), .ref (ad163 (1 + d) 9), .ref (ad163 (1 + d) 10), .ref (ad163 (1 + d) 2), .ref (ad163 (1 + d) 11), .ref (ad163 (1 + d) 12), .null, .null, .int 0]))) RL165) H := hP
  have hD : va_D A (rp ad163 (up2 E164 (1 + d) 0 (.inr (7, [.int 0, .int 0, .int 0, .ref (ad163 (1 + d) 1), .ref (ad163 (1 + d) 9), .ref (ad163 (1 + d) 10), .ref (ad163 (1 + d) 2), .ref (ad163 (1 + d) 11), .ref (ad163 (1 + d) 12), .null, .null, .int 0]))) RL165) := hD
  generalize hE188 : up2 E164 (1 + d) 0 (.inr (7, [.int 0, .int 0, .int 0, .ref (ad163 (1 + d) 1), .ref (ad163 (1 + d) 9), .ref (ad163 (1 + d) 10), .ref (ad163 (1 + d) 2), .ref (ad163 (1 + d) 11), .ref (ad163 (1 + d) 12), .null, .null, .int 0])) = E187 at hP hD
  have fE189 : ∀ b2 o2, ¬ (b2 = 1 + d ∧ o2 = 0) → E187 b2 o2 = E164 b2 o2 := fun b2 o2 h9 => by rw [← hE188]; exact up2_ne (nr_or h9)
  have c_190 : E187 (1 + d) 0 = .inr (7, [.int 0, .int 0, .int 0, .ref (ad163 (1 + d) 1), .ref (ad163 (1 + d) 9), .ref (ad163 (1 + d) 10), .ref (ad163 (1 + d) 2), .ref (ad163 (1 + d) 11), .ref (ad163 (1 + d) 12), .null, .null, .int 0]) := by rw [← hE188]; exact up2_eq
  have c_191 : E187 (1 + d) 12 = .inl (kA 2, 5, .inl (fun _ => 0)) := (fE189 (1 + d) 12 (fun q9 => absurd q9.2 (by decide))).trans c_169
  have c_192 : E187 (1 + d) 11 = .inl (kA 2, 5, .inl (fun _ => 0)) := (fE189 (1 + d) 11 (fun q9 => absurd q9.2 (by decide))).trans c_180
  have c_193 : E187 (1 + d) 2 = .inr (8, [.ref (ad163 (1 + d) 6), .int 0]) := (fE189 (1 + d) 2 (fun q9 => absurd q9.2 (by decide))).trans c_181
  have c_194 : E187 (1 + d) 6 = .inl (kA 0, 5, .inl (fun _ => 0)) := (fE189 (1 + d) 6 (fun q9 => absurd q9.2 (by decide))).trans c_182
  have c_195 : E187 (1 + d) 10 = .inl (kA 8, 6, .inr (.inr (.inr (.inr (fun _ => none))))) := (fE189 (1 + d) 10 (fun q9 => absurd q9.2 (by decide))).trans c_183
  have c_196 : E187 (1 + d) 9 = .inl (kA 8, 6, .inr (.inr (.inr (.inr (fun _ => none))))) := (fE189 (1 + d) 9 (fun q9 => absurd q9.2 (by decide))).trans c_184
  have c_197 : E187 (1 + d) 1 = .inr (8, [.ref (ad163 (1 + d) 5), .int 0]) := (fE189 (1 + d) 1 (fun q9 => absurd q9.2 (by decide))).trans c_185
  have c_198 : E187 (1 + d) 5 = .inl (kA 0, 6, .inl (fun _ => 0)) := (fE189 (1 + d) 5 (fun q9 => absurd q9.2 (by decide))).trans c_186
  refine lv_aload_n hx hb xd_Ds_init_61 rfl (lv_at hl 0 rfl) ?_
  refine px_new (ci := 8) (fs := [.null, .int 0]) (C := xR_Na) (T := xT_Na) (N := 2) (1 + d) 3 hx hb hT xi_Na xt_Na xt_Na_ok hown (hT _ yq_16) (hT _ yq_8) (hT _ yq_9) hK.1 hP hD hS hA rfl (by decide +kernel) (Nat.le_of_ble_eq_true rfl) (Nat.le_of_ble_eq_true rfl) xd_Ds_init_62 (fun ad199 E200 RL201 H hA1 hE1 hs1 hm1 hP hD hS => ?_)
  have fE202 : ∀ b2 o2, ¬ (b2 = 1 + d ∧ o2 = 3) → E200 b2 o2 = E187 b2 o2 := fun b2 o2 h9 => by rw [hE1]; exact up2_ne (nr_or h9)
  have fA203 : ∀ b2 o2, ¬ (b2 = 1 + d ∧ o2 = 3) → ad199 b2 o2 = ad163 b2 o2 := fun b2 o2 h9 => by rw [hA1]; exact up2_ne (nr_or h9)
  have hs204 := hs1
  refine W.eq (g2 := F0 m _ ls [.ref (ad199 (1 + d) 3), .ref (ad199 (1 + d) 0)]) (by rw [fA203 (1 + d) 0 (fun q9 => absurd q9.2 (by decide))]) ?_
  have c_205 : E200 (1 + d) 3 = .inr (8, [.null, .int 0]) := by rw [hE1]; exact up2_eq
  have hl : lv_has ls 4 [(0, .ref (ad199 (1 + d) 0)), (1, .int (nI d)), (2, .int fi), (3, .int nm)] := by
    rw [fA203 (1 + d) 0 (fun q9 => absurd q9.2 (by decide))]; exact hl
  have m_207 : (1 + d, 0) ∈ RL201 := hs204 _ m_171
  have m_208 : (1 + d, 1) ∈ RL201 := hs204 _ m_172
  have m_209 : (1 + d, 5) ∈ RL201 := hs204 _ m_173
  have m_210 : (1 + d, 9) ∈ RL201 := hs204 _ m_174
  have m_211 : (1 + d, 10) ∈ RL201 := hs204 _ m_175
  have m_212 : (1 + d, 2) ∈ RL201 := hs204 _ m_176
  have m_213 : (1 + d, 6) ∈ RL201 := hs204 _ m_177
  have m_214 : (1 + d, 11) ∈ RL201 := hs204 _ m_178
  have m_215 : (1 + d, 12) ∈ RL201 := hs204 _ m_170
  have c_216 : E200 (1 + d) 0 = .inr (7, [.int 0, .int 0, .int 0, .ref (ad199 (1 + d) 1), .ref (ad199 (1 + d) 9), .ref (ad199 (1 + d) 10), .ref (ad199 (1 + d) 2), .ref (ad199 (1 + d) 11), .ref (ad199 (1 + d) 12), .null, .null, .int 0]) := by rw [fE202 (1 + d) 0 (fun q9 => absurd q9.2 (by decide)), fA203 (1 + d) 1 (fun q9 => absurd q9.2 (by decide)), fA203 (1 + d) 9 (fun q9 => absurd q9.2 (by decide)), fA203 (1 + d) 10 (fun q9 => absurd q9.2 (by decide)), fA203 (1 + d) 2 (fun q9 => absurd q9.2 (by decide)), fA203 (1 + d) 11 (fun q9 => absurd q9.2 (by decide)), fA203 (1 + d) 12 (fun q9 => absurd q9.2 (by decide))]; exact c_190
  have c_217 : E200 (1 + d) 12 = .inl (kA 2, 5, .inl (fun _ => 0)) := by rw [fE202 (1 + d) 12 (fun q9 => absurd q9.2 (by decide))]; exact c_191
  have c_218 : E200 (1 + d) 11 = .inl (kA 2, 5, .inl (fun _ => 0)) := by rw [fE202 (1 + d) 11 (fun q9 => absurd q9.2 (by decide))]; exact c_192
  have c_219 : E200 (1 + d) 2 = .inr (8, [.ref (ad199 (1 + d) 6), .int 0]) := by rw [fE202 (1 + d) 2 (fun q9 => absurd q9.2 (by decide)), fA203 (1 + d) 6 (fun q9 => absurd q9.2 (by decide))]; exact c_193
  have c_220 : E200 (1 + d) 6 = .inl (kA 0, 5, .inl (fun _ => 0)) := by rw [fE202 (1 + d) 6 (fun q9 => absurd q9.2 (by decide))]; exact c_194
  have c_221 : E200 (1 + d) 10 = .inl (kA 8, 6, .inr (.inr (.inr (.inr (fun _ => none))))) := by rw [fE202 (1 + d) 10 (fun q9 => absurd q9.2 (by decide))]; exact c_195
  have c_222 : E200 (1 + d) 9 = .inl (kA 8, 6, .inr (.inr (.inr (.inr (fun _ => none))))) := by rw [fE202 (1 + d) 9 (fun q9 => absurd q9.2 (by decide))]; exact c_196
  have c_223 : E200 (1 + d) 1 = .inr (8, [.ref (ad199 (1 + d) 5), .int 0]) := by rw [fE202 (1 + d) 1 (fun q9 => absurd q9.2 (by decide)), fA203 (1 + d) 5 (fun q9 => absurd q9.2 (by decide))]; exact c_197
  have c_224 : E200 (1 + d) 5 = .inl (kA 0, 6, .inl (fun _ => 0)) := by rw [fE202 (1 + d) 5 (fun q9 => absurd q9.2 (by decide))]; exact c_198
  have m_206 : (1 + d, 3) ∈ RL201 := hm1
  have hP : va_P D xcl (rp ad199 E200 RL201) H := hP
  have hD : va_D A (rp ad199 E200 RL201) := hD
  refine lv_dup hx hb xd_Ds_init_65 rfl ?_
  refine lv_iconst (v := 3) hx hb xd_Ds_init_66 (by decide) ?_
  have hFc := px_free hD hS hA
  refine va_callv (va_runI (As := [.int 3]) (rest := [.ref (ad199 (1 + d) 3), .ref (ad199 (1 + d) 0)]) ⟨hx, hb, hml, hown, hT⟩ (xc_Na_init l D kA H.size ad199 E200 RL201 (1 + d) 3 7 3 m_206 c_205 (by first | assumption | omega) (by first | assumption | omega)) (cwI 1 hT (wT_I yq_10) rfl rfl rfl (hT _ yq_9) (hT _ yq_17) (hT _ yq_12) rfl (by decide +kernel) ⟨Nat.le_of_ble_eq_true rfl, Nat.le_of_ble_eq_true rfl⟩) (x_preS hK hP hD) rfl rfl hl.1 rfl (lv_room (Nat.le_of_ble_eq_true rfl)) xd_Ds_init_67 ⟨(Nat.le_of_ble_eq_true rfl), (Nat.le_of_ble_eq_true rfl)⟩) hS (fun q _ h => hFc q h) hFc (fun u226 t H1 locs ht hvm hp227 hB hz1 hk1 hS => ?_)
  obtain ⟨hP1, hD1⟩ := hB
  rw [ht] at hP1
  have hD1 := hD1.weaken (fun _ _ _ h => hFc _ h)
  generalize H1 = H at hP1 hS ⊢
  have hP := hP1
  have hD := hD1
  obtain ⟨ad228, E229, RL230⟩ := u226
  obtain ⟨hp237, p_231, p_232, p_233, p_234, p_235, p_236⟩ := hp227
  have p_231 : E229 (1 + d) 3 = .inr (8, [.ref (ad228 (1 + d) 7), .int 0]) := p_231
  have p_232 : E229 (1 + d) 7 = .inl (kA 0, 3, .inl (fun _ => 0)) := p_232
  have p_233 : (∀ b2 o2, ¬ (b2 = (1 + d) ∧ o2 = 3) → ¬ (b2 = (1 + d) ∧ o2 = 7) → E229 b2 o2 = E200 b2 o2) := p_233
  have p_234 : (∀ b2 o2, ¬ (b2 = (1 + d) ∧ o2 = 7) → ad228 b2 o2 = ad199 b2 o2) := p_234
  have p_235 : (∀ x ∈ RL201, x ∈ RL230) := p_235
  have p_236 : ((1 + d), 7) ∈ RL230 := p_236
  refine W.eq (g2 := F0 m 70 ls [.ref (ad228 (1 + d) 3), .ref (ad228 (1 + d) 0)]) (by rw [p_234 (1 + d) 3 (fun q9 => absurd q9.2 (by decide)), p_234 (1 + d) 0 (fun q9 => absurd q9.2 (by decide))]) ?_
  have hl : lv_has ls 4 [(0, .ref (ad228 (1 + d) 0)), (1, .int (nI d)), (2, .int fi), (3, .int nm)] := by
    rw [p_234 (1 + d) 0 (fun q9 => absurd q9.2 (by decide))]; exact hl
  have m_238 : (1 + d, 0) ∈ RL230 := p_235 _ m_207
  have m_239 : (1 + d, 1) ∈ RL230 := p_235 _ m_208
  have m_240 : (1 + d, 5) ∈ RL230 := p_235 _ m_209
  have m_241 : (1 + d, 9) ∈ RL230 := p_235 _ m_210
  have m_242 : (1 + d, 10) ∈ RL230 := p_235 _ m_211
  have m_243 : (1 + d, 2) ∈ RL230 := p_235 _ m_212
  have m_244 : (1 + d, 6) ∈ RL230 := p_235 _ m_213
  have m_245 : (1 + d, 11) ∈ RL230 := p_235 _ m_214
  have m_246 : (1 + d, 12) ∈ RL230 := p_235 _ m_215
  have m_247 : (1 + d, 3) ∈ RL230 := p_235 _ m_206
  have c_248 : E229 (1 + d) 0 = .inr (7, [.int 0, .int 0, .int 0, .ref (ad228 (1 + d) 1), .ref (ad228 (1 + d) 9), .ref (ad228 (1 + d) 10), .ref (ad228 (1 + d) 2), .ref (ad228 (1 + d) 11), .ref (ad228 (1 + d) 12), .null, .null, .int 0]) := by rw [p_233 (1 + d) 0 (fun q9 => absurd q9.2 (by decide)) (fun q9 => absurd q9.2 (by decide)), p_234 (1 + d) 1 (fun q9 => absurd q9.2 (by decide)), p_234 (1 + d) 9 (fun q9 => absurd q9.2 (by decide)), p_234 (1 + d) 10 (fun q9 => absurd q9.2 (by decide)), p_234 (1 + d) 2 (fun q9 => absurd q9.2 (by decide)), p_234 (1 + d) 11 (fun q9 => absurd q9.2 (by decide)), p_234 (1 + d) 12 (fun q9 => absurd q9.2 (by decide))]; exact c_216
  have c_249 : E229 (1 + d) 12 = .inl (kA 2, 5, .inl (fun _ => 0)) := by rw [p_233 (1 + d) 12 (fun q9 => absurd q9.2 (by decide)) (fun q9 => absurd q9.2 (by decide))]; exact c_217
  have c_250 : E229 (1 + d) 11 = .inl (kA 2, 5, .inl (fun _ => 0)) := by rw [p_233 (1 + d) 11 (fun q9 => absurd q9.2 (by decide)) (fun q9 => absurd q9.2 (by decide))]; exact c_218
  have c_251 : E229 (1 + d) 2 = .inr (8, [.ref (ad228 (1 + d) 6), .int 0]) := by rw [p_233 (1 + d) 2 (fun q9 => absurd q9.2 (by decide)) (fun q9 => absurd q9.2 (by decide)), p_234 (1 + d) 6 (fun q9 => absurd q9.2 (by decide))]; exact c_219
  have c_252 : E229 (1 + d) 6 = .inl (kA 0, 5, .inl (fun _ => 0)) := by rw [p_233 (1 + d) 6 (fun q9 => absurd q9.2 (by decide)) (fun q9 => absurd q9.2 (by decide))]; exact c_220
  have c_253 : E229 (1 + d) 10 = .inl (kA 8, 6, .inr (.inr (.inr (.inr (fun _ => none))))) := by rw [p_233 (1 + d) 10 (fun q9 => absurd q9.2 (by decide)) (fun q9 => absurd q9.2 (by decide))]; exact c_221
  have c_254 : E229 (1 + d) 9 = .inl (kA 8, 6, .inr (.inr (.inr (.inr (fun _ => none))))) := by rw [p_233 (1 + d) 9 (fun q9 => absurd q9.2 (by decide)) (fun q9 => absurd q9.2 (by decide))]; exact c_222
  have c_255 : E229 (1 + d) 1 = .inr (8, [.ref (ad228 (1 + d) 5), .int 0]) := by rw [p_233 (1 + d) 1 (fun q9 => absurd q9.2 (by decide)) (fun q9 => absurd q9.2 (by decide)), p_234 (1 + d) 5 (fun q9 => absurd q9.2 (by decide))]; exact c_223
  have c_256 : E229 (1 + d) 5 = .inl (kA 0, 6, .inl (fun _ => 0)) := by rw [p_233 (1 + d) 5 (fun q9 => absurd q9.2 (by decide)) (fun q9 => absurd q9.2 (by decide))]; exact c_224
  have hP : va_P D xcl (rp ad228 E229 RL230) H := hP
  have hD : va_D A (rp ad228 E229 RL230) := hD
  refine px_putF (D := D) (ci := 7) (v := .ref (ad228 (1 + d) 3)) (ty := .object "LayerDesk$Names") (C := xR_Ds) (T := xT_Ds) (N := 12) hx hb hT xi_Ds xt_Ds xt_Ds_ok xn_Ds hown hK.1 hP hD hS m_238 c_248 rfl 9 (by decide) (hT _ yq_26) (fun _ h9 => h9) rfl hin rfl (by decide +kernel) rfl rfl (Nat.le_of_ble_eq_true rfl) xd_Ds_init_70 (fun H locs hP hD hS => ?_)
  have hP : va_P D xcl (rp ad228 (up2 E229 (1 + d) 0 (.inr (7, [.int 0, .int 0, .int 0, .ref (ad228 (1 + d) 1), .ref (ad228 (1 + d) 9), .ref (ad228 (1 + d) 10), .ref (ad228 (1 + d) 2), .ref (ad228 (1 + d) 11), .ref (ad228 (1 + d) 12), .ref (ad228 (1 + d) 3), .null, .int 0]))) RL230) H := hP
  have hD : va_D A (rp ad228 (up2 E229 (1 + d) 0 (.inr (7, [.int 0, .int 0, .int 0, .ref (ad228 (1 + d) 1), .ref (ad228 (1 + d) 9), .ref (ad228 (1 + d) 10), .ref (ad228 (1 + d) 2), .ref (ad228 (1 + d) 11), .ref (ad228 (1 + d) 12), .ref (ad228 (1 + d) 3), .null, .int 0]))) RL230) := hD
  generalize hE258 : up2 E229 (1 + d) 0 (.inr (7, [.int 0, .int 0, .int 0, .ref (ad228 (1 + d) 1), .ref (ad228 (1 + d) 9), .ref (ad228 (1 + d) 10), .ref (ad228 (1 + d) 2), .ref (ad228 (1 + d) 11), .ref (ad228 (1 + d) 12), .ref (ad228 (1 + d) 3), .null, .int 0])) = E257 at hP hD
  have fE259 : ∀ b2 o2, ¬ (b2 = 1 + d ∧ o2 = 0) → E257 b2 o2 = E229 b2 o2 := fun b2 o2 h9 => by rw [← hE258]; exact up2_ne (nr_or h9)
  have c_260 : E257 (1 + d) 0 = .inr (7, [.int 0, .int 0, .int 0, .ref (ad228 (1 + d) 1), .ref (ad228 (1 + d) 9), .ref (ad228 (1 + d) 10), .ref (ad228 (1 + d) 2), .ref (ad228 (1 + d) 11), .ref (ad228 (1 + d) 12), .ref (ad228 (1 + d) 3), .null, .int 0]) := by rw [← hE258]; exact up2_eq
  have c_261 : E257 (1 + d) 3 = .inr (8, [.ref (ad228 (1 + d) 7), .int 0]) := (fE259 (1 + d) 3 (fun q9 => absurd q9.2 (by decide))).trans p_231
  have c_262 : E257 (1 + d) 7 = .inl (kA 0, 3, .inl (fun _ => 0)) := (fE259 (1 + d) 7 (fun q9 => absurd q9.2 (by decide))).trans p_232
  have c_263 : E257 (1 + d) 12 = .inl (kA 2, 5, .inl (fun _ => 0)) := (fE259 (1 + d) 12 (fun q9 => absurd q9.2 (by decide))).trans c_249
  have c_264 : E257 (1 + d) 11 = .inl (kA 2, 5, .inl (fun _ => 0)) := (fE259 (1 + d) 11 (fun q9 => absurd q9.2 (by decide))).trans c_250
  have c_265 : E257 (1 + d) 2 = .inr (8, [.ref (ad228 (1 + d) 6), .int 0]) := (fE259 (1 + d) 2 (fun q9 => absurd q9.2 (by decide))).trans c_251
  have c_266 : E257 (1 + d) 6 = .inl (kA 0, 5, .inl (fun _ => 0)) := (fE259 (1 + d) 6 (fun q9 => absurd q9.2 (by decide))).trans c_252
  have c_267 : E257 (1 + d) 10 = .inl (kA 8, 6, .inr (.inr (.inr (.inr (fun _ => none))))) := (fE259 (1 + d) 10 (fun q9 => absurd q9.2 (by decide))).trans c_253
  have c_268 : E257 (1 + d) 9 = .inl (kA 8, 6, .inr (.inr (.inr (.inr (fun _ => none))))) := (fE259 (1 + d) 9 (fun q9 => absurd q9.2 (by decide))).trans c_254
  have c_269 : E257 (1 + d) 1 = .inr (8, [.ref (ad228 (1 + d) 5), .int 0]) := (fE259 (1 + d) 1 (fun q9 => absurd q9.2 (by decide))).trans c_255
  have c_270 : E257 (1 + d) 5 = .inl (kA 0, 6, .inl (fun _ => 0)) := (fE259 (1 + d) 5 (fun q9 => absurd q9.2 (by decide))).trans c_256
  refine lv_aload_n hx hb xd_Ds_init_73 rfl (lv_at hl 0 rfl) ?_
  refine px_new (ci := 8) (fs := [.null, .int 0]) (C := xR_Na) (T := xT_Na) (N := 2) (1 + d) 4 hx hb hT xi_Na xt_Na xt_Na_ok hown (hT _ yq_16) (hT _ yq_8) (hT _ yq_9) hK.1 hP hD hS hA rfl (by decide +kernel) (Nat.le_of_ble_eq_true rfl) (Nat.le_of_ble_eq_true rfl) xd_Ds_init_74 (fun ad271 E272 RL273 H hA1 hE1 hs1 hm1 hP hD hS => ?_)
  have fE274 : ∀ b2 o2, ¬ (b2 = 1 + d ∧ o2 = 4) → E272 b2 o2 = E257 b2 o2 := fun b2 o2 h9 => by rw [hE1]; exact up2_ne (nr_or h9)
  have fA275 : ∀ b2 o2, ¬ (b2 = 1 + d ∧ o2 = 4) → ad271 b2 o2 = ad228 b2 o2 := fun b2 o2 h9 => by rw [hA1]; exact up2_ne (nr_or h9)
  have hs276 := hs1
  refine W.eq (g2 := F0 m _ ls [.ref (ad271 (1 + d) 4), .ref (ad271 (1 + d) 0)]) (by rw [fA275 (1 + d) 0 (fun q9 => absurd q9.2 (by decide))]) ?_
  have c_277 : E272 (1 + d) 4 = .inr (8, [.null, .int 0]) := by rw [hE1]; exact up2_eq
  have hl : lv_has ls 4 [(0, .ref (ad271 (1 + d) 0)), (1, .int (nI d)), (2, .int fi), (3, .int nm)] := by
    rw [fA275 (1 + d) 0 (fun q9 => absurd q9.2 (by decide))]; exact hl
  have m_279 : (1 + d, 0) ∈ RL273 := hs276 _ m_238
  have m_280 : (1 + d, 1) ∈ RL273 := hs276 _ m_239
  have m_281 : (1 + d, 5) ∈ RL273 := hs276 _ m_240
  have m_282 : (1 + d, 9) ∈ RL273 := hs276 _ m_241
  have m_283 : (1 + d, 10) ∈ RL273 := hs276 _ m_242
  have m_284 : (1 + d, 2) ∈ RL273 := hs276 _ m_243
  have m_285 : (1 + d, 6) ∈ RL273 := hs276 _ m_244
  have m_286 : (1 + d, 11) ∈ RL273 := hs276 _ m_245
  have m_287 : (1 + d, 12) ∈ RL273 := hs276 _ m_246
  have m_288 : (1 + d, 3) ∈ RL273 := hs276 _ m_247
  have m_289 : (1 + d, 7) ∈ RL273 := hs276 _ p_236
  have c_290 : E272 (1 + d) 0 = .inr (7, [.int 0, .int 0, .int 0, .ref (ad271 (1 + d) 1), .ref (ad271 (1 + d) 9), .ref (ad271 (1 + d) 10), .ref (ad271 (1 + d) 2), .ref (ad271 (1 + d) 11), .ref (ad271 (1 + d) 12), .ref (ad271 (1 + d) 3), .null, .int 0]) := by rw [fE274 (1 + d) 0 (fun q9 => absurd q9.2 (by decide)), fA275 (1 + d) 1 (fun q9 => absurd q9.2 (by decide)), fA275 (1 + d) 9 (fun q9 => absurd q9.2 (by decide)), fA275 (1 + d) 10 (fun q9 => absurd q9.2 (by decide)), fA275 (1 + d) 2 (fun q9 => absurd q9.2 (by decide)), fA275 (1 + d) 11 (fun q9 => absurd q9.2 (by decide)), fA275 (1 + d) 12 (fun q9 => absurd q9.2 (by decide)), fA275 (1 + d) 3 (fun q9 => absurd q9.2 (by decide))]; exact c_260
  have c_291 : E272 (1 + d) 3 = .inr (8, [.ref (ad271 (1 + d) 7), .int 0]) := by rw [fE274 (1 + d) 3 (fun q9 => absurd q9.2 (by decide)), fA275 (1 + d) 7 (fun q9 => absurd q9.2 (by decide))]; exact c_261
  have c_292 : E272 (1 + d) 7 = .inl (kA 0, 3, .inl (fun _ => 0)) := by rw [fE274 (1 + d) 7 (fun q9 => absurd q9.2 (by decide))]; exact c_262
  have c_293 : E272 (1 + d) 12 = .inl (kA 2, 5, .inl (fun _ => 0)) := by rw [fE274 (1 + d) 12 (fun q9 => absurd q9.2 (by decide))]; exact c_263
  have c_294 : E272 (1 + d) 11 = .inl (kA 2, 5, .inl (fun _ => 0)) := by rw [fE274 (1 + d) 11 (fun q9 => absurd q9.2 (by decide))]; exact c_264
  have c_295 : E272 (1 + d) 2 = .inr (8, [.ref (ad271 (1 + d) 6), .int 0]) := by rw [fE274 (1 + d) 2 (fun q9 => absurd q9.2 (by decide)), fA275 (1 + d) 6 (fun q9 => absurd q9.2 (by decide))]; exact c_265
  have c_296 : E272 (1 + d) 6 = .inl (kA 0, 5, .inl (fun _ => 0)) := by rw [fE274 (1 + d) 6 (fun q9 => absurd q9.2 (by decide))]; exact c_266
  have c_297 : E272 (1 + d) 10 = .inl (kA 8, 6, .inr (.inr (.inr (.inr (fun _ => none))))) := by rw [fE274 (1 + d) 10 (fun q9 => absurd q9.2 (by decide))]; exact c_267
  have c_298 : E272 (1 + d) 9 = .inl (kA 8, 6, .inr (.inr (.inr (.inr (fun _ => none))))) := by rw [fE274 (1 + d) 9 (fun q9 => absurd q9.2 (by decide))]; exact c_268
  have c_299 : E272 (1 + d) 1 = .inr (8, [.ref (ad271 (1 + d) 5), .int 0]) := by rw [fE274 (1 + d) 1 (fun q9 => absurd q9.2 (by decide)), fA275 (1 + d) 5 (fun q9 => absurd q9.2 (by decide))]; exact c_269
  have c_300 : E272 (1 + d) 5 = .inl (kA 0, 6, .inl (fun _ => 0)) := by rw [fE274 (1 + d) 5 (fun q9 => absurd q9.2 (by decide))]; exact c_270
  have m_278 : (1 + d, 4) ∈ RL273 := hm1
  have hP : va_P D xcl (rp ad271 E272 RL273) H := hP
  have hD : va_D A (rp ad271 E272 RL273) := hD
  refine lv_dup hx hb xd_Ds_init_77 rfl ?_
  refine lv_iconst (v := 3) hx hb xd_Ds_init_78 (by decide) ?_
  have hFc := px_free hD hS hA
  refine va_callv (va_runI (As := [.int 3]) (rest := [.ref (ad271 (1 + d) 4), .ref (ad271 (1 + d) 0)]) ⟨hx, hb, hml, hown, hT⟩ (xc_Na_init l D kA H.size ad271 E272 RL273 (1 + d) 4 8 3 m_278 c_277 (by first | assumption | omega) (by first | assumption | omega)) (cwI 1 hT (wT_I yq_10) rfl rfl rfl (hT _ yq_9) (hT _ yq_17) (hT _ yq_12) rfl (by decide +kernel) ⟨Nat.le_of_ble_eq_true rfl, Nat.le_of_ble_eq_true rfl⟩) (x_preS hK hP hD) rfl rfl hl.1 rfl (lv_room (Nat.le_of_ble_eq_true rfl)) xd_Ds_init_79 ⟨(Nat.le_of_ble_eq_true rfl), (Nat.le_of_ble_eq_true rfl)⟩) hS (fun q _ h => hFc q h) hFc (fun u302 t H1 locs ht hvm hp303 hB hz1 hk1 hS => ?_)
  obtain ⟨hP1, hD1⟩ := hB
  rw [ht] at hP1
  have hD1 := hD1.weaken (fun _ _ _ h => hFc _ h)
  generalize H1 = H at hP1 hS ⊢
  have hP := hP1
  have hD := hD1
  obtain ⟨ad304, E305, RL306⟩ := u302
  obtain ⟨hp313, p_307, p_308, p_309, p_310, p_311, p_312⟩ := hp303
  have p_307 : E305 (1 + d) 4 = .inr (8, [.ref (ad304 (1 + d) 8), .int 0]) := p_307
  have p_308 : E305 (1 + d) 8 = .inl (kA 0, 3, .inl (fun _ => 0)) := p_308
  have p_309 : (∀ b2 o2, ¬ (b2 = (1 + d) ∧ o2 = 4) → ¬ (b2 = (1 + d) ∧ o2 = 8) → E305 b2 o2 = E272 b2 o2) := p_309
  have p_310 : (∀ b2 o2, ¬ (b2 = (1 + d) ∧ o2 = 8) → ad304 b2 o2 = ad271 b2 o2) := p_310
  have p_311 : (∀ x ∈ RL273, x ∈ RL306) := p_311
  have p_312 : ((1 + d), 8) ∈ RL306 := p_312
  refine W.eq (g2 := F0 m 82 ls [.ref (ad304 (1 + d) 4), .ref (ad304 (1 + d) 0)]) (by rw [p_310 (1 + d) 4 (fun q9 => absurd q9.2 (by decide)), p_310 (1 + d) 0 (fun q9 => absurd q9.2 (by decide))]) ?_
  have hl : lv_has ls 4 [(0, .ref (ad304 (1 + d) 0)), (1, .int (nI d)), (2, .int fi), (3, .int nm)] := by
    rw [p_310 (1 + d) 0 (fun q9 => absurd q9.2 (by decide))]; exact hl
  have m_314 : (1 + d, 0) ∈ RL306 := p_311 _ m_279
  have m_315 : (1 + d, 1) ∈ RL306 := p_311 _ m_280
  have m_316 : (1 + d, 5) ∈ RL306 := p_311 _ m_281
  have m_317 : (1 + d, 9) ∈ RL306 := p_311 _ m_282
  have m_318 : (1 + d, 10) ∈ RL306 := p_311 _ m_283
  have m_319 : (1 + d, 2) ∈ RL306 := p_311 _ m_284
  have m_320 : (1 + d, 6) ∈ RL306 := p_311 _ m_285
  have m_321 : (1 + d, 11) ∈ RL306 := p_311 _ m_286
  have m_322 : (1 + d, 12) ∈ RL306 := p_311 _ m_287
  have m_323 : (1 + d, 3) ∈ RL306 := p_311 _ m_288
  have m_324 : (1 + d, 7) ∈ RL306 := p_311 _ m_289
  have m_325 : (1 + d, 4) ∈ RL306 := p_311 _ m_278
  have c_326 : E305 (1 + d) 0 = .inr (7, [.int 0, .int 0, .int 0, .ref (ad304 (1 + d) 1), .ref (ad304 (1 + d) 9), .ref (ad304 (1 + d) 10), .ref (ad304 (1 + d) 2), .ref (ad304 (1 + d) 11), .ref (ad304 (1 + d) 12), .ref (ad304 (1 + d) 3), .null, .int 0]) := by rw [p_309 (1 + d) 0 (fun q9 => absurd q9.2 (by decide)) (fun q9 => absurd q9.2 (by decide)), p_310 (1 + d) 1 (fun q9 => absurd q9.2 (by decide)), p_310 (1 + d) 9 (fun q9 => absurd q9.2 (by decide)), p_310 (1 + d) 10 (fun q9 => absurd q9.2 (by decide)), p_310 (1 + d) 2 (fun q9 => absurd q9.2 (by decide)), p_310 (1 + d) 11 (fun q9 => absurd q9.2 (by decide)), p_310 (1 + d) 12 (fun q9 => absurd q9.2 (by decide)), p_310 (1 + d) 3 (fun q9 => absurd q9.2 (by decide))]; exact c_290
  have c_327 : E305 (1 + d) 3 = .inr (8, [.ref (ad304 (1 + d) 7), .int 0]) := by rw [p_309 (1 + d) 3 (fun q9 => absurd q9.2 (by decide)) (fun q9 => absurd q9.2 (by decide)), p_310 (1 + d) 7 (fun q9 => absurd q9.2 (by decide))]; exact c_291
  have c_328 : E305 (1 + d) 7 = .inl (kA 0, 3, .inl (fun _ => 0)) := by rw [p_309 (1 + d) 7 (fun q9 => absurd q9.2 (by decide)) (fun q9 => absurd q9.2 (by decide))]; exact c_292
  have c_329 : E305 (1 + d) 12 = .inl (kA 2, 5, .inl (fun _ => 0)) := by rw [p_309 (1 + d) 12 (fun q9 => absurd q9.2 (by decide)) (fun q9 => absurd q9.2 (by decide))]; exact c_293
  have c_330 : E305 (1 + d) 11 = .inl (kA 2, 5, .inl (fun _ => 0)) := by rw [p_309 (1 + d) 11 (fun q9 => absurd q9.2 (by decide)) (fun q9 => absurd q9.2 (by decide))]; exact c_294
  have c_331 : E305 (1 + d) 2 = .inr (8, [.ref (ad304 (1 + d) 6), .int 0]) := by rw [p_309 (1 + d) 2 (fun q9 => absurd q9.2 (by decide)) (fun q9 => absurd q9.2 (by decide)), p_310 (1 + d) 6 (fun q9 => absurd q9.2 (by decide))]; exact c_295
  have c_332 : E305 (1 + d) 6 = .inl (kA 0, 5, .inl (fun _ => 0)) := by rw [p_309 (1 + d) 6 (fun q9 => absurd q9.2 (by decide)) (fun q9 => absurd q9.2 (by decide))]; exact c_296
  have c_333 : E305 (1 + d) 10 = .inl (kA 8, 6, .inr (.inr (.inr (.inr (fun _ => none))))) := by rw [p_309 (1 + d) 10 (fun q9 => absurd q9.2 (by decide)) (fun q9 => absurd q9.2 (by decide))]; exact c_297
  have c_334 : E305 (1 + d) 9 = .inl (kA 8, 6, .inr (.inr (.inr (.inr (fun _ => none))))) := by rw [p_309 (1 + d) 9 (fun q9 => absurd q9.2 (by decide)) (fun q9 => absurd q9.2 (by decide))]; exact c_298
  have c_335 : E305 (1 + d) 1 = .inr (8, [.ref (ad304 (1 + d) 5), .int 0]) := by rw [p_309 (1 + d) 1 (fun q9 => absurd q9.2 (by decide)) (fun q9 => absurd q9.2 (by decide)), p_310 (1 + d) 5 (fun q9 => absurd q9.2 (by decide))]; exact c_299
  have c_336 : E305 (1 + d) 5 = .inl (kA 0, 6, .inl (fun _ => 0)) := by rw [p_309 (1 + d) 5 (fun q9 => absurd q9.2 (by decide)) (fun q9 => absurd q9.2 (by decide))]; exact c_300
  have hP : va_P D xcl (rp ad304 E305 RL306) H := hP
  have hD : va_D A (rp ad304 E305 RL306) := hD
  refine px_putF (D := D) (ci := 7) (v := .ref (ad304 (1 + d) 4)) (ty := .object "LayerDesk$Names") (C := xR_Ds) (T := xT_Ds) (N := 12) hx hb hT xi_Ds xt_Ds xt_Ds_ok xn_Ds hown hK.1 hP hD hS m_314 c_326 rfl 10 (by decide) (hT _ yq_27) (fun _ h9 => h9) rfl hin rfl (by decide +kernel) rfl rfl (Nat.le_of_ble_eq_true rfl) xd_Ds_init_82 (fun H locs hP hD hS => ?_)
  have hP : va_P D xcl (rp ad304 (up2 E305 (1 + d) 0 (.inr (7, [.int 0, .int 0, .int 0, .ref (ad304 (1 + d) 1), .ref (ad304 (1 + d) 9), .ref (ad304 (1 + d) 10), .ref (ad304 (1 + d) 2), .ref (ad304 (1 + d) 11), .ref (ad304 (1 + d) 12), .ref (ad304 (1 + d) 3), .ref (ad304 (1 + d) 4), .int 0]))) RL306) H := hP
  have hD : va_D A (rp ad304 (up2 E305 (1 + d) 0 (.inr (7, [.int 0, .int 0, .int 0, .ref (ad304 (1 + d) 1), .ref (ad304 (1 + d) 9), .ref (ad304 (1 + d) 10), .ref (ad304 (1 + d) 2), .ref (ad304 (1 + d) 11), .ref (ad304 (1 + d) 12), .ref (ad304 (1 + d) 3), .ref (ad304 (1 + d) 4), .int 0]))) RL306) := hD
  generalize hE338 : up2 E305 (1 + d) 0 (.inr (7, [.int 0, .int 0, .int 0, .ref (ad304 (1 + d) 1), .ref (ad304 (1 + d) 9), .ref (ad304 (1 + d) 10), .ref (ad304 (1 + d) 2), .ref (ad304 (1 + d) 11), .ref (ad304 (1 + d) 12), .ref (ad304 (1 + d) 3), .ref (ad304 (1 + d) 4), .int 0])) = E337 at hP hD
  have fE339 : ∀ b2 o2, ¬ (b2 = 1 + d ∧ o2 = 0) → E337 b2 o2 = E305 b2 o2 := fun b2 o2 h9 => by rw [← hE338]; exact up2_ne (nr_or h9)
  have c_340 : E337 (1 + d) 0 = .inr (7, [.int 0, .int 0, .int 0, .ref (ad304 (1 + d) 1), .ref (ad304 (1 + d) 9), .ref (ad304 (1 + d) 10), .ref (ad304 (1 + d) 2), .ref (ad304 (1 + d) 11), .ref (ad304 (1 + d) 12), .ref (ad304 (1 + d) 3), .ref (ad304 (1 + d) 4), .int 0]) := by rw [← hE338]; exact up2_eq
  have c_341 : E337 (1 + d) 4 = .inr (8, [.ref (ad304 (1 + d) 8), .int 0]) := (fE339 (1 + d) 4 (fun q9 => absurd q9.2 (by decide))).trans p_307
  have c_342 : E337 (1 + d) 8 = .inl (kA 0, 3, .inl (fun _ => 0)) := (fE339 (1 + d) 8 (fun q9 => absurd q9.2 (by decide))).trans p_308
  have c_343 : E337 (1 + d) 3 = .inr (8, [.ref (ad304 (1 + d) 7), .int 0]) := (fE339 (1 + d) 3 (fun q9 => absurd q9.2 (by decide))).trans c_327
  have c_344 : E337 (1 + d) 7 = .inl (kA 0, 3, .inl (fun _ => 0)) := (fE339 (1 + d) 7 (fun q9 => absurd q9.2 (by decide))).trans c_328
  have c_345 : E337 (1 + d) 12 = .inl (kA 2, 5, .inl (fun _ => 0)) := (fE339 (1 + d) 12 (fun q9 => absurd q9.2 (by decide))).trans c_329
  have c_346 : E337 (1 + d) 11 = .inl (kA 2, 5, .inl (fun _ => 0)) := (fE339 (1 + d) 11 (fun q9 => absurd q9.2 (by decide))).trans c_330
  have c_347 : E337 (1 + d) 2 = .inr (8, [.ref (ad304 (1 + d) 6), .int 0]) := (fE339 (1 + d) 2 (fun q9 => absurd q9.2 (by decide))).trans c_331
  have c_348 : E337 (1 + d) 6 = .inl (kA 0, 5, .inl (fun _ => 0)) := (fE339 (1 + d) 6 (fun q9 => absurd q9.2 (by decide))).trans c_332
  have c_349 : E337 (1 + d) 10 = .inl (kA 8, 6, .inr (.inr (.inr (.inr (fun _ => none))))) := (fE339 (1 + d) 10 (fun q9 => absurd q9.2 (by decide))).trans c_333
  have c_350 : E337 (1 + d) 9 = .inl (kA 8, 6, .inr (.inr (.inr (.inr (fun _ => none))))) := (fE339 (1 + d) 9 (fun q9 => absurd q9.2 (by decide))).trans c_334
  have c_351 : E337 (1 + d) 1 = .inr (8, [.ref (ad304 (1 + d) 5), .int 0]) := (fE339 (1 + d) 1 (fun q9 => absurd q9.2 (by decide))).trans c_335
  have c_352 : E337 (1 + d) 5 = .inl (kA 0, 6, .inl (fun _ => 0)) := (fE339 (1 + d) 5 (fun q9 => absurd q9.2 (by decide))).trans c_336
  refine lv_aload_n hx hb xd_Ds_init_85 rfl (lv_at hl 0 rfl) ?_
  refine lv_iconst (v := 0) hx hb xd_Ds_init_86 (by decide) ?_
  refine px_put (D := D) (ci := 7) (v := .int 0) (ty := .boolean) (C := xR_Ds) (T := xT_Ds) (N := 12) hx hb hT xi_Ds xt_Ds xt_Ds_ok xn_Ds hown hK.1 hP hD hS m_314 c_340 rfl 11 (by decide) (hT _ yq_28) (fun _ h9 => h9) rfl (by decide +kernel) rfl rfl (Nat.le_of_ble_eq_true rfl) xd_Ds_init_87 (fun H locs hP hD hS => ?_)
  have hP : va_P D xcl (rp ad304 (up2 E337 (1 + d) 0 (.inr (7, [.int 0, .int 0, .int 0, .ref (ad304 (1 + d) 1), .ref (ad304 (1 + d) 9), .ref (ad304 (1 + d) 10), .ref (ad304 (1 + d) 2), .ref (ad304 (1 + d) 11), .ref (ad304 (1 + d) 12), .ref (ad304 (1 + d) 3), .ref (ad304 (1 + d) 4), .int 0]))) RL306) H := hP
  have hD : va_D A (rp ad304 (up2 E337 (1 + d) 0 (.inr (7, [.int 0, .int 0, .int 0, .ref (ad304 (1 + d) 1), .ref (ad304 (1 + d) 9), .ref (ad304 (1 + d) 10), .ref (ad304 (1 + d) 2), .ref (ad304 (1 + d) 11), .ref (ad304 (1 + d) 12), .ref (ad304 (1 + d) 3), .ref (ad304 (1 + d) 4), .int 0]))) RL306) := hD
  generalize hE354 : up2 E337 (1 + d) 0 (.inr (7, [.int 0, .int 0, .int 0, .ref (ad304 (1 + d) 1), .ref (ad304 (1 + d) 9), .ref (ad304 (1 + d) 10), .ref (ad304 (1 + d) 2), .ref (ad304 (1 + d) 11), .ref (ad304 (1 + d) 12), .ref (ad304 (1 + d) 3), .ref (ad304 (1 + d) 4), .int 0])) = E353 at hP hD
  have fE355 : ∀ b2 o2, ¬ (b2 = 1 + d ∧ o2 = 0) → E353 b2 o2 = E337 b2 o2 := fun b2 o2 h9 => by rw [← hE354]; exact up2_ne (nr_or h9)
  have c_356 : E353 (1 + d) 0 = .inr (7, [.int 0, .int 0, .int 0, .ref (ad304 (1 + d) 1), .ref (ad304 (1 + d) 9), .ref (ad304 (1 + d) 10), .ref (ad304 (1 + d) 2), .ref (ad304 (1 + d) 11), .ref (ad304 (1 + d) 12), .ref (ad304 (1 + d) 3), .ref (ad304 (1 + d) 4), .int 0]) := by rw [← hE354]; exact up2_eq
  have c_357 : E353 (1 + d) 4 = .inr (8, [.ref (ad304 (1 + d) 8), .int 0]) := (fE355 (1 + d) 4 (fun q9 => absurd q9.2 (by decide))).trans c_341
  have c_358 : E353 (1 + d) 8 = .inl (kA 0, 3, .inl (fun _ => 0)) := (fE355 (1 + d) 8 (fun q9 => absurd q9.2 (by decide))).trans c_342
  have c_359 : E353 (1 + d) 3 = .inr (8, [.ref (ad304 (1 + d) 7), .int 0]) := (fE355 (1 + d) 3 (fun q9 => absurd q9.2 (by decide))).trans c_343
  have c_360 : E353 (1 + d) 7 = .inl (kA 0, 3, .inl (fun _ => 0)) := (fE355 (1 + d) 7 (fun q9 => absurd q9.2 (by decide))).trans c_344
  have c_361 : E353 (1 + d) 12 = .inl (kA 2, 5, .inl (fun _ => 0)) := (fE355 (1 + d) 12 (fun q9 => absurd q9.2 (by decide))).trans c_345
  have c_362 : E353 (1 + d) 11 = .inl (kA 2, 5, .inl (fun _ => 0)) := (fE355 (1 + d) 11 (fun q9 => absurd q9.2 (by decide))).trans c_346
  have c_363 : E353 (1 + d) 2 = .inr (8, [.ref (ad304 (1 + d) 6), .int 0]) := (fE355 (1 + d) 2 (fun q9 => absurd q9.2 (by decide))).trans c_347
  have c_364 : E353 (1 + d) 6 = .inl (kA 0, 5, .inl (fun _ => 0)) := (fE355 (1 + d) 6 (fun q9 => absurd q9.2 (by decide))).trans c_348
  have c_365 : E353 (1 + d) 10 = .inl (kA 8, 6, .inr (.inr (.inr (.inr (fun _ => none))))) := (fE355 (1 + d) 10 (fun q9 => absurd q9.2 (by decide))).trans c_349
  have c_366 : E353 (1 + d) 9 = .inl (kA 8, 6, .inr (.inr (.inr (.inr (fun _ => none))))) := (fE355 (1 + d) 9 (fun q9 => absurd q9.2 (by decide))).trans c_350
  have c_367 : E353 (1 + d) 1 = .inr (8, [.ref (ad304 (1 + d) 5), .int 0]) := (fE355 (1 + d) 1 (fun q9 => absurd q9.2 (by decide))).trans c_351
  have c_368 : E353 (1 + d) 5 = .inl (kA 0, 6, .inl (fun _ => 0)) := (fE355 (1 + d) 5 (fun q9 => absurd q9.2 (by decide))).trans c_352
  refine lv_aload_n hx hb xd_Ds_init_90 rfl (lv_at hl 0 rfl) ?_
  refine lv_iload_n hx hb xd_Ds_init_91 rfl (lv_at hl 1 rfl) ?_
  refine px_putF (D := D) (ci := 7) (v := .int (nI d)) (ty := .int) (C := xR_Ds) (T := xT_Ds) (N := 12) hx hb hT xi_Ds xt_Ds xt_Ds_ok xn_Ds hown hK.1 hP hD hS m_314 c_356 rfl 0 (by decide) (hT _ yq_29) (fun _ h9 => h9) rfl hin rfl (by decide +kernel) rfl rfl (Nat.le_of_ble_eq_true rfl) xd_Ds_init_92 (fun H locs hP hD hS => ?_)
  have hP : va_P D xcl (rp ad304 (up2 E353 (1 + d) 0 (.inr (7, [.int (nI d), .int 0, .int 0, .ref (ad304 (1 + d) 1), .ref (ad304 (1 + d) 9), .ref (ad304 (1 + d) 10), .ref (ad304 (1 + d) 2), .ref (ad304 (1 + d) 11), .ref (ad304 (1 + d) 12), .ref (ad304 (1 + d) 3), .ref (ad304 (1 + d) 4), .int 0]))) RL306) H := hP
  have hD : va_D A (rp ad304 (up2 E353 (1 + d) 0 (.inr (7, [.int (nI d), .int 0, .int 0, .ref (ad304 (1 + d) 1), .ref (ad304 (1 + d) 9), .ref (ad304 (1 + d) 10), .ref (ad304 (1 + d) 2), .ref (ad304 (1 + d) 11), .ref (ad304 (1 + d) 12), .ref (ad304 (1 + d) 3), .ref (ad304 (1 + d) 4), .int 0]))) RL306) := hD
  generalize hE370 : up2 E353 (1 + d) 0 (.inr (7, [.int (nI d), .int 0, .int 0, .ref (ad304 (1 + d) 1), .ref (ad304 (1 + d) 9), .ref (ad304 (1 + d) 10), .ref (ad304 (1 + d) 2), .ref (ad304 (1 + d) 11), .ref (ad304 (1 + d) 12), .ref (ad304 (1 + d) 3), .ref (ad304 (1 + d) 4), .int 0])) = E369 at hP hD
  have fE371 : ∀ b2 o2, ¬ (b2 = 1 + d ∧ o2 = 0) → E369 b2 o2 = E353 b2 o2 := fun b2 o2 h9 => by rw [← hE370]; exact up2_ne (nr_or h9)
  have c_372 : E369 (1 + d) 0 = .inr (7, [.int (nI d), .int 0, .int 0, .ref (ad304 (1 + d) 1), .ref (ad304 (1 + d) 9), .ref (ad304 (1 + d) 10), .ref (ad304 (1 + d) 2), .ref (ad304 (1 + d) 11), .ref (ad304 (1 + d) 12), .ref (ad304 (1 + d) 3), .ref (ad304 (1 + d) 4), .int 0]) := by rw [← hE370]; exact up2_eq
  have c_373 : E369 (1 + d) 4 = .inr (8, [.ref (ad304 (1 + d) 8), .int 0]) := (fE371 (1 + d) 4 (fun q9 => absurd q9.2 (by decide))).trans c_357
  have c_374 : E369 (1 + d) 8 = .inl (kA 0, 3, .inl (fun _ => 0)) := (fE371 (1 + d) 8 (fun q9 => absurd q9.2 (by decide))).trans c_358
  have c_375 : E369 (1 + d) 3 = .inr (8, [.ref (ad304 (1 + d) 7), .int 0]) := (fE371 (1 + d) 3 (fun q9 => absurd q9.2 (by decide))).trans c_359
  have c_376 : E369 (1 + d) 7 = .inl (kA 0, 3, .inl (fun _ => 0)) := (fE371 (1 + d) 7 (fun q9 => absurd q9.2 (by decide))).trans c_360
  have c_377 : E369 (1 + d) 12 = .inl (kA 2, 5, .inl (fun _ => 0)) := (fE371 (1 + d) 12 (fun q9 => absurd q9.2 (by decide))).trans c_361
  have c_378 : E369 (1 + d) 11 = .inl (kA 2, 5, .inl (fun _ => 0)) := (fE371 (1 + d) 11 (fun q9 => absurd q9.2 (by decide))).trans c_362
  have c_379 : E369 (1 + d) 2 = .inr (8, [.ref (ad304 (1 + d) 6), .int 0]) := (fE371 (1 + d) 2 (fun q9 => absurd q9.2 (by decide))).trans c_363
  have c_380 : E369 (1 + d) 6 = .inl (kA 0, 5, .inl (fun _ => 0)) := (fE371 (1 + d) 6 (fun q9 => absurd q9.2 (by decide))).trans c_364
  have c_381 : E369 (1 + d) 10 = .inl (kA 8, 6, .inr (.inr (.inr (.inr (fun _ => none))))) := (fE371 (1 + d) 10 (fun q9 => absurd q9.2 (by decide))).trans c_365
  have c_382 : E369 (1 + d) 9 = .inl (kA 8, 6, .inr (.inr (.inr (.inr (fun _ => none))))) := (fE371 (1 + d) 9 (fun q9 => absurd q9.2 (by decide))).trans c_366
  have c_383 : E369 (1 + d) 1 = .inr (8, [.ref (ad304 (1 + d) 5), .int 0]) := (fE371 (1 + d) 1 (fun q9 => absurd q9.2 (by decide))).trans c_367
  have c_384 : E369 (1 + d) 5 = .inl (kA 0, 6, .inl (fun _ => 0)) := (fE371 (1 + d) 5 (fun q9 => absurd q9.2 (by decide))).trans c_368
  refine lv_aload_n hx hb xd_Ds_init_95 rfl (lv_at hl 0 rfl) ?_
  refine lv_iload_n hx hb xd_Ds_init_96 rfl (lv_at hl 2 rfl) ?_
  refine px_putF (D := D) (ci := 7) (v := .int fi) (ty := .int) (C := xR_Ds) (T := xT_Ds) (N := 12) hx hb hT xi_Ds xt_Ds xt_Ds_ok xn_Ds hown hK.1 hP hD hS m_314 c_372 rfl 1 (by decide) (hT _ yq_30) (fun _ h9 => h9) rfl hin rfl (by decide +kernel) rfl rfl (Nat.le_of_ble_eq_true rfl) xd_Ds_init_97 (fun H locs hP hD hS => ?_)
  have hP : va_P D xcl (rp ad304 (up2 E369 (1 + d) 0 (.inr (7, [.int (nI d), .int fi, .int 0, .ref (ad304 (1 + d) 1), .ref (ad304 (1 + d) 9), .ref (ad304 (1 + d) 10), .ref (ad304 (1 + d) 2), .ref (ad304 (1 + d) 11), .ref (ad304 (1 + d) 12), .ref (ad304 (1 + d) 3), .ref (ad304 (1 + d) 4), .int 0]))) RL306) H := hP
  have hD : va_D A (rp ad304 (up2 E369 (1 + d) 0 (.inr (7, [.int (nI d), .int fi, .int 0, .ref (ad304 (1 + d) 1), .ref (ad304 (1 + d) 9), .ref (ad304 (1 + d) 10), .ref (ad304 (1 + d) 2), .ref (ad304 (1 + d) 11), .ref (ad304 (1 + d) 12), .ref (ad304 (1 + d) 3), .ref (ad304 (1 + d) 4), .int 0]))) RL306) := hD
  generalize hE386 : up2 E369 (1 + d) 0 (.inr (7, [.int (nI d), .int fi, .int 0, .ref (ad304 (1 + d) 1), .ref (ad304 (1 + d) 9), .ref (ad304 (1 + d) 10), .ref (ad304 (1 + d) 2), .ref (ad304 (1 + d) 11), .ref (ad304 (1 + d) 12), .ref (ad304 (1 + d) 3), .ref (ad304 (1 + d) 4), .int 0])) = E385 at hP hD
  have fE387 : ∀ b2 o2, ¬ (b2 = 1 + d ∧ o2 = 0) → E385 b2 o2 = E369 b2 o2 := fun b2 o2 h9 => by rw [← hE386]; exact up2_ne (nr_or h9)
  have c_388 : E385 (1 + d) 0 = .inr (7, [.int (nI d), .int fi, .int 0, .ref (ad304 (1 + d) 1), .ref (ad304 (1 + d) 9), .ref (ad304 (1 + d) 10), .ref (ad304 (1 + d) 2), .ref (ad304 (1 + d) 11), .ref (ad304 (1 + d) 12), .ref (ad304 (1 + d) 3), .ref (ad304 (1 + d) 4), .int 0]) := by rw [← hE386]; exact up2_eq
  have c_389 : E385 (1 + d) 4 = .inr (8, [.ref (ad304 (1 + d) 8), .int 0]) := (fE387 (1 + d) 4 (fun q9 => absurd q9.2 (by decide))).trans c_373
  have c_390 : E385 (1 + d) 8 = .inl (kA 0, 3, .inl (fun _ => 0)) := (fE387 (1 + d) 8 (fun q9 => absurd q9.2 (by decide))).trans c_374
  have c_391 : E385 (1 + d) 3 = .inr (8, [.ref (ad304 (1 + d) 7), .int 0]) := (fE387 (1 + d) 3 (fun q9 => absurd q9.2 (by decide))).trans c_375
  have c_392 : E385 (1 + d) 7 = .inl (kA 0, 3, .inl (fun _ => 0)) := (fE387 (1 + d) 7 (fun q9 => absurd q9.2 (by decide))).trans c_376
  have c_393 : E385 (1 + d) 12 = .inl (kA 2, 5, .inl (fun _ => 0)) := (fE387 (1 + d) 12 (fun q9 => absurd q9.2 (by decide))).trans c_377
  have c_394 : E385 (1 + d) 11 = .inl (kA 2, 5, .inl (fun _ => 0)) := (fE387 (1 + d) 11 (fun q9 => absurd q9.2 (by decide))).trans c_378
  have c_395 : E385 (1 + d) 2 = .inr (8, [.ref (ad304 (1 + d) 6), .int 0]) := (fE387 (1 + d) 2 (fun q9 => absurd q9.2 (by decide))).trans c_379
  have c_396 : E385 (1 + d) 6 = .inl (kA 0, 5, .inl (fun _ => 0)) := (fE387 (1 + d) 6 (fun q9 => absurd q9.2 (by decide))).trans c_380
  have c_397 : E385 (1 + d) 10 = .inl (kA 8, 6, .inr (.inr (.inr (.inr (fun _ => none))))) := (fE387 (1 + d) 10 (fun q9 => absurd q9.2 (by decide))).trans c_381
  have c_398 : E385 (1 + d) 9 = .inl (kA 8, 6, .inr (.inr (.inr (.inr (fun _ => none))))) := (fE387 (1 + d) 9 (fun q9 => absurd q9.2 (by decide))).trans c_382
  have c_399 : E385 (1 + d) 1 = .inr (8, [.ref (ad304 (1 + d) 5), .int 0]) := (fE387 (1 + d) 1 (fun q9 => absurd q9.2 (by decide))).trans c_383
  have c_400 : E385 (1 + d) 5 = .inl (kA 0, 6, .inl (fun _ => 0)) := (fE387 (1 + d) 5 (fun q9 => absurd q9.2 (by decide))).trans c_384
  refine lv_aload_n hx hb xd_Ds_init_100 rfl (lv_at hl 0 rfl) ?_
  refine lv_iload_n hx hb xd_Ds_init_101 rfl (lv_at hl 3 rfl) ?_
  refine px_putF (D := D) (ci := 7) (v := .int nm) (ty := .int) (C := xR_Ds) (T := xT_Ds) (N := 12) hx hb hT xi_Ds xt_Ds xt_Ds_ok xn_Ds hown hK.1 hP hD hS m_314 c_388 rfl 2 (by decide) (hT _ yq_31) (fun _ h9 => h9) rfl hin rfl (by decide +kernel) rfl rfl (Nat.le_of_ble_eq_true rfl) xd_Ds_init_102 (fun H locs hP hD hS => ?_)
  have hP : va_P D xcl (rp ad304 (up2 E385 (1 + d) 0 (.inr (7, [.int (nI d), .int fi, .int nm, .ref (ad304 (1 + d) 1), .ref (ad304 (1 + d) 9), .ref (ad304 (1 + d) 10), .ref (ad304 (1 + d) 2), .ref (ad304 (1 + d) 11), .ref (ad304 (1 + d) 12), .ref (ad304 (1 + d) 3), .ref (ad304 (1 + d) 4), .int 0]))) RL306) H := hP
  have hD : va_D A (rp ad304 (up2 E385 (1 + d) 0 (.inr (7, [.int (nI d), .int fi, .int nm, .ref (ad304 (1 + d) 1), .ref (ad304 (1 + d) 9), .ref (ad304 (1 + d) 10), .ref (ad304 (1 + d) 2), .ref (ad304 (1 + d) 11), .ref (ad304 (1 + d) 12), .ref (ad304 (1 + d) 3), .ref (ad304 (1 + d) 4), .int 0]))) RL306) := hD
  generalize hE402 : up2 E385 (1 + d) 0 (.inr (7, [.int (nI d), .int fi, .int nm, .ref (ad304 (1 + d) 1), .ref (ad304 (1 + d) 9), .ref (ad304 (1 + d) 10), .ref (ad304 (1 + d) 2), .ref (ad304 (1 + d) 11), .ref (ad304 (1 + d) 12), .ref (ad304 (1 + d) 3), .ref (ad304 (1 + d) 4), .int 0])) = E401 at hP hD
  have fE403 : ∀ b2 o2, ¬ (b2 = 1 + d ∧ o2 = 0) → E401 b2 o2 = E385 b2 o2 := fun b2 o2 h9 => by rw [← hE402]; exact up2_ne (nr_or h9)
  have c_404 : E401 (1 + d) 0 = .inr (7, [.int (nI d), .int fi, .int nm, .ref (ad304 (1 + d) 1), .ref (ad304 (1 + d) 9), .ref (ad304 (1 + d) 10), .ref (ad304 (1 + d) 2), .ref (ad304 (1 + d) 11), .ref (ad304 (1 + d) 12), .ref (ad304 (1 + d) 3), .ref (ad304 (1 + d) 4), .int 0]) := by rw [← hE402]; exact up2_eq
  have c_405 : E401 (1 + d) 4 = .inr (8, [.ref (ad304 (1 + d) 8), .int 0]) := (fE403 (1 + d) 4 (fun q9 => absurd q9.2 (by decide))).trans c_389
  have c_406 : E401 (1 + d) 8 = .inl (kA 0, 3, .inl (fun _ => 0)) := (fE403 (1 + d) 8 (fun q9 => absurd q9.2 (by decide))).trans c_390
  have c_407 : E401 (1 + d) 3 = .inr (8, [.ref (ad304 (1 + d) 7), .int 0]) := (fE403 (1 + d) 3 (fun q9 => absurd q9.2 (by decide))).trans c_391
  have c_408 : E401 (1 + d) 7 = .inl (kA 0, 3, .inl (fun _ => 0)) := (fE403 (1 + d) 7 (fun q9 => absurd q9.2 (by decide))).trans c_392
  have c_409 : E401 (1 + d) 12 = .inl (kA 2, 5, .inl (fun _ => 0)) := (fE403 (1 + d) 12 (fun q9 => absurd q9.2 (by decide))).trans c_393
  have c_410 : E401 (1 + d) 11 = .inl (kA 2, 5, .inl (fun _ => 0)) := (fE403 (1 + d) 11 (fun q9 => absurd q9.2 (by decide))).trans c_394
  have c_411 : E401 (1 + d) 2 = .inr (8, [.ref (ad304 (1 + d) 6), .int 0]) := (fE403 (1 + d) 2 (fun q9 => absurd q9.2 (by decide))).trans c_395
  have c_412 : E401 (1 + d) 6 = .inl (kA 0, 5, .inl (fun _ => 0)) := (fE403 (1 + d) 6 (fun q9 => absurd q9.2 (by decide))).trans c_396
  have c_413 : E401 (1 + d) 10 = .inl (kA 8, 6, .inr (.inr (.inr (.inr (fun _ => none))))) := (fE403 (1 + d) 10 (fun q9 => absurd q9.2 (by decide))).trans c_397
  have c_414 : E401 (1 + d) 9 = .inl (kA 8, 6, .inr (.inr (.inr (.inr (fun _ => none))))) := (fE403 (1 + d) 9 (fun q9 => absurd q9.2 (by decide))).trans c_398
  have c_415 : E401 (1 + d) 1 = .inr (8, [.ref (ad304 (1 + d) 5), .int 0]) := (fE403 (1 + d) 1 (fun q9 => absurd q9.2 (by decide))).trans c_399
  have c_416 : E401 (1 + d) 5 = .inl (kA 0, 6, .inl (fun _ => 0)) := (fE403 (1 + d) 5 (fun q9 => absurd q9.2 (by decide))).trans c_400
  refine W.widen (k := 12) (n := 54) (Nat.le_of_ble_eq_true rfl) (Nat.le_of_ble_eq_true rfl) ?_
  exact W.vret hx hb hr (fun t ht hW => ⟨⟨(ad304, E401, RL306), rfl, ⟨trivial, c_404, c_415, c_411, c_407, c_405, c_416, c_412, c_408, c_406, c_414, c_413, c_410, c_409, (fun b2 o2 h09 h19 h29 h39 h49 h59 h69 h79 h89 h99 h109 h119 h129 => by show E401 b2 o2 = _; rw [fE403 b2 o2 (by omega), fE387 b2 o2 (by omega), fE371 b2 o2 (by omega), fE355 b2 o2 (by omega), fE339 b2 o2 (by omega), p_309 b2 o2 (by omega) (by omega), fE274 b2 o2 (by omega), fE259 b2 o2 (by omega), p_233 b2 o2 (by omega) (by omega), fE202 b2 o2 (by omega), fE189 b2 o2 (by omega), fE166 b2 o2 (by omega), fE154 b2 o2 (by omega), fE133 b2 o2 (by omega), fE122 b2 o2 (by omega), p_104 b2 o2 (by omega) (by omega), fE81 b2 o2 (by omega), fE72 b2 o2 (by omega), fE57 b2 o2 (by omega), fE49 b2 o2 (by omega), fE36 b2 o2 (by omega), fE29 b2 o2 (by omega), p_19 b2 o2 (by omega) (by omega), fE4 b2 o2 (by omega)]), (fun b2 o2 h09 h19 h29 h39 h49 h59 h69 h79 h89 h99 h109 h119 => by show ad304 b2 o2 = _; rw [p_310 b2 o2 (by omega), fA275 b2 o2 (by omega), p_234 b2 o2 (by omega), fA203 b2 o2 (by omega), fA167 b2 o2 (by omega), fA134 b2 o2 (by omega), p_105 b2 o2 (by omega), fA82 b2 o2 (by omega), fA58 b2 o2 (by omega), fA37 b2 o2 (by omega), p_20 b2 o2 (by omega), fA5 b2 o2 (by omega)]), (fun x9 hx9 => p_311 _ (hs276 _ (p_235 _ (hs204 _ (hs168 _ (hs135 _ (p_106 _ (hs83 _ (hs59 _ (hs38 _ (p_21 _ (hs6 _ hx9)))))))))))), m_315, m_319, m_323, m_325, m_316, m_320, m_324, p_312, m_317, m_318, m_321, m_322⟩, by rw [ht]; exact hP, hD⟩, hS.F ht⟩) hS.2.2 xd_Ds_init_105
abbrev xb_Ds_addRequired : ByteArray := prog_3_method_3_code
def xy_Ds_addRequired : MethodName := ⟨"LayerDesk$Descriptor", "addRequired", "(IZZ)V"⟩
abbrev xb_Ds_addPackage : ByteArray := prog_3_method_2_code
def xy_Ds_addPackage : MethodName := ⟨"LayerDesk$Descriptor", "addPackage", "(I)V"⟩
theorem xd_Ds_addPackage_0 : decode xb_Ds_addPackage 0 = .ok (.aload_n 0, 1) := by decide +kernel
theorem xd_Ds_addPackage_1 : decode xb_Ds_addPackage 1 = .ok (.getfield 14, 3) := by decide +kernel
theorem xd_Ds_addPackage_4 : decode xb_Ds_addPackage 4 = .ok (.invokevirtual 57, 3) := by decide +kernel
theorem xd_Ds_addPackage_7 : decode xb_Ds_addPackage 7 = .ok (.ifCond .ne 49, 3) := by decide +kernel
theorem xd_Ds_addPackage_10 : decode xb_Ds_addPackage 10 = .ok (.aload_n 0, 1) := by decide +kernel
theorem xd_Ds_addPackage_11 : decode xb_Ds_addPackage 11 = .ok (.getfield 20, 3) := by decide +kernel
theorem xd_Ds_addPackage_14 : decode xb_Ds_addPackage 14 = .ok (.aload_n 0, 1) := by decide +kernel
theorem xd_Ds_addPackage_15 : decode xb_Ds_addPackage 15 = .ok (.getfield 14, 3) := by decide +kernel
theorem xd_Ds_addPackage_18 : decode xb_Ds_addPackage 18 = .ok (.getfield 61, 3) := by decide +kernel
theorem xd_Ds_addPackage_21 : decode xb_Ds_addPackage 21 = .ok (.new 18, 3) := by decide +kernel
theorem xd_Ds_addPackage_24 : decode xb_Ds_addPackage 24 = .ok (.dup, 1) := by decide +kernel
theorem xd_Ds_addPackage_25 : decode xb_Ds_addPackage 25 = .ok (.invokespecial 64, 3) := by decide +kernel
theorem xd_Ds_addPackage_28 : decode xb_Ds_addPackage 28 = .ok (.aastore, 1) := by decide +kernel
theorem xd_Ds_addPackage_29 : decode xb_Ds_addPackage 29 = .ok (.aload_n 0, 1) := by decide +kernel
theorem xd_Ds_addPackage_30 : decode xb_Ds_addPackage 30 = .ok (.getfield 24, 3) := by decide +kernel
theorem xd_Ds_addPackage_33 : decode xb_Ds_addPackage 33 = .ok (.aload_n 0, 1) := by decide +kernel
theorem xd_Ds_addPackage_34 : decode xb_Ds_addPackage 34 = .ok (.getfield 14, 3) := by decide +kernel
theorem xd_Ds_addPackage_37 : decode xb_Ds_addPackage 37 = .ok (.getfield 61, 3) := by decide +kernel
theorem xd_Ds_addPackage_40 : decode xb_Ds_addPackage 40 = .ok (.new 18, 3) := by decide +kernel
theorem xd_Ds_addPackage_43 : decode xb_Ds_addPackage 43 = .ok (.dup, 1) := by decide +kernel
theorem xd_Ds_addPackage_44 : decode xb_Ds_addPackage 44 = .ok (.invokespecial 64, 3) := by decide +kernel
theorem xd_Ds_addPackage_47 : decode xb_Ds_addPackage 47 = .ok (.aastore, 1) := by decide +kernel
theorem xd_Ds_addPackage_48 : decode xb_Ds_addPackage 48 = .ok (.aload_n 0, 1) := by decide +kernel
theorem xd_Ds_addPackage_49 : decode xb_Ds_addPackage 49 = .ok (.getfield 14, 3) := by decide +kernel
theorem xd_Ds_addPackage_52 : decode xb_Ds_addPackage 52 = .ok (.iload_n 1, 1) := by decide +kernel
theorem xd_Ds_addPackage_53 : decode xb_Ds_addPackage 53 = .ok (.invokevirtual 65, 3) := by decide +kernel
theorem xd_Ds_addPackage_56 : decode xb_Ds_addPackage 56 = .ok (.return_, 1) := by decide +kernel
theorem xd_Ds_addRequired_0 : decode xb_Ds_addRequired 0 = .ok (.aload_n 0, 1) := by decide +kernel
theorem xd_Ds_addRequired_1 : decode xb_Ds_addRequired 1 = .ok (.getfield 27, 3) := by decide +kernel
theorem xd_Ds_addRequired_4 : decode xb_Ds_addRequired 4 = .ok (.invokevirtual 57, 3) := by decide +kernel
theorem xd_Ds_addRequired_7 : decode xb_Ds_addRequired 7 = .ok (.ifCond .ne 37, 3) := by decide +kernel
theorem xd_Ds_addRequired_10 : decode xb_Ds_addRequired 10 = .ok (.aload_n 0, 1) := by decide +kernel
theorem xd_Ds_addRequired_11 : decode xb_Ds_addRequired 11 = .ok (.getfield 30, 3) := by decide +kernel
theorem xd_Ds_addRequired_14 : decode xb_Ds_addRequired 14 = .ok (.aload_n 0, 1) := by decide +kernel
theorem xd_Ds_addRequired_15 : decode xb_Ds_addRequired 15 = .ok (.getfield 27, 3) := by decide +kernel
theorem xd_Ds_addRequired_18 : decode xb_Ds_addRequired 18 = .ok (.getfield 61, 3) := by decide +kernel
theorem xd_Ds_addRequired_21 : decode xb_Ds_addRequired 21 = .ok (.iload_n 2, 1) := by decide +kernel
theorem xd_Ds_addRequired_22 : decode xb_Ds_addRequired 22 = .ok (.bastore, 1) := by decide +kernel
theorem xd_Ds_addRequired_23 : decode xb_Ds_addRequired 23 = .ok (.aload_n 0, 1) := by decide +kernel
theorem xd_Ds_addRequired_24 : decode xb_Ds_addRequired 24 = .ok (.getfield 34, 3) := by decide +kernel
theorem xd_Ds_addRequired_27 : decode xb_Ds_addRequired 27 = .ok (.aload_n 0, 1) := by decide +kernel
theorem xd_Ds_addRequired_28 : decode xb_Ds_addRequired 28 = .ok (.getfield 27, 3) := by decide +kernel
theorem xd_Ds_addRequired_31 : decode xb_Ds_addRequired 31 = .ok (.getfield 61, 3) := by decide +kernel
theorem xd_Ds_addRequired_34 : decode xb_Ds_addRequired 34 = .ok (.iload_n 3, 1) := by decide +kernel
theorem xd_Ds_addRequired_35 : decode xb_Ds_addRequired 35 = .ok (.bastore, 1) := by decide +kernel
theorem xd_Ds_addRequired_36 : decode xb_Ds_addRequired 36 = .ok (.aload_n 0, 1) := by decide +kernel
theorem xd_Ds_addRequired_37 : decode xb_Ds_addRequired 37 = .ok (.getfield 27, 3) := by decide +kernel
theorem xd_Ds_addRequired_40 : decode xb_Ds_addRequired 40 = .ok (.iload_n 1, 1) := by decide +kernel
theorem xd_Ds_addRequired_41 : decode xb_Ds_addRequired 41 = .ok (.invokevirtual 65, 3) := by decide +kernel
theorem xd_Ds_addRequired_44 : decode xb_Ds_addRequired 44 = .ok (.return_, 1) := by decide +kernel
abbrev xb_Re_init : ByteArray := prog_9_method_1_code
def xy_Re_init : MethodName := ⟨"LayerDesk$Reach", "<init>", "()V"⟩
abbrev xb_Me_init : ByteArray := prog_7_method_1_code
def xy_Me_init : MethodName := ⟨"LayerDesk$Member", "<init>", "(LLayerDesk$Layer;LLayerDesk$Descriptor;)V"⟩
abbrev xb_Ly_init : ByteArray := prog_5_method_1_code
def xy_Ly_init : MethodName := ⟨"LayerDesk$Layer", "<init>", "(ILLayerDesk$Layer;I)V"⟩
theorem xd_Ly_init_0 : decode xb_Ly_init 0 = .ok (.aload_n 0, 1) := by decide +kernel
theorem xd_Ly_init_1 : decode xb_Ly_init 1 = .ok (.invokespecial 1, 3) := by decide +kernel
theorem xd_Ly_init_4 : decode xb_Ly_init 4 = .ok (.aload_n 0, 1) := by decide +kernel
theorem xd_Ly_init_5 : decode xb_Ly_init 5 = .ok (.iload_n 1, 1) := by decide +kernel
theorem xd_Ly_init_6 : decode xb_Ly_init 6 = .ok (.putfield 7, 3) := by decide +kernel
theorem xd_Ly_init_9 : decode xb_Ly_init 9 = .ok (.aload_n 0, 1) := by decide +kernel
theorem xd_Ly_init_10 : decode xb_Ly_init 10 = .ok (.aload_n 2, 1) := by decide +kernel
theorem xd_Ly_init_11 : decode xb_Ly_init 11 = .ok (.putfield 13, 3) := by decide +kernel
theorem xd_Ly_init_14 : decode xb_Ly_init 14 = .ok (.aload_n 0, 1) := by decide +kernel
theorem xd_Ly_init_15 : decode xb_Ly_init 15 = .ok (.iload_n 3, 1) := by decide +kernel
theorem xd_Ly_init_16 : decode xb_Ly_init 16 = .ok (.anewarray 17, 3) := by decide +kernel
theorem xd_Ly_init_19 : decode xb_Ly_init 19 = .ok (.putfield 19, 3) := by decide +kernel
theorem xd_Ly_init_22 : decode xb_Ly_init 22 = .ok (.aload_n 0, 1) := by decide +kernel
theorem xd_Ly_init_23 : decode xb_Ly_init 23 = .ok (.iconst 1, 1) := by decide +kernel
theorem xd_Ly_init_24 : decode xb_Ly_init 24 = .ok (.putfield 23, 3) := by decide +kernel
theorem xd_Ly_init_27 : decode xb_Ly_init 27 = .ok (.return_, 1) := by decide +kernel
theorem xd_Me_init_0 : decode xb_Me_init 0 = .ok (.aload_n 0, 1) := by decide +kernel
theorem xd_Me_init_1 : decode xb_Me_init 1 = .ok (.invokespecial 3, 3) := by decide +kernel
theorem xd_Me_init_4 : decode xb_Me_init 4 = .ok (.aload_n 0, 1) := by decide +kernel
theorem xd_Me_init_5 : decode xb_Me_init 5 = .ok (.new 9, 3) := by decide +kernel
theorem xd_Me_init_8 : decode xb_Me_init 8 = .ok (.dup, 1) := by decide +kernel
theorem xd_Me_init_9 : decode xb_Me_init 9 = .ok (.invokespecial 11, 3) := by decide +kernel
theorem xd_Me_init_12 : decode xb_Me_init 12 = .ok (.putfield 12, 3) := by decide +kernel
theorem xd_Me_init_15 : decode xb_Me_init 15 = .ok (.aload_n 0, 1) := by decide +kernel
theorem xd_Me_init_16 : decode xb_Me_init 16 = .ok (.new 9, 3) := by decide +kernel
theorem xd_Me_init_19 : decode xb_Me_init 19 = .ok (.dup, 1) := by decide +kernel
theorem xd_Me_init_20 : decode xb_Me_init 20 = .ok (.invokespecial 11, 3) := by decide +kernel
theorem xd_Me_init_23 : decode xb_Me_init 23 = .ok (.putfield 18, 3) := by decide +kernel
theorem xd_Me_init_26 : decode xb_Me_init 26 = .ok (.aload_n 0, 1) := by decide +kernel
theorem xd_Me_init_27 : decode xb_Me_init 27 = .ok (.new 9, 3) := by decide +kernel
theorem xd_Me_init_30 : decode xb_Me_init 30 = .ok (.dup, 1) := by decide +kernel
theorem xd_Me_init_31 : decode xb_Me_init 31 = .ok (.invokespecial 11, 3) := by decide +kernel
theorem xd_Me_init_34 : decode xb_Me_init 34 = .ok (.putfield 21, 3) := by decide +kernel
theorem xd_Me_init_37 : decode xb_Me_init 37 = .ok (.aload_n 0, 1) := by decide +kernel
theorem xd_Me_init_38 : decode xb_Me_init 38 = .ok (.aload_n 1, 1) := by decide +kernel
theorem xd_Me_init_39 : decode xb_Me_init 39 = .ok (.putfield 24, 3) := by decide +kernel
theorem xd_Me_init_42 : decode xb_Me_init 42 = .ok (.aload_n 0, 1) := by decide +kernel
theorem xd_Me_init_43 : decode xb_Me_init 43 = .ok (.aload_n 2, 1) := by decide +kernel
theorem xd_Me_init_44 : decode xb_Me_init 44 = .ok (.putfield 28, 3) := by decide +kernel
theorem xd_Me_init_47 : decode xb_Me_init 47 = .ok (.aload_n 0, 1) := by decide +kernel
theorem xd_Me_init_48 : decode xb_Me_init 48 = .ok (.aload_n 2, 1) := by decide +kernel
theorem xd_Me_init_49 : decode xb_Me_init 49 = .ok (.getfield 32, 3) := by decide +kernel
theorem xd_Me_init_52 : decode xb_Me_init 52 = .ok (.getfield 38, 3) := by decide +kernel
theorem xd_Me_init_55 : decode xb_Me_init 55 = .ok (.anewarray 13, 3) := by decide +kernel
theorem xd_Me_init_58 : decode xb_Me_init 58 = .ok (.putfield 44, 3) := by decide +kernel
theorem xd_Me_init_61 : decode xb_Me_init 61 = .ok (.return_, 1) := by decide +kernel
theorem xd_Re_init_0 : decode xb_Re_init 0 = .ok (.aload_n 0, 1) := by decide +kernel
theorem xd_Re_init_1 : decode xb_Re_init 1 = .ok (.invokespecial 3, 3) := by decide +kernel
theorem xd_Re_init_4 : decode xb_Re_init 4 = .ok (.aload_n 0, 1) := by decide +kernel
theorem xd_Re_init_5 : decode xb_Re_init 5 = .ok (.bipush 6, 2) := by decide +kernel
theorem xd_Re_init_7 : decode xb_Re_init 7 = .ok (.newarray .int, 2) := by decide +kernel
theorem xd_Re_init_9 : decode xb_Re_init 9 = .ok (.putfield 11, 3) := by decide +kernel
theorem xd_Re_init_12 : decode xb_Re_init 12 = .ok (.return_, 1) := by decide +kernel
theorem yr2_0 : (Cond.methodLink "LayerDesk$Reach" 3 ⟨"java/lang/Object", "<init>", "()V"⟩) ∈ wT := wT_t (List.mem_append_right _ (List.mem_append_right _ (List.mem_append_left _ (List.mem_of_getElem? (i := 173) rfl)))) rfl
theorem yr2_1 : (Cond.instanceMethod ⟨"java/lang/Object", "<init>", "()V"⟩) ∈ wT := wT_t (List.mem_append_left _ (List.mem_of_getElem? (i := 28) rfl)) rfl
theorem yr2_2 : (Cond.code ⟨"java/lang/Object", "<init>", "()V"⟩ object_method_1_code 1 none) ∈ wT := wT_t (List.mem_append_left _ (List.mem_of_getElem? (i := 29) rfl)) rfl
theorem yr2_3 : (Cond.arrayClass .int) ∈ wT := wT_t (List.mem_append_left _ (List.mem_of_getElem? (i := 55) rfl)) rfl
theorem yr2_4 : (Cond.fieldLink "LayerDesk$Reach" 11 "LayerDesk$Reach" "rows" "[I") ∈ wT := wT_t (List.mem_append_right _ (List.mem_append_right _ (List.mem_append_left _ (List.mem_of_getElem? (i := 174) rfl)))) rfl
theorem yr2_5 : (Cond.methodLink "LayerDesk$Member" 3 ⟨"java/lang/Object", "<init>", "()V"⟩) ∈ wT := wT_t (List.mem_append_right _ (List.mem_append_right _ (List.mem_append_left _ (List.mem_of_getElem? (i := 167) rfl)))) rfl
theorem yr2_6 : (Cond.classLink "LayerDesk$Member" 9 "LayerDesk$Reach") ∈ wT := wT_t (List.mem_append_right _ (List.mem_append_right _ (List.mem_append_left _ (List.mem_of_getElem? (i := 168) rfl)))) rfl
theorem yr2_7 : (Cond.instantiable "LayerDesk$Reach" 1) ∈ wT := wT_t (List.mem_append_right _ (List.mem_append_right _ (List.mem_append_left _ (List.mem_of_getElem? (i := 169) rfl)))) rfl
theorem yr2_8 : (Cond.initialized "LayerDesk$Reach") ∈ wT := wT_t (List.mem_append_left _ (List.mem_of_getElem? (i := 21) rfl)) rfl
theorem yr2_9 : (Cond.code xy_Re_init xb_Re_init 1 none) ∈ wT := wT_t (List.mem_append_right _ (List.mem_append_right _ (List.mem_append_left _ (List.mem_of_getElem? (i := 172) rfl)))) rfl
theorem yr2_10 : (Cond.instanceMethod xy_Re_init) ∈ wT := wT_t (List.mem_append_right _ (List.mem_append_right _ (List.mem_append_left _ (List.mem_of_getElem? (i := 171) rfl)))) rfl
theorem yr2_11 : (Cond.fieldLink "LayerDesk$Member" 12 "LayerDesk$Member" "leading" "LLayerDesk$Reach;") ∈ wT := wT_t (List.mem_append_right _ (List.mem_append_right _ (List.mem_append_left _ (List.mem_of_getElem? (i := 187) rfl)))) rfl
theorem yr2_12 : (Cond.fieldLink "LayerDesk$Member" 18 "LayerDesk$Member" "carried" "LLayerDesk$Reach;") ∈ wT := wT_t (List.mem_append_right _ (List.mem_append_right _ (List.mem_append_left _ (List.mem_of_getElem? (i := 189) rfl)))) rfl
theorem yr2_13 : (Cond.fieldLink "LayerDesk$Member" 21 "LayerDesk$Member" "reading" "LLayerDesk$Reach;") ∈ wT := wT_t (List.mem_append_right _ (List.mem_append_right _ (List.mem_append_left _ (List.mem_of_getElem? (i := 191) rfl)))) rfl
theorem yr2_14 : (Cond.fieldLink "LayerDesk$Member" 24 "LayerDesk$Member" "home" "LLayerDesk$Layer;") ∈ wT := wT_t (List.mem_append_right _ (List.mem_append_right _ (List.mem_append_left _ (List.mem_of_getElem? (i := 179) rfl)))) rfl
theorem yr2_15 : (Cond.fieldLink "LayerDesk$Member" 28 "LayerDesk$Member" "descriptor" "LLayerDesk$Descriptor;") ∈ wT := wT_t (List.mem_append_right _ (List.mem_append_right _ (List.mem_append_left _ (List.mem_of_getElem? (i := 181) rfl)))) rfl
theorem yr2_16 : (Cond.fieldLink "LayerDesk$Member" 32 "LayerDesk$Descriptor" "required" "LLayerDesk$Names;") ∈ wT := wT_t (List.mem_append_right _ (List.mem_append_left _ (List.mem_of_getElem? (i := 67) rfl))) rfl
theorem yr2_17 : (Cond.fieldLink "LayerDesk$Member" 38 "LayerDesk$Names" "size" "I") ∈ wT := wT_t (List.mem_append_right _ (List.mem_append_left _ (List.mem_of_getElem? (i := 35) rfl))) rfl
theorem yr2_18 : (Cond.classLink "LayerDesk$Member" 13 "LayerDesk$Member") ∈ wT := wT_t (List.mem_append_right _ (List.mem_append_right _ (List.mem_append_left _ (List.mem_of_getElem? (i := 178) rfl)))) rfl
theorem yr2_19 : (Cond.fieldLink "LayerDesk$Member" 44 "LayerDesk$Member" "required" "[LLayerDesk$Member;") ∈ wT := wT_t (List.mem_append_right _ (List.mem_append_right _ (List.mem_append_left _ (List.mem_of_getElem? (i := 186) rfl)))) rfl
theorem yr2_20 : (Cond.methodLink "LayerDesk$Layer" 1 ⟨"java/lang/Object", "<init>", "()V"⟩) ∈ wT := wT_t (List.mem_append_right _ (List.mem_append_right _ (List.mem_append_left _ (List.mem_of_getElem? (i := 136) rfl)))) rfl
theorem yr2_21 : (Cond.fieldLink "LayerDesk$Layer" 7 "LayerDesk$Layer" "number" "I") ∈ wT := wT_t (List.mem_append_right _ (List.mem_append_right _ (List.mem_append_left _ (List.mem_of_getElem? (i := 139) rfl)))) rfl
theorem yr2_22 : (Cond.fieldLink "LayerDesk$Layer" 13 "LayerDesk$Layer" "parent" "LLayerDesk$Layer;") ∈ wT := wT_t (List.mem_append_right _ (List.mem_append_right _ (List.mem_append_left _ (List.mem_of_getElem? (i := 143) rfl)))) rfl
theorem yr2_23 : (Cond.classLink "LayerDesk$Layer" 17 "LayerDesk$Member") ∈ wT := wT_t (List.mem_append_right _ (List.mem_append_right _ (List.mem_append_left _ (List.mem_of_getElem? (i := 137) rfl)))) rfl
theorem yr2_24 : (Cond.fieldLink "LayerDesk$Layer" 19 "LayerDesk$Layer" "members" "[LLayerDesk$Member;") ∈ wT := wT_t (List.mem_append_right _ (List.mem_append_right _ (List.mem_append_left _ (List.mem_of_getElem? (i := 147) rfl)))) rfl
theorem yr2_25 : (Cond.fieldLink "LayerDesk$Layer" 23 "LayerDesk$Layer" "open" "Z") ∈ wT := wT_t (List.mem_append_right _ (List.mem_append_right _ (List.mem_append_left _ (List.mem_of_getElem? (i := 151) rfl)))) rfl
set_option maxHeartbeats 4000000 in
set_option maxRecDepth 100000 in
theorem xc_Re_init (l : Launch) (D : va_G) (kA : Nat → ClassId) (sz : Nat) (ad : Nat → Nat → Nat) (E : Nat → Nat → va_E) (RL : List (Nat × Nat)) (b : Nat) (o : Nat) (oa : Nat) (ym0 : (b, o) ∈ RL) (yc0 : E b o = .inr (10, [.null])) (hoa : o ≠ oa) : Met l xy_Re_init (.code xy_Re_init xb_Re_init 1 none :: wT) { frames := 1, cells := 1, slots := 6, locals := 14 } (va_Pc [.ref (ad b o)] (xPre D kA sz (rp ad E RL))) (va_Qv (fun (u : (Nat → Nat → Nat) × (Nat → Nat → va_E) × List (Nat × Nat)) => (True) ∧ (u.2.1 b o = .inr (10, [.ref (u.1 b oa)])) ∧ (u.2.1 b oa = .inl (kA 0, 6, .inl (fun _ => 0))) ∧ ((∀ b2 o2, ¬ (b2 = b ∧ o2 = o) → ¬ (b2 = b ∧ o2 = oa) → u.2.1 b2 o2 = E b2 o2)) ∧ ((∀ b2 o2, ¬ (b2 = b ∧ o2 = oa) → u.1 b2 o2 = ad b2 o2)) ∧ ((∀ x ∈ RL, x ∈ u.2.2)) ∧ ((b, oa) ∈ u.2.2)) (fun (u : (Nat → Nat → Nat) × (Nat → Nat → va_E) × List (Nat × Nat)) t => va_P D xcl (rp u.1 u.2.1 u.2.2) t.heap ∧ va_D (va_A (rp ad E RL) sz) (rp u.1 u.2.1 u.2.2)) (va_A (rp ad E RL) sz)) 1 6 (va_A (rp ad E RL) sz) := by
  refine Met.ofW (cc := xb_Re_init) (maxL := 1) (ret := none) (by decide) rfl ?_
  intro p e s m args below meth c s₁ B hml hv
  obtain ⟨rfl, hsz, hP, hK, hD0⟩ := hv
  have hx := B.exec
  have hb := B.bytes
  have hr := B.returns
  have hT := x_hT B.pre
  have hown : s.vm.findClass xR_Re = some m.cls := findClass_of_methodNamed B.named
  have hlocks := B.notSynchronized
  have hin : meth.name = "<init>" := (name_of_methodNamed B.named B.method).1
  subst hsz
  have hD := hD0.self (sz := s.heap.size)
  generalize hAe : va_A (rp ad E RL) s.heap.size = A at hD ⊢
  have hA : ∀ q : Nat, s.heap.size ≤ q → A q := fun q h => by rw [← hAe]; exact Or.inr h
  have hS : va_S A s.heap s.heap [] := va_S.rf
  have hl := lv_entry ([.ref (ad b o)]) (n := 1) (Nat.le_of_ble_eq_true rfl)
  rw [lg_entry_eq]
  generalize (lg_sl ([.ref (ad b o)]) ++ List.replicate (1 - (lg_sl ([.ref (ad b o)])).length) Slot.unset).toArray = ls at hl ⊢
  have hl : lv_has ls 1 [(0, .ref (ad b o))] := hl
  have hP : va_P D xcl (rp ad E RL) s.heap := hP
  refine lv_aload_n hx hb xd_Re_init_0 rfl (lv_at hl 0 rfl) ?_
  refine W.objInit hx hb hown (hT _ yr2_0) (hT _ yr2_1) (hT _ yr2_2) rfl (by rw [hml]; exact hl.1) rfl xd_Re_init_1 (Nat.le_of_ble_eq_true rfl) (Nat.le_of_ble_eq_true rfl) ?_
  refine W.eq (g2 := F0 m 4 ls []) rfl ?_
  refine lv_aload_n hx hb xd_Re_init_4 rfl (lv_at hl 0 rfl) ?_
  refine lv_bipush (v := 6) hx hb xd_Re_init_5 (by decide) ?_
  refine W.eq (g2 := F0 m 7 ls [.int (nI 6), .ref (ad b o)]) rfl ?_
  refine px_newa (atype := .int) (a0 := (6, Sum.inl (fun _ => 0))) (ty := .int) (N' := 6) b oa hx hb (hT _ yr2_3) rfl (fun _ h9 => h9) hK.1 0 rfl hP hD hS hA (fun _ => rfl) (by omega) (Nat.le_of_ble_eq_true rfl) (Nat.le_of_ble_eq_true rfl) (Nat.le_of_ble_eq_true rfl) xd_Re_init_7 (fun ad1 E2 RL3 H hA1 hE1 hs1 hm1 hP hD hS => ?_)
  have fE4 : ∀ b2 o2, ¬ (b2 = b ∧ o2 = oa) → E2 b2 o2 = E b2 o2 := fun b2 o2 h9 => by rw [hE1]; exact up2_ne (nr_or h9)
  have fA5 : ∀ b2 o2, ¬ (b2 = b ∧ o2 = oa) → ad1 b2 o2 = ad b2 o2 := fun b2 o2 h9 => by rw [hA1]; exact up2_ne (nr_or h9)
  have hs6 := hs1
  refine W.eq (g2 := F0 m _ ls [.ref (ad1 b oa), .ref (ad1 b o)]) (by rw [fA5 b o (by omega)]) ?_
  have c_7 : E2 b oa = .inl (kA 0, 6, .inl (fun _ => 0)) := by rw [hE1]; exact up2_eq
  have hl : lv_has ls 1 [(0, .ref (ad1 b o))] := by
    rw [fA5 b o (by omega)]; exact hl
  have m_9 : (b, o) ∈ RL3 := hs6 _ ym0
  have c_10 : E2 b o = .inr (10, [.null]) := by rw [fE4 b o (by omega)]; exact yc0
  have m_8 : (b, oa) ∈ RL3 := hm1
  have hP : va_P D xcl (rp ad1 E2 RL3) H := hP
  have hD : va_D A (rp ad1 E2 RL3) := hD
  refine px_putF (D := D) (ci := 10) (v := .ref (ad1 b oa)) (ty := .array .int) (C := xR_Re) (T := xT_Re) (N := 1) hx hb hT xi_Re xt_Re xt_Re_ok xn_Re hown hK.1 hP hD hS m_9 c_10 rfl 0 (by decide) (hT _ yr2_4) (fun _ h9 => h9) rfl hin rfl (by decide +kernel) rfl rfl (Nat.le_of_ble_eq_true rfl) xd_Re_init_9 (fun H locs hP hD hS => ?_)
  have hP : va_P D xcl (rp ad1 (up2 E2 b o (.inr (10, [.ref (ad1 b oa)]))) RL3) H := hP
  have hD : va_D A (rp ad1 (up2 E2 b o (.inr (10, [.ref (ad1 b oa)]))) RL3) := hD
  generalize hE12 : up2 E2 b o (.inr (10, [.ref (ad1 b oa)])) = E11 at hP hD
  have fE13 : ∀ b2 o2, ¬ (b2 = b ∧ o2 = o) → E11 b2 o2 = E2 b2 o2 := fun b2 o2 h9 => by rw [← hE12]; exact up2_ne (nr_or h9)
  have c_14 : E11 b o = .inr (10, [.ref (ad1 b oa)]) := by rw [← hE12]; exact up2_eq
  have c_15 : E11 b oa = .inl (kA 0, 6, .inl (fun _ => 0)) := (fE13 b oa (by omega)).trans c_7
  refine W.widen (k := 1) (n := 6) (Nat.le_of_ble_eq_true rfl) (Nat.le_of_ble_eq_true rfl) ?_
  exact W.vret hx hb hr (fun t ht hW => ⟨⟨(ad1, E11, RL3), rfl, ⟨trivial, c_14, c_15, (fun b2 o2 h09 h19 => by show E11 b2 o2 = _; rw [fE13 b2 o2 (by omega), fE4 b2 o2 (by omega)]), (fun b2 o2 h09 => by show ad1 b2 o2 = _; rw [fA5 b2 o2 (by omega)]), (fun x9 hx9 => hs6 _ hx9), m_8⟩, by rw [ht]; exact hP, hD⟩, hS.F ht⟩) hS.2.2 xd_Re_init_12
set_option maxHeartbeats 4000000 in
set_option maxRecDepth 100000 in
theorem xc_Me_init (l : Launch) (D : va_G) (kA : Nat → ClassId) (sz : Nat) (ad : Nat → Nat → Nat) (E : Nat → Nat → va_E) (RL : List (Nat × Nat)) (n : Nat) (k : Nat) (d : Nat) (fd : Int32) (nm : Int32) (sd : Int32) (k1 : Nat) (ym0 : (20 + n, 10 + 10 * k) ∈ RL) (yc0 : E (20 + n) (10 + 10 * k) = .inr (6, [.null, .null, .null, .null, .null, .null])) (ym1 : (1 + d, 0) ∈ RL) (yc1 : E (1 + d) 0 = .inr (7, [.int (nI d), .int fd, .int nm, .ref (ad (1 + d) 1), .ref (ad (1 + d) 9), .ref (ad (1 + d) 10), .ref (ad (1 + d) 2), .ref (ad (1 + d) 11), .ref (ad (1 + d) 12), .ref (ad (1 + d) 3), .ref (ad (1 + d) 4), .int sd])) (ym2 : (1 + d, 2) ∈ RL) (yc2 : E (1 + d) 2 = .inr (8, [.ref (ad (1 + d) 6), .int (nI k1)])) (hd12 : d < 12) (hk1 : k1 ≤ 5) : Met l xy_Me_init (.code xy_Me_init xb_Me_init 3 none :: wT) { frames := 2, cells := 7, slots := 26, locals := 34 } (va_Pc [.ref (ad (20 + n) (10 + 10 * k)), .ref (ad (20 + n) 0), .ref (ad (1 + d) 0)] (xPre D kA sz (rp ad E RL))) (va_Qv (fun (u : (Nat → Nat → Nat) × (Nat → Nat → va_E) × List (Nat × Nat)) => (True) ∧ (u.2.1 (20 + n) (10 + 10 * k) = .inr (6, [.ref (u.1 (20 + n) 0), .ref (u.1 (1 + d) 0), .ref (u.1 (20 + n) (11 + 10 * k)), .ref (u.1 (20 + n) (12 + 10 * k)), .ref (u.1 (20 + n) (13 + 10 * k)), .ref (u.1 (20 + n) (14 + 10 * k))])) ∧ (u.2.1 (20 + n) (11 + 10 * k) = .inl (kA 6, k1, .inr (.inr (.inr (.inr (fun _ => none)))))) ∧ (u.2.1 (20 + n) (12 + 10 * k) = .inr (10, [.ref (u.1 (20 + n) (15 + 10 * k))])) ∧ (u.2.1 (20 + n) (13 + 10 * k) = .inr (10, [.ref (u.1 (20 + n) (16 + 10 * k))])) ∧ (u.2.1 (20 + n) (14 + 10 * k) = .inr (10, [.ref (u.1 (20 + n) (17 + 10 * k))])) ∧ (u.2.1 (20 + n) (15 + 10 * k) = .inl (kA 0, 6, .inl (fun _ => 0))) ∧ (u.2.1 (20 + n) (16 + 10 * k) = .inl (kA 0, 6, .inl (fun _ => 0))) ∧ (u.2.1 (20 + n) (17 + 10 * k) = .inl (kA 0, 6, .inl (fun _ => 0))) ∧ ((∀ b2 o2, ¬ (b2 = 20 + n ∧ o2 = 10 + 10 * k) → ¬ (b2 = 20 + n ∧ o2 = 11 + 10 * k) → ¬ (b2 = 20 + n ∧ o2 = 12 + 10 * k) → ¬ (b2 = 20 + n ∧ o2 = 13 + 10 * k) → ¬ (b2 = 20 + n ∧ o2 = 14 + 10 * k) → ¬ (b2 = 20 + n ∧ o2 = 15 + 10 * k) → ¬ (b2 = 20 + n ∧ o2 = 16 + 10 * k) → ¬ (b2 = 20 + n ∧ o2 = 17 + 10 * k) → u.2.1 b2 o2 = E b2 o2)) ∧ ((∀ b2 o2, ¬ (b2 = 20 + n ∧ o2 = 11 + 10 * k) → ¬ (b2 = 20 + n ∧ o2 = 12 + 10 * k) → ¬ (b2 = 20 + n ∧ o2 = 13 + 10 * k) → ¬ (b2 = 20 + n ∧ o2 = 14 + 10 * k) → ¬ (b2 = 20 + n ∧ o2 = 15 + 10 * k) → ¬ (b2 = 20 + n ∧ o2 = 16 + 10 * k) → ¬ (b2 = 20 + n ∧ o2 = 17 + 10 * k) → u.1 b2 o2 = ad b2 o2)) ∧ ((∀ x ∈ RL, x ∈ u.2.2)) ∧ ((20 + n, 11 + 10 * k) ∈ u.2.2) ∧ ((20 + n, 12 + 10 * k) ∈ u.2.2) ∧ ((20 + n, 13 + 10 * k) ∈ u.2.2) ∧ ((20 + n, 14 + 10 * k) ∈ u.2.2) ∧ ((20 + n, 15 + 10 * k) ∈ u.2.2) ∧ ((20 + n, 16 + 10 * k) ∈ u.2.2) ∧ ((20 + n, 17 + 10 * k) ∈ u.2.2)) (fun (u : (Nat → Nat → Nat) × (Nat → Nat → va_E) × List (Nat × Nat)) t => va_P D xcl (rp u.1 u.2.1 u.2.2) t.heap ∧ va_D (va_A (rp ad E RL) sz) (rp u.1 u.2.1 u.2.2)) (va_A (rp ad E RL) sz)) 7 26 (va_A (rp ad E RL) sz) := by
  refine Met.ofW (cc := xb_Me_init) (maxL := 3) (ret := none) (by decide) rfl ?_
  intro p e s m args below meth c s₁ B hml hv
  obtain ⟨rfl, hsz, hP, hK, hD0⟩ := hv
  have hx := B.exec
  have hb := B.bytes
  have hr := B.returns
  have hT := x_hT B.pre
  have hown : s.vm.findClass xR_Me = some m.cls := findClass_of_methodNamed B.named
  have hlocks := B.notSynchronized
  have hin : meth.name = "<init>" := (name_of_methodNamed B.named B.method).1
  subst hsz
  have hD := hD0.self (sz := s.heap.size)
  generalize hAe : va_A (rp ad E RL) s.heap.size = A at hD ⊢
  have hA : ∀ q : Nat, s.heap.size ≤ q → A q := fun q h => by rw [← hAe]; exact Or.inr h
  have hS : va_S A s.heap s.heap [] := va_S.rf
  have hl := lv_entry ([.ref (ad (20 + n) (10 + 10 * k)), .ref (ad (20 + n) 0), .ref (ad (1 + d) 0)]) (n := 3) (Nat.le_of_ble_eq_true rfl)
  rw [lg_entry_eq]
  generalize (lg_sl ([.ref (ad (20 + n) (10 + 10 * k)), .ref (ad (20 + n) 0), .ref (ad (1 + d) 0)]) ++ List.replicate (3 - (lg_sl ([.ref (ad (20 + n) (10 + 10 * k)), .ref (ad (20 + n) 0), .ref (ad (1 + d) 0)])).length) Slot.unset).toArray = ls at hl ⊢
  have hl : lv_has ls 3 [(0, .ref (ad (20 + n) (10 + 10 * k))), (1, .ref (ad (20 + n) 0)), (2, .ref (ad (1 + d) 0))] := hl
  have hP : va_P D xcl (rp ad E RL) s.heap := hP
  refine lv_aload_n hx hb xd_Me_init_0 rfl (lv_at hl 0 rfl) ?_
  refine W.objInit hx hb hown (hT _ yr2_5) (hT _ yr2_1) (hT _ yr2_2) rfl (by rw [hml]; exact hl.1) rfl xd_Me_init_1 (Nat.le_of_ble_eq_true rfl) (Nat.le_of_ble_eq_true rfl) ?_
  refine W.eq (g2 := F0 m 4 ls []) rfl ?_
  refine lv_aload_n hx hb xd_Me_init_4 rfl (lv_at hl 0 rfl) ?_
  refine px_new (ci := 10) (fs := [.null]) (C := xR_Re) (T := xT_Re) (N := 1) (20 + n) (12 + 10 * k) hx hb hT xi_Re xt_Re xt_Re_ok hown (hT _ yr2_6) (hT _ yr2_7) (hT _ yr2_8) hK.1 hP hD hS hA rfl (by decide +kernel) (Nat.le_of_ble_eq_true rfl) (Nat.le_of_ble_eq_true rfl) xd_Me_init_5 (fun ad1 E2 RL3 H hA1 hE1 hs1 hm1 hP hD hS => ?_)
  have fE4 : ∀ b2 o2, ¬ (b2 = 20 + n ∧ o2 = 12 + 10 * k) → E2 b2 o2 = E b2 o2 := fun b2 o2 h9 => by rw [hE1]; exact up2_ne (nr_or h9)
  have fA5 : ∀ b2 o2, ¬ (b2 = 20 + n ∧ o2 = 12 + 10 * k) → ad1 b2 o2 = ad b2 o2 := fun b2 o2 h9 => by rw [hA1]; exact up2_ne (nr_or h9)
  have hs6 := hs1
  refine W.eq (g2 := F0 m _ ls [.ref (ad1 (20 + n) (12 + 10 * k)), .ref (ad1 (20 + n) (10 + 10 * k))]) (by rw [fA5 (20 + n) (10 + 10 * k) (fun q9 => nr_k q9.2 (by decide))]) ?_
  have c_7 : E2 (20 + n) (12 + 10 * k) = .inr (10, [.null]) := by rw [hE1]; exact up2_eq
  have hl : lv_has ls 3 [(0, .ref (ad1 (20 + n) (10 + 10 * k))), (1, .ref (ad1 (20 + n) 0)), (2, .ref (ad1 (1 + d) 0))] := by
    rw [fA5 (20 + n) (10 + 10 * k) (fun q9 => nr_k q9.2 (by decide)), fA5 (20 + n) 0 (fun q9 => nr_z q9.2 (by decide)), fA5 (1 + d) 0 (fun q9 => nr_z q9.2 (by decide))]; exact hl
  have m_9 : (20 + n, 10 + 10 * k) ∈ RL3 := hs6 _ ym0
  have m_10 : (1 + d, 0) ∈ RL3 := hs6 _ ym1
  have m_11 : (1 + d, 2) ∈ RL3 := hs6 _ ym2
  have c_12 : E2 (20 + n) (10 + 10 * k) = .inr (6, [.null, .null, .null, .null, .null, .null]) := by rw [fE4 (20 + n) (10 + 10 * k) (fun q9 => nr_k q9.2 (by decide))]; exact yc0
  have nb_14 : ¬ (1 + d = 20 + n) := by omega
  have c_13 : E2 (1 + d) 0 = .inr (7, [.int (nI d), .int fd, .int nm, .ref (ad1 (1 + d) 1), .ref (ad1 (1 + d) 9), .ref (ad1 (1 + d) 10), .ref (ad1 (1 + d) 2), .ref (ad1 (1 + d) 11), .ref (ad1 (1 + d) 12), .ref (ad1 (1 + d) 3), .ref (ad1 (1 + d) 4), .int sd]) := by rw [fE4 (1 + d) 0 (fun q9 => nr_z q9.2 (by decide)), fA5 (1 + d) 1 (fun q9 => nr_z q9.2 (by decide)), fA5 (1 + d) 9 (fun q9 => nr_z q9.2 (by decide)), fA5 (1 + d) 10 (fun q9 => nr_z q9.2 (by decide)), fA5 (1 + d) 2 (fun q9 => nr_z q9.2 (by decide)), fA5 (1 + d) 11 (fun q9 => nr_z q9.2 (by decide)), fA5 (1 + d) 12 (fun q9 => nb_14 q9.1), fA5 (1 + d) 3 (fun q9 => nr_z q9.2 (by decide)), fA5 (1 + d) 4 (fun q9 => nr_z q9.2 (by decide))]; exact yc1
  have c_15 : E2 (1 + d) 2 = .inr (8, [.ref (ad1 (1 + d) 6), .int (nI k1)]) := by rw [fE4 (1 + d) 2 (fun q9 => nr_z q9.2 (by decide)), fA5 (1 + d) 6 (fun q9 => nr_z q9.2 (by decide))]; exact yc2
  have m_8 : (20 + n, 12 + 10 * k) ∈ RL3 := hm1
  have hP : va_P D xcl (rp ad1 E2 RL3) H := hP
  have hD : va_D A (rp ad1 E2 RL3) := hD
  refine lv_dup hx hb xd_Me_init_8 rfl ?_
  have hFc := px_free hD hS hA
  refine va_callv (va_runIN (As := []) (rest := [.ref (ad1 (20 + n) (12 + 10 * k)), .ref (ad1 (20 + n) (10 + 10 * k))]) ⟨hx, hb, hml, hown, hT⟩ (xc_Re_init l D kA H.size ad1 E2 RL3 (20 + n) (12 + 10 * k) (15 + 10 * k) m_8 c_7 (by first | assumption | omega)) ⟨va_cnB 0 hT (wT_I yr2_9) rfl rfl rfl hK.2.1.2.2.2.1 (hT _ yr2_8) (by decide +kernel) ⟨Nat.le_of_ble_eq_true rfl, Nat.le_of_ble_eq_true rfl⟩, rfl, hT _ yr2_10⟩ (x_preS hK hP hD) rfl rfl hl.1 rfl (lv_room (Nat.le_of_ble_eq_true rfl)) xd_Me_init_9 ⟨(Nat.le_of_ble_eq_true rfl), (Nat.le_of_ble_eq_true rfl)⟩) hS (fun q _ h => hFc q h) hFc (fun u17 t H1 locs ht hvm hp18 hB hz1 hk1 hS => ?_)
  obtain ⟨hP1, hD1⟩ := hB
  rw [ht] at hP1
  have hD1 := hD1.weaken (fun _ _ _ h => hFc _ h)
  generalize H1 = H at hP1 hS ⊢
  have hP := hP1
  have hD := hD1
  obtain ⟨ad19, E20, RL21⟩ := u17
  obtain ⟨hp28, p_22, p_23, p_24, p_25, p_26, p_27⟩ := hp18
  have p_22 : E20 (20 + n) (12 + 10 * k) = .inr (10, [.ref (ad19 (20 + n) (15 + 10 * k))]) := p_22
  have p_23 : E20 (20 + n) (15 + 10 * k) = .inl (kA 0, 6, .inl (fun _ => 0)) := p_23
  have p_24 : (∀ b2 o2, ¬ (b2 = (20 + n) ∧ o2 = (12 + 10 * k)) → ¬ (b2 = (20 + n) ∧ o2 = (15 + 10 * k)) → E20 b2 o2 = E2 b2 o2) := p_24
  have p_25 : (∀ b2 o2, ¬ (b2 = (20 + n) ∧ o2 = (15 + 10 * k)) → ad19 b2 o2 = ad1 b2 o2) := p_25
  have p_26 : (∀ x ∈ RL3, x ∈ RL21) := p_26
  have p_27 : ((20 + n), (15 + 10 * k)) ∈ RL21 := p_27
  refine W.eq (g2 := F0 m 12 ls [.ref (ad19 (20 + n) (12 + 10 * k)), .ref (ad19 (20 + n) (10 + 10 * k))]) (by rw [p_25 (20 + n) (12 + 10 * k) (fun q9 => nr_k q9.2 (by decide)), p_25 (20 + n) (10 + 10 * k) (fun q9 => nr_k q9.2 (by decide))]) ?_
  have hl : lv_has ls 3 [(0, .ref (ad19 (20 + n) (10 + 10 * k))), (1, .ref (ad19 (20 + n) 0)), (2, .ref (ad19 (1 + d) 0))] := by
    rw [p_25 (20 + n) (10 + 10 * k) (fun q9 => nr_k q9.2 (by decide)), p_25 (20 + n) 0 (fun q9 => nr_z q9.2 (by decide)), p_25 (1 + d) 0 (fun q9 => nr_z q9.2 (by decide))]; exact hl
  have m_29 : (20 + n, 10 + 10 * k) ∈ RL21 := p_26 _ m_9
  have m_30 : (1 + d, 0) ∈ RL21 := p_26 _ m_10
  have m_31 : (1 + d, 2) ∈ RL21 := p_26 _ m_11
  have m_32 : (20 + n, 12 + 10 * k) ∈ RL21 := p_26 _ m_8
  have c_33 : E20 (20 + n) (10 + 10 * k) = .inr (6, [.null, .null, .null, .null, .null, .null]) := by rw [p_24 (20 + n) (10 + 10 * k) (fun q9 => nr_k q9.2 (by decide)) (fun q9 => nr_k q9.2 (by decide))]; exact c_12
  have c_34 : E20 (1 + d) 0 = .inr (7, [.int (nI d), .int fd, .int nm, .ref (ad19 (1 + d) 1), .ref (ad19 (1 + d) 9), .ref (ad19 (1 + d) 10), .ref (ad19 (1 + d) 2), .ref (ad19 (1 + d) 11), .ref (ad19 (1 + d) 12), .ref (ad19 (1 + d) 3), .ref (ad19 (1 + d) 4), .int sd]) := by rw [p_24 (1 + d) 0 (fun q9 => nr_z q9.2 (by decide)) (fun q9 => nr_z q9.2 (by decide)), p_25 (1 + d) 1 (fun q9 => nr_z q9.2 (by decide)), p_25 (1 + d) 9 (fun q9 => nr_z q9.2 (by decide)), p_25 (1 + d) 10 (fun q9 => nr_z q9.2 (by decide)), p_25 (1 + d) 2 (fun q9 => nr_z q9.2 (by decide)), p_25 (1 + d) 11 (fun q9 => nr_z q9.2 (by decide)), p_25 (1 + d) 12 (fun q9 => nr_z q9.2 (by decide)), p_25 (1 + d) 3 (fun q9 => nr_z q9.2 (by decide)), p_25 (1 + d) 4 (fun q9 => nr_z q9.2 (by decide))]; exact c_13
  have c_35 : E20 (1 + d) 2 = .inr (8, [.ref (ad19 (1 + d) 6), .int (nI k1)]) := by rw [p_24 (1 + d) 2 (fun q9 => nr_z q9.2 (by decide)) (fun q9 => nr_z q9.2 (by decide)), p_25 (1 + d) 6 (fun q9 => nr_z q9.2 (by decide))]; exact c_15
  have hP : va_P D xcl (rp ad19 E20 RL21) H := hP
  have hD : va_D A (rp ad19 E20 RL21) := hD
  refine px_putF (D := D) (ci := 6) (v := .ref (ad19 (20 + n) (12 + 10 * k))) (ty := .object "LayerDesk$Reach") (C := xR_Me) (T := xT_Me) (N := 6) hx hb hT xi_Me xt_Me xt_Me_ok xn_Me hown hK.1 hP hD hS m_29 c_33 rfl 3 (by decide) (hT _ yr2_11) (fun _ h9 => h9) rfl hin rfl (by decide +kernel) rfl rfl (Nat.le_of_ble_eq_true rfl) xd_Me_init_12 (fun H locs hP hD hS => ?_)
  have hP : va_P D xcl (rp ad19 (up2 E20 (20 + n) (10 + 10 * k) (.inr (6, [.null, .null, .null, .ref (ad19 (20 + n) (12 + 10 * k)), .null, .null]))) RL21) H := hP
  have hD : va_D A (rp ad19 (up2 E20 (20 + n) (10 + 10 * k) (.inr (6, [.null, .null, .null, .ref (ad19 (20 + n) (12 + 10 * k)), .null, .null]))) RL21) := hD
  generalize hE37 : up2 E20 (20 + n) (10 + 10 * k) (.inr (6, [.null, .null, .null, .ref (ad19 (20 + n) (12 + 10 * k)), .null, .null])) = E36 at hP hD
  have fE38 : ∀ b2 o2, ¬ (b2 = 20 + n ∧ o2 = 10 + 10 * k) → E36 b2 o2 = E20 b2 o2 := fun b2 o2 h9 => by rw [← hE37]; exact up2_ne (nr_or h9)
  have c_39 : E36 (20 + n) (10 + 10 * k) = .inr (6, [.null, .null, .null, .ref (ad19 (20 + n) (12 + 10 * k)), .null, .null]) := by rw [← hE37]; exact up2_eq
  have c_40 : E36 (20 + n) (12 + 10 * k) = .inr (10, [.ref (ad19 (20 + n) (15 + 10 * k))]) := (fE38 (20 + n) (12 + 10 * k) (fun q9 => nr_k q9.2 (by decide))).trans p_22
  have c_41 : E36 (20 + n) (15 + 10 * k) = .inl (kA 0, 6, .inl (fun _ => 0)) := (fE38 (20 + n) (15 + 10 * k) (fun q9 => nr_k q9.2 (by decide))).trans p_23
  have c_42 : E36 (1 + d) 0 = .inr (7, [.int (nI d), .int fd, .int nm, .ref (ad19 (1 + d) 1), .ref (ad19 (1 + d) 9), .ref (ad19 (1 + d) 10), .ref (ad19 (1 + d) 2), .ref (ad19 (1 + d) 11), .ref (ad19 (1 + d) 12), .ref (ad19 (1 + d) 3), .ref (ad19 (1 + d) 4), .int sd]) := (fE38 (1 + d) 0 (fun q9 => nr_z q9.2 (by decide))).trans c_34
  have c_43 : E36 (1 + d) 2 = .inr (8, [.ref (ad19 (1 + d) 6), .int (nI k1)]) := (fE38 (1 + d) 2 (fun q9 => nr_z q9.2 (by decide))).trans c_35
  refine lv_aload_n hx hb xd_Me_init_15 rfl (lv_at hl 0 rfl) ?_
  refine px_new (ci := 10) (fs := [.null]) (C := xR_Re) (T := xT_Re) (N := 1) (20 + n) (13 + 10 * k) hx hb hT xi_Re xt_Re xt_Re_ok hown (hT _ yr2_6) (hT _ yr2_7) (hT _ yr2_8) hK.1 hP hD hS hA rfl (by decide +kernel) (Nat.le_of_ble_eq_true rfl) (Nat.le_of_ble_eq_true rfl) xd_Me_init_16 (fun ad44 E45 RL46 H hA1 hE1 hs1 hm1 hP hD hS => ?_)
  have fE47 : ∀ b2 o2, ¬ (b2 = 20 + n ∧ o2 = 13 + 10 * k) → E45 b2 o2 = E36 b2 o2 := fun b2 o2 h9 => by rw [hE1]; exact up2_ne (nr_or h9)
  have fA48 : ∀ b2 o2, ¬ (b2 = 20 + n ∧ o2 = 13 + 10 * k) → ad44 b2 o2 = ad19 b2 o2 := fun b2 o2 h9 => by rw [hA1]; exact up2_ne (nr_or h9)
  have hs49 := hs1
  refine W.eq (g2 := F0 m _ ls [.ref (ad44 (20 + n) (13 + 10 * k)), .ref (ad44 (20 + n) (10 + 10 * k))]) (by rw [fA48 (20 + n) (10 + 10 * k) (fun q9 => nr_k q9.2 (by decide))]) ?_
  have c_50 : E45 (20 + n) (13 + 10 * k) = .inr (10, [.null]) := by rw [hE1]; exact up2_eq
  have hl : lv_has ls 3 [(0, .ref (ad44 (20 + n) (10 + 10 * k))), (1, .ref (ad44 (20 + n) 0)), (2, .ref (ad44 (1 + d) 0))] := by
    rw [fA48 (20 + n) (10 + 10 * k) (fun q9 => nr_k q9.2 (by decide)), fA48 (20 + n) 0 (fun q9 => nr_z q9.2 (by decide)), fA48 (1 + d) 0 (fun q9 => nr_z q9.2 (by decide))]; exact hl
  have m_52 : (20 + n, 10 + 10 * k) ∈ RL46 := hs49 _ m_29
  have m_53 : (1 + d, 0) ∈ RL46 := hs49 _ m_30
  have m_54 : (1 + d, 2) ∈ RL46 := hs49 _ m_31
  have m_55 : (20 + n, 12 + 10 * k) ∈ RL46 := hs49 _ m_32
  have m_56 : (20 + n, 15 + 10 * k) ∈ RL46 := hs49 _ p_27
  have c_57 : E45 (20 + n) (10 + 10 * k) = .inr (6, [.null, .null, .null, .ref (ad44 (20 + n) (12 + 10 * k)), .null, .null]) := by rw [fE47 (20 + n) (10 + 10 * k) (fun q9 => nr_k q9.2 (by decide)), fA48 (20 + n) (12 + 10 * k) (fun q9 => nr_k q9.2 (by decide))]; exact c_39
  have c_58 : E45 (20 + n) (12 + 10 * k) = .inr (10, [.ref (ad44 (20 + n) (15 + 10 * k))]) := by rw [fE47 (20 + n) (12 + 10 * k) (fun q9 => nr_k q9.2 (by decide)), fA48 (20 + n) (15 + 10 * k) (fun q9 => nr_k q9.2 (by decide))]; exact c_40
  have c_59 : E45 (20 + n) (15 + 10 * k) = .inl (kA 0, 6, .inl (fun _ => 0)) := by rw [fE47 (20 + n) (15 + 10 * k) (fun q9 => nr_k q9.2 (by decide))]; exact c_41
  have c_60 : E45 (1 + d) 0 = .inr (7, [.int (nI d), .int fd, .int nm, .ref (ad44 (1 + d) 1), .ref (ad44 (1 + d) 9), .ref (ad44 (1 + d) 10), .ref (ad44 (1 + d) 2), .ref (ad44 (1 + d) 11), .ref (ad44 (1 + d) 12), .ref (ad44 (1 + d) 3), .ref (ad44 (1 + d) 4), .int sd]) := by rw [fE47 (1 + d) 0 (fun q9 => nr_z q9.2 (by decide)), fA48 (1 + d) 1 (fun q9 => nr_z q9.2 (by decide)), fA48 (1 + d) 9 (fun q9 => nr_z q9.2 (by decide)), fA48 (1 + d) 10 (fun q9 => nr_z q9.2 (by decide)), fA48 (1 + d) 2 (fun q9 => nr_z q9.2 (by decide)), fA48 (1 + d) 11 (fun q9 => nr_z q9.2 (by decide)), fA48 (1 + d) 12 (fun q9 => nr_z q9.2 (by decide)), fA48 (1 + d) 3 (fun q9 => nr_z q9.2 (by decide)), fA48 (1 + d) 4 (fun q9 => nr_z q9.2 (by decide))]; exact c_42
  have c_61 : E45 (1 + d) 2 = .inr (8, [.ref (ad44 (1 + d) 6), .int (nI k1)]) := by rw [fE47 (1 + d) 2 (fun q9 => nr_z q9.2 (by decide)), fA48 (1 + d) 6 (fun q9 => nr_z q9.2 (by decide))]; exact c_43
  have m_51 : (20 + n, 13 + 10 * k) ∈ RL46 := hm1
  have hP : va_P D xcl (rp ad44 E45 RL46) H := hP
  have hD : va_D A (rp ad44 E45 RL46) := hD
  refine lv_dup hx hb xd_Me_init_19 rfl ?_
  have hFc := px_free hD hS hA
  refine va_callv (va_runIN (As := []) (rest := [.ref (ad44 (20 + n) (13 + 10 * k)), .ref (ad44 (20 + n) (10 + 10 * k))]) ⟨hx, hb, hml, hown, hT⟩ (xc_Re_init l D kA H.size ad44 E45 RL46 (20 + n) (13 + 10 * k) (16 + 10 * k) m_51 c_50 (by first | assumption | omega)) ⟨va_cnB 0 hT (wT_I yr2_9) rfl rfl rfl hK.2.1.2.2.2.1 (hT _ yr2_8) (by decide +kernel) ⟨Nat.le_of_ble_eq_true rfl, Nat.le_of_ble_eq_true rfl⟩, rfl, hT _ yr2_10⟩ (x_preS hK hP hD) rfl rfl hl.1 rfl (lv_room (Nat.le_of_ble_eq_true rfl)) xd_Me_init_20 ⟨(Nat.le_of_ble_eq_true rfl), (Nat.le_of_ble_eq_true rfl)⟩) hS (fun q _ h => hFc q h) hFc (fun u63 t H1 locs ht hvm hp64 hB hz1 hk1 hS => ?_)
  obtain ⟨hP1, hD1⟩ := hB
  rw [ht] at hP1
  have hD1 := hD1.weaken (fun _ _ _ h => hFc _ h)
  generalize H1 = H at hP1 hS ⊢
  have hP := hP1
  have hD := hD1
  obtain ⟨ad65, E66, RL67⟩ := u63
  obtain ⟨hp74, p_68, p_69, p_70, p_71, p_72, p_73⟩ := hp64
  have p_68 : E66 (20 + n) (13 + 10 * k) = .inr (10, [.ref (ad65 (20 + n) (16 + 10 * k))]) := p_68
  have p_69 : E66 (20 + n) (16 + 10 * k) = .inl (kA 0, 6, .inl (fun _ => 0)) := p_69
  have p_70 : (∀ b2 o2, ¬ (b2 = (20 + n) ∧ o2 = (13 + 10 * k)) → ¬ (b2 = (20 + n) ∧ o2 = (16 + 10 * k)) → E66 b2 o2 = E45 b2 o2) := p_70
  have p_71 : (∀ b2 o2, ¬ (b2 = (20 + n) ∧ o2 = (16 + 10 * k)) → ad65 b2 o2 = ad44 b2 o2) := p_71
  have p_72 : (∀ x ∈ RL46, x ∈ RL67) := p_72
  have p_73 : ((20 + n), (16 + 10 * k)) ∈ RL67 := p_73
  refine W.eq (g2 := F0 m 23 ls [.ref (ad65 (20 + n) (13 + 10 * k)), .ref (ad65 (20 + n) (10 + 10 * k))]) (by rw [p_71 (20 + n) (13 + 10 * k) (fun q9 => nr_k q9.2 (by decide)), p_71 (20 + n) (10 + 10 * k) (fun q9 => nr_k q9.2 (by decide))]) ?_
  have hl : lv_has ls 3 [(0, .ref (ad65 (20 + n) (10 + 10 * k))), (1, .ref (ad65 (20 + n) 0)), (2, .ref (ad65 (1 + d) 0))] := by
    rw [p_71 (20 + n) (10 + 10 * k) (fun q9 => nr_k q9.2 (by decide)), p_71 (20 + n) 0 (fun q9 => nr_z q9.2 (by decide)), p_71 (1 + d) 0 (fun q9 => nr_z q9.2 (by decide))]; exact hl
  have m_75 : (20 + n, 10 + 10 * k) ∈ RL67 := p_72 _ m_52
  have m_76 : (1 + d, 0) ∈ RL67 := p_72 _ m_53
  have m_77 : (1 + d, 2) ∈ RL67 := p_72 _ m_54
  have m_78 : (20 + n, 12 + 10 * k) ∈ RL67 := p_72 _ m_55
  have m_79 : (20 + n, 15 + 10 * k) ∈ RL67 := p_72 _ m_56
  have m_80 : (20 + n, 13 + 10 * k) ∈ RL67 := p_72 _ m_51
  have c_81 : E66 (20 + n) (10 + 10 * k) = .inr (6, [.null, .null, .null, .ref (ad65 (20 + n) (12 + 10 * k)), .null, .null]) := by rw [p_70 (20 + n) (10 + 10 * k) (fun q9 => nr_k q9.2 (by decide)) (fun q9 => nr_k q9.2 (by decide)), p_71 (20 + n) (12 + 10 * k) (fun q9 => nr_k q9.2 (by decide))]; exact c_57
  have c_82 : E66 (20 + n) (12 + 10 * k) = .inr (10, [.ref (ad65 (20 + n) (15 + 10 * k))]) := by rw [p_70 (20 + n) (12 + 10 * k) (fun q9 => nr_k q9.2 (by decide)) (fun q9 => nr_k q9.2 (by decide)), p_71 (20 + n) (15 + 10 * k) (fun q9 => nr_k q9.2 (by decide))]; exact c_58
  have c_83 : E66 (20 + n) (15 + 10 * k) = .inl (kA 0, 6, .inl (fun _ => 0)) := by rw [p_70 (20 + n) (15 + 10 * k) (fun q9 => nr_k q9.2 (by decide)) (fun q9 => nr_k q9.2 (by decide))]; exact c_59
  have c_84 : E66 (1 + d) 0 = .inr (7, [.int (nI d), .int fd, .int nm, .ref (ad65 (1 + d) 1), .ref (ad65 (1 + d) 9), .ref (ad65 (1 + d) 10), .ref (ad65 (1 + d) 2), .ref (ad65 (1 + d) 11), .ref (ad65 (1 + d) 12), .ref (ad65 (1 + d) 3), .ref (ad65 (1 + d) 4), .int sd]) := by rw [p_70 (1 + d) 0 (fun q9 => nr_z q9.2 (by decide)) (fun q9 => nr_z q9.2 (by decide)), p_71 (1 + d) 1 (fun q9 => nr_z q9.2 (by decide)), p_71 (1 + d) 9 (fun q9 => nr_z q9.2 (by decide)), p_71 (1 + d) 10 (fun q9 => nr_z q9.2 (by decide)), p_71 (1 + d) 2 (fun q9 => nr_z q9.2 (by decide)), p_71 (1 + d) 11 (fun q9 => nr_z q9.2 (by decide)), p_71 (1 + d) 12 (fun q9 => nr_z q9.2 (by decide)), p_71 (1 + d) 3 (fun q9 => nr_z q9.2 (by decide)), p_71 (1 + d) 4 (fun q9 => nr_z q9.2 (by decide))]; exact c_60
  have c_85 : E66 (1 + d) 2 = .inr (8, [.ref (ad65 (1 + d) 6), .int (nI k1)]) := by rw [p_70 (1 + d) 2 (fun q9 => nr_z q9.2 (by decide)) (fun q9 => nr_z q9.2 (by decide)), p_71 (1 + d) 6 (fun q9 => nr_z q9.2 (by decide))]; exact c_61
  have hP : va_P D xcl (rp ad65 E66 RL67) H := hP
  have hD : va_D A (rp ad65 E66 RL67) := hD
  refine px_putF (D := D) (ci := 6) (v := .ref (ad65 (20 + n) (13 + 10 * k))) (ty := .object "LayerDesk$Reach") (C := xR_Me) (T := xT_Me) (N := 6) hx hb hT xi_Me xt_Me xt_Me_ok xn_Me hown hK.1 hP hD hS m_75 c_81 rfl 4 (by decide) (hT _ yr2_12) (fun _ h9 => h9) rfl hin rfl (by decide +kernel) rfl rfl (Nat.le_of_ble_eq_true rfl) xd_Me_init_23 (fun H locs hP hD hS => ?_)
  have hP : va_P D xcl (rp ad65 (up2 E66 (20 + n) (10 + 10 * k) (.inr (6, [.null, .null, .null, .ref (ad65 (20 + n) (12 + 10 * k)), .ref (ad65 (20 + n) (13 + 10 * k)), .null]))) RL67) H := hP
  have hD : va_D A (rp ad65 (up2 E66 (20 + n) (10 + 10 * k) (.inr (6, [.null, .null, .null, .ref (ad65 (20 + n) (12 + 10 * k)), .ref (ad65 (20 + n) (13 + 10 * k)), .null]))) RL67) := hD
  generalize hE87 : up2 E66 (20 + n) (10 + 10 * k) (.inr (6, [.null, .null, .null, .ref (ad65 (20 + n) (12 + 10 * k)), .ref (ad65 (20 + n) (13 + 10 * k)), .null])) = E86 at hP hD
  have fE88 : ∀ b2 o2, ¬ (b2 = 20 + n ∧ o2 = 10 + 10 * k) → E86 b2 o2 = E66 b2 o2 := fun b2 o2 h9 => by rw [← hE87]; exact up2_ne (nr_or h9)
  have c_89 : E86 (20 + n) (10 + 10 * k) = .inr (6, [.null, .null, .null, .ref (ad65 (20 + n) (12 + 10 * k)), .ref (ad65 (20 + n) (13 + 10 * k)), .null]) := by rw [← hE87]; exact up2_eq
  have c_90 : E86 (20 + n) (13 + 10 * k) = .inr (10, [.ref (ad65 (20 + n) (16 + 10 * k))]) := (fE88 (20 + n) (13 + 10 * k) (fun q9 => nr_k q9.2 (by decide))).trans p_68
  have c_91 : E86 (20 + n) (16 + 10 * k) = .inl (kA 0, 6, .inl (fun _ => 0)) := (fE88 (20 + n) (16 + 10 * k) (fun q9 => nr_k q9.2 (by decide))).trans p_69
  have c_92 : E86 (20 + n) (12 + 10 * k) = .inr (10, [.ref (ad65 (20 + n) (15 + 10 * k))]) := (fE88 (20 + n) (12 + 10 * k) (fun q9 => nr_k q9.2 (by decide))).trans c_82
  have c_93 : E86 (20 + n) (15 + 10 * k) = .inl (kA 0, 6, .inl (fun _ => 0)) := (fE88 (20 + n) (15 + 10 * k) (fun q9 => nr_k q9.2 (by decide))).trans c_83
  have c_94 : E86 (1 + d) 0 = .inr (7, [.int (nI d), .int fd, .int nm, .ref (ad65 (1 + d) 1), .ref (ad65 (1 + d) 9), .ref (ad65 (1 + d) 10), .ref (ad65 (1 + d) 2), .ref (ad65 (1 + d) 11), .ref (ad65 (1 + d) 12), .ref (ad65 (1 + d) 3), .ref (ad65 (1 + d) 4), .int sd]) := (fE88 (1 + d) 0 (fun q9 => nr_z q9.2 (by decide))).trans c_84
  have c_95 : E86 (1 + d) 2 = .inr (8, [.ref (ad65 (1 + d) 6), .int (nI k1)]) := (fE88 (1 + d) 2 (fun q9 => nr_z q9.2 (by decide))).trans c_85
  refine lv_aload_n hx hb xd_Me_init_26 rfl (lv_at hl 0 rfl) ?_
  refine px_new (ci := 10) (fs := [.null]) (C := xR_Re) (T := xT_Re) (N := 1) (20 + n) (14 + 10 * k) hx hb hT xi_Re xt_Re xt_Re_ok hown (hT _ yr2_6) (hT _ yr2_7) (hT _ yr2_8) hK.1 hP hD hS hA rfl (by decide +kernel) (Nat.le_of_ble_eq_true rfl) (Nat.le_of_ble_eq_true rfl) xd_Me_init_27 (fun ad96 E97 RL98 H hA1 hE1 hs1 hm1 hP hD hS => ?_)
  have fE99 : ∀ b2 o2, ¬ (b2 = 20 + n ∧ o2 = 14 + 10 * k) → E97 b2 o2 = E86 b2 o2 := fun b2 o2 h9 => by rw [hE1]; exact up2_ne (nr_or h9)
  have fA100 : ∀ b2 o2, ¬ (b2 = 20 + n ∧ o2 = 14 + 10 * k) → ad96 b2 o2 = ad65 b2 o2 := fun b2 o2 h9 => by rw [hA1]; exact up2_ne (nr_or h9)
  have hs101 := hs1
  refine W.eq (g2 := F0 m _ ls [.ref (ad96 (20 + n) (14 + 10 * k)), .ref (ad96 (20 + n) (10 + 10 * k))]) (by rw [fA100 (20 + n) (10 + 10 * k) (fun q9 => nr_k q9.2 (by decide))]) ?_
  have c_102 : E97 (20 + n) (14 + 10 * k) = .inr (10, [.null]) := by rw [hE1]; exact up2_eq
  have hl : lv_has ls 3 [(0, .ref (ad96 (20 + n) (10 + 10 * k))), (1, .ref (ad96 (20 + n) 0)), (2, .ref (ad96 (1 + d) 0))] := by
    rw [fA100 (20 + n) (10 + 10 * k) (fun q9 => nr_k q9.2 (by decide)), fA100 (20 + n) 0 (fun q9 => nr_z q9.2 (by decide)), fA100 (1 + d) 0 (fun q9 => nr_z q9.2 (by decide))]; exact hl
  have m_104 : (20 + n, 10 + 10 * k) ∈ RL98 := hs101 _ m_75
  have m_105 : (1 + d, 0) ∈ RL98 := hs101 _ m_76
  have m_106 : (1 + d, 2) ∈ RL98 := hs101 _ m_77
  have m_107 : (20 + n, 12 + 10 * k) ∈ RL98 := hs101 _ m_78
  have m_108 : (20 + n, 15 + 10 * k) ∈ RL98 := hs101 _ m_79
  have m_109 : (20 + n, 13 + 10 * k) ∈ RL98 := hs101 _ m_80
  have m_110 : (20 + n, 16 + 10 * k) ∈ RL98 := hs101 _ p_73
  have c_111 : E97 (20 + n) (10 + 10 * k) = .inr (6, [.null, .null, .null, .ref (ad96 (20 + n) (12 + 10 * k)), .ref (ad96 (20 + n) (13 + 10 * k)), .null]) := by rw [fE99 (20 + n) (10 + 10 * k) (fun q9 => nr_k q9.2 (by decide)), fA100 (20 + n) (12 + 10 * k) (fun q9 => nr_k q9.2 (by decide)), fA100 (20 + n) (13 + 10 * k) (fun q9 => nr_k q9.2 (by decide))]; exact c_89
  have c_112 : E97 (20 + n) (13 + 10 * k) = .inr (10, [.ref (ad96 (20 + n) (16 + 10 * k))]) := by rw [fE99 (20 + n) (13 + 10 * k) (fun q9 => nr_k q9.2 (by decide)), fA100 (20 + n) (16 + 10 * k) (fun q9 => nr_k q9.2 (by decide))]; exact c_90
  have c_113 : E97 (20 + n) (16 + 10 * k) = .inl (kA 0, 6, .inl (fun _ => 0)) := by rw [fE99 (20 + n) (16 + 10 * k) (fun q9 => nr_k q9.2 (by decide))]; exact c_91
  have c_114 : E97 (20 + n) (12 + 10 * k) = .inr (10, [.ref (ad96 (20 + n) (15 + 10 * k))]) := by rw [fE99 (20 + n) (12 + 10 * k) (fun q9 => nr_k q9.2 (by decide)), fA100 (20 + n) (15 + 10 * k) (fun q9 => nr_k q9.2 (by decide))]; exact c_92
  have c_115 : E97 (20 + n) (15 + 10 * k) = .inl (kA 0, 6, .inl (fun _ => 0)) := by rw [fE99 (20 + n) (15 + 10 * k) (fun q9 => nr_k q9.2 (by decide))]; exact c_93
  have c_116 : E97 (1 + d) 0 = .inr (7, [.int (nI d), .int fd, .int nm, .ref (ad96 (1 + d) 1), .ref (ad96 (1 + d) 9), .ref (ad96 (1 + d) 10), .ref (ad96 (1 + d) 2), .ref (ad96 (1 + d) 11), .ref (ad96 (1 + d) 12), .ref (ad96 (1 + d) 3), .ref (ad96 (1 + d) 4), .int sd]) := by rw [fE99 (1 + d) 0 (fun q9 => nr_z q9.2 (by decide)), fA100 (1 + d) 1 (fun q9 => nr_z q9.2 (by decide)), fA100 (1 + d) 9 (fun q9 => nr_z q9.2 (by decide)), fA100 (1 + d) 10 (fun q9 => nr_z q9.2 (by decide)), fA100 (1 + d) 2 (fun q9 => nr_z q9.2 (by decide)), fA100 (1 + d) 11 (fun q9 => nr_z q9.2 (by decide)), fA100 (1 + d) 12 (fun q9 => nr_z q9.2 (by decide)), fA100 (1 + d) 3 (fun q9 => nr_z q9.2 (by decide)), fA100 (1 + d) 4 (fun q9 => nr_z q9.2 (by decide))]; exact c_94
  have c_117 : E97 (1 + d) 2 = .inr (8, [.ref (ad96 (1 + d) 6), .int (nI k1)]) := by rw [fE99 (1 + d) 2 (fun q9 => nr_z q9.2 (by decide)), fA100 (1 + d) 6 (fun q9 => nr_z q9.2 (by decide))]; exact c_95
  have m_103 : (20 + n, 14 + 10 * k) ∈ RL98 := hm1
  have hP : va_P D xcl (rp ad96 E97 RL98) H := hP
  have hD : va_D A (rp ad96 E97 RL98) := hD
  refine lv_dup hx hb xd_Me_init_30 rfl ?_
  have hFc := px_free hD hS hA
  refine va_callv (va_runIN (As := []) (rest := [.ref (ad96 (20 + n) (14 + 10 * k)), .ref (ad96 (20 + n) (10 + 10 * k))]) ⟨hx, hb, hml, hown, hT⟩ (xc_Re_init l D kA H.size ad96 E97 RL98 (20 + n) (14 + 10 * k) (17 + 10 * k) m_103 c_102 (by first | assumption | omega)) ⟨va_cnB 0 hT (wT_I yr2_9) rfl rfl rfl hK.2.1.2.2.2.1 (hT _ yr2_8) (by decide +kernel) ⟨Nat.le_of_ble_eq_true rfl, Nat.le_of_ble_eq_true rfl⟩, rfl, hT _ yr2_10⟩ (x_preS hK hP hD) rfl rfl hl.1 rfl (lv_room (Nat.le_of_ble_eq_true rfl)) xd_Me_init_31 ⟨(Nat.le_of_ble_eq_true rfl), (Nat.le_of_ble_eq_true rfl)⟩) hS (fun q _ h => hFc q h) hFc (fun u119 t H1 locs ht hvm hp120 hB hz1 hk1 hS => ?_)
  obtain ⟨hP1, hD1⟩ := hB
  rw [ht] at hP1
  have hD1 := hD1.weaken (fun _ _ _ h => hFc _ h)
  generalize H1 = H at hP1 hS ⊢
  have hP := hP1
  have hD := hD1
  obtain ⟨ad121, E122, RL123⟩ := u119
  obtain ⟨hp130, p_124, p_125, p_126, p_127, p_128, p_129⟩ := hp120
  have p_124 : E122 (20 + n) (14 + 10 * k) = .inr (10, [.ref (ad121 (20 + n) (17 + 10 * k))]) := p_124
  have p_125 : E122 (20 + n) (17 + 10 * k) = .inl (kA 0, 6, .inl (fun _ => 0)) := p_125
  have p_126 : (∀ b2 o2, ¬ (b2 = (20 + n) ∧ o2 = (14 + 10 * k)) → ¬ (b2 = (20 + n) ∧ o2 = (17 + 10 * k)) → E122 b2 o2 = E97 b2 o2) := p_126
  have p_127 : (∀ b2 o2, ¬ (b2 = (20 + n) ∧ o2 = (17 + 10 * k)) → ad121 b2 o2 = ad96 b2 o2) := p_127
  have p_128 : (∀ x ∈ RL98, x ∈ RL123) := p_128
  have p_129 : ((20 + n), (17 + 10 * k)) ∈ RL123 := p_129
  refine W.eq (g2 := F0 m 34 ls [.ref (ad121 (20 + n) (14 + 10 * k)), .ref (ad121 (20 + n) (10 + 10 * k))]) (by rw [p_127 (20 + n) (14 + 10 * k) (fun q9 => nr_k q9.2 (by decide)), p_127 (20 + n) (10 + 10 * k) (fun q9 => nr_k q9.2 (by decide))]) ?_
  have hl : lv_has ls 3 [(0, .ref (ad121 (20 + n) (10 + 10 * k))), (1, .ref (ad121 (20 + n) 0)), (2, .ref (ad121 (1 + d) 0))] := by
    rw [p_127 (20 + n) (10 + 10 * k) (fun q9 => nr_k q9.2 (by decide)), p_127 (20 + n) 0 (fun q9 => nr_z q9.2 (by decide)), p_127 (1 + d) 0 (fun q9 => nr_z q9.2 (by decide))]; exact hl
  have m_131 : (20 + n, 10 + 10 * k) ∈ RL123 := p_128 _ m_104
  have m_132 : (1 + d, 0) ∈ RL123 := p_128 _ m_105
  have m_133 : (1 + d, 2) ∈ RL123 := p_128 _ m_106
  have m_134 : (20 + n, 12 + 10 * k) ∈ RL123 := p_128 _ m_107
  have m_135 : (20 + n, 15 + 10 * k) ∈ RL123 := p_128 _ m_108
  have m_136 : (20 + n, 13 + 10 * k) ∈ RL123 := p_128 _ m_109
  have m_137 : (20 + n, 16 + 10 * k) ∈ RL123 := p_128 _ m_110
  have m_138 : (20 + n, 14 + 10 * k) ∈ RL123 := p_128 _ m_103
  have c_139 : E122 (20 + n) (10 + 10 * k) = .inr (6, [.null, .null, .null, .ref (ad121 (20 + n) (12 + 10 * k)), .ref (ad121 (20 + n) (13 + 10 * k)), .null]) := by rw [p_126 (20 + n) (10 + 10 * k) (fun q9 => nr_k q9.2 (by decide)) (fun q9 => nr_k q9.2 (by decide)), p_127 (20 + n) (12 + 10 * k) (fun q9 => nr_k q9.2 (by decide)), p_127 (20 + n) (13 + 10 * k) (fun q9 => nr_k q9.2 (by decide))]; exact c_111
  have c_140 : E122 (20 + n) (13 + 10 * k) = .inr (10, [.ref (ad121 (20 + n) (16 + 10 * k))]) := by rw [p_126 (20 + n) (13 + 10 * k) (fun q9 => nr_k q9.2 (by decide)) (fun q9 => nr_k q9.2 (by decide)), p_127 (20 + n) (16 + 10 * k) (fun q9 => nr_k q9.2 (by decide))]; exact c_112
  have c_141 : E122 (20 + n) (16 + 10 * k) = .inl (kA 0, 6, .inl (fun _ => 0)) := by rw [p_126 (20 + n) (16 + 10 * k) (fun q9 => nr_k q9.2 (by decide)) (fun q9 => nr_k q9.2 (by decide))]; exact c_113
  have c_142 : E122 (20 + n) (12 + 10 * k) = .inr (10, [.ref (ad121 (20 + n) (15 + 10 * k))]) := by rw [p_126 (20 + n) (12 + 10 * k) (fun q9 => nr_k q9.2 (by decide)) (fun q9 => nr_k q9.2 (by decide)), p_127 (20 + n) (15 + 10 * k) (fun q9 => nr_k q9.2 (by decide))]; exact c_114
  have c_143 : E122 (20 + n) (15 + 10 * k) = .inl (kA 0, 6, .inl (fun _ => 0)) := by rw [p_126 (20 + n) (15 + 10 * k) (fun q9 => nr_k q9.2 (by decide)) (fun q9 => nr_k q9.2 (by decide))]; exact c_115
  have c_144 : E122 (1 + d) 0 = .inr (7, [.int (nI d), .int fd, .int nm, .ref (ad121 (1 + d) 1), .ref (ad121 (1 + d) 9), .ref (ad121 (1 + d) 10), .ref (ad121 (1 + d) 2), .ref (ad121 (1 + d) 11), .ref (ad121 (1 + d) 12), .ref (ad121 (1 + d) 3), .ref (ad121 (1 + d) 4), .int sd]) := by rw [p_126 (1 + d) 0 (fun q9 => nr_z q9.2 (by decide)) (fun q9 => nr_z q9.2 (by decide)), p_127 (1 + d) 1 (fun q9 => nr_z q9.2 (by decide)), p_127 (1 + d) 9 (fun q9 => nr_z q9.2 (by decide)), p_127 (1 + d) 10 (fun q9 => nr_z q9.2 (by decide)), p_127 (1 + d) 2 (fun q9 => nr_z q9.2 (by decide)), p_127 (1 + d) 11 (fun q9 => nr_z q9.2 (by decide)), p_127 (1 + d) 12 (fun q9 => nr_z q9.2 (by decide)), p_127 (1 + d) 3 (fun q9 => nr_z q9.2 (by decide)), p_127 (1 + d) 4 (fun q9 => nr_z q9.2 (by decide))]; exact c_116
  have c_145 : E122 (1 + d) 2 = .inr (8, [.ref (ad121 (1 + d) 6), .int (nI k1)]) := by rw [p_126 (1 + d) 2 (fun q9 => nr_z q9.2 (by decide)) (fun q9 => nr_z q9.2 (by decide)), p_127 (1 + d) 6 (fun q9 => nr_z q9.2 (by decide))]; exact c_117
  have hP : va_P D xcl (rp ad121 E122 RL123) H := hP
  have hD : va_D A (rp ad121 E122 RL123) := hD
  refine px_putF (D := D) (ci := 6) (v := .ref (ad121 (20 + n) (14 + 10 * k))) (ty := .object "LayerDesk$Reach") (C := xR_Me) (T := xT_Me) (N := 6) hx hb hT xi_Me xt_Me xt_Me_ok xn_Me hown hK.1 hP hD hS m_131 c_139 rfl 5 (by decide) (hT _ yr2_13) (fun _ h9 => h9) rfl hin rfl (by decide +kernel) rfl rfl (Nat.le_of_ble_eq_true rfl) xd_Me_init_34 (fun H locs hP hD hS => ?_)
  have hP : va_P D xcl (rp ad121 (up2 E122 (20 + n) (10 + 10 * k) (.inr (6, [.null, .null, .null, .ref (ad121 (20 + n) (12 + 10 * k)), .ref (ad121 (20 + n) (13 + 10 * k)), .ref (ad121 (20 + n) (14 + 10 * k))]))) RL123) H := hP
  have hD : va_D A (rp ad121 (up2 E122 (20 + n) (10 + 10 * k) (.inr (6, [.null, .null, .null, .ref (ad121 (20 + n) (12 + 10 * k)), .ref (ad121 (20 + n) (13 + 10 * k)), .ref (ad121 (20 + n) (14 + 10 * k))]))) RL123) := hD
  generalize hE147 : up2 E122 (20 + n) (10 + 10 * k) (.inr (6, [.null, .null, .null, .ref (ad121 (20 + n) (12 + 10 * k)), .ref (ad121 (20 + n) (13 + 10 * k)), .ref (ad121 (20 + n) (14 + 10 * k))])) = E146 at hP hD
  have fE148 : ∀ b2 o2, ¬ (b2 = 20 + n ∧ o2 = 10 + 10 * k) → E146 b2 o2 = E122 b2 o2 := fun b2 o2 h9 => by rw [← hE147]; exact up2_ne (nr_or h9)
  have c_149 : E146 (20 + n) (10 + 10 * k) = .inr (6, [.null, .null, .null, .ref (ad121 (20 + n) (12 + 10 * k)), .ref (ad121 (20 + n) (13 + 10 * k)), .ref (ad121 (20 + n) (14 + 10 * k))]) := by rw [← hE147]; exact up2_eq
  have c_150 : E146 (20 + n) (14 + 10 * k) = .inr (10, [.ref (ad121 (20 + n) (17 + 10 * k))]) := (fE148 (20 + n) (14 + 10 * k) (fun q9 => nr_k q9.2 (by decide))).trans p_124
  have c_151 : E146 (20 + n) (17 + 10 * k) = .inl (kA 0, 6, .inl (fun _ => 0)) := (fE148 (20 + n) (17 + 10 * k) (fun q9 => nr_k q9.2 (by decide))).trans p_125
  have c_152 : E146 (20 + n) (13 + 10 * k) = .inr (10, [.ref (ad121 (20 + n) (16 + 10 * k))]) := (fE148 (20 + n) (13 + 10 * k) (fun q9 => nr_k q9.2 (by decide))).trans c_140
  have c_153 : E146 (20 + n) (16 + 10 * k) = .inl (kA 0, 6, .inl (fun _ => 0)) := (fE148 (20 + n) (16 + 10 * k) (fun q9 => nr_k q9.2 (by decide))).trans c_141
  have c_154 : E146 (20 + n) (12 + 10 * k) = .inr (10, [.ref (ad121 (20 + n) (15 + 10 * k))]) := (fE148 (20 + n) (12 + 10 * k) (fun q9 => nr_k q9.2 (by decide))).trans c_142
  have c_155 : E146 (20 + n) (15 + 10 * k) = .inl (kA 0, 6, .inl (fun _ => 0)) := (fE148 (20 + n) (15 + 10 * k) (fun q9 => nr_k q9.2 (by decide))).trans c_143
  have c_156 : E146 (1 + d) 0 = .inr (7, [.int (nI d), .int fd, .int nm, .ref (ad121 (1 + d) 1), .ref (ad121 (1 + d) 9), .ref (ad121 (1 + d) 10), .ref (ad121 (1 + d) 2), .ref (ad121 (1 + d) 11), .ref (ad121 (1 + d) 12), .ref (ad121 (1 + d) 3), .ref (ad121 (1 + d) 4), .int sd]) := (fE148 (1 + d) 0 (fun q9 => nr_z q9.2 (by decide))).trans c_144
  have c_157 : E146 (1 + d) 2 = .inr (8, [.ref (ad121 (1 + d) 6), .int (nI k1)]) := (fE148 (1 + d) 2 (fun q9 => nr_z q9.2 (by decide))).trans c_145
  refine lv_aload_n hx hb xd_Me_init_37 rfl (lv_at hl 0 rfl) ?_
  refine lv_aload_n hx hb xd_Me_init_38 rfl (lv_at hl 1 rfl) ?_
  refine px_putF (D := D) (ci := 6) (v := .ref (ad121 (20 + n) 0)) (ty := .object "LayerDesk$Layer") (C := xR_Me) (T := xT_Me) (N := 6) hx hb hT xi_Me xt_Me xt_Me_ok xn_Me hown hK.1 hP hD hS m_131 c_149 rfl 0 (by decide) (hT _ yr2_14) (fun _ h9 => h9) rfl hin rfl (by decide +kernel) rfl rfl (Nat.le_of_ble_eq_true rfl) xd_Me_init_39 (fun H locs hP hD hS => ?_)
  have hP : va_P D xcl (rp ad121 (up2 E146 (20 + n) (10 + 10 * k) (.inr (6, [.ref (ad121 (20 + n) 0), .null, .null, .ref (ad121 (20 + n) (12 + 10 * k)), .ref (ad121 (20 + n) (13 + 10 * k)), .ref (ad121 (20 + n) (14 + 10 * k))]))) RL123) H := hP
  have hD : va_D A (rp ad121 (up2 E146 (20 + n) (10 + 10 * k) (.inr (6, [.ref (ad121 (20 + n) 0), .null, .null, .ref (ad121 (20 + n) (12 + 10 * k)), .ref (ad121 (20 + n) (13 + 10 * k)), .ref (ad121 (20 + n) (14 + 10 * k))]))) RL123) := hD
  generalize hE159 : up2 E146 (20 + n) (10 + 10 * k) (.inr (6, [.ref (ad121 (20 + n) 0), .null, .null, .ref (ad121 (20 + n) (12 + 10 * k)), .ref (ad121 (20 + n) (13 + 10 * k)), .ref (ad121 (20 + n) (14 + 10 * k))])) = E158 at hP hD
  have fE160 : ∀ b2 o2, ¬ (b2 = 20 + n ∧ o2 = 10 + 10 * k) → E158 b2 o2 = E146 b2 o2 := fun b2 o2 h9 => by rw [← hE159]; exact up2_ne (nr_or h9)
  have c_161 : E158 (20 + n) (10 + 10 * k) = .inr (6, [.ref (ad121 (20 + n) 0), .null, .null, .ref (ad121 (20 + n) (12 + 10 * k)), .ref (ad121 (20 + n) (13 + 10 * k)), .ref (ad121 (20 + n) (14 + 10 * k))]) := by rw [← hE159]; exact up2_eq
  have c_162 : E158 (20 + n) (14 + 10 * k) = .inr (10, [.ref (ad121 (20 + n) (17 + 10 * k))]) := (fE160 (20 + n) (14 + 10 * k) (fun q9 => nr_k q9.2 (by decide))).trans c_150
  have c_163 : E158 (20 + n) (17 + 10 * k) = .inl (kA 0, 6, .inl (fun _ => 0)) := (fE160 (20 + n) (17 + 10 * k) (fun q9 => nr_k q9.2 (by decide))).trans c_151
  have c_164 : E158 (20 + n) (13 + 10 * k) = .inr (10, [.ref (ad121 (20 + n) (16 + 10 * k))]) := (fE160 (20 + n) (13 + 10 * k) (fun q9 => nr_k q9.2 (by decide))).trans c_152
  have c_165 : E158 (20 + n) (16 + 10 * k) = .inl (kA 0, 6, .inl (fun _ => 0)) := (fE160 (20 + n) (16 + 10 * k) (fun q9 => nr_k q9.2 (by decide))).trans c_153
  have c_166 : E158 (20 + n) (12 + 10 * k) = .inr (10, [.ref (ad121 (20 + n) (15 + 10 * k))]) := (fE160 (20 + n) (12 + 10 * k) (fun q9 => nr_k q9.2 (by decide))).trans c_154
  have c_167 : E158 (20 + n) (15 + 10 * k) = .inl (kA 0, 6, .inl (fun _ => 0)) := (fE160 (20 + n) (15 + 10 * k) (fun q9 => nr_k q9.2 (by decide))).trans c_155
  have c_168 : E158 (1 + d) 0 = .inr (7, [.int (nI d), .int fd, .int nm, .ref (ad121 (1 + d) 1), .ref (ad121 (1 + d) 9), .ref (ad121 (1 + d) 10), .ref (ad121 (1 + d) 2), .ref (ad121 (1 + d) 11), .ref (ad121 (1 + d) 12), .ref (ad121 (1 + d) 3), .ref (ad121 (1 + d) 4), .int sd]) := (fE160 (1 + d) 0 (fun q9 => nr_z q9.2 (by decide))).trans c_156
  have c_169 : E158 (1 + d) 2 = .inr (8, [.ref (ad121 (1 + d) 6), .int (nI k1)]) := (fE160 (1 + d) 2 (fun q9 => nr_z q9.2 (by decide))).trans c_157
  refine lv_aload_n hx hb xd_Me_init_42 rfl (lv_at hl 0 rfl) ?_
  refine lv_aload_n hx hb xd_Me_init_43 rfl (lv_at hl 2 rfl) ?_
  refine px_putF (D := D) (ci := 6) (v := .ref (ad121 (1 + d) 0)) (ty := .object "LayerDesk$Descriptor") (C := xR_Me) (T := xT_Me) (N := 6) hx hb hT xi_Me xt_Me xt_Me_ok xn_Me hown hK.1 hP hD hS m_131 c_161 rfl 1 (by decide) (hT _ yr2_15) (fun _ h9 => h9) rfl hin rfl (by decide +kernel) rfl rfl (Nat.le_of_ble_eq_true rfl) xd_Me_init_44 (fun H locs hP hD hS => ?_)
  have hP : va_P D xcl (rp ad121 (up2 E158 (20 + n) (10 + 10 * k) (.inr (6, [.ref (ad121 (20 + n) 0), .ref (ad121 (1 + d) 0), .null, .ref (ad121 (20 + n) (12 + 10 * k)), .ref (ad121 (20 + n) (13 + 10 * k)), .ref (ad121 (20 + n) (14 + 10 * k))]))) RL123) H := hP
  have hD : va_D A (rp ad121 (up2 E158 (20 + n) (10 + 10 * k) (.inr (6, [.ref (ad121 (20 + n) 0), .ref (ad121 (1 + d) 0), .null, .ref (ad121 (20 + n) (12 + 10 * k)), .ref (ad121 (20 + n) (13 + 10 * k)), .ref (ad121 (20 + n) (14 + 10 * k))]))) RL123) := hD
  generalize hE171 : up2 E158 (20 + n) (10 + 10 * k) (.inr (6, [.ref (ad121 (20 + n) 0), .ref (ad121 (1 + d) 0), .null, .ref (ad121 (20 + n) (12 + 10 * k)), .ref (ad121 (20 + n) (13 + 10 * k)), .ref (ad121 (20 + n) (14 + 10 * k))])) = E170 at hP hD
  have fE172 : ∀ b2 o2, ¬ (b2 = 20 + n ∧ o2 = 10 + 10 * k) → E170 b2 o2 = E158 b2 o2 := fun b2 o2 h9 => by rw [← hE171]; exact up2_ne (nr_or h9)
  have c_173 : E170 (20 + n) (10 + 10 * k) = .inr (6, [.ref (ad121 (20 + n) 0), .ref (ad121 (1 + d) 0), .null, .ref (ad121 (20 + n) (12 + 10 * k)), .ref (ad121 (20 + n) (13 + 10 * k)), .ref (ad121 (20 + n) (14 + 10 * k))]) := by rw [← hE171]; exact up2_eq
  have c_174 : E170 (20 + n) (14 + 10 * k) = .inr (10, [.ref (ad121 (20 + n) (17 + 10 * k))]) := (fE172 (20 + n) (14 + 10 * k) (fun q9 => nr_k q9.2 (by decide))).trans c_162
  have c_175 : E170 (20 + n) (17 + 10 * k) = .inl (kA 0, 6, .inl (fun _ => 0)) := (fE172 (20 + n) (17 + 10 * k) (fun q9 => nr_k q9.2 (by decide))).trans c_163
  have c_176 : E170 (20 + n) (13 + 10 * k) = .inr (10, [.ref (ad121 (20 + n) (16 + 10 * k))]) := (fE172 (20 + n) (13 + 10 * k) (fun q9 => nr_k q9.2 (by decide))).trans c_164
  have c_177 : E170 (20 + n) (16 + 10 * k) = .inl (kA 0, 6, .inl (fun _ => 0)) := (fE172 (20 + n) (16 + 10 * k) (fun q9 => nr_k q9.2 (by decide))).trans c_165
  have c_178 : E170 (20 + n) (12 + 10 * k) = .inr (10, [.ref (ad121 (20 + n) (15 + 10 * k))]) := (fE172 (20 + n) (12 + 10 * k) (fun q9 => nr_k q9.2 (by decide))).trans c_166
  have c_179 : E170 (20 + n) (15 + 10 * k) = .inl (kA 0, 6, .inl (fun _ => 0)) := (fE172 (20 + n) (15 + 10 * k) (fun q9 => nr_k q9.2 (by decide))).trans c_167
  have c_180 : E170 (1 + d) 0 = .inr (7, [.int (nI d), .int fd, .int nm, .ref (ad121 (1 + d) 1), .ref (ad121 (1 + d) 9), .ref (ad121 (1 + d) 10), .ref (ad121 (1 + d) 2), .ref (ad121 (1 + d) 11), .ref (ad121 (1 + d) 12), .ref (ad121 (1 + d) 3), .ref (ad121 (1 + d) 4), .int sd]) := (fE172 (1 + d) 0 (fun q9 => nr_z q9.2 (by decide))).trans c_168
  have c_181 : E170 (1 + d) 2 = .inr (8, [.ref (ad121 (1 + d) 6), .int (nI k1)]) := (fE172 (1 + d) 2 (fun q9 => nr_z q9.2 (by decide))).trans c_169
  refine lv_aload_n hx hb xd_Me_init_47 rfl (lv_at hl 0 rfl) ?_
  refine lv_aload_n hx hb xd_Me_init_48 rfl (lv_at hl 2 rfl) ?_
  refine px_get (D := D) (ci := 7) (v := .ref (ad121 (1 + d) 2)) (C := xR_Ds) (T := xT_Ds) (N := 12) hx hb hT xi_Ds hown hK.1 hP m_132 c_180 rfl 6 (by decide) (hT _ yr2_16) (fun _ h9 => h9) rfl xd_Me_init_49 ?_
  refine px_get (D := D) (ci := 8) (v := .int (nI k1)) (C := xR_Na) (T := xT_Na) (N := 2) hx hb hT xi_Na hown hK.1 hP m_133 c_181 rfl 1 (by decide) (hT _ yr2_17) (fun _ h9 => h9) rfl xd_Me_init_52 ?_
  refine W.eq (g2 := F0 m 55 ls [.int (nI k1), .ref (ad121 (20 + n) (10 + 10 * k))]) rfl ?_
  refine px_newq (C := "LayerDesk$Member") (N' := k1) (20 + n) (11 + 10 * k) hx hb hown (hT _ yr2_18) hK.2.1.2.2.2.2.2.2.1 hK.1 6 rfl hP hD hS hA (by omega) (show k1 * 4 ≤ 536870912 by omega) (Nat.le_of_ble_eq_true rfl) (show 21 + k1 ≤ 26 by omega) xd_Me_init_55 (fun ad182 E183 RL184 H hA1 hE1 hs1 hm1 hP hD hS => ?_)
  refine W.widen (k := 7) (n := 26) (by omega) (by omega) ?_
  have fE185 : ∀ b2 o2, ¬ (b2 = 20 + n ∧ o2 = 11 + 10 * k) → E183 b2 o2 = E170 b2 o2 := fun b2 o2 h9 => by rw [hE1]; exact up2_ne (nr_or h9)
  have fA186 : ∀ b2 o2, ¬ (b2 = 20 + n ∧ o2 = 11 + 10 * k) → ad182 b2 o2 = ad121 b2 o2 := fun b2 o2 h9 => by rw [hA1]; exact up2_ne (nr_or h9)
  have hs187 := hs1
  refine W.eq (g2 := F0 m _ ls [.ref (ad182 (20 + n) (11 + 10 * k)), .ref (ad182 (20 + n) (10 + 10 * k))]) (by rw [fA186 (20 + n) (10 + 10 * k) (fun q9 => nr_k q9.2 (by decide))]) ?_
  have c_188 : E183 (20 + n) (11 + 10 * k) = .inl (kA 6, k1, .inr (.inr (.inr (.inr (fun _ => none))))) := by rw [hE1]; exact up2_eq
  have hl : lv_has ls 3 [(0, .ref (ad182 (20 + n) (10 + 10 * k))), (1, .ref (ad182 (20 + n) 0)), (2, .ref (ad182 (1 + d) 0))] := by
    rw [fA186 (20 + n) (10 + 10 * k) (fun q9 => nr_k q9.2 (by decide)), fA186 (20 + n) 0 (fun q9 => nr_z q9.2 (by decide)), fA186 (1 + d) 0 (fun q9 => nr_z q9.2 (by decide))]; exact hl
  have m_190 : (20 + n, 10 + 10 * k) ∈ RL184 := hs187 _ m_131
  have m_191 : (1 + d, 0) ∈ RL184 := hs187 _ m_132
  have m_192 : (1 + d, 2) ∈ RL184 := hs187 _ m_133
  have m_193 : (20 + n, 12 + 10 * k) ∈ RL184 := hs187 _ m_134
  have m_194 : (20 + n, 15 + 10 * k) ∈ RL184 := hs187 _ m_135
  have m_195 : (20 + n, 13 + 10 * k) ∈ RL184 := hs187 _ m_136
  have m_196 : (20 + n, 16 + 10 * k) ∈ RL184 := hs187 _ m_137
  have m_197 : (20 + n, 14 + 10 * k) ∈ RL184 := hs187 _ m_138
  have m_198 : (20 + n, 17 + 10 * k) ∈ RL184 := hs187 _ p_129
  have c_199 : E183 (20 + n) (10 + 10 * k) = .inr (6, [.ref (ad182 (20 + n) 0), .ref (ad182 (1 + d) 0), .null, .ref (ad182 (20 + n) (12 + 10 * k)), .ref (ad182 (20 + n) (13 + 10 * k)), .ref (ad182 (20 + n) (14 + 10 * k))]) := by rw [fE185 (20 + n) (10 + 10 * k) (fun q9 => nr_k q9.2 (by decide)), fA186 (20 + n) 0 (fun q9 => nr_z q9.2 (by decide)), fA186 (1 + d) 0 (fun q9 => nr_z q9.2 (by decide)), fA186 (20 + n) (12 + 10 * k) (fun q9 => nr_k q9.2 (by decide)), fA186 (20 + n) (13 + 10 * k) (fun q9 => nr_k q9.2 (by decide)), fA186 (20 + n) (14 + 10 * k) (fun q9 => nr_k q9.2 (by decide))]; exact c_173
  have c_200 : E183 (20 + n) (14 + 10 * k) = .inr (10, [.ref (ad182 (20 + n) (17 + 10 * k))]) := by rw [fE185 (20 + n) (14 + 10 * k) (fun q9 => nr_k q9.2 (by decide)), fA186 (20 + n) (17 + 10 * k) (fun q9 => nr_k q9.2 (by decide))]; exact c_174
  have c_201 : E183 (20 + n) (17 + 10 * k) = .inl (kA 0, 6, .inl (fun _ => 0)) := by rw [fE185 (20 + n) (17 + 10 * k) (fun q9 => nr_k q9.2 (by decide))]; exact c_175
  have c_202 : E183 (20 + n) (13 + 10 * k) = .inr (10, [.ref (ad182 (20 + n) (16 + 10 * k))]) := by rw [fE185 (20 + n) (13 + 10 * k) (fun q9 => nr_k q9.2 (by decide)), fA186 (20 + n) (16 + 10 * k) (fun q9 => nr_k q9.2 (by decide))]; exact c_176
  have c_203 : E183 (20 + n) (16 + 10 * k) = .inl (kA 0, 6, .inl (fun _ => 0)) := by rw [fE185 (20 + n) (16 + 10 * k) (fun q9 => nr_k q9.2 (by decide))]; exact c_177
  have c_204 : E183 (20 + n) (12 + 10 * k) = .inr (10, [.ref (ad182 (20 + n) (15 + 10 * k))]) := by rw [fE185 (20 + n) (12 + 10 * k) (fun q9 => nr_k q9.2 (by decide)), fA186 (20 + n) (15 + 10 * k) (fun q9 => nr_k q9.2 (by decide))]; exact c_178
  have c_205 : E183 (20 + n) (15 + 10 * k) = .inl (kA 0, 6, .inl (fun _ => 0)) := by rw [fE185 (20 + n) (15 + 10 * k) (fun q9 => nr_k q9.2 (by decide))]; exact c_179
  have c_206 : E183 (1 + d) 0 = .inr (7, [.int (nI d), .int fd, .int nm, .ref (ad182 (1 + d) 1), .ref (ad182 (1 + d) 9), .ref (ad182 (1 + d) 10), .ref (ad182 (1 + d) 2), .ref (ad182 (1 + d) 11), .ref (ad182 (1 + d) 12), .ref (ad182 (1 + d) 3), .ref (ad182 (1 + d) 4), .int sd]) := by rw [fE185 (1 + d) 0 (fun q9 => nr_z q9.2 (by decide)), fA186 (1 + d) 1 (fun q9 => nr_z q9.2 (by decide)), fA186 (1 + d) 9 (fun q9 => nr_z q9.2 (by decide)), fA186 (1 + d) 10 (fun q9 => nr_z q9.2 (by decide)), fA186 (1 + d) 2 (fun q9 => nr_z q9.2 (by decide)), fA186 (1 + d) 11 (fun q9 => nb_14 q9.1), fA186 (1 + d) 12 (fun q9 => nb_14 q9.1), fA186 (1 + d) 3 (fun q9 => nr_z q9.2 (by decide)), fA186 (1 + d) 4 (fun q9 => nr_z q9.2 (by decide))]; exact c_180
  have c_207 : E183 (1 + d) 2 = .inr (8, [.ref (ad182 (1 + d) 6), .int (nI k1)]) := by rw [fE185 (1 + d) 2 (fun q9 => nr_z q9.2 (by decide)), fA186 (1 + d) 6 (fun q9 => nr_z q9.2 (by decide))]; exact c_181
  have m_189 : (20 + n, 11 + 10 * k) ∈ RL184 := hm1
  have hP : va_P D xcl (rp ad182 E183 RL184) H := hP
  have hD : va_D A (rp ad182 E183 RL184) := hD
  refine px_putF (D := D) (ci := 6) (v := .ref (ad182 (20 + n) (11 + 10 * k))) (ty := .array (.object "LayerDesk$Member")) (C := xR_Me) (T := xT_Me) (N := 6) hx hb hT xi_Me xt_Me xt_Me_ok xn_Me hown hK.1 hP hD hS m_190 c_199 rfl 2 (by decide) (hT _ yr2_19) (fun _ h9 => h9) rfl hin rfl (by decide +kernel) rfl rfl (Nat.le_of_ble_eq_true rfl) xd_Me_init_58 (fun H locs hP hD hS => ?_)
  have hP : va_P D xcl (rp ad182 (up2 E183 (20 + n) (10 + 10 * k) (.inr (6, [.ref (ad182 (20 + n) 0), .ref (ad182 (1 + d) 0), .ref (ad182 (20 + n) (11 + 10 * k)), .ref (ad182 (20 + n) (12 + 10 * k)), .ref (ad182 (20 + n) (13 + 10 * k)), .ref (ad182 (20 + n) (14 + 10 * k))]))) RL184) H := hP
  have hD : va_D A (rp ad182 (up2 E183 (20 + n) (10 + 10 * k) (.inr (6, [.ref (ad182 (20 + n) 0), .ref (ad182 (1 + d) 0), .ref (ad182 (20 + n) (11 + 10 * k)), .ref (ad182 (20 + n) (12 + 10 * k)), .ref (ad182 (20 + n) (13 + 10 * k)), .ref (ad182 (20 + n) (14 + 10 * k))]))) RL184) := hD
  generalize hE209 : up2 E183 (20 + n) (10 + 10 * k) (.inr (6, [.ref (ad182 (20 + n) 0), .ref (ad182 (1 + d) 0), .ref (ad182 (20 + n) (11 + 10 * k)), .ref (ad182 (20 + n) (12 + 10 * k)), .ref (ad182 (20 + n) (13 + 10 * k)), .ref (ad182 (20 + n) (14 + 10 * k))])) = E208 at hP hD
  have fE210 : ∀ b2 o2, ¬ (b2 = 20 + n ∧ o2 = 10 + 10 * k) → E208 b2 o2 = E183 b2 o2 := fun b2 o2 h9 => by rw [← hE209]; exact up2_ne (nr_or h9)
  have c_211 : E208 (20 + n) (10 + 10 * k) = .inr (6, [.ref (ad182 (20 + n) 0), .ref (ad182 (1 + d) 0), .ref (ad182 (20 + n) (11 + 10 * k)), .ref (ad182 (20 + n) (12 + 10 * k)), .ref (ad182 (20 + n) (13 + 10 * k)), .ref (ad182 (20 + n) (14 + 10 * k))]) := by rw [← hE209]; exact up2_eq
  have c_212 : E208 (20 + n) (11 + 10 * k) = .inl (kA 6, k1, .inr (.inr (.inr (.inr (fun _ => none))))) := (fE210 (20 + n) (11 + 10 * k) (fun q9 => nr_k q9.2 (by decide))).trans c_188
  have c_213 : E208 (20 + n) (14 + 10 * k) = .inr (10, [.ref (ad182 (20 + n) (17 + 10 * k))]) := (fE210 (20 + n) (14 + 10 * k) (fun q9 => nr_k q9.2 (by decide))).trans c_200
  have c_214 : E208 (20 + n) (17 + 10 * k) = .inl (kA 0, 6, .inl (fun _ => 0)) := (fE210 (20 + n) (17 + 10 * k) (fun q9 => nr_k q9.2 (by decide))).trans c_201
  have c_215 : E208 (20 + n) (13 + 10 * k) = .inr (10, [.ref (ad182 (20 + n) (16 + 10 * k))]) := (fE210 (20 + n) (13 + 10 * k) (fun q9 => nr_k q9.2 (by decide))).trans c_202
  have c_216 : E208 (20 + n) (16 + 10 * k) = .inl (kA 0, 6, .inl (fun _ => 0)) := (fE210 (20 + n) (16 + 10 * k) (fun q9 => nr_k q9.2 (by decide))).trans c_203
  have c_217 : E208 (20 + n) (12 + 10 * k) = .inr (10, [.ref (ad182 (20 + n) (15 + 10 * k))]) := (fE210 (20 + n) (12 + 10 * k) (fun q9 => nr_k q9.2 (by decide))).trans c_204
  have c_218 : E208 (20 + n) (15 + 10 * k) = .inl (kA 0, 6, .inl (fun _ => 0)) := (fE210 (20 + n) (15 + 10 * k) (fun q9 => nr_k q9.2 (by decide))).trans c_205
  have c_219 : E208 (1 + d) 0 = .inr (7, [.int (nI d), .int fd, .int nm, .ref (ad182 (1 + d) 1), .ref (ad182 (1 + d) 9), .ref (ad182 (1 + d) 10), .ref (ad182 (1 + d) 2), .ref (ad182 (1 + d) 11), .ref (ad182 (1 + d) 12), .ref (ad182 (1 + d) 3), .ref (ad182 (1 + d) 4), .int sd]) := (fE210 (1 + d) 0 (fun q9 => nr_z q9.2 (by decide))).trans c_206
  have c_220 : E208 (1 + d) 2 = .inr (8, [.ref (ad182 (1 + d) 6), .int (nI k1)]) := (fE210 (1 + d) 2 (fun q9 => nr_z q9.2 (by decide))).trans c_207
  refine W.widen (k := 7) (n := 26) (Nat.le_of_ble_eq_true rfl) (Nat.le_of_ble_eq_true rfl) ?_
  exact W.vret hx hb hr (fun t ht hW => ⟨⟨(ad182, E208, RL184), rfl, ⟨trivial, c_211, c_212, c_217, c_215, c_213, c_218, c_216, c_214, (fun b2 o2 h09 h19 h29 h39 h49 h59 h69 h79 => by show E208 b2 o2 = _; rw [fE210 b2 o2 (by omega), fE185 b2 o2 (by omega), fE172 b2 o2 (by omega), fE160 b2 o2 (by omega), fE148 b2 o2 (by omega), p_126 b2 o2 (by omega) (by omega), fE99 b2 o2 (by omega), fE88 b2 o2 (by omega), p_70 b2 o2 (by omega) (by omega), fE47 b2 o2 (by omega), fE38 b2 o2 (by omega), p_24 b2 o2 (by omega) (by omega), fE4 b2 o2 (by omega)]), (fun b2 o2 h09 h19 h29 h39 h49 h59 h69 => by show ad182 b2 o2 = _; rw [fA186 b2 o2 (by omega), p_127 b2 o2 (by omega), fA100 b2 o2 (by omega), p_71 b2 o2 (by omega), fA48 b2 o2 (by omega), p_25 b2 o2 (by omega), fA5 b2 o2 (by omega)]), (fun x9 hx9 => hs187 _ (p_128 _ (hs101 _ (p_72 _ (hs49 _ (p_26 _ (hs6 _ hx9))))))), m_189, m_193, m_195, m_197, m_194, m_196, m_198⟩, by rw [ht]; exact hP, hD⟩, hS.F ht⟩) hS.2.2 xd_Me_init_61
set_option maxHeartbeats 4000000 in
set_option maxRecDepth 100000 in
theorem xc_Ly_initN (l : Launch) (D : va_G) (kA : Nat → ClassId) (sz : Nat) (ad : Nat → Nat → Nat) (E : Nat → Nat → va_E) (RL : List (Nat × Nat)) (n : Nat) (mk9 : Nat) (ym0 : (20 + n, 0) ∈ RL) (yc0 : E (20 + n) 0 = .inr (5, [.int 0, .null, .null, .int 0])) (hmk : mk9 ≤ 12) : Met l xy_Ly_init (.code xy_Ly_init xb_Ly_init 4 none :: wT) { frames := 1, cells := 1, slots := 12, locals := 14 } (va_Pc [.ref (ad (20 + n) 0), .int (nI n), .null, .int (nI mk9)] (xPre D kA sz (rp ad E RL))) (va_Qv (fun (u : (Nat → Nat → Nat) × (Nat → Nat → va_E) × List (Nat × Nat)) => (True) ∧ (u.2.1 (20 + n) 0 = .inr (5, [.int (nI n), .null, .ref (u.1 (20 + n) 1), .int 1])) ∧ (u.2.1 (20 + n) 1 = .inl (kA 6, mk9, .inr (.inr (.inr (.inr (fun _ => none)))))) ∧ ((∀ b2 o2, ¬ (b2 = 20 + n ∧ o2 = 0) → ¬ (b2 = 20 + n ∧ o2 = 1) → u.2.1 b2 o2 = E b2 o2)) ∧ ((∀ b2 o2, ¬ (b2 = 20 + n ∧ o2 = 1) → u.1 b2 o2 = ad b2 o2)) ∧ ((∀ x ∈ RL, x ∈ u.2.2)) ∧ ((20 + n, 1) ∈ u.2.2)) (fun (u : (Nat → Nat → Nat) × (Nat → Nat → va_E) × List (Nat × Nat)) t => va_P D xcl (rp u.1 u.2.1 u.2.2) t.heap ∧ va_D (va_A (rp ad E RL) sz) (rp u.1 u.2.1 u.2.2)) (va_A (rp ad E RL) sz)) 1 12 (va_A (rp ad E RL) sz) := by
  refine Met.ofW (cc := xb_Ly_init) (maxL := 4) (ret := none) (by decide) rfl ?_
  intro p e s m args below meth c s₁ B hml hv
  obtain ⟨rfl, hsz, hP, hK, hD0⟩ := hv
  have hx := B.exec
  have hb := B.bytes
  have hr := B.returns
  have hT := x_hT B.pre
  have hown : s.vm.findClass xR_Ly = some m.cls := findClass_of_methodNamed B.named
  have hlocks := B.notSynchronized
  have hin : meth.name = "<init>" := (name_of_methodNamed B.named B.method).1
  subst hsz
  have hD := hD0.self (sz := s.heap.size)
  generalize hAe : va_A (rp ad E RL) s.heap.size = A at hD ⊢
  have hA : ∀ q : Nat, s.heap.size ≤ q → A q := fun q h => by rw [← hAe]; exact Or.inr h
  have hS : va_S A s.heap s.heap [] := va_S.rf
  have hl := lv_entry ([.ref (ad (20 + n) 0), .int (nI n), .null, .int (nI mk9)]) (n := 4) (Nat.le_of_ble_eq_true rfl)
  rw [lg_entry_eq]
  generalize (lg_sl ([.ref (ad (20 + n) 0), .int (nI n), .null, .int (nI mk9)]) ++ List.replicate (4 - (lg_sl ([.ref (ad (20 + n) 0), .int (nI n), .null, .int (nI mk9)])).length) Slot.unset).toArray = ls at hl ⊢
  have hl : lv_has ls 4 [(0, .ref (ad (20 + n) 0)), (1, .int (nI n)), (2, .null), (3, .int (nI mk9))] := hl
  have hP : va_P D xcl (rp ad E RL) s.heap := hP
  refine lv_aload_n hx hb xd_Ly_init_0 rfl (lv_at hl 0 rfl) ?_
  refine W.objInit hx hb hown (hT _ yr2_20) (hT _ yr2_1) (hT _ yr2_2) rfl (by rw [hml]; exact hl.1) rfl xd_Ly_init_1 (Nat.le_of_ble_eq_true rfl) (Nat.le_of_ble_eq_true rfl) ?_
  refine W.eq (g2 := F0 m 4 ls []) rfl ?_
  refine lv_aload_n hx hb xd_Ly_init_4 rfl (lv_at hl 0 rfl) ?_
  refine lv_iload_n hx hb xd_Ly_init_5 rfl (lv_at hl 1 rfl) ?_
  refine px_putF (D := D) (ci := 5) (v := .int (nI n)) (ty := .int) (C := xR_Ly) (T := xT_Ly) (N := 4) hx hb hT xi_Ly xt_Ly xt_Ly_ok xn_Ly hown hK.1 hP hD hS ym0 yc0 rfl 0 (by decide) (hT _ yr2_21) (fun _ h9 => h9) rfl hin rfl (by decide +kernel) rfl rfl (Nat.le_of_ble_eq_true rfl) xd_Ly_init_6 (fun H locs hP hD hS => ?_)
  have hP : va_P D xcl (rp ad (up2 E (20 + n) 0 (.inr (5, [.int (nI n), .null, .null, .int 0]))) RL) H := hP
  have hD : va_D A (rp ad (up2 E (20 + n) 0 (.inr (5, [.int (nI n), .null, .null, .int 0]))) RL) := hD
  generalize hE2 : up2 E (20 + n) 0 (.inr (5, [.int (nI n), .null, .null, .int 0])) = E1 at hP hD
  have fE3 : ∀ b2 o2, ¬ (b2 = 20 + n ∧ o2 = 0) → E1 b2 o2 = E b2 o2 := fun b2 o2 h9 => by rw [← hE2]; exact up2_ne (nr_or h9)
  have c_4 : E1 (20 + n) 0 = .inr (5, [.int (nI n), .null, .null, .int 0]) := by rw [← hE2]; exact up2_eq
  refine lv_aload_n hx hb xd_Ly_init_9 rfl (lv_at hl 0 rfl) ?_
  refine lv_aload_nN hx hb xd_Ly_init_10 rfl (lv_at hl 2 rfl) ?_
  refine px_putF (D := D) (ci := 5) (v := .null) (ty := .object "LayerDesk$Layer") (C := xR_Ly) (T := xT_Ly) (N := 4) hx hb hT xi_Ly xt_Ly xt_Ly_ok xn_Ly hown hK.1 hP hD hS ym0 c_4 rfl 1 (by decide) (hT _ yr2_22) (fun _ h9 => h9) rfl hin rfl (by decide +kernel) rfl rfl (Nat.le_of_ble_eq_true rfl) xd_Ly_init_11 (fun H locs hP hD hS => ?_)
  have hP : va_P D xcl (rp ad (up2 E1 (20 + n) 0 (.inr (5, [.int (nI n), .null, .null, .int 0]))) RL) H := hP
  have hD : va_D A (rp ad (up2 E1 (20 + n) 0 (.inr (5, [.int (nI n), .null, .null, .int 0]))) RL) := hD
  generalize hE6 : up2 E1 (20 + n) 0 (.inr (5, [.int (nI n), .null, .null, .int 0])) = E5 at hP hD
  have fE7 : ∀ b2 o2, ¬ (b2 = 20 + n ∧ o2 = 0) → E5 b2 o2 = E1 b2 o2 := fun b2 o2 h9 => by rw [← hE6]; exact up2_ne (nr_or h9)
  have c_8 : E5 (20 + n) 0 = .inr (5, [.int (nI n), .null, .null, .int 0]) := by rw [← hE6]; exact up2_eq
  refine lv_aload_n hx hb xd_Ly_init_14 rfl (lv_at hl 0 rfl) ?_
  refine lv_iload_n hx hb xd_Ly_init_15 rfl (lv_at hl 3 rfl) ?_
  refine W.eq (g2 := F0 m 16 ls [.int (nI mk9), .ref (ad (20 + n) 0)]) rfl ?_
  refine px_newq (C := "LayerDesk$Member") (N' := mk9) (20 + n) 1 hx hb hown (hT _ yr2_23) hK.2.1.2.2.2.2.2.2.1 hK.1 6 rfl hP hD hS hA (by omega) (show mk9 * 4 ≤ 536870912 by omega) (Nat.le_of_ble_eq_true rfl) (show 0 + mk9 ≤ 12 by omega) xd_Ly_init_16 (fun ad9 E10 RL11 H hA1 hE1 hs1 hm1 hP hD hS => ?_)
  refine W.widen (k := 1) (n := 12) (by omega) (by omega) ?_
  have fE12 : ∀ b2 o2, ¬ (b2 = 20 + n ∧ o2 = 1) → E10 b2 o2 = E5 b2 o2 := fun b2 o2 h9 => by rw [hE1]; exact up2_ne (nr_or h9)
  have fA13 : ∀ b2 o2, ¬ (b2 = 20 + n ∧ o2 = 1) → ad9 b2 o2 = ad b2 o2 := fun b2 o2 h9 => by rw [hA1]; exact up2_ne (nr_or h9)
  have hs14 := hs1
  refine W.eq (g2 := F0 m _ ls [.ref (ad9 (20 + n) 1), .ref (ad9 (20 + n) 0)]) (by rw [fA13 (20 + n) 0 (fun q9 => absurd q9.2 (by decide))]) ?_
  have c_15 : E10 (20 + n) 1 = .inl (kA 6, mk9, .inr (.inr (.inr (.inr (fun _ => none))))) := by rw [hE1]; exact up2_eq
  have hl : lv_has ls 4 [(0, .ref (ad9 (20 + n) 0)), (1, .int (nI n)), (2, .null), (3, .int (nI mk9))] := by
    rw [fA13 (20 + n) 0 (fun q9 => absurd q9.2 (by decide))]; exact hl
  have m_17 : (20 + n, 0) ∈ RL11 := hs14 _ ym0
  have c_18 : E10 (20 + n) 0 = .inr (5, [.int (nI n), .null, .null, .int 0]) := by rw [fE12 (20 + n) 0 (fun q9 => absurd q9.2 (by decide))]; exact c_8
  have m_16 : (20 + n, 1) ∈ RL11 := hm1
  have hP : va_P D xcl (rp ad9 E10 RL11) H := hP
  have hD : va_D A (rp ad9 E10 RL11) := hD
  refine px_putF (D := D) (ci := 5) (v := .ref (ad9 (20 + n) 1)) (ty := .array (.object "LayerDesk$Member")) (C := xR_Ly) (T := xT_Ly) (N := 4) hx hb hT xi_Ly xt_Ly xt_Ly_ok xn_Ly hown hK.1 hP hD hS m_17 c_18 rfl 2 (by decide) (hT _ yr2_24) (fun _ h9 => h9) rfl hin rfl (by decide +kernel) rfl rfl (Nat.le_of_ble_eq_true rfl) xd_Ly_init_19 (fun H locs hP hD hS => ?_)
  have hP : va_P D xcl (rp ad9 (up2 E10 (20 + n) 0 (.inr (5, [.int (nI n), .null, .ref (ad9 (20 + n) 1), .int 0]))) RL11) H := hP
  have hD : va_D A (rp ad9 (up2 E10 (20 + n) 0 (.inr (5, [.int (nI n), .null, .ref (ad9 (20 + n) 1), .int 0]))) RL11) := hD
  generalize hE20 : up2 E10 (20 + n) 0 (.inr (5, [.int (nI n), .null, .ref (ad9 (20 + n) 1), .int 0])) = E19 at hP hD
  have fE21 : ∀ b2 o2, ¬ (b2 = 20 + n ∧ o2 = 0) → E19 b2 o2 = E10 b2 o2 := fun b2 o2 h9 => by rw [← hE20]; exact up2_ne (nr_or h9)
  have c_22 : E19 (20 + n) 0 = .inr (5, [.int (nI n), .null, .ref (ad9 (20 + n) 1), .int 0]) := by rw [← hE20]; exact up2_eq
  have c_23 : E19 (20 + n) 1 = .inl (kA 6, mk9, .inr (.inr (.inr (.inr (fun _ => none))))) := (fE21 (20 + n) 1 (fun q9 => absurd q9.2 (by decide))).trans c_15
  refine lv_aload_n hx hb xd_Ly_init_22 rfl (lv_at hl 0 rfl) ?_
  refine lv_iconst (v := 1) hx hb xd_Ly_init_23 (by decide) ?_
  refine px_put (D := D) (ci := 5) (v := .int 1) (ty := .boolean) (C := xR_Ly) (T := xT_Ly) (N := 4) hx hb hT xi_Ly xt_Ly xt_Ly_ok xn_Ly hown hK.1 hP hD hS m_17 c_22 rfl 3 (by decide) (hT _ yr2_25) (fun _ h9 => h9) rfl (by decide +kernel) rfl rfl (Nat.le_of_ble_eq_true rfl) xd_Ly_init_24 (fun H locs hP hD hS => ?_)
  have hP : va_P D xcl (rp ad9 (up2 E19 (20 + n) 0 (.inr (5, [.int (nI n), .null, .ref (ad9 (20 + n) 1), .int 1]))) RL11) H := hP
  have hD : va_D A (rp ad9 (up2 E19 (20 + n) 0 (.inr (5, [.int (nI n), .null, .ref (ad9 (20 + n) 1), .int 1]))) RL11) := hD
  generalize hE25 : up2 E19 (20 + n) 0 (.inr (5, [.int (nI n), .null, .ref (ad9 (20 + n) 1), .int 1])) = E24 at hP hD
  have fE26 : ∀ b2 o2, ¬ (b2 = 20 + n ∧ o2 = 0) → E24 b2 o2 = E19 b2 o2 := fun b2 o2 h9 => by rw [← hE25]; exact up2_ne (nr_or h9)
  have c_27 : E24 (20 + n) 0 = .inr (5, [.int (nI n), .null, .ref (ad9 (20 + n) 1), .int 1]) := by rw [← hE25]; exact up2_eq
  have c_28 : E24 (20 + n) 1 = .inl (kA 6, mk9, .inr (.inr (.inr (.inr (fun _ => none))))) := (fE26 (20 + n) 1 (fun q9 => absurd q9.2 (by decide))).trans c_23
  refine W.widen (k := 1) (n := 12) (Nat.le_of_ble_eq_true rfl) (Nat.le_of_ble_eq_true rfl) ?_
  exact W.vret hx hb hr (fun t ht hW => ⟨⟨(ad9, E24, RL11), rfl, ⟨trivial, c_27, c_28, (fun b2 o2 h09 h19 => by show E24 b2 o2 = _; rw [fE26 b2 o2 (by omega), fE21 b2 o2 (by omega), fE12 b2 o2 (by omega), fE7 b2 o2 (by omega), fE3 b2 o2 (by omega)]), (fun b2 o2 h09 => by show ad9 b2 o2 = _; rw [fA13 b2 o2 (by omega)]), (fun x9 hx9 => hs14 _ hx9), m_16⟩, by rw [ht]; exact hP, hD⟩, hS.F ht⟩) hS.2.2 xd_Ly_init_27
set_option maxHeartbeats 4000000 in
set_option maxRecDepth 100000 in
theorem xc_Ly_initR (l : Launch) (D : va_G) (kA : Nat → ClassId) (sz : Nat) (ad : Nat → Nat → Nat) (E : Nat → Nat → va_E) (RL : List (Nat × Nat)) (n : Nat) (pa : Nat) (mk9 : Nat) (ym0 : (20 + n, 0) ∈ RL) (yc0 : E (20 + n) 0 = .inr (5, [.int 0, .null, .null, .int 0])) (hmk : mk9 ≤ 12) : Met l xy_Ly_init (.code xy_Ly_init xb_Ly_init 4 none :: wT) { frames := 1, cells := 1, slots := 12, locals := 14 } (va_Pc [.ref (ad (20 + n) 0), .int (nI n), .ref pa, .int (nI mk9)] (xPre D kA sz (rp ad E RL))) (va_Qv (fun (u : (Nat → Nat → Nat) × (Nat → Nat → va_E) × List (Nat × Nat)) => (True) ∧ (u.2.1 (20 + n) 0 = .inr (5, [.int (nI n), .ref pa, .ref (u.1 (20 + n) 1), .int 1])) ∧ (u.2.1 (20 + n) 1 = .inl (kA 6, mk9, .inr (.inr (.inr (.inr (fun _ => none)))))) ∧ ((∀ b2 o2, ¬ (b2 = 20 + n ∧ o2 = 0) → ¬ (b2 = 20 + n ∧ o2 = 1) → u.2.1 b2 o2 = E b2 o2)) ∧ ((∀ b2 o2, ¬ (b2 = 20 + n ∧ o2 = 1) → u.1 b2 o2 = ad b2 o2)) ∧ ((∀ x ∈ RL, x ∈ u.2.2)) ∧ ((20 + n, 1) ∈ u.2.2)) (fun (u : (Nat → Nat → Nat) × (Nat → Nat → va_E) × List (Nat × Nat)) t => va_P D xcl (rp u.1 u.2.1 u.2.2) t.heap ∧ va_D (va_A (rp ad E RL) sz) (rp u.1 u.2.1 u.2.2)) (va_A (rp ad E RL) sz)) 1 12 (va_A (rp ad E RL) sz) := by
  refine Met.ofW (cc := xb_Ly_init) (maxL := 4) (ret := none) (by decide) rfl ?_
  intro p e s m args below meth c s₁ B hml hv
  obtain ⟨rfl, hsz, hP, hK, hD0⟩ := hv
  have hx := B.exec
  have hb := B.bytes
  have hr := B.returns
  have hT := x_hT B.pre
  have hown : s.vm.findClass xR_Ly = some m.cls := findClass_of_methodNamed B.named
  have hlocks := B.notSynchronized
  have hin : meth.name = "<init>" := (name_of_methodNamed B.named B.method).1
  subst hsz
  have hD := hD0.self (sz := s.heap.size)
  generalize hAe : va_A (rp ad E RL) s.heap.size = A at hD ⊢
  have hA : ∀ q : Nat, s.heap.size ≤ q → A q := fun q h => by rw [← hAe]; exact Or.inr h
  have hS : va_S A s.heap s.heap [] := va_S.rf
  have hl := lv_entry ([.ref (ad (20 + n) 0), .int (nI n), .ref pa, .int (nI mk9)]) (n := 4) (Nat.le_of_ble_eq_true rfl)
  rw [lg_entry_eq]
  generalize (lg_sl ([.ref (ad (20 + n) 0), .int (nI n), .ref pa, .int (nI mk9)]) ++ List.replicate (4 - (lg_sl ([.ref (ad (20 + n) 0), .int (nI n), .ref pa, .int (nI mk9)])).length) Slot.unset).toArray = ls at hl ⊢
  have hl : lv_has ls 4 [(0, .ref (ad (20 + n) 0)), (1, .int (nI n)), (2, .ref pa), (3, .int (nI mk9))] := hl
  have hP : va_P D xcl (rp ad E RL) s.heap := hP
  refine lv_aload_n hx hb xd_Ly_init_0 rfl (lv_at hl 0 rfl) ?_
  refine W.objInit hx hb hown (hT _ yr2_20) (hT _ yr2_1) (hT _ yr2_2) rfl (by rw [hml]; exact hl.1) rfl xd_Ly_init_1 (Nat.le_of_ble_eq_true rfl) (Nat.le_of_ble_eq_true rfl) ?_
  refine W.eq (g2 := F0 m 4 ls []) rfl ?_
  refine lv_aload_n hx hb xd_Ly_init_4 rfl (lv_at hl 0 rfl) ?_
  refine lv_iload_n hx hb xd_Ly_init_5 rfl (lv_at hl 1 rfl) ?_
  refine px_putF (D := D) (ci := 5) (v := .int (nI n)) (ty := .int) (C := xR_Ly) (T := xT_Ly) (N := 4) hx hb hT xi_Ly xt_Ly xt_Ly_ok xn_Ly hown hK.1 hP hD hS ym0 yc0 rfl 0 (by decide) (hT _ yr2_21) (fun _ h9 => h9) rfl hin rfl (by decide +kernel) rfl rfl (Nat.le_of_ble_eq_true rfl) xd_Ly_init_6 (fun H locs hP hD hS => ?_)
  have hP : va_P D xcl (rp ad (up2 E (20 + n) 0 (.inr (5, [.int (nI n), .null, .null, .int 0]))) RL) H := hP
  have hD : va_D A (rp ad (up2 E (20 + n) 0 (.inr (5, [.int (nI n), .null, .null, .int 0]))) RL) := hD
  generalize hE2 : up2 E (20 + n) 0 (.inr (5, [.int (nI n), .null, .null, .int 0])) = E1 at hP hD
  have fE3 : ∀ b2 o2, ¬ (b2 = 20 + n ∧ o2 = 0) → E1 b2 o2 = E b2 o2 := fun b2 o2 h9 => by rw [← hE2]; exact up2_ne (nr_or h9)
  have c_4 : E1 (20 + n) 0 = .inr (5, [.int (nI n), .null, .null, .int 0]) := by rw [← hE2]; exact up2_eq
  refine lv_aload_n hx hb xd_Ly_init_9 rfl (lv_at hl 0 rfl) ?_
  refine lv_aload_n hx hb xd_Ly_init_10 rfl (lv_at hl 2 rfl) ?_
  refine px_putF (D := D) (ci := 5) (v := .ref pa) (ty := .object "LayerDesk$Layer") (C := xR_Ly) (T := xT_Ly) (N := 4) hx hb hT xi_Ly xt_Ly xt_Ly_ok xn_Ly hown hK.1 hP hD hS ym0 c_4 rfl 1 (by decide) (hT _ yr2_22) (fun _ h9 => h9) rfl hin rfl (by decide +kernel) rfl rfl (Nat.le_of_ble_eq_true rfl) xd_Ly_init_11 (fun H locs hP hD hS => ?_)
  have hP : va_P D xcl (rp ad (up2 E1 (20 + n) 0 (.inr (5, [.int (nI n), .ref pa, .null, .int 0]))) RL) H := hP
  have hD : va_D A (rp ad (up2 E1 (20 + n) 0 (.inr (5, [.int (nI n), .ref pa, .null, .int 0]))) RL) := hD
  generalize hE6 : up2 E1 (20 + n) 0 (.inr (5, [.int (nI n), .ref pa, .null, .int 0])) = E5 at hP hD
  have fE7 : ∀ b2 o2, ¬ (b2 = 20 + n ∧ o2 = 0) → E5 b2 o2 = E1 b2 o2 := fun b2 o2 h9 => by rw [← hE6]; exact up2_ne (nr_or h9)
  have c_8 : E5 (20 + n) 0 = .inr (5, [.int (nI n), .ref pa, .null, .int 0]) := by rw [← hE6]; exact up2_eq
  refine lv_aload_n hx hb xd_Ly_init_14 rfl (lv_at hl 0 rfl) ?_
  refine lv_iload_n hx hb xd_Ly_init_15 rfl (lv_at hl 3 rfl) ?_
  refine W.eq (g2 := F0 m 16 ls [.int (nI mk9), .ref (ad (20 + n) 0)]) rfl ?_
  refine px_newq (C := "LayerDesk$Member") (N' := mk9) (20 + n) 1 hx hb hown (hT _ yr2_23) hK.2.1.2.2.2.2.2.2.1 hK.1 6 rfl hP hD hS hA (by omega) (show mk9 * 4 ≤ 536870912 by omega) (Nat.le_of_ble_eq_true rfl) (show 0 + mk9 ≤ 12 by omega) xd_Ly_init_16 (fun ad9 E10 RL11 H hA1 hE1 hs1 hm1 hP hD hS => ?_)
  refine W.widen (k := 1) (n := 12) (by omega) (by omega) ?_
  have fE12 : ∀ b2 o2, ¬ (b2 = 20 + n ∧ o2 = 1) → E10 b2 o2 = E5 b2 o2 := fun b2 o2 h9 => by rw [hE1]; exact up2_ne (nr_or h9)
  have fA13 : ∀ b2 o2, ¬ (b2 = 20 + n ∧ o2 = 1) → ad9 b2 o2 = ad b2 o2 := fun b2 o2 h9 => by rw [hA1]; exact up2_ne (nr_or h9)
  have hs14 := hs1
  refine W.eq (g2 := F0 m _ ls [.ref (ad9 (20 + n) 1), .ref (ad9 (20 + n) 0)]) (by rw [fA13 (20 + n) 0 (fun q9 => absurd q9.2 (by decide))]) ?_
  have c_15 : E10 (20 + n) 1 = .inl (kA 6, mk9, .inr (.inr (.inr (.inr (fun _ => none))))) := by rw [hE1]; exact up2_eq
  have hl : lv_has ls 4 [(0, .ref (ad9 (20 + n) 0)), (1, .int (nI n)), (2, .ref pa), (3, .int (nI mk9))] := by
    rw [fA13 (20 + n) 0 (fun q9 => absurd q9.2 (by decide))]; exact hl
  have m_17 : (20 + n, 0) ∈ RL11 := hs14 _ ym0
  have c_18 : E10 (20 + n) 0 = .inr (5, [.int (nI n), .ref pa, .null, .int 0]) := by rw [fE12 (20 + n) 0 (fun q9 => absurd q9.2 (by decide))]; exact c_8
  have m_16 : (20 + n, 1) ∈ RL11 := hm1
  have hP : va_P D xcl (rp ad9 E10 RL11) H := hP
  have hD : va_D A (rp ad9 E10 RL11) := hD
  refine px_putF (D := D) (ci := 5) (v := .ref (ad9 (20 + n) 1)) (ty := .array (.object "LayerDesk$Member")) (C := xR_Ly) (T := xT_Ly) (N := 4) hx hb hT xi_Ly xt_Ly xt_Ly_ok xn_Ly hown hK.1 hP hD hS m_17 c_18 rfl 2 (by decide) (hT _ yr2_24) (fun _ h9 => h9) rfl hin rfl (by decide +kernel) rfl rfl (Nat.le_of_ble_eq_true rfl) xd_Ly_init_19 (fun H locs hP hD hS => ?_)
  have hP : va_P D xcl (rp ad9 (up2 E10 (20 + n) 0 (.inr (5, [.int (nI n), .ref pa, .ref (ad9 (20 + n) 1), .int 0]))) RL11) H := hP
  have hD : va_D A (rp ad9 (up2 E10 (20 + n) 0 (.inr (5, [.int (nI n), .ref pa, .ref (ad9 (20 + n) 1), .int 0]))) RL11) := hD
  generalize hE20 : up2 E10 (20 + n) 0 (.inr (5, [.int (nI n), .ref pa, .ref (ad9 (20 + n) 1), .int 0])) = E19 at hP hD
  have fE21 : ∀ b2 o2, ¬ (b2 = 20 + n ∧ o2 = 0) → E19 b2 o2 = E10 b2 o2 := fun b2 o2 h9 => by rw [← hE20]; exact up2_ne (nr_or h9)
  have c_22 : E19 (20 + n) 0 = .inr (5, [.int (nI n), .ref pa, .ref (ad9 (20 + n) 1), .int 0]) := by rw [← hE20]; exact up2_eq
  have c_23 : E19 (20 + n) 1 = .inl (kA 6, mk9, .inr (.inr (.inr (.inr (fun _ => none))))) := (fE21 (20 + n) 1 (fun q9 => absurd q9.2 (by decide))).trans c_15
  refine lv_aload_n hx hb xd_Ly_init_22 rfl (lv_at hl 0 rfl) ?_
  refine lv_iconst (v := 1) hx hb xd_Ly_init_23 (by decide) ?_
  refine px_put (D := D) (ci := 5) (v := .int 1) (ty := .boolean) (C := xR_Ly) (T := xT_Ly) (N := 4) hx hb hT xi_Ly xt_Ly xt_Ly_ok xn_Ly hown hK.1 hP hD hS m_17 c_22 rfl 3 (by decide) (hT _ yr2_25) (fun _ h9 => h9) rfl (by decide +kernel) rfl rfl (Nat.le_of_ble_eq_true rfl) xd_Ly_init_24 (fun H locs hP hD hS => ?_)
  have hP : va_P D xcl (rp ad9 (up2 E19 (20 + n) 0 (.inr (5, [.int (nI n), .ref pa, .ref (ad9 (20 + n) 1), .int 1]))) RL11) H := hP
  have hD : va_D A (rp ad9 (up2 E19 (20 + n) 0 (.inr (5, [.int (nI n), .ref pa, .ref (ad9 (20 + n) 1), .int 1]))) RL11) := hD
  generalize hE25 : up2 E19 (20 + n) 0 (.inr (5, [.int (nI n), .ref pa, .ref (ad9 (20 + n) 1), .int 1])) = E24 at hP hD
  have fE26 : ∀ b2 o2, ¬ (b2 = 20 + n ∧ o2 = 0) → E24 b2 o2 = E19 b2 o2 := fun b2 o2 h9 => by rw [← hE25]; exact up2_ne (nr_or h9)
  have c_27 : E24 (20 + n) 0 = .inr (5, [.int (nI n), .ref pa, .ref (ad9 (20 + n) 1), .int 1]) := by rw [← hE25]; exact up2_eq
  have c_28 : E24 (20 + n) 1 = .inl (kA 6, mk9, .inr (.inr (.inr (.inr (fun _ => none))))) := (fE26 (20 + n) 1 (fun q9 => absurd q9.2 (by decide))).trans c_23
  refine W.widen (k := 1) (n := 12) (Nat.le_of_ble_eq_true rfl) (Nat.le_of_ble_eq_true rfl) ?_
  exact W.vret hx hb hr (fun t ht hW => ⟨⟨(ad9, E24, RL11), rfl, ⟨trivial, c_27, c_28, (fun b2 o2 h09 h19 => by show E24 b2 o2 = _; rw [fE26 b2 o2 (by omega), fE21 b2 o2 (by omega), fE12 b2 o2 (by omega), fE7 b2 o2 (by omega), fE3 b2 o2 (by omega)]), (fun b2 o2 h09 => by show ad9 b2 o2 = _; rw [fA13 b2 o2 (by omega)]), (fun x9 hx9 => hs14 _ hx9), m_16⟩, by rw [ht]; exact hP, hD⟩, hS.F ht⟩) hS.2.2 xd_Ly_init_27
abbrev xb_Ch_begin : ByteArray := prog_2_method_2_code
def xy_Ch_begin : MethodName := ⟨"LayerDesk$Chooser", "begin", "(ILLayerDesk$Layer;)V"⟩
theorem xd_Ch_begin_0 : decode xb_Ch_begin 0 = .ok (.aload_n 0, 1) := by decide +kernel
theorem xd_Ch_begin_1 : decode xb_Ch_begin 1 = .ok (.iload_n 1, 1) := by decide +kernel
theorem xd_Ch_begin_2 : decode xb_Ch_begin 2 = .ok (.putfield 21, 3) := by decide +kernel
theorem xd_Ch_begin_5 : decode xb_Ch_begin 5 = .ok (.aload_n 0, 1) := by decide +kernel
theorem xd_Ch_begin_6 : decode xb_Ch_begin 6 = .ok (.aload_n 2, 1) := by decide +kernel
theorem xd_Ch_begin_7 : decode xb_Ch_begin 7 = .ok (.putfield 24, 3) := by decide +kernel
theorem xd_Ch_begin_10 : decode xb_Ch_begin 10 = .ok (.aload_n 0, 1) := by decide +kernel
theorem xd_Ch_begin_11 : decode xb_Ch_begin 11 = .ok (.iconst 0, 1) := by decide +kernel
theorem xd_Ch_begin_12 : decode xb_Ch_begin 12 = .ok (.putfield 17, 3) := by decide +kernel
theorem xd_Ch_begin_15 : decode xb_Ch_begin 15 = .ok (.return_, 1) := by decide +kernel
theorem yr_0 : (Cond.fieldLink "LayerDesk$Chooser" 21 "LayerDesk$Chooser" "finder" "I") ∈ wT := wT_t (List.mem_append_left _ (List.mem_of_getElem? (i := 84) rfl)) rfl
theorem yr_1 : (Cond.fieldLink "LayerDesk$Chooser" 24 "LayerDesk$Chooser" "parent" "LLayerDesk$Layer;") ∈ wT := wT_t (List.mem_append_left _ (List.mem_of_getElem? (i := 85) rfl)) rfl
theorem yr_2 : (Cond.fieldLink "LayerDesk$Chooser" 17 "LayerDesk$Chooser" "size" "I") ∈ wT := wT_t (List.mem_append_left _ (List.mem_of_getElem? (i := 83) rfl)) rfl
set_option maxHeartbeats 4000000 in
set_option maxRecDepth 100000 in
theorem xc_Ch_beginN (l : Launch) (D : va_G) (kA : Nat → ClassId) (sz : Nat) (ad : Nat → Nat → Nat) (E : Nat → Nat → va_E) (RL : List (Nat × Nat)) (cs : Nat) (cf : Int32) (pv : Value) (fi : Int32) (ym0 : (0, 7) ∈ RL) (yc0 : E 0 7 = .inr (3, [.ref (ad 0 5), .ref (ad 0 8), .int (nI cs), .int cf, pv])) : Met l xy_Ch_begin (.code xy_Ch_begin xb_Ch_begin 3 none :: wT) { frames := 0, cells := 0, slots := 0, locals := 0 } (va_Pc [.ref (ad 0 7), .int fi, .null] (xPre D kA sz (rp ad E RL))) (va_Qv (fun (u : Nat → Nat → va_E) => (True) ∧ (u 0 7 = .inr (3, [.ref (ad 0 5), .ref (ad 0 8), .int 0, .int fi, .null])) ∧ ((∀ b2 o2, ¬ (b2 = 0 ∧ o2 = 7) → u b2 o2 = E b2 o2))) (fun (u : Nat → Nat → va_E) t => va_P D xcl (rp ad u RL) t.heap ∧ va_D (va_A (rp ad E RL) sz) (rp ad u RL)) (va_A (rp ad E RL) sz)) 0 0 (va_A (rp ad E RL) sz) := by
  refine Met.ofW (cc := xb_Ch_begin) (maxL := 3) (ret := none) (by decide) rfl ?_
  intro p e s m args below meth c s₁ B hml hv
  obtain ⟨rfl, hsz, hP, hK, hD0⟩ := hv
  have hx := B.exec
  have hb := B.bytes
  have hr := B.returns
  have hT := x_hT B.pre
  have hown : s.vm.findClass xR_Ch = some m.cls := findClass_of_methodNamed B.named
  have hlocks := B.notSynchronized
  subst hsz
  have hD := hD0.self (sz := s.heap.size)
  generalize hAe : va_A (rp ad E RL) s.heap.size = A at hD ⊢
  have hA : ∀ q : Nat, s.heap.size ≤ q → A q := fun q h => by rw [← hAe]; exact Or.inr h
  have hS : va_S A s.heap s.heap [] := va_S.rf
  have hl := lv_entry ([.ref (ad 0 7), .int fi, .null]) (n := 3) (Nat.le_of_ble_eq_true rfl)
  rw [lg_entry_eq]
  generalize (lg_sl ([.ref (ad 0 7), .int fi, .null]) ++ List.replicate (3 - (lg_sl ([.ref (ad 0 7), .int fi, .null])).length) Slot.unset).toArray = ls at hl ⊢
  have hl : lv_has ls 3 [(0, .ref (ad 0 7)), (1, .int fi), (2, .null)] := hl
  have hP : va_P D xcl (rp ad E RL) s.heap := hP
  refine lv_aload_n hx hb xd_Ch_begin_0 rfl (lv_at hl 0 rfl) ?_
  refine lv_iload_n hx hb xd_Ch_begin_1 rfl (lv_at hl 1 rfl) ?_
  refine px_put (D := D) (ci := 3) (v := .int fi) (ty := .int) (C := xR_Ch) (T := xT_Ch) (N := 5) hx hb hT xi_Ch xt_Ch xt_Ch_ok xn_Ch hown hK.1 hP hD hS ym0 yc0 rfl 3 (by decide) (hT _ yr_0) (fun _ h9 => h9) rfl (by decide +kernel) rfl rfl (Nat.le_of_ble_eq_true rfl) xd_Ch_begin_2 (fun H locs hP hD hS => ?_)
  have hP : va_P D xcl (rp ad (up2 E 0 7 (.inr (3, [.ref (ad 0 5), .ref (ad 0 8), .int (nI cs), .int fi, pv]))) RL) H := hP
  have hD : va_D A (rp ad (up2 E 0 7 (.inr (3, [.ref (ad 0 5), .ref (ad 0 8), .int (nI cs), .int fi, pv]))) RL) := hD
  generalize hE2 : up2 E 0 7 (.inr (3, [.ref (ad 0 5), .ref (ad 0 8), .int (nI cs), .int fi, pv])) = E1 at hP hD
  have fE3 : ∀ b2 o2, ¬ (b2 = 0 ∧ o2 = 7) → E1 b2 o2 = E b2 o2 := fun b2 o2 h9 => by rw [← hE2]; exact up2_ne (nr_or h9)
  have c_4 : E1 0 7 = .inr (3, [.ref (ad 0 5), .ref (ad 0 8), .int (nI cs), .int fi, pv]) := by rw [← hE2]; exact up2_eq
  refine lv_aload_n hx hb xd_Ch_begin_5 rfl (lv_at hl 0 rfl) ?_
  refine lv_aload_nN hx hb xd_Ch_begin_6 rfl (lv_at hl 2 rfl) ?_
  refine px_put (D := D) (ci := 3) (v := .null) (ty := .object "LayerDesk$Layer") (C := xR_Ch) (T := xT_Ch) (N := 5) hx hb hT xi_Ch xt_Ch xt_Ch_ok xn_Ch hown hK.1 hP hD hS ym0 c_4 rfl 4 (by decide) (hT _ yr_1) (fun _ h9 => h9) rfl (by decide +kernel) rfl rfl (Nat.le_of_ble_eq_true rfl) xd_Ch_begin_7 (fun H locs hP hD hS => ?_)
  have hP : va_P D xcl (rp ad (up2 E1 0 7 (.inr (3, [.ref (ad 0 5), .ref (ad 0 8), .int (nI cs), .int fi, .null]))) RL) H := hP
  have hD : va_D A (rp ad (up2 E1 0 7 (.inr (3, [.ref (ad 0 5), .ref (ad 0 8), .int (nI cs), .int fi, .null]))) RL) := hD
  generalize hE6 : up2 E1 0 7 (.inr (3, [.ref (ad 0 5), .ref (ad 0 8), .int (nI cs), .int fi, .null])) = E5 at hP hD
  have fE7 : ∀ b2 o2, ¬ (b2 = 0 ∧ o2 = 7) → E5 b2 o2 = E1 b2 o2 := fun b2 o2 h9 => by rw [← hE6]; exact up2_ne (nr_or h9)
  have c_8 : E5 0 7 = .inr (3, [.ref (ad 0 5), .ref (ad 0 8), .int (nI cs), .int fi, .null]) := by rw [← hE6]; exact up2_eq
  refine lv_aload_n hx hb xd_Ch_begin_10 rfl (lv_at hl 0 rfl) ?_
  refine lv_iconst (v := 0) hx hb xd_Ch_begin_11 (by decide) ?_
  refine px_put (D := D) (ci := 3) (v := .int 0) (ty := .int) (C := xR_Ch) (T := xT_Ch) (N := 5) hx hb hT xi_Ch xt_Ch xt_Ch_ok xn_Ch hown hK.1 hP hD hS ym0 c_8 rfl 2 (by decide) (hT _ yr_2) (fun _ h9 => h9) rfl (by decide +kernel) rfl rfl (Nat.le_of_ble_eq_true rfl) xd_Ch_begin_12 (fun H locs hP hD hS => ?_)
  have hP : va_P D xcl (rp ad (up2 E5 0 7 (.inr (3, [.ref (ad 0 5), .ref (ad 0 8), .int 0, .int fi, .null]))) RL) H := hP
  have hD : va_D A (rp ad (up2 E5 0 7 (.inr (3, [.ref (ad 0 5), .ref (ad 0 8), .int 0, .int fi, .null]))) RL) := hD
  generalize hE10 : up2 E5 0 7 (.inr (3, [.ref (ad 0 5), .ref (ad 0 8), .int 0, .int fi, .null])) = E9 at hP hD
  have fE11 : ∀ b2 o2, ¬ (b2 = 0 ∧ o2 = 7) → E9 b2 o2 = E5 b2 o2 := fun b2 o2 h9 => by rw [← hE10]; exact up2_ne (nr_or h9)
  have c_12 : E9 0 7 = .inr (3, [.ref (ad 0 5), .ref (ad 0 8), .int 0, .int fi, .null]) := by rw [← hE10]; exact up2_eq
  exact W.vret hx hb hr (fun t ht hW => ⟨⟨E9, rfl, ⟨trivial, c_12, (fun b2 o2 h09 => by show E9 b2 o2 = _; rw [fE11 b2 o2 (by omega), fE7 b2 o2 (by omega), fE3 b2 o2 (by omega)])⟩, by rw [ht]; exact hP, hD⟩, hS.F ht⟩) hS.2.2 xd_Ch_begin_15
set_option maxHeartbeats 4000000 in
set_option maxRecDepth 100000 in
theorem xc_Ch_beginR (l : Launch) (D : va_G) (kA : Nat → ClassId) (sz : Nat) (ad : Nat → Nat → Nat) (E : Nat → Nat → va_E) (RL : List (Nat × Nat)) (cs : Nat) (cf : Int32) (pv : Value) (fi : Int32) (pa : Nat) (ym0 : (0, 7) ∈ RL) (yc0 : E 0 7 = .inr (3, [.ref (ad 0 5), .ref (ad 0 8), .int (nI cs), .int cf, pv])) : Met l xy_Ch_begin (.code xy_Ch_begin xb_Ch_begin 3 none :: wT) { frames := 0, cells := 0, slots := 0, locals := 0 } (va_Pc [.ref (ad 0 7), .int fi, .ref pa] (xPre D kA sz (rp ad E RL))) (va_Qv (fun (u : Nat → Nat → va_E) => (True) ∧ (u 0 7 = .inr (3, [.ref (ad 0 5), .ref (ad 0 8), .int 0, .int fi, .ref pa])) ∧ ((∀ b2 o2, ¬ (b2 = 0 ∧ o2 = 7) → u b2 o2 = E b2 o2))) (fun (u : Nat → Nat → va_E) t => va_P D xcl (rp ad u RL) t.heap ∧ va_D (va_A (rp ad E RL) sz) (rp ad u RL)) (va_A (rp ad E RL) sz)) 0 0 (va_A (rp ad E RL) sz) := by
  refine Met.ofW (cc := xb_Ch_begin) (maxL := 3) (ret := none) (by decide) rfl ?_
  intro p e s m args below meth c s₁ B hml hv
  obtain ⟨rfl, hsz, hP, hK, hD0⟩ := hv
  have hx := B.exec
  have hb := B.bytes
  have hr := B.returns
  have hT := x_hT B.pre
  have hown : s.vm.findClass xR_Ch = some m.cls := findClass_of_methodNamed B.named
  have hlocks := B.notSynchronized
  subst hsz
  have hD := hD0.self (sz := s.heap.size)
  generalize hAe : va_A (rp ad E RL) s.heap.size = A at hD ⊢
  have hA : ∀ q : Nat, s.heap.size ≤ q → A q := fun q h => by rw [← hAe]; exact Or.inr h
  have hS : va_S A s.heap s.heap [] := va_S.rf
  have hl := lv_entry ([.ref (ad 0 7), .int fi, .ref pa]) (n := 3) (Nat.le_of_ble_eq_true rfl)
  rw [lg_entry_eq]
  generalize (lg_sl ([.ref (ad 0 7), .int fi, .ref pa]) ++ List.replicate (3 - (lg_sl ([.ref (ad 0 7), .int fi, .ref pa])).length) Slot.unset).toArray = ls at hl ⊢
  have hl : lv_has ls 3 [(0, .ref (ad 0 7)), (1, .int fi), (2, .ref pa)] := hl
  have hP : va_P D xcl (rp ad E RL) s.heap := hP
  refine lv_aload_n hx hb xd_Ch_begin_0 rfl (lv_at hl 0 rfl) ?_
  refine lv_iload_n hx hb xd_Ch_begin_1 rfl (lv_at hl 1 rfl) ?_
  refine px_put (D := D) (ci := 3) (v := .int fi) (ty := .int) (C := xR_Ch) (T := xT_Ch) (N := 5) hx hb hT xi_Ch xt_Ch xt_Ch_ok xn_Ch hown hK.1 hP hD hS ym0 yc0 rfl 3 (by decide) (hT _ yr_0) (fun _ h9 => h9) rfl (by decide +kernel) rfl rfl (Nat.le_of_ble_eq_true rfl) xd_Ch_begin_2 (fun H locs hP hD hS => ?_)
  have hP : va_P D xcl (rp ad (up2 E 0 7 (.inr (3, [.ref (ad 0 5), .ref (ad 0 8), .int (nI cs), .int fi, pv]))) RL) H := hP
  have hD : va_D A (rp ad (up2 E 0 7 (.inr (3, [.ref (ad 0 5), .ref (ad 0 8), .int (nI cs), .int fi, pv]))) RL) := hD
  generalize hE2 : up2 E 0 7 (.inr (3, [.ref (ad 0 5), .ref (ad 0 8), .int (nI cs), .int fi, pv])) = E1 at hP hD
  have fE3 : ∀ b2 o2, ¬ (b2 = 0 ∧ o2 = 7) → E1 b2 o2 = E b2 o2 := fun b2 o2 h9 => by rw [← hE2]; exact up2_ne (nr_or h9)
  have c_4 : E1 0 7 = .inr (3, [.ref (ad 0 5), .ref (ad 0 8), .int (nI cs), .int fi, pv]) := by rw [← hE2]; exact up2_eq
  refine lv_aload_n hx hb xd_Ch_begin_5 rfl (lv_at hl 0 rfl) ?_
  refine lv_aload_n hx hb xd_Ch_begin_6 rfl (lv_at hl 2 rfl) ?_
  refine px_put (D := D) (ci := 3) (v := .ref pa) (ty := .object "LayerDesk$Layer") (C := xR_Ch) (T := xT_Ch) (N := 5) hx hb hT xi_Ch xt_Ch xt_Ch_ok xn_Ch hown hK.1 hP hD hS ym0 c_4 rfl 4 (by decide) (hT _ yr_1) (fun _ h9 => h9) rfl (by decide +kernel) rfl rfl (Nat.le_of_ble_eq_true rfl) xd_Ch_begin_7 (fun H locs hP hD hS => ?_)
  have hP : va_P D xcl (rp ad (up2 E1 0 7 (.inr (3, [.ref (ad 0 5), .ref (ad 0 8), .int (nI cs), .int fi, .ref pa]))) RL) H := hP
  have hD : va_D A (rp ad (up2 E1 0 7 (.inr (3, [.ref (ad 0 5), .ref (ad 0 8), .int (nI cs), .int fi, .ref pa]))) RL) := hD
  generalize hE6 : up2 E1 0 7 (.inr (3, [.ref (ad 0 5), .ref (ad 0 8), .int (nI cs), .int fi, .ref pa])) = E5 at hP hD
  have fE7 : ∀ b2 o2, ¬ (b2 = 0 ∧ o2 = 7) → E5 b2 o2 = E1 b2 o2 := fun b2 o2 h9 => by rw [← hE6]; exact up2_ne (nr_or h9)
  have c_8 : E5 0 7 = .inr (3, [.ref (ad 0 5), .ref (ad 0 8), .int (nI cs), .int fi, .ref pa]) := by rw [← hE6]; exact up2_eq
  refine lv_aload_n hx hb xd_Ch_begin_10 rfl (lv_at hl 0 rfl) ?_
  refine lv_iconst (v := 0) hx hb xd_Ch_begin_11 (by decide) ?_
  refine px_put (D := D) (ci := 3) (v := .int 0) (ty := .int) (C := xR_Ch) (T := xT_Ch) (N := 5) hx hb hT xi_Ch xt_Ch xt_Ch_ok xn_Ch hown hK.1 hP hD hS ym0 c_8 rfl 2 (by decide) (hT _ yr_2) (fun _ h9 => h9) rfl (by decide +kernel) rfl rfl (Nat.le_of_ble_eq_true rfl) xd_Ch_begin_12 (fun H locs hP hD hS => ?_)
  have hP : va_P D xcl (rp ad (up2 E5 0 7 (.inr (3, [.ref (ad 0 5), .ref (ad 0 8), .int 0, .int fi, .ref pa]))) RL) H := hP
  have hD : va_D A (rp ad (up2 E5 0 7 (.inr (3, [.ref (ad 0 5), .ref (ad 0 8), .int 0, .int fi, .ref pa]))) RL) := hD
  generalize hE10 : up2 E5 0 7 (.inr (3, [.ref (ad 0 5), .ref (ad 0 8), .int 0, .int fi, .ref pa])) = E9 at hP hD
  have fE11 : ∀ b2 o2, ¬ (b2 = 0 ∧ o2 = 7) → E9 b2 o2 = E5 b2 o2 := fun b2 o2 h9 => by rw [← hE10]; exact up2_ne (nr_or h9)
  have c_12 : E9 0 7 = .inr (3, [.ref (ad 0 5), .ref (ad 0 8), .int 0, .int fi, .ref pa]) := by rw [← hE10]; exact up2_eq
  exact W.vret hx hb hr (fun t ht hW => ⟨⟨E9, rfl, ⟨trivial, c_12, (fun b2 o2 h09 => by show E9 b2 o2 = _; rw [fE11 b2 o2 (by omega), fE7 b2 o2 (by omega), fE3 b2 o2 (by omega)])⟩, by rw [ht]; exact hP, hD⟩, hS.F ht⟩) hS.2.2 xd_Ch_begin_15
abbrev xb_Ch_addName : ByteArray := prog_2_method_6_code
def xy_Ch_addName : MethodName := ⟨"LayerDesk$Chooser", "addName", "(II)Z"⟩
theorem xd_Ch_addName_0 : decode xb_Ch_addName 0 = .ok (.aload_n 0, 1) := by decide +kernel
theorem xd_Ch_addName_1 : decode xb_Ch_addName 1 = .ok (.getfield 28, 3) := by decide +kernel
theorem xd_Ch_addName_4 : decode xb_Ch_addName 4 = .ok (.aload_n 0, 1) := by decide +kernel
theorem xd_Ch_addName_5 : decode xb_Ch_addName 5 = .ok (.getfield 21, 3) := by decide +kernel
theorem xd_Ch_addName_8 : decode xb_Ch_addName 8 = .ok (.iload_n 1, 1) := by decide +kernel
theorem xd_Ch_addName_9 : decode xb_Ch_addName 9 = .ok (.invokevirtual 56, 3) := by decide +kernel
theorem xd_Ch_addName_12 : decode xb_Ch_addName 12 = .ok (.astore_n 3, 1) := by decide +kernel
theorem xd_Ch_addName_13 : decode xb_Ch_addName 13 = .ok (.aload_n 3, 1) := by decide +kernel
theorem xd_Ch_addName_14 : decode xb_Ch_addName 14 = .ok (.ifnonnull 27, 3) := by decide +kernel
theorem xd_Ch_addName_17 : decode xb_Ch_addName 17 = .ok (.aload_n 0, 1) := by decide +kernel
theorem xd_Ch_addName_18 : decode xb_Ch_addName 18 = .ok (.getfield 24, 3) := by decide +kernel
theorem xd_Ch_addName_21 : decode xb_Ch_addName 21 = .ok (.ifnull 18, 3) := by decide +kernel
theorem xd_Ch_addName_24 : decode xb_Ch_addName 24 = .ok (.aload_n 0, 1) := by decide +kernel
theorem xd_Ch_addName_25 : decode xb_Ch_addName 25 = .ok (.getfield 24, 3) := by decide +kernel
theorem xd_Ch_addName_28 : decode xb_Ch_addName 28 = .ok (.iload_n 1, 1) := by decide +kernel
theorem xd_Ch_addName_29 : decode xb_Ch_addName 29 = .ok (.invokevirtual 62, 3) := by decide +kernel
theorem xd_Ch_addName_32 : decode xb_Ch_addName 32 = .ok (.ifnull 7, 3) := by decide +kernel
theorem xd_Ch_addName_35 : decode xb_Ch_addName 35 = .ok (.iconst 1, 1) := by decide +kernel
theorem xd_Ch_addName_36 : decode xb_Ch_addName 36 = .ok (.goto 4, 3) := by decide +kernel
theorem xd_Ch_addName_39 : decode xb_Ch_addName 39 = .ok (.iconst 0, 1) := by decide +kernel
theorem xd_Ch_addName_40 : decode xb_Ch_addName 40 = .ok (.ireturn, 1) := by decide +kernel
theorem xd_Ch_addName_41 : decode xb_Ch_addName 41 = .ok (.aload_n 0, 1) := by decide +kernel
theorem xd_Ch_addName_42 : decode xb_Ch_addName 42 = .ok (.aload_n 3, 1) := by decide +kernel
theorem xd_Ch_addName_43 : decode xb_Ch_addName 43 = .ok (.invokevirtual 66, 3) := by decide +kernel
theorem xd_Ch_addName_46 : decode xb_Ch_addName 46 = .ok (.ifCond .eq 5, 3) := by decide +kernel
theorem xd_Ch_addName_49 : decode xb_Ch_addName 49 = .ok (.iconst 1, 1) := by decide +kernel
theorem xd_Ch_addName_50 : decode xb_Ch_addName 50 = .ok (.ireturn, 1) := by decide +kernel
theorem xd_Ch_addName_51 : decode xb_Ch_addName 51 = .ok (.aload_n 0, 1) := by decide +kernel
theorem xd_Ch_addName_52 : decode xb_Ch_addName 52 = .ok (.getfield 17, 3) := by decide +kernel
theorem xd_Ch_addName_55 : decode xb_Ch_addName 55 = .ok (.bipush 12, 2) := by decide +kernel
theorem xd_Ch_addName_57 : decode xb_Ch_addName 57 = .ok (.if_icmp .ge 9, 3) := by decide +kernel
theorem xd_Ch_addName_60 : decode xb_Ch_addName 60 = .ok (.iload_n 2, 1) := by decide +kernel
theorem xd_Ch_addName_61 : decode xb_Ch_addName 61 = .ok (.bipush 12, 2) := by decide +kernel
theorem xd_Ch_addName_63 : decode xb_Ch_addName 63 = .ok (.if_icmp .lt 5, 3) := by decide +kernel
theorem xd_Ch_addName_66 : decode xb_Ch_addName 66 = .ok (.iconst 0, 1) := by decide +kernel
theorem xd_Ch_addName_67 : decode xb_Ch_addName 67 = .ok (.ireturn, 1) := by decide +kernel
theorem xd_Ch_addName_68 : decode xb_Ch_addName 68 = .ok (.aload_n 0, 1) := by decide +kernel
theorem xd_Ch_addName_69 : decode xb_Ch_addName 69 = .ok (.getfield 11, 3) := by decide +kernel
theorem xd_Ch_addName_72 : decode xb_Ch_addName 72 = .ok (.aload_n 0, 1) := by decide +kernel
theorem xd_Ch_addName_73 : decode xb_Ch_addName 73 = .ok (.getfield 17, 3) := by decide +kernel
theorem xd_Ch_addName_76 : decode xb_Ch_addName 76 = .ok (.aload_n 3, 1) := by decide +kernel
theorem xd_Ch_addName_77 : decode xb_Ch_addName 77 = .ok (.aastore, 1) := by decide +kernel
theorem xd_Ch_addName_78 : decode xb_Ch_addName 78 = .ok (.aload_n 0, 1) := by decide +kernel
theorem xd_Ch_addName_79 : decode xb_Ch_addName 79 = .ok (.dup, 1) := by decide +kernel
theorem xd_Ch_addName_80 : decode xb_Ch_addName 80 = .ok (.getfield 17, 3) := by decide +kernel
theorem xd_Ch_addName_83 : decode xb_Ch_addName 83 = .ok (.iconst 1, 1) := by decide +kernel
theorem xd_Ch_addName_84 : decode xb_Ch_addName 84 = .ok (.iadd, 1) := by decide +kernel
theorem xd_Ch_addName_85 : decode xb_Ch_addName 85 = .ok (.putfield 17, 3) := by decide +kernel
theorem xd_Ch_addName_88 : decode xb_Ch_addName 88 = .ok (.iconst 0, 1) := by decide +kernel
theorem xd_Ch_addName_89 : decode xb_Ch_addName 89 = .ok (.istore 4, 2) := by decide +kernel
theorem xd_Ch_addName_91 : decode xb_Ch_addName 91 = .ok (.iload 4, 2) := by decide +kernel
theorem xd_Ch_addName_93 : decode xb_Ch_addName 93 = .ok (.aload_n 3, 1) := by decide +kernel
theorem xd_Ch_addName_94 : decode xb_Ch_addName 94 = .ok (.getfield 70, 3) := by decide +kernel
theorem xd_Ch_addName_97 : decode xb_Ch_addName 97 = .ok (.getfield 74, 3) := by decide +kernel
theorem xd_Ch_addName_100 : decode xb_Ch_addName 100 = .ok (.if_icmp .ge 40, 3) := by decide +kernel
theorem xd_Ch_addName_103 : decode xb_Ch_addName 103 = .ok (.aload_n 3, 1) := by decide +kernel
theorem xd_Ch_addName_104 : decode xb_Ch_addName 104 = .ok (.getfield 77, 3) := by decide +kernel
theorem xd_Ch_addName_107 : decode xb_Ch_addName 107 = .ok (.iload 4, 2) := by decide +kernel
theorem xd_Ch_addName_109 : decode xb_Ch_addName 109 = .ok (.baload, 1) := by decide +kernel
theorem xd_Ch_addName_110 : decode xb_Ch_addName 110 = .ok (.ifCond .ne 24, 3) := by decide +kernel
theorem xd_Ch_addName_113 : decode xb_Ch_addName 113 = .ok (.aload_n 0, 1) := by decide +kernel
theorem xd_Ch_addName_114 : decode xb_Ch_addName 114 = .ok (.aload_n 3, 1) := by decide +kernel
theorem xd_Ch_addName_115 : decode xb_Ch_addName 115 = .ok (.getfield 70, 3) := by decide +kernel
theorem xd_Ch_addName_118 : decode xb_Ch_addName 118 = .ok (.iload 4, 2) := by decide +kernel
theorem xd_Ch_addName_120 : decode xb_Ch_addName 120 = .ok (.invokevirtual 81, 3) := by decide +kernel
theorem xd_Ch_addName_123 : decode xb_Ch_addName 123 = .ok (.iload_n 2, 1) := by decide +kernel
theorem xd_Ch_addName_124 : decode xb_Ch_addName 124 = .ok (.iconst 1, 1) := by decide +kernel
theorem xd_Ch_addName_125 : decode xb_Ch_addName 125 = .ok (.iadd, 1) := by decide +kernel
theorem xd_Ch_addName_126 : decode xb_Ch_addName 126 = .ok (.invokevirtual 32, 3) := by decide +kernel
theorem xd_Ch_addName_129 : decode xb_Ch_addName 129 = .ok (.ifCond .ne 5, 3) := by decide +kernel
theorem xd_Ch_addName_132 : decode xb_Ch_addName 132 = .ok (.iconst 0, 1) := by decide +kernel
theorem xd_Ch_addName_133 : decode xb_Ch_addName 133 = .ok (.ireturn, 1) := by decide +kernel
theorem xd_Ch_addName_134 : decode xb_Ch_addName 134 = .ok (.iinc 4 1, 3) := by decide +kernel
theorem xd_Ch_addName_137 : decode xb_Ch_addName 137 = .ok (.goto (-46), 3) := by decide +kernel
theorem xd_Ch_addName_140 : decode xb_Ch_addName 140 = .ok (.iconst 1, 1) := by decide +kernel
theorem xd_Ch_addName_141 : decode xb_Ch_addName 141 = .ok (.ireturn, 1) := by decide +kernel
abbrev xb_Ch_addRoot : ByteArray := prog_2_method_3_code
def xy_Ch_addRoot : MethodName := ⟨"LayerDesk$Chooser", "addRoot", "(I)Z"⟩
abbrev xb_Ch_bindProvidersOf : ByteArray := prog_2_method_10_code
def xy_Ch_bindProvidersOf : MethodName := ⟨"LayerDesk$Chooser", "bindProvidersOf", "(I)V"⟩
abbrev xb_Ch_bindUsesOf : ByteArray := prog_2_method_9_code
def xy_Ch_bindUsesOf : MethodName := ⟨"LayerDesk$Chooser", "bindUsesOf", "(LLayerDesk$Descriptor;)V"⟩
abbrev xb_Ch_bindOnce : ByteArray := prog_2_method_8_code
def xy_Ch_bindOnce : MethodName := ⟨"LayerDesk$Chooser", "bindOnce", "()V"⟩
abbrev xb_Ch_bind : ByteArray := prog_2_method_4_code
def xy_Ch_bind : MethodName := ⟨"LayerDesk$Chooser", "bind", "()V"⟩
abbrev xb_De_addRoots : ByteArray := prog_1_method_18_code
def xy_De_addRoots : MethodName := ⟨"LayerDesk", "addRoots", "()Z"⟩
theorem xd_Ch_addRoot_0 : decode xb_Ch_addRoot 0 = .ok (.aload_n 0, 1) := by decide +kernel
theorem xd_Ch_addRoot_1 : decode xb_Ch_addRoot 1 = .ok (.iload_n 1, 1) := by decide +kernel
theorem xd_Ch_addRoot_2 : decode xb_Ch_addRoot 2 = .ok (.iconst 0, 1) := by decide +kernel
theorem xd_Ch_addRoot_3 : decode xb_Ch_addRoot 3 = .ok (.invokevirtual 32, 3) := by decide +kernel
theorem xd_Ch_addRoot_6 : decode xb_Ch_addRoot 6 = .ok (.ireturn, 1) := by decide +kernel
theorem xd_Ch_bind_0 : decode xb_Ch_bind 0 = .ok (.iconst 0, 1) := by decide +kernel
theorem xd_Ch_bind_1 : decode xb_Ch_bind 1 = .ok (.istore_n 1, 1) := by decide +kernel
theorem xd_Ch_bind_2 : decode xb_Ch_bind 2 = .ok (.iload_n 1, 1) := by decide +kernel
theorem xd_Ch_bind_3 : decode xb_Ch_bind 3 = .ok (.bipush 12, 2) := by decide +kernel
theorem xd_Ch_bind_5 : decode xb_Ch_bind 5 = .ok (.if_icmp .gt 27, 3) := by decide +kernel
theorem xd_Ch_bind_8 : decode xb_Ch_bind 8 = .ok (.aload_n 0, 1) := by decide +kernel
theorem xd_Ch_bind_9 : decode xb_Ch_bind 9 = .ok (.getfield 17, 3) := by decide +kernel
theorem xd_Ch_bind_12 : decode xb_Ch_bind 12 = .ok (.istore_n 2, 1) := by decide +kernel
theorem xd_Ch_bind_13 : decode xb_Ch_bind 13 = .ok (.aload_n 0, 1) := by decide +kernel
theorem xd_Ch_bind_14 : decode xb_Ch_bind 14 = .ok (.invokevirtual 36, 3) := by decide +kernel
theorem xd_Ch_bind_17 : decode xb_Ch_bind 17 = .ok (.aload_n 0, 1) := by decide +kernel
theorem xd_Ch_bind_18 : decode xb_Ch_bind 18 = .ok (.getfield 17, 3) := by decide +kernel
theorem xd_Ch_bind_21 : decode xb_Ch_bind 21 = .ok (.iload_n 2, 1) := by decide +kernel
theorem xd_Ch_bind_22 : decode xb_Ch_bind 22 = .ok (.if_icmp .ne 4, 3) := by decide +kernel
theorem xd_Ch_bind_25 : decode xb_Ch_bind 25 = .ok (.return_, 1) := by decide +kernel
theorem xd_Ch_bind_26 : decode xb_Ch_bind 26 = .ok (.iinc 1 1, 3) := by decide +kernel
theorem xd_Ch_bind_29 : decode xb_Ch_bind 29 = .ok (.goto (-27), 3) := by decide +kernel
theorem xd_Ch_bind_32 : decode xb_Ch_bind 32 = .ok (.return_, 1) := by decide +kernel
theorem xd_Ch_bindOnce_0 : decode xb_Ch_bindOnce 0 = .ok (.iconst 0, 1) := by decide +kernel
theorem xd_Ch_bindOnce_1 : decode xb_Ch_bindOnce 1 = .ok (.istore_n 1, 1) := by decide +kernel
theorem xd_Ch_bindOnce_2 : decode xb_Ch_bindOnce 2 = .ok (.iload_n 1, 1) := by decide +kernel
theorem xd_Ch_bindOnce_3 : decode xb_Ch_bindOnce 3 = .ok (.aload_n 0, 1) := by decide +kernel
theorem xd_Ch_bindOnce_4 : decode xb_Ch_bindOnce 4 = .ok (.getfield 17, 3) := by decide +kernel
theorem xd_Ch_bindOnce_7 : decode xb_Ch_bindOnce 7 = .ok (.if_icmp .ge 25, 3) := by decide +kernel
theorem xd_Ch_bindOnce_10 : decode xb_Ch_bindOnce 10 = .ok (.iload_n 1, 1) := by decide +kernel
theorem xd_Ch_bindOnce_11 : decode xb_Ch_bindOnce 11 = .ok (.bipush 12, 2) := by decide +kernel
theorem xd_Ch_bindOnce_13 : decode xb_Ch_bindOnce 13 = .ok (.if_icmp .ge 19, 3) := by decide +kernel
theorem xd_Ch_bindOnce_16 : decode xb_Ch_bindOnce 16 = .ok (.aload_n 0, 1) := by decide +kernel
theorem xd_Ch_bindOnce_17 : decode xb_Ch_bindOnce 17 = .ok (.aload_n 0, 1) := by decide +kernel
theorem xd_Ch_bindOnce_18 : decode xb_Ch_bindOnce 18 = .ok (.getfield 11, 3) := by decide +kernel
theorem xd_Ch_bindOnce_21 : decode xb_Ch_bindOnce 21 = .ok (.iload_n 1, 1) := by decide +kernel
theorem xd_Ch_bindOnce_22 : decode xb_Ch_bindOnce 22 = .ok (.aaload, 1) := by decide +kernel
theorem xd_Ch_bindOnce_23 : decode xb_Ch_bindOnce 23 = .ok (.invokevirtual 85, 3) := by decide +kernel
theorem xd_Ch_bindOnce_26 : decode xb_Ch_bindOnce 26 = .ok (.iinc 1 1, 3) := by decide +kernel
theorem xd_Ch_bindOnce_29 : decode xb_Ch_bindOnce 29 = .ok (.goto (-27), 3) := by decide +kernel
theorem xd_Ch_bindOnce_32 : decode xb_Ch_bindOnce 32 = .ok (.aload_n 0, 1) := by decide +kernel
theorem xd_Ch_bindOnce_33 : decode xb_Ch_bindOnce 33 = .ok (.getfield 24, 3) := by decide +kernel
theorem xd_Ch_bindOnce_36 : decode xb_Ch_bindOnce 36 = .ok (.astore_n 1, 1) := by decide +kernel
theorem xd_Ch_bindOnce_37 : decode xb_Ch_bindOnce 37 = .ok (.aload_n 1, 1) := by decide +kernel
theorem xd_Ch_bindOnce_38 : decode xb_Ch_bindOnce 38 = .ok (.ifnull 41, 3) := by decide +kernel
theorem xd_Ch_bindOnce_41 : decode xb_Ch_bindOnce 41 = .ok (.iconst 0, 1) := by decide +kernel
theorem xd_Ch_bindOnce_42 : decode xb_Ch_bindOnce 42 = .ok (.istore_n 2, 1) := by decide +kernel
theorem xd_Ch_bindOnce_43 : decode xb_Ch_bindOnce 43 = .ok (.iload_n 2, 1) := by decide +kernel
theorem xd_Ch_bindOnce_44 : decode xb_Ch_bindOnce 44 = .ok (.aload_n 1, 1) := by decide +kernel
theorem xd_Ch_bindOnce_45 : decode xb_Ch_bindOnce 45 = .ok (.getfield 44, 3) := by decide +kernel
theorem xd_Ch_bindOnce_48 : decode xb_Ch_bindOnce 48 = .ok (.arraylength, 1) := by decide +kernel
theorem xd_Ch_bindOnce_49 : decode xb_Ch_bindOnce 49 = .ok (.if_icmp .ge 22, 3) := by decide +kernel
theorem xd_Ch_bindOnce_52 : decode xb_Ch_bindOnce 52 = .ok (.aload_n 0, 1) := by decide +kernel
theorem xd_Ch_bindOnce_53 : decode xb_Ch_bindOnce 53 = .ok (.aload_n 1, 1) := by decide +kernel
theorem xd_Ch_bindOnce_54 : decode xb_Ch_bindOnce 54 = .ok (.getfield 44, 3) := by decide +kernel
theorem xd_Ch_bindOnce_57 : decode xb_Ch_bindOnce 57 = .ok (.iload_n 2, 1) := by decide +kernel
theorem xd_Ch_bindOnce_58 : decode xb_Ch_bindOnce 58 = .ok (.aaload, 1) := by decide +kernel
theorem xd_Ch_bindOnce_59 : decode xb_Ch_bindOnce 59 = .ok (.getfield 89, 3) := by decide +kernel
theorem xd_Ch_bindOnce_62 : decode xb_Ch_bindOnce 62 = .ok (.invokevirtual 85, 3) := by decide +kernel
theorem xd_Ch_bindOnce_65 : decode xb_Ch_bindOnce 65 = .ok (.iinc 2 1, 3) := by decide +kernel
theorem xd_Ch_bindOnce_68 : decode xb_Ch_bindOnce 68 = .ok (.goto (-25), 3) := by decide +kernel
theorem xd_Ch_bindOnce_71 : decode xb_Ch_bindOnce 71 = .ok (.aload_n 1, 1) := by decide +kernel
theorem xd_Ch_bindOnce_72 : decode xb_Ch_bindOnce 72 = .ok (.getfield 93, 3) := by decide +kernel
theorem xd_Ch_bindOnce_75 : decode xb_Ch_bindOnce 75 = .ok (.astore_n 1, 1) := by decide +kernel
theorem xd_Ch_bindOnce_76 : decode xb_Ch_bindOnce 76 = .ok (.goto (-39), 3) := by decide +kernel
theorem xd_Ch_bindOnce_79 : decode xb_Ch_bindOnce 79 = .ok (.return_, 1) := by decide +kernel
theorem xd_Ch_bindProvidersOf_0 : decode xb_Ch_bindProvidersOf 0 = .ok (.iconst 0, 1) := by decide +kernel
theorem xd_Ch_bindProvidersOf_1 : decode xb_Ch_bindProvidersOf 1 = .ok (.istore_n 2, 1) := by decide +kernel
theorem xd_Ch_bindProvidersOf_2 : decode xb_Ch_bindProvidersOf 2 = .ok (.iload_n 2, 1) := by decide +kernel
theorem xd_Ch_bindProvidersOf_3 : decode xb_Ch_bindProvidersOf 3 = .ok (.aload_n 0, 1) := by decide +kernel
theorem xd_Ch_bindProvidersOf_4 : decode xb_Ch_bindProvidersOf 4 = .ok (.getfield 28, 3) := by decide +kernel
theorem xd_Ch_bindProvidersOf_7 : decode xb_Ch_bindProvidersOf 7 = .ok (.getfield 101, 3) := by decide +kernel
theorem xd_Ch_bindProvidersOf_10 : decode xb_Ch_bindProvidersOf 10 = .ok (.if_icmp .ge 73, 3) := by decide +kernel
theorem xd_Ch_bindProvidersOf_13 : decode xb_Ch_bindProvidersOf 13 = .ok (.aload_n 0, 1) := by decide +kernel
theorem xd_Ch_bindProvidersOf_14 : decode xb_Ch_bindProvidersOf 14 = .ok (.getfield 28, 3) := by decide +kernel
theorem xd_Ch_bindProvidersOf_17 : decode xb_Ch_bindProvidersOf 17 = .ok (.getfield 102, 3) := by decide +kernel
theorem xd_Ch_bindProvidersOf_20 : decode xb_Ch_bindProvidersOf 20 = .ok (.iload_n 2, 1) := by decide +kernel
theorem xd_Ch_bindProvidersOf_21 : decode xb_Ch_bindProvidersOf 21 = .ok (.aaload, 1) := by decide +kernel
theorem xd_Ch_bindProvidersOf_22 : decode xb_Ch_bindProvidersOf 22 = .ok (.astore_n 3, 1) := by decide +kernel
theorem xd_Ch_bindProvidersOf_23 : decode xb_Ch_bindProvidersOf 23 = .ok (.aload_n 0, 1) := by decide +kernel
theorem xd_Ch_bindProvidersOf_24 : decode xb_Ch_bindProvidersOf 24 = .ok (.getfield 17, 3) := by decide +kernel
theorem xd_Ch_bindProvidersOf_27 : decode xb_Ch_bindProvidersOf 27 = .ok (.istore 4, 2) := by decide +kernel
theorem xd_Ch_bindProvidersOf_29 : decode xb_Ch_bindProvidersOf 29 = .ok (.aload_n 3, 1) := by decide +kernel
theorem xd_Ch_bindProvidersOf_30 : decode xb_Ch_bindProvidersOf 30 = .ok (.getfield 105, 3) := by decide +kernel
theorem xd_Ch_bindProvidersOf_33 : decode xb_Ch_bindProvidersOf 33 = .ok (.aload_n 0, 1) := by decide +kernel
theorem xd_Ch_bindProvidersOf_34 : decode xb_Ch_bindProvidersOf 34 = .ok (.getfield 21, 3) := by decide +kernel
theorem xd_Ch_bindProvidersOf_37 : decode xb_Ch_bindProvidersOf 37 = .ok (.if_icmp .ne 40, 3) := by decide +kernel
theorem xd_Ch_bindProvidersOf_40 : decode xb_Ch_bindProvidersOf 40 = .ok (.aload_n 3, 1) := by decide +kernel
theorem xd_Ch_bindProvidersOf_41 : decode xb_Ch_bindProvidersOf 41 = .ok (.getfield 106, 3) := by decide +kernel
theorem xd_Ch_bindProvidersOf_44 : decode xb_Ch_bindProvidersOf 44 = .ok (.iload_n 1, 1) := by decide +kernel
theorem xd_Ch_bindProvidersOf_45 : decode xb_Ch_bindProvidersOf 45 = .ok (.invokevirtual 109, 3) := by decide +kernel
theorem xd_Ch_bindProvidersOf_48 : decode xb_Ch_bindProvidersOf 48 = .ok (.ifCond .eq 29, 3) := by decide +kernel
theorem xd_Ch_bindProvidersOf_51 : decode xb_Ch_bindProvidersOf 51 = .ok (.aload_n 0, 1) := by decide +kernel
theorem xd_Ch_bindProvidersOf_52 : decode xb_Ch_bindProvidersOf 52 = .ok (.aload_n 3, 1) := by decide +kernel
theorem xd_Ch_bindProvidersOf_53 : decode xb_Ch_bindProvidersOf 53 = .ok (.invokevirtual 66, 3) := by decide +kernel
theorem xd_Ch_bindProvidersOf_56 : decode xb_Ch_bindProvidersOf 56 = .ok (.ifCond .ne 21, 3) := by decide +kernel
theorem xd_Ch_bindProvidersOf_59 : decode xb_Ch_bindProvidersOf 59 = .ok (.aload_n 0, 1) := by decide +kernel
theorem xd_Ch_bindProvidersOf_60 : decode xb_Ch_bindProvidersOf 60 = .ok (.aload_n 3, 1) := by decide +kernel
theorem xd_Ch_bindProvidersOf_61 : decode xb_Ch_bindProvidersOf 61 = .ok (.getfield 113, 3) := by decide +kernel
theorem xd_Ch_bindProvidersOf_64 : decode xb_Ch_bindProvidersOf 64 = .ok (.iconst 0, 1) := by decide +kernel
theorem xd_Ch_bindProvidersOf_65 : decode xb_Ch_bindProvidersOf 65 = .ok (.invokevirtual 32, 3) := by decide +kernel
theorem xd_Ch_bindProvidersOf_68 : decode xb_Ch_bindProvidersOf 68 = .ok (.ifCond .ne 9, 3) := by decide +kernel
theorem xd_Ch_bindProvidersOf_71 : decode xb_Ch_bindProvidersOf 71 = .ok (.aload_n 0, 1) := by decide +kernel
theorem xd_Ch_bindProvidersOf_72 : decode xb_Ch_bindProvidersOf 72 = .ok (.iload 4, 2) := by decide +kernel
theorem xd_Ch_bindProvidersOf_74 : decode xb_Ch_bindProvidersOf 74 = .ok (.putfield 17, 3) := by decide +kernel
theorem xd_Ch_bindProvidersOf_77 : decode xb_Ch_bindProvidersOf 77 = .ok (.iinc 2 1, 3) := by decide +kernel
theorem xd_Ch_bindProvidersOf_80 : decode xb_Ch_bindProvidersOf 80 = .ok (.goto (-78), 3) := by decide +kernel
theorem xd_Ch_bindProvidersOf_83 : decode xb_Ch_bindProvidersOf 83 = .ok (.return_, 1) := by decide +kernel
theorem xd_Ch_bindUsesOf_0 : decode xb_Ch_bindUsesOf 0 = .ok (.iconst 0, 1) := by decide +kernel
theorem xd_Ch_bindUsesOf_1 : decode xb_Ch_bindUsesOf 1 = .ok (.istore_n 2, 1) := by decide +kernel
theorem xd_Ch_bindUsesOf_2 : decode xb_Ch_bindUsesOf 2 = .ok (.iload_n 2, 1) := by decide +kernel
theorem xd_Ch_bindUsesOf_3 : decode xb_Ch_bindUsesOf 3 = .ok (.aload_n 1, 1) := by decide +kernel
theorem xd_Ch_bindUsesOf_4 : decode xb_Ch_bindUsesOf 4 = .ok (.getfield 94, 3) := by decide +kernel
theorem xd_Ch_bindUsesOf_7 : decode xb_Ch_bindUsesOf 7 = .ok (.getfield 74, 3) := by decide +kernel
theorem xd_Ch_bindUsesOf_10 : decode xb_Ch_bindUsesOf 10 = .ok (.if_icmp .ge 21, 3) := by decide +kernel
theorem xd_Ch_bindUsesOf_13 : decode xb_Ch_bindUsesOf 13 = .ok (.aload_n 0, 1) := by decide +kernel
theorem xd_Ch_bindUsesOf_14 : decode xb_Ch_bindUsesOf 14 = .ok (.aload_n 1, 1) := by decide +kernel
theorem xd_Ch_bindUsesOf_15 : decode xb_Ch_bindUsesOf 15 = .ok (.getfield 94, 3) := by decide +kernel
theorem xd_Ch_bindUsesOf_18 : decode xb_Ch_bindUsesOf 18 = .ok (.iload_n 2, 1) := by decide +kernel
theorem xd_Ch_bindUsesOf_19 : decode xb_Ch_bindUsesOf 19 = .ok (.invokevirtual 81, 3) := by decide +kernel
theorem xd_Ch_bindUsesOf_22 : decode xb_Ch_bindUsesOf 22 = .ok (.invokevirtual 97, 3) := by decide +kernel
theorem xd_Ch_bindUsesOf_25 : decode xb_Ch_bindUsesOf 25 = .ok (.iinc 2 1, 3) := by decide +kernel
theorem xd_Ch_bindUsesOf_28 : decode xb_Ch_bindUsesOf 28 = .ok (.goto (-26), 3) := by decide +kernel
theorem xd_Ch_bindUsesOf_31 : decode xb_Ch_bindUsesOf 31 = .ok (.return_, 1) := by decide +kernel
theorem xd_De_addRoots_0 : decode xb_De_addRoots 0 = .ok (.iconst 0, 1) := by decide +kernel
theorem xd_De_addRoots_1 : decode xb_De_addRoots 1 = .ok (.istore_n 1, 1) := by decide +kernel
theorem xd_De_addRoots_2 : decode xb_De_addRoots 2 = .ok (.iload_n 1, 1) := by decide +kernel
theorem xd_De_addRoots_3 : decode xb_De_addRoots 3 = .ok (.aload_n 0, 1) := by decide +kernel
theorem xd_De_addRoots_4 : decode xb_De_addRoots 4 = .ok (.getfield 10, 3) := by decide +kernel
theorem xd_De_addRoots_7 : decode xb_De_addRoots 7 = .ok (.getfield 198, 3) := by decide +kernel
theorem xd_De_addRoots_10 : decode xb_De_addRoots 10 = .ok (.if_icmp .ge 29, 3) := by decide +kernel
theorem xd_De_addRoots_13 : decode xb_De_addRoots 13 = .ok (.aload_n 0, 1) := by decide +kernel
theorem xd_De_addRoots_14 : decode xb_De_addRoots 14 = .ok (.getfield 28, 3) := by decide +kernel
theorem xd_De_addRoots_17 : decode xb_De_addRoots 17 = .ok (.aload_n 0, 1) := by decide +kernel
theorem xd_De_addRoots_18 : decode xb_De_addRoots 18 = .ok (.getfield 10, 3) := by decide +kernel
theorem xd_De_addRoots_21 : decode xb_De_addRoots 21 = .ok (.iload_n 1, 1) := by decide +kernel
theorem xd_De_addRoots_22 : decode xb_De_addRoots 22 = .ok (.invokevirtual 201, 3) := by decide +kernel
theorem xd_De_addRoots_25 : decode xb_De_addRoots 25 = .ok (.invokevirtual 205, 3) := by decide +kernel
theorem xd_De_addRoots_28 : decode xb_De_addRoots 28 = .ok (.ifCond .ne 5, 3) := by decide +kernel
theorem xd_De_addRoots_31 : decode xb_De_addRoots 31 = .ok (.iconst 0, 1) := by decide +kernel
theorem xd_De_addRoots_32 : decode xb_De_addRoots 32 = .ok (.ireturn, 1) := by decide +kernel
theorem xd_De_addRoots_33 : decode xb_De_addRoots 33 = .ok (.iinc 1 1, 3) := by decide +kernel
theorem xd_De_addRoots_36 : decode xb_De_addRoots 36 = .ok (.goto (-34), 3) := by decide +kernel
theorem xd_De_addRoots_39 : decode xb_De_addRoots 39 = .ok (.iconst 1, 1) := by decide +kernel
theorem xd_De_addRoots_40 : decode xb_De_addRoots 40 = .ok (.ireturn, 1) := by decide +kernel
abbrev xb_Me_takeFirstSteps : ByteArray := prog_7_method_2_code
def xy_Me_takeFirstSteps : MethodName := ⟨"LayerDesk$Member", "takeFirstSteps", "()V"⟩
theorem xd_Me_takeFirstSteps_0 : decode xb_Me_takeFirstSteps 0 = .ok (.iconst 0, 1) := by decide +kernel
theorem xd_Me_takeFirstSteps_1 : decode xb_Me_takeFirstSteps 1 = .ok (.istore_n 1, 1) := by decide +kernel
theorem xd_Me_takeFirstSteps_2 : decode xb_Me_takeFirstSteps 2 = .ok (.iload_n 1, 1) := by decide +kernel
theorem xd_Me_takeFirstSteps_3 : decode xb_Me_takeFirstSteps 3 = .ok (.aload_n 0, 1) := by decide +kernel
theorem xd_Me_takeFirstSteps_4 : decode xb_Me_takeFirstSteps 4 = .ok (.getfield 44, 3) := by decide +kernel
theorem xd_Me_takeFirstSteps_7 : decode xb_Me_takeFirstSteps 7 = .ok (.arraylength, 1) := by decide +kernel
theorem xd_Me_takeFirstSteps_8 : decode xb_Me_takeFirstSteps 8 = .ok (.if_icmp .ge 105, 3) := by decide +kernel
theorem xd_Me_takeFirstSteps_11 : decode xb_Me_takeFirstSteps 11 = .ok (.aload_n 0, 1) := by decide +kernel
theorem xd_Me_takeFirstSteps_12 : decode xb_Me_takeFirstSteps 12 = .ok (.getfield 24, 3) := by decide +kernel
theorem xd_Me_takeFirstSteps_15 : decode xb_Me_takeFirstSteps 15 = .ok (.aload_n 0, 1) := by decide +kernel
theorem xd_Me_takeFirstSteps_16 : decode xb_Me_takeFirstSteps 16 = .ok (.getfield 28, 3) := by decide +kernel
theorem xd_Me_takeFirstSteps_19 : decode xb_Me_takeFirstSteps 19 = .ok (.getfield 32, 3) := by decide +kernel
theorem xd_Me_takeFirstSteps_22 : decode xb_Me_takeFirstSteps 22 = .ok (.iload_n 1, 1) := by decide +kernel
theorem xd_Me_takeFirstSteps_23 : decode xb_Me_takeFirstSteps 23 = .ok (.invokevirtual 47, 3) := by decide +kernel
theorem xd_Me_takeFirstSteps_26 : decode xb_Me_takeFirstSteps 26 = .ok (.invokevirtual 51, 3) := by decide +kernel
theorem xd_Me_takeFirstSteps_29 : decode xb_Me_takeFirstSteps 29 = .ok (.astore_n 2, 1) := by decide +kernel
theorem xd_Me_takeFirstSteps_30 : decode xb_Me_takeFirstSteps 30 = .ok (.aload_n 0, 1) := by decide +kernel
theorem xd_Me_takeFirstSteps_31 : decode xb_Me_takeFirstSteps 31 = .ok (.getfield 44, 3) := by decide +kernel
theorem xd_Me_takeFirstSteps_34 : decode xb_Me_takeFirstSteps 34 = .ok (.iload_n 1, 1) := by decide +kernel
theorem xd_Me_takeFirstSteps_35 : decode xb_Me_takeFirstSteps 35 = .ok (.aload_n 2, 1) := by decide +kernel
theorem xd_Me_takeFirstSteps_36 : decode xb_Me_takeFirstSteps 36 = .ok (.aastore, 1) := by decide +kernel
theorem xd_Me_takeFirstSteps_37 : decode xb_Me_takeFirstSteps 37 = .ok (.aload_n 2, 1) := by decide +kernel
theorem xd_Me_takeFirstSteps_38 : decode xb_Me_takeFirstSteps 38 = .ok (.ifnull 23, 3) := by decide +kernel
theorem xd_Me_takeFirstSteps_41 : decode xb_Me_takeFirstSteps 41 = .ok (.aload_n 0, 1) := by decide +kernel
theorem xd_Me_takeFirstSteps_42 : decode xb_Me_takeFirstSteps 42 = .ok (.getfield 28, 3) := by decide +kernel
theorem xd_Me_takeFirstSteps_45 : decode xb_Me_takeFirstSteps 45 = .ok (.getfield 57, 3) := by decide +kernel
theorem xd_Me_takeFirstSteps_48 : decode xb_Me_takeFirstSteps 48 = .ok (.iload_n 1, 1) := by decide +kernel
theorem xd_Me_takeFirstSteps_49 : decode xb_Me_takeFirstSteps 49 = .ok (.baload, 1) := by decide +kernel
theorem xd_Me_takeFirstSteps_50 : decode xb_Me_takeFirstSteps 50 = .ok (.ifCond .ne 11, 3) := by decide +kernel
theorem xd_Me_takeFirstSteps_53 : decode xb_Me_takeFirstSteps 53 = .ok (.aload_n 0, 1) := by decide +kernel
theorem xd_Me_takeFirstSteps_54 : decode xb_Me_takeFirstSteps 54 = .ok (.getfield 12, 3) := by decide +kernel
theorem xd_Me_takeFirstSteps_57 : decode xb_Me_takeFirstSteps 57 = .ok (.aload_n 2, 1) := by decide +kernel
theorem xd_Me_takeFirstSteps_58 : decode xb_Me_takeFirstSteps 58 = .ok (.invokevirtual 61, 3) := by decide +kernel
theorem xd_Me_takeFirstSteps_61 : decode xb_Me_takeFirstSteps 61 = .ok (.aload_n 2, 1) := by decide +kernel
theorem xd_Me_takeFirstSteps_62 : decode xb_Me_takeFirstSteps 62 = .ok (.ifnull 45, 3) := by decide +kernel
theorem xd_Me_takeFirstSteps_65 : decode xb_Me_takeFirstSteps 65 = .ok (.aload_n 0, 1) := by decide +kernel
theorem xd_Me_takeFirstSteps_66 : decode xb_Me_takeFirstSteps 66 = .ok (.getfield 28, 3) := by decide +kernel
theorem xd_Me_takeFirstSteps_69 : decode xb_Me_takeFirstSteps 69 = .ok (.getfield 65, 3) := by decide +kernel
theorem xd_Me_takeFirstSteps_72 : decode xb_Me_takeFirstSteps 72 = .ok (.iload_n 1, 1) := by decide +kernel
theorem xd_Me_takeFirstSteps_73 : decode xb_Me_takeFirstSteps 73 = .ok (.baload, 1) := by decide +kernel
theorem xd_Me_takeFirstSteps_74 : decode xb_Me_takeFirstSteps 74 = .ok (.ifCond .eq 33, 3) := by decide +kernel
theorem xd_Me_takeFirstSteps_77 : decode xb_Me_takeFirstSteps 77 = .ok (.aload_n 0, 1) := by decide +kernel
theorem xd_Me_takeFirstSteps_78 : decode xb_Me_takeFirstSteps 78 = .ok (.getfield 18, 3) := by decide +kernel
theorem xd_Me_takeFirstSteps_81 : decode xb_Me_takeFirstSteps 81 = .ok (.aload_n 2, 1) := by decide +kernel
theorem xd_Me_takeFirstSteps_82 : decode xb_Me_takeFirstSteps 82 = .ok (.invokevirtual 61, 3) := by decide +kernel
theorem xd_Me_takeFirstSteps_85 : decode xb_Me_takeFirstSteps 85 = .ok (.aload_n 2, 1) := by decide +kernel
theorem xd_Me_takeFirstSteps_86 : decode xb_Me_takeFirstSteps 86 = .ok (.getfield 24, 3) := by decide +kernel
theorem xd_Me_takeFirstSteps_89 : decode xb_Me_takeFirstSteps 89 = .ok (.aload_n 0, 1) := by decide +kernel
theorem xd_Me_takeFirstSteps_90 : decode xb_Me_takeFirstSteps 90 = .ok (.getfield 24, 3) := by decide +kernel
theorem xd_Me_takeFirstSteps_93 : decode xb_Me_takeFirstSteps 93 = .ok (.if_acmp .eq 14, 3) := by decide +kernel
theorem xd_Me_takeFirstSteps_96 : decode xb_Me_takeFirstSteps 96 = .ok (.aload_n 0, 1) := by decide +kernel
theorem xd_Me_takeFirstSteps_97 : decode xb_Me_takeFirstSteps 97 = .ok (.getfield 18, 3) := by decide +kernel
theorem xd_Me_takeFirstSteps_100 : decode xb_Me_takeFirstSteps 100 = .ok (.aload_n 2, 1) := by decide +kernel
theorem xd_Me_takeFirstSteps_101 : decode xb_Me_takeFirstSteps 101 = .ok (.getfield 18, 3) := by decide +kernel
theorem xd_Me_takeFirstSteps_104 : decode xb_Me_takeFirstSteps 104 = .ok (.invokevirtual 68, 3) := by decide +kernel
theorem xd_Me_takeFirstSteps_107 : decode xb_Me_takeFirstSteps 107 = .ok (.iinc 1 1, 3) := by decide +kernel
theorem xd_Me_takeFirstSteps_110 : decode xb_Me_takeFirstSteps 110 = .ok (.goto (-108), 3) := by decide +kernel
theorem xd_Me_takeFirstSteps_113 : decode xb_Me_takeFirstSteps 113 = .ok (.return_, 1) := by decide +kernel
abbrev xb_Me_settleReading : ByteArray := prog_7_method_3_code
def xy_Me_settleReading : MethodName := ⟨"LayerDesk$Member", "settleReading", "()V"⟩
theorem xd_Me_settleReading_0 : decode xb_Me_settleReading 0 = .ok (.iconst 0, 1) := by decide +kernel
theorem xd_Me_settleReading_1 : decode xb_Me_settleReading 1 = .ok (.istore_n 1, 1) := by decide +kernel
theorem xd_Me_settleReading_2 : decode xb_Me_settleReading 2 = .ok (.iload_n 1, 1) := by decide +kernel
theorem xd_Me_settleReading_3 : decode xb_Me_settleReading 3 = .ok (.aload_n 0, 1) := by decide +kernel
theorem xd_Me_settleReading_4 : decode xb_Me_settleReading 4 = .ok (.getfield 44, 3) := by decide +kernel
theorem xd_Me_settleReading_7 : decode xb_Me_settleReading 7 = .ok (.arraylength, 1) := by decide +kernel
theorem xd_Me_settleReading_8 : decode xb_Me_settleReading 8 = .ok (.if_icmp .ge 47, 3) := by decide +kernel
theorem xd_Me_settleReading_11 : decode xb_Me_settleReading 11 = .ok (.aload_n 0, 1) := by decide +kernel
theorem xd_Me_settleReading_12 : decode xb_Me_settleReading 12 = .ok (.getfield 44, 3) := by decide +kernel
theorem xd_Me_settleReading_15 : decode xb_Me_settleReading 15 = .ok (.iload_n 1, 1) := by decide +kernel
theorem xd_Me_settleReading_16 : decode xb_Me_settleReading 16 = .ok (.aaload, 1) := by decide +kernel
theorem xd_Me_settleReading_17 : decode xb_Me_settleReading 17 = .ok (.ifnull 32, 3) := by decide +kernel
theorem xd_Me_settleReading_20 : decode xb_Me_settleReading 20 = .ok (.aload_n 0, 1) := by decide +kernel
theorem xd_Me_settleReading_21 : decode xb_Me_settleReading 21 = .ok (.getfield 21, 3) := by decide +kernel
theorem xd_Me_settleReading_24 : decode xb_Me_settleReading 24 = .ok (.aload_n 0, 1) := by decide +kernel
theorem xd_Me_settleReading_25 : decode xb_Me_settleReading 25 = .ok (.getfield 44, 3) := by decide +kernel
theorem xd_Me_settleReading_28 : decode xb_Me_settleReading 28 = .ok (.iload_n 1, 1) := by decide +kernel
theorem xd_Me_settleReading_29 : decode xb_Me_settleReading 29 = .ok (.aaload, 1) := by decide +kernel
theorem xd_Me_settleReading_30 : decode xb_Me_settleReading 30 = .ok (.invokevirtual 61, 3) := by decide +kernel
theorem xd_Me_settleReading_33 : decode xb_Me_settleReading 33 = .ok (.aload_n 0, 1) := by decide +kernel
theorem xd_Me_settleReading_34 : decode xb_Me_settleReading 34 = .ok (.getfield 21, 3) := by decide +kernel
theorem xd_Me_settleReading_37 : decode xb_Me_settleReading 37 = .ok (.aload_n 0, 1) := by decide +kernel
theorem xd_Me_settleReading_38 : decode xb_Me_settleReading 38 = .ok (.getfield 44, 3) := by decide +kernel
theorem xd_Me_settleReading_41 : decode xb_Me_settleReading 41 = .ok (.iload_n 1, 1) := by decide +kernel
theorem xd_Me_settleReading_42 : decode xb_Me_settleReading 42 = .ok (.aaload, 1) := by decide +kernel
theorem xd_Me_settleReading_43 : decode xb_Me_settleReading 43 = .ok (.getfield 18, 3) := by decide +kernel
theorem xd_Me_settleReading_46 : decode xb_Me_settleReading 46 = .ok (.invokevirtual 68, 3) := by decide +kernel
theorem xd_Me_settleReading_49 : decode xb_Me_settleReading 49 = .ok (.iinc 1 1, 3) := by decide +kernel
theorem xd_Me_settleReading_52 : decode xb_Me_settleReading 52 = .ok (.goto (-50), 3) := by decide +kernel
theorem xd_Me_settleReading_55 : decode xb_Me_settleReading 55 = .ok (.aload_n 0, 1) := by decide +kernel
theorem xd_Me_settleReading_56 : decode xb_Me_settleReading 56 = .ok (.getfield 21, 3) := by decide +kernel
theorem xd_Me_settleReading_59 : decode xb_Me_settleReading 59 = .ok (.aload_n 0, 1) := by decide +kernel
theorem xd_Me_settleReading_60 : decode xb_Me_settleReading 60 = .ok (.invokevirtual 72, 3) := by decide +kernel
theorem xd_Me_settleReading_63 : decode xb_Me_settleReading 63 = .ok (.return_, 1) := by decide +kernel
abbrev xb_Ly_follow : ByteArray := prog_5_method_8_code
def xy_Ly_follow : MethodName := ⟨"LayerDesk$Layer", "follow", "([LLayerDesk$Reach;)V"⟩
theorem xd_Ly_follow_0 : decode xb_Ly_follow 0 = .ok (.iconst 0, 1) := by decide +kernel
theorem xd_Ly_follow_1 : decode xb_Ly_follow 1 = .ok (.istore_n 2, 1) := by decide +kernel
theorem xd_Ly_follow_2 : decode xb_Ly_follow 2 = .ok (.iload_n 2, 1) := by decide +kernel
theorem xd_Ly_follow_3 : decode xb_Ly_follow 3 = .ok (.aload_n 0, 1) := by decide +kernel
theorem xd_Ly_follow_4 : decode xb_Ly_follow 4 = .ok (.getfield 19, 3) := by decide +kernel
theorem xd_Ly_follow_7 : decode xb_Ly_follow 7 = .ok (.arraylength, 1) := by decide +kernel
theorem xd_Ly_follow_8 : decode xb_Ly_follow 8 = .ok (.if_icmp .ge 50, 3) := by decide +kernel
theorem xd_Ly_follow_11 : decode xb_Ly_follow 11 = .ok (.iconst 0, 1) := by decide +kernel
theorem xd_Ly_follow_12 : decode xb_Ly_follow 12 = .ok (.istore_n 3, 1) := by decide +kernel
theorem xd_Ly_follow_13 : decode xb_Ly_follow 13 = .ok (.iload_n 3, 1) := by decide +kernel
theorem xd_Ly_follow_14 : decode xb_Ly_follow 14 = .ok (.aload_n 0, 1) := by decide +kernel
theorem xd_Ly_follow_15 : decode xb_Ly_follow 15 = .ok (.getfield 19, 3) := by decide +kernel
theorem xd_Ly_follow_18 : decode xb_Ly_follow 18 = .ok (.arraylength, 1) := by decide +kernel
theorem xd_Ly_follow_19 : decode xb_Ly_follow 19 = .ok (.if_icmp .ge 33, 3) := by decide +kernel
theorem xd_Ly_follow_22 : decode xb_Ly_follow 22 = .ok (.aload_n 1, 1) := by decide +kernel
theorem xd_Ly_follow_23 : decode xb_Ly_follow 23 = .ok (.iload_n 3, 1) := by decide +kernel
theorem xd_Ly_follow_24 : decode xb_Ly_follow 24 = .ok (.aaload, 1) := by decide +kernel
theorem xd_Ly_follow_25 : decode xb_Ly_follow 25 = .ok (.aload_n 0, 1) := by decide +kernel
theorem xd_Ly_follow_26 : decode xb_Ly_follow 26 = .ok (.getfield 19, 3) := by decide +kernel
theorem xd_Ly_follow_29 : decode xb_Ly_follow 29 = .ok (.iload_n 2, 1) := by decide +kernel
theorem xd_Ly_follow_30 : decode xb_Ly_follow 30 = .ok (.aaload, 1) := by decide +kernel
theorem xd_Ly_follow_31 : decode xb_Ly_follow 31 = .ok (.invokevirtual 66, 3) := by decide +kernel
theorem xd_Ly_follow_34 : decode xb_Ly_follow 34 = .ok (.ifCond .eq 12, 3) := by decide +kernel
theorem xd_Ly_follow_37 : decode xb_Ly_follow 37 = .ok (.aload_n 1, 1) := by decide +kernel
theorem xd_Ly_follow_38 : decode xb_Ly_follow 38 = .ok (.iload_n 3, 1) := by decide +kernel
theorem xd_Ly_follow_39 : decode xb_Ly_follow 39 = .ok (.aaload, 1) := by decide +kernel
theorem xd_Ly_follow_40 : decode xb_Ly_follow 40 = .ok (.aload_n 1, 1) := by decide +kernel
theorem xd_Ly_follow_41 : decode xb_Ly_follow 41 = .ok (.iload_n 2, 1) := by decide +kernel
theorem xd_Ly_follow_42 : decode xb_Ly_follow 42 = .ok (.aaload, 1) := by decide +kernel
theorem xd_Ly_follow_43 : decode xb_Ly_follow 43 = .ok (.invokevirtual 73, 3) := by decide +kernel
theorem xd_Ly_follow_46 : decode xb_Ly_follow 46 = .ok (.iinc 3 1, 3) := by decide +kernel
theorem xd_Ly_follow_49 : decode xb_Ly_follow 49 = .ok (.goto (-36), 3) := by decide +kernel
theorem xd_Ly_follow_52 : decode xb_Ly_follow 52 = .ok (.iinc 2 1, 3) := by decide +kernel
theorem xd_Ly_follow_55 : decode xb_Ly_follow 55 = .ok (.goto (-53), 3) := by decide +kernel
theorem xd_Ly_follow_58 : decode xb_Ly_follow 58 = .ok (.return_, 1) := by decide +kernel
abbrev xb_Ly_connect : ByteArray := prog_5_method_5_code
def xy_Ly_connect : MethodName := ⟨"LayerDesk$Layer", "connect", "()V"⟩
theorem xd_Ly_connect_0 : decode xb_Ly_connect 0 = .ok (.aload_n 0, 1) := by decide +kernel
theorem xd_Ly_connect_1 : decode xb_Ly_connect 1 = .ok (.getfield 19, 3) := by decide +kernel
theorem xd_Ly_connect_4 : decode xb_Ly_connect 4 = .ok (.arraylength, 1) := by decide +kernel
theorem xd_Ly_connect_5 : decode xb_Ly_connect 5 = .ok (.anewarray 47, 3) := by decide +kernel
theorem xd_Ly_connect_8 : decode xb_Ly_connect 8 = .ok (.astore_n 1, 1) := by decide +kernel
theorem xd_Ly_connect_9 : decode xb_Ly_connect 9 = .ok (.aload_n 0, 1) := by decide +kernel
theorem xd_Ly_connect_10 : decode xb_Ly_connect 10 = .ok (.getfield 19, 3) := by decide +kernel
theorem xd_Ly_connect_13 : decode xb_Ly_connect 13 = .ok (.arraylength, 1) := by decide +kernel
theorem xd_Ly_connect_14 : decode xb_Ly_connect 14 = .ok (.anewarray 47, 3) := by decide +kernel
theorem xd_Ly_connect_17 : decode xb_Ly_connect 17 = .ok (.astore_n 2, 1) := by decide +kernel
theorem xd_Ly_connect_18 : decode xb_Ly_connect 18 = .ok (.iconst 0, 1) := by decide +kernel
theorem xd_Ly_connect_19 : decode xb_Ly_connect 19 = .ok (.istore_n 3, 1) := by decide +kernel
theorem xd_Ly_connect_20 : decode xb_Ly_connect 20 = .ok (.iload_n 3, 1) := by decide +kernel
theorem xd_Ly_connect_21 : decode xb_Ly_connect 21 = .ok (.aload_n 0, 1) := by decide +kernel
theorem xd_Ly_connect_22 : decode xb_Ly_connect 22 = .ok (.getfield 19, 3) := by decide +kernel
theorem xd_Ly_connect_25 : decode xb_Ly_connect 25 = .ok (.arraylength, 1) := by decide +kernel
theorem xd_Ly_connect_26 : decode xb_Ly_connect 26 = .ok (.if_icmp .ge 42, 3) := by decide +kernel
theorem xd_Ly_connect_29 : decode xb_Ly_connect 29 = .ok (.aload_n 0, 1) := by decide +kernel
theorem xd_Ly_connect_30 : decode xb_Ly_connect 30 = .ok (.getfield 19, 3) := by decide +kernel
theorem xd_Ly_connect_33 : decode xb_Ly_connect 33 = .ok (.iload_n 3, 1) := by decide +kernel
theorem xd_Ly_connect_34 : decode xb_Ly_connect 34 = .ok (.aaload, 1) := by decide +kernel
theorem xd_Ly_connect_35 : decode xb_Ly_connect 35 = .ok (.invokevirtual 49, 3) := by decide +kernel
theorem xd_Ly_connect_38 : decode xb_Ly_connect 38 = .ok (.aload_n 1, 1) := by decide +kernel
theorem xd_Ly_connect_39 : decode xb_Ly_connect 39 = .ok (.iload_n 3, 1) := by decide +kernel
theorem xd_Ly_connect_40 : decode xb_Ly_connect 40 = .ok (.aload_n 0, 1) := by decide +kernel
theorem xd_Ly_connect_41 : decode xb_Ly_connect 41 = .ok (.getfield 19, 3) := by decide +kernel
theorem xd_Ly_connect_44 : decode xb_Ly_connect 44 = .ok (.iload_n 3, 1) := by decide +kernel
theorem xd_Ly_connect_45 : decode xb_Ly_connect 45 = .ok (.aaload, 1) := by decide +kernel
theorem xd_Ly_connect_46 : decode xb_Ly_connect 46 = .ok (.getfield 52, 3) := by decide +kernel
theorem xd_Ly_connect_49 : decode xb_Ly_connect 49 = .ok (.aastore, 1) := by decide +kernel
theorem xd_Ly_connect_50 : decode xb_Ly_connect 50 = .ok (.aload_n 2, 1) := by decide +kernel
theorem xd_Ly_connect_51 : decode xb_Ly_connect 51 = .ok (.iload_n 3, 1) := by decide +kernel
theorem xd_Ly_connect_52 : decode xb_Ly_connect 52 = .ok (.aload_n 0, 1) := by decide +kernel
theorem xd_Ly_connect_53 : decode xb_Ly_connect 53 = .ok (.getfield 19, 3) := by decide +kernel
theorem xd_Ly_connect_56 : decode xb_Ly_connect 56 = .ok (.iload_n 3, 1) := by decide +kernel
theorem xd_Ly_connect_57 : decode xb_Ly_connect 57 = .ok (.aaload, 1) := by decide +kernel
theorem xd_Ly_connect_58 : decode xb_Ly_connect 58 = .ok (.getfield 56, 3) := by decide +kernel
theorem xd_Ly_connect_61 : decode xb_Ly_connect 61 = .ok (.aastore, 1) := by decide +kernel
theorem xd_Ly_connect_62 : decode xb_Ly_connect 62 = .ok (.iinc 3 1, 3) := by decide +kernel
theorem xd_Ly_connect_65 : decode xb_Ly_connect 65 = .ok (.goto (-45), 3) := by decide +kernel
theorem xd_Ly_connect_68 : decode xb_Ly_connect 68 = .ok (.aload_n 0, 1) := by decide +kernel
theorem xd_Ly_connect_69 : decode xb_Ly_connect 69 = .ok (.aload_n 1, 1) := by decide +kernel
theorem xd_Ly_connect_70 : decode xb_Ly_connect 70 = .ok (.invokevirtual 59, 3) := by decide +kernel
theorem xd_Ly_connect_73 : decode xb_Ly_connect 73 = .ok (.aload_n 0, 1) := by decide +kernel
theorem xd_Ly_connect_74 : decode xb_Ly_connect 74 = .ok (.aload_n 2, 1) := by decide +kernel
theorem xd_Ly_connect_75 : decode xb_Ly_connect 75 = .ok (.invokevirtual 59, 3) := by decide +kernel
theorem xd_Ly_connect_78 : decode xb_Ly_connect 78 = .ok (.iconst 0, 1) := by decide +kernel
theorem xd_Ly_connect_79 : decode xb_Ly_connect 79 = .ok (.istore_n 3, 1) := by decide +kernel
theorem xd_Ly_connect_80 : decode xb_Ly_connect 80 = .ok (.iload_n 3, 1) := by decide +kernel
theorem xd_Ly_connect_81 : decode xb_Ly_connect 81 = .ok (.aload_n 0, 1) := by decide +kernel
theorem xd_Ly_connect_82 : decode xb_Ly_connect 82 = .ok (.getfield 19, 3) := by decide +kernel
theorem xd_Ly_connect_85 : decode xb_Ly_connect 85 = .ok (.arraylength, 1) := by decide +kernel
theorem xd_Ly_connect_86 : decode xb_Ly_connect 86 = .ok (.if_icmp .ge 18, 3) := by decide +kernel
theorem xd_Ly_connect_89 : decode xb_Ly_connect 89 = .ok (.aload_n 0, 1) := by decide +kernel
theorem xd_Ly_connect_90 : decode xb_Ly_connect 90 = .ok (.getfield 19, 3) := by decide +kernel
theorem xd_Ly_connect_93 : decode xb_Ly_connect 93 = .ok (.iload_n 3, 1) := by decide +kernel
theorem xd_Ly_connect_94 : decode xb_Ly_connect 94 = .ok (.aaload, 1) := by decide +kernel
theorem xd_Ly_connect_95 : decode xb_Ly_connect 95 = .ok (.invokevirtual 63, 3) := by decide +kernel
theorem xd_Ly_connect_98 : decode xb_Ly_connect 98 = .ok (.iinc 3 1, 3) := by decide +kernel
theorem xd_Ly_connect_101 : decode xb_Ly_connect 101 = .ok (.goto (-21), 3) := by decide +kernel
theorem xd_Ly_connect_104 : decode xb_Ly_connect 104 = .ok (.return_, 1) := by decide +kernel
abbrev xb_Ch_draft : ByteArray := prog_2_method_5_code
def xy_Ch_draft : MethodName := ⟨"LayerDesk$Chooser", "draft", "(I)LLayerDesk$Layer;"⟩
abbrev xb_De_faultOf : ByteArray := prog_1_method_19_code
def xy_De_faultOf : MethodName := ⟨"LayerDesk", "faultOf", "(LLayerDesk$Layer;)I"⟩
abbrev xb_De_keep : ByteArray := prog_1_method_20_code
def xy_De_keep : MethodName := ⟨"LayerDesk", "keep", "(LLayerDesk$Layer;)V"⟩
theorem xd_Ch_draft_0 : decode xb_Ch_draft 0 = .ok (.new 39, 3) := by decide +kernel
theorem xd_Ch_draft_3 : decode xb_Ch_draft 3 = .ok (.dup, 1) := by decide +kernel
theorem xd_Ch_draft_4 : decode xb_Ch_draft 4 = .ok (.iload_n 1, 1) := by decide +kernel
theorem xd_Ch_draft_5 : decode xb_Ch_draft 5 = .ok (.aload_n 0, 1) := by decide +kernel
theorem xd_Ch_draft_6 : decode xb_Ch_draft 6 = .ok (.getfield 24, 3) := by decide +kernel
theorem xd_Ch_draft_9 : decode xb_Ch_draft 9 = .ok (.aload_n 0, 1) := by decide +kernel
theorem xd_Ch_draft_10 : decode xb_Ch_draft 10 = .ok (.getfield 17, 3) := by decide +kernel
theorem xd_Ch_draft_13 : decode xb_Ch_draft 13 = .ok (.invokespecial 41, 3) := by decide +kernel
theorem xd_Ch_draft_16 : decode xb_Ch_draft 16 = .ok (.astore_n 2, 1) := by decide +kernel
theorem xd_Ch_draft_17 : decode xb_Ch_draft 17 = .ok (.iconst 0, 1) := by decide +kernel
theorem xd_Ch_draft_18 : decode xb_Ch_draft 18 = .ok (.istore_n 3, 1) := by decide +kernel
theorem xd_Ch_draft_19 : decode xb_Ch_draft 19 = .ok (.iload_n 3, 1) := by decide +kernel
theorem xd_Ch_draft_20 : decode xb_Ch_draft 20 = .ok (.aload_n 0, 1) := by decide +kernel
theorem xd_Ch_draft_21 : decode xb_Ch_draft 21 = .ok (.getfield 17, 3) := by decide +kernel
theorem xd_Ch_draft_24 : decode xb_Ch_draft 24 = .ok (.if_icmp .ge 29, 3) := by decide +kernel
theorem xd_Ch_draft_27 : decode xb_Ch_draft 27 = .ok (.aload_n 2, 1) := by decide +kernel
theorem xd_Ch_draft_28 : decode xb_Ch_draft 28 = .ok (.getfield 44, 3) := by decide +kernel
theorem xd_Ch_draft_31 : decode xb_Ch_draft 31 = .ok (.iload_n 3, 1) := by decide +kernel
theorem xd_Ch_draft_32 : decode xb_Ch_draft 32 = .ok (.new 48, 3) := by decide +kernel
theorem xd_Ch_draft_35 : decode xb_Ch_draft 35 = .ok (.dup, 1) := by decide +kernel
theorem xd_Ch_draft_36 : decode xb_Ch_draft 36 = .ok (.aload_n 2, 1) := by decide +kernel
theorem xd_Ch_draft_37 : decode xb_Ch_draft 37 = .ok (.aload_n 0, 1) := by decide +kernel
theorem xd_Ch_draft_38 : decode xb_Ch_draft 38 = .ok (.getfield 11, 3) := by decide +kernel
theorem xd_Ch_draft_41 : decode xb_Ch_draft 41 = .ok (.iload_n 3, 1) := by decide +kernel
theorem xd_Ch_draft_42 : decode xb_Ch_draft 42 = .ok (.aaload, 1) := by decide +kernel
theorem xd_Ch_draft_43 : decode xb_Ch_draft 43 = .ok (.invokespecial 50, 3) := by decide +kernel
theorem xd_Ch_draft_46 : decode xb_Ch_draft 46 = .ok (.aastore, 1) := by decide +kernel
theorem xd_Ch_draft_47 : decode xb_Ch_draft 47 = .ok (.iinc 3 1, 3) := by decide +kernel
theorem xd_Ch_draft_50 : decode xb_Ch_draft 50 = .ok (.goto (-31), 3) := by decide +kernel
theorem xd_Ch_draft_53 : decode xb_Ch_draft 53 = .ok (.aload_n 2, 1) := by decide +kernel
theorem xd_Ch_draft_54 : decode xb_Ch_draft 54 = .ok (.invokevirtual 53, 3) := by decide +kernel
theorem xd_Ch_draft_57 : decode xb_Ch_draft 57 = .ok (.aload_n 2, 1) := by decide +kernel
theorem xd_Ch_draft_58 : decode xb_Ch_draft 58 = .ok (.areturn, 1) := by decide +kernel
theorem xd_De_faultOf_0 : decode xb_De_faultOf 0 = .ok (.aload_n 1, 1) := by decide +kernel
theorem xd_De_faultOf_1 : decode xb_De_faultOf 1 = .ok (.invokevirtual 208, 3) := by decide +kernel
theorem xd_De_faultOf_4 : decode xb_De_faultOf 4 = .ok (.ifCond .eq 5, 3) := by decide +kernel
theorem xd_De_faultOf_7 : decode xb_De_faultOf 7 = .ok (.iconst 1, 1) := by decide +kernel
theorem xd_De_faultOf_8 : decode xb_De_faultOf 8 = .ok (.ireturn, 1) := by decide +kernel
theorem xd_De_faultOf_9 : decode xb_De_faultOf 9 = .ok (.aload_n 1, 1) := by decide +kernel
theorem xd_De_faultOf_10 : decode xb_De_faultOf 10 = .ok (.invokevirtual 211, 3) := by decide +kernel
theorem xd_De_faultOf_13 : decode xb_De_faultOf 13 = .ok (.ifCond .eq 5, 3) := by decide +kernel
theorem xd_De_faultOf_16 : decode xb_De_faultOf 16 = .ok (.iconst 2, 1) := by decide +kernel
theorem xd_De_faultOf_17 : decode xb_De_faultOf 17 = .ok (.ireturn, 1) := by decide +kernel
theorem xd_De_faultOf_18 : decode xb_De_faultOf 18 = .ok (.aload_n 0, 1) := by decide +kernel
theorem xd_De_faultOf_19 : decode xb_De_faultOf 19 = .ok (.getfield 38, 3) := by decide +kernel
theorem xd_De_faultOf_22 : decode xb_De_faultOf 22 = .ok (.iconst 5, 1) := by decide +kernel
theorem xd_De_faultOf_23 : decode xb_De_faultOf 23 = .ok (.if_icmp .lt 7, 3) := by decide +kernel
theorem xd_De_faultOf_26 : decode xb_De_faultOf 26 = .ok (.iconst 3, 1) := by decide +kernel
theorem xd_De_faultOf_27 : decode xb_De_faultOf 27 = .ok (.goto 4, 3) := by decide +kernel
theorem xd_De_faultOf_30 : decode xb_De_faultOf 30 = .ok (.iconst 0, 1) := by decide +kernel
theorem xd_De_faultOf_31 : decode xb_De_faultOf 31 = .ok (.ireturn, 1) := by decide +kernel
theorem xd_De_keep_0 : decode xb_De_keep 0 = .ok (.aload_n 0, 1) := by decide +kernel
theorem xd_De_keep_1 : decode xb_De_keep 1 = .ok (.getfield 38, 3) := by decide +kernel
theorem xd_De_keep_4 : decode xb_De_keep 4 = .ok (.iconst 5, 1) := by decide +kernel
theorem xd_De_keep_5 : decode xb_De_keep 5 = .ok (.if_icmp .lt 4, 3) := by decide +kernel
theorem xd_De_keep_9 : decode xb_De_keep 9 = .ok (.aload_n 0, 1) := by decide +kernel
theorem xd_De_keep_10 : decode xb_De_keep 10 = .ok (.getfield 34, 3) := by decide +kernel
theorem xd_De_keep_13 : decode xb_De_keep 13 = .ok (.aload_n 0, 1) := by decide +kernel
theorem xd_De_keep_14 : decode xb_De_keep 14 = .ok (.getfield 38, 3) := by decide +kernel
theorem xd_De_keep_17 : decode xb_De_keep 17 = .ok (.aload_n 1, 1) := by decide +kernel
theorem xd_De_keep_18 : decode xb_De_keep 18 = .ok (.aastore, 1) := by decide +kernel
theorem xd_De_keep_19 : decode xb_De_keep 19 = .ok (.aload_n 0, 1) := by decide +kernel
theorem xd_De_keep_20 : decode xb_De_keep 20 = .ok (.dup, 1) := by decide +kernel
theorem xd_De_keep_21 : decode xb_De_keep 21 = .ok (.getfield 38, 3) := by decide +kernel
theorem xd_De_keep_24 : decode xb_De_keep 24 = .ok (.iconst 1, 1) := by decide +kernel
theorem xd_De_keep_25 : decode xb_De_keep 25 = .ok (.iadd, 1) := by decide +kernel
theorem xd_De_keep_26 : decode xb_De_keep 26 = .ok (.putfield 38, 3) := by decide +kernel
theorem xd_De_keep_29 : decode xb_De_keep 29 = .ok (.iconst 0, 1) := by decide +kernel
theorem xd_De_keep_30 : decode xb_De_keep 30 = .ok (.istore_n 2, 1) := by decide +kernel
theorem xd_De_keep_31 : decode xb_De_keep 31 = .ok (.iload_n 2, 1) := by decide +kernel
theorem xd_De_keep_32 : decode xb_De_keep 32 = .ok (.aload_n 1, 1) := by decide +kernel
theorem xd_De_keep_33 : decode xb_De_keep 33 = .ok (.getfield 128, 3) := by decide +kernel
theorem xd_De_keep_36 : decode xb_De_keep 36 = .ok (.arraylength, 1) := by decide +kernel
theorem xd_De_keep_37 : decode xb_De_keep 37 = .ok (.if_icmp .ge 22, 3) := by decide +kernel
theorem xd_De_keep_40 : decode xb_De_keep 40 = .ok (.aload_n 1, 1) := by decide +kernel
theorem xd_De_keep_41 : decode xb_De_keep 41 = .ok (.getfield 128, 3) := by decide +kernel
theorem xd_De_keep_44 : decode xb_De_keep 44 = .ok (.iload_n 2, 1) := by decide +kernel
theorem xd_De_keep_45 : decode xb_De_keep 45 = .ok (.aaload, 1) := by decide +kernel
theorem xd_De_keep_46 : decode xb_De_keep 46 = .ok (.getfield 136, 3) := by decide +kernel
theorem xd_De_keep_49 : decode xb_De_keep 49 = .ok (.iconst 1, 1) := by decide +kernel
theorem xd_De_keep_50 : decode xb_De_keep 50 = .ok (.putfield 214, 3) := by decide +kernel
theorem xd_De_keep_53 : decode xb_De_keep 53 = .ok (.iinc 2 1, 3) := by decide +kernel
theorem xd_De_keep_56 : decode xb_De_keep 56 = .ok (.goto (-25), 3) := by decide +kernel
theorem xd_De_keep_59 : decode xb_De_keep 59 = .ok (.return_, 1) := by decide +kernel
