abbrev xb_Re_init : ByteArray := prog_9_method_1_code
def xy_Re_init : MethodName := ⟨"LayerDesk$Reach", "<init>", "()V"⟩
abbrev xb_Me_init : ByteArray := prog_7_method_1_code
def xy_Me_init : MethodName := ⟨"LayerDesk$Member", "<init>", "(LLayerDesk$Layer;LLayerDesk$Descriptor;)V"⟩
abbrev xb_Ly_init : ByteArray := prog_5_method_1_code
def xy_Ly_init : MethodName := ⟨"LayerDesk$Layer", "<init>", "(ILLayerDesk$Layer;I)V"⟩
theorem xd_Ly_init_0 : decode xb_Ly_init 0 = .ok (.aload_n 0, 1) := by decide +kernel
theorem xd_Ly_init_1 : decode xb_Ly_init 1 = .ok (.invokespecial 1, 3) := by decide +kernel
theorem xd_Ly_init_4 : decode xb_Ly_init 4 = .ok (.aload_n 0, 1) := by decide +kernel
theorem xd_Ly_init_5 : decode xb_Ly_init 5 = .ok (.iload_n 1, 1) := by decide +kernel
theorem xd_Ly_init_6 : decode xb_Ly_init 6 = .ok (.putfield 7, 3) := by decide +kernel
theorem xd_Ly_init_9 : decode xb_Ly_init 9 = .ok (.aload_n 0, 1) := by decide +kernel
theorem xd_Ly_init_10 : decode xb_Ly_init 10 = .ok (.aload_n 2, 1) := by decide +kernel
theorem xd_Ly_init_11 : decode xb_Ly_init 11 = .ok (.putfield 13, 3) := by decide +kernel
theorem xd_Ly_init_14 : decode xb_Ly_init 14 = .ok (.aload_n 0, 1) := by decide +kernel
theorem xd_Ly_init_15 : decode xb_Ly_init 15 = .ok (.iload_n 3, 1) := by decide +kernel
theorem xd_Ly_init_16 : decode xb_Ly_init 16 = .ok (.anewarray 17, 3) := by decide +kernel
theorem xd_Ly_init_19 : decode xb_Ly_init 19 = .ok (.putfield 19, 3) := by decide +kernel
theorem xd_Ly_init_22 : decode xb_Ly_init 22 = .ok (.aload_n 0, 1) := by decide +kernel
theorem xd_Ly_init_23 : decode xb_Ly_init 23 = .ok (.iconst 1, 1) := by decide +kernel
theorem xd_Ly_init_24 : decode xb_Ly_init 24 = .ok (.putfield 23, 3) := by decide +kernel
theorem xd_Ly_init_27 : decode xb_Ly_init 27 = .ok (.return_, 1) := by decide +kernel
theorem xd_Me_init_0 : decode xb_Me_init 0 = .ok (.aload_n 0, 1) := by decide +kernel
theorem xd_Me_init_1 : decode xb_Me_init 1 = .ok (.invokespecial 3, 3) := by decide +kernel
theorem xd_Me_init_4 : decode xb_Me_init 4 = .ok (.aload_n 0, 1) := by decide +kernel
theorem xd_Me_init_5 : decode xb_Me_init 5 = .ok (.new 9, 3) := by decide +kernel
theorem xd_Me_init_8 : decode xb_Me_init 8 = .ok (.dup, 1) := by decide +kernel
theorem xd_Me_init_9 : decode xb_Me_init 9 = .ok (.invokespecial 11, 3) := by decide +kernel
theorem xd_Me_init_12 : decode xb_Me_init 12 = .ok (.putfield 12, 3) := by decide +kernel
theorem xd_Me_init_15 : decode xb_Me_init 15 = .ok (.aload_n 0, 1) := by decide +kernel
theorem xd_Me_init_16 : decode xb_Me_init 16 = .ok (.new 9, 3) := by decide +kernel
theorem xd_Me_init_19 : decode xb_Me_init 19 = .ok (.dup, 1) := by decide +kernel
theorem xd_Me_init_20 : decode xb_Me_init 20 = .ok (.invokespecial 11, 3) := by decide +kernel
theorem xd_Me_init_23 : decode xb_Me_init 23 = .ok (.putfield 18, 3) := by decide +kernel
theorem xd_Me_init_26 : decode xb_Me_init 26 = .ok (.aload_n 0, 1) := by decide +kernel
theorem xd_Me_init_27 : decode xb_Me_init 27 = .ok (.new 9, 3) := by decide +kernel
theorem xd_Me_init_30 : decode xb_Me_init 30 = .ok (.dup, 1) := by decide +kernel
theorem xd_Me_init_31 : decode xb_Me_init 31 = .ok (.invokespecial 11, 3) := by decide +kernel
theorem xd_Me_init_34 : decode xb_Me_init 34 = .ok (.putfield 21, 3) := by decide +kernel
theorem xd_Me_init_37 : decode xb_Me_init 37 = .ok (.aload_n 0, 1) := by decide +kernel
theorem xd_Me_init_38 : decode xb_Me_init 38 = .ok (.aload_n 1, 1) := by decide +kernel
theorem xd_Me_init_39 : decode xb_Me_init 39 = .ok (.putfield 24, 3) := by decide +kernel
theorem xd_Me_init_42 : decode xb_Me_init 42 = .ok (.aload_n 0, 1) := by decide +kernel
theorem xd_Me_init_43 : decode xb_Me_init 43 = .ok (.aload_n 2, 1) := by decide +kernel
theorem xd_Me_init_44 : decode xb_Me_init 44 = .ok (.putfield 28, 3) := by decide +kernel
theorem xd_Me_init_47 : decode xb_Me_init 47 = .ok (.aload_n 0, 1) := by decide +kernel
theorem xd_Me_init_48 : decode xb_Me_init 48 = .ok (.aload_n 2, 1) := by decide +kernel
theorem xd_Me_init_49 : decode xb_Me_init 49 = .ok (.getfield 32, 3) := by decide +kernel
theorem xd_Me_init_52 : decode xb_Me_init 52 = .ok (.getfield 38, 3) := by decide +kernel
theorem xd_Me_init_55 : decode xb_Me_init 55 = .ok (.anewarray 13, 3) := by decide +kernel
theorem xd_Me_init_58 : decode xb_Me_init 58 = .ok (.putfield 44, 3) := by decide +kernel
theorem xd_Me_init_61 : decode xb_Me_init 61 = .ok (.return_, 1) := by decide +kernel
theorem xd_Re_init_0 : decode xb_Re_init 0 = .ok (.aload_n 0, 1) := by decide +kernel
theorem xd_Re_init_1 : decode xb_Re_init 1 = .ok (.invokespecial 3, 3) := by decide +kernel
theorem xd_Re_init_4 : decode xb_Re_init 4 = .ok (.aload_n 0, 1) := by decide +kernel
theorem xd_Re_init_5 : decode xb_Re_init 5 = .ok (.bipush 6, 2) := by decide +kernel
theorem xd_Re_init_7 : decode xb_Re_init 7 = .ok (.newarray .int, 2) := by decide +kernel
theorem xd_Re_init_9 : decode xb_Re_init 9 = .ok (.putfield 11, 3) := by decide +kernel
theorem xd_Re_init_12 : decode xb_Re_init 12 = .ok (.return_, 1) := by decide +kernel
theorem yr2_0 : (Cond.methodLink "LayerDesk$Reach" 3 ⟨"java/lang/Object", "<init>", "()V"⟩) ∈ wT := wT_t (List.mem_append_right _ (List.mem_append_right _ (List.mem_append_left _ (List.mem_of_getElem? (i := 173) rfl)))) rfl
theorem yr2_1 : (Cond.instanceMethod ⟨"java/lang/Object", "<init>", "()V"⟩) ∈ wT := wT_t (List.mem_append_left _ (List.mem_of_getElem? (i := 28) rfl)) rfl
theorem yr2_2 : (Cond.code ⟨"java/lang/Object", "<init>", "()V"⟩ object_method_1_code 1 none) ∈ wT := wT_t (List.mem_append_left _ (List.mem_of_getElem? (i := 29) rfl)) rfl
theorem yr2_3 : (Cond.arrayClass .int) ∈ wT := wT_t (List.mem_append_left _ (List.mem_of_getElem? (i := 55) rfl)) rfl
theorem yr2_4 : (Cond.fieldLink "LayerDesk$Reach" 11 "LayerDesk$Reach" "rows" "[I") ∈ wT := wT_t (List.mem_append_right _ (List.mem_append_right _ (List.mem_append_left _ (List.mem_of_getElem? (i := 174) rfl)))) rfl
theorem yr2_5 : (Cond.methodLink "LayerDesk$Member" 3 ⟨"java/lang/Object", "<init>", "()V"⟩) ∈ wT := wT_t (List.mem_append_right _ (List.mem_append_right _ (List.mem_append_left _ (List.mem_of_getElem? (i := 167) rfl)))) rfl
theorem yr2_6 : (Cond.classLink "LayerDesk$Member" 9 "LayerDesk$Reach") ∈ wT := wT_t (List.mem_append_right _ (List.mem_append_right _ (List.mem_append_left _ (List.mem_of_getElem? (i := 168) rfl)))) rfl
theorem yr2_7 : (Cond.instantiable "LayerDesk$Reach" 1) ∈ wT := wT_t (List.mem_append_right _ (List.mem_append_right _ (List.mem_append_left _ (List.mem_of_getElem? (i := 169) rfl)))) rfl
theorem yr2_8 : (Cond.initialized "LayerDesk$Reach") ∈ wT := wT_t (List.mem_append_left _ (List.mem_of_getElem? (i := 21) rfl)) rfl
theorem yr2_9 : (Cond.code xy_Re_init xb_Re_init 1 none) ∈ wT := wT_t (List.mem_append_right _ (List.mem_append_right _ (List.mem_append_left _ (List.mem_of_getElem? (i := 172) rfl)))) rfl
theorem yr2_10 : (Cond.instanceMethod xy_Re_init) ∈ wT := wT_t (List.mem_append_right _ (List.mem_append_right _ (List.mem_append_left _ (List.mem_of_getElem? (i := 171) rfl)))) rfl
theorem yr2_11 : (Cond.fieldLink "LayerDesk$Member" 12 "LayerDesk$Member" "leading" "LLayerDesk$Reach;") ∈ wT := wT_t (List.mem_append_right _ (List.mem_append_right _ (List.mem_append_left _ (List.mem_of_getElem? (i := 187) rfl)))) rfl
theorem yr2_12 : (Cond.fieldLink "LayerDesk$Member" 18 "LayerDesk$Member" "carried" "LLayerDesk$Reach;") ∈ wT := wT_t (List.mem_append_right _ (List.mem_append_right _ (List.mem_append_left _ (List.mem_of_getElem? (i := 189) rfl)))) rfl
theorem yr2_13 : (Cond.fieldLink "LayerDesk$Member" 21 "LayerDesk$Member" "reading" "LLayerDesk$Reach;") ∈ wT := wT_t (List.mem_append_right _ (List.mem_append_right _ (List.mem_append_left _ (List.mem_of_getElem? (i := 191) rfl)))) rfl
theorem yr2_14 : (Cond.fieldLink "LayerDesk$Member" 24 "LayerDesk$Member" "home" "LLayerDesk$Layer;") ∈ wT := wT_t (List.mem_append_right _ (List.mem_append_right _ (List.mem_append_left _ (List.mem_of_getElem? (i := 179) rfl)))) rfl
theorem yr2_15 : (Cond.fieldLink "LayerDesk$Member" 28 "LayerDesk$Member" "descriptor" "LLayerDesk$Descriptor;") ∈ wT := wT_t (List.mem_append_right _ (List.mem_append_right _ (List.mem_append_left _ (List.mem_of_getElem? (i := 181) rfl)))) rfl
theorem yr2_16 : (Cond.fieldLink "LayerDesk$Member" 32 "LayerDesk$Descriptor" "required" "LLayerDesk$Names;") ∈ wT := wT_t (List.mem_append_right _ (List.mem_append_left _ (List.mem_of_getElem? (i := 67) rfl))) rfl
theorem yr2_17 : (Cond.fieldLink "LayerDesk$Member" 38 "LayerDesk$Names" "size" "I") ∈ wT := wT_t (List.mem_append_right _ (List.mem_append_left _ (List.mem_of_getElem? (i := 35) rfl))) rfl
theorem yr2_18 : (Cond.classLink "LayerDesk$Member" 13 "LayerDesk$Member") ∈ wT := wT_t (List.mem_append_right _ (List.mem_append_right _ (List.mem_append_left _ (List.mem_of_getElem? (i := 178) rfl)))) rfl
theorem yr2_19 : (Cond.fieldLink "LayerDesk$Member" 44 "LayerDesk$Member" "required" "[LLayerDesk$Member;") ∈ wT := wT_t (List.mem_append_right _ (List.mem_append_right _ (List.mem_append_left _ (List.mem_of_getElem? (i := 186) rfl)))) rfl
theorem yr2_20 : (Cond.methodLink "LayerDesk$Layer" 1 ⟨"java/lang/Object", "<init>", "()V"⟩) ∈ wT := wT_t (List.mem_append_right _ (List.mem_append_right _ (List.mem_append_left _ (List.mem_of_getElem? (i := 136) rfl)))) rfl
theorem yr2_21 : (Cond.fieldLink "LayerDesk$Layer" 7 "LayerDesk$Layer" "number" "I") ∈ wT := wT_t (List.mem_append_right _ (List.mem_append_right _ (List.mem_append_left _ (List.mem_of_getElem? (i := 139) rfl)))) rfl
theorem yr2_22 : (Cond.fieldLink "LayerDesk$Layer" 13 "LayerDesk$Layer" "parent" "LLayerDesk$Layer;") ∈ wT := wT_t (List.mem_append_right _ (List.mem_append_right _ (List.mem_append_left _ (List.mem_of_getElem? (i := 143) rfl)))) rfl
theorem yr2_23 : (Cond.classLink "LayerDesk$Layer" 17 "LayerDesk$Member") ∈ wT := wT_t (List.mem_append_right _ (List.mem_append_right _ (List.mem_append_left _ (List.mem_of_getElem? (i := 137) rfl)))) rfl
theorem yr2_24 : (Cond.fieldLink "LayerDesk$Layer" 19 "LayerDesk$Layer" "members" "[LLayerDesk$Member;") ∈ wT := wT_t (List.mem_append_right _ (List.mem_append_right _ (List.mem_append_left _ (List.mem_of_getElem? (i := 147) rfl)))) rfl
theorem yr2_25 : (Cond.fieldLink "LayerDesk$Layer" 23 "LayerDesk$Layer" "open" "Z") ∈ wT := wT_t (List.mem_append_right _ (List.mem_append_right _ (List.mem_append_left _ (List.mem_of_getElem? (i := 151) rfl)))) rfl
set_option maxHeartbeats 4000000 in
set_option maxRecDepth 100000 in
theorem xc_Re_init (l : Launch) (D : va_G) (kA : Nat → ClassId) (sz : Nat) (ad : Nat → Nat → Nat) (E : Nat → Nat → va_E) (RL : List (Nat × Nat)) (b : Nat) (o : Nat) (oa : Nat) (ym0 : (b, o) ∈ RL) (yc0 : E b o = .inr (10, [.null])) (hoa : o ≠ oa) : Met l xy_Re_init (.code xy_Re_init xb_Re_init 1 none :: wT) { frames := 1, cells := 1, slots := 6, locals := 14 } (va_Pc [.ref (ad b o)] (xPre D kA sz (rp ad E RL))) (va_Qv (fun (u : (Nat → Nat → Nat) × (Nat → Nat → va_E) × List (Nat × Nat)) => (True) ∧ (u.2.1 b o = .inr (10, [.ref (u.1 b oa)])) ∧ (u.2.1 b oa = .inl (kA 0, 6, .inl (fun _ => 0))) ∧ ((∀ b2 o2, ¬ (b2 = b ∧ o2 = o) → ¬ (b2 = b ∧ o2 = oa) → u.2.1 b2 o2 = E b2 o2)) ∧ ((∀ b2 o2, ¬ (b2 = b ∧ o2 = oa) → u.1 b2 o2 = ad b2 o2)) ∧ ((∀ x ∈ RL, x ∈ u.2.2)) ∧ ((b, oa) ∈ u.2.2)) (fun (u : (Nat → Nat → Nat) × (Nat → Nat → va_E) × List (Nat × Nat)) t => va_P D xcl (rp u.1 u.2.1 u.2.2) t.heap ∧ va_D (va_A (rp ad E RL) sz) (rp u.1 u.2.1 u.2.2)) (va_A (rp ad E RL) sz)) 1 6 (va_A (rp ad E RL) sz) := by
  refine Met.ofW (cc := xb_Re_init) (maxL := 1) (ret := none) (by decide) rfl ?_
  intro p e s m args below meth c s₁ B hml hv
  obtain ⟨rfl, hsz, hP, hK, hD0⟩ := hv
  have hx := B.exec
  have hb := B.bytes
  have hr := B.returns
  have hT := x_hT B.pre
  have hown : s.vm.findClass xR_Re = some m.cls := findClass_of_methodNamed B.named
  have hlocks := B.notSynchronized
  have hin : meth.name = "<init>" := (name_of_methodNamed B.named B.method).1
  subst hsz
  have hD := hD0.self (sz := s.heap.size)
  generalize hAe : va_A (rp ad E RL) s.heap.size = A at hD ⊢
  have hA : ∀ q : Nat, s.heap.size ≤ q → A q := fun q h => by rw [← hAe]; exact Or.inr h
  have hS : va_S A s.heap s.heap [] := va_S.rf
  have hl := lv_entry ([.ref (ad b o)]) (n := 1) (Nat.le_of_ble_eq_true rfl)
  rw [lg_entry_eq]
  generalize (lg_sl ([.ref (ad b o)]) ++ List.replicate (1 - (lg_sl ([.ref (ad b o)])).length) Slot.unset).toArray = ls at hl ⊢
  have hl : lv_has ls 1 [(0, .ref (ad b o))] := hl
  have hP : va_P D xcl (rp ad E RL) s.heap := hP
  refine lv_aload_n hx hb xd_Re_init_0 rfl (lv_at hl 0 rfl) ?_
  refine W.objInit hx hb hown (hT _ yr2_0) (hT _ yr2_1) (hT _ yr2_2) rfl (by rw [hml]; exact hl.1) rfl xd_Re_init_1 (Nat.le_of_ble_eq_true rfl) (Nat.le_of_ble_eq_true rfl) ?_
  refine W.eq (g2 := F0 m 4 ls []) rfl ?_
  refine lv_aload_n hx hb xd_Re_init_4 rfl (lv_at hl 0 rfl) ?_
  refine lv_bipush (v := 6) hx hb xd_Re_init_5 (by decide) ?_
  refine W.eq (g2 := F0 m 7 ls [.int (nI 6), .ref (ad b o)]) rfl ?_
  refine px_newa (atype := .int) (a0 := (6, Sum.inl (fun _ => 0))) (ty := .int) (N' := 6) b oa hx hb (hT _ yr2_3) rfl (fun _ h9 => h9) hK.1 0 rfl hP hD hS hA (fun _ => rfl) (by omega) (Nat.le_of_ble_eq_true rfl) (Nat.le_of_ble_eq_true rfl) (Nat.le_of_ble_eq_true rfl) xd_Re_init_7 (fun ad1 E2 RL3 H hA1 hE1 hs1 hm1 hP hD hS => ?_)
  have fE4 : ∀ b2 o2, ¬ (b2 = b ∧ o2 = oa) → E2 b2 o2 = E b2 o2 := fun b2 o2 h9 => by rw [hE1]; exact up2_ne (by omega)
  have fA5 : ∀ b2 o2, ¬ (b2 = b ∧ o2 = oa) → ad1 b2 o2 = ad b2 o2 := fun b2 o2 h9 => by rw [hA1]; exact up2_ne (by omega)
  have hs6 := hs1
  refine W.eq (g2 := F0 m _ ls [.ref (ad1 b oa), .ref (ad1 b o)]) (by rw [fA5 b o (by omega)]) ?_
  have c_7 : E2 b oa = .inl (kA 0, 6, .inl (fun _ => 0)) := by rw [hE1]; exact up2_eq
  have hl : lv_has ls 1 [(0, .ref (ad1 b o))] := by
    rw [fA5 b o (by omega)]; exact hl
  have m_9 : (b, o) ∈ RL3 := hs6 _ ym0
  have c_10 : E2 b o = .inr (10, [.null]) := by rw [fE4 b o (by omega)]; exact yc0
  have m_8 : (b, oa) ∈ RL3 := hm1
  have hP : va_P D xcl (rp ad1 E2 RL3) H := hP
  have hD : va_D A (rp ad1 E2 RL3) := hD
  refine px_putF (D := D) (ci := 10) (v := .ref (ad1 b oa)) (ty := .array .int) (C := xR_Re) (T := xT_Re) (N := 1) hx hb hT xi_Re xt_Re xt_Re_ok xn_Re hown hK.1 hP hD hS m_9 c_10 rfl 0 (by decide) (hT _ yr2_4) (fun _ h9 => h9) rfl hin rfl (by decide +kernel) rfl rfl (Nat.le_of_ble_eq_true rfl) xd_Re_init_9 (fun H locs hP hD hS => ?_)
  have hP : va_P D xcl (rp ad1 (up2 E2 b o (.inr (10, [.ref (ad1 b oa)]))) RL3) H := hP
  have hD : va_D A (rp ad1 (up2 E2 b o (.inr (10, [.ref (ad1 b oa)]))) RL3) := hD
  generalize hE12 : up2 E2 b o (.inr (10, [.ref (ad1 b oa)])) = E11 at hP hD
  have fE13 : ∀ b2 o2, ¬ (b2 = b ∧ o2 = o) → E11 b2 o2 = E2 b2 o2 := fun b2 o2 h9 => by rw [← hE12]; exact up2_ne (by omega)
  have c_14 : E11 b o = .inr (10, [.ref (ad1 b oa)]) := by rw [← hE12]; exact up2_eq
  have c_15 : E11 b oa = .inl (kA 0, 6, .inl (fun _ => 0)) := (fE13 b oa (by omega)).trans c_7
  refine W.widen (k := 1) (n := 6) (Nat.le_of_ble_eq_true rfl) (Nat.le_of_ble_eq_true rfl) ?_
  exact W.vret hx hb hr (fun t ht hW => ⟨⟨(ad1, E11, RL3), rfl, ⟨trivial, c_14, c_15, (fun b2 o2 h09 h19 => by show E11 b2 o2 = _; rw [fE13 b2 o2 (by omega), fE4 b2 o2 (by omega)]), (fun b2 o2 h09 => by show ad1 b2 o2 = _; rw [fA5 b2 o2 (by omega)]), (fun x9 hx9 => hs6 _ hx9), m_8⟩, by rw [ht]; exact hP, hD⟩, hS.F ht⟩) hS.2.2 xd_Re_init_12
set_option maxHeartbeats 4000000 in
set_option maxRecDepth 100000 in
theorem xc_Me_init (l : Launch) (D : va_G) (kA : Nat → ClassId) (sz : Nat) (ad : Nat → Nat → Nat) (E : Nat → Nat → va_E) (RL : List (Nat × Nat)) (n : Nat) (k : Nat) (d : Nat) (fd : Int32) (nm : Int32) (sd : Int32) (k1 : Nat) (ym0 : (20 + n, 10 + 10 * k) ∈ RL) (yc0 : E (20 + n) (10 + 10 * k) = .inr (6, [.null, .null, .null, .null, .null, .null])) (ym1 : (1 + d, 0) ∈ RL) (yc1 : E (1 + d) 0 = .inr (7, [.int (nI d), .int fd, .int nm, .ref (ad (1 + d) 1), .ref (ad (1 + d) 9), .ref (ad (1 + d) 10), .ref (ad (1 + d) 2), .ref (ad (1 + d) 11), .ref (ad (1 + d) 12), .ref (ad (1 + d) 3), .ref (ad (1 + d) 4), .int sd])) (ym2 : (1 + d, 2) ∈ RL) (yc2 : E (1 + d) 2 = .inr (8, [.ref (ad (1 + d) 6), .int (nI k1)])) (hd12 : d < 12) (hk1 : k1 ≤ 5) : Met l xy_Me_init (.code xy_Me_init xb_Me_init 3 none :: wT) { frames := 2, cells := 7, slots := 26, locals := 34 } (va_Pc [.ref (ad (20 + n) (10 + 10 * k)), .ref (ad (20 + n) 0), .ref (ad (1 + d) 0)] (xPre D kA sz (rp ad E RL))) (va_Qv (fun (u : (Nat → Nat → Nat) × (Nat → Nat → va_E) × List (Nat × Nat)) => (True) ∧ (u.2.1 (20 + n) (10 + 10 * k) = .inr (6, [.ref (u.1 (20 + n) 0), .ref (u.1 (1 + d) 0), .ref (u.1 (20 + n) (11 + 10 * k)), .ref (u.1 (20 + n) (12 + 10 * k)), .ref (u.1 (20 + n) (13 + 10 * k)), .ref (u.1 (20 + n) (14 + 10 * k))])) ∧ (u.2.1 (20 + n) (11 + 10 * k) = .inl (kA 6, k1, .inr (.inr (.inr (.inr (fun _ => none)))))) ∧ (u.2.1 (20 + n) (12 + 10 * k) = .inr (10, [.ref (u.1 (20 + n) (15 + 10 * k))])) ∧ (u.2.1 (20 + n) (13 + 10 * k) = .inr (10, [.ref (u.1 (20 + n) (16 + 10 * k))])) ∧ (u.2.1 (20 + n) (14 + 10 * k) = .inr (10, [.ref (u.1 (20 + n) (17 + 10 * k))])) ∧ (u.2.1 (20 + n) (15 + 10 * k) = .inl (kA 0, 6, .inl (fun _ => 0))) ∧ (u.2.1 (20 + n) (16 + 10 * k) = .inl (kA 0, 6, .inl (fun _ => 0))) ∧ (u.2.1 (20 + n) (17 + 10 * k) = .inl (kA 0, 6, .inl (fun _ => 0))) ∧ ((∀ b2 o2, ¬ (b2 = 20 + n ∧ o2 = 10 + 10 * k) → ¬ (b2 = 20 + n ∧ o2 = 11 + 10 * k) → ¬ (b2 = 20 + n ∧ o2 = 12 + 10 * k) → ¬ (b2 = 20 + n ∧ o2 = 13 + 10 * k) → ¬ (b2 = 20 + n ∧ o2 = 14 + 10 * k) → ¬ (b2 = 20 + n ∧ o2 = 15 + 10 * k) → ¬ (b2 = 20 + n ∧ o2 = 16 + 10 * k) → ¬ (b2 = 20 + n ∧ o2 = 17 + 10 * k) → u.2.1 b2 o2 = E b2 o2)) ∧ ((∀ b2 o2, ¬ (b2 = 20 + n ∧ o2 = 11 + 10 * k) → ¬ (b2 = 20 + n ∧ o2 = 12 + 10 * k) → ¬ (b2 = 20 + n ∧ o2 = 13 + 10 * k) → ¬ (b2 = 20 + n ∧ o2 = 14 + 10 * k) → ¬ (b2 = 20 + n ∧ o2 = 15 + 10 * k) → ¬ (b2 = 20 + n ∧ o2 = 16 + 10 * k) → ¬ (b2 = 20 + n ∧ o2 = 17 + 10 * k) → u.1 b2 o2 = ad b2 o2)) ∧ ((∀ x ∈ RL, x ∈ u.2.2)) ∧ ((20 + n, 11 + 10 * k) ∈ u.2.2) ∧ ((20 + n, 12 + 10 * k) ∈ u.2.2) ∧ ((20 + n, 13 + 10 * k) ∈ u.2.2) ∧ ((20 + n, 14 + 10 * k) ∈ u.2.2) ∧ ((20 + n, 15 + 10 * k) ∈ u.2.2) ∧ ((20 + n, 16 + 10 * k) ∈ u.2.2) ∧ ((20 + n, 17 + 10 * k) ∈ u.2.2)) (fun (u : (Nat → Nat → Nat) × (Nat → Nat → va_E) × List (Nat × Nat)) t => va_P D xcl (rp u.1 u.2.1 u.2.2) t.heap ∧ va_D (va_A (rp ad E RL) sz) (rp u.1 u.2.1 u.2.2)) (va_A (rp ad E RL) sz)) 7 26 (va_A (rp ad E RL) sz) := by
  refine Met.ofW (cc := xb_Me_init) (maxL := 3) (ret := none) (by decide) rfl ?_
  intro p e s m args below meth c s₁ B hml hv
  obtain ⟨rfl, hsz, hP, hK, hD0⟩ := hv
  have hx := B.exec
  have hb := B.bytes
  have hr := B.returns
  have hT := x_hT B.pre
  have hown : s.vm.findClass xR_Me = some m.cls := findClass_of_methodNamed B.named
  have hlocks := B.notSynchronized
  have hin : meth.name = "<init>" := (name_of_methodNamed B.named B.method).1
  subst hsz
  have hD := hD0.self (sz := s.heap.size)
  generalize hAe : va_A (rp ad E RL) s.heap.size = A at hD ⊢
  have hA : ∀ q : Nat, s.heap.size ≤ q → A q := fun q h => by rw [← hAe]; exact Or.inr h
  have hS : va_S A s.heap s.heap [] := va_S.rf
  have hl := lv_entry ([.ref (ad (20 + n) (10 + 10 * k)), .ref (ad (20 + n) 0), .ref (ad (1 + d) 0)]) (n := 3) (Nat.le_of_ble_eq_true rfl)
  rw [lg_entry_eq]
  generalize (lg_sl ([.ref (ad (20 + n) (10 + 10 * k)), .ref (ad (20 + n) 0), .ref (ad (1 + d) 0)]) ++ List.replicate (3 - (lg_sl ([.ref (ad (20 + n) (10 + 10 * k)), .ref (ad (20 + n) 0), .ref (ad (1 + d) 0)])).length) Slot.unset).toArray = ls at hl ⊢
  have hl : lv_has ls 3 [(0, .ref (ad (20 + n) (10 + 10 * k))), (1, .ref (ad (20 + n) 0)), (2, .ref (ad (1 + d) 0))] := hl
  have hP : va_P D xcl (rp ad E RL) s.heap := hP
  refine lv_aload_n hx hb xd_Me_init_0 rfl (lv_at hl 0 rfl) ?_
  refine W.objInit hx hb hown (hT _ yr2_5) (hT _ yr2_1) (hT _ yr2_2) rfl (by rw [hml]; exact hl.1) rfl xd_Me_init_1 (Nat.le_of_ble_eq_true rfl) (Nat.le_of_ble_eq_true rfl) ?_
  refine W.eq (g2 := F0 m 4 ls []) rfl ?_
  refine lv_aload_n hx hb xd_Me_init_4 rfl (lv_at hl 0 rfl) ?_
  refine px_new (ci := 10) (fs := [.null]) (C := xR_Re) (T := xT_Re) (N := 1) (20 + n) (12 + 10 * k) hx hb hT xi_Re xt_Re xt_Re_ok hown (hT _ yr2_6) (hT _ yr2_7) (hT _ yr2_8) hK.1 hP hD hS hA rfl (by decide +kernel) (Nat.le_of_ble_eq_true rfl) (Nat.le_of_ble_eq_true rfl) xd_Me_init_5 (fun ad1 E2 RL3 H hA1 hE1 hs1 hm1 hP hD hS => ?_)
  have fE4 : ∀ b2 o2, ¬ (b2 = 20 + n ∧ o2 = 12 + 10 * k) → E2 b2 o2 = E b2 o2 := fun b2 o2 h9 => by rw [hE1]; exact up2_ne (by omega)
  have fA5 : ∀ b2 o2, ¬ (b2 = 20 + n ∧ o2 = 12 + 10 * k) → ad1 b2 o2 = ad b2 o2 := fun b2 o2 h9 => by rw [hA1]; exact up2_ne (by omega)
  have hs6 := hs1
  refine W.eq (g2 := F0 m _ ls [.ref (ad1 (20 + n) (12 + 10 * k)), .ref (ad1 (20 + n) (10 + 10 * k))]) (by rw [fA5 (20 + n) (10 + 10 * k) (by omega)]) ?_
  have c_7 : E2 (20 + n) (12 + 10 * k) = .inr (10, [.null]) := by rw [hE1]; exact up2_eq
  have hl : lv_has ls 3 [(0, .ref (ad1 (20 + n) (10 + 10 * k))), (1, .ref (ad1 (20 + n) 0)), (2, .ref (ad1 (1 + d) 0))] := by
    rw [fA5 (20 + n) (10 + 10 * k) (by omega), fA5 (20 + n) 0 (by omega), fA5 (1 + d) 0 (by omega)]; exact hl
  have m_9 : (20 + n, 10 + 10 * k) ∈ RL3 := hs6 _ ym0
  have m_10 : (1 + d, 0) ∈ RL3 := hs6 _ ym1
  have m_11 : (1 + d, 2) ∈ RL3 := hs6 _ ym2
  have c_12 : E2 (20 + n) (10 + 10 * k) = .inr (6, [.null, .null, .null, .null, .null, .null]) := by rw [fE4 (20 + n) (10 + 10 * k) (by omega)]; exact yc0
  have c_13 : E2 (1 + d) 0 = .inr (7, [.int (nI d), .int fd, .int nm, .ref (ad1 (1 + d) 1), .ref (ad1 (1 + d) 9), .ref (ad1 (1 + d) 10), .ref (ad1 (1 + d) 2), .ref (ad1 (1 + d) 11), .ref (ad1 (1 + d) 12), .ref (ad1 (1 + d) 3), .ref (ad1 (1 + d) 4), .int sd]) := by rw [fE4 (1 + d) 0 (by omega), fA5 (1 + d) 1 (by omega), fA5 (1 + d) 9 (by omega), fA5 (1 + d) 10 (by omega), fA5 (1 + d) 2 (by omega), fA5 (1 + d) 11 (by omega), fA5 (1 + d) 12 (by omega), fA5 (1 + d) 3 (by omega), fA5 (1 + d) 4 (by omega)]; exact yc1
  have c_14 : E2 (1 + d) 2 = .inr (8, [.ref (ad1 (1 + d) 6), .int (nI k1)]) := by rw [fE4 (1 + d) 2 (by omega), fA5 (1 + d) 6 (by omega)]; exact yc2
  have m_8 : (20 + n, 12 + 10 * k) ∈ RL3 := hm1
  have hP : va_P D xcl (rp ad1 E2 RL3) H := hP
  have hD : va_D A (rp ad1 E2 RL3) := hD
  refine lv_dup hx hb xd_Me_init_8 rfl ?_
  have hFc := px_free hD hS hA
  refine va_callv (va_runIN (As := []) (rest := [.ref (ad1 (20 + n) (12 + 10 * k)), .ref (ad1 (20 + n) (10 + 10 * k))]) ⟨hx, hb, hml, hown, hT⟩ (xc_Re_init l D kA H.size ad1 E2 RL3 (20 + n) (12 + 10 * k) (15 + 10 * k) m_8 c_7 (by first | assumption | omega)) ⟨va_cnB 0 hT (wT_I yr2_9) rfl rfl rfl hK.2.1.2.2.2.1 (hT _ yr2_8) (by decide +kernel) ⟨Nat.le_of_ble_eq_true rfl, Nat.le_of_ble_eq_true rfl⟩, rfl, hT _ yr2_10⟩ (x_preS hK hP hD) rfl rfl hl.1 rfl (lv_room (Nat.le_of_ble_eq_true rfl)) xd_Me_init_9 ⟨(Nat.le_of_ble_eq_true rfl), (Nat.le_of_ble_eq_true rfl)⟩) hS (fun q _ h => hFc q h) hFc (fun u16 t H1 locs ht hvm hp17 hB hz1 hk1 hS => ?_)
  obtain ⟨hP1, hD1⟩ := hB
  rw [ht] at hP1
  have hD1 := hD1.weaken (fun _ _ _ h => hFc _ h)
  generalize H1 = H at hP1 hS ⊢
  have hP := hP1
  have hD := hD1
  obtain ⟨ad18, E19, RL20⟩ := u16
  obtain ⟨hp27, p_21, p_22, p_23, p_24, p_25, p_26⟩ := hp17
  have p_21 : E19 (20 + n) (12 + 10 * k) = .inr (10, [.ref (ad18 (20 + n) (15 + 10 * k))]) := p_21
  have p_22 : E19 (20 + n) (15 + 10 * k) = .inl (kA 0, 6, .inl (fun _ => 0)) := p_22
  have p_23 : (∀ b2 o2, ¬ (b2 = (20 + n) ∧ o2 = (12 + 10 * k)) → ¬ (b2 = (20 + n) ∧ o2 = (15 + 10 * k)) → E19 b2 o2 = E2 b2 o2) := p_23
  have p_24 : (∀ b2 o2, ¬ (b2 = (20 + n) ∧ o2 = (15 + 10 * k)) → ad18 b2 o2 = ad1 b2 o2) := p_24
  have p_25 : (∀ x ∈ RL3, x ∈ RL20) := p_25
  have p_26 : ((20 + n), (15 + 10 * k)) ∈ RL20 := p_26
  refine W.eq (g2 := F0 m 12 ls [.ref (ad18 (20 + n) (12 + 10 * k)), .ref (ad18 (20 + n) (10 + 10 * k))]) (by rw [p_24 (20 + n) (12 + 10 * k) (by omega), p_24 (20 + n) (10 + 10 * k) (by omega)]) ?_
  have hl : lv_has ls 3 [(0, .ref (ad18 (20 + n) (10 + 10 * k))), (1, .ref (ad18 (20 + n) 0)), (2, .ref (ad18 (1 + d) 0))] := by
    rw [p_24 (20 + n) (10 + 10 * k) (by omega), p_24 (20 + n) 0 (by omega), p_24 (1 + d) 0 (by omega)]; exact hl
  have m_28 : (20 + n, 10 + 10 * k) ∈ RL20 := p_25 _ m_9
  have m_29 : (1 + d, 0) ∈ RL20 := p_25 _ m_10
  have m_30 : (1 + d, 2) ∈ RL20 := p_25 _ m_11
  have m_31 : (20 + n, 12 + 10 * k) ∈ RL20 := p_25 _ m_8
  have c_32 : E19 (20 + n) (10 + 10 * k) = .inr (6, [.null, .null, .null, .null, .null, .null]) := by rw [p_23 (20 + n) (10 + 10 * k) (by omega) (by omega)]; exact c_12
  have c_33 : E19 (1 + d) 0 = .inr (7, [.int (nI d), .int fd, .int nm, .ref (ad18 (1 + d) 1), .ref (ad18 (1 + d) 9), .ref (ad18 (1 + d) 10), .ref (ad18 (1 + d) 2), .ref (ad18 (1 + d) 11), .ref (ad18 (1 + d) 12), .ref (ad18 (1 + d) 3), .ref (ad18 (1 + d) 4), .int sd]) := by rw [p_23 (1 + d) 0 (by omega) (by omega), p_24 (1 + d) 1 (by omega), p_24 (1 + d) 9 (by omega), p_24 (1 + d) 10 (by omega), p_24 (1 + d) 2 (by omega), p_24 (1 + d) 11 (by omega), p_24 (1 + d) 12 (by omega), p_24 (1 + d) 3 (by omega), p_24 (1 + d) 4 (by omega)]; exact c_13
  have c_34 : E19 (1 + d) 2 = .inr (8, [.ref (ad18 (1 + d) 6), .int (nI k1)]) := by rw [p_23 (1 + d) 2 (by omega) (by omega), p_24 (1 + d) 6 (by omega)]; exact c_14
  have hP : va_P D xcl (rp ad18 E19 RL20) H := hP
  have hD : va_D A (rp ad18 E19 RL20) := hD
  refine px_putF (D := D) (ci := 6) (v := .ref (ad18 (20 + n) (12 + 10 * k))) (ty := .object "LayerDesk$Reach") (C := xR_Me) (T := xT_Me) (N := 6) hx hb hT xi_Me xt_Me xt_Me_ok xn_Me hown hK.1 hP hD hS m_28 c_32 rfl 3 (by decide) (hT _ yr2_11) (fun _ h9 => h9) rfl hin rfl (by decide +kernel) rfl rfl (Nat.le_of_ble_eq_true rfl) xd_Me_init_12 (fun H locs hP hD hS => ?_)
  have hP : va_P D xcl (rp ad18 (up2 E19 (20 + n) (10 + 10 * k) (.inr (6, [.null, .null, .null, .ref (ad18 (20 + n) (12 + 10 * k)), .null, .null]))) RL20) H := hP
  have hD : va_D A (rp ad18 (up2 E19 (20 + n) (10 + 10 * k) (.inr (6, [.null, .null, .null, .ref (ad18 (20 + n) (12 + 10 * k)), .null, .null]))) RL20) := hD
  generalize hE36 : up2 E19 (20 + n) (10 + 10 * k) (.inr (6, [.null, .null, .null, .ref (ad18 (20 + n) (12 + 10 * k)), .null, .null])) = E35 at hP hD
  have fE37 : ∀ b2 o2, ¬ (b2 = 20 + n ∧ o2 = 10 + 10 * k) → E35 b2 o2 = E19 b2 o2 := fun b2 o2 h9 => by rw [← hE36]; exact up2_ne (by omega)
  have c_38 : E35 (20 + n) (10 + 10 * k) = .inr (6, [.null, .null, .null, .ref (ad18 (20 + n) (12 + 10 * k)), .null, .null]) := by rw [← hE36]; exact up2_eq
  have c_39 : E35 (20 + n) (12 + 10 * k) = .inr (10, [.ref (ad18 (20 + n) (15 + 10 * k))]) := (fE37 (20 + n) (12 + 10 * k) (by omega)).trans p_21
  have c_40 : E35 (20 + n) (15 + 10 * k) = .inl (kA 0, 6, .inl (fun _ => 0)) := (fE37 (20 + n) (15 + 10 * k) (by omega)).trans p_22
  have c_41 : E35 (1 + d) 0 = .inr (7, [.int (nI d), .int fd, .int nm, .ref (ad18 (1 + d) 1), .ref (ad18 (1 + d) 9), .ref (ad18 (1 + d) 10), .ref (ad18 (1 + d) 2), .ref (ad18 (1 + d) 11), .ref (ad18 (1 + d) 12), .ref (ad18 (1 + d) 3), .ref (ad18 (1 + d) 4), .int sd]) := (fE37 (1 + d) 0 (by omega)).trans c_33
  have c_42 : E35 (1 + d) 2 = .inr (8, [.ref (ad18 (1 + d) 6), .int (nI k1)]) := (fE37 (1 + d) 2 (by omega)).trans c_34
  refine lv_aload_n hx hb xd_Me_init_15 rfl (lv_at hl 0 rfl) ?_
  refine px_new (ci := 10) (fs := [.null]) (C := xR_Re) (T := xT_Re) (N := 1) (20 + n) (13 + 10 * k) hx hb hT xi_Re xt_Re xt_Re_ok hown (hT _ yr2_6) (hT _ yr2_7) (hT _ yr2_8) hK.1 hP hD hS hA rfl (by decide +kernel) (Nat.le_of_ble_eq_true rfl) (Nat.le_of_ble_eq_true rfl) xd_Me_init_16 (fun ad43 E44 RL45 H hA1 hE1 hs1 hm1 hP hD hS => ?_)
  have fE46 : ∀ b2 o2, ¬ (b2 = 20 + n ∧ o2 = 13 + 10 * k) → E44 b2 o2 = E35 b2 o2 := fun b2 o2 h9 => by rw [hE1]; exact up2_ne (by omega)
  have fA47 : ∀ b2 o2, ¬ (b2 = 20 + n ∧ o2 = 13 + 10 * k) → ad43 b2 o2 = ad18 b2 o2 := fun b2 o2 h9 => by rw [hA1]; exact up2_ne (by omega)
  have hs48 := hs1
  refine W.eq (g2 := F0 m _ ls [.ref (ad43 (20 + n) (13 + 10 * k)), .ref (ad43 (20 + n) (10 + 10 * k))]) (by rw [fA47 (20 + n) (10 + 10 * k) (by omega)]) ?_
  have c_49 : E44 (20 + n) (13 + 10 * k) = .inr (10, [.null]) := by rw [hE1]; exact up2_eq
  have hl : lv_has ls 3 [(0, .ref (ad43 (20 + n) (10 + 10 * k))), (1, .ref (ad43 (20 + n) 0)), (2, .ref (ad43 (1 + d) 0))] := by
    rw [fA47 (20 + n) (10 + 10 * k) (by omega), fA47 (20 + n) 0 (by omega), fA47 (1 + d) 0 (by omega)]; exact hl
  have m_51 : (20 + n, 10 + 10 * k) ∈ RL45 := hs48 _ m_28
  have m_52 : (1 + d, 0) ∈ RL45 := hs48 _ m_29
  have m_53 : (1 + d, 2) ∈ RL45 := hs48 _ m_30
  have m_54 : (20 + n, 12 + 10 * k) ∈ RL45 := hs48 _ m_31
  have m_55 : (20 + n, 15 + 10 * k) ∈ RL45 := hs48 _ p_26
  have c_56 : E44 (20 + n) (10 + 10 * k) = .inr (6, [.null, .null, .null, .ref (ad43 (20 + n) (12 + 10 * k)), .null, .null]) := by rw [fE46 (20 + n) (10 + 10 * k) (by omega), fA47 (20 + n) (12 + 10 * k) (by omega)]; exact c_38
  have c_57 : E44 (20 + n) (12 + 10 * k) = .inr (10, [.ref (ad43 (20 + n) (15 + 10 * k))]) := by rw [fE46 (20 + n) (12 + 10 * k) (by omega), fA47 (20 + n) (15 + 10 * k) (by omega)]; exact c_39
  have c_58 : E44 (20 + n) (15 + 10 * k) = .inl (kA 0, 6, .inl (fun _ => 0)) := by rw [fE46 (20 + n) (15 + 10 * k) (by omega)]; exact c_40
  have c_59 : E44 (1 + d) 0 = .inr (7, [.int (nI d), .int fd, .int nm, .ref (ad43 (1 + d) 1), .ref (ad43 (1 + d) 9), .ref (ad43 (1 + d) 10), .ref (ad43 (1 + d) 2), .ref (ad43 (1 + d) 11), .ref (ad43 (1 + d) 12), .ref (ad43 (1 + d) 3), .ref (ad43 (1 + d) 4), .int sd]) := by rw [fE46 (1 + d) 0 (by omega), fA47 (1 + d) 1 (by omega), fA47 (1 + d) 9 (by omega), fA47 (1 + d) 10 (by omega), fA47 (1 + d) 2 (by omega), fA47 (1 + d) 11 (by omega), fA47 (1 + d) 12 (by omega), fA47 (1 + d) 3 (by omega), fA47 (1 + d) 4 (by omega)]; exact c_41
  have c_60 : E44 (1 + d) 2 = .inr (8, [.ref (ad43 (1 + d) 6), .int (nI k1)]) := by rw [fE46 (1 + d) 2 (by omega), fA47 (1 + d) 6 (by omega)]; exact c_42
  have m_50 : (20 + n, 13 + 10 * k) ∈ RL45 := hm1
  have hP : va_P D xcl (rp ad43 E44 RL45) H := hP
  have hD : va_D A (rp ad43 E44 RL45) := hD
  refine lv_dup hx hb xd_Me_init_19 rfl ?_
  have hFc := px_free hD hS hA
  refine va_callv (va_runIN (As := []) (rest := [.ref (ad43 (20 + n) (13 + 10 * k)), .ref (ad43 (20 + n) (10 + 10 * k))]) ⟨hx, hb, hml, hown, hT⟩ (xc_Re_init l D kA H.size ad43 E44 RL45 (20 + n) (13 + 10 * k) (16 + 10 * k) m_50 c_49 (by first | assumption | omega)) ⟨va_cnB 0 hT (wT_I yr2_9) rfl rfl rfl hK.2.1.2.2.2.1 (hT _ yr2_8) (by decide +kernel) ⟨Nat.le_of_ble_eq_true rfl, Nat.le_of_ble_eq_true rfl⟩, rfl, hT _ yr2_10⟩ (x_preS hK hP hD) rfl rfl hl.1 rfl (lv_room (Nat.le_of_ble_eq_true rfl)) xd_Me_init_20 ⟨(Nat.le_of_ble_eq_true rfl), (Nat.le_of_ble_eq_true rfl)⟩) hS (fun q _ h => hFc q h) hFc (fun u62 t H1 locs ht hvm hp63 hB hz1 hk1 hS => ?_)
  obtain ⟨hP1, hD1⟩ := hB
  rw [ht] at hP1
  have hD1 := hD1.weaken (fun _ _ _ h => hFc _ h)
  generalize H1 = H at hP1 hS ⊢
  have hP := hP1
  have hD := hD1
  obtain ⟨ad64, E65, RL66⟩ := u62
  obtain ⟨hp73, p_67, p_68, p_69, p_70, p_71, p_72⟩ := hp63
  have p_67 : E65 (20 + n) (13 + 10 * k) = .inr (10, [.ref (ad64 (20 + n) (16 + 10 * k))]) := p_67
  have p_68 : E65 (20 + n) (16 + 10 * k) = .inl (kA 0, 6, .inl (fun _ => 0)) := p_68
  have p_69 : (∀ b2 o2, ¬ (b2 = (20 + n) ∧ o2 = (13 + 10 * k)) → ¬ (b2 = (20 + n) ∧ o2 = (16 + 10 * k)) → E65 b2 o2 = E44 b2 o2) := p_69
  have p_70 : (∀ b2 o2, ¬ (b2 = (20 + n) ∧ o2 = (16 + 10 * k)) → ad64 b2 o2 = ad43 b2 o2) := p_70
  have p_71 : (∀ x ∈ RL45, x ∈ RL66) := p_71
  have p_72 : ((20 + n), (16 + 10 * k)) ∈ RL66 := p_72
  refine W.eq (g2 := F0 m 23 ls [.ref (ad64 (20 + n) (13 + 10 * k)), .ref (ad64 (20 + n) (10 + 10 * k))]) (by rw [p_70 (20 + n) (13 + 10 * k) (by omega), p_70 (20 + n) (10 + 10 * k) (by omega)]) ?_
  have hl : lv_has ls 3 [(0, .ref (ad64 (20 + n) (10 + 10 * k))), (1, .ref (ad64 (20 + n) 0)), (2, .ref (ad64 (1 + d) 0))] := by
    rw [p_70 (20 + n) (10 + 10 * k) (by omega), p_70 (20 + n) 0 (by omega), p_70 (1 + d) 0 (by omega)]; exact hl
  have m_74 : (20 + n, 10 + 10 * k) ∈ RL66 := p_71 _ m_51
  have m_75 : (1 + d, 0) ∈ RL66 := p_71 _ m_52
  have m_76 : (1 + d, 2) ∈ RL66 := p_71 _ m_53
  have m_77 : (20 + n, 12 + 10 * k) ∈ RL66 := p_71 _ m_54
  have m_78 : (20 + n, 15 + 10 * k) ∈ RL66 := p_71 _ m_55
  have m_79 : (20 + n, 13 + 10 * k) ∈ RL66 := p_71 _ m_50
  have c_80 : E65 (20 + n) (10 + 10 * k) = .inr (6, [.null, .null, .null, .ref (ad64 (20 + n) (12 + 10 * k)), .null, .null]) := by rw [p_69 (20 + n) (10 + 10 * k) (by omega) (by omega), p_70 (20 + n) (12 + 10 * k) (by omega)]; exact c_56
  have c_81 : E65 (20 + n) (12 + 10 * k) = .inr (10, [.ref (ad64 (20 + n) (15 + 10 * k))]) := by rw [p_69 (20 + n) (12 + 10 * k) (by omega) (by omega), p_70 (20 + n) (15 + 10 * k) (by omega)]; exact c_57
  have c_82 : E65 (20 + n) (15 + 10 * k) = .inl (kA 0, 6, .inl (fun _ => 0)) := by rw [p_69 (20 + n) (15 + 10 * k) (by omega) (by omega)]; exact c_58
  have c_83 : E65 (1 + d) 0 = .inr (7, [.int (nI d), .int fd, .int nm, .ref (ad64 (1 + d) 1), .ref (ad64 (1 + d) 9), .ref (ad64 (1 + d) 10), .ref (ad64 (1 + d) 2), .ref (ad64 (1 + d) 11), .ref (ad64 (1 + d) 12), .ref (ad64 (1 + d) 3), .ref (ad64 (1 + d) 4), .int sd]) := by rw [p_69 (1 + d) 0 (by omega) (by omega), p_70 (1 + d) 1 (by omega), p_70 (1 + d) 9 (by omega), p_70 (1 + d) 10 (by omega), p_70 (1 + d) 2 (by omega), p_70 (1 + d) 11 (by omega), p_70 (1 + d) 12 (by omega), p_70 (1 + d) 3 (by omega), p_70 (1 + d) 4 (by omega)]; exact c_59
  have c_84 : E65 (1 + d) 2 = .inr (8, [.ref (ad64 (1 + d) 6), .int (nI k1)]) := by rw [p_69 (1 + d) 2 (by omega) (by omega), p_70 (1 + d) 6 (by omega)]; exact c_60
  have hP : va_P D xcl (rp ad64 E65 RL66) H := hP
  have hD : va_D A (rp ad64 E65 RL66) := hD
  refine px_putF (D := D) (ci := 6) (v := .ref (ad64 (20 + n) (13 + 10 * k))) (ty := .object "LayerDesk$Reach") (C := xR_Me) (T := xT_Me) (N := 6) hx hb hT xi_Me xt_Me xt_Me_ok xn_Me hown hK.1 hP hD hS m_74 c_80 rfl 4 (by decide) (hT _ yr2_12) (fun _ h9 => h9) rfl hin rfl (by decide +kernel) rfl rfl (Nat.le_of_ble_eq_true rfl) xd_Me_init_23 (fun H locs hP hD hS => ?_)
  have hP : va_P D xcl (rp ad64 (up2 E65 (20 + n) (10 + 10 * k) (.inr (6, [.null, .null, .null, .ref (ad64 (20 + n) (12 + 10 * k)), .ref (ad64 (20 + n) (13 + 10 * k)), .null]))) RL66) H := hP
  have hD : va_D A (rp ad64 (up2 E65 (20 + n) (10 + 10 * k) (.inr (6, [.null, .null, .null, .ref (ad64 (20 + n) (12 + 10 * k)), .ref (ad64 (20 + n) (13 + 10 * k)), .null]))) RL66) := hD
  generalize hE86 : up2 E65 (20 + n) (10 + 10 * k) (.inr (6, [.null, .null, .null, .ref (ad64 (20 + n) (12 + 10 * k)), .ref (ad64 (20 + n) (13 + 10 * k)), .null])) = E85 at hP hD
  have fE87 : ∀ b2 o2, ¬ (b2 = 20 + n ∧ o2 = 10 + 10 * k) → E85 b2 o2 = E65 b2 o2 := fun b2 o2 h9 => by rw [← hE86]; exact up2_ne (by omega)
  have c_88 : E85 (20 + n) (10 + 10 * k) = .inr (6, [.null, .null, .null, .ref (ad64 (20 + n) (12 + 10 * k)), .ref (ad64 (20 + n) (13 + 10 * k)), .null]) := by rw [← hE86]; exact up2_eq
  have c_89 : E85 (20 + n) (13 + 10 * k) = .inr (10, [.ref (ad64 (20 + n) (16 + 10 * k))]) := (fE87 (20 + n) (13 + 10 * k) (by omega)).trans p_67
  have c_90 : E85 (20 + n) (16 + 10 * k) = .inl (kA 0, 6, .inl (fun _ => 0)) := (fE87 (20 + n) (16 + 10 * k) (by omega)).trans p_68
  have c_91 : E85 (20 + n) (12 + 10 * k) = .inr (10, [.ref (ad64 (20 + n) (15 + 10 * k))]) := (fE87 (20 + n) (12 + 10 * k) (by omega)).trans c_81
  have c_92 : E85 (20 + n) (15 + 10 * k) = .inl (kA 0, 6, .inl (fun _ => 0)) := (fE87 (20 + n) (15 + 10 * k) (by omega)).trans c_82
  have c_93 : E85 (1 + d) 0 = .inr (7, [.int (nI d), .int fd, .int nm, .ref (ad64 (1 + d) 1), .ref (ad64 (1 + d) 9), .ref (ad64 (1 + d) 10), .ref (ad64 (1 + d) 2), .ref (ad64 (1 + d) 11), .ref (ad64 (1 + d) 12), .ref (ad64 (1 + d) 3), .ref (ad64 (1 + d) 4), .int sd]) := (fE87 (1 + d) 0 (by omega)).trans c_83
  have c_94 : E85 (1 + d) 2 = .inr (8, [.ref (ad64 (1 + d) 6), .int (nI k1)]) := (fE87 (1 + d) 2 (by omega)).trans c_84
  refine lv_aload_n hx hb xd_Me_init_26 rfl (lv_at hl 0 rfl) ?_
  refine px_new (ci := 10) (fs := [.null]) (C := xR_Re) (T := xT_Re) (N := 1) (20 + n) (14 + 10 * k) hx hb hT xi_Re xt_Re xt_Re_ok hown (hT _ yr2_6) (hT _ yr2_7) (hT _ yr2_8) hK.1 hP hD hS hA rfl (by decide +kernel) (Nat.le_of_ble_eq_true rfl) (Nat.le_of_ble_eq_true rfl) xd_Me_init_27 (fun ad95 E96 RL97 H hA1 hE1 hs1 hm1 hP hD hS => ?_)
  have fE98 : ∀ b2 o2, ¬ (b2 = 20 + n ∧ o2 = 14 + 10 * k) → E96 b2 o2 = E85 b2 o2 := fun b2 o2 h9 => by rw [hE1]; exact up2_ne (by omega)
  have fA99 : ∀ b2 o2, ¬ (b2 = 20 + n ∧ o2 = 14 + 10 * k) → ad95 b2 o2 = ad64 b2 o2 := fun b2 o2 h9 => by rw [hA1]; exact up2_ne (by omega)
  have hs100 := hs1
  refine W.eq (g2 := F0 m _ ls [.ref (ad95 (20 + n) (14 + 10 * k)), .ref (ad95 (20 + n) (10 + 10 * k))]) (by rw [fA99 (20 + n) (10 + 10 * k) (by omega)]) ?_
  have c_101 : E96 (20 + n) (14 + 10 * k) = .inr (10, [.null]) := by rw [hE1]; exact up2_eq
  have hl : lv_has ls 3 [(0, .ref (ad95 (20 + n) (10 + 10 * k))), (1, .ref (ad95 (20 + n) 0)), (2, .ref (ad95 (1 + d) 0))] := by
    rw [fA99 (20 + n) (10 + 10 * k) (by omega), fA99 (20 + n) 0 (by omega), fA99 (1 + d) 0 (by omega)]; exact hl
  have m_103 : (20 + n, 10 + 10 * k) ∈ RL97 := hs100 _ m_74
  have m_104 : (1 + d, 0) ∈ RL97 := hs100 _ m_75
  have m_105 : (1 + d, 2) ∈ RL97 := hs100 _ m_76
  have m_106 : (20 + n, 12 + 10 * k) ∈ RL97 := hs100 _ m_77
  have m_107 : (20 + n, 15 + 10 * k) ∈ RL97 := hs100 _ m_78
  have m_108 : (20 + n, 13 + 10 * k) ∈ RL97 := hs100 _ m_79
  have m_109 : (20 + n, 16 + 10 * k) ∈ RL97 := hs100 _ p_72
  have c_110 : E96 (20 + n) (10 + 10 * k) = .inr (6, [.null, .null, .null, .ref (ad95 (20 + n) (12 + 10 * k)), .ref (ad95 (20 + n) (13 + 10 * k)), .null]) := by rw [fE98 (20 + n) (10 + 10 * k) (by omega), fA99 (20 + n) (12 + 10 * k) (by omega), fA99 (20 + n) (13 + 10 * k) (by omega)]; exact c_88
  have c_111 : E96 (20 + n) (13 + 10 * k) = .inr (10, [.ref (ad95 (20 + n) (16 + 10 * k))]) := by rw [fE98 (20 + n) (13 + 10 * k) (by omega), fA99 (20 + n) (16 + 10 * k) (by omega)]; exact c_89
  have c_112 : E96 (20 + n) (16 + 10 * k) = .inl (kA 0, 6, .inl (fun _ => 0)) := by rw [fE98 (20 + n) (16 + 10 * k) (by omega)]; exact c_90
  have c_113 : E96 (20 + n) (12 + 10 * k) = .inr (10, [.ref (ad95 (20 + n) (15 + 10 * k))]) := by rw [fE98 (20 + n) (12 + 10 * k) (by omega), fA99 (20 + n) (15 + 10 * k) (by omega)]; exact c_91
  have c_114 : E96 (20 + n) (15 + 10 * k) = .inl (kA 0, 6, .inl (fun _ => 0)) := by rw [fE98 (20 + n) (15 + 10 * k) (by omega)]; exact c_92
  have c_115 : E96 (1 + d) 0 = .inr (7, [.int (nI d), .int fd, .int nm, .ref (ad95 (1 + d) 1), .ref (ad95 (1 + d) 9), .ref (ad95 (1 + d) 10), .ref (ad95 (1 + d) 2), .ref (ad95 (1 + d) 11), .ref (ad95 (1 + d) 12), .ref (ad95 (1 + d) 3), .ref (ad95 (1 + d) 4), .int sd]) := by rw [fE98 (1 + d) 0 (by omega), fA99 (1 + d) 1 (by omega), fA99 (1 + d) 9 (by omega), fA99 (1 + d) 10 (by omega), fA99 (1 + d) 2 (by omega), fA99 (1 + d) 11 (by omega), fA99 (1 + d) 12 (by omega), fA99 (1 + d) 3 (by omega), fA99 (1 + d) 4 (by omega)]; exact c_93
  have c_116 : E96 (1 + d) 2 = .inr (8, [.ref (ad95 (1 + d) 6), .int (nI k1)]) := by rw [fE98 (1 + d) 2 (by omega), fA99 (1 + d) 6 (by omega)]; exact c_94
  have m_102 : (20 + n, 14 + 10 * k) ∈ RL97 := hm1
  have hP : va_P D xcl (rp ad95 E96 RL97) H := hP
  have hD : va_D A (rp ad95 E96 RL97) := hD
  refine lv_dup hx hb xd_Me_init_30 rfl ?_
  have hFc := px_free hD hS hA
  refine va_callv (va_runIN (As := []) (rest := [.ref (ad95 (20 + n) (14 + 10 * k)), .ref (ad95 (20 + n) (10 + 10 * k))]) ⟨hx, hb, hml, hown, hT⟩ (xc_Re_init l D kA H.size ad95 E96 RL97 (20 + n) (14 + 10 * k) (17 + 10 * k) m_102 c_101 (by first | assumption | omega)) ⟨va_cnB 0 hT (wT_I yr2_9) rfl rfl rfl hK.2.1.2.2.2.1 (hT _ yr2_8) (by decide +kernel) ⟨Nat.le_of_ble_eq_true rfl, Nat.le_of_ble_eq_true rfl⟩, rfl, hT _ yr2_10⟩ (x_preS hK hP hD) rfl rfl hl.1 rfl (lv_room (Nat.le_of_ble_eq_true rfl)) xd_Me_init_31 ⟨(Nat.le_of_ble_eq_true rfl), (Nat.le_of_ble_eq_true rfl)⟩) hS (fun q _ h => hFc q h) hFc (fun u118 t H1 locs ht hvm hp119 hB hz1 hk1 hS => ?_)
  obtain ⟨hP1, hD1⟩ := hB
  rw [ht] at hP1
  have hD1 := hD1.weaken (fun _ _ _ h => hFc _ h)
  generalize H1 = H at hP1 hS ⊢
  have hP := hP1
  have hD := hD1
  obtain ⟨ad120, E121, RL122⟩ := u118
  obtain ⟨hp129, p_123, p_124, p_125, p_126, p_127, p_128⟩ := hp119
  have p_123 : E121 (20 + n) (14 + 10 * k) = .inr (10, [.ref (ad120 (20 + n) (17 + 10 * k))]) := p_123
  have p_124 : E121 (20 + n) (17 + 10 * k) = .inl (kA 0, 6, .inl (fun _ => 0)) := p_124
  have p_125 : (∀ b2 o2, ¬ (b2 = (20 + n) ∧ o2 = (14 + 10 * k)) → ¬ (b2 = (20 + n) ∧ o2 = (17 + 10 * k)) → E121 b2 o2 = E96 b2 o2) := p_125
  have p_126 : (∀ b2 o2, ¬ (b2 = (20 + n) ∧ o2 = (17 + 10 * k)) → ad120 b2 o2 = ad95 b2 o2) := p_126
  have p_127 : (∀ x ∈ RL97, x ∈ RL122) := p_127
  have p_128 : ((20 + n), (17 + 10 * k)) ∈ RL122 := p_128
  refine W.eq (g2 := F0 m 34 ls [.ref (ad120 (20 + n) (14 + 10 * k)), .ref (ad120 (20 + n) (10 + 10 * k))]) (by rw [p_126 (20 + n) (14 + 10 * k) (by omega), p_126 (20 + n) (10 + 10 * k) (by omega)]) ?_
  have hl : lv_has ls 3 [(0, .ref (ad120 (20 + n) (10 + 10 * k))), (1, .ref (ad120 (20 + n) 0)), (2, .ref (ad120 (1 + d) 0))] := by
    rw [p_126 (20 + n) (10 + 10 * k) (by omega), p_126 (20 + n) 0 (by omega), p_126 (1 + d) 0 (by omega)]; exact hl
  have m_130 : (20 + n, 10 + 10 * k) ∈ RL122 := p_127 _ m_103
  have m_131 : (1 + d, 0) ∈ RL122 := p_127 _ m_104
  have m_132 : (1 + d, 2) ∈ RL122 := p_127 _ m_105
  have m_133 : (20 + n, 12 + 10 * k) ∈ RL122 := p_127 _ m_106
  have m_134 : (20 + n, 15 + 10 * k) ∈ RL122 := p_127 _ m_107
  have m_135 : (20 + n, 13 + 10 * k) ∈ RL122 := p_127 _ m_108
  have m_136 : (20 + n, 16 + 10 * k) ∈ RL122 := p_127 _ m_109
  have m_137 : (20 + n, 14 + 10 * k) ∈ RL122 := p_127 _ m_102
  have c_138 : E121 (20 + n) (10 + 10 * k) = .inr (6, [.null, .null, .null, .ref (ad120 (20 + n) (12 + 10 * k)), .ref (ad120 (20 + n) (13 + 10 * k)), .null]) := by rw [p_125 (20 + n) (10 + 10 * k) (by omega) (by omega), p_126 (20 + n) (12 + 10 * k) (by omega), p_126 (20 + n) (13 + 10 * k) (by omega)]; exact c_110
  have c_139 : E121 (20 + n) (13 + 10 * k) = .inr (10, [.ref (ad120 (20 + n) (16 + 10 * k))]) := by rw [p_125 (20 + n) (13 + 10 * k) (by omega) (by omega), p_126 (20 + n) (16 + 10 * k) (by omega)]; exact c_111
  have c_140 : E121 (20 + n) (16 + 10 * k) = .inl (kA 0, 6, .inl (fun _ => 0)) := by rw [p_125 (20 + n) (16 + 10 * k) (by omega) (by omega)]; exact c_112
  have c_141 : E121 (20 + n) (12 + 10 * k) = .inr (10, [.ref (ad120 (20 + n) (15 + 10 * k))]) := by rw [p_125 (20 + n) (12 + 10 * k) (by omega) (by omega), p_126 (20 + n) (15 + 10 * k) (by omega)]; exact c_113
  have c_142 : E121 (20 + n) (15 + 10 * k) = .inl (kA 0, 6, .inl (fun _ => 0)) := by rw [p_125 (20 + n) (15 + 10 * k) (by omega) (by omega)]; exact c_114
  have c_143 : E121 (1 + d) 0 = .inr (7, [.int (nI d), .int fd, .int nm, .ref (ad120 (1 + d) 1), .ref (ad120 (1 + d) 9), .ref (ad120 (1 + d) 10), .ref (ad120 (1 + d) 2), .ref (ad120 (1 + d) 11), .ref (ad120 (1 + d) 12), .ref (ad120 (1 + d) 3), .ref (ad120 (1 + d) 4), .int sd]) := by rw [p_125 (1 + d) 0 (by omega) (by omega), p_126 (1 + d) 1 (by omega), p_126 (1 + d) 9 (by omega), p_126 (1 + d) 10 (by omega), p_126 (1 + d) 2 (by omega), p_126 (1 + d) 11 (by omega), p_126 (1 + d) 12 (by omega), p_126 (1 + d) 3 (by omega), p_126 (1 + d) 4 (by omega)]; exact c_115
  have c_144 : E121 (1 + d) 2 = .inr (8, [.ref (ad120 (1 + d) 6), .int (nI k1)]) := by rw [p_125 (1 + d) 2 (by omega) (by omega), p_126 (1 + d) 6 (by omega)]; exact c_116
  have hP : va_P D xcl (rp ad120 E121 RL122) H := hP
  have hD : va_D A (rp ad120 E121 RL122) := hD
  refine px_putF (D := D) (ci := 6) (v := .ref (ad120 (20 + n) (14 + 10 * k))) (ty := .object "LayerDesk$Reach") (C := xR_Me) (T := xT_Me) (N := 6) hx hb hT xi_Me xt_Me xt_Me_ok xn_Me hown hK.1 hP hD hS m_130 c_138 rfl 5 (by decide) (hT _ yr2_13) (fun _ h9 => h9) rfl hin rfl (by decide +kernel) rfl rfl (Nat.le_of_ble_eq_true rfl) xd_Me_init_34 (fun H locs hP hD hS => ?_)
  have hP : va_P D xcl (rp ad120 (up2 E121 (20 + n) (10 + 10 * k) (.inr (6, [.null, .null, .null, .ref (ad120 (20 + n) (12 + 10 * k)), .ref (ad120 (20 + n) (13 + 10 * k)), .ref (ad120 (20 + n) (14 + 10 * k))]))) RL122) H := hP
  have hD : va_D A (rp ad120 (up2 E121 (20 + n) (10 + 10 * k) (.inr (6, [.null, .null, .null, .ref (ad120 (20 + n) (12 + 10 * k)), .ref (ad120 (20 + n) (13 + 10 * k)), .ref (ad120 (20 + n) (14 + 10 * k))]))) RL122) := hD
  generalize hE146 : up2 E121 (20 + n) (10 + 10 * k) (.inr (6, [.null, .null, .null, .ref (ad120 (20 + n) (12 + 10 * k)), .ref (ad120 (20 + n) (13 + 10 * k)), .ref (ad120 (20 + n) (14 + 10 * k))])) = E145 at hP hD
  have fE147 : ∀ b2 o2, ¬ (b2 = 20 + n ∧ o2 = 10 + 10 * k) → E145 b2 o2 = E121 b2 o2 := fun b2 o2 h9 => by rw [← hE146]; exact up2_ne (by omega)
  have c_148 : E145 (20 + n) (10 + 10 * k) = .inr (6, [.null, .null, .null, .ref (ad120 (20 + n) (12 + 10 * k)), .ref (ad120 (20 + n) (13 + 10 * k)), .ref (ad120 (20 + n) (14 + 10 * k))]) := by rw [← hE146]; exact up2_eq
  have c_149 : E145 (20 + n) (14 + 10 * k) = .inr (10, [.ref (ad120 (20 + n) (17 + 10 * k))]) := (fE147 (20 + n) (14 + 10 * k) (by omega)).trans p_123
  have c_150 : E145 (20 + n) (17 + 10 * k) = .inl (kA 0, 6, .inl (fun _ => 0)) := (fE147 (20 + n) (17 + 10 * k) (by omega)).trans p_124
  have c_151 : E145 (20 + n) (13 + 10 * k) = .inr (10, [.ref (ad120 (20 + n) (16 + 10 * k))]) := (fE147 (20 + n) (13 + 10 * k) (by omega)).trans c_139
  have c_152 : E145 (20 + n) (16 + 10 * k) = .inl (kA 0, 6, .inl (fun _ => 0)) := (fE147 (20 + n) (16 + 10 * k) (by omega)).trans c_140
  have c_153 : E145 (20 + n) (12 + 10 * k) = .inr (10, [.ref (ad120 (20 + n) (15 + 10 * k))]) := (fE147 (20 + n) (12 + 10 * k) (by omega)).trans c_141
  have c_154 : E145 (20 + n) (15 + 10 * k) = .inl (kA 0, 6, .inl (fun _ => 0)) := (fE147 (20 + n) (15 + 10 * k) (by omega)).trans c_142
  have c_155 : E145 (1 + d) 0 = .inr (7, [.int (nI d), .int fd, .int nm, .ref (ad120 (1 + d) 1), .ref (ad120 (1 + d) 9), .ref (ad120 (1 + d) 10), .ref (ad120 (1 + d) 2), .ref (ad120 (1 + d) 11), .ref (ad120 (1 + d) 12), .ref (ad120 (1 + d) 3), .ref (ad120 (1 + d) 4), .int sd]) := (fE147 (1 + d) 0 (by omega)).trans c_143
  have c_156 : E145 (1 + d) 2 = .inr (8, [.ref (ad120 (1 + d) 6), .int (nI k1)]) := (fE147 (1 + d) 2 (by omega)).trans c_144
  refine lv_aload_n hx hb xd_Me_init_37 rfl (lv_at hl 0 rfl) ?_
  refine lv_aload_n hx hb xd_Me_init_38 rfl (lv_at hl 1 rfl) ?_
  refine px_putF (D := D) (ci := 6) (v := .ref (ad120 (20 + n) 0)) (ty := .object "LayerDesk$Layer") (C := xR_Me) (T := xT_Me) (N := 6) hx hb hT xi_Me xt_Me xt_Me_ok xn_Me hown hK.1 hP hD hS m_130 c_148 rfl 0 (by decide) (hT _ yr2_14) (fun _ h9 => h9) rfl hin rfl (by decide +kernel) rfl rfl (Nat.le_of_ble_eq_true rfl) xd_Me_init_39 (fun H locs hP hD hS => ?_)
  have hP : va_P D xcl (rp ad120 (up2 E145 (20 + n) (10 + 10 * k) (.inr (6, [.ref (ad120 (20 + n) 0), .null, .null, .ref (ad120 (20 + n) (12 + 10 * k)), .ref (ad120 (20 + n) (13 + 10 * k)), .ref (ad120 (20 + n) (14 + 10 * k))]))) RL122) H := hP
  have hD : va_D A (rp ad120 (up2 E145 (20 + n) (10 + 10 * k) (.inr (6, [.ref (ad120 (20 + n) 0), .null, .null, .ref (ad120 (20 + n) (12 + 10 * k)), .ref (ad120 (20 + n) (13 + 10 * k)), .ref (ad120 (20 + n) (14 + 10 * k))]))) RL122) := hD
  generalize hE158 : up2 E145 (20 + n) (10 + 10 * k) (.inr (6, [.ref (ad120 (20 + n) 0), .null, .null, .ref (ad120 (20 + n) (12 + 10 * k)), .ref (ad120 (20 + n) (13 + 10 * k)), .ref (ad120 (20 + n) (14 + 10 * k))])) = E157 at hP hD
  have fE159 : ∀ b2 o2, ¬ (b2 = 20 + n ∧ o2 = 10 + 10 * k) → E157 b2 o2 = E145 b2 o2 := fun b2 o2 h9 => by rw [← hE158]; exact up2_ne (by omega)
  have c_160 : E157 (20 + n) (10 + 10 * k) = .inr (6, [.ref (ad120 (20 + n) 0), .null, .null, .ref (ad120 (20 + n) (12 + 10 * k)), .ref (ad120 (20 + n) (13 + 10 * k)), .ref (ad120 (20 + n) (14 + 10 * k))]) := by rw [← hE158]; exact up2_eq
  have c_161 : E157 (20 + n) (14 + 10 * k) = .inr (10, [.ref (ad120 (20 + n) (17 + 10 * k))]) := (fE159 (20 + n) (14 + 10 * k) (by omega)).trans c_149
  have c_162 : E157 (20 + n) (17 + 10 * k) = .inl (kA 0, 6, .inl (fun _ => 0)) := (fE159 (20 + n) (17 + 10 * k) (by omega)).trans c_150
  have c_163 : E157 (20 + n) (13 + 10 * k) = .inr (10, [.ref (ad120 (20 + n) (16 + 10 * k))]) := (fE159 (20 + n) (13 + 10 * k) (by omega)).trans c_151
  have c_164 : E157 (20 + n) (16 + 10 * k) = .inl (kA 0, 6, .inl (fun _ => 0)) := (fE159 (20 + n) (16 + 10 * k) (by omega)).trans c_152
  have c_165 : E157 (20 + n) (12 + 10 * k) = .inr (10, [.ref (ad120 (20 + n) (15 + 10 * k))]) := (fE159 (20 + n) (12 + 10 * k) (by omega)).trans c_153
  have c_166 : E157 (20 + n) (15 + 10 * k) = .inl (kA 0, 6, .inl (fun _ => 0)) := (fE159 (20 + n) (15 + 10 * k) (by omega)).trans c_154
  have c_167 : E157 (1 + d) 0 = .inr (7, [.int (nI d), .int fd, .int nm, .ref (ad120 (1 + d) 1), .ref (ad120 (1 + d) 9), .ref (ad120 (1 + d) 10), .ref (ad120 (1 + d) 2), .ref (ad120 (1 + d) 11), .ref (ad120 (1 + d) 12), .ref (ad120 (1 + d) 3), .ref (ad120 (1 + d) 4), .int sd]) := (fE159 (1 + d) 0 (by omega)).trans c_155
  have c_168 : E157 (1 + d) 2 = .inr (8, [.ref (ad120 (1 + d) 6), .int (nI k1)]) := (fE159 (1 + d) 2 (by omega)).trans c_156
  refine lv_aload_n hx hb xd_Me_init_42 rfl (lv_at hl 0 rfl) ?_
  refine lv_aload_n hx hb xd_Me_init_43 rfl (lv_at hl 2 rfl) ?_
  refine px_putF (D := D) (ci := 6) (v := .ref (ad120 (1 + d) 0)) (ty := .object "LayerDesk$Descriptor") (C := xR_Me) (T := xT_Me) (N := 6) hx hb hT xi_Me xt_Me xt_Me_ok xn_Me hown hK.1 hP hD hS m_130 c_160 rfl 1 (by decide) (hT _ yr2_15) (fun _ h9 => h9) rfl hin rfl (by decide +kernel) rfl rfl (Nat.le_of_ble_eq_true rfl) xd_Me_init_44 (fun H locs hP hD hS => ?_)
  have hP : va_P D xcl (rp ad120 (up2 E157 (20 + n) (10 + 10 * k) (.inr (6, [.ref (ad120 (20 + n) 0), .ref (ad120 (1 + d) 0), .null, .ref (ad120 (20 + n) (12 + 10 * k)), .ref (ad120 (20 + n) (13 + 10 * k)), .ref (ad120 (20 + n) (14 + 10 * k))]))) RL122) H := hP
  have hD : va_D A (rp ad120 (up2 E157 (20 + n) (10 + 10 * k) (.inr (6, [.ref (ad120 (20 + n) 0), .ref (ad120 (1 + d) 0), .null, .ref (ad120 (20 + n) (12 + 10 * k)), .ref (ad120 (20 + n) (13 + 10 * k)), .ref (ad120 (20 + n) (14 + 10 * k))]))) RL122) := hD
  generalize hE170 : up2 E157 (20 + n) (10 + 10 * k) (.inr (6, [.ref (ad120 (20 + n) 0), .ref (ad120 (1 + d) 0), .null, .ref (ad120 (20 + n) (12 + 10 * k)), .ref (ad120 (20 + n) (13 + 10 * k)), .ref (ad120 (20 + n) (14 + 10 * k))])) = E169 at hP hD
  have fE171 : ∀ b2 o2, ¬ (b2 = 20 + n ∧ o2 = 10 + 10 * k) → E169 b2 o2 = E157 b2 o2 := fun b2 o2 h9 => by rw [← hE170]; exact up2_ne (by omega)
  have c_172 : E169 (20 + n) (10 + 10 * k) = .inr (6, [.ref (ad120 (20 + n) 0), .ref (ad120 (1 + d) 0), .null, .ref (ad120 (20 + n) (12 + 10 * k)), .ref (ad120 (20 + n) (13 + 10 * k)), .ref (ad120 (20 + n) (14 + 10 * k))]) := by rw [← hE170]; exact up2_eq
  have c_173 : E169 (20 + n) (14 + 10 * k) = .inr (10, [.ref (ad120 (20 + n) (17 + 10 * k))]) := (fE171 (20 + n) (14 + 10 * k) (by omega)).trans c_161
  have c_174 : E169 (20 + n) (17 + 10 * k) = .inl (kA 0, 6, .inl (fun _ => 0)) := (fE171 (20 + n) (17 + 10 * k) (by omega)).trans c_162
  have c_175 : E169 (20 + n) (13 + 10 * k) = .inr (10, [.ref (ad120 (20 + n) (16 + 10 * k))]) := (fE171 (20 + n) (13 + 10 * k) (by omega)).trans c_163
  have c_176 : E169 (20 + n) (16 + 10 * k) = .inl (kA 0, 6, .inl (fun _ => 0)) := (fE171 (20 + n) (16 + 10 * k) (by omega)).trans c_164
  have c_177 : E169 (20 + n) (12 + 10 * k) = .inr (10, [.ref (ad120 (20 + n) (15 + 10 * k))]) := (fE171 (20 + n) (12 + 10 * k) (by omega)).trans c_165
  have c_178 : E169 (20 + n) (15 + 10 * k) = .inl (kA 0, 6, .inl (fun _ => 0)) := (fE171 (20 + n) (15 + 10 * k) (by omega)).trans c_166
  have c_179 : E169 (1 + d) 0 = .inr (7, [.int (nI d), .int fd, .int nm, .ref (ad120 (1 + d) 1), .ref (ad120 (1 + d) 9), .ref (ad120 (1 + d) 10), .ref (ad120 (1 + d) 2), .ref (ad120 (1 + d) 11), .ref (ad120 (1 + d) 12), .ref (ad120 (1 + d) 3), .ref (ad120 (1 + d) 4), .int sd]) := (fE171 (1 + d) 0 (by omega)).trans c_167
  have c_180 : E169 (1 + d) 2 = .inr (8, [.ref (ad120 (1 + d) 6), .int (nI k1)]) := (fE171 (1 + d) 2 (by omega)).trans c_168
  refine lv_aload_n hx hb xd_Me_init_47 rfl (lv_at hl 0 rfl) ?_
  refine lv_aload_n hx hb xd_Me_init_48 rfl (lv_at hl 2 rfl) ?_
  refine px_get (D := D) (ci := 7) (v := .ref (ad120 (1 + d) 2)) (C := xR_Ds) (T := xT_Ds) (N := 12) hx hb hT xi_Ds hown hK.1 hP m_131 c_179 rfl 6 (by decide) (hT _ yr2_16) (fun _ h9 => h9) rfl xd_Me_init_49 ?_
  refine px_get (D := D) (ci := 8) (v := .int (nI k1)) (C := xR_Na) (T := xT_Na) (N := 2) hx hb hT xi_Na hown hK.1 hP m_132 c_180 rfl 1 (by decide) (hT _ yr2_17) (fun _ h9 => h9) rfl xd_Me_init_52 ?_
  refine W.eq (g2 := F0 m 55 ls [.int (nI k1), .ref (ad120 (20 + n) (10 + 10 * k))]) rfl ?_
  refine px_newq (C := "LayerDesk$Member") (N' := k1) (20 + n) (11 + 10 * k) hx hb hown (hT _ yr2_18) hK.2.1.2.2.2.2.2.2.1 hK.1 6 rfl hP hD hS hA (by omega) (show k1 * 4 ≤ 536870912 by omega) (Nat.le_of_ble_eq_true rfl) (show 21 + k1 ≤ 26 by omega) xd_Me_init_55 (fun ad181 E182 RL183 H hA1 hE1 hs1 hm1 hP hD hS => ?_)
  refine W.widen (k := 7) (n := 26) (by omega) (by omega) ?_
  have fE184 : ∀ b2 o2, ¬ (b2 = 20 + n ∧ o2 = 11 + 10 * k) → E182 b2 o2 = E169 b2 o2 := fun b2 o2 h9 => by rw [hE1]; exact up2_ne (by omega)
  have fA185 : ∀ b2 o2, ¬ (b2 = 20 + n ∧ o2 = 11 + 10 * k) → ad181 b2 o2 = ad120 b2 o2 := fun b2 o2 h9 => by rw [hA1]; exact up2_ne (by omega)
  have hs186 := hs1
  refine W.eq (g2 := F0 m _ ls [.ref (ad181 (20 + n) (11 + 10 * k)), .ref (ad181 (20 + n) (10 + 10 * k))]) (by rw [fA185 (20 + n) (10 + 10 * k) (by omega)]) ?_
  have c_187 : E182 (20 + n) (11 + 10 * k) = .inl (kA 6, k1, .inr (.inr (.inr (.inr (fun _ => none))))) := by rw [hE1]; exact up2_eq
  have hl : lv_has ls 3 [(0, .ref (ad181 (20 + n) (10 + 10 * k))), (1, .ref (ad181 (20 + n) 0)), (2, .ref (ad181 (1 + d) 0))] := by
    rw [fA185 (20 + n) (10 + 10 * k) (by omega), fA185 (20 + n) 0 (by omega), fA185 (1 + d) 0 (by omega)]; exact hl
  have m_189 : (20 + n, 10 + 10 * k) ∈ RL183 := hs186 _ m_130
  have m_190 : (1 + d, 0) ∈ RL183 := hs186 _ m_131
  have m_191 : (1 + d, 2) ∈ RL183 := hs186 _ m_132
  have m_192 : (20 + n, 12 + 10 * k) ∈ RL183 := hs186 _ m_133
  have m_193 : (20 + n, 15 + 10 * k) ∈ RL183 := hs186 _ m_134
  have m_194 : (20 + n, 13 + 10 * k) ∈ RL183 := hs186 _ m_135
  have m_195 : (20 + n, 16 + 10 * k) ∈ RL183 := hs186 _ m_136
  have m_196 : (20 + n, 14 + 10 * k) ∈ RL183 := hs186 _ m_137
  have m_197 : (20 + n, 17 + 10 * k) ∈ RL183 := hs186 _ p_128
  have c_198 : E182 (20 + n) (10 + 10 * k) = .inr (6, [.ref (ad181 (20 + n) 0), .ref (ad181 (1 + d) 0), .null, .ref (ad181 (20 + n) (12 + 10 * k)), .ref (ad181 (20 + n) (13 + 10 * k)), .ref (ad181 (20 + n) (14 + 10 * k))]) := by rw [fE184 (20 + n) (10 + 10 * k) (by omega), fA185 (20 + n) 0 (by omega), fA185 (1 + d) 0 (by omega), fA185 (20 + n) (12 + 10 * k) (by omega), fA185 (20 + n) (13 + 10 * k) (by omega), fA185 (20 + n) (14 + 10 * k) (by omega)]; exact c_172
  have c_199 : E182 (20 + n) (14 + 10 * k) = .inr (10, [.ref (ad181 (20 + n) (17 + 10 * k))]) := by rw [fE184 (20 + n) (14 + 10 * k) (by omega), fA185 (20 + n) (17 + 10 * k) (by omega)]; exact c_173
  have c_200 : E182 (20 + n) (17 + 10 * k) = .inl (kA 0, 6, .inl (fun _ => 0)) := by rw [fE184 (20 + n) (17 + 10 * k) (by omega)]; exact c_174
  have c_201 : E182 (20 + n) (13 + 10 * k) = .inr (10, [.ref (ad181 (20 + n) (16 + 10 * k))]) := by rw [fE184 (20 + n) (13 + 10 * k) (by omega), fA185 (20 + n) (16 + 10 * k) (by omega)]; exact c_175
  have c_202 : E182 (20 + n) (16 + 10 * k) = .inl (kA 0, 6, .inl (fun _ => 0)) := by rw [fE184 (20 + n) (16 + 10 * k) (by omega)]; exact c_176
  have c_203 : E182 (20 + n) (12 + 10 * k) = .inr (10, [.ref (ad181 (20 + n) (15 + 10 * k))]) := by rw [fE184 (20 + n) (12 + 10 * k) (by omega), fA185 (20 + n) (15 + 10 * k) (by omega)]; exact c_177
  have c_204 : E182 (20 + n) (15 + 10 * k) = .inl (kA 0, 6, .inl (fun _ => 0)) := by rw [fE184 (20 + n) (15 + 10 * k) (by omega)]; exact c_178
  have c_205 : E182 (1 + d) 0 = .inr (7, [.int (nI d), .int fd, .int nm, .ref (ad181 (1 + d) 1), .ref (ad181 (1 + d) 9), .ref (ad181 (1 + d) 10), .ref (ad181 (1 + d) 2), .ref (ad181 (1 + d) 11), .ref (ad181 (1 + d) 12), .ref (ad181 (1 + d) 3), .ref (ad181 (1 + d) 4), .int sd]) := by rw [fE184 (1 + d) 0 (by omega), fA185 (1 + d) 1 (by omega), fA185 (1 + d) 9 (by omega), fA185 (1 + d) 10 (by omega), fA185 (1 + d) 2 (by omega), fA185 (1 + d) 11 (by omega), fA185 (1 + d) 12 (by omega), fA185 (1 + d) 3 (by omega), fA185 (1 + d) 4 (by omega)]; exact c_179
  have c_206 : E182 (1 + d) 2 = .inr (8, [.ref (ad181 (1 + d) 6), .int (nI k1)]) := by rw [fE184 (1 + d) 2 (by omega), fA185 (1 + d) 6 (by omega)]; exact c_180
  have m_188 : (20 + n, 11 + 10 * k) ∈ RL183 := hm1
  have hP : va_P D xcl (rp ad181 E182 RL183) H := hP
  have hD : va_D A (rp ad181 E182 RL183) := hD
  refine px_putF (D := D) (ci := 6) (v := .ref (ad181 (20 + n) (11 + 10 * k))) (ty := .array (.object "LayerDesk$Member")) (C := xR_Me) (T := xT_Me) (N := 6) hx hb hT xi_Me xt_Me xt_Me_ok xn_Me hown hK.1 hP hD hS m_189 c_198 rfl 2 (by decide) (hT _ yr2_19) (fun _ h9 => h9) rfl hin rfl (by decide +kernel) rfl rfl (Nat.le_of_ble_eq_true rfl) xd_Me_init_58 (fun H locs hP hD hS => ?_)
  have hP : va_P D xcl (rp ad181 (up2 E182 (20 + n) (10 + 10 * k) (.inr (6, [.ref (ad181 (20 + n) 0), .ref (ad181 (1 + d) 0), .ref (ad181 (20 + n) (11 + 10 * k)), .ref (ad181 (20 + n) (12 + 10 * k)), .ref (ad181 (20 + n) (13 + 10 * k)), .ref (ad181 (20 + n) (14 + 10 * k))]))) RL183) H := hP
  have hD : va_D A (rp ad181 (up2 E182 (20 + n) (10 + 10 * k) (.inr (6, [.ref (ad181 (20 + n) 0), .ref (ad181 (1 + d) 0), .ref (ad181 (20 + n) (11 + 10 * k)), .ref (ad181 (20 + n) (12 + 10 * k)), .ref (ad181 (20 + n) (13 + 10 * k)), .ref (ad181 (20 + n) (14 + 10 * k))]))) RL183) := hD
  generalize hE208 : up2 E182 (20 + n) (10 + 10 * k) (.inr (6, [.ref (ad181 (20 + n) 0), .ref (ad181 (1 + d) 0), .ref (ad181 (20 + n) (11 + 10 * k)), .ref (ad181 (20 + n) (12 + 10 * k)), .ref (ad181 (20 + n) (13 + 10 * k)), .ref (ad181 (20 + n) (14 + 10 * k))])) = E207 at hP hD
  have fE209 : ∀ b2 o2, ¬ (b2 = 20 + n ∧ o2 = 10 + 10 * k) → E207 b2 o2 = E182 b2 o2 := fun b2 o2 h9 => by rw [← hE208]; exact up2_ne (by omega)
  have c_210 : E207 (20 + n) (10 + 10 * k) = .inr (6, [.ref (ad181 (20 + n) 0), .ref (ad181 (1 + d) 0), .ref (ad181 (20 + n) (11 + 10 * k)), .ref (ad181 (20 + n) (12 + 10 * k)), .ref (ad181 (20 + n) (13 + 10 * k)), .ref (ad181 (20 + n) (14 + 10 * k))]) := by rw [← hE208]; exact up2_eq
  have c_211 : E207 (20 + n) (11 + 10 * k) = .inl (kA 6, k1, .inr (.inr (.inr (.inr (fun _ => none))))) := (fE209 (20 + n) (11 + 10 * k) (by omega)).trans c_187
  have c_212 : E207 (20 + n) (14 + 10 * k) = .inr (10, [.ref (ad181 (20 + n) (17 + 10 * k))]) := (fE209 (20 + n) (14 + 10 * k) (by omega)).trans c_199
  have c_213 : E207 (20 + n) (17 + 10 * k) = .inl (kA 0, 6, .inl (fun _ => 0)) := (fE209 (20 + n) (17 + 10 * k) (by omega)).trans c_200
  have c_214 : E207 (20 + n) (13 + 10 * k) = .inr (10, [.ref (ad181 (20 + n) (16 + 10 * k))]) := (fE209 (20 + n) (13 + 10 * k) (by omega)).trans c_201
  have c_215 : E207 (20 + n) (16 + 10 * k) = .inl (kA 0, 6, .inl (fun _ => 0)) := (fE209 (20 + n) (16 + 10 * k) (by omega)).trans c_202
  have c_216 : E207 (20 + n) (12 + 10 * k) = .inr (10, [.ref (ad181 (20 + n) (15 + 10 * k))]) := (fE209 (20 + n) (12 + 10 * k) (by omega)).trans c_203
  have c_217 : E207 (20 + n) (15 + 10 * k) = .inl (kA 0, 6, .inl (fun _ => 0)) := (fE209 (20 + n) (15 + 10 * k) (by omega)).trans c_204
  have c_218 : E207 (1 + d) 0 = .inr (7, [.int (nI d), .int fd, .int nm, .ref (ad181 (1 + d) 1), .ref (ad181 (1 + d) 9), .ref (ad181 (1 + d) 10), .ref (ad181 (1 + d) 2), .ref (ad181 (1 + d) 11), .ref (ad181 (1 + d) 12), .ref (ad181 (1 + d) 3), .ref (ad181 (1 + d) 4), .int sd]) := (fE209 (1 + d) 0 (by omega)).trans c_205
  have c_219 : E207 (1 + d) 2 = .inr (8, [.ref (ad181 (1 + d) 6), .int (nI k1)]) := (fE209 (1 + d) 2 (by omega)).trans c_206
  refine W.widen (k := 7) (n := 26) (Nat.le_of_ble_eq_true rfl) (Nat.le_of_ble_eq_true rfl) ?_
  exact W.vret hx hb hr (fun t ht hW => ⟨⟨(ad181, E207, RL183), rfl, ⟨trivial, c_210, c_211, c_216, c_214, c_212, c_217, c_215, c_213, (fun b2 o2 h09 h19 h29 h39 h49 h59 h69 h79 => by show E207 b2 o2 = _; rw [fE209 b2 o2 (by omega), fE184 b2 o2 (by omega), fE171 b2 o2 (by omega), fE159 b2 o2 (by omega), fE147 b2 o2 (by omega), p_125 b2 o2 (by omega) (by omega), fE98 b2 o2 (by omega), fE87 b2 o2 (by omega), p_69 b2 o2 (by omega) (by omega), fE46 b2 o2 (by omega), fE37 b2 o2 (by omega), p_23 b2 o2 (by omega) (by omega), fE4 b2 o2 (by omega)]), (fun b2 o2 h09 h19 h29 h39 h49 h59 h69 => by show ad181 b2 o2 = _; rw [fA185 b2 o2 (by omega), p_126 b2 o2 (by omega), fA99 b2 o2 (by omega), p_70 b2 o2 (by omega), fA47 b2 o2 (by omega), p_24 b2 o2 (by omega), fA5 b2 o2 (by omega)]), (fun x9 hx9 => hs186 _ (p_127 _ (hs100 _ (p_71 _ (hs48 _ (p_25 _ (hs6 _ hx9))))))), m_188, m_192, m_194, m_196, m_193, m_195, m_197⟩, by rw [ht]; exact hP, hD⟩, hS.F ht⟩) hS.2.2 xd_Me_init_61
set_option maxHeartbeats 4000000 in
set_option maxRecDepth 100000 in
theorem xc_Ly_initN (l : Launch) (D : va_G) (kA : Nat → ClassId) (sz : Nat) (ad : Nat → Nat → Nat) (E : Nat → Nat → va_E) (RL : List (Nat × Nat)) (n : Nat) (mk9 : Nat) (ym0 : (20 + n, 0) ∈ RL) (yc0 : E (20 + n) 0 = .inr (5, [.int 0, .null, .null, .int 0])) (hmk : mk9 ≤ 12) : Met l xy_Ly_init (.code xy_Ly_init xb_Ly_init 4 none :: wT) { frames := 1, cells := 1, slots := 12, locals := 14 } (va_Pc [.ref (ad (20 + n) 0), .int (nI n), .null, .int (nI mk9)] (xPre D kA sz (rp ad E RL))) (va_Qv (fun (u : (Nat → Nat → Nat) × (Nat → Nat → va_E) × List (Nat × Nat)) => (True) ∧ (u.2.1 (20 + n) 0 = .inr (5, [.int (nI n), .null, .ref (u.1 (20 + n) 1), .int 1])) ∧ (u.2.1 (20 + n) 1 = .inl (kA 6, mk9, .inr (.inr (.inr (.inr (fun _ => none)))))) ∧ ((∀ b2 o2, ¬ (b2 = 20 + n ∧ o2 = 0) → ¬ (b2 = 20 + n ∧ o2 = 1) → u.2.1 b2 o2 = E b2 o2)) ∧ ((∀ b2 o2, ¬ (b2 = 20 + n ∧ o2 = 1) → u.1 b2 o2 = ad b2 o2)) ∧ ((∀ x ∈ RL, x ∈ u.2.2)) ∧ ((20 + n, 1) ∈ u.2.2)) (fun (u : (Nat → Nat → Nat) × (Nat → Nat → va_E) × List (Nat × Nat)) t => va_P D xcl (rp u.1 u.2.1 u.2.2) t.heap ∧ va_D (va_A (rp ad E RL) sz) (rp u.1 u.2.1 u.2.2)) (va_A (rp ad E RL) sz)) 1 12 (va_A (rp ad E RL) sz) := by
  refine Met.ofW (cc := xb_Ly_init) (maxL := 4) (ret := none) (by decide) rfl ?_
  intro p e s m args below meth c s₁ B hml hv
  obtain ⟨rfl, hsz, hP, hK, hD0⟩ := hv
  have hx := B.exec
  have hb := B.bytes
  have hr := B.returns
  have hT := x_hT B.pre
  have hown : s.vm.findClass xR_Ly = some m.cls := findClass_of_methodNamed B.named
  have hlocks := B.notSynchronized
  have hin : meth.name = "<init>" := (name_of_methodNamed B.named B.method).1
  subst hsz
  have hD := hD0.self (sz := s.heap.size)
  generalize hAe : va_A (rp ad E RL) s.heap.size = A at hD ⊢
  have hA : ∀ q : Nat, s.heap.size ≤ q → A q := fun q h => by rw [← hAe]; exact Or.inr h
  have hS : va_S A s.heap s.heap [] := va_S.rf
  have hl := lv_entry ([.ref (ad (20 + n) 0), .int (nI n), .null, .int (nI mk9)]) (n := 4) (Nat.le_of_ble_eq_true rfl)
  rw [lg_entry_eq]
  generalize (lg_sl ([.ref (ad (20 + n) 0), .int (nI n), .null, .int (nI mk9)]) ++ List.replicate (4 - (lg_sl ([.ref (ad (20 + n) 0), .int (nI n), .null, .int (nI mk9)])).length) Slot.unset).toArray = ls at hl ⊢
  have hl : lv_has ls 4 [(0, .ref (ad (20 + n) 0)), (1, .int (nI n)), (2, .null), (3, .int (nI mk9))] := hl
  have hP : va_P D xcl (rp ad E RL) s.heap := hP
  refine lv_aload_n hx hb xd_Ly_init_0 rfl (lv_at hl 0 rfl) ?_
  refine W.objInit hx hb hown (hT _ yr2_20) (hT _ yr2_1) (hT _ yr2_2) rfl (by rw [hml]; exact hl.1) rfl xd_Ly_init_1 (Nat.le_of_ble_eq_true rfl) (Nat.le_of_ble_eq_true rfl) ?_
  refine W.eq (g2 := F0 m 4 ls []) rfl ?_
  refine lv_aload_n hx hb xd_Ly_init_4 rfl (lv_at hl 0 rfl) ?_
  refine lv_iload_n hx hb xd_Ly_init_5 rfl (lv_at hl 1 rfl) ?_
  refine px_putF (D := D) (ci := 5) (v := .int (nI n)) (ty := .int) (C := xR_Ly) (T := xT_Ly) (N := 4) hx hb hT xi_Ly xt_Ly xt_Ly_ok xn_Ly hown hK.1 hP hD hS ym0 yc0 rfl 0 (by decide) (hT _ yr2_21) (fun _ h9 => h9) rfl hin rfl (by decide +kernel) rfl rfl (Nat.le_of_ble_eq_true rfl) xd_Ly_init_6 (fun H locs hP hD hS => ?_)
  have hP : va_P D xcl (rp ad (up2 E (20 + n) 0 (.inr (5, [.int (nI n), .null, .null, .int 0]))) RL) H := hP
  have hD : va_D A (rp ad (up2 E (20 + n) 0 (.inr (5, [.int (nI n), .null, .null, .int 0]))) RL) := hD
  generalize hE2 : up2 E (20 + n) 0 (.inr (5, [.int (nI n), .null, .null, .int 0])) = E1 at hP hD
  have fE3 : ∀ b2 o2, ¬ (b2 = 20 + n ∧ o2 = 0) → E1 b2 o2 = E b2 o2 := fun b2 o2 h9 => by rw [← hE2]; exact up2_ne (by omega)
  have c_4 : E1 (20 + n) 0 = .inr (5, [.int (nI n), .null, .null, .int 0]) := by rw [← hE2]; exact up2_eq
  refine lv_aload_n hx hb xd_Ly_init_9 rfl (lv_at hl 0 rfl) ?_
  refine lv_aload_nN hx hb xd_Ly_init_10 rfl (lv_at hl 2 rfl) ?_
  refine px_putF (D := D) (ci := 5) (v := .null) (ty := .object "LayerDesk$Layer") (C := xR_Ly) (T := xT_Ly) (N := 4) hx hb hT xi_Ly xt_Ly xt_Ly_ok xn_Ly hown hK.1 hP hD hS ym0 c_4 rfl 1 (by decide) (hT _ yr2_22) (fun _ h9 => h9) rfl hin rfl (by decide +kernel) rfl rfl (Nat.le_of_ble_eq_true rfl) xd_Ly_init_11 (fun H locs hP hD hS => ?_)
  have hP : va_P D xcl (rp ad (up2 E1 (20 + n) 0 (.inr (5, [.int (nI n), .null, .null, .int 0]))) RL) H := hP
  have hD : va_D A (rp ad (up2 E1 (20 + n) 0 (.inr (5, [.int (nI n), .null, .null, .int 0]))) RL) := hD
  generalize hE6 : up2 E1 (20 + n) 0 (.inr (5, [.int (nI n), .null, .null, .int 0])) = E5 at hP hD
  have fE7 : ∀ b2 o2, ¬ (b2 = 20 + n ∧ o2 = 0) → E5 b2 o2 = E1 b2 o2 := fun b2 o2 h9 => by rw [← hE6]; exact up2_ne (by omega)
  have c_8 : E5 (20 + n) 0 = .inr (5, [.int (nI n), .null, .null, .int 0]) := by rw [← hE6]; exact up2_eq
  refine lv_aload_n hx hb xd_Ly_init_14 rfl (lv_at hl 0 rfl) ?_
  refine lv_iload_n hx hb xd_Ly_init_15 rfl (lv_at hl 3 rfl) ?_
  refine W.eq (g2 := F0 m 16 ls [.int (nI mk9), .ref (ad (20 + n) 0)]) rfl ?_
  refine px_newq (C := "LayerDesk$Member") (N' := mk9) (20 + n) 1 hx hb hown (hT _ yr2_23) hK.2.1.2.2.2.2.2.2.1 hK.1 6 rfl hP hD hS hA (by omega) (show mk9 * 4 ≤ 536870912 by omega) (Nat.le_of_ble_eq_true rfl) (show 0 + mk9 ≤ 12 by omega) xd_Ly_init_16 (fun ad9 E10 RL11 H hA1 hE1 hs1 hm1 hP hD hS => ?_)
  refine W.widen (k := 1) (n := 12) (by omega) (by omega) ?_
  have fE12 : ∀ b2 o2, ¬ (b2 = 20 + n ∧ o2 = 1) → E10 b2 o2 = E5 b2 o2 := fun b2 o2 h9 => by rw [hE1]; exact up2_ne (by omega)
  have fA13 : ∀ b2 o2, ¬ (b2 = 20 + n ∧ o2 = 1) → ad9 b2 o2 = ad b2 o2 := fun b2 o2 h9 => by rw [hA1]; exact up2_ne (by omega)
  have hs14 := hs1
  refine W.eq (g2 := F0 m _ ls [.ref (ad9 (20 + n) 1), .ref (ad9 (20 + n) 0)]) (by rw [fA13 (20 + n) 0 (by omega)]) ?_
  have c_15 : E10 (20 + n) 1 = .inl (kA 6, mk9, .inr (.inr (.inr (.inr (fun _ => none))))) := by rw [hE1]; exact up2_eq
  have hl : lv_has ls 4 [(0, .ref (ad9 (20 + n) 0)), (1, .int (nI n)), (2, .null), (3, .int (nI mk9))] := by
    rw [fA13 (20 + n) 0 (by omega)]; exact hl
  have m_17 : (20 + n, 0) ∈ RL11 := hs14 _ ym0
  have c_18 : E10 (20 + n) 0 = .inr (5, [.int (nI n), .null, .null, .int 0]) := by rw [fE12 (20 + n) 0 (by omega)]; exact c_8
  have m_16 : (20 + n, 1) ∈ RL11 := hm1
  have hP : va_P D xcl (rp ad9 E10 RL11) H := hP
  have hD : va_D A (rp ad9 E10 RL11) := hD
  refine px_putF (D := D) (ci := 5) (v := .ref (ad9 (20 + n) 1)) (ty := .array (.object "LayerDesk$Member")) (C := xR_Ly) (T := xT_Ly) (N := 4) hx hb hT xi_Ly xt_Ly xt_Ly_ok xn_Ly hown hK.1 hP hD hS m_17 c_18 rfl 2 (by decide) (hT _ yr2_24) (fun _ h9 => h9) rfl hin rfl (by decide +kernel) rfl rfl (Nat.le_of_ble_eq_true rfl) xd_Ly_init_19 (fun H locs hP hD hS => ?_)
  have hP : va_P D xcl (rp ad9 (up2 E10 (20 + n) 0 (.inr (5, [.int (nI n), .null, .ref (ad9 (20 + n) 1), .int 0]))) RL11) H := hP
  have hD : va_D A (rp ad9 (up2 E10 (20 + n) 0 (.inr (5, [.int (nI n), .null, .ref (ad9 (20 + n) 1), .int 0]))) RL11) := hD
  generalize hE20 : up2 E10 (20 + n) 0 (.inr (5, [.int (nI n), .null, .ref (ad9 (20 + n) 1), .int 0])) = E19 at hP hD
  have fE21 : ∀ b2 o2, ¬ (b2 = 20 + n ∧ o2 = 0) → E19 b2 o2 = E10 b2 o2 := fun b2 o2 h9 => by rw [← hE20]; exact up2_ne (by omega)
  have c_22 : E19 (20 + n) 0 = .inr (5, [.int (nI n), .null, .ref (ad9 (20 + n) 1), .int 0]) := by rw [← hE20]; exact up2_eq
  have c_23 : E19 (20 + n) 1 = .inl (kA 6, mk9, .inr (.inr (.inr (.inr (fun _ => none))))) := (fE21 (20 + n) 1 (by omega)).trans c_15
  refine lv_aload_n hx hb xd_Ly_init_22 rfl (lv_at hl 0 rfl) ?_
  refine lv_iconst (v := 1) hx hb xd_Ly_init_23 (by decide) ?_
  refine px_put (D := D) (ci := 5) (v := .int 1) (ty := .boolean) (C := xR_Ly) (T := xT_Ly) (N := 4) hx hb hT xi_Ly xt_Ly xt_Ly_ok xn_Ly hown hK.1 hP hD hS m_17 c_22 rfl 3 (by decide) (hT _ yr2_25) (fun _ h9 => h9) rfl (by decide +kernel) rfl rfl (Nat.le_of_ble_eq_true rfl) xd_Ly_init_24 (fun H locs hP hD hS => ?_)
  have hP : va_P D xcl (rp ad9 (up2 E19 (20 + n) 0 (.inr (5, [.int (nI n), .null, .ref (ad9 (20 + n) 1), .int 1]))) RL11) H := hP
  have hD : va_D A (rp ad9 (up2 E19 (20 + n) 0 (.inr (5, [.int (nI n), .null, .ref (ad9 (20 + n) 1), .int 1]))) RL11) := hD
  generalize hE25 : up2 E19 (20 + n) 0 (.inr (5, [.int (nI n), .null, .ref (ad9 (20 + n) 1), .int 1])) = E24 at hP hD
  have fE26 : ∀ b2 o2, ¬ (b2 = 20 + n ∧ o2 = 0) → E24 b2 o2 = E19 b2 o2 := fun b2 o2 h9 => by rw [← hE25]; exact up2_ne (by omega)
  have c_27 : E24 (20 + n) 0 = .inr (5, [.int (nI n), .null, .ref (ad9 (20 + n) 1), .int 1]) := by rw [← hE25]; exact up2_eq
  have c_28 : E24 (20 + n) 1 = .inl (kA 6, mk9, .inr (.inr (.inr (.inr (fun _ => none))))) := (fE26 (20 + n) 1 (by omega)).trans c_23
  refine W.widen (k := 1) (n := 12) (Nat.le_of_ble_eq_true rfl) (Nat.le_of_ble_eq_true rfl) ?_
  exact W.vret hx hb hr (fun t ht hW => ⟨⟨(ad9, E24, RL11), rfl, ⟨trivial, c_27, c_28, (fun b2 o2 h09 h19 => by show E24 b2 o2 = _; rw [fE26 b2 o2 (by omega), fE21 b2 o2 (by omega), fE12 b2 o2 (by omega), fE7 b2 o2 (by omega), fE3 b2 o2 (by omega)]), (fun b2 o2 h09 => by show ad9 b2 o2 = _; rw [fA13 b2 o2 (by omega)]), (fun x9 hx9 => hs14 _ hx9), m_16⟩, by rw [ht]; exact hP, hD⟩, hS.F ht⟩) hS.2.2 xd_Ly_init_27
set_option maxHeartbeats 4000000 in
set_option maxRecDepth 100000 in
theorem xc_Ly_initR (l : Launch) (D : va_G) (kA : Nat → ClassId) (sz : Nat) (ad : Nat → Nat → Nat) (E : Nat → Nat → va_E) (RL : List (Nat × Nat)) (n : Nat) (pa : Nat) (mk9 : Nat) (ym0 : (20 + n, 0) ∈ RL) (yc0 : E (20 + n) 0 = .inr (5, [.int 0, .null, .null, .int 0])) (hmk : mk9 ≤ 12) : Met l xy_Ly_init (.code xy_Ly_init xb_Ly_init 4 none :: wT) { frames := 1, cells := 1, slots := 12, locals := 14 } (va_Pc [.ref (ad (20 + n) 0), .int (nI n), .ref pa, .int (nI mk9)] (xPre D kA sz (rp ad E RL))) (va_Qv (fun (u : (Nat → Nat → Nat) × (Nat → Nat → va_E) × List (Nat × Nat)) => (True) ∧ (u.2.1 (20 + n) 0 = .inr (5, [.int (nI n), .ref pa, .ref (u.1 (20 + n) 1), .int 1])) ∧ (u.2.1 (20 + n) 1 = .inl (kA 6, mk9, .inr (.inr (.inr (.inr (fun _ => none)))))) ∧ ((∀ b2 o2, ¬ (b2 = 20 + n ∧ o2 = 0) → ¬ (b2 = 20 + n ∧ o2 = 1) → u.2.1 b2 o2 = E b2 o2)) ∧ ((∀ b2 o2, ¬ (b2 = 20 + n ∧ o2 = 1) → u.1 b2 o2 = ad b2 o2)) ∧ ((∀ x ∈ RL, x ∈ u.2.2)) ∧ ((20 + n, 1) ∈ u.2.2)) (fun (u : (Nat → Nat → Nat) × (Nat → Nat → va_E) × List (Nat × Nat)) t => va_P D xcl (rp u.1 u.2.1 u.2.2) t.heap ∧ va_D (va_A (rp ad E RL) sz) (rp u.1 u.2.1 u.2.2)) (va_A (rp ad E RL) sz)) 1 12 (va_A (rp ad E RL) sz) := by
  refine Met.ofW (cc := xb_Ly_init) (maxL := 4) (ret := none) (by decide) rfl ?_
  intro p e s m args below meth c s₁ B hml hv
  obtain ⟨rfl, hsz, hP, hK, hD0⟩ := hv
  have hx := B.exec
  have hb := B.bytes
  have hr := B.returns
  have hT := x_hT B.pre
  have hown : s.vm.findClass xR_Ly = some m.cls := findClass_of_methodNamed B.named
  have hlocks := B.notSynchronized
  have hin : meth.name = "<init>" := (name_of_methodNamed B.named B.method).1
  subst hsz
  have hD := hD0.self (sz := s.heap.size)
  generalize hAe : va_A (rp ad E RL) s.heap.size = A at hD ⊢
  have hA : ∀ q : Nat, s.heap.size ≤ q → A q := fun q h => by rw [← hAe]; exact Or.inr h
  have hS : va_S A s.heap s.heap [] := va_S.rf
  have hl := lv_entry ([.ref (ad (20 + n) 0), .int (nI n), .ref pa, .int (nI mk9)]) (n := 4) (Nat.le_of_ble_eq_true rfl)
  rw [lg_entry_eq]
  generalize (lg_sl ([.ref (ad (20 + n) 0), .int (nI n), .ref pa, .int (nI mk9)]) ++ List.replicate (4 - (lg_sl ([.ref (ad (20 + n) 0), .int (nI n), .ref pa, .int (nI mk9)])).length) Slot.unset).toArray = ls at hl ⊢
  have hl : lv_has ls 4 [(0, .ref (ad (20 + n) 0)), (1, .int (nI n)), (2, .ref pa), (3, .int (nI mk9))] := hl
  have hP : va_P D xcl (rp ad E RL) s.heap := hP
  refine lv_aload_n hx hb xd_Ly_init_0 rfl (lv_at hl 0 rfl) ?_
  refine W.objInit hx hb hown (hT _ yr2_20) (hT _ yr2_1) (hT _ yr2_2) rfl (by rw [hml]; exact hl.1) rfl xd_Ly_init_1 (Nat.le_of_ble_eq_true rfl) (Nat.le_of_ble_eq_true rfl) ?_
  refine W.eq (g2 := F0 m 4 ls []) rfl ?_
  refine lv_aload_n hx hb xd_Ly_init_4 rfl (lv_at hl 0 rfl) ?_
  refine lv_iload_n hx hb xd_Ly_init_5 rfl (lv_at hl 1 rfl) ?_
  refine px_putF (D := D) (ci := 5) (v := .int (nI n)) (ty := .int) (C := xR_Ly) (T := xT_Ly) (N := 4) hx hb hT xi_Ly xt_Ly xt_Ly_ok xn_Ly hown hK.1 hP hD hS ym0 yc0 rfl 0 (by decide) (hT _ yr2_21) (fun _ h9 => h9) rfl hin rfl (by decide +kernel) rfl rfl (Nat.le_of_ble_eq_true rfl) xd_Ly_init_6 (fun H locs hP hD hS => ?_)
  have hP : va_P D xcl (rp ad (up2 E (20 + n) 0 (.inr (5, [.int (nI n), .null, .null, .int 0]))) RL) H := hP
  have hD : va_D A (rp ad (up2 E (20 + n) 0 (.inr (5, [.int (nI n), .null, .null, .int 0]))) RL) := hD
  generalize hE2 : up2 E (20 + n) 0 (.inr (5, [.int (nI n), .null, .null, .int 0])) = E1 at hP hD
  have fE3 : ∀ b2 o2, ¬ (b2 = 20 + n ∧ o2 = 0) → E1 b2 o2 = E b2 o2 := fun b2 o2 h9 => by rw [← hE2]; exact up2_ne (by omega)
  have c_4 : E1 (20 + n) 0 = .inr (5, [.int (nI n), .null, .null, .int 0]) := by rw [← hE2]; exact up2_eq
  refine lv_aload_n hx hb xd_Ly_init_9 rfl (lv_at hl 0 rfl) ?_
  refine lv_aload_n hx hb xd_Ly_init_10 rfl (lv_at hl 2 rfl) ?_
  refine px_putF (D := D) (ci := 5) (v := .ref pa) (ty := .object "LayerDesk$Layer") (C := xR_Ly) (T := xT_Ly) (N := 4) hx hb hT xi_Ly xt_Ly xt_Ly_ok xn_Ly hown hK.1 hP hD hS ym0 c_4 rfl 1 (by decide) (hT _ yr2_22) (fun _ h9 => h9) rfl hin rfl (by decide +kernel) rfl rfl (Nat.le_of_ble_eq_true rfl) xd_Ly_init_11 (fun H locs hP hD hS => ?_)
  have hP : va_P D xcl (rp ad (up2 E1 (20 + n) 0 (.inr (5, [.int (nI n), .ref pa, .null, .int 0]))) RL) H := hP
  have hD : va_D A (rp ad (up2 E1 (20 + n) 0 (.inr (5, [.int (nI n), .ref pa, .null, .int 0]))) RL) := hD
  generalize hE6 : up2 E1 (20 + n) 0 (.inr (5, [.int (nI n), .ref pa, .null, .int 0])) = E5 at hP hD
  have fE7 : ∀ b2 o2, ¬ (b2 = 20 + n ∧ o2 = 0) → E5 b2 o2 = E1 b2 o2 := fun b2 o2 h9 => by rw [← hE6]; exact up2_ne (by omega)
  have c_8 : E5 (20 + n) 0 = .inr (5, [.int (nI n), .ref pa, .null, .int 0]) := by rw [← hE6]; exact up2_eq
  refine lv_aload_n hx hb xd_Ly_init_14 rfl (lv_at hl 0 rfl) ?_
  refine lv_iload_n hx hb xd_Ly_init_15 rfl (lv_at hl 3 rfl) ?_
  refine W.eq (g2 := F0 m 16 ls [.int (nI mk9), .ref (ad (20 + n) 0)]) rfl ?_
  refine px_newq (C := "LayerDesk$Member") (N' := mk9) (20 + n) 1 hx hb hown (hT _ yr2_23) hK.2.1.2.2.2.2.2.2.1 hK.1 6 rfl hP hD hS hA (by omega) (show mk9 * 4 ≤ 536870912 by omega) (Nat.le_of_ble_eq_true rfl) (show 0 + mk9 ≤ 12 by omega) xd_Ly_init_16 (fun ad9 E10 RL11 H hA1 hE1 hs1 hm1 hP hD hS => ?_)
  refine W.widen (k := 1) (n := 12) (by omega) (by omega) ?_
  have fE12 : ∀ b2 o2, ¬ (b2 = 20 + n ∧ o2 = 1) → E10 b2 o2 = E5 b2 o2 := fun b2 o2 h9 => by rw [hE1]; exact up2_ne (by omega)
  have fA13 : ∀ b2 o2, ¬ (b2 = 20 + n ∧ o2 = 1) → ad9 b2 o2 = ad b2 o2 := fun b2 o2 h9 => by rw [hA1]; exact up2_ne (by omega)
  have hs14 := hs1
  refine W.eq (g2 := F0 m _ ls [.ref (ad9 (20 + n) 1), .ref (ad9 (20 + n) 0)]) (by rw [fA13 (20 + n) 0 (by omega)]) ?_
  have c_15 : E10 (20 + n) 1 = .inl (kA 6, mk9, .inr (.inr (.inr (.inr (fun _ => none))))) := by rw [hE1]; exact up2_eq
  have hl : lv_has ls 4 [(0, .ref (ad9 (20 + n) 0)), (1, .int (nI n)), (2, .ref pa), (3, .int (nI mk9))] := by
    rw [fA13 (20 + n) 0 (by omega)]; exact hl
  have m_17 : (20 + n, 0) ∈ RL11 := hs14 _ ym0
  have c_18 : E10 (20 + n) 0 = .inr (5, [.int (nI n), .ref pa, .null, .int 0]) := by rw [fE12 (20 + n) 0 (by omega)]; exact c_8
  have m_16 : (20 + n, 1) ∈ RL11 := hm1
  have hP : va_P D xcl (rp ad9 E10 RL11) H := hP
  have hD : va_D A (rp ad9 E10 RL11) := hD
  refine px_putF (D := D) (ci := 5) (v := .ref (ad9 (20 + n) 1)) (ty := .array (.object "LayerDesk$Member")) (C := xR_Ly) (T := xT_Ly) (N := 4) hx hb hT xi_Ly xt_Ly xt_Ly_ok xn_Ly hown hK.1 hP hD hS m_17 c_18 rfl 2 (by decide) (hT _ yr2_24) (fun _ h9 => h9) rfl hin rfl (by decide +kernel) rfl rfl (Nat.le_of_ble_eq_true rfl) xd_Ly_init_19 (fun H locs hP hD hS => ?_)
  have hP : va_P D xcl (rp ad9 (up2 E10 (20 + n) 0 (.inr (5, [.int (nI n), .ref pa, .ref (ad9 (20 + n) 1), .int 0]))) RL11) H := hP
  have hD : va_D A (rp ad9 (up2 E10 (20 + n) 0 (.inr (5, [.int (nI n), .ref pa, .ref (ad9 (20 + n) 1), .int 0]))) RL11) := hD
  generalize hE20 : up2 E10 (20 + n) 0 (.inr (5, [.int (nI n), .ref pa, .ref (ad9 (20 + n) 1), .int 0])) = E19 at hP hD
  have fE21 : ∀ b2 o2, ¬ (b2 = 20 + n ∧ o2 = 0) → E19 b2 o2 = E10 b2 o2 := fun b2 o2 h9 => by rw [← hE20]; exact up2_ne (by omega)
  have c_22 : E19 (20 + n) 0 = .inr (5, [.int (nI n), .ref pa, .ref (ad9 (20 + n) 1), .int 0]) := by rw [← hE20]; exact up2_eq
  have c_23 : E19 (20 + n) 1 = .inl (kA 6, mk9, .inr (.inr (.inr (.inr (fun _ => none))))) := (fE21 (20 + n) 1 (by omega)).trans c_15
  refine lv_aload_n hx hb xd_Ly_init_22 rfl (lv_at hl 0 rfl) ?_
  refine lv_iconst (v := 1) hx hb xd_Ly_init_23 (by decide) ?_
  refine px_put (D := D) (ci := 5) (v := .int 1) (ty := .boolean) (C := xR_Ly) (T := xT_Ly) (N := 4) hx hb hT xi_Ly xt_Ly xt_Ly_ok xn_Ly hown hK.1 hP hD hS m_17 c_22 rfl 3 (by decide) (hT _ yr2_25) (fun _ h9 => h9) rfl (by decide +kernel) rfl rfl (Nat.le_of_ble_eq_true rfl) xd_Ly_init_24 (fun H locs hP hD hS => ?_)
  have hP : va_P D xcl (rp ad9 (up2 E19 (20 + n) 0 (.inr (5, [.int (nI n), .ref pa, .ref (ad9 (20 + n) 1), .int 1]))) RL11) H := hP
  have hD : va_D A (rp ad9 (up2 E19 (20 + n) 0 (.inr (5, [.int (nI n), .ref pa, .ref (ad9 (20 + n) 1), .int 1]))) RL11) := hD
  generalize hE25 : up2 E19 (20 + n) 0 (.inr (5, [.int (nI n), .ref pa, .ref (ad9 (20 + n) 1), .int 1])) = E24 at hP hD
  have fE26 : ∀ b2 o2, ¬ (b2 = 20 + n ∧ o2 = 0) → E24 b2 o2 = E19 b2 o2 := fun b2 o2 h9 => by rw [← hE25]; exact up2_ne (by omega)
  have c_27 : E24 (20 + n) 0 = .inr (5, [.int (nI n), .ref pa, .ref (ad9 (20 + n) 1), .int 1]) := by rw [← hE25]; exact up2_eq
  have c_28 : E24 (20 + n) 1 = .inl (kA 6, mk9, .inr (.inr (.inr (.inr (fun _ => none))))) := (fE26 (20 + n) 1 (by omega)).trans c_23
  refine W.widen (k := 1) (n := 12) (Nat.le_of_ble_eq_true rfl) (Nat.le_of_ble_eq_true rfl) ?_
  exact W.vret hx hb hr (fun t ht hW => ⟨⟨(ad9, E24, RL11), rfl, ⟨trivial, c_27, c_28, (fun b2 o2 h09 h19 => by show E24 b2 o2 = _; rw [fE26 b2 o2 (by omega), fE21 b2 o2 (by omega), fE12 b2 o2 (by omega), fE7 b2 o2 (by omega), fE3 b2 o2 (by omega)]), (fun b2 o2 h09 => by show ad9 b2 o2 = _; rw [fA13 b2 o2 (by omega)]), (fun x9 hx9 => hs14 _ hx9), m_16⟩, by rw [ht]; exact hP, hD⟩, hS.F ht⟩) hS.2.2 xd_Ly_init_27
