abbrev xb_Mo_fails : ByteArray := prog_12_method_3_code
def xy_Mo_fails : MethodName := ⟨"LayerDeskModel", "fails", "(I)I"⟩
abbrev xb_Mo_newPackage : ByteArray := prog_12_method_15_code
def xy_Mo_newPackage : MethodName := ⟨"LayerDeskModel", "newPackage", "()I"⟩
theorem xd_Mo_fails_0 : decode xb_Mo_fails 0 = .ok (.aload_n 0, 1) := by decide +kernel
theorem xd_Mo_fails_1 : decode xb_Mo_fails 1 = .ok (.iload_n 1, 1) := by decide +kernel
theorem xd_Mo_fails_2 : decode xb_Mo_fails 2 = .ok (.putfield 87, 3) := by decide +kernel
theorem xd_Mo_fails_5 : decode xb_Mo_fails 5 = .ok (.iconst 0, 1) := by decide +kernel
theorem xd_Mo_fails_6 : decode xb_Mo_fails 6 = .ok (.ireturn, 1) := by decide +kernel
theorem xd_Mo_newPackage_0 : decode xb_Mo_newPackage 0 = .ok (.aload_n 0, 1) := by decide +kernel
theorem xd_Mo_newPackage_1 : decode xb_Mo_newPackage 1 = .ok (.getfield 94, 3) := by decide +kernel
theorem xd_Mo_newPackage_4 : decode xb_Mo_newPackage 4 = .ok (.iconst 2, 1) := by decide +kernel
theorem xd_Mo_newPackage_5 : decode xb_Mo_newPackage 5 = .ok (.if_icmp .ne 11, 3) := by decide +kernel
theorem xd_Mo_newPackage_8 : decode xb_Mo_newPackage 8 = .ok (.aload_n 0, 1) := by decide +kernel
theorem xd_Mo_newPackage_9 : decode xb_Mo_newPackage 9 = .ok (.iconst 1, 1) := by decide +kernel
theorem xd_Mo_newPackage_10 : decode xb_Mo_newPackage 10 = .ok (.invokevirtual 133, 3) := by decide +kernel
theorem xd_Mo_newPackage_13 : decode xb_Mo_newPackage 13 = .ok (.goto 4, 3) := by decide +kernel
theorem xd_Mo_newPackage_16 : decode xb_Mo_newPackage 16 = .ok (.iconst 0, 1) := by decide +kernel
theorem xd_Mo_newPackage_17 : decode xb_Mo_newPackage 17 = .ok (.istore_n 1, 1) := by decide +kernel
theorem xd_Mo_newPackage_18 : decode xb_Mo_newPackage 18 = .ok (.iload_n 1, 1) := by decide +kernel
theorem xd_Mo_newPackage_19 : decode xb_Mo_newPackage 19 = .ok (.ifCond .ne 5, 3) := by decide +kernel
theorem xd_Mo_newPackage_22 : decode xb_Mo_newPackage 22 = .ok (.iconst (-1), 1) := by decide +kernel
theorem xd_Mo_newPackage_23 : decode xb_Mo_newPackage 23 = .ok (.ireturn, 1) := by decide +kernel
theorem xd_Mo_newPackage_24 : decode xb_Mo_newPackage 24 = .ok (.aload_n 0, 1) := by decide +kernel
theorem xd_Mo_newPackage_25 : decode xb_Mo_newPackage 25 = .ok (.getfield 140, 3) := by decide +kernel
theorem xd_Mo_newPackage_28 : decode xb_Mo_newPackage 28 = .ok (.iconst 1, 1) := by decide +kernel
theorem xd_Mo_newPackage_29 : decode xb_Mo_newPackage 29 = .ok (.isub, 1) := by decide +kernel
theorem xd_Mo_newPackage_30 : decode xb_Mo_newPackage 30 = .ok (.istore_n 2, 1) := by decide +kernel
theorem xd_Mo_newPackage_31 : decode xb_Mo_newPackage 31 = .ok (.iload_n 2, 1) := by decide +kernel
theorem xd_Mo_newPackage_32 : decode xb_Mo_newPackage 32 = .ok (.ifCond .lt 14, 3) := by decide +kernel
theorem xd_Mo_newPackage_35 : decode xb_Mo_newPackage 35 = .ok (.aload_n 0, 1) := by decide +kernel
theorem xd_Mo_newPackage_36 : decode xb_Mo_newPackage 36 = .ok (.iload_n 2, 1) := by decide +kernel
theorem xd_Mo_newPackage_37 : decode xb_Mo_newPackage 37 = .ok (.iload_n 1, 1) := by decide +kernel
theorem xd_Mo_newPackage_38 : decode xb_Mo_newPackage 38 = .ok (.invokevirtual 143, 3) := by decide +kernel
theorem xd_Mo_newPackage_41 : decode xb_Mo_newPackage 41 = .ok (.ifCond .lt 5, 3) := by decide +kernel
theorem xd_Mo_newPackage_44 : decode xb_Mo_newPackage 44 = .ok (.iconst (-1), 1) := by decide +kernel
theorem xd_Mo_newPackage_45 : decode xb_Mo_newPackage 45 = .ok (.ireturn, 1) := by decide +kernel
theorem xd_Mo_newPackage_46 : decode xb_Mo_newPackage 46 = .ok (.aload_n 0, 1) := by decide +kernel
theorem xd_Mo_newPackage_47 : decode xb_Mo_newPackage 47 = .ok (.invokevirtual 146, 3) := by decide +kernel
theorem xd_Mo_newPackage_50 : decode xb_Mo_newPackage 50 = .ok (.ifCond .ne 14, 3) := by decide +kernel
theorem xd_Mo_newPackage_53 : decode xb_Mo_newPackage 53 = .ok (.aload_n 0, 1) := by decide +kernel
theorem xd_Mo_newPackage_54 : decode xb_Mo_newPackage 54 = .ok (.getfield 26, 3) := by decide +kernel
theorem xd_Mo_newPackage_57 : decode xb_Mo_newPackage 57 = .ok (.iload_n 2, 1) := by decide +kernel
theorem xd_Mo_newPackage_58 : decode xb_Mo_newPackage 58 = .ok (.iaload, 1) := by decide +kernel
theorem xd_Mo_newPackage_59 : decode xb_Mo_newPackage 59 = .ok (.bipush 6, 2) := by decide +kernel
theorem xd_Mo_newPackage_61 : decode xb_Mo_newPackage 61 = .ok (.if_icmp .ne 6, 3) := by decide +kernel
theorem xd_Mo_newPackage_64 : decode xb_Mo_newPackage 64 = .ok (.bipush (-2), 2) := by decide +kernel
theorem xd_Mo_newPackage_66 : decode xb_Mo_newPackage 66 = .ok (.ireturn, 1) := by decide +kernel
theorem xd_Mo_newPackage_67 : decode xb_Mo_newPackage 67 = .ok (.aload_n 0, 1) := by decide +kernel
theorem xd_Mo_newPackage_68 : decode xb_Mo_newPackage 68 = .ok (.getfield 29, 3) := by decide +kernel
theorem xd_Mo_newPackage_71 : decode xb_Mo_newPackage 71 = .ok (.bipush 6, 2) := by decide +kernel
theorem xd_Mo_newPackage_73 : decode xb_Mo_newPackage 73 = .ok (.iload_n 2, 1) := by decide +kernel
theorem xd_Mo_newPackage_74 : decode xb_Mo_newPackage 74 = .ok (.imul, 1) := by decide +kernel
theorem xd_Mo_newPackage_75 : decode xb_Mo_newPackage 75 = .ok (.aload_n 0, 1) := by decide +kernel
theorem xd_Mo_newPackage_76 : decode xb_Mo_newPackage 76 = .ok (.getfield 26, 3) := by decide +kernel
theorem xd_Mo_newPackage_79 : decode xb_Mo_newPackage 79 = .ok (.iload_n 2, 1) := by decide +kernel
theorem xd_Mo_newPackage_80 : decode xb_Mo_newPackage 80 = .ok (.iaload, 1) := by decide +kernel
theorem xd_Mo_newPackage_81 : decode xb_Mo_newPackage 81 = .ok (.iadd, 1) := by decide +kernel
theorem xd_Mo_newPackage_82 : decode xb_Mo_newPackage 82 = .ok (.iload_n 1, 1) := by decide +kernel
theorem xd_Mo_newPackage_83 : decode xb_Mo_newPackage 83 = .ok (.iastore, 1) := by decide +kernel
theorem xd_Mo_newPackage_84 : decode xb_Mo_newPackage 84 = .ok (.aload_n 0, 1) := by decide +kernel
theorem xd_Mo_newPackage_85 : decode xb_Mo_newPackage 85 = .ok (.getfield 26, 3) := by decide +kernel
theorem xd_Mo_newPackage_88 : decode xb_Mo_newPackage 88 = .ok (.iload_n 2, 1) := by decide +kernel
theorem xd_Mo_newPackage_89 : decode xb_Mo_newPackage 89 = .ok (.dup2, 1) := by decide +kernel
theorem xd_Mo_newPackage_90 : decode xb_Mo_newPackage 90 = .ok (.iaload, 1) := by decide +kernel
theorem xd_Mo_newPackage_91 : decode xb_Mo_newPackage 91 = .ok (.iconst 1, 1) := by decide +kernel
theorem xd_Mo_newPackage_92 : decode xb_Mo_newPackage 92 = .ok (.iadd, 1) := by decide +kernel
theorem xd_Mo_newPackage_93 : decode xb_Mo_newPackage 93 = .ok (.iastore, 1) := by decide +kernel
theorem xd_Mo_newPackage_94 : decode xb_Mo_newPackage 94 = .ok (.iconst 2, 1) := by decide +kernel
theorem xd_Mo_newPackage_95 : decode xb_Mo_newPackage 95 = .ok (.ireturn, 1) := by decide +kernel
theorem xo_0 : (Cond.fieldLink "LayerDeskModel" 87 "LayerDeskModel" "fault" "I") ∈ wT := wT_t (List.mem_append_right _ (List.mem_append_right _ (List.mem_append_right _ (List.mem_append_left _ (List.mem_of_getElem? (i := 84) rfl))))) rfl
theorem xo_1 : (Cond.fieldLink "LayerDeskModel" 94 "LayerDeskModel" "words" "I") ∈ wT := wT_t (List.mem_append_right _ (List.mem_append_right _ (List.mem_append_right _ (List.mem_append_left _ (List.mem_of_getElem? (i := 88) rfl))))) rfl
theorem xo_2 : (Cond.code xy_Mo_nameOf xb_Mo_nameOf 4 (some .int)) ∈ wT := wT_t (List.mem_append_right _ (List.mem_append_right _ (List.mem_append_right _ (List.mem_append_left _ (List.mem_of_getElem? (i := 212) rfl))))) rfl
theorem xo_3 : (Cond.methodLink "LayerDeskModel" 133 xy_Mo_nameOf) ∈ wT := wT_t (List.mem_append_right _ (List.mem_append_right _ (List.mem_append_right _ (List.mem_append_left _ (List.mem_of_getElem? (i := 209) rfl))))) rfl
theorem xo_4 : (Cond.instanceMethod xy_Mo_nameOf) ∈ wT := wT_t (List.mem_append_right _ (List.mem_append_right _ (List.mem_append_right _ (List.mem_append_left _ (List.mem_of_getElem? (i := 211) rfl))))) rfl
theorem xo_5 : (Cond.selects "LayerDeskModel" xy_Mo_nameOf xy_Mo_nameOf) ∈ wT := wT_s (q := (xy_Mo_nameOf, 31)) (by decide +kernel) rfl
theorem xo_6 : (Cond.initialized "LayerDeskModel") ∈ wT := wT_t (List.mem_append_left _ (List.mem_of_getElem? (i := 5) rfl)) rfl
theorem xo_7 : (Cond.fieldLink "LayerDeskModel" 140 "LayerDeskModel" "descriptors" "I") ∈ wT := wT_t (List.mem_append_right _ (List.mem_append_right _ (List.mem_append_right _ (List.mem_append_left _ (List.mem_of_getElem? (i := 91) rfl))))) rfl
theorem xo_8 : (Cond.code xy_Mo_isShut xb_Mo_isShut 1 (some .boolean)) ∈ wT := wT_t (List.mem_append_right _ (List.mem_append_right _ (List.mem_append_right _ (List.mem_append_left _ (List.mem_of_getElem? (i := 228) rfl))))) rfl
theorem xo_9 : (Cond.methodLink "LayerDeskModel" 146 xy_Mo_isShut) ∈ wT := wT_t (List.mem_append_right _ (List.mem_append_right _ (List.mem_append_right _ (List.mem_append_left _ (List.mem_of_getElem? (i := 225) rfl))))) rfl
theorem xo_10 : (Cond.instanceMethod xy_Mo_isShut) ∈ wT := wT_t (List.mem_append_right _ (List.mem_append_right _ (List.mem_append_right _ (List.mem_append_left _ (List.mem_of_getElem? (i := 227) rfl))))) rfl
theorem xo_11 : (Cond.selects "LayerDeskModel" xy_Mo_isShut xy_Mo_isShut) ∈ wT := wT_s (q := (xy_Mo_isShut, 31)) (by decide +kernel) rfl
theorem xo_12 : (Cond.code xy_Mo_packageOf xb_Mo_packageOf 4 (some .int)) ∈ wT := wT_t (List.mem_append_right _ (List.mem_append_right _ (List.mem_append_right _ (List.mem_append_left _ (List.mem_of_getElem? (i := 224) rfl))))) rfl
theorem xo_13 : (Cond.methodLink "LayerDeskModel" 143 xy_Mo_packageOf) ∈ wT := wT_t (List.mem_append_right _ (List.mem_append_right _ (List.mem_append_right _ (List.mem_append_left _ (List.mem_of_getElem? (i := 221) rfl))))) rfl
theorem xo_14 : (Cond.instanceMethod xy_Mo_packageOf) ∈ wT := wT_t (List.mem_append_right _ (List.mem_append_right _ (List.mem_append_right _ (List.mem_append_left _ (List.mem_of_getElem? (i := 223) rfl))))) rfl
theorem xo_15 : (Cond.selects "LayerDeskModel" xy_Mo_packageOf xy_Mo_packageOf) ∈ wT := wT_s (q := (xy_Mo_packageOf, 31)) (by decide +kernel) rfl
theorem xo_16 : (Cond.fieldLink "LayerDeskModel" 26 "LayerDeskModel" "packages" "[I") ∈ wT := wT_t (List.mem_append_right _ (List.mem_append_right _ (List.mem_append_right _ (List.mem_append_left _ (List.mem_of_getElem? (i := 94) rfl))))) rfl
theorem xo_17 : (Cond.fieldLink "LayerDeskModel" 29 "LayerDeskModel" "pack" "[I") ∈ wT := wT_t (List.mem_append_right _ (List.mem_append_right _ (List.mem_append_right _ (List.mem_append_left _ (List.mem_of_getElem? (i := 95) rfl))))) rfl
set_option maxHeartbeats 4000000 in
set_option maxRecDepth 100000 in
theorem xc_Mo_fails (l : Launch) (D : va_G) (kA : Nat → ClassId) (sz h : Nat) (mm : Nat → Nat) (v : Nat → Int32) (g : Nat → Nat → Int32) (cd : Int32) : Met l xy_Mo_fails (.code xy_Mo_fails xb_Mo_fails 2 (some .int) :: wT) { frames := 0, cells := 0, slots := 0, locals := 0 } (va_Pc [.ref h, .int cd] (xPre D kA sz (moW h mm kA v g))) (va_Qi (fun (r : Int32) (u : (Nat → Int32) × (Nat → Nat → Int32)) => r = 0 ∧ u = (va_up v 0 cd, g)) (fun (u : (Nat → Int32) × (Nat → Nat → Int32)) t => va_P D xcl (moW h mm kA u.1 u.2) t.heap ∧ va_D (va_A (moW h mm kA v g) sz) (moW h mm kA u.1 u.2)) (va_A (moW h mm kA v g) sz)) 0 0 (va_A (moW h mm kA v g) sz) := by
  refine Met.ofW (cc := xb_Mo_fails) (maxL := 2) (ret := (some .int)) (by decide) rfl ?_
  intro p e s m args below meth c s₁ B hml hv
  obtain ⟨rfl, hsz, hP, hK, hD0⟩ := hv
  have hx := B.exec
  have hb := B.bytes
  have hr := B.returns
  have hT := x_hT B.pre
  have hown : s.vm.findClass xR_Mo = some m.cls := findClass_of_methodNamed B.named
  have hlocks := B.notSynchronized
  subst hsz
  have hD := hD0.self (sz := s.heap.size)
  generalize hAe : va_A (moW h mm kA v g) s.heap.size = A at hD ⊢
  have hA : ∀ q : Nat, s.heap.size ≤ q → A q := fun q h => by rw [← hAe]; exact Or.inr h
  have hS : va_S A s.heap s.heap [] := va_S.rf
  have hl := lv_entry ([.ref h, .int cd]) (n := 2) (Nat.le_of_ble_eq_true rfl)
  rw [lg_entry_eq]
  generalize (lg_sl ([.ref h, .int cd]) ++ List.replicate (2 - (lg_sl ([.ref h, .int cd])).length) Slot.unset).toArray = ls at hl ⊢
  have hl : lv_has ls 2 [(0, .ref h), (1, .int cd)] := hl
  have hP : va_P D xcl (moW h mm kA v g) s.heap := hP
  refine lv_aload_n hx hb xd_Mo_fails_0 rfl (lv_at hl 0 rfl) ?_
  refine lv_iload_n hx hb xd_Mo_fails_1 rfl (lv_at hl 1 rfl) ?_
  refine va_put (D := D) (ci := 4) (v := .int cd) (ty := .int) (C := xR_Mo) (T := xT_Mo) (N := 31) hx hb hT xi_Mo xt_Mo xt_Mo_ok xn_Mo hown hK.1 hP hD hS 0 rfl rfl 0 (by decide) (hT _ xo_0) (fun _ h9 => h9) rfl (by decide +kernel) rfl rfl (Nat.le_of_ble_eq_true rfl) xd_Mo_fails_2 (fun H locs hP hD hS => ?_)
  have hP : va_P D xcl (moW h mm kA (va_up v 0 cd) g) H := hP
  have hD : va_D A (moW h mm kA (va_up v 0 cd) g) := hD
  refine lv_iconst (v := 0) hx hb xd_Mo_fails_5 (by decide) ?_
  exact W.iret (v := 0) hx hb hr (fun t ht hW => ⟨⟨0, ((va_up v 0 cd), g), rfl, ⟨rfl, rfl⟩, by rw [ht]; exact hP, hD⟩, hS.F ht⟩) hS.2.2 xd_Mo_fails_6
set_option maxHeartbeats 4000000 in
set_option maxRecDepth 100000 in
theorem xc_Mo_newPackage (l : Launch) (D : va_G) (kA : Nat → ClassId) (sz h : Nat) (mm : Nat → Nat) (v : Nat → Int32) (g : Nat → Nat → Int32) (wn : Nat) (hMI : MI v g) (hWI : WI v g wn) : Met l xy_Mo_newPackage (.code xy_Mo_newPackage xb_Mo_newPackage 3 (some .int) :: wT) { frames := 1, cells := 0, slots := 0, locals := 23 } (va_Pc [.ref h] (xPre D kA sz (moW h mm kA v g))) (va_Qi (fun (r : Int32) (u : (Nat → Int32) × (Nat → Nat → Int32)) => MI u.1 u.2 ∧ u.1 2 = v 2 ∧ (r = -1 ∨ r = -2 ∨ r = 1 ∨ r = 2)) (fun (u : (Nat → Int32) × (Nat → Nat → Int32)) t => va_P D xcl (moW h mm kA u.1 u.2) t.heap ∧ va_D (va_A (moW h mm kA v g) sz) (moW h mm kA u.1 u.2)) (va_A (moW h mm kA v g) sz)) 0 0 (va_A (moW h mm kA v g) sz) := by
  refine Met.ofW (cc := xb_Mo_newPackage) (maxL := 3) (ret := (some .int)) (by decide) rfl ?_
  intro p e s m args below meth c s₁ B hml hv
  obtain ⟨rfl, hsz, hP, hK, hD0⟩ := hv
  have hx := B.exec
  have hb := B.bytes
  have hr := B.returns
  have hT := x_hT B.pre
  have hown : s.vm.findClass xR_Mo = some m.cls := findClass_of_methodNamed B.named
  have hlocks := B.notSynchronized
  subst hsz
  have hD := hD0.self (sz := s.heap.size)
  generalize hAe : va_A (moW h mm kA v g) s.heap.size = A at hD ⊢
  have hA : ∀ q : Nat, s.heap.size ≤ q → A q := fun q h => by rw [← hAe]; exact Or.inr h
  have hS : va_S A s.heap s.heap [] := va_S.rf
  have hl := lv_entry ([.ref h]) (n := 3) (Nat.le_of_ble_eq_true rfl)
  rw [lg_entry_eq]
  generalize (lg_sl ([.ref h]) ++ List.replicate (3 - (lg_sl ([.ref h])).length) Slot.unset).toArray = ls at hl ⊢
  have hl : lv_has ls 3 [(0, .ref h)] := hl
  have hP : va_P D xcl (moW h mm kA v g) s.heap := hP
  obtain ⟨⟨nd, hnd12, hnd⟩, ⟨nl, hnl5, hnl, hpar⟩, hch, hpk, hrq, hmd, huq⟩ := id hMI
  obtain ⟨hwn20, hwn, hws⟩ := hWI
  refine lv_aload_n hx hb xd_Mo_newPackage_0 rfl (lv_at hl 0 rfl) ?_
  refine va_get (D := D) (ci := 4) (v := .int (v 3)) (C := xR_Mo) (T := xT_Mo) (N := 31) hx hb hT xi_Mo hown hK.1 hP 0 rfl rfl 4 (by decide) (hT _ xo_1) (fun _ h9 => h9) rfl xd_Mo_newPackage_1 ?_
  refine xn_top (x := (v 3)) (y := nI wn) hwn ?_
  refine lv_iconst (v := 2) hx hb xd_Mo_newPackage_4 (by decide) ?_
  refine xn_ne (a := wn) (b := 2) (tgt := 16) hx hb xd_Mo_newPackage_5 (by decide) (by omega) (by omega) (fun hc1 => ?_) (fun hc1 => ?_)
  · refine lv_iconst (v := 0) hx hb xd_Mo_newPackage_16 (by decide) ?_
    refine lv_istore_n hx hb xd_Mo_newPackage_17 rfl hl (Nat.le_of_ble_eq_true rfl) rfl (fun ls hl => ?_)
    have hl : lv_has ls 3 [(1, .int 0), (0, .ref h)] := hl
    refine lv_iload_n hx hb xd_Mo_newPackage_18 rfl (lv_at hl 0 rfl) ?_
    refine xz_ne (a := 0) (tgt := 24) hx hb xd_Mo_newPackage_19 (by decide) (by omega) (fun hc2 => absurd hc2 (by omega)) (fun _ => ?_)
    refine lv_iconst (v := (-1)) hx hb xd_Mo_newPackage_22 (by decide) ?_
    exact W.iret (v := (-1)) hx hb hr (fun t ht hW => ⟨⟨(-1), (v, g), rfl, ⟨hMI, rfl, Or.inl rfl⟩, by rw [ht]; exact hP, hD⟩, hS.F ht⟩) hS.2.2 xd_Mo_newPackage_23
  · obtain ⟨b1, e1, hbe1, he1, eb1, ee1⟩ := hws 1 (by omega)
    refine lv_aload_n hx hb xd_Mo_newPackage_8 rfl (lv_at hl 0 rfl) ?_
    refine lv_iconst (v := 1) hx hb xd_Mo_newPackage_9 (by decide) ?_
    have hFc := va_free (wc := (moW h mm kA v g)) hD hS hA [0, 1, 2, 3, 4, 5, 6, 7, 8, 9, 10, 11, 12, 13, 14, 15, 16, 17, 18, 19, 20, 21, 22, 23, 24, 25] rfl
    refine va_calli (va_runV (As := [.int 1]) (rest := []) ⟨hx, hb, hml, hown, hT⟩ (xc_Mo_nameOf l D kA s.heap.size h mm v g 1 b1 e1 (by first | assumption | omega) (by first | assumption | omega) (by first | assumption | omega) (by first | assumption | omega) (by first | assumption | omega)) (cwV 1 hT (wT_V xo_3 xo_4 xo_5 xo_6 xo_2) rfl rfl rfl (by decide +kernel) ⟨Nat.le_of_ble_eq_true rfl, Nat.le_of_ble_eq_true rfl⟩) (x_preV hK hP hD 0 rfl rfl) rfl rfl hl.1 rfl (lv_room (Nat.le_of_ble_eq_true rfl)) xd_Mo_newPackage_10 ⟨Nat.le_of_ble_eq_true rfl, Nat.le_of_ble_eq_true rfl⟩) hS (fun q _ h => hFc q h) hFc (fun r3 u4 t H1 locs ht hvm hp5 hB hz1 hk1 hS => ?_)
    obtain ⟨hP1, hD1⟩ := hB
    rw [ht] at hP1
    have hD1 := hD1.weaken (fun _ _ _ h => hFc _ h)
    generalize H1 = H at hP1 hS ⊢
    have hP := hP1
    have hD := hD1
    have hP : va_P D xcl (moW h mm kA v g) H := hP
    have hD : va_D A (moW h mm kA v g) := hD
    refine lv_goto (tgt := 17) hx hb xd_Mo_newPackage_13 (by decide) ?_
    refine lv_istore_n hx hb xd_Mo_newPackage_17 rfl hl (Nat.le_of_ble_eq_true rfl) rfl (fun ls hl => ?_)
    have hl : lv_has ls 3 [(1, .int r3), (0, .ref h)] := hl
    refine lv_iload_n hx hb xd_Mo_newPackage_18 rfl (lv_at hl 0 rfl) ?_
    refine lv_if_ne (tgt := 24) hx hb xd_Mo_newPackage_19 (by decide) (fun hc6 => ?_) (fun hc6 => ?_)
    · rcases Nat.eq_zero_or_pos nd with hz | hz
      · have hnd0 : v 4 = nI 0 := by rw [hnd, hz]
        refine lv_aload_n hx hb xd_Mo_newPackage_24 rfl (lv_at hl 1 rfl) ?_
        refine va_get (D := D) (ci := 4) (v := .int (v 4)) (C := xR_Mo) (T := xT_Mo) (N := 31) hx hb hT xi_Mo hown hK.1 hP 0 rfl rfl 7 (by decide) (hT _ xo_7) (fun _ h9 => h9) rfl xd_Mo_newPackage_25 ?_
        refine xn_top (x := (v 4)) (y := nI 0) hnd0 ?_
        refine lv_iconst (v := 1) hx hb xd_Mo_newPackage_28 (by decide) ?_
        refine lv_isub hx hb xd_Mo_newPackage_29 ?_
        refine lv_istore_n hx hb xd_Mo_newPackage_30 rfl hl (Nat.le_of_ble_eq_true rfl) rfl (fun ls hl => ?_)
        have hl : lv_has ls 3 [(2, .int ((nI 0) - 1)), (1, .int r3), (0, .ref h)] := hl
        refine lv_iload_n hx hb xd_Mo_newPackage_31 rfl (lv_at hl 0 rfl) ?_
        refine lv_if_lt (tgt := 46) hx hb xd_Mo_newPackage_32 (by decide) (fun _ => ?_) (fun hc7 => absurd hc7 (by decide))
        refine lv_aload_n hx hb xd_Mo_newPackage_46 rfl (lv_at hl 2 rfl) ?_
        have hFc := va_free (wc := (moW h mm kA v g)) hD hS hA [0, 1, 2, 3, 4, 5, 6, 7, 8, 9, 10, 11, 12, 13, 14, 15, 16, 17, 18, 19, 20, 21, 22, 23, 24, 25] rfl
        refine va_calli (va_runV (As := []) (rest := []) ⟨hx, hb, hml, hown, hT⟩ (xc_Mo_isShut l D kA H.size h mm v g nd (by first | assumption | omega) (by first | assumption | omega)) (cwV 0 hT (wT_V xo_9 xo_10 xo_11 xo_6 xo_8) rfl rfl rfl (by decide +kernel) ⟨Nat.le_of_ble_eq_true rfl, Nat.le_of_ble_eq_true rfl⟩) (x_preV hK hP hD 0 rfl rfl) rfl rfl hl.1 rfl (lv_room (Nat.le_of_ble_eq_true rfl)) xd_Mo_newPackage_47 ⟨Nat.le_of_ble_eq_true rfl, Nat.le_of_ble_eq_true rfl⟩) hS (fun q _ h => hFc q h) hFc (fun r8 u9 t H1 locs ht hvm hp10 hB hz1 hk1 hS => ?_)
        obtain ⟨hP1, hD1⟩ := hB
        rw [ht] at hP1
        have hD1 := hD1.weaken (fun _ _ _ h => hFc _ h)
        generalize H1 = H at hP1 hS ⊢
        have hP := hP1
        have hD := hD1
        have hP : va_P D xcl (moW h mm kA v g) H := hP
        have hD : va_D A (moW h mm kA v g) := hD
        rcases hp10 with ⟨rfl, z11⟩ | ⟨rfl, z12, z13⟩
        · refine xz_ne (a := 1) (tgt := 64) hx hb xd_Mo_newPackage_50 (by decide) (by omega) (fun _ => ?_) (fun hc14 => absurd hc14 (by omega))
          refine lv_bipush (v := (-2)) hx hb xd_Mo_newPackage_64 (by decide) ?_
          exact W.iret (v := (-2)) hx hb hr (fun t ht hW => ⟨⟨(-2), (v, g), rfl, ⟨hMI, rfl, Or.inr (Or.inl rfl)⟩, by rw [ht]; exact hP, hD⟩, hS.F ht⟩) hS.2.2 xd_Mo_newPackage_66
        · exact absurd hz z12
      · refine lv_aload_n hx hb xd_Mo_newPackage_24 rfl (lv_at hl 1 rfl) ?_
        refine va_get (D := D) (ci := 4) (v := .int (v 4)) (C := xR_Mo) (T := xT_Mo) (N := 31) hx hb hT xi_Mo hown hK.1 hP 0 rfl rfl 7 (by decide) (hT _ xo_7) (fun _ h9 => h9) rfl xd_Mo_newPackage_25 ?_
        refine xn_top (x := (v 4)) (y := nI nd) hnd ?_
        refine lv_iconst (v := 1) hx hb xd_Mo_newPackage_28 (by decide) ?_
        refine lv_isub hx hb xd_Mo_newPackage_29 ?_
        refine xn_top (y := nI (nd - 1)) (pk_sub (a := nd) (b := 1) (by omega)) ?_
        refine lv_istore_n hx hb xd_Mo_newPackage_30 rfl hl (Nat.le_of_ble_eq_true rfl) rfl (fun ls hl => ?_)
        have hl : lv_has ls 3 [(2, .int (nI (nd - 1))), (1, .int r3), (0, .ref h)] := hl
        refine lv_iload_n hx hb xd_Mo_newPackage_31 rfl (lv_at hl 0 rfl) ?_
        refine xz_lt (a := nd - 1) (tgt := 46) hx hb xd_Mo_newPackage_32 (by decide) (by omega) ?_
        obtain ⟨pk1, hpk1, epk1⟩ := hpk (nd - 1) (by omega)
        refine lv_aload_n hx hb xd_Mo_newPackage_35 rfl (lv_at hl 2 rfl) ?_
        refine lv_iload_n hx hb xd_Mo_newPackage_36 rfl (lv_at hl 0 rfl) ?_
        refine lv_iload_n hx hb xd_Mo_newPackage_37 rfl (lv_at hl 1 rfl) ?_
        have hFc := va_free (wc := (moW h mm kA v g)) hD hS hA [0, 1, 2, 3, 4, 5, 6, 7, 8, 9, 10, 11, 12, 13, 14, 15, 16, 17, 18, 19, 20, 21, 22, 23, 24, 25] rfl
        refine va_calli (va_runV (As := [.int (nI (nd - 1)), .int r3]) (rest := []) ⟨hx, hb, hml, hown, hT⟩ (xc_Mo_packageOf l D kA H.size h mm v g (nd - 1) r3 pk1 (by first | assumption | omega) (by first | assumption | omega) (by first | assumption | omega)) (cwV 2 hT (wT_V xo_13 xo_14 xo_15 xo_6 xo_12) rfl rfl rfl (by decide +kernel) ⟨Nat.le_of_ble_eq_true rfl, Nat.le_of_ble_eq_true rfl⟩) (x_preV hK hP hD 0 rfl rfl) rfl rfl hl.1 rfl (lv_room (Nat.le_of_ble_eq_true rfl)) xd_Mo_newPackage_38 ⟨Nat.le_of_ble_eq_true rfl, Nat.le_of_ble_eq_true rfl⟩) hS (fun q _ h => hFc q h) hFc (fun r16 u17 t H1 locs ht hvm hp18 hB hz1 hk1 hS => ?_)
        obtain ⟨hP1, hD1⟩ := hB
        rw [ht] at hP1
        have hD1 := hD1.weaken (fun _ _ _ h => hFc _ h)
        generalize H1 = H at hP1 hS ⊢
        have hP := hP1
        have hD := hD1
        have hP : va_P D xcl (moW h mm kA v g) H := hP
        have hD : va_D A (moW h mm kA v g) := hD
        rcases hp18 with ⟨z19, z20, z21, rfl, z22⟩ | ⟨rfl, z23⟩
        · refine xz_lt (a := z19) (tgt := 46) hx hb xd_Mo_newPackage_41 (by decide) (by omega) ?_
          refine lv_iconst (v := (-1)) hx hb xd_Mo_newPackage_44 (by decide) ?_
          exact W.iret (v := (-1)) hx hb hr (fun t ht hW => ⟨⟨(-1), (v, g), rfl, ⟨hMI, rfl, Or.inl rfl⟩, by rw [ht]; exact hP, hD⟩, hS.F ht⟩) hS.2.2 xd_Mo_newPackage_45
        · refine lv_if_lt (tgt := 46) hx hb xd_Mo_newPackage_41 (by decide) (fun _ => ?_) (fun hc25 => absurd hc25 (by decide))
          refine lv_aload_n hx hb xd_Mo_newPackage_46 rfl (lv_at hl 2 rfl) ?_
          have hFc := va_free (wc := (moW h mm kA v g)) hD hS hA [0, 1, 2, 3, 4, 5, 6, 7, 8, 9, 10, 11, 12, 13, 14, 15, 16, 17, 18, 19, 20, 21, 22, 23, 24, 25] rfl
          refine va_calli (va_runV (As := []) (rest := []) ⟨hx, hb, hml, hown, hT⟩ (xc_Mo_isShut l D kA H.size h mm v g nd (by first | assumption | omega) (by first | assumption | omega)) (cwV 0 hT (wT_V xo_9 xo_10 xo_11 xo_6 xo_8) rfl rfl rfl (by decide +kernel) ⟨Nat.le_of_ble_eq_true rfl, Nat.le_of_ble_eq_true rfl⟩) (x_preV hK hP hD 0 rfl rfl) rfl rfl hl.1 rfl (lv_room (Nat.le_of_ble_eq_true rfl)) xd_Mo_newPackage_47 ⟨Nat.le_of_ble_eq_true rfl, Nat.le_of_ble_eq_true rfl⟩) hS (fun q _ h => hFc q h) hFc (fun r26 u27 t H1 locs ht hvm hp28 hB hz1 hk1 hS => ?_)
          obtain ⟨hP1, hD1⟩ := hB
          rw [ht] at hP1
          have hD1 := hD1.weaken (fun _ _ _ h => hFc _ h)
          generalize H1 = H at hP1 hS ⊢
          have hP := hP1
          have hD := hD1
          have hP : va_P D xcl (moW h mm kA v g) H := hP
          have hD : va_D A (moW h mm kA v g) := hD
          rcases hp28 with ⟨rfl, z29⟩ | ⟨rfl, z30, z31⟩
          · refine xz_ne (a := 1) (tgt := 64) hx hb xd_Mo_newPackage_50 (by decide) (by omega) (fun _ => ?_) (fun hc32 => absurd hc32 (by omega))
            refine lv_bipush (v := (-2)) hx hb xd_Mo_newPackage_64 (by decide) ?_
            exact W.iret (v := (-2)) hx hb hr (fun t ht hW => ⟨⟨(-2), (v, g), rfl, ⟨hMI, rfl, Or.inr (Or.inl rfl)⟩, by rw [ht]; exact hP, hD⟩, hS.F ht⟩) hS.2.2 xd_Mo_newPackage_66
          · refine xz_ne (a := 0) (tgt := 64) hx hb xd_Mo_newPackage_50 (by decide) (by omega) (fun hc33 => absurd hc33 (by omega)) (fun _ => ?_)
            refine lv_aload_n hx hb xd_Mo_newPackage_53 rfl (lv_at hl 2 rfl) ?_
            refine va_get (D := D) (ci := 4) (v := .ref (mm 5)) (C := xR_Mo) (T := xT_Mo) (N := 31) hx hb hT xi_Mo hown hK.1 hP 0 rfl rfl 10 (by decide) (hT _ xo_16) (fun _ h9 => h9) rfl xd_Mo_newPackage_54 ?_
            refine lv_iload_n hx hb xd_Mo_newPackage_57 rfl (lv_at hl 0 rfl) ?_
            refine xn_iald (i := nd - 1) hx hb hK.1 hP 6 0 rfl rfl (by omega) (by decide) xd_Mo_newPackage_58 ?_
            refine xn_top (x := (g 5 (nd - 1))) (y := nI pk1) epk1 ?_
            refine lv_bipush (v := 6) hx hb xd_Mo_newPackage_59 (by decide) ?_
            refine xn_ne (a := pk1) (b := 6) (tgt := 67) hx hb xd_Mo_newPackage_61 (by decide) (by omega) (by omega) (fun hc34 => ?_) (fun hc34 => ?_)
            · refine lv_aload_n hx hb xd_Mo_newPackage_67 rfl (lv_at hl 2 rfl) ?_
              refine va_get (D := D) (ci := 4) (v := .ref (mm 6)) (C := xR_Mo) (T := xT_Mo) (N := 31) hx hb hT xi_Mo hown hK.1 hP 0 rfl rfl 11 (by decide) (hT _ xo_17) (fun _ h9 => h9) rfl xd_Mo_newPackage_68 ?_
              refine lv_bipush (v := 6) hx hb xd_Mo_newPackage_71 (by decide) ?_
              refine lv_iload_n hx hb xd_Mo_newPackage_73 rfl (lv_at hl 0 rfl) ?_
              refine lv_imul hx hb xd_Mo_newPackage_74 ?_
              refine xn_top (y := nI (6 * (nd - 1))) (pk_mul 6 (nd - 1)) ?_
              refine lv_aload_n hx hb xd_Mo_newPackage_75 rfl (lv_at hl 2 rfl) ?_
              refine va_get (D := D) (ci := 4) (v := .ref (mm 5)) (C := xR_Mo) (T := xT_Mo) (N := 31) hx hb hT xi_Mo hown hK.1 hP 0 rfl rfl 10 (by decide) (hT _ xo_16) (fun _ h9 => h9) rfl xd_Mo_newPackage_76 ?_
              refine lv_iload_n hx hb xd_Mo_newPackage_79 rfl (lv_at hl 0 rfl) ?_
              refine xn_iald (i := nd - 1) hx hb hK.1 hP 6 0 rfl rfl (by omega) (by decide) xd_Mo_newPackage_80 ?_
              refine xn_top (x := (g 5 (nd - 1))) (y := nI pk1) epk1 ?_
              refine lv_iadd hx hb xd_Mo_newPackage_81 ?_
              refine xn_top (y := nI ((6 * (nd - 1)) + pk1)) (nI_add (6 * (nd - 1)) pk1) ?_
              refine lv_iload_n hx hb xd_Mo_newPackage_82 rfl (lv_at hl 1 rfl) ?_
              refine xn_iast (i := (6 * (nd - 1)) + pk1) hx hb hK.1 hP hD hS 7 0 rfl rfl (by omega) (by decide) xd_Mo_newPackage_83 (fun H locs hP hD hS => ?_)
              have hP : va_P D xcl (moW h mm kA v (va_up g 6 (upd (g 6) ((6 * (nd - 1)) + pk1) r3))) H := hP
              have hD : va_D A (moW h mm kA v (va_up g 6 (upd (g 6) ((6 * (nd - 1)) + pk1) r3))) := hD
              refine lv_aload_n hx hb xd_Mo_newPackage_84 rfl (lv_at hl 2 rfl) ?_
              refine va_get (D := D) (ci := 4) (v := .ref (mm 5)) (C := xR_Mo) (T := xT_Mo) (N := 31) hx hb hT xi_Mo hown hK.1 hP 0 rfl rfl 10 (by decide) (hT _ xo_16) (fun _ h9 => h9) rfl xd_Mo_newPackage_85 ?_
              refine lv_iload_n hx hb xd_Mo_newPackage_88 rfl (lv_at hl 0 rfl) ?_
              refine lv_dup2_11 hx hb xd_Mo_newPackage_89 rfl rfl ?_
              refine xn_iald (i := nd - 1) hx hb hK.1 hP 6 0 rfl rfl (by omega) (by decide) xd_Mo_newPackage_90 ?_
              refine xn_top (x := (g 5 (nd - 1))) (y := nI pk1) epk1 ?_
              refine lv_iconst (v := 1) hx hb xd_Mo_newPackage_91 (by decide) ?_
              refine lv_iadd hx hb xd_Mo_newPackage_92 ?_
              refine xn_top (y := nI (pk1 + 1)) (nI_add pk1 1) ?_
              refine xn_iast (i := nd - 1) hx hb hK.1 hP hD hS 6 0 rfl rfl (by omega) (by decide) xd_Mo_newPackage_93 (fun H locs hP hD hS => ?_)
              have hP : va_P D xcl (moW h mm kA v (va_up (va_up g 5 (upd (g 5) (nd - 1) (nI (pk1 + 1)))) 6 (upd (g 6) ((6 * (nd - 1)) + pk1) r3))) H := hP
              have hD : va_D A (moW h mm kA v (va_up (va_up g 5 (upd (g 5) (nd - 1) (nI (pk1 + 1)))) 6 (upd (g 6) ((6 * (nd - 1)) + pk1) r3))) := hD
              refine lv_iconst (v := 2) hx hb xd_Mo_newPackage_94 (by decide) ?_
              exact W.iret (v := 2) hx hb hr (fun t ht hW => ⟨⟨2, (v, (va_up (va_up g 5 (upd (g 5) (nd - 1) (nI (pk1 + 1)))) 6 (upd (g 6) ((6 * (nd - 1)) + pk1) r3))), rfl, ⟨MI_g (g := va_up g 5 (upd (g 5) (nd - 1) (nI (pk1 + 1)))) rfl rfl rfl rfl rfl rfl rfl rfl (MI_pk (by omega) hMI), rfl, Or.inr (Or.inr (Or.inr rfl))⟩, by rw [ht]; exact hP, hD⟩, hS.F ht⟩) hS.2.2 xd_Mo_newPackage_95
            · refine lv_bipush (v := (-2)) hx hb xd_Mo_newPackage_64 (by decide) ?_
              exact W.iret (v := (-2)) hx hb hr (fun t ht hW => ⟨⟨(-2), (v, g), rfl, ⟨hMI, rfl, Or.inr (Or.inl rfl)⟩, by rw [ht]; exact hP, hD⟩, hS.F ht⟩) hS.2.2 xd_Mo_newPackage_66
    · refine lv_iconst (v := (-1)) hx hb xd_Mo_newPackage_22 (by decide) ?_
      exact W.iret (v := (-1)) hx hb hr (fun t ht hW => ⟨⟨(-1), (v, g), rfl, ⟨hMI, rfl, Or.inl rfl⟩, by rw [ht]; exact hP, hD⟩, hS.F ht⟩) hS.2.2 xd_Mo_newPackage_23
