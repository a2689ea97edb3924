theorem k4r_0 : (Cond.fieldLink "LayerDeskModel" 87 "LayerDeskModel" "fault" "I") ∈ wT := wT_t (List.mem_append_right _ (List.mem_append_right _ (List.mem_append_right _ (List.mem_append_left _ (List.mem_of_getElem? (i := 84) rfl))))) rfl
theorem k4r_1 : (Cond.fieldLink "LayerDeskModel" 187 "LayerDeskModel" "why" "I") ∈ wT := wT_t (List.mem_append_right _ (List.mem_append_right _ (List.mem_append_right _ (List.mem_append_left _ (List.mem_of_getElem? (i := 85) rfl))))) rfl
theorem k4r_2 : (Cond.fieldLink "LayerDeskModel" 150 "LayerDeskModel" "layers" "I") ∈ wT := wT_t (List.mem_append_right _ (List.mem_append_right _ (List.mem_append_right _ (List.mem_append_left _ (List.mem_of_getElem? (i := 107) rfl))))) rfl
theorem k4r_3 : (Cond.fieldLink "LayerDeskModel" 140 "LayerDeskModel" "descriptors" "I") ∈ wT := wT_t (List.mem_append_right _ (List.mem_append_right _ (List.mem_append_right _ (List.mem_append_left _ (List.mem_of_getElem? (i := 91) rfl))))) rfl
theorem k4r_4 : (Cond.fieldLink "LayerDeskModel" 78 "LayerDeskModel" "open" "[Z") ∈ wT := wT_t (List.mem_append_right _ (List.mem_append_right _ (List.mem_append_right _ (List.mem_append_left _ (List.mem_of_getElem? (i := 112) rfl))))) rfl
theorem k4r_5 : (Cond.code xy_Mo_isOpen xb_Mo_isOpen 2 (some .boolean)) ∈ wT := wT_t (List.mem_append_right _ (List.mem_append_right _ (List.mem_append_right _ (List.mem_append_right _ (List.mem_of_getElem? (i := 12) rfl))))) rfl
theorem k4r_6 : (Cond.methodLink "LayerDeskModel" 190 xy_Mo_isOpen) ∈ wT := wT_t (List.mem_append_right _ (List.mem_append_right _ (List.mem_append_right _ (List.mem_append_right _ (List.mem_of_getElem? (i := 9) rfl))))) rfl
theorem k4r_7 : (Cond.instanceMethod xy_Mo_isOpen) ∈ wT := wT_t (List.mem_append_right _ (List.mem_append_right _ (List.mem_append_right _ (List.mem_append_right _ (List.mem_of_getElem? (i := 11) rfl))))) rfl
theorem k4r_8 : (Cond.selects "LayerDeskModel" xy_Mo_isOpen xy_Mo_isOpen) ∈ wT := wT_s (q := (xy_Mo_isOpen, 31)) (by decide +kernel) rfl
theorem k4r_9 : (Cond.initialized "LayerDeskModel") ∈ wT := wT_t (List.mem_append_left _ (List.mem_of_getElem? (i := 5) rfl)) rfl
theorem k4r_10 : (Cond.fieldLink "LayerDeskModel" 72 "LayerDeskModel" "modules" "[I") ∈ wT := wT_t (List.mem_append_right _ (List.mem_append_right _ (List.mem_append_right _ (List.mem_append_left _ (List.mem_of_getElem? (i := 110) rfl))))) rfl
theorem k4r_11 : (Cond.code xy_Mo_moduleOf xb_Mo_moduleOf 3 (some .int)) ∈ wT := wT_t (List.mem_append_right _ (List.mem_append_right _ (List.mem_append_right _ (List.mem_append_right _ (List.mem_of_getElem? (i := 84) rfl))))) rfl
theorem k4r_12 : (Cond.methodLink "LayerDeskModel" 199 xy_Mo_moduleOf) ∈ wT := wT_t (List.mem_append_right _ (List.mem_append_right _ (List.mem_append_right _ (List.mem_append_right _ (List.mem_of_getElem? (i := 81) rfl))))) rfl
theorem k4r_13 : (Cond.instanceMethod xy_Mo_moduleOf) ∈ wT := wT_t (List.mem_append_right _ (List.mem_append_right _ (List.mem_append_right _ (List.mem_append_right _ (List.mem_of_getElem? (i := 83) rfl))))) rfl
theorem k4r_14 : (Cond.selects "LayerDeskModel" xy_Mo_moduleOf xy_Mo_moduleOf) ∈ wT := wT_s (q := (xy_Mo_moduleOf, 31)) (by decide +kernel) rfl
theorem k4r_15 : (Cond.code xy_Mo_isThere xb_Mo_isThere 3 (some .boolean)) ∈ wT := wT_t (List.mem_append_right _ (List.mem_append_right _ (List.mem_append_right _ (List.mem_append_right _ (List.mem_of_getElem? (i := 92) rfl))))) rfl
theorem k4r_16 : (Cond.methodLink "LayerDeskModel" 202 xy_Mo_isThere) ∈ wT := wT_t (List.mem_append_right _ (List.mem_append_right _ (List.mem_append_right _ (List.mem_append_right _ (List.mem_of_getElem? (i := 89) rfl))))) rfl
theorem k4r_17 : (Cond.instanceMethod xy_Mo_isThere) ∈ wT := wT_t (List.mem_append_right _ (List.mem_append_right _ (List.mem_append_right _ (List.mem_append_right _ (List.mem_of_getElem? (i := 91) rfl))))) rfl
theorem k4r_18 : (Cond.selects "LayerDeskModel" xy_Mo_isThere xy_Mo_isThere) ∈ wT := wT_s (q := (xy_Mo_isThere, 31)) (by decide +kernel) rfl
theorem k4r_19 : (Cond.code xy_Mo_reading xb_Mo_reading 7 none) ∈ wT := wT_t (List.mem_append_right _ (List.mem_append_right _ (List.mem_append_right _ (List.mem_append_right _ (List.mem_of_getElem? (i := 48) rfl))))) rfl
theorem k4r_20 : (Cond.methodLink "LayerDeskModel" 171 xy_Mo_reading) ∈ wT := wT_t (List.mem_append_right _ (List.mem_append_right _ (List.mem_append_right _ (List.mem_append_right _ (List.mem_of_getElem? (i := 45) rfl))))) rfl
theorem k4r_21 : (Cond.instanceMethod xy_Mo_reading) ∈ wT := wT_t (List.mem_append_right _ (List.mem_append_right _ (List.mem_append_right _ (List.mem_append_right _ (List.mem_of_getElem? (i := 47) rfl))))) rfl
theorem k4r_22 : (Cond.selects "LayerDeskModel" xy_Mo_reading xy_Mo_reading) ∈ wT := wT_s (q := (xy_Mo_reading, 31)) (by decide +kernel) rfl
theorem k4r_23 : (Cond.fieldLink "LayerDeskModel" 84 "LayerDeskModel" "seen" "[Z") ∈ wT := wT_t (List.mem_append_right _ (List.mem_append_right _ (List.mem_append_right _ (List.mem_append_left _ (List.mem_of_getElem? (i := 114) rfl))))) rfl
theorem k4r_24 : (Cond.code xy_Mo_oneName xb_Mo_oneName 1 (some .int)) ∈ wT := wT_t (List.mem_append_right _ (List.mem_append_right _ (List.mem_append_right _ (List.mem_append_right _ (List.mem_of_getElem? (i := 100) rfl))))) rfl
theorem k4r_25 : (Cond.methodLink "LayerDeskModel" 205 xy_Mo_oneName) ∈ wT := wT_t (List.mem_append_right _ (List.mem_append_right _ (List.mem_append_right _ (List.mem_append_right _ (List.mem_of_getElem? (i := 97) rfl))))) rfl
theorem k4r_26 : (Cond.instanceMethod xy_Mo_oneName) ∈ wT := wT_t (List.mem_append_right _ (List.mem_append_right _ (List.mem_append_right _ (List.mem_append_right _ (List.mem_of_getElem? (i := 99) rfl))))) rfl
theorem k4r_27 : (Cond.selects "LayerDeskModel" xy_Mo_oneName xy_Mo_oneName) ∈ wT := wT_s (q := (xy_Mo_oneName, 31)) (by decide +kernel) rfl
theorem k4r_28 : (Cond.code xy_Mo_fails xb_Mo_fails 2 (some .int)) ∈ wT := wT_t (List.mem_append_right _ (List.mem_append_right _ (List.mem_append_right _ (List.mem_append_right _ (List.mem_of_getElem? (i := 4) rfl))))) rfl
theorem k4r_29 : (Cond.methodLink "LayerDeskModel" 129 xy_Mo_fails) ∈ wT := wT_t (List.mem_append_right _ (List.mem_append_right _ (List.mem_append_right _ (List.mem_append_right _ (List.mem_of_getElem? (i := 1) rfl))))) rfl
theorem k4r_30 : (Cond.instanceMethod xy_Mo_fails) ∈ wT := wT_t (List.mem_append_right _ (List.mem_append_right _ (List.mem_append_right _ (List.mem_append_right _ (List.mem_of_getElem? (i := 3) rfl))))) rfl
theorem k4r_31 : (Cond.selects "LayerDeskModel" xy_Mo_fails xy_Mo_fails) ∈ wT := wT_s (q := (xy_Mo_fails, 31)) (by decide +kernel) rfl
theorem k4r_32 : (Cond.code xy_Mo_packageOf xb_Mo_packageOf 4 (some .int)) ∈ wT := wT_t (List.mem_append_right _ (List.mem_append_right _ (List.mem_append_right _ (List.mem_append_left _ (List.mem_of_getElem? (i := 224) rfl))))) rfl
theorem k4r_33 : (Cond.methodLink "LayerDeskModel" 143 xy_Mo_packageOf) ∈ wT := wT_t (List.mem_append_right _ (List.mem_append_right _ (List.mem_append_right _ (List.mem_append_left _ (List.mem_of_getElem? (i := 221) rfl))))) rfl
theorem k4r_34 : (Cond.instanceMethod xy_Mo_packageOf) ∈ wT := wT_t (List.mem_append_right _ (List.mem_append_right _ (List.mem_append_right _ (List.mem_append_left _ (List.mem_of_getElem? (i := 223) rfl))))) rfl
theorem k4r_35 : (Cond.selects "LayerDeskModel" xy_Mo_packageOf xy_Mo_packageOf) ∈ wT := wT_s (q := (xy_Mo_packageOf, 31)) (by decide +kernel) rfl
theorem k4r_36 : (Cond.fieldLink "LayerDeskModel" 23 "LayerDeskModel" "name" "[I") ∈ wT := wT_t (List.mem_append_right _ (List.mem_append_right _ (List.mem_append_right _ (List.mem_append_left _ (List.mem_of_getElem? (i := 93) rfl))))) rfl
theorem k4r_37 : (Cond.code xy_Mo_exports xb_Mo_exports 3 (some .boolean)) ∈ wT := wT_t (List.mem_append_right _ (List.mem_append_right _ (List.mem_append_right _ (List.mem_append_right _ (List.mem_of_getElem? (i := 52) rfl))))) rfl
theorem k4r_38 : (Cond.methodLink "LayerDeskModel" 175 xy_Mo_exports) ∈ wT := wT_t (List.mem_append_right _ (List.mem_append_right _ (List.mem_append_right _ (List.mem_append_right _ (List.mem_of_getElem? (i := 49) rfl))))) rfl
theorem k4r_39 : (Cond.instanceMethod xy_Mo_exports) ∈ wT := wT_t (List.mem_append_right _ (List.mem_append_right _ (List.mem_append_right _ (List.mem_append_right _ (List.mem_of_getElem? (i := 51) rfl))))) rfl
theorem k4r_40 : (Cond.selects "LayerDeskModel" xy_Mo_exports xy_Mo_exports) ∈ wT := wT_s (q := (xy_Mo_exports, 31)) (by decide +kernel) rfl
theorem k4r_41 : (Cond.fieldLink "LayerDeskModel" 42 "LayerDeskModel" "openAll" "[Z") ∈ wT := wT_t (List.mem_append_right _ (List.mem_append_right _ (List.mem_append_right _ (List.mem_append_left _ (List.mem_of_getElem? (i := 99) rfl))))) rfl
theorem k4r_42 : (Cond.fieldLink "LayerDeskModel" 35 "LayerDeskModel" "openTo" "[I") ∈ wT := wT_t (List.mem_append_right _ (List.mem_append_right _ (List.mem_append_right _ (List.mem_append_left _ (List.mem_of_getElem? (i := 97) rfl))))) rfl
theorem k4r_43 : (Cond.code xy_Mo_isTo xb_Mo_isTo 6 (some .boolean)) ∈ wT := wT_t (List.mem_append_right _ (List.mem_append_right _ (List.mem_append_right _ (List.mem_append_right _ (List.mem_of_getElem? (i := 56) rfl))))) rfl
theorem k4r_44 : (Cond.methodLink "LayerDeskModel" 167 xy_Mo_isTo) ∈ wT := wT_t (List.mem_append_right _ (List.mem_append_right _ (List.mem_append_right _ (List.mem_append_right _ (List.mem_of_getElem? (i := 53) rfl))))) rfl
theorem k4r_45 : (Cond.instanceMethod xy_Mo_isTo) ∈ wT := wT_t (List.mem_append_right _ (List.mem_append_right _ (List.mem_append_right _ (List.mem_append_right _ (List.mem_of_getElem? (i := 55) rfl))))) rfl
theorem k4r_46 : (Cond.selects "LayerDeskModel" xy_Mo_isTo xy_Mo_isTo) ∈ wT := wT_s (q := (xy_Mo_isTo, 31)) (by decide +kernel) rfl
theorem k4r_47 : (Cond.fieldLink "LayerDeskModel" 69 "LayerDeskModel" "parent" "[I") ∈ wT := wT_t (List.mem_append_right _ (List.mem_append_right _ (List.mem_append_right _ (List.mem_append_left _ (List.mem_of_getElem? (i := 109) rfl))))) rfl
theorem k4r_48 : (Cond.fieldLink "LayerDeskModel" 75 "LayerDeskModel" "module" "[I") ∈ wT := wT_t (List.mem_append_right _ (List.mem_append_right _ (List.mem_append_right _ (List.mem_append_left _ (List.mem_of_getElem? (i := 111) rfl))))) rfl
theorem k4r_49 : (Cond.fieldLink "LayerDeskModel" 57 "LayerDeskModel" "provide" "[I") ∈ wT := wT_t (List.mem_append_right _ (List.mem_append_right _ (List.mem_append_right _ (List.mem_append_left _ (List.mem_of_getElem? (i := 104) rfl))))) rfl
theorem k4r_50 : (Cond.fieldLink "LayerDeskModel" 91 "LayerDeskModel" "written" "I") ∈ wT := wT_t (List.mem_append_right _ (List.mem_append_right _ (List.mem_append_right _ (List.mem_append_left _ (List.mem_of_getElem? (i := 87) rfl))))) rfl
theorem k4r_51 : (Cond.fieldLink "LayerDeskModel" 7 "LayerDeskModel" "text" "[C") ∈ wT := wT_t (List.mem_append_right _ (List.mem_append_right _ (List.mem_append_right _ (List.mem_append_left _ (List.mem_of_getElem? (i := 86) rfl))))) rfl
set_option maxHeartbeats 4000000 in
set_option maxRecDepth 100000 in
theorem xc_Mo_faultK (l : Launch) (D : va_G) (kA : Nat → ClassId) (sz h : Nat) (mm : Nat → Nat) (v : Nat → Int32) (g : Nat → Nat → Int32) (hMI : MI v g) : Met l xy_Mo_fault (.code xy_Mo_fault xb_Mo_fault 1 (some .int) :: wT) { frames := 0, cells := 0, slots := 0, locals := 0 } (va_Pc [.ref h] (xPre D kA sz (moW h mm kA v g))) (va_Qi (fun (r : Int32) (u : (Nat → Int32) × (Nat → Nat → Int32)) => MI u.1 u.2 ∧ u.1 2 = v 2 ∧ u.1 1 = v 1 ∧ u.1 4 = v 4 ∧ u.1 5 = v 5 ∧ ∀ j, j ≠ 1 → j ≠ 2 → j ≠ 24 → u.2 j = g j) (fun (u : (Nat → Int32) × (Nat → Nat → Int32)) t => va_P D xcl (moW h mm kA u.1 u.2) t.heap ∧ va_D (va_A (moW h mm kA v g) sz) (moW h mm kA u.1 u.2)) (va_A (moW h mm kA v g) sz)) 0 0 (va_A (moW h mm kA v g) sz) := by
  refine Met.ofW (cc := xb_Mo_fault) (maxL := 1) (ret := (some .int)) (by decide) rfl ?_
  intro p e s m args below meth c s₁ B hml hv
  obtain ⟨rfl, hsz, hP, hK, hD0⟩ := hv
  have hx := B.exec
  have hb := B.bytes
  have hr := B.returns
  have hT := x_hT B.pre
  have hown : s.vm.findClass xR_Mo = some m.cls := findClass_of_methodNamed B.named
  have hlocks := B.notSynchronized
  subst hsz
  have hD := hD0.self (sz := s.heap.size)
  generalize hAe : va_A (moW h mm kA v g) s.heap.size = A at hD ⊢
  have hA : ∀ q : Nat, s.heap.size ≤ q → A q := fun q h => by rw [← hAe]; exact Or.inr h
  have hS : va_S A s.heap s.heap [] := va_S.rf
  have hl := lv_entry ([.ref h]) (n := 1) (Nat.le_of_ble_eq_true rfl)
  rw [lg_entry_eq]
  generalize (lg_sl ([.ref h]) ++ List.replicate (1 - (lg_sl ([.ref h])).length) Slot.unset).toArray = ls at hl ⊢
  have hl : lv_has ls 1 [(0, .ref h)] := hl
  have hP : va_P D xcl (moW h mm kA v g) s.heap := hP
  refine lv_aload_n hx hb xd_Mo_fault_0 rfl (lv_at hl 0 rfl) ?_
  refine lv_iconst (v := 0) hx hb xd_Mo_fault_1 (by decide) ?_
  refine va_put (D := D) (ci := 4) (v := .int 0) (ty := .int) (C := xR_Mo) (T := xT_Mo) (N := 31) hx hb hT xi_Mo xt_Mo xt_Mo_ok xn_Mo hown hK.1 hP hD hS 0 rfl rfl 0 (by decide) (hT _ k4r_0) (fun _ h9 => h9) rfl (by decide +kernel) rfl rfl (Nat.le_of_ble_eq_true rfl) xd_Mo_fault_2 (fun H locs hP hD hS => ?_)
  have hP : va_P D xcl (moW h mm kA (va_up v 0 0) g) H := hP
  have hD : va_D A (moW h mm kA (va_up v 0 0) g) := hD
  refine lv_aload_n hx hb xd_Mo_fault_5 rfl (lv_at hl 0 rfl) ?_
  refine va_get (D := D) (ci := 4) (v := .int (v 1)) (C := xR_Mo) (T := xT_Mo) (N := 31) hx hb hT xi_Mo hown hK.1 hP 0 rfl rfl 1 (by decide) (hT _ k4r_1) (fun _ h9 => h9) rfl xd_Mo_fault_6 ?_
  exact W.iret (v := (v 1)) hx hb hr (fun t ht hW => ⟨⟨(v 1), ((va_up v 0 0), g), rfl, ⟨MI_v rfl rfl hMI, rfl, rfl, rfl, rfl, fun j h1 h2 h3 => rfl⟩, by rw [ht]; exact hP, hD⟩, hS.F ht⟩) hS.2.2 xd_Mo_fault_9
set_option maxHeartbeats 4000000 in
set_option maxRecDepth 100000 in
theorem xc_Mo_countK (l : Launch) (D : va_G) (kA : Nat → ClassId) (sz h : Nat) (mm : Nat → Nat) (v : Nat → Int32) (g : Nat → Nat → Int32) (wh : Int32) (hMI : MI v g) : Met l xy_Mo_count (.code xy_Mo_count xb_Mo_count 4 (some .int) :: wT) { frames := 0, cells := 0, slots := 0, locals := 0 } (va_Pc [.ref h, .int wh] (xPre D kA sz (moW h mm kA v g))) (va_Qi (fun (r : Int32) (u : (Nat → Int32) × (Nat → Nat → Int32)) => MI u.1 u.2 ∧ u.1 2 = v 2 ∧ u.1 1 = v 1 ∧ u.1 4 = v 4 ∧ u.1 5 = v 5 ∧ ∀ j, j ≠ 1 → j ≠ 2 → j ≠ 24 → u.2 j = g j) (fun (u : (Nat → Int32) × (Nat → Nat → Int32)) t => va_P D xcl (moW h mm kA u.1 u.2) t.heap ∧ va_D (va_A (moW h mm kA v g) sz) (moW h mm kA u.1 u.2)) (va_A (moW h mm kA v g) sz)) 0 0 (va_A (moW h mm kA v g) sz) := by
  refine Met.ofW (cc := xb_Mo_count) (maxL := 4) (ret := (some .int)) (by decide) rfl ?_
  intro p e s m args below meth c s₁ B hml hv
  obtain ⟨rfl, hsz, hP, hK, hD0⟩ := hv
  have hx := B.exec
  have hb := B.bytes
  have hr := B.returns
  have hT := x_hT B.pre
  have hown : s.vm.findClass xR_Mo = some m.cls := findClass_of_methodNamed B.named
  have hlocks := B.notSynchronized
  subst hsz
  have hD := hD0.self (sz := s.heap.size)
  generalize hAe : va_A (moW h mm kA v g) s.heap.size = A at hD ⊢
  have hA : ∀ q : Nat, s.heap.size ≤ q → A q := fun q h => by rw [← hAe]; exact Or.inr h
  have hS : va_S A s.heap s.heap [] := va_S.rf
  have hl := lv_entry ([.ref h, .int wh]) (n := 4) (Nat.le_of_ble_eq_true rfl)
  rw [lg_entry_eq]
  generalize (lg_sl ([.ref h, .int wh]) ++ List.replicate (4 - (lg_sl ([.ref h, .int wh])).length) Slot.unset).toArray = ls at hl ⊢
  have hl : lv_has ls 4 [(0, .ref h), (1, .int wh)] := hl
  have hP : va_P D xcl (moW h mm kA v g) s.heap := hP
  obtain ⟨⟨nd, hnd12, hnd⟩, ⟨nl, hnl5, hnl, hpar⟩, hch, hpk, hrq, hmd, huq⟩ := id hMI
  refine lv_aload_n hx hb xd_Mo_count_0 rfl (lv_at hl 0 rfl) ?_
  refine lv_iconst (v := 0) hx hb xd_Mo_count_1 (by decide) ?_
  refine va_put (D := D) (ci := 4) (v := .int 0) (ty := .int) (C := xR_Mo) (T := xT_Mo) (N := 31) hx hb hT xi_Mo xt_Mo xt_Mo_ok xn_Mo hown hK.1 hP hD hS 0 rfl rfl 0 (by decide) (hT _ k4r_0) (fun _ h9 => h9) rfl (by decide +kernel) rfl rfl (Nat.le_of_ble_eq_true rfl) xd_Mo_count_2 (fun H locs hP hD hS => ?_)
  have hP : va_P D xcl (moW h mm kA (va_up v 0 0) g) H := hP
  have hD : va_D A (moW h mm kA (va_up v 0 0) g) := hD
  refine lv_iconst (v := 0) hx hb xd_Mo_count_5 (by decide) ?_
  refine lv_istore_n hx hb xd_Mo_count_6 rfl hl (Nat.le_of_ble_eq_true rfl) rfl (fun ls hl => ?_)
  have hl : lv_has ls 4 [(2, .int 0), (0, .ref h), (1, .int wh)] := hl
  refine lv_iconst (v := 0) hx hb xd_Mo_count_7 (by decide) ?_
  refine lv_istore_n hx hb xd_Mo_count_8 rfl hl (Nat.le_of_ble_eq_true rfl) rfl (fun ls hl => ?_)
  have hl : lv_has ls 4 [(3, .int 0), (2, .int 0), (0, .ref h), (1, .int wh)] := hl
  refine xlab (σ := Nat × Nat) (ml := 4) 9 (fun (i3, c2) => [(3, .int (nI i3)), (2, .int (nI c2)), (0, .ref h), (1, .int wh)]) (fun (i3, c2) => []) (fun (i3, c2) => moW h mm kA (va_up v 0 0) g) (fun (i3, c2) => (i3 ≤ nl) ∧ (c2 ≤ i3)) (fun (i3, c2) => nl - i3) ?_ (0, 0) _ _ _ (lv_sub hl [0, 1, 2, 3] rfl) hP hD hS ⟨(show 0 ≤ nl from by first | assumption | omega), (show 0 ≤ 0 from by first | assumption | omega)⟩
  intro n9 ih1 a9 ls H locs hμ hl hP hD hS hI
  subst hμ
  obtain ⟨i3, c2⟩ := a9
  obtain ⟨hi3, hc2⟩ := hI
  have hi3 : i3 ≤ nl := hi3
  have hc2 : c2 ≤ i3 := hc2
  have hl : lv_has ls 4 [(3, .int (nI i3)), (2, .int (nI c2)), (0, .ref h), (1, .int wh)] := hl
  have hP : va_P D xcl (moW h mm kA (va_up v 0 0) g) H := hP
  have hD : va_D A (moW h mm kA (va_up v 0 0) g) := hD
  refine lv_iload_n hx hb xd_Mo_count_9 rfl (lv_at hl 0 rfl) ?_
  refine lv_aload_n hx hb xd_Mo_count_10 rfl (lv_at hl 2 rfl) ?_
  refine va_get (D := D) (ci := 4) (v := .int (v 5)) (C := xR_Mo) (T := xT_Mo) (N := 31) hx hb hT xi_Mo hown hK.1 hP 0 rfl rfl 23 (by decide) (hT _ k4r_2) (fun _ h9 => h9) rfl xd_Mo_count_11 ?_
  refine xn_top (x := (v 5)) (y := nI nl) hnl ?_
  refine xn_ge (a := i3) (b := nl) (tgt := 40) hx hb xd_Mo_count_14 (by decide) (by omega) (by omega) (fun hc2 => ?_) (fun hc2 => ?_)
  · refine lv_iload_n hx hb xd_Mo_count_40 rfl (lv_at hl 3 rfl) ?_
    refine lv_if_ne (tgt := 51) hx hb xd_Mo_count_41 (by decide) (fun hc3 => ?_) (fun hc3 => ?_)
    · refine lv_iload_n hx hb xd_Mo_count_51 rfl (lv_at hl 3 rfl) ?_
      refine lv_iconst (v := 1) hx hb xd_Mo_count_52 (by decide) ?_
      refine lv_icmp_ne (tgt := 63) hx hb xd_Mo_count_53 (by decide) (fun hc4 => ?_) (fun hc4 => ?_)
      · refine lv_iload_n hx hb xd_Mo_count_63 rfl (lv_at hl 3 rfl) ?_
        refine lv_iconst (v := 2) hx hb xd_Mo_count_64 (by decide) ?_
        refine lv_icmp_ne (tgt := 72) hx hb xd_Mo_count_65 (by decide) (fun hc5 => ?_) (fun hc5 => ?_)
        · refine lv_iconst (v := (-1)) hx hb xd_Mo_count_72 (by decide) ?_
          exact W.iret (v := (-1)) hx hb hr (fun t ht hW => ⟨⟨(-1), ((va_up v 0 0), g), rfl, ⟨MI_v rfl rfl hMI, rfl, rfl, rfl, rfl, fun j h1 h2 h3 => rfl⟩, by rw [ht]; exact hP, hD⟩, hS.F ht⟩) hS.2.2 xd_Mo_count_73
        · refine lv_iload_n hx hb xd_Mo_count_68 rfl (lv_at hl 1 rfl) ?_
          refine lv_goto (tgt := 73) hx hb xd_Mo_count_69 (by decide) ?_
          exact W.iret (v := (nI c2)) hx hb hr (fun t ht hW => ⟨⟨(nI c2), ((va_up v 0 0), g), rfl, ⟨MI_v rfl rfl hMI, rfl, rfl, rfl, rfl, fun j h1 h2 h3 => rfl⟩, by rw [ht]; exact hP, hD⟩, hS.F ht⟩) hS.2.2 xd_Mo_count_73
      · refine lv_aload_n hx hb xd_Mo_count_56 rfl (lv_at hl 2 rfl) ?_
        refine va_get (D := D) (ci := 4) (v := .int (v 5)) (C := xR_Mo) (T := xT_Mo) (N := 31) hx hb hT xi_Mo hown hK.1 hP 0 rfl rfl 23 (by decide) (hT _ k4r_2) (fun _ h9 => h9) rfl xd_Mo_count_57 ?_
        refine xn_top (x := (v 5)) (y := nI nl) hnl ?_
        refine lv_goto (tgt := 73) hx hb xd_Mo_count_60 (by decide) ?_
        exact W.iret (v := (nI nl)) hx hb hr (fun t ht hW => ⟨⟨(nI nl), ((va_up v 0 0), g), rfl, ⟨MI_v rfl rfl hMI, rfl, rfl, rfl, rfl, fun j h1 h2 h3 => rfl⟩, by rw [ht]; exact hP, hD⟩, hS.F ht⟩) hS.2.2 xd_Mo_count_73
    · refine lv_aload_n hx hb xd_Mo_count_44 rfl (lv_at hl 2 rfl) ?_
      refine va_get (D := D) (ci := 4) (v := .int (v 4)) (C := xR_Mo) (T := xT_Mo) (N := 31) hx hb hT xi_Mo hown hK.1 hP 0 rfl rfl 7 (by decide) (hT _ k4r_3) (fun _ h9 => h9) rfl xd_Mo_count_45 ?_
      refine xn_top (x := (v 4)) (y := nI nd) hnd ?_
      refine lv_goto (tgt := 73) hx hb xd_Mo_count_48 (by decide) ?_
      exact W.iret (v := (nI nd)) hx hb hr (fun t ht hW => ⟨⟨(nI nd), ((va_up v 0 0), g), rfl, ⟨MI_v rfl rfl hMI, rfl, rfl, rfl, rfl, fun j h1 h2 h3 => rfl⟩, by rw [ht]; exact hP, hD⟩, hS.F ht⟩) hS.2.2 xd_Mo_count_73
  · refine lv_aload_n hx hb xd_Mo_count_17 rfl (lv_at hl 2 rfl) ?_
    refine va_get (D := D) (ci := 4) (v := .ref (mm 22)) (C := xR_Mo) (T := xT_Mo) (N := 31) hx hb hT xi_Mo hown hK.1 hP 0 rfl rfl 28 (by decide) (hT _ k4r_4) (fun _ h9 => h9) rfl xd_Mo_count_18 ?_
    refine lv_iload_n hx hb xd_Mo_count_21 rfl (lv_at hl 0 rfl) ?_
    refine xn_zald (i := i3) hx hb hK.1 hP 23 2 rfl rfl (by omega) (by decide) xd_Mo_count_22 ?_
    refine lv_if_eq (tgt := 32) hx hb xd_Mo_count_23 (by decide) (fun hc6 => ?_) (fun hc6 => ?_)
    · refine lv_iload_n hx hb xd_Mo_count_32 rfl (lv_at hl 1 rfl) ?_
      refine lv_istore_n hx hb xd_Mo_count_33 rfl hl (Nat.le_of_ble_eq_true rfl) rfl (fun ls hl => ?_)
      have hl : lv_has ls 4 [(2, .int (nI c2)), (3, .int (nI i3)), (0, .ref h), (1, .int wh)] := hl
      refine lv_iinc (k := 1) (x := (nI i3)) (v := (nI (i3 + 1))) hx hb xd_Mo_count_34 hl rfl (xb_inc i3 1) (Nat.le_of_ble_eq_true rfl) rfl (fun ls hl => ?_)
      have hl : lv_has ls 4 [(3, .int (nI (i3 + 1))), (2, .int (nI c2)), (0, .ref h), (1, .int wh)] := hl
      refine lv_goto (tgt := 9) hx hb xd_Mo_count_37 (by decide) ?_
      exact ih1 (i3 + 1, c2) _ _ _ (show nl - (i3 + 1) < nl - i3 by omega) (lv_sub hl [0, 1, 2, 3] rfl) hP hD hS ⟨(show (i3 + 1) ≤ nl from by first | assumption | omega), (show c2 ≤ (i3 + 1) from by first | assumption | omega)⟩
    · refine lv_iload_n hx hb xd_Mo_count_26 rfl (lv_at hl 1 rfl) ?_
      refine lv_iconst (v := 1) hx hb xd_Mo_count_27 (by decide) ?_
      refine lv_iadd hx hb xd_Mo_count_28 ?_
      refine xn_top (y := nI (c2 + 1)) (nI_add c2 1) ?_
      refine lv_goto (tgt := 33) hx hb xd_Mo_count_29 (by decide) ?_
      refine lv_istore_n hx hb xd_Mo_count_33 rfl hl (Nat.le_of_ble_eq_true rfl) rfl (fun ls hl => ?_)
      have hl : lv_has ls 4 [(2, .int (nI (c2 + 1))), (3, .int (nI i3)), (0, .ref h), (1, .int wh)] := hl
      refine lv_iinc (k := 1) (x := (nI i3)) (v := (nI (i3 + 1))) hx hb xd_Mo_count_34 hl rfl (xb_inc i3 1) (Nat.le_of_ble_eq_true rfl) rfl (fun ls hl => ?_)
      have hl : lv_has ls 4 [(3, .int (nI (i3 + 1))), (2, .int (nI (c2 + 1))), (0, .ref h), (1, .int wh)] := hl
      refine lv_goto (tgt := 9) hx hb xd_Mo_count_37 (by decide) ?_
      exact ih1 (i3 + 1, c2 + 1) _ _ _ (show nl - (i3 + 1) < nl - i3 by omega) (lv_sub hl [0, 1, 2, 3] rfl) hP hD hS ⟨(show (i3 + 1) ≤ nl from by first | assumption | omega), (show (c2 + 1) ≤ (i3 + 1) from by first | assumption | omega)⟩
set_option maxHeartbeats 4000000 in
set_option maxRecDepth 100000 in
theorem xc_Mo_modulesK (l : Launch) (D : va_G) (kA : Nat → ClassId) (sz h : Nat) (mm : Nat → Nat) (v : Nat → Int32) (g : Nat → Nat → Int32) (ly : Int32) (hMI : MI v g) : Met l xy_Mo_modules (.code xy_Mo_modules xb_Mo_modules 2 (some .int) :: wT) { frames := 1, cells := 0, slots := 0, locals := 21 } (va_Pc [.ref h, .int ly] (xPre D kA sz (moW h mm kA v g))) (va_Qi (fun (r : Int32) (u : (Nat → Int32) × (Nat → Nat → Int32)) => MI u.1 u.2 ∧ u.1 2 = v 2 ∧ u.1 1 = v 1 ∧ u.1 4 = v 4 ∧ u.1 5 = v 5 ∧ ∀ j, j ≠ 1 → j ≠ 2 → j ≠ 24 → u.2 j = g j) (fun (u : (Nat → Int32) × (Nat → Nat → Int32)) t => va_P D xcl (moW h mm kA u.1 u.2) t.heap ∧ va_D (va_A (moW h mm kA v g) sz) (moW h mm kA u.1 u.2)) (va_A (moW h mm kA v g) sz)) 0 0 (va_A (moW h mm kA v g) sz) := by
  refine Met.ofW (cc := xb_Mo_modules) (maxL := 2) (ret := (some .int)) (by decide) rfl ?_
  intro p e s m args below meth c s₁ B hml hv
  obtain ⟨rfl, hsz, hP, hK, hD0⟩ := hv
  have hx := B.exec
  have hb := B.bytes
  have hr := B.returns
  have hT := x_hT B.pre
  have hown : s.vm.findClass xR_Mo = some m.cls := findClass_of_methodNamed B.named
  have hlocks := B.notSynchronized
  subst hsz
  have hD := hD0.self (sz := s.heap.size)
  generalize hAe : va_A (moW h mm kA v g) s.heap.size = A at hD ⊢
  have hA : ∀ q : Nat, s.heap.size ≤ q → A q := fun q h => by rw [← hAe]; exact Or.inr h
  have hS : va_S A s.heap s.heap [] := va_S.rf
  have hl := lv_entry ([.ref h, .int ly]) (n := 2) (Nat.le_of_ble_eq_true rfl)
  rw [lg_entry_eq]
  generalize (lg_sl ([.ref h, .int ly]) ++ List.replicate (2 - (lg_sl ([.ref h, .int ly])).length) Slot.unset).toArray = ls at hl ⊢
  have hl : lv_has ls 2 [(0, .ref h), (1, .int ly)] := hl
  have hP : va_P D xcl (moW h mm kA v g) s.heap := hP
  obtain ⟨⟨nd, hnd12, hnd⟩, ⟨nl, hnl5, hnl, hpar⟩, hch, hpk, hrq, hmd, huq⟩ := id hMI
  refine lv_aload_n hx hb xd_Mo_modules_0 rfl (lv_at hl 0 rfl) ?_
  refine lv_iconst (v := 0) hx hb xd_Mo_modules_1 (by decide) ?_
  refine va_put (D := D) (ci := 4) (v := .int 0) (ty := .int) (C := xR_Mo) (T := xT_Mo) (N := 31) hx hb hT xi_Mo xt_Mo xt_Mo_ok xn_Mo hown hK.1 hP hD hS 0 rfl rfl 0 (by decide) (hT _ k4r_0) (fun _ h9 => h9) rfl (by decide +kernel) rfl rfl (Nat.le_of_ble_eq_true rfl) xd_Mo_modules_2 (fun H locs hP hD hS => ?_)
  have hP : va_P D xcl (moW h mm kA (va_up v 0 0) g) H := hP
  have hD : va_D A (moW h mm kA (va_up v 0 0) g) := hD
  refine lv_aload_n hx hb xd_Mo_modules_5 rfl (lv_at hl 0 rfl) ?_
  refine lv_iload_n hx hb xd_Mo_modules_6 rfl (lv_at hl 1 rfl) ?_
  have hFc := va_free (wc := (moW h mm kA (va_up v 0 0) g)) hD hS hA [0, 1, 2, 3, 4, 5, 6, 7, 8, 9, 10, 11, 12, 13, 14, 15, 16, 17, 18, 19, 20, 21, 22, 23, 24, 25] rfl
  refine va_calli (va_runV (As := [.int ly]) (rest := []) ⟨hx, hb, hml, hown, hT⟩ (xc_Mo_isOpen l D kA H.size h mm (va_up v 0 0) g ly nl (by first | assumption | omega) (by first | assumption | omega)) (cwV 1 hT (wT_V k4r_6 k4r_7 k4r_8 k4r_9 k4r_5) rfl rfl rfl (by decide +kernel) ⟨Nat.le_of_ble_eq_true rfl, Nat.le_of_ble_eq_true rfl⟩) (x_preV hK hP hD 0 rfl rfl) rfl rfl hl.1 rfl (lv_room (Nat.le_of_ble_eq_true rfl)) xd_Mo_modules_7 ⟨Nat.le_of_ble_eq_true rfl, Nat.le_of_ble_eq_true rfl⟩) hS (fun q _ h => hFc q h) hFc (fun r1 u2 t H1 locs ht hvm hp3 hB hz1 hk1 hS => ?_)
  obtain ⟨hP1, hD1⟩ := hB
  rw [ht] at hP1
  have hD1 := hD1.weaken (fun _ _ _ h => hFc _ h)
  generalize H1 = H at hP1 hS ⊢
  have hP := hP1
  have hD := hD1
  have hP : va_P D xcl (moW h mm kA (va_up v 0 0) g) H := hP
  have hD : va_D A (moW h mm kA (va_up v 0 0) g) := hD
  rcases hp3 with rfl | ⟨rfl, z4, z5, rfl⟩
  · refine xz_eq (a := 0) (tgt := 22) hx hb xd_Mo_modules_10 (by decide) (by omega) (fun _ => ?_) (fun hc6 => absurd hc6 (by omega))
    refine lv_iconst (v := (-1)) hx hb xd_Mo_modules_22 (by decide) ?_
    exact W.iret (v := (-1)) hx hb hr (fun t ht hW => ⟨⟨(-1), ((va_up v 0 0), g), rfl, ⟨MI_v rfl rfl hMI, rfl, rfl, rfl, rfl, fun j h1 h2 h3 => rfl⟩, by rw [ht]; exact hP, hD⟩, hS.F ht⟩) hS.2.2 xd_Mo_modules_23
  · have hl : lv_has ls 2 [(0, .ref h), (1, .int (nI z4))] := hl
    refine xz_eq (a := 1) (tgt := 22) hx hb xd_Mo_modules_10 (by decide) (by omega) (fun hc7 => absurd hc7 (by omega)) (fun _ => ?_)
    refine lv_aload_n hx hb xd_Mo_modules_13 rfl (lv_at hl 0 rfl) ?_
    refine va_get (D := D) (ci := 4) (v := .ref (mm 20)) (C := xR_Mo) (T := xT_Mo) (N := 31) hx hb hT xi_Mo hown hK.1 hP 0 rfl rfl 26 (by decide) (hT _ k4r_10) (fun _ h9 => h9) rfl xd_Mo_modules_14 ?_
    refine lv_iload_n hx hb xd_Mo_modules_17 rfl (lv_at hl 1 rfl) ?_
    refine xn_iald (i := z4) hx hb hK.1 hP 21 0 rfl rfl (by omega) (by decide) xd_Mo_modules_18 ?_
    refine lv_goto (tgt := 23) hx hb xd_Mo_modules_19 (by decide) ?_
    exact W.iret (v := (g 20 z4)) hx hb hr (fun t ht hW => ⟨⟨(g 20 z4), ((va_up v 0 0), g), rfl, ⟨MI_v rfl rfl hMI, rfl, rfl, rfl, rfl, fun j h1 h2 h3 => rfl⟩, by rw [ht]; exact hP, hD⟩, hS.F ht⟩) hS.2.2 xd_Mo_modules_23
set_option maxHeartbeats 4000000 in
set_option maxRecDepth 100000 in
theorem xc_Mo_moduleK (l : Launch) (D : va_G) (kA : Nat → ClassId) (sz h : Nat) (mm : Nat → Nat) (v : Nat → Int32) (g : Nat → Nat → Int32) (ly : Int32) (kx : Int32) (hMI : MI v g) : Met l xy_Mo_module (.code xy_Mo_module xb_Mo_module 3 (some .int) :: wT) { frames := 2, cells := 0, slots := 0, locals := 43 } (va_Pc [.ref h, .int ly, .int kx] (xPre D kA sz (moW h mm kA v g))) (va_Qi (fun (r : Int32) (u : (Nat → Int32) × (Nat → Nat → Int32)) => MI u.1 u.2 ∧ u.1 2 = v 2 ∧ u.1 1 = v 1 ∧ u.1 4 = v 4 ∧ u.1 5 = v 5 ∧ ∀ j, j ≠ 1 → j ≠ 2 → j ≠ 24 → u.2 j = g j) (fun (u : (Nat → Int32) × (Nat → Nat → Int32)) t => va_P D xcl (moW h mm kA u.1 u.2) t.heap ∧ va_D (va_A (moW h mm kA v g) sz) (moW h mm kA u.1 u.2)) (va_A (moW h mm kA v g) sz)) 0 0 (va_A (moW h mm kA v g) sz) := by
  refine Met.ofW (cc := xb_Mo_module) (maxL := 3) (ret := (some .int)) (by decide) rfl ?_
  intro p e s m args below meth c s₁ B hml hv
  obtain ⟨rfl, hsz, hP, hK, hD0⟩ := hv
  have hx := B.exec
  have hb := B.bytes
  have hr := B.returns
  have hT := x_hT B.pre
  have hown : s.vm.findClass xR_Mo = some m.cls := findClass_of_methodNamed B.named
  have hlocks := B.notSynchronized
  subst hsz
  have hD := hD0.self (sz := s.heap.size)
  generalize hAe : va_A (moW h mm kA v g) s.heap.size = A at hD ⊢
  have hA : ∀ q : Nat, s.heap.size ≤ q → A q := fun q h => by rw [← hAe]; exact Or.inr h
  have hS : va_S A s.heap s.heap [] := va_S.rf
  have hl := lv_entry ([.ref h, .int ly, .int kx]) (n := 3) (Nat.le_of_ble_eq_true rfl)
  rw [lg_entry_eq]
  generalize (lg_sl ([.ref h, .int ly, .int kx]) ++ List.replicate (3 - (lg_sl ([.ref h, .int ly, .int kx])).length) Slot.unset).toArray = ls at hl ⊢
  have hl : lv_has ls 3 [(0, .ref h), (1, .int ly), (2, .int kx)] := hl
  have hP : va_P D xcl (moW h mm kA v g) s.heap := hP
  obtain ⟨⟨nd, hnd12, hnd⟩, ⟨nl, hnl5, hnl, hpar⟩, hch, hpk, hrq, hmd, huq⟩ := id hMI
  refine lv_aload_n hx hb xd_Mo_module_0 rfl (lv_at hl 0 rfl) ?_
  refine lv_iconst (v := 0) hx hb xd_Mo_module_1 (by decide) ?_
  refine va_put (D := D) (ci := 4) (v := .int 0) (ty := .int) (C := xR_Mo) (T := xT_Mo) (N := 31) hx hb hT xi_Mo xt_Mo xt_Mo_ok xn_Mo hown hK.1 hP hD hS 0 rfl rfl 0 (by decide) (hT _ k4r_0) (fun _ h9 => h9) rfl (by decide +kernel) rfl rfl (Nat.le_of_ble_eq_true rfl) xd_Mo_module_2 (fun H locs hP hD hS => ?_)
  have hP : va_P D xcl (moW h mm kA (va_up v 0 0) g) H := hP
  have hD : va_D A (moW h mm kA (va_up v 0 0) g) := hD
  refine lv_aload_n hx hb xd_Mo_module_5 rfl (lv_at hl 0 rfl) ?_
  refine lv_iload_n hx hb xd_Mo_module_6 rfl (lv_at hl 1 rfl) ?_
  refine lv_iload_n hx hb xd_Mo_module_7 rfl (lv_at hl 2 rfl) ?_
  have hFc := va_free (wc := (moW h mm kA (va_up v 0 0) g)) hD hS hA [0, 1, 2, 3, 4, 5, 6, 7, 8, 9, 10, 11, 12, 13, 14, 15, 16, 17, 18, 19, 20, 21, 22, 23, 24, 25] rfl
  refine va_calli (va_runV (As := [.int ly, .int kx]) (rest := []) ⟨hx, hb, hml, hown, hT⟩ (xc_Mo_moduleOf l D kA H.size h mm (va_up v 0 0) g ly kx nl (by first | assumption | omega) (by first | assumption | omega) (by first | assumption | omega)) (cwV 2 hT (wT_V k4r_12 k4r_13 k4r_14 k4r_9 k4r_11) rfl rfl rfl (by decide +kernel) ⟨Nat.le_of_ble_eq_true rfl, Nat.le_of_ble_eq_true rfl⟩) (x_preV hK hP hD 0 rfl rfl) rfl rfl hl.1 rfl (lv_room (Nat.le_of_ble_eq_true rfl)) xd_Mo_module_8 ⟨Nat.le_of_ble_eq_true rfl, Nat.le_of_ble_eq_true rfl⟩) hS (fun q _ h => hFc q h) hFc (fun r1 u2 t H1 locs ht hvm hp3 hB hz1 hk1 hS => ?_)
  obtain ⟨hP1, hD1⟩ := hB
  rw [ht] at hP1
  have hD1 := hD1.weaken (fun _ _ _ h => hFc _ h)
  generalize H1 = H at hP1 hS ⊢
  have hP := hP1
  have hD := hD1
  have hP : va_P D xcl (moW h mm kA (va_up v 0 0) g) H := hP
  have hD : va_D A (moW h mm kA (va_up v 0 0) g) := hD
  exact W.iret (v := r1) hx hb hr (fun t ht hW => ⟨⟨r1, ((va_up v 0 0), g), rfl, ⟨MI_v rfl rfl hMI, rfl, rfl, rfl, rfl, fun j h1 h2 h3 => rfl⟩, by rw [ht]; exact hP, hD⟩, hS.F ht⟩) hS.2.2 xd_Mo_module_11
set_option maxHeartbeats 4000000 in
set_option maxRecDepth 100000 in
theorem xc_Mo_readsK (l : Launch) (D : va_G) (kA : Nat → ClassId) (sz h : Nat) (mm : Nat → Nat) (v : Nat → Int32) (g : Nat → Nat → Int32) (ly : Int32) (kx : Int32) (ly2 : Int32) (dx : Int32) (hMI : MI v g) : Met l xy_Mo_reads (.code xy_Mo_reads xb_Mo_reads 6 (some .boolean) :: wT) { frames := 2, cells := 0, slots := 0, locals := 50 } (va_Pc [.ref h, .int ly, .int kx, .int ly2, .int dx] (xPre D kA sz (moW h mm kA v g))) (va_Qi (fun (r : Int32) (u : (Nat → Int32) × (Nat → Nat → Int32)) => MI u.1 u.2 ∧ u.1 2 = v 2 ∧ u.1 1 = v 1 ∧ u.1 4 = v 4 ∧ u.1 5 = v 5 ∧ ∀ j, j ≠ 1 → j ≠ 2 → j ≠ 24 → u.2 j = g j) (fun (u : (Nat → Int32) × (Nat → Nat → Int32)) t => va_P D xcl (moW h mm kA u.1 u.2) t.heap ∧ va_D (va_A (moW h mm kA v g) sz) (moW h mm kA u.1 u.2)) (va_A (moW h mm kA v g) sz)) 0 0 (va_A (moW h mm kA v g) sz) := by
  refine Met.ofW (cc := xb_Mo_reads) (maxL := 6) (ret := (some .boolean)) (by decide) rfl ?_
  intro p e s m args below meth c s₁ B hml hv
  obtain ⟨rfl, hsz, hP, hK, hD0⟩ := hv
  have hx := B.exec
  have hb := B.bytes
  have hr := B.returns
  have hT := x_hT B.pre
  have hown : s.vm.findClass xR_Mo = some m.cls := findClass_of_methodNamed B.named
  have hlocks := B.notSynchronized
  subst hsz
  have hD := hD0.self (sz := s.heap.size)
  generalize hAe : va_A (moW h mm kA v g) s.heap.size = A at hD ⊢
  have hA : ∀ q : Nat, s.heap.size ≤ q → A q := fun q h => by rw [← hAe]; exact Or.inr h
  have hS : va_S A s.heap s.heap [] := va_S.rf
  have hl := lv_entry ([.ref h, .int ly, .int kx, .int ly2, .int dx]) (n := 6) (Nat.le_of_ble_eq_true rfl)
  rw [lg_entry_eq]
  generalize (lg_sl ([.ref h, .int ly, .int kx, .int ly2, .int dx]) ++ List.replicate (6 - (lg_sl ([.ref h, .int ly, .int kx, .int ly2, .int dx])).length) Slot.unset).toArray = ls at hl ⊢
  have hl : lv_has ls 6 [(0, .ref h), (1, .int ly), (2, .int kx), (3, .int ly2), (4, .int dx)] := hl
  have hP : va_P D xcl (moW h mm kA v g) s.heap := hP
  obtain ⟨⟨nd, hnd12, hnd⟩, ⟨nl, hnl5, hnl, hpar⟩, hch, hpk, hrq, hmd, huq⟩ := id hMI
  refine lv_aload_n hx hb xd_Mo_reads_0 rfl (lv_at hl 0 rfl) ?_
  refine lv_iconst (v := 0) hx hb xd_Mo_reads_1 (by decide) ?_
  refine va_put (D := D) (ci := 4) (v := .int 0) (ty := .int) (C := xR_Mo) (T := xT_Mo) (N := 31) hx hb hT xi_Mo xt_Mo xt_Mo_ok xn_Mo hown hK.1 hP hD hS 0 rfl rfl 0 (by decide) (hT _ k4r_0) (fun _ h9 => h9) rfl (by decide +kernel) rfl rfl (Nat.le_of_ble_eq_true rfl) xd_Mo_reads_2 (fun H locs hP hD hS => ?_)
  have hP : va_P D xcl (moW h mm kA (va_up v 0 0) g) H := hP
  have hD : va_D A (moW h mm kA (va_up v 0 0) g) := hD
  refine lv_aload_n hx hb xd_Mo_reads_5 rfl (lv_at hl 0 rfl) ?_
  refine lv_iload_n hx hb xd_Mo_reads_6 rfl (lv_at hl 1 rfl) ?_
  refine lv_iload_n hx hb xd_Mo_reads_7 rfl (lv_at hl 2 rfl) ?_
  have hFc := va_free (wc := (moW h mm kA (va_up v 0 0) g)) hD hS hA [0, 1, 2, 3, 4, 5, 6, 7, 8, 9, 10, 11, 12, 13, 14, 15, 16, 17, 18, 19, 20, 21, 22, 23, 24, 25] rfl
  refine va_calli (va_runV (As := [.int ly, .int kx]) (rest := []) ⟨hx, hb, hml, hown, hT⟩ (xc_Mo_moduleOf l D kA H.size h mm (va_up v 0 0) g ly kx nl (by first | assumption | omega) (by first | assumption | omega) (by first | assumption | omega)) (cwV 2 hT (wT_V k4r_12 k4r_13 k4r_14 k4r_9 k4r_11) rfl rfl rfl (by decide +kernel) ⟨Nat.le_of_ble_eq_true rfl, Nat.le_of_ble_eq_true rfl⟩) (x_preV hK hP hD 0 rfl rfl) rfl rfl hl.1 rfl (lv_room (Nat.le_of_ble_eq_true rfl)) xd_Mo_reads_8 ⟨Nat.le_of_ble_eq_true rfl, Nat.le_of_ble_eq_true rfl⟩) hS (fun q _ h => hFc q h) hFc (fun r1 u2 t H1 locs ht hvm hp3 hB hz1 hk1 hS => ?_)
  obtain ⟨hP1, hD1⟩ := hB
  rw [ht] at hP1
  have hD1 := hD1.weaken (fun _ _ _ h => hFc _ h)
  generalize H1 = H at hP1 hS ⊢
  have hP := hP1
  have hD := hD1
  have hP : va_P D xcl (moW h mm kA (va_up v 0 0) g) H := hP
  have hD : va_D A (moW h mm kA (va_up v 0 0) g) := hD
  rcases hp3 with rfl | ⟨z4, z5, z6, rfl, z7, rfl⟩
  · refine lv_istore hx hb xd_Mo_reads_11 hl (Nat.le_of_ble_eq_true rfl) rfl (fun ls hl => ?_)
    have hl : lv_has ls 6 [(5, .int (-1)), (0, .ref h), (1, .int ly), (2, .int kx), (3, .int ly2), (4, .int dx)] := hl
    refine lv_iload hx hb xd_Mo_reads_13 (lv_at hl 0 rfl) ?_
    refine lv_if_lt (tgt := 28) hx hb xd_Mo_reads_15 (by decide) (fun _ => ?_) (fun hc8 => absurd hc8 (by decide))
    refine lv_iconst (v := 0) hx hb xd_Mo_reads_28 (by decide) ?_
    exact W.zret (v := 0) hx hb hr rfl (fun t ht hW => ⟨⟨0, ((va_up v 0 0), g), rfl, ⟨MI_v rfl rfl hMI, rfl, rfl, rfl, rfl, fun j h1 h2 h3 => rfl⟩, by rw [ht]; exact hP, hD⟩, hS.F ht⟩) hS.2.2 xd_Mo_reads_29
  · have hl : lv_has ls 6 [(0, .ref h), (1, .int (nI z4)), (2, .int kx), (3, .int ly2), (4, .int dx)] := hl
    refine lv_istore hx hb xd_Mo_reads_11 hl (Nat.le_of_ble_eq_true rfl) rfl (fun ls hl => ?_)
    have hl : lv_has ls 6 [(5, .int (nI z5)), (0, .ref h), (1, .int (nI z4)), (2, .int kx), (3, .int ly2), (4, .int dx)] := hl
    refine lv_iload hx hb xd_Mo_reads_13 (lv_at hl 0 rfl) ?_
    refine xz_lt (a := z5) (tgt := 28) hx hb xd_Mo_reads_15 (by decide) (by omega) ?_
    refine lv_aload_n hx hb xd_Mo_reads_18 rfl (lv_at hl 1 rfl) ?_
    refine lv_iload_n hx hb xd_Mo_reads_19 rfl (lv_at hl 4 rfl) ?_
    refine lv_iload hx hb xd_Mo_reads_20 (lv_at hl 5 rfl) ?_
    have hFc := va_free (wc := (moW h mm kA (va_up v 0 0) g)) hD hS hA [0, 1, 2, 3, 4, 5, 6, 7, 8, 9, 10, 11, 12, 13, 14, 15, 16, 17, 18, 19, 20, 21, 22, 23, 24, 25] rfl
    refine va_calli (va_runV (As := [.int ly2, .int dx]) (rest := []) ⟨hx, hb, hml, hown, hT⟩ (xc_Mo_isThere l D kA H.size h mm (va_up v 0 0) g ly2 dx nl nd (by first | assumption | omega) (by first | assumption | omega) (by first | assumption | omega) (by first | assumption | omega) (by first | assumption | omega)) (cwV 2 hT (wT_V k4r_16 k4r_17 k4r_18 k4r_9 k4r_15) rfl rfl rfl (by decide +kernel) ⟨Nat.le_of_ble_eq_true rfl, Nat.le_of_ble_eq_true rfl⟩) (x_preV hK hP hD 0 rfl rfl) rfl rfl hl.1 rfl (lv_room (Nat.le_of_ble_eq_true rfl)) xd_Mo_reads_22 ⟨Nat.le_of_ble_eq_true rfl, Nat.le_of_ble_eq_true rfl⟩) hS (fun q _ h => hFc q h) hFc (fun r10 u11 t H1 locs ht hvm hp12 hB hz1 hk1 hS => ?_)
    obtain ⟨hP1, hD1⟩ := hB
    rw [ht] at hP1
    have hD1 := hD1.weaken (fun _ _ _ h => hFc _ h)
    generalize H1 = H at hP1 hS ⊢
    have hP := hP1
    have hD := hD1
    have hP : va_P D xcl (moW h mm kA (va_up v 0 0) g) H := hP
    have hD : va_D A (moW h mm kA (va_up v 0 0) g) := hD
    rcases hp12 with rfl | ⟨rfl, z13, z14, z15, rfl, z16, rfl⟩
    · refine xz_ne (a := 0) (tgt := 30) hx hb xd_Mo_reads_25 (by decide) (by omega) (fun hc17 => absurd hc17 (by omega)) (fun _ => ?_)
      refine lv_iconst (v := 0) hx hb xd_Mo_reads_28 (by decide) ?_
      exact W.zret (v := 0) hx hb hr rfl (fun t ht hW => ⟨⟨0, ((va_up v 0 0), g), rfl, ⟨MI_v rfl rfl hMI, rfl, rfl, rfl, rfl, fun j h1 h2 h3 => rfl⟩, by rw [ht]; exact hP, hD⟩, hS.F ht⟩) hS.2.2 xd_Mo_reads_29
    · have hl : lv_has ls 6 [(5, .int (nI z5)), (0, .ref h), (1, .int (nI z4)), (2, .int kx), (3, .int (nI z13)), (4, .int (nI z14))] := hl
      refine xz_ne (a := 1) (tgt := 30) hx hb xd_Mo_reads_25 (by decide) (by omega) (fun _ => ?_) (fun hc18 => absurd hc18 (by omega))
      refine lv_aload_n hx hb xd_Mo_reads_30 rfl (lv_at hl 1 rfl) ?_
      refine lv_iload_n hx hb xd_Mo_reads_31 rfl (lv_at hl 2 rfl) ?_
      refine lv_iload hx hb xd_Mo_reads_32 (lv_at hl 0 rfl) ?_
      have hFc := va_free (wc := (moW h mm kA (va_up v 0 0) g)) hD hS hA [0, 1, 2, 3, 4, 5, 6, 7, 8, 9, 10, 11, 12, 13, 14, 15, 16, 17, 18, 19, 20, 21, 22, 23, 24, 25] rfl
      refine va_callv (va_runV (As := [.int (nI z4), .int (nI z5)]) (rest := []) ⟨hx, hb, hml, hown, hT⟩ (xc_Mo_reading l D kA H.size h mm (va_up v 0 0) g z4 z5 nl (MI_v rfl rfl hMI) (by first | assumption | omega) hpar (by first | assumption | omega) (by first | assumption | omega)) (cwV 2 hT (wT_V k4r_20 k4r_21 k4r_22 k4r_9 k4r_19) rfl rfl rfl (by decide +kernel) ⟨Nat.le_of_ble_eq_true rfl, Nat.le_of_ble_eq_true rfl⟩) (x_preV hK hP hD 0 rfl rfl) rfl rfl hl.1 rfl (lv_room (Nat.le_of_ble_eq_true rfl)) xd_Mo_reads_34 ⟨Nat.le_of_ble_eq_true rfl, Nat.le_of_ble_eq_true rfl⟩) hS (fun q _ h => hFc q h) hFc (fun u20 t H1 locs ht hvm hp21 hB hz1 hk1 hS => ?_)
      obtain ⟨hP1, hD1⟩ := hB
      rw [ht] at hP1
      have hD1 := hD1.weaken (fun _ _ _ h => hFc _ h)
      obtain ⟨v22, g23⟩ := u20
      generalize H1 = H at hP1 hS ⊢
      have hP := hP1
      have hD := hD1
      have hP : va_P D xcl (moW h mm kA v22 g23) H := hP
      have hD : va_D A (moW h mm kA v22 g23) := hD
      obtain ⟨hu9, hfr9, hbz9, hsn9⟩ := hp21
      have hu9 : v22 = (va_up v 0 0) := hu9
      subst hu9
      have hfr9 : ∀ j, j ≠ 24 → g23 j = g j := hfr9
      have hbz9 : bz (g23 24) := hbz9
      have hP : va_P D xcl (moW h mm kA (va_up v 0 0) g23) H := hP
      have hD : va_D A (moW h mm kA (va_up v 0 0) g23) := hD
      refine lv_aload_n hx hb xd_Mo_reads_37 rfl (lv_at hl 1 rfl) ?_
      refine va_get (D := D) (ci := 4) (v := .ref (mm 24)) (C := xR_Mo) (T := xT_Mo) (N := 31) hx hb hT xi_Mo hown hK.1 hP 0 rfl rfl 30 (by decide) (hT _ k4r_23) (fun _ h9 => h9) rfl xd_Mo_reads_38 ?_
      refine lv_bipush (v := 12) hx hb xd_Mo_reads_41 (by decide) ?_
      refine lv_iload_n hx hb xd_Mo_reads_43 rfl (lv_at hl 4 rfl) ?_
      refine lv_imul hx hb xd_Mo_reads_44 ?_
      refine xn_top (y := nI (12 * z13)) (pk_mul 12 z13) ?_
      refine lv_iload hx hb xd_Mo_reads_45 (lv_at hl 5 rfl) ?_
      refine lv_iadd hx hb xd_Mo_reads_47 ?_
      refine xn_top (y := nI ((12 * z13) + z14)) (nI_add (12 * z13) z14) ?_
      refine xn_zald (i := (12 * z13) + z14) hx hb hK.1 hP 25 2 rfl rfl (by omega) (by decide) xd_Mo_reads_48 ?_
      exact W.zret (v := (g23 24 ((12 * z13) + z14))) hx hb hr (hbz9 _ (by omega)) (fun t ht hW => ⟨⟨(g23 24 ((12 * z13) + z14)), ((va_up v 0 0), g23), rfl, ⟨MI_g (hfr9 0 (by decide)) (hfr9 3 (by decide)) (hfr9 4 (by decide)) (hfr9 5 (by decide)) (hfr9 12 (by decide)) (hfr9 19 (by decide)) (hfr9 20 (by decide)) (hfr9 21 (by decide)) (MI_v rfl rfl hMI), rfl, rfl, rfl, rfl, fun j h1 h2 h3 => hfr9 j h3⟩, by rw [ht]; exact hP, hD⟩, hS.F ht⟩) hS.2.2 xd_Mo_reads_49
set_option maxHeartbeats 4000000 in
set_option maxRecDepth 100000 in
theorem xc_Mo_loadK (l : Launch) (D : va_G) (kA : Nat → ClassId) (sz h : Nat) (mm : Nat → Nat) (v : Nat → Int32) (g : Nat → Nat → Int32) (ly : Int32) (kx : Int32) (wr : Nat) (hMI : MI v g) (hwr : v 2 = nI wr) (hwr40 : wr ≤ 40) : Met l xy_Mo_load (.code xy_Mo_load xb_Mo_load 7 (some .int) :: wT) { frames := 2, cells := 0, slots := 0, locals := 50 } (va_Pc [.ref h, .int ly, .int kx] (xPre D kA sz (moW h mm kA v g))) (va_Qi (fun (r : Int32) (u : (Nat → Int32) × (Nat → Nat → Int32)) => MI u.1 u.2 ∧ u.1 2 = 0 ∧ u.1 1 = v 1 ∧ u.1 4 = v 4 ∧ u.1 5 = v 5 ∧ ∀ j, j ≠ 1 → j ≠ 2 → j ≠ 24 → u.2 j = g j) (fun (u : (Nat → Int32) × (Nat → Nat → Int32)) t => va_P D xcl (moW h mm kA u.1 u.2) t.heap ∧ va_D (va_A (moW h mm kA v g) sz) (moW h mm kA u.1 u.2)) (va_A (moW h mm kA v g) sz)) 0 0 (va_A (moW h mm kA v g) sz) := by
  refine Met.ofW (cc := xb_Mo_load) (maxL := 7) (ret := (some .int)) (by decide) rfl ?_
  intro p e s m args below meth c s₁ B hml hv
  obtain ⟨rfl, hsz, hP, hK, hD0⟩ := hv
  have hx := B.exec
  have hb := B.bytes
  have hr := B.returns
  have hT := x_hT B.pre
  have hown : s.vm.findClass xR_Mo = some m.cls := findClass_of_methodNamed B.named
  have hlocks := B.notSynchronized
  subst hsz
  have hD := hD0.self (sz := s.heap.size)
  generalize hAe : va_A (moW h mm kA v g) s.heap.size = A at hD ⊢
  have hA : ∀ q : Nat, s.heap.size ≤ q → A q := fun q h => by rw [← hAe]; exact Or.inr h
  have hS : va_S A s.heap s.heap [] := va_S.rf
  have hl := lv_entry ([.ref h, .int ly, .int kx]) (n := 7) (Nat.le_of_ble_eq_true rfl)
  rw [lg_entry_eq]
  generalize (lg_sl ([.ref h, .int ly, .int kx]) ++ List.replicate (7 - (lg_sl ([.ref h, .int ly, .int kx])).length) Slot.unset).toArray = ls at hl ⊢
  have hl : lv_has ls 7 [(0, .ref h), (1, .int ly), (2, .int kx)] := hl
  have hP : va_P D xcl (moW h mm kA v g) s.heap := hP
  refine lv_aload_n hx hb xd_Mo_load_0 rfl (lv_at hl 0 rfl) ?_
  refine lv_iconst (v := 0) hx hb xd_Mo_load_1 (by decide) ?_
  refine va_put (D := D) (ci := 4) (v := .int 0) (ty := .int) (C := xR_Mo) (T := xT_Mo) (N := 31) hx hb hT xi_Mo xt_Mo xt_Mo_ok xn_Mo hown hK.1 hP hD hS 0 rfl rfl 0 (by decide) (hT _ k4r_0) (fun _ h9 => h9) rfl (by decide +kernel) rfl rfl (Nat.le_of_ble_eq_true rfl) xd_Mo_load_2 (fun H locs hP hD hS => ?_)
  have hP : va_P D xcl (moW h mm kA (va_up v 0 0) g) H := hP
  have hD : va_D A (moW h mm kA (va_up v 0 0) g) := hD
  refine lv_aload_n hx hb xd_Mo_load_5 rfl (lv_at hl 0 rfl) ?_
  have hFc := va_free (wc := (moW h mm kA (va_up v 0 0) g)) hD hS hA [0, 1, 2, 3, 4, 5, 6, 7, 8, 9, 10, 11, 12, 13, 14, 15, 16, 17, 18, 19, 20, 21, 22, 23, 24, 25] rfl
  refine va_calli (va_runV (As := []) (rest := []) ⟨hx, hb, hml, hown, hT⟩ (xc_Mo_oneName l D kA H.size h mm (va_up v 0 0) g wr (by first | assumption | omega) (by first | assumption | omega)) (cwV 0 hT (wT_V k4r_25 k4r_26 k4r_27 k4r_9 k4r_24) rfl rfl rfl (by decide +kernel) ⟨Nat.le_of_ble_eq_true rfl, Nat.le_of_ble_eq_true rfl⟩) (x_preV hK hP hD 0 rfl rfl) rfl rfl hl.1 rfl (lv_room (Nat.le_of_ble_eq_true rfl)) xd_Mo_load_6 ⟨Nat.le_of_ble_eq_true rfl, Nat.le_of_ble_eq_true rfl⟩) hS (fun q _ h => hFc q h) hFc (fun r1 u2 t H1 locs ht hvm hp3 hB hz1 hk1 hS => ?_)
  obtain ⟨hP1, hD1⟩ := hB
  rw [ht] at hP1
  have hD1 := hD1.weaken (fun _ _ _ h => hFc _ h)
  obtain ⟨v4, g5⟩ := u2
  generalize H1 = H at hP1 hS ⊢
  have hP := hP1
  have hD := hD1
  have hP : va_P D xcl (moW h mm kA v4 g5) H := hP
  have hD : va_D A (moW h mm kA v4 g5) := hD
  obtain ⟨wn, hv9, hgk⟩ := hp3
  have hv9 : v4 = (va_up (va_up (va_up v 0 0) 2 0) 3 (nI wn)) := hv9
  subst hv9
  have hgk : ∀ j, j ≠ 1 → j ≠ 2 → g5 j = g j := hgk
  have hM1 : MI (va_up (va_up (va_up v 0 0) 2 0) 3 (nI wn)) g5 := MI_g (hgk 0 (by decide) (by decide)) (hgk 3 (by decide) (by decide)) (hgk 4 (by decide) (by decide)) (hgk 5 (by decide) (by decide)) (hgk 12 (by decide) (by decide)) (hgk 19 (by decide) (by decide)) (hgk 20 (by decide) (by decide)) (hgk 21 (by decide) (by decide)) (MI_v rfl rfl hMI)
  obtain ⟨⟨nd, hnd12, hnd⟩, ⟨nl, hnl5, hnl, hpar⟩, hch, hpk, hrq, hmd, huq⟩ := id hM1
  have hP : va_P D xcl (moW h mm kA (va_up (va_up (va_up v 0 0) 2 0) 3 (nI wn)) g5) H := hP
  have hD : va_D A (moW h mm kA (va_up (va_up (va_up v 0 0) 2 0) 3 (nI wn)) g5) := hD
  refine lv_istore_n hx hb xd_Mo_load_9 rfl hl (Nat.le_of_ble_eq_true rfl) rfl (fun ls hl => ?_)
  have hl : lv_has ls 7 [(3, .int r1), (0, .ref h), (1, .int ly), (2, .int kx)] := hl
  refine lv_aload_n hx hb xd_Mo_load_10 rfl (lv_at hl 1 rfl) ?_
  refine lv_iload_n hx hb xd_Mo_load_11 rfl (lv_at hl 2 rfl) ?_
  refine lv_iload_n hx hb xd_Mo_load_12 rfl (lv_at hl 3 rfl) ?_
  have hFc := va_free (wc := (moW h mm kA (va_up (va_up (va_up v 0 0) 2 0) 3 (nI wn)) g5)) hD hS hA [0, 1, 2, 3, 4, 5, 6, 7, 8, 9, 10, 11, 12, 13, 14, 15, 16, 17, 18, 19, 20, 21, 22, 23, 24, 25] rfl
  refine va_calli (va_runV (As := [.int ly, .int kx]) (rest := []) ⟨hx, hb, hml, hown, hT⟩ (xc_Mo_moduleOf l D kA H.size h mm (va_up (va_up (va_up v 0 0) 2 0) 3 (nI wn)) g5 ly kx nl (by first | assumption | omega) (by first | assumption | omega) (by first | assumption | omega)) (cwV 2 hT (wT_V k4r_12 k4r_13 k4r_14 k4r_9 k4r_11) rfl rfl rfl (by decide +kernel) ⟨Nat.le_of_ble_eq_true rfl, Nat.le_of_ble_eq_true rfl⟩) (x_preV hK hP hD 0 rfl rfl) rfl rfl hl.1 rfl (lv_room (Nat.le_of_ble_eq_true rfl)) xd_Mo_load_13 ⟨Nat.le_of_ble_eq_true rfl, Nat.le_of_ble_eq_true rfl⟩) hS (fun q _ h => hFc q h) hFc (fun r6 u7 t H1 locs ht hvm hp8 hB hz1 hk1 hS => ?_)
  obtain ⟨hP1, hD1⟩ := hB
  rw [ht] at hP1
  have hD1 := hD1.weaken (fun _ _ _ h => hFc _ h)
  generalize H1 = H at hP1 hS ⊢
  have hP := hP1
  have hD := hD1
  have hP : va_P D xcl (moW h mm kA (va_up (va_up (va_up v 0 0) 2 0) 3 (nI wn)) g5) H := hP
  have hD : va_D A (moW h mm kA (va_up (va_up (va_up v 0 0) 2 0) 3 (nI wn)) g5) := hD
  rcases hp8 with rfl | ⟨z9, z10, z11, rfl, z12, rfl⟩
  · refine lv_istore hx hb xd_Mo_load_16 hl (Nat.le_of_ble_eq_true rfl) rfl (fun ls hl => ?_)
    have hl : lv_has ls 7 [(4, .int (-1)), (3, .int r1), (0, .ref h), (1, .int ly), (2, .int kx)] := hl
    refine lv_iload_n hx hb xd_Mo_load_18 rfl (lv_at hl 1 rfl) ?_
    refine lv_if_eq (tgt := 27) hx hb xd_Mo_load_19 (by decide) (fun hc13 => ?_) (fun hc13 => ?_)
    · refine lv_aload_n hx hb xd_Mo_load_27 rfl (lv_at hl 2 rfl) ?_
      refine lv_iconst (v := 1) hx hb xd_Mo_load_28 (by decide) ?_
      have hFc := va_free (wc := (moW h mm kA (va_up (va_up (va_up v 0 0) 2 0) 3 (nI wn)) g5)) hD hS hA [0, 1, 2, 3, 4, 5, 6, 7, 8, 9, 10, 11, 12, 13, 14, 15, 16, 17, 18, 19, 20, 21, 22, 23, 24, 25] rfl
      refine va_calli (va_runV (As := [.int 1]) (rest := []) ⟨hx, hb, hml, hown, hT⟩ (xc_Mo_fails l D kA H.size h mm (va_up (va_up (va_up v 0 0) 2 0) 3 (nI wn)) g5 1) (cwV 1 hT (wT_V k4r_29 k4r_30 k4r_31 k4r_9 k4r_28) rfl rfl rfl (by decide +kernel) ⟨Nat.le_of_ble_eq_true rfl, Nat.le_of_ble_eq_true rfl⟩) (x_preV hK hP hD 0 rfl rfl) rfl rfl hl.1 rfl (lv_room (Nat.le_of_ble_eq_true rfl)) xd_Mo_load_29 ⟨Nat.le_of_ble_eq_true rfl, Nat.le_of_ble_eq_true rfl⟩) hS (fun q _ h => hFc q h) hFc (fun r14 u15 t H1 locs ht hvm hp16 hB hz1 hk1 hS => ?_)
      obtain ⟨hP1, hD1⟩ := hB
      rw [ht] at hP1
      have hD1 := hD1.weaken (fun _ _ _ h => hFc _ h)
      obtain ⟨v17, g18⟩ := u15
      generalize H1 = H at hP1 hS ⊢
      have hP := hP1
      have hD := hD1
      have hP : va_P D xcl (moW h mm kA v17 g18) H := hP
      have hD : va_D A (moW h mm kA v17 g18) := hD
      obtain ⟨hr9, hu9⟩ := hp16
      subst hr9
      obtain ⟨hu1, hu2⟩ := Prod.mk.inj hu9
      subst hu1
      have hu2 := hu2.symm
      subst hu2
      have hP : va_P D xcl (moW h mm kA (va_up (va_up (va_up v 0 1) 2 0) 3 (nI wn)) g5) H := hP
      have hD : va_D A (moW h mm kA (va_up (va_up (va_up v 0 1) 2 0) 3 (nI wn)) g5) := hD
      exact W.iret (v := 0) hx hb hr (fun t ht hW => ⟨⟨0, ((va_up (va_up (va_up v 0 1) 2 0) 3 (nI wn)), g5), rfl, ⟨MI_v rfl rfl hM1, rfl, rfl, rfl, rfl, fun j h1 h2 h3 => hgk j h1 h2⟩, by rw [ht]; exact hP, hD⟩, hS.F ht⟩) hS.2.2 xd_Mo_load_32
    · refine lv_iload hx hb xd_Mo_load_22 (lv_at hl 0 rfl) ?_
      refine lv_if_ge (tgt := 33) hx hb xd_Mo_load_24 (by decide) (fun hc19 => absurd hc19 (by decide)) (fun _ => ?_)
      refine lv_aload_n hx hb xd_Mo_load_27 rfl (lv_at hl 2 rfl) ?_
      refine lv_iconst (v := 1) hx hb xd_Mo_load_28 (by decide) ?_
      have hFc := va_free (wc := (moW h mm kA (va_up (va_up (va_up v 0 0) 2 0) 3 (nI wn)) g5)) hD hS hA [0, 1, 2, 3, 4, 5, 6, 7, 8, 9, 10, 11, 12, 13, 14, 15, 16, 17, 18, 19, 20, 21, 22, 23, 24, 25] rfl
      refine va_calli (va_runV (As := [.int 1]) (rest := []) ⟨hx, hb, hml, hown, hT⟩ (xc_Mo_fails l D kA H.size h mm (va_up (va_up (va_up v 0 0) 2 0) 3 (nI wn)) g5 1) (cwV 1 hT (wT_V k4r_29 k4r_30 k4r_31 k4r_9 k4r_28) rfl rfl rfl (by decide +kernel) ⟨Nat.le_of_ble_eq_true rfl, Nat.le_of_ble_eq_true rfl⟩) (x_preV hK hP hD 0 rfl rfl) rfl rfl hl.1 rfl (lv_room (Nat.le_of_ble_eq_true rfl)) xd_Mo_load_29 ⟨Nat.le_of_ble_eq_true rfl, Nat.le_of_ble_eq_true rfl⟩) hS (fun q _ h => hFc q h) hFc (fun r20 u21 t H1 locs ht hvm hp22 hB hz1 hk1 hS => ?_)
      obtain ⟨hP1, hD1⟩ := hB
      rw [ht] at hP1
      have hD1 := hD1.weaken (fun _ _ _ h => hFc _ h)
      obtain ⟨v23, g24⟩ := u21
      generalize H1 = H at hP1 hS ⊢
      have hP := hP1
      have hD := hD1
      have hP : va_P D xcl (moW h mm kA v23 g24) H := hP
      have hD : va_D A (moW h mm kA v23 g24) := hD
      obtain ⟨hr9, hu9⟩ := hp22
      subst hr9
      obtain ⟨hu1, hu2⟩ := Prod.mk.inj hu9
      subst hu1
      have hu2 := hu2.symm
      subst hu2
      have hP : va_P D xcl (moW h mm kA (va_up (va_up (va_up v 0 1) 2 0) 3 (nI wn)) g5) H := hP
      have hD : va_D A (moW h mm kA (va_up (va_up (va_up v 0 1) 2 0) 3 (nI wn)) g5) := hD
      exact W.iret (v := 0) hx hb hr (fun t ht hW => ⟨⟨0, ((va_up (va_up (va_up v 0 1) 2 0) 3 (nI wn)), g5), rfl, ⟨MI_v rfl rfl hM1, rfl, rfl, rfl, rfl, fun j h1 h2 h3 => hgk j h1 h2⟩, by rw [ht]; exact hP, hD⟩, hS.F ht⟩) hS.2.2 xd_Mo_load_32
  · have hl : lv_has ls 7 [(3, .int r1), (0, .ref h), (1, .int (nI z9)), (2, .int kx)] := hl
    refine lv_istore hx hb xd_Mo_load_16 hl (Nat.le_of_ble_eq_true rfl) rfl (fun ls hl => ?_)
    have hl : lv_has ls 7 [(4, .int (nI z10)), (3, .int r1), (0, .ref h), (1, .int (nI z9)), (2, .int kx)] := hl
    refine lv_iload_n hx hb xd_Mo_load_18 rfl (lv_at hl 1 rfl) ?_
    refine lv_if_eq (tgt := 27) hx hb xd_Mo_load_19 (by decide) (fun hc25 => ?_) (fun hc25 => ?_)
    · refine lv_aload_n hx hb xd_Mo_load_27 rfl (lv_at hl 2 rfl) ?_
      refine lv_iconst (v := 1) hx hb xd_Mo_load_28 (by decide) ?_
      have hFc := va_free (wc := (moW h mm kA (va_up (va_up (va_up v 0 0) 2 0) 3 (nI wn)) g5)) hD hS hA [0, 1, 2, 3, 4, 5, 6, 7, 8, 9, 10, 11, 12, 13, 14, 15, 16, 17, 18, 19, 20, 21, 22, 23, 24, 25] rfl
      refine va_calli (va_runV (As := [.int 1]) (rest := []) ⟨hx, hb, hml, hown, hT⟩ (xc_Mo_fails l D kA H.size h mm (va_up (va_up (va_up v 0 0) 2 0) 3 (nI wn)) g5 1) (cwV 1 hT (wT_V k4r_29 k4r_30 k4r_31 k4r_9 k4r_28) rfl rfl rfl (by decide +kernel) ⟨Nat.le_of_ble_eq_true rfl, Nat.le_of_ble_eq_true rfl⟩) (x_preV hK hP hD 0 rfl rfl) rfl rfl hl.1 rfl (lv_room (Nat.le_of_ble_eq_true rfl)) xd_Mo_load_29 ⟨Nat.le_of_ble_eq_true rfl, Nat.le_of_ble_eq_true rfl⟩) hS (fun q _ h => hFc q h) hFc (fun r26 u27 t H1 locs ht hvm hp28 hB hz1 hk1 hS => ?_)
      obtain ⟨hP1, hD1⟩ := hB
      rw [ht] at hP1
      have hD1 := hD1.weaken (fun _ _ _ h => hFc _ h)
      obtain ⟨v29, g30⟩ := u27
      generalize H1 = H at hP1 hS ⊢
      have hP := hP1
      have hD := hD1
      have hP : va_P D xcl (moW h mm kA v29 g30) H := hP
      have hD : va_D A (moW h mm kA v29 g30) := hD
      obtain ⟨hr9, hu9⟩ := hp28
      subst hr9
      obtain ⟨hu1, hu2⟩ := Prod.mk.inj hu9
      subst hu1
      have hu2 := hu2.symm
      subst hu2
      have hP : va_P D xcl (moW h mm kA (va_up (va_up (va_up v 0 1) 2 0) 3 (nI wn)) g5) H := hP
      have hD : va_D A (moW h mm kA (va_up (va_up (va_up v 0 1) 2 0) 3 (nI wn)) g5) := hD
      exact W.iret (v := 0) hx hb hr (fun t ht hW => ⟨⟨0, ((va_up (va_up (va_up v 0 1) 2 0) 3 (nI wn)), g5), rfl, ⟨MI_v rfl rfl hM1, rfl, rfl, rfl, rfl, fun j h1 h2 h3 => hgk j h1 h2⟩, by rw [ht]; exact hP, hD⟩, hS.F ht⟩) hS.2.2 xd_Mo_load_32
    · refine lv_iload hx hb xd_Mo_load_22 (lv_at hl 0 rfl) ?_
      refine xz_ge (a := z10) (tgt := 33) hx hb xd_Mo_load_24 (by decide) (by omega) ?_
      obtain ⟨pke, hpke, epke⟩ := hpk z10 (by omega)
      refine lv_aload_n hx hb xd_Mo_load_33 rfl (lv_at hl 2 rfl) ?_
      refine lv_iload hx hb xd_Mo_load_34 (lv_at hl 0 rfl) ?_
      refine lv_iload_n hx hb xd_Mo_load_36 rfl (lv_at hl 1 rfl) ?_
      have hFc := va_free (wc := (moW h mm kA (va_up (va_up (va_up v 0 0) 2 0) 3 (nI wn)) g5)) hD hS hA [0, 1, 2, 3, 4, 5, 6, 7, 8, 9, 10, 11, 12, 13, 14, 15, 16, 17, 18, 19, 20, 21, 22, 23, 24, 25] rfl
      refine va_calli (va_runV (As := [.int (nI z10), .int r1]) (rest := []) ⟨hx, hb, hml, hown, hT⟩ (xc_Mo_packageOf l D kA H.size h mm (va_up (va_up (va_up v 0 0) 2 0) 3 (nI wn)) g5 z10 r1 pke (by first | assumption | omega) (by first | assumption | omega) (by first | assumption | omega)) (cwV 2 hT (wT_V k4r_33 k4r_34 k4r_35 k4r_9 k4r_32) rfl rfl rfl (by decide +kernel) ⟨Nat.le_of_ble_eq_true rfl, Nat.le_of_ble_eq_true rfl⟩) (x_preV hK hP hD 0 rfl rfl) rfl rfl hl.1 rfl (lv_room (Nat.le_of_ble_eq_true rfl)) xd_Mo_load_37 ⟨Nat.le_of_ble_eq_true rfl, Nat.le_of_ble_eq_true rfl⟩) hS (fun q _ h => hFc q h) hFc (fun r32 u33 t H1 locs ht hvm hp34 hB hz1 hk1 hS => ?_)
      obtain ⟨hP1, hD1⟩ := hB
      rw [ht] at hP1
      have hD1 := hD1.weaken (fun _ _ _ h => hFc _ h)
      generalize H1 = H at hP1 hS ⊢
      have hP := hP1
      have hD := hD1
      have hP : va_P D xcl (moW h mm kA (va_up (va_up (va_up v 0 0) 2 0) 3 (nI wn)) g5) H := hP
      have hD : va_D A (moW h mm kA (va_up (va_up (va_up v 0 0) 2 0) 3 (nI wn)) g5) := hD
      rcases hp34 with ⟨z35, z36, z37, rfl, z38⟩ | ⟨rfl, z39⟩
      · refine xz_lt (a := z35) (tgt := 51) hx hb xd_Mo_load_40 (by decide) (by omega) ?_
        refine lv_bipush (v := 16) hx hb xd_Mo_load_43 (by decide) ?_
        refine lv_iload_n hx hb xd_Mo_load_45 rfl (lv_at hl 3 rfl) ?_
        refine lv_imul hx hb xd_Mo_load_46 ?_
        refine xn_top (y := nI (16 * z9)) (pk_mul 16 z9) ?_
        refine lv_iload hx hb xd_Mo_load_47 (lv_at hl 0 rfl) ?_
        refine lv_iadd hx hb xd_Mo_load_49 ?_
        refine xn_top (y := nI ((16 * z9) + z10)) (nI_add (16 * z9) z10) ?_
        exact W.iret (v := (nI ((16 * z9) + z10))) hx hb hr (fun t ht hW => ⟨⟨(nI ((16 * z9) + z10)), ((va_up (va_up (va_up v 0 0) 2 0) 3 (nI wn)), g5), rfl, ⟨MI_v rfl rfl hM1, rfl, rfl, rfl, rfl, fun j h1 h2 h3 => hgk j h1 h2⟩, by rw [ht]; exact hP, hD⟩, hS.F ht⟩) hS.2.2 xd_Mo_load_50
      · refine lv_if_lt (tgt := 51) hx hb xd_Mo_load_40 (by decide) (fun _ => ?_) (fun hc41 => absurd hc41 (by decide))
        refine lv_aload_n hx hb xd_Mo_load_51 rfl (lv_at hl 2 rfl) ?_
        refine lv_iload_n hx hb xd_Mo_load_52 rfl (lv_at hl 3 rfl) ?_
        refine lv_iload hx hb xd_Mo_load_53 (lv_at hl 0 rfl) ?_
        have hFc := va_free (wc := (moW h mm kA (va_up (va_up (va_up v 0 0) 2 0) 3 (nI wn)) g5)) hD hS hA [0, 1, 2, 3, 4, 5, 6, 7, 8, 9, 10, 11, 12, 13, 14, 15, 16, 17, 18, 19, 20, 21, 22, 23, 24, 25] rfl
        refine va_callv (va_runV (As := [.int (nI z9), .int (nI z10)]) (rest := []) ⟨hx, hb, hml, hown, hT⟩ (xc_Mo_reading l D kA H.size h mm (va_up (va_up (va_up v 0 0) 2 0) 3 (nI wn)) g5 z9 z10 nl (MI_v rfl rfl hM1) (by first | assumption | omega) hpar (by first | assumption | omega) (by first | assumption | omega)) (cwV 2 hT (wT_V k4r_20 k4r_21 k4r_22 k4r_9 k4r_19) rfl rfl rfl (by decide +kernel) ⟨Nat.le_of_ble_eq_true rfl, Nat.le_of_ble_eq_true rfl⟩) (x_preV hK hP hD 0 rfl rfl) rfl rfl hl.1 rfl (lv_room (Nat.le_of_ble_eq_true rfl)) xd_Mo_load_55 ⟨Nat.le_of_ble_eq_true rfl, Nat.le_of_ble_eq_true rfl⟩) hS (fun q _ h => hFc q h) hFc (fun u43 t H1 locs ht hvm hp44 hB hz1 hk1 hS => ?_)
        obtain ⟨hP1, hD1⟩ := hB
        rw [ht] at hP1
        have hD1 := hD1.weaken (fun _ _ _ h => hFc _ h)
        obtain ⟨v45, g46⟩ := u43
        generalize H1 = H at hP1 hS ⊢
        have hP := hP1
        have hD := hD1
        have hP : va_P D xcl (moW h mm kA v45 g46) H := hP
        have hD : va_D A (moW h mm kA v45 g46) := hD
        obtain ⟨hu9, hfr9, hbz9, hsn9⟩ := hp44
        have hu9 : v45 = (va_up (va_up (va_up v 0 0) 2 0) 3 (nI wn)) := hu9
        subst hu9
        have hfr9 : ∀ j, j ≠ 24 → g46 j = g5 j := hfr9
        have hbz9 : bz (g46 24) := hbz9
        have hP : va_P D xcl (moW h mm kA (va_up (va_up (va_up v 0 0) 2 0) 3 (nI wn)) g46) H := hP
        have hD : va_D A (moW h mm kA (va_up (va_up (va_up v 0 0) 2 0) 3 (nI wn)) g46) := hD
        have hpk : ∀ d, d < 12 → ∃ k, k ≤ 6 ∧ g46 5 d = nI k := by rw [hfr9 5 (by decide)]; exact hpk
        refine lv_iconst (v := 0) hx hb xd_Mo_load_58 (by decide) ?_
        refine lv_istore hx hb xd_Mo_load_59 hl (Nat.le_of_ble_eq_true rfl) rfl (fun ls hl => ?_)
        have hl : lv_has ls 7 [(5, .int 0), (4, .int (nI z10)), (3, .int r1), (0, .ref h), (1, .int (nI z9)), (2, .int kx)] := hl
        refine xlab (σ := Nat) (ml := 7) 61 (fun (m5 : Nat) => [(5, .int (nI m5)), (0, .ref h), (3, .int r1), (4, .int (nI z10))]) (fun (m5 : Nat) => []) (fun (m5 : Nat) => moW h mm kA (va_up (va_up (va_up v 0 0) 2 0) 3 (nI wn)) g46) (fun (m5 : Nat) => (m5 ≤ 72)) (fun (m5 : Nat) => 72 - m5) ?_ 0 _ _ _ (lv_sub hl [0, 3, 2, 1] rfl) hP hD hS (show 0 ≤ 72 from by first | assumption | omega)
        intro n9 ih47 a9 ls H locs hμ hl hP hD hS hI
        subst hμ
        obtain ⟨m5, rfl⟩ : ∃ z, z = a9 := ⟨_, rfl⟩
        have hm5 : m5 ≤ 72 := hI
        have hl : lv_has ls 7 [(5, .int (nI m5)), (0, .ref h), (3, .int r1), (4, .int (nI z10))] := hl
        have hP : va_P D xcl (moW h mm kA (va_up (va_up (va_up v 0 0) 2 0) 3 (nI wn)) g46) H := hP
        have hD : va_D A (moW h mm kA (va_up (va_up (va_up v 0 0) 2 0) 3 (nI wn)) g46) := hD
        refine lv_iload hx hb xd_Mo_load_61 (lv_at hl 0 rfl) ?_
        refine lv_bipush (v := 72) hx hb xd_Mo_load_63 (by decide) ?_
        refine xn_ge (a := m5) (b := 72) (tgt := 136) hx hb xd_Mo_load_65 (by decide) (by omega) (by omega) (fun hc48 => ?_) (fun hc48 => ?_)
        · refine lv_aload_n hx hb xd_Mo_load_136 rfl (lv_at hl 1 rfl) ?_
          refine lv_iconst (v := 2) hx hb xd_Mo_load_137 (by decide) ?_
          have hFc := va_free (wc := (moW h mm kA (va_up (va_up (va_up v 0 0) 2 0) 3 (nI wn)) g46)) hD hS hA [0, 1, 2, 3, 4, 5, 6, 7, 8, 9, 10, 11, 12, 13, 14, 15, 16, 17, 18, 19, 20, 21, 22, 23, 24, 25] rfl
          refine va_calli (va_runV (As := [.int 2]) (rest := []) ⟨hx, hb, hml, hown, hT⟩ (xc_Mo_fails l D kA H.size h mm (va_up (va_up (va_up v 0 0) 2 0) 3 (nI wn)) g46 2) (cwV 1 hT (wT_V k4r_29 k4r_30 k4r_31 k4r_9 k4r_28) rfl rfl rfl (by decide +kernel) ⟨Nat.le_of_ble_eq_true rfl, Nat.le_of_ble_eq_true rfl⟩) (x_preV hK hP hD 0 rfl rfl) rfl rfl hl.1 rfl (lv_room (Nat.le_of_ble_eq_true rfl)) xd_Mo_load_138 ⟨Nat.le_of_ble_eq_true rfl, Nat.le_of_ble_eq_true rfl⟩) hS (fun q _ h => hFc q h) hFc (fun r49 u50 t H1 locs ht hvm hp51 hB hz1 hk1 hS => ?_)
          obtain ⟨hP1, hD1⟩ := hB
          rw [ht] at hP1
          have hD1 := hD1.weaken (fun _ _ _ h => hFc _ h)
          obtain ⟨v52, g53⟩ := u50
          generalize H1 = H at hP1 hS ⊢
          have hP := hP1
          have hD := hD1
          have hP : va_P D xcl (moW h mm kA v52 g53) H := hP
          have hD : va_D A (moW h mm kA v52 g53) := hD
          obtain ⟨hr9, hu9⟩ := hp51
          subst hr9
          obtain ⟨hu1, hu2⟩ := Prod.mk.inj hu9
          subst hu1
          have hu2 := hu2.symm
          subst hu2
          have hP : va_P D xcl (moW h mm kA (va_up (va_up (va_up v 0 2) 2 0) 3 (nI wn)) g46) H := hP
          have hD : va_D A (moW h mm kA (va_up (va_up (va_up v 0 2) 2 0) 3 (nI wn)) g46) := hD
          exact W.iret (v := 0) hx hb hr (fun t ht hW => ⟨⟨0, ((va_up (va_up (va_up v 0 2) 2 0) 3 (nI wn)), g46), rfl, ⟨MI_g (hfr9 0 (by decide)) (hfr9 3 (by decide)) (hfr9 4 (by decide)) (hfr9 5 (by decide)) (hfr9 12 (by decide)) (hfr9 19 (by decide)) (hfr9 20 (by decide)) (hfr9 21 (by decide)) (MI_v rfl rfl hM1), rfl, rfl, rfl, rfl, fun j h1 h2 h3 => (hfr9 j h3).trans (hgk j h1 h2)⟩, by rw [ht]; exact hP, hD⟩, hS.F ht⟩) hS.2.2 xd_Mo_load_141
        · refine lv_aload_n hx hb xd_Mo_load_68 rfl (lv_at hl 1 rfl) ?_
          refine va_get (D := D) (ci := 4) (v := .ref (mm 24)) (C := xR_Mo) (T := xT_Mo) (N := 31) hx hb hT xi_Mo hown hK.1 hP 0 rfl rfl 30 (by decide) (hT _ k4r_23) (fun _ h9 => h9) rfl xd_Mo_load_69 ?_
          refine lv_iload hx hb xd_Mo_load_72 (lv_at hl 0 rfl) ?_
          refine xn_zald (i := m5) hx hb hK.1 hP 25 2 rfl rfl (by omega) (by decide) xd_Mo_load_74 ?_
          refine lv_if_eq (tgt := 91) hx hb xd_Mo_load_75 (by decide) (fun hc54 => ?_) (fun hc54 => ?_)
          · refine lv_iconst (v := (-1)) hx hb xd_Mo_load_91 (by decide) ?_
            refine lv_istore hx hb xd_Mo_load_92 hl (Nat.le_of_ble_eq_true rfl) rfl (fun ls hl => ?_)
            have hl : lv_has ls 7 [(6, .int (-1)), (5, .int (nI m5)), (0, .ref h), (3, .int r1), (4, .int (nI z10))] := hl
            refine lv_iload hx hb xd_Mo_load_94 (lv_at hl 0 rfl) ?_
            refine lv_if_lt (tgt := 130) hx hb xd_Mo_load_96 (by decide) (fun _ => ?_) (fun hc55 => absurd hc55 (by decide))
            refine lv_iinc (k := 1) (x := (nI m5)) (v := (nI (m5 + 1))) hx hb xd_Mo_load_130 hl rfl (xb_inc m5 1) (Nat.le_of_ble_eq_true rfl) rfl (fun ls hl => ?_)
            have hl : lv_has ls 7 [(5, .int (nI (m5 + 1))), (6, .int (-1)), (0, .ref h), (3, .int r1), (4, .int (nI z10))] := hl
            refine lv_goto (tgt := 61) hx hb xd_Mo_load_133 (by decide) ?_
            exact ih47 (m5 + 1) _ _ _ (show 72 - (m5 + 1) < 72 - m5 by omega) (lv_sub hl [0, 2, 3, 4] rfl) hP hD hS (show (m5 + 1) ≤ 72 from by first | assumption | omega)
          · obtain ⟨pkf, hpkf, epkf⟩ := hpk (m5 % 12) (by omega)
            refine lv_aload_n hx hb xd_Mo_load_78 rfl (lv_at hl 1 rfl) ?_
            refine lv_iload hx hb xd_Mo_load_79 (lv_at hl 0 rfl) ?_
            refine lv_bipush (v := 12) hx hb xd_Mo_load_81 (by decide) ?_
            refine lv_irem hx hb xd_Mo_load_83 (by decide) ?_
            refine xn_top (y := nI (m5 % 12)) (pk_rem (a := m5) (d := 12) (by omega) (by decide) (by decide)) ?_
            refine lv_iload_n hx hb xd_Mo_load_84 rfl (lv_at hl 2 rfl) ?_
            have hFc := va_free (wc := (moW h mm kA (va_up (va_up (va_up v 0 0) 2 0) 3 (nI wn)) g46)) hD hS hA [0, 1, 2, 3, 4, 5, 6, 7, 8, 9, 10, 11, 12, 13, 14, 15, 16, 17, 18, 19, 20, 21, 22, 23, 24, 25] rfl
            refine va_calli (va_runV (As := [.int (nI (m5 % 12)), .int r1]) (rest := []) ⟨hx, hb, hml, hown, hT⟩ (xc_Mo_packageOf l D kA H.size h mm (va_up (va_up (va_up v 0 0) 2 0) 3 (nI wn)) g46 (m5 % 12) r1 pkf (by first | assumption | omega) (by first | assumption | omega) (by first | assumption | omega)) (cwV 2 hT (wT_V k4r_33 k4r_34 k4r_35 k4r_9 k4r_32) rfl rfl rfl (by decide +kernel) ⟨Nat.le_of_ble_eq_true rfl, Nat.le_of_ble_eq_true rfl⟩) (x_preV hK hP hD 0 rfl rfl) rfl rfl hl.1 rfl (lv_room (Nat.le_of_ble_eq_true rfl)) xd_Mo_load_85 ⟨Nat.le_of_ble_eq_true rfl, Nat.le_of_ble_eq_true rfl⟩) hS (fun q _ h => hFc q h) hFc (fun r56 u57 t H1 locs ht hvm hp58 hB hz1 hk1 hS => ?_)
            obtain ⟨hP1, hD1⟩ := hB
            rw [ht] at hP1
            have hD1 := hD1.weaken (fun _ _ _ h => hFc _ h)
            generalize H1 = H at hP1 hS ⊢
            have hP := hP1
            have hD := hD1
            have hP : va_P D xcl (moW h mm kA (va_up (va_up (va_up v 0 0) 2 0) 3 (nI wn)) g46) H := hP
            have hD : va_D A (moW h mm kA (va_up (va_up (va_up v 0 0) 2 0) 3 (nI wn)) g46) := hD
            rcases hp58 with ⟨z59, z60, z61, rfl, z62⟩ | ⟨rfl, z63⟩
            · refine lv_goto (tgt := 92) hx hb xd_Mo_load_88 (by decide) ?_
              refine lv_istore hx hb xd_Mo_load_92 hl (Nat.le_of_ble_eq_true rfl) rfl (fun ls hl => ?_)
              have hl : lv_has ls 7 [(6, .int (nI z59)), (5, .int (nI m5)), (0, .ref h), (3, .int r1), (4, .int (nI z10))] := hl
              refine lv_iload hx hb xd_Mo_load_94 (lv_at hl 0 rfl) ?_
              refine xz_lt (a := z59) (tgt := 130) hx hb xd_Mo_load_96 (by decide) (by omega) ?_
              refine lv_aload_n hx hb xd_Mo_load_99 rfl (lv_at hl 2 rfl) ?_
              refine lv_iload hx hb xd_Mo_load_100 (lv_at hl 0 rfl) ?_
              refine lv_aload_n hx hb xd_Mo_load_102 rfl (lv_at hl 2 rfl) ?_
              refine va_get (D := D) (ci := 4) (v := .ref (mm 4)) (C := xR_Mo) (T := xT_Mo) (N := 31) hx hb hT xi_Mo hown hK.1 hP 0 rfl rfl 9 (by decide) (hT _ k4r_36) (fun _ h9 => h9) rfl xd_Mo_load_103 ?_
              refine lv_iload hx hb xd_Mo_load_106 (lv_at hl 4 rfl) ?_
              refine xn_iald (i := z10) hx hb hK.1 hP 5 0 rfl rfl (by omega) (by decide) xd_Mo_load_108 ?_
              have hFc := va_free (wc := (moW h mm kA (va_up (va_up (va_up v 0 0) 2 0) 3 (nI wn)) g46)) hD hS hA [0, 1, 2, 3, 4, 5, 6, 7, 8, 9, 10, 11, 12, 13, 14, 15, 16, 17, 18, 19, 20, 21, 22, 23, 24, 25] rfl
              refine va_calli (va_runV (As := [.int (nI z59), .int (g46 4 z10)]) (rest := []) ⟨hx, hb, hml, hown, hT⟩ (xc_Mo_exports l D kA H.size h mm (va_up (va_up (va_up v 0 0) 2 0) 3 (nI wn)) g46 z59 (g46 4 z10) (by first | assumption | omega)) (cwV 2 hT (wT_V k4r_38 k4r_39 k4r_40 k4r_9 k4r_37) rfl rfl rfl (by decide +kernel) ⟨Nat.le_of_ble_eq_true rfl, Nat.le_of_ble_eq_true rfl⟩) (x_preV hK hP hD 0 rfl rfl) rfl rfl hl.1 rfl (lv_room (Nat.le_of_ble_eq_true rfl)) xd_Mo_load_109 ⟨Nat.le_of_ble_eq_true rfl, Nat.le_of_ble_eq_true rfl⟩) hS (fun q _ h => hFc q h) hFc (fun r65 u66 t H1 locs ht hvm hp67 hB hz1 hk1 hS => ?_)
              obtain ⟨hP1, hD1⟩ := hB
              rw [ht] at hP1
              have hD1 := hD1.weaken (fun _ _ _ h => hFc _ h)
              generalize H1 = H at hP1 hS ⊢
              have hP := hP1
              have hD := hD1
              have hP : va_P D xcl (moW h mm kA (va_up (va_up (va_up v 0 0) 2 0) 3 (nI wn)) g46) H := hP
              have hD : va_D A (moW h mm kA (va_up (va_up (va_up v 0 0) 2 0) 3 (nI wn)) g46) := hD
              rcases hp67 with rfl | rfl
              · refine xz_eq (a := 0) (tgt := 130) hx hb xd_Mo_load_112 (by decide) (by omega) (fun _ => ?_) (fun hc68 => absurd hc68 (by omega))
                refine lv_iinc (k := 1) (x := (nI m5)) (v := (nI (m5 + 1))) hx hb xd_Mo_load_130 hl rfl (xb_inc m5 1) (Nat.le_of_ble_eq_true rfl) rfl (fun ls hl => ?_)
                have hl : lv_has ls 7 [(5, .int (nI (m5 + 1))), (6, .int (nI z59)), (0, .ref h), (3, .int r1), (4, .int (nI z10))] := hl
                refine lv_goto (tgt := 61) hx hb xd_Mo_load_133 (by decide) ?_
                exact ih47 (m5 + 1) _ _ _ (show 72 - (m5 + 1) < 72 - m5 by omega) (lv_sub hl [0, 2, 3, 4] rfl) hP hD hS (show (m5 + 1) ≤ 72 from by first | assumption | omega)
              · refine xz_eq (a := 1) (tgt := 130) hx hb xd_Mo_load_112 (by decide) (by omega) (fun hc69 => absurd hc69 (by omega)) (fun _ => ?_)
                refine lv_bipush (v := 16) hx hb xd_Mo_load_115 (by decide) ?_
                refine lv_iload hx hb xd_Mo_load_117 (lv_at hl 1 rfl) ?_
                refine lv_bipush (v := 12) hx hb xd_Mo_load_119 (by decide) ?_
                refine lv_idiv hx hb xd_Mo_load_121 (by decide) ?_
                refine xn_top (y := nI (m5 / 12)) (pk_div (a := m5) (d := 12) (by omega) (by decide) (by decide)) ?_
                refine lv_imul hx hb xd_Mo_load_122 ?_
                refine xn_top (y := nI (16 * (m5 / 12))) (pk_mul 16 (m5 / 12)) ?_
                refine lv_iload hx hb xd_Mo_load_123 (lv_at hl 1 rfl) ?_
                refine lv_bipush (v := 12) hx hb xd_Mo_load_125 (by decide) ?_
                refine lv_irem hx hb xd_Mo_load_127 (by decide) ?_
                refine xn_top (y := nI (m5 % 12)) (pk_rem (a := m5) (d := 12) (by omega) (by decide) (by decide)) ?_
                refine lv_iadd hx hb xd_Mo_load_128 ?_
                refine xn_top (y := nI ((16 * (m5 / 12)) + (m5 % 12))) (nI_add (16 * (m5 / 12)) (m5 % 12)) ?_
                exact W.iret (v := (nI ((16 * (m5 / 12)) + (m5 % 12)))) hx hb hr (fun t ht hW => ⟨⟨(nI ((16 * (m5 / 12)) + (m5 % 12))), ((va_up (va_up (va_up v 0 0) 2 0) 3 (nI wn)), g46), rfl, ⟨MI_g (hfr9 0 (by decide)) (hfr9 3 (by decide)) (hfr9 4 (by decide)) (hfr9 5 (by decide)) (hfr9 12 (by decide)) (hfr9 19 (by decide)) (hfr9 20 (by decide)) (hfr9 21 (by decide)) (MI_v rfl rfl hM1), rfl, rfl, rfl, rfl, fun j h1 h2 h3 => (hfr9 j h3).trans (hgk j h1 h2)⟩, by rw [ht]; exact hP, hD⟩, hS.F ht⟩) hS.2.2 xd_Mo_load_129
            · refine lv_goto (tgt := 92) hx hb xd_Mo_load_88 (by decide) ?_
              refine lv_istore hx hb xd_Mo_load_92 hl (Nat.le_of_ble_eq_true rfl) rfl (fun ls hl => ?_)
              have hl : lv_has ls 7 [(6, .int (-1)), (5, .int (nI m5)), (0, .ref h), (3, .int r1), (4, .int (nI z10))] := hl
              refine lv_iload hx hb xd_Mo_load_94 (lv_at hl 0 rfl) ?_
              refine lv_if_lt (tgt := 130) hx hb xd_Mo_load_96 (by decide) (fun _ => ?_) (fun hc70 => absurd hc70 (by decide))
              refine lv_iinc (k := 1) (x := (nI m5)) (v := (nI (m5 + 1))) hx hb xd_Mo_load_130 hl rfl (xb_inc m5 1) (Nat.le_of_ble_eq_true rfl) rfl (fun ls hl => ?_)
              have hl : lv_has ls 7 [(5, .int (nI (m5 + 1))), (6, .int (-1)), (0, .ref h), (3, .int r1), (4, .int (nI z10))] := hl
              refine lv_goto (tgt := 61) hx hb xd_Mo_load_133 (by decide) ?_
              exact ih47 (m5 + 1) _ _ _ (show 72 - (m5 + 1) < 72 - m5 by omega) (lv_sub hl [0, 2, 3, 4] rfl) hP hD hS (show (m5 + 1) ≤ 72 from by first | assumption | omega)
set_option maxHeartbeats 4000000 in
set_option maxRecDepth 100000 in
theorem xc_Mo_peekK (l : Launch) (D : va_G) (kA : Nat → ClassId) (sz h : Nat) (mm : Nat → Nat) (v : Nat → Int32) (g : Nat → Nat → Int32) (ly : Int32) (kx : Int32) (ly2 : Int32) (dx : Int32) (wr : Nat) (hMI : MI v g) (hwr : v 2 = nI wr) (hwr40 : wr ≤ 40) : Met l xy_Mo_peek (.code xy_Mo_peek xb_Mo_peek 8 (some .boolean) :: wT) { frames := 2, cells := 0, slots := 0, locals := 50 } (va_Pc [.ref h, .int ly, .int kx, .int ly2, .int dx] (xPre D kA sz (moW h mm kA v g))) (va_Qi (fun (r : Int32) (u : (Nat → Int32) × (Nat → Nat → Int32)) => MI u.1 u.2 ∧ u.1 2 = 0 ∧ u.1 1 = v 1 ∧ u.1 4 = v 4 ∧ u.1 5 = v 5 ∧ ∀ j, j ≠ 1 → j ≠ 2 → j ≠ 24 → u.2 j = g j) (fun (u : (Nat → Int32) × (Nat → Nat → Int32)) t => va_P D xcl (moW h mm kA u.1 u.2) t.heap ∧ va_D (va_A (moW h mm kA v g) sz) (moW h mm kA u.1 u.2)) (va_A (moW h mm kA v g) sz)) 0 0 (va_A (moW h mm kA v g) sz) := by
  refine Met.ofW (cc := xb_Mo_peek) (maxL := 8) (ret := (some .boolean)) (by decide) rfl ?_
  intro p e s m args below meth c s₁ B hml hv
  obtain ⟨rfl, hsz, hP, hK, hD0⟩ := hv
  have hx := B.exec
  have hb := B.bytes
  have hr := B.returns
  have hT := x_hT B.pre
  have hown : s.vm.findClass xR_Mo = some m.cls := findClass_of_methodNamed B.named
  have hlocks := B.notSynchronized
  subst hsz
  have hD := hD0.self (sz := s.heap.size)
  generalize hAe : va_A (moW h mm kA v g) s.heap.size = A at hD ⊢
  have hA : ∀ q : Nat, s.heap.size ≤ q → A q := fun q h => by rw [← hAe]; exact Or.inr h
  have hS : va_S A s.heap s.heap [] := va_S.rf
  have hl := lv_entry ([.ref h, .int ly, .int kx, .int ly2, .int dx]) (n := 8) (Nat.le_of_ble_eq_true rfl)
  rw [lg_entry_eq]
  generalize (lg_sl ([.ref h, .int ly, .int kx, .int ly2, .int dx]) ++ List.replicate (8 - (lg_sl ([.ref h, .int ly, .int kx, .int ly2, .int dx])).length) Slot.unset).toArray = ls at hl ⊢
  have hl : lv_has ls 8 [(0, .ref h), (1, .int ly), (2, .int kx), (3, .int ly2), (4, .int dx)] := hl
  have hP : va_P D xcl (moW h mm kA v g) s.heap := hP
  refine lv_aload_n hx hb xd_Mo_peek_0 rfl (lv_at hl 0 rfl) ?_
  refine lv_iconst (v := 0) hx hb xd_Mo_peek_1 (by decide) ?_
  refine va_put (D := D) (ci := 4) (v := .int 0) (ty := .int) (C := xR_Mo) (T := xT_Mo) (N := 31) hx hb hT xi_Mo xt_Mo xt_Mo_ok xn_Mo hown hK.1 hP hD hS 0 rfl rfl 0 (by decide) (hT _ k4r_0) (fun _ h9 => h9) rfl (by decide +kernel) rfl rfl (Nat.le_of_ble_eq_true rfl) xd_Mo_peek_2 (fun H locs hP hD hS => ?_)
  have hP : va_P D xcl (moW h mm kA (va_up v 0 0) g) H := hP
  have hD : va_D A (moW h mm kA (va_up v 0 0) g) := hD
  refine lv_aload_n hx hb xd_Mo_peek_5 rfl (lv_at hl 0 rfl) ?_
  have hFc := va_free (wc := (moW h mm kA (va_up v 0 0) g)) hD hS hA [0, 1, 2, 3, 4, 5, 6, 7, 8, 9, 10, 11, 12, 13, 14, 15, 16, 17, 18, 19, 20, 21, 22, 23, 24, 25] rfl
  refine va_calli (va_runV (As := []) (rest := []) ⟨hx, hb, hml, hown, hT⟩ (xc_Mo_oneName l D kA H.size h mm (va_up v 0 0) g wr (by first | assumption | omega) (by first | assumption | omega)) (cwV 0 hT (wT_V k4r_25 k4r_26 k4r_27 k4r_9 k4r_24) rfl rfl rfl (by decide +kernel) ⟨Nat.le_of_ble_eq_true rfl, Nat.le_of_ble_eq_true rfl⟩) (x_preV hK hP hD 0 rfl rfl) rfl rfl hl.1 rfl (lv_room (Nat.le_of_ble_eq_true rfl)) xd_Mo_peek_6 ⟨Nat.le_of_ble_eq_true rfl, Nat.le_of_ble_eq_true rfl⟩) hS (fun q _ h => hFc q h) hFc (fun r1 u2 t H1 locs ht hvm hp3 hB hz1 hk1 hS => ?_)
  obtain ⟨hP1, hD1⟩ := hB
  rw [ht] at hP1
  have hD1 := hD1.weaken (fun _ _ _ h => hFc _ h)
  obtain ⟨v4, g5⟩ := u2
  generalize H1 = H at hP1 hS ⊢
  have hP := hP1
  have hD := hD1
  have hP : va_P D xcl (moW h mm kA v4 g5) H := hP
  have hD : va_D A (moW h mm kA v4 g5) := hD
  obtain ⟨wn, hv9, hgk⟩ := hp3
  have hv9 : v4 = (va_up (va_up (va_up v 0 0) 2 0) 3 (nI wn)) := hv9
  subst hv9
  have hgk : ∀ j, j ≠ 1 → j ≠ 2 → g5 j = g j := hgk
  have hM1 : MI (va_up (va_up (va_up v 0 0) 2 0) 3 (nI wn)) g5 := MI_g (hgk 0 (by decide) (by decide)) (hgk 3 (by decide) (by decide)) (hgk 4 (by decide) (by decide)) (hgk 5 (by decide) (by decide)) (hgk 12 (by decide) (by decide)) (hgk 19 (by decide) (by decide)) (hgk 20 (by decide) (by decide)) (hgk 21 (by decide) (by decide)) (MI_v rfl rfl hMI)
  obtain ⟨⟨nd, hnd12, hnd⟩, ⟨nl, hnl5, hnl, hpar⟩, hch, hpk, hrq, hmd, huq⟩ := id hM1
  have hP : va_P D xcl (moW h mm kA (va_up (va_up (va_up v 0 0) 2 0) 3 (nI wn)) g5) H := hP
  have hD : va_D A (moW h mm kA (va_up (va_up (va_up v 0 0) 2 0) 3 (nI wn)) g5) := hD
  refine lv_istore hx hb xd_Mo_peek_9 hl (Nat.le_of_ble_eq_true rfl) rfl (fun ls hl => ?_)
  have hl : lv_has ls 8 [(5, .int r1), (0, .ref h), (1, .int ly), (2, .int kx), (3, .int ly2), (4, .int dx)] := hl
  refine lv_aload_n hx hb xd_Mo_peek_11 rfl (lv_at hl 1 rfl) ?_
  refine lv_iload_n hx hb xd_Mo_peek_12 rfl (lv_at hl 2 rfl) ?_
  refine lv_iload_n hx hb xd_Mo_peek_13 rfl (lv_at hl 3 rfl) ?_
  have hFc := va_free (wc := (moW h mm kA (va_up (va_up (va_up v 0 0) 2 0) 3 (nI wn)) g5)) hD hS hA [0, 1, 2, 3, 4, 5, 6, 7, 8, 9, 10, 11, 12, 13, 14, 15, 16, 17, 18, 19, 20, 21, 22, 23, 24, 25] rfl
  refine va_calli (va_runV (As := [.int ly, .int kx]) (rest := []) ⟨hx, hb, hml, hown, hT⟩ (xc_Mo_moduleOf l D kA H.size h mm (va_up (va_up (va_up v 0 0) 2 0) 3 (nI wn)) g5 ly kx nl (by first | assumption | omega) (by first | assumption | omega) (by first | assumption | omega)) (cwV 2 hT (wT_V k4r_12 k4r_13 k4r_14 k4r_9 k4r_11) rfl rfl rfl (by decide +kernel) ⟨Nat.le_of_ble_eq_true rfl, Nat.le_of_ble_eq_true rfl⟩) (x_preV hK hP hD 0 rfl rfl) rfl rfl hl.1 rfl (lv_room (Nat.le_of_ble_eq_true rfl)) xd_Mo_peek_14 ⟨Nat.le_of_ble_eq_true rfl, Nat.le_of_ble_eq_true rfl⟩) hS (fun q _ h => hFc q h) hFc (fun r6 u7 t H1 locs ht hvm hp8 hB hz1 hk1 hS => ?_)
  obtain ⟨hP1, hD1⟩ := hB
  rw [ht] at hP1
  have hD1 := hD1.weaken (fun _ _ _ h => hFc _ h)
  generalize H1 = H at hP1 hS ⊢
  have hP := hP1
  have hD := hD1
  have hP : va_P D xcl (moW h mm kA (va_up (va_up (va_up v 0 0) 2 0) 3 (nI wn)) g5) H := hP
  have hD : va_D A (moW h mm kA (va_up (va_up (va_up v 0 0) 2 0) 3 (nI wn)) g5) := hD
  rcases hp8 with rfl | ⟨z9, z10, z11, rfl, z12, rfl⟩
  · refine lv_istore hx hb xd_Mo_peek_17 hl (Nat.le_of_ble_eq_true rfl) rfl (fun ls hl => ?_)
    have hl : lv_has ls 8 [(6, .int (-1)), (5, .int r1), (0, .ref h), (1, .int ly), (2, .int kx), (3, .int ly2), (4, .int dx)] := hl
    refine lv_iload hx hb xd_Mo_peek_19 (lv_at hl 1 rfl) ?_
    refine lv_if_eq (tgt := 39) hx hb xd_Mo_peek_21 (by decide) (fun hc13 => ?_) (fun hc13 => ?_)
    · refine lv_aload_n hx hb xd_Mo_peek_39 rfl (lv_at hl 2 rfl) ?_
      refine lv_iconst (v := 1) hx hb xd_Mo_peek_40 (by decide) ?_
      refine va_put (D := D) (ci := 4) (v := .int 1) (ty := .int) (C := xR_Mo) (T := xT_Mo) (N := 31) hx hb hT xi_Mo xt_Mo xt_Mo_ok xn_Mo hown hK.1 hP hD hS 0 rfl rfl 0 (by decide) (hT _ k4r_0) (fun _ h9 => h9) rfl (by decide +kernel) rfl rfl (Nat.le_of_ble_eq_true rfl) xd_Mo_peek_41 (fun H locs hP hD hS => ?_)
      have hP : va_P D xcl (moW h mm kA (va_up (va_up (va_up v 0 1) 2 0) 3 (nI wn)) g5) H := hP
      have hD : va_D A (moW h mm kA (va_up (va_up (va_up v 0 1) 2 0) 3 (nI wn)) g5) := hD
      refine lv_iconst (v := 0) hx hb xd_Mo_peek_44 (by decide) ?_
      exact W.zret (v := 0) hx hb hr rfl (fun t ht hW => ⟨⟨0, ((va_up (va_up (va_up v 0 1) 2 0) 3 (nI wn)), g5), rfl, ⟨MI_v rfl rfl hM1, rfl, rfl, rfl, rfl, fun j h1 h2 h3 => hgk j h1 h2⟩, by rw [ht]; exact hP, hD⟩, hS.F ht⟩) hS.2.2 xd_Mo_peek_45
    · refine lv_iload hx hb xd_Mo_peek_24 (lv_at hl 0 rfl) ?_
      refine lv_if_lt (tgt := 39) hx hb xd_Mo_peek_26 (by decide) (fun _ => ?_) (fun hc14 => absurd hc14 (by decide))
      refine lv_aload_n hx hb xd_Mo_peek_39 rfl (lv_at hl 2 rfl) ?_
      refine lv_iconst (v := 1) hx hb xd_Mo_peek_40 (by decide) ?_
      refine va_put (D := D) (ci := 4) (v := .int 1) (ty := .int) (C := xR_Mo) (T := xT_Mo) (N := 31) hx hb hT xi_Mo xt_Mo xt_Mo_ok xn_Mo hown hK.1 hP hD hS 0 rfl rfl 0 (by decide) (hT _ k4r_0) (fun _ h9 => h9) rfl (by decide +kernel) rfl rfl (Nat.le_of_ble_eq_true rfl) xd_Mo_peek_41 (fun H locs hP hD hS => ?_)
      have hP : va_P D xcl (moW h mm kA (va_up (va_up (va_up v 0 1) 2 0) 3 (nI wn)) g5) H := hP
      have hD : va_D A (moW h mm kA (va_up (va_up (va_up v 0 1) 2 0) 3 (nI wn)) g5) := hD
      refine lv_iconst (v := 0) hx hb xd_Mo_peek_44 (by decide) ?_
      exact W.zret (v := 0) hx hb hr rfl (fun t ht hW => ⟨⟨0, ((va_up (va_up (va_up v 0 1) 2 0) 3 (nI wn)), g5), rfl, ⟨MI_v rfl rfl hM1, rfl, rfl, rfl, rfl, fun j h1 h2 h3 => hgk j h1 h2⟩, by rw [ht]; exact hP, hD⟩, hS.F ht⟩) hS.2.2 xd_Mo_peek_45
  · have hl : lv_has ls 8 [(5, .int r1), (0, .ref h), (1, .int (nI z9)), (2, .int kx), (3, .int ly2), (4, .int dx)] := hl
    refine lv_istore hx hb xd_Mo_peek_17 hl (Nat.le_of_ble_eq_true rfl) rfl (fun ls hl => ?_)
    have hl : lv_has ls 8 [(6, .int (nI z10)), (5, .int r1), (0, .ref h), (1, .int (nI z9)), (2, .int kx), (3, .int ly2), (4, .int dx)] := hl
    refine lv_iload hx hb xd_Mo_peek_19 (lv_at hl 1 rfl) ?_
    refine lv_if_eq (tgt := 39) hx hb xd_Mo_peek_21 (by decide) (fun hc15 => ?_) (fun hc15 => ?_)
    · refine lv_aload_n hx hb xd_Mo_peek_39 rfl (lv_at hl 2 rfl) ?_
      refine lv_iconst (v := 1) hx hb xd_Mo_peek_40 (by decide) ?_
      refine va_put (D := D) (ci := 4) (v := .int 1) (ty := .int) (C := xR_Mo) (T := xT_Mo) (N := 31) hx hb hT xi_Mo xt_Mo xt_Mo_ok xn_Mo hown hK.1 hP hD hS 0 rfl rfl 0 (by decide) (hT _ k4r_0) (fun _ h9 => h9) rfl (by decide +kernel) rfl rfl (Nat.le_of_ble_eq_true rfl) xd_Mo_peek_41 (fun H locs hP hD hS => ?_)
      have hP : va_P D xcl (moW h mm kA (va_up (va_up (va_up v 0 1) 2 0) 3 (nI wn)) g5) H := hP
      have hD : va_D A (moW h mm kA (va_up (va_up (va_up v 0 1) 2 0) 3 (nI wn)) g5) := hD
      refine lv_iconst (v := 0) hx hb xd_Mo_peek_44 (by decide) ?_
      exact W.zret (v := 0) hx hb hr rfl (fun t ht hW => ⟨⟨0, ((va_up (va_up (va_up v 0 1) 2 0) 3 (nI wn)), g5), rfl, ⟨MI_v rfl rfl hM1, rfl, rfl, rfl, rfl, fun j h1 h2 h3 => hgk j h1 h2⟩, by rw [ht]; exact hP, hD⟩, hS.F ht⟩) hS.2.2 xd_Mo_peek_45
    · refine lv_iload hx hb xd_Mo_peek_24 (lv_at hl 0 rfl) ?_
      refine xz_lt (a := z10) (tgt := 39) hx hb xd_Mo_peek_26 (by decide) (by omega) ?_
      refine lv_aload_n hx hb xd_Mo_peek_29 rfl (lv_at hl 2 rfl) ?_
      refine lv_iload_n hx hb xd_Mo_peek_30 rfl (lv_at hl 5 rfl) ?_
      refine lv_iload hx hb xd_Mo_peek_31 (lv_at hl 6 rfl) ?_
      have hFc := va_free (wc := (moW h mm kA (va_up (va_up (va_up v 0 0) 2 0) 3 (nI wn)) g5)) hD hS hA [0, 1, 2, 3, 4, 5, 6, 7, 8, 9, 10, 11, 12, 13, 14, 15, 16, 17, 18, 19, 20, 21, 22, 23, 24, 25] rfl
      refine va_calli (va_runV (As := [.int ly2, .int dx]) (rest := []) ⟨hx, hb, hml, hown, hT⟩ (xc_Mo_isThere l D kA H.size h mm (va_up (va_up (va_up v 0 0) 2 0) 3 (nI wn)) g5 ly2 dx nl nd (by first | assumption | omega) (by first | assumption | omega) (by first | assumption | omega) (by first | assumption | omega) (by first | assumption | omega)) (cwV 2 hT (wT_V k4r_16 k4r_17 k4r_18 k4r_9 k4r_15) rfl rfl rfl (by decide +kernel) ⟨Nat.le_of_ble_eq_true rfl, Nat.le_of_ble_eq_true rfl⟩) (x_preV hK hP hD 0 rfl rfl) rfl rfl hl.1 rfl (lv_room (Nat.le_of_ble_eq_true rfl)) xd_Mo_peek_33 ⟨Nat.le_of_ble_eq_true rfl, Nat.le_of_ble_eq_true rfl⟩) hS (fun q _ h => hFc q h) hFc (fun r17 u18 t H1 locs ht hvm hp19 hB hz1 hk1 hS => ?_)
      obtain ⟨hP1, hD1⟩ := hB
      rw [ht] at hP1
      have hD1 := hD1.weaken (fun _ _ _ h => hFc _ h)
      generalize H1 = H at hP1 hS ⊢
      have hP := hP1
      have hD := hD1
      have hP : va_P D xcl (moW h mm kA (va_up (va_up (va_up v 0 0) 2 0) 3 (nI wn)) g5) H := hP
      have hD : va_D A (moW h mm kA (va_up (va_up (va_up v 0 0) 2 0) 3 (nI wn)) g5) := hD
      rcases hp19 with rfl | ⟨rfl, z20, z21, z22, rfl, z23, rfl⟩
      · refine xz_ne (a := 0) (tgt := 46) hx hb xd_Mo_peek_36 (by decide) (by omega) (fun hc24 => absurd hc24 (by omega)) (fun _ => ?_)
        refine lv_aload_n hx hb xd_Mo_peek_39 rfl (lv_at hl 2 rfl) ?_
        refine lv_iconst (v := 1) hx hb xd_Mo_peek_40 (by decide) ?_
        refine va_put (D := D) (ci := 4) (v := .int 1) (ty := .int) (C := xR_Mo) (T := xT_Mo) (N := 31) hx hb hT xi_Mo xt_Mo xt_Mo_ok xn_Mo hown hK.1 hP hD hS 0 rfl rfl 0 (by decide) (hT _ k4r_0) (fun _ h9 => h9) rfl (by decide +kernel) rfl rfl (Nat.le_of_ble_eq_true rfl) xd_Mo_peek_41 (fun H locs hP hD hS => ?_)
        have hP : va_P D xcl (moW h mm kA (va_up (va_up (va_up v 0 1) 2 0) 3 (nI wn)) g5) H := hP
        have hD : va_D A (moW h mm kA (va_up (va_up (va_up v 0 1) 2 0) 3 (nI wn)) g5) := hD
        refine lv_iconst (v := 0) hx hb xd_Mo_peek_44 (by decide) ?_
        exact W.zret (v := 0) hx hb hr rfl (fun t ht hW => ⟨⟨0, ((va_up (va_up (va_up v 0 1) 2 0) 3 (nI wn)), g5), rfl, ⟨MI_v rfl rfl hM1, rfl, rfl, rfl, rfl, fun j h1 h2 h3 => hgk j h1 h2⟩, by rw [ht]; exact hP, hD⟩, hS.F ht⟩) hS.2.2 xd_Mo_peek_45
      · have hl : lv_has ls 8 [(6, .int (nI z10)), (5, .int r1), (0, .ref h), (1, .int (nI z9)), (2, .int kx), (3, .int (nI z20)), (4, .int (nI z21))] := hl
        refine xz_ne (a := 1) (tgt := 46) hx hb xd_Mo_peek_36 (by decide) (by omega) (fun _ => ?_) (fun hc25 => absurd hc25 (by omega))
        obtain ⟨pke, hpke, epke⟩ := hpk z21 (by omega)
        refine lv_aload_n hx hb xd_Mo_peek_46 rfl (lv_at hl 2 rfl) ?_
        refine lv_iload hx hb xd_Mo_peek_47 (lv_at hl 6 rfl) ?_
        refine lv_iload hx hb xd_Mo_peek_49 (lv_at hl 1 rfl) ?_
        have hFc := va_free (wc := (moW h mm kA (va_up (va_up (va_up v 0 0) 2 0) 3 (nI wn)) g5)) hD hS hA [0, 1, 2, 3, 4, 5, 6, 7, 8, 9, 10, 11, 12, 13, 14, 15, 16, 17, 18, 19, 20, 21, 22, 23, 24, 25] rfl
        refine va_calli (va_runV (As := [.int (nI z21), .int r1]) (rest := []) ⟨hx, hb, hml, hown, hT⟩ (xc_Mo_packageOf l D kA H.size h mm (va_up (va_up (va_up v 0 0) 2 0) 3 (nI wn)) g5 z21 r1 pke (by first | assumption | omega) (by first | assumption | omega) (by first | assumption | omega)) (cwV 2 hT (wT_V k4r_33 k4r_34 k4r_35 k4r_9 k4r_32) rfl rfl rfl (by decide +kernel) ⟨Nat.le_of_ble_eq_true rfl, Nat.le_of_ble_eq_true rfl⟩) (x_preV hK hP hD 0 rfl rfl) rfl rfl hl.1 rfl (lv_room (Nat.le_of_ble_eq_true rfl)) xd_Mo_peek_51 ⟨Nat.le_of_ble_eq_true rfl, Nat.le_of_ble_eq_true rfl⟩) hS (fun q _ h => hFc q h) hFc (fun r26 u27 t H1 locs ht hvm hp28 hB hz1 hk1 hS => ?_)
        obtain ⟨hP1, hD1⟩ := hB
        rw [ht] at hP1
        have hD1 := hD1.weaken (fun _ _ _ h => hFc _ h)
        generalize H1 = H at hP1 hS ⊢
        have hP := hP1
        have hD := hD1
        have hP : va_P D xcl (moW h mm kA (va_up (va_up (va_up v 0 0) 2 0) 3 (nI wn)) g5) H := hP
        have hD : va_D A (moW h mm kA (va_up (va_up (va_up v 0 0) 2 0) 3 (nI wn)) g5) := hD
        rcases hp28 with ⟨z29, z30, z31, rfl, z32⟩ | ⟨rfl, z33⟩
        · refine lv_istore hx hb xd_Mo_peek_54 hl (Nat.le_of_ble_eq_true rfl) rfl (fun ls hl => ?_)
          have hl : lv_has ls 8 [(7, .int (nI z29)), (6, .int (nI z10)), (5, .int r1), (0, .ref h), (1, .int (nI z9)), (2, .int kx), (3, .int (nI z20)), (4, .int (nI z21))] := hl
          refine lv_aload_n hx hb xd_Mo_peek_56 rfl (lv_at hl 3 rfl) ?_
          refine lv_iload hx hb xd_Mo_peek_57 (lv_at hl 0 rfl) ?_
          refine xz_ge (a := z29) (tgt := 66) hx hb xd_Mo_peek_59 (by decide) (by omega) ?_
          refine lv_iconst (v := 0) hx hb xd_Mo_peek_66 (by decide) ?_
          refine va_put (D := D) (ci := 4) (v := .int 0) (ty := .int) (C := xR_Mo) (T := xT_Mo) (N := 31) hx hb hT xi_Mo xt_Mo xt_Mo_ok xn_Mo hown hK.1 hP hD hS 0 rfl rfl 0 (by decide) (hT _ k4r_0) (fun _ h9 => h9) rfl (by decide +kernel) rfl rfl (Nat.le_of_ble_eq_true rfl) xd_Mo_peek_67 (fun H locs hP hD hS => ?_)
          have hP : va_P D xcl (moW h mm kA (va_up (va_up (va_up v 0 0) 2 0) 3 (nI wn)) g5) H := hP
          have hD : va_D A (moW h mm kA (va_up (va_up (va_up v 0 0) 2 0) 3 (nI wn)) g5) := hD
          refine lv_iload hx hb xd_Mo_peek_70 (lv_at hl 0 rfl) ?_
          refine xz_ge (a := z29) (tgt := 77) hx hb xd_Mo_peek_72 (by decide) (by omega) ?_
          refine lv_iload_n hx hb xd_Mo_peek_77 rfl (lv_at hl 4 rfl) ?_
          refine lv_iload_n hx hb xd_Mo_peek_78 rfl (lv_at hl 6 rfl) ?_
          refine xn_ne (a := z9) (b := z20) (tgt := 91) hx hb xd_Mo_peek_79 (by decide) (by omega) (by omega) (fun hc36 => ?_) (fun hc36 => ?_)
          · refine lv_aload_n hx hb xd_Mo_peek_91 rfl (lv_at hl 3 rfl) ?_
            refine lv_iload_n hx hb xd_Mo_peek_92 rfl (lv_at hl 4 rfl) ?_
            refine lv_iload hx hb xd_Mo_peek_93 (lv_at hl 1 rfl) ?_
            have hFc := va_free (wc := (moW h mm kA (va_up (va_up (va_up v 0 0) 2 0) 3 (nI wn)) g5)) hD hS hA [0, 1, 2, 3, 4, 5, 6, 7, 8, 9, 10, 11, 12, 13, 14, 15, 16, 17, 18, 19, 20, 21, 22, 23, 24, 25] rfl
            refine va_callv (va_runV (As := [.int (nI z9), .int (nI z10)]) (rest := []) ⟨hx, hb, hml, hown, hT⟩ (xc_Mo_reading l D kA H.size h mm (va_up (va_up (va_up v 0 0) 2 0) 3 (nI wn)) g5 z9 z10 nl (MI_v rfl rfl hM1) (by first | assumption | omega) hpar (by first | assumption | omega) (by first | assumption | omega)) (cwV 2 hT (wT_V k4r_20 k4r_21 k4r_22 k4r_9 k4r_19) rfl rfl rfl (by decide +kernel) ⟨Nat.le_of_ble_eq_true rfl, Nat.le_of_ble_eq_true rfl⟩) (x_preV hK hP hD 0 rfl rfl) rfl rfl hl.1 rfl (lv_room (Nat.le_of_ble_eq_true rfl)) xd_Mo_peek_95 ⟨Nat.le_of_ble_eq_true rfl, Nat.le_of_ble_eq_true rfl⟩) hS (fun q _ h => hFc q h) hFc (fun u38 t H1 locs ht hvm hp39 hB hz1 hk1 hS => ?_)
            obtain ⟨hP1, hD1⟩ := hB
            rw [ht] at hP1
            have hD1 := hD1.weaken (fun _ _ _ h => hFc _ h)
            obtain ⟨v40, g41⟩ := u38
            generalize H1 = H at hP1 hS ⊢
            have hP := hP1
            have hD := hD1
            have hP : va_P D xcl (moW h mm kA v40 g41) H := hP
            have hD : va_D A (moW h mm kA v40 g41) := hD
            obtain ⟨hu9, hfr9, hbz9, hsn9⟩ := hp39
            have hu9 : v40 = (va_up (va_up (va_up v 0 0) 2 0) 3 (nI wn)) := hu9
            subst hu9
            have hfr9 : ∀ j, j ≠ 24 → g41 j = g5 j := hfr9
            have hbz9 : bz (g41 24) := hbz9
            have hP : va_P D xcl (moW h mm kA (va_up (va_up (va_up v 0 0) 2 0) 3 (nI wn)) g41) H := hP
            have hD : va_D A (moW h mm kA (va_up (va_up (va_up v 0 0) 2 0) 3 (nI wn)) g41) := hD
            have hpk : ∀ d, d < 12 → ∃ k, k ≤ 6 ∧ g41 5 d = nI k := by rw [hfr9 5 (by decide)]; exact hpk
            refine lv_aload_n hx hb xd_Mo_peek_98 rfl (lv_at hl 3 rfl) ?_
            refine va_get (D := D) (ci := 4) (v := .ref (mm 24)) (C := xR_Mo) (T := xT_Mo) (N := 31) hx hb hT xi_Mo hown hK.1 hP 0 rfl rfl 30 (by decide) (hT _ k4r_23) (fun _ h9 => h9) rfl xd_Mo_peek_99 ?_
            refine lv_bipush (v := 12) hx hb xd_Mo_peek_102 (by decide) ?_
            refine lv_iload_n hx hb xd_Mo_peek_104 rfl (lv_at hl 6 rfl) ?_
            refine lv_imul hx hb xd_Mo_peek_105 ?_
            refine xn_top (y := nI (12 * z20)) (pk_mul 12 z20) ?_
            refine lv_iload hx hb xd_Mo_peek_106 (lv_at hl 7 rfl) ?_
            refine lv_iadd hx hb xd_Mo_peek_108 ?_
            refine xn_top (y := nI ((12 * z20) + z21)) (nI_add (12 * z20) z21) ?_
            refine xn_zald (i := (12 * z20) + z21) hx hb hK.1 hP 25 2 rfl rfl (by omega) (by decide) xd_Mo_peek_109 ?_
            refine lv_if_eq (tgt := 169) hx hb xd_Mo_peek_110 (by decide) (fun hc42 => ?_) (fun hc42 => ?_)
            · refine lv_iconst (v := 0) hx hb xd_Mo_peek_169 (by decide) ?_
              exact W.zret (v := 0) hx hb hr rfl (fun t ht hW => ⟨⟨0, ((va_up (va_up (va_up v 0 0) 2 0) 3 (nI wn)), g41), rfl, ⟨MI_g (hfr9 0 (by decide)) (hfr9 3 (by decide)) (hfr9 4 (by decide)) (hfr9 5 (by decide)) (hfr9 12 (by decide)) (hfr9 19 (by decide)) (hfr9 20 (by decide)) (hfr9 21 (by decide)) (MI_v rfl rfl hM1), rfl, rfl, rfl, rfl, fun j h1 h2 h3 => (hfr9 j h3).trans (hgk j h1 h2)⟩, by rw [ht]; exact hP, hD⟩, hS.F ht⟩) hS.2.2 xd_Mo_peek_170
            · refine lv_aload_n hx hb xd_Mo_peek_113 rfl (lv_at hl 3 rfl) ?_
              refine lv_aload_n hx hb xd_Mo_peek_114 rfl (lv_at hl 3 rfl) ?_
              refine va_get (D := D) (ci := 4) (v := .ref (mm 10)) (C := xR_Mo) (T := xT_Mo) (N := 31) hx hb hT xi_Mo hown hK.1 hP 0 rfl rfl 15 (by decide) (hT _ k4r_41) (fun _ h9 => h9) rfl xd_Mo_peek_115 ?_
              refine lv_iload hx hb xd_Mo_peek_118 (lv_at hl 0 rfl) ?_
              refine xn_zald (i := z29) hx hb hK.1 hP 11 2 rfl rfl (by omega) (by decide) xd_Mo_peek_120 ?_
              refine lv_aload_n hx hb xd_Mo_peek_121 rfl (lv_at hl 3 rfl) ?_
              refine va_get (D := D) (ci := 4) (v := .ref (mm 8)) (C := xR_Mo) (T := xT_Mo) (N := 31) hx hb hT xi_Mo hown hK.1 hP 0 rfl rfl 13 (by decide) (hT _ k4r_42) (fun _ h9 => h9) rfl xd_Mo_peek_122 ?_
              refine lv_iconst (v := 3) hx hb xd_Mo_peek_125 (by decide) ?_
              refine lv_iload hx hb xd_Mo_peek_126 (lv_at hl 0 rfl) ?_
              refine lv_imul hx hb xd_Mo_peek_128 ?_
              refine xn_top (y := nI (3 * z29)) (pk_mul 3 z29) ?_
              refine xn_iald (i := 3 * z29) hx hb hK.1 hP 9 0 rfl rfl (by omega) (by decide) xd_Mo_peek_129 ?_
              refine lv_aload_n hx hb xd_Mo_peek_130 rfl (lv_at hl 3 rfl) ?_
              refine va_get (D := D) (ci := 4) (v := .ref (mm 8)) (C := xR_Mo) (T := xT_Mo) (N := 31) hx hb hT xi_Mo hown hK.1 hP 0 rfl rfl 13 (by decide) (hT _ k4r_42) (fun _ h9 => h9) rfl xd_Mo_peek_131 ?_
              refine lv_iconst (v := 3) hx hb xd_Mo_peek_134 (by decide) ?_
              refine lv_iload hx hb xd_Mo_peek_135 (lv_at hl 0 rfl) ?_
              refine lv_imul hx hb xd_Mo_peek_137 ?_
              refine xn_top (y := nI (3 * z29)) (pk_mul 3 z29) ?_
              refine lv_iconst (v := 1) hx hb xd_Mo_peek_138 (by decide) ?_
              refine lv_iadd hx hb xd_Mo_peek_139 ?_
              refine xn_top (y := nI ((3 * z29) + 1)) (nI_add (3 * z29) 1) ?_
              refine xn_iald (i := (3 * z29) + 1) hx hb hK.1 hP 9 0 rfl rfl (by omega) (by decide) xd_Mo_peek_140 ?_
              refine lv_aload_n hx hb xd_Mo_peek_141 rfl (lv_at hl 3 rfl) ?_
              refine va_get (D := D) (ci := 4) (v := .ref (mm 8)) (C := xR_Mo) (T := xT_Mo) (N := 31) hx hb hT xi_Mo hown hK.1 hP 0 rfl rfl 13 (by decide) (hT _ k4r_42) (fun _ h9 => h9) rfl xd_Mo_peek_142 ?_
              refine lv_iconst (v := 3) hx hb xd_Mo_peek_145 (by decide) ?_
              refine lv_iload hx hb xd_Mo_peek_146 (lv_at hl 0 rfl) ?_
              refine lv_imul hx hb xd_Mo_peek_148 ?_
              refine xn_top (y := nI (3 * z29)) (pk_mul 3 z29) ?_
              refine lv_iconst (v := 2) hx hb xd_Mo_peek_149 (by decide) ?_
              refine lv_iadd hx hb xd_Mo_peek_150 ?_
              refine xn_top (y := nI ((3 * z29) + 2)) (nI_add (3 * z29) 2) ?_
              refine xn_iald (i := (3 * z29) + 2) hx hb hK.1 hP 9 0 rfl rfl (by omega) (by decide) xd_Mo_peek_151 ?_
              refine lv_aload_n hx hb xd_Mo_peek_152 rfl (lv_at hl 3 rfl) ?_
              refine va_get (D := D) (ci := 4) (v := .ref (mm 4)) (C := xR_Mo) (T := xT_Mo) (N := 31) hx hb hT xi_Mo hown hK.1 hP 0 rfl rfl 9 (by decide) (hT _ k4r_36) (fun _ h9 => h9) rfl xd_Mo_peek_153 ?_
              refine lv_iload hx hb xd_Mo_peek_156 (lv_at hl 1 rfl) ?_
              refine xn_iald (i := z10) hx hb hK.1 hP 5 0 rfl rfl (by omega) (by decide) xd_Mo_peek_158 ?_
              have hFc := va_free (wc := (moW h mm kA (va_up (va_up (va_up v 0 0) 2 0) 3 (nI wn)) g41)) hD hS hA [0, 1, 2, 3, 4, 5, 6, 7, 8, 9, 10, 11, 12, 13, 14, 15, 16, 17, 18, 19, 20, 21, 22, 23, 24, 25] rfl
              refine va_calli (va_runV (As := [.int (g41 10 z29), .int (g41 8 (3 * z29)), .int (g41 8 ((3 * z29) + 1)), .int (g41 8 ((3 * z29) + 2)), .int (g41 4 z10)]) (rest := []) ⟨hx, hb, hml, hown, hT⟩ (xc_Mo_isTo l D kA H.size h mm (va_up (va_up (va_up v 0 0) 2 0) 3 (nI wn)) g41 (g41 10 z29) (g41 8 (3 * z29)) (g41 8 ((3 * z29) + 1)) (g41 8 ((3 * z29) + 2)) (g41 4 z10)) (cwV 5 hT (wT_V k4r_44 k4r_45 k4r_46 k4r_9 k4r_43) rfl rfl rfl (by decide +kernel) ⟨Nat.le_of_ble_eq_true rfl, Nat.le_of_ble_eq_true rfl⟩) (x_preV hK hP hD 0 rfl rfl) rfl rfl hl.1 rfl (lv_room (Nat.le_of_ble_eq_true rfl)) xd_Mo_peek_159 ⟨Nat.le_of_ble_eq_true rfl, Nat.le_of_ble_eq_true rfl⟩) hS (fun q _ h => hFc q h) hFc (fun r43 u44 t H1 locs ht hvm hp45 hB hz1 hk1 hS => ?_)
              obtain ⟨hP1, hD1⟩ := hB
              rw [ht] at hP1
              have hD1 := hD1.weaken (fun _ _ _ h => hFc _ h)
              generalize H1 = H at hP1 hS ⊢
              have hP := hP1
              have hD := hD1
              have hP : va_P D xcl (moW h mm kA (va_up (va_up (va_up v 0 0) 2 0) 3 (nI wn)) g41) H := hP
              have hD : va_D A (moW h mm kA (va_up (va_up (va_up v 0 0) 2 0) 3 (nI wn)) g41) := hD
              rcases hp45 with rfl | rfl
              · refine xz_eq (a := 0) (tgt := 169) hx hb xd_Mo_peek_162 (by decide) (by omega) (fun _ => ?_) (fun hc46 => absurd hc46 (by omega))
                refine lv_iconst (v := 0) hx hb xd_Mo_peek_169 (by decide) ?_
                exact W.zret (v := 0) hx hb hr rfl (fun t ht hW => ⟨⟨0, ((va_up (va_up (va_up v 0 0) 2 0) 3 (nI wn)), g41), rfl, ⟨MI_g (hfr9 0 (by decide)) (hfr9 3 (by decide)) (hfr9 4 (by decide)) (hfr9 5 (by decide)) (hfr9 12 (by decide)) (hfr9 19 (by decide)) (hfr9 20 (by decide)) (hfr9 21 (by decide)) (MI_v rfl rfl hM1), rfl, rfl, rfl, rfl, fun j h1 h2 h3 => (hfr9 j h3).trans (hgk j h1 h2)⟩, by rw [ht]; exact hP, hD⟩, hS.F ht⟩) hS.2.2 xd_Mo_peek_170
              · refine xz_eq (a := 1) (tgt := 169) hx hb xd_Mo_peek_162 (by decide) (by omega) (fun hc47 => absurd hc47 (by omega)) (fun _ => ?_)
                refine lv_iconst (v := 1) hx hb xd_Mo_peek_165 (by decide) ?_
                refine lv_goto (tgt := 170) hx hb xd_Mo_peek_166 (by decide) ?_
                exact W.zret (v := 1) hx hb hr rfl (fun t ht hW => ⟨⟨1, ((va_up (va_up (va_up v 0 0) 2 0) 3 (nI wn)), g41), rfl, ⟨MI_g (hfr9 0 (by decide)) (hfr9 3 (by decide)) (hfr9 4 (by decide)) (hfr9 5 (by decide)) (hfr9 12 (by decide)) (hfr9 19 (by decide)) (hfr9 20 (by decide)) (hfr9 21 (by decide)) (MI_v rfl rfl hM1), rfl, rfl, rfl, rfl, fun j h1 h2 h3 => (hfr9 j h3).trans (hgk j h1 h2)⟩, by rw [ht]; exact hP, hD⟩, hS.F ht⟩) hS.2.2 xd_Mo_peek_170
          · refine lv_iload hx hb xd_Mo_peek_82 (lv_at hl 1 rfl) ?_
            refine lv_iload hx hb xd_Mo_peek_84 (lv_at hl 7 rfl) ?_
            refine xn_ne (a := z10) (b := z21) (tgt := 91) hx hb xd_Mo_peek_86 (by decide) (by omega) (by omega) (fun hc48 => ?_) (fun hc48 => ?_)
            · refine lv_aload_n hx hb xd_Mo_peek_91 rfl (lv_at hl 3 rfl) ?_
              refine lv_iload_n hx hb xd_Mo_peek_92 rfl (lv_at hl 4 rfl) ?_
              refine lv_iload hx hb xd_Mo_peek_93 (lv_at hl 1 rfl) ?_
              have hFc := va_free (wc := (moW h mm kA (va_up (va_up (va_up v 0 0) 2 0) 3 (nI wn)) g5)) hD hS hA [0, 1, 2, 3, 4, 5, 6, 7, 8, 9, 10, 11, 12, 13, 14, 15, 16, 17, 18, 19, 20, 21, 22, 23, 24, 25] rfl
              refine va_callv (va_runV (As := [.int (nI z9), .int (nI z10)]) (rest := []) ⟨hx, hb, hml, hown, hT⟩ (xc_Mo_reading l D kA H.size h mm (va_up (va_up (va_up v 0 0) 2 0) 3 (nI wn)) g5 z9 z10 nl (MI_v rfl rfl hM1) (by first | assumption | omega) hpar (by first | assumption | omega) (by first | assumption | omega)) (cwV 2 hT (wT_V k4r_20 k4r_21 k4r_22 k4r_9 k4r_19) rfl rfl rfl (by decide +kernel) ⟨Nat.le_of_ble_eq_true rfl, Nat.le_of_ble_eq_true rfl⟩) (x_preV hK hP hD 0 rfl rfl) rfl rfl hl.1 rfl (lv_room (Nat.le_of_ble_eq_true rfl)) xd_Mo_peek_95 ⟨Nat.le_of_ble_eq_true rfl, Nat.le_of_ble_eq_true rfl⟩) hS (fun q _ h => hFc q h) hFc (fun u50 t H1 locs ht hvm hp51 hB hz1 hk1 hS => ?_)
              obtain ⟨hP1, hD1⟩ := hB
              rw [ht] at hP1
              have hD1 := hD1.weaken (fun _ _ _ h => hFc _ h)
              obtain ⟨v52, g53⟩ := u50
              generalize H1 = H at hP1 hS ⊢
              have hP := hP1
              have hD := hD1
              have hP : va_P D xcl (moW h mm kA v52 g53) H := hP
              have hD : va_D A (moW h mm kA v52 g53) := hD
              obtain ⟨hu9, hfr9, hbz9, hsn9⟩ := hp51
              have hu9 : v52 = (va_up (va_up (va_up v 0 0) 2 0) 3 (nI wn)) := hu9
              subst hu9
              have hfr9 : ∀ j, j ≠ 24 → g53 j = g5 j := hfr9
              have hbz9 : bz (g53 24) := hbz9
              have hP : va_P D xcl (moW h mm kA (va_up (va_up (va_up v 0 0) 2 0) 3 (nI wn)) g53) H := hP
              have hD : va_D A (moW h mm kA (va_up (va_up (va_up v 0 0) 2 0) 3 (nI wn)) g53) := hD
              have hpk : ∀ d, d < 12 → ∃ k, k ≤ 6 ∧ g53 5 d = nI k := by rw [hfr9 5 (by decide)]; exact hpk
              refine lv_aload_n hx hb xd_Mo_peek_98 rfl (lv_at hl 3 rfl) ?_
              refine va_get (D := D) (ci := 4) (v := .ref (mm 24)) (C := xR_Mo) (T := xT_Mo) (N := 31) hx hb hT xi_Mo hown hK.1 hP 0 rfl rfl 30 (by decide) (hT _ k4r_23) (fun _ h9 => h9) rfl xd_Mo_peek_99 ?_
              refine lv_bipush (v := 12) hx hb xd_Mo_peek_102 (by decide) ?_
              refine lv_iload_n hx hb xd_Mo_peek_104 rfl (lv_at hl 6 rfl) ?_
              refine lv_imul hx hb xd_Mo_peek_105 ?_
              refine xn_top (y := nI (12 * z20)) (pk_mul 12 z20) ?_
              refine lv_iload hx hb xd_Mo_peek_106 (lv_at hl 7 rfl) ?_
              refine lv_iadd hx hb xd_Mo_peek_108 ?_
              refine xn_top (y := nI ((12 * z20) + z21)) (nI_add (12 * z20) z21) ?_
              refine xn_zald (i := (12 * z20) + z21) hx hb hK.1 hP 25 2 rfl rfl (by omega) (by decide) xd_Mo_peek_109 ?_
              refine lv_if_eq (tgt := 169) hx hb xd_Mo_peek_110 (by decide) (fun hc54 => ?_) (fun hc54 => ?_)
              · refine lv_iconst (v := 0) hx hb xd_Mo_peek_169 (by decide) ?_
                exact W.zret (v := 0) hx hb hr rfl (fun t ht hW => ⟨⟨0, ((va_up (va_up (va_up v 0 0) 2 0) 3 (nI wn)), g53), rfl, ⟨MI_g (hfr9 0 (by decide)) (hfr9 3 (by decide)) (hfr9 4 (by decide)) (hfr9 5 (by decide)) (hfr9 12 (by decide)) (hfr9 19 (by decide)) (hfr9 20 (by decide)) (hfr9 21 (by decide)) (MI_v rfl rfl hM1), rfl, rfl, rfl, rfl, fun j h1 h2 h3 => (hfr9 j h3).trans (hgk j h1 h2)⟩, by rw [ht]; exact hP, hD⟩, hS.F ht⟩) hS.2.2 xd_Mo_peek_170
              · refine lv_aload_n hx hb xd_Mo_peek_113 rfl (lv_at hl 3 rfl) ?_
                refine lv_aload_n hx hb xd_Mo_peek_114 rfl (lv_at hl 3 rfl) ?_
                refine va_get (D := D) (ci := 4) (v := .ref (mm 10)) (C := xR_Mo) (T := xT_Mo) (N := 31) hx hb hT xi_Mo hown hK.1 hP 0 rfl rfl 15 (by decide) (hT _ k4r_41) (fun _ h9 => h9) rfl xd_Mo_peek_115 ?_
                refine lv_iload hx hb xd_Mo_peek_118 (lv_at hl 0 rfl) ?_
                refine xn_zald (i := z29) hx hb hK.1 hP 11 2 rfl rfl (by omega) (by decide) xd_Mo_peek_120 ?_
                refine lv_aload_n hx hb xd_Mo_peek_121 rfl (lv_at hl 3 rfl) ?_
                refine va_get (D := D) (ci := 4) (v := .ref (mm 8)) (C := xR_Mo) (T := xT_Mo) (N := 31) hx hb hT xi_Mo hown hK.1 hP 0 rfl rfl 13 (by decide) (hT _ k4r_42) (fun _ h9 => h9) rfl xd_Mo_peek_122 ?_
                refine lv_iconst (v := 3) hx hb xd_Mo_peek_125 (by decide) ?_
                refine lv_iload hx hb xd_Mo_peek_126 (lv_at hl 0 rfl) ?_
                refine lv_imul hx hb xd_Mo_peek_128 ?_
                refine xn_top (y := nI (3 * z29)) (pk_mul 3 z29) ?_
                refine xn_iald (i := 3 * z29) hx hb hK.1 hP 9 0 rfl rfl (by omega) (by decide) xd_Mo_peek_129 ?_
                refine lv_aload_n hx hb xd_Mo_peek_130 rfl (lv_at hl 3 rfl) ?_
                refine va_get (D := D) (ci := 4) (v := .ref (mm 8)) (C := xR_Mo) (T := xT_Mo) (N := 31) hx hb hT xi_Mo hown hK.1 hP 0 rfl rfl 13 (by decide) (hT _ k4r_42) (fun _ h9 => h9) rfl xd_Mo_peek_131 ?_
                refine lv_iconst (v := 3) hx hb xd_Mo_peek_134 (by decide) ?_
                refine lv_iload hx hb xd_Mo_peek_135 (lv_at hl 0 rfl) ?_
                refine lv_imul hx hb xd_Mo_peek_137 ?_
                refine xn_top (y := nI (3 * z29)) (pk_mul 3 z29) ?_
                refine lv_iconst (v := 1) hx hb xd_Mo_peek_138 (by decide) ?_
                refine lv_iadd hx hb xd_Mo_peek_139 ?_
                refine xn_top (y := nI ((3 * z29) + 1)) (nI_add (3 * z29) 1) ?_
                refine xn_iald (i := (3 * z29) + 1) hx hb hK.1 hP 9 0 rfl rfl (by omega) (by decide) xd_Mo_peek_140 ?_
                refine lv_aload_n hx hb xd_Mo_peek_141 rfl (lv_at hl 3 rfl) ?_
                refine va_get (D := D) (ci := 4) (v := .ref (mm 8)) (C := xR_Mo) (T := xT_Mo) (N := 31) hx hb hT xi_Mo hown hK.1 hP 0 rfl rfl 13 (by decide) (hT _ k4r_42) (fun _ h9 => h9) rfl xd_Mo_peek_142 ?_
                refine lv_iconst (v := 3) hx hb xd_Mo_peek_145 (by decide) ?_
                refine lv_iload hx hb xd_Mo_peek_146 (lv_at hl 0 rfl) ?_
                refine lv_imul hx hb xd_Mo_peek_148 ?_
                refine xn_top (y := nI (3 * z29)) (pk_mul 3 z29) ?_
                refine lv_iconst (v := 2) hx hb xd_Mo_peek_149 (by decide) ?_
                refine lv_iadd hx hb xd_Mo_peek_150 ?_
                refine xn_top (y := nI ((3 * z29) + 2)) (nI_add (3 * z29) 2) ?_
                refine xn_iald (i := (3 * z29) + 2) hx hb hK.1 hP 9 0 rfl rfl (by omega) (by decide) xd_Mo_peek_151 ?_
                refine lv_aload_n hx hb xd_Mo_peek_152 rfl (lv_at hl 3 rfl) ?_
                refine va_get (D := D) (ci := 4) (v := .ref (mm 4)) (C := xR_Mo) (T := xT_Mo) (N := 31) hx hb hT xi_Mo hown hK.1 hP 0 rfl rfl 9 (by decide) (hT _ k4r_36) (fun _ h9 => h9) rfl xd_Mo_peek_153 ?_
                refine lv_iload hx hb xd_Mo_peek_156 (lv_at hl 1 rfl) ?_
                refine xn_iald (i := z10) hx hb hK.1 hP 5 0 rfl rfl (by omega) (by decide) xd_Mo_peek_158 ?_
                have hFc := va_free (wc := (moW h mm kA (va_up (va_up (va_up v 0 0) 2 0) 3 (nI wn)) g53)) hD hS hA [0, 1, 2, 3, 4, 5, 6, 7, 8, 9, 10, 11, 12, 13, 14, 15, 16, 17, 18, 19, 20, 21, 22, 23, 24, 25] rfl
                refine va_calli (va_runV (As := [.int (g53 10 z29), .int (g53 8 (3 * z29)), .int (g53 8 ((3 * z29) + 1)), .int (g53 8 ((3 * z29) + 2)), .int (g53 4 z10)]) (rest := []) ⟨hx, hb, hml, hown, hT⟩ (xc_Mo_isTo l D kA H.size h mm (va_up (va_up (va_up v 0 0) 2 0) 3 (nI wn)) g53 (g53 10 z29) (g53 8 (3 * z29)) (g53 8 ((3 * z29) + 1)) (g53 8 ((3 * z29) + 2)) (g53 4 z10)) (cwV 5 hT (wT_V k4r_44 k4r_45 k4r_46 k4r_9 k4r_43) rfl rfl rfl (by decide +kernel) ⟨Nat.le_of_ble_eq_true rfl, Nat.le_of_ble_eq_true rfl⟩) (x_preV hK hP hD 0 rfl rfl) rfl rfl hl.1 rfl (lv_room (Nat.le_of_ble_eq_true rfl)) xd_Mo_peek_159 ⟨Nat.le_of_ble_eq_true rfl, Nat.le_of_ble_eq_true rfl⟩) hS (fun q _ h => hFc q h) hFc (fun r55 u56 t H1 locs ht hvm hp57 hB hz1 hk1 hS => ?_)
                obtain ⟨hP1, hD1⟩ := hB
                rw [ht] at hP1
                have hD1 := hD1.weaken (fun _ _ _ h => hFc _ h)
                generalize H1 = H at hP1 hS ⊢
                have hP := hP1
                have hD := hD1
                have hP : va_P D xcl (moW h mm kA (va_up (va_up (va_up v 0 0) 2 0) 3 (nI wn)) g53) H := hP
                have hD : va_D A (moW h mm kA (va_up (va_up (va_up v 0 0) 2 0) 3 (nI wn)) g53) := hD
                rcases hp57 with rfl | rfl
                · refine xz_eq (a := 0) (tgt := 169) hx hb xd_Mo_peek_162 (by decide) (by omega) (fun _ => ?_) (fun hc58 => absurd hc58 (by omega))
                  refine lv_iconst (v := 0) hx hb xd_Mo_peek_169 (by decide) ?_
                  exact W.zret (v := 0) hx hb hr rfl (fun t ht hW => ⟨⟨0, ((va_up (va_up (va_up v 0 0) 2 0) 3 (nI wn)), g53), rfl, ⟨MI_g (hfr9 0 (by decide)) (hfr9 3 (by decide)) (hfr9 4 (by decide)) (hfr9 5 (by decide)) (hfr9 12 (by decide)) (hfr9 19 (by decide)) (hfr9 20 (by decide)) (hfr9 21 (by decide)) (MI_v rfl rfl hM1), rfl, rfl, rfl, rfl, fun j h1 h2 h3 => (hfr9 j h3).trans (hgk j h1 h2)⟩, by rw [ht]; exact hP, hD⟩, hS.F ht⟩) hS.2.2 xd_Mo_peek_170
                · refine xz_eq (a := 1) (tgt := 169) hx hb xd_Mo_peek_162 (by decide) (by omega) (fun hc59 => absurd hc59 (by omega)) (fun _ => ?_)
                  refine lv_iconst (v := 1) hx hb xd_Mo_peek_165 (by decide) ?_
                  refine lv_goto (tgt := 170) hx hb xd_Mo_peek_166 (by decide) ?_
                  exact W.zret (v := 1) hx hb hr rfl (fun t ht hW => ⟨⟨1, ((va_up (va_up (va_up v 0 0) 2 0) 3 (nI wn)), g53), rfl, ⟨MI_g (hfr9 0 (by decide)) (hfr9 3 (by decide)) (hfr9 4 (by decide)) (hfr9 5 (by decide)) (hfr9 12 (by decide)) (hfr9 19 (by decide)) (hfr9 20 (by decide)) (hfr9 21 (by decide)) (MI_v rfl rfl hM1), rfl, rfl, rfl, rfl, fun j h1 h2 h3 => (hfr9 j h3).trans (hgk j h1 h2)⟩, by rw [ht]; exact hP, hD⟩, hS.F ht⟩) hS.2.2 xd_Mo_peek_170
            · refine lv_iconst (v := 1) hx hb xd_Mo_peek_89 (by decide) ?_
              exact W.zret (v := 1) hx hb hr rfl (fun t ht hW => ⟨⟨1, ((va_up (va_up (va_up v 0 0) 2 0) 3 (nI wn)), g5), rfl, ⟨MI_v rfl rfl hM1, rfl, rfl, rfl, rfl, fun j h1 h2 h3 => hgk j h1 h2⟩, by rw [ht]; exact hP, hD⟩, hS.F ht⟩) hS.2.2 xd_Mo_peek_90
        · refine lv_istore hx hb xd_Mo_peek_54 hl (Nat.le_of_ble_eq_true rfl) rfl (fun ls hl => ?_)
          have hl : lv_has ls 8 [(7, .int (-1)), (6, .int (nI z10)), (5, .int r1), (0, .ref h), (1, .int (nI z9)), (2, .int kx), (3, .int (nI z20)), (4, .int (nI z21))] := hl
          refine lv_aload_n hx hb xd_Mo_peek_56 rfl (lv_at hl 3 rfl) ?_
          refine lv_iload hx hb xd_Mo_peek_57 (lv_at hl 0 rfl) ?_
          refine lv_if_ge (tgt := 66) hx hb xd_Mo_peek_59 (by decide) (fun hc60 => absurd hc60 (by decide)) (fun _ => ?_)
          refine lv_iconst (v := 2) hx hb xd_Mo_peek_62 (by decide) ?_
          refine lv_goto (tgt := 67) hx hb xd_Mo_peek_63 (by decide) ?_
          refine va_put (D := D) (ci := 4) (v := .int 2) (ty := .int) (C := xR_Mo) (T := xT_Mo) (N := 31) hx hb hT xi_Mo xt_Mo xt_Mo_ok xn_Mo hown hK.1 hP hD hS 0 rfl rfl 0 (by decide) (hT _ k4r_0) (fun _ h9 => h9) rfl (by decide +kernel) rfl rfl (Nat.le_of_ble_eq_true rfl) xd_Mo_peek_67 (fun H locs hP hD hS => ?_)
          have hP : va_P D xcl (moW h mm kA (va_up (va_up (va_up v 0 2) 2 0) 3 (nI wn)) g5) H := hP
          have hD : va_D A (moW h mm kA (va_up (va_up (va_up v 0 2) 2 0) 3 (nI wn)) g5) := hD
          refine lv_iload hx hb xd_Mo_peek_70 (lv_at hl 0 rfl) ?_
          refine lv_if_ge (tgt := 77) hx hb xd_Mo_peek_72 (by decide) (fun hc61 => absurd hc61 (by decide)) (fun _ => ?_)
          refine lv_iconst (v := 0) hx hb xd_Mo_peek_75 (by decide) ?_
          exact W.zret (v := 0) hx hb hr rfl (fun t ht hW => ⟨⟨0, ((va_up (va_up (va_up v 0 2) 2 0) 3 (nI wn)), g5), rfl, ⟨MI_v rfl rfl hM1, rfl, rfl, rfl, rfl, fun j h1 h2 h3 => hgk j h1 h2⟩, by rw [ht]; exact hP, hD⟩, hS.F ht⟩) hS.2.2 xd_Mo_peek_76
set_option maxHeartbeats 4000000 in
set_option maxRecDepth 100000 in
theorem xc_Mo_providerK (l : Launch) (D : va_G) (kA : Nat → ClassId) (sz h : Nat) (mm : Nat → Nat) (v : Nat → Int32) (g : Nat → Nat → Int32) (ly : Int32) (ix : Int32) (wr : Nat) (hMI : MI v g) (hwr : v 2 = nI wr) (hwr40 : wr ≤ 40) : Met l xy_Mo_provider (.code xy_Mo_provider xb_Mo_provider 9 (some .int) :: wT) { frames := 2, cells := 0, slots := 0, locals := 43 } (va_Pc [.ref h, .int ly, .int ix] (xPre D kA sz (moW h mm kA v g))) (va_Qi (fun (r : Int32) (u : (Nat → Int32) × (Nat → Nat → Int32)) => MI u.1 u.2 ∧ u.1 2 = 0 ∧ u.1 1 = v 1 ∧ u.1 4 = v 4 ∧ u.1 5 = v 5 ∧ ∀ j, j ≠ 1 → j ≠ 2 → j ≠ 24 → u.2 j = g j) (fun (u : (Nat → Int32) × (Nat → Nat → Int32)) t => va_P D xcl (moW h mm kA u.1 u.2) t.heap ∧ va_D (va_A (moW h mm kA v g) sz) (moW h mm kA u.1 u.2)) (va_A (moW h mm kA v g) sz)) 0 0 (va_A (moW h mm kA v g) sz) := by
  refine Met.ofW (cc := xb_Mo_provider) (maxL := 9) (ret := (some .int)) (by decide) rfl ?_
  intro p e s m args below meth c s₁ B hml hv
  obtain ⟨rfl, hsz, hP, hK, hD0⟩ := hv
  have hx := B.exec
  have hb := B.bytes
  have hr := B.returns
  have hT := x_hT B.pre
  have hown : s.vm.findClass xR_Mo = some m.cls := findClass_of_methodNamed B.named
  have hlocks := B.notSynchronized
  subst hsz
  have hD := hD0.self (sz := s.heap.size)
  generalize hAe : va_A (moW h mm kA v g) s.heap.size = A at hD ⊢
  have hA : ∀ q : Nat, s.heap.size ≤ q → A q := fun q h => by rw [← hAe]; exact Or.inr h
  have hS : va_S A s.heap s.heap [] := va_S.rf
  have hl := lv_entry ([.ref h, .int ly, .int ix]) (n := 9) (Nat.le_of_ble_eq_true rfl)
  rw [lg_entry_eq]
  generalize (lg_sl ([.ref h, .int ly, .int ix]) ++ List.replicate (9 - (lg_sl ([.ref h, .int ly, .int ix])).length) Slot.unset).toArray = ls at hl ⊢
  have hl : lv_has ls 9 [(0, .ref h), (1, .int ly), (2, .int ix)] := hl
  have hP : va_P D xcl (moW h mm kA v g) s.heap := hP
  refine lv_aload_n hx hb xd_Mo_provider_0 rfl (lv_at hl 0 rfl) ?_
  refine lv_iconst (v := 0) hx hb xd_Mo_provider_1 (by decide) ?_
  refine va_put (D := D) (ci := 4) (v := .int 0) (ty := .int) (C := xR_Mo) (T := xT_Mo) (N := 31) hx hb hT xi_Mo xt_Mo xt_Mo_ok xn_Mo hown hK.1 hP hD hS 0 rfl rfl 0 (by decide) (hT _ k4r_0) (fun _ h9 => h9) rfl (by decide +kernel) rfl rfl (Nat.le_of_ble_eq_true rfl) xd_Mo_provider_2 (fun H locs hP hD hS => ?_)
  have hP : va_P D xcl (moW h mm kA (va_up v 0 0) g) H := hP
  have hD : va_D A (moW h mm kA (va_up v 0 0) g) := hD
  refine lv_aload_n hx hb xd_Mo_provider_5 rfl (lv_at hl 0 rfl) ?_
  have hFc := va_free (wc := (moW h mm kA (va_up v 0 0) g)) hD hS hA [0, 1, 2, 3, 4, 5, 6, 7, 8, 9, 10, 11, 12, 13, 14, 15, 16, 17, 18, 19, 20, 21, 22, 23, 24, 25] rfl
  refine va_calli (va_runV (As := []) (rest := []) ⟨hx, hb, hml, hown, hT⟩ (xc_Mo_oneName l D kA H.size h mm (va_up v 0 0) g wr (by first | assumption | omega) (by first | assumption | omega)) (cwV 0 hT (wT_V k4r_25 k4r_26 k4r_27 k4r_9 k4r_24) rfl rfl rfl (by decide +kernel) ⟨Nat.le_of_ble_eq_true rfl, Nat.le_of_ble_eq_true rfl⟩) (x_preV hK hP hD 0 rfl rfl) rfl rfl hl.1 rfl (lv_room (Nat.le_of_ble_eq_true rfl)) xd_Mo_provider_6 ⟨Nat.le_of_ble_eq_true rfl, Nat.le_of_ble_eq_true rfl⟩) hS (fun q _ h => hFc q h) hFc (fun r1 u2 t H1 locs ht hvm hp3 hB hz1 hk1 hS => ?_)
  obtain ⟨hP1, hD1⟩ := hB
  rw [ht] at hP1
  have hD1 := hD1.weaken (fun _ _ _ h => hFc _ h)
  obtain ⟨v4, g5⟩ := u2
  generalize H1 = H at hP1 hS ⊢
  have hP := hP1
  have hD := hD1
  have hP : va_P D xcl (moW h mm kA v4 g5) H := hP
  have hD : va_D A (moW h mm kA v4 g5) := hD
  obtain ⟨wn, hv9, hgk⟩ := hp3
  have hv9 : v4 = (va_up (va_up (va_up v 0 0) 2 0) 3 (nI wn)) := hv9
  subst hv9
  have hgk : ∀ j, j ≠ 1 → j ≠ 2 → g5 j = g j := hgk
  have hM1 : MI (va_up (va_up (va_up v 0 0) 2 0) 3 (nI wn)) g5 := MI_g (hgk 0 (by decide) (by decide)) (hgk 3 (by decide) (by decide)) (hgk 4 (by decide) (by decide)) (hgk 5 (by decide) (by decide)) (hgk 12 (by decide) (by decide)) (hgk 19 (by decide) (by decide)) (hgk 20 (by decide) (by decide)) (hgk 21 (by decide) (by decide)) (MI_v rfl rfl hMI)
  obtain ⟨⟨nd, hnd12, hnd⟩, ⟨nl, hnl5, hnl, hpar⟩, hch, hpk, hrq, hmd, huq⟩ := id hM1
  have hP : va_P D xcl (moW h mm kA (va_up (va_up (va_up v 0 0) 2 0) 3 (nI wn)) g5) H := hP
  have hD : va_D A (moW h mm kA (va_up (va_up (va_up v 0 0) 2 0) 3 (nI wn)) g5) := hD
  refine lv_istore_n hx hb xd_Mo_provider_9 rfl hl (Nat.le_of_ble_eq_true rfl) rfl (fun ls hl => ?_)
  have hl : lv_has ls 9 [(3, .int r1), (0, .ref h), (1, .int ly), (2, .int ix)] := hl
  refine lv_iload_n hx hb xd_Mo_provider_10 rfl (lv_at hl 0 rfl) ?_
  refine lv_if_eq (tgt := 22) hx hb xd_Mo_provider_11 (by decide) (fun hc6 => ?_) (fun hc6 => ?_)
  · refine lv_aload_n hx hb xd_Mo_provider_22 rfl (lv_at hl 1 rfl) ?_
    refine lv_iconst (v := 1) hx hb xd_Mo_provider_23 (by decide) ?_
    have hFc := va_free (wc := (moW h mm kA (va_up (va_up (va_up v 0 0) 2 0) 3 (nI wn)) g5)) hD hS hA [0, 1, 2, 3, 4, 5, 6, 7, 8, 9, 10, 11, 12, 13, 14, 15, 16, 17, 18, 19, 20, 21, 22, 23, 24, 25] rfl
    refine va_calli (va_runV (As := [.int 1]) (rest := []) ⟨hx, hb, hml, hown, hT⟩ (xc_Mo_fails l D kA H.size h mm (va_up (va_up (va_up v 0 0) 2 0) 3 (nI wn)) g5 1) (cwV 1 hT (wT_V k4r_29 k4r_30 k4r_31 k4r_9 k4r_28) rfl rfl rfl (by decide +kernel) ⟨Nat.le_of_ble_eq_true rfl, Nat.le_of_ble_eq_true rfl⟩) (x_preV hK hP hD 0 rfl rfl) rfl rfl hl.1 rfl (lv_room (Nat.le_of_ble_eq_true rfl)) xd_Mo_provider_24 ⟨Nat.le_of_ble_eq_true rfl, Nat.le_of_ble_eq_true rfl⟩) hS (fun q _ h => hFc q h) hFc (fun r7 u8 t H1 locs ht hvm hp9 hB hz1 hk1 hS => ?_)
    obtain ⟨hP1, hD1⟩ := hB
    rw [ht] at hP1
    have hD1 := hD1.weaken (fun _ _ _ h => hFc _ h)
    obtain ⟨v10, g11⟩ := u8
    generalize H1 = H at hP1 hS ⊢
    have hP := hP1
    have hD := hD1
    have hP : va_P D xcl (moW h mm kA v10 g11) H := hP
    have hD : va_D A (moW h mm kA v10 g11) := hD
    obtain ⟨hr9, hu9⟩ := hp9
    subst hr9
    obtain ⟨hu1, hu2⟩ := Prod.mk.inj hu9
    subst hu1
    have hu2 := hu2.symm
    subst hu2
    have hP : va_P D xcl (moW h mm kA (va_up (va_up (va_up v 0 1) 2 0) 3 (nI wn)) g5) H := hP
    have hD : va_D A (moW h mm kA (va_up (va_up (va_up v 0 1) 2 0) 3 (nI wn)) g5) := hD
    exact W.iret (v := 0) hx hb hr (fun t ht hW => ⟨⟨0, ((va_up (va_up (va_up v 0 1) 2 0) 3 (nI wn)), g5), rfl, ⟨MI_v rfl rfl hM1, rfl, rfl, rfl, rfl, fun j h1 h2 h3 => hgk j h1 h2⟩, by rw [ht]; exact hP, hD⟩, hS.F ht⟩) hS.2.2 xd_Mo_provider_27
  · refine lv_aload_n hx hb xd_Mo_provider_14 rfl (lv_at hl 1 rfl) ?_
    refine lv_iload_n hx hb xd_Mo_provider_15 rfl (lv_at hl 2 rfl) ?_
    have hFc := va_free (wc := (moW h mm kA (va_up (va_up (va_up v 0 0) 2 0) 3 (nI wn)) g5)) hD hS hA [0, 1, 2, 3, 4, 5, 6, 7, 8, 9, 10, 11, 12, 13, 14, 15, 16, 17, 18, 19, 20, 21, 22, 23, 24, 25] rfl
    refine va_calli (va_runV (As := [.int ly]) (rest := []) ⟨hx, hb, hml, hown, hT⟩ (xc_Mo_isOpen l D kA H.size h mm (va_up (va_up (va_up v 0 0) 2 0) 3 (nI wn)) g5 ly nl (by first | assumption | omega) (by first | assumption | omega)) (cwV 1 hT (wT_V k4r_6 k4r_7 k4r_8 k4r_9 k4r_5) rfl rfl rfl (by decide +kernel) ⟨Nat.le_of_ble_eq_true rfl, Nat.le_of_ble_eq_true rfl⟩) (x_preV hK hP hD 0 rfl rfl) rfl rfl hl.1 rfl (lv_room (Nat.le_of_ble_eq_true rfl)) xd_Mo_provider_16 ⟨Nat.le_of_ble_eq_true rfl, Nat.le_of_ble_eq_true rfl⟩) hS (fun q _ h => hFc q h) hFc (fun r12 u13 t H1 locs ht hvm hp14 hB hz1 hk1 hS => ?_)
    obtain ⟨hP1, hD1⟩ := hB
    rw [ht] at hP1
    have hD1 := hD1.weaken (fun _ _ _ h => hFc _ h)
    generalize H1 = H at hP1 hS ⊢
    have hP := hP1
    have hD := hD1
    have hP : va_P D xcl (moW h mm kA (va_up (va_up (va_up v 0 0) 2 0) 3 (nI wn)) g5) H := hP
    have hD : va_D A (moW h mm kA (va_up (va_up (va_up v 0 0) 2 0) 3 (nI wn)) g5) := hD
    rcases hp14 with rfl | ⟨rfl, z15, z16, rfl⟩
    · refine xz_ne (a := 0) (tgt := 28) hx hb xd_Mo_provider_19 (by decide) (by omega) (fun hc17 => absurd hc17 (by omega)) (fun _ => ?_)
      refine lv_aload_n hx hb xd_Mo_provider_22 rfl (lv_at hl 1 rfl) ?_
      refine lv_iconst (v := 1) hx hb xd_Mo_provider_23 (by decide) ?_
      have hFc := va_free (wc := (moW h mm kA (va_up (va_up (va_up v 0 0) 2 0) 3 (nI wn)) g5)) hD hS hA [0, 1, 2, 3, 4, 5, 6, 7, 8, 9, 10, 11, 12, 13, 14, 15, 16, 17, 18, 19, 20, 21, 22, 23, 24, 25] rfl
      refine va_calli (va_runV (As := [.int 1]) (rest := []) ⟨hx, hb, hml, hown, hT⟩ (xc_Mo_fails l D kA H.size h mm (va_up (va_up (va_up v 0 0) 2 0) 3 (nI wn)) g5 1) (cwV 1 hT (wT_V k4r_29 k4r_30 k4r_31 k4r_9 k4r_28) rfl rfl rfl (by decide +kernel) ⟨Nat.le_of_ble_eq_true rfl, Nat.le_of_ble_eq_true rfl⟩) (x_preV hK hP hD 0 rfl rfl) rfl rfl hl.1 rfl (lv_room (Nat.le_of_ble_eq_true rfl)) xd_Mo_provider_24 ⟨Nat.le_of_ble_eq_true rfl, Nat.le_of_ble_eq_true rfl⟩) hS (fun q _ h => hFc q h) hFc (fun r18 u19 t H1 locs ht hvm hp20 hB hz1 hk1 hS => ?_)
      obtain ⟨hP1, hD1⟩ := hB
      rw [ht] at hP1
      have hD1 := hD1.weaken (fun _ _ _ h => hFc _ h)
      obtain ⟨v21, g22⟩ := u19
      generalize H1 = H at hP1 hS ⊢
      have hP := hP1
      have hD := hD1
      have hP : va_P D xcl (moW h mm kA v21 g22) H := hP
      have hD : va_D A (moW h mm kA v21 g22) := hD
      obtain ⟨hr9, hu9⟩ := hp20
      subst hr9
      obtain ⟨hu1, hu2⟩ := Prod.mk.inj hu9
      subst hu1
      have hu2 := hu2.symm
      subst hu2
      have hP : va_P D xcl (moW h mm kA (va_up (va_up (va_up v 0 1) 2 0) 3 (nI wn)) g5) H := hP
      have hD : va_D A (moW h mm kA (va_up (va_up (va_up v 0 1) 2 0) 3 (nI wn)) g5) := hD
      exact W.iret (v := 0) hx hb hr (fun t ht hW => ⟨⟨0, ((va_up (va_up (va_up v 0 1) 2 0) 3 (nI wn)), g5), rfl, ⟨MI_v rfl rfl hM1, rfl, rfl, rfl, rfl, fun j h1 h2 h3 => hgk j h1 h2⟩, by rw [ht]; exact hP, hD⟩, hS.F ht⟩) hS.2.2 xd_Mo_provider_27
    · have hl : lv_has ls 9 [(3, .int r1), (0, .ref h), (1, .int (nI z15)), (2, .int ix)] := hl
      refine xz_ne (a := 1) (tgt := 28) hx hb xd_Mo_provider_19 (by decide) (by omega) (fun _ => ?_) (fun hc23 => absurd hc23 (by omega))
      refine lv_iconst (v := 0) hx hb xd_Mo_provider_28 (by decide) ?_
      refine lv_istore hx hb xd_Mo_provider_29 hl (Nat.le_of_ble_eq_true rfl) rfl (fun ls hl => ?_)
      have hl : lv_has ls 9 [(4, .int 0), (3, .int r1), (0, .ref h), (1, .int (nI z15)), (2, .int ix)] := hl
      refine lv_iload_n hx hb xd_Mo_provider_31 rfl (lv_at hl 3 rfl) ?_
      refine lv_istore hx hb xd_Mo_provider_32 hl (Nat.le_of_ble_eq_true rfl) rfl (fun ls hl => ?_)
      have hl : lv_has ls 9 [(5, .int (nI z15)), (4, .int 0), (3, .int r1), (0, .ref h), (1, .int (nI z15)), (2, .int ix)] := hl
      rw [← nI_pred z15] at hl
      have hl : lv_has ls 9 [(5, .int (nI (z15 + 1) - 1)), (4, .int 0), (3, .int r1), (0, .ref h), (1, .int (nI (z15 + 1) - 1)), (2, .int ix)] := hl
      refine xlab (σ := Nat × Int32) (ml := 9) 34 (fun (lq5, c5) => [(5, .int (nI lq5 - 1)), (4, .int c5), (0, .ref h), (2, .int ix), (3, .int r1)]) (fun (lq5, c5) => []) (fun (lq5, c5) => moW h mm kA (va_up (va_up (va_up v 0 0) 2 0) 3 (nI wn)) g5) (fun (lq5, c5) => (lq5 ≤ nl)) (fun (lq5, c5) => lq5) ?_ (z15 + 1, 0) _ _ _ (lv_sub hl [0, 1, 3, 5, 2] rfl) hP hD hS (show (z15 + 1) ≤ nl from by first | assumption | omega)
      intro n9 ih24 a9 ls H locs hμ hl hP hD hS hI
      subst hμ
      obtain ⟨lq5, c5⟩ := a9
      have hlq5 : lq5 ≤ nl := hI
      have hl : lv_has ls 9 [(5, .int (nI lq5 - 1)), (4, .int c5), (0, .ref h), (2, .int ix), (3, .int r1)] := hl
      have hP : va_P D xcl (moW h mm kA (va_up (va_up (va_up v 0 0) 2 0) 3 (nI wn)) g5) H := hP
      have hD : va_D A (moW h mm kA (va_up (va_up (va_up v 0 0) 2 0) 3 (nI wn)) g5) := hD
      rcases Nat.eq_zero_or_pos lq5 with hz5 | hz5
      · have e5 : nI lq5 - 1 = -1 := by rw [hz5]; decide
        rw [e5] at hl
        refine lv_iload hx hb xd_Mo_provider_34 (lv_at hl 0 rfl) ?_
        refine lv_if_lt (tgt := 177) hx hb xd_Mo_provider_36 (by decide) (fun _ => ?_) (fun hc25 => absurd hc25 (by decide))
        refine lv_iconst (v := (-1)) hx hb xd_Mo_provider_177 (by decide) ?_
        exact W.iret (v := (-1)) hx hb hr (fun t ht hW => ⟨⟨(-1), ((va_up (va_up (va_up v 0 0) 2 0) 3 (nI wn)), g5), rfl, ⟨MI_v rfl rfl hM1, rfl, rfl, rfl, rfl, fun j h1 h2 h3 => hgk j h1 h2⟩, by rw [ht]; exact hP, hD⟩, hS.F ht⟩) hS.2.2 xd_Mo_provider_178
      · have e5 : nI lq5 - 1 = nI (lq5 - 1) := pk_sub (a := lq5) (b := 1) hz5
        rw [e5] at hl
        refine lv_iload hx hb xd_Mo_provider_34 (lv_at hl 0 rfl) ?_
        refine xz_lt (a := lq5 - 1) (tgt := 177) hx hb xd_Mo_provider_36 (by decide) (by omega) ?_
        obtain ⟨mdk, hmdk, emdk, hent⟩ := hmd (lq5 - 1) (by omega)
        have hent2 : ∀ i, 12 * (lq5 - 1) ≤ i → i < 12 * (lq5 - 1) + mdk → ∃ d, d < 12 ∧ g5 21 i = nI d := fun i h1 h2 => by
          have h3 := hent (i - 12 * (lq5 - 1)) (by omega)
          rwa [show 12 * (lq5 - 1) + (i - 12 * (lq5 - 1)) = i by omega] at h3
        refine lv_bipush (v := 12) hx hb xd_Mo_provider_39 (by decide) ?_
        refine lv_iload hx hb xd_Mo_provider_41 (lv_at hl 0 rfl) ?_
        refine lv_imul hx hb xd_Mo_provider_43 ?_
        refine xn_top (y := nI (12 * (lq5 - 1))) (pk_mul 12 (lq5 - 1)) ?_
        refine lv_istore hx hb xd_Mo_provider_44 hl (Nat.le_of_ble_eq_true rfl) rfl (fun ls hl => ?_)
        have hl : lv_has ls 9 [(6, .int (nI (12 * (lq5 - 1)))), (5, .int (nI (lq5 - 1))), (4, .int c5), (0, .ref h), (2, .int ix), (3, .int r1)] := hl
        refine xlab (σ := Nat × Int32) (ml := 9) 46 (fun (i6, c6) => [(6, .int (nI i6)), (5, .int (nI (lq5 - 1))), (4, .int c6), (0, .ref h), (2, .int ix), (3, .int r1)]) (fun (i6, c6) => []) (fun (i6, c6) => moW h mm kA (va_up (va_up (va_up v 0 0) 2 0) 3 (nI wn)) g5) (fun (i6, c6) => (12 * (lq5 - 1) ≤ i6) ∧ (i6 ≤ 12 * (lq5 - 1) + mdk)) (fun (i6, c6) => 12 * (lq5 - 1) + mdk - i6) ?_ (12 * (lq5 - 1), c5) _ _ _ (lv_sub hl [0, 1, 2, 3, 4, 5] rfl) hP hD hS ⟨(show 12 * (lq5 - 1) ≤ (12 * (lq5 - 1)) from by first | assumption | omega), (show (12 * (lq5 - 1)) ≤ 12 * (lq5 - 1) + mdk from by first | assumption | omega)⟩
        intro n9 ih27 a9 ls H locs hμ hl hP hD hS hI
        subst hμ
        obtain ⟨i6, c6⟩ := a9
        obtain ⟨hi61, hi62⟩ := hI
        have hi61 : 12 * (lq5 - 1) ≤ i6 := hi61
        have hi62 : i6 ≤ 12 * (lq5 - 1) + mdk := hi62
        have hl : lv_has ls 9 [(6, .int (nI i6)), (5, .int (nI (lq5 - 1))), (4, .int c6), (0, .ref h), (2, .int ix), (3, .int r1)] := hl
        have hP : va_P D xcl (moW h mm kA (va_up (va_up (va_up v 0 0) 2 0) 3 (nI wn)) g5) H := hP
        have hD : va_D A (moW h mm kA (va_up (va_up (va_up v 0 0) 2 0) 3 (nI wn)) g5) := hD
        refine lv_iload hx hb xd_Mo_provider_46 (lv_at hl 0 rfl) ?_
        refine lv_bipush (v := 12) hx hb xd_Mo_provider_48 (by decide) ?_
        refine lv_iload hx hb xd_Mo_provider_50 (lv_at hl 1 rfl) ?_
        refine lv_imul hx hb xd_Mo_provider_52 ?_
        refine xn_top (y := nI (12 * (lq5 - 1))) (pk_mul 12 (lq5 - 1)) ?_
        refine lv_aload_n hx hb xd_Mo_provider_53 rfl (lv_at hl 3 rfl) ?_
        refine va_get (D := D) (ci := 4) (v := .ref (mm 20)) (C := xR_Mo) (T := xT_Mo) (N := 31) hx hb hT xi_Mo hown hK.1 hP 0 rfl rfl 26 (by decide) (hT _ k4r_10) (fun _ h9 => h9) rfl xd_Mo_provider_54 ?_
        refine lv_iload hx hb xd_Mo_provider_57 (lv_at hl 1 rfl) ?_
        refine xn_iald (i := lq5 - 1) hx hb hK.1 hP 21 0 rfl rfl (by omega) (by decide) xd_Mo_provider_59 ?_
        refine xn_top (x := (g5 20 (lq5 - 1))) (y := nI mdk) emdk ?_
        refine lv_iadd hx hb xd_Mo_provider_60 ?_
        refine xn_top (y := nI ((12 * (lq5 - 1)) + mdk)) (nI_add (12 * (lq5 - 1)) mdk) ?_
        refine xn_ge (a := i6) (b := (12 * (lq5 - 1)) + mdk) (tgt := 165) hx hb xd_Mo_provider_61 (by decide) (by omega) (by omega) (fun hc28 => ?_) (fun hc28 => ?_)
        · refine lv_aload_n hx hb xd_Mo_provider_165 rfl (lv_at hl 3 rfl) ?_
          refine va_get (D := D) (ci := 4) (v := .ref (mm 19)) (C := xR_Mo) (T := xT_Mo) (N := 31) hx hb hT xi_Mo hown hK.1 hP 0 rfl rfl 25 (by decide) (hT _ k4r_47) (fun _ h9 => h9) rfl xd_Mo_provider_166 ?_
          refine lv_iload hx hb xd_Mo_provider_169 (lv_at hl 1 rfl) ?_
          refine xn_iald (i := lq5 - 1) hx hb hK.1 hP 20 0 rfl rfl (by omega) (by decide) xd_Mo_provider_171 ?_
          obtain ⟨q29, hq30, eq31⟩ := hpar (lq5 - 1) (by omega)
          refine xn_top (x := (g5 19 (lq5 - 1))) eq31 ?_
          refine lv_istore hx hb xd_Mo_provider_172 hl (Nat.le_of_ble_eq_true rfl) rfl (fun ls hl => ?_)
          have hl : lv_has ls 9 [(5, .int (nI q29 - 1)), (6, .int (nI i6)), (4, .int c6), (0, .ref h), (2, .int ix), (3, .int r1)] := hl
          refine lv_goto (tgt := 34) hx hb xd_Mo_provider_174 (by decide) ?_
          exact ih24 (q29, c6) _ _ _ (show q29 < lq5 by omega) (lv_sub hl [0, 2, 3, 4, 5] rfl) hP hD hS (show q29 ≤ nl from by first | assumption | omega)
        · refine lv_aload_n hx hb xd_Mo_provider_64 rfl (lv_at hl 3 rfl) ?_
          refine va_get (D := D) (ci := 4) (v := .ref (mm 21)) (C := xR_Mo) (T := xT_Mo) (N := 31) hx hb hT xi_Mo hown hK.1 hP 0 rfl rfl 27 (by decide) (hT _ k4r_48) (fun _ h9 => h9) rfl xd_Mo_provider_65 ?_
          refine lv_iload hx hb xd_Mo_provider_68 (lv_at hl 0 rfl) ?_
          refine xn_iald (i := i6) hx hb hK.1 hP 22 0 rfl rfl (by omega) (by decide) xd_Mo_provider_70 ?_
          obtain ⟨k32, hk33, ek34⟩ := hent2 i6 (by omega) (by omega)
          refine xn_top (x := (g5 21 i6)) ek34 ?_
          refine lv_istore hx hb xd_Mo_provider_71 hl (Nat.le_of_ble_eq_true rfl) rfl (fun ls hl => ?_)
          have hl : lv_has ls 9 [(7, .int (nI k32)), (6, .int (nI i6)), (5, .int (nI (lq5 - 1))), (4, .int c6), (0, .ref h), (2, .int ix), (3, .int r1)] := hl
          refine xjoin (D := D) (cl := xcl) (A := A) (H0 := s.heap) (σ := Int32) (ml := 9) 123 (fun (gv : Int32) => [(8, .int gv), (7, .int (nI k32)), (6, .int (nI i6)), (5, .int (nI (lq5 - 1))), (4, .int c6), (0, .ref h), (2, .int ix), (3, .int r1)]) (fun (gv : Int32) => []) (fun (gv : Int32) => moW h mm kA (va_up (va_up (va_up v 0 0) 2 0) 3 (nI wn)) g5) (fun (gv : Int32) => True) ?_ (fun jn35 => ?_)
          · intro a9 ls H locs hl hP hD hS hI
            obtain ⟨gv, rfl⟩ : ∃ z, z = a9 := ⟨_, rfl⟩
            have hl : lv_has ls 9 [(8, .int gv), (7, .int (nI k32)), (6, .int (nI i6)), (5, .int (nI (lq5 - 1))), (4, .int c6), (0, .ref h), (2, .int ix), (3, .int r1)] := hl
            have hP : va_P D xcl (moW h mm kA (va_up (va_up (va_up v 0 0) 2 0) 3 (nI wn)) g5) H := hP
            have hD : va_D A (moW h mm kA (va_up (va_up (va_up v 0 0) 2 0) 3 (nI wn)) g5) := hD
            refine lv_iload hx hb xd_Mo_provider_123 (lv_at hl 0 rfl) ?_
            refine lv_if_eq (tgt := 143) hx hb xd_Mo_provider_125 (by decide) (fun hc36 => ?_) (fun hc36 => ?_)
            · refine lv_iload hx hb xd_Mo_provider_143 (lv_at hl 0 rfl) ?_
              refine lv_if_eq (tgt := 155) hx hb xd_Mo_provider_145 (by decide) (fun hc37 => ?_) (fun hc37 => ?_)
              · refine lv_iload hx hb xd_Mo_provider_155 (lv_at hl 4 rfl) ?_
                refine lv_istore hx hb xd_Mo_provider_157 hl (Nat.le_of_ble_eq_true rfl) rfl (fun ls hl => ?_)
                have hl : lv_has ls 9 [(4, .int c6), (8, .int gv), (7, .int (nI k32)), (6, .int (nI i6)), (5, .int (nI (lq5 - 1))), (0, .ref h), (2, .int ix), (3, .int r1)] := hl
                refine lv_iinc (k := 3) (x := (nI i6)) (v := (nI (i6 + 1))) hx hb xd_Mo_provider_159 hl rfl (xb_inc i6 1) (Nat.le_of_ble_eq_true rfl) rfl (fun ls hl => ?_)
                have hl : lv_has ls 9 [(6, .int (nI (i6 + 1))), (4, .int c6), (8, .int gv), (7, .int (nI k32)), (5, .int (nI (lq5 - 1))), (0, .ref h), (2, .int ix), (3, .int r1)] := hl
                refine lv_goto (tgt := 46) hx hb xd_Mo_provider_162 (by decide) ?_
                exact ih27 (i6 + 1, c6) _ _ _ (show 12 * (lq5 - 1) + mdk - (i6 + 1) < 12 * (lq5 - 1) + mdk - i6 by omega) (lv_sub hl [0, 4, 1, 5, 6, 7] rfl) hP hD hS ⟨(show 12 * (lq5 - 1) ≤ (i6 + 1) from by first | assumption | omega), (show (i6 + 1) ≤ 12 * (lq5 - 1) + mdk from by first | assumption | omega)⟩
              · refine lv_iload hx hb xd_Mo_provider_148 (lv_at hl 4 rfl) ?_
                refine lv_iconst (v := 1) hx hb xd_Mo_provider_150 (by decide) ?_
                refine lv_iadd hx hb xd_Mo_provider_151 ?_
                refine lv_goto (tgt := 157) hx hb xd_Mo_provider_152 (by decide) ?_
                refine lv_istore hx hb xd_Mo_provider_157 hl (Nat.le_of_ble_eq_true rfl) rfl (fun ls hl => ?_)
                have hl : lv_has ls 9 [(4, .int (c6 + 1)), (8, .int gv), (7, .int (nI k32)), (6, .int (nI i6)), (5, .int (nI (lq5 - 1))), (0, .ref h), (2, .int ix), (3, .int r1)] := hl
                refine lv_iinc (k := 3) (x := (nI i6)) (v := (nI (i6 + 1))) hx hb xd_Mo_provider_159 hl rfl (xb_inc i6 1) (Nat.le_of_ble_eq_true rfl) rfl (fun ls hl => ?_)
                have hl : lv_has ls 9 [(6, .int (nI (i6 + 1))), (4, .int (c6 + 1)), (8, .int gv), (7, .int (nI k32)), (5, .int (nI (lq5 - 1))), (0, .ref h), (2, .int ix), (3, .int r1)] := hl
                refine lv_goto (tgt := 46) hx hb xd_Mo_provider_162 (by decide) ?_
                exact ih27 (i6 + 1, (c6 + 1)) _ _ _ (show 12 * (lq5 - 1) + mdk - (i6 + 1) < 12 * (lq5 - 1) + mdk - i6 by omega) (lv_sub hl [0, 4, 1, 5, 6, 7] rfl) hP hD hS ⟨(show 12 * (lq5 - 1) ≤ (i6 + 1) from by first | assumption | omega), (show (i6 + 1) ≤ 12 * (lq5 - 1) + mdk from by first | assumption | omega)⟩
            · refine lv_iload hx hb xd_Mo_provider_128 (lv_at hl 4 rfl) ?_
              refine lv_iload_n hx hb xd_Mo_provider_130 rfl (lv_at hl 6 rfl) ?_
              refine lv_icmp_ne (tgt := 143) hx hb xd_Mo_provider_131 (by decide) (fun hc38 => ?_) (fun hc38 => ?_)
              · refine lv_iload hx hb xd_Mo_provider_143 (lv_at hl 0 rfl) ?_
                refine lv_if_eq (tgt := 155) hx hb xd_Mo_provider_145 (by decide) (fun hc39 => ?_) (fun hc39 => ?_)
                · refine lv_iload hx hb xd_Mo_provider_155 (lv_at hl 4 rfl) ?_
                  refine lv_istore hx hb xd_Mo_provider_157 hl (Nat.le_of_ble_eq_true rfl) rfl (fun ls hl => ?_)
                  have hl : lv_has ls 9 [(4, .int c6), (8, .int gv), (7, .int (nI k32)), (6, .int (nI i6)), (5, .int (nI (lq5 - 1))), (0, .ref h), (2, .int ix), (3, .int r1)] := hl
                  refine lv_iinc (k := 3) (x := (nI i6)) (v := (nI (i6 + 1))) hx hb xd_Mo_provider_159 hl rfl (xb_inc i6 1) (Nat.le_of_ble_eq_true rfl) rfl (fun ls hl => ?_)
                  have hl : lv_has ls 9 [(6, .int (nI (i6 + 1))), (4, .int c6), (8, .int gv), (7, .int (nI k32)), (5, .int (nI (lq5 - 1))), (0, .ref h), (2, .int ix), (3, .int r1)] := hl
                  refine lv_goto (tgt := 46) hx hb xd_Mo_provider_162 (by decide) ?_
                  exact ih27 (i6 + 1, c6) _ _ _ (show 12 * (lq5 - 1) + mdk - (i6 + 1) < 12 * (lq5 - 1) + mdk - i6 by omega) (lv_sub hl [0, 4, 1, 5, 6, 7] rfl) hP hD hS ⟨(show 12 * (lq5 - 1) ≤ (i6 + 1) from by first | assumption | omega), (show (i6 + 1) ≤ 12 * (lq5 - 1) + mdk from by first | assumption | omega)⟩
                · refine lv_iload hx hb xd_Mo_provider_148 (lv_at hl 4 rfl) ?_
                  refine lv_iconst (v := 1) hx hb xd_Mo_provider_150 (by decide) ?_
                  refine lv_iadd hx hb xd_Mo_provider_151 ?_
                  refine lv_goto (tgt := 157) hx hb xd_Mo_provider_152 (by decide) ?_
                  refine lv_istore hx hb xd_Mo_provider_157 hl (Nat.le_of_ble_eq_true rfl) rfl (fun ls hl => ?_)
                  have hl : lv_has ls 9 [(4, .int (c6 + 1)), (8, .int gv), (7, .int (nI k32)), (6, .int (nI i6)), (5, .int (nI (lq5 - 1))), (0, .ref h), (2, .int ix), (3, .int r1)] := hl
                  refine lv_iinc (k := 3) (x := (nI i6)) (v := (nI (i6 + 1))) hx hb xd_Mo_provider_159 hl rfl (xb_inc i6 1) (Nat.le_of_ble_eq_true rfl) rfl (fun ls hl => ?_)
                  have hl : lv_has ls 9 [(6, .int (nI (i6 + 1))), (4, .int (c6 + 1)), (8, .int gv), (7, .int (nI k32)), (5, .int (nI (lq5 - 1))), (0, .ref h), (2, .int ix), (3, .int r1)] := hl
                  refine lv_goto (tgt := 46) hx hb xd_Mo_provider_162 (by decide) ?_
                  exact ih27 (i6 + 1, (c6 + 1)) _ _ _ (show 12 * (lq5 - 1) + mdk - (i6 + 1) < 12 * (lq5 - 1) + mdk - i6 by omega) (lv_sub hl [0, 4, 1, 5, 6, 7] rfl) hP hD hS ⟨(show 12 * (lq5 - 1) ≤ (i6 + 1) from by first | assumption | omega), (show (i6 + 1) ≤ 12 * (lq5 - 1) + mdk from by first | assumption | omega)⟩
              · refine lv_bipush (v := 16) hx hb xd_Mo_provider_134 (by decide) ?_
                refine lv_iload hx hb xd_Mo_provider_136 (lv_at hl 3 rfl) ?_
                refine lv_imul hx hb xd_Mo_provider_138 ?_
                refine xn_top (y := nI (16 * (lq5 - 1))) (pk_mul 16 (lq5 - 1)) ?_
                refine lv_iload hx hb xd_Mo_provider_139 (lv_at hl 1 rfl) ?_
                refine lv_iadd hx hb xd_Mo_provider_141 ?_
                refine xn_top (y := nI ((16 * (lq5 - 1)) + k32)) (nI_add (16 * (lq5 - 1)) k32) ?_
                exact W.iret (v := (nI ((16 * (lq5 - 1)) + k32))) hx hb hr (fun t ht hW => ⟨⟨(nI ((16 * (lq5 - 1)) + k32)), ((va_up (va_up (va_up v 0 0) 2 0) 3 (nI wn)), g5), rfl, ⟨MI_v rfl rfl hM1, rfl, rfl, rfl, rfl, fun j h1 h2 h3 => hgk j h1 h2⟩, by rw [ht]; exact hP, hD⟩, hS.F ht⟩) hS.2.2 xd_Mo_provider_142
          refine lv_aload_n hx hb xd_Mo_provider_73 rfl (lv_at hl 4 rfl) ?_
          refine va_get (D := D) (ci := 4) (v := .ref (mm 15)) (C := xR_Mo) (T := xT_Mo) (N := 31) hx hb hT xi_Mo hown hK.1 hP 0 rfl rfl 20 (by decide) (hT _ k4r_49) (fun _ h9 => h9) rfl xd_Mo_provider_74 ?_
          refine lv_iconst (v := 3) hx hb xd_Mo_provider_77 (by decide) ?_
          refine lv_iload hx hb xd_Mo_provider_78 (lv_at hl 0 rfl) ?_
          refine lv_imul hx hb xd_Mo_provider_80 ?_
          refine xn_top (y := nI (3 * k32)) (pk_mul 3 k32) ?_
          refine xn_iald (i := 3 * k32) hx hb hK.1 hP 16 0 rfl rfl (by omega) (by decide) xd_Mo_provider_81 ?_
          refine lv_iload_n hx hb xd_Mo_provider_82 rfl (lv_at hl 6 rfl) ?_
          refine lv_icmp_eq (tgt := 116) hx hb xd_Mo_provider_83 (by decide) (fun hc40 => ?_) (fun hc40 => ?_)
          · refine lv_iconst (v := 1) hx hb xd_Mo_provider_116 (by decide) ?_
            refine lv_goto (tgt := 121) hx hb xd_Mo_provider_117 (by decide) ?_
            refine lv_istore hx hb xd_Mo_provider_121 hl (Nat.le_of_ble_eq_true rfl) rfl (fun ls hl => ?_)
            have hl : lv_has ls 9 [(8, .int 1), (7, .int (nI k32)), (6, .int (nI i6)), (5, .int (nI (lq5 - 1))), (4, .int c6), (0, .ref h), (2, .int ix), (3, .int r1)] := hl
            exact jn35 1 _ _ _ (lv_sub hl [0, 1, 2, 3, 4, 5, 6, 7] rfl) hP hD hS trivial
          · refine lv_aload_n hx hb xd_Mo_provider_86 rfl (lv_at hl 4 rfl) ?_
            refine va_get (D := D) (ci := 4) (v := .ref (mm 15)) (C := xR_Mo) (T := xT_Mo) (N := 31) hx hb hT xi_Mo hown hK.1 hP 0 rfl rfl 20 (by decide) (hT _ k4r_49) (fun _ h9 => h9) rfl xd_Mo_provider_87 ?_
            refine lv_iconst (v := 3) hx hb xd_Mo_provider_90 (by decide) ?_
            refine lv_iload hx hb xd_Mo_provider_91 (lv_at hl 0 rfl) ?_
            refine lv_imul hx hb xd_Mo_provider_93 ?_
            refine xn_top (y := nI (3 * k32)) (pk_mul 3 k32) ?_
            refine lv_iconst (v := 1) hx hb xd_Mo_provider_94 (by decide) ?_
            refine lv_iadd hx hb xd_Mo_provider_95 ?_
            refine xn_top (y := nI ((3 * k32) + 1)) (nI_add (3 * k32) 1) ?_
            refine xn_iald (i := (3 * k32) + 1) hx hb hK.1 hP 16 0 rfl rfl (by omega) (by decide) xd_Mo_provider_96 ?_
            refine lv_iload_n hx hb xd_Mo_provider_97 rfl (lv_at hl 6 rfl) ?_
            refine lv_icmp_eq (tgt := 116) hx hb xd_Mo_provider_98 (by decide) (fun hc41 => ?_) (fun hc41 => ?_)
            · refine lv_iconst (v := 1) hx hb xd_Mo_provider_116 (by decide) ?_
              refine lv_goto (tgt := 121) hx hb xd_Mo_provider_117 (by decide) ?_
              refine lv_istore hx hb xd_Mo_provider_121 hl (Nat.le_of_ble_eq_true rfl) rfl (fun ls hl => ?_)
              have hl : lv_has ls 9 [(8, .int 1), (7, .int (nI k32)), (6, .int (nI i6)), (5, .int (nI (lq5 - 1))), (4, .int c6), (0, .ref h), (2, .int ix), (3, .int r1)] := hl
              exact jn35 1 _ _ _ (lv_sub hl [0, 1, 2, 3, 4, 5, 6, 7] rfl) hP hD hS trivial
            · refine lv_aload_n hx hb xd_Mo_provider_101 rfl (lv_at hl 4 rfl) ?_
              refine va_get (D := D) (ci := 4) (v := .ref (mm 15)) (C := xR_Mo) (T := xT_Mo) (N := 31) hx hb hT xi_Mo hown hK.1 hP 0 rfl rfl 20 (by decide) (hT _ k4r_49) (fun _ h9 => h9) rfl xd_Mo_provider_102 ?_
              refine lv_iconst (v := 3) hx hb xd_Mo_provider_105 (by decide) ?_
              refine lv_iload hx hb xd_Mo_provider_106 (lv_at hl 0 rfl) ?_
              refine lv_imul hx hb xd_Mo_provider_108 ?_
              refine xn_top (y := nI (3 * k32)) (pk_mul 3 k32) ?_
              refine lv_iconst (v := 2) hx hb xd_Mo_provider_109 (by decide) ?_
              refine lv_iadd hx hb xd_Mo_provider_110 ?_
              refine xn_top (y := nI ((3 * k32) + 2)) (nI_add (3 * k32) 2) ?_
              refine xn_iald (i := (3 * k32) + 2) hx hb hK.1 hP 16 0 rfl rfl (by omega) (by decide) xd_Mo_provider_111 ?_
              refine lv_iload_n hx hb xd_Mo_provider_112 rfl (lv_at hl 6 rfl) ?_
              refine lv_icmp_ne (tgt := 120) hx hb xd_Mo_provider_113 (by decide) (fun hc42 => ?_) (fun hc42 => ?_)
              · refine lv_iconst (v := 0) hx hb xd_Mo_provider_120 (by decide) ?_
                refine lv_istore hx hb xd_Mo_provider_121 hl (Nat.le_of_ble_eq_true rfl) rfl (fun ls hl => ?_)
                have hl : lv_has ls 9 [(8, .int 0), (7, .int (nI k32)), (6, .int (nI i6)), (5, .int (nI (lq5 - 1))), (4, .int c6), (0, .ref h), (2, .int ix), (3, .int r1)] := hl
                exact jn35 0 _ _ _ (lv_sub hl [0, 1, 2, 3, 4, 5, 6, 7] rfl) hP hD hS trivial
              · refine lv_iconst (v := 1) hx hb xd_Mo_provider_116 (by decide) ?_
                refine lv_goto (tgt := 121) hx hb xd_Mo_provider_117 (by decide) ?_
                refine lv_istore hx hb xd_Mo_provider_121 hl (Nat.le_of_ble_eq_true rfl) rfl (fun ls hl => ?_)
                have hl : lv_has ls 9 [(8, .int 1), (7, .int (nI k32)), (6, .int (nI i6)), (5, .int (nI (lq5 - 1))), (4, .int c6), (0, .ref h), (2, .int ix), (3, .int r1)] := hl
                exact jn35 1 _ _ _ (lv_sub hl [0, 1, 2, 3, 4, 5, 6, 7] rfl) hP hD hS trivial
set_option maxHeartbeats 4000000 in
set_option maxRecDepth 100000 in
theorem xc_Mo_writeK (l : Launch) (D : va_G) (kA : Nat → ClassId) (sz h : Nat) (mm : Nat → Nat) (v : Nat → Int32) (g : Nat → Nat → Int32) (cc9 : Int32) (wr : Nat) (hMI : MI v g) (hwr : v 2 = nI wr) (hwr40 : wr ≤ 40) : Met l xy_Mo_write (.code xy_Mo_write xb_Mo_write 2 (some .boolean) :: wT) { frames := 0, cells := 0, slots := 0, locals := 0 } (va_Pc [.ref h, .int cc9] (xPre D kA sz (moW h mm kA v g))) (va_Qi (fun (r : Int32) (u : (Nat → Int32) × (Nat → Nat → Int32)) => MI u.1 u.2 ∧ u.1 1 = v 1 ∧ u.1 4 = v 4 ∧ u.1 5 = v 5 ∧ ((u.1 2 = nI wr ∧ u.2 = g ∧ r = 0 ∧ (cc9 < 32 ∨ 126 < cc9 ∨ wr = 40)) ∨ (u.1 2 = nI (wr + 1) ∧ u.2 = va_up g 0 (upd (g 0) wr (vp_nar .char cc9)) ∧ r = 1 ∧ wr < 40 ∧ ¬ cc9 < 32 ∧ ¬ 126 < cc9))) (fun (u : (Nat → Int32) × (Nat → Nat → Int32)) t => va_P D xcl (moW h mm kA u.1 u.2) t.heap ∧ va_D (va_A (moW h mm kA v g) sz) (moW h mm kA u.1 u.2)) (va_A (moW h mm kA v g) sz)) 0 0 (va_A (moW h mm kA v g) sz) := by
  refine Met.ofW (cc := xb_Mo_write) (maxL := 2) (ret := (some .boolean)) (by decide) rfl ?_
  intro p e s m args below meth c s₁ B hml hv
  obtain ⟨rfl, hsz, hP, hK, hD0⟩ := hv
  have hx := B.exec
  have hb := B.bytes
  have hr := B.returns
  have hT := x_hT B.pre
  have hown : s.vm.findClass xR_Mo = some m.cls := findClass_of_methodNamed B.named
  have hlocks := B.notSynchronized
  subst hsz
  have hD := hD0.self (sz := s.heap.size)
  generalize hAe : va_A (moW h mm kA v g) s.heap.size = A at hD ⊢
  have hA : ∀ q : Nat, s.heap.size ≤ q → A q := fun q h => by rw [← hAe]; exact Or.inr h
  have hS : va_S A s.heap s.heap [] := va_S.rf
  have hl := lv_entry ([.ref h, .int cc9]) (n := 2) (Nat.le_of_ble_eq_true rfl)
  rw [lg_entry_eq]
  generalize (lg_sl ([.ref h, .int cc9]) ++ List.replicate (2 - (lg_sl ([.ref h, .int cc9])).length) Slot.unset).toArray = ls at hl ⊢
  have hl : lv_has ls 2 [(0, .ref h), (1, .int cc9)] := hl
  have hP : va_P D xcl (moW h mm kA v g) s.heap := hP
  refine lv_aload_n hx hb xd_Mo_write_0 rfl (lv_at hl 0 rfl) ?_
  refine lv_iconst (v := 0) hx hb xd_Mo_write_1 (by decide) ?_
  refine va_put (D := D) (ci := 4) (v := .int 0) (ty := .int) (C := xR_Mo) (T := xT_Mo) (N := 31) hx hb hT xi_Mo xt_Mo xt_Mo_ok xn_Mo hown hK.1 hP hD hS 0 rfl rfl 0 (by decide) (hT _ k4r_0) (fun _ h9 => h9) rfl (by decide +kernel) rfl rfl (Nat.le_of_ble_eq_true rfl) xd_Mo_write_2 (fun H locs hP hD hS => ?_)
  have hP : va_P D xcl (moW h mm kA (va_up v 0 0) g) H := hP
  have hD : va_D A (moW h mm kA (va_up v 0 0) g) := hD
  refine lv_iload_n hx hb xd_Mo_write_5 rfl (lv_at hl 1 rfl) ?_
  refine lv_bipush (v := 32) hx hb xd_Mo_write_6 (by decide) ?_
  refine lv_icmp_lt (tgt := 26) hx hb xd_Mo_write_8 (by decide) (fun hc1 => ?_) (fun hc1 => ?_)
  · refine lv_iconst (v := 0) hx hb xd_Mo_write_26 (by decide) ?_
    exact W.zret (v := 0) hx hb hr rfl (fun t ht hW => ⟨⟨0, ((va_up v 0 0), g), rfl, ⟨MI_v rfl rfl hMI, rfl, rfl, rfl, Or.inl ⟨hwr, rfl, rfl, Or.inl hc1⟩⟩, by rw [ht]; exact hP, hD⟩, hS.F ht⟩) hS.2.2 xd_Mo_write_27
  · refine lv_iload_n hx hb xd_Mo_write_11 rfl (lv_at hl 1 rfl) ?_
    refine lv_bipush (v := 126) hx hb xd_Mo_write_12 (by decide) ?_
    refine lv_icmp_gt (tgt := 26) hx hb xd_Mo_write_14 (by decide) (fun hc2 => ?_) (fun hc2 => ?_)
    · refine lv_iconst (v := 0) hx hb xd_Mo_write_26 (by decide) ?_
      exact W.zret (v := 0) hx hb hr rfl (fun t ht hW => ⟨⟨0, ((va_up v 0 0), g), rfl, ⟨MI_v rfl rfl hMI, rfl, rfl, rfl, Or.inl ⟨hwr, rfl, rfl, Or.inr (Or.inl hc2)⟩⟩, by rw [ht]; exact hP, hD⟩, hS.F ht⟩) hS.2.2 xd_Mo_write_27
    · refine lv_aload_n hx hb xd_Mo_write_17 rfl (lv_at hl 0 rfl) ?_
      refine va_get (D := D) (ci := 4) (v := .int (v 2)) (C := xR_Mo) (T := xT_Mo) (N := 31) hx hb hT xi_Mo hown hK.1 hP 0 rfl rfl 3 (by decide) (hT _ k4r_50) (fun _ h9 => h9) rfl xd_Mo_write_18 ?_
      refine xn_top (x := (v 2)) (y := nI wr) hwr ?_
      refine lv_bipush (v := 40) hx hb xd_Mo_write_21 (by decide) ?_
      refine xn_lt (a := wr) (b := 40) (tgt := 28) hx hb xd_Mo_write_23 (by decide) (by omega) (by omega) (fun hc3 => ?_) (fun hc3 => ?_)
      · refine lv_aload_n hx hb xd_Mo_write_28 rfl (lv_at hl 0 rfl) ?_
        refine va_get (D := D) (ci := 4) (v := .ref (mm 0)) (C := xR_Mo) (T := xT_Mo) (N := 31) hx hb hT xi_Mo hown hK.1 hP 0 rfl rfl 2 (by decide) (hT _ k4r_51) (fun _ h9 => h9) rfl xd_Mo_write_29 ?_
        refine lv_aload_n hx hb xd_Mo_write_32 rfl (lv_at hl 0 rfl) ?_
        refine va_get (D := D) (ci := 4) (v := .int (v 2)) (C := xR_Mo) (T := xT_Mo) (N := 31) hx hb hT xi_Mo hown hK.1 hP 0 rfl rfl 3 (by decide) (hT _ k4r_50) (fun _ h9 => h9) rfl xd_Mo_write_33 ?_
        refine xn_top (x := (v 2)) (y := nI wr) hwr ?_
        refine lv_iload_n hx hb xd_Mo_write_36 rfl (lv_at hl 1 rfl) ?_
        refine xn_cast (i := wr) hx hb hK.1 hP hD hS 1 1 rfl rfl (by omega) (by decide) xd_Mo_write_37 (fun H locs hP hD hS => ?_)
        have hP : va_P D xcl (moW h mm kA (va_up v 0 0) (va_up g 0 (upd (g 0) wr (vp_nar .char cc9)))) H := hP
        have hD : va_D A (moW h mm kA (va_up v 0 0) (va_up g 0 (upd (g 0) wr (vp_nar .char cc9)))) := hD
        refine lv_aload_n hx hb xd_Mo_write_38 rfl (lv_at hl 0 rfl) ?_
        refine lv_dup hx hb xd_Mo_write_39 rfl ?_
        refine va_get (D := D) (ci := 4) (v := .int (v 2)) (C := xR_Mo) (T := xT_Mo) (N := 31) hx hb hT xi_Mo hown hK.1 hP 0 rfl rfl 3 (by decide) (hT _ k4r_50) (fun _ h9 => h9) rfl xd_Mo_write_40 ?_
        refine xn_top (x := (v 2)) (y := nI wr) hwr ?_
        refine lv_iconst (v := 1) hx hb xd_Mo_write_43 (by decide) ?_
        refine lv_iadd hx hb xd_Mo_write_44 ?_
        refine xn_top (y := nI (wr + 1)) (nI_add wr 1) ?_
        refine va_put (D := D) (ci := 4) (v := .int (nI (wr + 1))) (ty := .int) (C := xR_Mo) (T := xT_Mo) (N := 31) hx hb hT xi_Mo xt_Mo xt_Mo_ok xn_Mo hown hK.1 hP hD hS 0 rfl rfl 3 (by decide) (hT _ k4r_50) (fun _ h9 => h9) rfl (by decide +kernel) rfl rfl (Nat.le_of_ble_eq_true rfl) xd_Mo_write_45 (fun H locs hP hD hS => ?_)
        have hP : va_P D xcl (moW h mm kA (va_up (va_up v 0 0) 2 (nI (wr + 1))) (va_up g 0 (upd (g 0) wr (vp_nar .char cc9)))) H := hP
        have hD : va_D A (moW h mm kA (va_up (va_up v 0 0) 2 (nI (wr + 1))) (va_up g 0 (upd (g 0) wr (vp_nar .char cc9)))) := hD
        refine lv_iconst (v := 1) hx hb xd_Mo_write_48 (by decide) ?_
        exact W.zret (v := 1) hx hb hr rfl (fun t ht hW => ⟨⟨1, ((va_up (va_up v 0 0) 2 (nI (wr + 1))), (va_up g 0 (upd (g 0) wr (vp_nar .char cc9)))), rfl, ⟨MI_v (v := v) rfl rfl (MI_tx (by omega) hMI), rfl, rfl, rfl, Or.inr ⟨rfl, rfl, rfl, by omega, hc1, hc2⟩⟩, by rw [ht]; exact hP, hD⟩, hS.F ht⟩) hS.2.2 xd_Mo_write_49
      · refine lv_iconst (v := 0) hx hb xd_Mo_write_26 (by decide) ?_
        exact W.zret (v := 0) hx hb hr rfl (fun t ht hW => ⟨⟨0, ((va_up v 0 0), g), rfl, ⟨MI_v rfl rfl hMI, rfl, rfl, rfl, Or.inl ⟨hwr, rfl, rfl, Or.inr (Or.inr (by omega))⟩⟩, by rw [ht]; exact hP, hD⟩, hS.F ht⟩) hS.2.2 xd_Mo_write_27
