abbrev xb_Mo_binding : ByteArray := prog_12_method_24_code
def xy_Mo_binding : MethodName := ⟨"LayerDeskModel", "binding", "()V"⟩
theorem xd_Mo_binding_0 : decode xb_Mo_binding 0 = .ok (.iconst 1, 1) := by decide +kernel
theorem xd_Mo_binding_1 : decode xb_Mo_binding 1 = .ok (.istore_n 1, 1) := by decide +kernel
theorem xd_Mo_binding_2 : decode xb_Mo_binding 2 = .ok (.iload_n 1, 1) := by decide +kernel
theorem xd_Mo_binding_3 : decode xb_Mo_binding 3 = .ok (.ifCond .eq 77, 3) := by decide +kernel
theorem xd_Mo_binding_6 : decode xb_Mo_binding 6 = .ok (.iconst 0, 1) := by decide +kernel
theorem xd_Mo_binding_7 : decode xb_Mo_binding 7 = .ok (.istore_n 1, 1) := by decide +kernel
theorem xd_Mo_binding_8 : decode xb_Mo_binding 8 = .ok (.aload_n 0, 1) := by decide +kernel
theorem xd_Mo_binding_9 : decode xb_Mo_binding 9 = .ok (.getfield 150, 3) := by decide +kernel
theorem xd_Mo_binding_12 : decode xb_Mo_binding 12 = .ok (.istore_n 2, 1) := by decide +kernel
theorem xd_Mo_binding_13 : decode xb_Mo_binding 13 = .ok (.iload_n 2, 1) := by decide +kernel
theorem xd_Mo_binding_14 : decode xb_Mo_binding 14 = .ok (.ifCond .lt 63, 3) := by decide +kernel
theorem xd_Mo_binding_17 : decode xb_Mo_binding 17 = .ok (.iconst 0, 1) := by decide +kernel
theorem xd_Mo_binding_18 : decode xb_Mo_binding 18 = .ok (.istore_n 3, 1) := by decide +kernel
theorem xd_Mo_binding_19 : decode xb_Mo_binding 19 = .ok (.iload_n 3, 1) := by decide +kernel
theorem xd_Mo_binding_20 : decode xb_Mo_binding 20 = .ok (.aload_n 0, 1) := by decide +kernel
theorem xd_Mo_binding_21 : decode xb_Mo_binding 21 = .ok (.getfield 72, 3) := by decide +kernel
theorem xd_Mo_binding_24 : decode xb_Mo_binding 24 = .ok (.iload_n 2, 1) := by decide +kernel
theorem xd_Mo_binding_25 : decode xb_Mo_binding 25 = .ok (.iaload, 1) := by decide +kernel
theorem xd_Mo_binding_26 : decode xb_Mo_binding 26 = .ok (.if_icmp .ge 41, 3) := by decide +kernel
theorem xd_Mo_binding_29 : decode xb_Mo_binding 29 = .ok (.aload_n 0, 1) := by decide +kernel
theorem xd_Mo_binding_30 : decode xb_Mo_binding 30 = .ok (.aload_n 0, 1) := by decide +kernel
theorem xd_Mo_binding_31 : decode xb_Mo_binding 31 = .ok (.getfield 75, 3) := by decide +kernel
theorem xd_Mo_binding_34 : decode xb_Mo_binding 34 = .ok (.bipush 12, 2) := by decide +kernel
theorem xd_Mo_binding_36 : decode xb_Mo_binding 36 = .ok (.iload_n 2, 1) := by decide +kernel
theorem xd_Mo_binding_37 : decode xb_Mo_binding 37 = .ok (.imul, 1) := by decide +kernel
theorem xd_Mo_binding_38 : decode xb_Mo_binding 38 = .ok (.iload_n 3, 1) := by decide +kernel
theorem xd_Mo_binding_39 : decode xb_Mo_binding 39 = .ok (.iadd, 1) := by decide +kernel
theorem xd_Mo_binding_40 : decode xb_Mo_binding 40 = .ok (.iaload, 1) := by decide +kernel
theorem xd_Mo_binding_41 : decode xb_Mo_binding 41 = .ok (.invokevirtual 164, 3) := by decide +kernel
theorem xd_Mo_binding_44 : decode xb_Mo_binding 44 = .ok (.istore 4, 2) := by decide +kernel
theorem xd_Mo_binding_46 : decode xb_Mo_binding 46 = .ok (.iload_n 1, 1) := by decide +kernel
theorem xd_Mo_binding_47 : decode xb_Mo_binding 47 = .ok (.ifCond .ne 8, 3) := by decide +kernel
theorem xd_Mo_binding_50 : decode xb_Mo_binding 50 = .ok (.iload 4, 2) := by decide +kernel
theorem xd_Mo_binding_52 : decode xb_Mo_binding 52 = .ok (.ifCond .eq 7, 3) := by decide +kernel
theorem xd_Mo_binding_55 : decode xb_Mo_binding 55 = .ok (.iconst 1, 1) := by decide +kernel
theorem xd_Mo_binding_56 : decode xb_Mo_binding 56 = .ok (.goto 4, 3) := by decide +kernel
theorem xd_Mo_binding_59 : decode xb_Mo_binding 59 = .ok (.iconst 0, 1) := by decide +kernel
theorem xd_Mo_binding_60 : decode xb_Mo_binding 60 = .ok (.istore_n 1, 1) := by decide +kernel
theorem xd_Mo_binding_61 : decode xb_Mo_binding 61 = .ok (.iinc 3 1, 3) := by decide +kernel
theorem xd_Mo_binding_64 : decode xb_Mo_binding 64 = .ok (.goto (-45), 3) := by decide +kernel
theorem xd_Mo_binding_67 : decode xb_Mo_binding 67 = .ok (.aload_n 0, 1) := by decide +kernel
theorem xd_Mo_binding_68 : decode xb_Mo_binding 68 = .ok (.getfield 69, 3) := by decide +kernel
theorem xd_Mo_binding_71 : decode xb_Mo_binding 71 = .ok (.iload_n 2, 1) := by decide +kernel
theorem xd_Mo_binding_72 : decode xb_Mo_binding 72 = .ok (.iaload, 1) := by decide +kernel
theorem xd_Mo_binding_73 : decode xb_Mo_binding 73 = .ok (.istore_n 2, 1) := by decide +kernel
theorem xd_Mo_binding_74 : decode xb_Mo_binding 74 = .ok (.goto (-61), 3) := by decide +kernel
theorem xd_Mo_binding_77 : decode xb_Mo_binding 77 = .ok (.goto (-75), 3) := by decide +kernel
theorem xd_Mo_binding_80 : decode xb_Mo_binding 80 = .ok (.return_, 1) := by decide +kernel
theorem xw_0 : (Cond.fieldLink "LayerDeskModel" 150 "LayerDeskModel" "layers" "I") ∈ wT := wT_t (List.mem_append_right _ (List.mem_append_right _ (List.mem_append_right _ (List.mem_append_left _ (List.mem_of_getElem? (i := 107) rfl))))) rfl
theorem xw_1 : (Cond.fieldLink "LayerDeskModel" 72 "LayerDeskModel" "modules" "[I") ∈ wT := wT_t (List.mem_append_right _ (List.mem_append_right _ (List.mem_append_right _ (List.mem_append_left _ (List.mem_of_getElem? (i := 110) rfl))))) rfl
theorem xw_2 : (Cond.fieldLink "LayerDeskModel" 69 "LayerDeskModel" "parent" "[I") ∈ wT := wT_t (List.mem_append_right _ (List.mem_append_right _ (List.mem_append_right _ (List.mem_append_left _ (List.mem_of_getElem? (i := 109) rfl))))) rfl
theorem xw_3 : (Cond.fieldLink "LayerDeskModel" 75 "LayerDeskModel" "module" "[I") ∈ wT := wT_t (List.mem_append_right _ (List.mem_append_right _ (List.mem_append_right _ (List.mem_append_left _ (List.mem_of_getElem? (i := 111) rfl))))) rfl
theorem xw_4 : (Cond.code xy_Mo_bindsFor xb_Mo_bindsFor 9 (some .boolean)) ∈ wT := wT_t (List.mem_append_right _ (List.mem_append_right _ (List.mem_append_right _ (List.mem_append_right _ (List.mem_of_getElem? (i := 32) rfl))))) rfl
theorem xw_5 : (Cond.methodLink "LayerDeskModel" 164 xy_Mo_bindsFor) ∈ wT := wT_t (List.mem_append_right _ (List.mem_append_right _ (List.mem_append_right _ (List.mem_append_right _ (List.mem_of_getElem? (i := 29) rfl))))) rfl
theorem xw_6 : (Cond.instanceMethod xy_Mo_bindsFor) ∈ wT := wT_t (List.mem_append_right _ (List.mem_append_right _ (List.mem_append_right _ (List.mem_append_right _ (List.mem_of_getElem? (i := 31) rfl))))) rfl
theorem xw_7 : (Cond.selects "LayerDeskModel" xy_Mo_bindsFor xy_Mo_bindsFor) ∈ wT := wT_s (q := (xy_Mo_bindsFor, 31)) (by decide +kernel) rfl
theorem xw_8 : (Cond.initialized "LayerDeskModel") ∈ wT := wT_t (List.mem_append_left _ (List.mem_of_getElem? (i := 5) rfl)) rfl
set_option maxHeartbeats 4000000 in
set_option maxRecDepth 100000 in
theorem xc_Mo_binding (l : Launch) (D : va_G) (kA : Nat → ClassId) (sz h : Nat) (mm : Nat → Nat) (v : Nat → Int32) (g : Nat → Nat → Int32) (nd : Nat) (nl : Nat) (md0 : Nat) (hMI : MI v g) (hnd : v 4 = nI nd) (hnd12 : nd ≤ 12) (hnl : v 5 = nI nl) (hnl5 : nl ≤ 5) (hpn : ∀ la, la < nl + 1 → ∃ lq, lq ≤ la ∧ g 19 la = nI lq - 1) (hmd0 : g 20 nl = nI md0) (hmd012 : md0 ≤ 12) (hND : NDp g nl md0) : Met l xy_Mo_binding (.code xy_Mo_binding xb_Mo_binding 5 none :: wT) { frames := 3, cells := 0, slots := 0, locals := 77 } (va_Pc [.ref h] (xPre D kA sz (moW h mm kA v g))) (va_Qv (fun (u : (Nat → Int32) × (Nat → Nat → Int32)) => u.1 = v ∧ MI v u.2 ∧ (∀ j, j ≠ 20 → j ≠ 21 → j ≠ 23 → u.2 j = g j) ∧ ∃ md1, md0 ≤ md1 ∧ md1 ≤ 12 ∧ u.2 20 nl = nI md1 ∧ NDp u.2 nl md1) (fun (u : (Nat → Int32) × (Nat → Nat → Int32)) t => va_P D xcl (moW h mm kA u.1 u.2) t.heap ∧ va_D (va_A (moW h mm kA v g) sz) (moW h mm kA u.1 u.2)) (va_A (moW h mm kA v g) sz)) 0 0 (va_A (moW h mm kA v g) sz) := by
  refine Met.ofW (cc := xb_Mo_binding) (maxL := 5) (ret := none) (by decide) rfl ?_
  intro p e s m args below meth c s₁ B hml hv
  obtain ⟨rfl, hsz, hP, hK, hD0⟩ := hv
  have hx := B.exec
  have hb := B.bytes
  have hr := B.returns
  have hT := x_hT B.pre
  have hown : s.vm.findClass xR_Mo = some m.cls := findClass_of_methodNamed B.named
  have hlocks := B.notSynchronized
  subst hsz
  have hD := hD0.self (sz := s.heap.size)
  generalize hAe : va_A (moW h mm kA v g) s.heap.size = A at hD ⊢
  have hA : ∀ q : Nat, s.heap.size ≤ q → A q := fun q h => by rw [← hAe]; exact Or.inr h
  have hS : va_S A s.heap s.heap [] := va_S.rf
  have hl := lv_entry ([.ref h]) (n := 5) (Nat.le_of_ble_eq_true rfl)
  rw [lg_entry_eq]
  generalize (lg_sl ([.ref h]) ++ List.replicate (5 - (lg_sl ([.ref h])).length) Slot.unset).toArray = ls at hl ⊢
  have hl : lv_has ls 5 [(0, .ref h)] := hl
  have hP : va_P D xcl (moW h mm kA v g) s.heap := hP
  refine lv_iconst (v := 1) hx hb xd_Mo_binding_0 (by decide) ?_
  refine lv_istore_n hx hb xd_Mo_binding_1 rfl hl (Nat.le_of_ble_eq_true rfl) rfl (fun ls hl => ?_)
  have hl : lv_has ls 5 [(1, .int 1), (0, .ref h)] := hl
  refine xlab (σ := Nat × Nat × (Nat → Nat → Int32)) (ml := 5) 2 (fun (mr, md9, g1) => [(1, .int (nI mr)), (0, .ref h)]) (fun (mr, md9, g1) => []) (fun (mr, md9, g1) => moW h mm kA v g1) (fun (mr, md9, g1) => (mr ≤ 1) ∧ (md0 ≤ md9) ∧ (md9 ≤ 12) ∧ (g1 20 nl = nI md9) ∧ (MI v g1) ∧ (∀ j, j ≠ 20 → j ≠ 21 → j ≠ 23 → g1 j = g j) ∧ (NDp g1 nl md9)) (fun (mr, md9, g1) => 2 * (12 - md9) + mr) ?_ (1, md0, g) _ _ _ (lv_sub hl [0, 1] rfl) hP hD hS ⟨(show 1 ≤ 1 from by first | assumption | omega), (show md0 ≤ md0 from by first | assumption | omega), (show md0 ≤ 12 from by first | assumption | omega), (show g 20 nl = nI md0 from hmd0), (show MI v g from hMI), (show ∀ j, j ≠ 20 → j ≠ 21 → j ≠ 23 → g j = g j from fun j h1 h2 h3 => rfl), (show NDp g nl md0 from hND)⟩
  intro n9 ih1 a9 ls H locs hμ hl hP hD hS hI
  subst hμ
  obtain ⟨mr, md9, g1⟩ := a9
  obtain ⟨hmr1, hm11, hm21, hmk1, hM1, hfr1, hN1⟩ := hI
  have hmr1 : mr ≤ 1 := hmr1
  have hm11 : md0 ≤ md9 := hm11
  have hm21 : md9 ≤ 12 := hm21
  have hmk1 : g1 20 nl = nI md9 := hmk1
  have hM1 : MI v g1 := hM1
  have hfr1 : ∀ j, j ≠ 20 → j ≠ 21 → j ≠ 23 → g1 j = g j := hfr1
  have hN1 : NDp g1 nl md9 := hN1
  obtain ⟨-, -, -, -, -, hmd1, -⟩ := id hM1
  have hpar1 : ∀ la, la < nl + 1 → ∃ lq, lq ≤ la ∧ g1 19 la = nI lq - 1 := fun la h => by rw [hfr1 19 (by decide) (by decide) (by decide)]; exact hpn la h
  have hl : lv_has ls 5 [(1, .int (nI mr)), (0, .ref h)] := hl
  have hP : va_P D xcl (moW h mm kA v g1) H := hP
  have hD : va_D A (moW h mm kA v g1) := hD
  refine lv_iload_n hx hb xd_Mo_binding_2 rfl (lv_at hl 0 rfl) ?_
  refine xz_eq (a := mr) (tgt := 80) hx hb xd_Mo_binding_3 (by decide) (by omega) (fun hc2 => ?_) (fun hc2 => ?_)
  · exact W.vret hx hb hr (fun t ht hW => ⟨⟨(v, g1), rfl, ⟨rfl, hM1, hfr1, md9, by omega, by omega, hmk1, hN1⟩, by rw [ht]; exact hP, hD⟩, hS.F ht⟩) hS.2.2 xd_Mo_binding_80
  · refine lv_iconst (v := 0) hx hb xd_Mo_binding_6 (by decide) ?_
    refine lv_istore_n hx hb xd_Mo_binding_7 rfl hl (Nat.le_of_ble_eq_true rfl) rfl (fun ls hl => ?_)
    have hl : lv_has ls 5 [(1, .int 0), (0, .ref h)] := hl
    refine lv_aload_n hx hb xd_Mo_binding_8 rfl (lv_at hl 1 rfl) ?_
    refine va_get (D := D) (ci := 4) (v := .int (v 5)) (C := xR_Mo) (T := xT_Mo) (N := 31) hx hb hT xi_Mo hown hK.1 hP 0 rfl rfl 23 (by decide) (hT _ xw_0) (fun _ h9 => h9) rfl xd_Mo_binding_9 ?_
    refine xn_top (x := (v 5)) (y := nI nl) hnl ?_
    refine lv_istore_n hx hb xd_Mo_binding_12 rfl hl (Nat.le_of_ble_eq_true rfl) rfl (fun ls hl => ?_)
    have hl : lv_has ls 5 [(2, .int (nI nl)), (1, .int 0), (0, .ref h)] := hl
    rw [← nI_pred nl] at hl
    refine xlab (σ := Nat × Nat × Nat × (Nat → Nat → Int32)) (ml := 5) 13 (fun (lq8, mr8, md8, g8) => [(2, .int (nI lq8 - 1)), (1, .int (nI mr8)), (0, .ref h)]) (fun (lq8, mr8, md8, g8) => []) (fun (lq8, mr8, md8, g8) => moW h mm kA v g8) (fun (lq8, mr8, md8, g8) => (lq8 ≤ nl + 1) ∧ (mr8 ≤ 1) ∧ (mr8 = 1 → md9 < md8) ∧ (md9 ≤ md8) ∧ (md0 ≤ md8) ∧ (md8 ≤ 12) ∧ (g8 20 nl = nI md8) ∧ (MI v g8) ∧ (∀ j, j ≠ 20 → j ≠ 21 → j ≠ 23 → g8 j = g j) ∧ (NDp g8 nl md8)) (fun (lq8, mr8, md8, g8) => lq8) ?_ (nl + 1, 0, md9, g1) _ _ _ (lv_sub hl [0, 1, 2] rfl) hP hD hS ⟨(show (nl + 1) ≤ nl + 1 from by first | assumption | omega), (show 0 ≤ 1 from by first | assumption | omega), (show 0 = 1 → md9 < md9 from fun h => absurd h (by omega)), (show md9 ≤ md9 from by first | assumption | omega), (show md0 ≤ md9 from by first | assumption | omega), (show md9 ≤ 12 from by first | assumption | omega), (show g1 20 nl = nI md9 from hmk1), (show MI v g1 from hM1), (show ∀ j, j ≠ 20 → j ≠ 21 → j ≠ 23 → g1 j = g j from hfr1), (show NDp g1 nl md9 from hN1)⟩
    intro n9 ih3 a9 ls H locs hμ hl hP hD hS hI
    subst hμ
    obtain ⟨lq8, mr8, md8, g8⟩ := a9
    obtain ⟨hlq8, hmr81, hmr8, hm98, hm18, hm28, hmk8, hM8, hfr8, hN8⟩ := hI
    have hlq8 : lq8 ≤ nl + 1 := hlq8
    have hmr81 : mr8 ≤ 1 := hmr81
    have hmr8 : mr8 = 1 → md9 < md8 := hmr8
    have hm98 : md9 ≤ md8 := hm98
    have hm18 : md0 ≤ md8 := hm18
    have hm28 : md8 ≤ 12 := hm28
    have hmk8 : g8 20 nl = nI md8 := hmk8
    have hM8 : MI v g8 := hM8
    have hfr8 : ∀ j, j ≠ 20 → j ≠ 21 → j ≠ 23 → g8 j = g j := hfr8
    have hN8 : NDp g8 nl md8 := hN8
    obtain ⟨-, -, -, -, -, hmd8, -⟩ := id hM8
    have hpar8 : ∀ la, la < nl + 1 → ∃ lq, lq ≤ la ∧ g8 19 la = nI lq - 1 := fun la h => by rw [hfr8 19 (by decide) (by decide) (by decide)]; exact hpn la h
    have hl : lv_has ls 5 [(2, .int (nI lq8 - 1)), (1, .int (nI mr8)), (0, .ref h)] := hl
    have hP : va_P D xcl (moW h mm kA v g8) H := hP
    have hD : va_D A (moW h mm kA v g8) := hD
    rcases Nat.eq_zero_or_pos lq8 with hz5 | hz5
    · have e5 : nI lq8 - 1 = -1 := by rw [hz5]; decide
      rw [e5] at hl
      refine lv_iload_n hx hb xd_Mo_binding_13 rfl (lv_at hl 0 rfl) ?_
      refine lv_if_lt (tgt := 77) hx hb xd_Mo_binding_14 (by decide) (fun _ => ?_) (fun hc4 => absurd hc4 (by decide))
      refine lv_goto (tgt := 2) hx hb xd_Mo_binding_77 (by decide) ?_
      exact ih1 (mr8, md8, g8) _ _ _ (show 2 * (12 - md8) + mr8 < 2 * (12 - md9) + mr by omega) (lv_sub hl [1, 2] rfl) hP hD hS ⟨(show mr8 ≤ 1 from by first | assumption | omega), (show md0 ≤ md8 from by first | assumption | omega), (show md8 ≤ 12 from by first | assumption | omega), (show g8 20 nl = nI md8 from hmk8), (show MI v g8 from hM8), (show ∀ j, j ≠ 20 → j ≠ 21 → j ≠ 23 → g8 j = g j from hfr8), (show NDp g8 nl md8 from hN8)⟩
    · have e5 : nI lq8 - 1 = nI (lq8 - 1) := pk_sub (a := lq8) (b := 1) hz5
      rw [e5] at hl
      refine lv_iload_n hx hb xd_Mo_binding_13 rfl (lv_at hl 0 rfl) ?_
      refine xz_lt (a := lq8 - 1) (tgt := 77) hx hb xd_Mo_binding_14 (by decide) (by omega) ?_
      refine lv_iconst (v := 0) hx hb xd_Mo_binding_17 (by decide) ?_
      refine lv_istore_n hx hb xd_Mo_binding_18 rfl hl (Nat.le_of_ble_eq_true rfl) rfl (fun ls hl => ?_)
      have hl : lv_has ls 5 [(3, .int 0), (2, .int (nI (lq8 - 1))), (1, .int (nI mr8)), (0, .ref h)] := hl
      refine xlab (σ := Nat × Nat × Nat × (Nat → Nat → Int32)) (ml := 5) 19 (fun (k7, mr7, md7, g7) => [(3, .int (nI k7)), (2, .int (nI (lq8 - 1))), (1, .int (nI mr7)), (0, .ref h)]) (fun (k7, mr7, md7, g7) => []) (fun (k7, mr7, md7, g7) => moW h mm kA v g7) (fun (k7, mr7, md7, g7) => (k7 ≤ 12) ∧ (mr7 ≤ 1) ∧ (mr7 = 1 → md9 < md7) ∧ (md9 ≤ md7) ∧ (md0 ≤ md7) ∧ (md7 ≤ 12) ∧ (g7 20 nl = nI md7) ∧ (MI v g7) ∧ (∀ j, j ≠ 20 → j ≠ 21 → j ≠ 23 → g7 j = g j) ∧ (NDp g7 nl md7)) (fun (k7, mr7, md7, g7) => 12 - k7) ?_ (0, mr8, md8, g8) _ _ _ (lv_sub hl [0, 1, 2, 3] rfl) hP hD hS ⟨(show 0 ≤ 12 from by first | assumption | omega), (show mr8 ≤ 1 from by first | assumption | omega), (show mr8 = 1 → md9 < md8 from hmr8), (show md9 ≤ md8 from by first | assumption | omega), (show md0 ≤ md8 from by first | assumption | omega), (show md8 ≤ 12 from by first | assumption | omega), (show g8 20 nl = nI md8 from hmk8), (show MI v g8 from hM8), (show ∀ j, j ≠ 20 → j ≠ 21 → j ≠ 23 → g8 j = g j from hfr8), (show NDp g8 nl md8 from hN8)⟩
      intro n9 ih6 a9 ls H locs hμ hl hP hD hS hI
      subst hμ
      obtain ⟨k7, mr7, md7, g7⟩ := a9
      obtain ⟨hk7, hmr71, hmr7, hm97, hm17, hm27, hmk7, hM7, hfr7, hN7⟩ := hI
      have hk7 : k7 ≤ 12 := hk7
      have hmr71 : mr7 ≤ 1 := hmr71
      have hmr7 : mr7 = 1 → md9 < md7 := hmr7
      have hm97 : md9 ≤ md7 := hm97
      have hm17 : md0 ≤ md7 := hm17
      have hm27 : md7 ≤ 12 := hm27
      have hmk7 : g7 20 nl = nI md7 := hmk7
      have hM7 : MI v g7 := hM7
      have hfr7 : ∀ j, j ≠ 20 → j ≠ 21 → j ≠ 23 → g7 j = g j := hfr7
      have hN7 : NDp g7 nl md7 := hN7
      obtain ⟨-, -, -, -, -, hmd7, -⟩ := id hM7
      have hpar7 : ∀ la, la < nl + 1 → ∃ lq, lq ≤ la ∧ g7 19 la = nI lq - 1 := fun la h => by rw [hfr7 19 (by decide) (by decide) (by decide)]; exact hpn la h
      have hl : lv_has ls 5 [(3, .int (nI k7)), (2, .int (nI (lq8 - 1))), (1, .int (nI mr7)), (0, .ref h)] := hl
      have hP : va_P D xcl (moW h mm kA v g7) H := hP
      have hD : va_D A (moW h mm kA v g7) := hD
      refine lv_iload_n hx hb xd_Mo_binding_19 rfl (lv_at hl 0 rfl) ?_
      obtain ⟨mdk, hmdk, emdk, hent⟩ := hmd7 (lq8 - 1) (by omega)
      refine lv_aload_n hx hb xd_Mo_binding_20 rfl (lv_at hl 3 rfl) ?_
      refine va_get (D := D) (ci := 4) (v := .ref (mm 20)) (C := xR_Mo) (T := xT_Mo) (N := 31) hx hb hT xi_Mo hown hK.1 hP 0 rfl rfl 26 (by decide) (hT _ xw_1) (fun _ h9 => h9) rfl xd_Mo_binding_21 ?_
      refine lv_iload_n hx hb xd_Mo_binding_24 rfl (lv_at hl 1 rfl) ?_
      refine xn_iald (i := lq8 - 1) hx hb hK.1 hP 21 0 rfl rfl (by omega) (by decide) xd_Mo_binding_25 ?_
      refine xn_top (x := (g7 20 (lq8 - 1))) (y := nI mdk) emdk ?_
      refine xn_ge (a := k7) (b := mdk) (tgt := 67) hx hb xd_Mo_binding_26 (by decide) (by omega) (by omega) (fun hc7 => ?_) (fun hc7 => ?_)
      · refine lv_aload_n hx hb xd_Mo_binding_67 rfl (lv_at hl 3 rfl) ?_
        refine va_get (D := D) (ci := 4) (v := .ref (mm 19)) (C := xR_Mo) (T := xT_Mo) (N := 31) hx hb hT xi_Mo hown hK.1 hP 0 rfl rfl 25 (by decide) (hT _ xw_2) (fun _ h9 => h9) rfl xd_Mo_binding_68 ?_
        refine lv_iload_n hx hb xd_Mo_binding_71 rfl (lv_at hl 1 rfl) ?_
        refine xn_iald (i := lq8 - 1) hx hb hK.1 hP 20 0 rfl rfl (by omega) (by decide) xd_Mo_binding_72 ?_
        obtain ⟨q8, hq9, eq10⟩ := hpar7 (lq8 - 1) (by omega)
        refine xn_top (x := (g7 19 (lq8 - 1))) eq10 ?_
        refine lv_istore_n hx hb xd_Mo_binding_73 rfl hl (Nat.le_of_ble_eq_true rfl) rfl (fun ls hl => ?_)
        have hl : lv_has ls 5 [(2, .int (nI q8 - 1)), (3, .int (nI k7)), (1, .int (nI mr7)), (0, .ref h)] := hl
        refine lv_goto (tgt := 13) hx hb xd_Mo_binding_74 (by decide) ?_
        exact ih3 (q8, mr7, md7, g7) _ _ _ (show q8 < lq8 by omega) (lv_sub hl [0, 2, 3] rfl) hP hD hS ⟨(show q8 ≤ nl + 1 from by first | assumption | omega), (show mr7 ≤ 1 from by first | assumption | omega), (show mr7 = 1 → md9 < md7 from hmr7), (show md9 ≤ md7 from by first | assumption | omega), (show md0 ≤ md7 from by first | assumption | omega), (show md7 ≤ 12 from by first | assumption | omega), (show g7 20 nl = nI md7 from hmk7), (show MI v g7 from hM7), (show ∀ j, j ≠ 20 → j ≠ 21 → j ≠ 23 → g7 j = g j from hfr7), (show NDp g7 nl md7 from hN7)⟩
      · refine lv_aload_n hx hb xd_Mo_binding_29 rfl (lv_at hl 3 rfl) ?_
        refine lv_aload_n hx hb xd_Mo_binding_30 rfl (lv_at hl 3 rfl) ?_
        refine va_get (D := D) (ci := 4) (v := .ref (mm 21)) (C := xR_Mo) (T := xT_Mo) (N := 31) hx hb hT xi_Mo hown hK.1 hP 0 rfl rfl 27 (by decide) (hT _ xw_3) (fun _ h9 => h9) rfl xd_Mo_binding_31 ?_
        refine lv_bipush (v := 12) hx hb xd_Mo_binding_34 (by decide) ?_
        refine lv_iload_n hx hb xd_Mo_binding_36 rfl (lv_at hl 1 rfl) ?_
        refine lv_imul hx hb xd_Mo_binding_37 ?_
        refine xn_top (y := nI (12 * (lq8 - 1))) (pk_mul 12 (lq8 - 1)) ?_
        refine lv_iload_n hx hb xd_Mo_binding_38 rfl (lv_at hl 0 rfl) ?_
        refine lv_iadd hx hb xd_Mo_binding_39 ?_
        refine xn_top (y := nI ((12 * (lq8 - 1)) + k7)) (nI_add (12 * (lq8 - 1)) k7) ?_
        refine xn_iald (i := (12 * (lq8 - 1)) + k7) hx hb hK.1 hP 22 0 rfl rfl (by omega) (by decide) xd_Mo_binding_40 ?_
        obtain ⟨k11, hk12, ek13⟩ := hent k7 (by omega)
        refine xn_top (x := (g7 21 ((12 * (lq8 - 1)) + k7))) ek13 ?_
        have hFc := va_free (wc := (moW h mm kA v g7)) hD hS hA [0, 1, 2, 3, 4, 5, 6, 7, 8, 9, 10, 11, 12, 13, 14, 15, 16, 17, 18, 19, 20, 21, 22, 23, 24, 25] rfl
        refine va_calli (va_runV (As := [.int (nI k11)]) (rest := []) ⟨hx, hb, hml, hown, hT⟩ (xc_Mo_bindsFor l D kA H.size h mm v g7 k11 nd nl md7 hM7 (by first | assumption | omega) (by first | assumption | omega) (by first | assumption | omega) (by first | assumption | omega) hpar7 hmk7 (by first | assumption | omega) hN7 (by first | assumption | omega)) (cwV 1 hT (wT_V xw_5 xw_6 xw_7 xw_8 xw_4) rfl rfl rfl (by decide +kernel) ⟨Nat.le_of_ble_eq_true rfl, Nat.le_of_ble_eq_true rfl⟩) (x_preV hK hP hD 0 rfl rfl) rfl rfl hl.1 rfl (lv_room (Nat.le_of_ble_eq_true rfl)) xd_Mo_binding_41 ⟨Nat.le_of_ble_eq_true rfl, Nat.le_of_ble_eq_true rfl⟩) hS (fun q _ h => hFc q h) hFc (fun r14 u15 t H1 locs ht hvm hp16 hB hz1 hk1 hS => ?_)
        obtain ⟨hP1, hD1⟩ := hB
        rw [ht] at hP1
        have hD1 := hD1.weaken (fun _ _ _ h => hFc _ h)
        obtain ⟨v17, g18⟩ := u15
        generalize H1 = H at hP1 hS ⊢
        have hP := hP1
        have hD := hD1
        have hP : va_P D xcl (moW h mm kA v17 g18) H := hP
        have hD : va_D A (moW h mm kA v17 g18) := hD
        obtain ⟨hu9, hM9, hfr9, mdx, hx1, hx2, hx3, hx4, hx5⟩ := hp16
        have hu9 : v = v17 := hu9.symm
        subst hu9
        have hM9 : MI v g18 := hM9
        have hfr9 : ∀ j, j ≠ 20 → j ≠ 21 → j ≠ 23 → g18 j = g7 j := hfr9
        have hx3 : g18 20 nl = nI mdx := hx3
        have hx4 : NDp g18 nl mdx := hx4
        have hP : va_P D xcl (moW h mm kA v g18) H := hP
        have hD : va_D A (moW h mm kA v g18) := hD
        rcases hx5 with rfl | ⟨rfl, hgr9⟩
        · refine lv_istore hx hb xd_Mo_binding_44 hl (Nat.le_of_ble_eq_true rfl) rfl (fun ls hl => ?_)
          have hl : lv_has ls 5 [(4, .int 0), (3, .int (nI k7)), (2, .int (nI (lq8 - 1))), (1, .int (nI mr7)), (0, .ref h)] := hl
          refine lv_iload_n hx hb xd_Mo_binding_46 rfl (lv_at hl 3 rfl) ?_
          refine xz_ne (a := mr7) (tgt := 55) hx hb xd_Mo_binding_47 (by decide) (by omega) (fun hc19 => ?_) (fun hc19 => ?_)
          · refine lv_iconst (v := 1) hx hb xd_Mo_binding_55 (by decide) ?_
            refine lv_goto (tgt := 60) hx hb xd_Mo_binding_56 (by decide) ?_
            refine lv_istore_n hx hb xd_Mo_binding_60 rfl hl (Nat.le_of_ble_eq_true rfl) rfl (fun ls hl => ?_)
            have hl : lv_has ls 5 [(1, .int 1), (4, .int 0), (3, .int (nI k7)), (2, .int (nI (lq8 - 1))), (0, .ref h)] := hl
            refine lv_iinc (k := 2) (x := (nI k7)) (v := (nI (k7 + 1))) hx hb xd_Mo_binding_61 hl rfl (xb_inc k7 1) (Nat.le_of_ble_eq_true rfl) rfl (fun ls hl => ?_)
            have hl : lv_has ls 5 [(3, .int (nI (k7 + 1))), (1, .int 1), (4, .int 0), (2, .int (nI (lq8 - 1))), (0, .ref h)] := hl
            refine lv_goto (tgt := 19) hx hb xd_Mo_binding_64 (by decide) ?_
            exact ih6 (k7 + 1, 1, mdx, g18) _ _ _ (show 12 - (k7 + 1) < 12 - k7 by omega) (lv_sub hl [0, 3, 1, 4] rfl) hP hD hS ⟨(show (k7 + 1) ≤ 12 from by first | assumption | omega), (show 1 ≤ 1 from by first | assumption | omega), (show 1 = 1 → md9 < mdx from fun _ => by first | omega | (have h9 := hmr7 (by omega); omega)), (show md9 ≤ mdx from by first | assumption | omega), (show md0 ≤ mdx from by first | assumption | omega), (show mdx ≤ 12 from by first | assumption | omega), (show g18 20 nl = nI mdx from hx3), (show MI v g18 from hM9), (show ∀ j, j ≠ 20 → j ≠ 21 → j ≠ 23 → g18 j = g j from fun j h1 h2 h3 => (hfr9 j h1 h2 h3).trans (hfr7 j h1 h2 h3)), (show NDp g18 nl mdx from hx4)⟩
          · refine lv_iload hx hb xd_Mo_binding_50 (lv_at hl 0 rfl) ?_
            refine xz_eq (a := 0) (tgt := 59) hx hb xd_Mo_binding_52 (by decide) (by omega) (fun _ => ?_) (fun hc20 => absurd hc20 (by omega))
            refine lv_iconst (v := 0) hx hb xd_Mo_binding_59 (by decide) ?_
            refine lv_istore_n hx hb xd_Mo_binding_60 rfl hl (Nat.le_of_ble_eq_true rfl) rfl (fun ls hl => ?_)
            have hl : lv_has ls 5 [(1, .int 0), (4, .int 0), (3, .int (nI k7)), (2, .int (nI (lq8 - 1))), (0, .ref h)] := hl
            refine lv_iinc (k := 2) (x := (nI k7)) (v := (nI (k7 + 1))) hx hb xd_Mo_binding_61 hl rfl (xb_inc k7 1) (Nat.le_of_ble_eq_true rfl) rfl (fun ls hl => ?_)
            have hl : lv_has ls 5 [(3, .int (nI (k7 + 1))), (1, .int 0), (4, .int 0), (2, .int (nI (lq8 - 1))), (0, .ref h)] := hl
            refine lv_goto (tgt := 19) hx hb xd_Mo_binding_64 (by decide) ?_
            exact ih6 (k7 + 1, 0, mdx, g18) _ _ _ (show 12 - (k7 + 1) < 12 - k7 by omega) (lv_sub hl [0, 3, 1, 4] rfl) hP hD hS ⟨(show (k7 + 1) ≤ 12 from by first | assumption | omega), (show 0 ≤ 1 from by first | assumption | omega), (show 0 = 1 → md9 < mdx from fun h => absurd h (by omega)), (show md9 ≤ mdx from by first | assumption | omega), (show md0 ≤ mdx from by first | assumption | omega), (show mdx ≤ 12 from by first | assumption | omega), (show g18 20 nl = nI mdx from hx3), (show MI v g18 from hM9), (show ∀ j, j ≠ 20 → j ≠ 21 → j ≠ 23 → g18 j = g j from fun j h1 h2 h3 => (hfr9 j h1 h2 h3).trans (hfr7 j h1 h2 h3)), (show NDp g18 nl mdx from hx4)⟩
        · refine lv_istore hx hb xd_Mo_binding_44 hl (Nat.le_of_ble_eq_true rfl) rfl (fun ls hl => ?_)
          have hl : lv_has ls 5 [(4, .int 1), (3, .int (nI k7)), (2, .int (nI (lq8 - 1))), (1, .int (nI mr7)), (0, .ref h)] := hl
          refine lv_iload_n hx hb xd_Mo_binding_46 rfl (lv_at hl 3 rfl) ?_
          refine xz_ne (a := mr7) (tgt := 55) hx hb xd_Mo_binding_47 (by decide) (by omega) (fun hc21 => ?_) (fun hc21 => ?_)
          · refine lv_iconst (v := 1) hx hb xd_Mo_binding_55 (by decide) ?_
            refine lv_goto (tgt := 60) hx hb xd_Mo_binding_56 (by decide) ?_
            refine lv_istore_n hx hb xd_Mo_binding_60 rfl hl (Nat.le_of_ble_eq_true rfl) rfl (fun ls hl => ?_)
            have hl : lv_has ls 5 [(1, .int 1), (4, .int 1), (3, .int (nI k7)), (2, .int (nI (lq8 - 1))), (0, .ref h)] := hl
            refine lv_iinc (k := 2) (x := (nI k7)) (v := (nI (k7 + 1))) hx hb xd_Mo_binding_61 hl rfl (xb_inc k7 1) (Nat.le_of_ble_eq_true rfl) rfl (fun ls hl => ?_)
            have hl : lv_has ls 5 [(3, .int (nI (k7 + 1))), (1, .int 1), (4, .int 1), (2, .int (nI (lq8 - 1))), (0, .ref h)] := hl
            refine lv_goto (tgt := 19) hx hb xd_Mo_binding_64 (by decide) ?_
            exact ih6 (k7 + 1, 1, mdx, g18) _ _ _ (show 12 - (k7 + 1) < 12 - k7 by omega) (lv_sub hl [0, 3, 1, 4] rfl) hP hD hS ⟨(show (k7 + 1) ≤ 12 from by first | assumption | omega), (show 1 ≤ 1 from by first | assumption | omega), (show 1 = 1 → md9 < mdx from fun _ => by first | omega | (have h9 := hmr7 (by omega); omega)), (show md9 ≤ mdx from by first | assumption | omega), (show md0 ≤ mdx from by first | assumption | omega), (show mdx ≤ 12 from by first | assumption | omega), (show g18 20 nl = nI mdx from hx3), (show MI v g18 from hM9), (show ∀ j, j ≠ 20 → j ≠ 21 → j ≠ 23 → g18 j = g j from fun j h1 h2 h3 => (hfr9 j h1 h2 h3).trans (hfr7 j h1 h2 h3)), (show NDp g18 nl mdx from hx4)⟩
          · refine lv_iload hx hb xd_Mo_binding_50 (lv_at hl 0 rfl) ?_
            refine xz_eq (a := 1) (tgt := 59) hx hb xd_Mo_binding_52 (by decide) (by omega) (fun hc22 => absurd hc22 (by omega)) (fun _ => ?_)
            refine lv_iconst (v := 1) hx hb xd_Mo_binding_55 (by decide) ?_
            refine lv_goto (tgt := 60) hx hb xd_Mo_binding_56 (by decide) ?_
            refine lv_istore_n hx hb xd_Mo_binding_60 rfl hl (Nat.le_of_ble_eq_true rfl) rfl (fun ls hl => ?_)
            have hl : lv_has ls 5 [(1, .int 1), (4, .int 1), (3, .int (nI k7)), (2, .int (nI (lq8 - 1))), (0, .ref h)] := hl
            refine lv_iinc (k := 2) (x := (nI k7)) (v := (nI (k7 + 1))) hx hb xd_Mo_binding_61 hl rfl (xb_inc k7 1) (Nat.le_of_ble_eq_true rfl) rfl (fun ls hl => ?_)
            have hl : lv_has ls 5 [(3, .int (nI (k7 + 1))), (1, .int 1), (4, .int 1), (2, .int (nI (lq8 - 1))), (0, .ref h)] := hl
            refine lv_goto (tgt := 19) hx hb xd_Mo_binding_64 (by decide) ?_
            exact ih6 (k7 + 1, 1, mdx, g18) _ _ _ (show 12 - (k7 + 1) < 12 - k7 by omega) (lv_sub hl [0, 3, 1, 4] rfl) hP hD hS ⟨(show (k7 + 1) ≤ 12 from by first | assumption | omega), (show 1 ≤ 1 from by first | assumption | omega), (show 1 = 1 → md9 < mdx from fun _ => by first | omega | (have h9 := hmr7 (by omega); omega)), (show md9 ≤ mdx from by first | assumption | omega), (show md0 ≤ mdx from by first | assumption | omega), (show mdx ≤ 12 from by first | assumption | omega), (show g18 20 nl = nI mdx from hx3), (show MI v g18 from hM9), (show ∀ j, j ≠ 20 → j ≠ 21 → j ≠ 23 → g18 j = g j from fun j h1 h2 h3 => (hfr9 j h1 h2 h3).trans (hfr7 j h1 h2 h3)), (show NDp g18 nl mdx from hx4)⟩
