abbrev xb_Mo_descriptorOf : ByteArray := prog_12_method_12_code
def xy_Mo_descriptorOf : MethodName := ⟨"LayerDeskModel", "descriptorOf", "(II)I"⟩
abbrev xb_Mo_isShut : ByteArray := prog_12_method_13_code
def xy_Mo_isShut : MethodName := ⟨"LayerDeskModel", "isShut", "()Z"⟩
abbrev xb_Mo_packageOf : ByteArray := prog_12_method_14_code
def xy_Mo_packageOf : MethodName := ⟨"LayerDeskModel", "packageOf", "(II)I"⟩
theorem xd_Mo_descriptorOf_0 : decode xb_Mo_descriptorOf 0 = .ok (.iconst 0, 1) := by decide +kernel
theorem xd_Mo_descriptorOf_1 : decode xb_Mo_descriptorOf 1 = .ok (.istore_n 3, 1) := by decide +kernel
theorem xd_Mo_descriptorOf_2 : decode xb_Mo_descriptorOf 2 = .ok (.iload_n 3, 1) := by decide +kernel
theorem xd_Mo_descriptorOf_3 : decode xb_Mo_descriptorOf 3 = .ok (.aload_n 0, 1) := by decide +kernel
theorem xd_Mo_descriptorOf_4 : decode xb_Mo_descriptorOf 4 = .ok (.getfield 140, 3) := by decide +kernel
theorem xd_Mo_descriptorOf_7 : decode xb_Mo_descriptorOf 7 = .ok (.if_icmp .ge 31, 3) := by decide +kernel
theorem xd_Mo_descriptorOf_10 : decode xb_Mo_descriptorOf 10 = .ok (.aload_n 0, 1) := by decide +kernel
theorem xd_Mo_descriptorOf_11 : decode xb_Mo_descriptorOf 11 = .ok (.getfield 20, 3) := by decide +kernel
theorem xd_Mo_descriptorOf_14 : decode xb_Mo_descriptorOf 14 = .ok (.iload_n 3, 1) := by decide +kernel
theorem xd_Mo_descriptorOf_15 : decode xb_Mo_descriptorOf 15 = .ok (.iaload, 1) := by decide +kernel
theorem xd_Mo_descriptorOf_16 : decode xb_Mo_descriptorOf 16 = .ok (.iload_n 1, 1) := by decide +kernel
theorem xd_Mo_descriptorOf_17 : decode xb_Mo_descriptorOf 17 = .ok (.if_icmp .ne 15, 3) := by decide +kernel
theorem xd_Mo_descriptorOf_20 : decode xb_Mo_descriptorOf 20 = .ok (.aload_n 0, 1) := by decide +kernel
theorem xd_Mo_descriptorOf_21 : decode xb_Mo_descriptorOf 21 = .ok (.getfield 23, 3) := by decide +kernel
theorem xd_Mo_descriptorOf_24 : decode xb_Mo_descriptorOf 24 = .ok (.iload_n 3, 1) := by decide +kernel
theorem xd_Mo_descriptorOf_25 : decode xb_Mo_descriptorOf 25 = .ok (.iaload, 1) := by decide +kernel
theorem xd_Mo_descriptorOf_26 : decode xb_Mo_descriptorOf 26 = .ok (.iload_n 2, 1) := by decide +kernel
theorem xd_Mo_descriptorOf_27 : decode xb_Mo_descriptorOf 27 = .ok (.if_icmp .ne 5, 3) := by decide +kernel
theorem xd_Mo_descriptorOf_30 : decode xb_Mo_descriptorOf 30 = .ok (.iload_n 3, 1) := by decide +kernel
theorem xd_Mo_descriptorOf_31 : decode xb_Mo_descriptorOf 31 = .ok (.ireturn, 1) := by decide +kernel
theorem xd_Mo_descriptorOf_32 : decode xb_Mo_descriptorOf 32 = .ok (.iinc 3 1, 3) := by decide +kernel
theorem xd_Mo_descriptorOf_35 : decode xb_Mo_descriptorOf 35 = .ok (.goto (-33), 3) := by decide +kernel
theorem xd_Mo_descriptorOf_38 : decode xb_Mo_descriptorOf 38 = .ok (.iconst (-1), 1) := by decide +kernel
theorem xd_Mo_descriptorOf_39 : decode xb_Mo_descriptorOf 39 = .ok (.ireturn, 1) := by decide +kernel
theorem xd_Mo_isShut_0 : decode xb_Mo_isShut 0 = .ok (.aload_n 0, 1) := by decide +kernel
theorem xd_Mo_isShut_1 : decode xb_Mo_isShut 1 = .ok (.getfield 140, 3) := by decide +kernel
theorem xd_Mo_isShut_4 : decode xb_Mo_isShut 4 = .ok (.ifCond .eq 17, 3) := by decide +kernel
theorem xd_Mo_isShut_7 : decode xb_Mo_isShut 7 = .ok (.aload_n 0, 1) := by decide +kernel
theorem xd_Mo_isShut_8 : decode xb_Mo_isShut 8 = .ok (.getfield 45, 3) := by decide +kernel
theorem xd_Mo_isShut_11 : decode xb_Mo_isShut 11 = .ok (.aload_n 0, 1) := by decide +kernel
theorem xd_Mo_isShut_12 : decode xb_Mo_isShut 12 = .ok (.getfield 140, 3) := by decide +kernel
theorem xd_Mo_isShut_15 : decode xb_Mo_isShut 15 = .ok (.iconst 1, 1) := by decide +kernel
theorem xd_Mo_isShut_16 : decode xb_Mo_isShut 16 = .ok (.isub, 1) := by decide +kernel
theorem xd_Mo_isShut_17 : decode xb_Mo_isShut 17 = .ok (.baload, 1) := by decide +kernel
theorem xd_Mo_isShut_18 : decode xb_Mo_isShut 18 = .ok (.ifCond .eq 7, 3) := by decide +kernel
theorem xd_Mo_isShut_21 : decode xb_Mo_isShut 21 = .ok (.iconst 1, 1) := by decide +kernel
theorem xd_Mo_isShut_22 : decode xb_Mo_isShut 22 = .ok (.goto 4, 3) := by decide +kernel
theorem xd_Mo_isShut_25 : decode xb_Mo_isShut 25 = .ok (.iconst 0, 1) := by decide +kernel
theorem xd_Mo_isShut_26 : decode xb_Mo_isShut 26 = .ok (.ireturn, 1) := by decide +kernel
theorem xd_Mo_packageOf_0 : decode xb_Mo_packageOf 0 = .ok (.bipush 6, 2) := by decide +kernel
theorem xd_Mo_packageOf_2 : decode xb_Mo_packageOf 2 = .ok (.iload_n 1, 1) := by decide +kernel
theorem xd_Mo_packageOf_3 : decode xb_Mo_packageOf 3 = .ok (.imul, 1) := by decide +kernel
theorem xd_Mo_packageOf_4 : decode xb_Mo_packageOf 4 = .ok (.istore_n 3, 1) := by decide +kernel
theorem xd_Mo_packageOf_5 : decode xb_Mo_packageOf 5 = .ok (.iload_n 3, 1) := by decide +kernel
theorem xd_Mo_packageOf_6 : decode xb_Mo_packageOf 6 = .ok (.bipush 6, 2) := by decide +kernel
theorem xd_Mo_packageOf_8 : decode xb_Mo_packageOf 8 = .ok (.iload_n 1, 1) := by decide +kernel
theorem xd_Mo_packageOf_9 : decode xb_Mo_packageOf 9 = .ok (.imul, 1) := by decide +kernel
theorem xd_Mo_packageOf_10 : decode xb_Mo_packageOf 10 = .ok (.aload_n 0, 1) := by decide +kernel
theorem xd_Mo_packageOf_11 : decode xb_Mo_packageOf 11 = .ok (.getfield 26, 3) := by decide +kernel
theorem xd_Mo_packageOf_14 : decode xb_Mo_packageOf 14 = .ok (.iload_n 1, 1) := by decide +kernel
theorem xd_Mo_packageOf_15 : decode xb_Mo_packageOf 15 = .ok (.iaload, 1) := by decide +kernel
theorem xd_Mo_packageOf_16 : decode xb_Mo_packageOf 16 = .ok (.iadd, 1) := by decide +kernel
theorem xd_Mo_packageOf_17 : decode xb_Mo_packageOf 17 = .ok (.if_icmp .ge 21, 3) := by decide +kernel
theorem xd_Mo_packageOf_20 : decode xb_Mo_packageOf 20 = .ok (.aload_n 0, 1) := by decide +kernel
theorem xd_Mo_packageOf_21 : decode xb_Mo_packageOf 21 = .ok (.getfield 29, 3) := by decide +kernel
theorem xd_Mo_packageOf_24 : decode xb_Mo_packageOf 24 = .ok (.iload_n 3, 1) := by decide +kernel
theorem xd_Mo_packageOf_25 : decode xb_Mo_packageOf 25 = .ok (.iaload, 1) := by decide +kernel
theorem xd_Mo_packageOf_26 : decode xb_Mo_packageOf 26 = .ok (.iload_n 2, 1) := by decide +kernel
theorem xd_Mo_packageOf_27 : decode xb_Mo_packageOf 27 = .ok (.if_icmp .ne 5, 3) := by decide +kernel
theorem xd_Mo_packageOf_30 : decode xb_Mo_packageOf 30 = .ok (.iload_n 3, 1) := by decide +kernel
theorem xd_Mo_packageOf_31 : decode xb_Mo_packageOf 31 = .ok (.ireturn, 1) := by decide +kernel
theorem xd_Mo_packageOf_32 : decode xb_Mo_packageOf 32 = .ok (.iinc 3 1, 3) := by decide +kernel
theorem xd_Mo_packageOf_35 : decode xb_Mo_packageOf 35 = .ok (.goto (-30), 3) := by decide +kernel
theorem xd_Mo_packageOf_38 : decode xb_Mo_packageOf 38 = .ok (.iconst (-1), 1) := by decide +kernel
theorem xd_Mo_packageOf_39 : decode xb_Mo_packageOf 39 = .ok (.ireturn, 1) := by decide +kernel
theorem xm_0 : (Cond.fieldLink "LayerDeskModel" 140 "LayerDeskModel" "descriptors" "I") ∈ wT := wT_t (List.mem_append_right _ (List.mem_append_right _ (List.mem_append_right _ (List.mem_append_left _ (List.mem_of_getElem? (i := 91) rfl))))) rfl
theorem xm_1 : (Cond.fieldLink "LayerDeskModel" 20 "LayerDeskModel" "finder" "[I") ∈ wT := wT_t (List.mem_append_right _ (List.mem_append_right _ (List.mem_append_right _ (List.mem_append_left _ (List.mem_of_getElem? (i := 92) rfl))))) rfl
theorem xm_2 : (Cond.fieldLink "LayerDeskModel" 23 "LayerDeskModel" "name" "[I") ∈ wT := wT_t (List.mem_append_right _ (List.mem_append_right _ (List.mem_append_right _ (List.mem_append_left _ (List.mem_of_getElem? (i := 93) rfl))))) rfl
theorem xm_3 : (Cond.fieldLink "LayerDeskModel" 45 "LayerDeskModel" "locked" "[Z") ∈ wT := wT_t (List.mem_append_right _ (List.mem_append_right _ (List.mem_append_right _ (List.mem_append_left _ (List.mem_of_getElem? (i := 100) rfl))))) rfl
theorem xm_4 : (Cond.fieldLink "LayerDeskModel" 26 "LayerDeskModel" "packages" "[I") ∈ wT := wT_t (List.mem_append_right _ (List.mem_append_right _ (List.mem_append_right _ (List.mem_append_left _ (List.mem_of_getElem? (i := 94) rfl))))) rfl
theorem xm_5 : (Cond.fieldLink "LayerDeskModel" 29 "LayerDeskModel" "pack" "[I") ∈ wT := wT_t (List.mem_append_right _ (List.mem_append_right _ (List.mem_append_right _ (List.mem_append_left _ (List.mem_of_getElem? (i := 95) rfl))))) rfl
set_option maxHeartbeats 4000000 in
set_option maxRecDepth 100000 in
theorem xc_Mo_descriptorOf (l : Launch) (D : va_G) (kA : Nat → ClassId) (sz h : Nat) (mm : Nat → Nat) (v : Nat → Int32) (g : Nat → Nat → Int32) (fd : Int32) (nm : Int32) (nd : Nat) (hnd : v 4 = nI nd) (hnd12 : nd ≤ 12) : Met l xy_Mo_descriptorOf (.code xy_Mo_descriptorOf xb_Mo_descriptorOf 4 (some .int) :: wT) { frames := 0, cells := 0, slots := 0, locals := 0 } (va_Pc [.ref h, .int fd, .int nm] (xPre D kA sz (moW h mm kA v g))) (va_Qi (fun (r : Int32) (u : Unit) => (∃ k, k < nd ∧ r = nI k ∧ g 3 k = fd ∧ g 4 k = nm ∧ ∀ j, j < k → ¬ (g 3 j = fd ∧ g 4 j = nm)) ∨ (r = -1 ∧ ∀ j, j < nd → ¬ (g 3 j = fd ∧ g 4 j = nm))) (fun (u : Unit) t => va_P D xcl (moW h mm kA v g) t.heap ∧ va_D (va_A (moW h mm kA v g) sz) (moW h mm kA v g)) (va_A (moW h mm kA v g) sz)) 0 0 (va_A (moW h mm kA v g) sz) := by
  refine Met.ofW (cc := xb_Mo_descriptorOf) (maxL := 4) (ret := (some .int)) (by decide) rfl ?_
  intro p e s m args below meth c s₁ B hml hv
  obtain ⟨rfl, hsz, hP, hK, hD0⟩ := hv
  have hx := B.exec
  have hb := B.bytes
  have hr := B.returns
  have hT := x_hT B.pre
  have hown : s.vm.findClass xR_Mo = some m.cls := findClass_of_methodNamed B.named
  have hlocks := B.notSynchronized
  subst hsz
  have hD := hD0.self (sz := s.heap.size)
  generalize hAe : va_A (moW h mm kA v g) s.heap.size = A at hD ⊢
  have hA : ∀ q : Nat, s.heap.size ≤ q → A q := fun q h => by rw [← hAe]; exact Or.inr h
  have hS : va_S A s.heap s.heap [] := va_S.rf
  have hl := lv_entry ([.ref h, .int fd, .int nm]) (n := 4) (Nat.le_of_ble_eq_true rfl)
  rw [lg_entry_eq]
  generalize (lg_sl ([.ref h, .int fd, .int nm]) ++ List.replicate (4 - (lg_sl ([.ref h, .int fd, .int nm])).length) Slot.unset).toArray = ls at hl ⊢
  have hl : lv_has ls 4 [(0, .ref h), (1, .int fd), (2, .int nm)] := hl
  have hP : va_P D xcl (moW h mm kA v g) s.heap := hP
  refine lv_iconst (v := 0) hx hb xd_Mo_descriptorOf_0 (by decide) ?_
  refine lv_istore_n hx hb xd_Mo_descriptorOf_1 rfl hl (Nat.le_of_ble_eq_true rfl) rfl (fun ls hl => ?_)
  have hl : lv_has ls 4 [(3, .int 0), (0, .ref h), (1, .int fd), (2, .int nm)] := hl
  refine xlab (σ := Nat) (ml := 4) 2 (fun (i : Nat) => [(3, .int (nI i)), (0, .ref h), (1, .int fd), (2, .int nm)]) (fun (i : Nat) => []) (fun (i : Nat) => moW h mm kA v g) (fun (i : Nat) => (i ≤ nd) ∧ (∀ j, j < i → ¬ (g 3 j = fd ∧ g 4 j = nm))) (fun (i : Nat) => nd - i) ?_ 0 _ _ _ (lv_sub hl [0, 1, 2, 3] rfl) hP hD hS ⟨(show 0 ≤ nd from by first | assumption | omega), (show ∀ j, j < 0 → ¬ (g 3 j = fd ∧ g 4 j = nm) from fun j hj => absurd hj (by omega))⟩
  intro n9 ih1 a9 ls H locs hμ hl hP hD hS hI
  subst hμ
  obtain ⟨i, rfl⟩ : ∃ z, z = a9 := ⟨_, rfl⟩
  obtain ⟨hi, hno⟩ := hI
  have hi : i ≤ nd := hi
  have hno : ∀ j, j < i → ¬ (g 3 j = fd ∧ g 4 j = nm) := hno
  have hl : lv_has ls 4 [(3, .int (nI i)), (0, .ref h), (1, .int fd), (2, .int nm)] := hl
  have hP : va_P D xcl (moW h mm kA v g) H := hP
  have hD : va_D A (moW h mm kA v g) := hD
  refine lv_iload_n hx hb xd_Mo_descriptorOf_2 rfl (lv_at hl 0 rfl) ?_
  refine lv_aload_n hx hb xd_Mo_descriptorOf_3 rfl (lv_at hl 1 rfl) ?_
  refine va_get (D := D) (ci := 4) (v := .int (v 4)) (C := xR_Mo) (T := xT_Mo) (N := 31) hx hb hT xi_Mo hown hK.1 hP 0 rfl rfl 7 (by decide) (hT _ xm_0) (fun _ h9 => h9) rfl xd_Mo_descriptorOf_4 ?_
  refine xn_top (x := (v 4)) (y := nI nd) hnd ?_
  refine xn_ge (a := i) (b := nd) (tgt := 38) hx hb xd_Mo_descriptorOf_7 (by decide) (by omega) (by omega) (fun hc2 => ?_) (fun hc2 => ?_)
  · refine lv_iconst (v := (-1)) hx hb xd_Mo_descriptorOf_38 (by decide) ?_
    exact W.iret (v := (-1)) hx hb hr (fun t ht hW => ⟨⟨(-1), (), rfl, Or.inr ⟨rfl, fun j hj => hno j (by omega)⟩, by rw [ht]; exact hP, hD⟩, hS.F ht⟩) hS.2.2 xd_Mo_descriptorOf_39
  · refine lv_aload_n hx hb xd_Mo_descriptorOf_10 rfl (lv_at hl 1 rfl) ?_
    refine va_get (D := D) (ci := 4) (v := .ref (mm 3)) (C := xR_Mo) (T := xT_Mo) (N := 31) hx hb hT xi_Mo hown hK.1 hP 0 rfl rfl 8 (by decide) (hT _ xm_1) (fun _ h9 => h9) rfl xd_Mo_descriptorOf_11 ?_
    refine lv_iload_n hx hb xd_Mo_descriptorOf_14 rfl (lv_at hl 0 rfl) ?_
    refine xn_iald (i := i) hx hb hK.1 hP 4 0 rfl rfl (by omega) (by decide) xd_Mo_descriptorOf_15 ?_
    refine lv_iload_n hx hb xd_Mo_descriptorOf_16 rfl (lv_at hl 2 rfl) ?_
    refine lv_icmp_ne (tgt := 32) hx hb xd_Mo_descriptorOf_17 (by decide) (fun hc3 => ?_) (fun hc3 => ?_)
    · refine lv_iinc (k := 0) (x := (nI i)) (v := (nI (i + 1))) hx hb xd_Mo_descriptorOf_32 hl rfl (xb_inc i 1) (Nat.le_of_ble_eq_true rfl) rfl (fun ls hl => ?_)
      have hl : lv_has ls 4 [(3, .int (nI (i + 1))), (0, .ref h), (1, .int fd), (2, .int nm)] := hl
      refine lv_goto (tgt := 2) hx hb xd_Mo_descriptorOf_35 (by decide) ?_
      exact ih1 (i + 1) _ _ _ (show nd - (i + 1) < nd - i by omega) (lv_sub hl [0, 1, 2, 3] rfl) hP hD hS ⟨(show (i + 1) ≤ nd from by first | assumption | omega), (show ∀ j, j < (i + 1) → ¬ (g 3 j = fd ∧ g 4 j = nm) from lt_s hno (fun q => hc3 q.1))⟩
    · refine lv_aload_n hx hb xd_Mo_descriptorOf_20 rfl (lv_at hl 1 rfl) ?_
      refine va_get (D := D) (ci := 4) (v := .ref (mm 4)) (C := xR_Mo) (T := xT_Mo) (N := 31) hx hb hT xi_Mo hown hK.1 hP 0 rfl rfl 9 (by decide) (hT _ xm_2) (fun _ h9 => h9) rfl xd_Mo_descriptorOf_21 ?_
      refine lv_iload_n hx hb xd_Mo_descriptorOf_24 rfl (lv_at hl 0 rfl) ?_
      refine xn_iald (i := i) hx hb hK.1 hP 5 0 rfl rfl (by omega) (by decide) xd_Mo_descriptorOf_25 ?_
      refine lv_iload_n hx hb xd_Mo_descriptorOf_26 rfl (lv_at hl 3 rfl) ?_
      refine lv_icmp_ne (tgt := 32) hx hb xd_Mo_descriptorOf_27 (by decide) (fun hc4 => ?_) (fun hc4 => ?_)
      · refine lv_iinc (k := 0) (x := (nI i)) (v := (nI (i + 1))) hx hb xd_Mo_descriptorOf_32 hl rfl (xb_inc i 1) (Nat.le_of_ble_eq_true rfl) rfl (fun ls hl => ?_)
        have hl : lv_has ls 4 [(3, .int (nI (i + 1))), (0, .ref h), (1, .int fd), (2, .int nm)] := hl
        refine lv_goto (tgt := 2) hx hb xd_Mo_descriptorOf_35 (by decide) ?_
        exact ih1 (i + 1) _ _ _ (show nd - (i + 1) < nd - i by omega) (lv_sub hl [0, 1, 2, 3] rfl) hP hD hS ⟨(show (i + 1) ≤ nd from by first | assumption | omega), (show ∀ j, j < (i + 1) → ¬ (g 3 j = fd ∧ g 4 j = nm) from lt_s hno (fun q => hc4 q.2))⟩
      · refine lv_iload_n hx hb xd_Mo_descriptorOf_30 rfl (lv_at hl 0 rfl) ?_
        exact W.iret (v := (nI i)) hx hb hr (fun t ht hW => ⟨⟨(nI i), (), rfl, Or.inl ⟨i, by omega, rfl, hc3, hc4, hno⟩, by rw [ht]; exact hP, hD⟩, hS.F ht⟩) hS.2.2 xd_Mo_descriptorOf_31
set_option maxHeartbeats 4000000 in
set_option maxRecDepth 100000 in
theorem xc_Mo_isShut (l : Launch) (D : va_G) (kA : Nat → ClassId) (sz h : Nat) (mm : Nat → Nat) (v : Nat → Int32) (g : Nat → Nat → Int32) (nd : Nat) (hnd : v 4 = nI nd) (hnd12 : nd ≤ 12) : Met l xy_Mo_isShut (.code xy_Mo_isShut xb_Mo_isShut 1 (some .boolean) :: wT) { frames := 0, cells := 0, slots := 0, locals := 0 } (va_Pc [.ref h] (xPre D kA sz (moW h mm kA v g))) (va_Qi (fun (r : Int32) (u : Unit) => (r = 1 ∧ (nd = 0 ∨ ¬ g 11 (nd - 1) = 0)) ∨ (r = 0 ∧ nd ≠ 0 ∧ g 11 (nd - 1) = 0)) (fun (u : Unit) t => va_P D xcl (moW h mm kA v g) t.heap ∧ va_D (va_A (moW h mm kA v g) sz) (moW h mm kA v g)) (va_A (moW h mm kA v g) sz)) 0 0 (va_A (moW h mm kA v g) sz) := by
  refine Met.ofW (cc := xb_Mo_isShut) (maxL := 1) (ret := (some .boolean)) (by decide) rfl ?_
  intro p e s m args below meth c s₁ B hml hv
  obtain ⟨rfl, hsz, hP, hK, hD0⟩ := hv
  have hx := B.exec
  have hb := B.bytes
  have hr := B.returns
  have hT := x_hT B.pre
  have hown : s.vm.findClass xR_Mo = some m.cls := findClass_of_methodNamed B.named
  have hlocks := B.notSynchronized
  subst hsz
  have hD := hD0.self (sz := s.heap.size)
  generalize hAe : va_A (moW h mm kA v g) s.heap.size = A at hD ⊢
  have hA : ∀ q : Nat, s.heap.size ≤ q → A q := fun q h => by rw [← hAe]; exact Or.inr h
  have hS : va_S A s.heap s.heap [] := va_S.rf
  have hl := lv_entry ([.ref h]) (n := 1) (Nat.le_of_ble_eq_true rfl)
  rw [lg_entry_eq]
  generalize (lg_sl ([.ref h]) ++ List.replicate (1 - (lg_sl ([.ref h])).length) Slot.unset).toArray = ls at hl ⊢
  have hl : lv_has ls 1 [(0, .ref h)] := hl
  have hP : va_P D xcl (moW h mm kA v g) s.heap := hP
  refine lv_aload_n hx hb xd_Mo_isShut_0 rfl (lv_at hl 0 rfl) ?_
  refine va_get (D := D) (ci := 4) (v := .int (v 4)) (C := xR_Mo) (T := xT_Mo) (N := 31) hx hb hT xi_Mo hown hK.1 hP 0 rfl rfl 7 (by decide) (hT _ xm_0) (fun _ h9 => h9) rfl xd_Mo_isShut_1 ?_
  refine xn_top (x := (v 4)) (y := nI nd) hnd ?_
  refine xz_eq (a := nd) (tgt := 21) hx hb xd_Mo_isShut_4 (by decide) (by omega) (fun hc1 => ?_) (fun hc1 => ?_)
  · refine lv_iconst (v := 1) hx hb xd_Mo_isShut_21 (by decide) ?_
    refine lv_goto (tgt := 26) hx hb xd_Mo_isShut_22 (by decide) ?_
    exact W.zret (v := 1) hx hb hr rfl (fun t ht hW => ⟨⟨1, (), rfl, Or.inl ⟨rfl, Or.inl hc1⟩, by rw [ht]; exact hP, hD⟩, hS.F ht⟩) hS.2.2 xd_Mo_isShut_26
  · refine lv_aload_n hx hb xd_Mo_isShut_7 rfl (lv_at hl 0 rfl) ?_
    refine va_get (D := D) (ci := 4) (v := .ref (mm 11)) (C := xR_Mo) (T := xT_Mo) (N := 31) hx hb hT xi_Mo hown hK.1 hP 0 rfl rfl 16 (by decide) (hT _ xm_3) (fun _ h9 => h9) rfl xd_Mo_isShut_8 ?_
    refine lv_aload_n hx hb xd_Mo_isShut_11 rfl (lv_at hl 0 rfl) ?_
    refine va_get (D := D) (ci := 4) (v := .int (v 4)) (C := xR_Mo) (T := xT_Mo) (N := 31) hx hb hT xi_Mo hown hK.1 hP 0 rfl rfl 7 (by decide) (hT _ xm_0) (fun _ h9 => h9) rfl xd_Mo_isShut_12 ?_
    refine xn_top (x := (v 4)) (y := nI nd) hnd ?_
    refine lv_iconst (v := 1) hx hb xd_Mo_isShut_15 (by decide) ?_
    refine lv_isub hx hb xd_Mo_isShut_16 ?_
    refine xn_top (y := nI (nd - 1)) (pk_sub (a := nd) (b := 1) (by omega)) ?_
    refine xn_zald (i := nd - 1) hx hb hK.1 hP 12 2 rfl rfl (by omega) (by decide) xd_Mo_isShut_17 ?_
    refine lv_if_eq (tgt := 25) hx hb xd_Mo_isShut_18 (by decide) (fun hc2 => ?_) (fun hc2 => ?_)
    · refine lv_iconst (v := 0) hx hb xd_Mo_isShut_25 (by decide) ?_
      exact W.zret (v := 0) hx hb hr rfl (fun t ht hW => ⟨⟨0, (), rfl, Or.inr ⟨rfl, hc1, hc2⟩, by rw [ht]; exact hP, hD⟩, hS.F ht⟩) hS.2.2 xd_Mo_isShut_26
    · refine lv_iconst (v := 1) hx hb xd_Mo_isShut_21 (by decide) ?_
      refine lv_goto (tgt := 26) hx hb xd_Mo_isShut_22 (by decide) ?_
      exact W.zret (v := 1) hx hb hr rfl (fun t ht hW => ⟨⟨1, (), rfl, Or.inl ⟨rfl, Or.inr hc2⟩, by rw [ht]; exact hP, hD⟩, hS.F ht⟩) hS.2.2 xd_Mo_isShut_26
set_option maxHeartbeats 4000000 in
set_option maxRecDepth 100000 in
theorem xc_Mo_packageOf (l : Launch) (D : va_G) (kA : Nat → ClassId) (sz h : Nat) (mm : Nat → Nat) (v : Nat → Int32) (g : Nat → Nat → Int32) (d : Nat) (nm : Int32) (pk : Nat) (hd : d < 12) (hpk : g 5 d = nI pk) (hpk6 : pk ≤ 6) : Met l xy_Mo_packageOf (.code xy_Mo_packageOf xb_Mo_packageOf 4 (some .int) :: wT) { frames := 0, cells := 0, slots := 0, locals := 0 } (va_Pc [.ref h, .int (nI d), .int nm] (xPre D kA sz (moW h mm kA v g))) (va_Qi (fun (r : Int32) (u : Unit) => (∃ k, 6 * d ≤ k ∧ k < 6 * d + pk ∧ r = nI k ∧ g 6 k = nm) ∨ (r = -1 ∧ ∀ j, 6 * d ≤ j → j < 6 * d + pk → ¬ g 6 j = nm)) (fun (u : Unit) t => va_P D xcl (moW h mm kA v g) t.heap ∧ va_D (va_A (moW h mm kA v g) sz) (moW h mm kA v g)) (va_A (moW h mm kA v g) sz)) 0 0 (va_A (moW h mm kA v g) sz) := by
  refine Met.ofW (cc := xb_Mo_packageOf) (maxL := 4) (ret := (some .int)) (by decide) rfl ?_
  intro p e s m args below meth c s₁ B hml hv
  obtain ⟨rfl, hsz, hP, hK, hD0⟩ := hv
  have hx := B.exec
  have hb := B.bytes
  have hr := B.returns
  have hT := x_hT B.pre
  have hown : s.vm.findClass xR_Mo = some m.cls := findClass_of_methodNamed B.named
  have hlocks := B.notSynchronized
  subst hsz
  have hD := hD0.self (sz := s.heap.size)
  generalize hAe : va_A (moW h mm kA v g) s.heap.size = A at hD ⊢
  have hA : ∀ q : Nat, s.heap.size ≤ q → A q := fun q h => by rw [← hAe]; exact Or.inr h
  have hS : va_S A s.heap s.heap [] := va_S.rf
  have hl := lv_entry ([.ref h, .int (nI d), .int nm]) (n := 4) (Nat.le_of_ble_eq_true rfl)
  rw [lg_entry_eq]
  generalize (lg_sl ([.ref h, .int (nI d), .int nm]) ++ List.replicate (4 - (lg_sl ([.ref h, .int (nI d), .int nm])).length) Slot.unset).toArray = ls at hl ⊢
  have hl : lv_has ls 4 [(0, .ref h), (1, .int (nI d)), (2, .int nm)] := hl
  have hP : va_P D xcl (moW h mm kA v g) s.heap := hP
  refine lv_bipush (v := 6) hx hb xd_Mo_packageOf_0 (by decide) ?_
  refine lv_iload_n hx hb xd_Mo_packageOf_2 rfl (lv_at hl 1 rfl) ?_
  refine lv_imul hx hb xd_Mo_packageOf_3 ?_
  refine xn_top (y := nI (6 * d)) (pk_mul 6 d) ?_
  refine lv_istore_n hx hb xd_Mo_packageOf_4 rfl hl (Nat.le_of_ble_eq_true rfl) rfl (fun ls hl => ?_)
  have hl : lv_has ls 4 [(3, .int (nI (6 * d))), (0, .ref h), (1, .int (nI d)), (2, .int nm)] := hl
  refine xlab (σ := Nat) (ml := 4) 5 (fun (i : Nat) => [(3, .int (nI i)), (0, .ref h), (1, .int (nI d)), (2, .int nm)]) (fun (i : Nat) => []) (fun (i : Nat) => moW h mm kA v g) (fun (i : Nat) => (6 * d ≤ i) ∧ (i ≤ 6 * d + pk) ∧ (∀ j, 6 * d ≤ j → j < i → ¬ g 6 j = nm)) (fun (i : Nat) => 6 * d + pk - i) ?_ (6 * d) _ _ _ (lv_sub hl [0, 1, 2, 3] rfl) hP hD hS ⟨(show 6 * d ≤ (6 * d) from by first | assumption | omega), (show (6 * d) ≤ 6 * d + pk from by first | assumption | omega), (show ∀ j, 6 * d ≤ j → j < (6 * d) → ¬ g 6 j = nm from fun j h1 h2 => absurd h2 (by omega))⟩
  intro n9 ih1 a9 ls H locs hμ hl hP hD hS hI
  subst hμ
  obtain ⟨i, rfl⟩ : ∃ z, z = a9 := ⟨_, rfl⟩
  obtain ⟨hi1, hi2, hno⟩ := hI
  have hi1 : 6 * d ≤ i := hi1
  have hi2 : i ≤ 6 * d + pk := hi2
  have hno : ∀ j, 6 * d ≤ j → j < i → ¬ g 6 j = nm := hno
  have hl : lv_has ls 4 [(3, .int (nI i)), (0, .ref h), (1, .int (nI d)), (2, .int nm)] := hl
  have hP : va_P D xcl (moW h mm kA v g) H := hP
  have hD : va_D A (moW h mm kA v g) := hD
  refine lv_iload_n hx hb xd_Mo_packageOf_5 rfl (lv_at hl 0 rfl) ?_
  refine lv_bipush (v := 6) hx hb xd_Mo_packageOf_6 (by decide) ?_
  refine lv_iload_n hx hb xd_Mo_packageOf_8 rfl (lv_at hl 2 rfl) ?_
  refine lv_imul hx hb xd_Mo_packageOf_9 ?_
  refine xn_top (y := nI (6 * d)) (pk_mul 6 d) ?_
  refine lv_aload_n hx hb xd_Mo_packageOf_10 rfl (lv_at hl 1 rfl) ?_
  refine va_get (D := D) (ci := 4) (v := .ref (mm 5)) (C := xR_Mo) (T := xT_Mo) (N := 31) hx hb hT xi_Mo hown hK.1 hP 0 rfl rfl 10 (by decide) (hT _ xm_4) (fun _ h9 => h9) rfl xd_Mo_packageOf_11 ?_
  refine lv_iload_n hx hb xd_Mo_packageOf_14 rfl (lv_at hl 2 rfl) ?_
  refine xn_iald (i := d) hx hb hK.1 hP 6 0 rfl rfl (by omega) (by decide) xd_Mo_packageOf_15 ?_
  refine xn_top (x := (g 5 d)) (y := nI pk) hpk ?_
  refine lv_iadd hx hb xd_Mo_packageOf_16 ?_
  refine xn_top (y := nI ((6 * d) + pk)) (nI_add (6 * d) pk) ?_
  refine xn_ge (a := i) (b := (6 * d) + pk) (tgt := 38) hx hb xd_Mo_packageOf_17 (by decide) (by omega) (by omega) (fun hc2 => ?_) (fun hc2 => ?_)
  · refine lv_iconst (v := (-1)) hx hb xd_Mo_packageOf_38 (by decide) ?_
    exact W.iret (v := (-1)) hx hb hr (fun t ht hW => ⟨⟨(-1), (), rfl, Or.inr ⟨rfl, fun j h1 h2 => hno j h1 (by omega)⟩, by rw [ht]; exact hP, hD⟩, hS.F ht⟩) hS.2.2 xd_Mo_packageOf_39
  · refine lv_aload_n hx hb xd_Mo_packageOf_20 rfl (lv_at hl 1 rfl) ?_
    refine va_get (D := D) (ci := 4) (v := .ref (mm 6)) (C := xR_Mo) (T := xT_Mo) (N := 31) hx hb hT xi_Mo hown hK.1 hP 0 rfl rfl 11 (by decide) (hT _ xm_5) (fun _ h9 => h9) rfl xd_Mo_packageOf_21 ?_
    refine lv_iload_n hx hb xd_Mo_packageOf_24 rfl (lv_at hl 0 rfl) ?_
    refine xn_iald (i := i) hx hb hK.1 hP 7 0 rfl rfl (by omega) (by decide) xd_Mo_packageOf_25 ?_
    refine lv_iload_n hx hb xd_Mo_packageOf_26 rfl (lv_at hl 3 rfl) ?_
    refine lv_icmp_ne (tgt := 32) hx hb xd_Mo_packageOf_27 (by decide) (fun hc3 => ?_) (fun hc3 => ?_)
    · refine lv_iinc (k := 0) (x := (nI i)) (v := (nI (i + 1))) hx hb xd_Mo_packageOf_32 hl rfl (xb_inc i 1) (Nat.le_of_ble_eq_true rfl) rfl (fun ls hl => ?_)
      have hl : lv_has ls 4 [(3, .int (nI (i + 1))), (0, .ref h), (1, .int (nI d)), (2, .int nm)] := hl
      refine lv_goto (tgt := 5) hx hb xd_Mo_packageOf_35 (by decide) ?_
      exact ih1 (i + 1) _ _ _ (show 6 * d + pk - (i + 1) < 6 * d + pk - i by omega) (lv_sub hl [0, 1, 2, 3] rfl) hP hD hS ⟨(show 6 * d ≤ (i + 1) from by first | assumption | omega), (show (i + 1) ≤ 6 * d + pk from by first | assumption | omega), (show ∀ j, 6 * d ≤ j → j < (i + 1) → ¬ g 6 j = nm from fun j h1 h2 => by
      rcases Nat.lt_or_ge j i with h3 | h3
      · exact hno j h1 h3
      · have h4 : j = i := by omega
        rw [h4]; exact hc3)⟩
    · refine lv_iload_n hx hb xd_Mo_packageOf_30 rfl (lv_at hl 0 rfl) ?_
      exact W.iret (v := (nI i)) hx hb hr (fun t ht hW => ⟨⟨(nI i), (), rfl, Or.inl ⟨i, by omega, by omega, rfl, hc3⟩, by rw [ht]; exact hP, hD⟩, hS.F ht⟩) hS.2.2 xd_Mo_packageOf_31
