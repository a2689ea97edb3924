theorem k4b_0 : (Cond.fieldLink "LayerDeskModel" 94 "LayerDeskModel" "words" "I") ∈ wT := wT_t (List.mem_append_right _ (List.mem_append_right _ (List.mem_append_right _ (List.mem_append_left _ (List.mem_of_getElem? (i := 88) rfl))))) rfl
theorem k4b_1 : (Cond.fieldLink "LayerDeskModel" 17 "LayerDeskModel" "end" "[I") ∈ wT := wT_t (List.mem_append_right _ (List.mem_append_right _ (List.mem_append_right _ (List.mem_append_left _ (List.mem_of_getElem? (i := 90) rfl))))) rfl
theorem k4b_2 : (Cond.fieldLink "LayerDeskModel" 13 "LayerDeskModel" "begin" "[I") ∈ wT := wT_t (List.mem_append_right _ (List.mem_append_right _ (List.mem_append_right _ (List.mem_append_left _ (List.mem_of_getElem? (i := 89) rfl))))) rfl
theorem k4b_3 : (Cond.code xy_Mo_letter xb_Mo_letter 3 (some .char)) ∈ wT := wT_t (List.mem_append_right _ (List.mem_append_right _ (List.mem_append_right _ (List.mem_append_left _ (List.mem_of_getElem? (i := 204) rfl))))) rfl
theorem k4b_4 : (Cond.methodLink "LayerDeskModel" 97 xy_Mo_letter) ∈ wT := wT_t (List.mem_append_right _ (List.mem_append_right _ (List.mem_append_right _ (List.mem_append_left _ (List.mem_of_getElem? (i := 201) rfl))))) rfl
theorem k4b_5 : (Cond.instanceMethod xy_Mo_letter) ∈ wT := wT_t (List.mem_append_right _ (List.mem_append_right _ (List.mem_append_right _ (List.mem_append_left _ (List.mem_of_getElem? (i := 203) rfl))))) rfl
theorem k4b_6 : (Cond.selects "LayerDeskModel" xy_Mo_letter xy_Mo_letter) ∈ wT := wT_s (q := (xy_Mo_letter, 31)) (by decide +kernel) rfl
theorem k4b_7 : (Cond.initialized "LayerDeskModel") ∈ wT := wT_t (List.mem_append_left _ (List.mem_of_getElem? (i := 5) rfl)) rfl
theorem k4b_8 : (Cond.code xy_Mo_nameOf xb_Mo_nameOf 4 (some .int)) ∈ wT := wT_t (List.mem_append_right _ (List.mem_append_right _ (List.mem_append_right _ (List.mem_append_left _ (List.mem_of_getElem? (i := 212) rfl))))) rfl
theorem k4b_9 : (Cond.methodLink "LayerDeskModel" 133 xy_Mo_nameOf) ∈ wT := wT_t (List.mem_append_right _ (List.mem_append_right _ (List.mem_append_right _ (List.mem_append_left _ (List.mem_of_getElem? (i := 209) rfl))))) rfl
theorem k4b_10 : (Cond.instanceMethod xy_Mo_nameOf) ∈ wT := wT_t (List.mem_append_right _ (List.mem_append_right _ (List.mem_append_right _ (List.mem_append_left _ (List.mem_of_getElem? (i := 211) rfl))))) rfl
theorem k4b_11 : (Cond.selects "LayerDeskModel" xy_Mo_nameOf xy_Mo_nameOf) ∈ wT := wT_s (q := (xy_Mo_nameOf, 31)) (by decide +kernel) rfl
theorem k4b_12 : (Cond.code xy_Mo_descriptorOf xb_Mo_descriptorOf 4 (some .int)) ∈ wT := wT_t (List.mem_append_right _ (List.mem_append_right _ (List.mem_append_right _ (List.mem_append_left _ (List.mem_of_getElem? (i := 216) rfl))))) rfl
theorem k4b_13 : (Cond.methodLink "LayerDeskModel" 136 xy_Mo_descriptorOf) ∈ wT := wT_t (List.mem_append_right _ (List.mem_append_right _ (List.mem_append_right _ (List.mem_append_left _ (List.mem_of_getElem? (i := 213) rfl))))) rfl
theorem k4b_14 : (Cond.instanceMethod xy_Mo_descriptorOf) ∈ wT := wT_t (List.mem_append_right _ (List.mem_append_right _ (List.mem_append_right _ (List.mem_append_left _ (List.mem_of_getElem? (i := 215) rfl))))) rfl
theorem k4b_15 : (Cond.selects "LayerDeskModel" xy_Mo_descriptorOf xy_Mo_descriptorOf) ∈ wT := wT_s (q := (xy_Mo_descriptorOf, 31)) (by decide +kernel) rfl
theorem k4b_16 : (Cond.fieldLink "LayerDeskModel" 140 "LayerDeskModel" "descriptors" "I") ∈ wT := wT_t (List.mem_append_right _ (List.mem_append_right _ (List.mem_append_right _ (List.mem_append_left _ (List.mem_of_getElem? (i := 91) rfl))))) rfl
theorem k4b_17 : (Cond.fieldLink "LayerDeskModel" 20 "LayerDeskModel" "finder" "[I") ∈ wT := wT_t (List.mem_append_right _ (List.mem_append_right _ (List.mem_append_right _ (List.mem_append_left _ (List.mem_of_getElem? (i := 92) rfl))))) rfl
theorem k4b_18 : (Cond.fieldLink "LayerDeskModel" 23 "LayerDeskModel" "name" "[I") ∈ wT := wT_t (List.mem_append_right _ (List.mem_append_right _ (List.mem_append_right _ (List.mem_append_left _ (List.mem_of_getElem? (i := 93) rfl))))) rfl
set_option maxHeartbeats 4000000 in
set_option maxRecDepth 100000 in
theorem xc_Mo_newDescriptorX (l : Launch) (D : va_G) (kA : Nat → ClassId) (sz h : Nat) (mm : Nat → Nat) (v : Nat → Int32) (g : Nat → Nat → Int32) (wl : List (Nat × Nat)) (nd : Nat) (hMI : MI v g) (hWX : WX v g wl) (hnd : v 4 = nI nd) (hnd12 : nd ≤ 12) : Met l xy_Mo_newDescriptor (.code xy_Mo_newDescriptor xb_Mo_newDescriptor 3 (some .int) :: wT) { frames := 1, cells := 0, slots := 0, locals := 23 } (va_Pc [.ref h] (xPre D kA sz (moW h mm kA v g))) (va_Qi (fun (r : Int32) (u : (Nat → Int32) × (Nat → Nat → Int32)) => MI u.1 u.2 ∧ u.1 2 = v 2 ∧ (r = -1 ∨ r = -2 ∨ r = 1 ∨ r = 2) ∧ u = (va_up v 4 (nI (lD (g 0) wl nd g).1), (lD (g 0) wl nd g).2)) (fun (u : (Nat → Int32) × (Nat → Nat → Int32)) t => va_P D xcl (moW h mm kA u.1 u.2) t.heap ∧ va_D (va_A (moW h mm kA v g) sz) (moW h mm kA u.1 u.2)) (va_A (moW h mm kA v g) sz)) 0 0 (va_A (moW h mm kA v g) sz) := by
  refine Met.ofW (cc := xb_Mo_newDescriptor) (maxL := 3) (ret := (some .int)) (by decide) rfl ?_
  intro p e s m args below meth c s₁ B hml hv
  obtain ⟨rfl, hsz, hP, hK, hD0⟩ := hv
  have hx := B.exec
  have hb := B.bytes
  have hr := B.returns
  have hT := x_hT B.pre
  have hown : s.vm.findClass xR_Mo = some m.cls := findClass_of_methodNamed B.named
  have hlocks := B.notSynchronized
  subst hsz
  have hD := hD0.self (sz := s.heap.size)
  generalize hAe : va_A (moW h mm kA v g) s.heap.size = A at hD ⊢
  have hA : ∀ q : Nat, s.heap.size ≤ q → A q := fun q h => by rw [← hAe]; exact Or.inr h
  have hS : va_S A s.heap s.heap [] := va_S.rf
  have hl := lv_entry ([.ref h]) (n := 3) (Nat.le_of_ble_eq_true rfl)
  rw [lg_entry_eq]
  generalize (lg_sl ([.ref h]) ++ List.replicate (3 - (lg_sl ([.ref h])).length) Slot.unset).toArray = ls at hl ⊢
  have hl : lv_has ls 3 [(0, .ref h)] := hl
  have hP : va_P D xcl (moW h mm kA v g) s.heap := hP
  obtain ⟨-, ⟨nl, hnl5, hnl, hpar⟩, hch, hpk, hrq, hmd, huq⟩ := id hMI
  obtain ⟨hwn, ⟨hwn20, hwlr⟩, hws⟩ := id hWX
  refine lv_aload_n hx hb xd_Mo_newDescriptor_0 rfl (lv_at hl 0 rfl) ?_
  refine va_get (D := D) (ci := 4) (v := .int (v 3)) (C := xR_Mo) (T := xT_Mo) (N := 31) hx hb hT xi_Mo hown hK.1 hP 0 rfl rfl 4 (by decide) (hT _ k4b_0) (fun _ h9 => h9) rfl xd_Mo_newDescriptor_1 ?_
  refine xn_top (x := (v 3)) (y := nI wl.length) hwn ?_
  refine lv_iconst (v := 3) hx hb xd_Mo_newDescriptor_4 (by decide) ?_
  refine xn_ne (a := wl.length) (b := 3) (tgt := 55) hx hb xd_Mo_newDescriptor_5 (by decide) (by omega) (by omega) (fun hc1 => ?_) (fun hc1 => ?_)
  · refine lv_iconst (v := (-1)) hx hb xd_Mo_newDescriptor_55 (by decide) ?_
    exact W.iret (v := (-1)) hx hb hr (fun t ht hW => ⟨⟨(-1), (v, g), rfl, ⟨hMI, rfl, Or.inl rfl, lD_no hnd (fun q => absurd q.1 (by omega))⟩, by rw [ht]; exact hP, hD⟩, hS.F ht⟩) hS.2.2 xd_Mo_newDescriptor_56
  · have hbe1 := (hwlr 1 (by omega)).1
    have he1 := (hwlr 1 (by omega)).2
    have eb1 := (hws 1 (by omega)).1
    have ee1 := (hws 1 (by omega)).2
    have hbe2 := (hwlr 2 (by omega)).1
    have he2 := (hwlr 2 (by omega)).2
    have eb2 := (hws 2 (by omega)).1
    have ee2 := (hws 2 (by omega)).2
    refine lv_aload_n hx hb xd_Mo_newDescriptor_8 rfl (lv_at hl 0 rfl) ?_
    refine va_get (D := D) (ci := 4) (v := .ref (mm 2)) (C := xR_Mo) (T := xT_Mo) (N := 31) hx hb hT xi_Mo hown hK.1 hP 0 rfl rfl 6 (by decide) (hT _ k4b_1) (fun _ h9 => h9) rfl xd_Mo_newDescriptor_9 ?_
    refine lv_iconst (v := 1) hx hb xd_Mo_newDescriptor_12 (by decide) ?_
    refine xn_iald (i := 1) hx hb hK.1 hP 3 0 rfl rfl (by omega) (by decide) xd_Mo_newDescriptor_13 ?_
    refine xn_top (x := (g 2 1)) (y := nI (we wl 1)) ee1 ?_
    refine lv_aload_n hx hb xd_Mo_newDescriptor_14 rfl (lv_at hl 0 rfl) ?_
    refine va_get (D := D) (ci := 4) (v := .ref (mm 1)) (C := xR_Mo) (T := xT_Mo) (N := 31) hx hb hT xi_Mo hown hK.1 hP 0 rfl rfl 5 (by decide) (hT _ k4b_2) (fun _ h9 => h9) rfl xd_Mo_newDescriptor_15 ?_
    refine lv_iconst (v := 1) hx hb xd_Mo_newDescriptor_18 (by decide) ?_
    refine xn_iald (i := 1) hx hb hK.1 hP 2 0 rfl rfl (by omega) (by decide) xd_Mo_newDescriptor_19 ?_
    refine xn_top (x := (g 1 1)) (y := nI (wb wl 1)) eb1 ?_
    refine lv_iconst (v := 1) hx hb xd_Mo_newDescriptor_20 (by decide) ?_
    refine lv_iadd hx hb xd_Mo_newDescriptor_21 ?_
    refine xn_top (y := nI ((wb wl 1) + 1)) (nI_add (wb wl 1) 1) ?_
    refine xn_ne (a := (we wl 1)) (b := (wb wl 1) + 1) (tgt := 55) hx hb xd_Mo_newDescriptor_22 (by decide) (by omega) (by omega) (fun hc2 => ?_) (fun hc2 => ?_)
    · refine lv_iconst (v := (-1)) hx hb xd_Mo_newDescriptor_55 (by decide) ?_
      exact W.iret (v := (-1)) hx hb hr (fun t ht hW => ⟨⟨(-1), (v, g), rfl, ⟨hMI, rfl, Or.inl rfl, lD_no hnd (fun q => absurd ((wd_iff (by omega) hbe1).mp q.2.1).1 (by omega))⟩, by rw [ht]; exact hP, hD⟩, hS.F ht⟩) hS.2.2 xd_Mo_newDescriptor_56
    · refine lv_aload_n hx hb xd_Mo_newDescriptor_25 rfl (lv_at hl 0 rfl) ?_
      refine lv_iconst (v := 1) hx hb xd_Mo_newDescriptor_26 (by decide) ?_
      refine lv_iconst (v := 0) hx hb xd_Mo_newDescriptor_27 (by decide) ?_
      have hFc := va_free (wc := (moW h mm kA v g)) hD hS hA [0, 1, 2, 3, 4, 5, 6, 7, 8, 9, 10, 11, 12, 13, 14, 15, 16, 17, 18, 19, 20, 21, 22, 23, 24, 25] rfl
      refine va_calli (va_runV (As := [.int 1, .int 0]) (rest := []) ⟨hx, hb, hml, hown, hT⟩ (xc_Mo_letterX l D kA s.heap.size h mm v g 1 (wb wl 1) (we wl 1) 0 (by first | assumption | omega) (by first | assumption | omega) (by first | assumption | omega) (by first | assumption | omega) (by first | assumption | omega) (by first | assumption | omega) (by first | assumption | omega)) (cwV 2 hT (wT_V k4b_4 k4b_5 k4b_6 k4b_7 k4b_3) rfl rfl rfl (by decide +kernel) ⟨Nat.le_of_ble_eq_true rfl, Nat.le_of_ble_eq_true rfl⟩) (x_preV hK hP hD 0 rfl rfl) rfl rfl hl.1 rfl (lv_room (Nat.le_of_ble_eq_true rfl)) xd_Mo_newDescriptor_28 ⟨Nat.le_of_ble_eq_true rfl, Nat.le_of_ble_eq_true rfl⟩) hS (fun q _ h => hFc q h) hFc (fun r3 u4 t H1 locs ht hvm hp5 hB hz1 hk1 hS => ?_)
      obtain ⟨hP1, hD1⟩ := hB
      rw [ht] at hP1
      have hD1 := hD1.weaken (fun _ _ _ h => hFc _ h)
      generalize H1 = H at hP1 hS ⊢
      have hP := hP1
      have hD := hD1
      have hP : va_P D xcl (moW h mm kA v g) H := hP
      have hD : va_D A (moW h mm kA v g) := hD
      have hp5 : r3 = sL (g 0) (wb wl 1) (we wl 1) 0 := hp5
      subst hp5
      have hP : va_P D xcl (moW h mm kA v g) H := hP
      have hD : va_D A (moW h mm kA v g) := hD
      refine lv_bipush (v := 48) hx hb xd_Mo_newDescriptor_31 (by decide) ?_
      refine lv_icmp_lt (tgt := 55) hx hb xd_Mo_newDescriptor_33 (by decide) (fun hc6 => ?_) (fun hc6 => ?_)
      · refine lv_iconst (v := (-1)) hx hb xd_Mo_newDescriptor_55 (by decide) ?_
        exact W.iret (v := (-1)) hx hb hr (fun t ht hW => ⟨⟨(-1), (v, g), rfl, ⟨hMI, rfl, Or.inl rfl, lD_no hnd (fun q => ((wd_iff (by omega) hbe1).mp q.2.1).2.1 hc6)⟩, by rw [ht]; exact hP, hD⟩, hS.F ht⟩) hS.2.2 xd_Mo_newDescriptor_56
      · refine lv_aload_n hx hb xd_Mo_newDescriptor_36 rfl (lv_at hl 0 rfl) ?_
        refine lv_iconst (v := 1) hx hb xd_Mo_newDescriptor_37 (by decide) ?_
        refine lv_iconst (v := 0) hx hb xd_Mo_newDescriptor_38 (by decide) ?_
        have hFc := va_free (wc := (moW h mm kA v g)) hD hS hA [0, 1, 2, 3, 4, 5, 6, 7, 8, 9, 10, 11, 12, 13, 14, 15, 16, 17, 18, 19, 20, 21, 22, 23, 24, 25] rfl
        refine va_calli (va_runV (As := [.int 1, .int 0]) (rest := []) ⟨hx, hb, hml, hown, hT⟩ (xc_Mo_letterX l D kA H.size h mm v g 1 (wb wl 1) (we wl 1) 0 (by first | assumption | omega) (by first | assumption | omega) (by first | assumption | omega) (by first | assumption | omega) (by first | assumption | omega) (by first | assumption | omega) (by first | assumption | omega)) (cwV 2 hT (wT_V k4b_4 k4b_5 k4b_6 k4b_7 k4b_3) rfl rfl rfl (by decide +kernel) ⟨Nat.le_of_ble_eq_true rfl, Nat.le_of_ble_eq_true rfl⟩) (x_preV hK hP hD 0 rfl rfl) rfl rfl hl.1 rfl (lv_room (Nat.le_of_ble_eq_true rfl)) xd_Mo_newDescriptor_39 ⟨Nat.le_of_ble_eq_true rfl, Nat.le_of_ble_eq_true rfl⟩) hS (fun q _ h => hFc q h) hFc (fun r7 u8 t H1 locs ht hvm hp9 hB hz1 hk1 hS => ?_)
        obtain ⟨hP1, hD1⟩ := hB
        rw [ht] at hP1
        have hD1 := hD1.weaken (fun _ _ _ h => hFc _ h)
        generalize H1 = H at hP1 hS ⊢
        have hP := hP1
        have hD := hD1
        have hP : va_P D xcl (moW h mm kA v g) H := hP
        have hD : va_D A (moW h mm kA v g) := hD
        have hp9 : r7 = sL (g 0) (wb wl 1) (we wl 1) 0 := hp9
        subst hp9
        have hP : va_P D xcl (moW h mm kA v g) H := hP
        have hD : va_D A (moW h mm kA v g) := hD
        refine lv_bipush (v := 49) hx hb xd_Mo_newDescriptor_42 (by decide) ?_
        refine lv_icmp_gt (tgt := 55) hx hb xd_Mo_newDescriptor_44 (by decide) (fun hc10 => ?_) (fun hc10 => ?_)
        · refine lv_iconst (v := (-1)) hx hb xd_Mo_newDescriptor_55 (by decide) ?_
          exact W.iret (v := (-1)) hx hb hr (fun t ht hW => ⟨⟨(-1), (v, g), rfl, ⟨hMI, rfl, Or.inl rfl, lD_no hnd (fun q => ((wd_iff (by omega) hbe1).mp q.2.1).2.2 hc10)⟩, by rw [ht]; exact hP, hD⟩, hS.F ht⟩) hS.2.2 xd_Mo_newDescriptor_56
        · refine lv_aload_n hx hb xd_Mo_newDescriptor_47 rfl (lv_at hl 0 rfl) ?_
          refine lv_iconst (v := 2) hx hb xd_Mo_newDescriptor_48 (by decide) ?_
          have hFc := va_free (wc := (moW h mm kA v g)) hD hS hA [0, 1, 2, 3, 4, 5, 6, 7, 8, 9, 10, 11, 12, 13, 14, 15, 16, 17, 18, 19, 20, 21, 22, 23, 24, 25] rfl
          refine va_calli (va_runV (As := [.int 2]) (rest := []) ⟨hx, hb, hml, hown, hT⟩ (xc_Mo_nameOfX l D kA H.size h mm v g 2 (wb wl 2) (we wl 2) (by first | assumption | omega) (by first | assumption | omega) (by first | assumption | omega) (by first | assumption | omega) (by first | assumption | omega)) (cwV 1 hT (wT_V k4b_9 k4b_10 k4b_11 k4b_7 k4b_8) rfl rfl rfl (by decide +kernel) ⟨Nat.le_of_ble_eq_true rfl, Nat.le_of_ble_eq_true rfl⟩) (x_preV hK hP hD 0 rfl rfl) rfl rfl hl.1 rfl (lv_room (Nat.le_of_ble_eq_true rfl)) xd_Mo_newDescriptor_49 ⟨Nat.le_of_ble_eq_true rfl, Nat.le_of_ble_eq_true rfl⟩) hS (fun q _ h => hFc q h) hFc (fun r11 u12 t H1 locs ht hvm hp13 hB hz1 hk1 hS => ?_)
          obtain ⟨hP1, hD1⟩ := hB
          rw [ht] at hP1
          have hD1 := hD1.weaken (fun _ _ _ h => hFc _ h)
          generalize H1 = H at hP1 hS ⊢
          have hP := hP1
          have hD := hD1
          have hP : va_P D xcl (moW h mm kA v g) H := hP
          have hD : va_D A (moW h mm kA v g) := hD
          have hp13 : r11 = nV (g 0) (wb wl 2) (we wl 2) := hp13
          subst hp13
          have hP : va_P D xcl (moW h mm kA v g) H := hP
          have hD : va_D A (moW h mm kA v g) := hD
          refine lv_if_ne (tgt := 57) hx hb xd_Mo_newDescriptor_52 (by decide) (fun hc14 => ?_) (fun hc14 => ?_)
          · have hwd : wS (g 0) wl 1 [48] ∨ wS (g 0) wl 1 [49] := (wd_iff (by omega) hbe1).mpr ⟨by omega, hc6, hc10⟩
            have hfF : fF (g 0) wl = sL (g 0) (wb wl 1) (we wl 1) 0 - 48 := wd_f hbe1 hwd
            have hn2 : wN (g 0) wl 2 = nV (g 0) (wb wl 2) (we wl 2) := wN_in (by omega)
            refine lv_aload_n hx hb xd_Mo_newDescriptor_57 rfl (lv_at hl 0 rfl) ?_
            refine lv_iconst (v := 1) hx hb xd_Mo_newDescriptor_58 (by decide) ?_
            refine lv_iconst (v := 0) hx hb xd_Mo_newDescriptor_59 (by decide) ?_
            have hFc := va_free (wc := (moW h mm kA v g)) hD hS hA [0, 1, 2, 3, 4, 5, 6, 7, 8, 9, 10, 11, 12, 13, 14, 15, 16, 17, 18, 19, 20, 21, 22, 23, 24, 25] rfl
            refine va_calli (va_runV (As := [.int 1, .int 0]) (rest := []) ⟨hx, hb, hml, hown, hT⟩ (xc_Mo_letterX l D kA H.size h mm v g 1 (wb wl 1) (we wl 1) 0 (by first | assumption | omega) (by first | assumption | omega) (by first | assumption | omega) (by first | assumption | omega) (by first | assumption | omega) (by first | assumption | omega) (by first | assumption | omega)) (cwV 2 hT (wT_V k4b_4 k4b_5 k4b_6 k4b_7 k4b_3) rfl rfl rfl (by decide +kernel) ⟨Nat.le_of_ble_eq_true rfl, Nat.le_of_ble_eq_true rfl⟩) (x_preV hK hP hD 0 rfl rfl) rfl rfl hl.1 rfl (lv_room (Nat.le_of_ble_eq_true rfl)) xd_Mo_newDescriptor_60 ⟨Nat.le_of_ble_eq_true rfl, Nat.le_of_ble_eq_true rfl⟩) hS (fun q _ h => hFc q h) hFc (fun r15 u16 t H1 locs ht hvm hp17 hB hz1 hk1 hS => ?_)
            obtain ⟨hP1, hD1⟩ := hB
            rw [ht] at hP1
            have hD1 := hD1.weaken (fun _ _ _ h => hFc _ h)
            generalize H1 = H at hP1 hS ⊢
            have hP := hP1
            have hD := hD1
            have hP : va_P D xcl (moW h mm kA v g) H := hP
            have hD : va_D A (moW h mm kA v g) := hD
            have hp17 : r15 = sL (g 0) (wb wl 1) (we wl 1) 0 := hp17
            subst hp17
            have hP : va_P D xcl (moW h mm kA v g) H := hP
            have hD : va_D A (moW h mm kA v g) := hD
            refine lv_bipush (v := 48) hx hb xd_Mo_newDescriptor_63 (by decide) ?_
            refine lv_isub hx hb xd_Mo_newDescriptor_65 ?_
            refine lv_istore_n hx hb xd_Mo_newDescriptor_66 rfl hl (Nat.le_of_ble_eq_true rfl) rfl (fun ls hl => ?_)
            have hl : lv_has ls 3 [(1, .int ((sL (g 0) (wb wl 1) (we wl 1) 0) - 48)), (0, .ref h)] := hl
            refine lv_aload_n hx hb xd_Mo_newDescriptor_67 rfl (lv_at hl 1 rfl) ?_
            refine lv_iconst (v := 2) hx hb xd_Mo_newDescriptor_68 (by decide) ?_
            have hFc := va_free (wc := (moW h mm kA v g)) hD hS hA [0, 1, 2, 3, 4, 5, 6, 7, 8, 9, 10, 11, 12, 13, 14, 15, 16, 17, 18, 19, 20, 21, 22, 23, 24, 25] rfl
            refine va_calli (va_runV (As := [.int 2]) (rest := []) ⟨hx, hb, hml, hown, hT⟩ (xc_Mo_nameOfX l D kA H.size h mm v g 2 (wb wl 2) (we wl 2) (by first | assumption | omega) (by first | assumption | omega) (by first | assumption | omega) (by first | assumption | omega) (by first | assumption | omega)) (cwV 1 hT (wT_V k4b_9 k4b_10 k4b_11 k4b_7 k4b_8) rfl rfl rfl (by decide +kernel) ⟨Nat.le_of_ble_eq_true rfl, Nat.le_of_ble_eq_true rfl⟩) (x_preV hK hP hD 0 rfl rfl) rfl rfl hl.1 rfl (lv_room (Nat.le_of_ble_eq_true rfl)) xd_Mo_newDescriptor_69 ⟨Nat.le_of_ble_eq_true rfl, Nat.le_of_ble_eq_true rfl⟩) hS (fun q _ h => hFc q h) hFc (fun r18 u19 t H1 locs ht hvm hp20 hB hz1 hk1 hS => ?_)
            obtain ⟨hP1, hD1⟩ := hB
            rw [ht] at hP1
            have hD1 := hD1.weaken (fun _ _ _ h => hFc _ h)
            generalize H1 = H at hP1 hS ⊢
            have hP := hP1
            have hD := hD1
            have hP : va_P D xcl (moW h mm kA v g) H := hP
            have hD : va_D A (moW h mm kA v g) := hD
            have hp20 : r18 = nV (g 0) (wb wl 2) (we wl 2) := hp20
            subst hp20
            have hP : va_P D xcl (moW h mm kA v g) H := hP
            have hD : va_D A (moW h mm kA v g) := hD
            refine lv_istore_n hx hb xd_Mo_newDescriptor_72 rfl hl (Nat.le_of_ble_eq_true rfl) rfl (fun ls hl => ?_)
            have hl : lv_has ls 3 [(2, .int (nV (g 0) (wb wl 2) (we wl 2))), (1, .int ((sL (g 0) (wb wl 1) (we wl 1) 0) - 48)), (0, .ref h)] := hl
            refine lv_aload_n hx hb xd_Mo_newDescriptor_73 rfl (lv_at hl 2 rfl) ?_
            refine lv_iload_n hx hb xd_Mo_newDescriptor_74 rfl (lv_at hl 1 rfl) ?_
            refine lv_iload_n hx hb xd_Mo_newDescriptor_75 rfl (lv_at hl 0 rfl) ?_
            have hFc := va_free (wc := (moW h mm kA v g)) hD hS hA [0, 1, 2, 3, 4, 5, 6, 7, 8, 9, 10, 11, 12, 13, 14, 15, 16, 17, 18, 19, 20, 21, 22, 23, 24, 25] rfl
            refine va_calli (va_runV (As := [.int ((sL (g 0) (wb wl 1) (we wl 1) 0) - 48), .int (nV (g 0) (wb wl 2) (we wl 2))]) (rest := []) ⟨hx, hb, hml, hown, hT⟩ (xc_Mo_descriptorOf l D kA H.size h mm v g ((sL (g 0) (wb wl 1) (we wl 1) 0) - 48) (nV (g 0) (wb wl 2) (we wl 2)) nd (by first | assumption | omega) (by first | assumption | omega)) (cwV 2 hT (wT_V k4b_13 k4b_14 k4b_15 k4b_7 k4b_12) rfl rfl rfl (by decide +kernel) ⟨Nat.le_of_ble_eq_true rfl, Nat.le_of_ble_eq_true rfl⟩) (x_preV hK hP hD 0 rfl rfl) rfl rfl hl.1 rfl (lv_room (Nat.le_of_ble_eq_true rfl)) xd_Mo_newDescriptor_76 ⟨Nat.le_of_ble_eq_true rfl, Nat.le_of_ble_eq_true rfl⟩) hS (fun q _ h => hFc q h) hFc (fun r21 u22 t H1 locs ht hvm hp23 hB hz1 hk1 hS => ?_)
            obtain ⟨hP1, hD1⟩ := hB
            rw [ht] at hP1
            have hD1 := hD1.weaken (fun _ _ _ h => hFc _ h)
            generalize H1 = H at hP1 hS ⊢
            have hP := hP1
            have hD := hD1
            have hP : va_P D xcl (moW h mm kA v g) H := hP
            have hD : va_D A (moW h mm kA v g) := hD
            rcases hp23 with ⟨z24, z25, rfl, z26, z27, z28⟩ | ⟨rfl, z29⟩
            · refine xz_lt (a := z24) (tgt := 84) hx hb xd_Mo_newDescriptor_79 (by decide) (by omega) ?_
              refine lv_iconst (v := (-1)) hx hb xd_Mo_newDescriptor_82 (by decide) ?_
              exact W.iret (v := (-1)) hx hb hr (fun t ht hW => ⟨⟨(-1), (v, g), rfl, ⟨hMI, rfl, Or.inl rfl, lD_no hnd (fun q => q.2.2.2.1 z24 z25 ⟨z26.trans hfF.symm, z27.trans hn2.symm⟩)⟩, by rw [ht]; exact hP, hD⟩, hS.F ht⟩) hS.2.2 xd_Mo_newDescriptor_83
            · refine lv_if_lt (tgt := 84) hx hb xd_Mo_newDescriptor_79 (by decide) (fun _ => ?_) (fun hc31 => absurd hc31 (by decide))
              refine lv_aload_n hx hb xd_Mo_newDescriptor_84 rfl (lv_at hl 2 rfl) ?_
              refine va_get (D := D) (ci := 4) (v := .int (v 4)) (C := xR_Mo) (T := xT_Mo) (N := 31) hx hb hT xi_Mo hown hK.1 hP 0 rfl rfl 7 (by decide) (hT _ k4b_16) (fun _ h9 => h9) rfl xd_Mo_newDescriptor_85 ?_
              refine xn_top (x := (v 4)) (y := nI nd) hnd ?_
              refine lv_bipush (v := 12) hx hb xd_Mo_newDescriptor_88 (by decide) ?_
              refine xn_ne (a := nd) (b := 12) (tgt := 96) hx hb xd_Mo_newDescriptor_90 (by decide) (by omega) (by omega) (fun hc32 => ?_) (fun hc32 => ?_)
              · refine lv_aload_n hx hb xd_Mo_newDescriptor_96 rfl (lv_at hl 2 rfl) ?_
                refine va_get (D := D) (ci := 4) (v := .ref (mm 3)) (C := xR_Mo) (T := xT_Mo) (N := 31) hx hb hT xi_Mo hown hK.1 hP 0 rfl rfl 8 (by decide) (hT _ k4b_17) (fun _ h9 => h9) rfl xd_Mo_newDescriptor_97 ?_
                refine lv_aload_n hx hb xd_Mo_newDescriptor_100 rfl (lv_at hl 2 rfl) ?_
                refine va_get (D := D) (ci := 4) (v := .int (v 4)) (C := xR_Mo) (T := xT_Mo) (N := 31) hx hb hT xi_Mo hown hK.1 hP 0 rfl rfl 7 (by decide) (hT _ k4b_16) (fun _ h9 => h9) rfl xd_Mo_newDescriptor_101 ?_
                refine xn_top (x := (v 4)) (y := nI nd) hnd ?_
                refine lv_iload_n hx hb xd_Mo_newDescriptor_104 rfl (lv_at hl 1 rfl) ?_
                refine xn_iast (i := nd) hx hb hK.1 hP hD hS 4 0 rfl rfl (by omega) (by decide) xd_Mo_newDescriptor_105 (fun H locs hP hD hS => ?_)
                have hP : va_P D xcl (moW h mm kA v (va_up g 3 (upd (g 3) nd ((sL (g 0) (wb wl 1) (we wl 1) 0) - 48)))) H := hP
                have hD : va_D A (moW h mm kA v (va_up g 3 (upd (g 3) nd ((sL (g 0) (wb wl 1) (we wl 1) 0) - 48)))) := hD
                refine lv_aload_n hx hb xd_Mo_newDescriptor_106 rfl (lv_at hl 2 rfl) ?_
                refine va_get (D := D) (ci := 4) (v := .ref (mm 4)) (C := xR_Mo) (T := xT_Mo) (N := 31) hx hb hT xi_Mo hown hK.1 hP 0 rfl rfl 9 (by decide) (hT _ k4b_18) (fun _ h9 => h9) rfl xd_Mo_newDescriptor_107 ?_
                refine lv_aload_n hx hb xd_Mo_newDescriptor_110 rfl (lv_at hl 2 rfl) ?_
                refine va_get (D := D) (ci := 4) (v := .int (v 4)) (C := xR_Mo) (T := xT_Mo) (N := 31) hx hb hT xi_Mo hown hK.1 hP 0 rfl rfl 7 (by decide) (hT _ k4b_16) (fun _ h9 => h9) rfl xd_Mo_newDescriptor_111 ?_
                refine xn_top (x := (v 4)) (y := nI nd) hnd ?_
                refine lv_iload_n hx hb xd_Mo_newDescriptor_114 rfl (lv_at hl 0 rfl) ?_
                refine xn_iast (i := nd) hx hb hK.1 hP hD hS 5 0 rfl rfl (by omega) (by decide) xd_Mo_newDescriptor_115 (fun H locs hP hD hS => ?_)
                have hP : va_P D xcl (moW h mm kA v (va_up (va_up g 3 (upd (g 3) nd ((sL (g 0) (wb wl 1) (we wl 1) 0) - 48))) 4 (upd (g 4) nd (nV (g 0) (wb wl 2) (we wl 2))))) H := hP
                have hD : va_D A (moW h mm kA v (va_up (va_up g 3 (upd (g 3) nd ((sL (g 0) (wb wl 1) (we wl 1) 0) - 48))) 4 (upd (g 4) nd (nV (g 0) (wb wl 2) (we wl 2))))) := hD
                refine lv_aload_n hx hb xd_Mo_newDescriptor_116 rfl (lv_at hl 2 rfl) ?_
                refine lv_dup hx hb xd_Mo_newDescriptor_117 rfl ?_
                refine va_get (D := D) (ci := 4) (v := .int (v 4)) (C := xR_Mo) (T := xT_Mo) (N := 31) hx hb hT xi_Mo hown hK.1 hP 0 rfl rfl 7 (by decide) (hT _ k4b_16) (fun _ h9 => h9) rfl xd_Mo_newDescriptor_118 ?_
                refine xn_top (x := (v 4)) (y := nI nd) hnd ?_
                refine lv_iconst (v := 1) hx hb xd_Mo_newDescriptor_121 (by decide) ?_
                refine lv_iadd hx hb xd_Mo_newDescriptor_122 ?_
                refine xn_top (y := nI (nd + 1)) (nI_add nd 1) ?_
                refine va_put (D := D) (ci := 4) (v := .int (nI (nd + 1))) (ty := .int) (C := xR_Mo) (T := xT_Mo) (N := 31) hx hb hT xi_Mo xt_Mo xt_Mo_ok xn_Mo hown hK.1 hP hD hS 0 rfl rfl 7 (by decide) (hT _ k4b_16) (fun _ h9 => h9) rfl (by decide +kernel) rfl rfl (Nat.le_of_ble_eq_true rfl) xd_Mo_newDescriptor_123 (fun H locs hP hD hS => ?_)
                have hP : va_P D xcl (moW h mm kA (va_up v 4 (nI (nd + 1))) (va_up (va_up g 3 (upd (g 3) nd ((sL (g 0) (wb wl 1) (we wl 1) 0) - 48))) 4 (upd (g 4) nd (nV (g 0) (wb wl 2) (we wl 2))))) H := hP
                have hD : va_D A (moW h mm kA (va_up v 4 (nI (nd + 1))) (va_up (va_up g 3 (upd (g 3) nd ((sL (g 0) (wb wl 1) (we wl 1) 0) - 48))) 4 (upd (g 4) nd (nV (g 0) (wb wl 2) (we wl 2))))) := hD
                refine lv_iconst (v := 1) hx hb xd_Mo_newDescriptor_126 (by decide) ?_
                exact W.iret (v := 1) hx hb hr (fun t ht hW => ⟨⟨1, ((va_up v 4 (nI (nd + 1))), (va_up (va_up g 3 (upd (g 3) nd ((sL (g 0) (wb wl 1) (we wl 1) 0) - 48))) 4 (upd (g 4) nd (nV (g 0) (wb wl 2) (we wl 2))))), rfl, ⟨MI_new hnd (by omega) z29 hMI, rfl, Or.inr (Or.inr (Or.inl rfl)), lD_ok ⟨by omega, hwd, fun q => hc14 (hn2.symm.trans q), fun j hj q => z29 j hj ⟨q.1.trans hfF, q.2.trans hn2⟩, by omega⟩ hfF.symm hn2.symm⟩, by rw [ht]; exact hP, hD⟩, hS.F ht⟩) hS.2.2 xd_Mo_newDescriptor_127
              · refine lv_bipush (v := (-2)) hx hb xd_Mo_newDescriptor_93 (by decide) ?_
                exact W.iret (v := (-2)) hx hb hr (fun t ht hW => ⟨⟨(-2), (v, g), rfl, ⟨hMI, rfl, Or.inr (Or.inl rfl), lD_no hnd (fun q => absurd q.2.2.2.2 (by omega))⟩, by rw [ht]; exact hP, hD⟩, hS.F ht⟩) hS.2.2 xd_Mo_newDescriptor_95
          · refine lv_iconst (v := (-1)) hx hb xd_Mo_newDescriptor_55 (by decide) ?_
            exact W.iret (v := (-1)) hx hb hr (fun t ht hW => ⟨⟨(-1), (v, g), rfl, ⟨hMI, rfl, Or.inl rfl, lD_no hnd (fun q => q.2.2.1 ((wN_in (by omega)).trans hc14))⟩, by rw [ht]; exact hP, hD⟩, hS.F ht⟩) hS.2.2 xd_Mo_newDescriptor_56
